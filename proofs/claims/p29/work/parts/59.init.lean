/-! ===== a new ledger ===== -/
set_option maxRecDepth 100000 in
set_option maxHeartbeats 4000000 in
theorem c_ledInit (g : Gx) (l : Launch) (hl : l.stackTraces = false) (ad : Nat → Nat) (F : Pic) (h100 : F 100 = some (.inr (7, [.null, .null, .null, .null, .null, .int (zI 0)]))) (h99 : F 99 = some (cO g 0 (fun _ => none))) (a99 : ad 99 = gn g 99) (hn : ∀ r, 100 < r → r < 40000 → F r = none) : Ct g l yX5_init cX5_init 1 none 4 26 400 [.ref (ad 100)] ad F (fun v ad' F' => v = none ∧ AdX ad ad' ∧ FrX F F' ∧ ∀ A P kf ser, RX g ad' F' 0 0 0 0 A P kf ser 0) := by
  refine Ct_of hl rfl [some (.ref (ad 100))] (Nat.le_of_ble_eq_true rfl) (fun _ h => h) ?_
  intro M hL hN X
  subst hL
  refine r_aload_n X dX5_init_0 (by rfl) ?_
  refine r_objInit X dX5_init_1 w27 w28 w29 (by decide) (Nat.le_of_ble_eq_true rfl) ?_
  have z0 : ∀ x, (x < 100 ∨ 40000 ≤ x) → F x = F x := fun _ _ => rfl
  have a0 : ∀ x, (x ≤ 100 ∨ 40000 ≤ x) → ad x = ad x := fun _ _ => rfl
  refine r_aload_n X dX5_init_4 (by rfl) ?_
  refine r_new X (101) dX5_init_5 (ci := 2) (fs := [.int (zI 0), .null, .int (zI 0)]) rfl in_Jx4a65c tyJx4a65c_ok w30 w31 w4 (by decide +kernel) (by omega) (hn 101 (by omega) (by omega)) (by omega) (by omega) (fun ad1 hA1 => ?_)
  rw [← hA1 100 (by omega)]
  refine r_dup X dX5_init_8 (by rfl) ?_
  refine r_callI X dX5_init_9 kX5_11 (c_alInit g _ hl ad1 _ 101 _ _ 0 pu_s (by omega) ((hA1 99 (by omega)).trans a99)) (by rfl) (by rfl) (by exact Nat.le_of_ble_eq_true rfl) (by decide) (by decide) (by omega) (by omega) (fun v ad' F1 hK => ?_)
  obtain ⟨rfl, rfl, k1, s1⟩ := hK
  have o1 : F1 100 = some (.inr (7, [.null, .null, .null, .null, .null, .int (zI 0)])) := by rw [s1 100 (by omega), pu_n (by omega), h100]
  refine r_putF X dX5_init_12 ffX5_12_7 rfl (o1) (by omega) (by exact Nat.le_of_ble_eq_true rfl) (by rfl) (by rfl) ?_
  dsimp only [List.set]
  refine (fun (k : ∀ G1 : Pic, (G1 100 = some (.inr (7, [.ref (ad1 101), .null, .null, .null, .null, .int (zI 0)]))) → (∀ x, x ≠ 100 → G1 x = F1 x) → V M g ad1 G1 _ _ _ _ _) => k _ (pu_s) (fun x hx => pu_n hx)) ?_
  intro G1 p1 t1
  have e1 : ∀ x, x ≠ 100 → x ≠ 101 → G1 x = F x := fun x z1 z2 => (t1 x z1).trans ((s1 x z2).trans (pu_n z2))
  have l101_1 : G1 101 = some (.inr (2, [.int (zI 0), .ref (ad1 99), .int (zI 0)])) := (t1 _ (by omega)).trans k1
  have n1 : ∀ r, 101 < r → r < 40000 → G1 r = none := fun r y1 y2 => (e1 r (by omega) (by omega)).trans (hn r (by omega) y2)
  have h99_1 := (e1 99 (by omega) (by omega)).trans h99
  have a99_1 := (hA1 99 (by omega)).trans a99
  have zf1 : ∀ x, (x < 100 ∨ 40000 ≤ x) → G1 x = F x := fun x hx => (e1 x (by omega) (by omega)).trans (z0 x hx)
  have af1 : ∀ x, (x ≤ 100 ∨ 40000 ≤ x) → ad1 x = ad x := fun x hx => (hA1 x (by omega)).trans (a0 x hx)
  refine r_aload_n X dX5_init_15 (by rfl) ?_
  refine r_new X (102) dX5_init_16 (ci := 2) (fs := [.int (zI 0), .null, .int (zI 0)]) rfl in_Jx4a65c tyJx4a65c_ok w30 w31 w4 (by decide +kernel) (by omega) (n1 102 (by omega) (by omega)) (by omega) (by omega) (fun ad2 hA2 => ?_)
  rw [← hA2 100 (by omega)]
  refine r_dup X dX5_init_19 (by rfl) ?_
  refine r_callI X dX5_init_20 kX5_11 (c_alInit g _ hl ad2 _ 102 _ _ 0 pu_s (by omega) ((hA2 99 (by omega)).trans a99_1)) (by rfl) (by rfl) (by exact Nat.le_of_ble_eq_true rfl) (by decide) (by decide) (by omega) (by omega) (fun v ad' F2 hK => ?_)
  obtain ⟨rfl, rfl, k2, s2⟩ := hK
  have o2 : F2 100 = some (.inr (7, [.ref (ad2 101), .null, .null, .null, .null, .int (zI 0)])) := by rw [s2 100 (by omega), pu_n (by omega), p1, hA2 101 (by omega)]
  refine r_putF X dX5_init_23 ffX5_16_7 rfl (o2) (by omega) (by exact Nat.le_of_ble_eq_true rfl) (by rfl) (by rfl) ?_
  dsimp only [List.set]
  refine (fun (k : ∀ G2 : Pic, (G2 100 = some (.inr (7, [.ref (ad2 101), .ref (ad2 102), .null, .null, .null, .int (zI 0)]))) → (∀ x, x ≠ 100 → G2 x = F2 x) → V M g ad2 G2 _ _ _ _ _) => k _ (pu_s) (fun x hx => pu_n hx)) ?_
  intro G2 p2 t2
  have e2 : ∀ x, x ≠ 100 → x ≠ 102 → G2 x = G1 x := fun x z1 z2 => (t2 x z1).trans ((s2 x z2).trans (pu_n z2))
  have l102_2 : G2 102 = some (.inr (2, [.int (zI 0), .ref (ad2 99), .int (zI 0)])) := (t2 _ (by omega)).trans k2
  have l101_2 : G2 101 = some (.inr (2, [.int (zI 0), .ref (ad2 99), .int (zI 0)])) := by rw [e2 101 (by omega) (by omega), hA2 99 (by omega)]; exact l101_1
  have n2 : ∀ r, 102 < r → r < 40000 → G2 r = none := fun r y1 y2 => (e2 r (by omega) (by omega)).trans (n1 r (by omega) y2)
  have h99_2 := (e2 99 (by omega) (by omega)).trans h99_1
  have a99_2 := (hA2 99 (by omega)).trans a99_1
  have zf2 : ∀ x, (x < 100 ∨ 40000 ≤ x) → G2 x = F x := fun x hx => (e2 x (by omega) (by omega)).trans (zf1 x hx)
  have af2 : ∀ x, (x ≤ 100 ∨ 40000 ≤ x) → ad2 x = ad x := fun x hx => (hA2 x (by omega)).trans (af1 x hx)
  refine r_aload_n X dX5_init_26 (by rfl) ?_
  refine r_new X (103) dX5_init_27 (ci := 2) (fs := [.int (zI 0), .null, .int (zI 0)]) rfl in_Jx4a65c tyJx4a65c_ok w30 w31 w4 (by decide +kernel) (by omega) (n2 103 (by omega) (by omega)) (by omega) (by omega) (fun ad3 hA3 => ?_)
  rw [← hA3 100 (by omega)]
  refine r_dup X dX5_init_30 (by rfl) ?_
  refine r_callI X dX5_init_31 kX5_11 (c_alInit g _ hl ad3 _ 103 _ _ 0 pu_s (by omega) ((hA3 99 (by omega)).trans a99_2)) (by rfl) (by rfl) (by exact Nat.le_of_ble_eq_true rfl) (by decide) (by decide) (by omega) (by omega) (fun v ad' F3 hK => ?_)
  obtain ⟨rfl, rfl, k3, s3⟩ := hK
  have o3 : F3 100 = some (.inr (7, [.ref (ad3 101), .ref (ad3 102), .null, .null, .null, .int (zI 0)])) := by rw [s3 100 (by omega), pu_n (by omega), p2, hA3 101 (by omega), hA3 102 (by omega)]
  refine r_putF X dX5_init_34 ffX5_19_7 rfl (o3) (by omega) (by exact Nat.le_of_ble_eq_true rfl) (by rfl) (by rfl) ?_
  dsimp only [List.set]
  refine (fun (k : ∀ G3 : Pic, (G3 100 = some (.inr (7, [.ref (ad3 101), .ref (ad3 102), .ref (ad3 103), .null, .null, .int (zI 0)]))) → (∀ x, x ≠ 100 → G3 x = F3 x) → V M g ad3 G3 _ _ _ _ _) => k _ (pu_s) (fun x hx => pu_n hx)) ?_
  intro G3 p3 t3
  have e3 : ∀ x, x ≠ 100 → x ≠ 103 → G3 x = G2 x := fun x z1 z2 => (t3 x z1).trans ((s3 x z2).trans (pu_n z2))
  have l103_3 : G3 103 = some (.inr (2, [.int (zI 0), .ref (ad3 99), .int (zI 0)])) := (t3 _ (by omega)).trans k3
  have l101_3 : G3 101 = some (.inr (2, [.int (zI 0), .ref (ad3 99), .int (zI 0)])) := by rw [e3 101 (by omega) (by omega), hA3 99 (by omega)]; exact l101_2
  have l102_3 : G3 102 = some (.inr (2, [.int (zI 0), .ref (ad3 99), .int (zI 0)])) := by rw [e3 102 (by omega) (by omega), hA3 99 (by omega)]; exact l102_2
  have n3 : ∀ r, 103 < r → r < 40000 → G3 r = none := fun r y1 y2 => (e3 r (by omega) (by omega)).trans (n2 r (by omega) y2)
  have h99_3 := (e3 99 (by omega) (by omega)).trans h99_2
  have a99_3 := (hA3 99 (by omega)).trans a99_2
  have zf3 : ∀ x, (x < 100 ∨ 40000 ≤ x) → G3 x = F x := fun x hx => (e3 x (by omega) (by omega)).trans (zf2 x hx)
  have af3 : ∀ x, (x ≤ 100 ∨ 40000 ≤ x) → ad3 x = ad x := fun x hx => (hA3 x (by omega)).trans (af2 x hx)
  refine r_aload_n X dX5_init_37 (by rfl) ?_
  refine r_new X (104) dX5_init_38 (ci := 2) (fs := [.int (zI 0), .null, .int (zI 0)]) rfl in_Jx4a65c tyJx4a65c_ok w30 w31 w4 (by decide +kernel) (by omega) (n3 104 (by omega) (by omega)) (by omega) (by omega) (fun ad4 hA4 => ?_)
  rw [← hA4 100 (by omega)]
  refine r_dup X dX5_init_41 (by rfl) ?_
  refine r_callI X dX5_init_42 kX5_11 (c_alInit g _ hl ad4 _ 104 _ _ 0 pu_s (by omega) ((hA4 99 (by omega)).trans a99_3)) (by rfl) (by rfl) (by exact Nat.le_of_ble_eq_true rfl) (by decide) (by decide) (by omega) (by omega) (fun v ad' F4 hK => ?_)
  obtain ⟨rfl, rfl, k4, s4⟩ := hK
  have o4 : F4 100 = some (.inr (7, [.ref (ad4 101), .ref (ad4 102), .ref (ad4 103), .null, .null, .int (zI 0)])) := by rw [s4 100 (by omega), pu_n (by omega), p3, hA4 101 (by omega), hA4 102 (by omega), hA4 103 (by omega)]
  refine r_putF X dX5_init_45 ffX5_22_7 rfl (o4) (by omega) (by exact Nat.le_of_ble_eq_true rfl) (by rfl) (by rfl) ?_
  dsimp only [List.set]
  refine (fun (k : ∀ G4 : Pic, (G4 100 = some (.inr (7, [.ref (ad4 101), .ref (ad4 102), .ref (ad4 103), .ref (ad4 104), .null, .int (zI 0)]))) → (∀ x, x ≠ 100 → G4 x = F4 x) → V M g ad4 G4 _ _ _ _ _) => k _ (pu_s) (fun x hx => pu_n hx)) ?_
  intro G4 p4 t4
  have e4 : ∀ x, x ≠ 100 → x ≠ 104 → G4 x = G3 x := fun x z1 z2 => (t4 x z1).trans ((s4 x z2).trans (pu_n z2))
  have l104_4 : G4 104 = some (.inr (2, [.int (zI 0), .ref (ad4 99), .int (zI 0)])) := (t4 _ (by omega)).trans k4
  have l101_4 : G4 101 = some (.inr (2, [.int (zI 0), .ref (ad4 99), .int (zI 0)])) := by rw [e4 101 (by omega) (by omega), hA4 99 (by omega)]; exact l101_3
  have l102_4 : G4 102 = some (.inr (2, [.int (zI 0), .ref (ad4 99), .int (zI 0)])) := by rw [e4 102 (by omega) (by omega), hA4 99 (by omega)]; exact l102_3
  have l103_4 : G4 103 = some (.inr (2, [.int (zI 0), .ref (ad4 99), .int (zI 0)])) := by rw [e4 103 (by omega) (by omega), hA4 99 (by omega)]; exact l103_3
  have n4 : ∀ r, 104 < r → r < 40000 → G4 r = none := fun r y1 y2 => (e4 r (by omega) (by omega)).trans (n3 r (by omega) y2)
  have h99_4 := (e4 99 (by omega) (by omega)).trans h99_3
  have a99_4 := (hA4 99 (by omega)).trans a99_3
  have zf4 : ∀ x, (x < 100 ∨ 40000 ≤ x) → G4 x = F x := fun x hx => (e4 x (by omega) (by omega)).trans (zf3 x hx)
  have af4 : ∀ x, (x ≤ 100 ∨ 40000 ≤ x) → ad4 x = ad x := fun x hx => (hA4 x (by omega)).trans (af3 x hx)
  refine r_aload_n X dX5_init_48 (by rfl) ?_
  refine r_new X (200) dX5_init_49 (ci := 6) (fs := [.int 0, .int 0, .null, .null, .null, .null, .null, .null, .null, .null, .null]) rfl in_X3 tyX3_ok w56 w57 w5 (by decide +kernel) (by omega) (n4 200 (by omega) (by omega)) (by omega) (by omega) (fun ad5 hA5 => ?_)
  rw [← hA5 100 (by omega)]
  refine r_dup X dX5_init_52 (by rfl) ?_
  refine r_callIN (np := 0) (As := []) (host := RX5) X dX5_init_53 w60 w5 ⟨by decide, by decide⟩ (by decide +kernel) X.2.1.2.2.2.2.1.2.2 rfl w59 (c_planInit g _ hl ad5 _ pu_s (fun r y1 y2 => (pu_n (by omega)).trans (n4 r (by omega) (by omega)))) rfl (by rfl) (by exact Nat.le_of_ble_eq_true rfl) (by decide) (by decide) (by omega) (by omega) (fun v ad6 F5 hK => ?_)
  obtain ⟨rfl, hF5, hA6, hP⟩ := hK
  have o5 : F5 100 = some (.inr (7, [.ref (ad6 101), .ref (ad6 102), .ref (ad6 103), .ref (ad6 104), .null, .int (zI 0)])) := by
    rw [hF5 100 (by omega), pu_n (by omega), p4, hA6 101 (by omega), hA6 102 (by omega), hA6 103 (by omega), hA6 104 (by omega), hA5 101 (by omega), hA5 102 (by omega), hA5 103 (by omega), hA5 104 (by omega)]
  rw [← hA6 100 (by omega), ← hA6 200 (by omega)]
  refine r_putF X dX5_init_56 ffX5_28_7 rfl (o5) (by omega) (by exact Nat.le_of_ble_eq_true rfl) (by rfl) (by rfl) ?_
  dsimp only [List.set]
  refine r_aload_n X dX5_init_59 (by rfl) ?_
  refine r_iconst X dX5_init_60 rfl ?_
  refine r_put X dX5_init_61 fwX5_32_7 (pu_s) (by omega) (by exact Nat.le_of_ble_eq_true rfl) (by rfl) (by rfl) ?_
  dsimp only [List.set]
  refine (fun (k : ∀ F6 : Pic, (F6 100 = some (.inr (7, [.ref (ad6 101), .ref (ad6 102), .ref (ad6 103), .ref (ad6 104), .ref (ad6 200), .int (zI 0)]))) → (∀ x, x ≠ 100 → F6 x = F5 x) → V M g ad6 F6 _ _ _ _ _) => k _ (pu_s) (fun x hx => (pu_n hx).trans (pu_n hx))) ?_
  intro F6 p6 t6
  have e6 : ∀ x, x ≠ 100 → ¬ (200 ≤ x ∧ x < 260) → F6 x = G4 x := fun x y1 y2 => (t6 x y1).trans ((hF5 x (by omega)).trans (pu_n (by omega)))
  have aa6 : ∀ x, ¬ (200 ≤ x ∧ x < 260) → ad6 x = ad4 x := fun x y => (hA6 x (by omega)).trans (hA5 x (by omega))
  have cl : ∀ rl, 101 ≤ rl ∧ rl ≤ 104 → G4 rl = some (.inr (2, [.int (zI 0), .ref (ad4 99), .int (zI 0)])) → ∀ e, CL g ad6 F6 rl 0 e := fun rl hrl hg e => by
    have hz : lra rl 0 = 99 := if_pos rfl
    refine ⟨0, ⟨⟨0, fun _ => none, ?_, ?_, fun i hi => by omega⟩, by omega, .inl rfl⟩, fun c y1 y2 => (e6 _ (by omega) (by omega)).trans (n4 _ (by omega) (by omega))⟩
    · rw [hz, e6 rl (by omega) (by omega), hg, aa6 99 (by omega)]; rfl
    · rw [hz, e6 99 (by omega) (by omega)]; exact h99_4
  have goal : ∀ A P kf ser, RX g ad6 F6 0 0 0 0 A P kf ser 0 := fun A P kf ser => by
    have hP6 : CP g ad6 F6 := ⟨_, _, _, _, _, _, _, _, _, _, _, hP.fr (fun x y1 y2 => t6 x (by omega)) (fun _ _ _ => rfl)⟩
    refine ⟨⟨p6, (e6 99 (by omega) (by omega)).trans h99_4, (aa6 99 (by omega)).trans a99_4⟩, ⟨cl 101 (by omega) l101_4 _, cl 102 (by omega) l102_4 _, cl 103 (by omega) l103_4 _, 0, fun _ => 0, cl 104 (by omega) l104_4 _⟩, hP6, ⟨by omega, fun i hi => by omega, fun i y1 y2 => (e6 _ (by omega) (by omega)).trans (n4 _ (by omega) (by omega))⟩,
      ⟨by omega, fun i hi => by omega, fun i y1 y2 => ⟨(e6 _ (by omega) (by omega)).trans (n4 _ (by omega) (by omega)), (e6 _ (by omega) (by omega)).trans (n4 _ (by omega) (by omega))⟩⟩, ⟨by omega, by omega⟩, fun i hi => by omega, fun i j hi => by omega, fun s y1 y2 => (e6 _ (by omega) (by omega)).trans (n4 _ (by omega) (by omega))⟩
  exact r_vret X rfl dX5_init_64 (⟨rfl, fun x hx => (aa6 x (by omega)).trans (af4 x hx), fun x hx => (e6 x (by omega) (by omega)).trans (zf4 x hx), goal⟩) (by omega) (by omega)
