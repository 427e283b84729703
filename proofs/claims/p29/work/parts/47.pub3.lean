/-! ===== cancel, advance, addCost ===== -/
set_option maxRecDepth 100000 in
set_option maxHeartbeats 4000000 in
theorem c_cancel (g : Gx) (l : Launch) (hl : l.stackTraces = false) (ad : Nat → Nat) (F : Pic) (td : Int) (nf nk nc : Nat) (A P : Nat → Nat → Int) (kf : Nat → Nat) (sn : Nat) (hX : RXs g ad F td nf nk nc A P kf sn) (t : Nat) (hI : IV td nf nk nc A kf t) (i : Int) (hi : inR i) : CtX g l yX5_cancel cX5_cancel 3 (some .int) 7 10 200 [.ref (ad 100), .int (zI i)] ad F (fun v ad' F' => (0 ≤ i ∧ i < nk) ∧ v = some (.int (zI (A 8 i.toNat))) ∧ ad = ad' ∧ FrX F F' ∧ RXs g ad' F' td nf (nk - 1) nc (fEnd A kf i.toNat) P (eDel kf i.toNat) sn) (fun E ad' F' => (E = xIO ∧ ¬ (0 ≤ i ∧ i < nk)) ∧ ad = ad' ∧ F = F') := by
  refine CtX_of hl rfl [some (.ref (ad 100)), some (.int (zI i)), none] (Nat.le_of_ble_eq_true rfl) (fun _ h => h) ?_
  intro M hL hN X
  subst hL
  obtain ⟨ser, hX⟩ := hX
  refine r_aload_n X dX5_cancel_0 (by rfl) ?_
  refine r_iload_n X dX5_cancel_1 (by rfl) ?_
  refine r_callVX X dX5_cancel_2 kX5_74 (c_commitmentAt g _ hl ad F _ _ _ _ _ _ _ _ _ hX i hi) (hX.1.1) (by rfl) (by rfl) (by rfl) (by rfl) (by exact Nat.le_of_ble_eq_true rfl) (by decide) (by decide) (by omega) (by omega) (fun E ad' F' h => ⟨⟨h.1, h.2.1⟩, h.2.2⟩) (fun v ad' F' hK => ?_)
  obtain ⟨q1, rfl, rfl, rfl⟩ := hK
  have hX0 := hX
  obtain ⟨hO, ⟨⟨cap1, hR1, hLF1⟩, ⟨cap2, hR2, hLF2⟩, ⟨cap3, hR3, hLF3⟩, kp, ep, cap4, hR4, hLF4⟩, hP, ⟨hnf, hFu, hFuN⟩, ⟨hnc, hCo, hCoN⟩, ⟨⟨hnk, hsn⟩, hKm, hKi, hKN⟩⟩ := id hX; obtain ⟨hO, h9, a99⟩ := hO
  obtain ⟨j, rfl⟩ := Int.eq_ofNat_of_zero_le q1.1
  have hj : j < nk := by omega
  have hk0 : F (10000 + ser j) = some (.inr (3, [.int (zI (A 8 j)), .ref (ad (300 + kf j)), .int (zI (A 7 j)), .int (zI (A 9 j))])) := (hKm j hj).1
  refine r_get X dX5_cancel_5 fgX5_78_3 (hk0) (by rfl) ?_
  refine r_istore_n X dX5_cancel_8 (by rw [hN]; decide) (by rfl) ?_
  dsimp only [List.set]
  refine r_aload_n X dX5_cancel_9 (by rfl) ?_
  refine r_iload_n X dX5_cancel_10 (by rfl) ?_
  refine r_callV X dX5_cancel_11 kX5_79 (c_endC g _ hl ad F _ _ _ _ _ _ _ _ _ hX0 j hj (hI.2.2.1 j hj).1) (by assumption) (by rfl) (by rfl) (by rfl) (by rfl) (by exact Nat.le_of_ble_eq_true rfl) (by decide) (by decide) (by omega) (by omega) (fun v ad' F' hK => ?_)
  obtain ⟨rfl, rfl, hF, hX'⟩ := hK
  refine r_iload_n X dX5_cancel_14 (by rfl) ?_
  exact r_iret X rfl (rfl) dX5_cancel_15 (⟨q1, rfl, rfl, hF, _, hX'⟩) (by omega) (by omega)
theorem RX.today {g : Gx} {ad : Nat → Nat} {F : Pic} {td td' : Int} {nf nk nc : Nat} {A P : Nat → Nat → Int} {kf ser : Nat → Nat} {sn : Nat} {F' : Pic} (hX : RX g ad F td nf nk nc A P kf ser sn) (h1 : F' 100 = some (.inr (7, [.ref (ad 101), .ref (ad 102), .ref (ad 103), .ref (ad 104), .ref (ad 200), .int (zI td')]))) (s1 : ∀ x, x ≠ 100 → F' x = F x) : RX g ad F' td' nf nk nc A P kf ser sn := by
  obtain ⟨hO, ⟨⟨cap1, hR1, hLF1⟩, ⟨cap2, hR2, hLF2⟩, ⟨cap3, hR3, hLF3⟩, kp, ep, cap4, hR4, hLF4⟩, hP, ⟨hnf, hFu, hFuN⟩, ⟨hnc, hCo, hCoN⟩, ⟨⟨hnk, hsn⟩, hKm, hKi, hKN⟩⟩ := id hX; obtain ⟨hO, h9, a99⟩ := hO
  refine ⟨⟨h1, (s1 _ (by omega)).trans h9, a99⟩, ⟨CL.fr ⟨cap1, hR1, hLF1⟩ (by omega) (fun x hx => s1 x ?_) (fun _ _ => rfl) (fun _ _ => rfl), CL.fr ⟨cap2, hR2, hLF2⟩ (by omega) (fun x hx => s1 x ?_) (fun _ _ => rfl) (fun _ _ => rfl), CL.fr ⟨cap3, hR3, hLF3⟩ (by omega) (fun x hx => s1 x ?_) (fun _ _ => rfl) (fun _ _ => rfl), kp, ep, CL.fr ⟨cap4, hR4, hLF4⟩ (by omega) (fun x hx => s1 x ?_) (fun _ _ => rfl) (fun _ _ => rfl)⟩,
    hP.fr (fun x z1 z2 => s1 x (by omega)) (fun _ _ _ => rfl), CFu.fr ⟨hnf, hFu, hFuN⟩ (fun x z1 z2 => s1 x (by omega)), CCo.fr ⟨hnc, hCo, hCoN⟩ (fun x z1 z2 => s1 x (by omega)) (fun _ _ => rfl), CK.fr ⟨⟨hnk, hsn⟩, hKm, hKi, hKN⟩ (fun x z1 z2 => s1 x (by omega)) (fun _ _ => rfl)⟩
  all_goals (unfold inA at hx; omega)
theorem IV.today {td td' : Int} {nf nk nc : Nat} {A : Nat → Nat → Int} {kf : Nat → Nat} {t : Nat} (h : IV td nf nk nc A kf t) (h1 : 0 ≤ td' ∧ td' ≤ 999) : IV td' nf nk nc A kf t := ⟨⟨h1.1, h1.2, h.1.2.2⟩, h.2⟩
set_option maxRecDepth 100000 in
set_option maxHeartbeats 4000000 in
theorem c_advance (g : Gx) (l : Launch) (hl : l.stackTraces = false) (ad : Nat → Nat) (F : Pic) (td : Int) (nf nk nc : Nat) (A P : Nat → Nat → Int) (kf : Nat → Nat) (sn : Nat) (hX : RXs g ad F td nf nk nc A P kf sn) (t : Nat) (hI : IV td nf nk nc A kf t) (d : Int) (hd : inR d) : CtX g l yX5_advance cX5_advance 2 (some .int) 7 10 200 [.ref (ad 100), .int (zI d)] ad F (fun v ad' F' => ((1 ≤ d ∧ d ≤ 999) ∧ td + d ≤ 999) ∧ v = some (.int (zI ((nk : Int) - (endS (qLap (td + d)) nk (nk, A, kf)).1))) ∧ ad = ad' ∧ FrX F F' ∧ RXs g ad' F' (td + d) nf (endS (qLap (td + d)) nk (nk, A, kf)).1 nc (endS (qLap (td + d)) nk (nk, A, kf)).2.1 P (endS (qLap (td + d)) nk (nk, A, kf)).2.2 sn) (fun E ad' F' => (E = xIA ∧ ¬ ((1 ≤ d ∧ d ≤ 999) ∧ td + d ≤ 999)) ∧ ad = ad' ∧ F = F') := by
  refine CtX_of hl rfl [some (.ref (ad 100)), some (.int (zI d))] (Nat.le_of_ble_eq_true rfl) (fun _ h => h) ?_
  intro M hL hN X
  subst hL
  obtain ⟨ser, hX⟩ := hX
  have hX0 := hX
  have hI0 := hI.1
  obtain ⟨hO, ⟨⟨cap1, hR1, hLF1⟩, ⟨cap2, hR2, hLF2⟩, ⟨cap3, hR3, hLF3⟩, kp, ep, cap4, hR4, hLF4⟩, hP, ⟨hnf, hFu, hFuN⟩, ⟨hnc, hCo, hCoN⟩, ⟨⟨hnk, hsn⟩, hKm, hKi, hKN⟩⟩ := id hX; obtain ⟨hO, h9, a99⟩ := hO
  refine r_iload_n X dX5_advance_0 (by rfl) ?_
  refine r_iconst X dX5_advance_1 rfl ?_
  refine r_sipush X dX5_advance_2 (by decide) ?_
  refine r_callSX X dX5_advance_5 kX5_37 (c_reqR g _ hl ad F d 1 999 hd (by exact ⟨by omega, by omega⟩) (by exact ⟨by omega, by omega⟩)) (by rfl) (by rfl) (by exact Nat.le_of_ble_eq_true rfl) (by decide) (by decide) (by omega) (by omega) (fun E ad' F' h => ⟨⟨h.1, fun z => h.2.1 z.1⟩, h.2.2⟩) (fun v ad' F' hK => ?_)
  obtain ⟨q1, rfl, rfl, rfl⟩ := hK
  refine r_aload_n X dX5_advance_8 (by rfl) ?_
  refine r_get X dX5_advance_9 fgX5_32_7 (by assumption) (by rfl) ?_
  refine r_iload_n X dX5_advance_12 (by rfl) ?_
  refine r_iadd X dX5_advance_13 ?_
  refine r_iconst X dX5_advance_14 rfl ?_
  refine r_sipush X dX5_advance_15 (by decide) ?_
  refine r_callSX X dX5_advance_18 kX5_37 (c_reqR g _ hl ad F (td + d) 1 999 (by exact ⟨by omega, by omega⟩) (by exact ⟨by omega, by omega⟩) (by exact ⟨by omega, by omega⟩)) (by rfl) (by rfl) (by exact Nat.le_of_ble_eq_true rfl) (by decide) (by decide) (by omega) (by omega) (fun E ad' F' h => ⟨⟨h.1, fun z => h.2.1 ⟨by omega, z.2⟩⟩, h.2.2⟩) (fun v ad' F' hK => ?_)
  obtain ⟨q2, rfl, rfl, rfl⟩ := hK
  refine r_aload_n X dX5_advance_21 (by rfl) ?_
  refine r_dup X dX5_advance_22 (by rfl) ?_
  refine r_get X dX5_advance_23 fgX5_32_7 (by assumption) (by rfl) ?_
  refine r_iload_n X dX5_advance_26 (by rfl) ?_
  refine r_iadd X dX5_advance_27 ?_
  refine r_put X dX5_advance_28 fwX5_32_7 (by assumption) (by omega) (by exact Nat.le_of_ble_eq_true rfl) (by rfl) (by rfl) ?_
  dsimp only [List.set]
  refine (fun (k : ∀ F1 : Pic, (F1 100 = some (.inr (7, [.ref (ad 101), .ref (ad 102), .ref (ad 103), .ref (ad 104), .ref (ad 200), .int (zI (td + d))]))) → (∀ x, x ≠ 100 → F1 x = F x) → V M g ad F1 _ _ _ _ _) => k _ (pu_s) (fun x hx => pu_n hx)) ?_
  intro F1 h1 s1
  refine r_aload_n X dX5_advance_31 (by rfl) ?_
  refine r_callV X dX5_advance_32 kX5_83 (c_lapse g _ hl ad F1 _ _ _ _ _ _ _ _ _ (hX0.today h1 s1) t (hI.today (by omega))) (by assumption) (by rfl) (by rfl) (by rfl) (by rfl) (by exact Nat.le_of_ble_eq_true rfl) (by decide) (by decide) (by omega) (by omega) (fun v ad' F2 hK => ?_)
  obtain ⟨rfl, rfl, hF, ser', hX'⟩ := hK
  exact r_iret X rfl (rfl) dX5_advance_35 (⟨⟨q1, q2.2⟩, rfl, rfl, fun x hx => (hF x hx).trans (s1 x (by omega)), ser', hX'⟩) (by omega) (by omega)
def fCst (A : Nat → Nat → Int) (nc : Nat) (c d m : Int) : Nat → Nat → Int := u2 (u2 (u2 A 10 nc c) 11 nc d) 12 nc m
def fP0 (P : Nat → Nat → Int) (nc : Nat) : Nat → Nat → Int := fun a b => if a = nc then 0 else P a b
theorem fCst_o {A : Nat → Nat → Int} {nc a : Nat} {c d m : Int} (h : ¬ (10 ≤ a ∧ a ≤ 12)) : fCst A nc c d m a = A a := by
  unfold fCst; rw [u2_row' (by omega), u2_row' (by omega), u2_row' (by omega)]
theorem fCst_k {A : Nat → Nat → Int} {nc a x : Nat} {c d m : Int} (hx : x ≠ nc) : fCst A nc c d m a x = A a x := by
  unfold fCst; rw [u2_col' hx, u2_col' hx, u2_col' hx]
theorem fCst_10 {A : Nat → Nat → Int} {nc : Nat} {c d m : Int} : fCst A nc c d m 10 nc = c := by
  unfold fCst; rw [u2_row' (by omega), u2_row' (by omega), u2_at]
theorem fCst_11 {A : Nat → Nat → Int} {nc : Nat} {c d m : Int} : fCst A nc c d m 11 nc = d := by
  unfold fCst; rw [u2_row' (by omega), u2_at]
theorem fCst_12 {A : Nat → Nat → Int} {nc : Nat} {c d m : Int} : fCst A nc c d m 12 nc = m := by
  unfold fCst; rw [u2_at]
def raC (td : Int) (c d m : Int) : Prop := (0 ≤ c ∧ c ≤ 7) ∧ (0 ≤ d ∧ d ≤ td) ∧ (1 ≤ m ∧ m ≤ 99999)
set_option maxRecDepth 100000 in
set_option maxHeartbeats 4000000 in
theorem c_addCost (g : Gx) (l : Launch) (hl : l.stackTraces = false) (ad : Nat → Nat) (F : Pic) (td : Int) (nf nk nc : Nat) (A P : Nat → Nat → Int) (kf : Nat → Nat) (sn : Nat) (hX : RXs g ad F td nf nk nc A P kf sn) (t : Nat) (hI : IV td nf nk nc A kf t) (c d m : Int) (hc : inR c) (hd : inR d) (hm : inR m) : CtX g l yX5_addCost cX5_addCost 4 (some .int) 7 10 200 [.ref (ad 100), .int (zI c), .int (zI d), .int (zI m)] ad F (fun v ad' F' => (raC td c d m ∧ nc < 16) ∧ v = some (.int (zI nc)) ∧ AdX ad ad' ∧ FrX F F' ∧ RXs g ad' F' td nf nk (nc + 1) (fCst A nc c d m) (fP0 P nc) kf sn) (fun E ad' F' => ((E = xIA ∧ ¬ raC td c d m) ∨ (E = xIS ∧ raC td c d m ∧ ¬ nc < 16)) ∧ ad = ad' ∧ F = F') := by
  refine CtX_of hl rfl [some (.ref (ad 100)), some (.int (zI c)), some (.int (zI d)), some (.int (zI m))] (Nat.le_of_ble_eq_true rfl) (fun _ h => h) ?_
  intro M hL hN X
  subst hL
  obtain ⟨ser, ⟨hO, h9, a99⟩, ⟨⟨cap1, hR1, hLF1⟩, ⟨cap2, hR2, hLF2⟩, ⟨cap3, hR3, hLF3⟩, kp, ep, cap4, hR4, hLF4⟩, hP, ⟨hnf, hFu, hFuN⟩, ⟨hnc, hCo, hCoN⟩, ⟨⟨hnk, hsn⟩, hKm, hKi, hKN⟩⟩ := id hX
  obtain ⟨mo1, ho1⟩ := hR1.obj; obtain ⟨mo2, ho2⟩ := hR2.obj; obtain ⟨mo3, ho3⟩ := hR3.obj; obtain ⟨mo4, ho4⟩ := hR4.obj
  have hI0 := hI.1
  have hkf : ∀ k, k < nk → kf k < nf := fun k hk => (hI.2.2.1 k hk).1
  refine r_iload_n X dX5_addCost_0 (by rfl) ?_
  refine r_iconst X dX5_addCost_1 rfl ?_
  refine r_bipush X dX5_addCost_2 (by decide) ?_
  refine r_callSX X dX5_addCost_4 kX5_37 (c_reqR g _ hl ad F c 0 7 hc (by exact ⟨by omega, by omega⟩) (by exact ⟨by omega, by omega⟩)) (by rfl) (by rfl) (by exact Nat.le_of_ble_eq_true rfl) (by decide) (by decide) (by omega) (by omega) (fun E ad' F' h => ⟨.inl ⟨h.1, fun z => h.2.1 z.1⟩, h.2.2⟩) (fun v ad' F' hK => ?_)
  obtain ⟨q1, rfl, rfl, rfl⟩ := hK
  refine r_iload_n X dX5_addCost_7 (by rfl) ?_
  refine r_iconst X dX5_addCost_8 rfl ?_
  refine r_aload_n X dX5_addCost_9 (by rfl) ?_
  refine r_get X dX5_addCost_10 fgX5_32_7 (by assumption) (by rfl) ?_
  refine r_callSX X dX5_addCost_13 kX5_37 (c_reqR g _ hl ad F d 0 td hd (by exact ⟨by omega, by omega⟩) (by exact ⟨by omega, by omega⟩)) (by rfl) (by rfl) (by exact Nat.le_of_ble_eq_true rfl) (by decide) (by decide) (by omega) (by omega) (fun E ad' F' h => ⟨.inl ⟨h.1, fun z => h.2.1 z.2.1⟩, h.2.2⟩) (fun v ad' F' hK => ?_)
  obtain ⟨q2, rfl, rfl, rfl⟩ := hK
  refine r_iload_n X dX5_addCost_16 (by rfl) ?_
  refine r_iconst X dX5_addCost_17 rfl ?_
  refine r_ldc X dX5_addCost_18 w122 (99999) rfl ?_
  refine r_callSX X dX5_addCost_20 kX5_37 (c_reqR g _ hl ad F m 1 99999 hm (by exact ⟨by omega, by omega⟩) (by exact ⟨by omega, by omega⟩)) (by rfl) (by rfl) (by exact Nat.le_of_ble_eq_true rfl) (by decide) (by decide) (by omega) (by omega) (fun E ad' F' h => ⟨.inl ⟨h.1, fun z => h.2.1 z.2.2⟩, h.2.2⟩) (fun v ad' F' hK => ?_)
  obtain ⟨q3, rfl, rfl, rfl⟩ := hK
  refine r_aload_n X dX5_addCost_23 (by rfl) ?_
  refine r_get X dX5_addCost_24 fgX5_19_7 (by assumption) (by rfl) ?_
  refine r_callV X dX5_addCost_27 kX5_41 (c_size g _ hl ad F 103 nc cap3 _ (by omega) hR3) (by assumption) (by rfl) (by rfl) (by rfl) (by rfl) (by exact Nat.le_of_ble_eq_true rfl) (by decide) (by decide) (by omega) (by omega) (fun v ad' F' hK => ?_)
  obtain ⟨rfl, rfl, rfl⟩ := hK
  refine r_bipush X dX5_addCost_30 (by decide) ?_
  have rest : ∀ kc ks, kc ≤ 4 → ks ≤ 24 → V M g ad F kc ks 40 [some (.ref (ad 100)), some (.int (zI c)), some (.int (zI d)), some (.int (zI m))] [.int (bP (nc < 16))] := fun kc ks hkc hks => by
    refine r_callSX X dX5_addCost_40 kX5_45 (c_reqS g _ hl ad F (nc < 16)) (by rfl) (by rfl) (by exact Nat.le_of_ble_eq_true rfl) (by decide) (by decide) (by omega) (by omega) (fun E ad' F' h => ⟨.inr ⟨h.1, ⟨q1, q2, q3⟩, h.2.1⟩, h.2.2⟩) (fun v ad' F' hK => ?_)
    obtain ⟨q5, rfl, rfl, rfl⟩ := hK
    refine r_aload_n X dX5_addCost_43 (by rfl) ?_
    refine r_get X dX5_addCost_44 fgX5_19_7 (by assumption) (by rfl) ?_
    refine r_new X (400 + nc) dX5_addCost_47 (ci := 4) (fs := [.int (zI 0), .int (zI 0), .int (zI 0), .null]) rfl in_X1 tyX1_ok w395 w396 w21 (by decide +kernel) (by omega) ((hCoN nc (by omega) (by omega)).1) (by omega) (by omega) (fun ad1 hA => ?_)
    rw [← hA 100 (by omega), ← hA 103 (by omega)]
    refine r_dup X dX5_addCost_50 (by rfl) ?_
    refine r_iload_n X dX5_addCost_51 (by rfl) ?_
    refine r_iload_n X dX5_addCost_52 (by rfl) ?_
    refine r_iload_n X dX5_addCost_53 (by rfl) ?_
    refine r_callI X dX5_addCost_54 kX5_88 (c_costInit g _ hl ad1 _ (400 + nc) (500 + nc) (by omega) (by omega) (by omega) _ _ _ _ pu_s ((pu_n (by omega)).trans (hCoN nc (by omega) (by omega)).2) c d m) (by rfl) (by rfl) (by exact Nat.le_of_ble_eq_true rfl) (by decide) (by decide) (by omega) (by omega) (fun v ad2 F2 hK => ?_)
    obtain ⟨rfl, hA2, hN2, hS2, fr2⟩ := hK
    have fr : ∀ x, x ≠ 400 + nc → x ≠ 500 + nc → F2 x = F x := fun x z1 z2 => (fr2 x z1 z2).trans (pu_n z1)
    have aa : ∀ x, x ≠ 400 + nc → x ≠ 500 + nc → ad2 x = ad x := fun x z1 z2 => (hA2 x z2).trans (hA x z1)
    have hl3 := lra_c (rl := 103) hR3.2.2
    have ho3' : F2 103 = _ := (fr 103 (by omega) (by omega)).trans ho3
    rw [← hA2 100 (by omega), ← hA2 103 (by omega), ← hA2 (400 + nc) (by omega)]
    refine r_callV X dX5_addCost_57 kX5_54 (c_add g _ hl ad2 F2 103 nc cap3 (fun i => ad2 (400 + i)) (by omega) (hR3.fr2 (fr _ (by omega) (by omega)) (fr _ (by omega) (by omega)) (aa _ (by omega) (by omega)) (fun i hi => aa _ (by omega) (by omega))) (fun c z1 z2 => (fr _ (by omega) (by omega)).trans (hLF3 c z1 z2)) ((fr 99 (by omega) (by omega)).trans h9) ((aa 99 (by omega) (by omega)).trans a99) (fun i hi => ⟨_, 4, _, rfl, (fr _ (by omega) (by omega)).trans (hCo i hi).1, ⟨by omega, by omega⟩, .inr (.inl rfl)⟩) (by omega) (400 + nc) 4 _ hN2 (by omega) (by omega) (.inr (.inl rfl))) (ho3') (by rfl) (by rfl) (by rfl) (by rfl) (by exact Nat.le_of_ble_eq_true rfl) (by decide) (by decide) (by omega) (by omega) (fun v ad3 F3 hK => ?_)
    obtain ⟨rfl, hA3, hF3, cap', hR3', hLF3'⟩ := hK
    have ar : ∀ x, ¬ (3000 < x ∧ x < 3100) → x ≠ 400 + nc → x ≠ 500 + nc → ad3 x = ad x := fun x z1 z2 z3 => (hA3 x z1).trans (aa x z2 z3)
    have fr3 : ∀ x, x ≠ 103 → ¬ (3000 < x ∧ x < 3100) → x ≠ 400 + nc → x ≠ 500 + nc → F3 x = F x := fun x z1 z2 z3 z4 => (hF3 x z1 z2).trans (fr x z3 z4)
    obtain ⟨mo9, ho9⟩ := hR3'.obj
    have hO3 : F3 100 = some (.inr (7, [.ref (ad3 101), .ref (ad3 102), .ref (ad3 103), .ref (ad3 104), .ref (ad3 200), .int (zI td)])) := by
      rw [fr3 _ (by omega) (by omega) (by omega) (by omega), hO, ar 101 (by omega) (by omega) (by omega), ar 102 (by omega) (by omega) (by omega), ar 103 (by omega) (by omega) (by omega), ar 104 (by omega) (by omega) (by omega), ar 200 (by omega) (by omega) (by omega)]
    rw [← hA3 100 (by omega)]
    refine r_pop X dX5_addCost_60 (by rfl) ?_
    refine r_aload_n X dX5_addCost_61 (by rfl) ?_
    refine r_get X dX5_addCost_62 fgX5_19_7 (by assumption) (by rfl) ?_
    refine r_callV X dX5_addCost_65 kX5_41 (c_size g _ hl ad3 F3 103 (nc + 1) cap' _ (by omega) hR3') (by assumption) (by rfl) (by rfl) (by rfl) (by rfl) (by exact Nat.le_of_ble_eq_true rfl) (by decide) (by decide) (by omega) (by omega) (fun v ad' F' hK => ?_)
    obtain ⟨rfl, rfl, rfl⟩ := hK
    refine r_iconst X dX5_addCost_68 rfl ?_
    refine r_isub X dX5_addCost_69 ?_
    have goal : RX g ad3 F3 td nf nk (nc + 1) (fCst A nc c d m) (fP0 P nc) kf ser sn := by
      refine ⟨⟨hO3, (fr3 _ (by omega) (by omega) (by omega) (by omega)).trans h9, (ar 99 (by omega) (by omega) (by omega)).trans a99⟩, ⟨CL.fr ⟨cap1, hR1, hLF1⟩ (by omega) (fun x hx => fr3 x ?_ ?_ ?_ ?_) (fun x hx => ar x ?_ ?_ ?_) (fun i hi => ar _ (by omega) (by omega) (by omega)), CL.fr ⟨cap2, hR2, hLF2⟩ (by omega) (fun x hx => fr3 x ?_ ?_ ?_ ?_) (fun x hx => ar x ?_ ?_ ?_) (fun i hi => ar _ (by omega) (by omega) (by omega)), ⟨cap', hR3'.fr2 rfl rfl rfl (fun k hk => ?_), hLF3'⟩, kp, ep, CL.fr ⟨cap4, hR4, hLF4⟩ (by omega) (fun x hx => fr3 x ?_ ?_ ?_ ?_) (fun x hx => ar x ?_ ?_ ?_) (fun _ _ => rfl)⟩,
        hP.fr (fun x z1 z2 => fr3 x (by omega) (by omega) (by omega) (by omega)) (fun x z1 z2 => ar x (by omega) (by omega) (by omega)), ?_, ?_, ?_⟩
      all_goals try (unfold inA at hx; omega)
      · unfold eIns; dsimp only
        by_cases e : k < nc
        · rw [if_pos e]; exact hA3 _ (by omega)
        · rw [if_neg e, if_pos (by omega), show k = nc by omega]; exact hA3 _ (by omega)
      · refine ⟨hnf, fun i hi => ?_, fun i z1 z2 => (fr3 _ (by omega) (by omega) (by omega) (by omega)).trans (hFuN i z1 z2)⟩
        rw [fr3 _ (by omega) (by omega) (by omega) (by omega), hFu i hi]; unfold fuC
        rw [fCst_o (by omega), fCst_o (by omega), fCst_o (by omega), fCst_o (by omega), fCst_o (by omega), fCst_o (by omega)]
      · refine ⟨by omega, fun i hi => ?_, fun i z1 z2 => ⟨(fr3 _ (by omega) (by omega) (by omega) (by omega)).trans (hCoN i (by omega) z2).1, (fr3 _ (by omega) (by omega) (by omega) (by omega)).trans (hCoN i (by omega) z2).2⟩⟩
        by_cases e : i = nc
        · subst e
          refine ⟨?_, (fun _ => 0), by rw [hF3 _ (by omega) (by omega)]; exact hS2, fun j hj => by rw [show fP0 P i i j = 0 from if_pos rfl]; rfl⟩
          rw [hF3 _ (by omega) (by omega), hN2]; unfold coC
          rw [fCst_10, fCst_11, fCst_12, hA3 _ (by omega)]
        · obtain ⟨z1, f, z2, z3⟩ := hCo i (by omega)
          refine ⟨?_, f, (fr3 _ (by omega) (by omega) (by omega) (by omega)).trans z2, fun j hj => by rw [show fP0 P nc i j = P i j from if_neg e]; exact z3 j hj⟩
          rw [fr3 _ (by omega) (by omega) (by omega) (by omega), z1]; unfold coC
          rw [fCst_k e, fCst_k e, fCst_k e, ar _ (by omega) (by omega) (by omega)]
      · exact CK.toA (CK.fr ⟨⟨hnk, hsn⟩, hKm, hKi, hKN⟩ (fun x z1 z2 => fr3 x (by omega) (by omega) (by omega) (by omega)) (fun i hi => ar _ (by have := hkf i hi; omega) (by have := hkf i hi; omega) (by have := hkf i hi; omega))) (fun c z1 z2 k hk => by rw [fCst_o (by omega)])
    refine W_int (b := zI (nc : Int)) (congrArg zI (by omega)) ?_
    exact r_iret X rfl (rfl) dX5_addCost_70 (⟨⟨⟨q1, q2, q3⟩, q5⟩, rfl, fun x hx => ar x (by omega) (by omega) (by omega), fun x hx => fr3 x (by omega) (by omega) (by omega) (by omega), ser, goal⟩) (by omega) (by omega)
  refine r_icmp_ge X 39 dX5_addCost_32 (by decide) (by unfold inR; omega) (by unfold inR; omega) (fun b => ?_) (fun b => ?_)
  · refine r_iconst X dX5_addCost_39 rfl ?_
    refine W_bF (Q := nc < 16) (by omega) ?_
    exact rest _ _ (by omega) (by omega)
  · refine r_iconst X dX5_addCost_35 rfl ?_
    refine r_goto X dX5_addCost_36 40 (by decide) ?_
    refine W_bT (Q := nc < 16) (by omega) ?_
    exact rest _ _ (by omega) (by omega)
