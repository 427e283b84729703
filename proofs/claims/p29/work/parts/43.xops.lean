/-! ===== the ledger's own steps: a commitment ends, lapses, the empty ones ===== -/
section
variable {g : Gx} {ad ad' : Nat → Nat} {F F' : Pic}
theorem LR.fr1 {rl k cap : Nat} {e e' : Nat → Nat} (h : LR g ad F rl k cap e) (h1 : F' rl = F rl) (h2 : F' (lra rl cap) = F (lra rl cap)) (he : ∀ i, i < k → e' i = e i) : LR g ad F' rl k cap e' := by
  obtain ⟨⟨mo, f, a, b, c⟩, d⟩ := h
  exact ⟨⟨mo, f, h1.trans a, h2.trans b, fun i hi => by rw [he i hi]; exact c i hi⟩, d⟩
theorem lra_c {rl cap : Nat} (h : cap = 0 ∨ (10 ≤ cap ∧ cap ≤ 60)) : lra rl cap = 99 ∨ (1000 * (rl - 100) < lra rl cap ∧ lra rl cap < 1000 * (rl - 100) + 100) := by
  unfold lra; split <;> omega
theorem u2_at {f : Nat → Nat → Int} {i k : Nat} {v : Int} : u2 f i k v i k = v := by unfold u2; rw [if_pos ⟨rfl, rfl⟩]
theorem CCo.toA {nc : Nat} {A A' P : Nat → Nat → Int} (h : CCo g ad F nc A P) (hA : ∀ c, 10 ≤ c → c ≤ 12 → ∀ j, j < nc → A' c j = A c j) : CCo g ad F nc A' P := by
  refine ⟨h.1, fun i hi => ⟨?_, (h.2.1 i hi).2⟩, h.2.2⟩
  rw [(h.2.1 i hi).1]; unfold coC; rw [hA 10 (by omega) (by omega) i hi, hA 11 (by omega) (by omega) i hi, hA 12 (by omega) (by omega) i hi]
theorem CK.toA {nk : Nat} {A A' : Nat → Nat → Int} {kf ser : Nat → Nat} {sn : Nat} (h : CK ad F nk A kf ser sn) (hA : ∀ c, 7 ≤ c → c ≤ 9 → ∀ j, j < nk → A' c j = A c j) : CK ad F nk A' kf ser sn := by
  refine ⟨h.1, fun i hi => ⟨?_, (h.2.1 i hi).2⟩, h.2.2⟩
  rw [(h.2.1 i hi).1]; unfold kmC; rw [hA 7 (by omega) (by omega) i hi, hA 8 (by omega) (by omega) i hi, hA 9 (by omega) (by omega) i hi]
theorem CFu.put {nf : Nat} {A A' : Nat → Nat → Int} {i : Nat} (h : CFu F nf A) (hi : i < nf) (h0 : F' (300 + i) = some (fuC A' i)) (h1 : ∀ x, 300 ≤ x → x < 400 → x ≠ 300 + i → F' x = F x) (hA : ∀ c, c ≤ 5 → ∀ j, j < nf → j ≠ i → A' c j = A c j) : CFu F' nf A' := by
  refine ⟨h.1, fun j hj => ?_, fun j h2 h3 => (h1 _ (by omega) (by omega) (by omega)).trans (h.2.2 j h2 h3)⟩
  by_cases e : j = i
  · rw [e]; exact h0
  · have := h.1
    rw [h1 _ (by omega) (by omega) (by omega), h.2.1 j hj]; unfold fuC
    rw [hA 0 (by omega) j hj e, hA 1 (by omega) j hj e, hA 2 (by omega) j hj e, hA 3 (by omega) j hj e, hA 4 (by omega) j hj e, hA 5 (by omega) j hj e]
end
/-- the numbers behind the end of commitment i -/
def fEnd (A : Nat → Nat → Int) (kf : Nat → Nat) (i : Nat) : Nat → Nat → Int := fun a x => if 7 ≤ a ∧ a ≤ 9 then (if x < i then A a x else A a (x + 1)) else if a = 0 ∧ x = kf i then A 0 x + A 8 i else A a x
theorem fEnd_o {A : Nat → Nat → Int} {kf : Nat → Nat} {i a : Nat} (h : ¬ (7 ≤ a ∧ a ≤ 9)) (h0 : a ≠ 0) : fEnd A kf i a = A a := by
  funext x; unfold fEnd; rw [if_neg h, if_neg (fun z => h0 z.1)]
theorem fEnd_0 {A : Nat → Nat → Int} {kf : Nat → Nat} {i x : Nat} : fEnd A kf i 0 x = if x = kf i then A 0 x + A 8 i else A 0 x := by
  unfold fEnd; rw [if_neg (by omega)]
  by_cases h : x = kf i
  · rw [if_pos ⟨rfl, h⟩, if_pos h]
  · rw [if_neg (fun z => h z.2), if_neg h]
theorem fEnd_k {A : Nat → Nat → Int} {kf : Nat → Nat} {i a x : Nat} (h : 7 ≤ a ∧ a ≤ 9) : fEnd A kf i a x = if x < i then A a x else A a (x + 1) := by
  unfold fEnd; rw [if_pos h]
set_option maxRecDepth 100000 in
set_option maxHeartbeats 4000000 in
theorem c_endC (g : Gx) (l : Launch) (hl : l.stackTraces = false) (ad : Nat → Nat) (F : Pic) (td : Int) (nf nk nc : Nat) (A P : Nat → Nat → Int) (kf ser : Nat → Nat) (sn : Nat) (hX : RX g ad F td nf nk nc A P kf ser sn) (i : Nat) (hi : i < nk) (hkf : kf i < nf) : Ct g l yX5_endCommitment cX5_endCommitment 3 none 4 0 0 [.ref (ad 100), .int (zI (i : Int))] ad F (fun v ad' F' => v = none ∧ ad = ad' ∧ FrX F F' ∧ RX g ad F' td nf (nk - 1) nc (fEnd A kf i) P (eDel kf i) (eDel ser i) sn) := by
  refine Ct_of hl rfl [some (.ref (ad 100)), some (.int (zI (i : Int))), none] (Nat.le_of_ble_eq_true rfl) (fun _ h => h) ?_
  intro M hL hN X
  subst hL
  obtain ⟨hO, ⟨⟨cap1, hR1, hLF1⟩, ⟨cap2, hR2, hLF2⟩, ⟨cap3, hR3, hLF3⟩, kp, ep, cap4, hR4, hLF4⟩, hP, ⟨hnf, hFu, hFuN⟩, ⟨hnc, hCo, hCoN⟩, ⟨⟨hnk, hsn⟩, hKm, hKi, hKN⟩⟩ := id hX; obtain ⟨hO, h9, a99⟩ := hO
  obtain ⟨mo1, ho1⟩ := hR1.obj; obtain ⟨mo2, ho2⟩ := hR2.obj; obtain ⟨mo3, ho3⟩ := hR3.obj; obtain ⟨mo4, ho4⟩ := hR4.obj
  have hlv : ∀ i, i < nk → LIVE ad F (ad (10000 + ser i)) := fun i hi => ⟨_, 3, _, rfl, (hKm i hi).1, ⟨by omega, by omega⟩, .inl rfl⟩
  have hk0 : F (10000 + ser i) = some (.inr (3, [.int (zI (A 8 i)), .ref (ad (300 + kf i)), .int (zI (A 7 i)), .int (zI (A 9 i))])) := (hKm i hi).1
  have hf0 : F (300 + kf i) = some (.inr (5, [.int (zI (A 0 (kf i))), .int (zI ((kf i : Nat) : Int)), .int (zI (A 1 (kf i))), .int (zI (A 2 (kf i))), .int (zI (A 3 (kf i))), .int (zI (A 4 (kf i))), .int (zI (A 5 (kf i)))])) := hFu _ hkf
  refine r_iload_n X dX5_endCommitment_0 (by rfl) ?_
  refine r_if_lt X 15 dX5_endCommitment_1 (by decide) (by unfold inR; omega) (fun a => ?_) (fun a => ?_)
  · omega
  · refine r_iload_n X dX5_endCommitment_4 (by rfl) ?_
    refine r_aload_n X dX5_endCommitment_5 (by rfl) ?_
    refine r_get X dX5_endCommitment_6 fgX5_16_7 (by assumption) (by rfl) ?_
    refine r_callV X dX5_endCommitment_9 kX5_41 (c_size g _ hl ad F 102 nk cap2 _ (by omega) hR2) (by assumption) (by rfl) (by rfl) (by rfl) (by rfl) (by exact Nat.le_of_ble_eq_true rfl) (by decide) (by decide) (by omega) (by omega) (fun v ad' F' hK => ?_)
    obtain ⟨rfl, rfl, rfl⟩ := hK
    refine r_icmp_lt X 16 dX5_endCommitment_12 (by decide) (by unfold inR; omega) (by unfold inR; omega) (fun b => ?_) (fun b => ?_)
    · refine r_aload_n X dX5_endCommitment_16 (by rfl) ?_
      refine r_get X dX5_endCommitment_17 fgX5_16_7 (by assumption) (by rfl) ?_
      refine r_iload_n X dX5_endCommitment_20 (by rfl) ?_
      refine r_callV X dX5_endCommitment_21 kX5_118 (c_get g _ hl ad F 102 nk cap2 _ (by omega) hR2 i hi) (by assumption) (by rfl) (by rfl) (by rfl) (by rfl) (by exact Nat.le_of_ble_eq_true rfl) (by decide) (by decide) (by omega) (by omega) (fun v ad' F' hK => ?_)
      obtain ⟨rfl, rfl, rfl⟩ := hK
      refine r_castM X dX5_endCommitment_24 w361 (hk0) ?_
      refine r_astore_n X dX5_endCommitment_27 (by rw [hN]; decide) (by rfl) ?_
      dsimp only [List.set]
      refine r_aload_n X dX5_endCommitment_28 (by rfl) ?_
      refine r_callV X dX5_endCommitment_29 kX5_122 (c_comOwner g _ hl ad F (10000 + ser i) (by omega) _ _ _ _ hk0 _ rfl) (by assumption) (by rfl) (by rfl) (by rfl) (by rfl) (by exact Nat.le_of_ble_eq_true rfl) (by decide) (by decide) (by omega) (by omega) (fun v ad' F' hK => ?_)
      obtain ⟨rfl, rfl, rfl⟩ := hK
      refine r_dup X dX5_endCommitment_32 (by rfl) ?_
      refine r_get X dX5_endCommitment_33 fgX5_62_5 (by assumption) (by rfl) ?_
      refine r_aload_n X dX5_endCommitment_36 (by rfl) ?_
      refine r_get X dX5_endCommitment_37 fgX5_78_3 (by assumption) (by rfl) ?_
      refine r_iadd X dX5_endCommitment_40 ?_
      refine r_put X dX5_endCommitment_41 fwX5_62_5 (by assumption) (by omega) (by exact Nat.le_of_ble_eq_true rfl) (by rfl) (by rfl) ?_
      dsimp only [List.set]
      refine (fun (k : ∀ F1 : Pic, (F1 (300 + kf i) = some (.inr (5, [.int (zI (A 0 (kf i) + A 8 i)), .int (zI ((kf i : Nat) : Int)), .int (zI (A 1 (kf i))), .int (zI (A 2 (kf i))), .int (zI (A 3 (kf i))), .int (zI (A 4 (kf i))), .int (zI (A 5 (kf i)))]))) → (∀ x, x ≠ 300 + kf i → F1 x = F x) → V M g ad F1 _ _ _ _ _) => k _ (pu_s) (fun x hx => pu_n hx)) ?_
      intro F1 h1 s1
      have hc2 := hR2.2.2
      have hl2 := lra_c (rl := 102) hc2
      have ho1' : F1 102 = _ := (s1 102 (by omega)).trans ho2
      have h100 : F1 100 = _ := (s1 100 (by omega)).trans hO
      refine r_aload_n X dX5_endCommitment_44 (by rfl) ?_
      refine r_get X dX5_endCommitment_45 fgX5_16_7 (by assumption) (by rfl) ?_
      refine r_iload_n X dX5_endCommitment_48 (by rfl) ?_
      refine r_callV X dX5_endCommitment_49 kX5_196 (c_remove g _ hl ad F1 102 nk cap2 _ (by omega) (hR2.fr1 (s1 _ (by omega)) (s1 _ (by omega)) (fun _ _ => rfl)) (fun j hj => ⟨_, 3, _, rfl, (s1 _ (by omega)).trans (hKm j hj).1, ⟨by omega, by omega⟩, .inl rfl⟩) i hi) (by assumption) (by rfl) (by rfl) (by rfl) (by rfl) (by exact Nat.le_of_ble_eq_true rfl) (by decide) (by decide) (by omega) (by omega) (fun v ad' F2 hK => ?_)
      obtain ⟨rfl, rfl, hF2, hR2', hLF2'⟩ := hK
      have fr : ∀ x, x ≠ 102 → ¬ (2000 < x ∧ x < 2100) → x ≠ 300 + kf i → F2 x = F x := fun x q1 q2 q3 => (hF2 x q1 q2).trans (s1 x q3)
      have hl9 : lra 102 cap2 = 99 ∨ lra 102 cap2 = 2000 + cap2 := by unfold lra; split <;> omega
      refine r_pop X dX5_endCommitment_52 (by rfl) ?_
      have goal : RX g ad F2 td nf (nk - 1) nc (fEnd A kf i) P (eDel kf i) (eDel ser i) sn := by
        refine ⟨CO.fr ⟨hO, h9, a99⟩ (fr _ (by omega) (by omega) (by omega)) (fr _ (by omega) (by omega) (by omega)) (fun _ _ => rfl), ⟨CL.fr ⟨cap1, hR1, hLF1⟩ (by omega) (fun x hx => fr x ?_ ?_ ?_) (fun _ _ => rfl) (fun _ _ => rfl), ⟨cap2, hR2'.fr1 rfl rfl (fun j hj => ?_), hLF2' (fun c q1 q2 => (s1 _ (by omega)).trans (hLF2 c q1 q2))⟩, CL.fr ⟨cap3, hR3, hLF3⟩ (by omega) (fun x hx => fr x ?_ ?_ ?_) (fun _ _ => rfl) (fun _ _ => rfl), kp, ep, CL.fr ⟨cap4, hR4, hLF4⟩ (by omega) (fun x hx => fr x ?_ ?_ ?_) (fun _ _ => rfl) (fun _ _ => rfl)⟩,
          hP.fr (fun x q1 q2 => fr x (by omega) (by omega) (by omega)) (fun _ _ _ => rfl), ?_, ?_, ?_⟩
        all_goals try (unfold inA at hx; omega)
        · unfold eDel; dsimp only; split <;> rfl
        · refine CFu.put (A := A) (i := kf i) ⟨hnf, hFu, hFuN⟩ hkf ?_ (fun x q1 q2 q3 => fr x (by omega) (by omega) q3) (fun c hc j hj hne => ?_)
          · rw [hF2 _ (by omega) (by omega), h1]; unfold fuC
            rw [fEnd_0, if_pos rfl, fEnd_o (a := 1) (by omega) (by omega), fEnd_o (a := 2) (by omega) (by omega), fEnd_o (a := 3) (by omega) (by omega), fEnd_o (a := 4) (by omega) (by omega), fEnd_o (a := 5) (by omega) (by omega)]
          · by_cases e : c = 0
            · rw [e, fEnd_0, if_neg hne]
            · rw [fEnd_o (by omega) e]
        · exact CCo.toA (CCo.fr ⟨hnc, hCo, hCoN⟩ (fun x q1 q2 => fr x (by omega) (by omega) (by omega)) (fun _ _ => rfl)) (fun c q1 q2 j hj => by rw [fEnd_o (by omega) (by omega)])
        · have sh : ∀ j, j < nk - 1 → (∀ (f : Nat → Nat), eDel f i j = f (if j < i then j else j + 1)) ∧ (∀ a, 7 ≤ a ∧ a ≤ 9 → fEnd A kf i a j = A a (if j < i then j else j + 1)) ∧ (if j < i then j else j + 1) < nk := fun j hj => ⟨fun f => by unfold eDel; split <;> rfl, fun a ha => by rw [fEnd_k ha]; split <;> rfl, by split <;> omega⟩
          refine ⟨⟨by omega, hsn⟩, fun j hj => ?_, fun j j2 hj hj2 hs => ?_, fun s q1 q2 => (fr _ (by omega) (by omega) (by omega)).trans (hKN s q1 q2)⟩
          · obtain ⟨e1, e2, e3⟩ := sh j hj
            obtain ⟨q1, q2⟩ := hKm _ e3
            rw [e1, fr _ (by omega) (by omega) (by omega)]
            refine ⟨?_, q2⟩
            rw [q1]; unfold kmC; rw [e1, e2 7 (by omega), e2 8 (by omega), e2 9 (by omega)]
          · obtain ⟨e1, e2, e3⟩ := sh j hj
            obtain ⟨f1, f2, f3⟩ := sh j2 hj2
            rw [e1, f1] at hs
            have := hKi _ _ e3 f3 hs
            split at this <;> split at this <;> omega
      exact r_vret X rfl dX5_endCommitment_53 (⟨rfl, rfl, fun x hx => fr x (by omega) (by omega) (by omega), goal⟩) (by omega) (by omega)
    · omega
