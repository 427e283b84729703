/-! ===== commitments that lapse, and empty ones ===== -/
theorem sm_del {n i : Nat} {f : Nat → Int} (hi : i < n) : sm (n - 1) (fun x => if x < i then f x else f (x + 1)) = sm n f - f i := by
  induction n with
  | zero => omega
  | succ n ih =>
    show sm n (fun x => if x < i then f x else f (x + 1)) = sm n f + f n - f i
    by_cases h : i = n
    · subst h
      rw [sm_congr (h := f) (fun x hx => if_pos hx)]; omega
    · have h2 := ih (by omega)
      obtain ⟨m, rfl⟩ : ∃ m, n = m + 1 := ⟨n - 1, by omega⟩
      have h3 : sm m (fun x => if x < i then f x else f (x + 1)) = sm (m + 1) f - f i := h2
      show sm m (fun x => if x < i then f x else f (x + 1)) + (if m < i then f m else f (m + 1)) = _
      rw [h3, if_neg (by omega)]; omega
theorem IV.ends {td : Int} {nf nk nc : Nat} {A : Nat → Nat → Int} {kf : Nat → Nat} {t i : Nat} (h : IV td nf nk nc A kf t) (hi : i < nk) : IV td nf (nk - 1) nc (fEnd A kf i) (eDel kf i) t := by
  obtain ⟨h1, h2, h3, h4, h5, h6⟩ := h
  obtain ⟨hk, h7, h8, h9⟩ := h3 i hi
  have e0 : sm nf (fEnd A kf i 0) = sm nf (A 0) + A 8 i := by
    rw [sm_congr (h := fun x => if x = kf i then A 0 (kf i) + A 8 i else A 0 x) (fun x _ => by rw [fEnd_0]; split <;> simp_all), sm_put, if_pos hk]; omega
  have e8 : sm (nk - 1) (fEnd A kf i 8) = sm nk (A 8) - A 8 i := by
    rw [sm_congr (h := fun x => if x < i then A 8 x else A 8 (x + 1)) (fun x _ => fEnd_k (by omega)), sm_del hi]
  refine ⟨by omega, fun x hx => ?_, fun x hx => ?_, fun x hx => ?_, by omega, ?_⟩
  · obtain ⟨q0, q1, q2, q3, q4, q5⟩ := h2 x hx
    rw [fEnd_0, fEnd_o (a := 1) (by omega) (by omega), fEnd_o (a := 2) (by omega) (by omega), fEnd_o (a := 3) (by omega) (by omega), fEnd_o (a := 4) (by omega) (by omega), fEnd_o (a := 5) (by omega) (by omega)]
    refine ⟨?_, q1, q2, q3, q4, q5⟩
    split <;> omega
  · rw [fEnd_k (a := 7) (by omega), fEnd_k (a := 8) (by omega), fEnd_k (a := 9) (by omega)]
    unfold eDel
    by_cases hx2 : x < i
    · rw [if_pos hx2, if_pos hx2, if_pos hx2, if_pos hx2]; exact h3 x (by omega)
    · rw [if_neg hx2, if_neg hx2, if_neg hx2, if_neg hx2]; exact h3 (x + 1) (by omega)
  · rw [fEnd_o (a := 10) (by omega) (by omega), fEnd_o (a := 11) (by omega) (by omega), fEnd_o (a := 12) (by omega) (by omega)]
    exact h4 x hx
  · rw [fEnd_o (a := 4) (by omega) (by omega), fEnd_o (a := 12) (by omega) (by omega)]; exact h6
abbrev KS := Nat × (Nat → Nat → Int) × (Nat → Nat)
/-- from the last of k commitments down: those that q names end -/
def endS (q : (Nat → Nat → Int) → Nat → Bool) : Nat → KS → KS
  | 0, s => s
  | k + 1, s => endS q k (if q s.2.1 k = true then (s.1 - 1, fEnd s.2.1 s.2.2 k, eDel s.2.2 k) else s)
theorem endS_y {q : (Nat → Nat → Int) → Nat → Bool} {k nk : Nat} {A : Nat → Nat → Int} {kf : Nat → Nat} (h : q A k = true) : endS q (k + 1) (nk, A, kf) = endS q k (nk - 1, fEnd A kf k, eDel kf k) := by
  show endS q k (if q A k = true then _ else _) = _
  rw [if_pos h]
theorem endS_n {q : (Nat → Nat → Int) → Nat → Bool} {k nk : Nat} {A : Nat → Nat → Int} {kf : Nat → Nat} (h : ¬ q A k = true) : endS q (k + 1) (nk, A, kf) = endS q k (nk, A, kf) := by
  show endS q k (if q A k = true then _ else _) = _
  rw [if_neg h]
theorem endS_iv {q : (Nat → Nat → Int) → Nat → Bool} {td : Int} {nf nc t : Nat} : ∀ (k : Nat) (nk : Nat) (A : Nat → Nat → Int) (kf : Nat → Nat), k ≤ nk → IV td nf nk nc A kf t → IV td nf (endS q k (nk, A, kf)).1 nc (endS q k (nk, A, kf)).2.1 (endS q k (nk, A, kf)).2.2 t := by
  intro k
  induction k with
  | zero => intro nk A kf _ h; exact h
  | succ k ih =>
    intro nk A kf hk h
    by_cases e : q A k = true
    · rw [endS_y e]; exact ih _ _ _ (by omega) (h.ends (by omega))
    · rw [endS_n e]; exact ih _ _ _ (by omega) h
noncomputable def qLap (td : Int) : (Nat → Nat → Int) → Nat → Bool := fun A k => decide (A 9 k < td)
noncomputable def qEmp : (Nat → Nat → Int) → Nat → Bool := fun A k => decide (A 8 k = 0)
set_option maxRecDepth 100000 in
set_option maxHeartbeats 4000000 in
theorem c_lapse (g : Gx) (l : Launch) (hl : l.stackTraces = false) (ad : Nat → Nat) (F : Pic) (td : Int) (nf nk nc : Nat) (A P : Nat → Nat → Int) (kf ser : Nat → Nat) (sn : Nat) (hX : RX g ad F td nf nk nc A P kf ser sn) (t : Nat) (hI : IV td nf nk nc A kf t) : Ct g l yX5_lapseCommitments cX5_lapseCommitments 3 (some .int) 5 0 0 [.ref (ad 100)] ad F (fun v ad' F' => v = some (.int (zI ((nk : Int) - (endS (qLap td) nk (nk, A, kf)).1))) ∧ ad = ad' ∧ FrX F F' ∧ ∃ ser', RX g ad F' td nf (endS (qLap td) nk (nk, A, kf)).1 nc (endS (qLap td) nk (nk, A, kf)).2.1 P (endS (qLap td) nk (nk, A, kf)).2.2 ser' sn) := by
  refine Ct_of hl rfl [some (.ref (ad 100)), none, none] (Nat.le_of_ble_eq_true rfl) (fun _ h => h) ?_
  intro M hL hN X
  subst hL
  have loop : ∀ (k : Nat) (F1 : Pic) (nk1 : Nat) (A1 : Nat → Nat → Int) (kf1 ser1 : Nat → Nat) (w z : Int), k ≤ nk1 → nk1 ≤ nk → w = (nk : Int) - nk1 → z = (k : Int) - 1 → FrX F F1 → RX g ad F1 td nf nk1 nc A1 P kf1 ser1 sn → IV td nf nk1 nc A1 kf1 t → endS (qLap td) k (nk1, A1, kf1) = endS (qLap td) nk (nk, A, kf) →
      V M g ad F1 0 0 12 [some (.ref (ad 100)), some (.int (zI w)), some (.int (zI z))] [] := by
    intro k
    induction k with
    | zero =>
      intro F1 nk1 A1 kf1 ser1 w z hk1 hk2 hw hz hF hX1 hI1 he
      have := hI.1
      refine r_iload_n X dX5_lapseCommitments_12 (by rfl) ?_
      refine r_if_lt X 51 dX5_lapseCommitments_13 (by decide) (by unfold inR; omega) (fun a => ?_) (fun a => ?_)
      · refine r_iload_n X dX5_lapseCommitments_51 (by rfl) ?_
        refine W_int (b := zI ((nk : Int) - nk1)) (by rw [hw]) ?_
        exact r_iret X rfl (rfl) dX5_lapseCommitments_52 (⟨by rw [← he]; rfl, rfl, hF, ser1, by rw [← he]; exact hX1⟩) (by omega) (by omega)
      · omega
    | succ k ih =>
      intro F1 nk1 A1 kf1 ser1 w z hk1 hk2 hw hz hF hX1 hI1 he
      obtain rfl : z = (k : Int) := by omega
      obtain ⟨hO, ⟨⟨cap1, hR1, hLF1⟩, ⟨cap2, hR2, hLF2⟩, -⟩, -, -, -, ⟨⟨hnk, hsn⟩, hKm, hKi, hKN⟩⟩ := id hX1
      obtain ⟨hO, h9, a99⟩ := hO
      obtain ⟨mo2, ho2⟩ := hR2.obj
      obtain ⟨hkk, -, -, h9a, h9b⟩ := hI1.2.2.1 k (by omega)
      have hI0 := hI.1
      have hk0 : F1 (10000 + ser1 k) = some (.inr (3, [.int (zI (A1 8 k)), .ref (ad (300 + kf1 k)), .int (zI (A1 7 k)), .int (zI (A1 9 k))])) := (hKm k (by omega)).1
      refine r_iload_n X dX5_lapseCommitments_12 (by rfl) ?_
      refine r_if_lt X 51 dX5_lapseCommitments_13 (by decide) (by unfold inR; omega) (fun a => ?_) (fun a => ?_)
      · omega
      · refine r_aload_n X dX5_lapseCommitments_16 (by rfl) ?_
        refine r_get X dX5_lapseCommitments_17 fgX5_16_7 (by assumption) (by rfl) ?_
        refine r_iload_n X dX5_lapseCommitments_20 (by rfl) ?_
        refine r_callV X dX5_lapseCommitments_21 kX5_118 (c_get g _ hl ad F1 102 nk1 cap2 _ (by omega) hR2 k (by omega)) (by assumption) (by rfl) (by rfl) (by rfl) (by rfl) (by exact Nat.le_of_ble_eq_true rfl) (by decide) (by decide) (by omega) (by omega) (fun v ad' F' hK => ?_)
        obtain ⟨rfl, rfl, rfl⟩ := hK
        refine r_castM X dX5_lapseCommitments_24 w361 (hk0) ?_
        refine r_callV X dX5_lapseCommitments_27 kX5_138 (c_comExpiry g _ hl ad F1 (10000 + ser1 k) (by omega) _ _ _ _ hk0) (by assumption) (by rfl) (by rfl) (by rfl) (by rfl) (by exact Nat.le_of_ble_eq_true rfl) (by decide) (by decide) (by omega) (by omega) (fun v ad' F' hK => ?_)
        obtain ⟨rfl, rfl, rfl⟩ := hK
        refine r_aload_n X dX5_lapseCommitments_30 (by rfl) ?_
        refine r_get X dX5_lapseCommitments_31 fgX5_32_7 (by assumption) (by rfl) ?_
        refine r_icmp_ge X 45 dX5_lapseCommitments_34 (by decide) (by unfold inR; omega) (by unfold inR; omega) (fun b => ?_) (fun b => ?_)
        · refine r_iinc X dX5_lapseCommitments_45 (by rfl) (by rw [hN]; decide) (by rfl) ?_
          dsimp only [List.set]
          refine r_goto X dX5_lapseCommitments_48 12 (by decide) ?_
          exact ih F1 nk1 A1 kf1 ser1 w _ (by omega) hk2 hw (by omega) hF hX1 hI1 (by rw [← he, endS_n]; unfold qLap; simp; omega)
        · refine r_aload_n X dX5_lapseCommitments_37 (by rfl) ?_
          refine r_iload_n X dX5_lapseCommitments_38 (by rfl) ?_
          refine r_callV X dX5_lapseCommitments_39 kX5_79 (c_endC g _ hl ad F1 _ _ _ _ _ _ _ _ _ hX1 k (by omega) hkk) (by assumption) (by rfl) (by rfl) (by rfl) (by rfl) (by exact Nat.le_of_ble_eq_true rfl) (by decide) (by decide) (by omega) (by omega) (fun v ad' F2 hK => ?_)
          obtain ⟨rfl, rfl, hF2, hX2⟩ := hK
          refine r_iinc X dX5_lapseCommitments_42 (by rfl) (by rw [hN]; decide) (by rfl) ?_
          dsimp only [List.set]
          refine r_iinc X dX5_lapseCommitments_45 (by rfl) (by rw [hN]; decide) (by rfl) ?_
          dsimp only [List.set]
          refine r_goto X dX5_lapseCommitments_48 12 (by decide) ?_
          exact ih F2 (nk1 - 1) _ _ _ _ _ (by omega) (by omega) (by omega) (by omega) (hF.tr hF2) hX2 (hI1.ends (by omega)) (by rw [← he, endS_y]; unfold qLap; simp; omega)
  obtain ⟨hO, ⟨⟨cap1, hR1, hLF1⟩, ⟨cap2, hR2, hLF2⟩, ⟨cap3, hR3, hLF3⟩, kp, ep, cap4, hR4, hLF4⟩, hP, ⟨hnf, hFu, hFuN⟩, ⟨hnc, hCo, hCoN⟩, ⟨⟨hnk, hsn⟩, hKm, hKi, hKN⟩⟩ := id hX; obtain ⟨hO, h9, a99⟩ := hO
  obtain ⟨mo1, ho1⟩ := hR1.obj; obtain ⟨mo2, ho2⟩ := hR2.obj; obtain ⟨mo3, ho3⟩ := hR3.obj; obtain ⟨mo4, ho4⟩ := hR4.obj
  refine r_iconst X dX5_lapseCommitments_0 rfl ?_
  refine r_istore_n X dX5_lapseCommitments_1 (by rw [hN]; decide) (by rfl) ?_
  dsimp only [List.set]
  refine r_aload_n X dX5_lapseCommitments_2 (by rfl) ?_
  refine r_get X dX5_lapseCommitments_3 fgX5_16_7 (by assumption) (by rfl) ?_
  refine r_callV X dX5_lapseCommitments_6 kX5_41 (c_size g _ hl ad F 102 nk cap2 _ (by omega) hR2) (by assumption) (by rfl) (by rfl) (by rfl) (by rfl) (by exact Nat.le_of_ble_eq_true rfl) (by decide) (by decide) (by omega) (by omega) (fun v ad' F' hK => ?_)
  obtain ⟨rfl, rfl, rfl⟩ := hK
  refine r_iconst X dX5_lapseCommitments_9 rfl ?_
  refine r_isub X dX5_lapseCommitments_10 ?_
  refine r_istore_n X dX5_lapseCommitments_11 (by rw [hN]; decide) (by rfl) ?_
  dsimp only [List.set]
  exact loop nk F nk A kf ser 0 _ (by omega) (by omega) (by omega) rfl FrX.rf hX hI rfl
set_option maxRecDepth 100000 in
set_option maxHeartbeats 4000000 in
theorem c_ends (g : Gx) (l : Launch) (hl : l.stackTraces = false) (ad : Nat → Nat) (F : Pic) (td : Int) (nf nk nc : Nat) (A P : Nat → Nat → Int) (kf ser : Nat → Nat) (sn : Nat) (hX : RX g ad F td nf nk nc A P kf ser sn) (t : Nat) (hI : IV td nf nk nc A kf t) : Ct g l yX5_endEmptyCommitments cX5_endEmptyCommitments 2 none 5 0 0 [.ref (ad 100)] ad F (fun v ad' F' => v = none ∧ ad = ad' ∧ FrX F F' ∧ ∃ ser', RX g ad F' td nf (endS qEmp nk (nk, A, kf)).1 nc (endS qEmp nk (nk, A, kf)).2.1 P (endS qEmp nk (nk, A, kf)).2.2 ser' sn) := by
  refine Ct_of hl rfl [some (.ref (ad 100)), none] (Nat.le_of_ble_eq_true rfl) (fun _ h => h) ?_
  intro M hL hN X
  subst hL
  have loop : ∀ (k : Nat) (F1 : Pic) (nk1 : Nat) (A1 : Nat → Nat → Int) (kf1 ser1 : Nat → Nat) (z : Int), k ≤ nk1 → nk1 ≤ nk → z = (k : Int) - 1 → FrX F F1 → RX g ad F1 td nf nk1 nc A1 P kf1 ser1 sn → IV td nf nk1 nc A1 kf1 t → endS qEmp k (nk1, A1, kf1) = endS qEmp nk (nk, A, kf) →
      V M g ad F1 0 0 10 [some (.ref (ad 100)), some (.int (zI z))] [] := by
    intro k
    induction k with
    | zero =>
      intro F1 nk1 A1 kf1 ser1 z hk1 hk2 hz hF hX1 hI1 he
      have := hI.1
      refine r_iload_n X dX5_endEmptyCommitments_10 (by rfl) ?_
      refine r_if_lt X 42 dX5_endEmptyCommitments_11 (by decide) (by unfold inR; omega) (fun a => ?_) (fun a => ?_)
      · exact r_vret X rfl dX5_endEmptyCommitments_42 (⟨rfl, rfl, hF, ser1, by rw [← he]; exact hX1⟩) (by omega) (by omega)
      · omega
    | succ k ih =>
      intro F1 nk1 A1 kf1 ser1 z hk1 hk2 hz hF hX1 hI1 he
      obtain rfl : z = (k : Int) := by omega
      obtain ⟨hO, ⟨⟨cap1, hR1, hLF1⟩, ⟨cap2, hR2, hLF2⟩, -⟩, -, -, -, ⟨⟨hnk, hsn⟩, hKm, hKi, hKN⟩⟩ := id hX1
      obtain ⟨hO, h9, a99⟩ := hO
      obtain ⟨mo2, ho2⟩ := hR2.obj
      obtain ⟨hkk, -, -, h9a, h9b⟩ := hI1.2.2.1 k (by omega)
      have hb8 := hI1.b8 (i := k) (by omega)
      have hI0 := hI.1
      have hk0 : F1 (10000 + ser1 k) = some (.inr (3, [.int (zI (A1 8 k)), .ref (ad (300 + kf1 k)), .int (zI (A1 7 k)), .int (zI (A1 9 k))])) := (hKm k (by omega)).1
      refine r_iload_n X dX5_endEmptyCommitments_10 (by rfl) ?_
      refine r_if_lt X 42 dX5_endEmptyCommitments_11 (by decide) (by unfold inR; omega) (fun a => ?_) (fun a => ?_)
      · omega
      · refine r_aload_n X dX5_endEmptyCommitments_14 (by rfl) ?_
        refine r_get X dX5_endEmptyCommitments_15 fgX5_16_7 (by assumption) (by rfl) ?_
        refine r_iload_n X dX5_endEmptyCommitments_18 (by rfl) ?_
        refine r_callV X dX5_endEmptyCommitments_19 kX5_118 (c_get g _ hl ad F1 102 nk1 cap2 _ (by omega) hR2 k (by omega)) (by assumption) (by rfl) (by rfl) (by rfl) (by rfl) (by exact Nat.le_of_ble_eq_true rfl) (by decide) (by decide) (by omega) (by omega) (fun v ad' F' hK => ?_)
        obtain ⟨rfl, rfl, rfl⟩ := hK
        refine r_castM X dX5_endEmptyCommitments_22 w361 (hk0) ?_
        refine r_get X dX5_endEmptyCommitments_25 fgX5_78_3 (by assumption) (by rfl) ?_
        refine r_if_ne X 36 dX5_endEmptyCommitments_28 (by decide) (by unfold inR; omega) (fun b => ?_) (fun b => ?_)
        · refine r_iinc X dX5_endEmptyCommitments_36 (by rfl) (by rw [hN]; decide) (by rfl) ?_
          dsimp only [List.set]
          refine r_goto X dX5_endEmptyCommitments_39 10 (by decide) ?_
          exact ih F1 nk1 A1 kf1 ser1 _ (by omega) hk2 (by omega) hF hX1 hI1 (by rw [← he, endS_n]; unfold qEmp; simp; omega)
        · refine r_aload_n X dX5_endEmptyCommitments_31 (by rfl) ?_
          refine r_iload_n X dX5_endEmptyCommitments_32 (by rfl) ?_
          refine r_callV X dX5_endEmptyCommitments_33 kX5_79 (c_endC g _ hl ad F1 _ _ _ _ _ _ _ _ _ hX1 k (by omega) hkk) (by assumption) (by rfl) (by rfl) (by rfl) (by rfl) (by exact Nat.le_of_ble_eq_true rfl) (by decide) (by decide) (by omega) (by omega) (fun v ad' F2 hK => ?_)
          obtain ⟨rfl, rfl, hF2, hX2⟩ := hK
          refine r_iinc X dX5_endEmptyCommitments_36 (by rfl) (by rw [hN]; decide) (by rfl) ?_
          dsimp only [List.set]
          refine r_goto X dX5_endEmptyCommitments_39 10 (by decide) ?_
          exact ih F2 (nk1 - 1) _ _ _ _ (by omega) (by omega) (by omega) (hF.tr hF2) hX2 (hI1.ends (by omega)) (by rw [← he, endS_y]; unfold qEmp; simp; omega)
  obtain ⟨hO, ⟨⟨cap1, hR1, hLF1⟩, ⟨cap2, hR2, hLF2⟩, ⟨cap3, hR3, hLF3⟩, kp, ep, cap4, hR4, hLF4⟩, hP, ⟨hnf, hFu, hFuN⟩, ⟨hnc, hCo, hCoN⟩, ⟨⟨hnk, hsn⟩, hKm, hKi, hKN⟩⟩ := id hX; obtain ⟨hO, h9, a99⟩ := hO
  obtain ⟨mo1, ho1⟩ := hR1.obj; obtain ⟨mo2, ho2⟩ := hR2.obj; obtain ⟨mo3, ho3⟩ := hR3.obj; obtain ⟨mo4, ho4⟩ := hR4.obj
  refine r_aload_n X dX5_endEmptyCommitments_0 (by rfl) ?_
  refine r_get X dX5_endEmptyCommitments_1 fgX5_16_7 (by assumption) (by rfl) ?_
  refine r_callV X dX5_endEmptyCommitments_4 kX5_41 (c_size g _ hl ad F 102 nk cap2 _ (by omega) hR2) (by assumption) (by rfl) (by rfl) (by rfl) (by rfl) (by exact Nat.le_of_ble_eq_true rfl) (by decide) (by decide) (by omega) (by omega) (fun v ad' F' hK => ?_)
  obtain ⟨rfl, rfl, rfl⟩ := hK
  refine r_iconst X dX5_endEmptyCommitments_7 rfl ?_
  refine r_isub X dX5_endEmptyCommitments_8 ?_
  refine r_istore_n X dX5_endEmptyCommitments_9 (by rw [hN]; decide) (by rfl) ?_
  dsimp only [List.set]
  exact loop nk F nk A kf ser _ (by omega) (by omega) rfl FrX.rf hX hI rfl
