/-! ===== overhead: its rounds ===== -/
theorem roA_eq {A B : Nat → Nat → Int} {i : Nat} (h : ∀ a, a ≤ 5 → B a i = A a i) : roA B i = roA A i := by
  unfold roA; rw [h 0 (by omega), h 3 (by omega), h 4 (by omega), h 5 (by omega)]
theorem roA_pos {td : Int} {nf nk nc : Nat} {A : Nat → Nat → Int} {kf : Nat → Nat} {t i : Nat} (hI : IV td nf nk nc A kf t) (hi : i < nf) (h : 0 < roA A i) : 0 < A 4 i := by
  obtain ⟨-, -, -, q3, q4, q5⟩ := hI.2.1 i hi
  rcases Int.lt_or_le 0 (A 4 i) with z | z
  · exact z
  · have e : A 4 i = 0 := by omega
    unfold roA roZ at h
    rw [e] at h
    simp at h
    omega
theorem rnd_m {td : Int} {nf nk nc : Nat} {A : Nat → Nat → Int} {kf : Nat → Nat} {t i : Nat} {amt all : Int} (hI : IV td nf nk nc A kf t) (hi : i < nf) (ha : 0 ≤ amt) (hl : 0 ≤ all) : 0 ≤ min (amt * A 4 i / all) (roA A i) ∧ min (amt * A 4 i / all) (roA A i) ≤ roA A i := by
  have h1 : 0 ≤ amt * A 4 i / all := Int.ediv_nonneg (Int.mul_nonneg ha (hI.b4 hi).1) hl
  have := (roA_b hI hi).1
  omega
theorem rnd_iv {td : Int} {nf nk nc : Nat} {A : Nat → Nat → Int} {kf : Nat → Nat} {t : Nat} {amt all : Int} (hI : IV td nf nk nc A kf t) (ha : 0 ≤ amt) (hl : 0 ≤ all) : ∀ i, i ≤ nf → IV td nf nk nc (rndS A amt all i).1 kf t ∧ 0 ≤ (rndS A amt all i).2 ∧ (rndS A amt all i).2 ≤ sm i (A 0) := by
  intro i
  induction i with
  | zero => intro _; exact ⟨hI, Int.le_refl _, Int.le_refl _⟩
  | succ i ih =>
    intro hi
    obtain ⟨h1, h2, h3⟩ := ih (by omega)
    have hm := rnd_m hI (by omega : i < nf) ha hl
    have hb := roA_b hI (by omega : i < nf)
    have h0 := (hI.2.1 i (by omega)).1
    show IV td nf nk nc (if 0 < roA A i then (takeA (rndS A amt all i).1 i _, _) else rndS A amt all i).1 kf t ∧ 0 ≤ (if 0 < roA A i then (takeA (rndS A amt all i).1 i _, _) else rndS A amt all i).2 ∧ (if 0 < roA A i then (takeA (rndS A amt all i).1 i _, _) else rndS A amt all i).2 ≤ sm i (A 0) + A 0 i
    split
    · refine ⟨h1.take (by omega) ⟨hm.1, ?_⟩, ?_, ?_⟩
      · rw [roA_eq (A := A) (fun a _ => rnd_n A amt all i a i (Nat.le_refl _))]; exact hm.2
      · show 0 ≤ (rndS A amt all i).2 + _; omega
      · show (rndS A amt all i).2 + _ ≤ _; omega
    · exact ⟨h1, h2, by omega⟩
theorem rnd_z {td : Int} {nf nk nc : Nat} {A : Nat → Nat → Int} {kf : Nat → Nat} {t : Nat} {amt all : Int} (hI : IV td nf nk nc A kf t) (h : allR A nf ≤ 0) : ∀ i, i ≤ nf → rndS A amt all i = (A, 0) := by
  have hz : ∀ i, i < nf → ¬ 0 < roA A i := fun i hi hp => by
    have h1 := roA_pos hI hi hp
    have h2 := sm_one (n := nf) (f := fun f => if 0 < roA A f then A 4 f else 0) (fun f hf => by
      have := (hI.b4 hf).1
      show 0 ≤ (if 0 < roA A f then A 4 f else 0)
      split <;> omega) hi
    have h3 : (if 0 < roA A i then A 4 i else 0) ≤ allR A nf := h2
    rw [if_pos hp] at h3
    omega
  intro i
  induction i with
  | zero => intro _; rfl
  | succ i ih =>
    intro hi
    show (if 0 < roA A i then _ else rndS A amt all i) = _
    rw [if_neg (hz i (by omega))]; exact ih (by omega)
theorem one_iv {td : Int} {nf nk nc : Nat} {A : Nat → Nat → Int} {kf : Nat → Nat} {t : Nat} {amt : Int} (hI : IV td nf nk nc A kf t) : ∀ i, i ≤ nf → IV td nf nk nc (oneS A amt i).1 kf t ∧ 0 ≤ (oneS A amt i).2 ∧ (oneS A amt i).2 ≤ i := by
  intro i
  induction i with
  | zero => intro _; exact ⟨hI, Int.le_refl _, Int.le_refl _⟩
  | succ i ih =>
    intro hi
    obtain ⟨h1, h2, h3⟩ := ih (by omega)
    show IV td nf nk nc (if (oneS A amt i).2 < amt ∧ 0 < roA A i then (takeA (oneS A amt i).1 i 1, (oneS A amt i).2 + 1) else oneS A amt i).1 kf t ∧ 0 ≤ (if (oneS A amt i).2 < amt ∧ 0 < roA A i then (takeA (oneS A amt i).1 i 1, (oneS A amt i).2 + 1) else oneS A amt i).2 ∧ (if (oneS A amt i).2 < amt ∧ 0 < roA A i then (takeA (oneS A amt i).1 i 1, (oneS A amt i).2 + 1) else oneS A amt i).2 ≤ ((i + 1 : Nat) : Int)
    split
    · rename_i hc
      refine ⟨h1.take (by omega) ⟨by omega, ?_⟩, ?_, ?_⟩
      · rw [roA_eq (A := A) (fun a _ => one_n A amt i a i (Nat.le_refl _))]; omega
      · show 0 ≤ (oneS A amt i).2 + 1; omega
      · show (oneS A amt i).2 + 1 ≤ _; omega
    · exact ⟨h1, h2, by omega⟩
theorem one_stop {A : Nat → Nat → Int} {amt : Int} {i : Nat} (h : amt ≤ (oneS A amt i).2) : ∀ n, i ≤ n → oneS A amt n = oneS A amt i := by
  intro n
  induction n with
  | zero => intro z; rw [show i = 0 by omega]
  | succ n ih =>
    intro z
    by_cases e : i = n + 1
    · rw [e]
    · have h1 := ih (by omega)
      show (if (oneS A amt n).2 < amt ∧ 0 < roA A n then _ else oneS A amt n) = _
      rw [h1, if_neg (by omega)]
set_option maxRecDepth 100000 in
set_option maxHeartbeats 4000000 in
theorem c_shareBy (g : Gx) (l : Launch) (hl : l.stackTraces = false) (ad : Nat → Nat) (F : Pic) (td : Int) (nf nk nc : Nat) (A P : Nat → Nat → Int) (kf ser : Nat → Nat) (sn : Nat) (hX : RX g ad F td nf nk nc A P kf ser sn) (t : Nat) (hI : IV td nf nk nc A kf t) (amt : Int) (ha : 0 ≤ amt ∧ amt ≤ 99999) : Ct g l yX5_shareByDirectCosts cX5_shareByDirectCosts 11 (some .int) 5 0 0 [.ref (ad 100), .int (zI amt)] ad F (fun v ad' F' => v = some (.int (zI (rndS A amt (allR A nf) nf).2)) ∧ ad = ad' ∧ FrX F F' ∧ RX g ad' F' td nf nk nc (rndS A amt (allR A nf) nf).1 P kf ser sn) := by
  refine Ct_of hl rfl [some (.ref (ad 100)), some (.int (zI amt)), none, none, none, none, none, none, none, none, none] (Nat.le_of_ble_eq_true rfl) (fun _ h => h) ?_
  intro M hL hN X
  subst hL
  have hal := allR_b hI (Nat.le_refl nf)
  have hO := hX.1.1
  refine r_aload_n X dX5_shareByDirectCosts_0 (by rfl) ?_
  refine r_callV X dX5_shareByDirectCosts_1 kX5_242 (c_allR g _ hl ad F _ _ _ _ _ _ _ _ _ hX t hI) (by assumption) (by rfl) (by rfl) (by rfl) (by rfl) (by exact Nat.le_of_ble_eq_true rfl) (by decide) (by decide) (by omega) (by omega) (fun v ad' F' hK => ?_)
  obtain ⟨rfl, rfl, rfl⟩ := hK
  refine r_lstore_n X dX5_shareByDirectCosts_4 (by rw [hN]; decide) (by rfl) ?_
  dsimp only [List.set]
  refine r_lload_n X dX5_shareByDirectCosts_5 (by rfl) ?_
  refine r_lconst X dX5_shareByDirectCosts_6 0 rfl ?_
  refine r_lcmp X dX5_shareByDirectCosts_7 (by unfold inL; omega) (by unfold inL; omega) ?_
  refine r_if_gt X 13 dX5_shareByDirectCosts_8 (by decide) (lc_in) (fun q => ?_) (fun q => ?_)
  · have hpos : 0 < allR A nf := lc_gt.mp q
    generalize hall : allR A nf = all at *
    have loop : ∀ (k i : Nat) (F1 : Pic) (w : Int) (o6 o7 o8 o9 o10 : Option Value), nf - i = k → i ≤ nf → w = (rndS A amt all i).2 → FrX F F1 → RX g ad F1 td nf nk nc (rndS A amt all i).1 P kf ser sn →
        V M g ad F1 0 0 19 [some (.ref (ad 100)), some (.int (zI amt)), some (.long (zL all)), none, some (.int (zI w)), some (.int (zI (i : Int))), o6, o7, o8, o9, o10] [] := by
      intro k
      induction k with
      | zero =>
        intro i F1 w o6 o7 o8 o9 o10 hk hi hw hF hX1
        obtain rfl : i = nf := by omega
        obtain ⟨⟨hO1, -⟩, ⟨⟨c1, hR1, -⟩, -⟩, -⟩ := id hX1
        obtain ⟨m1, ho1⟩ := hR1.obj
        have hI0 := hI.1
        refine r_iload X dX5_shareByDirectCosts_19 (by rfl) ?_
        refine r_aload_n X dX5_shareByDirectCosts_21 (by rfl) ?_
        refine r_get X dX5_shareByDirectCosts_22 fgX5_12_7 (by assumption) (by rfl) ?_
        refine r_callV X dX5_shareByDirectCosts_25 kX5_41 (c_size g _ hl ad F1 101 i c1 _ (by omega) hR1) (by assumption) (by rfl) (by rfl) (by rfl) (by rfl) (by exact Nat.le_of_ble_eq_true rfl) (by decide) (by decide) (by omega) (by omega) (fun v ad' F' hK => ?_)
        obtain ⟨rfl, rfl, rfl⟩ := hK
        refine r_icmp_ge X 101 dX5_shareByDirectCosts_28 (by decide) (by unfold inR; omega) (by unfold inR; omega) (fun a => ?_) (fun a => ?_)
        · refine r_iload X dX5_shareByDirectCosts_101 (by rfl) ?_
          exact r_iret X rfl (rfl) dX5_shareByDirectCosts_103 (⟨by rw [hw], rfl, hF, hX1⟩) (by omega) (by omega)
        · omega
      | succ k ih =>
        intro i F1 w o6 o7 o8 o9 o10 hk hi hw hF hX1
        obtain ⟨⟨hO1, -⟩, ⟨⟨c1, hR1, -⟩, -⟩, -, ⟨-, hFu1, -⟩, -⟩ := id hX1
        obtain ⟨m1, ho1⟩ := hR1.obj
        have hI0 := hI.1
        have b0 := hI.b0 (i := i) (by omega)
        have b4 := hI.b4 (i := i) (by omega)
        have b3 := (hI.2.1 i (by omega)).2.2.2.1
        have rb := roA_b hI (i := i) (by omega)
        have hm := rnd_m (all := all) hI (by omega : i < nf) ha.1 (by omega)
        have eA : ∀ a, (rndS A amt all i).1 a i = A a i := fun a => rnd_n A amt all i a i (Nat.le_refl _)
        have hf0 : F1 (300 + i) = some (.inr (5, [.int (zI (A 0 i)), .int (zI (i : Int)), .int (zI (A 1 i)), .int (zI (A 2 i)), .int (zI (A 3 i)), .int (zI (A 4 i)), .int (zI (A 5 i))])) := by
          rw [hFu1 i (by omega)]; unfold fuC; rw [eA, eA, eA, eA, eA, eA]
        have eS : rndS A amt all (i + 1) = if 0 < roA A i then (takeA (rndS A amt all i).1 i (min (amt * A 4 i / all) (roA A i)), (rndS A amt all i).2 + min (amt * A 4 i / all) (roA A i)) else rndS A amt all i := rfl
        have p1 : 0 ≤ amt * A 4 i := Int.mul_nonneg ha.1 b4.1
        have p2 : amt * A 4 i ≤ 99999 * 1599984 := Int.le_trans (Int.mul_le_mul_of_nonneg_right ha.2 b4.1) (Int.mul_le_mul_of_nonneg_left b4.2.1 (by omega))
        have p3 : 0 ≤ amt * A 4 i / all := Int.ediv_nonneg p1 (by omega)
        have p4 : amt * A 4 i / all ≤ amt * A 4 i := Int.ediv_le_self _ p1
        refine r_iload X dX5_shareByDirectCosts_19 (by rfl) ?_
        refine r_aload_n X dX5_shareByDirectCosts_21 (by rfl) ?_
        refine r_get X dX5_shareByDirectCosts_22 fgX5_12_7 (by assumption) (by rfl) ?_
        refine r_callV X dX5_shareByDirectCosts_25 kX5_41 (c_size g _ hl ad F1 101 nf c1 _ (by omega) hR1) (by assumption) (by rfl) (by rfl) (by rfl) (by rfl) (by exact Nat.le_of_ble_eq_true rfl) (by decide) (by decide) (by omega) (by omega) (fun v ad' F' hK => ?_)
        obtain ⟨rfl, rfl, rfl⟩ := hK
        refine r_icmp_ge X 101 dX5_shareByDirectCosts_28 (by decide) (by unfold inR; omega) (by unfold inR; omega) (fun a => ?_) (fun a => ?_)
        · omega
        · refine r_aload_n X dX5_shareByDirectCosts_31 (by rfl) ?_
          refine r_get X dX5_shareByDirectCosts_32 fgX5_12_7 (by assumption) (by rfl) ?_
          refine r_iload X dX5_shareByDirectCosts_35 (by rfl) ?_
          refine r_callV X dX5_shareByDirectCosts_37 kX5_118 (c_get g _ hl ad F1 101 nf c1 _ (by omega) hR1 i (by omega)) (by assumption) (by rfl) (by rfl) (by rfl) (by rfl) (by exact Nat.le_of_ble_eq_true rfl) (by decide) (by decide) (by omega) (by omega) (fun v ad' F' hK => ?_)
          obtain ⟨rfl, rfl, rfl⟩ := hK
          refine r_castF X dX5_shareByDirectCosts_40 w217 (hf0) ?_
          refine r_astore X dX5_shareByDirectCosts_43 (by rw [hN]; decide) (by rfl) ?_
          dsimp only [List.set]
          refine r_aload X dX5_shareByDirectCosts_45 (by rfl) ?_
          refine r_callV X dX5_shareByDirectCosts_47 kX5_132 (c_room g _ hl ad F1 (300 + i) (by omega) _ _ _ _ _ _ _ hf0 (by omega) (by omega) (by omega) (by omega)) (hf0) (by rfl) (by rfl) (by rfl) (by rfl) (by exact Nat.le_of_ble_eq_true rfl) (by decide) (by decide) (by omega) (by omega) (fun v ad' F' hK => ?_)
          obtain ⟨rfl, rfl, rfl⟩ := hK
          have rr : roZ (A 0 i) (A 3 i) (A 4 i) (A 5 i) = roA A i := rfl
          rw [rr]
          refine r_istore X dX5_shareByDirectCosts_50 (by rw [hN]; decide) (by rfl) ?_
          dsimp only [List.set]
          refine r_iload X dX5_shareByDirectCosts_52 (by rfl) ?_
          refine r_if_le X 95 dX5_shareByDirectCosts_54 (by decide) (by unfold inR; omega) (fun b => ?_) (fun b => ?_)
          · refine r_iinc X dX5_shareByDirectCosts_95 (by rfl) (by rw [hN]; decide) (by rfl) ?_
            dsimp only [List.set]
            refine r_goto X dX5_shareByDirectCosts_98 19 (by decide) ?_
            exact ih (i + 1) F1 w _ _ _ _ _ (by omega) (by omega) (by rw [eS, if_neg (by omega), hw]) hF (by rw [eS, if_neg (by omega)]; exact hX1)
          · refine r_iload_n X dX5_shareByDirectCosts_57 (by rfl) ?_
            refine r_i2l X dX5_shareByDirectCosts_58 ((by unfold inR; omega)) ?_
            refine r_aload X dX5_shareByDirectCosts_59 (by rfl) ?_
            refine r_get X dX5_shareByDirectCosts_61 fgX5_126_5 (hf0) (by rfl) ?_
            refine r_i2l X dX5_shareByDirectCosts_64 ((by unfold inR; omega)) ?_
            refine r_lmul X dX5_shareByDirectCosts_65 ?_
            refine r_lload_n X dX5_shareByDirectCosts_66 (by rfl) ?_
            refine r_ldiv X (hne := zL_ne0 ⟨hpos, by omega⟩) (hv := zL_div ⟨p1, by omega⟩ ⟨hpos, by omega⟩) dX5_shareByDirectCosts_67 ?_
            refine r_lstore X dX5_shareByDirectCosts_68 (by rw [hN]; decide) (by rfl) ?_
            dsimp only [List.set]
            refine r_lload X dX5_shareByDirectCosts_70 (by rfl) ?_
            refine r_iload X dX5_shareByDirectCosts_72 (by rfl) ?_
            refine r_i2l X dX5_shareByDirectCosts_74 ((by unfold inR; omega)) ?_
            refine r_mminL X rfl dX5_shareByDirectCosts_75 ⟨by omega, by omega⟩ ⟨by omega, by omega⟩ (by exact Nat.le_of_ble_eq_true rfl) (by omega) (by omega) (by omega) ?_
            refine r_l2i X dX5_shareByDirectCosts_78 ?_
            refine r_istore X dX5_shareByDirectCosts_79 (by rw [hN]; decide) (by rfl) ?_
            dsimp only [List.set]
            refine r_aload X dX5_shareByDirectCosts_81 (by rfl) ?_
            refine r_iload X dX5_shareByDirectCosts_83 (by rfl) ?_
            refine r_callV X dX5_shareByDirectCosts_85 kX5_252 (c_takeOverhead g _ hl ad F1 (300 + i) (by omega) _ _ _ _ _ _ _ hf0 _) (hf0) (by rfl) (by rfl) (by rfl) (by rfl) (by exact Nat.le_of_ble_eq_true rfl) (by decide) (by decide) (by omega) (by omega) (fun v ad' F2 hK => ?_)
            obtain ⟨rfl, rfl, h1, s1⟩ := hK
            refine r_iload X dX5_shareByDirectCosts_88 (by rfl) ?_
            refine r_iload X dX5_shareByDirectCosts_90 (by rfl) ?_
            refine r_iadd X dX5_shareByDirectCosts_92 ?_
            refine r_istore X dX5_shareByDirectCosts_93 (by rw [hN]; decide) (by rfl) ?_
            dsimp only [List.set]
            refine r_iinc X dX5_shareByDirectCosts_95 (by rfl) (by rw [hN]; decide) (by rfl) ?_
            dsimp only [List.set]
            refine r_goto X dX5_shareByDirectCosts_98 19 (by decide) ?_
            refine ih (i + 1) F2 _ _ _ _ _ _ (by omega) (by omega) (by rw [eS, if_pos (by omega), hw]) (fun x hx => (s1 x (by omega)).trans (hF x hx)) ?_
            rw [eS, if_pos (by omega)]
            refine hX1.take (by omega) ?_ s1
            rw [h1, eA, eA, eA, eA, eA, eA]
    refine r_iconst X dX5_shareByDirectCosts_13 rfl ?_
    refine r_istore X dX5_shareByDirectCosts_14 (by rw [hN]; decide) (by rfl) ?_
    dsimp only [List.set]
    refine r_iconst X dX5_shareByDirectCosts_16 rfl ?_
    refine r_istore X dX5_shareByDirectCosts_17 (by rw [hN]; decide) (by rfl) ?_
    dsimp only [List.set]
    exact loop nf 0 F 0 none none none none none (by omega) (by omega) rfl FrX.rf hX
  · have hz : allR A nf ≤ 0 := by
      rcases Int.lt_or_le 0 (allR A nf) with z | z
      · exact absurd (lc_gt.mpr z) q
      · exact z
    have e0 := rnd_z (amt := amt) (all := allR A nf) hI hz nf (Nat.le_refl _)
    refine r_iconst X dX5_shareByDirectCosts_11 rfl ?_
    exact r_iret X rfl (rfl) dX5_shareByDirectCosts_12 (⟨by rw [e0], rfl, FrX.rf, by rw [e0]; exact hX⟩) (by omega) (by omega)
