/-! ===== the model: overhead ===== -/
theorem lc_ge {a b : Int} : (0 ≤ (if a < b then (-1 : Int) else if a = b then 0 else 1)) ↔ b ≤ a := by
  split
  · omega
  · split <;> omega
theorem allR_pos {td : Int} {nf nk nc : Nat} {A : Nat → Nat → Int} {kf : Nat → Nat} {t i : Nat} (hI : IV td nf nk nc A kf t) (hi : i < nf) (h : 0 < roA A i) : 0 < allR A nf := by
  have h1 := roA_pos hI hi h
  have h2 := sm_one (n := nf) (f := fun f => if 0 < roA A f then A 4 f else 0) (fun x hx => by
    have := (hI.b4 hx).1
    show 0 ≤ (if 0 < roA A x then A 4 x else 0)
    split <;> omega) hi
  have h3 : (if 0 < roA A i then A 4 i else 0) ≤ allR A nf := h2
  rw [if_pos h] at h3
  omega
set_option maxRecDepth 100000 in
set_option maxHeartbeats 4000000 in
theorem c_mRound (g : Gx) (l : Launch) (hl : l.stackTraces = false) (ad : Nat → Nat) (F : Pic) (td : Int) (nf nk nc np : Nat) (th : Int) (B A P : Nat → Nat → Int) (kf : Nat → Nat) (hB : MB g ad F td nf nk nc np th B) (hG : AG nf nk nc A P kf B) (t : Nat) (hI : IV td nf nk nc A kf t) (amt : Int) (ha : 0 ≤ amt ∧ amt ≤ 99999) : Ct g l yX6_round cX6_round 9 (some .int) 2 0 0 [.ref (ad 50000), .int (zI amt)] ad F (fun v ad' F' => v = some (.int (zI (rndS A amt (allR A nf) nf).2)) ∧ ad = ad' ∧ FrM F F' ∧ ∃ B', MB g ad F' td nf nk nc np th B' ∧ AG nf nk nc (rndS A amt (allR A nf) nf).1 P kf B') := by
  refine Ct_of hl rfl [some (.ref (ad 50000)), some (.int (zI amt)), none, none, none, none, none, none, none] (Nat.le_of_ble_eq_true rfl) (fun _ h => h) ?_
  intro M hL hN X
  subst hL
  have hI0 := hI.1
  have hal := allR_b hI (Nat.le_refl nf)
  have loop2 : ∀ (k i : Nat) (F1 : Pic) (B1 : Nat → Nat → Int) (w : Int) (o6 o7 o8 : Option Value), nf - i = k → i ≤ nf → w = (rndS A amt (allR A nf) i).2 → FrM F F1 → MB g ad F1 td nf nk nc np th B1 → AG nf nk nc (rndS A amt (allR A nf) i).1 P kf B1 → (∀ x, x < nf → B1 28 x = roA A x) →
      V M g ad F1 0 0 64 [some (.ref (ad 50000)), some (.int (zI amt)), some (.long (zL (allR A nf))), none, some (.int (zI w)), some (.int (zI (i : Int))), o6, o7, o8] [] := by
    intro k
    induction k with
    | zero =>
      intro i F1 B1 w o6 o7 o8 hk hi hw hF h1 G1 hR
      obtain rfl : i = nf := by omega
      have h1_o := h1.1
      unfold MOL at h1_o
      refine r_iload X dX6_round_64 (by rfl) ?_
      refine r_aload_n X dX6_round_66 (by rfl) ?_
      refine r_get X dX6_round_67 fgX6_86_8 (by assumption) (by rfl) ?_
      refine r_icmp_ge X 148 dX6_round_70 (by decide) (by unfold inR; omega) (by unfold inR; omega) (fun a => ?_) (fun a => ?_)
      · refine r_iload X dX6_round_148 (by rfl) ?_
        exact r_iret X rfl (rfl) dX6_round_150 (⟨by rw [hw], rfl, hF, B1, h1, G1⟩) (by omega) (by omega)
      · omega
    | succ k ih =>
      intro i F1 B1 w o6 o7 o8 hk hi hw hF h1 G1 hR
      have hin : i < nf := by omega
      have b0 := hI.b0 hin
      have b4 := hI.b4 hin
      have rb := roA_b hI hin
      have e28 := hR i hin
      have e6 : B1 6 i = A 4 i := by rw [(G1.1 i hin).2.2.2.2.1, rnd_n A amt (allR A nf) i 4 i (Nat.le_refl _)]
      have eS : rndS A amt (allR A nf) (i + 1) = if 0 < roA A i then (takeA (rndS A amt (allR A nf) i).1 i (min (amt * A 4 i / allR A nf) (roA A i)), (rndS A amt (allR A nf) i).2 + min (amt * A 4 i / allR A nf) (roA A i)) else rndS A amt (allR A nf) i := rfl
      have p1 : 0 ≤ amt * A 4 i := Int.mul_nonneg ha.1 b4.1
      have p2 : amt * A 4 i ≤ 99999 * 1599984 := Int.le_trans (Int.mul_le_mul_of_nonneg_right ha.2 b4.1) (Int.mul_le_mul_of_nonneg_left b4.2.1 (by omega))
      have p3 : 0 ≤ amt * A 4 i / allR A nf := Int.ediv_nonneg p1 (by omega)
      have p4 : amt * A 4 i / allR A nf ≤ amt * A 4 i := Int.ediv_le_self _ p1
      have h1_o := h1.1
      unfold MOL at h1_o
      have h1_6 : F1 50006 = some (cI g 6 (fun j => zI (B1 6 j))) := h1.2 6 rfl
      have h1_28 : F1 50028 = some (cI g 6 (fun j => zI (B1 28 j))) := h1.2 28 rfl
      refine r_iload X dX6_round_64 (by rfl) ?_
      refine r_aload_n X dX6_round_66 (by rfl) ?_
      refine r_get X dX6_round_67 fgX6_86_8 (by assumption) (by rfl) ?_
      refine r_icmp_ge X 148 dX6_round_70 (by decide) (by unfold inR; omega) (by unfold inR; omega) (fun a => ?_) (fun a => ?_)
      · omega
      · refine r_aload_n X dX6_round_73 (by rfl) ?_
        refine r_get X dX6_round_74 fgX6_79_8 (by assumption) (by rfl) ?_
        refine r_iload X dX6_round_77 (by rfl) ?_
        refine r_iald X i dX6_round_79 (by assumption) (by rfl) (by omega) (by first | decide | omega) ?_
        rw [e28]
        refine r_if_le X 142 dX6_round_80 (by decide) (by unfold inR; omega) (fun b => ?_) (fun b => ?_)
        · refine r_iinc X dX6_round_142 (by rfl) (by rw [hN]; decide) (by rfl) ?_
          dsimp only [List.set]
          refine r_goto X dX6_round_145 64 (by decide) ?_
          exact ih (i + 1) F1 B1 w _ _ _ (by omega) (by omega) (by rw [eS, if_neg (by omega), hw]) hF h1 (by rw [eS, if_neg (by omega)]; exact G1) hR
        · have hpos := allR_pos hI hin (by omega)
          refine r_iload_n X dX6_round_83 (by rfl) ?_
          refine r_i2l X dX6_round_84 ((by unfold inR; omega)) ?_
          refine r_aload_n X dX6_round_85 (by rfl) ?_
          refine r_get X dX6_round_86 fgX6_22_8 (by assumption) (by rfl) ?_
          refine r_iload X dX6_round_89 (by rfl) ?_
          refine r_iald X i dX6_round_91 (by assumption) (by rfl) (by omega) (by first | decide | omega) ?_
          rw [e6]
          refine r_i2l X dX6_round_92 ((by unfold inR; omega)) ?_
          refine r_lmul X dX6_round_93 ?_
          refine r_lload_n X dX6_round_94 (by rfl) ?_
          refine r_ldiv X (hne := zL_ne0 ⟨hpos, by omega⟩) (hv := zL_div ⟨p1, by omega⟩ ⟨hpos, by omega⟩) dX6_round_95 ?_
          refine r_lstore X dX6_round_96 (by rw [hN]; decide) (by rfl) ?_
          dsimp only [List.set]
          have rest : ∀ (z : Int), z = min (amt * A 4 i / allR A nf) (roA A i) → V M g ad F1 0 0 125 [some (.ref (ad 50000)), some (.int (zI amt)), some (.long (zL (allR A nf))), none, some (.int (zI w)), some (.int (zI (i : Int))), some (.long (zL (amt * A 4 i / allR A nf))), none, o8] [.int (zI z)] := fun z hz => by
            refine r_istore X dX6_round_125 (by rw [hN]; decide) (by rfl) ?_
            dsimp only [List.set]
            refine r_aload_n X dX6_round_127 (by rfl) ?_
            refine r_iload X dX6_round_128 (by rfl) ?_
            refine r_iload X dX6_round_130 (by rfl) ?_
            refine r_callV X dX6_round_132 kX6_170 (c_mGets g _ hl ad F1 _ _ _ _ _ _ _ _ _ _ h1 G1 i hin (by omega) z) (by assumption) (by rfl) (by rfl) (by rfl) (by rfl) (by exact Nat.le_of_ble_eq_true rfl) (by decide) (by decide) (by omega) (by omega) (fun v ad' F2 hK => ?_)
            obtain ⟨rfl, rfl, hF2, B2, h2, G2, e2⟩ := hK
            refine r_iload X dX6_round_135 (by rfl) ?_
            refine r_iload X dX6_round_137 (by rfl) ?_
            refine r_iadd X dX6_round_139 ?_
            refine r_istore X dX6_round_140 (by rw [hN]; decide) (by rfl) ?_
            dsimp only [List.set]
            refine r_iinc X dX6_round_142 (by rfl) (by rw [hN]; decide) (by rfl) ?_
            dsimp only [List.set]
            refine r_goto X dX6_round_145 64 (by decide) ?_
            exact ih (i + 1) F2 B2 _ _ _ _ (by omega) (by omega) (by rw [eS, if_pos (by omega), hw, hz]) (hF.tr hF2) h2 (by rw [eS, if_pos (by omega), ← hz]; exact G2) (fun x hx => by rw [e2]; exact hR x hx)
          refine r_lload X dX6_round_98 (by rfl) ?_
          refine r_aload_n X dX6_round_100 (by rfl) ?_
          refine r_get X dX6_round_101 fgX6_79_8 (by assumption) (by rfl) ?_
          refine r_iload X dX6_round_104 (by rfl) ?_
          refine r_iald X i dX6_round_106 (by assumption) (by rfl) (by omega) (by first | decide | omega) ?_
          rw [e28]
          refine r_i2l X dX6_round_107 ((by unfold inR; omega)) ?_
          refine r_lcmp X dX6_round_108 (by unfold inL; omega) (by unfold inL; omega) ?_
          refine r_if_ge X 118 dX6_round_109 (by decide) (lc_in) (fun c => ?_) (fun c => ?_)
          · have c' := lc_ge.mp c
            refine r_aload_n X dX6_round_118 (by rfl) ?_
            refine r_get X dX6_round_119 fgX6_79_8 (by assumption) (by rfl) ?_
            refine r_iload X dX6_round_122 (by rfl) ?_
            refine r_iald X i dX6_round_124 (by assumption) (by rfl) (by omega) (by first | decide | omega) ?_
            rw [e28]
            exact rest _ (by omega)
          · have c' : ¬ roA A i ≤ amt * A 4 i / allR A nf := fun z => c (lc_ge.mpr z)
            refine r_lload X dX6_round_112 (by rfl) ?_
            refine r_l2i X dX6_round_114 ?_
            refine r_goto X dX6_round_115 125 (by decide) ?_
            exact rest _ (by omega)
  have loop1 : ∀ (k i : Nat) (F1 : Pic) (B1 : Nat → Nat → Int) (w : Int) (o5 o6 o7 o8 : Option Value), nf - i = k → i ≤ nf → w = allR A i → FrM F F1 → MB g ad F1 td nf nk nc np th B1 → AG nf nk nc A P kf B1 → (∀ x, x < i → B1 28 x = roA A x) →
      V M g ad F1 0 0 5 [some (.ref (ad 50000)), some (.int (zI amt)), some (.long (zL w)), none, some (.int (zI (i : Int))), o5, o6, o7, o8] [] := by
    intro k
    induction k with
    | zero =>
      intro i F1 B1 w o5 o6 o7 o8 hk hi hw hF h1 G1 hR
      obtain rfl : i = nf := by omega
      have h1_o := h1.1
      unfold MOL at h1_o
      refine r_iload X dX6_round_5 (by rfl) ?_
      refine r_aload_n X dX6_round_7 (by rfl) ?_
      refine r_get X dX6_round_8 fgX6_86_8 (by assumption) (by rfl) ?_
      refine r_icmp_ge X 58 dX6_round_11 (by decide) (by unfold inR; omega) (by unfold inR; omega) (fun a => ?_) (fun a => ?_)
      · refine r_iconst X dX6_round_58 rfl ?_
        refine r_istore X dX6_round_59 (by rw [hN]; decide) (by rfl) ?_
        dsimp only [List.set]
        refine r_iconst X dX6_round_61 rfl ?_
        refine r_istore X dX6_round_62 (by rw [hN]; decide) (by rfl) ?_
        dsimp only [List.set]
        rw [hw]
        exact loop2 i 0 F1 B1 0 _ _ _ (by omega) (by omega) rfl hF h1 G1 hR
      · omega
    | succ k ih =>
      intro i F1 B1 w o5 o6 o7 o8 hk hi hw hF h1 G1 hR
      have hin : i < nf := by omega
      have b4 := hI.b4 hin
      have b0 := hI.b0 hin
      have rb := roA_b hI hin
      have hw' : allR A (i + 1) = allR A i + (if 0 < roA A i then A 4 i else 0) := rfl
      have h1_o := h1.1
      unfold MOL at h1_o
      have h1_28 : F1 50028 = some (cI g 6 (fun j => zI (B1 28 j))) := h1.2 28 rfl
      refine r_iload X dX6_round_5 (by rfl) ?_
      refine r_aload_n X dX6_round_7 (by rfl) ?_
      refine r_get X dX6_round_8 fgX6_86_8 (by assumption) (by rfl) ?_
      refine r_icmp_ge X 58 dX6_round_11 (by decide) (by unfold inR; omega) (by unfold inR; omega) (fun a => ?_) (fun a => ?_)
      · omega
      · refine r_aload_n X dX6_round_14 (by rfl) ?_
        refine r_get X dX6_round_15 fgX6_79_8 (by assumption) (by rfl) ?_
        refine r_iload X dX6_round_18 (by rfl) ?_
        refine r_aload_n X dX6_round_20 (by rfl) ?_
        refine r_iload X dX6_round_21 (by rfl) ?_
        refine r_callV X dX6_round_23 kX6_167 (c_mRoom g _ hl ad F1 _ _ _ _ _ _ _ _ _ _ h1 G1 t hI i hin) (by assumption) (by rfl) (by rfl) (by rfl) (by rfl) (by exact Nat.le_of_ble_eq_true rfl) (by decide) (by decide) (by omega) (by omega) (fun v ad' F2 hK => ?_)
        obtain ⟨rfl, rfl, rfl⟩ := hK
        refine r_ist X i dX6_round_26 (by assumption) (by omega) (by rfl) (by omega) (by first | decide | omega) ?_
        obtain ⟨B2, eB2⟩ : ∃ X9 : Nat → Nat → Int, X9 = u2 B1 28 (i) (roA A i) := ⟨_, rfl⟩
        refine (fun (kk9 : ∀ F2 : Pic, MB g ad F2 _ _ _ _ _ _ B2 → FrM F1 F2 → V M g ad F2 _ _ _ _ _) => kk9 _ (by rw [eB2]; exact h1.put 28 rfl (i) (roA A i)) (FrM.pu ⟨by omega, by omega⟩)) ?_
        intro F2 h2 h2F
        have h2_o := h2.1
        unfold MOL at h2_o
        have G2 : AG nf nk nc A P kf B2 := G1.row (fun a ha9 => by rw [eB2, u2_row' (by omega)])
        have e28 : B2 28 i = roA A i := by rw [eB2, u2_at]
        have hR2 : ∀ x, x < i + 1 → B2 28 x = roA A x := fun x hx => by
          by_cases e : x = i
          · rw [e]; exact e28
          · rw [eB2, u2_col' e]; exact hR x (by omega)
        have e6 : B2 6 i = A 4 i := (G2.1 i hin).2.2.2.2.1
        have h2_6 : F2 50006 = some (cI g 6 (fun j => zI (B2 6 j))) := h2.2 6 rfl
        have h2_28 : F2 50028 = some (cI g 6 (fun j => zI (B2 28 j))) := h2.2 28 rfl
        refine r_lload_n X dX6_round_27 (by rfl) ?_
        refine r_aload_n X dX6_round_28 (by rfl) ?_
        refine r_get X dX6_round_29 fgX6_79_8 (by assumption) (by rfl) ?_
        refine r_iload X dX6_round_32 (by rfl) ?_
        refine r_iald X i dX6_round_34 (by assumption) (by rfl) (by omega) (by first | decide | omega) ?_
        rw [e28]
        refine r_if_le X 49 dX6_round_35 (by decide) (by unfold inR; omega) (fun b => ?_) (fun b => ?_)
        · refine r_lconst X dX6_round_49 0 rfl ?_
          refine r_ladd X dX6_round_50 ?_
          refine r_lstore_n X dX6_round_51 (by rw [hN]; decide) (by rfl) ?_
          dsimp only [List.set]
          refine r_iinc X dX6_round_52 (by rfl) (by rw [hN]; decide) (by rfl) ?_
          dsimp only [List.set]
          refine r_goto X dX6_round_55 5 (by decide) ?_
          exact ih (i + 1) F2 B2 _ _ _ _ _ (by omega) (by omega) (by rw [hw', if_neg (by omega), hw]) (hF.tr h2F) h2 G2 hR2
        · refine r_aload_n X dX6_round_38 (by rfl) ?_
          refine r_get X dX6_round_39 fgX6_22_8 (by assumption) (by rfl) ?_
          refine r_iload X dX6_round_42 (by rfl) ?_
          refine r_iald X i dX6_round_44 (by assumption) (by rfl) (by omega) (by first | decide | omega) ?_
          rw [e6]
          refine r_i2l X dX6_round_45 ((by unfold inR; omega)) ?_
          refine r_goto X dX6_round_46 50 (by decide) ?_
          refine r_ladd X dX6_round_50 ?_
          refine r_lstore_n X dX6_round_51 (by rw [hN]; decide) (by rfl) ?_
          dsimp only [List.set]
          refine r_iinc X dX6_round_52 (by rfl) (by rw [hN]; decide) (by rfl) ?_
          dsimp only [List.set]
          refine r_goto X dX6_round_55 5 (by decide) ?_
          exact ih (i + 1) F2 B2 _ _ _ _ _ (by omega) (by omega) (by rw [hw', if_pos (by omega), hw]) (hF.tr h2F) h2 G2 hR2
  refine r_lconst X dX6_round_0 0 rfl ?_
  refine r_lstore_n X dX6_round_1 (by rw [hN]; decide) (by rfl) ?_
  dsimp only [List.set]
  refine r_iconst X dX6_round_2 rfl ?_
  refine r_istore X dX6_round_3 (by rw [hN]; decide) (by rfl) ?_
  dsimp only [List.set]
  exact loop1 nf 0 F B 0 _ _ _ _ (by omega) (by omega) rfl FrM.rf hB hG (fun x hx => by omega)
set_option maxRecDepth 100000 in
set_option maxHeartbeats 4000000 in
theorem c_mOnes (g : Gx) (l : Launch) (hl : l.stackTraces = false) (ad : Nat → Nat) (F : Pic) (td : Int) (nf nk nc np : Nat) (th : Int) (B A P : Nat → Nat → Int) (kf : Nat → Nat) (hB : MB g ad F td nf nk nc np th B) (hG : AG nf nk nc A P kf B) (t : Nat) (hI : IV td nf nk nc A kf t) (amt : Int) (ha : inR amt) : Ct g l yX6_ones cX6_ones 4 (some .int) 2 0 0 [.ref (ad 50000), .int (zI amt)] ad F (fun v ad' F' => v = some (.int (zI (oneS A amt nf).2)) ∧ ad = ad' ∧ FrM F F' ∧ ∃ B', MB g ad F' td nf nk nc np th B' ∧ AG nf nk nc (oneS A amt nf).1 P kf B') := by
  refine Ct_of hl rfl [some (.ref (ad 50000)), some (.int (zI amt)), none, none] (Nat.le_of_ble_eq_true rfl) (fun _ h => h) ?_
  intro M hL hN X
  subst hL
  have hI0 := hI.1
  have loop : ∀ (k i : Nat) (F1 : Pic) (B1 : Nat → Nat → Int) (w : Int), nf - i = k → i ≤ nf → w = (oneS A amt i).2 → FrM F F1 → MB g ad F1 td nf nk nc np th B1 → AG nf nk nc (oneS A amt i).1 P kf B1 →
      V M g ad F1 0 0 4 [some (.ref (ad 50000)), some (.int (zI amt)), some (.int (zI w)), some (.int (zI (i : Int)))] [] := by
    intro k
    induction k with
    | zero =>
      intro i F1 B1 w hk hi hw hF h1 G1
      obtain rfl : i = nf := by omega
      have h1_o := h1.1
      unfold MOL at h1_o
      refine r_iload_n X dX6_ones_4 (by rfl) ?_
      refine r_aload_n X dX6_ones_5 (by rfl) ?_
      refine r_get X dX6_ones_6 fgX6_86_8 (by assumption) (by rfl) ?_
      refine r_icmp_ge X 40 dX6_ones_9 (by decide) (by unfold inR; omega) (by unfold inR; omega) (fun a => ?_) (fun a => ?_)
      · refine r_iload_n X dX6_ones_40 (by rfl) ?_
        exact r_iret X rfl (rfl) dX6_ones_41 (⟨by rw [hw], rfl, hF, B1, h1, G1⟩) (by omega) (by omega)
      · omega
    | succ k ih =>
      intro i F1 B1 w hk hi hw hF h1 G1
      have hin : i < nf := by omega
      have b0 := hI.b0 hin
      have rb := roA_b hI hin
      obtain ⟨on1, on2, on3⟩ := one_iv (amt := amt) hI i (by omega)
      have eR : roA (oneS A amt i).1 i = roA A i := roA_eq (fun a _ => one_n A amt i a i (Nat.le_refl _))
      have eS : oneS A amt (i + 1) = if (oneS A amt i).2 < amt ∧ 0 < roA A i then (takeA (oneS A amt i).1 i 1, (oneS A amt i).2 + 1) else oneS A amt i := rfl
      have h1_o := h1.1
      unfold MOL at h1_o
      refine r_iload_n X dX6_ones_4 (by rfl) ?_
      refine r_aload_n X dX6_ones_5 (by rfl) ?_
      refine r_get X dX6_ones_6 fgX6_86_8 (by assumption) (by rfl) ?_
      refine r_icmp_ge X 40 dX6_ones_9 (by decide) (by unfold inR; omega) (by unfold inR; omega) (fun a => ?_) (fun a => ?_)
      · omega
      · refine r_iload_n X dX6_ones_12 (by rfl) ?_
        refine r_iload_n X dX6_ones_13 (by rfl) ?_
        refine r_icmp_ge X 34 dX6_ones_14 (by decide) (by unfold inR; omega) (ha) (fun b => ?_) (fun b => ?_)
        · refine r_iinc X dX6_ones_34 (by rfl) (by rw [hN]; decide) (by rfl) ?_
          dsimp only [List.set]
          refine r_goto X dX6_ones_37 4 (by decide) ?_
          exact ih (i + 1) F1 B1 w (by omega) (by omega) (by rw [eS, if_neg (by omega), hw]) hF h1 (by rw [eS, if_neg (by omega)]; exact G1)
        · refine r_aload_n X dX6_ones_17 (by rfl) ?_
          refine r_iload_n X dX6_ones_18 (by rfl) ?_
          refine r_callV X dX6_ones_19 kX6_167 (c_mRoom g _ hl ad F1 _ _ _ _ _ _ _ _ _ _ h1 G1 t on1 i hin) (by assumption) (by rfl) (by rfl) (by rfl) (by rfl) (by exact Nat.le_of_ble_eq_true rfl) (by decide) (by decide) (by omega) (by omega) (fun v ad' F2 hK => ?_)
          obtain ⟨rfl, rfl, rfl⟩ := hK
          rw [eR]
          refine r_if_le X 34 dX6_ones_22 (by decide) (by unfold inR; omega) (fun q => ?_) (fun q => ?_)
          · refine r_iinc X dX6_ones_34 (by rfl) (by rw [hN]; decide) (by rfl) ?_
            dsimp only [List.set]
            refine r_goto X dX6_ones_37 4 (by decide) ?_
            exact ih (i + 1) F1 B1 w (by omega) (by omega) (by rw [eS, if_neg (by omega), hw]) hF h1 (by rw [eS, if_neg (by omega)]; exact G1)
          · refine r_aload_n X dX6_ones_25 (by rfl) ?_
            refine r_iload_n X dX6_ones_26 (by rfl) ?_
            refine r_iconst X dX6_ones_27 rfl ?_
            refine r_callV X dX6_ones_28 kX6_170 (c_mGets g _ hl ad F1 _ _ _ _ _ _ _ _ _ _ h1 G1 i hin (by omega) 1) (by assumption) (by rfl) (by rfl) (by rfl) (by rfl) (by exact Nat.le_of_ble_eq_true rfl) (by decide) (by decide) (by omega) (by omega) (fun v ad' F2 hK => ?_)
            obtain ⟨rfl, rfl, hF2, B2, h2, G2, e2⟩ := hK
            refine r_iinc X dX6_ones_31 (by rfl) (by rw [hN]; decide) (by rfl) ?_
            dsimp only [List.set]
            refine r_iinc X dX6_ones_34 (by rfl) (by rw [hN]; decide) (by rfl) ?_
            dsimp only [List.set]
            refine r_goto X dX6_ones_37 4 (by decide) ?_
            exact ih (i + 1) F2 B2 _ (by omega) (by omega) (by rw [eS, if_pos ⟨by omega, by omega⟩, hw]) (hF.tr hF2) h2 (by rw [eS, if_pos ⟨by omega, by omega⟩]; exact G2)
  refine r_iconst X dX6_ones_0 rfl ?_
  refine r_istore_n X dX6_ones_1 (by rw [hN]; decide) (by rfl) ?_
  dsimp only [List.set]
  refine r_iconst X dX6_ones_2 rfl ?_
  refine r_istore_n X dX6_ones_3 (by rw [hN]; decide) (by rfl) ?_
  dsimp only [List.set]
  exact loop nf 0 F B 0 (by omega) (by omega) rfl FrM.rf hB hG
set_option maxRecDepth 100000 in
set_option maxHeartbeats 4000000 in
theorem c_mChargeOverhead (g : Gx) (l : Launch) (hl : l.stackTraces = false) (ad : Nat → Nat) (F : Pic) (td : Int) (nf nk nc np : Nat) (th : Int) (B A P : Nat → Nat → Int) (kf : Nat → Nat) (hB : MB g ad F td nf nk nc np th B) (hG : AG nf nk nc A P kf B) (t : Nat) (hI : IV td nf nk nc A kf t) (amt : Int) (ha : inR amt) : Ct g l yX6_chargeOverhead cX6_chargeOverhead 4 (some .int) 3 0 0 [.ref (ad 50000), .int (zI amt)] ad F (fun v ad' F' => ad = ad' ∧ FrM F F' ∧ (((1 ≤ amt ∧ amt ≤ 99999) ∧ v = some (.int (zI (amt - (ovS nf amt.toNat A amt).2))) ∧ MG g ad F' td nf nk nc (ovS nf amt.toNat A amt).1 P kf 0) ∨ (¬ (1 ≤ amt ∧ amt ≤ 99999) ∧ v = some (.int (zI 0)) ∧ MG g ad F' td nf nk nc A P kf 1))) := by
  refine Ct_of hl rfl [some (.ref (ad 50000)), some (.int (zI amt)), none, none] (Nat.le_of_ble_eq_true rfl) (fun _ h => h) ?_
  intro M hL hN X
  subst hL
  have hI0 := hI.1
  have a9 := ha
  unfold inR at a9
  have hB_o := hB.1
  unfold MOL at hB_o
  refine r_aload_n X dX6_chargeOverhead_0 (by rfl) ?_
  refine r_iconst X dX6_chargeOverhead_1 rfl ?_
  refine r_put X dX6_chargeOverhead_2 fwX6_82_8 (by assumption) (by omega) (by exact Nat.le_of_ble_eq_true rfl) (by rfl) (by rfl) ?_
  dsimp only [List.set]
  refine (fun (kk9 : ∀ F1 : Pic, MB g ad F1 td nf nk nc np 0 B → FrM F F1 → V M g ad F1 _ _ _ _ _) => kk9 _ (hB.obj (by rw [pu_s]; rfl) (fun x hx => pu_n hx)) (FrM.pu ⟨by omega, by omega⟩)) ?_
  intro F1 h1 h1F
  have h1_o := h1.1
  unfold MOL at h1_o
  refine r_iload_n X dX6_chargeOverhead_5 (by rfl) ?_
  refine r_i2l X dX6_chargeOverhead_6 (ha) ?_
  refine r_lconst X dX6_chargeOverhead_7 1 rfl ?_
  refine r_ldc2 X dX6_chargeOverhead_8 w1179 (99999) rfl ?_
  refine r_callS X dX6_chargeOverhead_11 kX6_89 (c_mIn g _ hl ad F1 amt 1 99999 ⟨by omega, by omega⟩ ⟨by omega, by omega⟩ ⟨by omega, by omega⟩) (by rfl) (by rfl) (by exact Nat.le_of_ble_eq_true rfl) (by decide) (by decide) (by omega) (by omega) (fun v ad' F' hK => ?_)
  obtain ⟨rfl, rfl, rfl⟩ := hK
  refine r_if_neb X 23 dX6_chargeOverhead_14 (by decide) (fun q1 => ?_) (fun q1 => ?_)
  · generalize hR : ovS nf amt.toNat A amt = R at X
    have ending : ∀ (F2 : Pic) (A1 B1 : Nat → Nat → Int) (left gv : Int), FrM F F2 → MB g ad F2 td nf nk nc np 0 B1 → AG nf nk nc A1 P kf B1 → (A1, left) = R →
        V M g ad F2 0 0 62 [some (.ref (ad 50000)), some (.int (zI amt)), some (.int (zI left)), some (.int (zI gv))] [] := fun F2 A1 B1 left gv hF h2 G2 he => by
      subst he
      refine r_iload_n X dX6_chargeOverhead_62 (by rfl) ?_
      refine r_iload_n X dX6_chargeOverhead_63 (by rfl) ?_
      refine r_isub X dX6_chargeOverhead_64 ?_
      exact r_iret X rfl (rfl) dX6_chargeOverhead_65 (⟨rfl, hF, .inl ⟨q1, rfl, _, _, h2, G2⟩⟩) (by omega) (by omega)
    have loop : ∀ (k : Nat) (F2 : Pic) (A1 B1 : Nat → Nat → Int) (left gv : Int), left ≤ (k : Int) → (-52000000 ≤ left ∧ left ≤ 99999) → (0 < gv ∧ gv < 1000000000) → FrM F F2 → MB g ad F2 td nf nk nc np 0 B1 → AG nf nk nc A1 P kf B1 → IV td nf nk nc A1 kf t → ovS nf k A1 left = R →
        V M g ad F2 0 0 27 [some (.ref (ad 50000)), some (.int (zI amt)), some (.int (zI left)), some (.int (zI gv))] [] := by
      intro k
      induction k with
      | zero =>
        intro F2 A1 B1 left gv hk hb hg hF h2 G2 hI1 he
        refine r_iload_n X dX6_chargeOverhead_27 (by rfl) ?_
        refine r_if_le X 62 dX6_chargeOverhead_28 (by decide) (by unfold inR; omega) (fun a => ?_) (fun a => ?_)
        · exact ending F2 A1 B1 left gv hF h2 G2 he
        · omega
      | succ k ih =>
        intro F2 A1 B1 left gv hk hb hg hF h2 G2 hI1 he
        have h2_o := h2.1
        unfold MOL at h2_o
        refine r_iload_n X dX6_chargeOverhead_27 (by rfl) ?_
        refine r_if_le X 62 dX6_chargeOverhead_28 (by decide) (by unfold inR; omega) (fun a => ?_) (fun a => ?_)
        · exact ending F2 A1 B1 left gv hF h2 G2 (by rw [← he]; show _ = (if left ≤ 0 then _ else _); rw [if_pos a])
        · refine r_iload_n X dX6_chargeOverhead_31 (by rfl) ?_
          refine r_if_le X 62 dX6_chargeOverhead_32 (by decide) (by unfold inR; omega) (fun a2 => ?_) (fun a2 => ?_)
          · omega
          · have hstep := step_iv hI1 (l := left) (by omega)
            have he2 : (if (stepS nf A1 left).2 ≤ 0 then ((stepS nf A1 left).1, left - (stepS nf A1 left).2) else ovS nf k (stepS nf A1 left).1 (left - (stepS nf A1 left).2)) = R := by
              rw [← he]; show _ = (if left ≤ 0 then _ else _); rw [if_neg a]
            have hr2 := rnd_iv (amt := left) (all := allR A1 nf) hI1 (by omega) (allR_b hI1 (Nat.le_refl _)).1 nf (Nat.le_refl _)
            have sEq : stepS nf A1 left = (if (rndS A1 left (allR A1 nf) nf).2 = 0 then oneS (rndS A1 left (allR A1 nf) nf).1 left nf else rndS A1 left (allR A1 nf) nf) := rfl
            have h4 : sm nf (A1 0) ≤ 51199488 := by
              have a := sm_nn (n := nk) (f := A1 8) (fun i hi => (hI1.2.2.1 i hi).2.2.1)
              have b := hI1.2.2.2.2.1
              omega
            have after : ∀ (F3 : Pic) (B3 : Nat → Nat → Int) (o : Option Value), FrM F F3 → MB g ad F3 td nf nk nc np 0 B3 → AG nf nk nc (stepS nf A1 left).1 P kf B3 → V M g ad F3 0 0 54 [some (.ref (ad 50000)), some (.int (zI amt)), some (.int (zI left)), o] [.int (zI (stepS nf A1 left).2)] := fun F3 B3 o hF3 h3 G3 => by
              clear sEq
              generalize hst : stepS nf A1 left = st at *
              refine r_istore_n X dX6_chargeOverhead_54 (by rw [hN]; decide) (by rfl) ?_
              dsimp only [List.set]
              refine r_iload_n X dX6_chargeOverhead_55 (by rfl) ?_
              refine r_iload_n X dX6_chargeOverhead_56 (by rfl) ?_
              refine r_isub X dX6_chargeOverhead_57 ?_
              refine r_istore_n X dX6_chargeOverhead_58 (by rw [hN]; decide) (by rfl) ?_
              dsimp only [List.set]
              refine r_goto X dX6_chargeOverhead_59 27 (by decide) ?_
              by_cases b : st.2 ≤ 0
              · rw [if_pos b] at he2
                refine r_iload_n X dX6_chargeOverhead_27 (by rfl) ?_
                refine r_if_le X 62 dX6_chargeOverhead_28 (by decide) (by unfold inR; omega) (fun c => ?_) (fun c => ?_)
                · exact ending F3 st.1 B3 _ _ hF3 h3 G3 he2
                · refine r_iload_n X dX6_chargeOverhead_31 (by rfl) ?_
                  refine r_if_le X 62 dX6_chargeOverhead_32 (by decide) (by unfold inR; omega) (fun c2 => ?_) (fun c2 => ?_)
                  · exact ending F3 st.1 B3 _ _ hF3 h3 G3 he2
                  · omega
              · rw [if_neg b] at he2
                exact ih F3 st.1 B3 _ _ (by omega) (by omega) (by omega) hF3 h3 G3 hstep.1 he2
            refine r_aload_n X dX6_chargeOverhead_35 (by rfl) ?_
            refine r_iload_n X dX6_chargeOverhead_36 (by rfl) ?_
            refine r_callV X dX6_chargeOverhead_37 kX6_173 (c_mRound g _ hl ad F2 _ _ _ _ _ _ _ _ _ _ h2 G2 t hI1 left (by omega)) (by assumption) (by rfl) (by rfl) (by rfl) (by rfl) (by exact Nat.le_of_ble_eq_true rfl) (by decide) (by decide) (by omega) (by omega) (fun v ad' F3 hK => ?_)
            obtain ⟨rfl, rfl, hF3, B3, h3, G3⟩ := hK
            have h3_o := h3.1
            unfold MOL at h3_o
            refine r_istore_n X dX6_chargeOverhead_40 (by rw [hN]; decide) (by rfl) ?_
            dsimp only [List.set]
            refine r_iload_n X dX6_chargeOverhead_41 (by rfl) ?_
            refine r_if_le X 49 dX6_chargeOverhead_42 (by decide) (by unfold inR; omega) (fun c => ?_) (fun c => ?_)
            · refine r_aload_n X dX6_chargeOverhead_49 (by rfl) ?_
              refine r_iload_n X dX6_chargeOverhead_50 (by rfl) ?_
              refine r_callV X dX6_chargeOverhead_51 kX6_176 (c_mOnes g _ hl ad F3 _ _ _ _ _ _ _ _ _ _ h3 G3 t hr2.1 left (by unfold inR; omega)) (by assumption) (by rfl) (by rfl) (by rfl) (by rfl) (by exact Nat.le_of_ble_eq_true rfl) (by decide) (by decide) (by omega) (by omega) (fun v ad' F4 hK => ?_)
              obtain ⟨rfl, rfl, hF4, B4, h5, G5⟩ := hK
              have e0 : stepS nf A1 left = oneS (rndS A1 left (allR A1 nf) nf).1 left nf := by rw [sEq, if_pos (by omega)]
              rw [← e0]
              rw [← e0] at G5
              exact after F4 B4 _ (hF.tr (hF3.tr hF4)) h5 G5
            · have e0 : stepS nf A1 left = rndS A1 left (allR A1 nf) nf := by rw [sEq, if_neg (by omega)]
              refine r_iload_n X dX6_chargeOverhead_45 (by rfl) ?_
              refine r_goto X dX6_chargeOverhead_46 54 (by decide) ?_
              rw [← e0]
              rw [← e0] at G3
              exact after F3 B3 _ (hF.tr hF3) h3 G3
    refine r_iload_n X dX6_chargeOverhead_23 (by rfl) ?_
    refine r_istore_n X dX6_chargeOverhead_24 (by rw [hN]; decide) (by rfl) ?_
    dsimp only [List.set]
    refine r_iconst X dX6_chargeOverhead_25 rfl ?_
    refine r_istore_n X dX6_chargeOverhead_26 (by rw [hN]; decide) (by rfl) ?_
    dsimp only [List.set]
    exact loop amt.toNat F1 A B amt 1 (by omega) (by omega) (by omega) h1F h1 hG hI hR
  · refine r_aload_n X dX6_chargeOverhead_17 (by rfl) ?_
    refine r_iconst X dX6_chargeOverhead_18 rfl ?_
    refine r_callV X dX6_chargeOverhead_19 kX6_111 (c_mFails g _ hl ad F1 _ _ _ _ _ _ _ h1 1) (by assumption) (by rfl) (by rfl) (by rfl) (by rfl) (by exact Nat.le_of_ble_eq_true rfl) (by decide) (by decide) (by omega) (by omega) (fun v ad' F2 hK => ?_)
    obtain ⟨rfl, rfl, hF2, hB2⟩ := hK
    exact r_iret X rfl (rfl) dX6_chargeOverhead_22 (⟨rfl, h1F.tr hF2, .inr ⟨q1, rfl, _, _, hB2, hG⟩⟩) (by omega) (by omega)
