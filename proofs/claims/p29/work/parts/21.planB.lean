/-! ===== the plan: reading and adding ===== -/
theorem fa_xor (a b : Nat) : nI a ^^^ nI b = nI (a ^^^ b) := by
  apply Int32.toBitVec_inj.1
  show BitVec.ofNat 32 a ^^^ BitVec.ofNat 32 b = BitVec.ofNat 32 (a ^^^ b)
  apply BitVec.eq_of_getLsbD_eq
  intro i hi
  simp [hi]
theorem zI_not (e : Nat) : zI ((2 ^ e : Nat) : Int) ^^^ zI (-1) = zI ((2 ^ e ^^^ 4294967295 : Nat) : Int) := by
  rw [show zI (-1) = nI 4294967295 from by decide, zI_nI, zI_nI, fa_xor]
theorem tb_clr {a e p : Nat} (ha : a < 2 ^ 32) : (a &&& (2 ^ e ^^^ 4294967295)).testBit p = true ↔ a.testBit p = true ∧ p ≠ e := by
  rw [tb_and, Nat.testBit_xor, Nat.testBit_two_pow, show (4294967295 : Nat) = 2 ^ 32 - 1 from rfl, Nat.testBit_two_pow_sub_one]
  by_cases hp : p < 32
  · by_cases he : e = p
    · subst he; simp [hp]
    · have he' : ¬ p = e := fun q => he q.symm
      simp [hp, he, he']
  · have : a.testBit p = false := Nat.testBit_lt_two_pow (Nat.lt_of_lt_of_le ha (Nat.pow_le_pow_right (by decide) (by omega)))
    simp [this]
set_option maxRecDepth 100000 in
set_option maxHeartbeats 4000000 in
theorem c_leftOfCost (g : Gx) (l : Launch) (hl : l.stackTraces = false) (ad : Nat → Nat) (F : Pic) {np nc : Nat} {pl cl pn : Nat → Int} {sh : Nat → Nat → Int} {rc py : Nat → Nat} {qu ah vi : Nat → Int} (hP : PR g ad F np nc pl cl pn sh rc py qu ah vi) (c : Nat) (hc : c < nc) : Ct g l yX3_leftOfCost cX3_leftOfCost 2 (some .int) 2 0 0 [.ref (ad 200), .int (zI (c : Int))] ad F (fun v ad' F' => v = some (.int (zI (cl c))) ∧ ad = ad' ∧ F = F') := by
  refine Ct_of hl rfl [some (.ref (ad 200)), some (.int (zI (c : Int)))] (Nat.le_of_ble_eq_true rfl) (fun _ h => h) ?_
  intro M hL hN X
  subst hL
  obtain ⟨⟨h0, h1, h2, h3, h4, h5, h6, h7, h8, h9⟩, hs, hnp, hnc⟩ := id hP
  refine r_aload_n X dX3_leftOfCost_0 (by rfl) ?_
  refine r_iload_n X dX3_leftOfCost_1 (by rfl) ?_
  refine r_callV X dX3_leftOfCost_2 kX3_57 (c_isCost g _ hl ad F hP c (by unfold inR; omega)) (by assumption) (by rfl) (by rfl) (by rfl) (by rfl) (by exact Nat.le_of_ble_eq_true rfl) (by decide) (by decide) (by omega) (by omega) (fun v ad' F' hK => ?_)
  obtain ⟨rfl, rfl, rfl⟩ := hK
  refine r_if_eqb X 17 dX3_leftOfCost_5 (by decide) (fun a => ?_) (fun a => ?_)
  · exact absurd ⟨by omega, by omega⟩ a
  · refine r_aload_n X dX3_leftOfCost_8 (by rfl) ?_
    refine r_get X dX3_leftOfCost_9 fgX3_15_6 (by assumption) (by rfl) ?_
    refine r_iload_n X dX3_leftOfCost_12 (by rfl) ?_
    refine r_iald X _ dX3_leftOfCost_13 (by assumption) (by rfl) (by omega) (by first | decide | omega) ?_
    refine r_goto X dX3_leftOfCost_14 18 (by decide) ?_
    exact r_iret X rfl (rfl) dX3_leftOfCost_18 (⟨rfl, rfl, rfl⟩) (by omega) (by omega)
set_option maxRecDepth 100000 in
set_option maxHeartbeats 4000000 in
theorem c_leftOfPot (g : Gx) (l : Launch) (hl : l.stackTraces = false) (ad : Nat → Nat) (F : Pic) {np nc : Nat} {pl cl pn : Nat → Int} {sh : Nat → Nat → Int} {rc py : Nat → Nat} {qu ah vi : Nat → Int} (hP : PR g ad F np nc pl cl pn sh rc py qu ah vi) (p : Nat) (hp : p < np) : Ct g l yX3_leftOfPot cX3_leftOfPot 2 (some .int) 2 0 0 [.ref (ad 200), .int (zI (p : Int))] ad F (fun v ad' F' => v = some (.int (zI (pl p))) ∧ ad = ad' ∧ F = F') := by
  refine Ct_of hl rfl [some (.ref (ad 200)), some (.int (zI (p : Int)))] (Nat.le_of_ble_eq_true rfl) (fun _ h => h) ?_
  intro M hL hN X
  subst hL
  obtain ⟨⟨h0, h1, h2, h3, h4, h5, h6, h7, h8, h9⟩, hs, hnp, hnc⟩ := id hP
  refine r_aload_n X dX3_leftOfPot_0 (by rfl) ?_
  refine r_iload_n X dX3_leftOfPot_1 (by rfl) ?_
  refine r_callV X dX3_leftOfPot_2 kX3_61 (c_isPot g _ hl ad F hP p (by unfold inR; omega)) (by assumption) (by rfl) (by rfl) (by rfl) (by rfl) (by exact Nat.le_of_ble_eq_true rfl) (by decide) (by decide) (by omega) (by omega) (fun v ad' F' hK => ?_)
  obtain ⟨rfl, rfl, rfl⟩ := hK
  refine r_if_eqb X 17 dX3_leftOfPot_5 (by decide) (fun a => ?_) (fun a => ?_)
  · exact absurd ⟨by omega, by omega⟩ a
  · refine r_aload_n X dX3_leftOfPot_8 (by rfl) ?_
    refine r_get X dX3_leftOfPot_9 fgX3_9_6 (by assumption) (by rfl) ?_
    refine r_iload_n X dX3_leftOfPot_12 (by rfl) ?_
    refine r_iald X _ dX3_leftOfPot_13 (by assumption) (by rfl) (by omega) (by first | decide | omega) ?_
    refine r_goto X dX3_leftOfPot_14 18 (by decide) ?_
    exact r_iret X rfl (rfl) dX3_leftOfPot_18 (⟨rfl, rfl, rfl⟩) (by omega) (by omega)
set_option maxRecDepth 100000 in
set_option maxHeartbeats 4000000 in
theorem c_share (g : Gx) (l : Launch) (hl : l.stackTraces = false) (ad : Nat → Nat) (F : Pic) {np nc : Nat} {pl cl pn : Nat → Int} {sh : Nat → Nat → Int} {rc py : Nat → Nat} {qu ah vi : Nat → Int} (hP : PR g ad F np nc pl cl pn sh rc py qu ah vi) (p c : Nat) (hp : p < np) (hc : c < nc) : Ct g l yX3_share cX3_share 3 (some .int) 2 0 0 [.ref (ad 200), .int (zI (p : Int)), .int (zI (c : Int))] ad F (fun v ad' F' => v = some (.int (zI (sh p c))) ∧ ad = ad' ∧ F = F') := by
  refine Ct_of hl rfl [some (.ref (ad 200)), some (.int (zI (p : Int))), some (.int (zI (c : Int)))] (Nat.le_of_ble_eq_true rfl) (fun _ h => h) ?_
  intro M hL hN X
  subst hL
  obtain ⟨⟨h0, h1, h2, h3, h4, h5, h6, h7, h8, h9⟩, hs, hnp, hnc⟩ := id hP
  have hsp := hs p (by omega)
  refine r_aload_n X dX3_share_0 (by rfl) ?_
  refine r_iload_n X dX3_share_1 (by rfl) ?_
  refine r_callV X dX3_share_2 kX3_61 (c_isPot g _ hl ad F hP p (by unfold inR; omega)) (by assumption) (by rfl) (by rfl) (by rfl) (by rfl) (by exact Nat.le_of_ble_eq_true rfl) (by decide) (by decide) (by omega) (by omega) (fun v ad' F' hK => ?_)
  obtain ⟨rfl, rfl, rfl⟩ := hK
  refine r_if_eqb X 27 dX3_share_5 (by decide) (fun a => ?_) (fun a => ?_)
  · exact absurd ⟨by omega, by omega⟩ a
  · refine r_aload_n X dX3_share_8 (by rfl) ?_
    refine r_iload_n X dX3_share_9 (by rfl) ?_
    refine r_callV X dX3_share_10 kX3_57 (c_isCost g _ hl ad F hP c (by unfold inR; omega)) (by assumption) (by rfl) (by rfl) (by rfl) (by rfl) (by exact Nat.le_of_ble_eq_true rfl) (by decide) (by decide) (by omega) (by omega) (fun v ad' F' hK => ?_)
    obtain ⟨rfl, rfl, rfl⟩ := hK
    refine r_if_eqb X 27 dX3_share_13 (by decide) (fun b => ?_) (fun b => ?_)
    · exact absurd ⟨by omega, by omega⟩ b
    · refine r_aload_n X dX3_share_16 (by rfl) ?_
      refine r_get X dX3_share_17 fgX3_23_6 (by assumption) (by rfl) ?_
      refine r_iload_n X dX3_share_20 (by rfl) ?_
      refine r_aaldQ X _ dX3_share_21 (by assumption) (by rfl) (by omega) (by first | decide | omega) (by exact (show some (ad (220 + p % 16)) = some (ad (220 + p)) by rw [Nat.mod_eq_of_lt (by omega)])) ?_
      refine r_iload_n X dX3_share_22 (by rfl) ?_
      refine r_iald X _ dX3_share_23 (by assumption) (by rfl) (by omega) (by first | decide | omega) ?_
      refine r_goto X dX3_share_24 28 (by decide) ?_
      exact r_iret X rfl (rfl) dX3_share_28 (⟨rfl, rfl, rfl⟩) (by omega) (by omega)
set_option maxRecDepth 100000 in
set_option maxHeartbeats 4000000 in
theorem c_setCost (g : Gx) (l : Launch) (hl : l.stackTraces = false) (ad : Nat → Nat) (F : Pic) {np nc : Nat} {pl cl pn : Nat → Int} {sh : Nat → Nat → Int} {rc py : Nat → Nat} {qu ah vi : Nat → Int} (hP : PR g ad F np nc pl cl pn sh rc py qu ah vi) (c : Nat) (hc : c < nc) (w : Int) : Ct g l yX3_setCost cX3_setCost 3 none 2 0 0 [.ref (ad 200), .int (zI (c : Int)), .int (zI w)] ad F (fun v ad' F' => v = none ∧ ad = ad' ∧ PR g ad F' np nc pl (ui cl c w) (ui pn c 0) sh rc py qu ah vi ∧ FrP F F') := by
  refine Ct_of hl rfl [some (.ref (ad 200)), some (.int (zI (c : Int))), some (.int (zI w))] (Nat.le_of_ble_eq_true rfl) (fun _ h => h) ?_
  intro M hL hN X
  subst hL
  obtain ⟨⟨h0, h1, h2, h3, h4, h5, h6, h7, h8, h9⟩, hs, hnp, hnc⟩ := id hP
  refine r_aload_n X dX3_setCost_0 (by rfl) ?_
  refine r_iload_n X dX3_setCost_1 (by rfl) ?_
  refine r_callV X dX3_setCost_2 kX3_57 (c_isCost g _ hl ad F hP c (by unfold inR; omega)) (by assumption) (by rfl) (by rfl) (by rfl) (by rfl) (by exact Nat.le_of_ble_eq_true rfl) (by decide) (by decide) (by omega) (by omega) (fun v ad' F' hK => ?_)
  obtain ⟨rfl, rfl, rfl⟩ := hK
  refine r_if_eqb X 22 dX3_setCost_5 (by decide) (fun a => ?_) (fun a => ?_)
  · exact absurd ⟨by omega, by omega⟩ a
  · refine r_aload_n X dX3_setCost_8 (by rfl) ?_
    refine r_get X dX3_setCost_9 fgX3_15_6 (by assumption) (by rfl) ?_
    refine r_iload_n X dX3_setCost_12 (by rfl) ?_
    refine r_iload_n X dX3_setCost_13 (by rfl) ?_
    refine r_ist X _ dX3_setCost_14 (by assumption) (by omega) (by rfl) (by omega) (by first | decide | omega) ?_
    refine (fun (k : ∀ F1 : Pic, (PR g ad F1 _ _ _ _ _ _ _ _ _ _ _) → (FrP F F1) → V M g ad F1 _ _ _ _ _) => k _ (hP.s_cl c w) (FrP.pu ⟨by omega, by omega⟩)) ?_
    intro F1 hP1 hQ1
    obtain ⟨⟨i0, i1, i2, i3, i4, i5, i6, i7, i8, i9⟩, is, -, -⟩ := id hP1
    refine r_aload_n X dX3_setCost_15 (by rfl) ?_
    refine r_get X dX3_setCost_16 fgX3_18_6 (by assumption) (by rfl) ?_
    refine r_iload_n X dX3_setCost_19 (by rfl) ?_
    refine r_iconst X dX3_setCost_20 rfl ?_
    refine r_ist X _ dX3_setCost_21 (by assumption) (by omega) (by rfl) (by omega) (by first | decide | omega) ?_
    refine (fun (k : ∀ F2 : Pic, (PR g ad F2 _ _ _ _ _ _ _ _ _ _ _) → (FrP F1 F2) → V M g ad F2 _ _ _ _ _) => k _ (hP1.s_pn c 0) (FrP.pu ⟨by omega, by omega⟩)) ?_
    intro F2 hP2 hQ2
    exact r_vret X rfl dX3_setCost_22 (⟨rfl, rfl, hP2, hQ1.tr hQ2⟩) (by omega) (by omega)
set_option maxRecDepth 100000 in
set_option maxHeartbeats 4000000 in
theorem c_setPot (g : Gx) (l : Launch) (hl : l.stackTraces = false) (ad : Nat → Nat) (F : Pic) {np nc : Nat} {pl cl pn : Nat → Int} {sh : Nat → Nat → Int} {rc py : Nat → Nat} {qu ah vi : Nat → Int} (hP : PR g ad F np nc pl cl pn sh rc py qu ah vi) (p : Nat) (hp : p < np) (w : Int) (u : Nat) : Ct g l yX3_setPot cX3_setPot 4 none 2 0 0 [.ref (ad 200), .int (zI (p : Int)), .int (zI w), .int (zI (u : Int))] ad F (fun v ad' F' => v = none ∧ ad = ad' ∧ PR g ad F' np nc (ui pl p w) cl pn sh (un rc p u) py qu ah vi ∧ FrP F F') := by
  refine Ct_of hl rfl [some (.ref (ad 200)), some (.int (zI (p : Int))), some (.int (zI w)), some (.int (zI (u : Int)))] (Nat.le_of_ble_eq_true rfl) (fun _ h => h) ?_
  intro M hL hN X
  subst hL
  obtain ⟨⟨h0, h1, h2, h3, h4, h5, h6, h7, h8, h9⟩, hs, hnp, hnc⟩ := id hP
  refine r_aload_n X dX3_setPot_0 (by rfl) ?_
  refine r_iload_n X dX3_setPot_1 (by rfl) ?_
  refine r_callV X dX3_setPot_2 kX3_61 (c_isPot g _ hl ad F hP p (by unfold inR; omega)) (by assumption) (by rfl) (by rfl) (by rfl) (by rfl) (by exact Nat.le_of_ble_eq_true rfl) (by decide) (by decide) (by omega) (by omega) (fun v ad' F' hK => ?_)
  obtain ⟨rfl, rfl, rfl⟩ := hK
  refine r_if_eqb X 22 dX3_setPot_5 (by decide) (fun a => ?_) (fun a => ?_)
  · exact absurd ⟨by omega, by omega⟩ a
  · refine r_aload_n X dX3_setPot_8 (by rfl) ?_
    refine r_get X dX3_setPot_9 fgX3_9_6 (by assumption) (by rfl) ?_
    refine r_iload_n X dX3_setPot_12 (by rfl) ?_
    refine r_iload_n X dX3_setPot_13 (by rfl) ?_
    refine r_ist X _ dX3_setPot_14 (by assumption) (by omega) (by rfl) (by omega) (by first | decide | omega) ?_
    refine (fun (k : ∀ F1 : Pic, (PR g ad F1 _ _ _ _ _ _ _ _ _ _ _) → (FrP F F1) → V M g ad F1 _ _ _ _ _) => k _ (hP.s_pl p w) (FrP.pu ⟨by omega, by omega⟩)) ?_
    intro F1 hP1 hQ1
    obtain ⟨⟨i0, i1, i2, i3, i4, i5, i6, i7, i8, i9⟩, is, -, -⟩ := id hP1
    refine r_aload_n X dX3_setPot_15 (by rfl) ?_
    refine r_get X dX3_setPot_16 fgX3_26_6 (by assumption) (by rfl) ?_
    refine r_iload_n X dX3_setPot_19 (by rfl) ?_
    refine r_iload_n X dX3_setPot_20 (by rfl) ?_
    refine r_ist X _ dX3_setPot_21 (by assumption) (by omega) (by rfl) (by omega) (by first | decide | omega) ?_
    refine (fun (k : ∀ F2 : Pic, (PR g ad F2 _ _ _ _ _ _ _ _ _ _ _) → (FrP F1 F2) → V M g ad F2 _ _ _ _ _) => k _ (hP1.s_rc p u) (FrP.pu ⟨by omega, by omega⟩)) ?_
    intro F2 hP2 hQ2
    exact r_vret X rfl dX3_setPot_22 (⟨rfl, rfl, hP2, hQ1.tr hQ2⟩) (by omega) (by omega)
set_option maxRecDepth 100000 in
set_option maxHeartbeats 4000000 in
theorem c_addToPot (g : Gx) (l : Launch) (hl : l.stackTraces = false) (ad : Nat → Nat) (F : Pic) {np nc : Nat} {pl cl pn : Nat → Int} {sh : Nat → Nat → Int} {rc py : Nat → Nat} {qu ah vi : Nat → Int} (hP : PR g ad F np nc pl cl pn sh rc py qu ah vi) (p : Nat) (hp : p < np) (w : Int) : Ct g l yX3_addToPot cX3_addToPot 3 none 2 0 0 [.ref (ad 200), .int (zI (p : Int)), .int (zI w)] ad F (fun v ad' F' => v = none ∧ ad = ad' ∧ PR g ad F' np nc (ui pl p (pl p + w)) cl pn sh rc py qu ah vi ∧ FrP F F') := by
  refine Ct_of hl rfl [some (.ref (ad 200)), some (.int (zI (p : Int))), some (.int (zI w))] (Nat.le_of_ble_eq_true rfl) (fun _ h => h) ?_
  intro M hL hN X
  subst hL
  obtain ⟨⟨h0, h1, h2, h3, h4, h5, h6, h7, h8, h9⟩, hs, hnp, hnc⟩ := id hP
  refine r_aload_n X dX3_addToPot_0 (by rfl) ?_
  refine r_iload_n X dX3_addToPot_1 (by rfl) ?_
  refine r_callV X dX3_addToPot_2 kX3_61 (c_isPot g _ hl ad F hP p (by unfold inR; omega)) (by assumption) (by rfl) (by rfl) (by rfl) (by rfl) (by exact Nat.le_of_ble_eq_true rfl) (by decide) (by decide) (by omega) (by omega) (fun v ad' F' hK => ?_)
  obtain ⟨rfl, rfl, rfl⟩ := hK
  refine r_if_eqb X 18 dX3_addToPot_5 (by decide) (fun a => ?_) (fun a => ?_)
  · exact absurd ⟨by omega, by omega⟩ a
  · refine r_aload_n X dX3_addToPot_8 (by rfl) ?_
    refine r_get X dX3_addToPot_9 fgX3_9_6 (by assumption) (by rfl) ?_
    refine r_iload_n X dX3_addToPot_12 (by rfl) ?_
    refine r_dup2 X dX3_addToPot_13 (by rfl) (by rfl) ?_
    refine r_iald X _ dX3_addToPot_14 (by assumption) (by rfl) (by omega) (by first | decide | omega) ?_
    refine r_iload_n X dX3_addToPot_15 (by rfl) ?_
    refine r_iadd X dX3_addToPot_16 ?_
    refine r_ist X _ dX3_addToPot_17 (by assumption) (by omega) (by rfl) (by omega) (by first | decide | omega) ?_
    refine (fun (k : ∀ F1 : Pic, (PR g ad F1 _ _ _ _ _ _ _ _ _ _ _) → (FrP F F1) → V M g ad F1 _ _ _ _ _) => k _ (hP.s_pl p (pl p + w)) (FrP.pu ⟨by omega, by omega⟩)) ?_
    intro F1 hP1 hQ1
    exact r_vret X rfl dX3_addToPot_18 (⟨rfl, rfl, hP1, hQ1⟩) (by omega) (by omega)
set_option maxRecDepth 100000 in
set_option maxHeartbeats 4000000 in
theorem c_planCost (g : Gx) (l : Launch) (hl : l.stackTraces = false) (ad : Nat → Nat) (F : Pic) {np nc : Nat} {pl cl pn : Nat → Int} {sh : Nat → Nat → Int} {rc py : Nat → Nat} {qu ah vi : Nat → Int} (hP : PR g ad F np nc pl cl pn sh rc py qu ah vi) (c : Nat) (hc : c < nc) (w : Int) : Ct g l yX3_planCost cX3_planCost 3 none 2 0 0 [.ref (ad 200), .int (zI (c : Int)), .int (zI w)] ad F (fun v ad' F' => v = none ∧ ad = ad' ∧ PR g ad F' np nc pl (ui cl c (cl c - w)) (ui pn c (pn c + w)) sh rc py qu ah vi ∧ FrP F F') := by
  refine Ct_of hl rfl [some (.ref (ad 200)), some (.int (zI (c : Int))), some (.int (zI w))] (Nat.le_of_ble_eq_true rfl) (fun _ h => h) ?_
  intro M hL hN X
  subst hL
  obtain ⟨⟨h0, h1, h2, h3, h4, h5, h6, h7, h8, h9⟩, hs, hnp, hnc⟩ := id hP
  refine r_aload_n X dX3_planCost_0 (by rfl) ?_
  refine r_iload_n X dX3_planCost_1 (by rfl) ?_
  refine r_callV X dX3_planCost_2 kX3_57 (c_isCost g _ hl ad F hP c (by unfold inR; omega)) (by assumption) (by rfl) (by rfl) (by rfl) (by rfl) (by exact Nat.le_of_ble_eq_true rfl) (by decide) (by decide) (by omega) (by omega) (fun v ad' F' hK => ?_)
  obtain ⟨rfl, rfl, rfl⟩ := hK
  refine r_if_eqb X 28 dX3_planCost_5 (by decide) (fun a => ?_) (fun a => ?_)
  · exact absurd ⟨by omega, by omega⟩ a
  · refine r_aload_n X dX3_planCost_8 (by rfl) ?_
    refine r_get X dX3_planCost_9 fgX3_15_6 (by assumption) (by rfl) ?_
    refine r_iload_n X dX3_planCost_12 (by rfl) ?_
    refine r_dup2 X dX3_planCost_13 (by rfl) (by rfl) ?_
    refine r_iald X _ dX3_planCost_14 (by assumption) (by rfl) (by omega) (by first | decide | omega) ?_
    refine r_iload_n X dX3_planCost_15 (by rfl) ?_
    refine r_isub X dX3_planCost_16 ?_
    refine r_ist X _ dX3_planCost_17 (by assumption) (by omega) (by rfl) (by omega) (by first | decide | omega) ?_
    refine (fun (k : ∀ F1 : Pic, (PR g ad F1 _ _ _ _ _ _ _ _ _ _ _) → (FrP F F1) → V M g ad F1 _ _ _ _ _) => k _ (hP.s_cl c (cl c - w)) (FrP.pu ⟨by omega, by omega⟩)) ?_
    intro F1 hP1 hQ1
    obtain ⟨⟨i0, i1, i2, i3, i4, i5, i6, i7, i8, i9⟩, is, -, -⟩ := id hP1
    refine r_aload_n X dX3_planCost_18 (by rfl) ?_
    refine r_get X dX3_planCost_19 fgX3_18_6 (by assumption) (by rfl) ?_
    refine r_iload_n X dX3_planCost_22 (by rfl) ?_
    refine r_dup2 X dX3_planCost_23 (by rfl) (by rfl) ?_
    refine r_iald X _ dX3_planCost_24 (by assumption) (by rfl) (by omega) (by first | decide | omega) ?_
    refine r_iload_n X dX3_planCost_25 (by rfl) ?_
    refine r_iadd X dX3_planCost_26 ?_
    refine r_ist X _ dX3_planCost_27 (by assumption) (by omega) (by rfl) (by omega) (by first | decide | omega) ?_
    refine (fun (k : ∀ F2 : Pic, (PR g ad F2 _ _ _ _ _ _ _ _ _ _ _) → (FrP F1 F2) → V M g ad F2 _ _ _ _ _) => k _ (hP1.s_pn c (pn c + w)) (FrP.pu ⟨by omega, by omega⟩)) ?_
    intro F2 hP2 hQ2
    exact r_vret X rfl dX3_planCost_28 (⟨rfl, rfl, hP2, hQ1.tr hQ2⟩) (by omega) (by omega)
/-- a pot's set of paid costs, when what it pays for c has become x -/
def pyN (m c : Nat) (x : Int) (m' : Nat) : Prop := ∀ q, m'.testBit q = true ↔ (q = c ∧ 0 < x) ∨ (q ≠ c ∧ m.testBit q = true)
set_option maxRecDepth 100000 in
set_option maxHeartbeats 4000000 in
theorem c_addShare (g : Gx) (l : Launch) (hl : l.stackTraces = false) (ad : Nat → Nat) (F : Pic) {np nc : Nat} {pl cl pn : Nat → Int} {sh : Nat → Nat → Int} {rc py : Nat → Nat} {qu ah vi : Nat → Int} (hP : PR g ad F np nc pl cl pn sh rc py qu ah vi) (p c : Nat) (hp : p < np) (hc : c < nc) (w : Int) (hw : inR (sh p c + w)) (hpy : py p < 65536) : Ct g l yX3_addShare cX3_addShare 5 none 2 0 0 [.ref (ad 200), .int (zI (p : Int)), .int (zI (c : Int)), .int (zI w)] ad F (fun v ad' F' => v = none ∧ ad = ad' ∧ (∃ m', PR g ad F' np nc pl cl pn (u2 sh p c (sh p c + w)) rc (un py p m') qu ah vi ∧ pyN (py p) c (sh p c + w) m') ∧ FrP F F') := by
  refine Ct_of hl rfl [some (.ref (ad 200)), some (.int (zI (p : Int))), some (.int (zI (c : Int))), some (.int (zI w)), none] (Nat.le_of_ble_eq_true rfl) (fun _ h => h) ?_
  intro M hL hN X
  subst hL
  obtain ⟨⟨h0, h1, h2, h3, h4, h5, h6, h7, h8, h9⟩, hs, hnp, hnc⟩ := id hP
  have hsp := hs p (by omega)
  refine r_aload_n X dX3_addShare_0 (by rfl) ?_
  refine r_iload_n X dX3_addShare_1 (by rfl) ?_
  refine r_callV X dX3_addShare_2 kX3_61 (c_isPot g _ hl ad F hP p (by unfold inR; omega)) (by assumption) (by rfl) (by rfl) (by rfl) (by rfl) (by exact Nat.le_of_ble_eq_true rfl) (by decide) (by decide) (by omega) (by omega) (fun v ad' F' hK => ?_)
  obtain ⟨rfl, rfl, rfl⟩ := hK
  refine r_if_eqb X 73 dX3_addShare_5 (by decide) (fun a => ?_) (fun a => ?_)
  · exact absurd ⟨by omega, by omega⟩ a
  · refine r_aload_n X dX3_addShare_8 (by rfl) ?_
    refine r_iload_n X dX3_addShare_9 (by rfl) ?_
    refine r_callV X dX3_addShare_10 kX3_57 (c_isCost g _ hl ad F hP c (by unfold inR; omega)) (by assumption) (by rfl) (by rfl) (by rfl) (by rfl) (by exact Nat.le_of_ble_eq_true rfl) (by decide) (by decide) (by omega) (by omega) (fun v ad' F' hK => ?_)
    obtain ⟨rfl, rfl, rfl⟩ := hK
    refine r_if_eqb X 73 dX3_addShare_13 (by decide) (fun b => ?_) (fun b => ?_)
    · exact absurd ⟨by omega, by omega⟩ b
    · refine r_aload_n X dX3_addShare_16 (by rfl) ?_
      refine r_get X dX3_addShare_17 fgX3_23_6 (by assumption) (by rfl) ?_
      refine r_iload_n X dX3_addShare_20 (by rfl) ?_
      refine r_aaldQ X _ dX3_addShare_21 (by assumption) (by rfl) (by omega) (by first | decide | omega) (by exact (show some (ad (220 + p % 16)) = some (ad (220 + p)) by rw [Nat.mod_eq_of_lt (by omega)])) ?_
      refine r_iload_n X dX3_addShare_22 (by rfl) ?_
      refine r_dup2 X dX3_addShare_23 (by rfl) (by rfl) ?_
      refine r_iald X _ dX3_addShare_24 (by assumption) (by rfl) (by omega) (by first | decide | omega) ?_
      refine r_iload_n X dX3_addShare_25 (by rfl) ?_
      refine r_iadd X dX3_addShare_26 ?_
      refine r_ist X _ dX3_addShare_27 (by assumption) (by omega) (by rfl) (by omega) (by first | decide | omega) ?_
      refine (fun (k : ∀ F1 : Pic, (PR g ad F1 _ _ _ _ _ _ _ _ _ _ _) → (FrP F F1) → V M g ad F1 _ _ _ _ _) => k _ (hP.s_sh (p := p) (by omega) c (sh p c + w)) (FrP.pu ⟨by omega, by omega⟩)) ?_
      intro F1 hP1 hQ1
      obtain ⟨⟨i0, i1, i2, i3, i4, i5, i6, i7, i8, i9⟩, is, -, -⟩ := id hP1
      have hsp1 := is p (by omega)
      have e1 : u2 sh p c (sh p c + w) p c = sh p c + w := if_pos ⟨rfl, rfl⟩
      refine r_iconst X dX3_addShare_28 rfl ?_
      refine r_iload_n X dX3_addShare_29 (by rfl) ?_
      refine r_ishl X (hv := zI_shl (by omega)) dX3_addShare_30 ?_
      refine r_istore X dX3_addShare_31 (by rw [hN]; decide) (by rfl) ?_
      dsimp only [List.set]
      refine r_aload_n X dX3_addShare_33 (by rfl) ?_
      refine r_get X dX3_addShare_34 fgX3_29_6 (by assumption) (by rfl) ?_
      refine r_iload_n X dX3_addShare_37 (by rfl) ?_
      refine r_aload_n X dX3_addShare_38 (by rfl) ?_
      refine r_get X dX3_addShare_39 fgX3_23_6 (by assumption) (by rfl) ?_
      refine r_iload_n X dX3_addShare_42 (by rfl) ?_
      refine r_aaldQ X _ dX3_addShare_43 (by assumption) (by rfl) (by omega) (by first | decide | omega) (by exact (show some (ad (220 + p % 16)) = some (ad (220 + p)) by rw [Nat.mod_eq_of_lt (by omega)])) ?_
      refine r_iload_n X dX3_addShare_44 (by rfl) ?_
      refine r_iald X _ dX3_addShare_45 (by assumption) (by rfl) (by omega) (by first | decide | omega) ?_
      refine W_int (congrArg zI e1) ?_
      refine r_if_le X 61 dX3_addShare_46 (by decide) (hw) (fun d => ?_) (fun d => ?_)
      · refine r_aload_n X dX3_addShare_61 (by rfl) ?_
        refine r_get X dX3_addShare_62 fgX3_29_6 (by assumption) (by rfl) ?_
        refine r_iload_n X dX3_addShare_65 (by rfl) ?_
        refine r_iald X _ dX3_addShare_66 (by assumption) (by rfl) (by omega) (by first | decide | omega) ?_
        refine r_iload X dX3_addShare_67 (by rfl) ?_
        refine r_iconst X dX3_addShare_69 rfl ?_
        refine r_ixor X (hv := zI_not c) dX3_addShare_70 ?_
        refine r_iand X (hv := zI_and _ _) dX3_addShare_71 ?_
        refine r_ist X _ dX3_addShare_72 (by assumption) (by omega) (by rfl) (by omega) (by first | decide | omega) ?_
        refine (fun (k : ∀ F2 : Pic, (PR g ad F2 _ _ _ _ _ _ _ _ _ _ _) → (FrP F1 F2) → V M g ad F2 _ _ _ _ _) => k _ (hP1.s_py p _) (FrP.pu ⟨by omega, by omega⟩)) ?_
        intro F2 hP2 hQ2
        exact r_vret X rfl dX3_addShare_73 (⟨rfl, rfl, ⟨_, hP2, fun q => by rw [tb_clr (by omega)]; exact ⟨fun h => .inr ⟨h.2, h.1⟩, fun h => h.elim (fun h => absurd h.2 (by omega)) (fun h => ⟨h.2, h.1⟩)⟩⟩, hQ1.tr hQ2⟩) (by omega) (by omega)
      · refine r_aload_n X dX3_addShare_49 (by rfl) ?_
        refine r_get X dX3_addShare_50 fgX3_29_6 (by assumption) (by rfl) ?_
        refine r_iload_n X dX3_addShare_53 (by rfl) ?_
        refine r_iald X _ dX3_addShare_54 (by assumption) (by rfl) (by omega) (by first | decide | omega) ?_
        refine r_iload X dX3_addShare_55 (by rfl) ?_
        refine r_ior X (hv := zI_or _ _) dX3_addShare_57 ?_
        refine r_goto X dX3_addShare_58 72 (by decide) ?_
        refine r_ist X _ dX3_addShare_72 (by assumption) (by omega) (by rfl) (by omega) (by first | decide | omega) ?_
        refine (fun (k : ∀ F2 : Pic, (PR g ad F2 _ _ _ _ _ _ _ _ _ _ _) → (FrP F1 F2) → V M g ad F2 _ _ _ _ _) => k _ (hP1.s_py p _) (FrP.pu ⟨by omega, by omega⟩)) ?_
        intro F2 hP2 hQ2
        exact r_vret X rfl dX3_addShare_73 (⟨rfl, rfl, ⟨_, hP2, fun q => by rw [tb_or]; exact ⟨fun h => (Decidable.em (q = c)).elim (fun e => .inl ⟨e, by omega⟩) (fun e => .inr ⟨e, h.resolve_right e⟩), fun h => h.elim (fun h => .inr h.1) (fun h => .inl h.2)⟩⟩, hQ1.tr hQ2⟩) (by omega) (by omega)
