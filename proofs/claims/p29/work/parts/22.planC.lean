/-! ===== the plan: sums, sets of pots, chains ===== -/
def sm : Nat → (Nat → Int) → Int
  | 0, _ => 0
  | n + 1, f => sm n f + f n
set_option maxRecDepth 100000 in
set_option maxHeartbeats 4000000 in
theorem c_paidInAll (g : Gx) (l : Launch) (hl : l.stackTraces = false) (ad : Nat → Nat) (F : Pic) {np nc : Nat} {pl cl pn : Nat → Int} {sh : Nat → Nat → Int} {rc py : Nat → Nat} {qu ah vi : Nat → Int} (hP : PR g ad F np nc pl cl pn sh rc py qu ah vi) : Ct g l yX3_paidInAll cX3_paidInAll 3 (some .int) 1 0 0 [.ref (ad 200)] ad F (fun v ad' F' => v = some (.int (zI (sm nc pn))) ∧ ad = ad' ∧ F = F') := by
  refine Ct_of hl rfl [some (.ref (ad 200)), none, none] (Nat.le_of_ble_eq_true rfl) (fun _ h => h) ?_
  intro M hL hN X
  subst hL
  obtain ⟨⟨h0, h1, h2, h3, h4, h5, h6, h7, h8, h9⟩, hs, hnp, hnc⟩ := id hP
  refine r_iconst X dX3_paidInAll_0 rfl ?_
  refine r_istore_n X dX3_paidInAll_1 (by rw [hN]; decide) (by rfl) ?_
  dsimp only [List.set]
  refine r_iconst X dX3_paidInAll_2 rfl ?_
  refine r_istore_n X dX3_paidInAll_3 (by rw [hN]; decide) (by rfl) ?_
  dsimp only [List.set]
  have loop : ∀ (k i : Nat), nc - i = k → i ≤ nc → V M g ad F 0 0 4 [some (.ref (ad 200)), some (.int (zI (sm i pn))), some (.int (zI (i : Int)))] [] := by
    intro k
    induction k using Nat.strongRecOn with
    | _ k ih =>
      intro i hk hi
      refine r_iload_n X dX3_paidInAll_4 (by rfl) ?_
      refine r_aload_n X dX3_paidInAll_5 (by rfl) ?_
      refine r_get X dX3_paidInAll_6 fgX3_54_6 (by assumption) (by rfl) ?_
      refine r_icmp_ge X 27 dX3_paidInAll_9 (by decide) (by unfold inR; omega) (by unfold inR; omega) (fun a => ?_) (fun a => ?_)
      · refine r_iload_n X dX3_paidInAll_27 (by rfl) ?_
        have e : i = nc := by omega
        subst e
        exact r_iret X rfl (rfl) dX3_paidInAll_28 (⟨rfl, rfl, rfl⟩) (by omega) (by omega)
      · refine r_iload_n X dX3_paidInAll_12 (by rfl) ?_
        refine r_aload_n X dX3_paidInAll_13 (by rfl) ?_
        refine r_get X dX3_paidInAll_14 fgX3_18_6 (by assumption) (by rfl) ?_
        refine r_iload_n X dX3_paidInAll_17 (by rfl) ?_
        refine r_iald X _ dX3_paidInAll_18 (by assumption) (by rfl) (by omega) (by first | decide | omega) ?_
        refine r_iadd X dX3_paidInAll_19 ?_
        refine r_istore_n X dX3_paidInAll_20 (by rw [hN]; decide) (by rfl) ?_
        dsimp only [List.set]
        refine r_iinc X dX3_paidInAll_21 (by rfl) (by rw [hN]; decide) (by rfl) ?_
        dsimp only [List.set]
        refine r_goto X dX3_paidInAll_24 4 (by decide) ?_
        exact ih (nc - (i + 1)) (by omega) (i + 1) rfl (by omega)
  exact loop _ 0 rfl (by omega)
set_option maxRecDepth 100000 in
set_option maxHeartbeats 4000000 in
theorem c_potsWithMoney (g : Gx) (l : Launch) (hl : l.stackTraces = false) (ad : Nat → Nat) (F : Pic) {np nc : Nat} {pl cl pn : Nat → Int} {sh : Nat → Nat → Int} {rc py : Nat → Nat} {qu ah vi : Nat → Int} (hP : PR g ad F np nc pl cl pn sh rc py qu ah vi) (hr : ∀ p, p < np → inR (pl p)) : Ct g l yX3_potsWithMoney cX3_potsWithMoney 3 (some .int) 1 0 0 [.ref (ad 200)] ad F (fun v ad' F' => (∃ m : Nat, v = some (.int (zI (m : Int))) ∧ ∀ p, m.testBit p = true ↔ (p < np ∧ 0 < pl p)) ∧ ad = ad' ∧ F = F') := by
  refine Ct_of hl rfl [some (.ref (ad 200)), none, none] (Nat.le_of_ble_eq_true rfl) (fun _ h => h) ?_
  intro M hL hN X
  subst hL
  obtain ⟨⟨h0, h1, h2, h3, h4, h5, h6, h7, h8, h9⟩, hs, hnp, hnc⟩ := id hP
  refine r_iconst X dX3_potsWithMoney_0 rfl ?_
  refine r_istore_n X dX3_potsWithMoney_1 (by rw [hN]; decide) (by rfl) ?_
  dsimp only [List.set]
  refine r_iconst X dX3_potsWithMoney_2 rfl ?_
  refine r_istore_n X dX3_potsWithMoney_3 (by rw [hN]; decide) (by rfl) ?_
  dsimp only [List.set]
  have loop : ∀ (k i m : Nat), np - i = k → i ≤ np → (∀ p, m.testBit p = true ↔ (p < i ∧ 0 < pl p)) → V M g ad F 0 0 4 [some (.ref (ad 200)), some (.int (zI (m : Int))), some (.int (zI (i : Int)))] [] := by
    intro k
    induction k using Nat.strongRecOn with
    | _ k ih =>
      intro i m hk hi hm
      refine r_iload_n X dX3_potsWithMoney_4 (by rfl) ?_
      refine r_aload_n X dX3_potsWithMoney_5 (by rfl) ?_
      refine r_get X dX3_potsWithMoney_6 fgX3_50_6 (by assumption) (by rfl) ?_
      refine r_icmp_ge X 33 dX3_potsWithMoney_9 (by decide) (by unfold inR; omega) (by unfold inR; omega) (fun a => ?_) (fun a => ?_)
      · refine r_iload_n X dX3_potsWithMoney_33 (by rfl) ?_
        have e : i = np := by omega
        subst e
        exact r_iret X rfl (rfl) dX3_potsWithMoney_34 (⟨⟨m, rfl, hm⟩, rfl, rfl⟩) (by omega) (by omega)
      · refine r_aload_n X dX3_potsWithMoney_12 (by rfl) ?_
        refine r_get X dX3_potsWithMoney_13 fgX3_9_6 (by assumption) (by rfl) ?_
        refine r_iload_n X dX3_potsWithMoney_16 (by rfl) ?_
        refine r_iald X _ dX3_potsWithMoney_17 (by assumption) (by rfl) (by omega) (by first | decide | omega) ?_
        refine r_if_le X 27 dX3_potsWithMoney_18 (by decide) (hr i (by omega)) (fun b => ?_) (fun b => ?_)
        · refine r_iinc X dX3_potsWithMoney_27 (by rfl) (by rw [hN]; decide) (by rfl) ?_
          dsimp only [List.set]
          refine r_goto X dX3_potsWithMoney_30 4 (by decide) ?_
          refine ih (np - (i + 1)) (by omega) (i + 1) m rfl (by omega) (fun p => ?_)
          rw [hm]
          exact ⟨fun h => ⟨by omega, h.2⟩, fun h => ⟨by
            rcases Nat.lt_or_ge p i with q | q
            · exact q
            · have : p = i := by omega
              subst this; exact absurd h.2 (by omega), h.2⟩⟩
        · refine r_iload_n X dX3_potsWithMoney_21 (by rfl) ?_
          refine r_iconst X dX3_potsWithMoney_22 rfl ?_
          refine r_iload_n X dX3_potsWithMoney_23 (by rfl) ?_
          refine r_ishl X (hv := zI_shl (by omega)) dX3_potsWithMoney_24 ?_
          refine r_ior X (hv := zI_or _ _) dX3_potsWithMoney_25 ?_
          refine r_istore_n X dX3_potsWithMoney_26 (by rw [hN]; decide) (by rfl) ?_
          dsimp only [List.set]
          refine r_iinc X dX3_potsWithMoney_27 (by rfl) (by rw [hN]; decide) (by rfl) ?_
          dsimp only [List.set]
          refine r_goto X dX3_potsWithMoney_30 4 (by decide) ?_
          refine ih (np - (i + 1)) (by omega) (i + 1) _ rfl (by omega) (fun p => ?_)
          rw [tb_or, hm]
          constructor
          · rintro (h | rfl)
            · exact ⟨by omega, h.2⟩
            · exact ⟨by omega, by omega⟩
          · intro h
            rcases Nat.lt_or_ge p i with q | q
            · exact .inl ⟨q, h.2⟩
            · exact .inr (by omega)
  exact loop _ 0 0 rfl (by omega) (fun p => ⟨fun h => absurd h (tb_0 p), fun h => absurd h.1 (by omega)⟩)
set_option maxRecDepth 100000 in
set_option maxHeartbeats 4000000 in
theorem c_potsWith (g : Gx) (l : Launch) (hl : l.stackTraces = false) (ad : Nat → Nat) (F : Pic) {np nc : Nat} {pl cl pn : Nat → Int} {sh : Nat → Nat → Int} {rc py : Nat → Nat} {qu ah vi : Nat → Int} (hP : PR g ad F np nc pl cl pn sh rc py qu ah vi) (r : Nat) (f : Nat → Nat) (hF : F r = some (cI g 12 (fun j => zI (f j : Nat)))) (hf : ∀ p, p < np → f p < 65536) (c : Nat) (hc : c < 32) : Ct g l yX3_potsWith cX3_potsWith 5 (some .int) 2 0 0 [.ref (ad 200), .ref (ad r), .int (zI (c : Int))] ad F (fun v ad' F' => (∃ m : Nat, v = some (.int (zI (m : Int))) ∧ ∀ p, m.testBit p = true ↔ (p < np ∧ (f p).testBit c = true)) ∧ ad = ad' ∧ F = F') := by
  refine Ct_of hl rfl [some (.ref (ad 200)), some (.ref (ad r)), some (.int (zI (c : Int))), none, none] (Nat.le_of_ble_eq_true rfl) (fun _ h => h) ?_
  intro M hL hN X
  subst hL
  obtain ⟨⟨h0, h1, h2, h3, h4, h5, h6, h7, h8, h9⟩, hs, hnp, hnc⟩ := id hP
  refine r_iconst X dX3_potsWith_0 rfl ?_
  refine r_istore_n X dX3_potsWith_1 (by rw [hN]; decide) (by rfl) ?_
  dsimp only [List.set]
  refine r_iconst X dX3_potsWith_2 rfl ?_
  refine r_istore X dX3_potsWith_3 (by rw [hN]; decide) (by rfl) ?_
  dsimp only [List.set]
  have loop : ∀ (k i m : Nat), np - i = k → i ≤ np → (∀ p, m.testBit p = true ↔ (p < i ∧ (f p).testBit c = true)) → V M g ad F 0 0 5 [some (.ref (ad 200)), some (.ref (ad r)), some (.int (zI (c : Int))), some (.int (zI (m : Int))), some (.int (zI (i : Int)))] [] := by
    intro k
    induction k using Nat.strongRecOn with
    | _ k ih =>
      intro i m hk hi hm
      refine r_iload X dX3_potsWith_5 (by rfl) ?_
      refine r_aload_n X dX3_potsWith_7 (by rfl) ?_
      refine r_get X dX3_potsWith_8 fgX3_50_6 (by assumption) (by rfl) ?_
      refine r_icmp_ge X 45 dX3_potsWith_11 (by decide) (by unfold inR; omega) (by unfold inR; omega) (fun a => ?_) (fun a => ?_)
      · refine r_iload_n X dX3_potsWith_45 (by rfl) ?_
        have e : i = np := by omega
        subst e
        exact r_iret X rfl (rfl) dX3_potsWith_46 (⟨⟨m, rfl, hm⟩, rfl, rfl⟩) (by omega) (by omega)
      · refine r_iload X dX3_potsWith_14 (by rfl) ?_
        refine r_aload_n X dX3_potsWith_16 (by rfl) ?_
        refine r_alen (t0 := 0) X dX3_potsWith_17 (by assumption) (by rfl) ?_
        refine r_icmp_ge X 45 dX3_potsWith_18 (by decide) (by unfold inR; omega) (by unfold inR; omega) (fun a2 => ?_) (fun a2 => ?_)
        · omega
        · refine r_aload_n X dX3_potsWith_21 (by rfl) ?_
          refine r_iload X dX3_potsWith_22 (by rfl) ?_
          refine r_iald X _ dX3_potsWith_24 (by assumption) (by rfl) (by omega) (by first | decide | omega) ?_
          refine r_iload_n X dX3_potsWith_25 (by rfl) ?_
          have hfi := hf i (by omega)
          refine r_callSN (np := 2) X dX3_potsWith_26 w489 w1 ⟨by decide, by decide⟩ (by decide +kernel) X.2.1.2.2.2.2.1.2.1 w488 (c_has g _ hl ad F (f i) c (by omega) hc) (by rfl) (by rfl) (by exact Nat.le_of_ble_eq_true rfl) (by decide) (by decide) (by omega) (by omega) (fun v ad' F' hK => ?_)
          obtain ⟨rfl, rfl, rfl⟩ := hK
          refine r_if_eqb X 39 dX3_potsWith_29 (by decide) (fun b => ?_) (fun b => ?_)
          · refine r_iinc X dX3_potsWith_39 (by rfl) (by rw [hN]; decide) (by rfl) ?_
            dsimp only [List.set]
            refine r_goto X dX3_potsWith_42 5 (by decide) ?_
            refine ih (np - (i + 1)) (by omega) (i + 1) m rfl (by omega) (fun p => ?_)
            rw [hm]
            exact ⟨fun h => ⟨by omega, h.2⟩, fun h => ⟨by
              rcases Nat.lt_or_ge p i with q | q
              · exact q
              · have : p = i := by omega
                subst this; exact absurd h.2 b, h.2⟩⟩
          · refine r_iload_n X dX3_potsWith_32 (by rfl) ?_
            refine r_iconst X dX3_potsWith_33 rfl ?_
            refine r_iload X dX3_potsWith_34 (by rfl) ?_
            refine r_ishl X (hv := zI_shl (by omega)) dX3_potsWith_36 ?_
            refine r_ior X (hv := zI_or _ _) dX3_potsWith_37 ?_
            refine r_istore_n X dX3_potsWith_38 (by rw [hN]; decide) (by rfl) ?_
            dsimp only [List.set]
            refine r_iinc X dX3_potsWith_39 (by rfl) (by rw [hN]; decide) (by rfl) ?_
            dsimp only [List.set]
            refine r_goto X dX3_potsWith_42 5 (by decide) ?_
            refine ih (np - (i + 1)) (by omega) (i + 1) _ rfl (by omega) (fun p => ?_)
            rw [tb_or, hm]
            constructor
            · rintro (h | rfl)
              · exact ⟨by omega, h.2⟩
              · exact ⟨by omega, b⟩
            · intro h
              rcases Nat.lt_or_ge p i with q | q
              · exact .inl ⟨q, h.2⟩
              · exact .inr (by omega)
  exact loop _ 0 0 rfl (by omega) (fun p => ⟨fun h => absurd h (tb_0 p), fun h => absurd h.1 (by omega)⟩)
def paM (a b : Nat) : Nat := (2 ^ a - 1) &&& (65536 - 2 ^ (b + 1))
theorem pa_eq : ∀ a : Nat, a < 13 → ∀ b : Nat, b < 12 → zI (((2 ^ a : Nat) : Int) - 1) &&& (zI (-1) <<< (zI ((b : Int) + 1) &&& 31)) = zI ((paM a b : Nat) : Int) := by decide +kernel
theorem pa_tb0 : ∀ a, a < 13 → ∀ b, b < 12 → ∀ p, p < 16 → ((paM a b).testBit p = true ↔ (b < p ∧ p < a)) := by decide +kernel
theorem pa_tb {a b : Nat} (ha : a < 13) (hb : b < 12) (p : Nat) : (paM a b).testBit p = true ↔ (b < p ∧ p < a) := by
  rcases Nat.lt_or_ge p 16 with h | h
  · exact pa_tb0 a ha b hb p h
  · have h1 : (paM a b).testBit p = false := by
      refine Nat.testBit_lt_two_pow (Nat.lt_of_le_of_lt Nat.and_le_left ?_)
      have h2 : 2 ^ a ≤ 2 ^ p := Nat.pow_le_pow_right (by decide) (by omega)
      have h3 : 0 < 2 ^ a := Nat.two_pow_pos a
      omega
    rw [h1]
    exact ⟨fun q => (by cases q), fun q => by omega⟩
set_option maxRecDepth 100000 in
set_option maxHeartbeats 4000000 in
theorem c_potsAfter (g : Gx) (l : Launch) (hl : l.stackTraces = false) (ad : Nat → Nat) (F : Pic) {np nc : Nat} {pl cl pn : Nat → Int} {sh : Nat → Nat → Int} {rc py : Nat → Nat} {qu ah vi : Nat → Int} (hP : PR g ad F np nc pl cl pn sh rc py qu ah vi) (p : Nat) (hp : p < np) : Ct g l yX3_potsAfter cX3_potsAfter 2 (some .int) 1 0 0 [.ref (ad 200), .int (zI (p : Int))] ad F (fun v ad' F' => v = some (.int (zI ((paM np p : Nat) : Int))) ∧ ad = ad' ∧ F = F') := by
  refine Ct_of hl rfl [some (.ref (ad 200)), some (.int (zI (p : Int)))] (Nat.le_of_ble_eq_true rfl) (fun _ h => h) ?_
  intro M hL hN X
  subst hL
  obtain ⟨⟨h0, h1, h2, h3, h4, h5, h6, h7, h8, h9⟩, hs, hnp, hnc⟩ := id hP
  refine r_iconst X dX3_potsAfter_0 rfl ?_
  refine r_aload_n X dX3_potsAfter_1 (by rfl) ?_
  refine r_get X dX3_potsAfter_2 fgX3_50_6 (by assumption) (by rfl) ?_
  refine r_ishl X (hv := zI_shl (by omega)) dX3_potsAfter_5 ?_
  refine r_iconst X dX3_potsAfter_6 rfl ?_
  refine r_isub X dX3_potsAfter_7 ?_
  refine r_iconst X dX3_potsAfter_8 rfl ?_
  refine r_iload_n X dX3_potsAfter_9 (by rfl) ?_
  refine r_iconst X dX3_potsAfter_10 rfl ?_
  refine r_iadd X dX3_potsAfter_11 ?_
  refine r_ishl X (hv := rfl) dX3_potsAfter_12 ?_
  refine r_iand X (hv := pa_eq np (by omega) p (by omega)) dX3_potsAfter_13 ?_
  exact r_iret X rfl (rfl) dX3_potsAfter_14 (⟨rfl, rfl, rfl⟩) (by omega) (by omega)
set_option maxRecDepth 100000 in
set_option maxHeartbeats 4000000 in
theorem c_hasAhead (g : Gx) (l : Launch) (hl : l.stackTraces = false) (ad : Nat → Nat) (F : Pic) {np nc : Nat} {pl cl pn : Nat → Int} {sh : Nat → Nat → Int} {rc py : Nat → Nat} {qu ah vi : Nat → Int} (hP : PR g ad F np nc pl cl pn sh rc py qu ah vi) (p : Nat) (hp : p < np) (ha : inR (ah p)) : Ct g l yX3_hasAhead cX3_hasAhead 2 (some .boolean) 2 0 0 [.ref (ad 200), .int (zI (p : Int))] ad F (fun v ad' F' => v = some (.int (bP (0 ≤ ah p ∧ ah p < np))) ∧ ad = ad' ∧ F = F') := by
  refine Ct_of hl rfl [some (.ref (ad 200)), some (.int (zI (p : Int)))] (Nat.le_of_ble_eq_true rfl) (fun _ h => h) ?_
  intro M hL hN X
  subst hL
  obtain ⟨⟨h0, h1, h2, h3, h4, h5, h6, h7, h8, h9⟩, hs, hnp, hnc⟩ := id hP
  refine r_aload_n X dX3_hasAhead_0 (by rfl) ?_
  refine r_iload_n X dX3_hasAhead_1 (by rfl) ?_
  refine r_callV X dX3_hasAhead_2 kX3_61 (c_isPot g _ hl ad F hP p (by unfold inR; omega)) (by assumption) (by rfl) (by rfl) (by rfl) (by rfl) (by exact Nat.le_of_ble_eq_true rfl) (by decide) (by decide) (by omega) (by omega) (fun v ad' F' hK => ?_)
  obtain ⟨rfl, rfl, rfl⟩ := hK
  refine r_if_eqb X 25 dX3_hasAhead_5 (by decide) (fun a => ?_) (fun a => ?_)
  · exact absurd ⟨by omega, by omega⟩ a
  · refine r_aload_n X dX3_hasAhead_8 (by rfl) ?_
    refine r_aload_n X dX3_hasAhead_9 (by rfl) ?_
    refine r_get X dX3_hasAhead_10 fgX3_35_6 (by assumption) (by rfl) ?_
    refine r_iload_n X dX3_hasAhead_13 (by rfl) ?_
    refine r_iald X _ dX3_hasAhead_14 (by assumption) (by rfl) (by omega) (by first | decide | omega) ?_
    refine r_callV X dX3_hasAhead_15 kX3_61 (c_isPot g _ hl ad F hP (ah p) ha) (by assumption) (by rfl) (by rfl) (by rfl) (by rfl) (by exact Nat.le_of_ble_eq_true rfl) (by decide) (by decide) (by omega) (by omega) (fun v ad' F' hK => ?_)
    obtain ⟨rfl, rfl, rfl⟩ := hK
    refine r_if_eqb X 25 dX3_hasAhead_18 (by decide) (fun b => ?_) (fun b => ?_)
    · refine r_iconst X dX3_hasAhead_25 rfl ?_
      exact r_iret X rfl (rfl) dX3_hasAhead_26 (⟨by rw [bP_f b], rfl, rfl⟩) (by omega) (by omega)
    · refine r_iconst X dX3_hasAhead_21 rfl ?_
      refine r_goto X dX3_hasAhead_22 26 (by decide) ?_
      exact r_iret X rfl (rfl) dX3_hasAhead_26 (⟨by rw [bP_t b], rfl, rfl⟩) (by omega) (by omega)
/-- from p on: each pot's 'ahead' and the cost between them -/
def CH (np nc : Nat) (ah vi : Nat → Int) : Nat → List (Nat × Nat) → Prop
  | p, [] => p < np ∧ inR (ah p) ∧ ¬ (0 ≤ ah p ∧ ah p < np)
  | p, x :: t => p < np ∧ x.1 < np ∧ x.2 < nc ∧ x.1 ≠ p ∧ ah p = (x.1 : Int) ∧ vi p = (x.2 : Int) ∧ CH np nc ah vi x.1 t
def chF : Nat → List (Nat × Nat) → Nat
  | p, [] => p
  | _, x :: t => chF x.1 t
def chN (sh : Nat → Nat → Int) : Nat → List (Nat × Nat) → Int → Int
  | _, [], w => w
  | p, x :: t, w => chN sh x.1 t (min w (sh p x.2))
def chS (a : Int) : (Nat → Nat → Int) → Nat → List (Nat × Nat) → (Nat → Nat → Int)
  | sh, _, [] => sh
  | sh, p, x :: t => chS a (u2 (u2 sh p x.2 (sh p x.2 + -a)) x.1 x.2 (u2 sh p x.2 (sh p x.2 + -a) x.1 x.2 + a)) x.1 t
def PYI (np nc : Nat) (sh : Nat → Nat → Int) (py : Nat → Nat) : Prop := ∀ p, p < np → ∀ q, (py p).testBit q = true ↔ (q < nc ∧ 0 < sh p q)
theorem CH.lt {np nc : Nat} {ah vi : Nat → Int} {p : Nat} {L : List (Nat × Nat)} (h : CH np nc ah vi p L) : p < np := by
  cases L with
  | nil => exact h.1
  | cons x t => exact h.1
theorem CH.r {np nc : Nat} {ah vi : Nat → Int} {p : Nat} {L : List (Nat × Nat)} (hn : np ≤ 12) (h : CH np nc ah vi p L) : inR (ah p) := by
  cases L with
  | nil => exact h.2.1
  | cons x t => obtain ⟨-, h2, -, -, h3, -⟩ := h; rw [h3]; unfold inR; omega
theorem PYI.lt {np nc : Nat} {sh : Nat → Nat → Int} {py : Nat → Nat} (h : PYI np nc sh py) (hc : nc ≤ 16) {p : Nat} (hp : p < np) : py p < 65536 := by
  have : py p < 2 ^ 16 := tb_lt (fun q hq => by have := ((h p hp q).mp hq).1; omega)
  exact this
theorem PYI.put {np nc : Nat} {sh : Nat → Nat → Int} {py : Nat → Nat} (h : PYI np nc sh py) {p c m' : Nat} {x : Int} (hc : c < nc) (hm : p < np → pyN (py p) c x m') : PYI np nc (u2 sh p c x) (un py p m') := by
  intro a ha q
  unfold un u2
  by_cases e : a = p
  · subst e
    rw [if_pos rfl, hm ha q, h a ha q]
    by_cases eq : q = c
    · subst eq; simp [hc]
    · simp [eq]
  · rw [if_neg e, h a ha q]
    simp [e]
set_option maxRecDepth 100000 in
set_option maxHeartbeats 4000000 in
theorem c_firstOfChain (g : Gx) (l : Launch) (hl : l.stackTraces = false) (ad : Nat → Nat) (F : Pic) {np nc : Nat} {pl cl pn : Nat → Int} {sh : Nat → Nat → Int} {rc py : Nat → Nat} {qu ah vi : Nat → Int} (hP : PR g ad F np nc pl cl pn sh rc py qu ah vi) (p : Nat) (L : List (Nat × Nat)) (hC : CH np nc ah vi p L) (hL : L.length ≤ 11) : Ct g l yX3_firstOfChain cX3_firstOfChain 4 (some .int) 3 0 0 [.ref (ad 200), .int (zI (p : Int))] ad F (fun v ad' F' => v = some (.int (zI (chF p L : Int))) ∧ ad = ad' ∧ F = F') := by
  refine Ct_of hl rfl [some (.ref (ad 200)), some (.int (zI (p : Int))), none, none] (Nat.le_of_ble_eq_true rfl) (fun _ h => h) ?_
  intro M hL hN X
  subst hL
  obtain ⟨⟨h0, h1, h2, h3, h4, h5, h6, h7, h8, h9⟩, hs, hnp, hnc⟩ := id hP
  refine r_iload_n X dX3_firstOfChain_0 (by rfl) ?_
  refine r_istore_n X dX3_firstOfChain_1 (by rw [hN]; decide) (by rfl) ?_
  dsimp only [List.set]
  refine r_iconst X dX3_firstOfChain_2 rfl ?_
  refine r_istore_n X dX3_firstOfChain_3 (by rw [hN]; decide) (by rfl) ?_
  dsimp only [List.set]
  have loop : ∀ (T : List (Nat × Nat)) (q i : Nat), CH np nc ah vi q T → i + T.length ≤ 11 → chF q T = chF p L → V M g ad F 0 0 4 [some (.ref (ad 200)), some (.int (zI (p : Int))), some (.int (zI (q : Int))), some (.int (zI (i : Int)))] [] := by
    intro T
    induction T with
    | nil =>
      intro q i hC hi he
      refine r_iload_n X dX3_firstOfChain_4 (by rfl) ?_
      refine r_bipush X dX3_firstOfChain_5 (by decide) ?_
      refine r_icmp_ge X 31 dX3_firstOfChain_7 (by decide) (by unfold inR; omega) (by unfold inR; omega) (fun a => ?_) (fun a => ?_)
      · have h9 : i ≤ 11 := hi
        omega
      · refine r_aload_n X dX3_firstOfChain_10 (by rfl) ?_
        refine r_iload_n X dX3_firstOfChain_11 (by rfl) ?_
        refine r_callV X dX3_firstOfChain_12 kX3_126 (c_hasAhead g _ hl ad F hP q hC.1 hC.2.1) (by assumption) (by rfl) (by rfl) (by rfl) (by rfl) (by exact Nat.le_of_ble_eq_true rfl) (by decide) (by decide) (by omega) (by omega) (fun v ad' F' hK => ?_)
        obtain ⟨rfl, rfl, rfl⟩ := hK
        refine r_if_eqb X 31 dX3_firstOfChain_15 (by decide) (fun b => ?_) (fun b => ?_)
        · refine r_iload_n X dX3_firstOfChain_31 (by rfl) ?_
          exact r_iret X rfl (rfl) dX3_firstOfChain_32 (⟨by rw [← he]; rfl, rfl, rfl⟩) (by omega) (by omega)
        · exact absurd b hC.2.2
    | cons x t ih =>
      intro q i hC hi he
      have hi9 : i + (t.length + 1) ≤ 11 := hi
      obtain ⟨c1, c2, c3, c4, c5, c6, c7⟩ := hC
      refine r_iload_n X dX3_firstOfChain_4 (by rfl) ?_
      refine r_bipush X dX3_firstOfChain_5 (by decide) ?_
      refine r_icmp_ge X 31 dX3_firstOfChain_7 (by decide) (by unfold inR; omega) (by unfold inR; omega) (fun a => ?_) (fun a => ?_)
      · omega
      · refine r_aload_n X dX3_firstOfChain_10 (by rfl) ?_
        refine r_iload_n X dX3_firstOfChain_11 (by rfl) ?_
        refine r_callV X dX3_firstOfChain_12 kX3_126 (c_hasAhead g _ hl ad F hP q c1 (by rw [c5]; unfold inR; omega)) (by assumption) (by rfl) (by rfl) (by rfl) (by rfl) (by exact Nat.le_of_ble_eq_true rfl) (by decide) (by decide) (by omega) (by omega) (fun v ad' F' hK => ?_)
        obtain ⟨rfl, rfl, rfl⟩ := hK
        refine r_if_eqb X 31 dX3_firstOfChain_15 (by decide) (fun b => ?_) (fun b => ?_)
        · exact absurd ⟨by omega, by omega⟩ b
        · refine r_aload_n X dX3_firstOfChain_18 (by rfl) ?_
          refine r_get X dX3_firstOfChain_19 fgX3_35_6 (by assumption) (by rfl) ?_
          refine r_iload_n X dX3_firstOfChain_22 (by rfl) ?_
          refine r_iald X _ dX3_firstOfChain_23 (by assumption) (by rfl) (by omega) (by first | decide | omega) ?_
          refine W_int (congrArg zI c5) ?_
          refine r_istore_n X dX3_firstOfChain_24 (by rw [hN]; decide) (by rfl) ?_
          dsimp only [List.set]
          refine r_iinc X dX3_firstOfChain_25 (by rfl) (by rw [hN]; decide) (by rfl) ?_
          dsimp only [List.set]
          refine r_goto X dX3_firstOfChain_28 4 (by decide) ?_
          exact ih x.1 (i + 1) c7 (by omega) he
  exact loop L p 0 hC (by omega) rfl
set_option maxRecDepth 100000 in
set_option maxHeartbeats 4000000 in
theorem c_narrowest (g : Gx) (l : Launch) (hl : l.stackTraces = false) (ad : Nat → Nat) (F : Pic) {np nc : Nat} {pl cl pn : Nat → Int} {sh : Nat → Nat → Int} {rc py : Nat → Nat} {qu ah vi : Nat → Int} (hP : PR g ad F np nc pl cl pn sh rc py qu ah vi) (p : Nat) (L : List (Nat × Nat)) (hC : CH np nc ah vi p L) (hL : L.length ≤ 11) (w : Int) (hw : inR w) (hsr : ∀ p c, p < np → c < nc → inR (sh p c)) : Ct g l yX3_narrowest cX3_narrowest 6 (some .int) 3 0 0 [.ref (ad 200), .int (zI (p : Int)), .int (zI w)] ad F (fun v ad' F' => v = some (.int (zI (chN sh p L w))) ∧ ad = ad' ∧ F = F') := by
  refine Ct_of hl rfl [some (.ref (ad 200)), some (.int (zI (p : Int))), some (.int (zI w)), none, none, none] (Nat.le_of_ble_eq_true rfl) (fun _ h => h) ?_
  intro M hL hN X
  subst hL
  obtain ⟨⟨h0, h1, h2, h3, h4, h5, h6, h7, h8, h9⟩, hs, hnp, hnc⟩ := id hP
  refine r_iload_n X dX3_narrowest_0 (by rfl) ?_
  refine r_istore_n X dX3_narrowest_1 (by rw [hN]; decide) (by rfl) ?_
  dsimp only [List.set]
  refine r_iload_n X dX3_narrowest_2 (by rfl) ?_
  refine r_istore X dX3_narrowest_3 (by rw [hN]; decide) (by rfl) ?_
  dsimp only [List.set]
  refine r_iconst X dX3_narrowest_5 rfl ?_
  refine r_istore X dX3_narrowest_6 (by rw [hN]; decide) (by rfl) ?_
  dsimp only [List.set]
  have loop : ∀ (T : List (Nat × Nat)) (q i : Nat) (u : Int), inR u → CH np nc ah vi q T → i + T.length ≤ 11 → chN sh q T u = chN sh p L w → V M g ad F 0 0 8 [some (.ref (ad 200)), some (.int (zI (p : Int))), some (.int (zI w)), some (.int (zI u)), some (.int (zI (q : Int))), some (.int (zI (i : Int)))] [] := by
    intro T
    induction T with
    | nil =>
      intro q i u hu hC hi he
      refine r_iload X dX3_narrowest_8 (by rfl) ?_
      refine r_bipush X dX3_narrowest_10 (by decide) ?_
      refine r_icmp_ge X 57 dX3_narrowest_12 (by decide) (by unfold inR; omega) (by unfold inR; omega) (fun a => ?_) (fun a => ?_)
      · have h9 : i ≤ 11 := hi
        omega
      · refine r_aload_n X dX3_narrowest_15 (by rfl) ?_
        refine r_iload X dX3_narrowest_16 (by rfl) ?_
        refine r_callV X dX3_narrowest_18 kX3_126 (c_hasAhead g _ hl ad F hP q hC.1 hC.2.1) (by assumption) (by rfl) (by rfl) (by rfl) (by rfl) (by exact Nat.le_of_ble_eq_true rfl) (by decide) (by decide) (by omega) (by omega) (fun v ad' F' hK => ?_)
        obtain ⟨rfl, rfl, rfl⟩ := hK
        refine r_if_eqb X 57 dX3_narrowest_21 (by decide) (fun b => ?_) (fun b => ?_)
        · refine r_iload_n X dX3_narrowest_57 (by rfl) ?_
          exact r_iret X rfl (rfl) dX3_narrowest_58 (⟨by rw [← he]; rfl, rfl, rfl⟩) (by omega) (by omega)
        · exact absurd b hC.2.2
    | cons x t ih =>
      intro q i u hu hC hi he
      have hi9 : i + (t.length + 1) ≤ 11 := hi
      obtain ⟨c1, c2, c3, c4, c5, c6, c7⟩ := hC
      refine r_iload X dX3_narrowest_8 (by rfl) ?_
      refine r_bipush X dX3_narrowest_10 (by decide) ?_
      refine r_icmp_ge X 57 dX3_narrowest_12 (by decide) (by unfold inR; omega) (by unfold inR; omega) (fun a => ?_) (fun a => ?_)
      · omega
      · refine r_aload_n X dX3_narrowest_15 (by rfl) ?_
        refine r_iload X dX3_narrowest_16 (by rfl) ?_
        refine r_callV X dX3_narrowest_18 kX3_126 (c_hasAhead g _ hl ad F hP q c1 (by rw [c5]; unfold inR; omega)) (by assumption) (by rfl) (by rfl) (by rfl) (by rfl) (by exact Nat.le_of_ble_eq_true rfl) (by decide) (by decide) (by omega) (by omega) (fun v ad' F' hK => ?_)
        obtain ⟨rfl, rfl, rfl⟩ := hK
        refine r_if_eqb X 57 dX3_narrowest_21 (by decide) (fun b => ?_) (fun b => ?_)
        · exact absurd ⟨by omega, by omega⟩ b
        · refine r_iload_n X dX3_narrowest_24 (by rfl) ?_
          refine r_aload_n X dX3_narrowest_25 (by rfl) ?_
          refine r_iload X dX3_narrowest_26 (by rfl) ?_
          refine r_aload_n X dX3_narrowest_28 (by rfl) ?_
          refine r_get X dX3_narrowest_29 fgX3_38_6 (by assumption) (by rfl) ?_
          refine r_iload X dX3_narrowest_32 (by rfl) ?_
          refine r_iald X _ dX3_narrowest_34 (by assumption) (by rfl) (by omega) (by first | decide | omega) ?_
          refine W_int (congrArg zI c6) ?_
          refine r_callV X dX3_narrowest_35 kX3_120 (c_share g _ hl ad F hP q x.2 c1 c3) (by assumption) (by rfl) (by rfl) (by rfl) (by rfl) (by exact Nat.le_of_ble_eq_true rfl) (by decide) (by decide) (by omega) (by omega) (fun v ad' F' hK => ?_)
          obtain ⟨rfl, rfl, rfl⟩ := hK
          have hsq := hsr q x.2 c1 c3
          refine r_mmin X dX3_narrowest_38 w459 w307 w12 w308 (hu) (hsq) (by exact Nat.le_of_ble_eq_true rfl) (by decide) (by omega) (by omega) ?_
          refine r_istore_n X dX3_narrowest_41 (by rw [hN]; decide) (by rfl) ?_
          dsimp only [List.set]
          refine r_aload_n X dX3_narrowest_42 (by rfl) ?_
          refine r_get X dX3_narrowest_43 fgX3_35_6 (by assumption) (by rfl) ?_
          refine r_iload X dX3_narrowest_46 (by rfl) ?_
          refine r_iald X _ dX3_narrowest_48 (by assumption) (by rfl) (by omega) (by first | decide | omega) ?_
          refine W_int (congrArg zI c5) ?_
          refine r_istore X dX3_narrowest_49 (by rw [hN]; decide) (by rfl) ?_
          dsimp only [List.set]
          refine r_iinc X dX3_narrowest_51 (by rfl) (by rw [hN]; decide) (by rfl) ?_
          dsimp only [List.set]
          refine r_goto X dX3_narrowest_54 8 (by decide) ?_
          exact ih x.1 (i + 1) _ (by unfold inR at hu hsq ⊢; omega) c7 (by omega) he
  exact loop L p 0 w hw hC (by omega) rfl
set_option maxRecDepth 100000 in
set_option maxHeartbeats 4000000 in
theorem c_shiftAlongChain (g : Gx) (l : Launch) (hl : l.stackTraces = false) (ad : Nat → Nat) (F : Pic) {np nc : Nat} {pl cl pn : Nat → Int} {sh : Nat → Nat → Int} {rc py : Nat → Nat} {qu ah vi : Nat → Int} (hP : PR g ad F np nc pl cl pn sh rc py qu ah vi) (p : Nat) (L : List (Nat × Nat)) (hC : CH np nc ah vi p L) (hL : L.length ≤ 11) (a B : Int) (ha : 0 ≤ a ∧ a ≤ 100000000) (hB : ∀ p c, p < np → c < nc → -B ≤ sh p c ∧ sh p c ≤ B) (hBL : B + 100000000 * (L.length : Int) ≤ 2000000000) (hI : PYI np nc sh py) : Ct g l yX3_shiftAlongChain cX3_shiftAlongChain 5 none 3 0 0 [.ref (ad 200), .int (zI (p : Int)), .int (zI a)] ad F (fun v ad' F' => v = none ∧ ad = ad' ∧ (∃ py', PR g ad F' np nc pl cl pn (chS a sh p L) rc py' qu ah vi ∧ PYI np nc (chS a sh p L) py') ∧ FrP F F') := by
  refine Ct_of hl rfl [some (.ref (ad 200)), some (.int (zI (p : Int))), some (.int (zI a)), none, none] (Nat.le_of_ble_eq_true rfl) (fun _ h => h) ?_
  intro M hL hN X
  subst hL
  obtain ⟨⟨h0, h1, h2, h3, h4, h5, h6, h7, h8, h9⟩, hs, hnp, hnc⟩ := id hP
  refine r_iload_n X dX3_shiftAlongChain_0 (by rfl) ?_
  refine r_istore_n X dX3_shiftAlongChain_1 (by rw [hN]; decide) (by rfl) ?_
  dsimp only [List.set]
  refine r_iconst X dX3_shiftAlongChain_2 rfl ?_
  refine r_istore X dX3_shiftAlongChain_3 (by rw [hN]; decide) (by rfl) ?_
  dsimp only [List.set]
  have loop : ∀ (T : List (Nat × Nat)) (q i : Nat) (F1 : Pic) (sh1 : Nat → Nat → Int) (py1 : Nat → Nat) (B : Int), CH np nc ah vi q T → i + T.length ≤ 11 → PR g ad F1 np nc pl cl pn sh1 rc py1 qu ah vi → PYI np nc sh1 py1 → FrP F F1 → (∀ p c, p < np → c < nc → -B ≤ sh1 p c ∧ sh1 p c ≤ B) → B + 100000000 * (T.length : Int) ≤ 2000000000 → chS a sh1 q T = chS a sh p L → V M g ad F1 0 0 5 [some (.ref (ad 200)), some (.int (zI (p : Int))), some (.int (zI a)), some (.int (zI (q : Int))), some (.int (zI (i : Int)))] [] := by
    intro T
    induction T with
    | nil =>
      intro q i F1 sh1 py1 B hC hi hP1 hI1 hF1 hB hBL he
      obtain ⟨⟨i0, i1, i2, i3, i4, i5, i6, i7, i8, i9⟩, is, -, -⟩ := id hP1
      refine r_iload X dX3_shiftAlongChain_5 (by rfl) ?_
      refine r_bipush X dX3_shiftAlongChain_7 (by decide) ?_
      refine r_icmp_ge X 63 dX3_shiftAlongChain_9 (by decide) (by unfold inR; omega) (by unfold inR; omega) (fun b => ?_) (fun b => ?_)
      · have h9 : i ≤ 11 := hi
        omega
      · refine r_aload_n X dX3_shiftAlongChain_12 (by rfl) ?_
        refine r_iload_n X dX3_shiftAlongChain_13 (by rfl) ?_
        refine r_callV X dX3_shiftAlongChain_14 kX3_126 (c_hasAhead g _ hl ad F1 hP1 q hC.1 hC.2.1) (by assumption) (by rfl) (by rfl) (by rfl) (by rfl) (by exact Nat.le_of_ble_eq_true rfl) (by decide) (by decide) (by omega) (by omega) (fun v ad' F' hK => ?_)
        obtain ⟨rfl, rfl, rfl⟩ := hK
        refine r_if_eqb X 63 dX3_shiftAlongChain_17 (by decide) (fun b => ?_) (fun b => ?_)
        · have e : sh1 = chS a sh p L := he
          subst e
          exact r_vret X rfl dX3_shiftAlongChain_63 (⟨rfl, rfl, ⟨py1, hP1, hI1⟩, hF1⟩) (by omega) (by omega)
        · exact absurd b hC.2.2
    | cons x t ih =>
      intro q i F1 sh1 py1 B hC hi hP1 hI1 hF1 hB hBL he
      have hi9 : i + (t.length + 1) ≤ 11 := hi
      have hBL9 : B + 100000000 * ((t.length + 1 : Nat) : Int) ≤ 2000000000 := hBL
      obtain ⟨c1, c2, c3, c4, c5, c6, c7⟩ := hC
      have hbq := hB q x.2 c1 c3
      have hbx := hB x.1 x.2 c2 c3
      obtain ⟨⟨i0, i1, i2, i3, i4, i5, i6, i7, i8, i9⟩, is, -, -⟩ := id hP1
      refine r_iload X dX3_shiftAlongChain_5 (by rfl) ?_
      refine r_bipush X dX3_shiftAlongChain_7 (by decide) ?_
      refine r_icmp_ge X 63 dX3_shiftAlongChain_9 (by decide) (by unfold inR; omega) (by unfold inR; omega) (fun b => ?_) (fun b => ?_)
      · omega
      · refine r_aload_n X dX3_shiftAlongChain_12 (by rfl) ?_
        refine r_iload_n X dX3_shiftAlongChain_13 (by rfl) ?_
        refine r_callV X dX3_shiftAlongChain_14 kX3_126 (c_hasAhead g _ hl ad F1 hP1 q c1 (by rw [c5]; unfold inR; omega)) (by assumption) (by rfl) (by rfl) (by rfl) (by rfl) (by exact Nat.le_of_ble_eq_true rfl) (by decide) (by decide) (by omega) (by omega) (fun v ad' F' hK => ?_)
        obtain ⟨rfl, rfl, rfl⟩ := hK
        refine r_if_eqb X 63 dX3_shiftAlongChain_17 (by decide) (fun b => ?_) (fun b => ?_)
        · exact absurd ⟨by omega, by omega⟩ b
        · refine r_aload_n X dX3_shiftAlongChain_20 (by rfl) ?_
          refine r_iload_n X dX3_shiftAlongChain_21 (by rfl) ?_
          refine r_aload_n X dX3_shiftAlongChain_22 (by rfl) ?_
          refine r_get X dX3_shiftAlongChain_23 fgX3_38_6 (by assumption) (by rfl) ?_
          refine r_iload_n X dX3_shiftAlongChain_26 (by rfl) ?_
          refine r_iald X _ dX3_shiftAlongChain_27 (by assumption) (by rfl) (by omega) (by first | decide | omega) ?_
          refine W_int (congrArg zI c6) ?_
          refine r_iload_n X dX3_shiftAlongChain_28 (by rfl) ?_
          refine r_ineg X dX3_shiftAlongChain_29 ?_
          refine r_callV X dX3_shiftAlongChain_30 kX3_107 (c_addShare g _ hl ad F1 hP1 q x.2 c1 c3 (-a) (by unfold inR; omega) (hI1.lt hnc c1)) (by assumption) (by rfl) (by rfl) (by rfl) (by rfl) (by exact Nat.le_of_ble_eq_true rfl) (by decide) (by decide) (by omega) (by omega) (fun v ad' F2 hK => ?_)
          obtain ⟨rfl, rfl, ⟨m2, hP2, hm2⟩, hF2⟩ := hK
          have hI2 := hI1.put c3 (fun _ => hm2)
          obtain ⟨⟨j0, j1, j2, j3, j4, j5, j6, j7, j8, j9⟩, js, -, -⟩ := id hP2
          refine r_aload_n X dX3_shiftAlongChain_33 (by rfl) ?_
          refine r_aload_n X dX3_shiftAlongChain_34 (by rfl) ?_
          refine r_get X dX3_shiftAlongChain_35 fgX3_35_6 (by assumption) (by rfl) ?_
          refine r_iload_n X dX3_shiftAlongChain_38 (by rfl) ?_
          refine r_iald X _ dX3_shiftAlongChain_39 (by assumption) (by rfl) (by omega) (by first | decide | omega) ?_
          refine W_int (congrArg zI c5) ?_
          refine r_aload_n X dX3_shiftAlongChain_40 (by rfl) ?_
          refine r_get X dX3_shiftAlongChain_41 fgX3_38_6 (by assumption) (by rfl) ?_
          refine r_iload_n X dX3_shiftAlongChain_44 (by rfl) ?_
          refine r_iald X _ dX3_shiftAlongChain_45 (by assumption) (by rfl) (by omega) (by first | decide | omega) ?_
          refine W_int (congrArg zI c6) ?_
          refine r_iload_n X dX3_shiftAlongChain_46 (by rfl) ?_
          have e2 : u2 sh1 q x.2 (sh1 q x.2 + -a) x.1 x.2 = sh1 x.1 x.2 := if_neg (fun z => c4 z.1)
          refine r_callV X dX3_shiftAlongChain_47 kX3_107 (c_addShare g _ hl ad F2 hP2 x.1 x.2 c2 c3 a (by rw [e2]; unfold inR; omega) (hI2.lt hnc c2)) (by assumption) (by rfl) (by rfl) (by rfl) (by rfl) (by exact Nat.le_of_ble_eq_true rfl) (by decide) (by decide) (by omega) (by omega) (fun v ad' F3 hK => ?_)
          obtain ⟨rfl, rfl, ⟨m3, hP3, hm3⟩, hF3⟩ := hK
          have hI3 := hI2.put c3 (fun _ => hm3)
          obtain ⟨⟨k0, k1, k2, k3, k4, k5, k6, k7, k8, k9⟩, ks, -, -⟩ := id hP3
          refine r_aload_n X dX3_shiftAlongChain_50 (by rfl) ?_
          refine r_get X dX3_shiftAlongChain_51 fgX3_35_6 (by assumption) (by rfl) ?_
          refine r_iload_n X dX3_shiftAlongChain_54 (by rfl) ?_
          refine r_iald X _ dX3_shiftAlongChain_55 (by assumption) (by rfl) (by omega) (by first | decide | omega) ?_
          refine W_int (congrArg zI c5) ?_
          refine r_istore_n X dX3_shiftAlongChain_56 (by rw [hN]; decide) (by rfl) ?_
          dsimp only [List.set]
          refine r_iinc X dX3_shiftAlongChain_57 (by rfl) (by rw [hN]; decide) (by rfl) ?_
          dsimp only [List.set]
          refine r_goto X dX3_shiftAlongChain_60 5 (by decide) ?_
          refine ih x.1 (i + 1) F3 _ _ (B + 100000000) c7 (by omega) hP3 hI3 ((hF1.tr hF2).tr hF3) (fun p9 c9 h9 h8 => ?_) (by omega) he
          have h7 := hB p9 c9 h9 h8
          unfold u2
          split
          · rw [if_neg (fun z => c4 z.1)]; omega
          · split
            · omega
            · omega
  exact loop L p 0 F sh py B hC (by omega) hP hI FrP.rf hB hBL rfl
