/-! ===== the search for a chain ===== -/
theorem php : ∀ (n W : Nat) (f : Nat → Nat), (∀ i, i < W → f i < n) → (∀ i j, i < W → j < W → f i = f j → i = j) → W ≤ n := by
  intro n
  induction n with
  | zero =>
    intro W f h1 _
    rcases Nat.eq_zero_or_pos W with h | h
    · omega
    · exact absurd (h1 0 h) (Nat.not_lt_zero _)
  | succ n ih =>
    intro W f h1 h2
    cases W with
    | zero => omega
    | succ W =>
      have h := ih W (fun i => if f i = n then f W else f i) (fun i hi => by
        show (if f i = n then f W else f i) < n
        by_cases e : f i = n
        · rw [if_pos e]
          have a := h1 W (by omega)
          rcases Nat.lt_or_ge (f W) n with q | q
          · exact q
          · have e2 : f W = n := by omega
            have := h2 i W (by omega) (by omega) (e.trans e2.symm)
            omega
        · rw [if_neg e]
          have := h1 i (by omega)
          omega) (fun i j hi hj hij => by
        have hij : (if f i = n then f W else f i) = (if f j = n then f W else f j) := hij
        by_cases e : f i = n
        · by_cases e2 : f j = n
          · exact h2 i j (by omega) (by omega) (e.trans e2.symm)
          · rw [if_pos e, if_neg e2] at hij
            have := h2 W j (by omega) (by omega) hij
            omega
        · by_cases e2 : f j = n
          · rw [if_neg e, if_pos e2] at hij
            have := h2 i W (by omega) (by omega) hij
            omega
          · rw [if_neg e, if_neg e2] at hij
            exact h2 i j (by omega) (by omega) hij)
      omega
def BI (np nc : Nat) (rc py : Nat → Nat) (st k : Nat) (qu ah vi : Nat → Int) (qn : Nat → Nat) (W R : Nat) : Prop :=
  (∀ j, j < W → qu j = (qn j : Int) ∧ qn j < np) ∧ (∀ i j, i < W → j < W → qn i = qn j → i = j) ∧ (∀ p, R.testBit p = true ↔ ∃ j, j < W ∧ qn j = p) ∧ (∀ p, st.testBit p = true → R.testBit p = true) ∧
  (∀ j, j < W → (ah (qn j) = -1 ∧ st.testBit (qn j) = true) ∨ ∃ i c : Nat, i < j ∧ ah (qn j) = (qn i : Int) ∧ vi (qn j) = (c : Int) ∧ k ≤ c ∧ c < nc ∧ (rc (qn i)).testBit c = true ∧ (py (qn j)).testBit c = true ∧ ∀ i' c', i' < i → k ≤ c' → c' < nc → ¬ ((rc (qn i')).testBit c' = true ∧ (py (qn j)).testBit c' = true))
theorem BI.lt {np nc : Nat} {rc py : Nat → Nat} {st k : Nat} {qu ah vi : Nat → Int} {qn : Nat → Nat} {W R nx : Nat} (h : BI np nc rc py st k qu ah vi qn W R) (hn : nx < np) (hR : ¬ R.testBit nx = true) : W < np := by
  obtain ⟨h1, h2, h3, -, -⟩ := h
  have := php np (W + 1) (fun j => if j = W then nx else qn j) (fun i hi => by
    show (if i = W then nx else qn i) < np
    split
    · exact hn
    · exact (h1 i (by omega)).2) (fun i j hi hj hij => by
    have hij : (if i = W then nx else qn i) = (if j = W then nx else qn j) := hij
    by_cases e : i = W
    · by_cases e2 : j = W
      · omega
      · rw [if_pos e, if_neg e2] at hij
        exact absurd ((h3 nx).mpr ⟨j, by omega, hij.symm⟩) hR
    · by_cases e2 : j = W
      · rw [if_neg e, if_pos e2] at hij
        exact absurd ((h3 nx).mpr ⟨i, by omega, hij⟩) hR
      · rw [if_neg e, if_neg e2] at hij
        exact h2 i j (by omega) (by omega) hij)
  omega
theorem BI.add {np nc : Nat} {rc py : Nat → Nat} {st k : Nat} {qu ah vi : Nat → Int} {qn : Nat → Nat} {W R nx i0 c : Nat} (h : BI np nc rc py st k qu ah vi qn W R) (hn : nx < np) (hR : ¬ R.testBit nx = true) (hi : i0 < W) (hc : k ≤ c ∧ c < nc) (e1 : (rc (qn i0)).testBit c = true) (e2 : (py nx).testBit c = true) (hfar : ∀ i' c', i' < i0 → k ≤ c' → c' < nc → ¬ ((rc (qn i')).testBit c' = true ∧ (py nx).testBit c' = true)) :
    BI np nc rc py st k (ui qu W (nx : Int)) (ui ah nx (qn i0 : Int)) (ui vi nx (c : Int)) (un qn W nx) (W + 1) (R ||| 2 ^ nx) := by
  obtain ⟨h1, h2, h3, h4, h5⟩ := h
  have hne : ∀ j, j < W → qn j ≠ nx := fun j hj q => hR ((h3 nx).mpr ⟨j, hj, q⟩)
  have q0 : ∀ j, j < W → un qn W nx j = qn j := fun j hj => if_neg (by omega)
  have qW : un qn W nx W = nx := if_pos rfl
  refine ⟨fun j hj => ?_, fun i j hi hj hij => ?_, fun p => ?_, fun p hp => (tb_or nx).mpr (.inl (h4 p hp)), fun j hj => ?_⟩
  · by_cases e : j = W
    · subst e; rw [qW]; exact ⟨if_pos rfl, hn⟩
    · rw [q0 j (by omega)]; exact ⟨(if_neg e).trans (h1 j (by omega)).1, (h1 j (by omega)).2⟩
  · by_cases e : i = W
    · by_cases e2 : j = W
      · omega
      · rw [e, qW, q0 j (by omega)] at hij
        exact absurd hij.symm (hne j (by omega))
    · by_cases e2 : j = W
      · rw [e2, qW, q0 i (by omega)] at hij
        exact absurd hij (hne i (by omega))
      · rw [q0 i (by omega), q0 j (by omega)] at hij
        exact h2 i j (by omega) (by omega) hij
  · rw [tb_or, h3]
    constructor
    · rintro (⟨j, hj, e⟩ | e)
      · exact ⟨j, by omega, (q0 j hj).trans e⟩
      · exact ⟨W, by omega, qW.trans e.symm⟩
    · rintro ⟨j, hj, e⟩
      by_cases ej : j = W
      · rw [ej, qW] at e; exact .inr e.symm
      · rw [q0 j (by omega)] at e; exact .inl ⟨j, by omega, e⟩
  · by_cases e : j = W
    · subst e
      refine .inr ⟨i0, c, hi, ?_, ?_, hc.1, hc.2, ?_, ?_, ?_⟩
      · rw [qW, q0 i0 hi]; exact if_pos rfl
      · rw [qW]; exact if_pos rfl
      · rw [q0 i0 hi]; exact e1
      · rw [qW]; exact e2
      · intro i' c' h9
        rw [qW, q0 i' (by omega)]
        exact hfar i' c' h9
    · have hj' : j < W := by omega
      rw [q0 j hj']
      have a1 : ui ah nx (qn i0 : Int) (qn j) = ah (qn j) := if_neg (hne j hj')
      have a2 : ui vi nx (c : Int) (qn j) = vi (qn j) := if_neg (hne j hj')
      rcases h5 j hj' with q | ⟨i, c', b1, b2, b3, b4⟩
      · exact .inl ⟨a1.trans q.1, q.2⟩
      · refine .inr ⟨i, c', b1, ?_, a2.trans b3, ?_⟩
        · rw [q0 i (by omega)]; exact a1.trans b2
        · rw [q0 i (by omega)]
          refine ⟨b4.1, b4.2.1, b4.2.2.1, b4.2.2.2.1, fun i' c'' h9 => ?_⟩
          rw [q0 i' (by omega)]
          exact b4.2.2.2.2 i' c'' h9
def CE (rc py : Nat → Nat) (k : Nat) : Nat → List (Nat × Nat) → Prop
  | _, [] => True
  | p, x :: t => (rc x.1).testBit x.2 = true ∧ (py p).testBit x.2 = true ∧ k ≤ x.2 ∧ CE rc py k x.1 t
def FCno (np nc : Nat) (rc py : Nat → Nat) (st en k : Nat) : Prop := ∃ R : Nat, (∀ p, st.testBit p = true → R.testBit p = true) ∧ (∀ p, R.testBit p = true → p < np ∧ ¬ en.testBit p = true) ∧ (∀ a b c, R.testBit a = true → b < np → ¬ R.testBit b = true → k ≤ c → c < nc → ¬ ((rc a).testBit c = true ∧ (py b).testBit c = true))
def FCyes (np nc : Nat) (rc py : Nat → Nat) (ah vi : Nat → Int) (st en k last : Nat) (L : List (Nat × Nat)) : Prop := en.testBit last = true ∧ CH np nc ah vi last L ∧ L.length ≤ 11 ∧ CE rc py k last L ∧ st.testBit (chF last L) = true ∧ (last :: L.map Prod.fst).Nodup ∧ (∀ x ∈ L, ¬ en.testBit x.1 = true) ∧ (∀ x t, L = x :: t → t ≠ [] → ∃ s0, st.testBit s0 = true ∧ ∀ c', k ≤ c' → c' < nc → ¬ ((rc s0).testBit c' = true ∧ (py last).testBit c' = true))
theorem BI.path {np nc : Nat} {rc py : Nat → Nat} {st k : Nat} {qu ah vi : Nat → Int} {qn : Nat → Nat} {W R : Nat} (h : BI np nc rc py st k qu ah vi qn W R) : ∀ j, j < W → ∃ L : List (Nat × Nat), CH np nc ah vi (qn j) L ∧ L.length ≤ j ∧ CE rc py k (qn j) L ∧ st.testBit (chF (qn j) L) = true ∧ (∀ x ∈ L, ∃ i, i < j ∧ x.1 = qn i) ∧ (qn j :: L.map Prod.fst).Nodup ∧ (∀ x t, L = x :: t → t ≠ [] → ∃ s0, st.testBit s0 = true ∧ ∀ c', k ≤ c' → c' < nc → ¬ ((rc s0).testBit c' = true ∧ (py (qn j)).testBit c' = true)) := by
  obtain ⟨h1, h2, h3, h4, h5⟩ := h
  intro j
  induction j using Nat.strongRecOn with
  | _ j ih =>
    intro hj
    rcases h5 j hj with ⟨a1, a2⟩ | ⟨i, c, b1, b2, b3, b4, b5, b6, b7, b8⟩
    · refine ⟨[], ⟨(h1 j hj).2, by rw [a1]; unfold inR; omega, by rw [a1]; omega⟩, Nat.zero_le _, trivial, a2, fun x hx => (by cases hx), by simp, fun x t h => (by cases h)⟩
    · obtain ⟨L, c1, c2, c3, c4, c5, c6, c7⟩ := ih i b1 (by omega)
      refine ⟨(qn i, c) :: L, ⟨(h1 j hj).2, (h1 i (by omega)).2, b5, fun q => ?_, b2, b3, c1⟩, by simp; omega, ⟨b6, b7, b4, c3⟩, c4, fun x hx => ?_, ?_, fun x t hxt htn => ?_⟩
      · have := h2 i j (by omega) hj q
        omega
      · rcases List.mem_cons.mp hx with rfl | hx
        · exact ⟨i, b1, rfl⟩
        · obtain ⟨i', d1, d2⟩ := c5 x hx
          exact ⟨i', by omega, d2⟩
      · rw [List.map_cons]
        refine List.nodup_cons.mpr ⟨fun hm => ?_, c6⟩
        rcases List.mem_cons.mp hm with q | hm
        · have := h2 j i hj (by omega) q
          omega
        · obtain ⟨x, hx, e⟩ := List.mem_map.mp hm
          obtain ⟨i', d1, d2⟩ := c5 x hx
          have := h2 i' j (by omega) hj (d2.symm.trans e)
          omega
      · have ht : L = t := (List.cons.inj hxt).2
        have hi0 : 0 < i := by
          rcases Nat.eq_zero_or_pos i with z | z
          · rw [z] at c2
            exact absurd (ht ▸ List.eq_nil_of_length_eq_zero (Nat.le_zero.mp c2)) htn
          · exact z
        refine ⟨qn 0, ?_, fun c' => b8 0 c' hi0⟩
        rcases h5 0 (by omega) with ⟨_, q⟩ | ⟨i', _, q, _⟩
        · exact q
        · exact absurd q (Nat.not_lt_zero _)
set_option maxRecDepth 100000 in
set_option maxHeartbeats 4000000 in
theorem c_costBetween (g : Gx) (l : Launch) (hl : l.stackTraces = false) (ad : Nat → Nat) (F : Pic) {np nc : Nat} {pl cl pn : Nat → Int} {sh : Nat → Nat → Int} {rc py : Nat → Nat} {qu ah vi : Nat → Int} (hP : PR g ad F np nc pl cl pn sh rc py qu ah vi) (a b k : Nat) (ha : a < np) (hb : b < np) (hk : k ≤ 16) (hra : rc a < 65536) (hyb : py b < 65536) : Ct g l yX3_costBetween cX3_costBetween 6 (some .int) 2 0 0 [.ref (ad 200), .int (zI (a : Int)), .int (zI (b : Int)), .int (zI (k : Int))] ad F (fun v ad' F' => ((v = some (.int (zI (-1))) ∧ ∀ c, k ≤ c → c < nc → ¬ ((rc a).testBit c = true ∧ (py b).testBit c = true)) ∨ (∃ c : Nat, v = some (.int (zI (c : Int))) ∧ k ≤ c ∧ c < nc ∧ (rc a).testBit c = true ∧ (py b).testBit c = true)) ∧ ad = ad' ∧ F = F') := by
  refine Ct_of hl rfl [some (.ref (ad 200)), some (.int (zI (a : Int))), some (.int (zI (b : Int))), some (.int (zI (k : Int))), none, none] (Nat.le_of_ble_eq_true rfl) (fun _ h => h) ?_
  intro M hL hN X
  subst hL
  obtain ⟨⟨h0, h1, h2, h3, h4, h5, h6, h7, h8, h9⟩, hs, hnp, hnc⟩ := id hP
  refine r_aload_n X dX3_costBetween_0 (by rfl) ?_
  refine r_iload_n X dX3_costBetween_1 (by rfl) ?_
  refine r_callV X dX3_costBetween_2 kX3_61 (c_isPot g _ hl ad F hP a (by unfold inR; omega)) (by assumption) (by rfl) (by rfl) (by rfl) (by rfl) (by exact Nat.le_of_ble_eq_true rfl) (by decide) (by decide) (by omega) (by omega) (fun v ad' F' hK => ?_)
  obtain ⟨rfl, rfl, rfl⟩ := hK
  refine r_if_eqb X 32 dX3_costBetween_5 (by decide) (fun q1 => ?_) (fun q1 => ?_)
  · exact absurd ⟨by omega, by omega⟩ q1
  · refine r_aload_n X dX3_costBetween_8 (by rfl) ?_
    refine r_iload_n X dX3_costBetween_9 (by rfl) ?_
    refine r_callV X dX3_costBetween_10 kX3_61 (c_isPot g _ hl ad F hP b (by unfold inR; omega)) (by assumption) (by rfl) (by rfl) (by rfl) (by rfl) (by exact Nat.le_of_ble_eq_true rfl) (by decide) (by decide) (by omega) (by omega) (fun v ad' F' hK => ?_)
    obtain ⟨rfl, rfl, rfl⟩ := hK
    refine r_if_eqb X 32 dX3_costBetween_13 (by decide) (fun q2 => ?_) (fun q2 => ?_)
    · exact absurd ⟨by omega, by omega⟩ q2
    · refine r_aload_n X dX3_costBetween_16 (by rfl) ?_
      refine r_get X dX3_costBetween_17 fgX3_26_6 (by assumption) (by rfl) ?_
      refine r_iload_n X dX3_costBetween_20 (by rfl) ?_
      refine r_iald X _ dX3_costBetween_21 (by assumption) (by rfl) (by omega) (by first | decide | omega) ?_
      refine r_aload_n X dX3_costBetween_22 (by rfl) ?_
      refine r_get X dX3_costBetween_23 fgX3_29_6 (by assumption) (by rfl) ?_
      refine r_iload_n X dX3_costBetween_26 (by rfl) ?_
      refine r_iald X _ dX3_costBetween_27 (by assumption) (by rfl) (by omega) (by first | decide | omega) ?_
      refine r_iand X (hv := zI_and _ _) dX3_costBetween_28 ?_
      refine r_goto X dX3_costBetween_29 33 (by decide) ?_
      have hm : rc a &&& py b < 65536 := Nat.lt_of_le_of_lt Nat.and_le_left hra
      generalize hmm : rc a &&& py b = m at hm ⊢
      have hbit : ∀ c, m.testBit c = true ↔ ((rc a).testBit c = true ∧ (py b).testBit c = true) := fun c => by rw [← hmm, tb_and]
      refine r_istore X dX3_costBetween_33 (by rw [hN]; decide) (by rfl) ?_
      dsimp only [List.set]
      refine r_iload X dX3_costBetween_35 (by rfl) ?_
      refine r_if_ne X 42 dX3_costBetween_37 (by decide) (by unfold inR; omega) (fun q3 => ?_) (fun q3 => ?_)
      · refine r_iload_n X dX3_costBetween_42 (by rfl) ?_
        refine r_istore X dX3_costBetween_43 (by rw [hN]; decide) (by rfl) ?_
        dsimp only [List.set]
        have loop : ∀ (n i : Nat), nc - i = n → k ≤ i → i ≤ 16 → (∀ c, k ≤ c → c < i → ¬ m.testBit c = true) → V M g ad F 0 0 45 [some (.ref (ad 200)), some (.int (zI (a : Int))), some (.int (zI (b : Int))), some (.int (zI (k : Int))), some (.int (zI (m : Int))), some (.int (zI (i : Int)))] [] := by
          intro n
          induction n using Nat.strongRecOn with
          | _ n ih =>
            intro i hn hi h16 hno
            refine r_iload X dX3_costBetween_45 (by rfl) ?_
            refine r_aload_n X dX3_costBetween_47 (by rfl) ?_
            refine r_get X dX3_costBetween_48 fgX3_54_6 (by assumption) (by rfl) ?_
            refine r_icmp_ge X 73 dX3_costBetween_51 (by decide) (by unfold inR; omega) (by unfold inR; omega) (fun q4 => ?_) (fun q4 => ?_)
            · refine r_iconst X dX3_costBetween_73 rfl ?_
              exact r_iret X rfl (rfl) dX3_costBetween_74 (⟨.inl ⟨rfl, fun c h1 h2 h3 => hno c h1 (by omega) ((hbit c).mpr h3)⟩, rfl, rfl⟩) (by omega) (by omega)
            · refine r_iload X dX3_costBetween_54 (by rfl) ?_
              refine r_iload X dX3_costBetween_56 (by rfl) ?_
              refine r_callSN (np := 2) X dX3_costBetween_58 w489 w1 ⟨by decide, by decide⟩ (by decide +kernel) X.2.1.2.2.2.2.1.2.1 w488 (c_has g _ hl ad F m i (by omega) (by omega)) (by rfl) (by rfl) (by exact Nat.le_of_ble_eq_true rfl) (by decide) (by decide) (by omega) (by omega) (fun v ad' F' hK => ?_)
              obtain ⟨rfl, rfl, rfl⟩ := hK
              refine r_if_eqb X 67 dX3_costBetween_61 (by decide) (fun q5 => ?_) (fun q5 => ?_)
              · refine r_iinc X dX3_costBetween_67 (by rfl) (by rw [hN]; decide) (by rfl) ?_
                dsimp only [List.set]
                refine r_goto X dX3_costBetween_70 45 (by decide) ?_
                refine ih (nc - (i + 1)) (by omega) (i + 1) rfl (by omega) (by omega) (fun c h1 h2 => ?_)
                rcases Nat.lt_or_ge c i with z | z
                · exact hno c h1 z
                · rw [show c = i by omega]; exact q5
              · refine r_iload X dX3_costBetween_64 (by rfl) ?_
                exact r_iret X rfl (rfl) dX3_costBetween_66 (⟨.inr ⟨i, rfl, hi, by omega, (hbit i).mp q5⟩, rfl, rfl⟩) (by omega) (by omega)
        exact loop _ k rfl (Nat.le_refl _) hk (fun c h1 h2 => by omega)
      · refine r_iconst X dX3_costBetween_40 rfl ?_
        have hz : m = 0 := by omega
        exact r_iret X rfl (rfl) dX3_costBetween_41 (⟨.inl ⟨rfl, fun c _ _ h3 => by have := (hbit c).mpr h3; rw [hz] at this; exact tb_0 c this⟩, rfl, rfl⟩) (by omega) (by omega)
