/-- the first row of findChain: what the queue holds before the search -/
def QI (np : Nat) (st : Nat) (qu ah : Nat → Int) (qn : Nat → Nat) (W i : Nat) : Prop :=
  W ≤ i ∧ (∀ p, p < i → ah p = -1) ∧ (∀ j, j < W → qu j = (qn j : Int) ∧ qn j < i ∧ st.testBit (qn j) = true) ∧ (∀ a b, a < W → b < W → qn a = qn b → a = b) ∧ (∀ p, p < i → st.testBit p = true → ∃ j, j < W ∧ qn j = p)
theorem QI.done {np nc : Nat} {rc py : Nat → Nat} {st k : Nat} {qu ah vi : Nat → Int} {qn : Nat → Nat} {W : Nat} (h : QI np st qu ah qn W np) (hs : ∀ p, st.testBit p = true → p < np) : BI np nc rc py st k qu ah vi qn W st := by
  obtain ⟨h1, h2, h3, h4, h5⟩ := h
  exact ⟨fun j hj => ⟨(h3 j hj).1, (h3 j hj).2.1⟩, h4, fun p => ⟨fun hp => h5 p (hs p hp) hp, fun ⟨j, hj, e⟩ => e ▸ (h3 j hj).2.2⟩, fun _ hp => hp, fun j hj => .inl ⟨h2 _ (h3 j hj).2.1, (h3 j hj).2.2⟩⟩
theorem QI.skip {np st : Nat} {qu ah : Nat → Int} {qn : Nat → Nat} {W i : Nat} (h : QI np st qu ah qn W i) (hs : ¬ st.testBit i = true) : QI np st qu (ui ah i (-1)) qn W (i + 1) := by
  obtain ⟨h1, h2, h3, h4, h5⟩ := h
  refine ⟨by omega, fun p hp => ?_, fun j hj => ⟨(h3 j hj).1, by have := (h3 j hj).2.1; omega, (h3 j hj).2.2⟩, h4, fun p hp hq => ?_⟩
  · by_cases e : p = i
    · exact if_pos e
    · exact (if_neg e).trans (h2 p (by omega))
  · by_cases e : p = i
    · rw [e] at hq; exact absurd hq hs
    · exact h5 p (by omega) hq
theorem QI.add {np st : Nat} {qu ah : Nat → Int} {qn : Nat → Nat} {W i : Nat} (h : QI np st qu ah qn W i) (hs : st.testBit i = true) : QI np st (ui qu W (i : Int)) (ui ah i (-1)) (un qn W i) (W + 1) (i + 1) := by
  obtain ⟨h1, h2, h3, h4, h5⟩ := h
  have q0 : ∀ j, j < W → un qn W i j = qn j := fun j hj => if_neg (by omega)
  have qW : un qn W i W = i := if_pos rfl
  refine ⟨by omega, fun p hp => ?_, fun j hj => ?_, fun a b ha hb hab => ?_, fun p hp hq => ?_⟩
  · by_cases e : p = i
    · exact if_pos e
    · exact (if_neg e).trans (h2 p (by omega))
  · by_cases e : j = W
    · subst e; rw [qW]; exact ⟨if_pos rfl, by omega, hs⟩
    · rw [q0 j (by omega)]
      have := h3 j (by omega)
      exact ⟨(if_neg e).trans this.1, by omega, this.2.2⟩
  · by_cases e : a = W
    · by_cases e2 : b = W
      · omega
      · rw [e, qW, q0 b (by omega)] at hab
        have := (h3 b (by omega)).2.1
        omega
    · by_cases e2 : b = W
      · rw [e2, qW, q0 a (by omega)] at hab
        have := (h3 a (by omega)).2.1
        omega
      · rw [q0 a (by omega), q0 b (by omega)] at hab
        exact h4 a b (by omega) (by omega) hab
  · by_cases e : p = i
    · exact ⟨W, by omega, qW.trans e.symm⟩
    · obtain ⟨j, hj, e9⟩ := h5 p (by omega) hq
      exact ⟨j, by omega, (q0 j hj).trans e9⟩
theorem PR.lt {g : Gx} {ad : Nat → Nat} {F : Pic} {np nc : Nat} {pl cl pn : Nat → Int} {sh : Nat → Nat → Int} {rc py : Nat → Nat} {qu ah vi : Nat → Int} (hP : PR g ad F np nc pl cl pn sh rc py qu ah vi) : np ≤ 12 ∧ nc ≤ 16 := hP.2.2
set_option maxRecDepth 100000 in
set_option maxHeartbeats 4000000 in
theorem c_findChain (g : Gx) (l : Launch) (hl : l.stackTraces = false) (ad : Nat → Nat) (F : Pic) {np nc : Nat} {pl cl pn : Nat → Int} {sh : Nat → Nat → Int} {rc py : Nat → Nat} {qu ah vi : Nat → Int} (hP : PR g ad F np nc pl cl pn sh rc py qu ah vi) (st en k : Nat) (hst : ∀ p, st.testBit p = true → p < np) (hen : en < 65536) (hk : k ≤ 16) (hrc : ∀ p, p < np → rc p < 65536) (hpy : ∀ p, p < np → py p < 65536) : Ct g l yX3_findChain cX3_findChain 10 (some .int) 3 0 0 [.ref (ad 200), .int (zI (st : Int)), .int (zI (en : Int)), .int (zI (k : Int))] ad F (fun v ad' F' => ad = ad' ∧ FrP F F' ∧ ∃ qu' ah' vi', PR g ad F' np nc pl cl pn sh rc py qu' ah' vi' ∧ ((v = some (.int (zI (-1))) ∧ FCno np nc rc py st en k) ∨ (∃ (last : Nat) (L : List (Nat × Nat)), v = some (.int (zI (last : Int))) ∧ FCyes np nc rc py ah' vi' st en k last L))) := by
  refine Ct_of hl rfl [some (.ref (ad 200)), some (.int (zI (st : Int))), some (.int (zI (en : Int))), some (.int (zI (k : Int))), none, none, none, none, none, none] (Nat.le_of_ble_eq_true rfl) (fun _ h => h) ?_
  intro M hL hN X
  subst hL
  obtain ⟨hnp, hnc⟩ := hP.lt
  have hst16 : st < 65536 := (tb_lt (n := 16) (fun p hp => by have := hst p hp; omega))
  have no1 : zI (-1) = zI (-1) := rfl
  -- the search
  have main : ∀ (n kk W R : Nat) (F1 : Pic) (qu1 ah1 vi1 : Nat → Int) (qn : Nat → Nat) (L7 L8 L9 : Option Value), 12 - kk = n → kk ≤ W → W ≤ 12 → PR g ad F1 np nc pl cl pn sh rc py qu1 ah1 vi1 → FrP F F1 → BI np nc rc py st k qu1 ah1 vi1 qn W R → (∀ i, i < kk → ¬ en.testBit (qn i) = true ∧ ∀ b c, b < np → ¬ R.testBit b = true → k ≤ c → c < nc → ¬ ((rc (qn i)).testBit c = true ∧ (py b).testBit c = true)) →
      V M g ad F1 0 0 71 [some (.ref (ad 200)), some (.int (zI (st : Int))), some (.int (zI (en : Int))), some (.int (zI (k : Int))), some (.int (zI (W : Int))), some (.int (zI (R : Int))), some (.int (zI (kk : Int))), none, none, none] [] := by
    intro n
    induction n using Nat.strongRecOn with
    | _ n ih =>
      intro kk W R F1 qu1 ah1 vi1 qn L7 L8 L9 hn hkW hW hP1 hF1 hB hdone
      obtain ⟨⟨i0, i1, i2, i3, i4, i5, i6, i7, i8, i9⟩, is, -, -⟩ := id hP1
      refine r_iload X dX3_findChain_71 (by rfl) ?_
      refine r_iload X dX3_findChain_73 (by rfl) ?_
      refine r_icmp_ge X 207 dX3_findChain_75 (by decide) (by unfold inR; omega) (by unfold inR; omega) (fun a1 => ?_) (fun a1 => ?_)
      · refine r_iconst X dX3_findChain_207 rfl ?_
        have e : kk = W := by omega
        subst e
        exact r_iret X rfl (rfl) dX3_findChain_208 (⟨rfl, hF1, qu1, ah1, vi1, hP1, .inl ⟨rfl, R, hB.2.2.2.1, fun p hp => (by obtain ⟨j, hj, e⟩ := (hB.2.2.1 p).mp hp; rw [← e]; exact ⟨(hB.1 j hj).2, (hdone j hj).1⟩), fun a b c ha hb hRb h1 h2 => (by obtain ⟨j, hj, e⟩ := (hB.2.2.1 a).mp ha; rw [← e]; exact (hdone j hj).2 b c hb hRb h1 h2)⟩⟩) (by omega) (by omega)
      · refine r_iload X dX3_findChain_78 (by rfl) ?_
        refine r_bipush X dX3_findChain_80 (by decide) ?_
        refine r_icmp_ge X 207 dX3_findChain_82 (by decide) (by unfold inR; omega) (by unfold inR; omega) (fun a2 => ?_) (fun a2 => ?_)
        · omega
        · have hkk : kk < W := by omega
          have hqk := hB.1 kk hkk
          refine r_aload_n X dX3_findChain_85 (by rfl) ?_
          refine r_get X dX3_findChain_86 fgX3_32_6 (by assumption) (by rfl) ?_
          refine r_iload X dX3_findChain_89 (by rfl) ?_
          refine r_iald X _ dX3_findChain_91 (by assumption) (by rfl) (by omega) (by first | decide | omega) ?_
          refine W_int (congrArg zI hqk.1) ?_
          refine r_istore X dX3_findChain_92 (by rw [hN]; decide) (by rfl) ?_
          dsimp only [List.set]
          refine r_iload_n X dX3_findChain_94 (by rfl) ?_
          refine r_iload X dX3_findChain_95 (by rfl) ?_
          refine r_callSN (np := 2) X dX3_findChain_97 w489 w1 ⟨by decide, by decide⟩ (by decide +kernel) X.2.1.2.2.2.2.1.2.1 w488 (c_has g _ hl ad F1 en (qn kk) (by omega) (by omega)) (by rfl) (by rfl) (by exact Nat.le_of_ble_eq_true rfl) (by decide) (by decide) (by omega) (by omega) (fun v ad' F' hK => ?_)
          obtain ⟨rfl, rfl, rfl⟩ := hK
          refine r_if_eqb X 106 dX3_findChain_100 (by decide) (fun a3 => ?_) (fun a3 => ?_)
          · -- inner loop
            have inner : ∀ (m nx W R : Nat) (F1 : Pic) (qu1 ah1 vi1 : Nat → Int) (qn1 : Nat → Nat), np - nx = m → nx ≤ np → kk < W → W ≤ 12 → qn1 kk = qn kk → PR g ad F1 np nc pl cl pn sh rc py qu1 ah1 vi1 → FrP F F1 → BI np nc rc py st k qu1 ah1 vi1 qn1 W R → (∀ i, i < kk → ¬ en.testBit (qn1 i) = true ∧ ∀ b c, b < np → ¬ R.testBit b = true → k ≤ c → c < nc → ¬ ((rc (qn1 i)).testBit c = true ∧ (py b).testBit c = true)) → (∀ b c, b < nx → ¬ R.testBit b = true → k ≤ c → c < nc → ¬ ((rc (qn kk)).testBit c = true ∧ (py b).testBit c = true)) →
                V M g ad F1 0 0 109 [some (.ref (ad 200)), some (.int (zI (st : Int))), some (.int (zI (en : Int))), some (.int (zI (k : Int))), some (.int (zI (W : Int))), some (.int (zI (R : Int))), some (.int (zI (kk : Int))), some (.int (zI (qn kk : Int))), some (.int (zI (nx : Int))), none] [] := by
              intro m
              induction m using Nat.strongRecOn with
              | _ m ih2 =>
                intro nx W R F1 qu1 ah1 vi1 qn1 hm hnx hkW hW hqq hP1 hF1 hB hdone hpot
                have hR16 : R < 65536 := (tb_lt (n := 16) (fun p hp => by obtain ⟨j, hj, e⟩ := (hB.2.2.1 p).mp hp; have := (hB.1 j hj).2; omega))
                obtain ⟨⟨i0, i1, i2, i3, i4, i5, i6, i7, i8, i9⟩, is, -, -⟩ := id hP1
                refine r_iload X dX3_findChain_109 (by rfl) ?_
                refine r_aload_n X dX3_findChain_111 (by rfl) ?_
                refine r_get X dX3_findChain_112 fgX3_50_6 (by assumption) (by rfl) ?_
                refine r_icmp_ge X 201 dX3_findChain_115 (by decide) (by unfold inR; omega) (by unfold inR; omega) (fun b1 => ?_) (fun b1 => ?_)
                · refine r_iinc X dX3_findChain_201 (by rfl) (by rw [hN]; decide) (by rfl) ?_
                  dsimp only [List.set]
                  refine r_goto X dX3_findChain_204 71 (by decide) ?_
                  refine r_ls (fun i v => ?_) (ih (12 - (kk + 1)) (by omega) (kk + 1) W R F1 qu1 ah1 vi1 qn1 none none none rfl (by omega) hW hP1 hF1 hB (fun i hi => ?_))
                  · match i with
                    | 0 => exact id
                    | 1 => exact id
                    | 2 => exact id
                    | 3 => exact id
                    | 4 => exact id
                    | 5 => exact id
                    | 6 => exact id
                    | 7 => exact fun h => by cases h
                    | 8 => exact fun h => by cases h
                    | 9 => exact fun h => by cases h
                    | j + 10 => exact fun h => by cases h
                  · by_cases e : i = kk
                    · subst e
                      rw [hqq]
                      exact ⟨a3, fun b c hb => hpot b c (by omega)⟩
                    · exact hdone i (by omega)
                · refine r_iload X dX3_findChain_118 (by rfl) ?_
                  refine r_iload X dX3_findChain_120 (by rfl) ?_
                  refine r_callSN (np := 2) X dX3_findChain_122 w489 w1 ⟨by decide, by decide⟩ (by decide +kernel) X.2.1.2.2.2.2.1.2.1 w488 (c_has g _ hl ad F1 R nx (by omega) (by omega)) (by rfl) (by rfl) (by exact Nat.le_of_ble_eq_true rfl) (by decide) (by decide) (by omega) (by omega) (fun v ad' F' hK => ?_)
                  obtain ⟨rfl, rfl, rfl⟩ := hK
                  -- what comes after the choice of a cost
                  have hnext : R.testBit nx = true → V M g ad F1 0 0 141 [some (.ref (ad 200)), some (.int (zI (st : Int))), some (.int (zI (en : Int))), some (.int (zI (k : Int))), some (.int (zI (W : Int))), some (.int (zI (R : Int))), some (.int (zI (kk : Int))), some (.int (zI (qn kk : Int))), some (.int (zI (nx : Int))), none] [.int (zI (-1))] := fun hRn => by
                    refine r_istore X dX3_findChain_141 (by rw [hN]; decide) (by rfl) ?_
                    dsimp only [List.set]
                    refine r_iload X dX3_findChain_143 (by rfl) ?_
                    refine r_iconst X dX3_findChain_145 rfl ?_
                    refine r_icmp_eq X 195 dX3_findChain_146 (by decide) (by unfold inR; omega) (by unfold inR; omega) (fun b3 => ?_) (fun b3 => ?_)
                    · refine r_iinc X dX3_findChain_195 (by rfl) (by rw [hN]; decide) (by rfl) ?_
                      dsimp only [List.set]
                      refine r_goto X dX3_findChain_198 109 (by decide) ?_
                      refine r_ls (fun i v => ?_) (ih2 (np - (nx + 1)) (by omega) (nx + 1) W R F1 qu1 ah1 vi1 qn1 rfl (by omega) hkW hW hqq hP1 hF1 hB hdone (fun b c hb hRb => ?_))
                      · match i with
                        | 0 => exact id
                        | 1 => exact id
                        | 2 => exact id
                        | 3 => exact id
                        | 4 => exact id
                        | 5 => exact id
                        | 6 => exact id
                        | 7 => exact id
                        | 8 => exact id
                        | 9 => exact fun h => by cases h
                        | j + 10 => exact fun h => by cases h
                      · by_cases e : b = nx
                        · subst e; exact absurd hRn hRb
                        · exact hpot b c (by omega) hRb
                    · exact absurd rfl b3
                  refine r_if_eqb X 132 dX3_findChain_125 (by decide) (fun b2 => ?_) (fun b2 => ?_)
                  · refine r_aload_n X dX3_findChain_132 (by rfl) ?_
                    refine r_iload X dX3_findChain_133 (by rfl) ?_
                    refine r_iload X dX3_findChain_135 (by rfl) ?_
                    refine r_iload_n X dX3_findChain_137 (by rfl) ?_
                    refine r_callV X dX3_findChain_138 kX3_123 (c_costBetween g _ hl ad F1 hP1 (qn kk) nx k hqk.2 (by omega) hk (hrc _ hqk.2) (hpy _ (by omega))) (by assumption) (by rfl) (by rfl) (by rfl) (by rfl) (by exact Nat.le_of_ble_eq_true rfl) (by decide) (by decide) (by omega) (by omega) (fun v ad' F' hK => ?_)
                    obtain ⟨hv, rfl, rfl⟩ := hK
                    rcases hv with ⟨rfl, hno⟩ | ⟨c, rfl, c1, c2, c3, c4⟩
                    · refine r_istore X dX3_findChain_141 (by rw [hN]; decide) (by rfl) ?_
                      dsimp only [List.set]
                      refine r_iload X dX3_findChain_143 (by rfl) ?_
                      refine r_iconst X dX3_findChain_145 rfl ?_
                      refine r_icmp_eq X 195 dX3_findChain_146 (by decide) (by unfold inR; omega) (by unfold inR; omega) (fun b3 => ?_) (fun b3 => ?_)
                      · refine r_iinc X dX3_findChain_195 (by rfl) (by rw [hN]; decide) (by rfl) ?_
                        dsimp only [List.set]
                        refine r_goto X dX3_findChain_198 109 (by decide) ?_
                        refine r_ls (fun i v => ?_) (ih2 (np - (nx + 1)) (by omega) (nx + 1) W R F1 qu1 ah1 vi1 qn1 rfl (by omega) hkW hW hqq hP1 hF1 hB hdone (fun b c hb hRb => ?_))
                        · match i with
                          | 0 => exact id
                          | 1 => exact id
                          | 2 => exact id
                          | 3 => exact id
                          | 4 => exact id
                          | 5 => exact id
                          | 6 => exact id
                          | 7 => exact id
                          | 8 => exact id
                          | 9 => exact fun h => by cases h
                          | j + 10 => exact fun h => by cases h
                        · by_cases e : b = nx
                          · subst e; exact hno c
                          · exact hpot b c (by omega) hRb
                      · exact absurd rfl b3
                    · have hWn : W < np := hB.lt (by omega) b2
                      refine r_istore X dX3_findChain_141 (by rw [hN]; decide) (by rfl) ?_
                      dsimp only [List.set]
                      refine r_iload X dX3_findChain_143 (by rfl) ?_
                      refine r_iconst X dX3_findChain_145 rfl ?_
                      refine r_icmp_eq X 195 dX3_findChain_146 (by decide) (by unfold inR; omega) (by unfold inR; omega) (fun b3 => ?_) (fun b3 => ?_)
                      · omega
                      · refine r_iload X dX3_findChain_149 (by rfl) ?_
                        refine r_bipush X dX3_findChain_151 (by decide) ?_
                        refine r_icmp_ge X 195 dX3_findChain_153 (by decide) (by unfold inR; omega) (by unfold inR; omega) (fun b4 => ?_) (fun b4 => ?_)
                        · omega
                        · refine r_aload_n X dX3_findChain_156 (by rfl) ?_
                          refine r_get X dX3_findChain_157 fgX3_35_6 (by assumption) (by rfl) ?_
                          refine r_iload X dX3_findChain_160 (by rfl) ?_
                          refine r_iload X dX3_findChain_162 (by rfl) ?_
                          refine r_ist X _ dX3_findChain_164 (by assumption) (by omega) (by rfl) (by omega) (by first | decide | omega) ?_
                          refine (fun (k : ∀ F2 : Pic, (PR g ad F2 _ _ _ _ _ _ _ _ _ _ _) → (FrP F1 F2) → V M g ad F2 _ _ _ _ _) => k _ (hP1.s_ah nx (qn kk : Int)) (FrP.pu ⟨by omega, by omega⟩)) ?_
                          intro F2 hP2 hF2
                          obtain ⟨⟨j0, j1, j2, j3, j4, j5, j6, j7, j8, j9⟩, js, -, -⟩ := id hP2
                          refine r_aload_n X dX3_findChain_165 (by rfl) ?_
                          refine r_get X dX3_findChain_166 fgX3_38_6 (by assumption) (by rfl) ?_
                          refine r_iload X dX3_findChain_169 (by rfl) ?_
                          refine r_iload X dX3_findChain_171 (by rfl) ?_
                          refine r_ist X _ dX3_findChain_173 (by assumption) (by omega) (by rfl) (by omega) (by first | decide | omega) ?_
                          refine (fun (k : ∀ F3 : Pic, (PR g ad F3 _ _ _ _ _ _ _ _ _ _ _) → (FrP F2 F3) → V M g ad F3 _ _ _ _ _) => k _ (hP2.s_vi nx (c : Int)) (FrP.pu ⟨by omega, by omega⟩)) ?_
                          intro F3 hP3 hF3
                          obtain ⟨⟨k0, k1, k2, k3, k4, k5, k6, k7, k8, k9⟩, ks, -, -⟩ := id hP3
                          refine r_iload X dX3_findChain_174 (by rfl) ?_
                          refine r_iconst X dX3_findChain_176 rfl ?_
                          refine r_iload X dX3_findChain_177 (by rfl) ?_
                          refine r_ishl X (hv := zI_shl (by omega)) dX3_findChain_179 ?_
                          refine r_ior X (hv := zI_or _ _) dX3_findChain_180 ?_
                          refine r_istore X dX3_findChain_181 (by rw [hN]; decide) (by rfl) ?_
                          dsimp only [List.set]
                          refine r_aload_n X dX3_findChain_183 (by rfl) ?_
                          refine r_get X dX3_findChain_184 fgX3_32_6 (by assumption) (by rfl) ?_
                          refine r_iload X dX3_findChain_187 (by rfl) ?_
                          refine r_iload X dX3_findChain_189 (by rfl) ?_
                          refine r_ist X _ dX3_findChain_191 (by assumption) (by omega) (by rfl) (by omega) (by first | decide | omega) ?_
                          refine (fun (k : ∀ F4 : Pic, (PR g ad F4 _ _ _ _ _ _ _ _ _ _ _) → (FrP F3 F4) → V M g ad F4 _ _ _ _ _) => k _ (hP3.s_qu W (nx : Int)) (FrP.pu ⟨by omega, by omega⟩)) ?_
                          intro F4 hP4 hF4
                          refine r_iinc X dX3_findChain_192 (by rfl) (by rw [hN]; decide) (by rfl) ?_
                          dsimp only [List.set]
                          refine r_iinc X dX3_findChain_195 (by rfl) (by rw [hN]; decide) (by rfl) ?_
                          dsimp only [List.set]
                          refine r_goto X dX3_findChain_198 109 (by decide) ?_
                          have hB2 := hB.add (nx := nx) (i0 := kk) (c := c) (by omega) b2 hkW ⟨c1, c2⟩ (by rw [hqq]; exact c3) c4 (fun i' c' hi' h1 h2 => (hdone i' hi').2 nx c' (by omega) b2 h1 h2)
                          rw [hqq] at hB2
                          refine r_ls (fun i v => ?_) (ih2 (np - (nx + 1)) (by omega) (nx + 1) (W + 1) (R ||| 2 ^ nx) F4 _ _ _ _ rfl (by omega) (by omega) (by omega) (show un qn1 W nx kk = qn kk from (show un qn1 W nx kk = qn1 kk from if_neg (by omega)).trans hqq) hP4 (((hF1.tr hF2).tr hF3).tr hF4) hB2 (fun i hi => ?_) (fun b c' hb hRb => ?_))
                          · match i with
                            | 0 => exact id
                            | 1 => exact id
                            | 2 => exact id
                            | 3 => exact id
                            | 4 => exact id
                            | 5 => exact id
                            | 6 => exact id
                            | 7 => exact id
                            | 8 => exact id
                            | 9 => exact fun h => by cases h
                            | j + 10 => exact fun h => by cases h
                          · have e9 : un qn1 W nx i = qn1 i := if_neg (by omega)
                            rw [e9]
                            refine ⟨(hdone i hi).1, fun b c' hb hRb => (hdone i hi).2 b c' hb (fun z => hRb ((tb_or nx).mpr (.inl z)))⟩
                          · by_cases e : b = nx
                            · exact absurd ((tb_or nx).mpr (.inr e)) hRb
                            · exact hpot b c' (by omega) (fun z => hRb ((tb_or nx).mpr (.inl z)))
                  · refine r_iconst X dX3_findChain_128 rfl ?_
                    refine r_goto X dX3_findChain_129 141 (by decide) ?_
                    exact hnext b2
            refine r_iconst X dX3_findChain_106 rfl ?_
            refine r_istore X dX3_findChain_107 (by rw [hN]; decide) (by rfl) ?_
            dsimp only [List.set]
            exact inner np 0 W R F1 qu1 ah1 vi1 qn (by omega) (by omega) hkk hW rfl hP1 hF1 hB hdone (fun b c hb => by omega)
          · refine r_iload X dX3_findChain_103 (by rfl) ?_
            obtain ⟨L, d1, d2, d3, d4, d5, d6, d7⟩ := hB.path kk hkk
            exact r_iret X rfl (rfl) dX3_findChain_105 (⟨rfl, hF1, qu1, ah1, vi1, hP1, .inr ⟨qn kk, L, rfl, a3, d1, by omega, d3, d4, d6, fun x hx => (by obtain ⟨i, hi, e⟩ := d5 x hx; rw [e]; exact (hdone i hi).1), d7⟩⟩) (by omega) (by omega)
  -- the first loop
  have init : ∀ (n i W : Nat) (F1 : Pic) (qu1 ah1 vi1 : Nat → Int) (qn : Nat → Nat), np - i = n → i ≤ np → PR g ad F1 np nc pl cl pn sh rc py qu1 ah1 vi1 → FrP F F1 → QI np st qu1 ah1 qn W i →
      V M g ad F1 0 0 6 [some (.ref (ad 200)), some (.int (zI (st : Int))), some (.int (zI (en : Int))), some (.int (zI (k : Int))), some (.int (zI (W : Int))), some (.int (zI (i : Int))), none, none, none, none] [] := by
    intro n
    induction n using Nat.strongRecOn with
    | _ n ih =>
      intro i W F1 qu1 ah1 vi1 qn hn hi hP1 hF1 hQ
      obtain ⟨⟨i0, i1, i2, i3, i4, i5, i6, i7, i8, i9⟩, is, -, -⟩ := id hP1
      refine r_iload X dX3_findChain_6 (by rfl) ?_
      refine r_aload_n X dX3_findChain_8 (by rfl) ?_
      refine r_get X dX3_findChain_9 fgX3_50_6 (by assumption) (by rfl) ?_
      refine r_icmp_ge X 65 dX3_findChain_12 (by decide) (by unfold inR; omega) (by unfold inR; omega) (fun a1 => ?_) (fun a1 => ?_)
      · refine r_iload_n X dX3_findChain_65 (by rfl) ?_
        refine r_istore X dX3_findChain_66 (by rw [hN]; decide) (by rfl) ?_
        dsimp only [List.set]
        refine r_iconst X dX3_findChain_68 rfl ?_
        refine r_istore X dX3_findChain_69 (by rw [hN]; decide) (by rfl) ?_
        dsimp only [List.set]
        have e : i = np := by omega
        subst e
        exact main 12 0 W st F1 qu1 ah1 vi1 qn none none none rfl (by omega) (by have := hQ.1; omega) hP1 hF1 (hQ.done hst) (fun i hi => by omega)
      · refine r_aload_n X dX3_findChain_15 (by rfl) ?_
        refine r_get X dX3_findChain_16 fgX3_35_6 (by assumption) (by rfl) ?_
        refine r_iload X dX3_findChain_19 (by rfl) ?_
        refine r_iconst X dX3_findChain_21 rfl ?_
        refine r_ist X _ dX3_findChain_22 (by assumption) (by omega) (by rfl) (by omega) (by first | decide | omega) ?_
        refine (fun (k : ∀ F2 : Pic, (PR g ad F2 _ _ _ _ _ _ _ _ _ _ _) → (FrP F1 F2) → V M g ad F2 _ _ _ _ _) => k _ (hP1.s_ah i (-1)) (FrP.pu ⟨by omega, by omega⟩)) ?_
        intro F2 hP2 hF2
        obtain ⟨⟨j0, j1, j2, j3, j4, j5, j6, j7, j8, j9⟩, js, -, -⟩ := id hP2
        refine r_aload_n X dX3_findChain_23 (by rfl) ?_
        refine r_get X dX3_findChain_24 fgX3_38_6 (by assumption) (by rfl) ?_
        refine r_iload X dX3_findChain_27 (by rfl) ?_
        refine r_iconst X dX3_findChain_29 rfl ?_
        refine r_ist X _ dX3_findChain_30 (by assumption) (by omega) (by rfl) (by omega) (by first | decide | omega) ?_
        refine (fun (k : ∀ F3 : Pic, (PR g ad F3 _ _ _ _ _ _ _ _ _ _ _) → (FrP F2 F3) → V M g ad F3 _ _ _ _ _) => k _ (hP2.s_vi i (-1)) (FrP.pu ⟨by omega, by omega⟩)) ?_
        intro F3 hP3 hF3
        obtain ⟨⟨k0, k1, k2, k3, k4, k5, k6, k7, k8, k9⟩, ks, -, -⟩ := id hP3
        refine r_iload_n X dX3_findChain_31 (by rfl) ?_
        refine r_iload X dX3_findChain_32 (by rfl) ?_
        refine r_callSN (np := 2) X dX3_findChain_34 w489 w1 ⟨by decide, by decide⟩ (by decide +kernel) X.2.1.2.2.2.2.1.2.1 w488 (c_has g _ hl ad F3 st i (by omega) (by omega)) (by rfl) (by rfl) (by exact Nat.le_of_ble_eq_true rfl) (by decide) (by decide) (by omega) (by omega) (fun v ad' F' hK => ?_)
        obtain ⟨rfl, rfl, rfl⟩ := hK
        refine r_if_eqb X 59 dX3_findChain_37 (by decide) (fun a2 => ?_) (fun a2 => ?_)
        · refine r_iinc X dX3_findChain_59 (by rfl) (by rw [hN]; decide) (by rfl) ?_
          dsimp only [List.set]
          refine r_goto X dX3_findChain_62 6 (by decide) ?_
          exact ih (np - (i + 1)) (by omega) (i + 1) W F3 _ _ _ qn rfl (by omega) hP3 ((hF1.tr hF2).tr hF3) (hQ.skip a2)
        · have hWi := hQ.1
          refine r_iload X dX3_findChain_40 (by rfl) ?_
          refine r_bipush X dX3_findChain_42 (by decide) ?_
          refine r_icmp_ge X 59 dX3_findChain_44 (by decide) (by unfold inR; omega) (by unfold inR; omega) (fun a3 => ?_) (fun a3 => ?_)
          · omega
          · refine r_aload_n X dX3_findChain_47 (by rfl) ?_
            refine r_get X dX3_findChain_48 fgX3_32_6 (by assumption) (by rfl) ?_
            refine r_iload X dX3_findChain_51 (by rfl) ?_
            refine r_iload X dX3_findChain_53 (by rfl) ?_
            refine r_ist X _ dX3_findChain_55 (by assumption) (by omega) (by rfl) (by omega) (by first | decide | omega) ?_
            refine (fun (k : ∀ F4 : Pic, (PR g ad F4 _ _ _ _ _ _ _ _ _ _ _) → (FrP F3 F4) → V M g ad F4 _ _ _ _ _) => k _ (hP3.s_qu W (i : Int)) (FrP.pu ⟨by omega, by omega⟩)) ?_
            intro F4 hP4 hF4
            refine r_iinc X dX3_findChain_56 (by rfl) (by rw [hN]; decide) (by rfl) ?_
            dsimp only [List.set]
            refine r_iinc X dX3_findChain_59 (by rfl) (by rw [hN]; decide) (by rfl) ?_
            dsimp only [List.set]
            refine r_goto X dX3_findChain_62 6 (by decide) ?_
            exact ih (np - (i + 1)) (by omega) (i + 1) (W + 1) F4 _ _ _ _ rfl (by omega) hP4 (((hF1.tr hF2).tr hF3).tr hF4) (hQ.add a2)
  refine r_iconst X dX3_findChain_0 rfl ?_
  refine r_istore X dX3_findChain_1 (by rw [hN]; decide) (by rfl) ?_
  dsimp only [List.set]
  refine r_iconst X dX3_findChain_3 rfl ?_
  refine r_istore X dX3_findChain_4 (by rw [hN]; decide) (by rfl) ?_
  dsimp only [List.set]
  exact init np 0 0 F qu ah vi (fun _ => 0) (by omega) (by omega) hP FrP.rf ⟨by omega, fun p hp => by omega, fun j hj => by omega, fun a b hj => by omega, fun p hp => by omega⟩
