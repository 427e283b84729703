/-! ===== the plan's amounts, of any ledger ===== -/
theorem sm_pos {n : Nat} {f : Nat → Int} (h : 0 < sm n f) : ∃ i, i < n ∧ 0 < f i := by
  induction n with
  | zero => exact absurd h (by show ¬ (0 : Int) < 0; omega)
  | succ n ih =>
    have e : sm (n + 1) f = sm n f + f n := rfl
    by_cases z : 0 < f n
    · exact ⟨n, by omega, z⟩
    · obtain ⟨i, a, b⟩ := ih (by omega)
      exact ⟨i, by omega, b⟩
theorem S1.uniq {A : Nat → Nat → Int} {kf : Nat → Nat} {nk nf nc : Nat} {pn pn' : Nat → Int} (h : S1 A kf nk nf nc pn) (h' : S1 A kf nk nf nc pn') : ∀ c, c < nc → pn c = pn' c := fun c hc => by
  have a := (h c (by omega)).uniq (h' c (by omega))
  have b := (h (c + 1) (by omega)).uniq (h' (c + 1) (by omega))
  have e1 : sm (c + 1) pn = sm c pn + pn c := rfl
  have e2 : sm (c + 1) pn' = sm c pn' + pn' c := rfl
  omega
theorem S2.uniq {A : Nat → Nat → Int} {kf : Nat → Nat} {nk nf nc : Nat} {pn dr dr' : Nat → Int} (h : S2 A kf nk nf nc pn dr) (h' : S2 A kf nk nf nc pn dr') : ∀ p, p < nk + nf → dr p = dr' p := fun p hp => by
  have a := (h p (by omega)).uniq (h' p (by omega))
  have b := (h (p + 1) (by omega)).uniq (h' (p + 1) (by omega))
  have e1 : sm (p + 1) dr = sm p dr + dr p := rfl
  have e2 : sm (p + 1) dr' = sm p dr' + dr' p := rfl
  omega
theorem S2.pn {A : Nat → Nat → Int} {kf : Nat → Nat} {nk nf nc : Nat} {pn pn' dr : Nat → Int} (h : S2 A kf nk nf nc pn dr) (e : ∀ c, c < nc → pn c = pn' c) : S2 A kf nk nf nc pn' dr := fun k hk => (h k hk).eqs (fun _ _ => rfl) (fun _ _ => rfl) e
theorem FL.nn {A : Nat → Nat → Int} {kf : Nat → Nat} {nk nf nc : Nat} {pn : Nat → Int} (h : FL A kf nk nf nc pn) {c : Nat} (hc : c < nc) : 0 ≤ pn c ∧ pn c ≤ A 12 c := by
  obtain ⟨W, w1, w2, w3, w4⟩ := h
  have a := w4 c hc
  have b := sm_nn (n := nk + nf) (f := fun p => W p c) (fun p hp => w1 p c hp hc)
  omega
theorem FL.pn {A : Nat → Nat → Int} {kf : Nat → Nat} {nk nf nc : Nat} {pn pn' : Nat → Int} (h : FL A kf nk nf nc pn) (e : ∀ c, c < nc → pn c = pn' c) : FL A kf nk nf nc pn' := by
  obtain ⟨W, w1, w2, w3, w4⟩ := h
  exact ⟨W, w1, w2, w3, fun c hc => by rw [← e c hc]; exact w4 c hc⟩
theorem rcF_tb {A : Nat → Nat → Int} {kf : Nat → Nat} {nk nf nc p c : Nat} : (rcF A kf nk nf nc p).testBit c = true ↔ c < nc ∧ mpP A kf (PS A nk nf p) c := mkm_tb
theorem FL.pos {A : Nat → Nat → Int} {kf : Nat → Nat} {nk nf nc : Nat} {pn : Nat → Int} (h : FL A kf nk nf nc pn) {c : Nat} (hc : c < nc) (hp : 0 < pn c) : PAw A kf nk nf c (nk + nf) := by
  obtain ⟨W, w1, w2, w3, w4⟩ := h
  rw [(w4 c hc).2] at hp
  obtain ⟨p, p1, p2⟩ := sm_pos hp
  have a := sm_one (n := nc) (f := W p) (fun d hd => w1 p d p1 hd) hc
  have b := w3 p p1
  have p2 : 0 < W p c := p2
  exact ⟨p, p1, by omega, (rcF_tb.mp (w2 p c p1 hc p2)).2⟩
theorem S1.first {td : Int} {A : Nat → Nat → Int} {kf : Nat → Nat} {nk nf nc t : Nat} {pn : Nat → Int} (hI : IV td nf nk nc A kf t) (h : S1 A kf nk nf nc pn) {c : Nat} (hc : c < nc) (hu : A 12 c ≠ 0) (hP : PAw A kf nk nf c (nk + nf)) (hz : ∀ d, d < c → pn d = 0) : 0 < pn c := by
  obtain ⟨⟨X, x1, x2⟩, -⟩ := h (c + 1) (by omega)
  obtain ⟨p, p1, p2, p3⟩ := hP
  have e : sm (c + 1) pn = pn c := by
    show sm c pn + pn c = pn c
    rw [sm_zero hz]; omega
  rw [e] at x2
  have m0 : ∀ q, q < nk + nf → 0 ≤ (if X.testBit q then mo A nk nf q else 0) := fun q hq => by
    have := (hI.mob hq).1
    split <;> omega
  have a0 : ∀ d, d < c + 1 → 0 ≤ (if rB (nk + nf) (rcF A kf nk nf nc) X d then A 12 d else 0) := fun d hd => by
    have := (hI.2.2.2.1 d (by omega)).2.2.1
    split <;> omega
  have s1 := sm_nn m0
  have s2 := sm_nn a0
  unfold cutv at x2
  by_cases hx : X.testBit p = true
  · have s3 := sm_one m0 p1
    rw [if_pos hx] at s3
    omega
  · have s3 := sm_one a0 (k := c) (by omega)
    rw [if_pos (rB_iff.mpr ⟨p, p1, hx, rcF_tb.mpr ⟨hc, p3⟩⟩)] at s3
    have := (hI.2.2.2.1 c hc).2.2.1
    omega
/-! cuts against a way to pay -/
section Cut2
variable {np nc : Nat} {mon amt pn g : Nat → Int} {rc : Nat → Nat} {W : Nat → Nat → Int}
theorem cuw_ge (w1 : ∀ p c, p < np → c < nc → 0 ≤ W p c) (w2 : ∀ p c, p < np → c < nc → 0 < W p c → (rc p).testBit c = true) (hg : ∀ p, p < np → sm nc (W p) ≤ g p) (w4 : ∀ c, c < nc → pn c = sm np (fun p => W p c)) (X : Nat) : sm nc pn ≤ cutv np nc g pn rc X := by
  have e1 : sm nc pn = sm nc (fun c => if rB np rc X c then pn c else 0) + sm nc (fun c => if rB np rc X c then 0 else pn c) := by
    rw [← sm_add]
    exact sm_congr (fun c _ => by
      show pn c = (if rB np rc X c then pn c else 0) + (if rB np rc X c then 0 else pn c)
      split <;> omega)
  have e3 : sm nc (fun c => if rB np rc X c then 0 else pn c) = sm nc (fun c => sm np (fun p => if rB np rc X c then 0 else W p c)) := sm_congr (fun c hc => by
    show (if rB np rc X c then 0 else pn c) = sm np (fun p => if rB np rc X c then 0 else W p c)
    by_cases z : rB np rc X c = true
    · rw [if_pos z]; exact (sm_zero (fun p _ => if_pos z)).symm
    · rw [if_neg z, w4 c hc]; exact sm_congr (fun p _ => (if_neg z).symm))
  have sw : sm np (fun p => sm nc (fun c => if rB np rc X c then 0 else W p c)) = sm nc (fun c => sm np (fun p => if rB np rc X c then 0 else W p c)) := sm_swap np nc (fun p c => if rB np rc X c then 0 else W p c)
  have e2 : sm np (fun p => sm nc (fun c => if rB np rc X c then 0 else W p c)) ≤ sm np (fun p => if X.testBit p then g p else 0) := by
    refine sm_le (fun p hp => ?_)
    show sm nc (fun c => if rB np rc X c then 0 else W p c) ≤ if X.testBit p then g p else 0
    by_cases x : X.testBit p = true
    · rw [if_pos x]
      refine Int.le_trans (sm_le (h := W p) (fun c hc => ?_)) (hg p hp)
      have := w1 p c hp hc
      show (if rB np rc X c then 0 else W p c) ≤ W p c
      split <;> omega
    · rw [if_neg x, sm_zero (fun c hc => ?_)]
      · exact Int.le_refl _
      · show (if rB np rc X c then 0 else W p c) = 0
        by_cases z : rB np rc X c = true
        · rw [if_pos z]
        · rw [if_neg z]
          have a := w1 p c hp hc
          rcases Int.lt_or_le 0 (W p c) with b | b
          · exact absurd (rB_iff.mpr ⟨p, hp, x, w2 p c hp hc b⟩) z
          · omega
  unfold cutv
  omega
theorem cuw_mc (w1 : ∀ p c, p < np → c < nc → 0 ≤ W p c) (w2 : ∀ p c, p < np → c < nc → 0 < W p c → (rc p).testBit c = true) (w3 : ∀ p, p < np → sm nc (W p) ≤ mon p) (w4 : ∀ c, c < nc → pn c = sm np (fun p => W p c)) : MC np nc mon pn rc (sm nc pn) := by
  refine ⟨⟨0, Nat.two_pow_pos _, Int.le_antisymm ?_ (cuw_ge w1 w2 w3 w4 0)⟩, fun X _ => cuw_ge w1 w2 w3 w4 X⟩
  have a : sm nc (fun c => if rB np rc 0 c then pn c else 0) ≤ sm nc pn := sm_le (fun c hc => by
    have := sm_nn (n := np) (f := fun p => W p c) (fun p hp => w1 p c hp hc)
    have := w4 c hc
    show (if rB np rc 0 c then pn c else 0) ≤ pn c
    split <;> omega)
  have b : sm np (fun p => if (0 : Nat).testBit p then mon p else 0) = 0 := sm_zero (fun p _ => if_neg (tb_0 p))
  unfold cutv
  omega
theorem cuw_tight {dr : Nat → Int} (hM : ∃ X, X < 2 ^ np ∧ cutv np nc mon amt rc X = sm nc pn) (w1 : ∀ p c, p < np → c < nc → 0 ≤ W p c) (w2 : ∀ p c, p < np → c < nc → 0 < W p c → (rc p).testBit c = true) (hr : ∀ p, p < np → sm nc (W p) = dr p ∧ dr p ≤ mon p) (hc : ∀ c, c < nc → pn c = sm np (fun p => W p c) ∧ pn c ≤ amt c) {p c : Nat} (hp : p < np) (hcn : c < nc) (hb : (rc p).testBit c = true) : dr p = mon p ∨ pn c = amt c := by
  obtain ⟨X, -, hX⟩ := hM
  have lo := cuw_ge (g := dr) w1 w2 (fun p hp => Int.le_of_eq (hr p hp).1) (fun c hc' => (hc c hc').1) X
  have m0 : ∀ q, q < np → 0 ≤ (if X.testBit q then mon q else 0) - (if X.testBit q then dr q else 0) := fun q hq => by
    have := (hr q hq).2
    split <;> omega
  have a0 : ∀ d, d < nc → 0 ≤ (if rB np rc X d then amt d else 0) - (if rB np rc X d then pn d else 0) := fun d hd => by
    have := (hc d hd).2
    split <;> omega
  have s1 := sm_nn m0
  have s2 := sm_nn a0
  have t1 := sm_sub np (fun q => if X.testBit q then mon q else 0) (fun q => if X.testBit q then dr q else 0)
  have t2 := sm_sub nc (fun d => if rB np rc X d then amt d else 0) (fun d => if rB np rc X d then pn d else 0)
  unfold cutv at hX lo
  by_cases hx : X.testBit p = true
  · have s3 := sm_one m0 hp
    rw [if_pos hx, if_pos hx] at s3
    have := (hr p hp).2
    exact .inl (by omega)
  · have s3 := sm_one a0 hcn
    rw [if_pos (rB_iff.mpr ⟨p, hp, hx, hb⟩), if_pos (rB_iff.mpr ⟨p, hp, hx, hb⟩)] at s3
    have := (hc c hcn).2
    exact .inr (by omega)
end Cut2
theorem FL.total {A : Nat → Nat → Int} {kf : Nat → Nat} {nk nf nc : Nat} {pn dr : Nat → Int} (h : FL A kf nk nf nc pn) (h2 : S2 A kf nk nf nc pn dr) : sm (nk + nf) dr = sm nc pn := by
  obtain ⟨W, w1, w2, w3, w4⟩ := h
  exact (h2 (nk + nf) (Nat.le_refl _)).uniq (cuw_mc w1 w2 w3 (fun c hc => (w4 c hc).2))
/-! ===== the amounts of a ledger, by its numbers alone ===== -/
noncomputable def pnC (A : Nat → Nat → Int) (kf : Nat → Nat) (nk nf nc : Nat) : Nat → Int := @dite _ (∃ pn, S1 A kf nk nf nc pn) (Classical.propDecidable _) (fun h => h.choose) (fun _ _ => 0)
noncomputable def drC (A : Nat → Nat → Int) (kf : Nat → Nat) (nk nf nc : Nat) : Nat → Int := @dite _ (∃ dr, S2 A kf nk nf nc (pnC A kf nk nf nc) dr) (Classical.propDecidable _) (fun h => h.choose) (fun _ _ => 0)
noncomputable def tkC (A : Nat → Nat → Int) (kf : Nat → Nat) (nk nf nc f : Nat) : Int := sm (nk + nf) (fun p => if ow kf (PS A nk nf p) = f then drC A kf nk nf nc p else 0)
theorem S1.can {A : Nat → Nat → Int} {kf : Nat → Nat} {nk nf nc : Nat} {pn : Nat → Int} (h : S1 A kf nk nf nc pn) : S1 A kf nk nf nc (pnC A kf nk nf nc) := by
  unfold pnC
  rw [dif_pos ⟨pn, h⟩]
  exact (Exists.intro pn h : ∃ pn, S1 A kf nk nf nc pn).choose_spec
theorem S1.eqC {A : Nat → Nat → Int} {kf : Nat → Nat} {nk nf nc : Nat} {pn : Nat → Int} (h : S1 A kf nk nf nc pn) : ∀ c, c < nc → pn c = pnC A kf nk nf nc c := h.uniq h.can
theorem S2.can {A : Nat → Nat → Int} {kf : Nat → Nat} {nk nf nc : Nat} {pn dr : Nat → Int} (h1 : S1 A kf nk nf nc pn) (h : S2 A kf nk nf nc pn dr) : S2 A kf nk nf nc (pnC A kf nk nf nc) (drC A kf nk nf nc) := by
  have h9 := h.pn h1.eqC
  unfold drC
  rw [dif_pos ⟨dr, h9⟩]
  exact (Exists.intro dr h9 : ∃ dr, S2 A kf nk nf nc (pnC A kf nk nf nc) dr).choose_spec
theorem S2.eqC {A : Nat → Nat → Int} {kf : Nat → Nat} {nk nf nc : Nat} {pn dr : Nat → Int} (h1 : S1 A kf nk nf nc pn) (h : S2 A kf nk nf nc pn dr) : ∀ p, p < nk + nf → dr p = drC A kf nk nf nc p := (h.pn h1.eqC).uniq (S2.can h1 h)
theorem S2.tk {A : Nat → Nat → Int} {kf : Nat → Nat} {nk nf nc : Nat} {pn dr : Nat → Int} (h1 : S1 A kf nk nf nc pn) (h : S2 A kf nk nf nc pn dr) (f : Nat) : sm (nk + nf) (fun p => if ow kf (PS A nk nf p) = f then dr p else 0) = tkC A kf nk nf nc f := sm_congr (fun p hp => by
  show (if ow kf (PS A nk nf p) = f then dr p else 0) = if ow kf (PS A nk nf p) = f then drC A kf nk nf nc p else 0
  rw [S2.eqC h1 h p hp])
/-- what a forecast shows: of the costs; of the funds -/
def FC1 (A : Nat → Nat → Int) (kf : Nat → Nat) (nk nf nc : Nat) : Prop := S1 A kf nk nf nc (pnC A kf nk nf nc) ∧ FL A kf nk nf nc (pnC A kf nk nf nc)
def FC2 (A : Nat → Nat → Int) (kf : Nat → Nat) (nk nf nc : Nat) : Prop := FC1 A kf nk nf nc ∧ S2 A kf nk nf nc (pnC A kf nk nf nc) (drC A kf nk nf nc)
theorem FC1.of {A : Nat → Nat → Int} {kf : Nat → Nat} {nk nf nc : Nat} {pn : Nat → Int} (h : S1 A kf nk nf nc pn) (hf : FL A kf nk nf nc pn) : FC1 A kf nk nf nc := ⟨h.can, hf.pn h.eqC⟩
theorem FC2.of {A : Nat → Nat → Int} {kf : Nat → Nat} {nk nf nc : Nat} {pn dr : Nat → Int} (h : S1 A kf nk nf nc pn) (hf : FL A kf nk nf nc pn) (h2 : S2 A kf nk nf nc pn dr) : FC2 A kf nk nf nc := ⟨.of h hf, S2.can h h2⟩
theorem FC2.total {td : Int} {A : Nat → Nat → Int} {kf : Nat → Nat} {nk nf nc t : Nat} (hI : IV td nf nk nc A kf t) (h : FC2 A kf nk nf nc) : sm nf (tkC A kf nk nf nc) = sm nc (pnC A kf nk nf nc) := by
  rw [← h.1.2.total h.2]
  exact sm_own (fun p hp => VC.own hI (PS_vc hI.1.2.2.2.1 hp))
/-- a cost that can be charged -/
def CHG (A : Nat → Nat → Int) (kf : Nat → Nat) (nk nf c : Nat) : Prop := A 12 c ≠ 0 ∧ PAw A kf nk nf c (nk + nf)
theorem FC1.pos {A : Nat → Nat → Int} {kf : Nat → Nat} {nk nf nc : Nat} (h : FC1 A kf nk nf nc) {c : Nat} (hc : c < nc) (hn : ¬ CHG A kf nk nf c) : pnC A kf nk nf nc c = 0 := by
  have a := h.2.nn hc
  rcases Int.lt_or_le 0 (pnC A kf nk nf nc c) with b | b
  · exact absurd ⟨by omega, h.2.pos hc b⟩ hn
  · omega
theorem FC1.first {td : Int} {A : Nat → Nat → Int} {kf : Nat → Nat} {nk nf nc t : Nat} (hI : IV td nf nk nc A kf t) (h : FC1 A kf nk nf nc) {c : Nat} (hc : c < nc) (h1 : CHG A kf nk nf c) (h2 : ∀ d, d < c → ¬ CHG A kf nk nf d) : 0 < pnC A kf nk nf nc c := S1.first hI h.1 hc h1.1 h1.2 (fun d hd => h.pos (by omega) (h2 d hd))
/-- the answers of reason -/
theorem REA.r0 {A : Nat → Nat → Int} {kf : Nat → Nat} {nf nk j : Nat} {v : Int} (h : REA A kf nf nk j v) : (v = 0 ↔ A 12 j = 0) ∧ (v = 3 → CHG A kf nk nf j) ∧ 0 ≤ v ∧ v ≤ 5 := by
  unfold REA at h
  unfold CHG
  rcases h with h | h | h | ⟨h1, h2, h3, h | h | h⟩
  · exact ⟨⟨fun _ => h.1, fun _ => h.2⟩, fun z => by omega, by omega, by omega⟩
  · exact ⟨⟨fun z => by omega, fun z => absurd z h.1⟩, fun z => by omega, by omega, by omega⟩
  · exact ⟨⟨fun z => by omega, fun z => absurd z h.1⟩, fun z => by omega, by omega, by omega⟩
  · exact ⟨⟨fun z => by omega, fun z => absurd z h1⟩, fun _ => ⟨h1, h.1⟩, by omega, by omega⟩
  · exact ⟨⟨fun z => by omega, fun z => absurd z h1⟩, fun z => by omega, by omega, by omega⟩
  · exact ⟨⟨fun z => by omega, fun z => absurd z h1⟩, fun z => by omega, by omega, by omega⟩
theorem REA.r3 {td : Int} {A : Nat → Nat → Int} {kf : Nat → Nat} {nf nk nc t j : Nat} {v : Int} (hI : IV td nf nk nc A kf t) (h : REA A kf nf nk j v) (hc : CHG A kf nk nf j) : v = 3 := by
  obtain ⟨h0, p, p1, p2, p3⟩ := hc
  have how := VC.own hI (PS_vc (A := A) hI.1.2.2.2.1 p1)
  have hS : SUw A nf j nf := ⟨_, how, p3.2⟩
  have hA : ALw A nf j nf := ⟨_, how, p3.2.1⟩
  have hP : PAw A kf nk nf j (nk + nf) := ⟨p, p1, p2, p3⟩
  unfold REA at h
  rcases h with h | h | h | ⟨h1, h2, h3, h | h | h⟩
  · exact absurd h.1 h0
  · exact absurd hA h.2.1
  · exact absurd hS h.2.2.1
  · exact h.2
  · exact absurd hP h.1
  · exact absurd hP h.1
