/-! ===== the third step: which pot pays how much for which cost ===== -/
def un3 (c p q d : Nat) : Bool := decide (c < d) || (decide (c = d) && decide (p ≤ q))
theorem un3_iff {c p q d : Nat} : un3 c p q d = true ↔ c < d ∨ (c = d ∧ p ≤ q) := by
  unfold un3
  simp
def rm3 (c p : Nat) (sh : Nat → Nat → Int) (q d : Nat) : Int := if un3 c p q d then sh q d else 0
def cov (np : Nat) (rc : Nat → Nat) (c p X d : Nat) : Bool := (List.range np).any (fun q => X.testBit q && ((rc q).testBit d && un3 c p q d))
theorem cov_iff {np : Nat} {rc : Nat → Nat} {c p X d : Nat} : cov np rc c p X d = true ↔ ∃ q, q < np ∧ X.testBit q = true ∧ (rc q).testBit d = true ∧ un3 c p q d = true := by
  unfold cov
  rw [List.any_eq_true]
  constructor
  · rintro ⟨q, hq, h⟩
    rw [Bool.and_eq_true, Bool.and_eq_true] at h
    exact ⟨q, List.mem_range.mp hq, h.1, h.2.1, h.2.2⟩
  · rintro ⟨q, hq, h1, h2, h3⟩
    exact ⟨q, List.mem_range.mpr hq, by rw [h1, h2, h3]; rfl⟩
def roomv (np nc : Nat) (rc : Nat → Nat) (c p : Nat) (pay cos : Nat → Int) (X : Nat) : Int := sm nc (fun d => if cov np rc c p X d then cos d else 0) - sm np (fun q => if X.testBit q then pay q else 0)
def SHV (np nc : Nat) (rc : Nat → Nat) (c p : Nat) (pay cos : Nat → Int) (s : Int) : Prop := s ≤ pay p ∧ s ≤ cos c ∧ (∀ X, X < 2 ^ np → ¬ X.testBit p = true → cov np rc c p X c = true → s ≤ roomv np nc rc c p pay cos X) ∧ (s = pay p ∨ s = cos c ∨ ∃ X, X < 2 ^ np ∧ ¬ X.testBit p = true ∧ cov np rc c p X c = true ∧ s = roomv np nc rc c p pay cos X)
theorem SHV.le {np nc : Nat} {rc : Nat → Nat} {c p : Nat} {pay cos : Nat → Int} {s s' : Int} (h : SHV np nc rc c p pay cos s) (h' : SHV np nc rc c p pay cos s') : s ≤ s' := by
  rcases h'.2.2.2 with e | e | ⟨X, h1, h2, h3, e⟩
  · rw [e]; exact h.1
  · rw [e]; exact h.2.1
  · rw [e]; exact h.2.2.1 X h1 h2 h3
theorem SHV.uniq {np nc : Nat} {rc : Nat → Nat} {c p : Nat} {pay cos : Nat → Int} {s s' : Int} (h : SHV np nc rc c p pay cos s) (h' : SHV np nc rc c p pay cos s') : s = s' := Int.le_antisymm (h.le h') (h'.le h)
theorem roomv_congr {np nc : Nat} {rc : Nat → Nat} {c p : Nat} {pay cos pay' cos' : Nat → Int} (h1 : ∀ q, q < np → pay q = pay' q) (h2 : ∀ d, d < nc → cos d = cos' d) (X : Nat) : roomv np nc rc c p pay cos X = roomv np nc rc c p pay' cos' X := by
  unfold roomv
  rw [sm_congr (f := fun d => if cov np rc c p X d then cos d else 0) (h := fun d => if cov np rc c p X d then cos' d else 0) (fun d hd => by rw [h2 d hd]), sm_congr (f := fun q => if X.testBit q then pay q else 0) (h := fun q => if X.testBit q then pay' q else 0) (fun q hq => by rw [h1 q hq])]
theorem SHV.congr {np nc : Nat} {rc : Nat → Nat} {c p : Nat} {pay cos pay' cos' : Nat → Int} {s : Int} (hp : p < np) (hc : c < nc) (h1 : ∀ q, q < np → pay q = pay' q) (h2 : ∀ d, d < nc → cos d = cos' d) (h : SHV np nc rc c p pay cos s) : SHV np nc rc c p pay' cos' s := by
  obtain ⟨a1, a2, a3, a4⟩ := h
  refine ⟨by rw [← h1 p hp]; exact a1, by rw [← h2 c hc]; exact a2, fun X b1 b2 b3 => by rw [← roomv_congr h1 h2 X]; exact a3 X b1 b2 b3, ?_⟩
  rcases a4 with e | e | ⟨X, b1, b2, b3, e⟩
  · exact .inl (by rw [← h1 p hp]; exact e)
  · exact .inr (.inl (by rw [← h2 c hc]; exact e))
  · exact .inr (.inr ⟨X, b1, b2, b3, by rw [← roomv_congr h1 h2 X]; exact e⟩)
def SH3 (np nc : Nat) (rc : Nat → Nat) (sh : Nat → Nat → Int) (c p : Nat) : Prop := SHV np nc rc c p (fun q => sm nc (rm3 c p sh q)) (fun d => sm np (fun q => rm3 c p sh q d)) (sh p c)
/-- the entries ahead of (c, p) are the same -/
def PE (np nc c p : Nat) (sh sh' : Nat → Nat → Int) : Prop := ∀ q d, q < np → d < nc → un3 c p q d = false → sh' q d = sh q d
theorem rm3_sub (c p : Nat) (sh : Nat → Nat → Int) (q d : Nat) : rm3 c p sh q d = sh q d - (if un3 c p q d then 0 else sh q d) := by
  unfold rm3; split <;> omega
theorem SH3.tr {np nc : Nat} {rc : Nat → Nat} {sh sh' : Nat → Nat → Int} {c p : Nat} (hp : p < np) (hc : c < nc) (h : SH3 np nc rc sh c p) (hr : ∀ q, q < np → sm nc (sh' q) = sm nc (sh q)) (hcl : ∀ d, d < nc → sm np (fun q => sh' q d) = sm np (fun q => sh q d)) (hE : PE np nc c p sh sh') (he : sh' p c = sh p c) : SH3 np nc rc sh' c p := by
  unfold SH3
  rw [he]
  refine SHV.congr hp hc (fun q hq => ?_) (fun d hd => ?_) h
  · rw [sm_congr (h := fun d => sh q d - (if un3 c p q d then 0 else sh q d)) (fun d _ => rm3_sub c p sh q d), sm_congr (f := rm3 c p sh' q) (h := fun d => sh' q d - (if un3 c p q d then 0 else sh' q d)) (fun d _ => rm3_sub c p sh' q d), sm_sub, sm_sub]
    have e : sm nc (sh' q) = sm nc (sh q) := hr q hq
    have e2 : sm nc (fun d => if un3 c p q d then 0 else sh q d) = sm nc (fun d => if un3 c p q d then 0 else sh' q d) := sm_congr (fun d hd => by
      cases hu : un3 c p q d with
      | true => rfl
      | false => exact (hE q d hq hd hu).symm)
    rw [e2]
    have e3 : sm nc (fun i => sh q i) = sm nc (sh q) := rfl
    have e4 : sm nc (fun i => sh' q i) = sm nc (sh' q) := rfl
    omega
  · show sm np (fun q => rm3 c p sh q d) = sm np (fun q => rm3 c p sh' q d)
    rw [sm_congr (f := fun q => rm3 c p sh q d) (h := fun q => sh q d - (if un3 c p q d then 0 else sh q d)) (fun q _ => rm3_sub c p sh q d), sm_congr (f := fun q => rm3 c p sh' q d) (h := fun q => sh' q d - (if un3 c p q d then 0 else sh' q d)) (fun q _ => rm3_sub c p sh' q d), sm_sub, sm_sub]
    have e := hcl d hd
    have e2 : sm np (fun q => if un3 c p q d then 0 else sh q d) = sm np (fun q => if un3 c p q d then 0 else sh' q d) := sm_congr (fun q hq => by
      cases hu : un3 c p q d with
      | true => rfl
      | false => exact (hE q d hq hd hu).symm)
    rw [e2]
    omega
theorem sm_single {n k : Nat} {f : Nat → Int} (hk : k < n) (h : ∀ i, i < n → i ≠ k → f i = 0) : sm n f = f k := by
  induction n with
  | zero => omega
  | succ n ih =>
    show sm n f + f n = f k
    by_cases e : k = n
    · subst e
      rw [sm_zero (fun i hi => h i (by omega) (by omega))]; omega
    · rw [ih (by omega) (fun i hi => h i (by omega)), h n (by omega) (fun q => e q.symm)]; omega
theorem room_split (np nc : Nat) (rc : Nat → Nat) (c p : Nat) (r : Nat → Nat → Int) (X : Nat) : roomv np nc rc c p (fun q => sm nc (r q)) (fun d => sm np (fun q => r q d)) X = sm np (fun q => sm nc (fun d => (if cov np rc c p X d then r q d else 0) - (if X.testBit q then r q d else 0))) := by
  unfold roomv
  rw [show (fun q => sm nc (fun d => (if cov np rc c p X d then r q d else 0) - (if X.testBit q then r q d else 0))) = (fun q => sm nc (fun d => if cov np rc c p X d then r q d else 0) - (if X.testBit q then sm nc (r q) else 0)) from funext fun q => by rw [sm_sub, sm_ite], sm_sub, sm_swap]
  congr 2
  funext d
  exact (sm_ite np _ _).symm
theorem step3_done {np nc : Nat} {rc py : Nat → Nat} {mon unp pl cl pn : Nat → Int} {sh : Nat → Nat → Int} {p c st : Nat} (h : PF np nc rc mon unp pl cl pn sh) (hI : PYI np nc sh py) (hp : p < np) (hc : c < nc)
    (hst : ∀ q, st.testBit q = true ↔ (p < q ∧ q < np ∧ (py q).testBit c = true)) (hno : FCno np nc rc py st (2 ^ p) (c + 1)) : SH3 np nc rc sh c p := by
  obtain ⟨f1, f2, f3, f4⟩ := h
  obtain ⟨R, r1, r2, r3⟩ := hno
  have hr0 : ∀ q d, q < np → d < nc → 0 ≤ rm3 c p sh q d := fun q d hq hd => by
    unfold rm3; split
    · exact f1 q d hq hd
    · exact Int.le_refl _
  have hpc : rm3 c p sh p c = sh p c := if_pos (un3_iff.mpr (.inr ⟨rfl, Nat.le_refl _⟩))
  have hterm : ∀ X q d, q < np → d < nc → 0 ≤ (if cov np rc c p X d then rm3 c p sh q d else 0) - (if X.testBit q then rm3 c p sh q d else 0) := fun X q d hq hd => by
    have h0 := hr0 q d hq hd
    by_cases hX : X.testBit q = true
    · rw [if_pos hX]
      by_cases hz : 0 < rm3 c p sh q d
      · have hu : un3 c p q d = true := by
          cases hu : un3 c p q d with
          | true => rfl
          | false => exact absurd (show rm3 c p sh q d = 0 from if_neg (by rw [hu]; decide)) (by omega)
        have hs : 0 < sh q d := by unfold rm3 at hz; rw [hu] at hz; exact hz
        rw [if_pos (cov_iff.mpr ⟨q, hq, hX, f2 q d hq hd hs, hu⟩)]; omega
      · split <;> omega
    · rw [if_neg hX]; split <;> omega
  refine ⟨?_, ?_, fun X hX hXp hXc => ?_, ?_⟩
  · rw [← hpc]; exact sm_one (fun d hd => hr0 p d hp hd) hc
  · rw [← hpc]; exact sm_one (f := fun q => rm3 c p sh q c) (fun q hq => hr0 q c hq hc) hp
  · rw [room_split]
    have h1 := sm_one (f := fun q => sm nc (fun d => (if cov np rc c p X d then rm3 c p sh q d else 0) - (if X.testBit q then rm3 c p sh q d else 0))) (fun q hq => sm_nn (fun d hd => hterm X q d hq hd)) hp
    have h2 := sm_one (f := fun d => (if cov np rc c p X d then rm3 c p sh p d else 0) - (if X.testBit p then rm3 c p sh p d else 0)) (fun d hd => hterm X p d hp hd) hc
    have h3 : (if cov np rc c p X c then rm3 c p sh p c else 0) - (if X.testBit p then rm3 c p sh p c else 0) = sh p c := by
      rw [if_pos hXc, if_neg hXp, hpc]; omega
    have h1 : sm nc (fun d => (if cov np rc c p X d then rm3 c p sh p d else 0) - (if X.testBit p then rm3 c p sh p d else 0)) ≤ _ := h1
    have h2 : (if cov np rc c p X c then rm3 c p sh p c else 0) - (if X.testBit p then rm3 c p sh p c else 0) ≤ _ := h2
    omega
  · by_cases hex : ∃ q, p < q ∧ q < np ∧ 0 < sh q c
    · obtain ⟨q0, q1, q2, q3⟩ := hex
      have hq0 : R.testBit q0 = true := r1 q0 ((hst q0).mpr ⟨q1, q2, (hI q0 q2 c).mpr ⟨hc, q3⟩⟩)
      have hRp : ¬ R.testBit p = true := fun q => (r2 p q).2 (by rw [Nat.testBit_two_pow]; simp)
      have hRlt : R < 2 ^ np := tb_lt (fun q hq => (r2 q hq).1)
      have hcov : cov np rc c p R c = true := cov_iff.mpr ⟨q0, q2, hq0, f2 q0 c q2 hc q3, un3_iff.mpr (.inr ⟨rfl, by omega⟩)⟩
      refine .inr (.inr ⟨R, hRlt, hRp, hcov, ?_⟩)
      rw [room_split]
      have hz : ∀ q d, q < np → d < nc → ¬ (q = p ∧ d = c) → (if cov np rc c p R d then rm3 c p sh q d else 0) - (if R.testBit q then rm3 c p sh q d else 0) = 0 := fun q d hq hd hne => by
        have h0 := f1 q d hq hd
        by_cases hX : R.testBit q = true
        · rw [if_pos hX]
          by_cases hu : un3 c p q d = true
          · by_cases hs : 0 < sh q d
            · rw [if_pos (cov_iff.mpr ⟨q, hq, hX, f2 q d hq hd hs, hu⟩)]; omega
            · have : rm3 c p sh q d = 0 := by unfold rm3; rw [if_pos hu]; omega
              rw [this]; split <;> rfl
          · have : rm3 c p sh q d = 0 := if_neg hu
            rw [this]; split <;> rfl
        · rw [if_neg hX]
          by_cases hcv : cov np rc c p R d = true
          · rw [if_pos hcv]
            obtain ⟨a, b1, b2, b3, b4⟩ := cov_iff.mp hcv
            have : rm3 c p sh q d = 0 := by
              unfold rm3
              by_cases hu : un3 c p q d = true
              · rw [if_pos hu]
                rcases un3_iff.mp hu with hu | ⟨hu, hpq⟩
                · have h9 : ¬ 0 < sh q d := fun z => r3 a q d b2 hq hX (by omega) hd ⟨b3, (hI q hq d).mpr ⟨hd, z⟩⟩
                  omega
                · subst hu
                  have hqp : q ≠ p := fun z => hne ⟨z, rfl⟩
                  have h9 : ¬ 0 < sh q c := fun z => hX (r1 q ((hst q).mpr ⟨by omega, hq, (hI q hq c).mpr ⟨hd, z⟩⟩))
                  omega
              · rw [if_neg hu]
            rw [this]; rfl
          · rw [if_neg hcv]; rfl
      rw [sm_single hp (fun q hq hqp => sm_zero (fun d hd => hz q d hq hd (fun z => hqp z.1))), sm_single hc (fun d hd hdc => hz p d hp hd (fun z => hdc z.2)), if_pos hcov, if_neg hRp, hpc]; omega
    · refine .inr (.inl ?_)
      show sh p c = sm np (fun q => rm3 c p sh q c)
      rw [sm_single hp (fun q hq hqp => ?_), hpc]
      unfold rm3
      by_cases hu : un3 c p q c = true
      · rw [if_pos hu]
        rcases un3_iff.mp hu with hu | ⟨_, hpq⟩
        · omega
        · have := f1 q c hq hc
          have h9 : ¬ 0 < sh q c := fun z => hex ⟨q, by omega, hq, z⟩
          omega
      · rw [if_neg hu]
section Aug3
variable {np nc : Nat} {ah vi : Nat → Int} {rc py : Nat → Nat} {pot fi c : Nat} {a : Int} {mon unp pl cl pn : Nat → Int} {sh : Nat → Nat → Int} {L : List (Nat × Nat)}
theorem aug3 (h : PF np nc rc mon unp pl cl pn sh) (hC : CH np nc ah vi pot L) (hE : CE rc py (c + 1) pot L) (hN : (pot :: L.map Prod.fst).Nodup) (hfi : chF pot L = fi) (hlt : pot < fi) (hc : c < nc) (hrc : (rc pot).testBit c = true) (ha : 0 < a) (ha1 : ∀ e ∈ chE pot L, a ≤ sh e.1 e.2) (ha3 : a ≤ sh fi c) :
    PF np nc rc mon unp pl cl pn (lk a (chS a sh pot L) fi (pot, c)) ∧ PE np nc c pot sh (lk a (chS a sh pot L) fi (pot, c)) ∧ lk a (chS a sh pot L) fi (pot, c) pot c = sh pot c + a ∧ (∀ q, q < np → sm nc (lk a (chS a sh pot L) fi (pot, c) q) = sm nc (sh q)) ∧ (∀ d, d < nc → sm np (fun q => lk a (chS a sh pot L) fi (pot, c) q d) = sm np (fun q => sh q d)) := by
  obtain ⟨h1, h2, h3, h4⟩ := h
  have hp := hC.lt
  have hfl : fi < np := hfi ▸ chF_lt L pot hC
  have n1 := chS_nn (a := a) L pot sh hC hN (by omega) ha1 h1
  have low : ∀ r d, d < c + 1 → chS a sh pot L r d = sh r d := fun r d hd => chS_low (k := c + 1) (py := py) (rc := rc) L pot sh hC hE r d hd
  have hx : (pot, c).1 ≠ fi := by show pot ≠ fi; omega
  have hrow : ∀ q, q < np → sm nc (lk a (chS a sh pot L) fi (pot, c) q) = sm nc (sh q) := fun q _ => by
    rw [lk_row hx hc, chS_row L pot sh hC, hfi]
    show sm nc (sh q) + (if q = fi then a else 0) - (if q = pot then a else 0) + (if q = pot then a else 0) - (if q = fi then a else 0) = _
    omega
  have hcol : ∀ d, d < nc → sm np (fun q => lk a (chS a sh pot L) fi (pot, c) q d) = sm np (fun q => sh q d) := fun d _ => by
    rw [lk_col hx hfl hp, chS_col L pot sh hC]
  refine ⟨⟨fun q d hq hd => ?_, fun q d hq hd hpos => ?_, fun q hq => ?_, fun d hd => ?_⟩, fun q d hq hd hu => ?_, ?_, hrow, hcol⟩
  · rw [lk_p hx]
    have := n1 q d hq hd
    show 0 ≤ chS a sh pot L q d + (if q = pot ∧ d = c then a else 0) - (if q = fi ∧ d = c then a else 0)
    by_cases e : q = fi ∧ d = c
    · rw [if_pos e, if_neg (fun z => by omega), e.1, e.2, low fi c (by omega)]; omega
    · rw [if_neg e]; split <;> omega
  · rw [lk_p hx] at hpos
    have hpos : 0 < chS a sh pot L q d + (if q = pot ∧ d = c then a else 0) - (if q = fi ∧ d = c then a else 0) := hpos
    by_cases e : q = pot ∧ d = c
    · rw [e.1, e.2]; exact hrc
    · rw [if_neg e] at hpos
      have h9 : 0 < chS a sh pot L q d := by split at hpos <;> omega
      rcases chS_sup (k := c + 1) (py := py) (rc := rc) L pot sh hC hE (by omega) q d h9 with z | z
      · exact h2 q d hq hd z
      · exact z.1
  · rw [hrow q hq]; exact h3 q hq
  · rw [hcol d hd]; exact h4 d hd
  · have h9 : ¬ (c < d ∨ (c = d ∧ pot ≤ q)) := fun z => by rw [un3_iff.mpr z] at hu; cases hu
    rw [lk_p hx, low q d (by omega)]
    show sh q d + (if q = pot ∧ d = c then a else 0) - (if q = fi ∧ d = c then a else 0) = _
    rw [if_neg (by omega), if_neg (by omega)]; omega
  · rw [lk_p hx, low pot c (by omega)]
    show sh pot c + (if pot = pot ∧ c = c then a else 0) - (if pot = fi ∧ c = c then a else 0) = _
    rw [if_pos ⟨rfl, rfl⟩, if_neg (by omega)]; omega
end Aug3
