/-! ===== sums ===== -/
theorem sm_congr {n : Nat} {f h : Nat → Int} (e : ∀ i, i < n → f i = h i) : sm n f = sm n h := by
  induction n with
  | zero => rfl
  | succ n ih => show sm n f + f n = sm n h + h n; rw [ih (fun i hi => e i (by omega)), e n (by omega)]
theorem sm_add (n : Nat) (f h : Nat → Int) : sm n (fun i => f i + h i) = sm n f + sm n h := by
  induction n with
  | zero => rfl
  | succ n ih => show sm n _ + (f n + h n) = (sm n f + f n) + (sm n h + h n); rw [ih]; omega
theorem sm_sub (n : Nat) (f h : Nat → Int) : sm n (fun i => f i - h i) = sm n f - sm n h := by
  induction n with
  | zero => rfl
  | succ n ih => show sm n _ + (f n - h n) = (sm n f + f n) - (sm n h + h n); rw [ih]; omega
theorem sm_zero {n : Nat} {f : Nat → Int} (e : ∀ i, i < n → f i = 0) : sm n f = 0 := by
  induction n with
  | zero => rfl
  | succ n ih => show sm n f + f n = 0; rw [ih (fun i hi => e i (by omega)), e n (by omega)]; rfl
theorem sm_le {n : Nat} {f h : Nat → Int} (e : ∀ i, i < n → f i ≤ h i) : sm n f ≤ sm n h := by
  induction n with
  | zero => exact Int.le_refl _
  | succ n ih =>
    show sm n f + f n ≤ sm n h + h n
    have := ih (fun i hi => e i (by omega))
    have := e n (by omega)
    omega
theorem sm_nn {n : Nat} {f : Nat → Int} (e : ∀ i, i < n → 0 ≤ f i) : 0 ≤ sm n f := by
  have := sm_le (f := fun _ => 0) e
  rwa [sm_zero (fun _ _ => rfl)] at this
theorem sm_one {n : Nat} {f : Nat → Int} (e : ∀ i, i < n → 0 ≤ f i) {k : Nat} (hk : k < n) : f k ≤ sm n f := by
  induction n with
  | zero => omega
  | succ n ih =>
    show f k ≤ sm n f + f n
    by_cases h : k = n
    · subst h; have := sm_nn (n := k) (f := f) (fun i hi => e i (by omega)); omega
    · have := ih (fun i hi => e i (by omega)) (by omega)
      have := e n (by omega)
      omega
theorem sm_swap (n m : Nat) (f : Nat → Nat → Int) : sm n (fun i => sm m (f i)) = sm m (fun j => sm n (fun i => f i j)) := by
  induction n with
  | zero => exact (sm_zero (fun _ _ => rfl)).symm
  | succ n ih =>
    show sm n (fun i => sm m (f i)) + sm m (f n) = sm m (fun j => sm n (fun i => f i j) + f n j)
    rw [sm_add, ih]
theorem sm_ite (n : Nat) (b : Bool) (f : Nat → Int) : sm n (fun i => if b then f i else 0) = if b then sm n f else 0 := by
  cases b
  · exact sm_zero (fun _ _ => rfl)
  · rfl
theorem sm_put (n k : Nat) (f : Nat → Int) (v : Int) : sm n (fun j => if j = k then v else f j) = sm n f + (if k < n then v - f k else 0) := by
  induction n with
  | zero => rfl
  | succ n ih =>
    show sm n _ + (if n = k then v else f n) = sm n f + f n + _
    rw [ih]
    by_cases h : n = k
    · subst h; rw [if_pos rfl, if_neg (by omega), if_pos (by omega)]; omega
    · rw [if_neg h]
      by_cases h2 : k < n
      · rw [if_pos h2, if_pos (by omega)]; omega
      · rw [if_neg h2, if_neg (by omega)]; omega
theorem sm_cut {n k : Nat} {f : Nat → Int} (hk : k ≤ n) (h : ∀ i, k ≤ i → i < n → f i = 0) : sm n f = sm k f := by
  induction n with
  | zero => rw [show k = 0 by omega]
  | succ n ih =>
    by_cases e : k = n + 1
    · rw [e]
    · show sm n f + f n = sm k f
      rw [ih (by omega) (fun i h1 h2 => h i h1 (by omega)), h n (by omega) (by omega)]; omega
theorem u2_row (n : Nat) (sh : Nat → Nat → Int) (p c : Nat) (v : Int) (hc : c < n) (r : Nat) : sm n (u2 sh p c v r) = sm n (sh r) + (if r = p then v - sh p c else 0) := by
  by_cases e : r = p
  · subst e
    rw [if_pos rfl, show u2 sh r c v r = (fun j => if j = c then v else sh r j) from funext fun j => by unfold u2; simp, sm_put, if_pos hc]
  · rw [if_neg e, show u2 sh p c v r = sh r from funext fun j => by unfold u2; exact if_neg (fun q => e q.1)]; omega
theorem u2_col (n : Nat) (sh : Nat → Nat → Int) (p c : Nat) (v : Int) (hp : p < n) (d : Nat) : sm n (fun r => u2 sh p c v r d) = sm n (fun r => sh r d) + (if d = c then v - sh p c else 0) := by
  by_cases e : d = c
  · subst e
    rw [if_pos rfl, show (fun r => u2 sh p d v r d) = (fun r => if r = p then v else sh r d) from funext fun r => by unfold u2; simp, sm_put, if_pos hp]
  · rw [if_neg e, show (fun r => u2 sh p c v r d) = (fun r => sh r d) from funext fun r => by unfold u2; exact if_neg (fun q => e q.2)]; omega
/-! ===== what a chain does ===== -/
def chE : Nat → List (Nat × Nat) → List (Nat × Nat)
  | _, [] => []
  | p, x :: t => (p, x.2) :: chE x.1 t
theorem chN_le {sh : Nat → Nat → Int} {a : Int} : ∀ (L : List (Nat × Nat)) (p : Nat) (w : Int), a ≤ chN sh p L w ↔ a ≤ w ∧ ∀ e ∈ chE p L, a ≤ sh e.1 e.2 := by
  intro L
  induction L with
  | nil => intro p w; exact ⟨fun h => ⟨h, fun e he => by cases he⟩, fun h => h.1⟩
  | cons x t ih =>
    intro p w
    show a ≤ chN sh x.1 t (min w (sh p x.2)) ↔ _
    rw [ih]
    constructor
    · rintro ⟨h1, h2⟩
      refine ⟨by omega, fun e he => ?_⟩
      rcases List.mem_cons.mp he with rfl | he
      · show a ≤ sh p x.2; omega
      · exact h2 e he
    · rintro ⟨h1, h2⟩
      have : a ≤ sh p x.2 := h2 (p, x.2) List.mem_cons_self
      exact ⟨by omega, fun e he => h2 e (List.mem_cons_of_mem _ he)⟩
theorem chE_fst {p : Nat} {L : List (Nat × Nat)} {e : Nat × Nat} (h : e ∈ chE p L) : e.1 ∈ p :: L.map Prod.fst := by
  induction L generalizing p with
  | nil => cases h
  | cons x t ih =>
    rcases List.mem_cons.mp h with rfl | h
    · exact List.mem_cons_self
    · exact List.mem_cons_of_mem _ (by rw [List.map_cons]; exact ih h)
/-- the first link moves a from p to x.1 -/
def lk (a : Int) (sh : Nat → Nat → Int) (p : Nat) (x : Nat × Nat) : Nat → Nat → Int := u2 (u2 sh p x.2 (sh p x.2 + -a)) x.1 x.2 (u2 sh p x.2 (sh p x.2 + -a) x.1 x.2 + a)
theorem lk_p {a : Int} {sh : Nat → Nat → Int} {p : Nat} {x : Nat × Nat} (h : x.1 ≠ p) (r c : Nat) : lk a sh p x r c = sh r c + (if r = x.1 ∧ c = x.2 then a else 0) - (if r = p ∧ c = x.2 then a else 0) := by
  unfold lk u2
  by_cases e1 : r = x.1 ∧ c = x.2
  · rw [if_pos e1, if_pos e1, if_neg (fun q => h q.1), if_neg (fun q => h (e1.1 ▸ q.1)), e1.1, e1.2]; omega
  · rw [if_neg e1, if_neg e1]
    by_cases e2 : r = p ∧ c = x.2
    · rw [if_pos e2, if_pos e2, e2.1, e2.2]; omega
    · rw [if_neg e2, if_neg e2]; omega
theorem lk_row {n : Nat} {a : Int} {sh : Nat → Nat → Int} {p : Nat} {x : Nat × Nat} (h : x.1 ≠ p) (hc : x.2 < n) (r : Nat) : sm n (lk a sh p x r) = sm n (sh r) + (if r = x.1 then a else 0) - (if r = p then a else 0) := by
  unfold lk
  rw [u2_row n _ _ _ _ hc, u2_row n _ _ _ _ hc, show u2 sh p x.2 (sh p x.2 + -a) x.1 x.2 = sh x.1 x.2 from if_neg (fun q => h q.1)]
  by_cases e : r = x.1 <;> by_cases e2 : r = p <;> simp [e, e2] <;> omega
theorem lk_col {n : Nat} {a : Int} {sh : Nat → Nat → Int} {p : Nat} {x : Nat × Nat} (h : x.1 ≠ p) (hp : p < n) (hx : x.1 < n) (d : Nat) : sm n (fun r => lk a sh p x r d) = sm n (fun r => sh r d) := by
  unfold lk
  rw [u2_col n _ _ _ _ hx, u2_col n _ _ _ _ hp, show u2 sh p x.2 (sh p x.2 + -a) x.1 x.2 = sh x.1 x.2 from if_neg (fun q => h q.1)]
  by_cases e : d = x.2
  · rw [if_pos e, if_pos e]; omega
  · rw [if_neg e, if_neg e]; omega
theorem chS_cons {a : Int} {sh : Nat → Nat → Int} {p : Nat} {x : Nat × Nat} {t : List (Nat × Nat)} : chS a sh p (x :: t) = chS a (lk a sh p x) x.1 t := rfl
section Chain
variable {np nc : Nat} {ah vi : Nat → Int} {rc py : Nat → Nat} {k : Nat} {a : Int}
theorem chS_row : ∀ (L : List (Nat × Nat)) (p : Nat) (sh : Nat → Nat → Int), CH np nc ah vi p L → ∀ r, sm nc (chS a sh p L r) = sm nc (sh r) + (if r = chF p L then a else 0) - (if r = p then a else 0) := by
  intro L
  induction L with
  | nil => intro p sh _ r; show sm nc (sh r) = sm nc (sh r) + (if r = p then a else 0) - _; omega
  | cons x t ih =>
    intro p sh hC r
    obtain ⟨c1, c2, c3, c4, c5, c6, c7⟩ := hC
    rw [chS_cons, ih x.1 _ c7, lk_row c4 c3]
    show _ = sm nc (sh r) + (if r = chF x.1 t then a else 0) - _
    omega
theorem chS_col : ∀ (L : List (Nat × Nat)) (p : Nat) (sh : Nat → Nat → Int), CH np nc ah vi p L → ∀ d, sm np (fun r => chS a sh p L r d) = sm np (fun r => sh r d) := by
  intro L
  induction L with
  | nil => intro p sh _ d; rfl
  | cons x t ih =>
    intro p sh hC d
    obtain ⟨c1, c2, c3, c4, c5, c6, c7⟩ := hC
    rw [chS_cons, ih x.1 _ c7, lk_col c4 c1 c2]
theorem chS_off : ∀ (L : List (Nat × Nat)) (p : Nat) (sh : Nat → Nat → Int), CH np nc ah vi p L → ∀ r c, r ∉ p :: L.map Prod.fst → chS a sh p L r c = sh r c := by
  intro L
  induction L with
  | nil => intro p sh _ r c _; rfl
  | cons x t ih =>
    intro p sh hC r c hr
    obtain ⟨c1, c2, c3, c4, c5, c6, c7⟩ := hC
    rw [List.map_cons] at hr
    have h1 : r ≠ p := fun q => hr (q ▸ List.mem_cons_self)
    have h2 : r ∉ x.1 :: t.map Prod.fst := fun q => hr (List.mem_cons_of_mem _ q)
    have h3 : r ≠ x.1 := fun q => h2 (q ▸ List.mem_cons_self)
    rw [chS_cons, ih x.1 _ c7 r c h2, lk_p c4, if_neg (fun q => h3 q.1), if_neg (fun q => h1 q.1)]; omega
theorem chS_low : ∀ (L : List (Nat × Nat)) (p : Nat) (sh : Nat → Nat → Int), CH np nc ah vi p L → CE rc py k p L → ∀ r c, c < k → chS a sh p L r c = sh r c := by
  intro L
  induction L with
  | nil => intro p sh _ _ r c _; rfl
  | cons x t ih =>
    intro p sh hC hE r c hc
    obtain ⟨c1, c2, c3, c4, c5, c6, c7⟩ := hC
    obtain ⟨e1, e2, e3, e4⟩ := hE
    rw [chS_cons, ih x.1 _ c7 e4 r c hc, lk_p c4, if_neg (by omega), if_neg (by omega)]; omega
theorem chS_nn : ∀ (L : List (Nat × Nat)) (p : Nat) (sh : Nat → Nat → Int), CH np nc ah vi p L → (p :: L.map Prod.fst).Nodup → 0 ≤ a → (∀ e ∈ chE p L, a ≤ sh e.1 e.2) → (∀ r c, r < np → c < nc → 0 ≤ sh r c) → ∀ r c, r < np → c < nc → 0 ≤ chS a sh p L r c := by
  intro L
  induction L with
  | nil => intro p sh _ _ _ _ h r c hr hc; exact h r c hr hc
  | cons x t ih =>
    intro p sh hC hN ha he h r c hr hc
    obtain ⟨c1, c2, c3, c4, c5, c6, c7⟩ := hC
    rw [List.map_cons] at hN
    have hN2 := List.nodup_cons.mp hN
    rw [chS_cons]
    refine ih x.1 _ c7 hN2.2 ha (fun e hm => ?_) (fun r c hr hc => ?_) r c hr hc
    · have h1 := he e (List.mem_cons_of_mem _ hm)
      have h2 : e.1 ≠ p := fun q => hN2.1 (q ▸ chE_fst hm)
      rw [lk_p c4, if_neg (fun q : e.1 = p ∧ e.2 = x.2 => h2 q.1)]
      split <;> omega
    · have h1 : a ≤ sh p x.2 := he (p, x.2) List.mem_cons_self
      have h2 := h r c hr hc
      rw [lk_p c4]
      by_cases e : r = p ∧ c = x.2
      · rw [if_pos e, if_neg (fun q => c4 (e.1 ▸ q.1.symm)), e.1, e.2]; omega
      · rw [if_neg e]; split <;> omega
theorem chS_sup : ∀ (L : List (Nat × Nat)) (p : Nat) (sh : Nat → Nat → Int), CH np nc ah vi p L → CE rc py k p L → 0 ≤ a → ∀ r c, 0 < chS a sh p L r c → 0 < sh r c ∨ ((rc r).testBit c = true ∧ r < np ∧ ∃ nx ∈ p :: L.map Prod.fst, (py nx).testBit c = true) := by
  intro L
  induction L with
  | nil => intro p sh _ _ _ r c h; exact .inl h
  | cons x t ih =>
    intro p sh hC hE ha r c h
    obtain ⟨c1, c2, c3, c4, c5, c6, c7⟩ := hC
    obtain ⟨e1, e2, e3, e4⟩ := hE
    rw [chS_cons] at h
    rcases ih x.1 _ c7 e4 ha r c h with h1 | ⟨h1, h2, nx, h3, h4⟩
    · rw [lk_p c4] at h1
      by_cases e : r = x.1 ∧ c = x.2
      · refine .inr ⟨by rw [e.1, e.2]; exact e1, by rw [e.1]; exact c2, p, List.mem_cons_self, by rw [e.2]; exact e2⟩
      · rw [if_neg e] at h1
        refine .inl ?_
        split at h1 <;> omega
    · exact .inr ⟨h1, h2, nx, List.mem_cons_of_mem _ (by rw [List.map_cons]; exact h3), h4⟩
/-- a set that no link enters from outside against its way: the chain stays outside -/
theorem ch_out {Z : Nat → Prop} : ∀ (L : List (Nat × Nat)) (p : Nat), CH np nc ah vi p L → CE rc py k p L → (∀ a b c, a < np → ¬ Z a → b < np → Z b → c < nc → (rc a).testBit c = true → ¬ (py b).testBit c = true) → ¬ Z (chF p L) → ∀ r ∈ p :: L.map Prod.fst, ¬ Z r := by
  intro L
  induction L with
  | nil => intro p hC _ _ h r hr; rw [List.mem_singleton.mp hr]; exact h
  | cons x t ih =>
    intro p hC hE hZ h r hr
    obtain ⟨c1, c2, c3, c4, c5, c6, c7⟩ := hC
    obtain ⟨e1, e2, e3, e4⟩ := hE
    have h9 := ih x.1 c7 e4 hZ h
    rw [List.map_cons] at hr
    rcases List.mem_cons.mp hr with rfl | hr
    · exact fun q => hZ x.1 r x.2 c2 (h9 x.1 List.mem_cons_self) c1 q c3 e1 e2
    · exact h9 r hr
theorem ch_out2 {Z : Nat → Prop} : ∀ (L : List (Nat × Nat)) (p : Nat), CH np nc ah vi p L → CE rc py k p L → (∀ a b c, a < np → Z a → b < np → ¬ Z b → c < nc → (rc a).testBit c = true → ¬ (py b).testBit c = true) → ¬ Z p → ∀ r ∈ p :: L.map Prod.fst, ¬ Z r := by
  intro L
  induction L with
  | nil => intro p hC _ _ h r hr; rw [List.mem_singleton.mp hr]; exact h
  | cons x t ih =>
    intro p hC hE hZ h r hr
    obtain ⟨c1, c2, c3, c4, c5, c6, c7⟩ := hC
    obtain ⟨e1, e2, e3, e4⟩ := hE
    have hx : ¬ Z x.1 := fun q => hZ x.1 p x.2 c2 q c1 h c3 e1 e2
    rw [List.map_cons] at hr
    rcases List.mem_cons.mp hr with rfl | hr
    · exact h
    · exact ih x.1 c7 e4 hZ hx r hr
theorem chF_mem : ∀ (L : List (Nat × Nat)) (p : Nat), chF p L ∈ p :: L.map Prod.fst := by
  intro L
  induction L with
  | nil => intro p; exact List.mem_cons_self
  | cons x t ih => intro p; rw [List.map_cons]; exact List.mem_cons_of_mem _ (ih x.1)
theorem chF_lt : ∀ (L : List (Nat × Nat)) (p : Nat), CH np nc ah vi p L → chF p L < np := by
  intro L
  induction L with
  | nil => intro p h; exact h.1
  | cons x t ih => intro p h; exact ih x.1 h.2.2.2.2.2.2
theorem chE_py : ∀ (L : List (Nat × Nat)) (p : Nat), CH np nc ah vi p L → CE rc py k p L → ∀ e ∈ chE p L, e.1 < np ∧ e.2 < nc ∧ (py e.1).testBit e.2 = true := by
  intro L
  induction L with
  | nil => intro p _ _ e he; cases he
  | cons x t ih =>
    intro p hC hE e he
    obtain ⟨c1, c2, c3, c4, c5, c6, c7⟩ := hC
    obtain ⟨e1, e2, e3, e4⟩ := hE
    rcases List.mem_cons.mp he with rfl | he
    · exact ⟨c1, c3, e2⟩
    · exact ih x.1 c7 e4 e he
theorem chN_pos {sh : Nat → Nat → Int} : ∀ (L : List (Nat × Nat)) (p : Nat) (w : Int), 0 < w → (∀ e ∈ chE p L, 0 < sh e.1 e.2) → 0 < chN sh p L w := by
  intro L p w hw h
  have := (chN_le (a := 1) L p w (sh := sh)).mpr ⟨by omega, fun e he => by have := h e he; omega⟩
  omega
end Chain
/-! ===== cuts ===== -/
def rB (P : Nat) (rc : Nat → Nat) (X c : Nat) : Bool := (List.range P).any (fun p => !X.testBit p && (rc p).testBit c)
theorem rB_iff {P : Nat} {rc : Nat → Nat} {X c : Nat} : rB P rc X c = true ↔ ∃ p, p < P ∧ ¬ X.testBit p = true ∧ (rc p).testBit c = true := by
  unfold rB
  rw [List.any_eq_true]
  constructor
  · rintro ⟨p, hp, h⟩
    rw [Bool.and_eq_true] at h
    exact ⟨p, List.mem_range.mp hp, by simpa using h.1, h.2⟩
  · rintro ⟨p, hp, h1, h2⟩
    exact ⟨p, List.mem_range.mpr hp, by rw [Bool.and_eq_true]; exact ⟨by simpa using h1, h2⟩⟩
def cutv (P C : Nat) (mon amt : Nat → Int) (rc : Nat → Nat) (X : Nat) : Int := sm P (fun p => if X.testBit p then mon p else 0) + sm C (fun c => if rB P rc X c then amt c else 0)
def MC (P C : Nat) (mon amt : Nat → Int) (rc : Nat → Nat) (t : Int) : Prop := (∃ X, X < 2 ^ P ∧ cutv P C mon amt rc X = t) ∧ ∀ X, X < 2 ^ P → t ≤ cutv P C mon amt rc X
theorem MC.uniq {P C : Nat} {mon amt : Nat → Int} {rc : Nat → Nat} {t t' : Int} (h : MC P C mon amt rc t) (h' : MC P C mon amt rc t') : t = t' := by
  obtain ⟨⟨X, hX, e⟩, h2⟩ := h
  obtain ⟨⟨X', hX', e'⟩, h2'⟩ := h'
  have a1 := h2 X' hX'
  have a2 := h2' X hX
  omega
section Cut
variable {P C : Nat} {mon amt : Nat → Int} {rc : Nat → Nat} {sh : Nat → Nat → Int} {X : Nat}
theorem cut_split (P C : Nat) (rc : Nat → Nat) (sh : Nat → Nat → Int) (X : Nat) : sm P (fun p => sm C (fun c => (if X.testBit p then sh p c else 0) + (if rB P rc X c then sh p c else 0))) = sm P (fun p => if X.testBit p then sm C (sh p) else 0) + sm C (fun c => if rB P rc X c then sm P (fun p => sh p c) else 0) := by
  rw [show (fun p => sm C (fun c => (if X.testBit p then sh p c else 0) + (if rB P rc X c then sh p c else 0))) = (fun p => (if X.testBit p then sm C (sh p) else 0) + sm C (fun c => if rB P rc X c then sh p c else 0)) from funext fun p => by rw [sm_add, sm_ite], sm_add, sm_swap]
  congr 2
  funext c
  exact sm_ite P _ _
theorem cut_ge (h0 : ∀ p c, p < P → c < C → 0 ≤ sh p c) (hs : ∀ p c, p < P → c < C → 0 < sh p c → (rc p).testBit c = true) (hr : ∀ p, p < P → sm C (sh p) ≤ mon p) (hc : ∀ c, c < C → sm P (fun p => sh p c) ≤ amt c) : sm P (fun p => sm C (sh p)) ≤ cutv P C mon amt rc X := by
  have h1 : sm P (fun p => sm C (sh p)) ≤ sm P (fun p => sm C (fun c => (if X.testBit p then sh p c else 0) + (if rB P rc X c then sh p c else 0))) := sm_le (fun p hp => sm_le (fun c hc => by
    have a0 := h0 p c hp hc
    by_cases e : X.testBit p = true
    · rw [if_pos e]; split <;> omega
    · rw [if_neg e]
      by_cases e2 : 0 < sh p c
      · rw [if_pos (rB_iff.mpr ⟨p, hp, e, hs p c hp hc e2⟩)]; omega
      · split <;> omega))
  rw [cut_split] at h1
  have h2 : sm P (fun p => if X.testBit p then sm C (sh p) else 0) ≤ sm P (fun p => if X.testBit p then mon p else 0) := sm_le (fun p hp => by
    by_cases e : X.testBit p = true
    · rw [if_pos e, if_pos e]; exact hr p hp
    · rw [if_neg e, if_neg e]; omega)
  have h3 : sm C (fun c => if rB P rc X c then sm P (fun p => sh p c) else 0) ≤ sm C (fun c => if rB P rc X c then amt c else 0) := sm_le (fun c hcc => by
    by_cases e : rB P rc X c = true
    · rw [if_pos e, if_pos e]; exact hc c hcc
    · rw [if_neg e, if_neg e]; omega)
  unfold cutv
  omega
theorem cut_eq (h0 : ∀ p c, p < P → c < C → 0 ≤ sh p c) (hs : ∀ p c, p < P → c < C → 0 < sh p c → (rc p).testBit c = true) (hr : ∀ p, p < P → X.testBit p = true → sm C (sh p) = mon p) (hc : ∀ c, c < C → rB P rc X c = true → sm P (fun p => sh p c) = amt c) (hd : ∀ p c, p < P → c < C → X.testBit p = true → rB P rc X c = true → sh p c = 0) : cutv P C mon amt rc X = sm P (fun p => sm C (sh p)) := by
  have h1 : sm P (fun p => sm C (sh p)) = sm P (fun p => sm C (fun c => (if X.testBit p then sh p c else 0) + (if rB P rc X c then sh p c else 0))) := sm_congr (fun p hp => sm_congr (fun c hc => by
    have a0 := h0 p c hp hc
    by_cases e : X.testBit p = true
    · rw [if_pos e]
      by_cases e2 : rB P rc X c = true
      · rw [if_pos e2, hd p c hp hc e e2]; rfl
      · rw [if_neg e2]; omega
    · rw [if_neg e]
      by_cases e2 : 0 < sh p c
      · rw [if_pos (rB_iff.mpr ⟨p, hp, e, hs p c hp hc e2⟩)]; omega
      · have : sh p c = 0 := by omega
        rw [this]; split <;> rfl))
  rw [h1, cut_split]
  unfold cutv
  congr 1
  · exact sm_congr (fun p hp => by
      by_cases e : X.testBit p = true
      · rw [if_pos e, if_pos e]; exact (hr p hp e).symm
      · rw [if_neg e, if_neg e])
  · exact sm_congr (fun c hcc => by
      by_cases e : rB P rc X c = true
      · rw [if_pos e, if_pos e]; exact (hc c hcc e).symm
      · rw [if_neg e, if_neg e])
end Cut
