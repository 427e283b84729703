/-! ===== the numbers' bounds, step by step ===== -/
theorem IV.more {td : Int} {nf nk nc : Nat} {A : Nat → Nat → Int} {kf : Nat → Nat} {t : Nat} (h : IV td nf nk nc A kf t) (ht : t < 512) : IV td nf nk nc A kf (t + 1) := by
  obtain ⟨h1, h2, h3, h4, h5, h6⟩ := h
  exact ⟨by omega, h2, h3, h4, by omega, h6⟩
theorem IV.new {A : Nat → Nat → Int} {kf : Nat → Nat} : IV 0 0 0 0 A kf 0 := ⟨by omega, fun i hi => by omega, fun i hi => by omega, fun i hi => by omega, Int.le_refl _, Int.le_refl _⟩
theorem sm_same {n : Nat} {f h : Nat → Int} (e : ∀ i, i < n → f i = h i) : sm n f = sm n h := sm_congr e
theorem IV.addF {td : Int} {nf nk nc : Nat} {A : Nat → Nat → Int} {kf : Nat → Nat} {t : Nat} {m a d c : Int} (h : IV td nf nk nc A kf t) (ht : t < 512) (hr : raF m a d c) (hn : nf < 6) : IV td (nf + 1) nk nc (fNew A nf m a d c) kf (t + 1) := by
  obtain ⟨h1, h2, h3, h4, h5, h6⟩ := h
  obtain ⟨r1, r2, r3, r4⟩ := hr
  have v : ∀ k, k ≤ 5 → fNew A nf m a d c k nf = (if k = 0 then m else if k = 1 then a else if k = 2 then d else if k = 3 then c else 0) := fun k hk => by unfold fNew; rw [if_pos ⟨rfl, hk⟩]
  have s : ∀ k, sm nf (fNew A nf m a d c k) = sm nf (A k) := fun k => sm_congr (fun x hx => fNew_n (by omega))
  refine ⟨by omega, fun x hx => ?_, fun x hx => ?_, fun x hx => ?_, ?_, ?_⟩
  · by_cases e : x = nf
    · subst e
      rw [v 0 (by omega), v 1 (by omega), v 2 (by omega), v 3 (by omega), v 4 (by omega), v 5 (by omega)]
      simp
      omega
    · rw [fNew_n e, fNew_n e, fNew_n e, fNew_n e, fNew_n e, fNew_n e]; exact h2 x (by omega)
  · rw [fNew_o (k := 7) (by omega), fNew_o (k := 8) (by omega), fNew_o (k := 9) (by omega)]
    obtain ⟨q0, q1⟩ := h3 x hx
    exact ⟨by omega, q1⟩
  · rw [fNew_o (k := 10) (by omega), fNew_o (k := 11) (by omega), fNew_o (k := 12) (by omega)]; exact h4 x hx
  · rw [fNew_o (k := 8) (by omega)]
    show sm nf (fNew A nf m a d c 0) + fNew A nf m a d c 0 nf + sm nk (A 8) ≤ _
    rw [s, v 0 (by omega)]
    simp
    omega
  · rw [fNew_o (k := 12) (by omega)]
    show sm nf (fNew A nf m a d c 4) + fNew A nf m a d c 4 nf + sm nc (A 12) ≤ _
    rw [s, v 4 (by omega)]
    simp
    omega
theorem IV.dep {td : Int} {nf nk nc : Nat} {A : Nat → Nat → Int} {kf : Nat → Nat} {t i : Nat} {m : Int} (h : IV td nf nk nc A kf t) (ht : t < 512) (hi : i < nf) (hm : 1 ≤ m ∧ m ≤ 99999) : IV td nf nk nc (u2 A 0 i (A 0 i + m)) kf (t + 1) := by
  obtain ⟨h1, h2, h3, h4, h5, h6⟩ := h
  have s0 : sm nf (u2 A 0 i (A 0 i + m) 0) = sm nf (A 0) + m := by
    rw [u2_row nf A 0 i (A 0 i + m) hi 0, if_pos rfl]; omega
  refine ⟨by omega, fun x hx => ?_, fun x hx => ?_, fun x hx => ?_, ?_, ?_⟩
  · obtain ⟨q0, q⟩ := h2 x hx
    rw [u2_row' (a := 1) (by omega), u2_row' (a := 2) (by omega), u2_row' (a := 3) (by omega), u2_row' (a := 4) (by omega), u2_row' (a := 5) (by omega)]
    refine ⟨?_, q⟩
    unfold u2
    by_cases e : x = i
    · rw [if_pos ⟨rfl, e⟩, ← e]; omega
    · rw [if_neg (fun z => e z.2)]; exact q0
  · rw [u2_row' (a := 7) (by omega), u2_row' (a := 8) (by omega), u2_row' (a := 9) (by omega)]; exact h3 x hx
  · rw [u2_row' (a := 10) (by omega), u2_row' (a := 11) (by omega), u2_row' (a := 12) (by omega)]; exact h4 x hx
  · rw [s0, u2_row' (a := 8) (by omega)]; omega
  · rw [u2_row' (a := 4) (by omega), u2_row' (a := 12) (by omega)]; exact h6
theorem IV.com {td : Int} {nf nk nc : Nat} {A : Nat → Nat → Int} {kf : Nat → Nat} {t i : Nat} {c m u : Int} (h : IV td nf nk nc A kf t) (ht : t < 512) (hi : i < nf) (hr : raK td c m u) (hs : stK A nk i c m) : IV td nf (nk + 1) nc (fCom A i nk c m u) (un kf nk i) (t + 1) := by
  obtain ⟨h1, h2, h3, h4, h5, h6⟩ := h
  obtain ⟨r1, r2, r3⟩ := hr
  obtain ⟨-, s1, s2⟩ := hs
  have s0 : sm nf (fCom A i nk c m u 0) = sm nf (A 0) - m := by
    rw [sm_congr (h := fun x => if x = i then A 0 i - m else A 0 x) (fun x _ => fCom_0), sm_put, if_pos hi]; omega
  have s8 : sm nk (fCom A i nk c m u 8) = sm nk (A 8) := sm_congr (fun x hx => fCom_k (by omega) (by omega))
  refine ⟨by omega, fun x hx => ?_, fun x hx => ?_, fun x hx => ?_, ?_, ?_⟩
  · obtain ⟨q0, q⟩ := h2 x hx
    rw [fCom_o (a := 1) (by omega) (by omega), fCom_o (a := 2) (by omega) (by omega), fCom_o (a := 3) (by omega) (by omega), fCom_o (a := 4) (by omega) (by omega), fCom_o (a := 5) (by omega) (by omega), fCom_0]
    refine ⟨?_, q⟩
    split <;> omega
  · unfold un
    by_cases e : x = nk
    · subst e; rw [fCom_7, fCom_8, fCom_9, if_pos rfl]; omega
    · rw [fCom_k (by omega) e, fCom_k (by omega) e, fCom_k (by omega) e, if_neg e]; exact h3 x (by omega)
  · rw [fCom_o (a := 10) (by omega) (by omega), fCom_o (a := 11) (by omega) (by omega), fCom_o (a := 12) (by omega) (by omega)]; exact h4 x hx
  · show sm nf (fCom A i nk c m u 0) + (sm nk (fCom A i nk c m u 8) + fCom A i nk c m u 8 nk) ≤ _
    rw [s0, s8, fCom_8]; omega
  · rw [fCom_o (a := 4) (by omega) (by omega), fCom_o (a := 12) (by omega) (by omega)]; exact h6
theorem IV.cst {td : Int} {nf nk nc : Nat} {A : Nat → Nat → Int} {kf : Nat → Nat} {t : Nat} {c d m : Int} (h : IV td nf nk nc A kf t) (hr : raC td c d m) (hn : nc < 16) : IV td nf nk (nc + 1) (fCst A nc c d m) kf t := by
  obtain ⟨h1, h2, h3, h4, h5, h6⟩ := h
  obtain ⟨r1, r2, r3⟩ := hr
  have s12 : sm nc (fCst A nc c d m 12) = sm nc (A 12) := sm_congr (fun x hx => fCst_k (by omega))
  refine ⟨by omega, fun x hx => ?_, fun x hx => ?_, fun x hx => ?_, ?_, ?_⟩
  · rw [fCst_o (a := 0) (by omega), fCst_o (a := 1) (by omega), fCst_o (a := 2) (by omega), fCst_o (a := 3) (by omega), fCst_o (a := 4) (by omega), fCst_o (a := 5) (by omega)]; exact h2 x hx
  · rw [fCst_o (a := 7) (by omega), fCst_o (a := 8) (by omega), fCst_o (a := 9) (by omega)]; exact h3 x hx
  · by_cases e : x = nc
    · subst e; rw [fCst_10, fCst_11, fCst_12]; omega
    · rw [fCst_k e, fCst_k e, fCst_k e]; exact h4 x (by omega)
  · rw [fCst_o (a := 0) (by omega), fCst_o (a := 8) (by omega)]; exact h5
  · rw [fCst_o (a := 4) (by omega)]
    show sm nf (A 4) + (sm nc (fCst A nc c d m 12) + fCst A nc c d m 12 nc) ≤ _
    rw [s12, fCst_12]; omega
theorem ov_iv {td : Int} {nf nk nc : Nat} {kf : Nat → Nat} {t : Nat} : ∀ (n : Nat) (A : Nat → Nat → Int) (l : Int), IV td nf nk nc A kf t → IV td nf nk nc (ovS nf n A l).1 kf t := by
  intro n
  induction n with
  | zero => intro A l h; exact h
  | succ n ih =>
    intro A l h
    show IV td nf nk nc (if l ≤ 0 then (A, l) else if (stepS nf A l).2 ≤ 0 then ((stepS nf A l).1, l - (stepS nf A l).2) else ovS nf n (stepS nf A l).1 (l - (stepS nf A l).2)).1 kf t
    by_cases a : l ≤ 0
    · rw [if_pos a]; exact h
    · rw [if_neg a]
      have hs := (step_iv h (l := l) (by omega)).1
      by_cases b : (stepS nf A l).2 ≤ 0
      · rw [if_pos b]; exact hs
      · rw [if_neg b]; exact ih _ _ hs
/-- more rounds than there is money change nothing -/
theorem ov_fuel {nf : Nat} : ∀ (n n' : Nat) (A : Nat → Nat → Int) (l : Int), l ≤ n → l ≤ n' → ovS nf n A l = ovS nf n' A l := by
  intro n
  induction n with
  | zero =>
    intro n' A l h h'
    cases n' with
    | zero => rfl
    | succ n' =>
      show (A, l) = (if l ≤ 0 then (A, l) else _)
      rw [if_pos (by omega)]
  | succ n ih =>
    intro n' A l h h'
    cases n' with
    | zero =>
      show (if l ≤ 0 then (A, l) else _) = (A, l)
      rw [if_pos (by omega)]
    | succ n' =>
      show (if l ≤ 0 then (A, l) else if (stepS nf A l).2 ≤ 0 then ((stepS nf A l).1, l - (stepS nf A l).2) else ovS nf n (stepS nf A l).1 (l - (stepS nf A l).2)) = (if l ≤ 0 then (A, l) else if (stepS nf A l).2 ≤ 0 then ((stepS nf A l).1, l - (stepS nf A l).2) else ovS nf n' (stepS nf A l).1 (l - (stepS nf A l).2))
      by_cases a : l ≤ 0
      · rw [if_pos a, if_pos a]
      · rw [if_neg a, if_neg a]
        by_cases b : (stepS nf A l).2 ≤ 0
        · rw [if_pos b, if_pos b]
        · rw [if_neg b, if_neg b]; exact ih n' _ _ (by omega) (by omega)
