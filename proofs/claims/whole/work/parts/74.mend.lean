/-! ===== the model: a commitment ends ===== -/
/-- fields 9..12 shifted down over places i..k-1 -/
def shB (B : Nat → Nat → Int) (i k : Nat) : Nat → Nat → Int := fun a x => if (9 ≤ a ∧ a ≤ 12) ∧ i ≤ x ∧ x < k then B a (x + 1) else B a x
theorem shB_s {B : Nat → Nat → Int} {i k : Nat} (hik : i ≤ k) : u2 (u2 (u2 (u2 (shB B i k) 9 k (B 9 (k + 1))) 10 k (B 10 (k + 1))) 11 k (B 11 (k + 1))) 12 k (B 12 (k + 1)) = shB B i (k + 1) := by
  funext a x
  unfold u2 shB
  by_cases e : x = k
  · subst e
    by_cases a12 : a = 12
    · subst a12; rw [if_pos ⟨rfl, rfl⟩, if_pos (by omega)]
    · rw [if_neg (fun z => a12 z.1)]
      by_cases a11 : a = 11
      · subst a11; rw [if_pos ⟨rfl, rfl⟩, if_pos (by omega)]
      · rw [if_neg (fun z => a11 z.1)]
        by_cases a10 : a = 10
        · subst a10; rw [if_pos ⟨rfl, rfl⟩, if_pos (by omega)]
        · rw [if_neg (fun z => a10 z.1)]
          by_cases a9 : a = 9
          · subst a9; rw [if_pos ⟨rfl, rfl⟩, if_pos (by omega)]
          · rw [if_neg (fun z => a9 z.1), if_neg (by omega), if_neg (by omega)]
  · rw [if_neg (fun z => e z.2), if_neg (fun z => e z.2), if_neg (fun z => e z.2), if_neg (fun z => e z.2)]
    by_cases h : (9 ≤ a ∧ a ≤ 12) ∧ i ≤ x ∧ x < k
    · rw [if_pos h, if_pos (by omega)]
    · rw [if_neg h, if_neg (by omega)]
theorem shB_0 {B : Nat → Nat → Int} {i : Nat} : shB B i i = B := by
  funext a x; unfold shB; rw [if_neg (by omega)]
theorem shB_k {B : Nat → Nat → Int} {i k a x : Nat} (h : k ≤ x) : shB B i k a x = B a x := by
  unfold shB; rw [if_neg (by omega)]
