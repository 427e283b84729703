/-! ===== more rows; bits ===== -/
section More
variable {M : Mx} {g : Gx} {y : MethodName} {cc : ByteArray} {ret : Option FieldType} {n mc ms : Nat} {tb : List ExceptionTableEntry} {K : Option Value → (Nat → Nat) → Pic → Prop} {KX : String → (Nat → Nat) → Pic → Prop} {ad : Nat → Nat} {F : Pic} {kc ks pc : Nat} {LS : List (Option Value)} {ST rest : List Value}
theorem r_iinc (X : Cx M g y cc ret n mc ms tb K KX) {i : Nat} {z x : Int} (d : decode cc pc = .ok (.iinc i z, 3)) (h : LS[i]? = some (some (.int (zI x)))) (hi : i < mN M) (hk : lok LS i = true)
    (k : V M g ad F kc ks (pc + 3) (LS.set i (some (.int (zI (x + z))))) ST) : V M g ad F kc ks pc LS ST := fun H locs ls a b c => by
  obtain ⟨q, hq⟩ := List.getElem?_of_mem (las_mem.mpr h)
  exact lv_iinc (v := zI (x + z)) X.1.1 X.1.2.1 d c hq (zI_add x z) hi rfl (fun ls2 h2 => k H locs ls2 a b (lvs.set1 h2 hk))
theorem r_dup_x1 (X : Cx M g y cc ret n mc ms tb K KX) {v w : Value} (d : decode cc pc = .ok (.dup_x1, 1)) (hv : v.category = 1) (hw : w.category = 1) (k : V M g ad F kc ks (pc + 1) LS (v :: w :: v :: ST)) : V M g ad F kc ks pc LS (v :: w :: ST) := fun H locs ls a b c => lv_dup_x1 X.1.1 X.1.2.1 d hv hw (k H locs ls a b c)
end More
theorem s_l : ∀ n, n < 32 → ((nI n &&& 31).toBitVec.smod 32).toNat = n := by decide +kernel
theorem fa_and (a b : Nat) : nI a &&& nI b = nI (a &&& b) := by
  apply Int32.toBitVec_inj.1
  show BitVec.ofNat 32 a &&& BitVec.ofNat 32 b = BitVec.ofNat 32 (a &&& b)
  apply BitVec.eq_of_getLsbD_eq
  intro i hi
  simp [hi]
theorem fa_or (a b : Nat) : nI a ||| nI b = nI (a ||| b) := by
  apply Int32.toBitVec_inj.1
  show BitVec.ofNat 32 a ||| BitVec.ofNat 32 b = BitVec.ofNat 32 (a ||| b)
  apply BitVec.eq_of_getLsbD_eq
  intro i hi
  simp [hi]
theorem zI_shr {m e : Nat} (hm : m < 2147483648) (he : e < 32) : zI (m : Int) >>> (zI (e : Int) &&& 31) = zI ((m / 2 ^ e : Nat) : Int) := by
  rw [zI_nI, zI_nI, zI_nI]; exact pk_shrN hm _ e (s_l e he)
theorem zI_and (a b : Nat) : zI (a : Int) &&& zI (b : Int) = zI ((a &&& b : Nat) : Int) := by
  rw [zI_nI, zI_nI, zI_nI]; exact fa_and a b
theorem zI_or (a b : Nat) : zI (a : Int) ||| zI (b : Int) = zI ((a ||| b : Nat) : Int) := by
  rw [zI_nI, zI_nI, zI_nI]; exact fa_or a b
theorem zI_shl {e : Nat} (he : e < 32) : zI 1 <<< (zI (e : Int) &&& 31) = zI ((2 ^ e : Nat) : Int) := by
  rw [show zI 1 = nI 1 from zI_nI 1, zI_nI, zI_nI]
  have h := pk_shlN (n := 1) (nI e &&& 31) e (s_l e he) (by rw [Nat.one_mul]; exact Nat.pow_lt_pow_right (by decide) he)
  rw [Nat.one_mul] at h
  exact h
theorem zI_shlK {e a : Nat} (he : e < 32) (h : a * 2 ^ e < 2 ^ 32) : zI (a : Int) <<< (zI (e : Int) &&& 31) = zI ((a * 2 ^ e : Nat) : Int) := by
  rw [zI_nI, zI_nI, zI_nI]
  exact pk_shlN (n := a) (nI e &&& 31) e (s_l e he) h
theorem zI_and1 (a : Nat) : zI (a : Int) &&& zI 1 = zI ((a % 2 : Nat) : Int) := by
  rw [show zI 1 = zI ((1 : Nat) : Int) from rfl, zI_and, Nat.and_one_is_mod]
theorem tb_iff (m e : Nat) : m.testBit e = true ↔ m / 2 ^ e % 2 = 1 := by
  rw [Nat.testBit_eq_decide_div_mod_eq]; exact decide_eq_true_iff
theorem nb_bP (P : Prop) : narrow .boolean (.int (bP P)) = .int (bP P) := by
  unfold bP; by_cases h : P
  · rw [if_pos h]; rfl
  · rw [if_neg h]; rfl
/-- a set as a number -/
theorem mk_ex (n : Nat) (P : Nat → Prop) : ∃ m : Nat, m < 2 ^ n ∧ ∀ p, m.testBit p = true ↔ p < n ∧ P p := by
  induction n with
  | zero => exact ⟨0, by decide, fun p => ⟨fun h => by simp at h, fun h => absurd h.1 (Nat.not_lt_zero _)⟩⟩
  | succ n ih =>
    obtain ⟨m, h1, h2⟩ := ih
    by_cases hP : P n
    · refine ⟨m ||| 2 ^ n, ?_, fun p => ?_⟩
      · refine Nat.or_lt_two_pow ?_ ?_
        · exact Nat.lt_of_lt_of_le h1 (Nat.pow_le_pow_right (by decide) (Nat.le_succ n))
        · exact Nat.pow_lt_pow_right (by decide) (Nat.lt_succ_self n)
      · rw [Nat.testBit_or, Nat.testBit_two_pow]
        by_cases e : p = n
        · subst e
          simp [hP]
        · have e' : ¬ n = p := fun q => e q.symm
          simp only [e', decide_false, Bool.or_false, h2]
          exact ⟨fun q => ⟨by omega, q.2⟩, fun q => ⟨by omega, q.2⟩⟩
    · refine ⟨m, Nat.lt_of_lt_of_le h1 (Nat.pow_le_pow_right (by decide) (Nat.le_succ n)), fun p => ?_⟩
      rw [h2]
      exact ⟨fun q => ⟨by omega, q.2⟩, fun q => ⟨by
        rcases Nat.lt_or_ge p n with h | h
        · exact h
        · have : p = n := by omega
          subst this; exact absurd q.2 hP, q.2⟩⟩
theorem tb_lt {m n : Nat} (h : ∀ p, m.testBit p = true → p < n) : m < 2 ^ n := by
  refine Nat.lt_pow_two_of_testBit m (fun i hi => ?_)
  cases hb : m.testBit i with
  | false => rfl
  | true => exact absurd (h i hb) (by omega)
theorem tb_ext {a b : Nat} (h : ∀ p, a.testBit p = true ↔ b.testBit p = true) : a = b := by
  refine Nat.eq_of_testBit_eq (fun i => ?_)
  cases ha : a.testBit i with
  | true => exact ((h i).mp ha).symm
  | false =>
    cases hb : b.testBit i with
    | false => rfl
    | true => rw [(h i).mpr hb] at ha; cases ha
theorem tb_0 (p : Nat) : ¬ (0 : Nat).testBit p = true := by simp
theorem tb_or {a p : Nat} (e : Nat) : (a ||| 2 ^ e).testBit p = true ↔ a.testBit p = true ∨ p = e := by
  rw [Nat.testBit_or, Nat.testBit_two_pow, Bool.or_eq_true, decide_eq_true_iff]
  exact ⟨fun h => h.imp id Eq.symm, fun h => h.imp id Eq.symm⟩
theorem tb_and {a b p : Nat} : (a &&& b).testBit p = true ↔ a.testBit p = true ∧ b.testBit p = true := by
  rw [Nat.testBit_and, Bool.and_eq_true]
theorem W_int {M : Mx} {g : Gx} {ad : Nat → Nat} {F : Pic} {kc ks pc : Nat} {LS : List (Option Value)} {ST : List Value} {a b : Int32} (h : a = b) (k : V M g ad F kc ks pc LS (.int b :: ST)) : V M g ad F kc ks pc LS (.int a :: ST) := h ▸ k
theorem W_int2 {M : Mx} {g : Gx} {ad : Nat → Nat} {F : Pic} {kc ks pc : Nat} {LS : List (Option Value)} {ST : List Value} {a b : Int32} {v : Value} (h : a = b) (k : V M g ad F kc ks pc LS (v :: .int b :: ST)) : V M g ad F kc ks pc LS (v :: .int a :: ST) := h ▸ k
theorem W_int2x {M : Mx} {g : Gx} {ad : Nat → Nat} {F : Pic} {kc ks pc : Nat} {LS : List (Option Value)} {ST : List Value} {a b : Int32} (h : a = b) (k : V M g ad F kc ks pc LS (.int b :: ST)) : V M g ad F kc ks pc LS (.int a :: ST) := h ▸ k
