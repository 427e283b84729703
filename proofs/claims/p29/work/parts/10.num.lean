/-! ===== numbers ===== -/
def zI (z : Int) : Int32 := Int32.ofInt z
def zL (z : Int) : Int64 := Int64.ofInt z
def inR (z : Int) : Prop := -2147483648 ≤ z ∧ z < 2147483648
def inL (z : Int) : Prop := -9223372036854775808 ≤ z ∧ z < 9223372036854775808
theorem zI_add (a b : Int) : zI a + zI b = zI (a + b) := (Int32.ofInt_add a b).symm
theorem zI_sub (a b : Int) : zI a - zI b = zI (a - b) := (Int32.ofInt_sub a b).symm
theorem zI_mul (a b : Int) : zI a * zI b = zI (a * b) := (Int32.ofInt_mul a b).symm
theorem zI_neg (a : Int) : - zI a = zI (- a) := (Int32.ofInt_neg a).symm
theorem zL_add (a b : Int) : zL a + zL b = zL (a + b) := (Int64.ofInt_add a b).symm
theorem zL_mul (a b : Int) : zL a * zL b = zL (a * b) := (Int64.ofInt_mul a b).symm
theorem zI_to {a : Int} (h : inR a) : (zI a).toInt = a := Int32.toInt_ofInt_of_le h.1 h.2
theorem zL_to {a : Int} (h : inL a) : (zL a).toInt = a := Int64.toInt_ofInt_of_le h.1 h.2
theorem zI_of (x : Int32) : x = zI x.toInt := (Int32.ofInt_toInt x).symm
theorem inR_of (x : Int32) : inR x.toInt := ⟨x.le_toInt, x.toInt_lt⟩
theorem zI_lt {a b : Int} (ha : inR a) (hb : inR b) : zI a < zI b ↔ a < b := by
  rw [Int32.lt_iff_toInt_lt, zI_to ha, zI_to hb]
theorem zI_le {a b : Int} (ha : inR a) (hb : inR b) : zI a ≤ zI b ↔ a ≤ b := by
  rw [Int32.le_iff_toInt_le, zI_to ha, zI_to hb]
theorem zI_eq {a b : Int} (ha : inR a) (hb : inR b) : zI a = zI b ↔ a = b := by
  rw [← Int32.toInt_inj, zI_to ha, zI_to hb]
theorem zL_lt {a b : Int} (ha : inL a) (hb : inL b) : zL a < zL b ↔ a < b := by
  rw [Int64.lt_iff_toInt_lt, zL_to ha, zL_to hb]
theorem zL_eq {a b : Int} (ha : inL a) (hb : inL b) : zL a = zL b ↔ a = b := by
  rw [← Int64.toInt_inj, zL_to ha, zL_to hb]
theorem zI_nI (n : Nat) : zI (n : Int) = nI n := Int32.ofInt_eq_ofNat
theorem zI_cl {n : Nat} (h : n < 2147483648) : (zI (n : Int)).toNatClampNeg = n := by
  rw [Int32.toNatClampNeg, zI_to ⟨by omega, by omega⟩]; rfl
theorem zI_in {i n : Nat} (h : i < n) (hn : n < 2147483648) : vp_in (zI (i : Int)) n := by
  rw [zI_nI]; exact vp_in_nI h hn
theorem zI_L {a : Int} (h : inR a) : (zI a).toInt64 = zL a := by
  rw [← Int64.toInt_inj, Int32.toInt_toInt64, zI_to h, zL_to ⟨by have := h.1; omega, by have := h.2; omega⟩]
theorem zL_I {a : Int} : (zL a).toInt32 = zI a := by
  rw [zL, zI, Int64.toInt32_ofInt]
noncomputable def bP (P : Prop) : Int32 := @ite _ P (Classical.propDecidable P) (zI 1) (zI 0)
theorem bP_t {P : Prop} (h : P) : zI 1 = bP P := (@if_pos _ (Classical.propDecidable P) h _ _ _).symm
theorem bP_f {P : Prop} (h : ¬ P) : zI 0 = bP P := (@if_neg _ (Classical.propDecidable P) h _ _ _).symm
theorem bP_eq0 {P : Prop} : bP P = 0 ↔ ¬ P := by
  unfold bP; by_cases h : P
  · rw [if_pos h]; exact ⟨fun q => absurd q (by decide), fun q => absurd h q⟩
  · rw [if_neg h]; exact ⟨fun _ => h, fun _ => by decide⟩
