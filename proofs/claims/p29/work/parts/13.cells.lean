/-! ===== fields, arrays, new cells ===== -/
/-- a field k of the objects of class ci, read in own through the place idx -/
def FG (own : String) (idx ci k : Nat) : Prop := ∃ (ref C : String) (T : u_T) (N : Nat), vwCl[ci]? = some (C, T, N) ∧ k < N ∧ (∀ w ∈ u_ws C T N, w ∈ WS) ∧ Cond.fieldLink own idx ref (T k).2.1 (T k).2.2.1 ∈ WS ∧ ((T k).1 = ref ∨ Cond.sameField ref (T k).1 (T k).2.1 (T k).2.2.1 ∈ WS)
/-- .. and written, where it isn't final -/
def FW (own : String) (idx ci k : Nat) (ty : FieldType) : Prop := ∃ (ref C : String) (T : u_T) (N : Nat) (ty0 : Nat → FieldType), vwCl[ci]? = some (C, T, N) ∧ k < N ∧ (∀ w ∈ u_ws C T N, w ∈ WS) ∧ Cond.fieldLink own idx ref (T k).2.1 (T k).2.2.1 ∈ WS ∧ ((T k).1 = ref ∨ Cond.sameField ref (T k).1 (T k).2.1 (T k).2.2.1 ∈ WS) ∧
  (∀ k, k < N → parseFieldDescriptor (T k).2.2.1 = some (ty0 k)) ∧ (∀ a, a < N → ∀ b, b < N → a ≠ b → (T a).2.1 ≠ (T b).2.1) ∧ (T k).2.2.2 = false ∧ parseFieldDescriptor (T k).2.2.1 = some ty
/-- .. and a final one, in its class's constructor -/
def FF (own : String) (idx ci k : Nat) (ty : FieldType) : Prop := ∃ (ref C : String) (T : u_T) (N : Nat) (ty0 : Nat → FieldType), vwCl[ci]? = some (C, T, N) ∧ k < N ∧ (∀ w ∈ u_ws C T N, w ∈ WS) ∧ Cond.fieldLink own idx ref (T k).2.1 (T k).2.2.1 ∈ WS ∧ ((T k).1 = ref ∨ Cond.sameField ref (T k).1 (T k).2.1 (T k).2.2.1 ∈ WS) ∧
  (∀ k, k < N → parseFieldDescriptor (T k).2.2.1 = some (ty0 k)) ∧ (∀ a, a < N → ∀ b, b < N → a ≠ b → (T a).2.1 ≠ (T b).2.1) ∧ (T k).2.2.2 = true ∧ (T k).1 = own ∧ parseFieldDescriptor (T k).2.2.1 = some ty
section Cells
variable {M : Mx} {g : Gx} {y : MethodName} {cc : ByteArray} {ret : Option FieldType} {n mc ms : Nat} {tb : List ExceptionTableEntry} {K : Option Value → (Nat → Nat) → Pic → Prop} {KX : String → (Nat → Nat) → Pic → Prop} {ad : Nat → Nat} {F : Pic} {kc ks pc : Nat} {LS : List (Option Value)} {ST rest : List Value}
theorem same_of {s : State} {args : Array Value} {ref o nm d : String} (hts : ∀ w ∈ WS, w.before args s = true) (h : o = ref ∨ Cond.sameField ref o nm d ∈ WS) : ∀ x, s.fieldFound? o nm d = some x → s.fieldFound? ref nm d = some x := fun x hx => by
  rcases h with h | h
  · rw [← h]; exact hx
  · exact u_same (hts _ h) x hx
theorem r_get (X : Cx M g y cc ret n mc ms tb K KX) {idx ci k r : Nat} {fs : List Value} {v : Value} (d : decode cc pc = .ok (.getfield idx, 3)) (f : FG y.cls idx ci k) (hF : F r = some (.inr (ci, fs))) (hv : fs[k]? = some v)
    (kk : V M g ad F kc ks (pc + 3) LS (v :: ST)) : V M g ad F kc ks pc LS (.ref (ad r) :: ST) := fun H locs ls a b c => by
  obtain ⟨ref, C, T, N, h1, h2, h3, h4, h5⟩ := f
  exact va_get X.1.1 X.1.2.1 X.1.2.2.2.2 h3 X.1.2.2.2.1 X.2.1.2.2.2.1 (a.one hF ne_ob) 0 rfl h1 k h2 (X.1.2.2.2.2 _ h4) (same_of X.1.2.2.2.2 h5) hv d (kk H locs ls a b c)
theorem r_put (X : Cx M g y cc ret n mc ms tb K KX) {idx ci k r : Nat} {ty : FieldType} {fs : List Value} {v : Value} (d : decode cc pc = .ok (.putfield idx, 3)) (f : FW y.cls idx ci k ty) (hF : F r = some (.inr (ci, fs))) (hr : 100 ≤ r) (hl : k < fs.length) (hn : narrow ty v = v) (hfit : fits ty v = true)
    (kk : V M g ad (pu F r (.inr (ci, fs.set k v))) kc ks (pc + 3) LS ST) : V M g ad F kc ks pc LS (v :: .ref (ad r) :: ST) := fun H locs ls a b c => by
  obtain ⟨ref, C, T, N, ty0, h1, h2, h3, h4, h5, h6, h7, h8, h9⟩ := f
  obtain ⟨ws, hP, hD, hput, -⟩ := a.opn
  obtain ⟨q, hq, hset⟩ := hput r _ hF hr
  exact va_put X.1.1 X.1.2.1 X.1.2.2.2.2 h3 ty0 h6 h7 X.1.2.2.2.1 X.2.1.2.2.2.1 hP hD b q hq h1 k h2 (X.1.2.2.2.2 _ h4) (same_of X.1.2.2.2.2 h5) h8 h9 hn hfit hl d (fun H1 locs1 p1 d1 s1 => kk H1 locs1 ls (hset _ H1 p1 d1 (b.low s1 X.2.2.1)) s1 c)
theorem r_putF (X : Cx M g y cc ret n mc ms tb K KX) {idx ci k r : Nat} {ty : FieldType} {fs : List Value} {v : Value} (d : decode cc pc = .ok (.putfield idx, 3)) (f : FF y.cls idx ci k ty) (hy : y.name = "<init>") (hF : F r = some (.inr (ci, fs))) (hr : 100 ≤ r) (hl : k < fs.length) (hn : narrow ty v = v) (hfit : fits ty v = true)
    (kk : V M g ad (pu F r (.inr (ci, fs.set k v))) kc ks (pc + 3) LS ST) : V M g ad F kc ks pc LS (v :: .ref (ad r) :: ST) := fun H locs ls a b c => by
  obtain ⟨ref, C, T, N, ty0, h1, h2, h3, h4, h5, h6, h7, h8, h8b, h9⟩ := f
  obtain ⟨ws, hP, hD, hput, -⟩ := a.opn
  obtain ⟨q, hq, hset⟩ := hput r _ hF hr
  exact va_putF X.1.1 X.1.2.1 X.1.2.2.2.2 h3 ty0 h6 h7 X.1.2.2.2.1 X.2.1.2.2.2.1 hP hD b q hq h1 k h2 (X.1.2.2.2.2 _ h4) (same_of X.1.2.2.2.2 h5) h8 (X.2.1.2.2.1.trans hy) h8b h9 hn hfit hl d (fun H1 locs1 p1 d1 s1 => kk H1 locs1 ls (hset _ H1 p1 d1 (b.low s1 X.2.2.1)) s1 c)
theorem r_iald (X : Cx M g y cc ret n mc ms tb K KX) {r m0 : Nat} {f : Nat → Int32} {z : Int} (i : Nat) (d : decode cc pc = .ok (.iaload, 1)) (hF : F r = some (cI g m0 f)) (hz : z = (i : Int)) (hi : i < m0) (hm : m0 < 2147483648)
    (kk : V M g ad F kc ks (pc + 1) LS (.int (f i) :: ST)) : V M g ad F kc ks pc LS (.int (zI z) :: .ref (ad r) :: ST) := fun H locs ls a b c => by
  subst hz
  refine va_iald X.1.1 X.1.2.1 X.2.1.2.2.2.1 (a.one hF ne_cI) 0 0 rfl rfl (zI_in hi hm) d ?_
  rw [zI_cl (by omega)]
  exact kk H locs ls a b c
theorem r_aald (X : Cx M g y cc ret n mc ms tb K KX) {r m0 : Nat} {f : Nat → Option Nat} {z : Int} {v : Nat} (i : Nat) (d : decode cc pc = .ok (.aaload, 1)) (hF : F r = some (cO g m0 f)) (hz : z = (i : Int)) (hi : i < m0) (hm : m0 < 2147483648) (hv : f i = some v)
    (kk : V M g ad F kc ks (pc + 1) LS (.ref v :: ST)) : V M g ad F kc ks pc LS (.int (zI z) :: .ref (ad r) :: ST) := fun H locs ls a b c => by
  subst hz
  refine va_aldq X.1.1 X.1.2.1 X.2.1.2.2.2.1 (a.one hF (ne_cO (by omega))) 0 2 rfl rfl (zI_in hi hm) d ?_
  rw [zI_cl (by omega), hv]
  exact kk H locs ls a b c
theorem r_aaldQ (X : Cx M g y cc ret n mc ms tb K KX) {r m0 : Nat} {f : Nat → Option Nat} {z : Int} {v : Nat} (i : Nat) (d : decode cc pc = .ok (.aaload, 1)) (hF : F r = some (cQ g m0 f)) (hz : z = (i : Int)) (hi : i < m0) (hm : m0 < 2147483648) (hv : f i = some v)
    (kk : V M g ad F kc ks (pc + 1) LS (.ref v :: ST)) : V M g ad F kc ks pc LS (.int (zI z) :: .ref (ad r) :: ST) := fun H locs ls a b c => by
  subst hz
  have hin := zI_in hi hm
  have e := zI_cl (n := i) (by omega)
  have hK : va_K (gD g) vwCl (gT g) (mS M) := X.2.1.2.2.2.1
  refine W.aald (v := va_rf (f (zI (i : Int)).toNatClampNeg)) (ty := .array .int) X.1.1 X.1.2.1 (a.at hF (ne_cQ (by omega))) ((hK.2 3 _ rfl).1 m0 (fun j => va_rf (f j))) rfl (fun q => by cases q) (by show ¬ (_ < 0 ∨ (arrV _ _ _).slots.size ≤ _); rw [arrV_size]; exact hin) (by show (arrV _ _ _).slots[_]? = _; rw [arrV_read _ _ (by rw [e]; exact hi)]) rfl rfl d ?_
  rw [e, hv]
  exact kk H locs ls a b c
theorem r_ist (X : Cx M g y cc ret n mc ms tb K KX) {r m0 : Nat} {f : Nat → Int32} {z : Int} {v : Int32} (i : Nat) (d : decode cc pc = .ok (.iastore, 1)) (hF : F r = some (cI g m0 f)) (hr : 100 ≤ r) (hz : z = (i : Int)) (hi : i < m0) (hm : m0 < 2147483648)
    (kk : V M g ad (pu F r (cI g m0 (upd f i v))) kc ks (pc + 1) LS ST) : V M g ad F kc ks pc LS (.int v :: .int (zI z) :: .ref (ad r) :: ST) := fun H locs ls a b c => by
  subst hz
  obtain ⟨ws, hP, hD, hput, -⟩ := a.opn
  obtain ⟨q, hq, hset⟩ := hput r _ hF hr
  refine va_iast X.1.1 X.1.2.1 X.2.1.2.2.2.1 hP hD b q 0 hq rfl (zI_in hi hm) d (fun H1 locs1 p1 d1 s1 => ?_)
  rw [zI_cl (by omega)] at p1 d1
  exact kk H1 locs1 ls (hset _ H1 p1 d1 (b.low s1 X.2.2.1)) s1 c
/-- an object of class q.1 laid into an array of objects -/
theorem r_aast (X : Cx M g y cc ret n mc ms tb K KX) {r m0 rv ci : Nat} {q : vw_C} {vs : List Value} {f : Nat → Option Nat} {z : Int} (i : Nat) (d : decode cc pc = .ok (.aastore, 1)) (hF : F r = some (cO g m0 f)) (hr : 100 ≤ r) (hv : F rv = some (.inr (ci, vs))) (hrv : 100 ≤ rv) (hc : vwCl[ci]? = some q) (hca : va_Nw (.castable q.1 "java/lang/Object") (mS M)) (hz : z = (i : Int)) (hi : i < m0) (hm : m0 < 2147483648)
    (kk : V M g ad (pu F r (cO g m0 (va_up f i (some (ad rv))))) kc ks (pc + 1) LS ST) : V M g ad F kc ks pc LS (.ref (ad rv) :: .int (zI z) :: .ref (ad r) :: ST) := fun H locs ls a b c => by
  subst hz
  obtain ⟨ws, hP, hD, hput, -⟩ := a.opn
  obtain ⟨q1, hq, hset⟩ := hput r _ hF hr
  obtain ⟨q2, hq2, -⟩ := hput rv _ hv hrv
  refine va_astqO X.1.1 X.1.2.1 X.2.1.2.2.2.1 hP hD b q1 2 q2 ci hq rfl hca hq2 hc (zI_in hi hm) d (fun H1 locs1 p1 d1 s1 => ?_)
  rw [zI_cl (by omega)] at p1 d1
  exact kk H1 locs1 ls (hset _ H1 p1 d1 (b.low s1 X.2.2.1)) s1 c
theorem r_aastN (X : Cx M g y cc ret n mc ms tb K KX) {r m0 : Nat} {f : Nat → Option Nat} {z : Int} (i : Nat) (d : decode cc pc = .ok (.aastore, 1)) (hF : F r = some (cO g m0 f)) (hr : 100 ≤ r) (hz : z = (i : Int)) (hi : i < m0) (hm : m0 < 2147483648)
    (kk : V M g ad (pu F r (cO g m0 (va_up f i none))) kc ks (pc + 1) LS ST) : V M g ad F kc ks pc LS (.null :: .int (zI z) :: .ref (ad r) :: ST) := fun H locs ls a b c => by
  subst hz
  obtain ⟨ws, hP, hD, hput, -⟩ := a.opn
  obtain ⟨q1, hq, hset⟩ := hput r _ hF hr
  refine va_astqN X.1.1 X.1.2.1 X.2.1.2.2.2.1 hP hD b q1 2 hq rfl (zI_in hi hm) d (fun H1 locs1 p1 d1 s1 => ?_)
  rw [zI_cl (by omega)] at p1 d1
  exact kk H1 locs1 ls (hset _ H1 p1 d1 (b.low s1 X.2.2.1)) s1 c
theorem r_alen (X : Cx M g y cc ret n mc ms tb K KX) {r t0 m0 : Nat} {cA : ClassId} {x : (Nat → Int32) ⊕ (Nat → Int64) ⊕ (Nat → UInt32) ⊕ (Nat → UInt64) ⊕ (Nat → Option Nat)} {ty : FieldType} (d : decode cc pc = .ok (.arraylength, 1)) (hF : F r = some (.inl (cA, m0, x))) (ht : (gT g)[t0]? = some (cA, ty))
    (kk : V M g ad F kc ks (pc + 1) LS (.int (zI (m0 : Int)) :: ST)) : V M g ad F kc ks pc LS (.ref (ad r) :: ST) := fun H locs ls a b c => by
  rcases a.old hF with ho | ho
  · obtain ⟨⟨f, hf⟩, cell, g1, g2, ⟨g3, g4⟩, g5⟩ := ho
    have hm0 : m0 = 0 := congrArg (fun q => q.2.1) (Sum.inl.inj hf)
    have hcA : cA = gc g 2 := congrArg (fun q => q.1) (Sum.inl.inj hf)
    have hK : va_K (gD g) vwCl (gT g) (mS M) := X.2.1.2.2.2.1
    have hA : ArrOfT (mS M) cA ty := (hK.2 t0 _ ht).1
    refine W.alen (n := zI (m0 : Int)) (ty := ty) X.1.1 X.1.2.1 g1 ⟨fun k h => (by rw [h] at g3; cases g3), (by rw [g2, ← hcA]; exact (hA 0 (fun _ => .null)).2)⟩ (by rw [g5, hm0] <;> rfl) rfl rfl d (kk H locs ls a b c)
  · exact va_alen X.1.1 X.1.2.1 X.2.1.2.2.2.1 (va_one ho) 0 t0 rfl ht (zI_nI m0).symm d (kk H locs ls a b c)
theorem r_new (X : Cx M g y cc ret n mc ms tb K KX) {idx ci N : Nat} {C : String} {T : u_T} {ty : Nat → FieldType} {fs : List Value} (r : Nat) (d : decode cc pc = .ok (.new idx, 3)) (hc : vwCl[ci]? = some (C, T, N)) (hin : ∀ w ∈ u_ws C T N, w ∈ WS) (hty : ∀ k, k < N → parseFieldDescriptor (T k).2.2.1 = some (ty k)) (w1 : Cond.classLink y.cls idx C ∈ WS) (w2 : Cond.instantiable C N ∈ WS) (w3 : Cond.initialized C ∈ WS) (hfs : ∀ j, j < N → defaultValue (ty j) = vp_V fs j)
    (hr : 100 ≤ r) (hF : F r = none) (h1 : kc + 1 ≤ mc) (h2 : ks + N ≤ ms)
    (kk : ∀ ad' : Nat → Nat, (∀ x, x ≠ r → ad' x = ad x) → V M g ad' (pu F r (.inr (ci, fs))) (kc + 1) (ks + N) (pc + 3) LS (.ref (ad' r) :: ST)) : V M g ad F kc ks pc LS ST := fun H locs ls a b c => by
  obtain ⟨ws, hP, hD, -, hnew⟩ := a.opn
  refine va_new X.1.1 X.1.2.1 X.1.2.2.2.2 hin ty hty X.1.2.2.2.1 (X.1.2.2.2.2 _ w1) (X.1.2.2.2.2 _ w2) (X.1.2.2.2.2 _ w3) X.2.1.2.2.2.1 hP hD b (fun q hq => Nat.le_trans X.2.2.1 hq) hc hfs (by rw [X.2.2.2.2.1]; exact h1) (by rw [X.2.2.2.2.1]; exact h2) d (fun q H1 p1 d1 s1 => ?_)
  have h := kk (fun x => if x = r then q else ad x) (fun x hx => if_neg hx)
  rw [show (if r = r then q else ad r) = q from if_pos rfl] at h
  exact h H1 locs ls (hnew r _ q H1 _ hF hr (if_pos rfl) (fun x hx => if_neg (show ¬ x = r from fun z => hx (by rw [z]; exact hF))) p1 d1 (b.low s1 X.2.2.1)) s1 c
theorem fc_eq {g : Gx} {U : State} (hK : Kn g U) {k : Nat} {cA cB : ClassId} {ty : FieldType} (h1 : (gT g)[k]? = some (cB, ty)) (h2 : va_RA U cA ty) : cA = cB := by
  have h3 := (hK.2 k _ h1).2
  cases ty with
  | object C =>
    obtain ⟨_, _, _, _, _, a⟩ := h2
    obtain ⟨_, _, _, _, _, b⟩ := h3
    exact Option.some.inj (a.symm.trans b)
  | _ => exact Option.some.inj (Eq.trans (Eq.symm h2) h3)
theorem r_newI (X : Cx M g y cc ret n mc ms tb K KX) {z : Int} (r N : Nat) (d : decode cc pc = .ok (.newarray .int, 2)) (w : Cond.arrayClass .int ∈ WS) (hz : z = (N : Int)) (hN : N ≤ 100000)
    (hr : 100 ≤ r) (hF : F r = none) (h1 : kc + 1 ≤ mc) (h2 : ks + N ≤ ms)
    (kk : ∀ ad' : Nat → Nat, (∀ x, x ≠ r → ad' x = ad x) → V M g ad' (pu F r (cI g N (fun _ => 0))) (kc + 1) (ks + N) (pc + 2) LS (.ref (ad' r) :: ST)) : V M g ad F kc ks pc LS (.int (zI z) :: ST) := fun H locs ls a b c => by
  subst hz
  obtain ⟨ws, hP, hD, -, hnew⟩ := a.opn
  refine va_newa (atype := .int) (ty := .int) (a0 := (N, .inl (fun _ => 0))) (N' := N) X.1.1 X.1.2.1 (X.1.2.2.2.2 _ w) rfl X.2.1.2.2.2.1 hP hD b (fun q hq => Nat.le_trans X.2.2.1 hq) (fun _ => rfl) (by rw [zI_nI]; exact nI_pos (by omega)) (zI_cl (by omega)) (by show N * 4 ≤ _; omega) (by rw [X.2.2.2.2.1]; exact h1) (by rw [X.2.2.2.2.1]; exact h2) d (fun q cA H1 hK1 p1 d1 s1 => ?_)
  have e : cA = gc g 0 := fc_eq X.2.1.2.2.2.1 (k := 0) rfl (hK1.2 4 (cA, .int) rfl).2
  rw [e] at p1 d1
  have h := kk (fun x => if x = r then q else ad x) (fun x hx => if_neg hx)
  rw [show (if r = r then q else ad r) = q from if_pos rfl] at h
  exact h H1 locs ls (hnew r _ q H1 _ hF hr (if_pos rfl) (fun x hx => if_neg (show ¬ x = r from fun z => hx (by rw [z]; exact hF))) p1 d1 (b.low s1 X.2.2.1)) s1 c
theorem r_newO (X : Cx M g y cc ret n mc ms tb K KX) {idx : Nat} {z : Int} (r N : Nat) (d : decode cc pc = .ok (.anewarray idx, 3)) (w : Cond.classLink y.cls idx "java/lang/Object" ∈ WS) (hz : z = (N : Int)) (hN : N ≤ 100000)
    (hr : 100 ≤ r) (hF : F r = none) (h1 : kc + 1 ≤ mc) (h2 : ks + N ≤ ms)
    (kk : ∀ ad' : Nat → Nat, (∀ x, x ≠ r → ad' x = ad x) → V M g ad' (pu F r (cO g N (fun _ => none))) (kc + 1) (ks + N) (pc + 3) LS (.ref (ad' r) :: ST)) : V M g ad F kc ks pc LS (.int (zI z) :: ST) := fun H locs ls a b c => by
  subst hz
  obtain ⟨ws, hP, hD, -, hnew⟩ := a.opn
  refine va_newq (N' := N) X.1.1 X.1.2.1 X.1.2.2.2.1 (X.1.2.2.2.2 _ w) X.2.1.2.2.2.2.2.2.2.2.2.2.1 X.2.1.2.2.2.1 hP hD b (fun q hq => Nat.le_trans X.2.2.1 hq) (by rw [zI_nI]; exact nI_pos (by omega)) (zI_cl (by omega)) (by omega) (by rw [X.2.2.2.2.1]; exact h1) (by rw [X.2.2.2.2.1]; exact h2) d (fun q cA H1 hK1 p1 d1 s1 => ?_)
  have e : cA = gc g 2 := fc_eq X.2.1.2.2.2.1 (k := 2) rfl (hK1.2 4 (cA, .object "java/lang/Object") rfl).2
  rw [e] at p1 d1
  have h := kk (fun x => if x = r then q else ad x) (fun x hx => if_neg hx)
  rw [show (if r = r then q else ad r) = q from if_pos rfl] at h
  exact h H1 locs ls (hnew r _ q H1 _ hF hr (if_pos rfl) (fun x hx => if_neg (show ¬ x = r from fun z => hx (by rw [z]; exact hF))) p1 d1 (b.low s1 X.2.2.1)) s1 c
end Cells
