/-! ===== ArrayList ===== -/
set_option maxRecDepth 100000 in
theorem wNac : Cond.native arraycopyName ∈ WS := ws_in (List.mem_of_getElem? (i := 311) rfl) rfl
set_option maxRecDepth 100000 in
theorem wNgc : Cond.native ⟨"java/lang/Object", "getClass", "()Ljava/lang/Class;"⟩ ∈ WS := ws_in (List.mem_of_getElem? (i := 299) rfl) rfl
theorem declares_of {args : Array Value} {s : State} {x : MethodName} (h1 : (Cond.instanceMethod x).before args s = true) (h2 : (Cond.native x).before args s = true) : (Cond.declares x).before args s = true := by
  obtain ⟨m, meth, a1, a2, a3, -⟩ := Cond.instanceMethod_spec h1
  obtain ⟨m', meth', b1, b2, -, -, -, b6⟩ := Cond.native_spec h2
  cases a1.symm.trans b1
  cases a2.symm.trans b2
  simp [Cond.before, Cond.holds, Cond.value, a1, a2, a3, b6]
section ListRows
variable {M : Mx} {g : Gx} {y : MethodName} {cc : ByteArray} {ret : Option FieldType} {n mc ms : Nat} {tb : List ExceptionTableEntry} {K : Option Value → (Nat → Nat) → Pic → Prop} {KX : String → (Nat → Nat) → Pic → Prop} {ad : Nat → Nat} {F : Pic} {kc ks pc : Nat} {LS : List (Option Value)} {ST rest : List Value}
theorem r_getsD (X : Cx M g y cc ret n mc ms tb K KX) {idx : Nat} (d : decode cc pc = .ok (.getstatic idx, 3)) (w : Cond.fieldLink y.cls idx "java/util/ArrayList" "DEFAULTCAPACITY_EMPTY_ELEMENTDATA" "[Ljava/lang/Object;" ∈ WS) (k : V M g ad F kc ks (pc + 3) LS (.ref (gn g 99) :: ST)) : V M g ad F kc ks pc LS ST := fun H locs ls a b c =>
  va_gets X.1.1 X.1.2.1 X.2.1.2.2.2.2.2.2.2.2.2.2.2.1 b X.1.2.2.2.1 (X.1.2.2.2.2 _ w) (fun _ h => h) d (k H locs ls a b c)
theorem r_acmp_eq (X : Cx M g y cc ret n mc ms tb K KX) {a b : Nat} {off : Int} (tgt : Nat) (d : decode cc pc = .ok (.if_acmp .eq off, 3)) (ht : (pc : Int) + off = (tgt : Int)) (kt : a = b → V M g ad F kc ks tgt LS ST) (kf : ¬ a = b → V M g ad F kc ks (pc + 3) LS ST) : V M g ad F kc ks pc LS (.ref b :: .ref a :: ST) := fun H locs ls q1 q2 q3 =>
  lv_acmp_eq (rx := some a) (ry := some b) X.1.1 X.1.2.1 d ht (fun h => kt (Option.some.inj h) H locs ls q1 q2 q3) (fun h => kf (fun q => h (by rw [q])) H locs ls q1 q2 q3)
theorem r_acmp_ne (X : Cx M g y cc ret n mc ms tb K KX) {a b : Nat} {off : Int} (tgt : Nat) (d : decode cc pc = .ok (.if_acmp .ne off, 3)) (ht : (pc : Int) + off = (tgt : Int)) (kt : ¬ a = b → V M g ad F kc ks tgt LS ST) (kf : a = b → V M g ad F kc ks (pc + 3) LS ST) : V M g ad F kc ks pc LS (.ref b :: .ref a :: ST) := fun H locs ls q1 q2 q3 =>
  lv_acmp_ne (rx := some a) (ry := some b) X.1.1 X.1.2.1 d ht (fun h => kt (fun q => h (by rw [q])) H locs ls q1 q2 q3) (fun h => kf (Option.some.inj h) H locs ls q1 q2 q3)
theorem r_ldcM (X : Cx M g y cc ret n mc ms tb K KX) {idx : Nat} (d : decode cc pc = .ok (.ldc idx, 2)) (w : Cond.classLink y.cls idx "[Ljava/lang/Object;" ∈ WS) (k : V M g ad F kc ks (pc + 2) LS (.ref (gn g 98) :: ST)) : V M g ad F kc ks pc LS ST := fun H locs ls a b c =>
  va_ldcM X.1.1 X.1.2.1 X.1.2.2.2.1 (X.1.2.2.2.2 _ w) X.2.1.2.2.2.2.2.2.2.2.2.2.2.2.1 d (k H locs ls a b c)
theorem fa_O {g : Gx} {U : State} (hK : Kn g U) : U.vm.findClass "[Ljava/lang/Object;" = some (gc g 2) := by
  obtain ⟨_, _, _, _, _, h⟩ := (hK.2 2 (gc g 2, .object "java/lang/Object") rfl).2
  exact h
theorem getC_of {g : Gx} {ad : Nat → Nat} {F : Pic} {H : Heap} {r m0 : Nat} {f : Nat → Option Nat} {s : State} (a : HP g ad F H) (hF : F r = some (cO g m0 f)) (hc : s.vm.findClass "[Ljava/lang/Object;" = some (gc g 2)) : ∃ cell : Cell, H[ad r]? = some cell ∧ cell.vm.isStatics = false ∧ s.vm.findClass "[Ljava/lang/Object;" = some cell.cls := by
  rcases a.old hF with ⟨-, cell, g1, g2, ⟨g3, -⟩, -⟩ | ho
  · exact ⟨cell, g1, g3, by rw [g2]; exact hc⟩
  · exact ⟨_, ho, rfl, hc⟩
theorem r_getC (X : Cx M g y cc ret n mc ms tb K KX) {idx r m0 : Nat} {f : Nat → Option Nat} (d : decode cc pc = .ok (.invokevirtual idx, 3)) (w : Cond.methodLink y.cls idx ⟨"java/lang/Object", "getClass", "()Ljava/lang/Class;"⟩ ∈ WS) (w2 : Cond.selects "[Ljava/lang/Object;" ⟨"java/lang/Object", "getClass", "()Ljava/lang/Class;"⟩ ⟨"java/lang/Object", "getClass", "()Ljava/lang/Class;"⟩ ∈ WS) (w3 : Cond.instanceMethod ⟨"java/lang/Object", "getClass", "()Ljava/lang/Class;"⟩ ∈ WS) (hF : F r = some (cO g m0 f)) (hlv : 0 < n) (hcat : (ST.map fun v => v.category).sum ≤ 8) (k : V M g ad F kc ks (pc + 3) LS (.ref (gn g 98) :: ST)) : V M g ad F kc ks pc LS (.ref (ad r) :: ST) := fun H locs ls a b c => by
  refine va_getC X.1.1 X.1.2.1 (X.1.2.2.1.trans c.1.symm) X.1.2.2.2.1 (X.1.2.2.2.2 _ w) (declares_of (X.1.2.2.2.2 _ w3) (X.1.2.2.2.2 _ wNgc)) (X.1.2.2.2.2 _ w2) (X.1.2.2.2.2 _ w3) (X.1.2.2.2.2 _ wNgc) X.2.1.2.2.2.2.2.2.2.2.2.2.2.2.1 (getC_of a hF (fa_O X.2.1.2.2.2.1)) (by rw [X.2.2.2.2.1]; exact hlv) ?_ d (k H locs ls a b c)
  rw [X.2.2.2.2.1]; show _ + 14 ≤ 42 * n; omega
/-- y is the address of a live object that an array of objects may hold -/
def LIVE (ad : Nat → Nat) (F : Pic) (y : Nat) : Prop := ∃ (rv ci : Nat) (vs : List Value), y = ad rv ∧ F rv = some (.inr (ci, vs)) ∧ (100 ≤ rv ∧ (rv < 1000 ∨ 5000 ≤ rv)) ∧ (ci = 3 ∨ ci = 4 ∨ ci = 5)
theorem cast_of (X : Cx M g y cc ret n mc ms tb K KX) {ci : Nat} (h : ci = 3 ∨ ci = 4 ∨ ci = 5) : ∃ q, vwCl[ci]? = some q ∧ va_Nw (.castable q.1 "java/lang/Object") (mS M) := by
  obtain ⟨_, _, c3, c4, c5⟩ := X.2.1.2.2.2.2.2.2.1
  rcases h with rfl | rfl | rfl
  · exact ⟨_, rfl, c4⟩
  · exact ⟨_, rfl, c5⟩
  · exact ⟨_, rfl, c3⟩
theorem r_copy (X : Cx M g y cc ret n mc ms tb K KX) {idx r0 r1 n0 n1 : Nat} {f h9 : Nat → Option Nat} {zs zd zn : Int} (sp dp k9 : Nat) (d : decode cc pc = .ok (.invokestatic idx, 3)) (w : Cond.methodLink y.cls idx arraycopyName ∈ WS) (w2 : Cond.static arraycopyName ∈ WS) (w3 : Cond.initialized "java/lang/System" ∈ WS) (hF0 : F r0 = some (cO g n0 f)) (hF1 : F r1 = some (cO g n1 h9)) (hr0 : 100 ≤ r0) (hr1 : 100 ≤ r1) (e1 : zs = (sp : Int)) (e2 : zd = (dp : Int)) (e3 : zn = (k9 : Int)) (hb : sp + k9 ≤ n0 ∧ dp + k9 ≤ n1 ∧ n0 < 1000 ∧ n1 < 1000)
    (hel : ∀ i, i < k9 → ∀ q, f (sp + i) = some q → LIVE ad F q) (hlv : 0 < n) (hcat : (ST.map fun v => v.category).sum ≤ 8)
    (k : V M g ad (pu F r1 (cO g n1 (va_cpy f h9 sp dp k9))) kc ks (pc + 3) LS ST) : V M g ad F kc ks pc LS (.int (zI zn) :: .int (zI zd) :: .ref (ad r1) :: .int (zI zs) :: .ref (ad r0) :: ST) := fun H locs ls a b c => by
  subst e1 e2 e3
  obtain ⟨ws, hP, hD, hput, -⟩ := a.opn
  obtain ⟨q0, hq0, -⟩ := hput r0 _ hF0 hr0
  obtain ⟨q1, hq1, hset⟩ := hput r1 _ hF1 hr1
  have c1 := zI_cl (n := sp) (by omega)
  have c2 := zI_cl (n := dp) (by omega)
  have c3 := zI_cl (n := k9) (by omega)
  refine va_copyqM X.1.1 X.1.2.1 (X.1.2.2.1.trans c.1.symm) X.1.2.2.2.1 (X.1.2.2.2.2 _ w) (X.1.2.2.2.2 _ wNac) (X.1.2.2.2.2 _ w2) (X.1.2.2.2.2 _ w3) X.2.1.2.2.2.1 hP hD b q0 q1 2 2 hq0 hq1 rfl rfl (by rw [zI_nI]; exact nI_pos (by omega)) (by rw [zI_nI]; exact nI_pos (by omega)) (by rw [zI_nI]; exact nI_pos (by omega)) (by rw [c1, c3]; exact hb.1) (by rw [c2, c3]; exact hb.2.1) (fun i hi q hq => ?_) (by rw [X.2.2.2.2.1]; exact hlv) ?_ d (fun H1 locs1 p1 d1 s1 => ?_)
  · rw [c3] at hi; rw [c1] at hq
    obtain ⟨rv, ci, vs, rfl, hv, h100, hci⟩ := hel i hi q hq
    obtain ⟨q9, hq9, hca⟩ := cast_of X hci
    obtain ⟨cell, g1, g2, g3⟩ := va_recv X.2.1.2.2.2.1 (a.one hv ne_ob) (ci := ci) (q0 := 0) hq9 rfl
    exact ⟨cell, q9.1, g1, g2, g3, hca⟩
  · rw [X.2.2.2.2.1]
    show _ + (nativeFrameWords "java/lang/System" "arraycopy" 5 + 11) ≤ 42 * n
    have : nativeFrameWords "java/lang/System" "arraycopy" 5 + 11 ≤ 34 := by decide
    omega
  · rw [c1, c2, c3] at p1 d1
    exact k H1 locs1 ls (hset _ H1 p1 d1 (b.low s1 X.2.2.1)) s1 c
/-- a cast of an object of class q.1 to nm -/
theorem r_castY (X : Cx M g y cc ret n mc ms tb K KX) {idx r ci : Nat} {q : vw_C} {nm : String} {fs : List Value} (d : decode cc pc = .ok (.checkcast idx, 3)) (w : Cond.classLink y.cls idx nm ∈ WS) (hF : F r = some (.inr (ci, fs))) (hq : vwCl[ci]? = some q) (hc : va_Nw (.castable q.1 nm) (mS M)) (k : V M g ad F kc ks (pc + 3) LS (.ref (ad r) :: ST)) : V M g ad F kc ks pc LS (.ref (ad r) :: ST) := fun H locs ls a b c =>
  va_castY X.1.1 X.1.2.1 X.1.2.2.2.1 (X.1.2.2.2.2 _ w) hc (va_recv X.2.1.2.2.2.1 (a.one hF ne_ob) (ci := ci) (q0 := 0) hq rfl) d (k H locs ls a b c)
/-- a cast to the object's own class -/
theorem r_castS (X : Cx M g y cc ret n mc ms tb K KX) {idx r ci : Nat} {q : vw_C} {fs : List Value} (d : decode cc pc = .ok (.checkcast idx, 3)) (w : Cond.classLink y.cls idx q.1 ∈ WS) (hF : F r = some (.inr (ci, fs))) (hq : vwCl[ci]? = some q) (k : V M g ad F kc ks (pc + 3) LS (.ref (ad r) :: ST)) : V M g ad F kc ks pc LS (.ref (ad r) :: ST) := fun H locs ls a b c =>
  va_castS X.1.1 X.1.2.1 X.1.2.2.2.1 (X.1.2.2.2.2 _ w) (X.2.1.2.2.2.1.1 ci q hq).2 (va_recv X.2.1.2.2.2.1 (a.one hF ne_ob) (ci := ci) (q0 := 0) hq rfl) d (k H locs ls a b c)
end ListRows
