/-! ===== the law's wrappers: methods with a handler table ===== -/
def Ctw (g : Gx) (l : Launch) (y : MethodName) (cy : ByteArray) (nL : Nat) (ret : Option FieldType) (hh : List (Nat × Nat × Nat × Nat)) (n mc ms : Nat) (as : List Value) (ad : Nat → Nat) (F : Pic) (K : Option Value → (Nat → Nat) → Pic → Prop) : Prop :=
  Met l y (.codeWith y cy nL ret hh :: WS) (rmL n mc ms) (PcK g as ad F) (QcK g K) mc ms (gA g)
theorem Ctw_of {g : Gx} {l : Launch} {y : MethodName} {cy : ByteArray} {nL : Nat} {ret : Option FieldType} {hh : List (Nat × Nat × Nat × Nat)} {n mc ms : Nat} {as : List Value} {ad : Nat → Nat} {F : Pic} {K : Option Value → (Nat → Nat) → Pic → Prop}
    (hl : l.stackTraces = false) (hy : plainName y.cls = true) (LS : List (Option Value)) (hn : (lg_sl as).length ≤ nL) (hLS : ∀ q ∈ las LS, q ∈ lv_args 0 as) (body : ∀ M : Mx, mL M = l → mN M = nL → Cx M g y cy ret n mc ms (tableOf hh) K noX → V M g ad F 0 0 0 LS []) : Ctw g l y cy nL ret hh n mc ms as ad F K := by
  have h0 : vx_Met l y (.codeWith y cy nL ret hh :: WS) (rmL n mc ms) (PcK g as ad F) (QcK g K) (XcK g noX) mc ms (gA g) := by
    refine vx_ofWH (cc := cy) (maxL := nL) (ret := ret) (hh := hh) hy rfl ?_
    intro p e s m args below meth c s₁ B hml hv
    obtain ⟨rfl, hz, hP, hK, hZ⟩ := hv
    have hts := atoms_spec (ws := .codeWith y cy nL ret hh :: WS) B.pre
    have hown : s.vm.findClass y.cls = some m.cls := findClass_of_methodNamed B.named
    have h := body ((p, l, e, (headSpec (.codeWith y cy nL ret hh :: WS) (rmL n mc ms)).room, s), (m, as.toArray, below, meth, c), (nL, vx_MQ below (QcK g K) (XcK g noX) as.toArray s mc ms (gA g))) rfl rfl
      ⟨⟨B.exec, B.bytes, hml, hown, fun w hw => hts w (List.mem_cons_of_mem _ hw)⟩, ⟨B.returns, B.notSynchronized, (name_of_methodNamed B.named B.method).1, hK, hZ⟩, hz, vx_table (x := y) B (hts _ List.mem_cons_self), rfl, rfl, hl⟩
    rw [lg_entry_eq]
    exact h s.heap [] _ hP va_S.rf ⟨(lv_entry as hn).1, (lv_entry as hn).2.1, fun q hq => (lv_entry as hn).2.2 q (hLS q hq)⟩
  unfold Ctw Met
  exact MetFree.mono h0 (fun _ _ q => q) (fun _ _ _ _ _ q => q) (fun a st o t _ q => by
    rcases q with q | ⟨x, -, E, ce, L, ⟨_, _, hf, -⟩, -⟩
    · exact q
    · exact hf.elim)
section Rows
variable {M : Mx} {g : Gx} {y : MethodName} {cc : ByteArray} {ret : Option FieldType} {n mc ms : Nat} {tb : List ExceptionTableEntry} {K : Option Value → (Nat → Nat) → Pic → Prop} {KX : String → (Nat → Nat) → Pic → Prop} {ad : Nat → Nat} {F : Pic} {kc ks pc : Nat} {LS : List (Option Value)} {ST rest : List Value}
variable {y' : MethodName} {cy' : ByteArray} {nL' n' mc' ms' idx np : Nat} {ret' : Option FieldType} {K' : Option Value → (Nat → Nat) → Pic → Prop} {KX' : String → (Nat → Nat) → Pic → Prop} {As : List Value}
/-- what is thrown at pc is caught: the row of the table, and what the rows ahead name -/
def Caught (M : Mx) (y : MethodName) (tb : List ExceptionTableEntry) (pc : Nat) (E : String) (tgt : Nat) : Prop := ∃ (pre : List ExceptionTableEntry) (x : ExceptionTableEntry) (suf : List ExceptionTableEntry), tb = pre ++ x :: suf ∧ (∀ z ∈ pre, z.catchType ≠ 0 ∧ ∃ nm : String, Cond.classLink y.cls z.catchType nm ∈ WS ∧ va_Nc E nm (mS M)) ∧ covers x pc = true ∧ x.catchType ≠ 0 ∧ Cond.classLink y.cls x.catchType E ∈ WS ∧ va_Nw (.castable E E) (mS M) ∧ x.handlerPc = tgt
theorem r_callVXC (X : Cx M g y cc ret n mc ms tb K KX) {r ci : Nat} {q : vw_C} {fs : List Value} (d : decode cc pc = .ok (.invokevirtual idx, 3)) (w : WVt y.cls idx y' cy' nL' ret' np) (hM : CtX g (mL M) y' cy' nL' ret' n' mc' ms' (.ref (ad r) :: As) ad F K' KX') (hrc : F r = some (.inr (ci, fs))) (hq : vwCl[ci]? = some q) (hcl : q.1 = y'.cls) (hn : As.length = np)
    (hst : ST = As.reverse ++ .ref (ad r) :: rest) (hcat : (rest.map fun v => v.category).sum ≤ 8) (hlv : n' < n) (hml : nL' ≤ 81) (h1 : kc + mc' ≤ mc) (h2 : ks + ms' ≤ ms)
    (hx : ∀ E ad' F', KX' E ad' F' → ∃ tgt, Caught M y tb pc E tgt ∧ ∀ q : Nat, V M g ad' F' (kc + mc') (ks + ms') tgt LS [.ref q])
    (k : ∀ v ad' F', K' v ad' F' → V M g ad' F' (kc + mc') (ks + ms') (pc + 3) LS (v.toList ++ rest)) : V M g ad F kc ks pc LS ST := by
  obtain ⟨w1, w2, w3⟩ := w
  intro H locs ls a b c T hT X0
  have hr : vx_Run (mP M) (mL M) (mE M) (mR M) (mS M) (mM M) (mA M) (mB M) (mMe M) (mC M) H locs kc ks mc' ms' (F0 (mM M) pc ls ST) rest (QcK g K' (.ref (ad r) :: As).toArray) (XcK g KX') (gA g) := by
    refine vx_runV ⟨X.1.1, X.1.2.1, X.1.2.2.1, X.1.2.2.2.1, X.1.2.2.2.2⟩ hM ⟨callB_w X.1.2.2.2.2 w1 X.2.2.2.2.1 hlv hml, X.1.2.2.2.2 _ w2, X.1.2.2.2.2 _ w3⟩ ⟨PcK.blind, ?_, pc_at X a b⟩ rfl hn c.1 hst (lv_room hcat) d ⟨by rw [X.2.2.2.2.1]; exact h1, by rw [X.2.2.2.2.1]; exact h2⟩
    rw [← hcl]
    exact va_recv X.2.1.2.2.2.1 (a.one hrc ne_ob) (ci := ci) (q0 := 0) hq rfl
  rcases hr T hT X0 with ⟨v, st0, t, T', L, h0, X', hL, e1, e2, ⟨⟨v', ad', F', hv, hK', hP'⟩, hF⟩, go⟩ | ⟨q, st0, t, T', L, E, ce, h0, X', hL, e1, e2, ⟨ad', F', hKX, hP', hF⟩, hce, hcv, hcl2, go⟩
  · cases hv
    have hS' : va_S (gA g) (mS M).heap T'.heap (locs ++ L) := (vx_keep h0 e1 b (fun _ _ q => q) (fun _ q => q) hL hF).2.2
    obtain ⟨t9, s9, q9⟩ := k v ad' F' hK' T'.heap (locs ++ L) ls (by rw [e1]; exact hP') hS' c T' rfl X'
    exact ⟨t9, go t9 s9, q9⟩
  · have hS' : va_S (gA g) (mS M).heap T'.heap (locs ++ L) := (vx_keep h0 e1 b (fun _ _ q => q) (fun _ q => q) hL hF).2.2
    obtain ⟨tgt, ⟨pre, x, suf, htb, hpass, hcov, hc0, hlk, hca, htg⟩, hV⟩ := hx E ad' F' hKX
    have hW : vx_W (mP M) (mL M) (mE M) (mR M) (mS M) (mM M) (mA M) (mB M) (mMe M) (mC M) T'.heap (locs ++ L) (kc + mc') (ks + ms') (mQ M) (F0 (mM M) pc ls rest) q :=
      vx_catch X.1.2.2.2.1 pre x suf (X.2.2.2.1.trans htb) (fun z hz => .inr ⟨(hpass z hz).1, (hpass z hz).2.choose, X.1.2.2.2.2 _ (hpass z hz).2.choose_spec.1, (hpass z hz).2.choose_spec.2⟩) hcov hc0 (X.1.2.2.2.2 _ hlk) (hca.use rfl) (by rw [e1]; exact hce) hcv hcl2 (by rw [htg]; exact hV q T'.heap (locs ++ L) ls (by rw [e1]; exact hP') hS' c)
    obtain ⟨t9, s9, q9⟩ := hW T' rfl X'
    exact ⟨t9, go.trans s9, q9⟩
def WSw (own : String) (idx : Nat) (y : MethodName) (b : ByteArray) (nL : Nat) (ret : Option FieldType) (hh : List (Nat × Nat × Nat × Nat)) (np : Nat) : Prop :=
  (Cond.codeWith y b nL ret hh ∈ WS ∧ Cond.initialized y.cls ∈ WS ∧ (y.cls ≠ "java/lang/invoke/MethodHandle" ∧ y.cls ≠ "java/lang/invoke/VarHandle") ∧ (parseMethodDescriptor y.desc).map (fun d => d.parameters.length) = some np ∧ Cond.methodLink own idx y ∈ WS) ∧ Cond.static y ∈ WS
theorem r_callSW (X : Cx M g y cc ret n mc ms tb K KX) {hh : List (Nat × Nat × Nat × Nat)} (d : decode cc pc = .ok (.invokestatic idx, 3)) (w : WSw y.cls idx y' cy' nL' ret' hh np) (hM : Ctw g (mL M) y' cy' nL' ret' hh n' mc' ms' As ad F K') (hn : As.length = np)
    (hst : ST = As.reverse ++ rest) (hcat : (rest.map fun v => v.category).sum ≤ 8) (hlv : n' < n) (hml : nL' ≤ 81) (h1 : kc + mc' ≤ mc) (h2 : ks + ms' ≤ ms)
    (k : ∀ v ad' F', K' v ad' F' → V M g ad' F' (kc + mc') (ks + ms') (pc + 3) LS (v.toList ++ rest)) : V M g ad F kc ks pc LS ST := by
  obtain ⟨⟨w1, w2, w3, w4, w5⟩, w6⟩ := w
  refine V_run As.toArray (fun H locs ls a b c => ?_) k
  refine vx_runSW (hh := hh) (n := np) ⟨X.1.1, X.1.2.1, X.1.2.2.1, X.1.2.2.2.1, X.1.2.2.2.2⟩ hM ⟨⟨rfl, rfl, ?_, ?_, ?_, List.mem_cons_self⟩, X.1.2.2.2.2 _ w1, X.1.2.2.2.2 _ w2, w3, ?_, X.1.2.2.2.2 _ w5, X.1.2.2.2.2 _ w6⟩ ⟨PcK.blind, pc_at X a b⟩ rfl hn c.1 hst (lv_room hcat) d ⟨by rw [X.2.2.2.2.1]; exact h1, by rw [X.2.2.2.2.1]; exact h2⟩
  · rw [X.2.2.2.2.1]; show n' + 1 ≤ n; omega
  · rw [X.2.2.2.2.1]; show 8 + (nL' + 11) + 100 * n' ≤ 100 * n; omega
  · intro w hw a' U hW
    rcases List.mem_cons.mp hw with rfl | hw
    · exact ws_warm X.1.2.2.2.2 w1 a' U hW
    · exact ws_warm X.1.2.2.2.2 hw a' U hW
  · intro sig h; rw [h] at w4; exact (Option.some.inj w4).symm
/-- an int becomes a long, whatever it is -/
theorem r_i2lG (X : Cx M g y cc ret n mc ms tb K KX) {x : Int32} (d : decode cc pc = .ok (.i2l, 1)) (k : V M g ad F kc ks (pc + 1) LS (.long x.toInt64 :: ST)) : V M g ad F kc ks pc LS (.int x :: ST) := fun H locs ls a b c => lv_i2l X.1.1 X.1.2.1 d rfl (k H locs ls a b c)
theorem cau_IA (X : Cx M g y cc ret n mc ms tb K KX) : va_Nw (.castable xIA xIA) (mS M) := X.2.1.2.2.2.2.2.2.2.1.2.2.1.1
theorem cau_IS (X : Cx M g y cc ret n mc ms tb K KX) : va_Nw (.castable xIS xIS) (mS M) := X.2.1.2.2.2.2.2.2.2.1.2.2.1.2.1
theorem cau_IO (X : Cx M g y cc ret n mc ms tb K KX) : va_Nw (.castable xIO xIO) (mS M) := X.2.1.2.2.2.2.2.2.2.1.2.2.1.2.2
theorem cau_AO (X : Cx M g y cc ret n mc ms tb K KX) : va_Nc xIA xIO (mS M) := X.2.1.2.2.2.2.2.2.2.1.2.2.2.1
theorem cau_SO (X : Cx M g y cc ret n mc ms tb K KX) : va_Nc xIS xIO (mS M) := X.2.1.2.2.2.2.2.2.2.1.2.2.2.2.1
theorem cau_SA (X : Cx M g y cc ret n mc ms tb K KX) : va_Nc xIS xIA (mS M) := X.2.1.2.2.2.2.2.2.2.1.2.2.2.2.2
end Rows
/-- what a wrapper answers: 0 and the answer laid into out, or the exception's number -/
def WK (g : Gx) (K' : Option Value → (Nat → Nat) → Pic → Prop) (KX' : String → (Nat → Nat) → Pic → Prop) (cod : List (String × Int)) : Option Value → (Nat → Nat) → Pic → Prop := fun v ad' F' =>
  (v = some (.int (zI 0)) ∧ ∃ (F1 : Pic) (x : Int32) (f : Nat → Int64), K' (some (.int x)) ad' F1 ∧ F' = pu F1 60000 (cJ g 1 (vp_updL f 0 x.toInt64))) ∨ ∃ q ∈ cod, KX' q.1 ad' F' ∧ v = some (.int (zI q.2))
