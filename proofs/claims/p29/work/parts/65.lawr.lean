/-! ===== the law's wrappers: methods with a handler table ===== -/
def Ctw (g : Gx) (l : Launch) (y : MethodName) (cy : ByteArray) (nL : Nat) (ret : Option FieldType) (hh : List (Nat × Nat × Nat × Nat)) (n mc ms : Nat) (as : List Value) (ad : Nat → Nat) (F : Pic) (K : Option Value → (Nat → Nat) → Pic → Prop) : Prop :=
  Met l y (.codeWith y cy nL ret hh :: WS) (rmL n mc ms) (PcK g as ad F) (QcK g K) mc ms (gA g)
theorem Ctw_of {g : Gx} {l : Launch} {y : MethodName} {cy : ByteArray} {nL : Nat} {ret : Option FieldType} {hh : List (Nat × Nat × Nat × Nat)} {n mc ms : Nat} {as : List Value} {ad : Nat → Nat} {F : Pic} {K : Option Value → (Nat → Nat) → Pic → Prop}
    (hl : l.stackTraces = false) (hy : plainName y.cls = true) (LS : List (Option Value)) (hn : (lg_sl as).length ≤ nL) (hLS : ∀ q ∈ las LS, q ∈ lv_args 0 as) (body : ∀ M : Mx, mL M = l → mN M = nL → Cx M g y cy ret n mc ms (tableOf hh) K noX → V M g ad F 0 0 0 LS []) : Ctw g l y cy nL ret hh n mc ms as ad F K := by
  have h0 : vx_Met l y (.codeWith y cy nL ret hh :: WS) (rmL n mc ms) (PcK g as ad F) (QcK g K) (XcK g noX) mc ms (gA g) := by
    refine vx_ofWH (cc := cy) (maxL := nL) (ret := ret) (hh := hh) hy rfl ?_
    intro p e s m args below meth c s₁ B hml hv
    obtain ⟨rfl, hz, hP, hK, hZ⟩ := hv
    have hts := atoms_spec (ws := .codeWith y cy nL ret hh :: WS) B.pre
    have hown : s.vm.findClass y.cls = some m.cls := findClass_of_methodNamed B.named
    have h := body ((p, l, e, (headSpec (.codeWith y cy nL ret hh :: WS) (rmL n mc ms)).room, s), (m, as.toArray, below, meth, c), (nL, vx_MQ below (QcK g K) (XcK g noX) as.toArray s mc ms (gA g))) rfl rfl
      ⟨⟨B.exec, B.bytes, hml, hown, fun w hw => hts w (List.mem_cons_of_mem _ hw)⟩, ⟨B.returns, B.notSynchronized, (name_of_methodNamed B.named B.method).1, hK, hZ⟩, hz, vx_table (x := y) B (hts _ List.mem_cons_self), rfl, rfl, hl⟩
    rw [lg_entry_eq]
    exact h s.heap [] _ hP va_S.rf ⟨(lv_entry as hn).1, (lv_entry as hn).2.1, fun q hq => (lv_entry as hn).2.2 q (hLS q hq)⟩
  unfold Ctw Met
  exact MetFree.mono h0 (fun _ _ q => q) (fun _ _ _ _ _ q => q) (fun a st o t _ q => by
    rcases q with q | ⟨x, -, E, ce, L, ⟨_, _, hf, -⟩, -⟩
    · exact q
    · exact hf.elim)
section Rows
variable {M : Mx} {g : Gx} {y : MethodName} {cc : ByteArray} {ret : Option FieldType} {n mc ms : Nat} {tb : List ExceptionTableEntry} {K : Option Value → (Nat → Nat) → Pic → Prop} {KX : String → (Nat → Nat) → Pic → Prop} {ad : Nat → Nat} {F : Pic} {kc ks pc : Nat} {LS : List (Option Value)} {ST rest : List Value}
variable {y' : MethodName} {cy' : ByteArray} {nL' n' mc' ms' idx np : Nat} {ret' : Option FieldType} {K' : Option Value → (Nat → Nat) → Pic → Prop} {KX' : String → (Nat → Nat) → Pic → Prop} {As : List Value}
/-- what is thrown at pc is caught: the row of the table, and what the rows ahead name -/
def Caught (M : Mx) (y : MethodName) (tb : List ExceptionTableEntry) (pc : Nat) (E : String) (tgt : Nat) : Prop := ∃ (pre : List ExceptionTableEntry) (x : ExceptionTableEntry) (suf : List ExceptionTableEntry), tb = pre ++ x :: suf ∧ (∀ z ∈ pre, z.catchType ≠ 0 ∧ ∃ nm : String, Cond.classLink y.cls z.catchType nm ∈ WS ∧ va_Nc E nm (mS M)) ∧ covers x pc = true ∧ x.catchType ≠ 0 ∧ Cond.classLink y.cls x.catchType E ∈ WS ∧ va_Nw (.castable E E) (mS M) ∧ x.handlerPc = tgt
theorem r_callVXC (X : Cx M g y cc ret n mc ms tb K KX) {r ci : Nat} {q : vw_C} {fs : List Value} (d : decode cc pc = .ok (.invokevirtual idx, 3)) (w : WVt y.cls idx y' cy' nL' ret' np) (hM : CtX g (mL M) y' cy' nL' ret' n' mc' ms' (.ref (ad r) :: As) ad F K' KX') (hrc : F r = some (.inr (ci, fs))) (hq : vwCl[ci]? = some q) (hcl : q.1 = y'.cls) (hn : As.length = np)
    (hst : ST = As.reverse ++ .ref (ad r) :: rest) (hcat : (rest.map fun v => v.category).sum ≤ 8) (hlv : n' < n) (hml : nL' ≤ 23) (h1 : kc + mc' ≤ mc) (h2 : ks + ms' ≤ ms)
    (hx : ∀ E ad' F', KX' E ad' F' → ∃ tgt, Caught M y tb pc E tgt ∧ ∀ q : Nat, V M g ad' F' (kc + mc') (ks + ms') tgt LS [.ref q])
    (k : ∀ v ad' F', K' v ad' F' → V M g ad' F' (kc + mc') (ks + ms') (pc + 3) LS (v.toList ++ rest)) : V M g ad F kc ks pc LS ST := by
  obtain ⟨w1, w2, w3⟩ := w
  intro H locs ls a b c T hT X0
  have hr : vx_Run (mP M) (mL M) (mE M) (mR M) (mS M) (mM M) (mA M) (mB M) (mMe M) (mC M) H locs kc ks mc' ms' (F0 (mM M) pc ls ST) rest (QcK g K' (.ref (ad r) :: As).toArray) (XcK g KX') (gA g) := by
    refine vx_runV ⟨X.1.1, X.1.2.1, X.1.2.2.1, X.1.2.2.2.1, X.1.2.2.2.2⟩ hM ⟨callB_w X.1.2.2.2.2 w1 X.2.2.2.2.1 hlv hml, X.1.2.2.2.2 _ w2, X.1.2.2.2.2 _ w3⟩ ⟨PcK.blind, ?_, pc_at X a b⟩ rfl hn c.1 hst (lv_room hcat) d ⟨by rw [X.2.2.2.2.1]; exact h1, by rw [X.2.2.2.2.1]; exact h2⟩
    rw [← hcl]
    exact va_recv X.2.1.2.2.2.1 (a.one hrc ne_ob) (ci := ci) (q0 := 0) hq rfl
  rcases hr T hT X0 with ⟨v, st0, t, T', L, h0, X', hL, e1, e2, ⟨⟨v', ad', F', hv, hK', hP'⟩, hF⟩, go⟩ | ⟨q, st0, t, T', L, E, ce, h0, X', hL, e1, e2, ⟨ad', F', hKX, hP', hF⟩, hce, hcv, hcl2, go⟩
  · cases hv
    have hS' : va_S (gA g) (mS M).heap T'.heap (locs ++ L) := (vx_keep h0 e1 b (fun _ _ q => q) (fun _ q => q) hL hF).2.2
    obtain ⟨t9, s9, q9⟩ := k v ad' F' hK' T'.heap (locs ++ L) ls (by rw [e1]; exact hP') hS' c T' rfl X'
    exact ⟨t9, go t9 s9, q9⟩
  · have hS' : va_S (gA g) (mS M).heap T'.heap (locs ++ L) := (vx_keep h0 e1 b (fun _ _ q => q) (fun _ q => q) hL hF).2.2
    obtain ⟨tgt, ⟨pre, x, suf, htb, hpass, hcov, hc0, hlk, hca, htg⟩, hV⟩ := hx E ad' F' hKX
    have hW : vx_W (mP M) (mL M) (mE M) (mR M) (mS M) (mM M) (mA M) (mB M) (mMe M) (mC M) T'.heap (locs ++ L) (kc + mc') (ks + ms') (mQ M) (F0 (mM M) pc ls rest) q :=
      vx_catch X.1.2.2.2.1 pre x suf (X.2.2.2.1.trans htb) (fun z hz => .inr ⟨(hpass z hz).1, (hpass z hz).2.choose, X.1.2.2.2.2 _ (hpass z hz).2.choose_spec.1, (hpass z hz).2.choose_spec.2⟩) hcov hc0 (X.1.2.2.2.2 _ hlk) (hca.use rfl) (by rw [e1]; exact hce) hcv hcl2 (by rw [htg]; exact hV q T'.heap (locs ++ L) ls (by rw [e1]; exact hP') hS' c)
    obtain ⟨t9, s9, q9⟩ := hW T' rfl X'
    exact ⟨t9, go.trans s9, q9⟩
def WSw (own : String) (idx : Nat) (y : MethodName) (b : ByteArray) (nL : Nat) (ret : Option FieldType) (hh : List (Nat × Nat × Nat × Nat)) (np : Nat) : Prop :=
  (Cond.codeWith y b nL ret hh ∈ WS ∧ Cond.initialized y.cls ∈ WS ∧ (y.cls ≠ "java/lang/invoke/MethodHandle" ∧ y.cls ≠ "java/lang/invoke/VarHandle") ∧ (parseMethodDescriptor y.desc).map (fun d => d.parameters.length) = some np ∧ Cond.methodLink own idx y ∈ WS) ∧ Cond.static y ∈ WS
theorem r_callSW (X : Cx M g y cc ret n mc ms tb K KX) {hh : List (Nat × Nat × Nat × Nat)} (d : decode cc pc = .ok (.invokestatic idx, 3)) (w : WSw y.cls idx y' cy' nL' ret' hh np) (hM : Ctw g (mL M) y' cy' nL' ret' hh n' mc' ms' As ad F K') (hn : As.length = np)
    (hst : ST = As.reverse ++ rest) (hcat : (rest.map fun v => v.category).sum ≤ 8) (hlv : n' < n) (hml : nL' ≤ 23) (h1 : kc + mc' ≤ mc) (h2 : ks + ms' ≤ ms)
    (k : ∀ v ad' F', K' v ad' F' → V M g ad' F' (kc + mc') (ks + ms') (pc + 3) LS (v.toList ++ rest)) : V M g ad F kc ks pc LS ST := by
  obtain ⟨⟨w1, w2, w3, w4, w5⟩, w6⟩ := w
  refine V_run As.toArray (fun H locs ls a b c => ?_) k
  refine vx_runSW (hh := hh) (n := np) ⟨X.1.1, X.1.2.1, X.1.2.2.1, X.1.2.2.2.1, X.1.2.2.2.2⟩ hM ⟨⟨rfl, rfl, ?_, ?_, ?_, List.mem_cons_self⟩, X.1.2.2.2.2 _ w1, X.1.2.2.2.2 _ w2, w3, ?_, X.1.2.2.2.2 _ w5, X.1.2.2.2.2 _ w6⟩ ⟨PcK.blind, pc_at X a b⟩ rfl hn c.1 hst (lv_room hcat) d ⟨by rw [X.2.2.2.2.1]; exact h1, by rw [X.2.2.2.2.1]; exact h2⟩
  · rw [X.2.2.2.2.1]; show n' + 1 ≤ n; omega
  · rw [X.2.2.2.2.1]; show 8 + (nL' + 11) + 42 * n' ≤ 42 * n; omega
  · intro w hw a' U hW
    rcases List.mem_cons.mp hw with rfl | hw
    · exact ws_warm X.1.2.2.2.2 w1 a' U hW
    · exact ws_warm X.1.2.2.2.2 hw a' U hW
  · intro sig h; rw [h] at w4; exact (Option.some.inj w4).symm
/-- an int becomes a long, whatever it is -/
theorem r_i2lG (X : Cx M g y cc ret n mc ms tb K KX) {x : Int32} (d : decode cc pc = .ok (.i2l, 1)) (k : V M g ad F kc ks (pc + 1) LS (.long x.toInt64 :: ST)) : V M g ad F kc ks pc LS (.int x :: ST) := fun H locs ls a b c => lv_i2l X.1.1 X.1.2.1 d rfl (k H locs ls a b c)
theorem cau_IA (X : Cx M g y cc ret n mc ms tb K KX) : va_Nw (.castable xIA xIA) (mS M) := X.2.1.2.2.2.2.2.2.2.1.2.2.1.1
theorem cau_IS (X : Cx M g y cc ret n mc ms tb K KX) : va_Nw (.castable xIS xIS) (mS M) := X.2.1.2.2.2.2.2.2.2.1.2.2.1.2.1
theorem cau_IO (X : Cx M g y cc ret n mc ms tb K KX) : va_Nw (.castable xIO xIO) (mS M) := X.2.1.2.2.2.2.2.2.2.1.2.2.1.2.2
end Rows
section LawRows
variable {M : Mx} {g : Gx} {y : MethodName} {cc : ByteArray} {ret : Option FieldType} {n mc ms : Nat} {tb : List ExceptionTableEntry} {K : Option Value → (Nat → Nat) → Pic → Prop} {KX : String → (Nat → Nat) → Pic → Prop} {ad : Nat → Nat} {F : Pic} {kc ks pc : Nat} {LS : List (Option Value)} {ST rest : List Value}
theorem r_scr (X : Cx M g y cc ret n mc ms tb K KX) : ∃ xs, va_X (gn g 97) (gn g 96) xs (mS M) (mS M).heap ∧ gn g 97 < gz g := X.2.1.2.2.2.2.2.2.2.1.2.2.2.2.2
theorem r_sld (X : Cx M g y cc ret n mc ms tb K KX) {b L : Nat} {xs : Nat → Int32} (hX : va_X b L xs (mS M) (mS M).heap) (hbl : b < (mS M).heap.size) (hbA : ¬ gA g b) (hL : L ≤ 2560) {z : Int} (i : Nat) (d : decode cc pc = .ok (.iaload, 1)) (hz : z = (i : Int)) (hi : i < L) (k : V M g ad F kc ks (pc + 1) LS (.int (xs i) :: ST)) : V M g ad F kc ks pc LS (.int (zI z) :: .ref b :: ST) := fun H locs ls a h c => by
  subst hz
  refine va_sld X.1.1 X.1.2.1 hX hbl hbA h (zI_in hi (by omega)) d ?_
  rw [zI_cl (by omega)]
  exact k H locs ls a h c
theorem r_slen (X : Cx M g y cc ret n mc ms tb K KX) {b L : Nat} {xs : Nat → Int32} (hX : va_X b L xs (mS M) (mS M).heap) (hbl : b < (mS M).heap.size) (hbA : ¬ gA g b) (d : decode cc pc = .ok (.arraylength, 1)) (k : V M g ad F kc ks (pc + 1) LS (.int (zI (L : Int)) :: ST)) : V M g ad F kc ks pc LS (.ref b :: ST) := fun H locs ls a h c =>
  va_slen X.1.1 X.1.2.1 hX hbl hbA h d (by have e : Int32.ofNat L = zI (L : Int) := (zI_nI L).symm; rw [e]; exact k H locs ls a h c)
theorem r_irem (X : Cx M g y cc ret n mc ms tb K KX) {x z v : Int32} (hne : ¬ z = 0) (hv : x - x / z * z = v) (d : decode cc pc = .ok (.irem, 1)) (k : V M g ad F kc ks (pc + 1) LS (.int v :: ST)) : V M g ad F kc ks pc LS (.int z :: .int x :: ST) := fun H locs ls a b c => lv_irem X.1.1 X.1.2.1 d hne (by rw [hv]; exact (k H locs ls a b c))
end LawRows
theorem i32_nat (x : Int32) : ∃ a : Nat, x = nI a := ⟨x.toBitVec.toNat, by
  apply Int32.toBitVec_inj.1
  show x.toBitVec = BitVec.ofNat 32 x.toBitVec.toNat
  simp⟩
theorem and_m (x : Int32) : ∃ v : Int, (0 ≤ v ∧ v ≤ 2147483647) ∧ x &&& zI 2147483647 = zI v := by
  obtain ⟨a, rfl⟩ := i32_nat x
  have h := Nat.and_le_right (n := a) (m := 2147483647)
  refine ⟨((a &&& 2147483647 : Nat) : Int), ⟨by omega, by omega⟩, ?_⟩
  rw [show zI 2147483647 = nI 2147483647 from zI_nI 2147483647, zI_nI, fa_and]
theorem zI_rem {a b : Int} (ha : 0 ≤ a ∧ a < 2147483648) (hb : 0 < b ∧ b < 2147483648) : zI a - zI a / zI b * zI b = zI (((a % b).toNat : Nat) : Int) := by
  have h0 := Int.emod_nonneg a (show b ≠ 0 by omega)
  rw [zI_div ha hb, zI_mul, zI_sub]
  congr 1
  rw [Int.toNat_of_nonneg h0, Int.emod_def, Int.mul_comm]
theorem S3.fl {A : Nat → Nat → Int} {kf : Nat → Nat} {nk nf nc : Nat} {pn dr : Nat → Int} {W : Nat → Nat → Int} (h : S3 A kf nk nf nc pn dr W) (b : B3 A nk nf nc pn dr) : FL A kf nk nf nc pn :=
  ⟨W, fun p c hp hc => (h.1 p c hp hc).1, fun p c hp hc z => Classical.byContradiction (fun w => by have := (h.1 p c hp hc).2.1 w; omega), fun p hp => by rw [h.2.2.2 p hp]; exact b.2 p hp, fun c hc => ⟨b.1 c hc, (h.2.2.1 c hc).symm⟩⟩
/-! ===== the law's small methods ===== -/
set_option maxRecDepth 100000 in
set_option maxHeartbeats 4000000 in
theorem c_low (g : Gx) (l : Launch) (hl : l.stackTraces = false) (ad : Nat → Nat) (F : Pic) (x : Int32) (b : Nat) (hb : 0 < b ∧ b ≤ 100000) : Ct g l yL_low cL_low 2 (some .int) 1 0 0 [.int x, .int (zI (b : Int))] ad F (fun v ad' F' => (∃ z : Nat, z < b ∧ v = some (.int (zI (z : Int)))) ∧ ad = ad' ∧ F = F') := by
  refine Ct_of hl rfl [some (.int x), some (.int (zI (b : Int)))] (Nat.le_of_ble_eq_true rfl) (fun _ h => h) ?_
  intro M hL hN X
  subst hL
  obtain ⟨a, ha, hx⟩ := and_m x
  have h0 := Int.emod_nonneg a (show (b : Int) ≠ 0 by omega)
  have h1 := Int.emod_lt_of_pos a (show 0 < (b : Int) by omega)
  refine r_iload_n X dL_low_0 (by rfl) ?_
  refine r_ldc X dL_low_1 w679 (2147483647) rfl ?_
  refine r_iand X (hv := hx) dL_low_3 ?_
  refine r_iload_n X dL_low_4 (by rfl) ?_
  refine r_irem X (zI_ne0 (by omega)) (zI_rem (by omega) (by omega)) dL_low_5 ?_
  exact r_iret X rfl (rfl) dL_low_6 (⟨⟨_, by omega, rfl⟩, rfl, rfl⟩) (by omega) (by omega)
set_option maxRecDepth 100000 in
set_option maxHeartbeats 4000000 in
theorem c_cell (g : Gx) (l : Launch) (hl : l.stackTraces = false) (ad : Nat → Nat) (F : Pic) (hL : gn g 96 ≤ 260) (k : Nat) (hk : k < 100) : Ct g l yL_cell cL_cell 2 (some .int) 1 0 0 [.ref (gn g 97), .int (zI (k : Int))] ad F (fun v ad' F' => (∃ x, v = some (.int x)) ∧ ad = ad' ∧ F = F') := by
  refine Ct_of hl rfl [some (.ref (gn g 97)), some (.int (zI (k : Int)))] (Nat.le_of_ble_eq_true rfl) (fun _ h => h) ?_
  intro M hL hN X
  subst hL
  obtain ⟨xs, hSX, hSg⟩ := r_scr X
  have hSb : gn g 97 < (mS M).heap.size := (Array.getElem?_eq_some_iff.mp hSX.choose_spec.1).1
  have hSA : ¬ gA g (gn g 97) := by unfold gA; omega
  refine r_iload_n X dL_cell_0 (by rfl) ?_
  refine r_aload_n X dL_cell_1 (by rfl) ?_
  refine r_slen X hSX hSb hSA dL_cell_2 ?_
  refine r_icmp_ge X 12 dL_cell_3 (by decide) (by unfold inR; omega) (by unfold inR; omega) (fun a => ?_) (fun a => ?_)
  · refine r_ldc X dL_cell_12 w683 (40503) rfl ?_
    refine r_iload_n X dL_cell_14 (by rfl) ?_
    refine r_imul X dL_cell_15 ?_
    refine r_sipush X dL_cell_16 (by decide) ?_
    refine r_iadd X dL_cell_19 ?_
    exact r_iret X rfl (rfl) dL_cell_20 (⟨⟨_, rfl⟩, rfl, rfl⟩) (by omega) (by omega)
  · refine r_aload_n X dL_cell_6 (by rfl) ?_
    refine r_iload_n X dL_cell_7 (by rfl) ?_
    refine r_sld X hSX hSb hSA (by omega) k dL_cell_8 rfl (by omega) ?_
    refine r_goto X dL_cell_9 20 (by decide) ?_
    exact r_iret X rfl (rfl) dL_cell_20 (⟨⟨_, rfl⟩, rfl, rfl⟩) (by omega) (by omega)
set_option maxRecDepth 100000 in
theorem cw_commit : Cond.codeWith yL_commit cL_commit 6 (some .int) [(0, 9, 10, 15)] ∈ WS := ww 686 rfl rfl
set_option maxRecDepth 100000 in
theorem sw_commit : WSw RL 101 yL_commit cL_commit 6 (some .int) [(0, 9, 10, 15)] 5 := ⟨⟨cw_commit, w0, ⟨by decide, by decide⟩, by decide +kernel, ww 684 rfl rfl⟩, ww 685 rfl rfl⟩
set_option maxRecDepth 100000 in
set_option maxHeartbeats 4000000 in
theorem c_wCommit (g : Gx) (l : Launch) (hl : l.stackTraces = false) (ad : Nat → Nat) (F : Pic) (td : Int) (nf nk nc : Nat) (A P : Nat → Nat → Int) (kf : Nat → Nat) (sn : Nat) (hX : RXs g ad F td nf nk nc A P kf sn) (t : Nat) (hI : IV td nf nk nc A kf t) (hsn6 : sn < 600) (i : Nat) (c m u : Int) (hi : i < nf) (hr : raK td c m u) : Ctw g l yL_commit cL_commit 6 (some .int) [(0, 9, 10, 15)] 9 20 400 [.ref (ad 100), .int (zI (i : Int)), .int (zI c), .int (zI m), .int (zI u)] ad F (fun v ad' F' => AdX ad ad' ∧ FrX F F' ∧ ((v = some (.int (zI (-3))) ∧ RXs g ad' F' td nf nk nc A P kf sn) ∨ (stK A nk i c m ∧ v = some (.int (zI ((nk : Int) + 1))) ∧ RXs g ad' F' td nf (nk + 1) nc (fCom A i nk c m u) P (un kf nk i) (sn + 1)))) := by
  refine Ctw_of hl rfl [some (.ref (ad 100)), some (.int (zI (i : Int))), some (.int (zI c)), some (.int (zI m)), some (.int (zI u)), none] (Nat.le_of_ble_eq_true rfl) (fun _ h => h) ?_
  intro M hL hN X
  subst hL
  have hb := hI.1
  obtain ⟨r1, r2, r3⟩ := id hr
  refine r_aload_n X dL_commit_0 (by rfl) ?_
  refine r_iload_n X dL_commit_1 (by rfl) ?_
  refine r_iload_n X dL_commit_2 (by rfl) ?_
  refine r_iload_n X dL_commit_3 (by rfl) ?_
  refine r_iload X dL_commit_4 (by rfl) ?_
  refine r_callVXC X dL_commit_6 kL_9 (c_commit g _ hl ad F _ _ _ _ _ _ _ _ hX t hI hsn6 (i : Int) c m u ⟨by omega, by omega⟩ ⟨by omega, by omega⟩ ⟨by omega, by omega⟩ ⟨by omega, by omega⟩) hX.choose_spec.1.1 rfl rfl (by rfl) (by rfl) (by exact Nat.le_of_ble_eq_true rfl) (by omega) (by decide) (by omega) (by omega) (fun E ad' F' hK => ?_) (fun v ad' F' hK => ?_)
  · obtain ⟨hE, rfl, rfl⟩ := hK
    rcases hE with z | z | z
    · exact absurd (show 0 ≤ (i : Int) ∧ (i : Int) < nf from ⟨by omega, by omega⟩) z.2
    · exact absurd hr z.2.2
    · obtain ⟨rfl, -⟩ := z
      refine ⟨10, ⟨[], ⟨0, 9, 10, 15⟩, _, rfl, (fun z hz => by cases hz), rfl, by decide, ww 687 rfl rfl, cau_IS X, rfl⟩, fun q => ?_⟩
      refine r_astore X dL_commit_10 (by rw [hN]; decide) (by rfl) ?_
      dsimp only [List.set]
      refine r_bipush X dL_commit_12 (by decide) ?_
      exact r_iret X rfl (rfl) dL_commit_14 (⟨AdX.rf, FrX.rf, .inl ⟨rfl, hX⟩⟩) (by omega) (by omega)
  · obtain ⟨⟨-, -, hst⟩, rfl, hA, hF, hX'⟩ := hK
    exact r_iret X rfl (rfl) dL_commit_9 (⟨hA, hF, .inr ⟨hst, rfl, hX'⟩⟩) (by omega) (by omega)
/-! ===== the state of the law ===== -/
def KA (g : Gx) (F : Pic) (Kp : Nat → Int) : Prop := F 70000 = some (cI g 32 (fun j => zI (Kp j)))
def SL (g : Gx) (ad : Nat → Nat) (F : Pic) (a1 a2 : Nat) (td : Int) (nf nk nc : Nat) (A P : Nat → Nat → Int) (kf : Nat → Nat) (sn : Nat) (Kp : Nat → Int) : Prop := (ad 100 = a1 ∧ ad 70000 = a2) ∧ RXs g ad F td nf nk nc A P kf sn ∧ KA g F Kp
theorem SL.fr {g : Gx} {ad ad' : Nat → Nat} {F F' : Pic} {a1 a2 : Nat} {td td' : Int} {nf nk nc nf' nk' nc' : Nat} {A P A' P' : Nat → Nat → Int} {kf kf' : Nat → Nat} {sn sn' : Nat} {Kp : Nat → Int} (h : SL g ad F a1 a2 td nf nk nc A P kf sn Kp) (hA : AdX ad ad') (hF : FrX F F') (hX : RXs g ad' F' td' nf' nk' nc' A' P' kf' sn') : SL g ad' F' a1 a2 td' nf' nk' nc' A' P' kf' sn' Kp :=
  ⟨⟨(hA 100 (by omega)).trans h.1.1, (hA 70000 (by omega)).trans h.1.2⟩, hX, (hF 70000 (by omega)).trans h.2.2⟩
section Kept
variable {M : Mx} {g : Gx} {y : MethodName} {cc : ByteArray} {ret : Option FieldType} {n mc ms : Nat} {tb : List ExceptionTableEntry} {K : Option Value → (Nat → Nat) → Pic → Prop} {KX : String → (Nat → Nat) → Pic → Prop} {ad : Nat → Nat} {F : Pic} {kc ks pc : Nat} {LS : List (Option Value)} {ST : List Value}
variable {a1 a2 : Nat} {td : Int} {nf nk nc : Nat} {A P : Nat → Nat → Int} {kf : Nat → Nat} {sn : Nat} {Kp : Nat → Int}
theorem l_kld (X : Cx M g y cc ret n mc ms tb K KX) (hS : SL g ad F a1 a2 td nf nk nc A P kf sn Kp) (i : Nat) {z : Int} (d : decode cc pc = .ok (.iaload, 1)) (hz : z = (i : Int)) (hi : i < 32) (k : V M g ad F kc ks (pc + 1) LS (.int (zI (Kp i)) :: ST)) : V M g ad F kc ks pc LS (.int (zI z) :: .ref a2 :: ST) := by
  obtain ⟨⟨rfl, rfl⟩, hX, hKA⟩ := hS
  exact r_iald X i d hKA hz hi (by decide) k
theorem RX.frM {F' : Pic} {ser : Nat → Nat} (hX : RX g ad F td nf nk nc A P kf ser sn) (hF : ∀ x, x < 40000 → F' x = F x) : RX g ad F' td nf nk nc A P kf ser sn := by
  obtain ⟨h1, ⟨h2, h3, h4, kp, ep, h5⟩, h6, h7, h8, h9⟩ := hX
  refine ⟨h1.fr (hF _ (by omega)) (hF _ (by omega)) (fun _ _ => rfl), ⟨h2.fr (by omega) (fun x hx => hF x ?_) (fun _ _ => rfl) (fun _ _ => rfl), h3.fr (by omega) (fun x hx => hF x ?_) (fun _ _ => rfl) (fun _ _ => rfl), h4.fr (by omega) (fun x hx => hF x ?_) (fun _ _ => rfl) (fun _ _ => rfl), kp, ep, h5.fr (by omega) (fun x hx => hF x ?_) (fun _ _ => rfl) (fun _ _ => rfl)⟩, h6.fr (fun x a b => hF x (by omega)) (fun _ _ _ => rfl), h7.fr (fun x a b => hF x (by omega)), h8.fr (fun x a b => hF x (by omega)) (fun _ _ => rfl), h9.fr (fun x a b => hF x (by omega)) (fun _ _ => rfl)⟩
  all_goals (unfold inA at hx; omega)
theorem l_kst (X : Cx M g y cc ret n mc ms tb K KX) (hS : SL g ad F a1 a2 td nf nk nc A P kf sn Kp) (i : Nat) {z v : Int} (d : decode cc pc = .ok (.iastore, 1)) (hz : z = (i : Int)) (hi : i < 32) (k : ∀ F', SL g ad F' a1 a2 td nf nk nc A P kf sn (ui Kp i v) → V M g ad F' kc ks (pc + 1) LS ST) : V M g ad F kc ks pc LS (.int (zI v) :: .int (zI z) :: .ref a2 :: ST) := by
  obtain ⟨⟨rfl, rfl⟩, ⟨ser, hX⟩, hKA⟩ := hS
  refine r_ist X i d hKA (by omega) hz hi (by decide) (k _ ⟨⟨rfl, rfl⟩, ⟨ser, hX.frM (fun x hx => pu_n (by omega))⟩, ?_⟩)
  unfold KA
  rw [pu_s, upd_ui]
end Kept
theorem FC1.none {td : Int} {A : Nat → Nat → Int} {kf : Nat → Nat} {nk nf nc t : Nat} (hI : IV td nf nk nc A kf t) (h : FC1 A kf nk nf nc) (h0 : nf = 0) : sm nc (pnC A kf nk nf nc) = 0 := by
  have hk : nk = 0 := by
    rcases Nat.eq_zero_or_pos nk with z | z
    · exact z
    · have := (hI.2.2.1 0 z).1; omega
  subst h0 hk
  obtain ⟨-, W, -, -, -, w4⟩ := h
  exact sm_zero (fun c hc => (w4 c hc).2)
section Law2
variable {M : Mx} {g : Gx} {y : MethodName} {cc : ByteArray} {ret : Option FieldType} {n mc ms : Nat} {K : Option Value → (Nat → Nat) → Pic → Prop} {KX : String → (Nat → Nat) → Pic → Prop} {ad : Nat → Nat} {F : Pic} {kc ks pc : Nat} {LS : List (Option Value)} {ST : List Value}
variable {a1 a2 : Nat} {td : Int} {nf nk nc : Nat} {A P : Nat → Nat → Int} {kf : Nat → Nat} {sn t : Nat} {Kp : Nat → Int}
theorem l_low (X : Cx M g y cc ret n mc ms [] K KX) (hy : y.cls = RL) (hn : 10 < n) (b : Nat) (d : decode cc pc = .ok (.invokestatic 91, 3)) {x : Int32} {z : Int} (hz : z = (b : Int)) (hb : 0 < b ∧ b ≤ 100000) (hcat : (ST.map fun v => v.category).sum ≤ 8) (h1 : kc ≤ mc) (h2 : ks ≤ ms) (k : ∀ w : Nat, w < b → V M g ad F kc ks (pc + 3) LS (.int (zI (w : Int)) :: ST)) : V M g ad F kc ks pc LS (.int (zI z) :: .int x :: ST) := by
  subst hz
  refine r_callS (rest := ST) (As := [.int x, .int (zI (b : Int))]) X d (by rw [hy]; exact kL_91) (c_low g _ X.2.2.2.2.2.2 ad F x b hb) rfl rfl hcat (by omega) (by decide) (by omega) (by omega) (fun v ad' F' hK => ?_)
  obtain ⟨⟨w, hw, rfl⟩, rfl, rfl⟩ := hK
  exact k w hw
theorem l_cell (X : Cx M g y cc ret n mc ms [] K KX) (hy : y.cls = RL) (hn : 10 < n) (hL : gn g 96 ≤ 260) (i : Nat) (d : decode cc pc = .ok (.invokestatic 87, 3)) {z : Int} (hz : z = (i : Int)) (hi : i < 100) (hcat : (ST.map fun v => v.category).sum ≤ 8) (h1 : kc ≤ mc) (h2 : ks ≤ ms) (k : ∀ x : Int32, V M g ad F kc ks (pc + 3) LS (.int x :: ST)) : V M g ad F kc ks pc LS (.int (zI z) :: .ref (gn g 97) :: ST) := by
  subst hz
  refine r_callS (rest := ST) (As := [.ref (gn g 97), .int (zI (i : Int))]) X d (by rw [hy]; exact kL_87) (c_cell g _ X.2.2.2.2.2.2 ad F hL i hi) rfl rfl hcat (by omega) (by decide) (by omega) (by omega) (fun v ad' F' hK => ?_)
  obtain ⟨⟨x, rfl⟩, rfl, rfl⟩ := hK
  exact k x
theorem l_commit (X : Cx M g y cc ret n mc ms [] K KX) (hy : y.cls = RL) (hn : 10 < n) (hS : SL g ad F a1 a2 td nf nk nc A P kf sn Kp) (hI : IV td nf nk nc A kf t) (hsn : sn < 600) (d : decode cc pc = .ok (.invokestatic 101, 3)) {i : Nat} {c m u : Int} (hi : i < nf) (hr : raK td c m u) (hcat : (ST.map fun v => v.category).sum ≤ 8) (h1 : kc + 20 ≤ mc) (h2 : ks + 400 ≤ ms)
    (k0 : ∀ ad' F', SL g ad' F' a1 a2 td nf nk nc A P kf sn Kp → V M g ad' F' (kc + 20) (ks + 400) (pc + 3) LS (.int (zI (-3)) :: ST))
    (k1 : ∀ ad' F', stK A nk i c m → SL g ad' F' a1 a2 td nf (nk + 1) nc (fCom A i nk c m u) P (un kf nk i) (sn + 1) Kp → V M g ad' F' (kc + 20) (ks + 400) (pc + 3) LS (.int (zI ((nk : Int) + 1)) :: ST)) : V M g ad F kc ks pc LS (.int (zI u) :: .int (zI m) :: .int (zI c) :: .int (zI (i : Int)) :: .ref a1 :: ST) := by
  obtain ⟨⟨rfl, rfl⟩, hX, hKA⟩ := id hS
  refine r_callSW (rest := ST) (As := [.ref (ad 100), .int (zI (i : Int)), .int (zI c), .int (zI m), .int (zI u)]) X d (by rw [hy]; exact sw_commit) (c_wCommit g _ X.2.2.2.2.2.2 ad F _ _ _ _ _ _ _ _ hX t hI hsn i c m u hi hr) rfl rfl hcat (by omega) (by decide) h1 h2 (fun v ad' F' hK => ?_)
  obtain ⟨hA, hF, ⟨rfl, hX'⟩ | ⟨hst, rfl, hX'⟩⟩ := hK
  · exact k0 ad' F' (hS.fr hA hF hX')
  · exact k1 ad' F' hst (hS.fr hA hF hX')
end Law2
section Calls
variable {M : Mx} {g : Gx} {y : MethodName} {cc : ByteArray} {ret : Option FieldType} {n mc ms : Nat} {K : Option Value → (Nat → Nat) → Pic → Prop} {KX : String → (Nat → Nat) → Pic → Prop} {ad : Nat → Nat} {F : Pic} {kc ks pc : Nat} {LS : List (Option Value)} {ST : List Value}
variable {a1 a2 : Nat} {td : Int} {nf nk nc : Nat} {A P : Nat → Nat → Int} {kf : Nat → Nat} {sn t : Nat} {Kp : Nat → Int}
theorem l_today (X : Cx M g y cc ret n mc ms [] K KX) (hy : y.cls = RL) (hn : 10 < n) (hS : SL g ad F a1 a2 td nf nk nc A P kf sn Kp) (hI : IV td nf nk nc A kf t) (d : decode cc pc = .ok (.invokevirtual 46, 3)) (hcat : (ST.map fun v => v.category).sum ≤ 8) (h1 : kc ≤ mc) (h2 : ks ≤ ms) (k : V M g ad F kc ks (pc + 3) LS (.int (zI td) :: ST)) : V M g ad F kc ks pc LS (.ref a1 :: ST) := by
  obtain ⟨⟨rfl, rfl⟩, hX, hKA⟩ := id hS
  have hb := hI.1
  refine r_callV (rest := ST) (As := []) X d (by rw [hy]; exact kL_46) (c_today g _ X.2.2.2.2.2.2 ad F _ _ _ _ _ _ _ _ hX) hX.choose_spec.1.1 rfl rfl rfl rfl hcat (by omega) (by decide) (by omega) (by omega) (fun v ad' F' hK => ?_)
  obtain ⟨rfl, rfl, rfl⟩ := hK
  exact k
theorem l_funds (X : Cx M g y cc ret n mc ms [] K KX) (hy : y.cls = RL) (hn : 10 < n) (hS : SL g ad F a1 a2 td nf nk nc A P kf sn Kp) (hI : IV td nf nk nc A kf t) (d : decode cc pc = .ok (.invokevirtual 21, 3)) (hcat : (ST.map fun v => v.category).sum ≤ 8) (h1 : kc ≤ mc) (h2 : ks ≤ ms) (k : V M g ad F kc ks (pc + 3) LS (.int (zI (nf : Int)) :: ST)) : V M g ad F kc ks pc LS (.ref a1 :: ST) := by
  obtain ⟨⟨rfl, rfl⟩, hX, hKA⟩ := id hS
  have hb := hI.1
  refine r_callV (rest := ST) (As := []) X d (by rw [hy]; exact kL_21) (c_nFunds g _ X.2.2.2.2.2.2 ad F _ _ _ _ _ _ _ _ hX) hX.choose_spec.1.1 rfl rfl rfl rfl hcat (by omega) (by decide) (by omega) (by omega) (fun v ad' F' hK => ?_)
  obtain ⟨rfl, rfl, rfl⟩ := hK
  exact k
theorem l_commitments (X : Cx M g y cc ret n mc ms [] K KX) (hy : y.cls = RL) (hn : 10 < n) (hS : SL g ad F a1 a2 td nf nk nc A P kf sn Kp) (hI : IV td nf nk nc A kf t) (d : decode cc pc = .ok (.invokevirtual 17, 3)) (hcat : (ST.map fun v => v.category).sum ≤ 8) (h1 : kc ≤ mc) (h2 : ks ≤ ms) (k : V M g ad F kc ks (pc + 3) LS (.int (zI (nk : Int)) :: ST)) : V M g ad F kc ks pc LS (.ref a1 :: ST) := by
  obtain ⟨⟨rfl, rfl⟩, hX, hKA⟩ := id hS
  have hb := hI.1
  refine r_callV (rest := ST) (As := []) X d (by rw [hy]; exact kL_17) (c_nComs g _ X.2.2.2.2.2.2 ad F _ _ _ _ _ _ _ _ hX) hX.choose_spec.1.1 rfl rfl rfl rfl hcat (by omega) (by decide) (by omega) (by omega) (fun v ad' F' hK => ?_)
  obtain ⟨rfl, rfl, rfl⟩ := hK
  exact k
theorem l_costs (X : Cx M g y cc ret n mc ms [] K KX) (hy : y.cls = RL) (hn : 10 < n) (hS : SL g ad F a1 a2 td nf nk nc A P kf sn Kp) (hI : IV td nf nk nc A kf t) (d : decode cc pc = .ok (.invokevirtual 52, 3)) (hcat : (ST.map fun v => v.category).sum ≤ 8) (h1 : kc ≤ mc) (h2 : ks ≤ ms) (k : V M g ad F kc ks (pc + 3) LS (.int (zI (nc : Int)) :: ST)) : V M g ad F kc ks pc LS (.ref a1 :: ST) := by
  obtain ⟨⟨rfl, rfl⟩, hX, hKA⟩ := id hS
  have hb := hI.1
  refine r_callV (rest := ST) (As := []) X d (by rw [hy]; exact kL_52) (c_nCosts g _ X.2.2.2.2.2.2 ad F _ _ _ _ _ _ _ _ hX) hX.choose_spec.1.1 rfl rfl rfl rfl hcat (by omega) (by decide) (by omega) (by omega) (fun v ad' F' hK => ?_)
  obtain ⟨rfl, rfl, rfl⟩ := hK
  exact k
theorem l_freeOf (X : Cx M g y cc ret n mc ms [] K KX) (hy : y.cls = RL) (hn : 10 < n) (hS : SL g ad F a1 a2 td nf nk nc A P kf sn Kp) (hI : IV td nf nk nc A kf t) (d : decode cc pc = .ok (.invokevirtual 28, 3)) {i : Nat} (hi : i < nf) (hcat : (ST.map fun v => v.category).sum ≤ 8) (h1 : kc + 1 ≤ mc) (h2 : ks + 6 ≤ ms) (k : V M g ad F (kc + 1) (ks + 6) (pc + 3) LS (.int (zI (A 0 i)) :: ST)) : V M g ad F kc ks pc LS (.int (zI (i : Int)) :: .ref a1 :: ST) := by
  obtain ⟨⟨rfl, rfl⟩, hX, hKA⟩ := id hS
  have hb := hI.1
  refine r_callVX (rest := ST) (As := [.int (zI (i : Int))]) X d (by rw [hy]; exact kL_28) (c_freeOf g _ X.2.2.2.2.2.2 ad F _ _ _ _ _ _ _ _ hX (i : Int) ⟨by omega, by omega⟩) hX.choose_spec.1.1 rfl rfl rfl rfl hcat (by omega) (by decide) h1 h2 (fun E ad' F' h => absurd (show 0 ≤ (i : Int) ∧ (i : Int) < nf from ⟨by omega, by omega⟩) h.1.2) (fun v ad' F' hK => ?_)
  obtain ⟨-, rfl, rfl, rfl⟩ := hK
  exact k
theorem l_committedOf (X : Cx M g y cc ret n mc ms [] K KX) (hy : y.cls = RL) (hn : 10 < n) (hS : SL g ad F a1 a2 td nf nk nc A P kf sn Kp) (hI : IV td nf nk nc A kf t) (d : decode cc pc = .ok (.invokevirtual 31, 3)) {i : Nat} (hi : i < nf) (hcat : (ST.map fun v => v.category).sum ≤ 8) (h1 : kc + 1 ≤ mc) (h2 : ks + 6 ≤ ms) (k : V M g ad F (kc + 1) (ks + 6) (pc + 3) LS (.int (zI (comZ A kf i nk)) :: ST)) : V M g ad F kc ks pc LS (.int (zI (i : Int)) :: .ref a1 :: ST) := by
  obtain ⟨⟨rfl, rfl⟩, hX, hKA⟩ := id hS
  have hb := hI.1
  refine r_callVX (rest := ST) (As := [.int (zI (i : Int))]) X d (by rw [hy]; exact kL_31) (c_committedOf g _ X.2.2.2.2.2.2 ad F _ _ _ _ _ _ _ _ hX t hI (i : Int) ⟨by omega, by omega⟩) hX.choose_spec.1.1 rfl rfl rfl rfl hcat (by omega) (by decide) h1 h2 (fun E ad' F' h => absurd (show 0 ≤ (i : Int) ∧ (i : Int) < nf from ⟨by omega, by omega⟩) h.1.2) (fun v ad' F' hK => ?_)
  obtain ⟨-, rfl, rfl, rfl⟩ := hK
  exact k
theorem l_directOf (X : Cx M g y cc ret n mc ms [] K KX) (hy : y.cls = RL) (hn : 10 < n) (hS : SL g ad F a1 a2 td nf nk nc A P kf sn Kp) (hI : IV td nf nk nc A kf t) (d : decode cc pc = .ok (.invokevirtual 24, 3)) {i : Nat} (hi : i < nf) (hcat : (ST.map fun v => v.category).sum ≤ 8) (h1 : kc + 1 ≤ mc) (h2 : ks + 6 ≤ ms) (k : V M g ad F (kc + 1) (ks + 6) (pc + 3) LS (.int (zI (A 4 i)) :: ST)) : V M g ad F kc ks pc LS (.int (zI (i : Int)) :: .ref a1 :: ST) := by
  obtain ⟨⟨rfl, rfl⟩, hX, hKA⟩ := id hS
  have hb := hI.1
  refine r_callVX (rest := ST) (As := [.int (zI (i : Int))]) X d (by rw [hy]; exact kL_24) (c_directOf g _ X.2.2.2.2.2.2 ad F _ _ _ _ _ _ _ _ hX (i : Int) ⟨by omega, by omega⟩) hX.choose_spec.1.1 rfl rfl rfl rfl hcat (by omega) (by decide) h1 h2 (fun E ad' F' h => absurd (show 0 ≤ (i : Int) ∧ (i : Int) < nf from ⟨by omega, by omega⟩) h.1.2) (fun v ad' F' hK => ?_)
  obtain ⟨-, rfl, rfl, rfl⟩ := hK
  exact k
theorem l_overheadOf (X : Cx M g y cc ret n mc ms [] K KX) (hy : y.cls = RL) (hn : 10 < n) (hS : SL g ad F a1 a2 td nf nk nc A P kf sn Kp) (hI : IV td nf nk nc A kf t) (d : decode cc pc = .ok (.invokevirtual 34, 3)) {i : Nat} (hi : i < nf) (hcat : (ST.map fun v => v.category).sum ≤ 8) (h1 : kc + 1 ≤ mc) (h2 : ks + 6 ≤ ms) (k : V M g ad F (kc + 1) (ks + 6) (pc + 3) LS (.int (zI (A 5 i)) :: ST)) : V M g ad F kc ks pc LS (.int (zI (i : Int)) :: .ref a1 :: ST) := by
  obtain ⟨⟨rfl, rfl⟩, hX, hKA⟩ := id hS
  have hb := hI.1
  refine r_callVX (rest := ST) (As := [.int (zI (i : Int))]) X d (by rw [hy]; exact kL_34) (c_overheadOf g _ X.2.2.2.2.2.2 ad F _ _ _ _ _ _ _ _ hX (i : Int) ⟨by omega, by omega⟩) hX.choose_spec.1.1 rfl rfl rfl rfl hcat (by omega) (by decide) h1 h2 (fun E ad' F' h => absurd (show 0 ≤ (i : Int) ∧ (i : Int) < nf from ⟨by omega, by omega⟩) h.1.2) (fun v ad' F' hK => ?_)
  obtain ⟨-, rfl, rfl, rfl⟩ := hK
  exact k
theorem l_roomOf (X : Cx M g y cc ret n mc ms [] K KX) (hy : y.cls = RL) (hn : 10 < n) (hS : SL g ad F a1 a2 td nf nk nc A P kf sn Kp) (hI : IV td nf nk nc A kf t) (d : decode cc pc = .ok (.invokevirtual 37, 3)) {i : Nat} (hi : i < nf) (hcat : (ST.map fun v => v.category).sum ≤ 8) (h1 : kc + 1 ≤ mc) (h2 : ks + 6 ≤ ms) (k : V M g ad F (kc + 1) (ks + 6) (pc + 3) LS (.int (zI (roA A i)) :: ST)) : V M g ad F kc ks pc LS (.int (zI (i : Int)) :: .ref a1 :: ST) := by
  obtain ⟨⟨rfl, rfl⟩, hX, hKA⟩ := id hS
  have hb := hI.1
  refine r_callVX (rest := ST) (As := [.int (zI (i : Int))]) X d (by rw [hy]; exact kL_37) (c_roomOf g _ X.2.2.2.2.2.2 ad F _ _ _ _ _ _ _ _ hX t hI (i : Int) ⟨by omega, by omega⟩) hX.choose_spec.1.1 rfl rfl rfl rfl hcat (by omega) (by decide) h1 h2 (fun E ad' F' h => absurd (show 0 ≤ (i : Int) ∧ (i : Int) < nf from ⟨by omega, by omega⟩) h.1.2) (fun v ad' F' hK => ?_)
  obtain ⟨-, rfl, rfl, rfl⟩ := hK
  exact k
theorem l_leftOf (X : Cx M g y cc ret n mc ms [] K KX) (hy : y.cls = RL) (hn : 10 < n) (hS : SL g ad F a1 a2 td nf nk nc A P kf sn Kp) (hI : IV td nf nk nc A kf t) (d : decode cc pc = .ok (.invokevirtual 40, 3)) {i : Nat} (hi : i < nk) (hcat : (ST.map fun v => v.category).sum ≤ 8) (h1 : kc + 1 ≤ mc) (h2 : ks + 6 ≤ ms) (k : V M g ad F (kc + 1) (ks + 6) (pc + 3) LS (.int (zI (A 8 i)) :: ST)) : V M g ad F kc ks pc LS (.int (zI (i : Int)) :: .ref a1 :: ST) := by
  obtain ⟨⟨rfl, rfl⟩, hX, hKA⟩ := id hS
  have hb := hI.1
  refine r_callVX (rest := ST) (As := [.int (zI (i : Int))]) X d (by rw [hy]; exact kL_40) (c_leftOf g _ X.2.2.2.2.2.2 ad F _ _ _ _ _ _ _ _ hX (i : Int) ⟨by omega, by omega⟩) hX.choose_spec.1.1 rfl rfl rfl rfl hcat (by omega) (by decide) h1 h2 (fun E ad' F' h => absurd (show 0 ≤ (i : Int) ∧ (i : Int) < nk from ⟨by omega, by omega⟩) h.1.2) (fun v ad' F' hK => ?_)
  obtain ⟨-, rfl, rfl, rfl⟩ := hK
  exact k
theorem l_untilOf (X : Cx M g y cc ret n mc ms [] K KX) (hy : y.cls = RL) (hn : 10 < n) (hS : SL g ad F a1 a2 td nf nk nc A P kf sn Kp) (hI : IV td nf nk nc A kf t) (d : decode cc pc = .ok (.invokevirtual 43, 3)) {i : Nat} (hi : i < nk) (hcat : (ST.map fun v => v.category).sum ≤ 8) (h1 : kc + 1 ≤ mc) (h2 : ks + 6 ≤ ms) (k : V M g ad F (kc + 1) (ks + 6) (pc + 3) LS (.int (zI (A 9 i)) :: ST)) : V M g ad F kc ks pc LS (.int (zI (i : Int)) :: .ref a1 :: ST) := by
  obtain ⟨⟨rfl, rfl⟩, hX, hKA⟩ := id hS
  have hb := hI.1
  refine r_callVX (rest := ST) (As := [.int (zI (i : Int))]) X d (by rw [hy]; exact kL_43) (c_untilOf g _ X.2.2.2.2.2.2 ad F _ _ _ _ _ _ _ _ hX (i : Int) ⟨by omega, by omega⟩) hX.choose_spec.1.1 rfl rfl rfl rfl hcat (by omega) (by decide) h1 h2 (fun E ad' F' h => absurd (show 0 ≤ (i : Int) ∧ (i : Int) < nk from ⟨by omega, by omega⟩) h.1.2) (fun v ad' F' hK => ?_)
  obtain ⟨-, rfl, rfl, rfl⟩ := hK
  exact k
theorem l_fundOf (X : Cx M g y cc ret n mc ms [] K KX) (hy : y.cls = RL) (hn : 10 < n) (hS : SL g ad F a1 a2 td nf nk nc A P kf sn Kp) (hI : IV td nf nk nc A kf t) (d : decode cc pc = .ok (.invokevirtual 49, 3)) {i : Nat} (hi : i < nk) (hcat : (ST.map fun v => v.category).sum ≤ 8) (h1 : kc + 1 ≤ mc) (h2 : ks + 6 ≤ ms) (k : V M g ad F (kc + 1) (ks + 6) (pc + 3) LS (.int (zI ((kf i : Int))) :: ST)) : V M g ad F kc ks pc LS (.int (zI (i : Int)) :: .ref a1 :: ST) := by
  obtain ⟨⟨rfl, rfl⟩, hX, hKA⟩ := id hS
  have hb := hI.1
  refine r_callVX (rest := ST) (As := [.int (zI (i : Int))]) X d (by rw [hy]; exact kL_49) (c_fundOf g _ X.2.2.2.2.2.2 ad F _ _ _ _ _ _ _ _ hX t hI (i : Int) ⟨by omega, by omega⟩) hX.choose_spec.1.1 rfl rfl rfl rfl hcat (by omega) (by decide) h1 h2 (fun E ad' F' h => absurd (show 0 ≤ (i : Int) ∧ (i : Int) < nk from ⟨by omega, by omega⟩) h.1.2) (fun v ad' F' hK => ?_)
  obtain ⟨-, rfl, rfl, rfl⟩ := hK
  exact k
theorem l_unpaidOf (X : Cx M g y cc ret n mc ms [] K KX) (hy : y.cls = RL) (hn : 10 < n) (hS : SL g ad F a1 a2 td nf nk nc A P kf sn Kp) (hI : IV td nf nk nc A kf t) (d : decode cc pc = .ok (.invokevirtual 62, 3)) {i : Nat} (hi : i < nc) (hcat : (ST.map fun v => v.category).sum ≤ 8) (h1 : kc + 1 ≤ mc) (h2 : ks + 6 ≤ ms) (k : V M g ad F (kc + 1) (ks + 6) (pc + 3) LS (.int (zI (A 12 i)) :: ST)) : V M g ad F kc ks pc LS (.int (zI (i : Int)) :: .ref a1 :: ST) := by
  obtain ⟨⟨rfl, rfl⟩, hX, hKA⟩ := id hS
  have hb := hI.1
  refine r_callVX (rest := ST) (As := [.int (zI (i : Int))]) X d (by rw [hy]; exact kL_62) (c_unpaidOf g _ X.2.2.2.2.2.2 ad F _ _ _ _ _ _ _ _ hX (i : Int) ⟨by omega, by omega⟩) hX.choose_spec.1.1 rfl rfl rfl rfl hcat (by omega) (by decide) h1 h2 (fun E ad' F' h => absurd (show 0 ≤ (i : Int) ∧ (i : Int) < nc from ⟨by omega, by omega⟩) h.1.2) (fun v ad' F' hK => ?_)
  obtain ⟨-, rfl, rfl, rfl⟩ := hK
  exact k
theorem l_paidBy (X : Cx M g y cc ret n mc ms [] K KX) (hy : y.cls = RL) (hn : 10 < n) (hS : SL g ad F a1 a2 td nf nk nc A P kf sn Kp) (hI : IV td nf nk nc A kf t) (d : decode cc pc = .ok (.invokevirtual 55, 3)) {i j : Nat} (hi : i < nc) (hj : j < nf) (hcat : (ST.map fun v => v.category).sum ≤ 8) (h1 : kc + 2 ≤ mc) (h2 : ks + 12 ≤ ms) (k : V M g ad F (kc + 2) (ks + 12) (pc + 3) LS (.int (zI (P i j)) :: ST)) : V M g ad F kc ks pc LS (.int (zI (j : Int)) :: .int (zI (i : Int)) :: .ref a1 :: ST) := by
  obtain ⟨⟨rfl, rfl⟩, hX, hKA⟩ := id hS
  have hb := hI.1
  refine r_callVX (rest := ST) (As := [.int (zI (i : Int)), .int (zI (j : Int))]) X d (by rw [hy]; exact kL_55) (c_paidBy g _ X.2.2.2.2.2.2 ad F _ _ _ _ _ _ _ _ hX (i : Int) (j : Int) ⟨by omega, by omega⟩ ⟨by omega, by omega⟩) hX.choose_spec.1.1 rfl rfl rfl rfl hcat (by omega) (by decide) h1 h2 (fun E ad' F' h => absurd (show (0 ≤ (i : Int) ∧ (i : Int) < nc) ∧ 0 ≤ (j : Int) ∧ (j : Int) < nf from ⟨⟨by omega, by omega⟩, by omega, by omega⟩) h.1.2) (fun v ad' F' hK => ?_)
  obtain ⟨-, rfl, rfl, rfl⟩ := hK
  exact k
theorem l_payable (X : Cx M g y cc ret n mc ms [] K KX) (hy : y.cls = RL) (hn : 10 < n) (hS : SL g ad F a1 a2 td nf nk nc A P kf sn Kp) (hI : IV td nf nk nc A kf t) (d : decode cc pc = .ok (.invokevirtual 71, 3)) (hcat : (ST.map fun v => v.category).sum ≤ 8) (h1 : kc + 12 ≤ mc) (h2 : ks + 720 ≤ ms) (k : ∀ ad' F', SL g ad' F' a1 a2 td nf nk nc A P kf sn Kp → FC1 A kf nk nf nc → V M g ad' F' (kc + 12) (ks + 720) (pc + 3) LS (.int (zI (sm nc (pnC A kf nk nf nc))) :: ST)) : V M g ad F kc ks pc LS (.ref a1 :: ST) := by
  obtain ⟨⟨rfl, rfl⟩, hX, hKA⟩ := id hS
  have hb := hI.1
  obtain ⟨ser, hX⟩ := hX
  refine r_callV (rest := ST) (As := []) X d (by rw [hy]; exact kL_71) (c_payable g _ X.2.2.2.2.2.2 ad F _ _ _ _ _ _ _ _ _ hX t hI) hX.1.1 rfl rfl rfl rfl hcat (by omega) (by decide) h1 h2 (fun v ad' F' hK => ?_)
  obtain ⟨hA, hF, hX', pn, rfl, hs, hf⟩ := hK
  have e : sm nc (pnC A kf nk nf nc) = sm nc pn := (sm_congr hs.eqC).symm
  have q := k ad' F' (hS.fr hA hF ⟨ser, hX'⟩) (.of hs hf)
  rw [e] at q
  exact q
theorem l_wouldPay (X : Cx M g y cc ret n mc ms [] K KX) (hy : y.cls = RL) (hn : 10 < n) (hS : SL g ad F a1 a2 td nf nk nc A P kf sn Kp) (hI : IV td nf nk nc A kf t) (d : decode cc pc = .ok (.invokevirtual 59, 3)) {i : Nat} (hi : i < nc) (hcat : (ST.map fun v => v.category).sum ≤ 8) (h1 : kc + 13 ≤ mc) (h2 : ks + 726 ≤ ms) (k : ∀ ad' F', SL g ad' F' a1 a2 td nf nk nc A P kf sn Kp → FC1 A kf nk nf nc → V M g ad' F' (kc + 13) (ks + 726) (pc + 3) LS (.int (zI (pnC A kf nk nf nc i)) :: ST)) : V M g ad F kc ks pc LS (.int (zI (i : Int)) :: .ref a1 :: ST) := by
  obtain ⟨⟨rfl, rfl⟩, hX, hKA⟩ := id hS
  have hb := hI.1
  obtain ⟨ser, hX⟩ := hX
  refine r_callVX (rest := ST) (As := [.int (zI (i : Int))]) X d (by rw [hy]; exact kL_59) (c_wouldPay g _ X.2.2.2.2.2.2 ad F _ _ _ _ _ _ _ _ _ hX t hI (i : Int) ⟨by omega, by omega⟩) hX.1.1 rfl rfl rfl rfl hcat (by omega) (by decide) h1 h2 (fun E ad' F' h => absurd (show 0 ≤ (i : Int) ∧ (i : Int) < nc from ⟨by omega, by omega⟩) h.1.2) (fun v ad' F' hK => ?_)
  obtain ⟨-, hA, hF, hX', pn, rfl, hs, hf⟩ := hK
  have q := k ad' F' (hS.fr hA hF ⟨ser, hX'⟩) (.of hs hf)
  rw [← hs.eqC i hi] at q
  exact q
theorem l_wouldTake (X : Cx M g y cc ret n mc ms [] K KX) (hy : y.cls = RL) (hn : 10 < n) (hS : SL g ad F a1 a2 td nf nk nc A P kf sn Kp) (hI : IV td nf nk nc A kf t) (d : decode cc pc = .ok (.invokevirtual 68, 3)) {i : Nat} (hi : i < nf) (hcat : (ST.map fun v => v.category).sum ≤ 8) (h1 : kc + 13 ≤ mc) (h2 : ks + 726 ≤ ms) (k : ∀ ad' F', SL g ad' F' a1 a2 td nf nk nc A P kf sn Kp → FC2 A kf nk nf nc → V M g ad' F' (kc + 13) (ks + 726) (pc + 3) LS (.int (zI (tkC A kf nk nf nc i)) :: ST)) : V M g ad F kc ks pc LS (.int (zI (i : Int)) :: .ref a1 :: ST) := by
  obtain ⟨⟨rfl, rfl⟩, hX, hKA⟩ := id hS
  have hb := hI.1
  obtain ⟨ser, hX⟩ := hX
  refine r_callVX (rest := ST) (As := [.int (zI (i : Int))]) X d (by rw [hy]; exact kL_68) (c_wouldTake g _ X.2.2.2.2.2.2 ad F _ _ _ _ _ _ _ _ _ hX t hI (i : Int) ⟨by omega, by omega⟩) hX.1.1 rfl rfl rfl rfl hcat (by omega) (by decide) h1 h2 (fun E ad' F' h => absurd (show 0 ≤ (i : Int) ∧ (i : Int) < nf from ⟨by omega, by omega⟩) h.1.2) (fun v ad' F' hK => ?_)
  obtain ⟨-, hA, hF, hX', pn, dr, rfl, hs, h2s, hf⟩ := hK
  have q := k ad' F' (hS.fr hA hF ⟨ser, hX'⟩) (.of hs hf h2s)
  rw [← S2.tk hs h2s i] at q
  exact q
theorem l_reason (X : Cx M g y cc ret n mc ms [] K KX) (hy : y.cls = RL) (hn : 10 < n) (hS : SL g ad F a1 a2 td nf nk nc A P kf sn Kp) (hI : IV td nf nk nc A kf t) (d : decode cc pc = .ok (.invokevirtual 65, 3)) {i : Nat} (hi : i < nc) (hcat : (ST.map fun v => v.category).sum ≤ 8) (h1 : kc + 13 ≤ mc) (h2 : ks + 726 ≤ ms) (k : ∀ ad' F' w, SL g ad' F' a1 a2 td nf nk nc A P kf sn Kp → REA A kf nf nk i w → V M g ad' F' (kc + 13) (ks + 726) (pc + 3) LS (.int (zI w) :: ST)) : V M g ad F kc ks pc LS (.int (zI (i : Int)) :: .ref a1 :: ST) := by
  obtain ⟨⟨rfl, rfl⟩, hX, hKA⟩ := id hS
  have hb := hI.1
  obtain ⟨ser, hX⟩ := hX
  refine r_callVX (rest := ST) (As := [.int (zI (i : Int))]) X d (by rw [hy]; exact kL_65) (c_reason g _ X.2.2.2.2.2.2 ad F _ _ _ _ _ _ _ _ _ hX t hI (i : Int) ⟨by omega, by omega⟩) hX.1.1 rfl rfl rfl rfl hcat (by omega) (by decide) h1 h2 (fun E ad' F' h => absurd (show 0 ≤ (i : Int) ∧ (i : Int) < nc from ⟨by omega, by omega⟩) h.1.2) (fun v ad' F' hK => ?_)
  obtain ⟨-, ⟨w, rfl, hR⟩, hA, hF, hX'⟩ := hK
  exact k ad' F' w (hS.fr hA hF ⟨ser, hX'⟩) hR
theorem l_charge (X : Cx M g y cc ret n mc ms [] K KX) (hy : y.cls = RL) (hn : 10 < n) (hS : SL g ad F a1 a2 td nf nk nc A P kf sn Kp) (hI : IV td nf nk nc A kf t) (hAV : AV nf nk nc A P kf Kp) (hKV : KV td nk A) (d : decode cc pc = .ok (.invokevirtual 74, 3)) (hcat : (ST.map fun v => v.category).sum ≤ 8) (h1 : kc + 12 ≤ mc) (h2 : ks + 720 ≤ ms) (k : ∀ ad' F' nk' A' P' kf', SL g ad' F' a1 a2 td nf nk' nc A' P' kf' sn Kp → IV td nf nk' nc A' kf' t → AV nf nk' nc A' P' kf' Kp → KV td nk' A' → FC1 A kf nk nf nc → CB A A' kf kf' nk nk' nf nc → V M g ad' F' (kc + 12) (ks + 720) (pc + 3) LS (.int (zI (sm nc (pnC A kf nk nf nc))) :: ST)) : V M g ad F kc ks pc LS (.ref a1 :: ST) := by
  obtain ⟨⟨rfl, rfl⟩, hX, hKA⟩ := id hS
  have hb := hI.1
  obtain ⟨ser, hX⟩ := hX
  refine r_callV (rest := ST) (As := []) X d (by rw [hy]; exact kL_74) (c_charge g _ X.2.2.2.2.2.2 ad F _ _ _ _ _ _ _ _ _ hX t hI (fun pn dr W s3 b3 => hI.book s3 b3)) hX.1.1 rfl rfl rfl rfl hcat (by omega) (by decide) h1 h2 (fun v ad' F' hK => ?_)
  obtain ⟨hA, hF, pn, dr, W, ser', rfl, s1, s2, s3, b3, hX'⟩ := hK
  have e : sm nc (pnC A kf nk nf nc) = sm nc pn := (sm_congr s1.eqC).symm
  obtain ⟨⟨nk', A', kf'⟩, he⟩ : ∃ z, endS qEmp nk (nk, bkA A kf (nk + nf) nc (PS A nk nf) W, kf) = z := ⟨_, rfl⟩
  rw [he] at hX'
  obtain ⟨i1, i2, i3, i4⟩ := booked hI hAV hKV s1 s2 s3 b3 he
  have q := k ad' F' nk' A' _ kf' (hS.fr hA hF ⟨ser', hX'⟩) i1 i2 i3 (.of s1 (s3.fl b3)) i4
  rw [e] at q
  exact q
theorem l_chargeOverhead (X : Cx M g y cc ret n mc ms [] K KX) (hy : y.cls = RL) (hn : 10 < n) (hS : SL g ad F a1 a2 td nf nk nc A P kf sn Kp) (hI : IV td nf nk nc A kf t) (hAV : AV nf nk nc A P kf Kp) (hKV : KV td nk A) (d : decode cc pc = .ok (.invokevirtual 84, 3)) {m : Int} (hm : 1 ≤ m ∧ m ≤ 99999) (hcat : (ST.map fun v => v.category).sum ≤ 8) (h1 : kc + 4 ≤ mc) (h2 : ks + 40 ≤ ms) (k : ∀ F' A' w, 0 ≤ w → w ≤ m → (nf = 0 → w = 0) → SL g ad F' a1 a2 td nf nk nc A' P kf sn Kp → IV td nf nk nc A' kf t → AV nf nk nc A' P kf Kp → KV td nk A' → V M g ad F' (kc + 4) (ks + 40) (pc + 3) LS (.int (zI w) :: ST)) : V M g ad F kc ks pc LS (.int (zI m) :: .ref a1 :: ST) := by
  obtain ⟨⟨rfl, rfl⟩, hX, hKA⟩ := id hS
  have hb := hI.1
  obtain ⟨ser, hX⟩ := hX
  refine r_callVX (rest := ST) (As := [.int (zI m)]) X d (by rw [hy]; exact kL_84) (c_chargeOverhead g _ X.2.2.2.2.2.2 ad F _ _ _ _ _ _ _ _ _ hX t hI m ⟨by omega, by omega⟩) hX.1.1 rfl rfl rfl rfl hcat (by omega) (by decide) h1 h2 (fun E ad' F' h => absurd hm h.1.2) (fun v ad' F' hK => ?_)
  obtain ⟨-, rfl, rfl, hF, hX'⟩ := hK
  have hb := ov_b m.toNat A m hI (by omega)
  refine k F' _ _ (by omega) (by omega) (fun z => ?_) (hS.fr AdX.rf hF ⟨ser, hX'⟩) (ov_iv _ _ _ hI) (hAV.over (OV.ov _ _ _)) (hKV.over (OV.ov _ _ _))
  rw [z, ov_none]; omega
theorem l_addFund (X : Cx M g y cc ret n mc ms [] K KX) (hy : y.cls = RL) (hn : 10 < n) (hS : SL g ad F a1 a2 td nf nk nc A P kf sn Kp) (hI : IV td nf nk nc A kf t) (dd : decode cc pc = .ok (.invokevirtual 95, 3)) {m a d c : Int} (hr : raF m a d c) (h6 : nf < 6) (hcat : (ST.map fun v => v.category).sum ≤ 8) (h1 : kc + 10 ≤ mc) (h2 : ks + 200 ≤ ms) (k : ∀ ad' F', SL g ad' F' a1 a2 td (nf + 1) nk nc (fNew A nf m a d c) P kf sn Kp → V M g ad' F' (kc + 10) (ks + 200) (pc + 3) LS (.int (zI (nf : Int)) :: ST)) : V M g ad F kc ks pc LS (.int (zI c) :: .int (zI d) :: .int (zI a) :: .int (zI m) :: .ref a1 :: ST) := by
  obtain ⟨⟨rfl, rfl⟩, hX, hKA⟩ := id hS
  have hb := hI.1
  have hr0 := hr
  obtain ⟨r1, r2, r3, r4⟩ := hr0
  refine r_callVX (rest := ST) (As := [.int (zI m), .int (zI a), .int (zI d), .int (zI c)]) X dd (by rw [hy]; exact kL_95) (c_addFund g _ X.2.2.2.2.2.2 ad F _ _ _ _ _ _ _ _ hX (fun i hi => (hI.2.2.1 i hi).1) m a d c ⟨by omega, by omega⟩ ⟨by omega, by omega⟩ ⟨by omega, by omega⟩ ⟨by omega, by omega⟩) hX.choose_spec.1.1 rfl rfl rfl rfl hcat (by omega) (by decide) h1 h2 (fun E ad' F' h => (h.1.elim (fun z => absurd hr z.2) (fun z => absurd h6 z.2.2))) (fun v ad' F' hK => ?_)
  obtain ⟨-, rfl, hA, hF, hX'⟩ := hK
  exact k ad' F' (hS.fr hA hF hX')
theorem l_deposit (X : Cx M g y cc ret n mc ms [] K KX) (hy : y.cls = RL) (hn : 10 < n) (hS : SL g ad F a1 a2 td nf nk nc A P kf sn Kp) (hI : IV td nf nk nc A kf t) (d : decode cc pc = .ok (.invokevirtual 98, 3)) {i : Nat} {m : Int} (hi : i < nf) (hm : 1 ≤ m ∧ m ≤ 99999) (hcat : (ST.map fun v => v.category).sum ≤ 8) (h1 : kc + 10 ≤ mc) (h2 : ks + 200 ≤ ms) (k : ∀ F', SL g ad F' a1 a2 td nf nk nc (u2 A 0 i (A 0 i + m)) P kf sn Kp → V M g ad F' (kc + 10) (ks + 200) (pc + 3) LS (.int (zI (A 0 i + m)) :: ST)) : V M g ad F kc ks pc LS (.int (zI m) :: .int (zI (i : Int)) :: .ref a1 :: ST) := by
  obtain ⟨⟨rfl, rfl⟩, hX, hKA⟩ := id hS
  have hb := hI.1
  refine r_callVX (rest := ST) (As := [.int (zI (i : Int)), .int (zI m)]) X d (by rw [hy]; exact kL_98) (c_deposit g _ X.2.2.2.2.2.2 ad F _ _ _ _ _ _ _ _ hX (i : Int) m ⟨by omega, by omega⟩ ⟨by omega, by omega⟩) hX.choose_spec.1.1 rfl rfl rfl rfl hcat (by omega) (by decide) h1 h2 (fun E ad' F' h => (h.1.elim (fun z => absurd (show 0 ≤ (i : Int) ∧ (i : Int) < nf from ⟨by omega, by omega⟩) z.2) (fun z => absurd hm z.2.2))) (fun v ad' F' hK => ?_)
  obtain ⟨-, rfl, rfl, hF, hX'⟩ := hK
  exact k F' (hS.fr AdX.rf hF hX')
theorem l_addCost (X : Cx M g y cc ret n mc ms [] K KX) (hy : y.cls = RL) (hn : 10 < n) (hS : SL g ad F a1 a2 td nf nk nc A P kf sn Kp) (hI : IV td nf nk nc A kf t) (dd : decode cc pc = .ok (.invokevirtual 104, 3)) {c d m : Int} (hr : raC td c d m) (h16 : nc < 16) (hcat : (ST.map fun v => v.category).sum ≤ 8) (h1 : kc + 10 ≤ mc) (h2 : ks + 200 ≤ ms) (k : ∀ ad' F', SL g ad' F' a1 a2 td nf nk (nc + 1) (fCst A nc c d m) (fP0 P nc) kf sn Kp → V M g ad' F' (kc + 10) (ks + 200) (pc + 3) LS (.int (zI (nc : Int)) :: ST)) : V M g ad F kc ks pc LS (.int (zI m) :: .int (zI d) :: .int (zI c) :: .ref a1 :: ST) := by
  obtain ⟨⟨rfl, rfl⟩, hX, hKA⟩ := id hS
  have hb := hI.1
  have hr0 := hr
  obtain ⟨r1, r2, r3⟩ := hr0
  refine r_callVX (rest := ST) (As := [.int (zI c), .int (zI d), .int (zI m)]) X dd (by rw [hy]; exact kL_104) (c_addCost g _ X.2.2.2.2.2.2 ad F _ _ _ _ _ _ _ _ hX t hI c d m ⟨by omega, by omega⟩ ⟨by omega, by omega⟩ ⟨by omega, by omega⟩) hX.choose_spec.1.1 rfl rfl rfl rfl hcat (by omega) (by decide) h1 h2 (fun E ad' F' h => (h.1.elim (fun z => absurd hr z.2) (fun z => absurd h16 z.2.2))) (fun v ad' F' hK => ?_)
  obtain ⟨-, rfl, hA, hF, hX'⟩ := hK
  exact k ad' F' (hS.fr hA hF hX')
theorem l_cancel (X : Cx M g y cc ret n mc ms [] K KX) (hy : y.cls = RL) (hn : 10 < n) (hS : SL g ad F a1 a2 td nf nk nc A P kf sn Kp) (hI : IV td nf nk nc A kf t) (d : decode cc pc = .ok (.invokevirtual 112, 3)) {i : Nat} (hi : i < nk) (hcat : (ST.map fun v => v.category).sum ≤ 8) (h1 : kc + 10 ≤ mc) (h2 : ks + 200 ≤ ms) (k : ∀ F', SL g ad F' a1 a2 td nf (nk - 1) nc (fEnd A kf i) P (eDel kf i) sn Kp → V M g ad F' (kc + 10) (ks + 200) (pc + 3) LS (.int (zI (A 8 i)) :: ST)) : V M g ad F kc ks pc LS (.int (zI (i : Int)) :: .ref a1 :: ST) := by
  obtain ⟨⟨rfl, rfl⟩, hX, hKA⟩ := id hS
  have hb := hI.1
  refine r_callVX (rest := ST) (As := [.int (zI (i : Int))]) X d (by rw [hy]; exact kL_112) (c_cancel g _ X.2.2.2.2.2.2 ad F _ _ _ _ _ _ _ _ hX t hI (i : Int) ⟨by omega, by omega⟩) hX.choose_spec.1.1 rfl rfl rfl rfl hcat (by omega) (by decide) h1 h2 (fun E ad' F' h => absurd (show 0 ≤ (i : Int) ∧ (i : Int) < nk from ⟨by omega, by omega⟩) h.1.2) (fun v ad' F' hK => ?_)
  obtain ⟨-, rfl, rfl, hF, hX'⟩ := hK
  exact k F' (hS.fr AdX.rf hF hX')
theorem l_advance (X : Cx M g y cc ret n mc ms [] K KX) (hy : y.cls = RL) (hn : 10 < n) (hS : SL g ad F a1 a2 td nf nk nc A P kf sn Kp) (hI : IV td nf nk nc A kf t) (dd : decode cc pc = .ok (.invokevirtual 115, 3)) {d : Int} (hd : (1 ≤ d ∧ d ≤ 999) ∧ td + d ≤ 999) (hcat : (ST.map fun v => v.category).sum ≤ 8) (h1 : kc + 10 ≤ mc) (h2 : ks + 200 ≤ ms) (k : ∀ F', SL g ad F' a1 a2 (td + d) nf (endS (qLap (td + d)) nk (nk, A, kf)).1 nc (endS (qLap (td + d)) nk (nk, A, kf)).2.1 P (endS (qLap (td + d)) nk (nk, A, kf)).2.2 sn Kp → V M g ad F' (kc + 10) (ks + 200) (pc + 3) LS (.int (zI ((nk : Int) - (endS (qLap (td + d)) nk (nk, A, kf)).1)) :: ST)) : V M g ad F kc ks pc LS (.int (zI d) :: .ref a1 :: ST) := by
  obtain ⟨⟨rfl, rfl⟩, hX, hKA⟩ := id hS
  have hb := hI.1
  refine r_callVX (rest := ST) (As := [.int (zI d)]) X dd (by rw [hy]; exact kL_115) (c_advance g _ X.2.2.2.2.2.2 ad F _ _ _ _ _ _ _ _ hX t hI d ⟨by omega, by omega⟩) hX.choose_spec.1.1 rfl rfl rfl rfl hcat (by omega) (by decide) h1 h2 (fun E ad' F' h => absurd hd h.1.2) (fun v ad' F' hK => ?_)
  obtain ⟨-, rfl, rfl, hF, hX'⟩ := hK
  exact k F' (hS.fr AdX.rf hF hX')
end Calls
