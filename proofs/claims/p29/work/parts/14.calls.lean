/-! ===== calls ===== -/
def WB (own : String) (idx : Nat) (y : MethodName) (b : ByteArray) (nL : Nat) (ret : Option FieldType) (np : Nat) : Prop :=
  Cond.code y b nL ret ∈ WS ∧ Cond.initialized y.cls ∈ WS ∧ (y.cls ≠ "java/lang/invoke/MethodHandle" ∧ y.cls ≠ "java/lang/invoke/VarHandle") ∧ (parseMethodDescriptor y.desc).map (fun d => d.parameters.length) = some np ∧ Cond.methodLink own idx y ∈ WS
def WVt (own : String) (idx : Nat) (y : MethodName) (b : ByteArray) (nL : Nat) (ret : Option FieldType) (np : Nat) : Prop :=
  WB own idx y b nL ret np ∧ Cond.instanceMethod y ∈ WS ∧ Cond.selects y.cls y y ∈ WS
def WSt (own : String) (idx : Nat) (y : MethodName) (b : ByteArray) (nL : Nat) (ret : Option FieldType) (np : Nat) : Prop :=
  WB own idx y b nL ret np ∧ Cond.static y ∈ WS
def WIt (own : String) (idx : Nat) (y : MethodName) (b : ByteArray) (nL : Nat) (np : Nat) : Prop :=
  WB own idx y b nL none np ∧ y.name = "<init>" ∧ Cond.instanceMethod y ∈ WS
section Calls
variable {M : Mx} {g : Gx} {y : MethodName} {cc : ByteArray} {ret : Option FieldType} {n mc ms : Nat} {tb : List ExceptionTableEntry} {K : Option Value → (Nat → Nat) → Pic → Prop} {KX : String → (Nat → Nat) → Pic → Prop} {ad : Nat → Nat} {F : Pic} {kc ks pc : Nat} {LS : List (Option Value)} {ST rest : List Value}
variable {y' : MethodName} {cy' : ByteArray} {nL' n' mc' ms' idx np : Nat} {ret' : Option FieldType} {K' : Option Value → (Nat → Nat) → Pic → Prop} {KX' : String → (Nat → Nat) → Pic → Prop} {As : List Value}
theorem ws_warm {s : State} {args : Array Value} (hts : ∀ w ∈ WS, w.before args s = true) {w : Cond} (hw : w ∈ WS) (a' : Array Value) (U : State) (hW : s.WarmedH U.vm) : w.before a' U = true := word_at hW (ws_all hw) (hts w hw)
theorem callB_w {R : Room} {s : State} {args : Array Value} {own : String} (hts : ∀ w ∈ WS, w.before args s = true) (w : WB own idx y' cy' nL' ret' np) (hR : R = rmL n mc ms) (hlv : n' < n) (hml : nL' ≤ 23) : CallB R s args own idx y' cy' nL' ret' (.code y' cy' nL' ret' :: WS) (rmL n' mc' ms') mc' ms' np := by
  obtain ⟨w1, w2, w3, w4, w5⟩ := w
  refine ⟨rfl, rfl, by rw [hR]; exact hlv, ?_, ?_, List.mem_cons_self, hts _ w1, hts _ w2, w3, ?_, hts _ w5⟩
  · rw [hR]; show 8 + (nL' + 11) + 42 * n' ≤ 42 * n; omega
  · intro w hw a' U hW
    rcases List.mem_cons.mp hw with rfl | hw
    · exact ws_warm hts w1 a' U hW
    · exact ws_warm hts hw a' U hW
  · intro sig h; rw [h] at w4; exact (Option.some.inj w4).symm
theorem pc_at {H : Heap} {locs : List Loc} {as : List Value} (X : Cx M g y cc ret n mc ms tb K KX) (a : HP g ad F H) (b : va_S (gA g) (mS M).heap H locs) : ∀ U : State, U.heap = H → (mS M).WarmedH U.vm → PcK g as ad F as.toArray U := fun U hU hW =>
  ⟨rfl, by rw [hU]; exact Nat.le_trans X.2.2.1 b.1, by rw [hU]; exact a, X.2.1.2.2.2.1.moved hW.alike, by rw [hU]; exact X.2.1.2.2.2.2.moved hW (fun q hq hA => b.2.1 q hq hA)⟩
/-- the walk goes on behind a call -/
theorem V_run (a0 : Array Value) (hr : ∀ (H : Heap) (locs : List Loc) (ls : Array Slot), HP g ad F H → va_S (gA g) (mS M).heap H locs → lvs ls (mN M) LS →
      va_Run (mP M) (mL M) (mE M) (mR M) (mS M) (mM M) (mA M) (mB M) (mMe M) (mC M) H locs kc ks mc' ms' (F0 (mM M) pc ls ST) rest (QcK g K' a0) (gA g))
    (k : ∀ v ad' F', K' v ad' F' → V M g ad' F' (kc + mc') (ks + ms') (pc + 3) LS (v.toList ++ rest)) : V M g ad F kc ks pc LS ST := by
  intro H locs ls a b c T hT X0
  obtain ⟨v, st0, t, T', L, h0, X', hL, e1, e2, ⟨⟨v', ad', F', hv, hK', hP'⟩, hF⟩, go⟩ := hr H locs ls a b c T hT X0
  cases hv
  have hS' : va_S (gA g) (mS M).heap T'.heap (locs ++ L) := (vx_keep h0 e1 b (fun _ _ q => q) (fun _ q => q) hL hF).2.2
  obtain ⟨t9, s9, q9⟩ := k v ad' F' hK' T'.heap (locs ++ L) ls (by rw [e1]; exact hP') hS' c T' rfl X'
  exact ⟨t9, go t9 s9, q9⟩
theorem r_callV (X : Cx M g y cc ret n mc ms tb K KX) {r ci : Nat} {q : vw_C} {fs : List Value} (d : decode cc pc = .ok (.invokevirtual idx, 3)) (w : WVt y.cls idx y' cy' nL' ret' np) (hM : Ct g (mL M) y' cy' nL' ret' n' mc' ms' (.ref (ad r) :: As) ad F K') (hrc : F r = some (.inr (ci, fs))) (hq : vwCl[ci]? = some q) (hcl : q.1 = y'.cls) (hn : As.length = np)
    (hst : ST = As.reverse ++ .ref (ad r) :: rest) (hcat : (rest.map fun v => v.category).sum ≤ 8) (hlv : n' < n) (hml : nL' ≤ 23) (h1 : kc + mc' ≤ mc) (h2 : ks + ms' ≤ ms)
    (k : ∀ v ad' F', K' v ad' F' → V M g ad' F' (kc + mc') (ks + ms') (pc + 3) LS (v.toList ++ rest)) : V M g ad F kc ks pc LS ST := by
  obtain ⟨w1, w2, w3⟩ := w
  refine V_run (.ref (ad r) :: As).toArray (fun H locs ls a b c => ?_) k
  refine va_runV ⟨X.1.1, X.1.2.1, X.1.2.2.1, X.1.2.2.2.1, X.1.2.2.2.2⟩ hM ⟨callB_w X.1.2.2.2.2 w1 X.2.2.2.2.1 hlv hml, X.1.2.2.2.2 _ w2, X.1.2.2.2.2 _ w3⟩ ⟨PcK.blind, ?_, pc_at X a b⟩ rfl hn c.1 hst (lv_room hcat) d ⟨by rw [X.2.2.2.2.1]; exact h1, by rw [X.2.2.2.2.1]; exact h2⟩
  rw [← hcl]
  exact va_recv X.2.1.2.2.2.1 (a.one hrc ne_ob) (ci := ci) (q0 := 0) hq rfl
theorem r_callS (X : Cx M g y cc ret n mc ms tb K KX) (d : decode cc pc = .ok (.invokestatic idx, 3)) (w : WSt y.cls idx y' cy' nL' ret' np) (hM : Ct g (mL M) y' cy' nL' ret' n' mc' ms' As ad F K') (hn : As.length = np)
    (hst : ST = As.reverse ++ rest) (hcat : (rest.map fun v => v.category).sum ≤ 8) (hlv : n' < n) (hml : nL' ≤ 23) (h1 : kc + mc' ≤ mc) (h2 : ks + ms' ≤ ms)
    (k : ∀ v ad' F', K' v ad' F' → V M g ad' F' (kc + mc') (ks + ms') (pc + 3) LS (v.toList ++ rest)) : V M g ad F kc ks pc LS ST := by
  obtain ⟨w1, w2⟩ := w
  refine V_run As.toArray (fun H locs ls a b c => ?_) k
  exact va_runS ⟨X.1.1, X.1.2.1, X.1.2.2.1, X.1.2.2.2.1, X.1.2.2.2.2⟩ hM ⟨callB_w X.1.2.2.2.2 w1 X.2.2.2.2.1 hlv hml, X.1.2.2.2.2 _ w2⟩ ⟨PcK.blind, pc_at X a b⟩ rfl hn c.1 hst (lv_room hcat) d ⟨by rw [X.2.2.2.2.1]; exact h1, by rw [X.2.2.2.2.1]; exact h2⟩
theorem r_callI (X : Cx M g y cc ret n mc ms tb K KX) {r : Nat} (d : decode cc pc = .ok (.invokespecial idx, 3)) (w : WIt y.cls idx y' cy' nL' np) (hM : Ct g (mL M) y' cy' nL' none n' mc' ms' (.ref (ad r) :: As) ad F K') (hn : As.length = np)
    (hst : ST = As.reverse ++ .ref (ad r) :: rest) (hcat : (rest.map fun v => v.category).sum ≤ 8) (hlv : n' < n) (hml : nL' ≤ 23) (h1 : kc + mc' ≤ mc) (h2 : ks + ms' ≤ ms)
    (k : ∀ v ad' F', K' v ad' F' → V M g ad' F' (kc + mc') (ks + ms') (pc + 3) LS (v.toList ++ rest)) : V M g ad F kc ks pc LS ST := by
  obtain ⟨w1, w2, w3⟩ := w
  refine V_run (.ref (ad r) :: As).toArray (fun H locs ls a b c => ?_) k
  exact va_runI ⟨X.1.1, X.1.2.1, X.1.2.2.1, X.1.2.2.2.1, X.1.2.2.2.2⟩ hM ⟨callB_w X.1.2.2.2.2 w1 X.2.2.2.2.1 hlv hml, w2, X.1.2.2.2.2 _ w3⟩ ⟨PcK.blind, pc_at X a b⟩ rfl hn c.1 hst (lv_room hcat) d ⟨by rw [X.2.2.2.2.1]; exact h1, by rw [X.2.2.2.2.1]; exact h2⟩
/-- Object.<init> -/
theorem r_objInit (X : Cx M g y cc ret n mc ms tb K KX) {q : Nat} (d : decode cc pc = .ok (.invokespecial idx, 3)) (w1 : Cond.methodLink y.cls idx Lib.objectInit ∈ WS) (w2 : Cond.instanceMethod Lib.objectInit ∈ WS) (w3 : Cond.code Lib.objectInit ⟨#[0xb1]⟩ 1 none ∈ WS) (hlv : 0 < n) (hcat : (ST.map fun v => v.category).sum ≤ 8)
    (k : V M g ad F kc ks (pc + 3) LS ST) : V M g ad F kc ks pc LS (.ref q :: ST) := fun H locs ls a b c => by
  refine W.objInit X.1.1 X.1.2.1 X.1.2.2.2.1 (X.1.2.2.2.2 _ w1) (X.1.2.2.2.2 _ w2) (X.1.2.2.2.2 _ w3) rfl (c.1.trans X.1.2.2.1.symm) rfl d (by rw [X.2.2.2.2.1]; exact hlv) ?_ (k H locs ls a b c)
  rw [X.2.2.2.2.1]
  show 2 * 0 + (ST.map fun v => v.category).sum + 12 ≤ 42 * n
  omega
/-- a private static method of another class of the nest -/
theorem r_callSN (X : Cx M g y cc ret n mc ms tb K KX) {host : String} (d : decode cc pc = .ok (.invokestatic idx, 3)) (w1 : Cond.code y' cy' nL' ret' ∈ WS) (w2 : Cond.initialized y'.cls ∈ WS) (w3 : y'.cls ≠ "java/lang/invoke/MethodHandle" ∧ y'.cls ≠ "java/lang/invoke/VarHandle") (w4 : (parseMethodDescriptor y'.desc).map (fun d => d.parameters.length) = some np) (w5 : va_Nw (.methodLinkNest y.cls idx y' host) (mS M)) (w6 : Cond.static y' ∈ WS)
    (hM : Ct g (mL M) y' cy' nL' ret' n' mc' ms' As ad F K') (hn : As.length = np) (hst : ST = As.reverse ++ rest) (hcat : (rest.map fun v => v.category).sum ≤ 8) (hlv : n' < n) (hml : nL' ≤ 23) (h1 : kc + mc' ≤ mc) (h2 : ks + ms' ≤ ms)
    (k : ∀ v ad' F', K' v ad' F' → V M g ad' F' (kc + mc') (ks + ms') (pc + 3) LS (v.toList ++ rest)) : V M g ad F kc ks pc LS ST := by
  refine V_run As.toArray (fun H locs ls a b c => ?_) k
  refine va_runSN (host := host) ⟨X.1.1, X.1.2.1, X.1.2.2.1, X.1.2.2.2.1, X.1.2.2.2.2⟩ hM ⟨⟨⟨rfl, rfl, ?_, ?_, ?_, List.mem_cons_self⟩, X.1.2.2.2.2 _ w1, X.1.2.2.2.2 _ w2, w3, ?_, va_Nw.use rfl w5⟩, X.1.2.2.2.2 _ w6, trivial⟩ ⟨PcK.blind, pc_at X a b⟩ rfl hn c.1 hst (lv_room hcat) d ⟨by rw [X.2.2.2.2.1]; exact h1, by rw [X.2.2.2.2.1]; exact h2⟩
  · rw [X.2.2.2.2.1]; exact hlv
  · rw [X.2.2.2.2.1]; show 8 + (nL' + 11) + 42 * n' ≤ 42 * n; omega
  · intro w hw a' U hW
    rcases List.mem_cons.mp hw with rfl | hw
    · exact ws_warm X.1.2.2.2.2 w1 a' U hW
    · exact ws_warm X.1.2.2.2.2 hw a' U hW
  · intro sig h; rw [h] at w4; exact (Option.some.inj w4).symm
/-- a private constructor of another class of the nest -/
theorem r_callIN (X : Cx M g y cc ret n mc ms tb K KX) {host : String} {r : Nat} (d : decode cc pc = .ok (.invokespecial idx, 3)) (w1 : Cond.code y' cy' nL' none ∈ WS) (w2 : Cond.initialized y'.cls ∈ WS) (w3 : y'.cls ≠ "java/lang/invoke/MethodHandle" ∧ y'.cls ≠ "java/lang/invoke/VarHandle") (w4 : (parseMethodDescriptor y'.desc).map (fun d => d.parameters.length) = some np) (w5 : va_Nw (.methodLinkNest y.cls idx y' host) (mS M)) (w6 : y'.name = "<init>") (w7 : Cond.instanceMethod y' ∈ WS)
    (hM : Ct g (mL M) y' cy' nL' none n' mc' ms' (.ref (ad r) :: As) ad F K') (hn : As.length = np) (hst : ST = As.reverse ++ .ref (ad r) :: rest) (hcat : (rest.map fun v => v.category).sum ≤ 8) (hlv : n' < n) (hml : nL' ≤ 23) (h1 : kc + mc' ≤ mc) (h2 : ks + ms' ≤ ms)
    (k : ∀ v ad' F', K' v ad' F' → V M g ad' F' (kc + mc') (ks + ms') (pc + 3) LS (v.toList ++ rest)) : V M g ad F kc ks pc LS ST := by
  refine V_run (.ref (ad r) :: As).toArray (fun H locs ls a b c => ?_) k
  refine va_runIN (host := host) ⟨X.1.1, X.1.2.1, X.1.2.2.1, X.1.2.2.2.1, X.1.2.2.2.2⟩ hM ⟨⟨⟨rfl, rfl, ?_, ?_, ?_, List.mem_cons_self⟩, X.1.2.2.2.2 _ w1, X.1.2.2.2.2 _ w2, w3, ?_, va_Nw.use rfl w5⟩, w6, X.1.2.2.2.2 _ w7⟩ ⟨PcK.blind, pc_at X a b⟩ rfl hn c.1 hst (lv_room hcat) d ⟨by rw [X.2.2.2.2.1]; exact h1, by rw [X.2.2.2.2.1]; exact h2⟩
  · rw [X.2.2.2.2.1]; exact hlv
  · rw [X.2.2.2.2.1]; show 8 + (nL' + 11) + 42 * n' ≤ 42 * n; omega
  · intro w hw a' U hW
    rcases List.mem_cons.mp hw with rfl | hw
    · exact ws_warm X.1.2.2.2.2 w1 a' U hW
    · exact ws_warm X.1.2.2.2.2 hw a' U hW
  · intro sig h; rw [h] at w4; exact (Option.some.inj w4).symm
/-- an abstract method named, the receiver's own run -/
theorem r_callU (X : Cx M g y cc ret n mc ms tb K KX) {x : MethodName} {owner : String} {r ci : Nat} {q : vw_C} {fs : List Value} (d : decode cc pc = .ok (.invokevirtual idx, 3)) (w1 : Cond.code y' cy' nL' ret' ∈ WS) (w2 : Cond.initialized y'.cls ∈ WS) (w3 : owner ≠ "java/lang/invoke/MethodHandle" ∧ owner ≠ "java/lang/invoke/VarHandle") (w4 : (parseMethodDescriptor x.desc).map (fun d => d.parameters.length) = some np) (w5 : Cond.methodLink y.cls idx x ∈ WS) (w6 : Cond.sameMethod x.cls owner x.name x.desc ∈ WS) (w7 : va_Nw (.declares ⟨owner, x.name, x.desc⟩) (mS M)) (w8 : Cond.selects q.1 x y' ∈ WS) (w9 : Cond.instanceMethod y' ∈ WS)
    (hM : Ct g (mL M) y' cy' nL' ret' n' mc' ms' (.ref (ad r) :: As) ad F K') (hrc : F r = some (.inr (ci, fs))) (hq : vwCl[ci]? = some q) (hn : As.length = np) (hst : ST = As.reverse ++ .ref (ad r) :: rest) (hcat : (rest.map fun v => v.category).sum ≤ 8) (hlv : n' < n) (hml : nL' ≤ 23) (h1 : kc + mc' ≤ mc) (h2 : ks + ms' ≤ ms)
    (k : ∀ v ad' F', K' v ad' F' → V M g ad' F' (kc + mc') (ks + ms') (pc + 3) LS (v.toList ++ rest)) : V M g ad F kc ks pc LS ST := by
  refine V_run (.ref (ad r) :: As).toArray (fun H locs ls a b c => ?_) k
  refine va_runU (x := x) (owner := owner) (C := q.1) ⟨X.1.1, X.1.2.1, X.1.2.2.1, X.1.2.2.2.1, X.1.2.2.2.2⟩ hM ⟨⟨rfl, rfl, ?_, ?_, ?_, List.mem_cons_self⟩, X.1.2.2.2.2 _ w1, X.1.2.2.2.2 _ w2, w3, ?_, X.1.2.2.2.2 _ w5, X.1.2.2.2.2 _ w6, va_Decl.abs w7, X.1.2.2.2.2 _ w8, X.1.2.2.2.2 _ w9⟩ ⟨PcK.blind, va_recv X.2.1.2.2.2.1 (a.one hrc ne_ob) (ci := ci) (q0 := 0) hq rfl, pc_at X a b⟩ rfl hn c.1 hst (lv_room hcat) d ⟨by rw [X.2.2.2.2.1]; exact h1, by rw [X.2.2.2.2.1]; exact h2⟩
  · rw [X.2.2.2.2.1]; exact hlv
  · rw [X.2.2.2.2.1]; show 8 + (nL' + 11) + 42 * n' ≤ 42 * n; omega
  · intro w hw a' U hW
    rcases List.mem_cons.mp hw with rfl | hw
    · exact ws_warm X.1.2.2.2.2 w1 a' U hW
    · exact ws_warm X.1.2.2.2.2 hw a' U hW
  · intro sig h; rw [h] at w4; exact (Option.some.inj w4).symm
/-! a callee that may throw: what it throws goes on to the caller -/
theorem V_runX (X : Cx M g y cc ret n mc ms [] K KX) (a0 : Array Value) (h1 : kc + mc' ≤ mc) (h2 : ks + ms' ≤ ms) (hr : ∀ (H : Heap) (locs : List Loc) (ls : Array Slot), HP g ad F H → va_S (gA g) (mS M).heap H locs → lvs ls (mN M) LS →
      vx_Run (mP M) (mL M) (mE M) (mR M) (mS M) (mM M) (mA M) (mB M) (mMe M) (mC M) H locs kc ks mc' ms' (F0 (mM M) pc ls ST) rest (QcK g K' a0) (XcK g KX') (gA g))
    (hx : ∀ E ad' F', KX' E ad' F' → KX E ad' F') (k : ∀ v ad' F', K' v ad' F' → V M g ad' F' (kc + mc') (ks + ms') (pc + 3) LS (v.toList ++ rest)) : V M g ad F kc ks pc LS ST := by
  intro H locs ls a b c T hT X0
  rcases hr H locs ls a b c T hT X0 with ⟨v, st0, t, T', L, h0, X', hL, e1, e2, ⟨⟨v', ad', F', hv, hK', hP'⟩, hF⟩, go⟩ | ⟨q, st0, t, T', L, E, ce, h0, X', hL, e1, e2, ⟨ad', F', hKX, hP', hF⟩, hce, hcv, hcl, go⟩
  · cases hv
    have hS' : va_S (gA g) (mS M).heap T'.heap (locs ++ L) := (vx_keep h0 e1 b (fun _ _ q => q) (fun _ q => q) hL hF).2.2
    obtain ⟨t9, s9, q9⟩ := k v ad' F' hK' T'.heap (locs ++ L) ls (by rw [e1]; exact hP') hS' c T' rfl X'
    exact ⟨t9, go t9 s9, q9⟩
  · have hS' : va_S (gA g) (mS M).heap T'.heap (locs ++ L) := (vx_keep h0 e1 b (fun _ _ q => q) (fun _ q => q) hL hF).2.2
    have hW : vx_W (mP M) (mL M) (mE M) (mR M) (mS M) (mM M) (mA M) (mB M) (mMe M) (mC M) T'.heap (locs ++ L) (kc + mc') (ks + ms') (mQ M) (F0 (mM M) pc ls rest) q := by
      rw [X.2.2.2.2.2.1]
      refine vx_out (fun x hx => by rw [X.2.2.2.1] at hx; cases hx) X.2.1.2.1 (by rw [e1]; exact hce) hcv hcl (fun t9 ht9 _ => ⟨ad', F', hx E ad' F' hKX, by rw [ht9, e1]; exact hP', ?_⟩) hS'.2.2 h1 h2
      exact hS'.F ht9
    obtain ⟨t9, s9, q9⟩ := hW T' rfl X'
    exact ⟨t9, go.trans s9, q9⟩
theorem r_callVX (X : Cx M g y cc ret n mc ms [] K KX) {r ci : Nat} {q : vw_C} {fs : List Value} (d : decode cc pc = .ok (.invokevirtual idx, 3)) (w : WVt y.cls idx y' cy' nL' ret' np) (hM : CtX g (mL M) y' cy' nL' ret' n' mc' ms' (.ref (ad r) :: As) ad F K' KX') (hrc : F r = some (.inr (ci, fs))) (hq : vwCl[ci]? = some q) (hcl : q.1 = y'.cls) (hn : As.length = np)
    (hst : ST = As.reverse ++ .ref (ad r) :: rest) (hcat : (rest.map fun v => v.category).sum ≤ 8) (hlv : n' < n) (hml : nL' ≤ 23) (h1 : kc + mc' ≤ mc) (h2 : ks + ms' ≤ ms) (hx : ∀ E ad' F', KX' E ad' F' → KX E ad' F')
    (k : ∀ v ad' F', K' v ad' F' → V M g ad' F' (kc + mc') (ks + ms') (pc + 3) LS (v.toList ++ rest)) : V M g ad F kc ks pc LS ST := by
  obtain ⟨w1, w2, w3⟩ := w
  refine V_runX X (.ref (ad r) :: As).toArray h1 h2 (fun H locs ls a b c => ?_) hx k
  refine vx_runV ⟨X.1.1, X.1.2.1, X.1.2.2.1, X.1.2.2.2.1, X.1.2.2.2.2⟩ hM ⟨callB_w X.1.2.2.2.2 w1 X.2.2.2.2.1 hlv hml, X.1.2.2.2.2 _ w2, X.1.2.2.2.2 _ w3⟩ ⟨PcK.blind, ?_, pc_at X a b⟩ rfl hn c.1 hst (lv_room hcat) d ⟨by rw [X.2.2.2.2.1]; exact h1, by rw [X.2.2.2.2.1]; exact h2⟩
  rw [← hcl]
  exact va_recv X.2.1.2.2.2.1 (a.one hrc ne_ob) (ci := ci) (q0 := 0) hq rfl
theorem r_callSX (X : Cx M g y cc ret n mc ms [] K KX) (d : decode cc pc = .ok (.invokestatic idx, 3)) (w : WSt y.cls idx y' cy' nL' ret' np) (hM : CtX g (mL M) y' cy' nL' ret' n' mc' ms' As ad F K' KX') (hn : As.length = np)
    (hst : ST = As.reverse ++ rest) (hcat : (rest.map fun v => v.category).sum ≤ 8) (hlv : n' < n) (hml : nL' ≤ 23) (h1 : kc + mc' ≤ mc) (h2 : ks + ms' ≤ ms) (hx : ∀ E ad' F', KX' E ad' F' → KX E ad' F')
    (k : ∀ v ad' F', K' v ad' F' → V M g ad' F' (kc + mc') (ks + ms') (pc + 3) LS (v.toList ++ rest)) : V M g ad F kc ks pc LS ST := by
  obtain ⟨w1, w2⟩ := w
  refine V_runX X As.toArray h1 h2 (fun H locs ls a b c => ?_) hx k
  exact vx_runS ⟨X.1.1, X.1.2.1, X.1.2.2.1, X.1.2.2.2.1, X.1.2.2.2.2⟩ hM ⟨callB_w X.1.2.2.2.2 w1 X.2.2.2.2.1 hlv hml, X.1.2.2.2.2 _ w2⟩ ⟨PcK.blind, pc_at X a b⟩ rfl hn c.1 hst (lv_room hcat) d ⟨by rw [X.2.2.2.2.1]; exact h1, by rw [X.2.2.2.2.1]; exact h2⟩
theorem r_mmin (X : Cx M g y cc ret n mc ms tb K KX) {x z : Int} (d : decode cc pc = .ok (.invokestatic idx, 3)) (w1 : Cond.methodLink y.cls idx Lib.Math.min.name ∈ WS) (w2 : Cond.static Lib.Math.min.name ∈ WS) (w3 : Cond.initialized "java/lang/Math" ∈ WS) (w4 : Cond.code Lib.Math.min.name Lib.Math.min.code 2 (some .int) ∈ WS) (hx : inR x) (hz : inR z) (hcat : (ST.map fun v => v.category).sum ≤ 8) (hlv : 0 < n) (h1 : kc ≤ mc) (h2 : ks ≤ ms)
    (k : V M g ad F kc ks (pc + 3) LS (.int (zI (min x z)) :: ST)) : V M g ad F kc ks pc LS (.int (zI z) :: .int (zI x) :: ST) := fun H locs ls a b c => by
  refine va_mmin X.1.1 X.1.2.1 (X.1.2.2.1.trans c.1.symm) X.1.2.2.2.1 (X.1.2.2.2.2 _ w1) (X.1.2.2.2.2 _ w2) (X.1.2.2.2.2 _ w3) (X.1.2.2.2.2 _ w4) (by rw [X.2.2.2.2.1]; exact hlv) (by rw [X.2.2.2.2.1]; show _ + 13 ≤ 42 * n; omega) (by rw [X.2.2.2.2.1]; exact h1) (by rw [X.2.2.2.2.1]; exact h2) d ?_
  have e : (if zI z < zI x then zI z else zI x) = zI (min x z) := by
    by_cases h : z < x
    · rw [if_pos ((zI_lt hz hx).mpr h), Int.min_def, if_neg (by omega)]
    · rw [if_neg (fun q => h ((zI_lt hz hx).mp q)), Int.min_def, if_pos (by omega)]
  rw [e]
  exact k H locs ls a b c
theorem r_mmax (X : Cx M g y cc ret n mc ms tb K KX) {x z : Int} (d : decode cc pc = .ok (.invokestatic idx, 3)) (w1 : Cond.methodLink y.cls idx Lib.Math.max.name ∈ WS) (w2 : Cond.static Lib.Math.max.name ∈ WS) (w3 : Cond.initialized "java/lang/Math" ∈ WS) (w4 : Cond.code Lib.Math.max.name Lib.Math.max.code 2 (some .int) ∈ WS) (hx : inR x) (hz : inR z) (hcat : (ST.map fun v => v.category).sum ≤ 8) (hlv : 0 < n) (h1 : kc ≤ mc) (h2 : ks ≤ ms)
    (k : V M g ad F kc ks (pc + 3) LS (.int (zI (max x z)) :: ST)) : V M g ad F kc ks pc LS (.int (zI z) :: .int (zI x) :: ST) := fun H locs ls a b c => by
  refine va_mmax X.1.1 X.1.2.1 (X.1.2.2.1.trans c.1.symm) X.1.2.2.2.1 (X.1.2.2.2.2 _ w1) (X.1.2.2.2.2 _ w2) (X.1.2.2.2.2 _ w3) (X.1.2.2.2.2 _ w4) (by rw [X.2.2.2.2.1]; exact hlv) (by rw [X.2.2.2.2.1]; show _ + 13 ≤ 42 * n; omega) (by rw [X.2.2.2.2.1]; exact h1) (by rw [X.2.2.2.2.1]; exact h2) d ?_
  have e : (if zI x < zI z then zI z else zI x) = zI (max x z) := by
    by_cases h : x < z
    · rw [if_pos ((zI_lt hx hz).mpr h), Int.max_def, if_pos (by omega)]
    · rw [if_neg (fun q => h ((zI_lt hx hz).mp q)), Int.max_def]
      by_cases h3 : x ≤ z
      · rw [if_pos h3, show z = x by omega]
      · rw [if_neg h3]
  rw [e]
  exact k H locs ls a b c
end Calls
