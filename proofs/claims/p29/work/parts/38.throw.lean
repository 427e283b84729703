/-! ===== throwing ===== -/
def xNs : List String := ["java/lang/RuntimeException", "java/lang/Exception"]
def B6 : List Cond := [.declares (Bundle.initS "java/lang/RuntimeException"), .declares (Bundle.initS "java/lang/Exception"), .declares (Bundle.initS Bundle.tN), .castable xIA xIA, .castable xIS xIS, .castable xIO xIO]
theorem B6m {w : Cond} (i : Nat) (h : B6[i]? = some w) : w ∈ B6 := List.mem_of_getElem? h
theorem ww {w : Cond} (i : Nat) (h : tables_1[i]? = some w) (hg : goodWord w = true) : w ∈ WS := ws_in (List.mem_of_getElem? h) hg
def FA (L : List Cond) : Prop := ∀ w ∈ L, vx_no w = true → (w ∈ WS ∧ goodWord w = true) ∨ (w ∈ B6 ∧ w.onTables = true)
theorem fa0 : FA [] := fun _ h => nomatch h
theorem faw {a : Cond} {l : List Cond} (h : a ∈ WS) (t : FA l) : FA (a :: l) := fun w hw hn => (List.mem_cons.mp hw).elim (fun e => by rw [e]; exact .inl ⟨h, (List.mem_filter.mp h).2⟩) (fun h' => t w h' hn)
theorem b6t : ∀ w ∈ B6, w.onTables = true := fun w hw => by
  simp only [B6, List.mem_cons, List.not_mem_nil, or_false] at hw
  rcases hw with rfl | rfl | rfl | rfl | rfl | rfl <;> rfl
theorem faz {a : Cond} {l : List Cond} (h : a ∈ B6) (t : FA l) : FA (a :: l) := fun w hw hn => (List.mem_cons.mp hw).elim (fun e => by rw [e]; exact .inr ⟨h, b6t _ h⟩) (fun h' => t w h' hn)
theorem fan {a : Cond} {l : List Cond} (h : vx_no a = false) (t : FA l) : FA (a :: l) := fun w hw hn => (List.mem_cons.mp hw).elim (fun e => by rw [e, h] at hn; cases hn) (fun h' => t w h' hn)
theorem fa_app {a b : List Cond} (h1 : FA a) (h2 : FA b) : FA (a ++ b) := fun w hw hn => (List.mem_append.mp hw).elim (fun h => h1 w h hn) (fun h => h2 w h hn)
set_option maxRecDepth 100000 in
theorem at_thr : FA Bundle.throwableAtoms := faw (ww 6 rfl rfl) <| faw (ww 148 rfl rfl) <| faw (ww 157 rfl rfl) <| faw (ww 161 rfl rfl) <| faw (ww 164 rfl rfl) <| faw (ww 166 rfl rfl) <| faw (ww 149 rfl rfl) <| faw (ww 150 rfl rfl) <| faw (ww 28 rfl rfl) <| faw (ww 29 rfl rfl) <| faw (ww 151 rfl rfl) <| faw (ww 156 rfl rfl) <| faw (ww 162 rfl rfl) <| faw (ww 182 rfl rfl) <| faw (ww 138 rfl rfl) <| faw (ww 183 rfl rfl) <| faw (ww 140 rfl rfl) <| faw (ww 184 rfl rfl) <| faw (ww 142 rfl rfl) <| faw (ww 152 rfl rfl) <| fan rfl <| faw (ww 154 rfl rfl) <| fan rfl <| faw (ww 144 rfl rfl) <| fa0
set_option maxRecDepth 100000 in
theorem at_thrS : FA Bundle.throwableSAtoms := faw (ww 178 rfl rfl) <| faw (ww 179 rfl rfl) <| faw (ww 181 rfl rfl) <| faw (ww 144 rfl rfl) <| fa0
set_option maxRecDepth 100000 in
theorem at_p1 : FA (Bundle.passSAtoms "java/lang/RuntimeException" "java/lang/Exception" 7 Bundle.six) := faw (ww 172 rfl rfl) <| faw (ww 173 rfl rfl) <| faw (ww 174 rfl rfl) <| faw (ww 175 rfl rfl) <| faz (B6m 1 rfl) <| fa0
set_option maxRecDepth 100000 in
theorem at_p2 : FA (Bundle.passSAtoms "java/lang/Exception" Bundle.tN 7 Bundle.six) := faw (ww 175 rfl rfl) <| faw (ww 176 rfl rfl) <| faw (ww 177 rfl rfl) <| faw (ww 178 rfl rfl) <| faz (B6m 2 rfl) <| fa0
set_option maxRecDepth 100000 in
theorem at_pIA : FA (Bundle.passSAtoms xIA "java/lang/RuntimeException" 7 Bundle.six) := faw (ww 169 rfl rfl) <| faw (ww 170 rfl rfl) <| faw (ww 171 rfl rfl) <| faw (ww 172 rfl rfl) <| faz (B6m 0 rfl) <| fa0
set_option maxRecDepth 100000 in
theorem at_IA : FA (Bundle.ownAtoms RX5 179 xIA xNs) := fa_app (fa_app (fa_app at_thr at_thrS) (fa_app at_pIA (fa_app at_p1 at_p2))) (faw (ww 168 rfl rfl) <| faw (ww 127 rfl rfl) <| faz (B6m 3 rfl) <| faw (ww 135 rfl rfl) <| faw (ww 136 rfl rfl) <| faw (ww 137 rfl rfl) <| faw (ww 139 rfl rfl) <| faw (ww 141 rfl rfl) <| faw (ww 143 rfl rfl) <| fan rfl <| fan rfl <| faw (ww 147 rfl rfl) <| faw (ww 146 rfl rfl) <| faw (ww 145 rfl rfl) <| fa0)
set_option maxRecDepth 100000 in
theorem at_pIS : FA (Bundle.passSAtoms xIS "java/lang/RuntimeException" 7 Bundle.six) := faw (ww 212 rfl rfl) <| faw (ww 213 rfl rfl) <| faw (ww 214 rfl rfl) <| faw (ww 172 rfl rfl) <| faz (B6m 0 rfl) <| fa0
set_option maxRecDepth 100000 in
theorem at_IS : FA (Bundle.ownAtoms RX5 186 xIS xNs) := fa_app (fa_app (fa_app at_thr at_thrS) (fa_app at_pIS (fa_app at_p1 at_p2))) (faw (ww 211 rfl rfl) <| faw (ww 202 rfl rfl) <| faz (B6m 4 rfl) <| faw (ww 204 rfl rfl) <| faw (ww 159 rfl rfl) <| faw (ww 205 rfl rfl) <| faw (ww 206 rfl rfl) <| faw (ww 207 rfl rfl) <| faw (ww 208 rfl rfl) <| fan rfl <| fan rfl <| faw (ww 147 rfl rfl) <| faw (ww 146 rfl rfl) <| faw (ww 209 rfl rfl) <| fa0)
set_option maxRecDepth 100000 in
theorem at_pIO : FA (Bundle.passSAtoms xIO "java/lang/RuntimeException" 7 Bundle.six) := faw (ww 333 rfl rfl) <| faw (ww 334 rfl rfl) <| faw (ww 335 rfl rfl) <| faw (ww 172 rfl rfl) <| faz (B6m 0 rfl) <| fa0
set_option maxRecDepth 100000 in
theorem at_IO : FA (Bundle.ownAtoms RX5 191 xIO xNs) := fa_app (fa_app (fa_app at_thr at_thrS) (fa_app at_pIO (fa_app at_p1 at_p2))) (faw (ww 332 rfl rfl) <| faw (ww 323 rfl rfl) <| faz (B6m 5 rfl) <| faw (ww 325 rfl rfl) <| faw (ww 160 rfl rfl) <| faw (ww 326 rfl rfl) <| faw (ww 327 rfl rfl) <| faw (ww 328 rfl rfl) <| faw (ww 329 rfl rfl) <| fan rfl <| fan rfl <| faw (ww 147 rfl rfl) <| faw (ww 146 rfl rfl) <| faw (ww 330 rfl rfl) <| fa0)
theorem fa_good {own : String} {ic : Nat} {cls : String} {ns : List String} (h : FA (Bundle.ownAtoms own ic cls ns)) : ∀ w ∈ vx_atS own ic cls ns, vx_ot w = true := fun w hw => by
  obtain ⟨h1, h2⟩ := List.mem_filter.mp hw
  rcases h w h1 h2 with ⟨-, z⟩ | ⟨-, z⟩ <;> unfold vx_ot <;> rw [z] <;> simp
theorem fa_bef {g : Gx} {U : State} {A : Array Value} {own : String} {ic : Nat} {cls : String} {ns : List String} (h : FA (Bundle.ownAtoms own ic cls ns)) (hw : ∀ w ∈ WS, w.before A U = true) (hZ : Zw g U U.heap) : ∀ w ∈ vx_atS own ic cls ns, w.before A U = true := fun w hm => by
  obtain ⟨h1, h2⟩ := List.mem_filter.mp hm
  rcases h w h1 h2 with ⟨z, -⟩ | ⟨z, zt⟩
  · exact hw w z
  · obtain ⟨-, -, -, ⟨-, ⟨i1, i2, i3⟩, ⟨j1, j2, j3⟩, -⟩, -⟩ := hZ
    refine va_Nw.use zt ?_
    simp only [B6, List.mem_cons, List.not_mem_nil, or_false] at z
    rcases z with rfl | rfl | rfl | rfl | rfl | rfl
    · exact i1
    · exact i2
    · exact i3
    · exact j1
    · exact j2
    · exact j3
theorem HP.grown {g : Gx} {ad : Nat → Nat} {F : Pic} {H H1 : Heap} (h : HP g ad F H) (hq : ∀ q, q < H.size → H1[q]? = H[q]?) : HP g ad F H1 := by
  obtain ⟨L, h1, h2, h3, h4, h5⟩ := h
  exact ⟨L, h1, h2, h3.kept (fun k q hk => hq _ (h3 k q hk).lt), h4, fun r e hr hF => ⟨(h5 r e hr hF).1.kept (hq _ (h5 r e hr hF).1.lt), (h5 r e hr hF).2⟩⟩
section
variable {M : Mx} {g : Gx} {y : MethodName} {cc : ByteArray} {ret : Option FieldType} {n mc ms : Nat} {tb : List ExceptionTableEntry} {K : Option Value → (Nat → Nat) → Pic → Prop} {KX : String → (Nat → Nat) → Pic → Prop} {ad : Nat → Nat} {F : Pic} {kc ks pc : Nat} {LS : List (Option Value)} {rest : List Value}
theorem r_throwS (X : Cx M g y cc ret n mc ms tb K KX) {ik ist ic k : Nat} {cls text : String} (hy : y.cls = RX5)
    (d0 : decode cc pc = .ok (.new ik, 3)) (d3 : decode cc (pc + 3) = .ok (.dup, 1)) (d4 : decode cc (pc + 4) = .ok (.ldc ist, 2)) (d6 : decode cc (pc + 6) = .ok (.invokespecial ic, 3)) (d9 : decode cc (pc + 9) = .ok (.athrow, 1))
    (wk : Cond.classLink RX5 ik cls ∈ WS) (wi : Cond.initialized cls ∈ WS) (hfit : Bundle.fit cls = true) (hFA : FA (Bundle.ownAtoms RX5 ic cls xNs)) (hstr : Zw g (mS M) (mS M).heap → vk_R RX5 ist text (gn g k) (mS M))
    (htb : tb = []) (hn : 6 ≤ n) (hcat : (rest.map fun v => v.category).sum ≤ 8) (h1 : kc + 1 ≤ mc) (h2 : ks + 6 ≤ ms) (hX : KX cls ad F) : V M g ad F kc ks pc LS rest := fun H locs ls a b c => by
  have hZ : Zw g (mS M) (mS M).heap := X.2.1.2.2.2.2
  have hw := X.1.2.2.2.2
  rw [X.2.2.2.2.2.1]
  refine vx_throwS (A := gA g) (names := xNs) X.1.1 X.1.2.1 X.2.2.2.2.2.2 (by rw [← hy]; exact X.1.2.2.2.1) hfit (by decide) (hw _ wk) (hw _ wi) (hstr hZ) (fa_bef hFA hw hZ) (fun w hm => ?_) hZ.2.2.2.1.1.1 hZ.2.2.2.1.1.2 b (c.1.trans X.1.2.2.1.symm) d0 d3 d4 d6 d9 (fun x hx => by rw [X.2.2.2.1, htb] at hx; cases hx)
    (by rw [X.2.2.2.2.1]; show xNs.length + 3 < n; rw [show xNs.length = 2 from rfl]; omega) (by rw [X.2.2.2.2.1]; show _ + (13 * (xNs.length + 1) + 43) ≤ 42 * n; rw [show xNs.length = 2 from rfl]; omega) (by rw [X.2.2.2.2.1]; show kc + 1 ≤ mc; exact h1) (by rw [X.2.2.2.2.1]; show ks + 6 ≤ ms; exact h2) X.2.1.2.1 (fun t ht hs hq => ⟨ad, F, hX, a.grown hq, Nat.le_trans b.1 hs, fun q hq1 hq2 => (hq q (Nat.lt_of_lt_of_le hq1 b.1)).trans (b.2.1 q hq1 hq2)⟩) b.2.2 h1 h2
  rcases List.mem_cons.mp hm with rfl | hm
  · rfl
  · rcases List.mem_cons.mp hm with rfl | hm
    · rfl
    · exact fa_good hFA w hm
end
