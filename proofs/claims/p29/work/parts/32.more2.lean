/-! ===== many new cells; lists' rows ===== -/
-- arraycopy of references, each element of a class of its own (after the kit's va_copyq)
section CopyM
variable {p : Program} {l : Launch} {e : Env} {R : Room} {s : State} {m : MethodId} {args : Array Value} {below : List Frame} {meth : Method} {c : Code} {H : Heap} {locs : List Loc} {cells slots : Nat} {Q : State → Prop}
variable {cc : ByteArray} {pc : Nat} {ls : Array Slot} {rest : List Value} {D : va_G} {cl : List vw_C} {A : Nat → Prop} {a : Nat} {tys : List (ClassId × FieldType)} {ws : va_W} {H0 : Heap}
theorem va_copyqM {cc : ByteArray} (hexec : p.tables.exec = Jvm.exec) (hb : c.code = cc) (hml : c.maxLocals = ls.size) {own : String} {index : Nat} (hown : s.vm.findClass own = some m.cls) (hlink : (Cond.methodLink own index arraycopyName).before args s = true) (hnat : (Cond.native arraycopyName).before args s = true) (hstat : (Cond.static arraycopyName).before args s = true) (hini : (Cond.initialized "java/lang/System").before args s = true)
    (hK : va_K D cl tys s) (hP : va_P D cl ws H) (hD : va_D A ws) (hS : va_S A H0 H locs) (q0 q1 t0 t1 : Nat) {a0 : Nat} {c0 c1 : ClassId} {n0 n1 : Nat} {f g : Nat → Option Nat} {E0 E1 : String} (ha0 : ws[q0]? = some (a0, .inl (c0, n0, .inr (.inr (.inr (.inr f)))))) (ha1 : ws[q1]? = some (a, .inl (c1, n1, .inr (.inr (.inr (.inr g)))))) (ht0 : tys[t0]? = some (c0, .object E0)) (ht1 : tys[t1]? = some (c1, .object E1))
    {sp dp n : Int32} (h1 : ¬ sp < 0) (h2 : ¬ dp < 0) (h3 : ¬ n < 0) (h4 : sp.toNatClampNeg + n.toNatClampNeg ≤ n0) (h5 : dp.toNatClampNeg + n.toNatClampNeg ≤ n1) (hel : ∀ i : Nat, i < n.toNatClampNeg → ∀ y : Nat, f (sp.toNatClampNeg + i) = some y → ∃ (cellV : Cell) (C : String), H[y]? = some cellV ∧ cellV.vm.isStatics = false ∧ s.vm.findClass C = some cellV.cls ∧ va_Nw (.castable C E1) s)
    (hframes : 1 ≤ R.frames) (hlocals : (rest.map fun v => v.category).sum + (nativeFrameWords "java/lang/System" "arraycopy" 5 + 11) ≤ R.locals) (hdg : decode cc pc = .ok (.invokestatic index, 3))
    (kk : ∀ (H1 : Heap) (locs1 : List Loc), va_P D cl (ws.set q1 (a, .inl (c1, n1, .inr (.inr (.inr (.inr (va_cpy f g sp.toNatClampNeg dp.toNatClampNeg n.toNatClampNeg))))))) H1 → va_D A (ws.set q1 (a, .inl (c1, n1, .inr (.inr (.inr (.inr (va_cpy f g sp.toNatClampNeg dp.toNatClampNeg n.toNatClampNeg))))))) → va_S A H0 H1 locs1 → W p l e R s m args below meth c H1 locs1 cells slots Q (F0 m (pc + 3) ls rest)) : W p l e R s m args below meth c H locs cells slots Q (F0 m pc ls (.int n :: .int dp :: .ref a :: .int sp :: .ref a0 :: rest)) := by
  have nn : ∀ z : Int32, ¬ z < 0 → z.toInt = (z.toNatClampNeg : Int) := by
    intro z hz
    have hz0 : (0 : Int) ≤ z.toInt := by
      have := Int32.not_lt.mp hz
      simpa using Int32.le_iff_toInt_le.mp this
    show z.toInt = ((z.toInt.toNat : Nat) : Int)
    omega
  intro T hT X
  have hc0 : H[a0]? = some (vp_cell c0 (n0, .inr (.inr (.inr (.inr f))))) := hP q0 _ ha0
  have hc1 : H[a]? = some (vp_cell c1 (n1, .inr (.inr (.inr (.inr g))))) := hP q1 _ ha1
  obtain ⟨-, k0, hk0, cm0, hkk0⟩ := (hK.2 t0 _ ht0).1 n0 (fun j => va_rf (f j))
  obtain ⟨-, k1, hk1, cm1, hkk1⟩ := (hK.2 t1 _ ht1).1 n1 (fun j => va_rf (g j))
  obtain ⟨vm', X', step⟩ := X.arraycopy hexec hown hlink hnat hstat hini (src := a0) (dst := a) (cs := vp_cell c0 (n0, .inr (.inr (.inr (.inr f))))) (cd := vp_cell c1 (n1, .inr (.inr (.inr (.inr g))))) (srcPos := sp) (destPos := dp) (n := n) (by rw [hT]; exact hc0) (by rw [hT]; exact hc1)
    (fun _ h => by cases h) (fun _ h => by cases h) (fun h => by cases h) (fun h => by cases h) hk0 hk1 hkk0 hkk1 rfl h1 h2 h3
    (by rw [nn sp h1, nn n h3]; show ¬ _ > ((arrV c0 n0 (fun j => va_rf (f j))).slots.size : Int); rw [arrV_size]; omega)
    (by rw [nn dp h2, nn n h3]; show ¬ _ > ((arrV c1 n1 (fun j => va_rf (g j))).slots.size : Int); rw [arrV_size]; omega)
    (fun vm₁ hal i hi => by
      have e : (vp_cell c0 (n0, .inr (.inr (.inr (.inr f))))).slots.getD (sp.toNatClampNeg + i) .null = va_rf (f (sp.toNatClampNeg + i)) := by
        show (arrV c0 n0 (fun j => va_rf (f j))).slots.getD _ _ = _
        rw [Array.getD_eq_getD_getElem?, arrV_read _ _ (by omega)]
        rfl
      rw [e]
      cases hy : f (sp.toNatClampNeg + i) with
      | none => exact ⟨rfl, trivial⟩
      | some y =>
        obtain ⟨cellV, C, g1, g2, g3, hca⟩ := hel i hi y hy
        obtain ⟨c9, t9, f1, f2, f3⟩ := Cond.castable_spec (va_Nw.use (A := args) rfl hca)
        obtain ⟨kA, comp, r1, r2, r3, -⟩ := (hK.2 t1 _ ht1).2
        cases hk1.symm.trans r1
        cases hkk1.symm.trans r2
        obtain ⟨kC, hkC, -⟩ := Vm.findClass_spec g3
        obtain ⟨kE, hkE, -⟩ := Vm.findClass_spec r3
        obtain ⟨kC', hkC', -⟩ := hal.2.2 _ _ hkC
        obtain ⟨kE', hkE', -⟩ := hal.2.2 _ _ hkE
        refine ⟨rfl, cellV, (show T.heap[y]? = some cellV by rw [hT]; exact g1), (fun q h => by rw [h] at g2; cases g2), ⟨kC', hkC'⟩, ?_, ?_⟩
        · exact ⟨kE', hkE'⟩
        · show vm₁.assignable _ _ = true
          rw [hal.assignable]
          cases g3.symm.trans f1
          cases r3.symm.trans f2
          exact f3)
    (g := F0 m pc ls (.int n :: .int dp :: .ref a :: .int sp :: .ref a0 :: rest)) rfl (by rw [hml]) (rest := rest) rfl (by rw [hb]; exact hdg) hframes (by show 2 * 0 + _ + _ ≤ _; omega)
  have e1 : copied (vp_cell c0 (n0, .inr (.inr (.inr (.inr f))))) (vp_cell c1 (n1, .inr (.inr (.inr (.inr g))))) sp dp n = vp_cell c1 (n1, .inr (.inr (.inr (.inr (va_cpy f g sp.toNatClampNeg dp.toNatClampNeg n.toNatClampNeg))))) := by
    rw [vp_cell_q, vp_cell_q, vp_cell_q]
    exact va_copied (fun z => va_rf z) c0 c1 f g h4
  rw [e1] at X' step
  have hl : a < H.size := (Array.getElem?_eq_some_iff.mp hc1).1
  have hheap : ((T.setVm vm').setCell a (vp_cell c1 (n1, .inr (.inr (.inr (.inr (va_cpy f g sp.toNatClampNeg dp.toNatClampNeg n.toNatClampNeg))))))).heap = H.setIfInBounds a (vp_cell c1 (n1, .inr (.inr (.inr (.inr (va_cpy f g sp.toNatClampNeg dp.toNatClampNeg n.toNatClampNeg)))))) := by rw [← hT]; rfl
  have oq : ∀ q : Nat, q ≠ a → (H.setIfInBounds a (vp_cell c1 (n1, .inr (.inr (.inr (.inr (va_cpy f g sp.toNatClampNeg dp.toNatClampNeg n.toNatClampNeg)))))))[q]? = H[q]? := fun q hq => by simp [Array.getElem?_setIfInBounds, Ne.symm hq]
  obtain ⟨t, a1, b1⟩ := kk _ _ (hP.set hD ha1 (show (H.setIfInBounds a _)[a]? = some _ by simp [Array.getElem?_setIfInBounds, hl]) oq) (hD.set ha1) ⟨by simp; exact hS.1, fun q g1 g2 => by
      rw [oq q (fun e => g2 (by rw [e]; exact hD.2 q1 _ ha1))]
      exact hS.2.1 q g1 g2, fun q hq => by
      rcases List.mem_append.mp hq with h | h
      · exact hS.2.2 q h
      · obtain ⟨z, -, hz⟩ := List.mem_map.mp h
        rw [← hz]
        exact hD.2 q1 _ ha1⟩ _ hheap X'
  exact ⟨t, step t a1, b1⟩
end CopyM
theorem HP.add1 {g : Gx} {ad ad' : Nat → Nat} {F : Pic} {H : Heap} {r q : Nat} {e : va_E} (h : HP g ad F H) (hr : 100 ≤ r) (hF : F r = none) (he : va_at (gD g) vwCl (q, e) H) (hq : gz g ≤ q) (hne : ∀ x e', F x = some e' → 100 ≤ x → ad x ≠ q) (hx : ∀ x, F x ≠ none → ad' x = ad x) (hr' : ad' r = q) : HP g ad' (pu F r e) H := by
  obtain ⟨L, h1, h2, h3, h4, h5⟩ := h
  have hnm : r ∉ L := fun z => ((h2 r).mp z).2 hF
  have hw : wl ad' (pu F r e) (L ++ [r]) = wl ad F L ++ [(q, e)] := by
    unfold wl
    rw [List.map_append]
    congr 1
    · refine List.map_congr_left (fun x hxL => ?_)
      rw [hx x ((h2 x).mp hxL).2, pu_n (show x ≠ r from fun z => hnm (z ▸ hxL))]
    · simp [pu_s, hr']
  refine ⟨L ++ [r], ?_, fun x => ?_, ?_, ?_, fun x e9 hx9 he9 => ?_⟩
  · refine List.nodup_append.mpr ⟨h1, by simp, fun a ha b hb => ?_⟩
    rw [List.mem_singleton.mp hb]
    exact fun z => hnm (z ▸ ha)
  · rw [List.mem_append, h2 x, List.mem_singleton]
    by_cases hxr : x = r
    · subst hxr
      rw [pu_s]
      exact ⟨fun _ => ⟨hr, fun z => by cases z⟩, fun _ => Or.inr rfl⟩
    · rw [pu_n hxr]
      exact ⟨fun z => z.elim id (fun z => absurd z hxr), Or.inl⟩
  · rw [hw]
    refine h3.app (fun k x hk => ?_)
    have h0 : k < 1 := (List.getElem?_eq_some_iff.mp hk).1
    rw [show k = 0 by omega] at hk
    cases hk
    exact he
  · rw [hw]
    have old : ∀ (k : Nat) (x : Nat × va_E), (wl ad F L)[k]? = some x → x.1 ≠ q := fun k x hk => by
      have hm := List.mem_of_getElem? hk
      unfold wl at hm
      obtain ⟨y, hy, rfl⟩ := List.mem_map.mp hm
      obtain ⟨y1, y2⟩ := (h2 y).mp hy
      cases hc : F y with
      | none => exact absurd hc y2
      | some e9 => exact hne y e9 hc y1
    refine ⟨fun i j a b hi hj hab => ?_, fun k x hk => ?_⟩
    · by_cases c1 : i < (wl ad F L).length
      · rw [List.getElem?_append_left c1] at hi
        by_cases c2 : j < (wl ad F L).length
        · rw [List.getElem?_append_left c2] at hj
          exact h4.1 i j a b hi hj hab
        · rw [List.getElem?_append_right (by omega)] at hj
          have h0 : j - (wl ad F L).length < 1 := (List.getElem?_eq_some_iff.mp hj).1
          rw [show j - (wl ad F L).length = 0 by omega] at hj
          cases hj
          exact absurd hab (old i a hi)
      · rw [List.getElem?_append_right (by omega)] at hi
        have h0 : i - (wl ad F L).length < 1 := (List.getElem?_eq_some_iff.mp hi).1
        by_cases c2 : j < (wl ad F L).length
        · rw [List.getElem?_append_left c2] at hj
          rw [show i - (wl ad F L).length = 0 by omega] at hi
          cases hi
          exact absurd hab.symm (old j b hj)
        · rw [List.getElem?_append_right (by omega)] at hj
          have h9 : j - (wl ad F L).length < 1 := (List.getElem?_eq_some_iff.mp hj).1
          omega
    · by_cases c1 : k < (wl ad F L).length
      · rw [List.getElem?_append_left c1] at hk
        exact h4.2 k x hk
      · rw [List.getElem?_append_right (by omega)] at hk
        have h0 : k - (wl ad F L).length < 1 := (List.getElem?_eq_some_iff.mp hk).1
        rw [show k - (wl ad F L).length = 0 by omega] at hk
        cases hk
        exact hq
  · rw [pu_n (by omega)] at he9
    obtain ⟨a1, a2⟩ := h5 x e9 hx9 he9
    have hxx : ad' x = ad x := hx x (by rw [he9]; exact fun z => by cases z)
    rw [hxx]
    exact ⟨a1, a2⟩
/-- the same cells in a later heap -/
theorem HP.kept {g : Gx} {ad : Nat → Nat} {F : Pic} {H H1 : Heap} (h : HP g ad F H) (hk : ∀ q, q < H.size → H1[q]? = H[q]?) : HP g ad F H1 := by
  obtain ⟨L, h1, h2, h3, h4, h5⟩ := h
  exact ⟨L, h1, h2, h3.kept (fun k q hq => hk _ (h3 k q hq).lt), h4, fun r e hr he => ⟨(h5 r e hr he).1.kept (hk _ (h5 r e hr he).1.lt), (h5 r e hr he).2⟩⟩
theorem HP.lt {g : Gx} {ad : Nat → Nat} {F : Pic} {H : Heap} (h : HP g ad F H) {r : Nat} {e : va_E} (hF : F r = some e) : ad r < H.size := (h.old hF).elim (fun q => q.lt) (fun q => q.lt)
theorem HP.ext {g : Gx} {ad : Nat → Nat} {F : Pic} {H : Heap} {r : Nat} {cA : ClassId} {n : Nat} {f f' : Nat → Option Nat} (h : HP g ad F H) (hF : F r = some (.inl (cA, n, .inr (.inr (.inr (.inr f)))))) (hf : ∀ i, i < n → f' i = f i) (hr : 100 ≤ r) : HP g ad (pu F r (.inl (cA, n, .inr (.inr (.inr (.inr f')))))) H := by
  obtain ⟨ws, hP, hD, hput, -⟩ := h.opn
  obtain ⟨k, hk, hset⟩ := hput r _ hF hr
  have e : vp_cell cA (n, .inr (.inr (.inr (.inr f')))) = vp_cell cA (n, .inr (.inr (.inr (.inr f)))) := by
    rw [vp_cell_q, vp_cell_q]
    unfold arrV
    congr 1
    exact congrArg Array.ofFn (funext fun j => congrArg va_rf (hf j.val j.isLt))
  refine hset _ H (fun i q hi => ?_) (hD.set hk) (fun _ _ => rfl)
  rw [List.getElem?_set] at hi
  split at hi
  · next hki =>
    split at hi
    · cases hi
      have h9 := hP k _ hk
      show H[ad r]? = some (vp_cell cA (n, .inr (.inr (.inr (.inr f')))))
      rw [e]
      exact h9
    · cases hi
  · exact hP i q hi
section Mna
variable {M : Mx} {g : Gx} {y : MethodName} {cc : ByteArray} {ret : Option FieldType} {n mc ms : Nat} {tb : List ExceptionTableEntry} {K : Option Value → (Nat → Nat) → Pic → Prop} {KX : String → (Nat → Nat) → Pic → Prop} {ad : Nat → Nat} {F : Pic} {kc ks pc : Nat} {LS : List (Option Value)} {ST rest : List Value}
/-- inner rows at the roles rI, rI + 1 .. -/
def pui (F : Pic) (rI N : Nat) (e : va_E) : Pic := fun x => if rI ≤ x ∧ x < rI + N then some e else F x
theorem HP.adds {g : Gx} {F : Pic} {H : Heap} {e : va_E} {rI : Nat} {r : Nat → Nat} : ∀ (N : Nat) (ad : Nat → Nat), HP g ad F H → 100 ≤ rI → (∀ i, i < N → F (rI + i) = none) → (∀ i, i < N → va_at (gD g) vwCl (r i, e) H ∧ gz g ≤ r i) → (∀ i x e', i < N → F x = some e' → 100 ≤ x → ad x ≠ r i) → (∀ i j, i < N → j < N → r i = r j → i = j) → HP g (fun x => if rI ≤ x ∧ x < rI + N then r (x - rI) else ad x) (pui F rI N e) H := by
  intro N
  induction N with
  | zero =>
    intro ad h _ _ _ _ _
    have e1 : (fun x => if rI ≤ x ∧ x < rI + 0 then r (x - rI) else ad x) = ad := funext fun x => if_neg (by omega)
    have e2 : pui F rI 0 e = F := funext fun x => if_neg (by omega)
    rw [e1, e2]; exact h
  | succ N ih =>
    intro ad h h1 h2 h3 h4 h5
    have h9 := ih ad h h1 (fun i hi => h2 i (by omega)) (fun i hi => h3 i (by omega)) (fun i x e' hi => h4 i x e' (by omega)) (fun i j hi hj => h5 i j (by omega) (by omega))
    have e2 : pui F rI (N + 1) e = pu (pui F rI N e) (rI + N) e := funext fun x => by
      show (if rI ≤ x ∧ x < rI + (N + 1) then some e else F x) = (if x = rI + N then some e else if rI ≤ x ∧ x < rI + N then some e else F x)
      by_cases c : x = rI + N
      · rw [if_pos c, if_pos (by omega)]
      · rw [if_neg c]
        by_cases c2 : rI ≤ x ∧ x < rI + N
        · rw [if_pos c2, if_pos (by omega)]
        · rw [if_neg c2, if_neg (by omega)]
    rw [e2]
    refine h9.add1 (q := r N) (by omega) ((if_neg (by omega)).trans (h2 N (by omega))) (h3 N (by omega)).1 (h3 N (by omega)).2 (fun x e' hx h100 => ?_) (fun x hx => ?_) ?_
    · by_cases c2 : rI ≤ x ∧ x < rI + N
      · show (if rI ≤ x ∧ x < rI + N then r (x - rI) else ad x) ≠ r N
        rw [if_pos c2]
        exact fun q => by have := h5 (x - rI) N (by omega) (by omega) q; omega
      · show (if rI ≤ x ∧ x < rI + N then r (x - rI) else ad x) ≠ r N
        rw [if_neg c2]
        have e4 : pui F rI N e x = F x := if_neg c2
        rw [e4] at hx
        exact h4 N x e' (by omega) hx h100
    · show (if rI ≤ x ∧ x < rI + (N + 1) then r (x - rI) else ad x) = (if rI ≤ x ∧ x < rI + N then r (x - rI) else ad x)
      by_cases c2 : rI ≤ x ∧ x < rI + N
      · rw [if_pos c2, if_pos (by omega)]
      · rw [if_neg c2]
        by_cases c : x = rI + N
        · exfalso
          apply hx
          rw [c]
          exact (if_neg (by omega)).trans (h2 N (by omega))
        · rw [if_neg (by omega)]
    · show (if rI ≤ rI + N ∧ rI + N < rI + (N + 1) then r (rI + N - rI) else ad (rI + N)) = r N
      rw [if_pos (by omega), show rI + N - rI = N by omega]
theorem r_mna (X : Cx M g y cc ret n mc ms tb K KX) {idx : Nat} {z1 z2 : Int} (rO rI N K9 : Nat) (d : decode cc pc = .ok (.multianewarray idx 2, 4)) (w1 : Cond.classLink y.cls idx ("[" ++ (FieldType.array .int).toString) ∈ WS) (w2 : Cond.arrayClass .int ∈ WS) (hz1 : z1 = (N : Int)) (hz2 : z2 = (K9 : Int)) (hN : N ≤ 16) (hK9 : K9 ≤ 1000) (hO : 100 ≤ rO) (hI : 100 ≤ rI) (hOI : rO < rI) (nO : F rO = none) (nI9 : ∀ i, i < N → F (rI + i) = none) (h1 : kc + (1 + N) ≤ mc) (h2 : ks + (N + N * K9) ≤ ms)
    (kk : ∀ (ad' : Nat → Nat) (F' : Pic), (∀ x, x ≠ rO → (∀ i, i < N → x ≠ rI + i) → ad' x = ad x) → F' rO = some (cQ g N (fun i => some (ad' (rI + i % 16)))) → (∀ i, i < N → F' (rI + i) = some (cI g K9 (fun _ => 0))) → (∀ x, x ≠ rO → (∀ i, i < N → x ≠ rI + i) → F' x = F x) →
      V M g ad' F' (kc + 1 + N) (ks + N + N * K9) (pc + 4) LS (.ref (ad' rO) :: ST)) : V M g ad F kc ks pc LS (.int (zI z2) :: .int (zI z1) :: ST) := fun H locs ls a b c => by
  subst hz1 hz2
  obtain ⟨L, l1, l2, l3, l4, l5⟩ := id a
  have hKn : va_K (gD g) vwCl (gT g) (mS M) := X.2.1.2.2.2.1
  refine va_mna (X := wl ad F L) (L := []) (f := fun _ => .inr (0, [])) (N' := N) (K' := K9) (z := (K9, .inl (fun _ => 0))) (ty := .int) (cy := gc g 0) X.1.1 X.1.2.1 X.1.2.2.2.1 (X.1.2.2.2.2 _ w1) X.2.1.2.2.2.2.2.2.2.2.2.1 (X.1.2.2.2.2 _ w2) (hKn.2 0 _ rfl).2 hKn (by rw [show va_pl [] (fun _ => (.inr (0, []) : va_E)) = [] from rfl, List.append_nil]; exact l3) (by rw [show va_pl [] (fun _ => (.inr (0, []) : va_E)) = [] from rfl, List.append_nil]; exact l4) b (fun q hq => Nat.le_trans X.2.2.1 hq) (by rw [zI_nI]; exact nI_pos (by omega)) (by rw [zI_nI]; exact nI_pos (by omega)) (zI_cl (by omega)) (zI_cl (by omega)) (by omega) (by show K9 * 4 ≤ _; omega) (by omega) rfl rfl (by rw [X.2.2.2.2.1]; exact h1) (by rw [X.2.2.2.2.1]; exact h2) (fun cc9 => by
      show ({ cls := cc9, slots := Array.replicate K9 (.int 0), vm := .none } : Cell) = _
      rw [arrV_new]; rfl) d (fun q r cA H1 rinj _ hK1 p1 d1 s1 => ?_)
  have ec : cA = gc g 3 := fc_eq hKn (k := 3) rfl (hK1.2 4 (cA, .array .int) rfl).2
  subst ec
  rw [List.nil_append] at p1 d1
  generalize hov : (.inl (gc g 3, N, .inr (.inr (.inr (.inr (fun i => if i < N then some (r i) else none))))) : va_E) = eo at p1 d1
  have pos : ∀ i, i < N → ((wl ad F L ++ [(q, eo)]) ++ va_pl ((List.range N).map r) (vr_up (fun _ => (.inr (0, []) : va_E)) ((List.range N).map r) (.inl (gc g 0, (K9, .inl (fun _ => 0))))))[(wl ad F L).length + 1 + i]? = some (r i, cI g K9 (fun _ => 0)) := fun i hi => by
    rw [List.getElem?_append_right (by simp)]
    have e1 : (wl ad F L).length + 1 + i - (wl ad F L ++ [(q, eo)]).length = i := by simp
    rw [e1]
    unfold va_pl
    rw [List.getElem?_map, List.getElem?_map, List.getElem?_range hi]
    show some (r i, vr_up _ _ _ (r i)) = _
    rw [vr_up_in (List.mem_map.mpr ⟨i, List.mem_range.mpr hi, rfl⟩)]
  have posq : ((wl ad F L ++ [(q, eo)]) ++ va_pl ((List.range N).map r) (vr_up (fun _ => (.inr (0, []) : va_E)) ((List.range N).map r) (.inl (gc g 0, (K9, .inl (fun _ => 0))))))[(wl ad F L).length]? = some (q, eo) := by
    rw [List.getElem?_append_left (by simp), List.getElem?_append_right (Nat.le_refl _)]; simp
  have posx : ∀ (x : Nat) (e' : va_E), F x = some e' → 100 ≤ x → ∃ k : Nat, k < (wl ad F L).length ∧ ((wl ad F L ++ [(q, eo)]) ++ va_pl ((List.range N).map r) (vr_up (fun _ => (.inr (0, []) : va_E)) ((List.range N).map r) (.inl (gc g 0, (K9, .inl (fun _ => 0))))))[k]? = some (ad x, e') := fun x e' hx h100 => by
    obtain ⟨k, -, hk⟩ := wl_at (ad := ad) ((l2 x).mpr ⟨h100, by rw [hx]; exact fun z => by cases z⟩) hx
    have hlt := (List.getElem?_eq_some_iff.mp hk).1
    refine ⟨k, hlt, ?_⟩
    rw [List.getElem?_append_left (by simp; omega), List.getElem?_append_left hlt]
    exact hk
  have hlow := b.low s1 X.2.2.1
  have hb0 : HP g ad F H1 := ⟨L, l1, l2, fun k x hk => p1 k x (by
      have hlt := (List.getElem?_eq_some_iff.mp hk).1
      rw [List.getElem?_append_left (by simp; omega), List.getElem?_append_left hlt]; exact hk), l4, fun x e' hx he => ⟨(l5 x e' hx he).1.kept (hlow _ (l5 x e' hx he).2), (l5 x e' hx he).2⟩⟩
  have hb1 := HP.adds (r := r) (e := cI g K9 (fun _ => 0)) N ad hb0 hI nI9 (fun i hi => ⟨p1 _ _ (pos i hi), d1.2 _ _ (pos i hi)⟩) (fun i x e' hi hx h100 hxr => by
    obtain ⟨k, hk, hk2⟩ := posx x e' hx h100
    have := d1.1 _ _ _ _ hk2 (pos i hi) hxr
    omega) rinj
  have hb2 := hb1.add1 (r := rO) (q := q) (e := eo) (ad' := fun x => if x = rO then q else if rI ≤ x ∧ x < rI + N then r (x - rI) else ad x) hO ((if_neg (by omega)).trans nO) (p1 _ _ posq) (d1.2 _ _ posq) (fun x e' hx h100 => by
    by_cases c2 : rI ≤ x ∧ x < rI + N
    · show (if rI ≤ x ∧ x < rI + N then r (x - rI) else ad x) ≠ q
      rw [if_pos c2]
      exact fun z => by
        have := d1.1 _ _ _ _ (pos (x - rI) (by omega)) posq z
        omega
    · show (if rI ≤ x ∧ x < rI + N then r (x - rI) else ad x) ≠ q
      rw [if_neg c2]
      have e4 : pui F rI N (cI g K9 (fun _ => 0)) x = F x := if_neg c2
      rw [e4] at hx
      obtain ⟨k, hk, hk2⟩ := posx x e' hx h100
      exact fun z => by
        have := d1.1 _ _ _ _ hk2 posq z
        omega) (fun x hx => if_neg (show ¬ x = rO from fun z => hx (by rw [z]; exact (if_neg (by omega)).trans nO))) (if_pos rfl)
  subst hov
  have hb3 := hb2.ext (r := rO) (f' := fun i => some ((fun x => if x = rO then q else if rI ≤ x ∧ x < rI + N then r (x - rI) else ad x) (rI + i % 16))) pu_s (fun i hi => by
    show some (if rI + i % 16 = rO then q else if rI ≤ rI + i % 16 ∧ rI + i % 16 < rI + N then r (rI + i % 16 - rI) else ad (rI + i % 16)) = if i < N then some (r i) else none
    rw [Nat.mod_eq_of_lt (show i < 16 by omega), if_neg (by omega), if_pos (by omega), if_pos hi, show rI + i - rI = i by omega]) hO
  have h := kk (fun x => if x = rO then q else if rI ≤ x ∧ x < rI + N then r (x - rI) else ad x) _ (fun x h8 h9 => by
    show (if x = rO then q else if rI ≤ x ∧ x < rI + N then r (x - rI) else ad x) = ad x
    rw [if_neg h8, if_neg (fun z => h9 (x - rI) (by omega) (by omega))]) pu_s (fun i hi => by
    rw [pu_n (by omega), pu_n (by omega)]
    exact if_pos (by omega)) (fun x h8 h9 => by
    rw [pu_n h8, pu_n h8]
    exact if_neg (fun z => h9 (x - rI) (by omega) (by omega))) H1 locs ls hb3 s1 c
  rw [show (if rO = rO then q else if rI ≤ rO ∧ rO < rI + N then r (rO - rI) else ad rO) = q from if_pos rfl] at h
  exact h
end Mna
