/-! ===== the start ===== -/
theorem ao_own {args : Array Value} {s : State} {t : FieldType} (h : (Cond.arrayOver (.array t)).before args s = true) : ∃ comp c k, s.vm.findClass (FieldType.array t).toString = some comp ∧ s.vm.classes[c]? = some k ∧ k.kind = .array comp (.array t) ∧ s.vm.findClass ("[" ++ (FieldType.array t).toString) = some c := by
  simp only [Cond.before, Cond.holds, Cond.value, beq_iff_eq] at h
  cases hc : s.vm.findClass (FieldType.array t).toString with
  | none => simp [hc] at h
  | some comp =>
    simp only [hc, Option.bind_some, Option.bind_eq_some_iff, Option.map_eq_some_iff] at h
    obtain ⟨c, hi, k, hk, hb⟩ := h
    obtain ⟨hlt, hp, -⟩ := Array.findIdx?_eq_some_iff_getElem.mp hi
    have hkk : s.vm.classes[c] = k := (Array.getElem?_eq_some_iff.mp hk).2
    rw [hkk] at hp
    cases hkind : k.kind with
    | array component ty =>
      rw [hkind] at hb hp
      simp at hb hp
      exact ⟨comp, c, k, rfl, hk, by rw [hkind, hp, hb.1], hb.2⟩
    | _ => rw [hkind] at hb; simp at hb
theorem len_0 {args : Array Value} {s : State} {t : Term} {a : Nat} {cell : Cell} (h : (Cond.eq (.length t) (.int 0)).before args s = true) (ht : t.eval args s none [] s = some (.ref a)) (hc : s.heap[a]? = some cell) : cell.slots.size.toInt32 = 0 := by
  cases hv : (Term.length t).eval args s none [] s with
  | none => simp [Cond.before, Cond.holds, Cond.value, hv] at h
  | some v =>
    obtain ⟨a', cell', y1, y2, rfl⟩ := Term.length_spec hv
    cases ht.symm.trans y1
    cases hc.symm.trans (State.arrayAt?_spec y2).1
    have e := Cond.eq_ints hv (show (Term.int 0).eval args s none [] s = some (.int 0) from rfl)
    simp only [Cond.before, Cond.holds, e] at h
    simpa using h
theorem nostat {v : VmData} (h : ∀ k, v ≠ .statics k) : v.isStatics = false := by
  cases v <;> first | rfl | exact absurd rfl (h _)
set_option maxRecDepth 100000 in
set_option maxHeartbeats 4000000 in
theorem start_g {s : State} {b L : Nat} {xs : Nat → Int32} (hSX : va_X b L xs s s.heap) (hts : ∀ w ∈ lw_tbl, w.before #[Value.ref b] s = true) (hgv : (Jvm.Cond.and given_1 narrow_1).before #[Value.ref b] s = true) : ∃ g : Gx, gz g = s.heap.size ∧ Kn g s ∧ Zw g s s.heap ∧ LoC g s.heap (gn g 99) (cO g 0 (fun _ => none)) ∧ gn g 99 < s.heap.size ∧ gn g 97 = b ∧ gn g 96 = L := by
  have hSb : b < s.heap.size := (Array.getElem?_eq_some_iff.mp hSX.choose_spec.1).1
  have hs := flat_of_before _ hgv
  have hw : ∀ w ∈ WS, w.before #[Value.ref b] s = true := fun w h => hts w (List.mem_filter.mp h).1
  have ht : ∀ (i : Nat) (w : Cond), tables_1[i]? = some w → w.before #[Value.ref b] s = true := fun i w h => hts w (List.mem_append_right _ (List.mem_of_getElem? h))
  obtain ⟨c2, i2, k2⟩ := u_known (C := RJx4a65c) (T := TJx4a65c) (N := 3) (n := 3) hw in_Jx4a65c (hw _ w31)
  obtain ⟨c3, i3, k3⟩ := u_known (C := RX0) (T := TX0) (N := 4) (n := 4) hw in_X0 (hw _ w693)
  obtain ⟨c4, i4, k4⟩ := u_known (C := RX1) (T := TX1) (N := 4) (n := 4) hw in_X1 (hw _ w396)
  obtain ⟨c5, i5, k5⟩ := u_known (C := RX2) (T := TX2) (N := 7) (n := 7) hw in_X2 (hw _ w218)
  obtain ⟨c6, i6, k6⟩ := u_known (C := RX3) (T := TX3) (N := 11) (n := 11) hw in_X3 (hw _ w57)
  obtain ⟨c7, i7, k7⟩ := u_known (C := RX5) (T := TX5) (N := 6) (n := 6) hw in_X5 (hw _ w23)
  obtain ⟨cA0, kA0, cm0, a1, a2, a3⟩ := Cond.arrayClass_spec (hw _ w98)
  obtain ⟨cm2, cA2, kA2, d1, -, d2, d3, d4⟩ := Cond.arrayOver_spec (ht 304 (.arrayOver (.object "java/lang/Object")) rfl)
  obtain ⟨cm3, cA3, kA3, e1, e2, e3, e4⟩ := ao_own (ht 63 (.arrayOver (.array .int)) rfl)
  have x1 : (Cond.exactly (.static "java/util/ArrayList" "DEFAULTCAPACITY_EMPTY_ELEMENTDATA" "[Ljava/lang/Object;") "[Ljava/lang/Object;").before #[Value.ref b] s = true := hs _ (by decide +kernel)
  have x2 : (Cond.arrayOf (.static "java/util/ArrayList" "DEFAULTCAPACITY_EMPTY_ELEMENTDATA" "[Ljava/lang/Object;") (.object "java/lang/Object")).before #[Value.ref b] s = true := hs _ (by decide +kernel)
  have x3 : (Cond.eq (.length (.static "java/util/ArrayList" "DEFAULTCAPACITY_EMPTY_ELEMENTDATA" "[Ljava/lang/Object;")) (.int 0)).before #[Value.ref b] s = true := hs _ (by decide +kernel)
  obtain ⟨q99, cq, cell, kq, z1, z2, z3, -, z5, z6, -⟩ := Cond.exactly_spec x1
  obtain ⟨-, z7⟩ := Cond.arrayOf_spec x2 z1 z3
  have z8 := len_0 x3 z1 z3
  have hcq : cq = cA2 := Option.some.inj (z2.symm.trans d4)
  have y0 : (Cond.exactly (.string "RestrictedFunds" 177) "java/lang/String").before #[Value.ref b] s = true := hs _ (by decide +kernel)
  obtain ⟨q0, _, _, _, v0, -⟩ := Cond.exactly_spec y0
  have y1 : (Cond.exactly (.string "RestrictedFunds" 184) "java/lang/String").before #[Value.ref b] s = true := hs _ (by decide +kernel)
  obtain ⟨q1, _, _, _, v1, -⟩ := Cond.exactly_spec y1
  have y2 : (Cond.exactly (.string "RestrictedFunds" 189) "java/lang/String").before #[Value.ref b] s = true := hs _ (by decide +kernel)
  obtain ⟨q2, _, _, _, v2, -⟩ := Cond.exactly_spec y2
  have y3 : (Cond.exactly (.string "RestrictedFunds" 192) "java/lang/String").before #[Value.ref b] s = true := hs _ (by decide +kernel)
  obtain ⟨q3, _, _, _, v3, -⟩ := Cond.exactly_spec y3
  have y4 : (Cond.exactly (.string "RestrictedFunds" 194) "java/lang/String").before #[Value.ref b] s = true := hs _ (by decide +kernel)
  obtain ⟨q4, _, _, _, v4, -⟩ := Cond.exactly_spec y4
  have xm : (Cond.isRef (.mirror "[Ljava/lang/Object;")).before #[Value.ref b] s = true := hs _ (by decide +kernel)
  obtain ⟨mi, hmi⟩ := va_Mi.of xm
  have u1 : (Cond.isRef (.static "java/lang/Throwable" "UNASSIGNED_STACK" "[Ljava/lang/StackTraceElement;")).before #[Value.ref b] s = true := hs _ (by decide +kernel)
  have u2 : (Cond.isRef (.static "java/lang/Throwable" "SUPPRESSED_SENTINEL" "Ljava/util/List;")).before #[Value.ref b] s = true := hs _ (by decide +kernel)
  have n1 : (Cond.not (.castable "java/lang/IndexOutOfBoundsException" "java/lang/IllegalStateException")).before #[Value.ref b] s = true := hs _ (by decide +kernel)
  have n2 : (Cond.not (.castable "java/lang/IllegalArgumentException" "java/lang/IllegalStateException")).before #[Value.ref b] s = true := hs _ (by decide +kernel)
  have hA : ∀ a : Nat, a < s.heap.size → ¬ s.heap.size ≤ a := fun a h => by omega
  have arr : ∀ (cA : ClassId) (kA : Class) (cm : ClassId) (ty : FieldType), s.vm.classes[cA]? = some kA → kA.kind = .array cm ty → ArrOfT s cA ty := fun cA kA cm ty h2 h3 n z => ⟨fun k h => (by cases h), kA, h2, cm, h3⟩
  refine ⟨((s.heap.size, (fun k => if k = 0 then c2 else if k = 1 then c2 else if k = 2 then c2 else if k = 3 then c3 else if k = 4 then c4 else if k = 5 then c5 else if k = 6 then c6 else c7, fun k => if k = 0 then i2 else if k = 1 then i2 else if k = 2 then i2 else if k = 3 then i3 else if k = 4 then i4 else if k = 5 then i5 else if k = 6 then i6 else i7)), (fun k => if k = 0 then cA0 else if k = 1 then cA0 else if k = 2 then cA2 else cA3, fun k => if k = 0 then q0 else if k = 1 then q1 else if k = 2 then q2 else if k = 3 then q3 else if k = 4 then q4 else if k = 96 then L else if k = 97 then b else if k = 98 then mi else q99)), rfl, ⟨fun c q hq => ?_, fun k q hk => ?_⟩, ?_, ⟨⟨_, rfl⟩, cell, z3, z6.trans hcq, ⟨z5, z7⟩, z8⟩, (Array.getElem?_eq_some_iff.mp z3).1, rfl, rfl⟩
  · match c, hq with
    | 0, hq => cases hq; exact k2
    | 1, hq => cases hq; exact k2
    | 2, hq => cases hq; exact k2
    | 3, hq => cases hq; exact k3
    | 4, hq => cases hq; exact k4
    | 5, hq => cases hq; exact k5
    | 6, hq => cases hq; exact k6
    | 7, hq => cases hq; exact k7
    | c + 8, hq => simp [vwCl] at hq
  · match k, hk with
    | 0, hk => cases hk; exact ⟨arr _ _ _ _ a2 a3, a1⟩
    | 1, hk => cases hk; exact ⟨arr _ _ _ _ a2 a3, a1⟩
    | 2, hk => cases hk; exact ⟨arr _ _ _ _ d2 d3, kA2, cm2, d2, d3, d1, d4⟩
    | 3, hk => cases hk; exact ⟨arr _ _ _ _ e2 e3, e4⟩
    | k + 4, hk => simp [gT] at hk
  · exact ⟨⟨va_Nw.of rfl (ht 487 _ rfl), va_Nw.of rfl (ht 523 _ rfl), va_Nw.of rfl (ht 58 _ rfl)⟩, ⟨va_Nw.of rfl (ht 601 _ rfl), va_Nw.of rfl (ht 441 _ rfl), va_Nw.of rfl (ht 474 _ rfl)⟩, ⟨va_Nw.of rfl (ht 786 _ rfl), va_Nw.of rfl (ht 785 _ rfl), va_Nw.of rfl (ht 793 _ rfl), va_Nw.of rfl (ht 794 _ rfl), va_Nw.of rfl (ht 795 _ rfl)⟩,
      ⟨⟨vx_Zqof (ht 153 _ rfl) (hw _ w6) u1 hA, vx_Zqof (ht 155 _ rfl) (hw _ w6) u2 hA⟩, ⟨va_Nw.of rfl (ht 130 _ rfl), va_Nw.of rfl (ht 132 _ rfl), va_Nw.of rfl (ht 134 _ rfl)⟩, ⟨va_Nw.of rfl (ht 128 _ rfl), va_Nw.of rfl (ht 203 _ rfl), va_Nw.of rfl (ht 324 _ rfl)⟩, va_Nc.of n1, va_Nc.of n2, xs, hSX, hSb⟩,
      ⟨vk_R.of (ht 167 _ rfl) v0, vk_R.of (ht 210 _ rfl) v1, vk_R.of (ht 331 _ rfl) v2, vk_R.of (ht 360 _ rfl) v3, vk_R.of (ht 736 _ rfl) v4⟩,
      va_AOA.of (ht 63 _ rfl), va_AO.of (ht 304 _ rfl), va_Zof (ht 43 _ rfl) (hw _ w4) z1 hA, hmi, va_Nw.of rfl (ht 804 _ rfl)⟩
theorem RX.frA {g : Gx} {ad ad' : Nat → Nat} {F F' : Pic} {td : Int} {A P : Nat → Nat → Int} {kf ser : Nat → Nat} {sn : Nat} (hX : RX g ad F td 0 0 0 A P kf ser sn) (hF : ∀ x, x < 40000 → F' x = F x) (hA : ∀ x, x < 40000 → ad' x = ad x) : RX g ad' F' td 0 0 0 A P kf ser sn := by
  obtain ⟨h1, ⟨h2, h3, h4, kp, ep, h5⟩, h6, h7, h8, h9⟩ := hX
  refine ⟨h1.fr (hF _ (by omega)) (hF _ (by omega)) (fun x hx => hA x (by omega)), ⟨h2.fr (by omega) (fun x hx => hF x ?_) (fun x hx => hA x ?_) (fun i hi => by omega), h3.fr (by omega) (fun x hx => hF x ?_) (fun x hx => hA x ?_) (fun i hi => by omega), h4.fr (by omega) (fun x hx => hF x ?_) (fun x hx => hA x ?_) (fun i hi => by omega), kp, ep, h5.fr (by omega) (fun x hx => hF x ?_) (fun x hx => hA x ?_) (fun _ _ => rfl)⟩, h6.fr (fun x a b => hF x (by omega)) (fun x a b => hA x (by omega)), h7.fr (fun x a b => hF x (by omega)), h8.fr (fun x a b => hF x (by omega)) (fun i hi => by omega), h9.fr (fun x a b => hF x (by omega)) (fun i hi => by omega)⟩
  all_goals (unfold inA at hx; omega)
set_option maxRecDepth 100000 in
set_option maxHeartbeats 4000000 in
theorem law_start {M : Mx} {g : Gx} {K : Option Value → (Nat → Nat) → Pic → Prop} (X : Cx M g yL_law cL_law (some .boolean) 12 600104 7301314 [] K noX) (hN : mN M = 15) (hL : gn g 96 ≤ 260) (hK1 : ∀ ad F, K (some (.int (zI 1))) ad F) (ad : Nat → Nat) (F : Pic) (h99 : F 99 = some (cO g 0 (fun _ => none))) (a99 : ad 99 = gn g 99) (hn : ∀ r, r ≠ 99 → F r = none) : V M g ad F 0 0 0 [some (.ref (gn g 97)), none, none, none, none, none, none, none, none, none, none, none, none, none, none] [] := by
  have hl := X.2.2.2.2.2.2
  refine r_new X (100) dL_law_0 (ci := 7) (fs := [.null, .null, .null, .null, .null, .int (zI 0)]) rfl in_X5 tyX5_ok w22 w23 w1 (by decide +kernel) (by omega) (hn 100 (by omega)) (by omega) (by omega) (fun ad1 hA1 => ?_)
  refine r_dup X dL_law_3 (by rfl) ?_
  refine r_callI X dL_law_4 kL_77 (c_ledInit g _ hl ad1 _ pu_s ((pu_n (by omega)).trans h99) ((hA1 99 (by omega)).trans a99) (fun r y1 y2 => (pu_n (by omega)).trans (hn r (by omega)))) (by rfl) (by rfl) (by exact Nat.le_of_ble_eq_true rfl) (by decide) (by decide) (by omega) (by omega) (fun v ad2 F2 hK => ?_)
  obtain ⟨rfl, hA2, hF2, hRX⟩ := hK
  rw [← hA2 100 (by omega)]
  refine r_astore_n X dL_law_7 (by rw [hN]; decide) (by rfl) ?_
  dsimp only [List.set]
  refine r_bipush X dL_law_8 (by decide) ?_
  refine r_newI X 70000 32 dL_law_10 w98 rfl (by omega) (by omega) ((hF2 70000 (by omega)).trans ((pu_n (by omega)).trans (hn 70000 (by omega)))) (by omega) (by omega) (fun ad3 hA3 => ?_)
  rw [← hA3 100 (by omega)]
  have hS : SL g ad3 (pu F2 70000 (cI g 32 (fun _ => 0))) (ad3 100) (ad3 70000) 0 0 0 0 (fun _ _ => 0) (fun _ _ => 0) (fun _ => 0) 0 (fun _ => 0) :=
    ⟨⟨rfl, rfl⟩, ⟨_, (hRX (fun _ _ => 0) (fun _ _ => 0) (fun _ => 0) (fun _ => 0)).frA (fun x hx => pu_n (by omega)) (fun x hx => hA3 x (by omega))⟩, pu_s⟩
  generalize ad3 100 = a1 at hS ⊢
  generalize ad3 70000 = a2 at hS ⊢
  generalize pu F2 70000 (cI g 32 (fun _ => 0)) = F3 at hS ⊢
  refine r_astore_n X dL_law_12 (by rw [hN]; decide) (by rfl) ?_
  dsimp only [List.set]
  refine r_aload_n X dL_law_13 (by rfl) ?_
  refine r_aload_n X dL_law_14 (by rfl) ?_
  refine l_accounts X rfl (by omega) hS IV.new AV.new KV.new dL_law_15 (by exact Nat.le_of_ble_eq_true rfl) (by omega) (by omega) (fun ad4 F4 hS4 => ?_)
  refine r_if_eq X 40 dL_law_18 (by decide) (by unfold inR; omega) (fun a => ?_) (fun a => ?_)
  · omega
  · refine r_aload_n X dL_law_21 (by rfl) ?_
    refine l_charge X rfl (by omega) hS4 IV.new AV.new KV.new dL_law_22 (by exact Nat.le_of_ble_eq_true rfl) (by omega) (by omega) (fun ad5 F5 nk5 A5 P5 kf5 hS5 hI5 hAV5 hKV5 hF5 hCB5 => ?_)
    refine W_int (b := zI 0) rfl ?_
    refine r_if_ne X 40 dL_law_25 (by decide) (by unfold inR; omega) (fun b => ?_) (fun b => ?_)
    · exact absurd rfl b
    · refine r_aload_n X dL_law_28 (by rfl) ?_
      refine r_iconst X dL_law_29 rfl ?_
      refine l_chargeOverhead X rfl (by omega) hS5 hI5 hAV5 hKV5 dL_law_30 (m := 5) (by omega) (by exact Nat.le_of_ble_eq_true rfl) (by omega) (by omega) (fun F6 A6 w hw0 hw1 hw2 hS6 hI6 hAV6 hKV6 => ?_)
      refine r_if_ne X 40 dL_law_33 (by decide) (by unfold inR; omega) (fun c => ?_) (fun c => ?_)
      · exact absurd (hw2 rfl) c
      · refine r_iconst X dL_law_36 rfl ?_
        refine r_goto X dL_law_37 41 (by decide) ?_
        refine r_istore_n X dL_law_41 (by rw [hN]; decide) (by rfl) ?_
        dsimp only [List.set]
        refine r_iconst X dL_law_42 rfl ?_
        refine r_aload_n X dL_law_43 (by rfl) ?_
        refine r_iconst X dL_law_44 rfl ?_
        refine l_cell X rfl (by omega) hL 0 dL_law_45 rfl (by omega) (by exact Nat.le_of_ble_eq_true rfl) (by omega) (by omega) (fun x0 => ?_)
        refine r_bipush X dL_law_48 (by decide) ?_
        refine l_low X rfl (by omega) 40 dL_law_50 (rfl) (by omega) (by exact Nat.le_of_ble_eq_true rfl) (by omega) (by omega) (fun w40 hw40 => ?_)
        refine r_iadd X dL_law_53 ?_
        refine r_istore X dL_law_54 (by rw [hN]; decide) (by rfl) ?_
        dsimp only [List.set]
        refine r_iconst X dL_law_56 rfl ?_
        refine r_istore X dL_law_57 (by rw [hN]; decide) (by rfl) ?_
        dsimp only [List.set]
        rw [show (5 : Int) + (w40 : Int) = ((5 + w40 : Nat) : Int) by omega]
        exact law_loop X hN hL hK1 (by omega) (5 + w40) 0 ad5 F6 _ _ none none none none none none none none none (by omega) (by omega) ⟨_, _, _, _, _, _, _, _, _, hS6, hI6, hAV6, hKV6, Nat.le_refl _⟩ (by omega) (by omega)
/-! ===== the room, the end ===== -/
theorem W_room {p : Program} {l : Launch} {e : Env} {R R' : Room} {s : State} {m : MethodId} {args : Array Value} {below : List Frame} {meth : Method} {c : Code} {H : Heap} {locs : List Loc} {cells slots : Nat} {Q Q' : State → Prop} {f : JFrame} (h1 : R'.frames ≤ R.frames) (h2 : R'.locals ≤ R.locals) (h3 : R'.cells ≤ R.cells) (h4 : R'.slots ≤ R.slots) (hq : ∀ t, Q t → Q' t) (h : W p l e R' s m args below meth c H locs cells slots Q f) : W p l e R s m args below meth c H locs cells slots Q' f := by
  intro T hT Y
  have hr : s.hasRoom e.platform R' = true := by
    have h0 := Y.room
    simp only [State.hasRoom, Bool.and_eq_true, decide_eq_true_eq] at h0 ⊢
    obtain ⟨⟨⟨⟨a1, a2, a3, a4, a5, a6⟩, a7⟩, a8⟩, a9⟩ := h0
    exact ⟨⟨⟨⟨by omega, by omega, by omega, by omega, by omega, a6⟩, by omega⟩, by omega⟩, a9⟩
  obtain ⟨t, y1, y2⟩ := h T hT ⟨Y.admits, Y.cas, Y.clock, Y.frames, hr, Y.hears, Y.method, Y.code, Y.here, Y.tail, Y.warmed, Y.limits, Y.bytes, Y.same⟩
  exact ⟨t, y1, hq t y2⟩
theorem same_less {s s' : State} {L : List Loc} {k n : Nat} (h : s.sameButNew s' L k n) (hL : ∀ q ∈ L, s.heap.size ≤ q.base) : s.sameButNew s' [] k n :=
  ⟨h.1, h.2.1, h.2.2.1, h.2.2.2.1, h.2.2.2.2.1, fun a c hc => by
    obtain ⟨c', h1, h2, h3, h4⟩ := h.2.2.2.2.2 a c hc
    refine ⟨c', h1, h2, h3, fun i _ => h4 i (fun hm => ?_)⟩
    have q1 : s.heap.size ≤ a := hL _ hm
    have q2 := (Array.getElem?_eq_some_iff.mp hc).1
    omega⟩
