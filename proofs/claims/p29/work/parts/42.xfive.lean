/-! ===== the ledger: its numbers, its small methods ===== -/
/-- the ledger at role 100 with these numbers; sn commitments were made so far -/
def RXs (g : Gx) (ad : Nat → Nat) (F : Pic) (td : Int) (nf nk nc : Nat) (A P : Nat → Nat → Int) (kf : Nat → Nat) (sn : Nat) : Prop := ∃ ser, RX g ad F td nf nk nc A P kf ser sn
def FrX (F F' : Pic) : Prop := ∀ x, (x < 100 ∨ 40000 ≤ x) → F' x = F x
def AdX (ad ad' : Nat → Nat) : Prop := ∀ x, (x ≤ 100 ∨ 40000 ≤ x) → ad' x = ad x
theorem FrX.rf {F : Pic} : FrX F F := fun _ _ => rfl
theorem AdX.rf {ad : Nat → Nat} : AdX ad ad := fun _ _ => rfl
theorem FrX.tr {F F1 F2 : Pic} (h : FrX F F1) (h1 : FrX F1 F2) : FrX F F2 := fun r hr => (h1 r hr).trans (h r hr)
theorem AdX.tr {F F1 F2 : Nat → Nat} (h : AdX F F1) (h1 : AdX F1 F2) : AdX F F2 := fun r hr => (h1 r hr).trans (h r hr)
section
variable {M : Mx} {g : Gx} {y : MethodName} {cc : ByteArray} {ret : Option FieldType} {n mc ms : Nat} {tb : List ExceptionTableEntry} {K : Option Value → (Nat → Nat) → Pic → Prop} {KX : String → (Nat → Nat) → Pic → Prop} {ad : Nat → Nat} {F : Pic} {kc ks pc idx : Nat} {LS : List (Option Value)} {ST : List Value}
theorem r_castF (X : Cx M g y cc ret n mc ms tb K KX) {r : Nat} {fs : List Value} (d : decode cc pc = .ok (.checkcast idx, 3)) (w : Cond.classLink y.cls idx "RestrictedFunds$Fund" ∈ WS) (hF : F r = some (.inr (5, fs))) (k : V M g ad F kc ks (pc + 3) LS (.ref (ad r) :: ST)) : V M g ad F kc ks pc LS (.ref (ad r) :: ST) := r_castS (q := vwCl.get ⟨5, by decide⟩) X d w hF rfl k
theorem r_castC (X : Cx M g y cc ret n mc ms tb K KX) {r : Nat} {fs : List Value} (d : decode cc pc = .ok (.checkcast idx, 3)) (w : Cond.classLink y.cls idx "RestrictedFunds$Cost" ∈ WS) (hF : F r = some (.inr (4, fs))) (k : V M g ad F kc ks (pc + 3) LS (.ref (ad r) :: ST)) : V M g ad F kc ks pc LS (.ref (ad r) :: ST) := r_castS (q := vwCl.get ⟨4, by decide⟩) X d w hF rfl k
theorem r_castM (X : Cx M g y cc ret n mc ms tb K KX) {r : Nat} {fs : List Value} (d : decode cc pc = .ok (.checkcast idx, 3)) (w : Cond.classLink y.cls idx "RestrictedFunds$Commitment" ∈ WS) (hF : F r = some (.inr (3, fs))) (k : V M g ad F kc ks (pc + 3) LS (.ref (ad r) :: ST)) : V M g ad F kc ks pc LS (.ref (ad r) :: ST) := r_castS (q := vwCl.get ⟨3, by decide⟩) X d w hF rfl k
theorem r_castP5 (X : Cx M g y cc ret n mc ms tb K KX) {r : Nat} {fs : List Value} (d : decode cc pc = .ok (.checkcast idx, 3)) (w : Cond.classLink y.cls idx "RestrictedFunds$Pot" ∈ WS) (hF : F r = some (.inr (5, fs))) (k : V M g ad F kc ks (pc + 3) LS (.ref (ad r) :: ST)) : V M g ad F kc ks pc LS (.ref (ad r) :: ST) := r_castY (q := vwCl.get ⟨5, by decide⟩) X d w hF rfl X.2.1.2.2.2.2.2.2.1.1 k
theorem r_castP3 (X : Cx M g y cc ret n mc ms tb K KX) {r : Nat} {fs : List Value} (d : decode cc pc = .ok (.checkcast idx, 3)) (w : Cond.classLink y.cls idx "RestrictedFunds$Pot" ∈ WS) (hF : F r = some (.inr (3, fs))) (k : V M g ad F kc ks (pc + 3) LS (.ref (ad r) :: ST)) : V M g ad F kc ks pc LS (.ref (ad r) :: ST) := r_castY (q := vwCl.get ⟨3, by decide⟩) X d w hF rfl X.2.1.2.2.2.2.2.2.1.2.1 k
end
set_option maxRecDepth 100000 in
set_option maxHeartbeats 4000000 in
theorem c_reqR (g : Gx) (l : Launch) (hl : l.stackTraces = false) (ad : Nat → Nat) (F : Pic) (a b c : Int) (ha : inR a) (hb : inR b) (hc : inR c) : CtX g l yX5_requireRange cX5_requireRange 3 none 6 1 6 [.int (zI a), .int (zI b), .int (zI c)] ad F (fun v ad' F' => (b ≤ a ∧ a ≤ c) ∧ v = none ∧ ad = ad' ∧ F = F') (fun E ad' F' => E = xIA ∧ ¬ (b ≤ a ∧ a ≤ c) ∧ ad = ad' ∧ F = F') := by
  refine CtX_of hl rfl [some (.int (zI a)), some (.int (zI b)), some (.int (zI c))] (Nat.le_of_ble_eq_true rfl) (fun _ h => h) ?_
  intro M hL hN X
  subst hL
  have bad : ¬ (b ≤ a ∧ a ≤ c) → V M g ad F 0 0 10 [some (.int (zI a)), some (.int (zI b)), some (.int (zI c))] [] := fun h9 => by
    exact r_throwS X rfl dX5_requireRange_10 dX5_requireRange_13 dX5_requireRange_14 dX5_requireRange_16 dX5_requireRange_19 (ww 126 rfl rfl) (ww 16 rfl rfl) (by decide) at_IA (fun z => z.2.2.2.2.1.1) rfl (by omega) (by exact Nat.le_of_ble_eq_true rfl) (by omega) (by omega) (⟨rfl, h9, rfl, rfl⟩)
  refine r_iload_n X dX5_requireRange_0 (by rfl) ?_
  refine r_iload_n X dX5_requireRange_1 (by rfl) ?_
  refine r_icmp_lt X 10 dX5_requireRange_2 (by decide) (ha) (hb) (fun q => ?_) (fun q => ?_)
  · exact bad (by omega)
  · refine r_iload_n X dX5_requireRange_5 (by rfl) ?_
    refine r_iload_n X dX5_requireRange_6 (by rfl) ?_
    refine r_icmp_le X 20 dX5_requireRange_7 (by decide) (ha) (hc) (fun q2 => ?_) (fun q2 => ?_)
    · exact r_vret X rfl dX5_requireRange_20 (⟨⟨by omega, q2⟩, rfl, rfl, rfl⟩) (by omega) (by omega)
    · exact bad (by omega)
set_option maxRecDepth 100000 in
set_option maxHeartbeats 4000000 in
theorem c_reqS (g : Gx) (l : Launch) (hl : l.stackTraces = false) (ad : Nat → Nat) (F : Pic) (Q : Prop) : CtX g l yX5_requireState cX5_requireState 1 none 6 1 6 [.int (bP Q)] ad F (fun v ad' F' => Q ∧ v = none ∧ ad = ad' ∧ F = F') (fun E ad' F' => E = xIS ∧ ¬ Q ∧ ad = ad' ∧ F = F') := by
  refine CtX_of hl rfl [some (.int (bP Q))] (Nat.le_of_ble_eq_true rfl) (fun _ h => h) ?_
  intro M hL hN X
  subst hL
  refine r_iload_n X dX5_requireState_0 (by rfl) ?_
  refine r_if_neb X 14 dX5_requireState_1 (by decide) (fun q => ?_) (fun q => ?_)
  · exact r_vret X rfl dX5_requireState_14 (⟨q, rfl, rfl, rfl⟩) (by omega) (by omega)
  · exact r_throwS X rfl dX5_requireState_4 dX5_requireState_7 dX5_requireState_8 dX5_requireState_10 dX5_requireState_13 (ww 201 rfl rfl) (ww 17 rfl rfl) (by decide) at_IS (fun z => z.2.2.2.2.1.2.1) rfl (by omega) (by exact Nat.le_of_ble_eq_true rfl) (by omega) (by omega) (⟨rfl, q, rfl, rfl⟩)
set_option maxRecDepth 100000 in
set_option maxHeartbeats 4000000 in
theorem c_fundAt (g : Gx) (l : Launch) (hl : l.stackTraces = false) (ad : Nat → Nat) (F : Pic) (td : Int) (nf nk nc : Nat) (A P : Nat → Nat → Int) (kf : Nat → Nat) (sn : Nat) (hX : RXs g ad F td nf nk nc A P kf sn) (i : Int) (hi : inR i) : CtX g l yX5_fundAt cX5_fundAt 2 (some (.object "RestrictedFunds$Fund")) 6 1 6 [.ref (ad 100), .int (zI i)] ad F (fun v ad' F' => (0 ≤ i ∧ i < nf) ∧ v = some (.ref (ad (300 + i.toNat))) ∧ ad = ad' ∧ F = F') (fun E ad' F' => E = xIO ∧ ¬ (0 ≤ i ∧ i < nf) ∧ ad = ad' ∧ F = F') := by
  refine CtX_of hl rfl [some (.ref (ad 100)), some (.int (zI i))] (Nat.le_of_ble_eq_true rfl) (fun _ h => h) ?_
  intro M hL hN X
  subst hL
  obtain ⟨ser, ⟨hO, h9, a99⟩, ⟨⟨cap1, hR1, hLF1⟩, ⟨cap2, hR2, hLF2⟩, ⟨cap3, hR3, hLF3⟩, kp, ep, cap4, hR4, hLF4⟩, hP, ⟨hnf, hFu, hFuN⟩, ⟨hnc, hCo, hCoN⟩, ⟨⟨hnk, hsn⟩, hKm, hKi, hKN⟩⟩ := id hX
  obtain ⟨mo1, ho1⟩ := hR1.obj; obtain ⟨mo2, ho2⟩ := hR2.obj; obtain ⟨mo3, ho3⟩ := hR3.obj; obtain ⟨mo4, ho4⟩ := hR4.obj
  unfold inR at hi
  have bad : ¬ (0 ≤ i ∧ i < nf) → V M g ad F 0 0 15 [some (.ref (ad 100)), some (.int (zI i))] [] := fun h9 => by
    exact r_throwS X rfl dX5_fundAt_15 dX5_fundAt_18 dX5_fundAt_19 dX5_fundAt_21 dX5_fundAt_24 (ww 322 rfl rfl) (ww 9 rfl rfl) (by decide) at_IO (fun z => z.2.2.2.2.1.2.2.1) rfl (by omega) (by exact Nat.le_of_ble_eq_true rfl) (by omega) (by omega) (⟨rfl, h9, rfl, rfl⟩)
  refine r_iload_n X dX5_fundAt_0 (by rfl) ?_
  refine r_if_lt X 15 dX5_fundAt_1 (by decide) (hi) (fun a => ?_) (fun a => ?_)
  · exact bad (by omega)
  · obtain ⟨j, rfl⟩ := Int.eq_ofNat_of_zero_le (show 0 ≤ i by omega)
    refine r_iload_n X dX5_fundAt_4 (by rfl) ?_
    refine r_aload_n X dX5_fundAt_5 (by rfl) ?_
    refine r_get X dX5_fundAt_6 fgX5_12_7 (by assumption) (by rfl) ?_
    refine r_callV X dX5_fundAt_9 kX5_41 (c_size g _ hl ad F 101 nf cap1 _ (by omega) hR1) (by assumption) (by rfl) (by rfl) (by rfl) (by rfl) (by exact Nat.le_of_ble_eq_true rfl) (by decide) (by decide) (by omega) (by omega) (fun v ad' F' hK => ?_)
    obtain ⟨rfl, rfl, rfl⟩ := hK
    refine r_icmp_lt X 25 dX5_fundAt_12 (by decide) (by unfold inR; omega) (by unfold inR; omega) (fun b => ?_) (fun b => ?_)
    · refine r_aload_n X dX5_fundAt_25 (by rfl) ?_
      refine r_get X dX5_fundAt_26 fgX5_12_7 (by assumption) (by rfl) ?_
      refine r_iload_n X dX5_fundAt_29 (by rfl) ?_
      refine r_callV X dX5_fundAt_30 kX5_118 (c_get g _ hl ad F 101 nf cap1 _ (by omega) hR1 j (by omega)) (by assumption) (by rfl) (by rfl) (by rfl) (by rfl) (by exact Nat.le_of_ble_eq_true rfl) (by decide) (by decide) (by omega) (by omega) (fun v ad' F' hK => ?_)
      obtain ⟨rfl, rfl, rfl⟩ := hK
      refine r_castF X dX5_fundAt_33 w217 ((hFu j (by omega))) ?_
      exact r_aret X rfl (.inl ⟨_, rfl⟩) dX5_fundAt_36 (⟨⟨by omega, by omega⟩, rfl, rfl, rfl⟩) (by omega) (by omega)
    · exact bad (by omega)
set_option maxRecDepth 100000 in
set_option maxHeartbeats 4000000 in
theorem c_commitmentAt (g : Gx) (l : Launch) (hl : l.stackTraces = false) (ad : Nat → Nat) (F : Pic) (td : Int) (nf nk nc : Nat) (A P : Nat → Nat → Int) (kf ser : Nat → Nat) (sn : Nat) (hX : RX g ad F td nf nk nc A P kf ser sn) (i : Int) (hi : inR i) : CtX g l yX5_commitmentAt cX5_commitmentAt 2 (some (.object "RestrictedFunds$Commitment")) 6 1 6 [.ref (ad 100), .int (zI i)] ad F (fun v ad' F' => (0 ≤ i ∧ i < nk) ∧ v = some (.ref (ad (10000 + ser i.toNat))) ∧ ad = ad' ∧ F = F') (fun E ad' F' => E = xIO ∧ ¬ (0 ≤ i ∧ i < nk) ∧ ad = ad' ∧ F = F') := by
  refine CtX_of hl rfl [some (.ref (ad 100)), some (.int (zI i))] (Nat.le_of_ble_eq_true rfl) (fun _ h => h) ?_
  intro M hL hN X
  subst hL
  obtain ⟨hO, ⟨⟨cap1, hR1, hLF1⟩, ⟨cap2, hR2, hLF2⟩, ⟨cap3, hR3, hLF3⟩, kp, ep, cap4, hR4, hLF4⟩, hP, ⟨hnf, hFu, hFuN⟩, ⟨hnc, hCo, hCoN⟩, ⟨⟨hnk, hsn⟩, hKm, hKi, hKN⟩⟩ := id hX; obtain ⟨hO, h9, a99⟩ := hO
  obtain ⟨mo1, ho1⟩ := hR1.obj; obtain ⟨mo2, ho2⟩ := hR2.obj; obtain ⟨mo3, ho3⟩ := hR3.obj; obtain ⟨mo4, ho4⟩ := hR4.obj
  unfold inR at hi
  have bad : ¬ (0 ≤ i ∧ i < nk) → V M g ad F 0 0 15 [some (.ref (ad 100)), some (.int (zI i))] [] := fun h9 => by
    exact r_throwS X rfl dX5_commitmentAt_15 dX5_commitmentAt_18 dX5_commitmentAt_19 dX5_commitmentAt_21 dX5_commitmentAt_24 (ww 322 rfl rfl) (ww 9 rfl rfl) (by decide) at_IO (fun z => z.2.2.2.2.1.2.2.2.1) rfl (by omega) (by exact Nat.le_of_ble_eq_true rfl) (by omega) (by omega) (⟨rfl, h9, rfl, rfl⟩)
  refine r_iload_n X dX5_commitmentAt_0 (by rfl) ?_
  refine r_if_lt X 15 dX5_commitmentAt_1 (by decide) (hi) (fun a => ?_) (fun a => ?_)
  · exact bad (by omega)
  · obtain ⟨j, rfl⟩ := Int.eq_ofNat_of_zero_le (show 0 ≤ i by omega)
    refine r_iload_n X dX5_commitmentAt_4 (by rfl) ?_
    refine r_aload_n X dX5_commitmentAt_5 (by rfl) ?_
    refine r_get X dX5_commitmentAt_6 fgX5_16_7 (by assumption) (by rfl) ?_
    refine r_callV X dX5_commitmentAt_9 kX5_41 (c_size g _ hl ad F 102 nk cap2 _ (by omega) hR2) (by assumption) (by rfl) (by rfl) (by rfl) (by rfl) (by exact Nat.le_of_ble_eq_true rfl) (by decide) (by decide) (by omega) (by omega) (fun v ad' F' hK => ?_)
    obtain ⟨rfl, rfl, rfl⟩ := hK
    refine r_icmp_lt X 25 dX5_commitmentAt_12 (by decide) (by unfold inR; omega) (by unfold inR; omega) (fun b => ?_) (fun b => ?_)
    · refine r_aload_n X dX5_commitmentAt_25 (by rfl) ?_
      refine r_get X dX5_commitmentAt_26 fgX5_16_7 (by assumption) (by rfl) ?_
      refine r_iload_n X dX5_commitmentAt_29 (by rfl) ?_
      refine r_callV X dX5_commitmentAt_30 kX5_118 (c_get g _ hl ad F 102 nk cap2 _ (by omega) hR2 j (by omega)) (by assumption) (by rfl) (by rfl) (by rfl) (by rfl) (by exact Nat.le_of_ble_eq_true rfl) (by decide) (by decide) (by omega) (by omega) (fun v ad' F' hK => ?_)
      obtain ⟨rfl, rfl, rfl⟩ := hK
      refine r_castM X dX5_commitmentAt_33 w361 ((hKm j (by omega)).1) ?_
      exact r_aret X rfl (.inl ⟨_, rfl⟩) dX5_commitmentAt_36 (⟨⟨by omega, by omega⟩, rfl, rfl, rfl⟩) (by omega) (by omega)
    · exact bad (by omega)
set_option maxRecDepth 100000 in
set_option maxHeartbeats 4000000 in
theorem c_costAt (g : Gx) (l : Launch) (hl : l.stackTraces = false) (ad : Nat → Nat) (F : Pic) (td : Int) (nf nk nc : Nat) (A P : Nat → Nat → Int) (kf : Nat → Nat) (sn : Nat) (hX : RXs g ad F td nf nk nc A P kf sn) (i : Int) (hi : inR i) : CtX g l yX5_costAt cX5_costAt 2 (some (.object "RestrictedFunds$Cost")) 6 1 6 [.ref (ad 100), .int (zI i)] ad F (fun v ad' F' => (0 ≤ i ∧ i < nc) ∧ v = some (.ref (ad (400 + i.toNat))) ∧ ad = ad' ∧ F = F') (fun E ad' F' => E = xIO ∧ ¬ (0 ≤ i ∧ i < nc) ∧ ad = ad' ∧ F = F') := by
  refine CtX_of hl rfl [some (.ref (ad 100)), some (.int (zI i))] (Nat.le_of_ble_eq_true rfl) (fun _ h => h) ?_
  intro M hL hN X
  subst hL
  obtain ⟨ser, ⟨hO, h9, a99⟩, ⟨⟨cap1, hR1, hLF1⟩, ⟨cap2, hR2, hLF2⟩, ⟨cap3, hR3, hLF3⟩, kp, ep, cap4, hR4, hLF4⟩, hP, ⟨hnf, hFu, hFuN⟩, ⟨hnc, hCo, hCoN⟩, ⟨⟨hnk, hsn⟩, hKm, hKi, hKN⟩⟩ := id hX
  obtain ⟨mo1, ho1⟩ := hR1.obj; obtain ⟨mo2, ho2⟩ := hR2.obj; obtain ⟨mo3, ho3⟩ := hR3.obj; obtain ⟨mo4, ho4⟩ := hR4.obj
  unfold inR at hi
  have bad : ¬ (0 ≤ i ∧ i < nc) → V M g ad F 0 0 15 [some (.ref (ad 100)), some (.int (zI i))] [] := fun h9 => by
    exact r_throwS X rfl dX5_costAt_15 dX5_costAt_18 dX5_costAt_19 dX5_costAt_21 dX5_costAt_24 (ww 322 rfl rfl) (ww 9 rfl rfl) (by decide) at_IO (fun z => z.2.2.2.2.1.2.2.2.2) rfl (by omega) (by exact Nat.le_of_ble_eq_true rfl) (by omega) (by omega) (⟨rfl, h9, rfl, rfl⟩)
  refine r_iload_n X dX5_costAt_0 (by rfl) ?_
  refine r_if_lt X 15 dX5_costAt_1 (by decide) (hi) (fun a => ?_) (fun a => ?_)
  · exact bad (by omega)
  · obtain ⟨j, rfl⟩ := Int.eq_ofNat_of_zero_le (show 0 ≤ i by omega)
    refine r_iload_n X dX5_costAt_4 (by rfl) ?_
    refine r_aload_n X dX5_costAt_5 (by rfl) ?_
    refine r_get X dX5_costAt_6 fgX5_19_7 (by assumption) (by rfl) ?_
    refine r_callV X dX5_costAt_9 kX5_41 (c_size g _ hl ad F 103 nc cap3 _ (by omega) hR3) (by assumption) (by rfl) (by rfl) (by rfl) (by rfl) (by exact Nat.le_of_ble_eq_true rfl) (by decide) (by decide) (by omega) (by omega) (fun v ad' F' hK => ?_)
    obtain ⟨rfl, rfl, rfl⟩ := hK
    refine r_icmp_lt X 25 dX5_costAt_12 (by decide) (by unfold inR; omega) (by unfold inR; omega) (fun b => ?_) (fun b => ?_)
    · refine r_aload_n X dX5_costAt_25 (by rfl) ?_
      refine r_get X dX5_costAt_26 fgX5_19_7 (by assumption) (by rfl) ?_
      refine r_iload_n X dX5_costAt_29 (by rfl) ?_
      refine r_callV X dX5_costAt_30 kX5_118 (c_get g _ hl ad F 103 nc cap3 _ (by omega) hR3 j (by omega)) (by assumption) (by rfl) (by rfl) (by rfl) (by rfl) (by exact Nat.le_of_ble_eq_true rfl) (by decide) (by decide) (by omega) (by omega) (fun v ad' F' hK => ?_)
      obtain ⟨rfl, rfl, rfl⟩ := hK
      refine r_castC X dX5_costAt_33 w395 ((hCo j (by omega)).1) ?_
      exact r_aret X rfl (.inl ⟨_, rfl⟩) dX5_costAt_36 (⟨⟨by omega, by omega⟩, rfl, rfl, rfl⟩) (by omega) (by omega)
    · exact bad (by omega)
