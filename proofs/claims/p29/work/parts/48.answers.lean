/-! ===== the ledger's answers ===== -/
theorem r_inj {M : Mx} {g : Gx} {ad : Nat → Nat} {F : Pic} {kc ks pc : Nat} {LS : List (Option Value)} {ST : List Value} {r r' : Nat} {e e' : va_E} (hF : F r = some e) (hF' : F r' = some e') (hr : 100 ≤ r) (hr' : 100 ≤ r') (k : (ad r = ad r' → r = r') → V M g ad F kc ks pc LS ST) : V M g ad F kc ks pc LS ST := fun H locs ls a b c => k (fun h => a.inj hF hF' hr hr' h) H locs ls a b c
set_option maxRecDepth 100000 in
set_option maxHeartbeats 4000000 in
theorem c_nFunds (g : Gx) (l : Launch) (hl : l.stackTraces = false) (ad : Nat → Nat) (F : Pic) (td : Int) (nf nk nc : Nat) (A P : Nat → Nat → Int) (kf : Nat → Nat) (sn : Nat) (hX : RXs g ad F td nf nk nc A P kf sn) : Ct g l yX5_funds cX5_funds 1 (some .int) 2 0 0 [.ref (ad 100)] ad F (fun v ad' F' => v = some (.int (zI nf)) ∧ ad = ad' ∧ F = F') := by
  refine Ct_of hl rfl [some (.ref (ad 100))] (Nat.le_of_ble_eq_true rfl) (fun _ h => h) ?_
  intro M hL hN X
  subst hL
  obtain ⟨ser, ⟨hO, h9, a99⟩, ⟨⟨cap1, hR1, hLF1⟩, ⟨cap2, hR2, hLF2⟩, ⟨cap3, hR3, hLF3⟩, kp, ep, cap4, hR4, hLF4⟩, hP, ⟨hnf, hFu, hFuN⟩, ⟨hnc, hCo, hCoN⟩, ⟨⟨hnk, hsn⟩, hKm, hKi, hKN⟩⟩ := id hX
  obtain ⟨mo1, ho1⟩ := hR1.obj; obtain ⟨mo2, ho2⟩ := hR2.obj; obtain ⟨mo3, ho3⟩ := hR3.obj; obtain ⟨mo4, ho4⟩ := hR4.obj
  refine r_aload_n X dX5_funds_0 (by rfl) ?_
  refine r_get X dX5_funds_1 fgX5_12_7 (by assumption) (by rfl) ?_
  refine r_callV X dX5_funds_4 kX5_41 (c_size g _ hl ad F 101 nf cap1 _ (by omega) hR1) (by assumption) (by rfl) (by rfl) (by rfl) (by rfl) (by exact Nat.le_of_ble_eq_true rfl) (by decide) (by decide) (by omega) (by omega) (fun v ad' F' hK => ?_)
  obtain ⟨rfl, rfl, rfl⟩ := hK
  exact r_iret X rfl (rfl) dX5_funds_7 (⟨rfl, rfl, rfl⟩) (by omega) (by omega)
set_option maxRecDepth 100000 in
set_option maxHeartbeats 4000000 in
theorem c_nComs (g : Gx) (l : Launch) (hl : l.stackTraces = false) (ad : Nat → Nat) (F : Pic) (td : Int) (nf nk nc : Nat) (A P : Nat → Nat → Int) (kf : Nat → Nat) (sn : Nat) (hX : RXs g ad F td nf nk nc A P kf sn) : Ct g l yX5_commitments cX5_commitments 1 (some .int) 2 0 0 [.ref (ad 100)] ad F (fun v ad' F' => v = some (.int (zI nk)) ∧ ad = ad' ∧ F = F') := by
  refine Ct_of hl rfl [some (.ref (ad 100))] (Nat.le_of_ble_eq_true rfl) (fun _ h => h) ?_
  intro M hL hN X
  subst hL
  obtain ⟨ser, ⟨hO, h9, a99⟩, ⟨⟨cap1, hR1, hLF1⟩, ⟨cap2, hR2, hLF2⟩, ⟨cap3, hR3, hLF3⟩, kp, ep, cap4, hR4, hLF4⟩, hP, ⟨hnf, hFu, hFuN⟩, ⟨hnc, hCo, hCoN⟩, ⟨⟨hnk, hsn⟩, hKm, hKi, hKN⟩⟩ := id hX
  obtain ⟨mo1, ho1⟩ := hR1.obj; obtain ⟨mo2, ho2⟩ := hR2.obj; obtain ⟨mo3, ho3⟩ := hR3.obj; obtain ⟨mo4, ho4⟩ := hR4.obj
  refine r_aload_n X dX5_commitments_0 (by rfl) ?_
  refine r_get X dX5_commitments_1 fgX5_16_7 (by assumption) (by rfl) ?_
  refine r_callV X dX5_commitments_4 kX5_41 (c_size g _ hl ad F 102 nk cap2 _ (by omega) hR2) (by assumption) (by rfl) (by rfl) (by rfl) (by rfl) (by exact Nat.le_of_ble_eq_true rfl) (by decide) (by decide) (by omega) (by omega) (fun v ad' F' hK => ?_)
  obtain ⟨rfl, rfl, rfl⟩ := hK
  exact r_iret X rfl (rfl) dX5_commitments_7 (⟨rfl, rfl, rfl⟩) (by omega) (by omega)
set_option maxRecDepth 100000 in
set_option maxHeartbeats 4000000 in
theorem c_nCosts (g : Gx) (l : Launch) (hl : l.stackTraces = false) (ad : Nat → Nat) (F : Pic) (td : Int) (nf nk nc : Nat) (A P : Nat → Nat → Int) (kf : Nat → Nat) (sn : Nat) (hX : RXs g ad F td nf nk nc A P kf sn) : Ct g l yX5_costs cX5_costs 1 (some .int) 2 0 0 [.ref (ad 100)] ad F (fun v ad' F' => v = some (.int (zI nc)) ∧ ad = ad' ∧ F = F') := by
  refine Ct_of hl rfl [some (.ref (ad 100))] (Nat.le_of_ble_eq_true rfl) (fun _ h => h) ?_
  intro M hL hN X
  subst hL
  obtain ⟨ser, ⟨hO, h9, a99⟩, ⟨⟨cap1, hR1, hLF1⟩, ⟨cap2, hR2, hLF2⟩, ⟨cap3, hR3, hLF3⟩, kp, ep, cap4, hR4, hLF4⟩, hP, ⟨hnf, hFu, hFuN⟩, ⟨hnc, hCo, hCoN⟩, ⟨⟨hnk, hsn⟩, hKm, hKi, hKN⟩⟩ := id hX
  obtain ⟨mo1, ho1⟩ := hR1.obj; obtain ⟨mo2, ho2⟩ := hR2.obj; obtain ⟨mo3, ho3⟩ := hR3.obj; obtain ⟨mo4, ho4⟩ := hR4.obj
  refine r_aload_n X dX5_costs_0 (by rfl) ?_
  refine r_get X dX5_costs_1 fgX5_19_7 (by assumption) (by rfl) ?_
  refine r_callV X dX5_costs_4 kX5_41 (c_size g _ hl ad F 103 nc cap3 _ (by omega) hR3) (by assumption) (by rfl) (by rfl) (by rfl) (by rfl) (by exact Nat.le_of_ble_eq_true rfl) (by decide) (by decide) (by omega) (by omega) (fun v ad' F' hK => ?_)
  obtain ⟨rfl, rfl, rfl⟩ := hK
  exact r_iret X rfl (rfl) dX5_costs_7 (⟨rfl, rfl, rfl⟩) (by omega) (by omega)
set_option maxRecDepth 100000 in
set_option maxHeartbeats 4000000 in
theorem c_today (g : Gx) (l : Launch) (hl : l.stackTraces = false) (ad : Nat → Nat) (F : Pic) (td : Int) (nf nk nc : Nat) (A P : Nat → Nat → Int) (kf : Nat → Nat) (sn : Nat) (hX : RXs g ad F td nf nk nc A P kf sn) : Ct g l yX5_today cX5_today 1 (some .int) 1 0 0 [.ref (ad 100)] ad F (fun v ad' F' => v = some (.int (zI td)) ∧ ad = ad' ∧ F = F') := by
  refine Ct_of hl rfl [some (.ref (ad 100))] (Nat.le_of_ble_eq_true rfl) (fun _ h => h) ?_
  intro M hL hN X
  subst hL
  obtain ⟨ser, ⟨hO, h9, a99⟩, ⟨⟨cap1, hR1, hLF1⟩, ⟨cap2, hR2, hLF2⟩, ⟨cap3, hR3, hLF3⟩, kp, ep, cap4, hR4, hLF4⟩, hP, ⟨hnf, hFu, hFuN⟩, ⟨hnc, hCo, hCoN⟩, ⟨⟨hnk, hsn⟩, hKm, hKi, hKN⟩⟩ := id hX
  refine r_aload_n X dX5_today_0 (by rfl) ?_
  refine r_get X dX5_today_1 fgX5_32_7 (by assumption) (by rfl) ?_
  exact r_iret X rfl (rfl) dX5_today_4 (⟨rfl, rfl, rfl⟩) (by omega) (by omega)
set_option maxRecDepth 100000 in
set_option maxHeartbeats 4000000 in
theorem c_freeOf (g : Gx) (l : Launch) (hl : l.stackTraces = false) (ad : Nat → Nat) (F : Pic) (td : Int) (nf nk nc : Nat) (A P : Nat → Nat → Int) (kf : Nat → Nat) (sn : Nat) (hX : RXs g ad F td nf nk nc A P kf sn) (i : Int) (hi : inR i) : CtX g l yX5_freeOf cX5_freeOf 2 (some .int) 7 1 6 [.ref (ad 100), .int (zI i)] ad F (fun v ad' F' => (0 ≤ i ∧ i < nf) ∧ v = some (.int (zI (A 0 i.toNat))) ∧ ad = ad' ∧ F = F') (fun E ad' F' => (E = xIO ∧ ¬ (0 ≤ i ∧ i < nf)) ∧ ad = ad' ∧ F = F') := by
  refine CtX_of hl rfl [some (.ref (ad 100)), some (.int (zI i))] (Nat.le_of_ble_eq_true rfl) (fun _ h => h) ?_
  intro M hL hN X
  subst hL
  refine r_aload_n X dX5_freeOf_0 (by rfl) ?_
  refine r_iload_n X dX5_freeOf_1 (by rfl) ?_
  refine r_callVX X dX5_freeOf_2 kX5_58 (c_fundAt g _ hl ad F _ _ _ _ _ _ _ _ hX i hi) (hX.choose_spec.1.1) (by rfl) (by rfl) (by rfl) (by rfl) (by exact Nat.le_of_ble_eq_true rfl) (by decide) (by decide) (by omega) (by omega) (fun E ad' F' h => ⟨⟨h.1, h.2.1⟩, h.2.2⟩) (fun v ad' F' hK => ?_)
  obtain ⟨q1, rfl, rfl, rfl⟩ := hK
  obtain ⟨ser, ⟨hO, h9, a99⟩, ⟨⟨cap1, hR1, hLF1⟩, ⟨cap2, hR2, hLF2⟩, ⟨cap3, hR3, hLF3⟩, kp, ep, cap4, hR4, hLF4⟩, hP, ⟨hnf, hFu, hFuN⟩, ⟨hnc, hCo, hCoN⟩, ⟨⟨hnk, hsn⟩, hKm, hKi, hKN⟩⟩ := id hX
  obtain ⟨j, rfl⟩ := Int.eq_ofNat_of_zero_le q1.1
  have hj : j < nf := by omega
  have hf0 : F (300 + j) = some (.inr (5, [.int (zI (A 0 j)), .int (zI (j : Int)), .int (zI (A 1 j)), .int (zI (A 2 j)), .int (zI (A 3 j)), .int (zI (A 4 j)), .int (zI (A 5 j))])) := hFu j hj
  refine r_get X dX5_freeOf_5 fgX5_62_5 (hf0) (by rfl) ?_
  exact r_iret X rfl (rfl) dX5_freeOf_8 (⟨q1, rfl, rfl, rfl⟩) (by omega) (by omega)
set_option maxRecDepth 100000 in
set_option maxHeartbeats 4000000 in
theorem c_directOf (g : Gx) (l : Launch) (hl : l.stackTraces = false) (ad : Nat → Nat) (F : Pic) (td : Int) (nf nk nc : Nat) (A P : Nat → Nat → Int) (kf : Nat → Nat) (sn : Nat) (hX : RXs g ad F td nf nk nc A P kf sn) (i : Int) (hi : inR i) : CtX g l yX5_directOf cX5_directOf 2 (some .int) 7 1 6 [.ref (ad 100), .int (zI i)] ad F (fun v ad' F' => (0 ≤ i ∧ i < nf) ∧ v = some (.int (zI (A 4 i.toNat))) ∧ ad = ad' ∧ F = F') (fun E ad' F' => (E = xIO ∧ ¬ (0 ≤ i ∧ i < nf)) ∧ ad = ad' ∧ F = F') := by
  refine CtX_of hl rfl [some (.ref (ad 100)), some (.int (zI i))] (Nat.le_of_ble_eq_true rfl) (fun _ h => h) ?_
  intro M hL hN X
  subst hL
  refine r_aload_n X dX5_directOf_0 (by rfl) ?_
  refine r_iload_n X dX5_directOf_1 (by rfl) ?_
  refine r_callVX X dX5_directOf_2 kX5_58 (c_fundAt g _ hl ad F _ _ _ _ _ _ _ _ hX i hi) (hX.choose_spec.1.1) (by rfl) (by rfl) (by rfl) (by rfl) (by exact Nat.le_of_ble_eq_true rfl) (by decide) (by decide) (by omega) (by omega) (fun E ad' F' h => ⟨⟨h.1, h.2.1⟩, h.2.2⟩) (fun v ad' F' hK => ?_)
  obtain ⟨q1, rfl, rfl, rfl⟩ := hK
  obtain ⟨ser, ⟨hO, h9, a99⟩, ⟨⟨cap1, hR1, hLF1⟩, ⟨cap2, hR2, hLF2⟩, ⟨cap3, hR3, hLF3⟩, kp, ep, cap4, hR4, hLF4⟩, hP, ⟨hnf, hFu, hFuN⟩, ⟨hnc, hCo, hCoN⟩, ⟨⟨hnk, hsn⟩, hKm, hKi, hKN⟩⟩ := id hX
  obtain ⟨j, rfl⟩ := Int.eq_ofNat_of_zero_le q1.1
  have hj : j < nf := by omega
  have hf0 : F (300 + j) = some (.inr (5, [.int (zI (A 0 j)), .int (zI (j : Int)), .int (zI (A 1 j)), .int (zI (A 2 j)), .int (zI (A 3 j)), .int (zI (A 4 j)), .int (zI (A 5 j))])) := hFu j hj
  refine r_get X dX5_directOf_5 fgX5_126_5 (hf0) (by rfl) ?_
  exact r_iret X rfl (rfl) dX5_directOf_8 (⟨q1, rfl, rfl, rfl⟩) (by omega) (by omega)
set_option maxRecDepth 100000 in
set_option maxHeartbeats 4000000 in
theorem c_overheadOf (g : Gx) (l : Launch) (hl : l.stackTraces = false) (ad : Nat → Nat) (F : Pic) (td : Int) (nf nk nc : Nat) (A P : Nat → Nat → Int) (kf : Nat → Nat) (sn : Nat) (hX : RXs g ad F td nf nk nc A P kf sn) (i : Int) (hi : inR i) : CtX g l yX5_overheadOf cX5_overheadOf 2 (some .int) 7 1 6 [.ref (ad 100), .int (zI i)] ad F (fun v ad' F' => (0 ≤ i ∧ i < nf) ∧ v = some (.int (zI (A 5 i.toNat))) ∧ ad = ad' ∧ F = F') (fun E ad' F' => (E = xIO ∧ ¬ (0 ≤ i ∧ i < nf)) ∧ ad = ad' ∧ F = F') := by
  refine CtX_of hl rfl [some (.ref (ad 100)), some (.int (zI i))] (Nat.le_of_ble_eq_true rfl) (fun _ h => h) ?_
  intro M hL hN X
  subst hL
  refine r_aload_n X dX5_overheadOf_0 (by rfl) ?_
  refine r_iload_n X dX5_overheadOf_1 (by rfl) ?_
  refine r_callVX X dX5_overheadOf_2 kX5_58 (c_fundAt g _ hl ad F _ _ _ _ _ _ _ _ hX i hi) (hX.choose_spec.1.1) (by rfl) (by rfl) (by rfl) (by rfl) (by exact Nat.le_of_ble_eq_true rfl) (by decide) (by decide) (by omega) (by omega) (fun E ad' F' h => ⟨⟨h.1, h.2.1⟩, h.2.2⟩) (fun v ad' F' hK => ?_)
  obtain ⟨q1, rfl, rfl, rfl⟩ := hK
  obtain ⟨ser, ⟨hO, h9, a99⟩, ⟨⟨cap1, hR1, hLF1⟩, ⟨cap2, hR2, hLF2⟩, ⟨cap3, hR3, hLF3⟩, kp, ep, cap4, hR4, hLF4⟩, hP, ⟨hnf, hFu, hFuN⟩, ⟨hnc, hCo, hCoN⟩, ⟨⟨hnk, hsn⟩, hKm, hKi, hKN⟩⟩ := id hX
  obtain ⟨j, rfl⟩ := Int.eq_ofNat_of_zero_le q1.1
  have hj : j < nf := by omega
  have hf0 : F (300 + j) = some (.inr (5, [.int (zI (A 0 j)), .int (zI (j : Int)), .int (zI (A 1 j)), .int (zI (A 2 j)), .int (zI (A 3 j)), .int (zI (A 4 j)), .int (zI (A 5 j))])) := hFu j hj
  refine r_get X dX5_overheadOf_5 fgX5_129_5 (hf0) (by rfl) ?_
  exact r_iret X rfl (rfl) dX5_overheadOf_8 (⟨q1, rfl, rfl, rfl⟩) (by omega) (by omega)
set_option maxRecDepth 100000 in
set_option maxHeartbeats 4000000 in
theorem c_roomOf (g : Gx) (l : Launch) (hl : l.stackTraces = false) (ad : Nat → Nat) (F : Pic) (td : Int) (nf nk nc : Nat) (A P : Nat → Nat → Int) (kf : Nat → Nat) (sn : Nat) (hX : RXs g ad F td nf nk nc A P kf sn) (t : Nat) (hI : IV td nf nk nc A kf t) (i : Int) (hi : inR i) : CtX g l yX5_roomOf cX5_roomOf 2 (some .int) 7 1 6 [.ref (ad 100), .int (zI i)] ad F (fun v ad' F' => (0 ≤ i ∧ i < nf) ∧ v = some (.int (zI (roZ (A 0 i.toNat) (A 3 i.toNat) (A 4 i.toNat) (A 5 i.toNat)))) ∧ ad = ad' ∧ F = F') (fun E ad' F' => (E = xIO ∧ ¬ (0 ≤ i ∧ i < nf)) ∧ ad = ad' ∧ F = F') := by
  refine CtX_of hl rfl [some (.ref (ad 100)), some (.int (zI i))] (Nat.le_of_ble_eq_true rfl) (fun _ h => h) ?_
  intro M hL hN X
  subst hL
  refine r_aload_n X dX5_roomOf_0 (by rfl) ?_
  refine r_iload_n X dX5_roomOf_1 (by rfl) ?_
  refine r_callVX X dX5_roomOf_2 kX5_58 (c_fundAt g _ hl ad F _ _ _ _ _ _ _ _ hX i hi) (hX.choose_spec.1.1) (by rfl) (by rfl) (by rfl) (by rfl) (by exact Nat.le_of_ble_eq_true rfl) (by decide) (by decide) (by omega) (by omega) (fun E ad' F' h => ⟨⟨h.1, h.2.1⟩, h.2.2⟩) (fun v ad' F' hK => ?_)
  obtain ⟨q1, rfl, rfl, rfl⟩ := hK
  obtain ⟨ser, ⟨hO, h9, a99⟩, ⟨⟨cap1, hR1, hLF1⟩, ⟨cap2, hR2, hLF2⟩, ⟨cap3, hR3, hLF3⟩, kp, ep, cap4, hR4, hLF4⟩, hP, ⟨hnf, hFu, hFuN⟩, ⟨hnc, hCo, hCoN⟩, ⟨⟨hnk, hsn⟩, hKm, hKi, hKN⟩⟩ := id hX
  obtain ⟨j, rfl⟩ := Int.eq_ofNat_of_zero_le q1.1
  have hj : j < nf := by omega
  have hf0 : F (300 + j) = some (.inr (5, [.int (zI (A 0 j)), .int (zI (j : Int)), .int (zI (A 1 j)), .int (zI (A 2 j)), .int (zI (A 3 j)), .int (zI (A 4 j)), .int (zI (A 5 j))])) := hFu j hj
  have b0 := hI.b0 hj
  have b4 := hI.b4 hj
  obtain ⟨-, -, -, b3, -⟩ := hI.2.1 j hj
  refine r_callV X dX5_roomOf_5 kX5_132 (c_room g _ hl ad F (300 + j) (by omega) _ _ _ _ _ _ _ hf0 (by omega) (by omega) (by omega) (by omega)) (hf0) (by rfl) (by rfl) (by rfl) (by rfl) (by exact Nat.le_of_ble_eq_true rfl) (by decide) (by decide) (by omega) (by omega) (fun v ad' F' hK => ?_)
  obtain ⟨rfl, rfl, rfl⟩ := hK
  exact r_iret X rfl (rfl) dX5_roomOf_8 (⟨q1, rfl, rfl, rfl⟩) (by omega) (by omega)
set_option maxRecDepth 100000 in
set_option maxHeartbeats 4000000 in
theorem c_leftOf (g : Gx) (l : Launch) (hl : l.stackTraces = false) (ad : Nat → Nat) (F : Pic) (td : Int) (nf nk nc : Nat) (A P : Nat → Nat → Int) (kf : Nat → Nat) (sn : Nat) (hX : RXs g ad F td nf nk nc A P kf sn) (i : Int) (hi : inR i) : CtX g l yX5_leftOf cX5_leftOf 2 (some .int) 7 1 6 [.ref (ad 100), .int (zI i)] ad F (fun v ad' F' => (0 ≤ i ∧ i < nk) ∧ v = some (.int (zI (A 8 i.toNat))) ∧ ad = ad' ∧ F = F') (fun E ad' F' => (E = xIO ∧ ¬ (0 ≤ i ∧ i < nk)) ∧ ad = ad' ∧ F = F') := by
  refine CtX_of hl rfl [some (.ref (ad 100)), some (.int (zI i))] (Nat.le_of_ble_eq_true rfl) (fun _ h => h) ?_
  intro M hL hN X
  subst hL
  obtain ⟨ser, hX⟩ := hX
  refine r_aload_n X dX5_leftOf_0 (by rfl) ?_
  refine r_iload_n X dX5_leftOf_1 (by rfl) ?_
  refine r_callVX X dX5_leftOf_2 kX5_74 (c_commitmentAt g _ hl ad F _ _ _ _ _ _ _ _ _ hX i hi) (hX.1.1) (by rfl) (by rfl) (by rfl) (by rfl) (by exact Nat.le_of_ble_eq_true rfl) (by decide) (by decide) (by omega) (by omega) (fun E ad' F' h => ⟨⟨h.1, h.2.1⟩, h.2.2⟩) (fun v ad' F' hK => ?_)
  obtain ⟨q1, rfl, rfl, rfl⟩ := hK
  obtain ⟨hO, ⟨⟨cap1, hR1, hLF1⟩, ⟨cap2, hR2, hLF2⟩, ⟨cap3, hR3, hLF3⟩, kp, ep, cap4, hR4, hLF4⟩, hP, ⟨hnf, hFu, hFuN⟩, ⟨hnc, hCo, hCoN⟩, ⟨⟨hnk, hsn⟩, hKm, hKi, hKN⟩⟩ := id hX; obtain ⟨hO, h9, a99⟩ := hO
  obtain ⟨j, rfl⟩ := Int.eq_ofNat_of_zero_le q1.1
  have hj : j < nk := by omega
  have hk0 : F (10000 + ser j) = some (.inr (3, [.int (zI (A 8 j)), .ref (ad (300 + kf j)), .int (zI (A 7 j)), .int (zI (A 9 j))])) := (hKm j hj).1
  refine r_get X dX5_leftOf_5 fgX5_78_3 (hk0) (by rfl) ?_
  exact r_iret X rfl (rfl) dX5_leftOf_8 (⟨q1, rfl, rfl, rfl⟩) (by omega) (by omega)
set_option maxRecDepth 100000 in
set_option maxHeartbeats 4000000 in
theorem c_untilOf (g : Gx) (l : Launch) (hl : l.stackTraces = false) (ad : Nat → Nat) (F : Pic) (td : Int) (nf nk nc : Nat) (A P : Nat → Nat → Int) (kf : Nat → Nat) (sn : Nat) (hX : RXs g ad F td nf nk nc A P kf sn) (i : Int) (hi : inR i) : CtX g l yX5_untilOf cX5_untilOf 2 (some .int) 7 1 6 [.ref (ad 100), .int (zI i)] ad F (fun v ad' F' => (0 ≤ i ∧ i < nk) ∧ v = some (.int (zI (A 9 i.toNat))) ∧ ad = ad' ∧ F = F') (fun E ad' F' => (E = xIO ∧ ¬ (0 ≤ i ∧ i < nk)) ∧ ad = ad' ∧ F = F') := by
  refine CtX_of hl rfl [some (.ref (ad 100)), some (.int (zI i))] (Nat.le_of_ble_eq_true rfl) (fun _ h => h) ?_
  intro M hL hN X
  subst hL
  obtain ⟨ser, hX⟩ := hX
  refine r_aload_n X dX5_untilOf_0 (by rfl) ?_
  refine r_iload_n X dX5_untilOf_1 (by rfl) ?_
  refine r_callVX X dX5_untilOf_2 kX5_74 (c_commitmentAt g _ hl ad F _ _ _ _ _ _ _ _ _ hX i hi) (hX.1.1) (by rfl) (by rfl) (by rfl) (by rfl) (by exact Nat.le_of_ble_eq_true rfl) (by decide) (by decide) (by omega) (by omega) (fun E ad' F' h => ⟨⟨h.1, h.2.1⟩, h.2.2⟩) (fun v ad' F' hK => ?_)
  obtain ⟨q1, rfl, rfl, rfl⟩ := hK
  obtain ⟨hO, ⟨⟨cap1, hR1, hLF1⟩, ⟨cap2, hR2, hLF2⟩, ⟨cap3, hR3, hLF3⟩, kp, ep, cap4, hR4, hLF4⟩, hP, ⟨hnf, hFu, hFuN⟩, ⟨hnc, hCo, hCoN⟩, ⟨⟨hnk, hsn⟩, hKm, hKi, hKN⟩⟩ := id hX; obtain ⟨hO, h9, a99⟩ := hO
  obtain ⟨j, rfl⟩ := Int.eq_ofNat_of_zero_le q1.1
  have hj : j < nk := by omega
  have hk0 : F (10000 + ser j) = some (.inr (3, [.int (zI (A 8 j)), .ref (ad (300 + kf j)), .int (zI (A 7 j)), .int (zI (A 9 j))])) := (hKm j hj).1
  refine r_callV X dX5_untilOf_5 kX5_138 (c_comExpiry g _ hl ad F (10000 + ser j) (by omega) _ _ _ _ hk0) (hk0) (by rfl) (by rfl) (by rfl) (by rfl) (by exact Nat.le_of_ble_eq_true rfl) (by decide) (by decide) (by omega) (by omega) (fun v ad' F' hK => ?_)
  obtain ⟨rfl, rfl, rfl⟩ := hK
  exact r_iret X rfl (rfl) dX5_untilOf_8 (⟨q1, rfl, rfl, rfl⟩) (by omega) (by omega)
set_option maxRecDepth 100000 in
set_option maxHeartbeats 4000000 in
theorem c_fundOf (g : Gx) (l : Launch) (hl : l.stackTraces = false) (ad : Nat → Nat) (F : Pic) (td : Int) (nf nk nc : Nat) (A P : Nat → Nat → Int) (kf : Nat → Nat) (sn : Nat) (hX : RXs g ad F td nf nk nc A P kf sn) (t : Nat) (hI : IV td nf nk nc A kf t) (i : Int) (hi : inR i) : CtX g l yX5_fundOf cX5_fundOf 2 (some .int) 7 1 6 [.ref (ad 100), .int (zI i)] ad F (fun v ad' F' => (0 ≤ i ∧ i < nk) ∧ v = some (.int (zI ((kf i.toNat : Int)))) ∧ ad = ad' ∧ F = F') (fun E ad' F' => (E = xIO ∧ ¬ (0 ≤ i ∧ i < nk)) ∧ ad = ad' ∧ F = F') := by
  refine CtX_of hl rfl [some (.ref (ad 100)), some (.int (zI i))] (Nat.le_of_ble_eq_true rfl) (fun _ h => h) ?_
  intro M hL hN X
  subst hL
  obtain ⟨ser, hX⟩ := hX
  refine r_aload_n X dX5_fundOf_0 (by rfl) ?_
  refine r_iload_n X dX5_fundOf_1 (by rfl) ?_
  refine r_callVX X dX5_fundOf_2 kX5_74 (c_commitmentAt g _ hl ad F _ _ _ _ _ _ _ _ _ hX i hi) (hX.1.1) (by rfl) (by rfl) (by rfl) (by rfl) (by exact Nat.le_of_ble_eq_true rfl) (by decide) (by decide) (by omega) (by omega) (fun E ad' F' h => ⟨⟨h.1, h.2.1⟩, h.2.2⟩) (fun v ad' F' hK => ?_)
  obtain ⟨q1, rfl, rfl, rfl⟩ := hK
  obtain ⟨hO, ⟨⟨cap1, hR1, hLF1⟩, ⟨cap2, hR2, hLF2⟩, ⟨cap3, hR3, hLF3⟩, kp, ep, cap4, hR4, hLF4⟩, hP, ⟨hnf, hFu, hFuN⟩, ⟨hnc, hCo, hCoN⟩, ⟨⟨hnk, hsn⟩, hKm, hKi, hKN⟩⟩ := id hX; obtain ⟨hO, h9, a99⟩ := hO
  obtain ⟨j, rfl⟩ := Int.eq_ofNat_of_zero_le q1.1
  have hj : j < nk := by omega
  have hk0 : F (10000 + ser j) = some (.inr (3, [.int (zI (A 8 j)), .ref (ad (300 + kf j)), .int (zI (A 7 j)), .int (zI (A 9 j))])) := (hKm j hj).1
  have hf0 : F (300 + kf j) = some (.inr (5, [.int (zI (A 0 (kf j))), .int (zI ((kf j : Nat) : Int)), .int (zI (A 1 (kf j))), .int (zI (A 2 (kf j))), .int (zI (A 3 (kf j))), .int (zI (A 4 (kf j))), .int (zI (A 5 (kf j)))])) := hFu _ (hI.2.2.1 j hj).1
  refine r_callV X dX5_fundOf_5 kX5_122 (c_comOwner g _ hl ad F (10000 + ser j) (by omega) _ _ _ _ hk0 _ rfl) (hk0) (by rfl) (by rfl) (by rfl) (by rfl) (by exact Nat.le_of_ble_eq_true rfl) (by decide) (by decide) (by omega) (by omega) (fun v ad' F' hK => ?_)
  obtain ⟨rfl, rfl, rfl⟩ := hK
  refine r_get X dX5_fundOf_8 fgX5_135_5 (hf0) (by rfl) ?_
  exact r_iret X rfl (rfl) dX5_fundOf_11 (⟨q1, rfl, rfl, rfl⟩) (by omega) (by omega)
set_option maxRecDepth 100000 in
set_option maxHeartbeats 4000000 in
theorem c_unpaidOf (g : Gx) (l : Launch) (hl : l.stackTraces = false) (ad : Nat → Nat) (F : Pic) (td : Int) (nf nk nc : Nat) (A P : Nat → Nat → Int) (kf : Nat → Nat) (sn : Nat) (hX : RXs g ad F td nf nk nc A P kf sn) (i : Int) (hi : inR i) : CtX g l yX5_unpaidOf cX5_unpaidOf 2 (some .int) 7 1 6 [.ref (ad 100), .int (zI i)] ad F (fun v ad' F' => (0 ≤ i ∧ i < nc) ∧ v = some (.int (zI (A 12 i.toNat))) ∧ ad = ad' ∧ F = F') (fun E ad' F' => (E = xIO ∧ ¬ (0 ≤ i ∧ i < nc)) ∧ ad = ad' ∧ F = F') := by
  refine CtX_of hl rfl [some (.ref (ad 100)), some (.int (zI i))] (Nat.le_of_ble_eq_true rfl) (fun _ h => h) ?_
  intro M hL hN X
  subst hL
  refine r_aload_n X dX5_unpaidOf_0 (by rfl) ?_
  refine r_iload_n X dX5_unpaidOf_1 (by rfl) ?_
  refine r_callVX X dX5_unpaidOf_2 kX5_141 (c_costAt g _ hl ad F _ _ _ _ _ _ _ _ hX i hi) (hX.choose_spec.1.1) (by rfl) (by rfl) (by rfl) (by rfl) (by exact Nat.le_of_ble_eq_true rfl) (by decide) (by decide) (by omega) (by omega) (fun E ad' F' h => ⟨⟨h.1, h.2.1⟩, h.2.2⟩) (fun v ad' F' hK => ?_)
  obtain ⟨q1, rfl, rfl, rfl⟩ := hK
  obtain ⟨ser, ⟨hO, h9, a99⟩, ⟨⟨cap1, hR1, hLF1⟩, ⟨cap2, hR2, hLF2⟩, ⟨cap3, hR3, hLF3⟩, kp, ep, cap4, hR4, hLF4⟩, hP, ⟨hnf, hFu, hFuN⟩, ⟨hnc, hCo, hCoN⟩, ⟨⟨hnk, hsn⟩, hKm, hKi, hKN⟩⟩ := id hX
  obtain ⟨j, rfl⟩ := Int.eq_ofNat_of_zero_le q1.1
  have hj : j < nc := by omega
  have hc0 : F (400 + j) = some (.inr (4, [.int (zI (A 10 j)), .int (zI (A 11 j)), .int (zI (A 12 j)), .ref (ad (500 + j))])) := (hCo j hj).1
  refine r_get X dX5_unpaidOf_5 fgX5_145_4 (hc0) (by rfl) ?_
  exact r_iret X rfl (rfl) dX5_unpaidOf_8 (⟨q1, rfl, rfl, rfl⟩) (by omega) (by omega)
set_option maxRecDepth 100000 in
set_option maxHeartbeats 4000000 in
theorem c_paidBy (g : Gx) (l : Launch) (hl : l.stackTraces = false) (ad : Nat → Nat) (F : Pic) (td : Int) (nf nk nc : Nat) (A P : Nat → Nat → Int) (kf : Nat → Nat) (sn : Nat) (hX : RXs g ad F td nf nk nc A P kf sn) (i k : Int) (hi : inR i) (hk : inR k) : CtX g l yX5_paidBy cX5_paidBy 4 (some .int) 7 2 12 [.ref (ad 100), .int (zI i), .int (zI k)] ad F (fun v ad' F' => ((0 ≤ i ∧ i < nc) ∧ 0 ≤ k ∧ k < nf) ∧ v = some (.int (zI (P i.toNat k.toNat))) ∧ ad = ad' ∧ F = F') (fun E ad' F' => (E = xIO ∧ ¬ ((0 ≤ i ∧ i < nc) ∧ 0 ≤ k ∧ k < nf)) ∧ ad = ad' ∧ F = F') := by
  refine CtX_of hl rfl [some (.ref (ad 100)), some (.int (zI i)), some (.int (zI k)), none] (Nat.le_of_ble_eq_true rfl) (fun _ h => h) ?_
  intro M hL hN X
  subst hL
  refine r_aload_n X dX5_paidBy_0 (by rfl) ?_
  refine r_iload_n X dX5_paidBy_1 (by rfl) ?_
  refine r_callVX X dX5_paidBy_2 kX5_141 (c_costAt g _ hl ad F _ _ _ _ _ _ _ _ hX i hi) (hX.choose_spec.1.1) (by rfl) (by rfl) (by rfl) (by rfl) (by exact Nat.le_of_ble_eq_true rfl) (by decide) (by decide) (by omega) (by omega) (fun E ad' F' h => ⟨⟨h.1, fun z => h.2.1 z.1⟩, h.2.2⟩) (fun v ad' F' hK => ?_)
  obtain ⟨q1, rfl, rfl, rfl⟩ := hK
  refine r_astore_n X dX5_paidBy_5 (by rw [hN]; decide) (by rfl) ?_
  dsimp only [List.set]
  refine r_aload_n X dX5_paidBy_6 (by rfl) ?_
  refine r_aload_n X dX5_paidBy_7 (by rfl) ?_
  refine r_iload_n X dX5_paidBy_8 (by rfl) ?_
  refine r_callVX X dX5_paidBy_9 kX5_58 (c_fundAt g _ hl ad F _ _ _ _ _ _ _ _ hX k hk) (hX.choose_spec.1.1) (by rfl) (by rfl) (by rfl) (by rfl) (by exact Nat.le_of_ble_eq_true rfl) (by decide) (by decide) (by omega) (by omega) (fun E ad' F' h => ⟨⟨h.1, fun z => h.2.1 z.2⟩, h.2.2⟩) (fun v ad' F' hK => ?_)
  obtain ⟨q2, rfl, rfl, rfl⟩ := hK
  obtain ⟨ser, ⟨hO, h9, a99⟩, ⟨⟨cap1, hR1, hLF1⟩, ⟨cap2, hR2, hLF2⟩, ⟨cap3, hR3, hLF3⟩, kp, ep, cap4, hR4, hLF4⟩, hP, ⟨hnf, hFu, hFuN⟩, ⟨hnc, hCo, hCoN⟩, ⟨⟨hnk, hsn⟩, hKm, hKi, hKN⟩⟩ := id hX
  obtain ⟨j, rfl⟩ := Int.eq_ofNat_of_zero_le q1.1
  obtain ⟨k, rfl⟩ := Int.eq_ofNat_of_zero_le q2.1
  have hj : j < nc := by omega
  obtain ⟨-, f, hf, hp⟩ := hCo j hj
  have hc0 : F (400 + j) = some (.inr (4, [.int (zI (A 10 j)), .int (zI (A 11 j)), .int (zI (A 12 j)), .ref (ad (500 + j))])) := (hCo j hj).1
  have hf0 := hFu k (by omega)
  refine r_callV X dX5_paidBy_12 kX5_148 (c_shareOf g _ hl ad F (300 + k) (by omega) _ _ _ _ _ _ _ hf0 (400 + j) _ _ _ (500 + j) hc0 k (by omega) rfl f (P j) hf hp) (hc0) (by rfl) (by rfl) (by rfl) (by rfl) (by exact Nat.le_of_ble_eq_true rfl) (by decide) (by decide) (by omega) (by omega) (fun v ad' F' hK => ?_)
  obtain ⟨rfl, rfl, rfl⟩ := hK
  exact r_iret X rfl (rfl) dX5_paidBy_15 (⟨⟨q1, q2⟩, rfl, rfl, rfl⟩) (by omega) (by omega)
/-- what is bound in commitments of fund i, among the first n -/
def comZ (A : Nat → Nat → Int) (kf : Nat → Nat) (i n : Nat) : Int := sm n (fun k => if kf k = i then A 8 k else 0)
set_option maxRecDepth 100000 in
set_option maxHeartbeats 4000000 in
theorem c_committedOf (g : Gx) (l : Launch) (hl : l.stackTraces = false) (ad : Nat → Nat) (F : Pic) (td : Int) (nf nk nc : Nat) (A P : Nat → Nat → Int) (kf : Nat → Nat) (sn : Nat) (hX : RXs g ad F td nf nk nc A P kf sn) (t : Nat) (hI : IV td nf nk nc A kf t) (i : Int) (hi : inR i) : CtX g l yX5_committedOf cX5_committedOf 6 (some .int) 7 1 6 [.ref (ad 100), .int (zI i)] ad F (fun v ad' F' => (0 ≤ i ∧ i < nf) ∧ v = some (.int (zI (comZ A kf i.toNat nk))) ∧ ad = ad' ∧ F = F') (fun E ad' F' => (E = xIO ∧ ¬ (0 ≤ i ∧ i < nf)) ∧ ad = ad' ∧ F = F') := by
  refine CtX_of hl rfl [some (.ref (ad 100)), some (.int (zI i)), none, none, none, none] (Nat.le_of_ble_eq_true rfl) (fun _ h => h) ?_
  intro M hL hN X
  subst hL
  refine r_aload_n X dX5_committedOf_0 (by rfl) ?_
  refine r_iload_n X dX5_committedOf_1 (by rfl) ?_
  refine r_callVX X dX5_committedOf_2 kX5_58 (c_fundAt g _ hl ad F _ _ _ _ _ _ _ _ hX i hi) (hX.choose_spec.1.1) (by rfl) (by rfl) (by rfl) (by rfl) (by exact Nat.le_of_ble_eq_true rfl) (by decide) (by decide) (by omega) (by omega) (fun E ad' F' h => ⟨⟨h.1, h.2.1⟩, h.2.2⟩) (fun v ad' F' hK => ?_)
  obtain ⟨q1, rfl, rfl, rfl⟩ := hK
  obtain ⟨ser, ⟨hO, h9, a99⟩, ⟨⟨cap1, hR1, hLF1⟩, ⟨cap2, hR2, hLF2⟩, ⟨cap3, hR3, hLF3⟩, kp, ep, cap4, hR4, hLF4⟩, hP, ⟨hnf, hFu, hFuN⟩, ⟨hnc, hCo, hCoN⟩, ⟨⟨hnk, hsn⟩, hKm, hKi, hKN⟩⟩ := id hX
  obtain ⟨j, rfl⟩ := Int.eq_ofNat_of_zero_le q1.1
  have hj : j < nf := by omega
  have hf0 : F (300 + j) = some (.inr (5, [.int (zI (A 0 j)), .int (zI (j : Int)), .int (zI (A 1 j)), .int (zI (A 2 j)), .int (zI (A 3 j)), .int (zI (A 4 j)), .int (zI (A 5 j))])) := hFu j hj
  obtain ⟨mo1, ho1⟩ := hR1.obj; obtain ⟨mo2, ho2⟩ := hR2.obj; obtain ⟨mo3, ho3⟩ := hR3.obj; obtain ⟨mo4, ho4⟩ := hR4.obj
  have loop : ∀ (n k : Nat) (w : Int) (o : Option Value), nk - k = n → k ≤ nk → w = comZ A kf j k → V M g ad F 1 6 11 [some (.ref (ad 100)), some (.int (zI (j : Int))), some (.ref (ad (300 + j))), some (.int (zI w)), some (.int (zI (k : Int))), o] [] := by
    intro n
    induction n with
    | zero =>
      intro k w o hn hk hw
      refine r_iload X dX5_committedOf_11 (by rfl) ?_
      refine r_aload_n X dX5_committedOf_13 (by rfl) ?_
      refine r_get X dX5_committedOf_14 fgX5_16_7 (by assumption) (by rfl) ?_
      refine r_callV X dX5_committedOf_17 kX5_41 (c_size g _ hl ad F 102 nk cap2 _ (by omega) hR2) (by assumption) (by rfl) (by rfl) (by rfl) (by rfl) (by exact Nat.le_of_ble_eq_true rfl) (by decide) (by decide) (by omega) (by omega) (fun v ad' F' hK => ?_)
      obtain ⟨rfl, rfl, rfl⟩ := hK
      refine r_icmp_ge X 60 dX5_committedOf_20 (by decide) (by unfold inR; omega) (by unfold inR; omega) (fun a => ?_) (fun a => ?_)
      · refine r_iload_n X dX5_committedOf_60 (by rfl) ?_
        exact r_iret X rfl (rfl) dX5_committedOf_61 (⟨q1, by rw [hw, show k = nk by omega]; rfl, rfl, rfl⟩) (by omega) (by omega)
      · omega
    | succ n ih =>
      intro k w o hn hk hw
      obtain ⟨hkk, -⟩ := hI.2.2.1 k (by omega)
      have hk0 : F (10000 + ser k) = some (.inr (3, [.int (zI (A 8 k)), .ref (ad (300 + kf k)), .int (zI (A 7 k)), .int (zI (A 9 k))])) := (hKm k (by omega)).1
      refine r_iload X dX5_committedOf_11 (by rfl) ?_
      refine r_aload_n X dX5_committedOf_13 (by rfl) ?_
      refine r_get X dX5_committedOf_14 fgX5_16_7 (by assumption) (by rfl) ?_
      refine r_callV X dX5_committedOf_17 kX5_41 (c_size g _ hl ad F 102 nk cap2 _ (by omega) hR2) (by assumption) (by rfl) (by rfl) (by rfl) (by rfl) (by exact Nat.le_of_ble_eq_true rfl) (by decide) (by decide) (by omega) (by omega) (fun v ad' F' hK => ?_)
      obtain ⟨rfl, rfl, rfl⟩ := hK
      refine r_icmp_ge X 60 dX5_committedOf_20 (by decide) (by unfold inR; omega) (by unfold inR; omega) (fun a => ?_) (fun a => ?_)
      · omega
      · refine r_aload_n X dX5_committedOf_23 (by rfl) ?_
        refine r_get X dX5_committedOf_24 fgX5_16_7 (by assumption) (by rfl) ?_
        refine r_iload X dX5_committedOf_27 (by rfl) ?_
        refine r_callV X dX5_committedOf_29 kX5_118 (c_get g _ hl ad F 102 nk cap2 _ (by omega) hR2 k (by omega)) (by assumption) (by rfl) (by rfl) (by rfl) (by rfl) (by exact Nat.le_of_ble_eq_true rfl) (by decide) (by decide) (by omega) (by omega) (fun v ad' F' hK => ?_)
        obtain ⟨rfl, rfl, rfl⟩ := hK
        refine r_castM X dX5_committedOf_32 w361 (hk0) ?_
        refine r_astore X dX5_committedOf_35 (by rw [hN]; decide) (by rfl) ?_
        dsimp only [List.set]
        refine r_aload X dX5_committedOf_37 (by rfl) ?_
        refine r_callV X dX5_committedOf_39 kX5_122 (c_comOwner g _ hl ad F (10000 + ser k) (by omega) _ _ _ _ hk0 _ rfl) (hk0) (by rfl) (by rfl) (by rfl) (by rfl) (by exact Nat.le_of_ble_eq_true rfl) (by decide) (by decide) (by omega) (by omega) (fun v ad' F' hK => ?_)
        obtain ⟨rfl, rfl, rfl⟩ := hK
        refine r_aload_n X dX5_committedOf_42 (by rfl) ?_
        refine r_inj (hFu (kf k) hkk) hf0 (by omega) (by omega) (fun hinj => ?_)
        have hw' : comZ A kf j (k + 1) = comZ A kf j k + (if kf k = j then A 8 k else 0) := rfl
        refine r_acmp_ne X 54 dX5_committedOf_43 (by decide) (fun b => ?_) (fun b => ?_)
        · refine r_iinc X dX5_committedOf_54 (by rfl) (by rw [hN]; decide) (by rfl) ?_
          dsimp only [List.set]
          refine r_goto X dX5_committedOf_57 11 (by decide) ?_
          exact ih (k + 1) w _ (by omega) (by omega) (by rw [hw', if_neg (fun z => b (by rw [z])), hw]; omega)
        · refine r_iload_n X dX5_committedOf_46 (by rfl) ?_
          refine r_aload X dX5_committedOf_47 (by rfl) ?_
          refine r_get X dX5_committedOf_49 fgX5_78_3 (hk0) (by rfl) ?_
          refine r_iadd X dX5_committedOf_52 ?_
          refine r_istore_n X dX5_committedOf_53 (by rw [hN]; decide) (by rfl) ?_
          dsimp only [List.set]
          refine r_iinc X dX5_committedOf_54 (by rfl) (by rw [hN]; decide) (by rfl) ?_
          dsimp only [List.set]
          refine r_goto X dX5_committedOf_57 11 (by decide) ?_
          have hb := hinj b
          exact ih (k + 1) _ _ (by omega) (by omega) (by rw [hw', if_pos (by omega), hw])
  refine r_astore_n X dX5_committedOf_5 (by rw [hN]; decide) (by rfl) ?_
  dsimp only [List.set]
  refine r_iconst X dX5_committedOf_6 rfl ?_
  refine r_istore_n X dX5_committedOf_7 (by rw [hN]; decide) (by rfl) ?_
  dsimp only [List.set]
  refine r_iconst X dX5_committedOf_8 rfl ?_
  refine r_istore X dX5_committedOf_9 (by rw [hN]; decide) (by rfl) ?_
  dsimp only [List.set]
  exact loop nk 0 0 none (by omega) (by omega) rfl
