/-! ===== the model's answers ===== -/
set_option maxRecDepth 100000 in
set_option maxHeartbeats 4000000 in
theorem c_mFreeOf (g : Gx) (l : Launch) (hl : l.stackTraces = false) (ad : Nat → Nat) (F : Pic) (td : Int) (nf nk nc np : Nat) (th : Int) (B : Nat → Nat → Int) (hB : MB g ad F td nf nk nc np th B) (i : Int) (hi : inR i) (hn : nf ≤ 6 ∧ nk ≤ 6 ∧ nc ≤ 16) : Ct g l yX6_freeOf cX6_freeOf 2 (some .int) 3 0 0 [.ref (ad 50000), .int (zI i)] ad F (fun v ad' F' => ad = ad' ∧ FrM F F' ∧ (((0 ≤ i ∧ i < nf) ∧ v = some (.int (zI (B 2 i.toNat))) ∧ MB g ad F' td nf nk nc np 0 B) ∨ (¬ (0 ≤ i ∧ i < nf) ∧ v = some (.int (zI 0)) ∧ MB g ad F' td nf nk nc np 1 B))) := by
  refine Ct_of hl rfl [some (.ref (ad 50000)), some (.int (zI i))] (Nat.le_of_ble_eq_true rfl) (fun _ h => h) ?_
  intro M hL hN X
  subst hL
  have hO := hB.1
  unfold MOL at hO
  refine r_aload_n X dX6_freeOf_0 (by rfl) ?_
  refine r_iload_n X dX6_freeOf_1 (by rfl) ?_
  refine r_callV X dX6_freeOf_2 kX6_115 (c_mIsFund g _ hl ad F _ _ _ _ _ _ _ hB i hi (by omega)) (by assumption) (by rfl) (by rfl) (by rfl) (by rfl) (by exact Nat.le_of_ble_eq_true rfl) (by decide) (by decide) (by omega) (by omega) (fun v ad' F1 hK => ?_)
  obtain ⟨rfl, rfl, hF1, th', hB1, z1, z2⟩ := hK
  have hO1 := hB1.1
  unfold MOL at hO1
  refine r_if_eqb X 17 dX6_freeOf_5 (by decide) (fun a => ?_) (fun a => ?_)
  · rw [z2 a] at hB1
    refine r_iconst X dX6_freeOf_17 rfl ?_
    exact r_iret X rfl (rfl) dX6_freeOf_18 (⟨rfl, hF1, .inr ⟨a, rfl, hB1⟩⟩) (by omega) (by omega)
  · rw [z1 a] at hB1
    obtain ⟨j, rfl⟩ := Int.eq_ofNat_of_zero_le a.1
    have h2 : F1 50002 = some (cI g 6 (fun j => zI (B 2 j))) := hB1.2 2 rfl
    refine r_aload_n X dX6_freeOf_8 (by rfl) ?_
    refine r_get X dX6_freeOf_9 fgX6_7_8 (by assumption) (by rfl) ?_
    refine r_iload_n X dX6_freeOf_12 (by rfl) ?_
    refine r_iald X j dX6_freeOf_13 (by assumption) (by rfl) (by omega) (by first | decide | omega) ?_
    refine r_goto X dX6_freeOf_14 18 (by decide) ?_
    exact r_iret X rfl (rfl) dX6_freeOf_18 (⟨rfl, hF1, .inl ⟨a, rfl, hB1⟩⟩) (by omega) (by omega)
set_option maxRecDepth 100000 in
set_option maxHeartbeats 4000000 in
theorem c_mDirectOf (g : Gx) (l : Launch) (hl : l.stackTraces = false) (ad : Nat → Nat) (F : Pic) (td : Int) (nf nk nc np : Nat) (th : Int) (B : Nat → Nat → Int) (hB : MB g ad F td nf nk nc np th B) (i : Int) (hi : inR i) (hn : nf ≤ 6 ∧ nk ≤ 6 ∧ nc ≤ 16) : Ct g l yX6_directOf cX6_directOf 2 (some .int) 3 0 0 [.ref (ad 50000), .int (zI i)] ad F (fun v ad' F' => ad = ad' ∧ FrM F F' ∧ (((0 ≤ i ∧ i < nf) ∧ v = some (.int (zI (B 6 i.toNat))) ∧ MB g ad F' td nf nk nc np 0 B) ∨ (¬ (0 ≤ i ∧ i < nf) ∧ v = some (.int (zI 0)) ∧ MB g ad F' td nf nk nc np 1 B))) := by
  refine Ct_of hl rfl [some (.ref (ad 50000)), some (.int (zI i))] (Nat.le_of_ble_eq_true rfl) (fun _ h => h) ?_
  intro M hL hN X
  subst hL
  have hO := hB.1
  unfold MOL at hO
  refine r_aload_n X dX6_directOf_0 (by rfl) ?_
  refine r_iload_n X dX6_directOf_1 (by rfl) ?_
  refine r_callV X dX6_directOf_2 kX6_115 (c_mIsFund g _ hl ad F _ _ _ _ _ _ _ hB i hi (by omega)) (by assumption) (by rfl) (by rfl) (by rfl) (by rfl) (by exact Nat.le_of_ble_eq_true rfl) (by decide) (by decide) (by omega) (by omega) (fun v ad' F1 hK => ?_)
  obtain ⟨rfl, rfl, hF1, th', hB1, z1, z2⟩ := hK
  have hO1 := hB1.1
  unfold MOL at hO1
  refine r_if_eqb X 17 dX6_directOf_5 (by decide) (fun a => ?_) (fun a => ?_)
  · rw [z2 a] at hB1
    refine r_iconst X dX6_directOf_17 rfl ?_
    exact r_iret X rfl (rfl) dX6_directOf_18 (⟨rfl, hF1, .inr ⟨a, rfl, hB1⟩⟩) (by omega) (by omega)
  · rw [z1 a] at hB1
    obtain ⟨j, rfl⟩ := Int.eq_ofNat_of_zero_le a.1
    have h2 : F1 50006 = some (cI g 6 (fun j => zI (B 6 j))) := hB1.2 6 rfl
    refine r_aload_n X dX6_directOf_8 (by rfl) ?_
    refine r_get X dX6_directOf_9 fgX6_22_8 (by assumption) (by rfl) ?_
    refine r_iload_n X dX6_directOf_12 (by rfl) ?_
    refine r_iald X j dX6_directOf_13 (by assumption) (by rfl) (by omega) (by first | decide | omega) ?_
    refine r_goto X dX6_directOf_14 18 (by decide) ?_
    exact r_iret X rfl (rfl) dX6_directOf_18 (⟨rfl, hF1, .inl ⟨a, rfl, hB1⟩⟩) (by omega) (by omega)
set_option maxRecDepth 100000 in
set_option maxHeartbeats 4000000 in
theorem c_mOverheadOf (g : Gx) (l : Launch) (hl : l.stackTraces = false) (ad : Nat → Nat) (F : Pic) (td : Int) (nf nk nc np : Nat) (th : Int) (B : Nat → Nat → Int) (hB : MB g ad F td nf nk nc np th B) (i : Int) (hi : inR i) (hn : nf ≤ 6 ∧ nk ≤ 6 ∧ nc ≤ 16) : Ct g l yX6_overheadOf cX6_overheadOf 2 (some .int) 3 0 0 [.ref (ad 50000), .int (zI i)] ad F (fun v ad' F' => ad = ad' ∧ FrM F F' ∧ (((0 ≤ i ∧ i < nf) ∧ v = some (.int (zI (B 7 i.toNat))) ∧ MB g ad F' td nf nk nc np 0 B) ∨ (¬ (0 ≤ i ∧ i < nf) ∧ v = some (.int (zI 0)) ∧ MB g ad F' td nf nk nc np 1 B))) := by
  refine Ct_of hl rfl [some (.ref (ad 50000)), some (.int (zI i))] (Nat.le_of_ble_eq_true rfl) (fun _ h => h) ?_
  intro M hL hN X
  subst hL
  have hO := hB.1
  unfold MOL at hO
  refine r_aload_n X dX6_overheadOf_0 (by rfl) ?_
  refine r_iload_n X dX6_overheadOf_1 (by rfl) ?_
  refine r_callV X dX6_overheadOf_2 kX6_115 (c_mIsFund g _ hl ad F _ _ _ _ _ _ _ hB i hi (by omega)) (by assumption) (by rfl) (by rfl) (by rfl) (by rfl) (by exact Nat.le_of_ble_eq_true rfl) (by decide) (by decide) (by omega) (by omega) (fun v ad' F1 hK => ?_)
  obtain ⟨rfl, rfl, hF1, th', hB1, z1, z2⟩ := hK
  have hO1 := hB1.1
  unfold MOL at hO1
  refine r_if_eqb X 17 dX6_overheadOf_5 (by decide) (fun a => ?_) (fun a => ?_)
  · rw [z2 a] at hB1
    refine r_iconst X dX6_overheadOf_17 rfl ?_
    exact r_iret X rfl (rfl) dX6_overheadOf_18 (⟨rfl, hF1, .inr ⟨a, rfl, hB1⟩⟩) (by omega) (by omega)
  · rw [z1 a] at hB1
    obtain ⟨j, rfl⟩ := Int.eq_ofNat_of_zero_le a.1
    have h2 : F1 50007 = some (cI g 6 (fun j => zI (B 7 j))) := hB1.2 7 rfl
    refine r_aload_n X dX6_overheadOf_8 (by rfl) ?_
    refine r_get X dX6_overheadOf_9 fgX6_25_8 (by assumption) (by rfl) ?_
    refine r_iload_n X dX6_overheadOf_12 (by rfl) ?_
    refine r_iald X j dX6_overheadOf_13 (by assumption) (by rfl) (by omega) (by first | decide | omega) ?_
    refine r_goto X dX6_overheadOf_14 18 (by decide) ?_
    exact r_iret X rfl (rfl) dX6_overheadOf_18 (⟨rfl, hF1, .inl ⟨a, rfl, hB1⟩⟩) (by omega) (by omega)
set_option maxRecDepth 100000 in
set_option maxHeartbeats 4000000 in
theorem c_mLeftOf (g : Gx) (l : Launch) (hl : l.stackTraces = false) (ad : Nat → Nat) (F : Pic) (td : Int) (nf nk nc np : Nat) (th : Int) (B : Nat → Nat → Int) (hB : MB g ad F td nf nk nc np th B) (i : Int) (hi : inR i) (hn : nf ≤ 6 ∧ nk ≤ 6 ∧ nc ≤ 16) : Ct g l yX6_leftOf cX6_leftOf 2 (some .int) 3 0 0 [.ref (ad 50000), .int (zI i)] ad F (fun v ad' F' => ad = ad' ∧ FrM F F' ∧ (((0 ≤ i ∧ i < nk) ∧ v = some (.int (zI (B 11 i.toNat))) ∧ MB g ad F' td nf nk nc np 0 B) ∨ (¬ (0 ≤ i ∧ i < nk) ∧ v = some (.int (zI 0)) ∧ MB g ad F' td nf nk nc np 1 B))) := by
  refine Ct_of hl rfl [some (.ref (ad 50000)), some (.int (zI i))] (Nat.le_of_ble_eq_true rfl) (fun _ h => h) ?_
  intro M hL hN X
  subst hL
  have hO := hB.1
  unfold MOL at hO
  refine r_aload_n X dX6_leftOf_0 (by rfl) ?_
  refine r_iload_n X dX6_leftOf_1 (by rfl) ?_
  refine r_callV X dX6_leftOf_2 kX6_124 (c_mIsCom g _ hl ad F _ _ _ _ _ _ _ hB i hi (by omega)) (by assumption) (by rfl) (by rfl) (by rfl) (by rfl) (by exact Nat.le_of_ble_eq_true rfl) (by decide) (by decide) (by omega) (by omega) (fun v ad' F1 hK => ?_)
  obtain ⟨rfl, rfl, hF1, th', hB1, z1, z2⟩ := hK
  have hO1 := hB1.1
  unfold MOL at hO1
  refine r_if_eqb X 17 dX6_leftOf_5 (by decide) (fun a => ?_) (fun a => ?_)
  · rw [z2 a] at hB1
    refine r_iconst X dX6_leftOf_17 rfl ?_
    exact r_iret X rfl (rfl) dX6_leftOf_18 (⟨rfl, hF1, .inr ⟨a, rfl, hB1⟩⟩) (by omega) (by omega)
  · rw [z1 a] at hB1
    obtain ⟨j, rfl⟩ := Int.eq_ofNat_of_zero_le a.1
    have h2 : F1 50011 = some (cI g 6 (fun j => zI (B 11 j))) := hB1.2 11 rfl
    refine r_aload_n X dX6_leftOf_8 (by rfl) ?_
    refine r_get X dX6_leftOf_9 fgX6_34_8 (by assumption) (by rfl) ?_
    refine r_iload_n X dX6_leftOf_12 (by rfl) ?_
    refine r_iald X j dX6_leftOf_13 (by assumption) (by rfl) (by omega) (by first | decide | omega) ?_
    refine r_goto X dX6_leftOf_14 18 (by decide) ?_
    exact r_iret X rfl (rfl) dX6_leftOf_18 (⟨rfl, hF1, .inl ⟨a, rfl, hB1⟩⟩) (by omega) (by omega)
set_option maxRecDepth 100000 in
set_option maxHeartbeats 4000000 in
theorem c_mUntilOf (g : Gx) (l : Launch) (hl : l.stackTraces = false) (ad : Nat → Nat) (F : Pic) (td : Int) (nf nk nc np : Nat) (th : Int) (B : Nat → Nat → Int) (hB : MB g ad F td nf nk nc np th B) (i : Int) (hi : inR i) (hn : nf ≤ 6 ∧ nk ≤ 6 ∧ nc ≤ 16) : Ct g l yX6_untilOf cX6_untilOf 2 (some .int) 3 0 0 [.ref (ad 50000), .int (zI i)] ad F (fun v ad' F' => ad = ad' ∧ FrM F F' ∧ (((0 ≤ i ∧ i < nk) ∧ v = some (.int (zI (B 12 i.toNat))) ∧ MB g ad F' td nf nk nc np 0 B) ∨ (¬ (0 ≤ i ∧ i < nk) ∧ v = some (.int (zI 0)) ∧ MB g ad F' td nf nk nc np 1 B))) := by
  refine Ct_of hl rfl [some (.ref (ad 50000)), some (.int (zI i))] (Nat.le_of_ble_eq_true rfl) (fun _ h => h) ?_
  intro M hL hN X
  subst hL
  have hO := hB.1
  unfold MOL at hO
  refine r_aload_n X dX6_untilOf_0 (by rfl) ?_
  refine r_iload_n X dX6_untilOf_1 (by rfl) ?_
  refine r_callV X dX6_untilOf_2 kX6_124 (c_mIsCom g _ hl ad F _ _ _ _ _ _ _ hB i hi (by omega)) (by assumption) (by rfl) (by rfl) (by rfl) (by rfl) (by exact Nat.le_of_ble_eq_true rfl) (by decide) (by decide) (by omega) (by omega) (fun v ad' F1 hK => ?_)
  obtain ⟨rfl, rfl, hF1, th', hB1, z1, z2⟩ := hK
  have hO1 := hB1.1
  unfold MOL at hO1
  refine r_if_eqb X 17 dX6_untilOf_5 (by decide) (fun a => ?_) (fun a => ?_)
  · rw [z2 a] at hB1
    refine r_iconst X dX6_untilOf_17 rfl ?_
    exact r_iret X rfl (rfl) dX6_untilOf_18 (⟨rfl, hF1, .inr ⟨a, rfl, hB1⟩⟩) (by omega) (by omega)
  · rw [z1 a] at hB1
    obtain ⟨j, rfl⟩ := Int.eq_ofNat_of_zero_le a.1
    have h2 : F1 50012 = some (cI g 6 (fun j => zI (B 12 j))) := hB1.2 12 rfl
    refine r_aload_n X dX6_untilOf_8 (by rfl) ?_
    refine r_get X dX6_untilOf_9 fgX6_37_8 (by assumption) (by rfl) ?_
    refine r_iload_n X dX6_untilOf_12 (by rfl) ?_
    refine r_iald X j dX6_untilOf_13 (by assumption) (by rfl) (by omega) (by first | decide | omega) ?_
    refine r_goto X dX6_untilOf_14 18 (by decide) ?_
    exact r_iret X rfl (rfl) dX6_untilOf_18 (⟨rfl, hF1, .inl ⟨a, rfl, hB1⟩⟩) (by omega) (by omega)
set_option maxRecDepth 100000 in
set_option maxHeartbeats 4000000 in
theorem c_mFundOf (g : Gx) (l : Launch) (hl : l.stackTraces = false) (ad : Nat → Nat) (F : Pic) (td : Int) (nf nk nc np : Nat) (th : Int) (B : Nat → Nat → Int) (hB : MB g ad F td nf nk nc np th B) (i : Int) (hi : inR i) (hn : nf ≤ 6 ∧ nk ≤ 6 ∧ nc ≤ 16) : Ct g l yX6_fundOf cX6_fundOf 2 (some .int) 3 0 0 [.ref (ad 50000), .int (zI i)] ad F (fun v ad' F' => ad = ad' ∧ FrM F F' ∧ (((0 ≤ i ∧ i < nk) ∧ v = some (.int (zI (B 9 i.toNat))) ∧ MB g ad F' td nf nk nc np 0 B) ∨ (¬ (0 ≤ i ∧ i < nk) ∧ v = some (.int (zI 0)) ∧ MB g ad F' td nf nk nc np 1 B))) := by
  refine Ct_of hl rfl [some (.ref (ad 50000)), some (.int (zI i))] (Nat.le_of_ble_eq_true rfl) (fun _ h => h) ?_
  intro M hL hN X
  subst hL
  have hO := hB.1
  unfold MOL at hO
  refine r_aload_n X dX6_fundOf_0 (by rfl) ?_
  refine r_iload_n X dX6_fundOf_1 (by rfl) ?_
  refine r_callV X dX6_fundOf_2 kX6_124 (c_mIsCom g _ hl ad F _ _ _ _ _ _ _ hB i hi (by omega)) (by assumption) (by rfl) (by rfl) (by rfl) (by rfl) (by exact Nat.le_of_ble_eq_true rfl) (by decide) (by decide) (by omega) (by omega) (fun v ad' F1 hK => ?_)
  obtain ⟨rfl, rfl, hF1, th', hB1, z1, z2⟩ := hK
  have hO1 := hB1.1
  unfold MOL at hO1
  refine r_if_eqb X 17 dX6_fundOf_5 (by decide) (fun a => ?_) (fun a => ?_)
  · rw [z2 a] at hB1
    refine r_iconst X dX6_fundOf_17 rfl ?_
    exact r_iret X rfl (rfl) dX6_fundOf_18 (⟨rfl, hF1, .inr ⟨a, rfl, hB1⟩⟩) (by omega) (by omega)
  · rw [z1 a] at hB1
    obtain ⟨j, rfl⟩ := Int.eq_ofNat_of_zero_le a.1
    have h2 : F1 50009 = some (cI g 6 (fun j => zI (B 9 j))) := hB1.2 9 rfl
    refine r_aload_n X dX6_fundOf_8 (by rfl) ?_
    refine r_get X dX6_fundOf_9 fgX6_28_8 (by assumption) (by rfl) ?_
    refine r_iload_n X dX6_fundOf_12 (by rfl) ?_
    refine r_iald X j dX6_fundOf_13 (by assumption) (by rfl) (by omega) (by first | decide | omega) ?_
    refine r_goto X dX6_fundOf_14 18 (by decide) ?_
    exact r_iret X rfl (rfl) dX6_fundOf_18 (⟨rfl, hF1, .inl ⟨a, rfl, hB1⟩⟩) (by omega) (by omega)
set_option maxRecDepth 100000 in
set_option maxHeartbeats 4000000 in
theorem c_mUnpaidOf (g : Gx) (l : Launch) (hl : l.stackTraces = false) (ad : Nat → Nat) (F : Pic) (td : Int) (nf nk nc np : Nat) (th : Int) (B : Nat → Nat → Int) (hB : MB g ad F td nf nk nc np th B) (i : Int) (hi : inR i) (hn : nf ≤ 6 ∧ nk ≤ 6 ∧ nc ≤ 16) : Ct g l yX6_unpaidOf cX6_unpaidOf 2 (some .int) 3 0 0 [.ref (ad 50000), .int (zI i)] ad F (fun v ad' F' => ad = ad' ∧ FrM F F' ∧ (((0 ≤ i ∧ i < nc) ∧ v = some (.int (zI (B 16 i.toNat))) ∧ MB g ad F' td nf nk nc np 0 B) ∨ (¬ (0 ≤ i ∧ i < nc) ∧ v = some (.int (zI 0)) ∧ MB g ad F' td nf nk nc np 1 B))) := by
  refine Ct_of hl rfl [some (.ref (ad 50000)), some (.int (zI i))] (Nat.le_of_ble_eq_true rfl) (fun _ h => h) ?_
  intro M hL hN X
  subst hL
  have hO := hB.1
  unfold MOL at hO
  refine r_aload_n X dX6_unpaidOf_0 (by rfl) ?_
  refine r_iload_n X dX6_unpaidOf_1 (by rfl) ?_
  refine r_callV X dX6_unpaidOf_2 kX6_182 (c_mIsCost g _ hl ad F _ _ _ _ _ _ _ hB i hi (by omega)) (by assumption) (by rfl) (by rfl) (by rfl) (by rfl) (by exact Nat.le_of_ble_eq_true rfl) (by decide) (by decide) (by omega) (by omega) (fun v ad' F1 hK => ?_)
  obtain ⟨rfl, rfl, hF1, th', hB1, z1, z2⟩ := hK
  have hO1 := hB1.1
  unfold MOL at hO1
  refine r_if_eqb X 17 dX6_unpaidOf_5 (by decide) (fun a => ?_) (fun a => ?_)
  · rw [z2 a] at hB1
    refine r_iconst X dX6_unpaidOf_17 rfl ?_
    exact r_iret X rfl (rfl) dX6_unpaidOf_18 (⟨rfl, hF1, .inr ⟨a, rfl, hB1⟩⟩) (by omega) (by omega)
  · rw [z1 a] at hB1
    obtain ⟨j, rfl⟩ := Int.eq_ofNat_of_zero_le a.1
    have h2 : F1 50016 = some (cI g 16 (fun j => zI (B 16 j))) := hB1.2 16 rfl
    refine r_aload_n X dX6_unpaidOf_8 (by rfl) ?_
    refine r_get X dX6_unpaidOf_9 fgX6_46_8 (by assumption) (by rfl) ?_
    refine r_iload_n X dX6_unpaidOf_12 (by rfl) ?_
    refine r_iald X j dX6_unpaidOf_13 (by assumption) (by rfl) (by omega) (by first | decide | omega) ?_
    refine r_goto X dX6_unpaidOf_14 18 (by decide) ?_
    exact r_iret X rfl (rfl) dX6_unpaidOf_18 (⟨rfl, hF1, .inl ⟨a, rfl, hB1⟩⟩) (by omega) (by omega)
set_option maxRecDepth 100000 in
set_option maxHeartbeats 4000000 in
theorem c_mToday (g : Gx) (l : Launch) (hl : l.stackTraces = false) (ad : Nat → Nat) (F : Pic) (td : Int) (nf nk nc np : Nat) (th : Int) (B : Nat → Nat → Int) (hB : MB g ad F td nf nk nc np th B) : Ct g l yX6_today cX6_today 1 (some .int) 1 0 0 [.ref (ad 50000)] ad F (fun v ad' F' => ad = ad' ∧ FrM F F' ∧ v = some (.int (zI td)) ∧ MB g ad F' td nf nk nc np 0 B) := by
  refine Ct_of hl rfl [some (.ref (ad 50000))] (Nat.le_of_ble_eq_true rfl) (fun _ h => h) ?_
  intro M hL hN X
  subst hL
  have hO := hB.1
  unfold MOL at hO
  refine r_aload_n X dX6_today_0 (by rfl) ?_
  refine r_iconst X dX6_today_1 rfl ?_
  refine r_put X dX6_today_2 fwX6_82_8 (by assumption) (by omega) (by exact Nat.le_of_ble_eq_true rfl) (by rfl) (by rfl) ?_
  dsimp only [List.set]
  refine (fun (k : ∀ F1 : Pic, (MB g ad F1 td nf nk nc np 0 B) → (FrM F F1) → V M g ad F1 _ _ _ _ _) => k _ (hB.obj pu_s (fun x hx => pu_n hx)) (FrM.pu ⟨by omega, by omega⟩)) ?_
  intro F1 h1 hF1
  have hO1 := h1.1
  unfold MOL at hO1
  refine r_aload_n X dX6_today_5 (by rfl) ?_
  refine r_get X dX6_today_6 fgX6_121_8 (by assumption) (by rfl) ?_
  exact r_iret X rfl (rfl) dX6_today_9 (⟨rfl, hF1, rfl, h1⟩) (by omega) (by omega)
set_option maxRecDepth 100000 in
set_option maxHeartbeats 4000000 in
theorem c_mFunds (g : Gx) (l : Launch) (hl : l.stackTraces = false) (ad : Nat → Nat) (F : Pic) (td : Int) (nf nk nc np : Nat) (th : Int) (B : Nat → Nat → Int) (hB : MB g ad F td nf nk nc np th B) : Ct g l yX6_funds cX6_funds 1 (some .int) 1 0 0 [.ref (ad 50000)] ad F (fun v ad' F' => ad = ad' ∧ FrM F F' ∧ v = some (.int (zI (nf : Int))) ∧ MB g ad F' td nf nk nc np 0 B) := by
  refine Ct_of hl rfl [some (.ref (ad 50000))] (Nat.le_of_ble_eq_true rfl) (fun _ h => h) ?_
  intro M hL hN X
  subst hL
  have hO := hB.1
  unfold MOL at hO
  refine r_aload_n X dX6_funds_0 (by rfl) ?_
  refine r_iconst X dX6_funds_1 rfl ?_
  refine r_put X dX6_funds_2 fwX6_82_8 (by assumption) (by omega) (by exact Nat.le_of_ble_eq_true rfl) (by rfl) (by rfl) ?_
  dsimp only [List.set]
  refine (fun (k : ∀ F1 : Pic, (MB g ad F1 td nf nk nc np 0 B) → (FrM F F1) → V M g ad F1 _ _ _ _ _) => k _ (hB.obj pu_s (fun x hx => pu_n hx)) (FrM.pu ⟨by omega, by omega⟩)) ?_
  intro F1 h1 hF1
  have hO1 := h1.1
  unfold MOL at hO1
  refine r_aload_n X dX6_funds_5 (by rfl) ?_
  refine r_get X dX6_funds_6 fgX6_86_8 (by assumption) (by rfl) ?_
  exact r_iret X rfl (rfl) dX6_funds_9 (⟨rfl, hF1, rfl, h1⟩) (by omega) (by omega)
set_option maxRecDepth 100000 in
set_option maxHeartbeats 4000000 in
theorem c_mComs (g : Gx) (l : Launch) (hl : l.stackTraces = false) (ad : Nat → Nat) (F : Pic) (td : Int) (nf nk nc np : Nat) (th : Int) (B : Nat → Nat → Int) (hB : MB g ad F td nf nk nc np th B) : Ct g l yX6_commitments cX6_commitments 1 (some .int) 1 0 0 [.ref (ad 50000)] ad F (fun v ad' F' => ad = ad' ∧ FrM F F' ∧ v = some (.int (zI (nk : Int))) ∧ MB g ad F' td nf nk nc np 0 B) := by
  refine Ct_of hl rfl [some (.ref (ad 50000))] (Nat.le_of_ble_eq_true rfl) (fun _ h => h) ?_
  intro M hL hN X
  subst hL
  have hO := hB.1
  unfold MOL at hO
  refine r_aload_n X dX6_commitments_0 (by rfl) ?_
  refine r_iconst X dX6_commitments_1 rfl ?_
  refine r_put X dX6_commitments_2 fwX6_82_8 (by assumption) (by omega) (by exact Nat.le_of_ble_eq_true rfl) (by rfl) (by rfl) ?_
  dsimp only [List.set]
  refine (fun (k : ∀ F1 : Pic, (MB g ad F1 td nf nk nc np 0 B) → (FrM F F1) → V M g ad F1 _ _ _ _ _) => k _ (hB.obj pu_s (fun x hx => pu_n hx)) (FrM.pu ⟨by omega, by omega⟩)) ?_
  intro F1 h1 hF1
  have hO1 := h1.1
  unfold MOL at hO1
  refine r_aload_n X dX6_commitments_5 (by rfl) ?_
  refine r_get X dX6_commitments_6 fgX6_93_8 (by assumption) (by rfl) ?_
  exact r_iret X rfl (rfl) dX6_commitments_9 (⟨rfl, hF1, rfl, h1⟩) (by omega) (by omega)
set_option maxRecDepth 100000 in
set_option maxHeartbeats 4000000 in
theorem c_mCosts (g : Gx) (l : Launch) (hl : l.stackTraces = false) (ad : Nat → Nat) (F : Pic) (td : Int) (nf nk nc np : Nat) (th : Int) (B : Nat → Nat → Int) (hB : MB g ad F td nf nk nc np th B) : Ct g l yX6_costs cX6_costs 1 (some .int) 1 0 0 [.ref (ad 50000)] ad F (fun v ad' F' => ad = ad' ∧ FrM F F' ∧ v = some (.int (zI (nc : Int))) ∧ MB g ad F' td nf nk nc np 0 B) := by
  refine Ct_of hl rfl [some (.ref (ad 50000))] (Nat.le_of_ble_eq_true rfl) (fun _ h => h) ?_
  intro M hL hN X
  subst hL
  have hO := hB.1
  unfold MOL at hO
  refine r_aload_n X dX6_costs_0 (by rfl) ?_
  refine r_iconst X dX6_costs_1 rfl ?_
  refine r_put X dX6_costs_2 fwX6_82_8 (by assumption) (by omega) (by exact Nat.le_of_ble_eq_true rfl) (by rfl) (by rfl) ?_
  dsimp only [List.set]
  refine (fun (k : ∀ F1 : Pic, (MB g ad F1 td nf nk nc np 0 B) → (FrM F F1) → V M g ad F1 _ _ _ _ _) => k _ (hB.obj pu_s (fun x hx => pu_n hx)) (FrM.pu ⟨by omega, by omega⟩)) ?_
  intro F1 h1 hF1
  have hO1 := h1.1
  unfold MOL at hO1
  refine r_aload_n X dX6_costs_5 (by rfl) ?_
  refine r_get X dX6_costs_6 fgX6_96_8 (by assumption) (by rfl) ?_
  exact r_iret X rfl (rfl) dX6_costs_9 (⟨rfl, hF1, rfl, h1⟩) (by omega) (by omega)
