/-! ===== the model: its steps ===== -/
set_option maxRecDepth 100000 in
set_option maxHeartbeats 4000000 in
theorem c_mSuits (g : Gx) (l : Launch) (hl : l.stackTraces = false) (ad : Nat → Nat) (F : Pic) (td : Int) (nf nk nc np : Nat) (th : Int) (B : Nat → Nat → Int) (hB : MB g ad F td nf nk nc np th B) (i j : Nat) (hi : i < 6) (hj : j < 16) (ha : 0 ≤ B 3 i ∧ B 3 i ≤ 255) (hc : 0 ≤ B 14 j ∧ B 14 j ≤ 7) (hd : inR (B 15 j)) (hla : inR (B 4 i)) : Ct g l yX6_suits cX6_suits 3 (some .boolean) 2 0 0 [.ref (ad 50000), .int (zI (i : Int)), .int (zI (j : Int))] ad F (fun v ad' F' => v = some (.int (bP (suP (B 3 i) (B 4 i) (B 14 j) (B 15 j)))) ∧ ad = ad' ∧ F = F') := by
  refine Ct_of hl rfl [some (.ref (ad 50000)), some (.int (zI (i : Int))), some (.int (zI (j : Int)))] (Nat.le_of_ble_eq_true rfl) (fun _ h => h) ?_
  intro M hL hN X
  subst hL
  have hO : F 50000 = some (.inr (8, [.int (zI td), .int (zI nf), .ref (ad 50002), .ref (ad 50003), .ref (ad 50004), .ref (ad 50005), .ref (ad 50006), .ref (ad 50007), .int (zI nk), .ref (ad 50009), .ref (ad 50010), .ref (ad 50011), .ref (ad 50012), .int (zI nc), .ref (ad 50014), .ref (ad 50015), .ref (ad 50016), .ref (ad 50017), .int (zI np), .ref (ad 50019), .ref (ad 50020), .ref (ad 50021), .ref (ad 50022), .ref (ad 50023), .ref (ad 50024), .ref (ad 50025), .ref (ad 50026), .ref (ad 50027), .ref (ad 50028), .int (zI th)])) := hB.1
  have h14 : F 50014 = some (cI g 16 (fun j => zI (B 14 j))) := hB.2 14 rfl
  have h15 : F 50015 = some (cI g 16 (fun j => zI (B 15 j))) := hB.2 15 rfl
  have h4 : F 50004 = some (cI g 6 (fun j => zI (B 4 j))) := hB.2 4 rfl
  have no : ¬ suP (B 3 i) (B 4 i) (B 14 j) (B 15 j) → V M g ad F 0 0 33 [some (.ref (ad 50000)), some (.int (zI (i : Int))), some (.int (zI (j : Int)))] [] := fun h => by
    refine r_iconst X dX6_suits_33 rfl ?_
    exact r_iret X rfl (rfl) dX6_suits_34 (⟨by rw [bP_f h], rfl, rfl⟩) (by omega) (by omega)
  refine r_aload_n X dX6_suits_0 (by rfl) ?_
  refine r_iload_n X dX6_suits_1 (by rfl) ?_
  refine r_aload_n X dX6_suits_2 (by rfl) ?_
  refine r_get X dX6_suits_3 fgX6_40_8 (by assumption) (by rfl) ?_
  refine r_iload_n X dX6_suits_6 (by rfl) ?_
  refine r_iald X j dX6_suits_7 (by assumption) (by rfl) (by omega) (by first | decide | omega) ?_
  refine r_callV X dX6_suits_8 kX6_99 (c_mAllows g _ hl ad F _ _ _ _ _ _ _ hB i hi (B 14 j) ha hc) (by assumption) (by rfl) (by rfl) (by rfl) (by rfl) (by exact Nat.le_of_ble_eq_true rfl) (by decide) (by decide) (by omega) (by omega) (fun v ad' F' hK => ?_)
  obtain ⟨rfl, rfl, rfl⟩ := hK
  refine r_if_eqb X 33 dX6_suits_11 (by decide) (fun a => ?_) (fun a => ?_)
  · exact no (fun z => a z.1)
  · refine r_aload_n X dX6_suits_14 (by rfl) ?_
    refine r_get X dX6_suits_15 fgX6_43_8 (by assumption) (by rfl) ?_
    refine r_iload_n X dX6_suits_18 (by rfl) ?_
    refine r_iald X j dX6_suits_19 (by assumption) (by rfl) (by omega) (by first | decide | omega) ?_
    refine r_aload_n X dX6_suits_20 (by rfl) ?_
    refine r_get X dX6_suits_21 fgX6_16_8 (by assumption) (by rfl) ?_
    refine r_iload_n X dX6_suits_24 (by rfl) ?_
    refine r_iald X i dX6_suits_25 (by assumption) (by rfl) (by omega) (by first | decide | omega) ?_
    refine r_icmp_gt X 33 dX6_suits_26 (by decide) (hd) (hla) (fun b => ?_) (fun b => ?_)
    · exact no (fun z => by have := z.2; omega)
    · refine r_iconst X dX6_suits_29 rfl ?_
      refine r_goto X dX6_suits_30 34 (by decide) ?_
      exact r_iret X rfl (rfl) dX6_suits_34 (⟨by rw [bP_t (P := suP (B 3 i) (B 4 i) (B 14 j) (B 15 j)) ⟨a, by omega⟩], rfl, rfl⟩) (by omega) (by omega)
set_option maxRecDepth 100000 in
set_option maxHeartbeats 4000000 in
theorem c_mDeposit (g : Gx) (l : Launch) (hl : l.stackTraces = false) (ad : Nat → Nat) (F : Pic) (td : Int) (nf nk nc np : Nat) (th : Int) (B : Nat → Nat → Int) (hB : MB g ad F td nf nk nc np th B) (i m : Int) (hi : inR i) (hm : inR m) (hn : nf ≤ 6 ∧ nk ≤ 100 ∧ nc ≤ 100) : Ct g l yX6_deposit cX6_deposit 3 (some .int) 3 0 0 [.ref (ad 50000), .int (zI i), .int (zI m)] ad F (fun v ad' F' => ad = ad' ∧ FrM F F' ∧ (((0 ≤ i ∧ i < nf) ∧ (1 ≤ m ∧ m ≤ 99999) ∧ v = some (.int (zI (B 2 i.toNat + m))) ∧ MB g ad F' td nf nk nc np 0 (u2 B 2 i.toNat (B 2 i.toNat + m))) ∨ (¬ (0 ≤ i ∧ i < nf) ∧ v = some (.int (zI 0)) ∧ MB g ad F' td nf nk nc np 1 B) ∨ ((0 ≤ i ∧ i < nf) ∧ ¬ (1 ≤ m ∧ m ≤ 99999) ∧ v = some (.int (zI 0)) ∧ MB g ad F' td nf nk nc np 2 B))) := by
  refine Ct_of hl rfl [some (.ref (ad 50000)), some (.int (zI i)), some (.int (zI m))] (Nat.le_of_ble_eq_true rfl) (fun _ h => h) ?_
  intro M hL hN X
  subst hL
  have hO := hB.1
  unfold MOL at hO
  refine r_aload_n X dX6_deposit_0 (by rfl) ?_
  refine r_iload_n X dX6_deposit_1 (by rfl) ?_
  refine r_callV X dX6_deposit_2 kX6_115 (c_mIsFund g _ hl ad F _ _ _ _ _ _ _ hB i hi (by omega)) (by assumption) (by rfl) (by rfl) (by rfl) (by rfl) (by exact Nat.le_of_ble_eq_true rfl) (by decide) (by decide) (by omega) (by omega) (fun v ad' F1 hK => ?_)
  obtain ⟨rfl, rfl, hF1, th', hB1, z1, z2⟩ := hK
  have hO1 := hB1.1
  unfold MOL at hO1
  unfold inR at hm
  refine r_if_neb X 10 dX6_deposit_5 (by decide) (fun a => ?_) (fun a => ?_)
  · have hm9 : inR m := hm
    rw [z1 a] at hB1
    refine r_iload_n X dX6_deposit_10 (by rfl) ?_
    refine r_i2l X dX6_deposit_11 (hm9) ?_
    refine r_lconst X dX6_deposit_12 1 rfl ?_
    refine r_ldc2 X dX6_deposit_13 w1179 (99999) rfl ?_
    refine r_callS X dX6_deposit_16 kX6_89 (c_mIn g _ hl ad F1 m 1 99999 ⟨by omega, by omega⟩ ⟨by omega, by omega⟩ ⟨by omega, by omega⟩) (by rfl) (by rfl) (by exact Nat.le_of_ble_eq_true rfl) (by decide) (by decide) (by omega) (by omega) (fun v ad' F' hK => ?_)
    obtain ⟨rfl, rfl, rfl⟩ := hK
    refine r_if_neb X 28 dX6_deposit_19 (by decide) (fun b => ?_) (fun b => ?_)
    · obtain ⟨j, rfl⟩ := Int.eq_ofNat_of_zero_le a.1
      have h2 : F1 50002 = some (cI g 6 (fun j => zI (B 2 j))) := hB1.2 2 rfl
      refine r_aload_n X dX6_deposit_28 (by rfl) ?_
      refine r_get X dX6_deposit_29 fgX6_7_8 (by assumption) (by rfl) ?_
      refine r_iload_n X dX6_deposit_32 (by rfl) ?_
      refine r_dup2 X dX6_deposit_33 (by rfl) (by rfl) ?_
      refine r_iald X j dX6_deposit_34 (by assumption) (by rfl) (by omega) (by first | decide | omega) ?_
      refine r_iload_n X dX6_deposit_35 (by rfl) ?_
      refine r_iadd X dX6_deposit_36 ?_
      refine r_ist X j dX6_deposit_37 (by assumption) (by omega) (by rfl) (by omega) (by first | decide | omega) ?_
      refine (fun (k : ∀ F2 : Pic, (MB g ad F2 td nf nk nc np 0 (u2 B 2 j (B 2 j + m))) → (FrM F1 F2) → V M g ad F2 _ _ _ _ _) => k _ (hB1.put 2 rfl j (B 2 j + m)) (FrM.pu ⟨by omega, by omega⟩)) ?_
      intro F2 h3 hF2
      have hO2 := h3.1
      unfold MOL at hO2
      have h4 : F2 50002 = some (cI g 6 (fun x => zI (u2 B 2 j (B 2 j + m) 2 x))) := h3.2 2 rfl
      refine r_aload_n X dX6_deposit_38 (by rfl) ?_
      refine r_get X dX6_deposit_39 fgX6_7_8 (by assumption) (by rfl) ?_
      refine r_iload_n X dX6_deposit_42 (by rfl) ?_
      refine r_iald X j dX6_deposit_43 (by assumption) (by rfl) (by omega) (by first | decide | omega) ?_
      rw [u2_at]
      exact r_iret X rfl (rfl) dX6_deposit_44 (⟨rfl, hF1.tr hF2, .inl ⟨a, b, rfl, h3⟩⟩) (by omega) (by omega)
    · refine r_aload_n X dX6_deposit_22 (by rfl) ?_
      refine r_iconst X dX6_deposit_23 rfl ?_
      refine r_callV X dX6_deposit_24 kX6_111 (c_mFails g _ hl ad F1 _ _ _ _ _ _ _ hB1 2) (by assumption) (by rfl) (by rfl) (by rfl) (by rfl) (by exact Nat.le_of_ble_eq_true rfl) (by decide) (by decide) (by omega) (by omega) (fun v ad' F2 hK => ?_)
      obtain ⟨rfl, rfl, hF2, hB2⟩ := hK
      exact r_iret X rfl (rfl) dX6_deposit_27 (⟨rfl, hF1.tr hF2, .inr (.inr ⟨a, b, rfl, hB2⟩)⟩) (by omega) (by omega)
  · rw [z2 a] at hB1
    refine r_iconst X dX6_deposit_8 rfl ?_
    exact r_iret X rfl (rfl) dX6_deposit_9 (⟨rfl, hF1, .inr (.inl ⟨a, rfl, hB1⟩)⟩) (by omega) (by omega)
