/-! ===== the model: its steps ===== -/
set_option maxRecDepth 100000 in
set_option maxHeartbeats 4000000 in
theorem c_mSuits (g : Gx) (l : Launch) (hl : l.stackTraces = false) (ad : Nat → Nat) (F : Pic) (td : Int) (nf nk nc np : Nat) (th : Int) (B : Nat → Nat → Int) (hB : MB g ad F td nf nk nc np th B) (i j : Nat) (hi : i < 6) (hj : j < 16) (ha : 0 ≤ B 3 i ∧ B 3 i ≤ 255) (hc : 0 ≤ B 14 j ∧ B 14 j ≤ 7) (hd : inR (B 15 j)) (hla : inR (B 4 i)) : Ct g l yX6_suits cX6_suits 3 (some .boolean) 2 0 0 [.ref (ad 50000), .int (zI (i : Int)), .int (zI (j : Int))] ad F (fun v ad' F' => v = some (.int (bP (suP (B 3 i) (B 4 i) (B 14 j) (B 15 j)))) ∧ ad = ad' ∧ F = F') := by
  refine Ct_of hl rfl [some (.ref (ad 50000)), some (.int (zI (i : Int))), some (.int (zI (j : Int)))] (Nat.le_of_ble_eq_true rfl) (fun _ h => h) ?_
  intro M hL hN X
  subst hL
  have hO : F 50000 = some (.inr (8, [.int (zI td), .int (zI nf), .ref (ad 50002), .ref (ad 50003), .ref (ad 50004), .ref (ad 50005), .ref (ad 50006), .ref (ad 50007), .int (zI nk), .ref (ad 50009), .ref (ad 50010), .ref (ad 50011), .ref (ad 50012), .int (zI nc), .ref (ad 50014), .ref (ad 50015), .ref (ad 50016), .ref (ad 50017), .int (zI np), .ref (ad 50019), .ref (ad 50020), .ref (ad 50021), .ref (ad 50022), .ref (ad 50023), .ref (ad 50024), .ref (ad 50025), .ref (ad 50026), .ref (ad 50027), .ref (ad 50028), .int (zI th)])) := hB.1
  have h14 : F 50014 = some (cI g 16 (fun j => zI (B 14 j))) := hB.2 14 rfl
  have h15 : F 50015 = some (cI g 16 (fun j => zI (B 15 j))) := hB.2 15 rfl
  have h4 : F 50004 = some (cI g 6 (fun j => zI (B 4 j))) := hB.2 4 rfl
  have no : ¬ suP (B 3 i) (B 4 i) (B 14 j) (B 15 j) → V M g ad F 0 0 33 [some (.ref (ad 50000)), some (.int (zI (i : Int))), some (.int (zI (j : Int)))] [] := fun h => by
    refine r_iconst X dX6_suits_33 rfl ?_
    exact r_iret X rfl (rfl) dX6_suits_34 (⟨by rw [bP_f h], rfl, rfl⟩) (by omega) (by omega)
  refine r_aload_n X dX6_suits_0 (by rfl) ?_
  refine r_iload_n X dX6_suits_1 (by rfl) ?_
  refine r_aload_n X dX6_suits_2 (by rfl) ?_
  refine r_get X dX6_suits_3 fgX6_40_8 (by assumption) (by rfl) ?_
  refine r_iload_n X dX6_suits_6 (by rfl) ?_
  refine r_iald X j dX6_suits_7 (by assumption) (by rfl) (by omega) (by first | decide | omega) ?_
  refine r_callV X dX6_suits_8 kX6_99 (c_mAllows g _ hl ad F _ _ _ _ _ _ _ hB i hi (B 14 j) ha hc) (by assumption) (by rfl) (by rfl) (by rfl) (by rfl) (by exact Nat.le_of_ble_eq_true rfl) (by decide) (by decide) (by omega) (by omega) (fun v ad' F' hK => ?_)
  obtain ⟨rfl, rfl, rfl⟩ := hK
  refine r_if_eqb X 33 dX6_suits_11 (by decide) (fun a => ?_) (fun a => ?_)
  · exact no (fun z => a z.1)
  · refine r_aload_n X dX6_suits_14 (by rfl) ?_
    refine r_get X dX6_suits_15 fgX6_43_8 (by assumption) (by rfl) ?_
    refine r_iload_n X dX6_suits_18 (by rfl) ?_
    refine r_iald X j dX6_suits_19 (by assumption) (by rfl) (by omega) (by first | decide | omega) ?_
    refine r_aload_n X dX6_suits_20 (by rfl) ?_
    refine r_get X dX6_suits_21 fgX6_16_8 (by assumption) (by rfl) ?_
    refine r_iload_n X dX6_suits_24 (by rfl) ?_
    refine r_iald X i dX6_suits_25 (by assumption) (by rfl) (by omega) (by first | decide | omega) ?_
    refine r_icmp_gt X 33 dX6_suits_26 (by decide) (hd) (hla) (fun b => ?_) (fun b => ?_)
    · exact no (fun z => by have := z.2; omega)
    · refine r_iconst X dX6_suits_29 rfl ?_
      refine r_goto X dX6_suits_30 34 (by decide) ?_
      exact r_iret X rfl (rfl) dX6_suits_34 (⟨by rw [bP_t (P := suP (B 3 i) (B 4 i) (B 14 j) (B 15 j)) ⟨a, by omega⟩], rfl, rfl⟩) (by omega) (by omega)
set_option maxRecDepth 100000 in
set_option maxHeartbeats 4000000 in
theorem c_mDeposit (g : Gx) (l : Launch) (hl : l.stackTraces = false) (ad : Nat → Nat) (F : Pic) (td : Int) (nf nk nc np : Nat) (th : Int) (B : Nat → Nat → Int) (hB : MB g ad F td nf nk nc np th B) (i m : Int) (hi : inR i) (hm : inR m) (hn : nf ≤ 6 ∧ nk ≤ 100 ∧ nc ≤ 100) : Ct g l yX6_deposit cX6_deposit 3 (some .int) 3 0 0 [.ref (ad 50000), .int (zI i), .int (zI m)] ad F (fun v ad' F' => ad = ad' ∧ FrM F F' ∧ (((0 ≤ i ∧ i < nf) ∧ (1 ≤ m ∧ m ≤ 99999) ∧ v = some (.int (zI (B 2 i.toNat + m))) ∧ MB g ad F' td nf nk nc np 0 (u2 B 2 i.toNat (B 2 i.toNat + m))) ∨ (¬ (0 ≤ i ∧ i < nf) ∧ v = some (.int (zI 0)) ∧ MB g ad F' td nf nk nc np 1 B) ∨ ((0 ≤ i ∧ i < nf) ∧ ¬ (1 ≤ m ∧ m ≤ 99999) ∧ v = some (.int (zI 0)) ∧ MB g ad F' td nf nk nc np 2 B))) := by
  refine Ct_of hl rfl [some (.ref (ad 50000)), some (.int (zI i)), some (.int (zI m))] (Nat.le_of_ble_eq_true rfl) (fun _ h => h) ?_
  intro M hL hN X
  subst hL
  have hO := hB.1
  unfold MOL at hO
  refine r_aload_n X dX6_deposit_0 (by rfl) ?_
  refine r_iload_n X dX6_deposit_1 (by rfl) ?_
  refine r_callV X dX6_deposit_2 kX6_115 (c_mIsFund g _ hl ad F _ _ _ _ _ _ _ hB i hi (by omega)) (by assumption) (by rfl) (by rfl) (by rfl) (by rfl) (by exact Nat.le_of_ble_eq_true rfl) (by decide) (by decide) (by omega) (by omega) (fun v ad' F1 hK => ?_)
  obtain ⟨rfl, rfl, hF1, th', hB1, z1, z2⟩ := hK
  have hO1 := hB1.1
  unfold MOL at hO1
  unfold inR at hm
  refine r_if_neb X 10 dX6_deposit_5 (by decide) (fun a => ?_) (fun a => ?_)
  · have hm9 : inR m := hm
    rw [z1 a] at hB1
    refine r_iload_n X dX6_deposit_10 (by rfl) ?_
    refine r_i2l X dX6_deposit_11 (hm9) ?_
    refine r_lconst X dX6_deposit_12 1 rfl ?_
    refine r_ldc2 X dX6_deposit_13 w1179 (99999) rfl ?_
    refine r_callS X dX6_deposit_16 kX6_89 (c_mIn g _ hl ad F1 m 1 99999 ⟨by omega, by omega⟩ ⟨by omega, by omega⟩ ⟨by omega, by omega⟩) (by rfl) (by rfl) (by exact Nat.le_of_ble_eq_true rfl) (by decide) (by decide) (by omega) (by omega) (fun v ad' F' hK => ?_)
    obtain ⟨rfl, rfl, rfl⟩ := hK
    refine r_if_neb X 28 dX6_deposit_19 (by decide) (fun b => ?_) (fun b => ?_)
    · obtain ⟨j, rfl⟩ := Int.eq_ofNat_of_zero_le a.1
      have h2 : F1 50002 = some (cI g 6 (fun j => zI (B 2 j))) := hB1.2 2 rfl
      refine r_aload_n X dX6_deposit_28 (by rfl) ?_
      refine r_get X dX6_deposit_29 fgX6_7_8 (by assumption) (by rfl) ?_
      refine r_iload_n X dX6_deposit_32 (by rfl) ?_
      refine r_dup2 X dX6_deposit_33 (by rfl) (by rfl) ?_
      refine r_iald X j dX6_deposit_34 (by assumption) (by rfl) (by omega) (by first | decide | omega) ?_
      refine r_iload_n X dX6_deposit_35 (by rfl) ?_
      refine r_iadd X dX6_deposit_36 ?_
      refine r_ist X j dX6_deposit_37 (by assumption) (by omega) (by rfl) (by omega) (by first | decide | omega) ?_
      refine (fun (k : ∀ F2 : Pic, (MB g ad F2 td nf nk nc np 0 (u2 B 2 j (B 2 j + m))) → (FrM F1 F2) → V M g ad F2 _ _ _ _ _) => k _ (hB1.put 2 rfl j (B 2 j + m)) (FrM.pu ⟨by omega, by omega⟩)) ?_
      intro F2 h3 hF2
      have hO2 := h3.1
      unfold MOL at hO2
      have h4 : F2 50002 = some (cI g 6 (fun x => zI (u2 B 2 j (B 2 j + m) 2 x))) := h3.2 2 rfl
      refine r_aload_n X dX6_deposit_38 (by rfl) ?_
      refine r_get X dX6_deposit_39 fgX6_7_8 (by assumption) (by rfl) ?_
      refine r_iload_n X dX6_deposit_42 (by rfl) ?_
      refine r_iald X j dX6_deposit_43 (by assumption) (by rfl) (by omega) (by first | decide | omega) ?_
      rw [u2_at]
      exact r_iret X rfl (rfl) dX6_deposit_44 (⟨rfl, hF1.tr hF2, .inl ⟨a, b, rfl, h3⟩⟩) (by omega) (by omega)
    · refine r_aload_n X dX6_deposit_22 (by rfl) ?_
      refine r_iconst X dX6_deposit_23 rfl ?_
      refine r_callV X dX6_deposit_24 kX6_111 (c_mFails g _ hl ad F1 _ _ _ _ _ _ _ hB1 2) (by assumption) (by rfl) (by rfl) (by rfl) (by rfl) (by exact Nat.le_of_ble_eq_true rfl) (by decide) (by decide) (by omega) (by omega) (fun v ad' F2 hK => ?_)
      obtain ⟨rfl, rfl, hF2, hB2⟩ := hK
      exact r_iret X rfl (rfl) dX6_deposit_27 (⟨rfl, hF1.tr hF2, .inr (.inr ⟨a, b, rfl, hB2⟩)⟩) (by omega) (by omega)
  · rw [z2 a] at hB1
    refine r_iconst X dX6_deposit_8 rfl ?_
    exact r_iret X rfl (rfl) dX6_deposit_9 (⟨rfl, hF1, .inr (.inl ⟨a, rfl, hB1⟩)⟩) (by omega) (by omega)
set_option maxRecDepth 100000 in
set_option maxHeartbeats 4000000 in
theorem c_mAddFund (g : Gx) (l : Launch) (hl : l.stackTraces = false) (ad : Nat → Nat) (F : Pic) (td : Int) (nf nk nc np : Nat) (th : Int) (B : Nat → Nat → Int) (hB : MB g ad F td nf nk nc np th B) (m a d c : Int) (hm : inR m) (ha : inR a) (hd : inR d) (hc : inR c) (hn : nf ≤ 6 ∧ nk ≤ 100 ∧ nc ≤ 100) : Ct g l yX6_addFund cX6_addFund 5 (some .int) 3 0 0 [.ref (ad 50000), .int (zI m), .int (zI a), .int (zI d), .int (zI c)] ad F (fun v ad' F' => ad = ad' ∧ FrM F F' ∧ ((raF m a d c ∧ nf < 6 ∧ v = some (.int (zI nf)) ∧ MB g ad F' td (nf + 1) nk nc np 0 (u2 (u2 (u2 (u2 B 2 nf m) 3 nf a) 4 nf d) 5 nf c)) ∨ (¬ raF m a d c ∧ v = some (.int (zI 0)) ∧ MB g ad F' td nf nk nc np 1 B) ∨ (raF m a d c ∧ ¬ nf < 6 ∧ v = some (.int (zI 0)) ∧ MB g ad F' td nf nk nc np 2 B))) := by
  refine Ct_of hl rfl [some (.ref (ad 50000)), some (.int (zI m)), some (.int (zI a)), some (.int (zI d)), some (.int (zI c))] (Nat.le_of_ble_eq_true rfl) (fun _ h => h) ?_
  intro M hL hN X
  subst hL
  have hO := hB.1
  unfold MOL at hO
  refine r_aload_n X dX6_addFund_0 (by rfl) ?_
  refine r_iconst X dX6_addFund_1 rfl ?_
  refine r_put X dX6_addFund_2 fwX6_82_8 (by assumption) (by omega) (by exact Nat.le_of_ble_eq_true rfl) (by rfl) (by rfl) ?_
  dsimp only [List.set]
  refine (fun (k : ∀ F1 : Pic, (MB g ad F1 td nf nk nc np 0 B) → (FrM F F1) → V M g ad F1 _ _ _ _ _) => k _ (hB.obj pu_s (fun x hx => pu_n hx)) (FrM.pu ⟨by omega, by omega⟩)) ?_
  intro F1 h1 hF1
  have hO1 := h1.1
  unfold MOL at hO1
  have m9 := hm; have a9 := ha; have d9 := hd; have c9 := hc
  unfold inR at m9 a9 d9 c9
  have bad : ¬ raF m a d c → V M g ad F1 0 0 54 [some (.ref (ad 50000)), some (.int (zI m)), some (.int (zI a)), some (.int (zI d)), some (.int (zI c))] [] := fun h => by
    refine r_aload_n X dX6_addFund_54 (by rfl) ?_
    refine r_iconst X dX6_addFund_55 rfl ?_
    refine r_callV X dX6_addFund_56 kX6_111 (c_mFails g _ hl ad F1 _ _ _ _ _ _ _ h1 1) (by assumption) (by rfl) (by rfl) (by rfl) (by rfl) (by exact Nat.le_of_ble_eq_true rfl) (by decide) (by decide) (by omega) (by omega) (fun v ad' F2 hK => ?_)
    obtain ⟨rfl, rfl, hF2, hB2⟩ := hK
    exact r_iret X rfl (rfl) dX6_addFund_59 (⟨rfl, hF1.tr hF2, .inr (.inl ⟨h, rfl, hB2⟩)⟩) (by omega) (by omega)
  refine r_iload_n X dX6_addFund_5 (by rfl) ?_
  refine r_i2l X dX6_addFund_6 (hm) ?_
  refine r_lconst X dX6_addFund_7 0 rfl ?_
  refine r_ldc2 X dX6_addFund_8 w1179 (99999) rfl ?_
  refine r_callS X dX6_addFund_11 kX6_89 (c_mIn g _ hl ad F1 m 0 99999 ⟨by omega, by omega⟩ ⟨by omega, by omega⟩ ⟨by omega, by omega⟩) (by rfl) (by rfl) (by exact Nat.le_of_ble_eq_true rfl) (by decide) (by decide) (by omega) (by omega) (fun v ad' F' hK => ?_)
  obtain ⟨rfl, rfl, rfl⟩ := hK
  refine r_if_eqb X 54 dX6_addFund_14 (by decide) (fun q1 => ?_) (fun q1 => ?_)
  · exact bad (fun z => q1 z.1)
  · refine r_iload_n X dX6_addFund_17 (by rfl) ?_
    refine r_i2l X dX6_addFund_18 (ha) ?_
    refine r_lconst X dX6_addFund_19 0 rfl ?_
    refine r_ldc2 X dX6_addFund_20 w1183 (255) rfl ?_
    refine r_callS X dX6_addFund_23 kX6_89 (c_mIn g _ hl ad F1 a 0 255 ⟨by omega, by omega⟩ ⟨by omega, by omega⟩ ⟨by omega, by omega⟩) (by rfl) (by rfl) (by exact Nat.le_of_ble_eq_true rfl) (by decide) (by decide) (by omega) (by omega) (fun v ad' F' hK => ?_)
    obtain ⟨rfl, rfl, rfl⟩ := hK
    refine r_if_eqb X 54 dX6_addFund_26 (by decide) (fun q2 => ?_) (fun q2 => ?_)
    · exact bad (fun z => q2 z.2.1)
    · refine r_iload_n X dX6_addFund_29 (by rfl) ?_
      refine r_i2l X dX6_addFund_30 (hd) ?_
      refine r_lconst X dX6_addFund_31 0 rfl ?_
      refine r_ldc2 X dX6_addFund_32 w1184 (999) rfl ?_
      refine r_callS X dX6_addFund_35 kX6_89 (c_mIn g _ hl ad F1 d 0 999 ⟨by omega, by omega⟩ ⟨by omega, by omega⟩ ⟨by omega, by omega⟩) (by rfl) (by rfl) (by exact Nat.le_of_ble_eq_true rfl) (by decide) (by decide) (by omega) (by omega) (fun v ad' F' hK => ?_)
      obtain ⟨rfl, rfl, rfl⟩ := hK
      refine r_if_eqb X 54 dX6_addFund_38 (by decide) (fun q3 => ?_) (fun q3 => ?_)
      · exact bad (fun z => q3 z.2.2.1)
      · refine r_iload X dX6_addFund_41 (by rfl) ?_
        refine r_i2l X dX6_addFund_43 (hc) ?_
        refine r_lconst X dX6_addFund_44 0 rfl ?_
        refine r_ldc2 X dX6_addFund_45 w1185 (100) rfl ?_
        refine r_callS X dX6_addFund_48 kX6_89 (c_mIn g _ hl ad F1 c 0 100 ⟨by omega, by omega⟩ ⟨by omega, by omega⟩ ⟨by omega, by omega⟩) (by rfl) (by rfl) (by exact Nat.le_of_ble_eq_true rfl) (by decide) (by decide) (by omega) (by omega) (fun v ad' F' hK => ?_)
        obtain ⟨rfl, rfl, rfl⟩ := hK
        refine r_if_neb X 60 dX6_addFund_51 (by decide) (fun q4 => ?_) (fun q4 => ?_)
        · refine r_aload_n X dX6_addFund_60 (by rfl) ?_
          refine r_get X dX6_addFund_61 fgX6_86_8 (by assumption) (by rfl) ?_
          refine r_bipush X dX6_addFund_64 (by decide) ?_
          refine r_icmp_ne X 75 dX6_addFund_66 (by decide) (by unfold inR; omega) (by unfold inR; omega) (fun b => ?_) (fun b => ?_)
          · have hlt : nf < 6 := by omega
            have f2 : F1 50002 = some (cI g 6 (fun j => zI (B 2 j))) := h1.2 2 rfl
            refine r_aload_n X dX6_addFund_75 (by rfl) ?_
            refine r_get X dX6_addFund_76 fgX6_7_8 (by assumption) (by rfl) ?_
            refine r_aload_n X dX6_addFund_79 (by rfl) ?_
            refine r_get X dX6_addFund_80 fgX6_86_8 (by assumption) (by rfl) ?_
            refine r_iload_n X dX6_addFund_83 (by rfl) ?_
            refine r_ist X nf dX6_addFund_84 (by assumption) (by omega) (by rfl) (by omega) (by first | decide | omega) ?_
            refine (fun (k : ∀ F2 : Pic, (MB g ad F2 td nf nk nc np 0 (u2 B 2 nf m)) → (FrM F1 F2) → V M g ad F2 _ _ _ _ _) => k _ (h1.put 2 rfl nf m) (FrM.pu ⟨by omega, by omega⟩)) ?_
            intro F2 h2 hF2
            have hO2 := h2.1
            unfold MOL at hO2
            have f3 : F2 50003 = some (cI g 6 (fun j => zI (u2 B 2 nf m 3 j))) := h2.2 3 rfl
            refine r_aload_n X dX6_addFund_85 (by rfl) ?_
            refine r_get X dX6_addFund_86 fgX6_13_8 (by assumption) (by rfl) ?_
            refine r_aload_n X dX6_addFund_89 (by rfl) ?_
            refine r_get X dX6_addFund_90 fgX6_86_8 (by assumption) (by rfl) ?_
            refine r_iload_n X dX6_addFund_93 (by rfl) ?_
            refine r_ist X nf dX6_addFund_94 (by assumption) (by omega) (by rfl) (by omega) (by first | decide | omega) ?_
            refine (fun (k : ∀ F3 : Pic, (MB g ad F3 td nf nk nc np 0 (u2 (u2 B 2 nf m) 3 nf a)) → (FrM F2 F3) → V M g ad F3 _ _ _ _ _) => k _ (h2.put 3 rfl nf a) (FrM.pu ⟨by omega, by omega⟩)) ?_
            intro F3 h3 hF3
            have hO3 := h3.1
            unfold MOL at hO3
            have f4 : F3 50004 = some (cI g 6 (fun j => zI (u2 (u2 B 2 nf m) 3 nf a 4 j))) := h3.2 4 rfl
            refine r_aload_n X dX6_addFund_95 (by rfl) ?_
            refine r_get X dX6_addFund_96 fgX6_16_8 (by assumption) (by rfl) ?_
            refine r_aload_n X dX6_addFund_99 (by rfl) ?_
            refine r_get X dX6_addFund_100 fgX6_86_8 (by assumption) (by rfl) ?_
            refine r_iload_n X dX6_addFund_103 (by rfl) ?_
            refine r_ist X nf dX6_addFund_104 (by assumption) (by omega) (by rfl) (by omega) (by first | decide | omega) ?_
            refine (fun (k : ∀ F4 : Pic, (MB g ad F4 td nf nk nc np 0 (u2 (u2 (u2 B 2 nf m) 3 nf a) 4 nf d)) → (FrM F3 F4) → V M g ad F4 _ _ _ _ _) => k _ (h3.put 4 rfl nf d) (FrM.pu ⟨by omega, by omega⟩)) ?_
            intro F4 h4 hF4
            have hO4 := h4.1
            unfold MOL at hO4
            have f5 : F4 50005 = some (cI g 6 (fun j => zI (u2 (u2 (u2 B 2 nf m) 3 nf a) 4 nf d 5 j))) := h4.2 5 rfl
            refine r_aload_n X dX6_addFund_105 (by rfl) ?_
            refine r_get X dX6_addFund_106 fgX6_19_8 (by assumption) (by rfl) ?_
            refine r_aload_n X dX6_addFund_109 (by rfl) ?_
            refine r_get X dX6_addFund_110 fgX6_86_8 (by assumption) (by rfl) ?_
            refine r_iload X dX6_addFund_113 (by rfl) ?_
            refine r_ist X nf dX6_addFund_115 (by assumption) (by omega) (by rfl) (by omega) (by first | decide | omega) ?_
            refine (fun (k : ∀ F5 : Pic, (MB g ad F5 td nf nk nc np 0 (u2 (u2 (u2 (u2 B 2 nf m) 3 nf a) 4 nf d) 5 nf c)) → (FrM F4 F5) → V M g ad F5 _ _ _ _ _) => k _ (h4.put 5 rfl nf c) (FrM.pu ⟨by omega, by omega⟩)) ?_
            intro F5 h5 hF5
            have hO5 := h5.1
            unfold MOL at hO5
            refine r_aload_n X dX6_addFund_116 (by rfl) ?_
            refine r_dup X dX6_addFund_117 (by rfl) ?_
            refine r_get X dX6_addFund_118 fgX6_86_8 (by assumption) (by rfl) ?_
            refine r_iconst X dX6_addFund_121 rfl ?_
            refine r_iadd X dX6_addFund_122 ?_
            refine r_put X dX6_addFund_123 fwX6_86_8 (by assumption) (by omega) (by exact Nat.le_of_ble_eq_true rfl) (by rfl) (by rfl) ?_
            dsimp only [List.set]
            have e1 : (nf : Int) + 1 = ((nf + 1 : Nat) : Int) := by omega
            refine (fun (k : ∀ F6 : Pic, (MB g ad F6 td (nf + 1) nk nc np 0 (u2 (u2 (u2 (u2 B 2 nf m) 3 nf a) 4 nf d) 5 nf c)) → (FrM F5 F6) → V M g ad F6 _ _ _ _ _) => k _ (h5.obj (by rw [pu_s, e1]; rfl) (fun x hx => pu_n hx)) (FrM.pu ⟨by omega, by omega⟩)) ?_
            intro F6 h6 hF6
            have hO6 := h6.1
            unfold MOL at hO6
            refine r_aload_n X dX6_addFund_126 (by rfl) ?_
            refine r_get X dX6_addFund_127 fgX6_86_8 (by assumption) (by rfl) ?_
            refine r_iconst X dX6_addFund_130 rfl ?_
            refine r_isub X dX6_addFund_131 ?_
            refine W_int (b := zI (nf : Int)) (congrArg zI (by omega)) ?_
            exact r_iret X rfl (rfl) dX6_addFund_132 (⟨rfl, hF1.tr (hF2.tr (hF3.tr (hF4.tr (hF5.tr hF6)))), .inl ⟨⟨q1, q2, q3, q4⟩, hlt, rfl, h6⟩⟩) (by omega) (by omega)
          · refine r_aload_n X dX6_addFund_69 (by rfl) ?_
            refine r_iconst X dX6_addFund_70 rfl ?_
            refine r_callV X dX6_addFund_71 kX6_111 (c_mFails g _ hl ad F1 _ _ _ _ _ _ _ h1 2) (by assumption) (by rfl) (by rfl) (by rfl) (by rfl) (by exact Nat.le_of_ble_eq_true rfl) (by decide) (by decide) (by omega) (by omega) (fun v ad' F2 hK => ?_)
            obtain ⟨rfl, rfl, hF2, hB2⟩ := hK
            exact r_iret X rfl (rfl) dX6_addFund_74 (⟨rfl, hF1.tr hF2, .inr (.inr ⟨⟨q1, q2, q3, q4⟩, by omega, rfl, hB2⟩)⟩) (by omega) (by omega)
        · exact bad (fun z => q4 z.2.2.2)
