/-! ===== the model: commitments of a fund, room, what a fund paid ===== -/
theorem AG.row {nf nk nc : Nat} {A P : Nat → Nat → Int} {kf : Nat → Nat} {B B' : Nat → Nat → Int} (h : AG nf nk nc A P kf B) (e : ∀ a, a ≤ 17 → B' a = B a) : AG nf nk nc A P kf B' := by
  obtain ⟨h1, h2, h3, h4, h5⟩ := h
  refine ⟨fun x hx => ?_, fun x hx hx6 => ?_, fun x hx => ?_, fun x hx => ?_, fun x hx hx6 k hk6 => ?_⟩
  · rw [e 2 (by omega), e 3 (by omega), e 4 (by omega), e 5 (by omega), e 6 (by omega), e 7 (by omega)]; exact h1 x hx
  · rw [e 6 (by omega), e 7 (by omega)]; exact h2 x hx hx6
  · rw [e 9 (by omega), e 10 (by omega), e 11 (by omega), e 12 (by omega)]; exact h3 x hx
  · rw [e 14 (by omega), e 15 (by omega), e 16 (by omega), e 17 (by omega)]; exact h4 x hx
  · rw [e 17 (by omega)]; exact h5 x hx hx6 k hk6
theorem AG.take {nf nk nc : Nat} {A P : Nat → Nat → Int} {kf : Nat → Nat} {B : Nat → Nat → Int} (h : AG nf nk nc A P kf B) {i : Nat} (hi : i < nf) (m : Int) : AG nf nk nc (takeA A i m) P kf (u2 (u2 B 2 i (B 2 i - m)) 7 i (B 7 i + m)) := by
  obtain ⟨h1, h2, h3, h4, h5⟩ := h
  refine ⟨fun x hx => ?_, fun x hx hx6 => ?_, fun x hx => ?_, fun x hx => ?_, fun x hx hx6 k hk6 => ?_⟩
  · have q := h1 x hx
    rw [takeA_o (a := 1) (by omega) (by omega), takeA_o (a := 2) (by omega) (by omega), takeA_o (a := 3) (by omega) (by omega), takeA_o (a := 4) (by omega) (by omega)]
    by_cases e : x = i
    · subst e
      rw [takeA_0, takeA_5, ← q.1, ← q.2.2.2.2.2]
      simp only [u2]; simp; exact ⟨q.2.1, q.2.2.1, q.2.2.2.1, q.2.2.2.2.1⟩
    · rw [takeA_n e, takeA_n e]
      simp only [u2]; simp [e]; exact q
  · have e : x ≠ i := by omega
    simp only [u2]; simp [e]; exact h2 x hx hx6
  · rw [takeA_o (a := 7) (by omega) (by omega), takeA_o (a := 8) (by omega) (by omega), takeA_o (a := 9) (by omega) (by omega)]
    simp only [u2]; simp; exact h3 x hx
  · rw [takeA_o (a := 10) (by omega) (by omega), takeA_o (a := 11) (by omega) (by omega), takeA_o (a := 12) (by omega) (by omega)]
    simp only [u2]; simp; exact h4 x hx
  · simp only [u2]; simp; exact h5 x hx hx6 k hk6
set_option maxRecDepth 100000 in
set_option maxHeartbeats 4000000 in
theorem c_mCommitted (g : Gx) (l : Launch) (hl : l.stackTraces = false) (ad : Nat → Nat) (F : Pic) (td : Int) (nf nk nc np : Nat) (th : Int) (B A P : Nat → Nat → Int) (kf : Nat → Nat) (hB : MB g ad F td nf nk nc np th B) (hG : AG nf nk nc A P kf B) (t : Nat) (hI : IV td nf nk nc A kf t) (i : Nat) (hi : i < 1000) : Ct g l yX6_committed cX6_committed 4 (some .int) 1 0 0 [.ref (ad 50000), .int (zI (i : Int))] ad F (fun v ad' F' => v = some (.int (zI (comZ A kf i nk))) ∧ ad = ad' ∧ F = F') := by
  refine Ct_of hl rfl [some (.ref (ad 50000)), some (.int (zI (i : Int))), none, none] (Nat.le_of_ble_eq_true rfl) (fun _ h => h) ?_
  intro M hL hN X
  subst hL
  have hI0 := hI.1
  have hB_o := hB.1
  unfold MOL at hB_o
  have hB_9 : F 50009 = some (cI g 6 (fun j => zI (B 9 j))) := hB.2 9 rfl
  have hB_11 : F 50011 = some (cI g 6 (fun j => zI (B 11 j))) := hB.2 11 rfl
  have loop : ∀ (n k : Nat) (w : Int), nk - k = n → k ≤ nk → w = comZ A kf i k → V M g ad F 0 0 4 [some (.ref (ad 50000)), some (.int (zI (i : Int))), some (.int (zI w)), some (.int (zI (k : Int)))] [] := by
    intro n
    induction n with
    | zero =>
      intro k w hn hk hw
      obtain rfl : k = nk := by omega
      refine r_iload_n X dX6_committed_4 (by rfl) ?_
      refine r_aload_n X dX6_committed_5 (by rfl) ?_
      refine r_get X dX6_committed_6 fgX6_93_8 (by assumption) (by rfl) ?_
      refine r_icmp_ge X 41 dX6_committed_9 (by decide) (by unfold inR; omega) (by unfold inR; omega) (fun a => ?_) (fun a => ?_)
      · refine r_iload_n X dX6_committed_41 (by rfl) ?_
        exact r_iret X rfl (rfl) dX6_committed_42 (⟨by rw [hw], rfl, rfl⟩) (by omega) (by omega)
      · omega
    | succ n ih =>
      intro k w hn hk hw
      have hw' : comZ A kf i (k + 1) = comZ A kf i k + (if kf k = i then A 8 k else 0) := rfl
      have e9 : B 9 k = (kf k : Int) := (hG.2.2.1 k (by omega)).1
      have e11 : B 11 k = A 8 k := (hG.2.2.1 k (by omega)).2.2.1
      have hkk := (hI.2.2.1 k (by omega)).1
      refine r_iload_n X dX6_committed_4 (by rfl) ?_
      refine r_aload_n X dX6_committed_5 (by rfl) ?_
      refine r_get X dX6_committed_6 fgX6_93_8 (by assumption) (by rfl) ?_
      refine r_icmp_ge X 41 dX6_committed_9 (by decide) (by unfold inR; omega) (by unfold inR; omega) (fun a => ?_) (fun a => ?_)
      · omega
      · refine r_iload_n X dX6_committed_12 (by rfl) ?_
        refine r_aload_n X dX6_committed_13 (by rfl) ?_
        refine r_get X dX6_committed_14 fgX6_28_8 (by assumption) (by rfl) ?_
        refine r_iload_n X dX6_committed_17 (by rfl) ?_
        refine r_iald X k dX6_committed_18 (by assumption) (by rfl) (by omega) (by first | decide | omega) ?_
        refine r_iload_n X dX6_committed_19 (by rfl) ?_
        rw [e9]
        refine r_icmp_ne X 32 dX6_committed_20 (by decide) (by unfold inR; omega) (by unfold inR; omega) (fun b => ?_) (fun b => ?_)
        · refine r_iconst X dX6_committed_32 rfl ?_
          refine r_iadd X dX6_committed_33 ?_
          refine r_istore_n X dX6_committed_34 (by rw [hN]; decide) (by rfl) ?_
          dsimp only [List.set]
          refine r_iinc X dX6_committed_35 (by rfl) (by rw [hN]; decide) (by rfl) ?_
          dsimp only [List.set]
          refine r_goto X dX6_committed_38 4 (by decide) ?_
          exact ih (k + 1) _ (by omega) (by omega) (by rw [hw', if_neg (by omega), hw])
        · refine r_aload_n X dX6_committed_23 (by rfl) ?_
          refine r_get X dX6_committed_24 fgX6_34_8 (by assumption) (by rfl) ?_
          refine r_iload_n X dX6_committed_27 (by rfl) ?_
          refine r_iald X k dX6_committed_28 (by assumption) (by rfl) (by omega) (by first | decide | omega) ?_
          refine r_goto X dX6_committed_29 33 (by decide) ?_
          rw [e11]
          refine r_iadd X dX6_committed_33 ?_
          refine r_istore_n X dX6_committed_34 (by rw [hN]; decide) (by rfl) ?_
          dsimp only [List.set]
          refine r_iinc X dX6_committed_35 (by rfl) (by rw [hN]; decide) (by rfl) ?_
          dsimp only [List.set]
          refine r_goto X dX6_committed_38 4 (by decide) ?_
          exact ih (k + 1) _ (by omega) (by omega) (by rw [hw', if_pos (by omega), hw])
  refine r_iconst X dX6_committed_0 rfl ?_
  refine r_istore_n X dX6_committed_1 (by rw [hN]; decide) (by rfl) ?_
  dsimp only [List.set]
  refine r_iconst X dX6_committed_2 rfl ?_
  refine r_istore_n X dX6_committed_3 (by rw [hN]; decide) (by rfl) ?_
  dsimp only [List.set]
  exact loop nk 0 0 (by omega) (by omega) rfl
set_option maxRecDepth 100000 in
set_option maxHeartbeats 4000000 in
theorem c_mCommittedOf (g : Gx) (l : Launch) (hl : l.stackTraces = false) (ad : Nat → Nat) (F : Pic) (td : Int) (nf nk nc np : Nat) (th : Int) (B A P : Nat → Nat → Int) (kf : Nat → Nat) (hB : MB g ad F td nf nk nc np th B) (hG : AG nf nk nc A P kf B) (t : Nat) (hI : IV td nf nk nc A kf t) (i : Int) (hi : inR i) : Ct g l yX6_committedOf cX6_committedOf 2 (some .int) 3 0 0 [.ref (ad 50000), .int (zI i)] ad F (fun v ad' F' => ad = ad' ∧ FrM F F' ∧ (((0 ≤ i ∧ i < nf) ∧ v = some (.int (zI (comZ A kf i.toNat nk))) ∧ MG g ad F' td nf nk nc A P kf 0) ∨ (¬ (0 ≤ i ∧ i < nf) ∧ v = some (.int (zI 0)) ∧ MG g ad F' td nf nk nc A P kf 1))) := by
  refine Ct_of hl rfl [some (.ref (ad 50000)), some (.int (zI i))] (Nat.le_of_ble_eq_true rfl) (fun _ h => h) ?_
  intro M hL hN X
  subst hL
  have hI0 := hI.1
  have hB_o := hB.1
  unfold MOL at hB_o
  refine r_aload_n X dX6_committedOf_0 (by rfl) ?_
  refine r_iload_n X dX6_committedOf_1 (by rfl) ?_
  refine r_callV X dX6_committedOf_2 kX6_115 (c_mIsFund g _ hl ad F _ _ _ _ _ _ _ hB i hi (by omega)) (by assumption) (by rfl) (by rfl) (by rfl) (by rfl) (by exact Nat.le_of_ble_eq_true rfl) (by decide) (by decide) (by omega) (by omega) (fun v ad' F1 hK => ?_)
  obtain ⟨rfl, rfl, hF1, th', hB1, z1, z2⟩ := hK
  have hB1_o := hB1.1
  unfold MOL at hB1_o
  refine r_if_eqb X 16 dX6_committedOf_5 (by decide) (fun a => ?_) (fun a => ?_)
  · rw [z2 a] at hB1
    refine r_iconst X dX6_committedOf_16 rfl ?_
    exact r_iret X rfl (rfl) dX6_committedOf_17 (⟨rfl, hF1, .inr ⟨a, rfl, _, _, hB1, hG⟩⟩) (by omega) (by omega)
  · rw [z1 a] at hB1
    obtain ⟨j, rfl⟩ := Int.eq_ofNat_of_zero_le a.1
    refine r_aload_n X dX6_committedOf_8 (by rfl) ?_
    refine r_iload_n X dX6_committedOf_9 (by rfl) ?_
    refine r_callV X dX6_committedOf_10 kX6_179 (c_mCommitted g _ hl ad F1 _ _ _ _ _ _ _ _ _ _ hB1 hG t hI j (by omega)) (by assumption) (by rfl) (by rfl) (by rfl) (by rfl) (by exact Nat.le_of_ble_eq_true rfl) (by decide) (by decide) (by omega) (by omega) (fun v ad' F2 hK => ?_)
    obtain ⟨rfl, rfl, rfl⟩ := hK
    refine r_goto X dX6_committedOf_13 17 (by decide) ?_
    exact r_iret X rfl (rfl) dX6_committedOf_17 (⟨rfl, hF1, .inl ⟨a, rfl, _, _, hB1, hG⟩⟩) (by omega) (by omega)
set_option maxRecDepth 100000 in
set_option maxHeartbeats 4000000 in
theorem c_mRoom (g : Gx) (l : Launch) (hl : l.stackTraces = false) (ad : Nat → Nat) (F : Pic) (td : Int) (nf nk nc np : Nat) (th : Int) (B A P : Nat → Nat → Int) (kf : Nat → Nat) (hB : MB g ad F td nf nk nc np th B) (hG : AG nf nk nc A P kf B) (t : Nat) (hI : IV td nf nk nc A kf t) (i : Nat) (hi : i < nf) : Ct g l yX6_room cX6_room 3 (some .int) 1 0 0 [.ref (ad 50000), .int (zI (i : Int))] ad F (fun v ad' F' => v = some (.int (zI (roA A i))) ∧ ad = ad' ∧ F = F') := by
  refine Ct_of hl rfl [some (.ref (ad 50000)), some (.int (zI (i : Int))), none] (Nat.le_of_ble_eq_true rfl) (fun _ h => h) ?_
  intro M hL hN X
  subst hL
  have hI0 := hI.1
  have b0 := hI.b0 hi
  have b4 := hI.b4 hi
  have b3 := (hI.2.1 i hi).2.2.2.1
  obtain ⟨e2, -, -, e5, e6, e7⟩ := hG.1 i hi
  have hB_o := hB.1
  unfold MOL at hB_o
  have hB_2 : F 50002 = some (cI g 6 (fun j => zI (B 2 j))) := hB.2 2 rfl
  have hB_5 : F 50005 = some (cI g 6 (fun j => zI (B 5 j))) := hB.2 5 rfl
  have hB_6 : F 50006 = some (cI g 6 (fun j => zI (B 6 j))) := hB.2 6 rfl
  have hB_7 : F 50007 = some (cI g 6 (fun j => zI (B 7 j))) := hB.2 7 rfl
  have m1 : 0 ≤ A 4 i * A 3 i := Int.mul_nonneg b4.1 b3.1
  have m2 : A 4 i * A 3 i ≤ 1599984 * 100 := Int.le_trans (Int.mul_le_mul_of_nonneg_right b4.2.1 b3.1) (Int.mul_le_mul_of_nonneg_left b3.2 (by omega))
  have hro : roA A i = max 0 (min (A 4 i * A 3 i / 100 - A 5 i) (A 0 i)) := rfl
  have rest : ∀ (z : Int) (o : Option Value), z = max 0 (A 4 i * A 3 i / 100 - A 5 i) → V M g ad F 0 0 33 [some (.ref (ad 50000)), some (.int (zI (i : Int))), o] [.int (zI z)] := fun z o hz => by
    refine r_istore_n X dX6_room_33 (by rw [hN]; decide) (by rfl) ?_
    dsimp only [List.set]
    refine r_iload_n X dX6_room_34 (by rfl) ?_
    refine r_aload_n X dX6_room_35 (by rfl) ?_
    refine r_get X dX6_room_36 fgX6_7_8 (by assumption) (by rfl) ?_
    refine r_iload_n X dX6_room_39 (by rfl) ?_
    refine r_iald X i dX6_room_40 (by assumption) (by rfl) (by omega) (by first | decide | omega) ?_
    rw [e2]
    refine r_icmp_ge X 48 dX6_room_41 (by decide) (by unfold inR; omega) (by unfold inR; omega) (fun a => ?_) (fun a => ?_)
    · refine r_aload_n X dX6_room_48 (by rfl) ?_
      refine r_get X dX6_room_49 fgX6_7_8 (by assumption) (by rfl) ?_
      refine r_iload_n X dX6_room_52 (by rfl) ?_
      refine r_iald X i dX6_room_53 (by assumption) (by rfl) (by omega) (by first | decide | omega) ?_
      rw [e2]
      refine W_int (b := zI (roA A i)) (congrArg zI (by omega)) ?_
      exact r_iret X rfl (rfl) dX6_room_54 (⟨rfl, rfl, rfl⟩) (by omega) (by omega)
    · refine r_iload_n X dX6_room_44 (by rfl) ?_
      refine r_goto X dX6_room_45 54 (by decide) ?_
      refine W_int (b := zI (roA A i)) (congrArg zI (by omega)) ?_
      exact r_iret X rfl (rfl) dX6_room_54 (⟨rfl, rfl, rfl⟩) (by omega) (by omega)
  refine r_aload_n X dX6_room_0 (by rfl) ?_
  refine r_get X dX6_room_1 fgX6_22_8 (by assumption) (by rfl) ?_
  refine r_iload_n X dX6_room_4 (by rfl) ?_
  refine r_iald X i dX6_room_5 (by assumption) (by rfl) (by omega) (by first | decide | omega) ?_
  refine r_aload_n X dX6_room_6 (by rfl) ?_
  refine r_get X dX6_room_7 fgX6_19_8 (by assumption) (by rfl) ?_
  refine r_iload_n X dX6_room_10 (by rfl) ?_
  refine r_iald X i dX6_room_11 (by assumption) (by rfl) (by omega) (by first | decide | omega) ?_
  rw [e6, e5]
  refine r_imul X dX6_room_12 ?_
  refine r_bipush X dX6_room_13 (by decide) ?_
  refine r_idiv X (hne := zI_ne0 (by omega)) (hv := zI_div ⟨m1, by omega⟩ (by omega)) dX6_room_15 ?_
  refine r_aload_n X dX6_room_16 (by rfl) ?_
  refine r_get X dX6_room_17 fgX6_25_8 (by assumption) (by rfl) ?_
  refine r_iload_n X dX6_room_20 (by rfl) ?_
  refine r_iald X i dX6_room_21 (by assumption) (by rfl) (by omega) (by first | decide | omega) ?_
  rw [e7]
  refine r_isub X dX6_room_22 ?_
  refine r_istore_n X dX6_room_23 (by rw [hN]; decide) (by rfl) ?_
  dsimp only [List.set]
  refine r_iload_n X dX6_room_24 (by rfl) ?_
  refine r_if_ge X 32 dX6_room_25 (by decide) (by unfold inR; omega) (fun a => ?_) (fun a => ?_)
  · refine r_iload_n X dX6_room_32 (by rfl) ?_
    exact rest _ _ (by omega)
  · refine r_iconst X dX6_room_28 rfl ?_
    refine r_goto X dX6_room_29 33 (by decide) ?_
    exact rest _ _ (by omega)
set_option maxRecDepth 100000 in
set_option maxHeartbeats 4000000 in
theorem c_mRoomOf (g : Gx) (l : Launch) (hl : l.stackTraces = false) (ad : Nat → Nat) (F : Pic) (td : Int) (nf nk nc np : Nat) (th : Int) (B A P : Nat → Nat → Int) (kf : Nat → Nat) (hB : MB g ad F td nf nk nc np th B) (hG : AG nf nk nc A P kf B) (t : Nat) (hI : IV td nf nk nc A kf t) (i : Int) (hi : inR i) : Ct g l yX6_roomOf cX6_roomOf 2 (some .int) 3 0 0 [.ref (ad 50000), .int (zI i)] ad F (fun v ad' F' => ad = ad' ∧ FrM F F' ∧ (((0 ≤ i ∧ i < nf) ∧ v = some (.int (zI (roA A i.toNat))) ∧ MG g ad F' td nf nk nc A P kf 0) ∨ (¬ (0 ≤ i ∧ i < nf) ∧ v = some (.int (zI 0)) ∧ MG g ad F' td nf nk nc A P kf 1))) := by
  refine Ct_of hl rfl [some (.ref (ad 50000)), some (.int (zI i))] (Nat.le_of_ble_eq_true rfl) (fun _ h => h) ?_
  intro M hL hN X
  subst hL
  have hI0 := hI.1
  have hB_o := hB.1
  unfold MOL at hB_o
  refine r_aload_n X dX6_roomOf_0 (by rfl) ?_
  refine r_iload_n X dX6_roomOf_1 (by rfl) ?_
  refine r_callV X dX6_roomOf_2 kX6_115 (c_mIsFund g _ hl ad F _ _ _ _ _ _ _ hB i hi (by omega)) (by assumption) (by rfl) (by rfl) (by rfl) (by rfl) (by exact Nat.le_of_ble_eq_true rfl) (by decide) (by decide) (by omega) (by omega) (fun v ad' F1 hK => ?_)
  obtain ⟨rfl, rfl, hF1, th', hB1, z1, z2⟩ := hK
  have hB1_o := hB1.1
  unfold MOL at hB1_o
  refine r_if_eqb X 16 dX6_roomOf_5 (by decide) (fun a => ?_) (fun a => ?_)
  · rw [z2 a] at hB1
    refine r_iconst X dX6_roomOf_16 rfl ?_
    exact r_iret X rfl (rfl) dX6_roomOf_17 (⟨rfl, hF1, .inr ⟨a, rfl, _, _, hB1, hG⟩⟩) (by omega) (by omega)
  · rw [z1 a] at hB1
    obtain ⟨j, rfl⟩ := Int.eq_ofNat_of_zero_le a.1
    refine r_aload_n X dX6_roomOf_8 (by rfl) ?_
    refine r_iload_n X dX6_roomOf_9 (by rfl) ?_
    refine r_callV X dX6_roomOf_10 kX6_167 (c_mRoom g _ hl ad F1 _ _ _ _ _ _ _ _ _ _ hB1 hG t hI j (by omega)) (by assumption) (by rfl) (by rfl) (by rfl) (by rfl) (by exact Nat.le_of_ble_eq_true rfl) (by decide) (by decide) (by omega) (by omega) (fun v ad' F2 hK => ?_)
    obtain ⟨rfl, rfl, rfl⟩ := hK
    refine r_goto X dX6_roomOf_13 17 (by decide) ?_
    exact r_iret X rfl (rfl) dX6_roomOf_17 (⟨rfl, hF1, .inl ⟨a, rfl, _, _, hB1, hG⟩⟩) (by omega) (by omega)
set_option maxRecDepth 100000 in
set_option maxHeartbeats 4000000 in
theorem c_mPaidBy (g : Gx) (l : Launch) (hl : l.stackTraces = false) (ad : Nat → Nat) (F : Pic) (td : Int) (nf nk nc np : Nat) (th : Int) (B A P : Nat → Nat → Int) (kf : Nat → Nat) (hB : MB g ad F td nf nk nc np th B) (hG : AG nf nk nc A P kf B) (t : Nat) (hI : IV td nf nk nc A kf t) (i k : Int) (hi : inR i) (hk : inR k) : Ct g l yX6_paidBy cX6_paidBy 3 (some .int) 2 0 0 [.ref (ad 50000), .int (zI i), .int (zI k)] ad F (fun v ad' F' => ad = ad' ∧ FrM F F' ∧ ((((0 ≤ i ∧ i < nc) ∧ 0 ≤ k ∧ k < nf) ∧ v = some (.int (zI (P i.toNat k.toNat))) ∧ MG g ad F' td nf nk nc A P kf 0) ∨ (¬ ((0 ≤ i ∧ i < nc) ∧ 0 ≤ k ∧ k < nf) ∧ v = some (.int (zI 0)) ∧ MG g ad F' td nf nk nc A P kf 1))) := by
  refine Ct_of hl rfl [some (.ref (ad 50000)), some (.int (zI i)), some (.int (zI k))] (Nat.le_of_ble_eq_true rfl) (fun _ h => h) ?_
  intro M hL hN X
  subst hL
  have hI0 := hI.1
  have i9 := hi; have k9 := hk
  unfold inR at i9 k9
  have hB_o := hB.1
  unfold MOL at hB_o
  have bad : ¬ ((0 ≤ i ∧ i < nc) ∧ 0 ≤ k ∧ k < nf) → V M g ad F 0 0 37 [some (.ref (ad 50000)), some (.int (zI i)), some (.int (zI k))] [.ref (ad 50000)] := fun h => by
    refine r_iconst X dX6_paidBy_37 rfl ?_
    refine r_put X dX6_paidBy_38 fwX6_82_8 (by assumption) (by omega) (by exact Nat.le_of_ble_eq_true rfl) (by rfl) (by rfl) ?_
    dsimp only [List.set]
    refine (fun (kk9 : ∀ F1 : Pic, MB g ad F1 td nf nk nc np 1 B → FrM F F1 → V M g ad F1 _ _ _ _ _) => kk9 _ (hB.obj (by rw [pu_s]; rfl) (fun x hx => pu_n hx)) (FrM.pu ⟨by omega, by omega⟩)) ?_
    intro F1 h1 h1F
    have h1_o := h1.1
    unfold MOL at h1_o
    refine r_aload_n X dX6_paidBy_41 (by rfl) ?_
    refine r_get X dX6_paidBy_42 fgX6_82_8 (by assumption) (by rfl) ?_
    refine r_if_ne X 62 dX6_paidBy_45 (by decide) (by unfold inR; omega) (fun a => ?_) (fun a => ?_)
    · refine r_iconst X dX6_paidBy_62 rfl ?_
      exact r_iret X rfl (rfl) dX6_paidBy_63 (⟨rfl, h1F, .inr ⟨h, rfl, _, _, h1, hG⟩⟩) (by omega) (by omega)
    · omega
  refine r_aload_n X dX6_paidBy_0 (by rfl) ?_
  refine r_iload_n X dX6_paidBy_1 (by rfl) ?_
  refine r_i2l X dX6_paidBy_2 (hi) ?_
  refine r_lconst X dX6_paidBy_3 0 rfl ?_
  refine r_aload_n X dX6_paidBy_4 (by rfl) ?_
  refine r_get X dX6_paidBy_5 fgX6_96_8 (by assumption) (by rfl) ?_
  refine r_iconst X dX6_paidBy_8 rfl ?_
  refine r_isub X dX6_paidBy_9 ?_
  refine r_i2l X dX6_paidBy_10 ((by unfold inR; omega)) ?_
  refine r_callS X dX6_paidBy_11 kX6_89 (c_mIn g _ hl ad F i 0 ((nc : Int) - 1) ⟨by omega, by omega⟩ ⟨by omega, by omega⟩ ⟨by omega, by omega⟩) (by rfl) (by rfl) (by exact Nat.le_of_ble_eq_true rfl) (by decide) (by decide) (by omega) (by omega) (fun v ad' F' hK => ?_)
  obtain ⟨rfl, rfl, rfl⟩ := hK
  refine r_if_eqb X 37 dX6_paidBy_14 (by decide) (fun q1 => ?_) (fun q1 => ?_)
  · exact bad (fun z => q1 (by omega))
  · refine r_iload_n X dX6_paidBy_17 (by rfl) ?_
    refine r_i2l X dX6_paidBy_18 (hk) ?_
    refine r_lconst X dX6_paidBy_19 0 rfl ?_
    refine r_aload_n X dX6_paidBy_20 (by rfl) ?_
    refine r_get X dX6_paidBy_21 fgX6_86_8 (by assumption) (by rfl) ?_
    refine r_iconst X dX6_paidBy_24 rfl ?_
    refine r_isub X dX6_paidBy_25 ?_
    refine r_i2l X dX6_paidBy_26 ((by unfold inR; omega)) ?_
    refine r_callS X dX6_paidBy_27 kX6_89 (c_mIn g _ hl ad F k 0 ((nf : Int) - 1) ⟨by omega, by omega⟩ ⟨by omega, by omega⟩ ⟨by omega, by omega⟩) (by rfl) (by rfl) (by exact Nat.le_of_ble_eq_true rfl) (by decide) (by decide) (by omega) (by omega) (fun v ad' F' hK => ?_)
    obtain ⟨rfl, rfl, rfl⟩ := hK
    refine r_if_eqb X 37 dX6_paidBy_30 (by decide) (fun q2 => ?_) (fun q2 => ?_)
    · exact bad (fun z => q2 (by omega))
    · refine r_iconst X dX6_paidBy_33 rfl ?_
      refine r_goto X dX6_paidBy_34 38 (by decide) ?_
      refine r_put X dX6_paidBy_38 fwX6_82_8 (by assumption) (by omega) (by exact Nat.le_of_ble_eq_true rfl) (by rfl) (by rfl) ?_
      dsimp only [List.set]
      refine (fun (kk9 : ∀ F1 : Pic, MB g ad F1 td nf nk nc np 0 B → FrM F F1 → V M g ad F1 _ _ _ _ _) => kk9 _ (hB.obj (by rw [pu_s]; rfl) (fun x hx => pu_n hx)) (FrM.pu ⟨by omega, by omega⟩)) ?_
      intro F1 h1 h1F
      have h1_o := h1.1
      unfold MOL at h1_o
      refine r_aload_n X dX6_paidBy_41 (by rfl) ?_
      refine r_get X dX6_paidBy_42 fgX6_82_8 (by assumption) (by rfl) ?_
      refine r_if_ne X 62 dX6_paidBy_45 (by decide) (by unfold inR; omega) (fun a => ?_) (fun a => ?_)
      · exact absurd rfl a
      · obtain ⟨c, rfl⟩ := Int.eq_ofNat_of_zero_le q1.1
        obtain ⟨f, rfl⟩ := Int.eq_ofNat_of_zero_le q2.1
        have eP : B 17 (6 * c + f) = P c f := (hG.2.2.2.1 c (by omega)).2.2.2 f (by omega)
        have h1_17 : F1 50017 = some (cI g 96 (fun j => zI (B 17 j))) := h1.2 17 rfl
        refine r_aload_n X dX6_paidBy_48 (by rfl) ?_
        refine r_get X dX6_paidBy_49 fgX6_49_8 (by assumption) (by rfl) ?_
        refine r_bipush X dX6_paidBy_52 (by decide) ?_
        refine r_iload_n X dX6_paidBy_54 (by rfl) ?_
        refine r_imul X dX6_paidBy_55 ?_
        refine r_iload_n X dX6_paidBy_56 (by rfl) ?_
        refine r_iadd X dX6_paidBy_57 ?_
        refine r_iald X (6 * c + f) dX6_paidBy_58 (by assumption) (by rfl) (by omega) (by first | decide | omega) ?_
        rw [eP]
        refine r_goto X dX6_paidBy_59 63 (by decide) ?_
        exact r_iret X rfl (rfl) dX6_paidBy_63 (⟨rfl, h1F, .inl ⟨by omega, rfl, _, _, h1, hG⟩⟩) (by omega) (by omega)
set_option maxRecDepth 100000 in
set_option maxHeartbeats 4000000 in
theorem c_mGets (g : Gx) (l : Launch) (hl : l.stackTraces = false) (ad : Nat → Nat) (F : Pic) (td : Int) (nf nk nc np : Nat) (th : Int) (B A P : Nat → Nat → Int) (kf : Nat → Nat) (hB : MB g ad F td nf nk nc np th B) (hG : AG nf nk nc A P kf B) (i : Nat) (hi : i < nf) (h6 : nf ≤ 6) (m : Int) : Ct g l yX6_gets cX6_gets 3 none 1 0 0 [.ref (ad 50000), .int (zI (i : Int)), .int (zI m)] ad F (fun v ad' F' => v = none ∧ ad = ad' ∧ FrM F F' ∧ ∃ B', MB g ad F' td nf nk nc np th B' ∧ AG nf nk nc (takeA A i m) P kf B' ∧ B' 28 = B 28) := by
  refine Ct_of hl rfl [some (.ref (ad 50000)), some (.int (zI (i : Int))), some (.int (zI m))] (Nat.le_of_ble_eq_true rfl) (fun _ h => h) ?_
  intro M hL hN X
  subst hL
  have hB_o := hB.1
  unfold MOL at hB_o
  have hB_2 : F 50002 = some (cI g 6 (fun j => zI (B 2 j))) := hB.2 2 rfl
  refine r_aload_n X dX6_gets_0 (by rfl) ?_
  refine r_get X dX6_gets_1 fgX6_7_8 (by assumption) (by rfl) ?_
  refine r_iload_n X dX6_gets_4 (by rfl) ?_
  refine r_dup2 X dX6_gets_5 (by rfl) (by rfl) ?_
  refine r_iald X i dX6_gets_6 (by assumption) (by rfl) (by omega) (by first | decide | omega) ?_
  refine r_iload_n X dX6_gets_7 (by rfl) ?_
  refine r_isub X dX6_gets_8 ?_
  refine r_ist X i dX6_gets_9 (by assumption) (by omega) (by rfl) (by omega) (by first | decide | omega) ?_
  obtain ⟨B1, eB1⟩ : ∃ X9 : Nat → Nat → Int, X9 = u2 B 2 (i) (B 2 i - m) := ⟨_, rfl⟩
  refine (fun (kk9 : ∀ F1 : Pic, MB g ad F1 _ _ _ _ _ _ B1 → FrM F F1 → V M g ad F1 _ _ _ _ _) => kk9 _ (by rw [eB1]; exact hB.put 2 rfl (i) (B 2 i - m)) (FrM.pu ⟨by omega, by omega⟩)) ?_
  intro F1 h1 h1F
  have h1_o := h1.1
  unfold MOL at h1_o
  have e7 : B1 7 i = B 7 i := by rw [eB1, u2_row' (by omega)]
  have h1_7 : F1 50007 = some (cI g 6 (fun j => zI (B1 7 j))) := h1.2 7 rfl
  refine r_aload_n X dX6_gets_10 (by rfl) ?_
  refine r_get X dX6_gets_11 fgX6_25_8 (by assumption) (by rfl) ?_
  refine r_iload_n X dX6_gets_14 (by rfl) ?_
  refine r_dup2 X dX6_gets_15 (by rfl) (by rfl) ?_
  refine r_iald X i dX6_gets_16 (by assumption) (by rfl) (by omega) (by first | decide | omega) ?_
  rw [e7]
  refine r_iload_n X dX6_gets_17 (by rfl) ?_
  refine r_iadd X dX6_gets_18 ?_
  refine r_ist X i dX6_gets_19 (by assumption) (by omega) (by rfl) (by omega) (by first | decide | omega) ?_
  obtain ⟨B2, eB2⟩ : ∃ X9 : Nat → Nat → Int, X9 = u2 B1 7 (i) (B 7 i + m) := ⟨_, rfl⟩
  refine (fun (kk9 : ∀ F2 : Pic, MB g ad F2 _ _ _ _ _ _ B2 → FrM F1 F2 → V M g ad F2 _ _ _ _ _) => kk9 _ (by rw [eB2]; exact h1.put 7 rfl (i) (B 7 i + m)) (FrM.pu ⟨by omega, by omega⟩)) ?_
  intro F2 h2 h2F
  have h2_o := h2.1
  unfold MOL at h2_o
  exact r_vret X rfl dX6_gets_20 (⟨rfl, rfl, h1F.tr h2F, B2, h2, by rw [eB2, eB1]; exact hG.take hi m, by rw [eB2, eB1, u2_row' (by omega), u2_row' (by omega)]⟩) (by omega) (by omega)
