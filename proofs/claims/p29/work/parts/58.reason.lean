/-! ===== why a cost is not paid ===== -/
def ALw (A : Nat → Nat → Int) (nf j n : Nat) : Prop := ∃ i, i < n ∧ hasZ (A 1 i) (A 10 j)
def SUw (A : Nat → Nat → Int) (nf j n : Nat) : Prop := ∃ i, i < n ∧ suP (A 1 i) (A 2 i) (A 10 j) (A 11 j)
def HEw (A : Nat → Nat → Int) (kf : Nat → Nat) (j n : Nat) : Prop := ∃ k, k < n ∧ 0 < A 8 k ∧ suP (A 1 (kf k)) (A 2 (kf k)) (A 10 j) (A 11 j)
def PAw (A : Nat → Nat → Int) (kf : Nat → Nat) (nk nf j n : Nat) : Prop := ∃ p, p < n ∧ 0 < mo A nk nf p ∧ mpP A kf (PS A nk nf p) j
set_option maxRecDepth 100000 in
set_option maxHeartbeats 4000000 in
theorem c_isAllowed (g : Gx) (l : Launch) (hl : l.stackTraces = false) (ad : Nat → Nat) (F : Pic) (td : Int) (nf nk nc : Nat) (A P : Nat → Nat → Int) (kf ser : Nat → Nat) (sn : Nat) (hX : RX g ad F td nf nk nc A P kf ser sn) (t : Nat) (hI : IV td nf nk nc A kf t) (j : Nat) (hj : j < nc) : Ct g l yX5_isAllowedBySomeFund cX5_isAllowedBySomeFund 3 (some .boolean) 4 0 0 [.ref (ad 100), .ref (ad (400 + j))] ad F (fun v ad' F' => v = some (.int (bP (ALw A nf j nf))) ∧ ad = ad' ∧ F = F') := by
  refine Ct_of hl rfl [some (.ref (ad 100)), some (.ref (ad (400 + j))), none] (Nat.le_of_ble_eq_true rfl) (fun _ h => h) ?_
  intro M hL hN X
  subst hL
  obtain ⟨hO, ⟨⟨cap1, hR1, hLF1⟩, ⟨cap2, hR2, hLF2⟩, ⟨cap3, hR3, hLF3⟩, kp, ep, cap4, hR4, hLF4⟩, hP, ⟨hnf, hFu, hFuN⟩, ⟨hnc, hCo, hCoN⟩, ⟨⟨hnk, hsn⟩, hKm, hKi, hKN⟩⟩ := id hX; obtain ⟨hO, h9, a99⟩ := hO
  obtain ⟨mo1, ho1⟩ := hR1.obj; obtain ⟨mo2, ho2⟩ := hR2.obj; obtain ⟨mo3, ho3⟩ := hR3.obj; obtain ⟨mo4, ho4⟩ := hR4.obj
  obtain ⟨b10, b11, -⟩ := hI.2.2.2.1 j hj
  have hc0 : F (400 + j) = some (.inr (4, [.int (zI (A 10 j)), .int (zI (A 11 j)), .int (zI (A 12 j)), .ref (ad (500 + j))])) := (hCo j hj).1
  have loop : ∀ (k i : Nat), nf - i = k → i ≤ nf → (∀ q, q < i → ¬ hasZ (A 1 q) (A 10 j)) → V M g ad F 0 0 2 [some (.ref (ad 100)), some (.ref (ad (400 + j))), some (.int (zI (i : Int)))] [] := by
    intro k
    induction k with
    | zero =>
      intro i hk hi hn
      refine r_iload_n X dX5_isAllowedBySomeFund_2 (by rfl) ?_
      refine r_aload_n X dX5_isAllowedBySomeFund_3 (by rfl) ?_
      refine r_get X dX5_isAllowedBySomeFund_4 fgX5_12_7 (by assumption) (by rfl) ?_
      refine r_callV X dX5_isAllowedBySomeFund_7 kX5_41 (c_size g _ hl ad F 101 nf cap1 _ (by omega) hR1) (by assumption) (by rfl) (by rfl) (by rfl) (by rfl) (by exact Nat.le_of_ble_eq_true rfl) (by decide) (by decide) (by omega) (by omega) (fun v ad' F' hK => ?_)
      obtain ⟨rfl, rfl, rfl⟩ := hK
      refine r_icmp_ge X 42 dX5_isAllowedBySomeFund_10 (by decide) (by unfold inR; omega) (by unfold inR; omega) (fun a => ?_) (fun a => ?_)
      · refine r_iconst X dX5_isAllowedBySomeFund_42 rfl ?_
        exact r_iret X rfl (rfl) dX5_isAllowedBySomeFund_43 (⟨by rw [bP_f (P := ALw A nf j nf) (fun ⟨q, h1, h2⟩ => hn q (by omega) h2)], rfl, rfl⟩) (by omega) (by omega)
      · omega
    | succ k ih =>
      intro i hk hi hn
      obtain ⟨-, ba, bl, -⟩ := hI.2.1 i (by omega)
      have hf0 : F (300 + i) = some (.inr (5, [.int (zI (A 0 i)), .int (zI (i : Int)), .int (zI (A 1 i)), .int (zI (A 2 i)), .int (zI (A 3 i)), .int (zI (A 4 i)), .int (zI (A 5 i))])) := hFu i (by omega)
      refine r_iload_n X dX5_isAllowedBySomeFund_2 (by rfl) ?_
      refine r_aload_n X dX5_isAllowedBySomeFund_3 (by rfl) ?_
      refine r_get X dX5_isAllowedBySomeFund_4 fgX5_12_7 (by assumption) (by rfl) ?_
      refine r_callV X dX5_isAllowedBySomeFund_7 kX5_41 (c_size g _ hl ad F 101 nf cap1 _ (by omega) hR1) (by assumption) (by rfl) (by rfl) (by rfl) (by rfl) (by exact Nat.le_of_ble_eq_true rfl) (by decide) (by decide) (by omega) (by omega) (fun v ad' F' hK => ?_)
      obtain ⟨rfl, rfl, rfl⟩ := hK
      refine r_icmp_ge X 42 dX5_isAllowedBySomeFund_10 (by decide) (by unfold inR; omega) (by unfold inR; omega) (fun a => ?_) (fun a => ?_)
      · omega
      · refine r_aload_n X dX5_isAllowedBySomeFund_13 (by rfl) ?_
        refine r_get X dX5_isAllowedBySomeFund_14 fgX5_12_7 (by assumption) (by rfl) ?_
        refine r_iload_n X dX5_isAllowedBySomeFund_17 (by rfl) ?_
        refine r_callV X dX5_isAllowedBySomeFund_18 kX5_118 (c_get g _ hl ad F 101 nf cap1 _ (by omega) hR1 i (by omega)) (by assumption) (by rfl) (by rfl) (by rfl) (by rfl) (by exact Nat.le_of_ble_eq_true rfl) (by decide) (by decide) (by omega) (by omega) (fun v ad' F' hK => ?_)
        obtain ⟨rfl, rfl, rfl⟩ := hK
        refine r_castF X dX5_isAllowedBySomeFund_21 w217 (hf0) ?_
        refine r_aload_n X dX5_isAllowedBySomeFund_24 (by rfl) ?_
        refine r_get X dX5_isAllowedBySomeFund_25 fgX5_255_4 (hc0) (by rfl) ?_
        refine r_callV X dX5_isAllowedBySomeFund_28 kX5_65 (c_allows g _ hl ad F (300 + i) (by omega) _ _ _ _ _ _ _ hf0 (A 10 j) (by omega) (by omega)) (hf0) (by rfl) (by rfl) (by rfl) (by rfl) (by exact Nat.le_of_ble_eq_true rfl) (by decide) (by decide) (by omega) (by omega) (fun v ad' F' hK => ?_)
        obtain ⟨rfl, rfl, rfl⟩ := hK
        refine r_if_eqb X 36 dX5_isAllowedBySomeFund_31 (by decide) (fun q => ?_) (fun q => ?_)
        · refine r_iinc X dX5_isAllowedBySomeFund_36 (by rfl) (by rw [hN]; decide) (by rfl) ?_
          dsimp only [List.set]
          refine r_goto X dX5_isAllowedBySomeFund_39 2 (by decide) ?_
          exact ih (i + 1) (by omega) (by omega) (fun r hr => by
            by_cases e : r = i
            · subst e; exact q
            · exact hn r (by omega))
        · refine r_iconst X dX5_isAllowedBySomeFund_34 rfl ?_
          exact r_iret X rfl (rfl) dX5_isAllowedBySomeFund_35 (⟨by rw [bP_t (P := ALw A nf j nf) ⟨i, by omega, q⟩], rfl, rfl⟩) (by omega) (by omega)
  refine r_iconst X dX5_isAllowedBySomeFund_0 rfl ?_
  refine r_istore_n X dX5_isAllowedBySomeFund_1 (by rw [hN]; decide) (by rfl) ?_
  dsimp only [List.set]
  exact loop nf 0 (by omega) (by omega) (fun q hq => by omega)
set_option maxRecDepth 100000 in
set_option maxHeartbeats 4000000 in
theorem c_isSuited (g : Gx) (l : Launch) (hl : l.stackTraces = false) (ad : Nat → Nat) (F : Pic) (td : Int) (nf nk nc : Nat) (A P : Nat → Nat → Int) (kf ser : Nat → Nat) (sn : Nat) (hX : RX g ad F td nf nk nc A P kf ser sn) (t : Nat) (hI : IV td nf nk nc A kf t) (j : Nat) (hj : j < nc) : Ct g l yX5_isSuitedBySomeFund cX5_isSuitedBySomeFund 3 (some .boolean) 4 0 0 [.ref (ad 100), .ref (ad (400 + j))] ad F (fun v ad' F' => v = some (.int (bP (SUw A nf j nf))) ∧ ad = ad' ∧ F = F') := by
  refine Ct_of hl rfl [some (.ref (ad 100)), some (.ref (ad (400 + j))), none] (Nat.le_of_ble_eq_true rfl) (fun _ h => h) ?_
  intro M hL hN X
  subst hL
  obtain ⟨hO, ⟨⟨cap1, hR1, hLF1⟩, ⟨cap2, hR2, hLF2⟩, ⟨cap3, hR3, hLF3⟩, kp, ep, cap4, hR4, hLF4⟩, hP, ⟨hnf, hFu, hFuN⟩, ⟨hnc, hCo, hCoN⟩, ⟨⟨hnk, hsn⟩, hKm, hKi, hKN⟩⟩ := id hX; obtain ⟨hO, h9, a99⟩ := hO
  obtain ⟨mo1, ho1⟩ := hR1.obj; obtain ⟨mo2, ho2⟩ := hR2.obj; obtain ⟨mo3, ho3⟩ := hR3.obj; obtain ⟨mo4, ho4⟩ := hR4.obj
  obtain ⟨b10, b11, -⟩ := hI.2.2.2.1 j hj
  have hc0 : F (400 + j) = some (.inr (4, [.int (zI (A 10 j)), .int (zI (A 11 j)), .int (zI (A 12 j)), .ref (ad (500 + j))])) := (hCo j hj).1
  have loop : ∀ (k i : Nat), nf - i = k → i ≤ nf → (∀ q, q < i → ¬ suP (A 1 q) (A 2 q) (A 10 j) (A 11 j)) → V M g ad F 0 0 2 [some (.ref (ad 100)), some (.ref (ad (400 + j))), some (.int (zI (i : Int)))] [] := by
    intro k
    induction k with
    | zero =>
      intro i hk hi hn
      refine r_iload_n X dX5_isSuitedBySomeFund_2 (by rfl) ?_
      refine r_aload_n X dX5_isSuitedBySomeFund_3 (by rfl) ?_
      refine r_get X dX5_isSuitedBySomeFund_4 fgX5_12_7 (by assumption) (by rfl) ?_
      refine r_callV X dX5_isSuitedBySomeFund_7 kX5_41 (c_size g _ hl ad F 101 nf cap1 _ (by omega) hR1) (by assumption) (by rfl) (by rfl) (by rfl) (by rfl) (by exact Nat.le_of_ble_eq_true rfl) (by decide) (by decide) (by omega) (by omega) (fun v ad' F' hK => ?_)
      obtain ⟨rfl, rfl, rfl⟩ := hK
      refine r_icmp_ge X 39 dX5_isSuitedBySomeFund_10 (by decide) (by unfold inR; omega) (by unfold inR; omega) (fun a => ?_) (fun a => ?_)
      · refine r_iconst X dX5_isSuitedBySomeFund_39 rfl ?_
        exact r_iret X rfl (rfl) dX5_isSuitedBySomeFund_40 (⟨by rw [bP_f (P := SUw A nf j nf) (fun ⟨q, h1, h2⟩ => hn q (by omega) h2)], rfl, rfl⟩) (by omega) (by omega)
      · omega
    | succ k ih =>
      intro i hk hi hn
      obtain ⟨-, ba, bl, -⟩ := hI.2.1 i (by omega)
      have hf0 : F (300 + i) = some (.inr (5, [.int (zI (A 0 i)), .int (zI (i : Int)), .int (zI (A 1 i)), .int (zI (A 2 i)), .int (zI (A 3 i)), .int (zI (A 4 i)), .int (zI (A 5 i))])) := hFu i (by omega)
      refine r_iload_n X dX5_isSuitedBySomeFund_2 (by rfl) ?_
      refine r_aload_n X dX5_isSuitedBySomeFund_3 (by rfl) ?_
      refine r_get X dX5_isSuitedBySomeFund_4 fgX5_12_7 (by assumption) (by rfl) ?_
      refine r_callV X dX5_isSuitedBySomeFund_7 kX5_41 (c_size g _ hl ad F 101 nf cap1 _ (by omega) hR1) (by assumption) (by rfl) (by rfl) (by rfl) (by rfl) (by exact Nat.le_of_ble_eq_true rfl) (by decide) (by decide) (by omega) (by omega) (fun v ad' F' hK => ?_)
      obtain ⟨rfl, rfl, rfl⟩ := hK
      refine r_icmp_ge X 39 dX5_isSuitedBySomeFund_10 (by decide) (by unfold inR; omega) (by unfold inR; omega) (fun a => ?_) (fun a => ?_)
      · omega
      · refine r_aload_n X dX5_isSuitedBySomeFund_13 (by rfl) ?_
        refine r_get X dX5_isSuitedBySomeFund_14 fgX5_12_7 (by assumption) (by rfl) ?_
        refine r_iload_n X dX5_isSuitedBySomeFund_17 (by rfl) ?_
        refine r_callV X dX5_isSuitedBySomeFund_18 kX5_118 (c_get g _ hl ad F 101 nf cap1 _ (by omega) hR1 i (by omega)) (by assumption) (by rfl) (by rfl) (by rfl) (by rfl) (by exact Nat.le_of_ble_eq_true rfl) (by decide) (by decide) (by omega) (by omega) (fun v ad' F' hK => ?_)
        obtain ⟨rfl, rfl, rfl⟩ := hK
        refine r_castF X dX5_isSuitedBySomeFund_21 w217 (hf0) ?_
        refine r_aload_n X dX5_isSuitedBySomeFund_24 (by rfl) ?_
        refine r_callV X dX5_isSuitedBySomeFund_25 kX5_258 (c_suits g _ hl ad F (300 + i) (by omega) _ _ _ _ _ _ _ hf0 (400 + j) (by omega) _ _ _ _ hc0 (by omega) (by omega) ⟨by omega, by omega⟩ ⟨by omega, by omega⟩) (hf0) (by rfl) (by rfl) (by rfl) (by rfl) (by exact Nat.le_of_ble_eq_true rfl) (by decide) (by decide) (by omega) (by omega) (fun v ad' F' hK => ?_)
        obtain ⟨rfl, rfl, rfl⟩ := hK
        refine r_if_eqb X 33 dX5_isSuitedBySomeFund_28 (by decide) (fun q => ?_) (fun q => ?_)
        · refine r_iinc X dX5_isSuitedBySomeFund_33 (by rfl) (by rw [hN]; decide) (by rfl) ?_
          dsimp only [List.set]
          refine r_goto X dX5_isSuitedBySomeFund_36 2 (by decide) ?_
          exact ih (i + 1) (by omega) (by omega) (fun r hr => by
            by_cases e : r = i
            · subst e; exact q
            · exact hn r (by omega))
        · refine r_iconst X dX5_isSuitedBySomeFund_31 rfl ?_
          exact r_iret X rfl (rfl) dX5_isSuitedBySomeFund_32 (⟨by rw [bP_t (P := SUw A nf j nf) ⟨i, by omega, q⟩], rfl, rfl⟩) (by omega) (by omega)
  refine r_iconst X dX5_isSuitedBySomeFund_0 rfl ?_
  refine r_istore_n X dX5_isSuitedBySomeFund_1 (by rw [hN]; decide) (by rfl) ?_
  dsimp only [List.set]
  exact loop nf 0 (by omega) (by omega) (fun q hq => by omega)
set_option maxRecDepth 100000 in
set_option maxHeartbeats 4000000 in
theorem c_isHeld (g : Gx) (l : Launch) (hl : l.stackTraces = false) (ad : Nat → Nat) (F : Pic) (td : Int) (nf nk nc : Nat) (A P : Nat → Nat → Int) (kf ser : Nat → Nat) (sn : Nat) (hX : RX g ad F td nf nk nc A P kf ser sn) (t : Nat) (hI : IV td nf nk nc A kf t) (j : Nat) (hj : j < nc) : Ct g l yX5_isHeldInCommitment cX5_isHeldInCommitment 4 (some .boolean) 4 0 0 [.ref (ad 100), .ref (ad (400 + j))] ad F (fun v ad' F' => v = some (.int (bP (HEw A kf j nk))) ∧ ad = ad' ∧ F = F') := by
  refine Ct_of hl rfl [some (.ref (ad 100)), some (.ref (ad (400 + j))), none, none] (Nat.le_of_ble_eq_true rfl) (fun _ h => h) ?_
  intro M hL hN X
  subst hL
  obtain ⟨hO, ⟨⟨cap1, hR1, hLF1⟩, ⟨cap2, hR2, hLF2⟩, ⟨cap3, hR3, hLF3⟩, kp, ep, cap4, hR4, hLF4⟩, hP, ⟨hnf, hFu, hFuN⟩, ⟨hnc, hCo, hCoN⟩, ⟨⟨hnk, hsn⟩, hKm, hKi, hKN⟩⟩ := id hX; obtain ⟨hO, h9, a99⟩ := hO
  obtain ⟨mo1, ho1⟩ := hR1.obj; obtain ⟨mo2, ho2⟩ := hR2.obj; obtain ⟨mo3, ho3⟩ := hR3.obj; obtain ⟨mo4, ho4⟩ := hR4.obj
  obtain ⟨b10, b11, -⟩ := hI.2.2.2.1 j hj
  have hc0 : F (400 + j) = some (.inr (4, [.int (zI (A 10 j)), .int (zI (A 11 j)), .int (zI (A 12 j)), .ref (ad (500 + j))])) := (hCo j hj).1
  have loop : ∀ (k i : Nat) (o : Option Value), nk - i = k → i ≤ nk → (∀ q, q < i → ¬ (0 < A 8 q ∧ suP (A 1 (kf q)) (A 2 (kf q)) (A 10 j) (A 11 j))) → V M g ad F 0 0 2 [some (.ref (ad 100)), some (.ref (ad (400 + j))), some (.int (zI (i : Int))), o] [] := by
    intro k
    induction k with
    | zero =>
      intro i o hk hi hn
      refine r_iload_n X dX5_isHeldInCommitment_2 (by rfl) ?_
      refine r_aload_n X dX5_isHeldInCommitment_3 (by rfl) ?_
      refine r_get X dX5_isHeldInCommitment_4 fgX5_16_7 (by assumption) (by rfl) ?_
      refine r_callV X dX5_isHeldInCommitment_7 kX5_41 (c_size g _ hl ad F 102 nk cap2 _ (by omega) hR2) (by assumption) (by rfl) (by rfl) (by rfl) (by rfl) (by exact Nat.le_of_ble_eq_true rfl) (by decide) (by decide) (by omega) (by omega) (fun v ad' F' hK => ?_)
      obtain ⟨rfl, rfl, rfl⟩ := hK
      refine r_icmp_ge X 51 dX5_isHeldInCommitment_10 (by decide) (by unfold inR; omega) (by unfold inR; omega) (fun a => ?_) (fun a => ?_)
      · refine r_iconst X dX5_isHeldInCommitment_51 rfl ?_
        exact r_iret X rfl (rfl) dX5_isHeldInCommitment_52 (⟨by rw [bP_f (P := HEw A kf j nk) (fun ⟨q, h1, h2⟩ => hn q (by omega) h2)], rfl, rfl⟩) (by omega) (by omega)
      · omega
    | succ k ih =>
      intro i o hk hi hn
      have hkf := (hI.2.2.1 i (by omega)).1
      have b8 := hI.b8 (i := i) (by omega)
      obtain ⟨-, ba, bl, -⟩ := hI.2.1 (kf i) hkf
      have hk0 : F (10000 + ser i) = some (.inr (3, [.int (zI (A 8 i)), .ref (ad (300 + kf i)), .int (zI (A 7 i)), .int (zI (A 9 i))])) := (hKm i (by omega)).1
      have hf0 : F (300 + kf i) = some (.inr (5, [.int (zI (A 0 (kf i))), .int (zI ((kf i : Nat) : Int)), .int (zI (A 1 (kf i))), .int (zI (A 2 (kf i))), .int (zI (A 3 (kf i))), .int (zI (A 4 (kf i))), .int (zI (A 5 (kf i)))])) := hFu _ hkf
      refine r_iload_n X dX5_isHeldInCommitment_2 (by rfl) ?_
      refine r_aload_n X dX5_isHeldInCommitment_3 (by rfl) ?_
      refine r_get X dX5_isHeldInCommitment_4 fgX5_16_7 (by assumption) (by rfl) ?_
      refine r_callV X dX5_isHeldInCommitment_7 kX5_41 (c_size g _ hl ad F 102 nk cap2 _ (by omega) hR2) (by assumption) (by rfl) (by rfl) (by rfl) (by rfl) (by exact Nat.le_of_ble_eq_true rfl) (by decide) (by decide) (by omega) (by omega) (fun v ad' F' hK => ?_)
      obtain ⟨rfl, rfl, rfl⟩ := hK
      refine r_icmp_ge X 51 dX5_isHeldInCommitment_10 (by decide) (by unfold inR; omega) (by unfold inR; omega) (fun a => ?_) (fun a => ?_)
      · omega
      · refine r_aload_n X dX5_isHeldInCommitment_13 (by rfl) ?_
        refine r_get X dX5_isHeldInCommitment_14 fgX5_16_7 (by assumption) (by rfl) ?_
        refine r_iload_n X dX5_isHeldInCommitment_17 (by rfl) ?_
        refine r_callV X dX5_isHeldInCommitment_18 kX5_118 (c_get g _ hl ad F 102 nk cap2 _ (by omega) hR2 i (by omega)) (by assumption) (by rfl) (by rfl) (by rfl) (by rfl) (by exact Nat.le_of_ble_eq_true rfl) (by decide) (by decide) (by omega) (by omega) (fun v ad' F' hK => ?_)
        obtain ⟨rfl, rfl, rfl⟩ := hK
        refine r_castM X dX5_isHeldInCommitment_21 w361 (hk0) ?_
        refine r_astore_n X dX5_isHeldInCommitment_24 (by rw [hN]; decide) (by rfl) ?_
        dsimp only [List.set]
        refine r_aload_n X dX5_isHeldInCommitment_25 (by rfl) ?_
        refine r_get X dX5_isHeldInCommitment_26 fgX5_78_3 (hk0) (by rfl) ?_
        have nx : ¬ (0 < A 8 i ∧ suP (A 1 (kf i)) (A 2 (kf i)) (A 10 j) (A 11 j)) → V M g ad F 0 0 45 [some (.ref (ad 100)), some (.ref (ad (400 + j))), some (.int (zI (i : Int))), some (.ref (ad (10000 + ser i)))] [] := fun q => by
          refine r_iinc X dX5_isHeldInCommitment_45 (by rfl) (by rw [hN]; decide) (by rfl) ?_
          dsimp only [List.set]
          refine r_goto X dX5_isHeldInCommitment_48 2 (by decide) ?_
          exact ih (i + 1) _ (by omega) (by omega) (fun r hr => by
            by_cases e : r = i
            · subst e; exact q
            · exact hn r (by omega))
        refine r_if_le X 45 dX5_isHeldInCommitment_29 (by decide) (by unfold inR; omega) (fun b => ?_) (fun b => ?_)
        · exact nx (fun z => by omega)
        · refine r_aload_n X dX5_isHeldInCommitment_32 (by rfl) ?_
          refine r_callV X dX5_isHeldInCommitment_33 kX5_122 (c_comOwner g _ hl ad F (10000 + ser i) (by omega) _ _ _ _ hk0 _ rfl) (hk0) (by rfl) (by rfl) (by rfl) (by rfl) (by exact Nat.le_of_ble_eq_true rfl) (by decide) (by decide) (by omega) (by omega) (fun v ad' F' hK => ?_)
          obtain ⟨rfl, rfl, rfl⟩ := hK
          refine r_aload_n X dX5_isHeldInCommitment_36 (by rfl) ?_
          refine r_callV X dX5_isHeldInCommitment_37 kX5_258 (c_suits g _ hl ad F (300 + kf i) (by omega) _ _ _ _ _ _ _ hf0 (400 + j) (by omega) _ _ _ _ hc0 (by omega) (by omega) ⟨by omega, by omega⟩ ⟨by omega, by omega⟩) (hf0) (by rfl) (by rfl) (by rfl) (by rfl) (by exact Nat.le_of_ble_eq_true rfl) (by decide) (by decide) (by omega) (by omega) (fun v ad' F' hK => ?_)
          obtain ⟨rfl, rfl, rfl⟩ := hK
          refine r_if_eqb X 45 dX5_isHeldInCommitment_40 (by decide) (fun q => ?_) (fun q => ?_)
          · exact nx (fun z => q z.2)
          · refine r_iconst X dX5_isHeldInCommitment_43 rfl ?_
            exact r_iret X rfl (rfl) dX5_isHeldInCommitment_44 (⟨by rw [bP_t (P := HEw A kf j nk) ⟨i, by omega, by omega, q⟩], rfl, rfl⟩) (by omega) (by omega)
  refine r_iconst X dX5_isHeldInCommitment_0 rfl ?_
  refine r_istore_n X dX5_isHeldInCommitment_1 (by rw [hN]; decide) (by rfl) ?_
  dsimp only [List.set]
  exact loop nk 0 none (by omega) (by omega) (fun q hq => by omega)
set_option maxRecDepth 100000 in
set_option maxHeartbeats 4000000 in
theorem c_isPayable (g : Gx) (l : Launch) (hl : l.stackTraces = false) (ad : Nat → Nat) (F : Pic) (td : Int) (nf nk nc : Nat) (A P : Nat → Nat → Int) (kf ser : Nat → Nat) (sn : Nat) (hX : RX g ad F td nf nk nc A P kf ser sn) (t : Nat) (hI : IV td nf nk nc A kf t) (j : Nat) (hj : j < nc) : Ct g l yX5_isPayableFromSomePot cX5_isPayableFromSomePot 4 (some .boolean) 9 12 720 [.ref (ad 100), .ref (ad (400 + j))] ad F (fun v ad' F' => v = some (.int (bP (PAw A kf nk nf j (nk + nf)))) ∧ AdL 104 ad ad' ∧ FrL 104 F F' ∧ RX g ad' F' td nf nk nc A P kf ser sn) := by
  refine Ct_of hl rfl [some (.ref (ad 100)), some (.ref (ad (400 + j))), none, none] (Nat.le_of_ble_eq_true rfl) (fun _ h => h) ?_
  intro M hL hN X
  subst hL
  have hkf : ∀ i, i < nk → kf i < nf := fun i hi => (hI.2.2.1 i hi).1
  have hnk : nk ≤ 6 := hI.1.2.2.2.1
  have hnf : nf ≤ 6 := hI.1.2.2.1
  have hnc : nc ≤ 16 := hI.1.2.2.2.2.1
  obtain ⟨b10, b11, -⟩ := hI.2.2.2.1 j hj
  have hO := hX.1.1
  refine r_aload_n X dX5_isPayableFromSomePot_0 (by rfl) ?_
  refine r_callV X dX5_isPayableFromSomePot_1 kX5_199 (c_lineUpPots g _ hl ad F _ _ _ _ _ _ _ _ _ hX t hI) (by assumption) (by rfl) (by rfl) (by rfl) (by rfl) (by exact Nat.le_of_ble_eq_true rfl) (by decide) (by decide) (by omega) (by omega) (fun v ad1 F1 hK => ?_)
  obtain ⟨rfl, hA1, hF1, hX1, hQ1⟩ := hK
  have hQ1 : CL g ad1 F1 104 (nk + nf) (fun p => ad1 (prl ser (PS A nk nf p))) := hQ1
  rw [← hA1 100 (by omega), ← hA1 (400 + j) (by omega)]
  obtain ⟨c4, hR4, -⟩ := id hQ1
  obtain ⟨m4, ho4⟩ := hR4.obj
  have hO1 := hX1.1.1
  have hc0 := (hX1.2.2.2.2.1.2.1 j hj).1
  have loop : ∀ (k i : Nat) (o : Option Value), nk + nf - i = k → i ≤ nk + nf → (∀ q, q < i → ¬ (0 < mo A nk nf q ∧ mpP A kf (PS A nk nf q) j)) → V M g ad1 F1 (0 + 12) (0 + 720) 6 [some (.ref (ad1 100)), some (.ref (ad1 (400 + j))), some (.int (zI (i : Int))), o] [] := by
    intro k
    induction k with
    | zero =>
      intro i o hk hi hn
      refine r_iload_n X dX5_isPayableFromSomePot_6 (by rfl) ?_
      refine r_aload_n X dX5_isPayableFromSomePot_7 (by rfl) ?_
      refine r_get X dX5_isPayableFromSomePot_8 fgX5_22_7 (by assumption) (by rfl) ?_
      refine r_callV X dX5_isPayableFromSomePot_11 kX5_41 (c_size g _ hl ad1 F1 104 (nk + nf) c4 _ (by omega) hR4) (by assumption) (by rfl) (by rfl) (by rfl) (by rfl) (by exact Nat.le_of_ble_eq_true rfl) (by decide) (by decide) (by omega) (by omega) (fun v ad' F' hK => ?_)
      obtain ⟨rfl, rfl, rfl⟩ := hK
      refine r_icmp_ge X 52 dX5_isPayableFromSomePot_14 (by decide) (by unfold inR; omega) (by unfold inR; omega) (fun a => ?_) (fun a => ?_)
      · refine r_iconst X dX5_isPayableFromSomePot_52 rfl ?_
        exact r_iret X rfl (rfl) dX5_isPayableFromSomePot_53 (⟨by rw [bP_f (P := PAw A kf nk nf j (nk + nf)) (fun ⟨q, h1, h2⟩ => hn q (by omega) h2)], hA1, hF1, hX1⟩) (by omega) (by omega)
      · omega
    | succ k ih =>
      intro i o hk hi hn
      have hvc : VC nf nk (PS A nk nf i) := PS_vc hnk (by omega)
      have hC := hX1.pot hkf hvc
      have hm := hI.mob (p := i) (by omega)
      have how := VC.own hI hvc
      obtain ⟨-, ba, bl, -⟩ := hI.2.1 _ how
      refine r_iload_n X dX5_isPayableFromSomePot_6 (by rfl) ?_
      refine r_aload_n X dX5_isPayableFromSomePot_7 (by rfl) ?_
      refine r_get X dX5_isPayableFromSomePot_8 fgX5_22_7 (by assumption) (by rfl) ?_
      refine r_callV X dX5_isPayableFromSomePot_11 kX5_41 (c_size g _ hl ad1 F1 104 (nk + nf) c4 _ (by omega) hR4) (by assumption) (by rfl) (by rfl) (by rfl) (by rfl) (by exact Nat.le_of_ble_eq_true rfl) (by decide) (by decide) (by omega) (by omega) (fun v ad' F' hK => ?_)
      obtain ⟨rfl, rfl, rfl⟩ := hK
      refine r_icmp_ge X 52 dX5_isPayableFromSomePot_14 (by decide) (by unfold inR; omega) (by unfold inR; omega) (fun a => ?_) (fun a => ?_)
      · omega
      · refine r_aload_n X dX5_isPayableFromSomePot_17 (by rfl) ?_
        refine r_get X dX5_isPayableFromSomePot_18 fgX5_22_7 (by assumption) (by rfl) ?_
        refine r_iload_n X dX5_isPayableFromSomePot_21 (by rfl) ?_
        refine r_callV X dX5_isPayableFromSomePot_22 kX5_118 (c_get g _ hl ad1 F1 104 (nk + nf) c4 _ (by omega) hR4 i (by omega)) (by assumption) (by rfl) (by rfl) (by rfl) (by rfl) (by exact Nat.le_of_ble_eq_true rfl) (by decide) (by decide) (by omega) (by omega) (fun v ad' F' hK => ?_)
        obtain ⟨rfl, rfl, rfl⟩ := hK
        refine q_cast X rfl hC dX5_isPayableFromSomePot_25 ?_
        refine r_astore_n X dX5_isPayableFromSomePot_28 (by rw [hN]; decide) (by rfl) ?_
        dsimp only [List.set]
        refine r_aload_n X dX5_isPayableFromSomePot_29 (by rfl) ?_
        refine q_mon X rfl hC dX5_isPayableFromSomePot_30 ?_
        rw [show moA A (PS A nk nf i) = mo A nk nf i from rfl]
        have nx : ¬ (0 < mo A nk nf i ∧ mpP A kf (PS A nk nf i) j) → V M g ad1 F1 (0 + 12) (0 + 720) 46 [some (.ref (ad1 100)), some (.ref (ad1 (400 + j))), some (.int (zI (i : Int))), some (.ref (ad1 (prl ser (PS A nk nf i))))] [] := fun q => by
          refine r_iinc X dX5_isPayableFromSomePot_46 (by rfl) (by rw [hN]; decide) (by rfl) ?_
          dsimp only [List.set]
          refine r_goto X dX5_isPayableFromSomePot_49 6 (by decide) ?_
          exact ih (i + 1) _ (by omega) (by omega) (fun r hr => by
            by_cases e : r = i
            · subst e; exact q
            · exact hn r (by omega))
        refine r_if_le X 46 dX5_isPayableFromSomePot_33 (by decide) (by unfold inR; omega) (fun b => ?_) (fun b => ?_)
        · exact nx (fun z => by omega)
        · refine r_aload_n X dX5_isPayableFromSomePot_36 (by rfl) ?_
          refine r_aload_n X dX5_isPayableFromSomePot_37 (by rfl) ?_
          refine q_pay X rfl hC hc0 ba bl b10 (fun h6 => (hI.2.2.1 _ (by rcases hvc with z | z <;> omega)).2.1) b11 dX5_isPayableFromSomePot_38 (by exact Nat.le_of_ble_eq_true rfl) (by omega) (by omega) (by omega) ?_
          refine r_if_eqb X 46 dX5_isPayableFromSomePot_41 (by decide) (fun q => ?_) (fun q => ?_)
          · exact nx (fun z => q z.2)
          · refine r_iconst X dX5_isPayableFromSomePot_44 rfl ?_
            exact r_iret X rfl (rfl) dX5_isPayableFromSomePot_45 (⟨by rw [bP_t (P := PAw A kf nk nf j (nk + nf)) ⟨i, by omega, by omega, q⟩], hA1, hF1, hX1⟩) (by omega) (by omega)
  refine r_iconst X dX5_isPayableFromSomePot_4 rfl ?_
  refine r_istore_n X dX5_isPayableFromSomePot_5 (by rw [hN]; decide) (by rfl) ?_
  dsimp only [List.set]
  exact loop _ 0 none rfl (by omega) (fun q hq => by omega)
def REA (A : Nat → Nat → Int) (kf : Nat → Nat) (nf nk j : Nat) (v : Int) : Prop := (A 12 j = 0 ∧ v = 0) ∨ (A 12 j ≠ 0 ∧ ¬ ALw A nf j nf ∧ v = 1) ∨ (A 12 j ≠ 0 ∧ ALw A nf j nf ∧ ¬ SUw A nf j nf ∧ v = 2) ∨ (A 12 j ≠ 0 ∧ ALw A nf j nf ∧ SUw A nf j nf ∧
  ((PAw A kf nk nf j (nk + nf) ∧ v = 3) ∨ (¬ PAw A kf nk nf j (nk + nf) ∧ HEw A kf j nk ∧ v = 4) ∨ (¬ PAw A kf nk nf j (nk + nf) ∧ ¬ HEw A kf j nk ∧ v = 5)))
set_option maxRecDepth 100000 in
set_option maxHeartbeats 4000000 in
theorem c_reason (g : Gx) (l : Launch) (hl : l.stackTraces = false) (ad : Nat → Nat) (F : Pic) (td : Int) (nf nk nc : Nat) (A P : Nat → Nat → Int) (kf ser : Nat → Nat) (sn : Nat) (hX : RX g ad F td nf nk nc A P kf ser sn) (t : Nat) (hI : IV td nf nk nc A kf t) (i : Int) (hi : inR i) : CtX g l yX5_reason cX5_reason 3 (some .int) 10 13 726 [.ref (ad 100), .int (zI i)] ad F (fun v ad' F' => (0 ≤ i ∧ i < nc) ∧ (∃ w, v = some (.int (zI w)) ∧ REA A kf nf nk i.toNat w) ∧ AdX ad ad' ∧ FrX F F' ∧ RX g ad' F' td nf nk nc A P kf ser sn) (fun E ad' F' => (E = xIO ∧ ¬ (0 ≤ i ∧ i < nc)) ∧ ad = ad' ∧ F = F') := by
  refine CtX_of hl rfl [some (.ref (ad 100)), some (.int (zI i)), none] (Nat.le_of_ble_eq_true rfl) (fun _ h => h) ?_
  intro M hL hN X
  subst hL
  refine r_aload_n X dX5_reason_0 (by rfl) ?_
  refine r_iload_n X dX5_reason_1 (by rfl) ?_
  refine r_callVX X dX5_reason_2 kX5_141 (c_costAt g _ hl ad F _ _ _ _ _ _ _ _ ⟨ser, hX⟩ i hi) (hX.1.1) (by rfl) (by rfl) (by rfl) (by rfl) (by exact Nat.le_of_ble_eq_true rfl) (by decide) (by decide) (by omega) (by omega) (fun E ad' F' h => ⟨⟨h.1, h.2.1⟩, h.2.2⟩) (fun v ad' F' hK => ?_)
  obtain ⟨q1, rfl, rfl, rfl⟩ := hK
  have hO := hX.1.1
  have hnc : nc ≤ 16 := hI.1.2.2.2.2.1
  obtain ⟨j, rfl⟩ := Int.eq_ofNat_of_zero_le q1.1
  have hj : j < nc := by omega
  obtain ⟨-, -, b12⟩ := hI.2.2.2.1 j hj
  rw [show (400 + (j : Int).toNat) = 400 + j from rfl]
  have hc0 : F (400 + j) = some (.inr (4, [.int (zI (A 10 j)), .int (zI (A 11 j)), .int (zI (A 12 j)), .ref (ad (500 + j))])) := (hX.2.2.2.2.1.2.1 j hj).1
  refine r_astore_n X dX5_reason_5 (by rw [hN]; decide) (by rfl) ?_
  dsimp only [List.set]
  refine r_aload_n X dX5_reason_6 (by rfl) ?_
  refine r_get X dX5_reason_7 fgX5_145_4 (hc0) (by rfl) ?_
  refine r_if_ne X 15 dX5_reason_10 (by decide) (by unfold inR; omega) (fun a => ?_) (fun a => ?_)
  · refine r_aload_n X dX5_reason_15 (by rfl) ?_
    refine r_aload_n X dX5_reason_16 (by rfl) ?_
    refine r_callV X dX5_reason_17 kX5_162 (c_isAllowed g _ hl ad F _ _ _ _ _ _ _ _ _ hX t hI j hj) (by assumption) (by rfl) (by rfl) (by rfl) (by rfl) (by exact Nat.le_of_ble_eq_true rfl) (by decide) (by decide) (by omega) (by omega) (fun v ad' F' hK => ?_)
    obtain ⟨rfl, rfl, rfl⟩ := hK
    refine r_if_neb X 25 dX5_reason_20 (by decide) (fun b => ?_) (fun b => ?_)
    · refine r_aload_n X dX5_reason_25 (by rfl) ?_
      refine r_aload_n X dX5_reason_26 (by rfl) ?_
      refine r_callV X dX5_reason_27 kX5_166 (c_isSuited g _ hl ad F _ _ _ _ _ _ _ _ _ hX t hI j hj) (by assumption) (by rfl) (by rfl) (by rfl) (by rfl) (by exact Nat.le_of_ble_eq_true rfl) (by decide) (by decide) (by omega) (by omega) (fun v ad' F' hK => ?_)
      obtain ⟨rfl, rfl, rfl⟩ := hK
      refine r_if_neb X 35 dX5_reason_30 (by decide) (fun c => ?_) (fun c => ?_)
      · refine r_aload_n X dX5_reason_35 (by rfl) ?_
        refine r_aload_n X dX5_reason_36 (by rfl) ?_
        refine r_callV X dX5_reason_37 kX5_169 (c_isPayable g _ hl ad F _ _ _ _ _ _ _ _ _ hX t hI j hj) (by assumption) (by rfl) (by rfl) (by rfl) (by rfl) (by exact Nat.le_of_ble_eq_true rfl) (by decide) (by decide) (by omega) (by omega) (fun v ad1 F1 hK => ?_)
        obtain ⟨rfl, hA1, hF1, hX1⟩ := hK
        rw [← hA1 100 (by omega), ← hA1 (400 + j) (by omega)]
        have hO1 := hX1.1.1
        have hFX : FrX F F1 := fun x hx => hF1 x (by omega) (by omega)
        refine r_if_eqb X 45 dX5_reason_40 (by decide) (fun d => ?_) (fun d => ?_)
        · refine r_aload_n X dX5_reason_45 (by rfl) ?_
          refine r_aload_n X dX5_reason_46 (by rfl) ?_
          refine r_callV X dX5_reason_47 kX5_172 (c_isHeld g _ hl ad1 F1 _ _ _ _ _ _ _ _ _ hX1 t hI j hj) (by assumption) (by rfl) (by rfl) (by rfl) (by rfl) (by exact Nat.le_of_ble_eq_true rfl) (by decide) (by decide) (by omega) (by omega) (fun v ad' F' hK => ?_)
          obtain ⟨rfl, rfl, rfl⟩ := hK
          refine r_if_eqb X 57 dX5_reason_50 (by decide) (fun e => ?_) (fun e => ?_)
          · refine r_iconst X dX5_reason_57 rfl ?_
            exact r_iret X rfl (rfl) dX5_reason_58 (⟨q1, ⟨5, rfl, .inr (.inr (.inr ⟨a, b, c, .inr (.inr ⟨d, e, rfl⟩)⟩))⟩, hA1.X, hFX, hX1⟩) (by omega) (by omega)
          · refine r_iconst X dX5_reason_53 rfl ?_
            refine r_goto X dX5_reason_54 58 (by decide) ?_
            exact r_iret X rfl (rfl) dX5_reason_58 (⟨q1, ⟨4, rfl, .inr (.inr (.inr ⟨a, b, c, .inr (.inl ⟨d, e, rfl⟩)⟩))⟩, hA1.X, hFX, hX1⟩) (by omega) (by omega)
        · refine r_iconst X dX5_reason_43 rfl ?_
          exact r_iret X rfl (rfl) dX5_reason_44 (⟨q1, ⟨3, rfl, .inr (.inr (.inr ⟨a, b, c, .inl ⟨d, rfl⟩⟩))⟩, hA1.X, hFX, hX1⟩) (by omega) (by omega)
      · refine r_iconst X dX5_reason_33 rfl ?_
        exact r_iret X rfl (rfl) dX5_reason_34 (⟨q1, ⟨2, rfl, .inr (.inr (.inl ⟨a, b, c, rfl⟩))⟩, AdX.rf, FrX.rf, hX⟩) (by omega) (by omega)
    · refine r_iconst X dX5_reason_23 rfl ?_
      exact r_iret X rfl (rfl) dX5_reason_24 (⟨q1, ⟨1, rfl, .inr (.inl ⟨a, b, rfl⟩)⟩, AdX.rf, FrX.rf, hX⟩) (by omega) (by omega)
  · refine r_iconst X dX5_reason_13 rfl ?_
    exact r_iret X rfl (rfl) dX5_reason_14 (⟨q1, ⟨0, rfl, .inl ⟨show A 12 j = 0 by omega, rfl⟩⟩, AdX.rf, FrX.rf, hX⟩) (by omega) (by omega)
