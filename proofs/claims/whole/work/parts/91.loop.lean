/-! ===== the law's loop ===== -/
theorem INV.more {g : Gx} {a1 a5 a6 : Nat} {ad : Nat → Nat} {F : Pic} {t : Nat} (h : INV g a1 a5 a6 ad F t) (ht : t < 512) : INV g a1 a5 a6 ad F (t + 1) := by
  obtain ⟨h1, h2, td, nf, nk, nc, A, P, kf, sn, hX, hM, hI, hs⟩ := h
  exact ⟨h1, h2, td, nf, nk, nc, A, P, kf, sn, hX, hM, hI.more ht, by omega⟩
set_option maxRecDepth 100000 in
set_option maxHeartbeats 4000000 in
theorem law_loop {M : Mx} {g : Gx} {mc ms : Nat} {K : Option Value → (Nat → Nat) → Pic → Prop} (X : Cx M g yL_law cL_law (some .boolean) 840 mc ms [] K noX) (hN : mN M = 7) {b L : Nat} {xs : Nat → Int32} (hSX : va_X b L xs (mS M) (mS M).heap) (hSb : b < (mS M).heap.size) (hSA : ¬ gA g b) (hSL : L ≤ 2560) (hK1 : ∀ ad F, K (some (.int (zI 1))) ad F) {a1 a5 a6 : Nat} : ∀ (m t : Nat) (ad : Nat → Nat) (F : Pic) (o5 o6 : Option Value) (kc ks : Nat), 512 - t = m → t ≤ 512 → INV g a1 a5 a6 ad F t → kc + 32 * (512 - t) ≤ mc → ks + 1000 * (512 - t) ≤ ms →
    V M g ad F kc ks 23 [some (.ref b), some (.ref a1), some (.ref a5), some (.ref a6), some (.int (zI ((5 * t : Nat) : Int))), o5, o6] [] := by
  intro m
  induction m with
  | zero =>
    intro t ad F o5 o6 kc ks hm ht hI hkc hks
    obtain rfl : t = 512 := by omega
    refine r_iload X dL_law_23 (by rfl) ?_
    refine r_aload_n X dL_law_25 (by rfl) ?_
    refine r_slen X hSX hSb hSA dL_law_26 ?_
    refine r_iconst X dL_law_27 rfl ?_
    refine r_isub X dL_law_28 ?_
    refine r_icmp_gt X 1480 dL_law_29 (by decide) (by unfold inR; omega) (by unfold inR; omega) (fun a => ?_) (fun a => ?_)
    · refine r_iconst X dL_law_1480 rfl ?_
      exact r_iret X rfl (rfl) dL_law_1481 (hK1 _ _) (by omega) (by omega)
    · omega
  | succ m ih =>
    intro t ad F o5 o6 kc ks hm ht hI hkc hks
    refine r_iload X dL_law_23 (by rfl) ?_
    refine r_aload_n X dL_law_25 (by rfl) ?_
    refine r_slen X hSX hSb hSA dL_law_26 ?_
    refine r_iconst X dL_law_27 rfl ?_
    refine r_isub X dL_law_28 ?_
    refine r_icmp_gt X 1480 dL_law_29 (by decide) (by unfold inR; omega) (by unfold inR; omega) (fun a => ?_) (fun a => ?_)
    · refine r_iconst X dL_law_1480 rfl ?_
      exact r_iret X rfl (rfl) dL_law_1481 (hK1 _ _) (by omega) (by omega)
    · have ht2 : t < 512 := by omega
      have h5 : 5 * t + 5 ≤ L := by omega
      have e5 : ((5 * t : Nat) : Int) + 5 = ((5 * (t + 1) : Nat) : Int) := by omega
      have back : ∀ (ad' : Nat → Nat) (F' : Pic) (o5 o6 : Option Value), INV g a1 a5 a6 ad' F' (t + 1) → V M g ad' F' (kc + 32) (ks + 1000) 1474 [some (.ref b), some (.ref a1), some (.ref a5), some (.ref a6), some (.int (zI ((5 * t : Nat) : Int))), o5, o6] [] := fun ad' F' o5 o6 hI2 => by
        refine r_iinc X dL_law_1474 (by rfl) (by rw [hN]; decide) (by rfl) ?_
        dsimp only [List.set]
        refine r_goto X dL_law_1477 23 (by decide) ?_
        rw [e5]
        exact ih (t + 1) ad' F' o5 o6 (kc + 32) (ks + 1000) (by omega) (by omega) hI2 (by omega) (by omega)
      obtain ⟨v, hv, hx⟩ := and31 (xs (5 * t))
      refine r_aload_n X dL_law_32 (by rfl) ?_
      refine r_iload X dL_law_33 (by rfl) ?_
      refine r_sld X hSX hSb hSA hSL (5 * t) dL_law_35 rfl (by omega) ?_
      refine r_bipush X dL_law_36 (by decide) ?_
      refine r_iand X (hv := hx) dL_law_38 ?_
      by_cases h26 : 26 ≤ v
      · refine r_tswO X 1474 dL_law_39 (by unfold inR; omega) (by omega) (by decide) ?_
        exact r_widen (by omega) (by omega) (back ad F o5 o6 (hI.more ht2))
      · have hvv : v = 0 ∨ v = 1 ∨ v = 2 ∨ v = 3 ∨ v = 4 ∨ v = 5 ∨ v = 6 ∨ v = 7 ∨ v = 8 ∨ v = 9 ∨ v = 10 ∨ v = 11 ∨ v = 12 ∨ v = 13 ∨ v = 14 ∨ v = 15 ∨ v = 16 ∨ v = 17 ∨ v = 18 ∨ v = 19 ∨ v = 20 ∨ v = 21 ∨ v = 22 ∨ v = 23 ∨ v = 24 ∨ v = 25 := by omega
        rcases hvv with rfl | rfl | rfl | rfl | rfl | rfl | rfl | rfl | rfl | rfl | rfl | rfl | rfl | rfl | rfl | rfl | rfl | rfl | rfl | rfl | rfl | rfl | rfl | rfl | rfl | rfl
        · refine r_tsw X 156 dL_law_39 ⟨by decide, by decide⟩ (by decide) (by decide) rfl (by decide) ?_
          exact st_addFund X hN hSX hSb hSA hSL ht2 h5 hI (by omega) (by omega) back
        · refine r_tsw X 248 dL_law_39 ⟨by decide, by decide⟩ (by decide) (by decide) rfl (by decide) ?_
          exact st_deposit X hN hSX hSb hSA hSL ht2 h5 hI (by omega) (by omega) back
        · refine r_tsw X 316 dL_law_39 ⟨by decide, by decide⟩ (by decide) (by decide) rfl (by decide) ?_
          exact st_commit X hN hSX hSb hSA hSL ht2 h5 hI (by omega) (by omega) back
        · refine r_tsw X 408 dL_law_39 ⟨by decide, by decide⟩ (by decide) (by decide) rfl (by decide) ?_
          exact st_cancel X hN hSX hSb hSA hSL ht2 h5 hI (by omega) (by omega) back
        · refine r_tsw X 464 dL_law_39 ⟨by decide, by decide⟩ (by decide) (by decide) rfl (by decide) ?_
          exact st_advance X hN hSX hSb hSA hSL ht2 h5 hI (by omega) (by omega) back
        · refine r_tsw X 520 dL_law_39 ⟨by decide, by decide⟩ (by decide) (by decide) rfl (by decide) ?_
          exact st_addCost X hN hSX hSb hSA hSL ht2 h5 hI (by omega) (by omega) back
        · refine r_tsw X 600 dL_law_39 ⟨by decide, by decide⟩ (by decide) (by decide) rfl (by decide) ?_
          exact st_charge X hN hSX hSb hSA hSL ht2 h5 hI (by omega) (by omega) back
        · refine r_tsw X 613 dL_law_39 ⟨by decide, by decide⟩ (by decide) (by decide) rfl (by decide) ?_
          exact st_chargeOverhead X hN hSX hSb hSA hSL ht2 h5 hI (by omega) (by omega) back
        · refine r_tsw X 669 dL_law_39 ⟨by decide, by decide⟩ (by decide) (by decide) rfl (by decide) ?_
          exact st_today X hN hSX hSb hSA hSL ht2 h5 hI (by omega) (by omega) back
        · refine r_tsw X 682 dL_law_39 ⟨by decide, by decide⟩ (by decide) (by decide) rfl (by decide) ?_
          exact st_funds X hN hSX hSb hSA hSL ht2 h5 hI (by omega) (by omega) back
        · refine r_tsw X 695 dL_law_39 ⟨by decide, by decide⟩ (by decide) (by decide) rfl (by decide) ?_
          exact st_freeOf X hN hSX hSb hSA hSL ht2 h5 hI (by omega) (by omega) back
        · refine r_tsw X 751 dL_law_39 ⟨by decide, by decide⟩ (by decide) (by decide) rfl (by decide) ?_
          exact st_committedOf X hN hSX hSb hSA hSL ht2 h5 hI (by omega) (by omega) back
        · refine r_tsw X 807 dL_law_39 ⟨by decide, by decide⟩ (by decide) (by decide) rfl (by decide) ?_
          exact st_directOf X hN hSX hSb hSA hSL ht2 h5 hI (by omega) (by omega) back
        · refine r_tsw X 863 dL_law_39 ⟨by decide, by decide⟩ (by decide) (by decide) rfl (by decide) ?_
          exact st_overheadOf X hN hSX hSb hSA hSL ht2 h5 hI (by omega) (by omega) back
        · refine r_tsw X 919 dL_law_39 ⟨by decide, by decide⟩ (by decide) (by decide) rfl (by decide) ?_
          exact st_roomOf X hN hSX hSb hSA hSL ht2 h5 hI (by omega) (by omega) back
        · refine r_tsw X 975 dL_law_39 ⟨by decide, by decide⟩ (by decide) (by decide) rfl (by decide) ?_
          exact st_commitments X hN hSX hSb hSA hSL ht2 h5 hI (by omega) (by omega) back
        · refine r_tsw X 988 dL_law_39 ⟨by decide, by decide⟩ (by decide) (by decide) rfl (by decide) ?_
          exact st_fundOf X hN hSX hSb hSA hSL ht2 h5 hI (by omega) (by omega) back
        · refine r_tsw X 1044 dL_law_39 ⟨by decide, by decide⟩ (by decide) (by decide) rfl (by decide) ?_
          exact st_leftOf X hN hSX hSb hSA hSL ht2 h5 hI (by omega) (by omega) back
        · refine r_tsw X 1100 dL_law_39 ⟨by decide, by decide⟩ (by decide) (by decide) rfl (by decide) ?_
          exact st_untilOf X hN hSX hSb hSA hSL ht2 h5 hI (by omega) (by omega) back
        · refine r_tsw X 1156 dL_law_39 ⟨by decide, by decide⟩ (by decide) (by decide) rfl (by decide) ?_
          exact st_costs X hN hSX hSb hSA hSL ht2 h5 hI (by omega) (by omega) back
        · refine r_tsw X 1169 dL_law_39 ⟨by decide, by decide⟩ (by decide) (by decide) rfl (by decide) ?_
          exact st_unpaidOf X hN hSX hSb hSA hSL ht2 h5 hI (by omega) (by omega) back
        · refine r_tsw X 1225 dL_law_39 ⟨by decide, by decide⟩ (by decide) (by decide) rfl (by decide) ?_
          exact st_paidBy X hN hSX hSb hSA hSL ht2 h5 hI (by omega) (by omega) back
        · refine r_tsw X 1293 dL_law_39 ⟨by decide, by decide⟩ (by decide) (by decide) rfl (by decide) ?_
          exact st_payable X hN hSX hSb hSA hSL ht2 h5 hI (by omega) (by omega) back
        · refine r_tsw X 1306 dL_law_39 ⟨by decide, by decide⟩ (by decide) (by decide) rfl (by decide) ?_
          exact st_wouldPay X hN hSX hSb hSA hSL ht2 h5 hI (by omega) (by omega) back
        · refine r_tsw X 1362 dL_law_39 ⟨by decide, by decide⟩ (by decide) (by decide) rfl (by decide) ?_
          exact st_wouldTake X hN hSX hSb hSA hSL ht2 h5 hI (by omega) (by omega) back
        · refine r_tsw X 1418 dL_law_39 ⟨by decide, by decide⟩ (by decide) (by decide) rfl (by decide) ?_
          exact st_reason X hN hSX hSb hSA hSL ht2 h5 hI (by omega) (by omega) back
