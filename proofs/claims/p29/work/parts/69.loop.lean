/-! ===== the law's loop ===== -/
set_option maxRecDepth 100000 in
set_option maxHeartbeats 4000000 in
theorem law_loop {M : Mx} {g : Gx} {mc ms : Nat} {K : Option Value → (Nat → Nat) → Pic → Prop} (X : Cx M g yL_law cL_law (some .boolean) 12 mc ms [] K noX) (hN : mN M = 15) (hL : gn g 96 ≤ 260) (hK1 : ∀ ad F, K (some (.int (zI 1))) ad F) {a1 a2 tn : Nat} (htn : tn ≤ 44) : ∀ (m n : Nat) (ad : Nat → Nat) (F : Pic) (kc ks : Nat) (o6 o7 o8 o9 o10 o11 o12 o13 o14 : Option Value), tn - n = m → n ≤ tn → LI g ad F a1 a2 n → kc + 2840 * (tn - n) + 2830 ≤ mc → ks + 129100 * (tn - n) + 129000 ≤ ms →
    V M g ad F kc ks 59 [some (.ref (gn g 97)), some (.ref a1), some (.ref a2), some (.int (zI 1)), some (.int (zI (tn : Int))), some (.int (zI (n : Int))), o6, o7, o8, o9, o10, o11, o12, o13, o14] [] := by
  intro m
  induction m with
  | zero =>
    intro n ad F kc ks o6 o7 o8 o9 o10 o11 o12 o13 o14 hm hn hLI hkc hks
    obtain rfl : n = tn := by omega
    obtain ⟨td, nf, nk, nc, A, P, kf, sn, Kp, hS, hI, hAV, hKV, hsn⟩ := hLI
    refine r_iload X dL_law_59 (by rfl) ?_
    refine r_iload X dL_law_61 (by rfl) ?_
    refine r_icmp_ge X 821 dL_law_63 (by decide) (by unfold inR; omega) (by unfold inR; omega) (fun a => ?_) (fun a => ?_)
    · refine r_iload_n X dL_law_821 (by rfl) ?_
      refine r_if_eq X 844 dL_law_822 (by decide) (by unfold inR; omega) (fun b => ?_) (fun b => ?_)
      · omega
      · refine r_aload_n X dL_law_825 (by rfl) ?_
        refine l_charges X rfl (by omega) hS hI hAV hKV dL_law_826 (by exact Nat.le_of_ble_eq_true rfl) (by omega) (by omega) (fun ad2 F2 nk2 A2 P2 kf2 hS2 hI2 hAV2 hKV2 => ?_)
        refine r_if_eq X 844 dL_law_829 (by decide) (by unfold inR; omega) (fun e => ?_) (fun e => ?_)
        · omega
        · refine r_aload_n X dL_law_832 (by rfl) ?_
          refine r_aload_n X dL_law_833 (by rfl) ?_
          refine l_accounts X rfl (by omega) hS2 hI2 hAV2 hKV2 dL_law_834 (by exact Nat.le_of_ble_eq_true rfl) (by omega) (by omega) (fun ad3 F3 hS3 => ?_)
          refine r_if_eq X 844 dL_law_837 (by decide) (by unfold inR; omega) (fun e2 => ?_) (fun e2 => ?_)
          · omega
          · refine r_iconst X dL_law_840 rfl ?_
            refine r_goto X dL_law_841 845 (by decide) ?_
            exact r_iret X rfl (rfl) dL_law_845 (hK1 _ _) (by omega) (by omega)
    · omega
  | succ m ih =>
    intro n ad F kc ks o6 o7 o8 o9 o10 o11 o12 o13 o14 hm hn hLI hkc hks
    have hn2 : n < tn := by omega
    have h1 : kc + 940 ≤ mc := by omega
    have h2 : ks + 51700 ≤ ms := by omega
    have back : ∀ (ad' : Nat → Nat) (F' : Pic) (o6 o7 o8 o9 o10 o11 o12 o13 o14 : Option Value), LI g ad' F' a1 a2 (n + 1) → V M g ad' F' (kc + 940) (ks + 51700) 797 [some (.ref (gn g 97)), some (.ref a1), some (.ref a2), some (.int (zI 1)), some (.int (zI (tn : Int))), some (.int (zI (n : Int))), o6, o7, o8, o9, o10, o11, o12, o13, o14] [] := fun ad' F' o6 o7 o8 o9 o10 o11 o12 o13 o14 hLI2 => by
      obtain ⟨td, nf, nk, nc, A, P, kf, sn, Kp, hS, hI, hAV, hKV, hsn⟩ := hLI2
      refine r_iload_n X dL_law_797 (by rfl) ?_
      refine r_if_eq X 813 dL_law_798 (by decide) (by unfold inR; omega) (fun a => ?_) (fun a => ?_)
      · omega
      · refine r_aload_n X dL_law_801 (by rfl) ?_
        refine r_aload_n X dL_law_802 (by rfl) ?_
        refine l_accounts X rfl (by omega) hS hI hAV hKV dL_law_803 (by exact Nat.le_of_ble_eq_true rfl) (by omega) (by omega) (fun ad3 F3 hS3 => ?_)
        refine r_if_eq X 813 dL_law_806 (by decide) (by unfold inR; omega) (fun e => ?_) (fun e => ?_)
        · omega
        · refine r_iconst X dL_law_809 rfl ?_
          refine r_goto X dL_law_810 814 (by decide) ?_
          refine r_istore_n X dL_law_814 (by rw [hN]; decide) (by rfl) ?_
          dsimp only [List.set]
          refine r_iinc X dL_law_815 (by rfl) (by rw [hN]; decide) (by rfl) ?_
          dsimp only [List.set]
          refine r_goto X dL_law_818 59 (by decide) ?_
          exact ih (n + 1) ad3 F3 _ _ _ _ _ _ _ _ _ _ _ (by omega) (by omega) ⟨td, nf, nk, nc, A, P, kf, sn, Kp, hS3, hI, hAV, hKV, hsn⟩ (by omega) (by omega)
    obtain ⟨td, nf, nk, nc, A, P, kf, sn, Kp, hS, hI, hAV, hKV, hsn⟩ := hLI
    have hb := hI.1
    have hn44 : n < 44 := by omega
    refine r_iload X dL_law_59 (by rfl) ?_
    refine r_iload X dL_law_61 (by rfl) ?_
    refine r_icmp_ge X 821 dL_law_63 (by decide) (by unfold inR; omega) (by unfold inR; omega) (fun a => ?_) (fun a => ?_)
    · omega
    · refine r_iload_n X dL_law_66 (by rfl) ?_
      refine r_if_eq X 821 dL_law_67 (by decide) (by unfold inR; omega) (fun b => ?_) (fun b => ?_)
      · omega
      · refine r_aload_n X dL_law_70 (by rfl) ?_
        refine r_iconst X dL_law_71 rfl ?_
        refine r_iload X dL_law_72 (by rfl) ?_
        refine r_iadd X dL_law_74 ?_
        refine l_cell X rfl (by omega) hL (1 + n) dL_law_75 (by omega) (by omega) (by exact Nat.le_of_ble_eq_true rfl) (by omega) (by omega) (fun v6 => ?_)
        refine r_istore X dL_law_78 (by rw [hN]; decide) (by rfl) ?_
        dsimp only [List.set]
        refine r_iload X dL_law_80 (by rfl) ?_
        refine r_bipush X dL_law_82 (by decide) ?_
        refine r_ishr X (hv := rfl) dL_law_84 ?_
        refine r_bipush X dL_law_85 (by decide) ?_
        refine l_low X rfl (by omega) 16 dL_law_87 (rfl) (by omega) (by exact Nat.le_of_ble_eq_true rfl) (by omega) (by omega) (fun w7 hw7 => ?_)
        have disp : ∀ (w8 : Int) (f9 : Nat) (o9 : Option Value), 1 ≤ w8 ∧ w8 ≤ 99999 → (0 < nf → f9 < nf) → V M g ad F kc ks 153 [some (.ref (gn g 97)), some (.ref a1), some (.ref a2), some (.int (zI 1)), some (.int (zI (tn : Int))), some (.int (zI (n : Int))), some (.int v6), some (.int (zI (w7 : Int))), some (.int (zI w8)), o9, o10, o11, o12, o13, o14] [.int (zI (f9 : Int))] := fun w8 f9 o9 hw8 hf9 => by
          have c668 : V M g ad F kc ks 668 [some (.ref (gn g 97)), some (.ref a1), some (.ref a2), some (.int (zI 1)), some (.int (zI (tn : Int))), some (.int (zI (n : Int))), some (.int v6), some (.int (zI (w7 : Int))), some (.int (zI w8)), some (.int (zI (f9 : Int))), o10, o11, o12, o13, o14] [] := by
            refine r_aload_n X dL_law_668 (by rfl) ?_
            refine l_today X rfl (by omega) hS hI dL_law_669 (by exact Nat.le_of_ble_eq_true rfl) (by omega) (by omega) ?_
            refine r_sipush X dL_law_672 (by decide) ?_
            refine r_icmp_ge X 797 dL_law_675 (by decide) (by unfold inR; omega) (by unfold inR; omega) (fun c => ?_) (fun c => ?_)
            · exact r_widen (by omega) (by omega) (back _ _ _ _ _ _ _ _ _ _ _ ⟨_, _, _, _, _, _, _, _, _, hS, hI.more (by omega), hAV, hKV, by omega⟩)
            · exact st_advance X hN hS hI hAV hKV hsn hn44 h1 h2 back hw8 (by omega)
          have c566 : V M g ad F kc ks 566 [some (.ref (gn g 97)), some (.ref a1), some (.ref a2), some (.int (zI 1)), some (.int (zI (tn : Int))), some (.int (zI (n : Int))), some (.int v6), some (.int (zI (w7 : Int))), some (.int (zI w8)), some (.int (zI (f9 : Int))), o10, o11, o12, o13, o14] [] := by
            refine r_iload X dL_law_566 (by rfl) ?_
            refine r_bipush X dL_law_568 (by decide) ?_
            refine r_icmp_ge X 668 dL_law_570 (by decide) (by unfold inR; omega) (by unfold inR; omega) (fun c => ?_) (fun c => ?_)
            · exact c668
            · refine r_aload_n X dL_law_573 (by rfl) ?_
              refine l_commitments X rfl (by omega) hS hI dL_law_574 (by exact Nat.le_of_ble_eq_true rfl) (by omega) (by omega) ?_
              refine r_if_le X 668 dL_law_577 (by decide) (by unfold inR; omega) (fun e => ?_) (fun e => ?_)
              · exact c668
              · exact st_cancel X hN hS hI hAV hKV hsn hn44 h1 h2 back hw8 (by omega)
          have c530 : V M g ad F kc ks 530 [some (.ref (gn g 97)), some (.ref a1), some (.ref a2), some (.int (zI 1)), some (.int (zI (tn : Int))), some (.int (zI (n : Int))), some (.int v6), some (.int (zI (w7 : Int))), some (.int (zI w8)), some (.int (zI (f9 : Int))), o10, o11, o12, o13, o14] [] := by
            refine r_iload X dL_law_530 (by rfl) ?_
            refine r_bipush X dL_law_532 (by decide) ?_
            refine r_icmp_ge X 566 dL_law_534 (by decide) (by unfold inR; omega) (by unfold inR; omega) (fun c => ?_) (fun c => ?_)
            · exact c566
            · exact st_overhead X hN hS hI hAV hKV hsn hn44 h1 h2 back hw8
          have c515 : V M g ad F kc ks 515 [some (.ref (gn g 97)), some (.ref a1), some (.ref a2), some (.int (zI 1)), some (.int (zI (tn : Int))), some (.int (zI (n : Int))), some (.int v6), some (.int (zI (w7 : Int))), some (.int (zI w8)), some (.int (zI (f9 : Int))), o10, o11, o12, o13, o14] [] := by
            refine r_iload X dL_law_515 (by rfl) ?_
            refine r_bipush X dL_law_517 (by decide) ?_
            refine r_icmp_ge X 530 dL_law_519 (by decide) (by unfold inR; omega) (by unfold inR; omega) (fun c => ?_) (fun c => ?_)
            · exact c530
            · exact st_charges X hN hS hI hAV hKV hsn hn44 h1 h2 back hw8
          have c458 : V M g ad F kc ks 458 [some (.ref (gn g 97)), some (.ref a1), some (.ref a2), some (.int (zI 1)), some (.int (zI (tn : Int))), some (.int (zI (n : Int))), some (.int v6), some (.int (zI (w7 : Int))), some (.int (zI w8)), some (.int (zI (f9 : Int))), o10, o11, o12, o13, o14] [] := by
            refine r_iload X dL_law_458 (by rfl) ?_
            refine r_bipush X dL_law_460 (by decide) ?_
            refine r_icmp_ge X 515 dL_law_462 (by decide) (by unfold inR; omega) (by unfold inR; omega) (fun c => ?_) (fun c => ?_)
            · exact c515
            · refine r_aload_n X dL_law_465 (by rfl) ?_
              refine l_costs X rfl (by omega) hS hI dL_law_466 (by exact Nat.le_of_ble_eq_true rfl) (by omega) (by omega) ?_
              refine r_bipush X dL_law_469 (by decide) ?_
              refine r_icmp_ge X 515 dL_law_471 (by decide) (by unfold inR; omega) (by unfold inR; omega) (fun e => ?_) (fun e => ?_)
              · exact c515
              · exact st_addCost X hN hS hI hAV hKV hsn hn44 h1 h2 back hw8 (by omega)
          have c292 : V M g ad F kc ks 292 [some (.ref (gn g 97)), some (.ref a1), some (.ref a2), some (.int (zI 1)), some (.int (zI (tn : Int))), some (.int (zI (n : Int))), some (.int v6), some (.int (zI (w7 : Int))), some (.int (zI w8)), some (.int (zI (f9 : Int))), o10, o11, o12, o13, o14] [] := by
            refine r_iload X dL_law_292 (by rfl) ?_
            refine r_bipush X dL_law_294 (by decide) ?_
            refine r_icmp_ge X 458 dL_law_296 (by decide) (by unfold inR; omega) (by unfold inR; omega) (fun c => ?_) (fun c => ?_)
            · exact c458
            · refine r_aload_n X dL_law_299 (by rfl) ?_
              refine l_funds X rfl (by omega) hS hI dL_law_300 (by exact Nat.le_of_ble_eq_true rfl) (by omega) (by omega) ?_
              refine r_if_le X 458 dL_law_303 (by decide) (by unfold inR; omega) (fun e => ?_) (fun e => ?_)
              · exact c458
              · exact st_commit X hN hS hI hAV hKV hsn hn44 h1 h2 back hw8 (hf9 (by omega))
          have c248 : V M g ad F kc ks 248 [some (.ref (gn g 97)), some (.ref a1), some (.ref a2), some (.int (zI 1)), some (.int (zI (tn : Int))), some (.int (zI (n : Int))), some (.int v6), some (.int (zI (w7 : Int))), some (.int (zI w8)), some (.int (zI (f9 : Int))), o10, o11, o12, o13, o14] [] := by
            refine r_iload X dL_law_248 (by rfl) ?_
            refine r_iconst X dL_law_250 rfl ?_
            refine r_icmp_ge X 292 dL_law_251 (by decide) (by unfold inR; omega) (by unfold inR; omega) (fun c => ?_) (fun c => ?_)
            · exact c292
            · refine r_aload_n X dL_law_254 (by rfl) ?_
              refine l_funds X rfl (by omega) hS hI dL_law_255 (by exact Nat.le_of_ble_eq_true rfl) (by omega) (by omega) ?_
              refine r_if_le X 292 dL_law_258 (by decide) (by unfold inR; omega) (fun e => ?_) (fun e => ?_)
              · exact c292
              · exact st_deposit X hN hS hI hAV hKV hsn hn44 h1 h2 back hw8 (hf9 (by omega))
          have c168 : V M g ad F kc ks 168 [some (.ref (gn g 97)), some (.ref a1), some (.ref a2), some (.int (zI 1)), some (.int (zI (tn : Int))), some (.int (zI (n : Int))), some (.int v6), some (.int (zI (w7 : Int))), some (.int (zI w8)), some (.int (zI (f9 : Int))), o10, o11, o12, o13, o14] [] := by
            refine r_aload_n X dL_law_168 (by rfl) ?_
            refine l_funds X rfl (by omega) hS hI dL_law_169 (by exact Nat.le_of_ble_eq_true rfl) (by omega) (by omega) ?_
            refine r_bipush X dL_law_172 (by decide) ?_
            refine r_icmp_ge X 248 dL_law_174 (by decide) (by unfold inR; omega) (by unfold inR; omega) (fun c => ?_) (fun c => ?_)
            · exact c248
            · exact st_addFund X hN hS hI hAV hKV hsn hn44 h1 h2 back hw8 (by omega)
          refine r_istore X dL_law_153 (by rw [hN]; decide) (by rfl) ?_
          dsimp only [List.set]
          refine r_iload X dL_law_155 (by rfl) ?_
          refine r_iconst X dL_law_157 rfl ?_
          refine r_icmp_lt X 168 dL_law_158 (by decide) (by unfold inR; omega) (by unfold inR; omega) (fun c => ?_) (fun c => ?_)
          · exact c168
          · refine r_aload_n X dL_law_161 (by rfl) ?_
            refine l_funds X rfl (by omega) hS hI dL_law_162 (by exact Nat.le_of_ble_eq_true rfl) (by omega) (by omega) ?_
            refine r_if_ne X 248 dL_law_165 (by decide) (by unfold inR; omega) (fun e => ?_) (fun e => ?_)
            · exact c248
            · exact c168
        have amt : ∀ (w8 : Int) (o8 : Option Value), 1 ≤ w8 ∧ w8 ≤ 99999 → V M g ad F kc ks 128 [some (.ref (gn g 97)), some (.ref a1), some (.ref a2), some (.int (zI 1)), some (.int (zI (tn : Int))), some (.int (zI (n : Int))), some (.int v6), some (.int (zI (w7 : Int))), o8, o9, o10, o11, o12, o13, o14] [.int (zI w8)] := fun w8 o8 hw8 => by
          refine r_istore X dL_law_128 (by rw [hN]; decide) (by rfl) ?_
          dsimp only [List.set]
          refine r_aload_n X dL_law_130 (by rfl) ?_
          refine l_funds X rfl (by omega) hS hI dL_law_131 (by exact Nat.le_of_ble_eq_true rfl) (by omega) (by omega) ?_
          refine r_if_ne X 141 dL_law_134 (by decide) (by unfold inR; omega) (fun c => ?_) (fun c => ?_)
          · refine r_iload X dL_law_141 (by rfl) ?_
            refine r_bipush X dL_law_143 (by decide) ?_
            refine r_ishr X (hv := rfl) dL_law_145 ?_
            refine r_aload_n X dL_law_146 (by rfl) ?_
            refine l_funds X rfl (by omega) hS hI dL_law_147 (by exact Nat.le_of_ble_eq_true rfl) (by omega) (by omega) ?_
            refine l_low X rfl (by omega) nf dL_law_150 (rfl) (by omega) (by exact Nat.le_of_ble_eq_true rfl) (by omega) (by omega) (fun f hf => ?_)
            exact disp w8 f _ hw8 (fun _ => hf)
          · refine r_iconst X dL_law_137 rfl ?_
            refine r_goto X dL_law_138 153 (by decide) ?_
            exact disp w8 0 _ hw8 (fun z => by omega)
        refine r_istore X dL_law_90 (by rw [hN]; decide) (by rfl) ?_
        dsimp only [List.set]
        refine r_iload X dL_law_92 (by rfl) ?_
        refine r_iconst X dL_law_94 rfl ?_
        refine r_ishr X (hv := rfl) dL_law_95 ?_
        refine r_iconst X dL_law_96 rfl ?_
        refine l_low X rfl (by omega) 4 dL_law_97 (rfl) (by omega) (by exact Nat.le_of_ble_eq_true rfl) (by omega) (by omega) (fun wz hwz => ?_)
        refine r_if_ne X 117 dL_law_100 (by decide) (by unfold inR; omega) (fun c => ?_) (fun c => ?_)
        · refine r_iconst X dL_law_117 rfl ?_
          refine r_iload X dL_law_118 (by rfl) ?_
          refine r_iconst X dL_law_120 rfl ?_
          refine r_ishr X (hv := rfl) dL_law_121 ?_
          refine r_bipush X dL_law_122 (by decide) ?_
          refine l_low X rfl (by omega) 90 dL_law_124 (rfl) (by omega) (by exact Nat.le_of_ble_eq_true rfl) (by omega) (by omega) (fun w hw => ?_)
          refine r_iadd X dL_law_127 ?_
          exact amt (1 + (w : Int)) _ ⟨by omega, by omega⟩
        · refine r_iconst X dL_law_103 rfl ?_
          refine r_iload X dL_law_104 (by rfl) ?_
          refine r_iconst X dL_law_106 rfl ?_
          refine r_ishr X (hv := rfl) dL_law_107 ?_
          refine r_ldc X dL_law_108 w783 (99999) rfl ?_
          refine l_low X rfl (by omega) 99999 dL_law_110 (rfl) (by omega) (by exact Nat.le_of_ble_eq_true rfl) (by omega) (by omega) (fun w hw => ?_)
          refine r_iadd X dL_law_113 ?_
          refine r_goto X dL_law_114 128 (by decide) ?_
          exact amt (1 + (w : Int)) _ ⟨by omega, by omega⟩
