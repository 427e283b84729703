/-! ===== the ledger's steps without a plan ===== -/
theorem LR.fr2 {g : Gx} {ad ad' : Nat → Nat} {F F' : Pic} {rl k cap : Nat} {e e' : Nat → Nat} (h : LR g ad F rl k cap e) (h1 : F' rl = F rl) (h2 : F' (lra rl cap) = F (lra rl cap)) (h3 : ad' (lra rl cap) = ad (lra rl cap)) (he : ∀ i, i < k → e' i = e i) : LR g ad' F' rl k cap e' := by
  obtain ⟨⟨mo, f, a, b, c⟩, d⟩ := h
  exact ⟨⟨mo, f, by rw [h1, h3]; exact a, h2.trans b, fun i hi => by rw [he i hi]; exact c i hi⟩, d⟩
def raF (m a d c : Int) : Prop := (0 ≤ m ∧ m ≤ 99999) ∧ (0 ≤ a ∧ a ≤ 255) ∧ (0 ≤ d ∧ d ≤ 999) ∧ (0 ≤ c ∧ c ≤ 100)
def fNew (A : Nat → Nat → Int) (nf : Nat) (m a d c : Int) : Nat → Nat → Int := fun k x => if x = nf ∧ k ≤ 5 then (if k = 0 then m else if k = 1 then a else if k = 2 then d else if k = 3 then c else 0) else A k x
theorem fNew_o {A : Nat → Nat → Int} {nf : Nat} {m a d c : Int} {k : Nat} (h : ¬ k ≤ 5) : fNew A nf m a d c k = A k := by
  funext x; unfold fNew; rw [if_neg (fun z => h z.2)]
theorem fNew_n {A : Nat → Nat → Int} {nf : Nat} {m a d c : Int} {k x : Nat} (h : x ≠ nf) : fNew A nf m a d c k x = A k x := by
  unfold fNew; rw [if_neg (fun z => h z.1)]
theorem W_bT {M : Mx} {g : Gx} {ad : Nat → Nat} {F : Pic} {kc ks pc : Nat} {LS : List (Option Value)} {ST : List Value} {Q : Prop} (h : Q) (k : V M g ad F kc ks pc LS (.int (bP Q) :: ST)) : V M g ad F kc ks pc LS (.int (zI 1) :: ST) := by rw [bP_t h]; exact k
theorem W_bF {M : Mx} {g : Gx} {ad : Nat → Nat} {F : Pic} {kc ks pc : Nat} {LS : List (Option Value)} {ST : List Value} {Q : Prop} (h : ¬ Q) (k : V M g ad F kc ks pc LS (.int (bP Q) :: ST)) : V M g ad F kc ks pc LS (.int (zI 0) :: ST) := by rw [bP_f h]; exact k
theorem u2_row' {f : Nat → Nat → Int} {i k a : Nat} {v : Int} (h : a ≠ i) : u2 f i k v a = f a := by
  funext b; unfold u2; rw [if_neg (fun z => h z.1)]
theorem u2_col' {f : Nat → Nat → Int} {i k a b : Nat} {v : Int} (h : b ≠ k) : u2 f i k v a b = f a b := by unfold u2; rw [if_neg (fun z => h z.2)]
set_option maxRecDepth 100000 in
set_option maxHeartbeats 4000000 in
theorem c_addFund (g : Gx) (l : Launch) (hl : l.stackTraces = false) (ad : Nat → Nat) (F : Pic) (td : Int) (nf nk nc : Nat) (A P : Nat → Nat → Int) (kf : Nat → Nat) (sn : Nat) (hX : RXs g ad F td nf nk nc A P kf sn) (hkf : ∀ i, i < nk → kf i < nf) (m a d c : Int) (hm : inR m) (ha : inR a) (hd : inR d) (hc : inR c) : CtX g l yX5_addFund cX5_addFund 6 (some .int) 7 10 200 [.ref (ad 100), .int (zI m), .int (zI a), .int (zI d), .int (zI c)] ad F (fun v ad' F' => (raF m a d c ∧ nf < 6) ∧ v = some (.int (zI nf)) ∧ AdX ad ad' ∧ FrX F F' ∧ RXs g ad' F' td (nf + 1) nk nc (fNew A nf m a d c) P kf sn) (fun E ad' F' => ((E = xIA ∧ ¬ raF m a d c) ∨ (E = xIS ∧ raF m a d c ∧ ¬ nf < 6)) ∧ ad = ad' ∧ F = F') := by
  refine CtX_of hl rfl [some (.ref (ad 100)), some (.int (zI m)), some (.int (zI a)), some (.int (zI d)), some (.int (zI c)), none] (Nat.le_of_ble_eq_true rfl) (fun _ h => h) ?_
  intro M hL hN X
  subst hL
  obtain ⟨ser, ⟨hO, h9, a99⟩, ⟨⟨cap1, hR1, hLF1⟩, ⟨cap2, hR2, hLF2⟩, ⟨cap3, hR3, hLF3⟩, kp, ep, cap4, hR4, hLF4⟩, hP, ⟨hnf, hFu, hFuN⟩, ⟨hnc, hCo, hCoN⟩, ⟨⟨hnk, hsn⟩, hKm, hKi, hKN⟩⟩ := id hX
  obtain ⟨mo1, ho1⟩ := hR1.obj; obtain ⟨mo2, ho2⟩ := hR2.obj; obtain ⟨mo3, ho3⟩ := hR3.obj; obtain ⟨mo4, ho4⟩ := hR4.obj
  refine r_iload_n X dX5_addFund_0 (by rfl) ?_
  refine r_iconst X dX5_addFund_1 rfl ?_
  refine r_ldc X dX5_addFund_2 w122 (99999) rfl ?_
  refine r_callSX X dX5_addFund_4 kX5_37 (c_reqR g _ hl ad F m 0 99999 hm (by exact ⟨by omega, by omega⟩) (by exact ⟨by omega, by omega⟩)) (by rfl) (by rfl) (by exact Nat.le_of_ble_eq_true rfl) (by decide) (by decide) (by omega) (by omega) (fun E ad' F' h => ⟨.inl ⟨h.1, fun z => h.2.1 z.1⟩, h.2.2⟩) (fun v ad' F' hK => ?_)
  obtain ⟨q1, rfl, rfl, rfl⟩ := hK
  refine r_iload_n X dX5_addFund_7 (by rfl) ?_
  refine r_iconst X dX5_addFund_8 rfl ?_
  refine r_sipush X dX5_addFund_9 (by decide) ?_
  refine r_callSX X dX5_addFund_12 kX5_37 (c_reqR g _ hl ad F a 0 255 ha (by exact ⟨by omega, by omega⟩) (by exact ⟨by omega, by omega⟩)) (by rfl) (by rfl) (by exact Nat.le_of_ble_eq_true rfl) (by decide) (by decide) (by omega) (by omega) (fun E ad' F' h => ⟨.inl ⟨h.1, fun z => h.2.1 z.2.1⟩, h.2.2⟩) (fun v ad' F' hK => ?_)
  obtain ⟨q2, rfl, rfl, rfl⟩ := hK
  refine r_iload_n X dX5_addFund_15 (by rfl) ?_
  refine r_iconst X dX5_addFund_16 rfl ?_
  refine r_sipush X dX5_addFund_17 (by decide) ?_
  refine r_callSX X dX5_addFund_20 kX5_37 (c_reqR g _ hl ad F d 0 999 hd (by exact ⟨by omega, by omega⟩) (by exact ⟨by omega, by omega⟩)) (by rfl) (by rfl) (by exact Nat.le_of_ble_eq_true rfl) (by decide) (by decide) (by omega) (by omega) (fun E ad' F' h => ⟨.inl ⟨h.1, fun z => h.2.1 z.2.2.1⟩, h.2.2⟩) (fun v ad' F' hK => ?_)
  obtain ⟨q3, rfl, rfl, rfl⟩ := hK
  refine r_iload X dX5_addFund_23 (by rfl) ?_
  refine r_iconst X dX5_addFund_25 rfl ?_
  refine r_bipush X dX5_addFund_26 (by decide) ?_
  refine r_callSX X dX5_addFund_28 kX5_37 (c_reqR g _ hl ad F c 0 100 hc (by exact ⟨by omega, by omega⟩) (by exact ⟨by omega, by omega⟩)) (by rfl) (by rfl) (by exact Nat.le_of_ble_eq_true rfl) (by decide) (by decide) (by omega) (by omega) (fun E ad' F' h => ⟨.inl ⟨h.1, fun z => h.2.1 z.2.2.2⟩, h.2.2⟩) (fun v ad' F' hK => ?_)
  obtain ⟨q4, rfl, rfl, rfl⟩ := hK
  refine r_aload_n X dX5_addFund_31 (by rfl) ?_
  refine r_get X dX5_addFund_32 fgX5_12_7 (by assumption) (by rfl) ?_
  refine r_callV X dX5_addFund_35 kX5_41 (c_size g _ hl ad F 101 nf cap1 _ (by omega) hR1) (by assumption) (by rfl) (by rfl) (by rfl) (by rfl) (by exact Nat.le_of_ble_eq_true rfl) (by decide) (by decide) (by omega) (by omega) (fun v ad' F' hK => ?_)
  obtain ⟨rfl, rfl, rfl⟩ := hK
  refine r_bipush X dX5_addFund_38 (by decide) ?_
  have rest : ∀ kc ks, kc ≤ 4 → ks ≤ 24 → V M g ad F kc ks 48 [some (.ref (ad 100)), some (.int (zI m)), some (.int (zI a)), some (.int (zI d)), some (.int (zI c)), none] [.int (bP (nf < 6))] := fun kc ks hkc hks => by
    refine r_callSX X dX5_addFund_48 kX5_45 (c_reqS g _ hl ad F (nf < 6)) (by rfl) (by rfl) (by exact Nat.le_of_ble_eq_true rfl) (by decide) (by decide) (by omega) (by omega) (fun E ad' F' h => ⟨.inr ⟨h.1, ⟨q1, q2, q3, q4⟩, h.2.1⟩, h.2.2⟩) (fun v ad' F' hK => ?_)
    obtain ⟨q5, rfl, rfl, rfl⟩ := hK
    refine r_aload_n X dX5_addFund_51 (by rfl) ?_
    refine r_get X dX5_addFund_52 fgX5_12_7 (by assumption) (by rfl) ?_
    refine r_callV X dX5_addFund_55 kX5_41 (c_size g _ hl ad F 101 nf cap1 _ (by omega) hR1) (by assumption) (by rfl) (by rfl) (by rfl) (by rfl) (by exact Nat.le_of_ble_eq_true rfl) (by decide) (by decide) (by omega) (by omega) (fun v ad' F' hK => ?_)
    obtain ⟨rfl, rfl, rfl⟩ := hK
    refine r_istore X dX5_addFund_58 (by rw [hN]; decide) (by rfl) ?_
    dsimp only [List.set]
    refine r_aload_n X dX5_addFund_60 (by rfl) ?_
    refine r_get X dX5_addFund_61 fgX5_12_7 (by assumption) (by rfl) ?_
    refine r_new X (300 + nf) dX5_addFund_64 (ci := 5) (fs := [.int (zI 0), .int (zI 0), .int (zI 0), .int (zI 0), .int (zI 0), .int (zI 0), .int (zI 0)]) rfl in_X2 tyX2_ok w217 w218 w19 (by decide +kernel) (by omega) (hFuN nf (by omega) (by omega)) (by omega) (by omega) (fun ad1 hA => ?_)
    rw [← hA 100 (by omega), ← hA 101 (by omega)]
    refine r_dup X dX5_addFund_67 (by rfl) ?_
    refine r_iload X dX5_addFund_68 (by rfl) ?_
    refine r_iload_n X dX5_addFund_70 (by rfl) ?_
    refine r_iload_n X dX5_addFund_71 (by rfl) ?_
    refine r_iload_n X dX5_addFund_72 (by rfl) ?_
    refine r_iload X dX5_addFund_73 (by rfl) ?_
    refine r_callI X dX5_addFund_75 kX5_51 (c_fundInit g _ hl ad1 _ (300 + nf) (by omega) _ _ _ _ _ _ _ pu_s (nf : Int) m a d c) (by rfl) (by rfl) (by exact Nat.le_of_ble_eq_true rfl) (by decide) (by decide) (by omega) (by omega) (fun v ad' F2 hK => ?_)
    obtain ⟨rfl, rfl, hN2, fr2⟩ := hK
    have fr : ∀ x, x ≠ 300 + nf → F2 x = F x := fun x hx => (fr2 x hx).trans (pu_n hx)
    have hl1 := lra_c (rl := 101) hR1.2.2
    have ho1' : F2 101 = _ := (fr 101 (by omega)).trans ho1
    refine r_callV X dX5_addFund_78 kX5_54 (c_add g _ hl ad1 F2 101 nf cap1 (fun i => ad1 (300 + i)) (by omega) (hR1.fr2 (fr _ (by omega)) (fr _ (by omega)) (hA _ (by omega)) (fun i hi => hA _ (by omega))) (fun c z1 z2 => (fr _ (by omega)).trans (hLF1 c z1 z2)) ((fr 99 (by omega)).trans h9) ((hA 99 (by omega)).trans a99) (fun i hi => ⟨_, 5, _, rfl, (fr _ (by omega)).trans (hFu i hi), ⟨by omega, by omega⟩, .inr (.inr rfl)⟩) (by omega) (300 + nf) 5 _ hN2 (by omega) (by omega) (.inr (.inr rfl))) (ho1') (by rfl) (by rfl) (by rfl) (by rfl) (by exact Nat.le_of_ble_eq_true rfl) (by decide) (by decide) (by omega) (by omega) (fun v ad3 F3 hK => ?_)
    obtain ⟨rfl, hA3, hF3, cap', hR1', hLF1'⟩ := hK
    have ar : ∀ x, ¬ (1000 < x ∧ x < 1100) → x ≠ 300 + nf → ad3 x = ad x := fun x z1 z2 => (hA3 x z1).trans (hA x z2)
    have fr3 : ∀ x, x ≠ 101 → ¬ (1000 < x ∧ x < 1100) → x ≠ 300 + nf → F3 x = F x := fun x z1 z2 z3 => (hF3 x z1 z2).trans (fr x z3)
    refine r_pop X dX5_addFund_81 (by rfl) ?_
    refine r_iload X dX5_addFund_82 (by rfl) ?_
    have goal : RX g ad3 F3 td (nf + 1) nk nc (fNew A nf m a d c) P kf ser sn := by
      refine ⟨CO.fr ⟨hO, h9, a99⟩ (fr3 _ (by omega) (by omega) (by omega)) (fr3 _ (by omega) (by omega) (by omega)) (fun x hx => ar x (by omega) (by omega)), ⟨⟨cap', hR1'.fr2 rfl rfl rfl (fun j hj => ?_), hLF1'⟩, CL.fr ⟨cap2, hR2, hLF2⟩ (by omega) (fun x hx => fr3 x ?_ ?_ ?_) (fun x hx => ar x ?_ ?_) (fun i hi => ar _ (by omega) (by omega)), CL.fr ⟨cap3, hR3, hLF3⟩ (by omega) (fun x hx => fr3 x ?_ ?_ ?_) (fun x hx => ar x ?_ ?_) (fun i hi => ar _ (by omega) (by omega)), kp, ep, CL.fr ⟨cap4, hR4, hLF4⟩ (by omega) (fun x hx => fr3 x ?_ ?_ ?_) (fun x hx => ar x ?_ ?_) (fun _ _ => rfl)⟩,
        hP.fr (fun x z1 z2 => fr3 x (by omega) (by omega) (by omega)) (fun x z1 z2 => ar x (by omega) (by omega)), ?_, ?_, ?_⟩
      all_goals try (unfold inA at hx; omega)
      · unfold eIns; dsimp only
        by_cases e : j < nf
        · rw [if_pos e]; exact hA3 _ (by omega)
        · rw [if_neg e, if_pos (by omega), show j = nf by omega]; exact hA3 _ (by omega)
      · refine ⟨by omega, fun j hj => ?_, fun j z1 z2 => (fr3 _ (by omega) (by omega) (by omega)).trans (hFuN j (by omega) z2)⟩
        by_cases e : j = nf
        · subst e
          rw [hF3 _ (by omega) (by omega), hN2]; unfold fuC fNew
          simp
        · rw [fr3 _ (by omega) (by omega) (by omega), hFu j (by omega)]; unfold fuC
          rw [fNew_n e, fNew_n e, fNew_n e, fNew_n e, fNew_n e, fNew_n e]
      · exact CCo.toA (CCo.fr ⟨hnc, hCo, hCoN⟩ (fun x z1 z2 => fr3 x (by omega) (by omega) (by omega)) (fun i hi => ar _ (by omega) (by omega))) (fun c z1 z2 j hj => by rw [fNew_o (by omega)])
      · exact CK.toA (CK.fr ⟨⟨hnk, hsn⟩, hKm, hKi, hKN⟩ (fun x z1 z2 => fr3 x (by omega) (by omega) (by omega)) (fun i hi => ar _ (by have := hkf i hi; omega) (by have := hkf i hi; omega))) (fun c z1 z2 j hj => by rw [fNew_o (by omega)])
    exact r_iret X rfl (rfl) dX5_addFund_84 (⟨⟨⟨q1, q2, q3, q4⟩, q5⟩, rfl, fun x hx => ar x (by omega) (by omega), fun x hx => fr3 x (by omega) (by omega) (by omega), ser, goal⟩) (by omega) (by omega)
  refine r_icmp_ge X 47 dX5_addFund_40 (by decide) (by unfold inR; omega) (by unfold inR; omega) (fun b => ?_) (fun b => ?_)
  · refine r_iconst X dX5_addFund_47 rfl ?_
    refine W_bF (Q := nf < 6) (by omega) ?_
    exact rest _ _ (by omega) (by omega)
  · refine r_iconst X dX5_addFund_43 rfl ?_
    refine r_goto X dX5_addFund_44 48 (by decide) ?_
    refine W_bT (Q := nf < 6) (by omega) ?_
    exact rest _ _ (by omega) (by omega)
set_option maxRecDepth 100000 in
set_option maxHeartbeats 4000000 in
theorem c_deposit (g : Gx) (l : Launch) (hl : l.stackTraces = false) (ad : Nat → Nat) (F : Pic) (td : Int) (nf nk nc : Nat) (A P : Nat → Nat → Int) (kf : Nat → Nat) (sn : Nat) (hX : RXs g ad F td nf nk nc A P kf sn) (i m : Int) (hi : inR i) (hm : inR m) : CtX g l yX5_deposit cX5_deposit 4 (some .int) 7 10 200 [.ref (ad 100), .int (zI i), .int (zI m)] ad F (fun v ad' F' => ((0 ≤ i ∧ i < nf) ∧ 1 ≤ m ∧ m ≤ 99999) ∧ v = some (.int (zI (A 0 i.toNat + m))) ∧ ad = ad' ∧ FrX F F' ∧ RXs g ad' F' td nf nk nc (u2 A 0 i.toNat (A 0 i.toNat + m)) P kf sn) (fun E ad' F' => ((E = xIO ∧ ¬ (0 ≤ i ∧ i < nf)) ∨ (E = xIA ∧ (0 ≤ i ∧ i < nf) ∧ ¬ (1 ≤ m ∧ m ≤ 99999))) ∧ ad = ad' ∧ F = F') := by
  refine CtX_of hl rfl [some (.ref (ad 100)), some (.int (zI i)), some (.int (zI m)), none] (Nat.le_of_ble_eq_true rfl) (fun _ h => h) ?_
  intro M hL hN X
  subst hL
  refine r_aload_n X dX5_deposit_0 (by rfl) ?_
  refine r_iload_n X dX5_deposit_1 (by rfl) ?_
  refine r_callVX X dX5_deposit_2 kX5_58 (c_fundAt g _ hl ad F _ _ _ _ _ _ _ _ hX i hi) (hX.choose_spec.1.1) (by rfl) (by rfl) (by rfl) (by rfl) (by exact Nat.le_of_ble_eq_true rfl) (by decide) (by decide) (by omega) (by omega) (fun E ad' F' h => ⟨.inl ⟨h.1, h.2.1⟩, h.2.2⟩) (fun v ad' F' hK => ?_)
  obtain ⟨q1, rfl, rfl, rfl⟩ := hK
  obtain ⟨ser, ⟨hO, h9, a99⟩, ⟨⟨cap1, hR1, hLF1⟩, ⟨cap2, hR2, hLF2⟩, ⟨cap3, hR3, hLF3⟩, kp, ep, cap4, hR4, hLF4⟩, hP, ⟨hnf, hFu, hFuN⟩, ⟨hnc, hCo, hCoN⟩, ⟨⟨hnk, hsn⟩, hKm, hKi, hKN⟩⟩ := id hX
  obtain ⟨j, rfl⟩ := Int.eq_ofNat_of_zero_le q1.1
  have hj : j < nf := by omega
  have hf0 : F (300 + j) = some (.inr (5, [.int (zI (A 0 j)), .int (zI (j : Int)), .int (zI (A 1 j)), .int (zI (A 2 j)), .int (zI (A 3 j)), .int (zI (A 4 j)), .int (zI (A 5 j))])) := hFu j hj
  refine r_astore_n X dX5_deposit_5 (by rw [hN]; decide) (by rfl) ?_
  dsimp only [List.set]
  refine r_iload_n X dX5_deposit_6 (by rfl) ?_
  refine r_iconst X dX5_deposit_7 rfl ?_
  refine r_ldc X dX5_deposit_8 w122 (99999) rfl ?_
  refine r_callSX X dX5_deposit_10 kX5_37 (c_reqR g _ hl ad F m 1 99999 hm (by exact ⟨by omega, by omega⟩) (by exact ⟨by omega, by omega⟩)) (by rfl) (by rfl) (by exact Nat.le_of_ble_eq_true rfl) (by decide) (by decide) (by omega) (by omega) (fun E ad' F' h => ⟨.inr ⟨h.1, q1, h.2.1⟩, h.2.2⟩) (fun v ad' F' hK => ?_)
  obtain ⟨q2, rfl, rfl, rfl⟩ := hK
  refine r_aload_n X dX5_deposit_13 (by rfl) ?_
  refine r_dup X dX5_deposit_14 (by rfl) ?_
  refine r_get X dX5_deposit_15 fgX5_62_5 (hf0) (by rfl) ?_
  refine r_iload_n X dX5_deposit_18 (by rfl) ?_
  refine r_iadd X dX5_deposit_19 ?_
  refine r_put X dX5_deposit_20 fwX5_62_5 (hf0) (by omega) (by exact Nat.le_of_ble_eq_true rfl) (by rfl) (by rfl) ?_
  dsimp only [List.set]
  refine (fun (k : ∀ F1 : Pic, (F1 (300 + j) = some (.inr (5, [.int (zI (A 0 j + m)), .int (zI (j : Int)), .int (zI (A 1 j)), .int (zI (A 2 j)), .int (zI (A 3 j)), .int (zI (A 4 j)), .int (zI (A 5 j))]))) → (∀ x, x ≠ 300 + j → F1 x = F x) → V M g ad F1 _ _ _ _ _) => k _ (pu_s) (fun x hx => pu_n hx)) ?_
  intro F1 h1 s1
  have goal : RX g ad F1 td nf nk nc (u2 A 0 j (A 0 j + m)) P kf ser sn := by
    refine ⟨CO.fr ⟨hO, h9, a99⟩ (s1 _ (by omega)) (s1 _ (by omega)) (fun _ _ => rfl), ⟨CL.fr ⟨cap1, hR1, hLF1⟩ (by omega) (fun x hx => s1 x ?_) (fun _ _ => rfl) (fun _ _ => rfl), CL.fr ⟨cap2, hR2, hLF2⟩ (by omega) (fun x hx => s1 x ?_) (fun _ _ => rfl) (fun _ _ => rfl), CL.fr ⟨cap3, hR3, hLF3⟩ (by omega) (fun x hx => s1 x ?_) (fun _ _ => rfl) (fun _ _ => rfl), kp, ep, CL.fr ⟨cap4, hR4, hLF4⟩ (by omega) (fun x hx => s1 x ?_) (fun _ _ => rfl) (fun _ _ => rfl)⟩,
      hP.fr (fun x z1 z2 => s1 x (by omega)) (fun _ _ _ => rfl), ?_, ?_, ?_⟩
    all_goals try (unfold inA at hx; omega)
    · refine CFu.put (A := A) (i := j) ⟨hnf, hFu, hFuN⟩ hj ?_ (fun x z1 z2 z3 => s1 x z3) (fun c hc k hk hne => u2_col' hne)
      rw [h1]; unfold fuC
      rw [u2_at, u2_row' (by omega), u2_row' (by omega), u2_row' (by omega), u2_row' (by omega), u2_row' (by omega)]
    · exact CCo.toA (CCo.fr ⟨hnc, hCo, hCoN⟩ (fun x z1 z2 => s1 x (by omega)) (fun _ _ => rfl)) (fun c z1 z2 k hk => by rw [u2_row' (by omega)])
    · exact CK.toA (CK.fr ⟨⟨hnk, hsn⟩, hKm, hKi, hKN⟩ (fun x z1 z2 => s1 x (by omega)) (fun _ _ => rfl)) (fun c z1 z2 k hk => by rw [u2_row' (by omega)])
  refine r_aload_n X dX5_deposit_23 (by rfl) ?_
  refine r_get X dX5_deposit_24 fgX5_62_5 (h1) (by rfl) ?_
  exact r_iret X rfl (rfl) dX5_deposit_27 (⟨⟨q1, q2⟩, rfl, rfl, fun x hx => s1 x (by omega), ser, goal⟩) (by omega) (by omega)
