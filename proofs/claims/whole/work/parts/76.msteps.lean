/-! ===== the model's steps, in the ledger's numbers ===== -/
section AGs
variable {nf nk nc : Nat} {A P : Nat → Nat → Int} {kf : Nat → Nat} {B : Nat → Nat → Int}
theorem AG.dep (h : AG nf nk nc A P kf B) {i : Nat} (hi : i < nf) (m : Int) : AG nf nk nc (u2 A 0 i (A 0 i + m)) P kf (u2 B 2 i (B 2 i + m)) := by
  obtain ⟨h1, h2, h3, h4, h5⟩ := h
  refine ⟨fun x hx => ?_, fun x hx hx6 => ?_, fun x hx => ?_, fun x hx => ?_, fun x hx hx6 k hk6 => ?_⟩
  · rw [u2_row' (a := 3) (by omega), u2_row' (a := 4) (by omega), u2_row' (a := 5) (by omega), u2_row' (a := 6) (by omega), u2_row' (a := 7) (by omega), u2_row' (a := 1) (by omega), u2_row' (i := 0) (a := 2) (by omega), u2_row' (i := 0) (a := 3) (by omega), u2_row' (i := 0) (a := 4) (by omega), u2_row' (i := 0) (a := 5) (by omega)]
    refine ⟨?_, (h1 x hx).2⟩
    by_cases e : x = i
    · subst e; rw [u2_at, u2_at, (h1 x hx).1]
    · rw [u2_col' e, u2_col' e, (h1 x hx).1]
  · rw [u2_row' (a := 6) (by omega), u2_row' (a := 7) (by omega)]; exact h2 x hx hx6
  · rw [u2_row' (a := 9) (by omega), u2_row' (a := 10) (by omega), u2_row' (a := 11) (by omega), u2_row' (a := 12) (by omega), u2_row' (a := 7) (by omega), u2_row' (a := 8) (by omega), u2_row' (i := 0) (a := 9) (by omega)]; exact h3 x hx
  · rw [u2_row' (a := 14) (by omega), u2_row' (a := 15) (by omega), u2_row' (a := 16) (by omega), u2_row' (i := 0) (a := 10) (by omega), u2_row' (i := 0) (a := 11) (by omega), u2_row' (i := 0) (a := 12) (by omega), u2_row' (a := 17) (by omega)]; exact h4 x hx
  · rw [u2_row' (a := 17) (by omega)]; exact h5 x hx hx6 k hk6
theorem u2_o {f : Nat → Nat → Int} {i k a b : Nat} {v : Int} (h : a ≠ i ∨ b ≠ k) : u2 f i k v a b = f a b := by
  unfold u2; rw [if_neg (fun z => h.elim (fun q => q z.1) (fun q => q z.2))]
theorem AG.addF (h : AG nf nk nc A P kf B) (h6 : nf < 6) (m a d c : Int) : AG (nf + 1) nk nc (fNew A nf m a d c) P kf (u2 (u2 (u2 (u2 B 2 nf m) 3 nf a) 4 nf d) 5 nf c) := by
  obtain ⟨h1, h2, h3, h4, h5⟩ := h
  refine ⟨fun x hx => ?_, fun x hx hx6 => ?_, fun x hx => ?_, fun x hx => ?_, fun x hx hx6 k hk6 => ?_⟩
  · by_cases e : x = nf
    · subst e
      have q := h2 x (Nat.le_refl _) h6
      unfold fNew
      simp only [u2]
      simp
      exact q
    · have q := h1 x (by omega)
      rw [fNew_n e, fNew_n e, fNew_n e, fNew_n e, fNew_n e, fNew_n e]
      simp only [u2]
      simp [e]
      exact q
  · simp only [u2]; simp; exact h2 x (by omega) hx6
  · rw [fNew_o (k := 7) (by omega), fNew_o (k := 8) (by omega), fNew_o (k := 9) (by omega)]
    simp only [u2]; simp; exact h3 x hx
  · rw [fNew_o (k := 10) (by omega), fNew_o (k := 11) (by omega), fNew_o (k := 12) (by omega)]
    simp only [u2]; simp; exact h4 x hx
  · simp only [u2]; simp; exact h5 x hx hx6 k hk6
theorem AG.com (h : AG nf nk nc A P kf B) {i : Nat} (hi : i < nf) (c m u : Int) : AG nf (nk + 1) nc (fCom A i nk c m u) P (un kf nk i) (u2 (u2 (u2 (u2 (u2 B 2 i (B 2 i - m)) 9 nk (i : Int)) 10 nk c) 11 nk m) 12 nk u) := by
  obtain ⟨h1, h2, h3, h4, h5⟩ := h
  refine ⟨fun x hx => ?_, fun x hx hx6 => ?_, fun x hx => ?_, fun x hx => ?_, fun x hx hx6 k hk6 => ?_⟩
  · have q := h1 x hx
    rw [fCom_0, fCom_o (a := 1) (by omega) (by omega), fCom_o (a := 2) (by omega) (by omega), fCom_o (a := 3) (by omega) (by omega), fCom_o (a := 4) (by omega) (by omega), fCom_o (a := 5) (by omega) (by omega)]
    simp only [u2]; simp
    refine ⟨?_, q.2⟩
    by_cases e : x = i
    · subst e; rw [if_pos rfl, if_pos rfl, q.1]
    · rw [if_neg e, if_neg e, q.1]
  · simp only [u2]; simp; exact h2 x hx hx6
  · by_cases e : x = nk
    · subst e
      rw [fCom_7, fCom_8, fCom_9]
      simp only [u2, un]; simp
    · have q := h3 x (by omega)
      rw [fCom_k (a := 7) (by omega) e, fCom_k (a := 8) (by omega) e, fCom_k (a := 9) (by omega) e]
      simp only [u2, un]; simp [e]; exact q
  · rw [fCom_o (a := 10) (by omega) (by omega), fCom_o (a := 11) (by omega) (by omega), fCom_o (a := 12) (by omega) (by omega)]
    simp only [u2]; simp; exact h4 x hx
  · simp only [u2]; simp; exact h5 x hx hx6 k hk6
theorem AG.cst (h : AG nf nk nc A P kf B) (hc : nc < 16) (c d m : Int) : AG nf nk (nc + 1) (fCst A nc c d m) (fP0 P nc) kf (u2 (u2 (u2 B 14 nc c) 15 nc d) 16 nc m) := by
  obtain ⟨h1, h2, h3, h4, h5⟩ := h
  refine ⟨fun x hx => ?_, fun x hx hx6 => ?_, fun x hx => ?_, fun x hx => ?_, fun x hx hx6 k hk6 => ?_⟩
  · rw [fCst_o (a := 0) (by omega), fCst_o (a := 1) (by omega), fCst_o (a := 2) (by omega), fCst_o (a := 3) (by omega), fCst_o (a := 4) (by omega), fCst_o (a := 5) (by omega)]
    simp only [u2]; simp; exact h1 x hx
  · simp only [u2]; simp; exact h2 x hx hx6
  · rw [fCst_o (a := 7) (by omega), fCst_o (a := 8) (by omega), fCst_o (a := 9) (by omega)]
    simp only [u2]; simp; exact h3 x hx
  · by_cases e : x = nc
    · subst e
      have q := h5 x (Nat.le_refl _) hc
      rw [fCst_10, fCst_11, fCst_12]
      simp only [u2, fP0]; simp; exact q
    · have q := h4 x (by omega)
      rw [fCst_k e, fCst_k e, fCst_k e]
      simp only [u2, fP0]; simp [e]; exact q
  · simp only [u2]; simp; exact h5 x (by omega) hx6 k hk6
end AGs
set_option maxRecDepth 100000 in
set_option maxHeartbeats 4000000 in
theorem c_mCancel (g : Gx) (l : Launch) (hl : l.stackTraces = false) (ad : Nat → Nat) (F : Pic) (td : Int) (nf nk nc np : Nat) (th : Int) (B A P : Nat → Nat → Int) (kf : Nat → Nat) (hB : MB g ad F td nf nk nc np th B) (hG : AG nf nk nc A P kf B) (t : Nat) (hI : IV td nf nk nc A kf t) (i : Int) (hi : inR i) : Ct g l yX6_cancel cX6_cancel 3 (some .int) 3 0 0 [.ref (ad 50000), .int (zI i)] ad F (fun v ad' F' => ad = ad' ∧ FrM F F' ∧ (((0 ≤ i ∧ i < nk) ∧ v = some (.int (zI (A 8 i.toNat))) ∧ MG g ad F' td nf (nk - 1) nc (fEnd A kf i.toNat) P (eDel kf i.toNat) 0) ∨ (¬ (0 ≤ i ∧ i < nk) ∧ v = some (.int (zI 0)) ∧ MG g ad F' td nf nk nc A P kf 1))) := by
  refine Ct_of hl rfl [some (.ref (ad 50000)), some (.int (zI i)), none] (Nat.le_of_ble_eq_true rfl) (fun _ h => h) ?_
  intro M hL hN X
  subst hL
  have hI0 := hI.1
  have hB_o := hB.1
  unfold MOL at hB_o
  refine r_aload_n X dX6_cancel_0 (by rfl) ?_
  refine r_iload_n X dX6_cancel_1 (by rfl) ?_
  refine r_callV X dX6_cancel_2 kX6_124 (c_mIsCom g _ hl ad F _ _ _ _ _ _ _ hB i hi (by omega)) (by assumption) (by rfl) (by rfl) (by rfl) (by rfl) (by exact Nat.le_of_ble_eq_true rfl) (by decide) (by decide) (by omega) (by omega) (fun v ad' F1 hK => ?_)
  obtain ⟨rfl, rfl, hF1, th', hB1, z1, z2⟩ := hK
  have hB1_o := hB1.1
  unfold MOL at hB1_o
  refine r_if_neb X 10 dX6_cancel_5 (by decide) (fun a => ?_) (fun a => ?_)
  · rw [z1 a] at hB1
    obtain ⟨j, rfl⟩ := Int.eq_ofNat_of_zero_le a.1
    have hj : j < nk := by omega
    have e11 : B 11 j = A 8 j := (hG.2.2.1 j hj).2.2.1
    have hB1_11 : F1 50011 = some (cI g 6 (fun j => zI (B 11 j))) := hB1.2 11 rfl
    refine r_aload_n X dX6_cancel_10 (by rfl) ?_
    refine r_get X dX6_cancel_11 fgX6_34_8 (by assumption) (by rfl) ?_
    refine r_iload_n X dX6_cancel_14 (by rfl) ?_
    refine r_iald X j dX6_cancel_15 (by assumption) (by rfl) (by omega) (by first | decide | omega) ?_
    refine r_istore_n X dX6_cancel_16 (by rw [hN]; decide) (by rfl) ?_
    dsimp only [List.set]
    refine r_aload_n X dX6_cancel_17 (by rfl) ?_
    refine r_iload_n X dX6_cancel_18 (by rfl) ?_
    rw [e11]
    refine r_callV X dX6_cancel_19 kX6_127 (c_mEnds g _ hl ad F1 _ _ _ _ _ _ _ _ _ _ hB1 hG j hj (by omega) (hI.2.2.1 j hj).1 (by omega)) (by assumption) (by rfl) (by rfl) (by rfl) (by rfl) (by exact Nat.le_of_ble_eq_true rfl) (by decide) (by decide) (by omega) (by omega) (fun v ad' F2 hK => ?_)
    obtain ⟨rfl, rfl, hF2, B', h2, h2G⟩ := hK
    refine r_iload_n X dX6_cancel_22 (by rfl) ?_
    exact r_iret X rfl (rfl) dX6_cancel_23 (⟨rfl, hF1.tr hF2, .inl ⟨a, rfl, _, _, h2, h2G⟩⟩) (by omega) (by omega)
  · rw [z2 a] at hB1
    refine r_iconst X dX6_cancel_8 rfl ?_
    exact r_iret X rfl (rfl) dX6_cancel_9 (⟨rfl, hF1, .inr ⟨a, rfl, _, _, hB1, hG⟩⟩) (by omega) (by omega)
set_option maxRecDepth 100000 in
set_option maxHeartbeats 4000000 in
theorem c_mAdvance (g : Gx) (l : Launch) (hl : l.stackTraces = false) (ad : Nat → Nat) (F : Pic) (td : Int) (nf nk nc np : Nat) (th : Int) (B A P : Nat → Nat → Int) (kf : Nat → Nat) (hB : MB g ad F td nf nk nc np th B) (hG : AG nf nk nc A P kf B) (t : Nat) (hI : IV td nf nk nc A kf t) (d : Int) (hd : inR d) : Ct g l yX6_advance cX6_advance 4 (some .int) 2 0 0 [.ref (ad 50000), .int (zI d)] ad F (fun v ad' F' => ad = ad' ∧ FrM F F' ∧ ((((1 ≤ d ∧ d ≤ 999) ∧ td + d ≤ 999) ∧ v = some (.int (zI ((nk : Int) - (endS (qLap (td + d)) nk (nk, A, kf)).1))) ∧ MG g ad F' (td + d) nf (endS (qLap (td + d)) nk (nk, A, kf)).1 nc (endS (qLap (td + d)) nk (nk, A, kf)).2.1 P (endS (qLap (td + d)) nk (nk, A, kf)).2.2 0) ∨ (¬ ((1 ≤ d ∧ d ≤ 999) ∧ td + d ≤ 999) ∧ v = some (.int (zI 0)) ∧ MG g ad F' td nf nk nc A P kf 1))) := by
  refine Ct_of hl rfl [some (.ref (ad 50000)), some (.int (zI d)), none, none] (Nat.le_of_ble_eq_true rfl) (fun _ h => h) ?_
  intro M hL hN X
  subst hL
  have hI0 := hI.1
  have hB_o := hB.1
  unfold MOL at hB_o
  refine r_aload_n X dX6_advance_0 (by rfl) ?_
  refine r_iconst X dX6_advance_1 rfl ?_
  refine r_put X dX6_advance_2 fwX6_82_8 (by assumption) (by omega) (by exact Nat.le_of_ble_eq_true rfl) (by rfl) (by rfl) ?_
  dsimp only [List.set]
  refine (fun (kk9 : ∀ F1 : Pic, MB g ad F1 td nf nk nc np 0 B → FrM F F1 → V M g ad F1 _ _ _ _ _) => kk9 _ (hB.obj (by rw [pu_s]; rfl) (fun x hx => pu_n hx)) (FrM.pu ⟨by omega, by omega⟩)) ?_
  intro F1 h1 h1F
  have h1_o := h1.1
  unfold MOL at h1_o
  have bad : ¬ ((1 ≤ d ∧ d ≤ 999) ∧ td + d ≤ 999) → V M g ad F1 0 0 29 [some (.ref (ad 50000)), some (.int (zI d)), none, none] [] := fun h => by
    refine r_aload_n X dX6_advance_29 (by rfl) ?_
    refine r_iconst X dX6_advance_30 rfl ?_
    refine r_callV X dX6_advance_31 kX6_111 (c_mFails g _ hl ad F1 _ _ _ _ _ _ _ h1 1) (by assumption) (by rfl) (by rfl) (by rfl) (by rfl) (by exact Nat.le_of_ble_eq_true rfl) (by decide) (by decide) (by omega) (by omega) (fun v ad' F2 hK => ?_)
    obtain ⟨rfl, rfl, hF2, hB2⟩ := hK
    exact r_iret X rfl (rfl) dX6_advance_34 (⟨rfl, h1F.tr hF2, .inr ⟨h, rfl, _, _, hB2, hG⟩⟩) (by omega) (by omega)
  have d9 := hd
  unfold inR at d9
  refine r_iload_n X dX6_advance_5 (by rfl) ?_
  refine r_i2l X dX6_advance_6 (hd) ?_
  refine r_lconst X dX6_advance_7 1 rfl ?_
  refine r_ldc2 X dX6_advance_8 w1184 (999) rfl ?_
  refine r_callS X dX6_advance_11 kX6_89 (c_mIn g _ hl ad F1 d 1 999 ⟨by omega, by omega⟩ ⟨by omega, by omega⟩ ⟨by omega, by omega⟩) (by rfl) (by rfl) (by exact Nat.le_of_ble_eq_true rfl) (by decide) (by decide) (by omega) (by omega) (fun v ad' F' hK => ?_)
  obtain ⟨rfl, rfl, rfl⟩ := hK
  refine r_if_eqb X 29 dX6_advance_14 (by decide) (fun q1 => ?_) (fun q1 => ?_)
  · exact bad (fun z => q1 z.1)
  · refine r_aload_n X dX6_advance_17 (by rfl) ?_
    refine r_get X dX6_advance_18 fgX6_121_8 (by assumption) (by rfl) ?_
    refine r_iload_n X dX6_advance_21 (by rfl) ?_
    refine r_iadd X dX6_advance_22 ?_
    refine r_sipush X dX6_advance_23 (by decide) ?_
    refine r_icmp_le X 35 dX6_advance_26 (by decide) (by unfold inR; omega) (by unfold inR; omega) (fun q2 => ?_) (fun q2 => ?_)
    · have loop : ∀ (k : Nat) (F3 : Pic) (nk1 : Nat) (A1 : Nat → Nat → Int) (kf1 : Nat → Nat) (B1 : Nat → Nat → Int) (w z : Int), k ≤ nk1 → nk1 ≤ nk → w = (nk : Int) - nk1 → z = (k : Int) - 1 → FrM F F3 → MB g ad F3 (td + d) nf nk1 nc np 0 B1 → AG nf nk1 nc A1 P kf1 B1 → IV (td + d) nf nk1 nc A1 kf1 t → endS (qLap (td + d)) k (nk1, A1, kf1) = endS (qLap (td + d)) nk (nk, A, kf) →
          V M g ad F3 0 0 54 [some (.ref (ad 50000)), some (.int (zI d)), some (.int (zI w)), some (.int (zI z))] [] := by
        intro k
        induction k with
        | zero =>
          intro F3 nk1 A1 kf1 B1 w z hk1 hk2 hw hz hF h3 h3G hI1 he
          refine r_iload_n X dX6_advance_54 (by rfl) ?_
          refine r_if_lt X 85 dX6_advance_55 (by decide) (by unfold inR; omega) (fun a => ?_) (fun a => ?_)
          · refine r_iload_n X dX6_advance_85 (by rfl) ?_
            refine W_int (b := zI ((nk : Int) - nk1)) (by rw [hw]) ?_
            exact r_iret X rfl (rfl) dX6_advance_86 (⟨rfl, hF, .inl ⟨⟨q1, q2⟩, by rw [← he]; rfl, _, _, by rw [← he]; exact h3, by rw [← he]; exact h3G⟩⟩) (by omega) (by omega)
          · omega
        | succ k ih =>
          intro F3 nk1 A1 kf1 B1 w z hk1 hk2 hw hz hF h3 h3G hI1 he
          obtain rfl : z = (k : Int) := by omega
          have h3_o := h3.1
          unfold MOL at h3_o
          have h3_12 : F3 50012 = some (cI g 6 (fun j => zI (B1 12 j))) := h3.2 12 rfl
          have e12 : B1 12 k = A1 9 k := (h3G.2.2.1 k (by omega)).2.2.2
          obtain ⟨hkk, -, -, h9a, h9b⟩ := hI1.2.2.1 k (by omega)
          refine r_iload_n X dX6_advance_54 (by rfl) ?_
          refine r_if_lt X 85 dX6_advance_55 (by decide) (by unfold inR; omega) (fun a => ?_) (fun a => ?_)
          · omega
          · refine r_aload_n X dX6_advance_58 (by rfl) ?_
            refine r_get X dX6_advance_59 fgX6_37_8 (by assumption) (by rfl) ?_
            refine r_iload_n X dX6_advance_62 (by rfl) ?_
            refine r_iald X k dX6_advance_63 (by assumption) (by rfl) (by omega) (by first | decide | omega) ?_
            refine r_aload_n X dX6_advance_64 (by rfl) ?_
            refine r_get X dX6_advance_65 fgX6_121_8 (by assumption) (by rfl) ?_
            rw [e12]
            refine r_icmp_ge X 79 dX6_advance_68 (by decide) (by unfold inR; omega) (by unfold inR; omega) (fun b => ?_) (fun b => ?_)
            · refine r_iinc X dX6_advance_79 (by rfl) (by rw [hN]; decide) (by rfl) ?_
              dsimp only [List.set]
              refine r_goto X dX6_advance_82 54 (by decide) ?_
              exact ih F3 nk1 A1 kf1 B1 w _ (by omega) hk2 hw (by omega) hF h3 h3G hI1 (by rw [← he, endS_n]; unfold qLap; simp; omega)
            · refine r_aload_n X dX6_advance_71 (by rfl) ?_
              refine r_iload_n X dX6_advance_72 (by rfl) ?_
              refine r_callV X dX6_advance_73 kX6_127 (c_mEnds g _ hl ad F3 _ _ _ _ _ _ _ _ _ _ h3 h3G k (by omega) (by omega) hkk (by omega)) (by assumption) (by rfl) (by rfl) (by rfl) (by rfl) (by exact Nat.le_of_ble_eq_true rfl) (by decide) (by decide) (by omega) (by omega) (fun v ad' F4 hK => ?_)
              obtain ⟨rfl, rfl, hF4, B', h4, h4G⟩ := hK
              refine r_iinc X dX6_advance_76 (by rfl) (by rw [hN]; decide) (by rfl) ?_
              dsimp only [List.set]
              refine r_iinc X dX6_advance_79 (by rfl) (by rw [hN]; decide) (by rfl) ?_
              dsimp only [List.set]
              refine r_goto X dX6_advance_82 54 (by decide) ?_
              exact ih F4 (nk1 - 1) _ _ B' _ _ (by omega) (by omega) (by omega) (by omega) (hF.tr hF4) h4 h4G (hI1.ends (by omega)) (by rw [← he, endS_y]; unfold qLap; simp; omega)
      refine r_aload_n X dX6_advance_35 (by rfl) ?_
      refine r_dup X dX6_advance_36 (by rfl) ?_
      refine r_get X dX6_advance_37 fgX6_121_8 (by assumption) (by rfl) ?_
      refine r_iload_n X dX6_advance_40 (by rfl) ?_
      refine r_iadd X dX6_advance_41 ?_
      refine r_put X dX6_advance_42 fwX6_121_8 (by assumption) (by omega) (by exact Nat.le_of_ble_eq_true rfl) (by rfl) (by rfl) ?_
      dsimp only [List.set]
      refine (fun (kk9 : ∀ F2 : Pic, MB g ad F2 (td + d) nf nk nc np 0 B → FrM F1 F2 → V M g ad F2 _ _ _ _ _) => kk9 _ (h1.obj (by rw [pu_s]; rfl) (fun x hx => pu_n hx)) (FrM.pu ⟨by omega, by omega⟩)) ?_
      intro F2 h2 h2F
      have h2_o := h2.1
      unfold MOL at h2_o
      refine r_iconst X dX6_advance_45 rfl ?_
      refine r_istore_n X dX6_advance_46 (by rw [hN]; decide) (by rfl) ?_
      dsimp only [List.set]
      refine r_aload_n X dX6_advance_47 (by rfl) ?_
      refine r_get X dX6_advance_48 fgX6_93_8 (by assumption) (by rfl) ?_
      refine r_iconst X dX6_advance_51 rfl ?_
      refine r_isub X dX6_advance_52 ?_
      refine r_istore_n X dX6_advance_53 (by rw [hN]; decide) (by rfl) ?_
      dsimp only [List.set]
      exact loop nk F2 nk A kf B 0 _ (by omega) (by omega) (by omega) rfl (h1F.tr h2F) h2 hG (hI.today ⟨by omega, by omega⟩) rfl
    · exact bad (fun z => by omega)
set_option maxRecDepth 100000 in
set_option maxHeartbeats 4000000 in
theorem c_mCommit (g : Gx) (l : Launch) (hl : l.stackTraces = false) (ad : Nat → Nat) (F : Pic) (td : Int) (nf nk nc np : Nat) (th : Int) (B A P : Nat → Nat → Int) (kf : Nat → Nat) (hB : MB g ad F td nf nk nc np th B) (hG : AG nf nk nc A P kf B) (t : Nat) (hI : IV td nf nk nc A kf t) (i c m u : Int) (hi : inR i) (hc : inR c) (hm : inR m) (hu : inR u) : Ct g l yX6_commit cX6_commit 5 (some .int) 3 0 0 [.ref (ad 50000), .int (zI i), .int (zI c), .int (zI m), .int (zI u)] ad F (fun v ad' F' => ad = ad' ∧ FrM F F' ∧ (((((0 ≤ i ∧ i < nf) ∧ raK td c m u ∧ stK A nk i.toNat c m)) ∧ v = some (.int (zI ((nk : Int) + 1))) ∧ MG g ad F' td nf (nk + 1) nc (fCom A i.toNat nk c m u) P (un kf nk i.toNat) 0) ∨ (¬ (0 ≤ i ∧ i < nf) ∧ v = some (.int (zI 0)) ∧ MG g ad F' td nf nk nc A P kf 1) ∨ ((0 ≤ i ∧ i < nf) ∧ ¬ raK td c m u ∧ v = some (.int (zI 0)) ∧ MG g ad F' td nf nk nc A P kf 2) ∨ ((0 ≤ i ∧ i < nf) ∧ raK td c m u ∧ ¬ stK A nk i.toNat c m ∧ v = some (.int (zI 0)) ∧ MG g ad F' td nf nk nc A P kf 3))) := by
  refine Ct_of hl rfl [some (.ref (ad 50000)), some (.int (zI i)), some (.int (zI c)), some (.int (zI m)), some (.int (zI u))] (Nat.le_of_ble_eq_true rfl) (fun _ h => h) ?_
  intro M hL hN X
  subst hL
  have hI0 := hI.1
  have hB_o := hB.1
  unfold MOL at hB_o
  refine r_aload_n X dX6_commit_0 (by rfl) ?_
  refine r_iload_n X dX6_commit_1 (by rfl) ?_
  refine r_callV X dX6_commit_2 kX6_115 (c_mIsFund g _ hl ad F _ _ _ _ _ _ _ hB i hi (by omega)) (by assumption) (by rfl) (by rfl) (by rfl) (by rfl) (by exact Nat.le_of_ble_eq_true rfl) (by decide) (by decide) (by omega) (by omega) (fun v ad' F1 hK => ?_)
  obtain ⟨rfl, rfl, hF1, th', hB1, z1, z2⟩ := hK
  refine r_if_neb X 10 dX6_commit_5 (by decide) (fun a => ?_) (fun a => ?_)
  · rw [z1 a] at hB1
    have hB1_o := hB1.1
    unfold MOL at hB1_o
    obtain ⟨j, rfl⟩ := Int.eq_ofNat_of_zero_le a.1
    have hj : j < nf := by omega
    have hjt : (j : Int).toNat = j := rfl
    have gA := hG.1 j hj
    have iA := hI.2.1 j hj
    have b0 := hI.b0 hj
    have c9 := hc; have m9 := hm; have u9 := hu
    unfold inR at c9 m9 u9
    have bad2 : ¬ raK td c m u → V M g ad F1 0 0 51 [some (.ref (ad 50000)), some (.int (zI (j : Int))), some (.int (zI c)), some (.int (zI m)), some (.int (zI u))] [] := fun h => by
      refine r_aload_n X dX6_commit_51 (by rfl) ?_
      refine r_iconst X dX6_commit_52 rfl ?_
      refine r_callV X dX6_commit_53 kX6_111 (c_mFails g _ hl ad F1 _ _ _ _ _ _ _ hB1 2) (by assumption) (by rfl) (by rfl) (by rfl) (by rfl) (by exact Nat.le_of_ble_eq_true rfl) (by decide) (by decide) (by omega) (by omega) (fun v ad' F2 hK => ?_)
      obtain ⟨rfl, rfl, hF2, hB2⟩ := hK
      exact r_iret X rfl (rfl) dX6_commit_56 (⟨rfl, hF1.tr hF2, .inr (.inr (.inl ⟨a, h, rfl, _, _, hB2, hG⟩))⟩) (by omega) (by omega)
    refine r_iload_n X dX6_commit_10 (by rfl) ?_
    refine r_i2l X dX6_commit_11 (hc) ?_
    refine r_lconst X dX6_commit_12 0 rfl ?_
    refine r_ldc2 X dX6_commit_13 w1202 (7) rfl ?_
    refine r_callS X dX6_commit_16 kX6_89 (c_mIn g _ hl ad F1 c 0 7 ⟨by omega, by omega⟩ ⟨by omega, by omega⟩ ⟨by omega, by omega⟩) (by rfl) (by rfl) (by exact Nat.le_of_ble_eq_true rfl) (by decide) (by decide) (by omega) (by omega) (fun v ad' F' hK => ?_)
    obtain ⟨rfl, rfl, rfl⟩ := hK
    refine r_if_eqb X 51 dX6_commit_19 (by decide) (fun q1 => ?_) (fun q1 => ?_)
    · exact bad2 (fun z => q1 z.1)
    · refine r_iload_n X dX6_commit_22 (by rfl) ?_
      refine r_i2l X dX6_commit_23 (hm) ?_
      refine r_lconst X dX6_commit_24 1 rfl ?_
      refine r_ldc2 X dX6_commit_25 w1179 (99999) rfl ?_
      refine r_callS X dX6_commit_28 kX6_89 (c_mIn g _ hl ad F1 m 1 99999 ⟨by omega, by omega⟩ ⟨by omega, by omega⟩ ⟨by omega, by omega⟩) (by rfl) (by rfl) (by exact Nat.le_of_ble_eq_true rfl) (by decide) (by decide) (by omega) (by omega) (fun v ad' F' hK => ?_)
      obtain ⟨rfl, rfl, rfl⟩ := hK
      refine r_if_eqb X 51 dX6_commit_31 (by decide) (fun q2 => ?_) (fun q2 => ?_)
      · exact bad2 (fun z => q2 z.2.1)
      · refine r_iload X dX6_commit_34 (by rfl) ?_
        refine r_i2l X dX6_commit_36 (hu) ?_
        refine r_aload_n X dX6_commit_37 (by rfl) ?_
        refine r_get X dX6_commit_38 fgX6_121_8 (by assumption) (by rfl) ?_
        refine r_i2l X dX6_commit_41 ((by unfold inR; omega)) ?_
        refine r_ldc2 X dX6_commit_42 w1184 (999) rfl ?_
        refine r_callS X dX6_commit_45 kX6_89 (c_mIn g _ hl ad F1 u td 999 ⟨by omega, by omega⟩ ⟨by omega, by omega⟩ ⟨by omega, by omega⟩) (by rfl) (by rfl) (by exact Nat.le_of_ble_eq_true rfl) (by decide) (by decide) (by omega) (by omega) (fun v ad' F' hK => ?_)
        obtain ⟨rfl, rfl, rfl⟩ := hK
        refine r_if_neb X 57 dX6_commit_48 (by decide) (fun q3 => ?_) (fun q3 => ?_)
        · have hra : raK td c m u := ⟨q1, q2, q3⟩
          have bad3 : ¬ stK A nk j c m → V M g ad F1 0 0 85 [some (.ref (ad 50000)), some (.int (zI (j : Int))), some (.int (zI c)), some (.int (zI m)), some (.int (zI u))] [] := fun h => by
            refine r_aload_n X dX6_commit_85 (by rfl) ?_
            refine r_iconst X dX6_commit_86 rfl ?_
            refine r_callV X dX6_commit_87 kX6_111 (c_mFails g _ hl ad F1 _ _ _ _ _ _ _ hB1 3) (by assumption) (by rfl) (by rfl) (by rfl) (by rfl) (by exact Nat.le_of_ble_eq_true rfl) (by decide) (by decide) (by omega) (by omega) (fun v ad' F2 hK => ?_)
            obtain ⟨rfl, rfl, hF2, hB2⟩ := hK
            exact r_iret X rfl (rfl) dX6_commit_90 (⟨rfl, hF1.tr hF2, .inr (.inr (.inr ⟨a, hra, h, rfl, _, _, hB2, hG⟩))⟩) (by omega) (by omega)
          refine r_aload_n X dX6_commit_57 (by rfl) ?_
          refine r_iload_n X dX6_commit_58 (by rfl) ?_
          refine r_iload_n X dX6_commit_59 (by rfl) ?_
          refine r_callV X dX6_commit_60 kX6_99 (c_mAllows g _ hl ad F1 _ _ _ _ _ _ _ hB1 j (by omega) c (by rw [gA.2.1]; exact iA.2.1) q1) (by assumption) (by rfl) (by rfl) (by rfl) (by rfl) (by exact Nat.le_of_ble_eq_true rfl) (by decide) (by decide) (by omega) (by omega) (fun v ad' F' hK => ?_)
          obtain ⟨rfl, rfl, rfl⟩ := hK
          rw [gA.2.1]
          have hB1_2 : F1 50002 = some (cI g 6 (fun j => zI (B 2 j))) := hB1.2 2 rfl
          refine r_if_eqb X 85 dX6_commit_63 (by decide) (fun q4 => ?_) (fun q4 => ?_)
          · exact bad3 (fun z => q4 z.1)
          · refine r_aload_n X dX6_commit_66 (by rfl) ?_
            refine r_get X dX6_commit_67 fgX6_7_8 (by assumption) (by rfl) ?_
            refine r_iload_n X dX6_commit_70 (by rfl) ?_
            refine r_iald X j dX6_commit_71 (by assumption) (by rfl) (by omega) (by first | decide | omega) ?_
            refine r_iload_n X dX6_commit_72 (by rfl) ?_
            rw [gA.1]
            refine r_icmp_lt X 85 dX6_commit_73 (by decide) (by unfold inR; omega) (hm) (fun q5 => ?_) (fun q5 => ?_)
            · exact bad3 (fun z => by have := z.2.1; omega)
            · refine r_aload_n X dX6_commit_76 (by rfl) ?_
              refine r_get X dX6_commit_77 fgX6_93_8 (by assumption) (by rfl) ?_
              refine r_bipush X dX6_commit_80 (by decide) ?_
              refine r_icmp_ne X 91 dX6_commit_82 (by decide) (by unfold inR; omega) (by unfold inR; omega) (fun q6 => ?_) (fun q6 => ?_)
              · have hk6 : nk < 6 := by omega
                refine r_aload_n X dX6_commit_91 (by rfl) ?_
                refine r_get X dX6_commit_92 fgX6_7_8 (by assumption) (by rfl) ?_
                refine r_iload_n X dX6_commit_95 (by rfl) ?_
                refine r_dup2 X dX6_commit_96 (by rfl) (by rfl) ?_
                refine r_iald X j dX6_commit_97 (by assumption) (by rfl) (by omega) (by first | decide | omega) ?_
                refine r_iload_n X dX6_commit_98 (by rfl) ?_
                refine r_isub X dX6_commit_99 ?_
                refine r_ist X j dX6_commit_100 (by assumption) (by omega) (by rfl) (by omega) (by first | decide | omega) ?_
                obtain ⟨B2, eB2⟩ : ∃ X9 : Nat → Nat → Int, X9 = u2 B 2 (j) (B 2 j - m) := ⟨_, rfl⟩
                refine (fun (kk9 : ∀ F2 : Pic, MB g ad F2 _ _ _ _ _ _ B2 → FrM F1 F2 → V M g ad F2 _ _ _ _ _) => kk9 _ (by rw [eB2]; exact hB1.put 2 rfl (j) (B 2 j - m)) (FrM.pu ⟨by omega, by omega⟩)) ?_
                intro F2 h2 h2F
                have h2_o := h2.1
                unfold MOL at h2_o
                have h2_9 : F2 50009 = some (cI g 6 (fun j => zI (B2 9 j))) := h2.2 9 rfl
                refine r_aload_n X dX6_commit_101 (by rfl) ?_
                refine r_get X dX6_commit_102 fgX6_28_8 (by assumption) (by rfl) ?_
                refine r_aload_n X dX6_commit_105 (by rfl) ?_
                refine r_get X dX6_commit_106 fgX6_93_8 (by assumption) (by rfl) ?_
                refine r_iload_n X dX6_commit_109 (by rfl) ?_
                refine r_ist X nk dX6_commit_110 (by assumption) (by omega) (by rfl) (by omega) (by first | decide | omega) ?_
                obtain ⟨B3, eB3⟩ : ∃ X9 : Nat → Nat → Int, X9 = u2 B2 9 (nk) ((j : Int)) := ⟨_, rfl⟩
                refine (fun (kk9 : ∀ F3 : Pic, MB g ad F3 _ _ _ _ _ _ B3 → FrM F2 F3 → V M g ad F3 _ _ _ _ _) => kk9 _ (by rw [eB3]; exact h2.put 9 rfl (nk) ((j : Int))) (FrM.pu ⟨by omega, by omega⟩)) ?_
                intro F3 h3 h3F
                have h3_o := h3.1
                unfold MOL at h3_o
                have h3_10 : F3 50010 = some (cI g 6 (fun j => zI (B3 10 j))) := h3.2 10 rfl
                refine r_aload_n X dX6_commit_111 (by rfl) ?_
                refine r_get X dX6_commit_112 fgX6_31_8 (by assumption) (by rfl) ?_
                refine r_aload_n X dX6_commit_115 (by rfl) ?_
                refine r_get X dX6_commit_116 fgX6_93_8 (by assumption) (by rfl) ?_
                refine r_iload_n X dX6_commit_119 (by rfl) ?_
                refine r_ist X nk dX6_commit_120 (by assumption) (by omega) (by rfl) (by omega) (by first | decide | omega) ?_
                obtain ⟨B4, eB4⟩ : ∃ X9 : Nat → Nat → Int, X9 = u2 B3 10 (nk) (c) := ⟨_, rfl⟩
                refine (fun (kk9 : ∀ F4 : Pic, MB g ad F4 _ _ _ _ _ _ B4 → FrM F3 F4 → V M g ad F4 _ _ _ _ _) => kk9 _ (by rw [eB4]; exact h3.put 10 rfl (nk) (c)) (FrM.pu ⟨by omega, by omega⟩)) ?_
                intro F4 h4 h4F
                have h4_o := h4.1
                unfold MOL at h4_o
                have h4_11 : F4 50011 = some (cI g 6 (fun j => zI (B4 11 j))) := h4.2 11 rfl
                refine r_aload_n X dX6_commit_121 (by rfl) ?_
                refine r_get X dX6_commit_122 fgX6_34_8 (by assumption) (by rfl) ?_
                refine r_aload_n X dX6_commit_125 (by rfl) ?_
                refine r_get X dX6_commit_126 fgX6_93_8 (by assumption) (by rfl) ?_
                refine r_iload_n X dX6_commit_129 (by rfl) ?_
                refine r_ist X nk dX6_commit_130 (by assumption) (by omega) (by rfl) (by omega) (by first | decide | omega) ?_
                obtain ⟨B5, eB5⟩ : ∃ X9 : Nat → Nat → Int, X9 = u2 B4 11 (nk) (m) := ⟨_, rfl⟩
                refine (fun (kk9 : ∀ F5 : Pic, MB g ad F5 _ _ _ _ _ _ B5 → FrM F4 F5 → V M g ad F5 _ _ _ _ _) => kk9 _ (by rw [eB5]; exact h4.put 11 rfl (nk) (m)) (FrM.pu ⟨by omega, by omega⟩)) ?_
                intro F5 h5 h5F
                have h5_o := h5.1
                unfold MOL at h5_o
                have h5_12 : F5 50012 = some (cI g 6 (fun j => zI (B5 12 j))) := h5.2 12 rfl
                refine r_aload_n X dX6_commit_131 (by rfl) ?_
                refine r_get X dX6_commit_132 fgX6_37_8 (by assumption) (by rfl) ?_
                refine r_aload_n X dX6_commit_135 (by rfl) ?_
                refine r_get X dX6_commit_136 fgX6_93_8 (by assumption) (by rfl) ?_
                refine r_iload X dX6_commit_139 (by rfl) ?_
                refine r_ist X nk dX6_commit_141 (by assumption) (by omega) (by rfl) (by omega) (by first | decide | omega) ?_
                obtain ⟨B6, eB6⟩ : ∃ X9 : Nat → Nat → Int, X9 = u2 B5 12 (nk) (u) := ⟨_, rfl⟩
                refine (fun (kk9 : ∀ F6 : Pic, MB g ad F6 _ _ _ _ _ _ B6 → FrM F5 F6 → V M g ad F6 _ _ _ _ _) => kk9 _ (by rw [eB6]; exact h5.put 12 rfl (nk) (u)) (FrM.pu ⟨by omega, by omega⟩)) ?_
                intro F6 h6 h6F
                have h6_o := h6.1
                unfold MOL at h6_o
                refine r_aload_n X dX6_commit_142 (by rfl) ?_
                refine r_dup X dX6_commit_143 (by rfl) ?_
                refine r_get X dX6_commit_144 fgX6_93_8 (by assumption) (by rfl) ?_
                refine r_iconst X dX6_commit_147 rfl ?_
                refine r_iadd X dX6_commit_148 ?_
                refine r_put X dX6_commit_149 fwX6_93_8 (by assumption) (by omega) (by exact Nat.le_of_ble_eq_true rfl) (by rfl) (by rfl) ?_
                dsimp only [List.set]
                have e1 : (nk : Int) + 1 = ((nk + 1 : Nat) : Int) := by omega
                refine (fun (kk9 : ∀ F7 : Pic, MB g ad F7 td nf (nk + 1) nc np 0 B6 → FrM F6 F7 → V M g ad F7 _ _ _ _ _) => kk9 _ (h6.obj (by rw [pu_s, e1]; rfl) (fun x hx => pu_n hx)) (FrM.pu ⟨by omega, by omega⟩)) ?_
                intro F7 h7 h7F
                have h7_o := h7.1
                unfold MOL at h7_o
                refine r_aload_n X dX6_commit_152 (by rfl) ?_
                refine r_get X dX6_commit_153 fgX6_93_8 (by assumption) (by rfl) ?_
                rw [← e1]
                exact r_iret X rfl (rfl) dX6_commit_156 (⟨rfl, hF1.tr (h2F.tr (h3F.tr (h4F.tr (h5F.tr (h6F.tr h7F))))), .inl ⟨⟨a, hra, ⟨q4, (show m ≤ A 0 j by omega), hk6⟩⟩, rfl, _, _, h7, by rw [eB6, eB5, eB4, eB3, eB2]; exact hG.com hj c m u⟩⟩) (by omega) (by omega)
              · exact bad3 (fun z => by have := z.2.2; omega)
        · exact bad2 (fun z => q3 z.2.2)
  · rw [z2 a] at hB1
    refine r_iconst X dX6_commit_8 rfl ?_
    exact r_iret X rfl (rfl) dX6_commit_9 (⟨rfl, hF1, .inr (.inl ⟨a, rfl, _, _, hB1, hG⟩)⟩) (by omega) (by omega)
set_option maxRecDepth 100000 in
set_option maxHeartbeats 4000000 in
theorem c_mAddCost (g : Gx) (l : Launch) (hl : l.stackTraces = false) (ad : Nat → Nat) (F : Pic) (td : Int) (nf nk nc np : Nat) (th : Int) (B A P : Nat → Nat → Int) (kf : Nat → Nat) (hB : MB g ad F td nf nk nc np th B) (hG : AG nf nk nc A P kf B) (t : Nat) (hI : IV td nf nk nc A kf t) (c d m : Int) (hc : inR c) (hd : inR d) (hm : inR m) : Ct g l yX6_addCost cX6_addCost 4 (some .int) 2 0 0 [.ref (ad 50000), .int (zI c), .int (zI d), .int (zI m)] ad F (fun v ad' F' => ad = ad' ∧ FrM F F' ∧ (((raC td c d m ∧ nc < 16) ∧ v = some (.int (zI nc)) ∧ MG g ad F' td nf nk (nc + 1) (fCst A nc c d m) (fP0 P nc) kf 0) ∨ (¬ raC td c d m ∧ v = some (.int (zI 0)) ∧ MG g ad F' td nf nk nc A P kf 1) ∨ (raC td c d m ∧ ¬ nc < 16 ∧ v = some (.int (zI 0)) ∧ MG g ad F' td nf nk nc A P kf 2))) := by
  refine Ct_of hl rfl [some (.ref (ad 50000)), some (.int (zI c)), some (.int (zI d)), some (.int (zI m))] (Nat.le_of_ble_eq_true rfl) (fun _ h => h) ?_
  intro M hL hN X
  subst hL
  have hI0 := hI.1
  have hB_o := hB.1
  unfold MOL at hB_o
  refine r_aload_n X dX6_addCost_0 (by rfl) ?_
  refine r_iconst X dX6_addCost_1 rfl ?_
  refine r_put X dX6_addCost_2 fwX6_82_8 (by assumption) (by omega) (by exact Nat.le_of_ble_eq_true rfl) (by rfl) (by rfl) ?_
  dsimp only [List.set]
  refine (fun (kk9 : ∀ F1 : Pic, MB g ad F1 td nf nk nc np 0 B → FrM F F1 → V M g ad F1 _ _ _ _ _) => kk9 _ (hB.obj (by rw [pu_s]; rfl) (fun x hx => pu_n hx)) (FrM.pu ⟨by omega, by omega⟩)) ?_
  intro F1 h1 h1F
  have h1_o := h1.1
  unfold MOL at h1_o
  have c9 := hc; have d9 := hd; have m9 := hm
  unfold inR at c9 d9 m9
  have bad : ¬ raC td c d m → V M g ad F1 0 0 43 [some (.ref (ad 50000)), some (.int (zI c)), some (.int (zI d)), some (.int (zI m))] [] := fun h => by
    refine r_aload_n X dX6_addCost_43 (by rfl) ?_
    refine r_iconst X dX6_addCost_44 rfl ?_
    refine r_callV X dX6_addCost_45 kX6_111 (c_mFails g _ hl ad F1 _ _ _ _ _ _ _ h1 1) (by assumption) (by rfl) (by rfl) (by rfl) (by rfl) (by exact Nat.le_of_ble_eq_true rfl) (by decide) (by decide) (by omega) (by omega) (fun v ad' F2 hK => ?_)
    obtain ⟨rfl, rfl, hF2, hB2⟩ := hK
    exact r_iret X rfl (rfl) dX6_addCost_48 (⟨rfl, h1F.tr hF2, .inr (.inl ⟨h, rfl, _, _, hB2, hG⟩)⟩) (by omega) (by omega)
  refine r_iload_n X dX6_addCost_5 (by rfl) ?_
  refine r_i2l X dX6_addCost_6 (hc) ?_
  refine r_lconst X dX6_addCost_7 0 rfl ?_
  refine r_ldc2 X dX6_addCost_8 w1202 (7) rfl ?_
  refine r_callS X dX6_addCost_11 kX6_89 (c_mIn g _ hl ad F1 c 0 7 ⟨by omega, by omega⟩ ⟨by omega, by omega⟩ ⟨by omega, by omega⟩) (by rfl) (by rfl) (by exact Nat.le_of_ble_eq_true rfl) (by decide) (by decide) (by omega) (by omega) (fun v ad' F' hK => ?_)
  obtain ⟨rfl, rfl, rfl⟩ := hK
  refine r_if_eqb X 43 dX6_addCost_14 (by decide) (fun q1 => ?_) (fun q1 => ?_)
  · exact bad (fun z => q1 z.1)
  · refine r_iload_n X dX6_addCost_17 (by rfl) ?_
    refine r_i2l X dX6_addCost_18 (hd) ?_
    refine r_lconst X dX6_addCost_19 0 rfl ?_
    refine r_aload_n X dX6_addCost_20 (by rfl) ?_
    refine r_get X dX6_addCost_21 fgX6_121_8 (by assumption) (by rfl) ?_
    refine r_i2l X dX6_addCost_24 ((by unfold inR; omega)) ?_
    refine r_callS X dX6_addCost_25 kX6_89 (c_mIn g _ hl ad F1 d 0 td ⟨by omega, by omega⟩ ⟨by omega, by omega⟩ ⟨by omega, by omega⟩) (by rfl) (by rfl) (by exact Nat.le_of_ble_eq_true rfl) (by decide) (by decide) (by omega) (by omega) (fun v ad' F' hK => ?_)
    obtain ⟨rfl, rfl, rfl⟩ := hK
    refine r_if_eqb X 43 dX6_addCost_28 (by decide) (fun q2 => ?_) (fun q2 => ?_)
    · exact bad (fun z => q2 z.2.1)
    · refine r_iload_n X dX6_addCost_31 (by rfl) ?_
      refine r_i2l X dX6_addCost_32 (hm) ?_
      refine r_lconst X dX6_addCost_33 1 rfl ?_
      refine r_ldc2 X dX6_addCost_34 w1179 (99999) rfl ?_
      refine r_callS X dX6_addCost_37 kX6_89 (c_mIn g _ hl ad F1 m 1 99999 ⟨by omega, by omega⟩ ⟨by omega, by omega⟩ ⟨by omega, by omega⟩) (by rfl) (by rfl) (by exact Nat.le_of_ble_eq_true rfl) (by decide) (by decide) (by omega) (by omega) (fun v ad' F' hK => ?_)
      obtain ⟨rfl, rfl, rfl⟩ := hK
      refine r_if_neb X 49 dX6_addCost_40 (by decide) (fun q3 => ?_) (fun q3 => ?_)
      · have hra : raC td c d m := ⟨q1, q2, q3⟩
        refine r_aload_n X dX6_addCost_49 (by rfl) ?_
        refine r_get X dX6_addCost_50 fgX6_96_8 (by assumption) (by rfl) ?_
        refine r_bipush X dX6_addCost_53 (by decide) ?_
        refine r_icmp_ne X 64 dX6_addCost_55 (by decide) (by unfold inR; omega) (by unfold inR; omega) (fun b => ?_) (fun b => ?_)
        · have h16 : nc < 16 := by omega
          have h1_14 : F1 50014 = some (cI g 16 (fun j => zI (B 14 j))) := h1.2 14 rfl
          refine r_aload_n X dX6_addCost_64 (by rfl) ?_
          refine r_get X dX6_addCost_65 fgX6_40_8 (by assumption) (by rfl) ?_
          refine r_aload_n X dX6_addCost_68 (by rfl) ?_
          refine r_get X dX6_addCost_69 fgX6_96_8 (by assumption) (by rfl) ?_
          refine r_iload_n X dX6_addCost_72 (by rfl) ?_
          refine r_ist X nc dX6_addCost_73 (by assumption) (by omega) (by rfl) (by omega) (by first | decide | omega) ?_
          obtain ⟨B2, eB2⟩ : ∃ X9 : Nat → Nat → Int, X9 = u2 B 14 (nc) (c) := ⟨_, rfl⟩
          refine (fun (kk9 : ∀ F2 : Pic, MB g ad F2 _ _ _ _ _ _ B2 → FrM F1 F2 → V M g ad F2 _ _ _ _ _) => kk9 _ (by rw [eB2]; exact h1.put 14 rfl (nc) (c)) (FrM.pu ⟨by omega, by omega⟩)) ?_
          intro F2 h2 h2F
          have h2_o := h2.1
          unfold MOL at h2_o
          have h2_15 : F2 50015 = some (cI g 16 (fun j => zI (B2 15 j))) := h2.2 15 rfl
          refine r_aload_n X dX6_addCost_74 (by rfl) ?_
          refine r_get X dX6_addCost_75 fgX6_43_8 (by assumption) (by rfl) ?_
          refine r_aload_n X dX6_addCost_78 (by rfl) ?_
          refine r_get X dX6_addCost_79 fgX6_96_8 (by assumption) (by rfl) ?_
          refine r_iload_n X dX6_addCost_82 (by rfl) ?_
          refine r_ist X nc dX6_addCost_83 (by assumption) (by omega) (by rfl) (by omega) (by first | decide | omega) ?_
          obtain ⟨B3, eB3⟩ : ∃ X9 : Nat → Nat → Int, X9 = u2 B2 15 (nc) (d) := ⟨_, rfl⟩
          refine (fun (kk9 : ∀ F3 : Pic, MB g ad F3 _ _ _ _ _ _ B3 → FrM F2 F3 → V M g ad F3 _ _ _ _ _) => kk9 _ (by rw [eB3]; exact h2.put 15 rfl (nc) (d)) (FrM.pu ⟨by omega, by omega⟩)) ?_
          intro F3 h3 h3F
          have h3_o := h3.1
          unfold MOL at h3_o
          have h3_16 : F3 50016 = some (cI g 16 (fun j => zI (B3 16 j))) := h3.2 16 rfl
          refine r_aload_n X dX6_addCost_84 (by rfl) ?_
          refine r_get X dX6_addCost_85 fgX6_46_8 (by assumption) (by rfl) ?_
          refine r_aload_n X dX6_addCost_88 (by rfl) ?_
          refine r_get X dX6_addCost_89 fgX6_96_8 (by assumption) (by rfl) ?_
          refine r_iload_n X dX6_addCost_92 (by rfl) ?_
          refine r_ist X nc dX6_addCost_93 (by assumption) (by omega) (by rfl) (by omega) (by first | decide | omega) ?_
          obtain ⟨B4, eB4⟩ : ∃ X9 : Nat → Nat → Int, X9 = u2 B3 16 (nc) (m) := ⟨_, rfl⟩
          refine (fun (kk9 : ∀ F4 : Pic, MB g ad F4 _ _ _ _ _ _ B4 → FrM F3 F4 → V M g ad F4 _ _ _ _ _) => kk9 _ (by rw [eB4]; exact h3.put 16 rfl (nc) (m)) (FrM.pu ⟨by omega, by omega⟩)) ?_
          intro F4 h4 h4F
          have h4_o := h4.1
          unfold MOL at h4_o
          refine r_aload_n X dX6_addCost_94 (by rfl) ?_
          refine r_dup X dX6_addCost_95 (by rfl) ?_
          refine r_get X dX6_addCost_96 fgX6_96_8 (by assumption) (by rfl) ?_
          refine r_iconst X dX6_addCost_99 rfl ?_
          refine r_iadd X dX6_addCost_100 ?_
          refine r_put X dX6_addCost_101 fwX6_96_8 (by assumption) (by omega) (by exact Nat.le_of_ble_eq_true rfl) (by rfl) (by rfl) ?_
          dsimp only [List.set]
          have e1 : (nc : Int) + 1 = ((nc + 1 : Nat) : Int) := by omega
          refine (fun (kk9 : ∀ F5 : Pic, MB g ad F5 td nf nk (nc + 1) np 0 B4 → FrM F4 F5 → V M g ad F5 _ _ _ _ _) => kk9 _ (h4.obj (by rw [pu_s, e1]; rfl) (fun x hx => pu_n hx)) (FrM.pu ⟨by omega, by omega⟩)) ?_
          intro F5 h5 h5F
          have h5_o := h5.1
          unfold MOL at h5_o
          refine r_aload_n X dX6_addCost_104 (by rfl) ?_
          refine r_get X dX6_addCost_105 fgX6_96_8 (by assumption) (by rfl) ?_
          refine r_iconst X dX6_addCost_108 rfl ?_
          refine r_isub X dX6_addCost_109 ?_
          refine W_int (b := zI (nc : Int)) (congrArg zI (by omega)) ?_
          exact r_iret X rfl (rfl) dX6_addCost_110 (⟨rfl, h1F.tr (h2F.tr (h3F.tr (h4F.tr h5F))), .inl ⟨⟨hra, h16⟩, rfl, _, _, h5, by rw [eB4, eB3, eB2]; exact hG.cst h16 c d m⟩⟩) (by omega) (by omega)
        · refine r_aload_n X dX6_addCost_58 (by rfl) ?_
          refine r_iconst X dX6_addCost_59 rfl ?_
          refine r_callV X dX6_addCost_60 kX6_111 (c_mFails g _ hl ad F1 _ _ _ _ _ _ _ h1 2) (by assumption) (by rfl) (by rfl) (by rfl) (by rfl) (by exact Nat.le_of_ble_eq_true rfl) (by decide) (by decide) (by omega) (by omega) (fun v ad' F2 hK => ?_)
          obtain ⟨rfl, rfl, hF2, hB2⟩ := hK
          exact r_iret X rfl (rfl) dX6_addCost_63 (⟨rfl, h1F.tr hF2, .inr (.inr ⟨hra, by omega, rfl, _, _, hB2, hG⟩)⟩) (by omega) (by omega)
      · exact bad (fun z => q3 z.2.2)
