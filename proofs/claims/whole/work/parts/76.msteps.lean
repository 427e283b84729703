/-! ===== the model's steps, in the ledger's numbers ===== -/
section AGs
variable {nf nk nc : Nat} {A P : Nat → Nat → Int} {kf : Nat → Nat} {B : Nat → Nat → Int}
theorem AG.dep (h : AG nf nk nc A P kf B) {i : Nat} (hi : i < nf) (m : Int) : AG nf nk nc (u2 A 0 i (A 0 i + m)) P kf (u2 B 2 i (B 2 i + m)) := by
  obtain ⟨h1, h2, h3, h4, h5⟩ := h
  refine ⟨fun x hx => ?_, fun x hx hx6 => ?_, fun x hx => ?_, fun x hx => ?_, fun x hx hx6 k hk6 => ?_⟩
  · rw [u2_row' (a := 3) (by omega), u2_row' (a := 4) (by omega), u2_row' (a := 5) (by omega), u2_row' (a := 6) (by omega), u2_row' (a := 7) (by omega), u2_row' (a := 1) (by omega), u2_row' (i := 0) (a := 2) (by omega), u2_row' (i := 0) (a := 3) (by omega), u2_row' (i := 0) (a := 4) (by omega), u2_row' (i := 0) (a := 5) (by omega)]
    refine ⟨?_, (h1 x hx).2⟩
    by_cases e : x = i
    · subst e; rw [u2_at, u2_at, (h1 x hx).1]
    · rw [u2_col' e, u2_col' e, (h1 x hx).1]
  · rw [u2_row' (a := 6) (by omega), u2_row' (a := 7) (by omega)]; exact h2 x hx hx6
  · rw [u2_row' (a := 9) (by omega), u2_row' (a := 10) (by omega), u2_row' (a := 11) (by omega), u2_row' (a := 12) (by omega), u2_row' (a := 7) (by omega), u2_row' (a := 8) (by omega), u2_row' (i := 0) (a := 9) (by omega)]; exact h3 x hx
  · rw [u2_row' (a := 14) (by omega), u2_row' (a := 15) (by omega), u2_row' (a := 16) (by omega), u2_row' (i := 0) (a := 10) (by omega), u2_row' (i := 0) (a := 11) (by omega), u2_row' (i := 0) (a := 12) (by omega), u2_row' (a := 17) (by omega)]; exact h4 x hx
  · rw [u2_row' (a := 17) (by omega)]; exact h5 x hx hx6 k hk6
theorem u2_o {f : Nat → Nat → Int} {i k a b : Nat} {v : Int} (h : a ≠ i ∨ b ≠ k) : u2 f i k v a b = f a b := by
  unfold u2; rw [if_neg (fun z => h.elim (fun q => q z.1) (fun q => q z.2))]
theorem AG.addF (h : AG nf nk nc A P kf B) (h6 : nf < 6) (m a d c : Int) : AG (nf + 1) nk nc (fNew A nf m a d c) P kf (u2 (u2 (u2 (u2 B 2 nf m) 3 nf a) 4 nf d) 5 nf c) := by
  obtain ⟨h1, h2, h3, h4, h5⟩ := h
  refine ⟨fun x hx => ?_, fun x hx hx6 => ?_, fun x hx => ?_, fun x hx => ?_, fun x hx hx6 k hk6 => ?_⟩
  · by_cases e : x = nf
    · subst e
      have q := h2 x (Nat.le_refl _) h6
      unfold fNew
      simp only [u2]
      simp
      exact q
    · have q := h1 x (by omega)
      rw [fNew_n e, fNew_n e, fNew_n e, fNew_n e, fNew_n e, fNew_n e]
      simp only [u2]
      simp [e]
      exact q
  · simp only [u2]; simp; exact h2 x (by omega) hx6
  · rw [fNew_o (k := 7) (by omega), fNew_o (k := 8) (by omega), fNew_o (k := 9) (by omega)]
    simp only [u2]; simp; exact h3 x hx
  · rw [fNew_o (k := 10) (by omega), fNew_o (k := 11) (by omega), fNew_o (k := 12) (by omega)]
    simp only [u2]; simp; exact h4 x hx
  · simp only [u2]; simp; exact h5 x hx hx6 k hk6
theorem AG.com (h : AG nf nk nc A P kf B) {i : Nat} (hi : i < nf) (c m u : Int) : AG nf (nk + 1) nc (fCom A i nk c m u) P (un kf nk i) (u2 (u2 (u2 (u2 (u2 B 2 i (B 2 i - m)) 9 nk (i : Int)) 10 nk c) 11 nk m) 12 nk u) := by
  obtain ⟨h1, h2, h3, h4, h5⟩ := h
  refine ⟨fun x hx => ?_, fun x hx hx6 => ?_, fun x hx => ?_, fun x hx => ?_, fun x hx hx6 k hk6 => ?_⟩
  · have q := h1 x hx
    rw [fCom_0, fCom_o (a := 1) (by omega) (by omega), fCom_o (a := 2) (by omega) (by omega), fCom_o (a := 3) (by omega) (by omega), fCom_o (a := 4) (by omega) (by omega), fCom_o (a := 5) (by omega) (by omega)]
    simp only [u2]; simp
    refine ⟨?_, q.2⟩
    by_cases e : x = i
    · subst e; rw [if_pos rfl, if_pos rfl, q.1]
    · rw [if_neg e, if_neg e, q.1]
  · simp only [u2]; simp; exact h2 x hx hx6
  · by_cases e : x = nk
    · subst e
      rw [fCom_7, fCom_8, fCom_9]
      simp only [u2, un]; simp
    · have q := h3 x (by omega)
      rw [fCom_k (a := 7) (by omega) e, fCom_k (a := 8) (by omega) e, fCom_k (a := 9) (by omega) e]
      simp only [u2, un]; simp [e]; exact q
  · rw [fCom_o (a := 10) (by omega) (by omega), fCom_o (a := 11) (by omega) (by omega), fCom_o (a := 12) (by omega) (by omega)]
    simp only [u2]; simp; exact h4 x hx
  · simp only [u2]; simp; exact h5 x hx hx6 k hk6
theorem AG.cst (h : AG nf nk nc A P kf B) (hc : nc < 16) (c d m : Int) : AG nf nk (nc + 1) (fCst A nc c d m) (fP0 P nc) kf (u2 (u2 (u2 B 14 nc c) 15 nc d) 16 nc m) := by
  obtain ⟨h1, h2, h3, h4, h5⟩ := h
  refine ⟨fun x hx => ?_, fun x hx hx6 => ?_, fun x hx => ?_, fun x hx => ?_, fun x hx hx6 k hk6 => ?_⟩
  · rw [fCst_o (a := 0) (by omega), fCst_o (a := 1) (by omega), fCst_o (a := 2) (by omega), fCst_o (a := 3) (by omega), fCst_o (a := 4) (by omega), fCst_o (a := 5) (by omega)]
    simp only [u2]; simp; exact h1 x hx
  · simp only [u2]; simp; exact h2 x hx hx6
  · rw [fCst_o (a := 7) (by omega), fCst_o (a := 8) (by omega), fCst_o (a := 9) (by omega)]
    simp only [u2]; simp; exact h3 x hx
  · by_cases e : x = nc
    · subst e
      have q := h5 x (Nat.le_refl _) hc
      rw [fCst_10, fCst_11, fCst_12]
      simp only [u2, fP0]; simp; exact q
    · have q := h4 x (by omega)
      rw [fCst_k e, fCst_k e, fCst_k e]
      simp only [u2, fP0]; simp [e]; exact q
  · simp only [u2]; simp; exact h5 x (by omega) hx6 k hk6
end AGs
set_option maxRecDepth 100000 in
set_option maxHeartbeats 4000000 in
theorem c_mCancel (g : Gx) (l : Launch) (hl : l.stackTraces = false) (ad : Nat → Nat) (F : Pic) ~MGB (t : Nat) (hI : IV td nf nk nc A kf t) (i : Int) (hi : inR i) : Ct g l yX6_cancel cX6_cancel 3 (some .int) 3 0 0 [.ref (ad 50000), .int (zI i)] ad F (fun v ad' F' => ad = ad' ∧ FrM F F' ∧ (((0 ≤ i ∧ i < nk) ∧ v = some (.int (zI (A 8 i.toNat))) ∧ MG g ad F' td nf (nk - 1) nc (fEnd A kf i.toNat) P (eDel kf i.toNat) 0) ∨ (¬ (0 ≤ i ∧ i < nk) ∧ v = some (.int (zI 0)) ∧ MG g ad F' td nf nk nc A P kf 1))) := by
  refine Ct_of hl rfl [some (.ref (ad 50000)), some (.int (zI i)), none] (Nat.le_of_ble_eq_true rfl) (fun _ h => h) ?_
  intro M hL hN X
  subst hL
  have hI0 := hI.1
  have hB_o := hB.1
  unfold MOL at hB_o
  refine r_aload_n X dX6_cancel_0 (by rfl) ?_
  refine r_iload_n X dX6_cancel_1 (by rfl) ?_
  refine r_callV X dX6_cancel_2 kX6_124 (c_mIsCom g _ hl ad F ~MBA i hi (by omega)) (by assumption) (by rfl) (by rfl) (by rfl) (by rfl) (by exact Nat.le_of_ble_eq_true rfl) (by decide) (by decide) (by omega) (by omega) (fun v ad' F1 hK => ?_)
  obtain ⟨rfl, rfl, hF1, th', hB1, z1, z2⟩ := hK
  have hB1_o := hB1.1
  unfold MOL at hB1_o
  refine r_if_neb X 10 dX6_cancel_5 (by decide) (fun a => ?_) (fun a => ?_)
  · rw [z1 a] at hB1
    obtain ⟨j, rfl⟩ := Int.eq_ofNat_of_zero_le a.1
    have hj : j < nk := by omega
    have e11 : B 11 j = A 8 j := (hG.2.2.1 j hj).2.2.1
    have hB1_11 : F1 50011 = some (cI g 6 (fun j => zI (B 11 j))) := hB1.2 11 rfl
    refine r_aload_n X dX6_cancel_10 (by rfl) ?_
    refine r_get X dX6_cancel_11 fgX6_34_8 (by assumption) (by rfl) ?_
    refine r_iload_n X dX6_cancel_14 (by rfl) ?_
    refine r_iald X j dX6_cancel_15 (by assumption) (by rfl) (by omega) (by first | decide | omega) ?_
    refine r_istore_n X dX6_cancel_16 (by rw [hN]; decide) (by rfl) ?_
    dsimp only [List.set]
    refine r_aload_n X dX6_cancel_17 (by rfl) ?_
    refine r_iload_n X dX6_cancel_18 (by rfl) ?_
    rw [e11]
    refine r_callV X dX6_cancel_19 kX6_127 (c_mEnds g _ hl ad F1 _ _ _ _ _ _ _ _ _ _ hB1 hG j hj (by omega) (hI.2.2.1 j hj).1 (by omega)) (by assumption) (by rfl) (by rfl) (by rfl) (by rfl) (by exact Nat.le_of_ble_eq_true rfl) (by decide) (by decide) (by omega) (by omega) (fun v ad' F2 hK => ?_)
    obtain ⟨rfl, rfl, hF2, B', h2, h2G⟩ := hK
    refine r_iload_n X dX6_cancel_22 (by rfl) ?_
    exact r_iret X rfl (rfl) dX6_cancel_23 (⟨rfl, hF1.tr hF2, .inl ⟨a, rfl, _, _, h2, h2G⟩⟩) (by omega) (by omega)
  · rw [z2 a] at hB1
    refine r_iconst X dX6_cancel_8 rfl ?_
    exact r_iret X rfl (rfl) dX6_cancel_9 (⟨rfl, hF1, .inr ⟨a, rfl, _, _, hB1, hG⟩⟩) (by omega) (by omega)
set_option maxRecDepth 100000 in
set_option maxHeartbeats 4000000 in
theorem c_mAdvance (g : Gx) (l : Launch) (hl : l.stackTraces = false) (ad : Nat → Nat) (F : Pic) ~MGB (t : Nat) (hI : IV td nf nk nc A kf t) (d : Int) (hd : inR d) : Ct g l yX6_advance cX6_advance 4 (some .int) 2 0 0 [.ref (ad 50000), .int (zI d)] ad F (fun v ad' F' => ad = ad' ∧ FrM F F' ∧ ((((1 ≤ d ∧ d ≤ 999) ∧ td + d ≤ 999) ∧ v = some (.int (zI ((nk : Int) - (endS (qLap (td + d)) nk (nk, A, kf)).1))) ∧ MG g ad F' (td + d) nf (endS (qLap (td + d)) nk (nk, A, kf)).1 nc (endS (qLap (td + d)) nk (nk, A, kf)).2.1 P (endS (qLap (td + d)) nk (nk, A, kf)).2.2 0) ∨ (¬ ((1 ≤ d ∧ d ≤ 999) ∧ td + d ≤ 999) ∧ v = some (.int (zI 0)) ∧ MG g ad F' td nf nk nc A P kf 1))) := by
  refine Ct_of hl rfl [some (.ref (ad 50000)), some (.int (zI d)), none, none] (Nat.le_of_ble_eq_true rfl) (fun _ h => h) ?_
  intro M hL hN X
  subst hL
  have hI0 := hI.1
  have hB_o := hB.1
  unfold MOL at hB_o
  refine r_aload_n X dX6_advance_0 (by rfl) ?_
  refine r_iconst X dX6_advance_1 rfl ?_
  refine r_put X dX6_advance_2 fwX6_82_8 (by assumption) (by omega) (by exact Nat.le_of_ble_eq_true rfl) (by rfl) (by rfl) ?_
  dsimp only [List.set]
  refine (fun (k : ∀ F1 : Pic, MB g ad F1 td nf nk nc np 0 B → FrM F F1 → V M g ad F1 _ _ _ _ _) => k _ (hB.obj (by rw [pu_s]; rfl) (fun x hx => pu_n hx)) (FrM.pu ⟨by omega, by omega⟩)) ?_
  intro F1 h1 h1F
  have h1_o := h1.1
  unfold MOL at h1_o
  have bad : ¬ ((1 ≤ d ∧ d ≤ 999) ∧ td + d ≤ 999) → V M g ad F1 0 0 29 [some (.ref (ad 50000)), some (.int (zI d)), none, none] [] := fun h => by
    refine r_aload_n X dX6_advance_29 (by rfl) ?_
    refine r_iconst X dX6_advance_30 rfl ?_
    refine r_callV X dX6_advance_31 kX6_111 (c_mFails g _ hl ad F1 _ _ _ _ _ _ _ h1 1) (by assumption) (by rfl) (by rfl) (by rfl) (by rfl) (by exact Nat.le_of_ble_eq_true rfl) (by decide) (by decide) (by omega) (by omega) (fun v ad' F2 hK => ?_)
    obtain ⟨rfl, rfl, hF2, hB2⟩ := hK
    exact r_iret X rfl (rfl) dX6_advance_34 (⟨rfl, h1F.tr hF2, .inr ⟨h, rfl, _, _, hB2, hG⟩⟩) (by omega) (by omega)
  have d9 := hd
  unfold inR at d9
  refine r_iload_n X dX6_advance_5 (by rfl) ?_
  refine r_i2l X dX6_advance_6 (hd) ?_
  refine r_lconst X dX6_advance_7 1 rfl ?_
  refine r_ldc2 X dX6_advance_8 w1184 (999) rfl ?_
  refine r_callS X dX6_advance_11 kX6_89 (c_mIn g _ hl ad F1 d 1 999 ⟨by omega, by omega⟩ ⟨by omega, by omega⟩ ⟨by omega, by omega⟩) (by rfl) (by rfl) (by exact Nat.le_of_ble_eq_true rfl) (by decide) (by decide) (by omega) (by omega) (fun v ad' F' hK => ?_)
  obtain ⟨rfl, rfl, rfl⟩ := hK
  refine r_if_eqb X 29 dX6_advance_14 (by decide) (fun q1 => ?_) (fun q1 => ?_)
  · exact bad (fun z => q1 z.1)
  · refine r_aload_n X dX6_advance_17 (by rfl) ?_
    refine r_get X dX6_advance_18 fgX6_121_8 (by assumption) (by rfl) ?_
    refine r_iload_n X dX6_advance_21 (by rfl) ?_
    refine r_iadd X dX6_advance_22 ?_
    refine r_sipush X dX6_advance_23 (by decide) ?_
    refine r_icmp_le X 35 dX6_advance_26 (by decide) (by unfold inR; omega) (by unfold inR; omega) (fun q2 => ?_) (fun q2 => ?_)
    · have loop : ∀ (k : Nat) (F3 : Pic) (nk1 : Nat) (A1 : Nat → Nat → Int) (kf1 : Nat → Nat) (B1 : Nat → Nat → Int) (w z : Int), k ≤ nk1 → nk1 ≤ nk → w = (nk : Int) - nk1 → z = (k : Int) - 1 → FrM F F3 → MB g ad F3 (td + d) nf nk1 nc np 0 B1 → AG nf nk1 nc A1 P kf1 B1 → IV (td + d) nf nk1 nc A1 kf1 t → endS (qLap (td + d)) k (nk1, A1, kf1) = endS (qLap (td + d)) nk (nk, A, kf) →
          V M g ad F3 0 0 54 [some (.ref (ad 50000)), some (.int (zI d)), some (.int (zI w)), some (.int (zI z))] [] := by
        intro k
        induction k with
        | zero =>
          intro F3 nk1 A1 kf1 B1 w z hk1 hk2 hw hz hF h3 h3G hI1 he
          refine r_iload_n X dX6_advance_54 (by rfl) ?_
          refine r_if_lt X 85 dX6_advance_55 (by decide) (by unfold inR; omega) (fun a => ?_) (fun a => ?_)
          · refine r_iload_n X dX6_advance_85 (by rfl) ?_
            refine W_int (b := zI ((nk : Int) - nk1)) (by rw [hw]) ?_
            exact r_iret X rfl (rfl) dX6_advance_86 (⟨rfl, hF, .inl ⟨⟨q1, q2⟩, by rw [← he]; rfl, _, _, by rw [← he]; exact h3, by rw [← he]; exact h3G⟩⟩) (by omega) (by omega)
          · omega
        | succ k ih =>
          intro F3 nk1 A1 kf1 B1 w z hk1 hk2 hw hz hF h3 h3G hI1 he
          obtain rfl : z = (k : Int) := by omega
          have h3_o := h3.1
          unfold MOL at h3_o
          have h3_12 : F3 50012 = some (cI g 6 (fun j => zI (B1 12 j))) := h3.2 12 rfl
          have e12 : B1 12 k = A1 9 k := (h3G.2.2.1 k (by omega)).2.2.2
          obtain ⟨hkk, -, -, h9a, h9b⟩ := hI1.2.2.1 k (by omega)
          refine r_iload_n X dX6_advance_54 (by rfl) ?_
          refine r_if_lt X 85 dX6_advance_55 (by decide) (by unfold inR; omega) (fun a => ?_) (fun a => ?_)
          · omega
          · refine r_aload_n X dX6_advance_58 (by rfl) ?_
            refine r_get X dX6_advance_59 fgX6_37_8 (by assumption) (by rfl) ?_
            refine r_iload_n X dX6_advance_62 (by rfl) ?_
            refine r_iald X k dX6_advance_63 (by assumption) (by rfl) (by omega) (by first | decide | omega) ?_
            refine r_aload_n X dX6_advance_64 (by rfl) ?_
            refine r_get X dX6_advance_65 fgX6_121_8 (by assumption) (by rfl) ?_
            rw [e12]
            refine r_icmp_ge X 79 dX6_advance_68 (by decide) (by unfold inR; omega) (by unfold inR; omega) (fun b => ?_) (fun b => ?_)
            · refine r_iinc X dX6_advance_79 (by rfl) (by rw [hN]; decide) (by rfl) ?_
              dsimp only [List.set]
              refine r_goto X dX6_advance_82 54 (by decide) ?_
              exact ih F3 nk1 A1 kf1 B1 w _ (by omega) hk2 hw (by omega) hF h3 h3G hI1 (by rw [← he, endS_n]; unfold qLap; simp; omega)
            · refine r_aload_n X dX6_advance_71 (by rfl) ?_
              refine r_iload_n X dX6_advance_72 (by rfl) ?_
              refine r_callV X dX6_advance_73 kX6_127 (c_mEnds g _ hl ad F3 _ _ _ _ _ _ _ _ _ _ h3 h3G k (by omega) (by omega) hkk (by omega)) (by assumption) (by rfl) (by rfl) (by rfl) (by rfl) (by exact Nat.le_of_ble_eq_true rfl) (by decide) (by decide) (by omega) (by omega) (fun v ad' F4 hK => ?_)
              obtain ⟨rfl, rfl, hF4, B', h4, h4G⟩ := hK
              refine r_iinc X dX6_advance_76 (by rfl) (by rw [hN]; decide) (by rfl) ?_
              dsimp only [List.set]
              refine r_iinc X dX6_advance_79 (by rfl) (by rw [hN]; decide) (by rfl) ?_
              dsimp only [List.set]
              refine r_goto X dX6_advance_82 54 (by decide) ?_
              exact ih F4 (nk1 - 1) _ _ B' _ _ (by omega) (by omega) (by omega) (by omega) (hF.tr hF4) h4 h4G (hI1.ends (by omega)) (by rw [← he, endS_y]; unfold qLap; simp; omega)
      refine r_aload_n X dX6_advance_35 (by rfl) ?_
      refine r_dup X dX6_advance_36 (by rfl) ?_
      refine r_get X dX6_advance_37 fgX6_121_8 (by assumption) (by rfl) ?_
      refine r_iload_n X dX6_advance_40 (by rfl) ?_
      refine r_iadd X dX6_advance_41 ?_
      refine r_put X dX6_advance_42 fwX6_121_8 (by assumption) (by omega) (by exact Nat.le_of_ble_eq_true rfl) (by rfl) (by rfl) ?_
      dsimp only [List.set]
      refine (fun (k : ∀ F2 : Pic, MB g ad F2 (td + d) nf nk nc np 0 B → FrM F1 F2 → V M g ad F2 _ _ _ _ _) => k _ (h1.obj (by rw [pu_s]; rfl) (fun x hx => pu_n hx)) (FrM.pu ⟨by omega, by omega⟩)) ?_
      intro F2 h2 h2F
      have h2_o := h2.1
      unfold MOL at h2_o
      refine r_iconst X dX6_advance_45 rfl ?_
      refine r_istore_n X dX6_advance_46 (by rw [hN]; decide) (by rfl) ?_
      dsimp only [List.set]
      refine r_aload_n X dX6_advance_47 (by rfl) ?_
      refine r_get X dX6_advance_48 fgX6_93_8 (by assumption) (by rfl) ?_
      refine r_iconst X dX6_advance_51 rfl ?_
      refine r_isub X dX6_advance_52 ?_
      refine r_istore_n X dX6_advance_53 (by rw [hN]; decide) (by rfl) ?_
      dsimp only [List.set]
      exact loop nk F2 nk A kf B 0 _ (by omega) (by omega) (by omega) rfl (h1F.tr h2F) h2 hG (hI.today ⟨by omega, by omega⟩) rfl
    · exact bad (fun z => by omega)
