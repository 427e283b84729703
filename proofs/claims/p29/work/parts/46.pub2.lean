/-! ===== commit, cancel, advance, addCost ===== -/
def fCom (A : Nat → Nat → Int) (i nk : Nat) (c m u : Int) : Nat → Nat → Int := u2 (u2 (u2 (u2 A 0 i (A 0 i - m)) 7 nk c) 8 nk m) 9 nk u
theorem fCom_o {A : Nat → Nat → Int} {i nk a : Nat} {c m u : Int} (h : ¬ (7 ≤ a ∧ a ≤ 9)) (h0 : a ≠ 0) : fCom A i nk c m u a = A a := by
  unfold fCom; rw [u2_row' (by omega), u2_row' (by omega), u2_row' (by omega), u2_row' h0]
theorem fCom_0 {A : Nat → Nat → Int} {i nk x : Nat} {c m u : Int} : fCom A i nk c m u 0 x = if x = i then A 0 i - m else A 0 x := by
  unfold fCom; rw [u2_row' (by omega), u2_row' (by omega), u2_row' (by omega)]; unfold u2
  by_cases h : x = i
  · rw [if_pos ⟨rfl, h⟩, if_pos h]
  · rw [if_neg (fun z => h z.2), if_neg h]
theorem fCom_k {A : Nat → Nat → Int} {i nk a x : Nat} {c m u : Int} (h : 7 ≤ a ∧ a ≤ 9) (hx : x ≠ nk) : fCom A i nk c m u a x = A a x := by
  unfold fCom; rw [u2_col' hx, u2_col' hx, u2_col' hx, u2_row' (by omega)]
theorem fCom_7 {A : Nat → Nat → Int} {i nk : Nat} {c m u : Int} : fCom A i nk c m u 7 nk = c := by
  unfold fCom; rw [u2_row' (by omega), u2_row' (by omega), u2_at]
theorem fCom_8 {A : Nat → Nat → Int} {i nk : Nat} {c m u : Int} : fCom A i nk c m u 8 nk = m := by
  unfold fCom; rw [u2_row' (by omega), u2_at]
theorem fCom_9 {A : Nat → Nat → Int} {i nk : Nat} {c m u : Int} : fCom A i nk c m u 9 nk = u := by
  unfold fCom; rw [u2_at]
def raK (td : Int) (c m u : Int) : Prop := (0 ≤ c ∧ c ≤ 7) ∧ (1 ≤ m ∧ m ≤ 99999) ∧ (td ≤ u ∧ u ≤ 999)
def stK (A : Nat → Nat → Int) (nk : Nat) (i : Nat) (c m : Int) : Prop := hasZ (A 1 i) c ∧ m ≤ A 0 i ∧ nk < 6
set_option maxRecDepth 100000 in
set_option maxHeartbeats 4000000 in
theorem c_commit (g : Gx) (l : Launch) (hl : l.stackTraces = false) (ad : Nat → Nat) (F : Pic) (td : Int) (nf nk nc : Nat) (A P : Nat → Nat → Int) (kf : Nat → Nat) (sn : Nat) (hX : RXs g ad F td nf nk nc A P kf sn) (t : Nat) (hI : IV td nf nk nc A kf t) (hsn6 : sn < 600) (i c m u : Int) (hi : inR i) (hc : inR c) (hm : inR m) (hu : inR u) : CtX g l yX5_commit cX5_commit 6 (some .int) 8 20 400 [.ref (ad 100), .int (zI i), .int (zI c), .int (zI m), .int (zI u)] ad F (fun v ad' F' => ((0 ≤ i ∧ i < nf) ∧ raK td c m u ∧ stK A nk i.toNat c m) ∧ v = some (.int (zI ((nk : Int) + 1))) ∧ AdX ad ad' ∧ FrX F F' ∧ RXs g ad' F' td nf (nk + 1) nc (fCom A i.toNat nk c m u) P (un kf nk i.toNat) (sn + 1)) (fun E ad' F' => ((E = xIO ∧ ¬ (0 ≤ i ∧ i < nf)) ∨ (E = xIA ∧ (0 ≤ i ∧ i < nf) ∧ ¬ raK td c m u) ∨ (E = xIS ∧ (0 ≤ i ∧ i < nf) ∧ raK td c m u ∧ ¬ stK A nk i.toNat c m)) ∧ ad = ad' ∧ F = F') := by
  refine CtX_of hl rfl [some (.ref (ad 100)), some (.int (zI i)), some (.int (zI c)), some (.int (zI m)), some (.int (zI u)), none] (Nat.le_of_ble_eq_true rfl) (fun _ h => h) ?_
  intro M hL hN X
  subst hL
  refine r_aload_n X dX5_commit_0 (by rfl) ?_
  refine r_iload_n X dX5_commit_1 (by rfl) ?_
  refine r_callVX X dX5_commit_2 kX5_58 (c_fundAt g _ hl ad F _ _ _ _ _ _ _ _ hX i hi) (hX.choose_spec.1.1) (by rfl) (by rfl) (by rfl) (by rfl) (by exact Nat.le_of_ble_eq_true rfl) (by decide) (by decide) (by omega) (by omega) (fun E ad' F' h => ⟨.inl ⟨h.1, h.2.1⟩, h.2.2⟩) (fun v ad' F' hK => ?_)
  obtain ⟨q1, rfl, rfl, rfl⟩ := hK
  obtain ⟨ser, ⟨hO, h9, a99⟩, ⟨⟨cap1, hR1, hLF1⟩, ⟨cap2, hR2, hLF2⟩, ⟨cap3, hR3, hLF3⟩, kp, ep, cap4, hR4, hLF4⟩, hP, ⟨hnf, hFu, hFuN⟩, ⟨hnc, hCo, hCoN⟩, ⟨⟨hnk, hsn⟩, hKm, hKi, hKN⟩⟩ := id hX
  obtain ⟨mo1, ho1⟩ := hR1.obj; obtain ⟨mo2, ho2⟩ := hR2.obj; obtain ⟨mo3, ho3⟩ := hR3.obj; obtain ⟨mo4, ho4⟩ := hR4.obj
  have hI9 := id hI
  obtain ⟨⟨td0, td1, -⟩, hIf, hIk, -⟩ := hI9
  obtain ⟨j, rfl⟩ := Int.eq_ofNat_of_zero_le q1.1
  have hj : j < nf := by omega
  have hb0 := hI.b0 hj
  obtain ⟨-, hal, -⟩ := hIf j hj
  have hf0 : F (300 + j) = some (.inr (5, [.int (zI (A 0 j)), .int (zI (j : Int)), .int (zI (A 1 j)), .int (zI (A 2 j)), .int (zI (A 3 j)), .int (zI (A 4 j)), .int (zI (A 5 j))])) := hFu j hj
  refine r_astore X dX5_commit_5 (by rw [hN]; decide) (by rfl) ?_
  dsimp only [List.set]
  refine r_iload_n X dX5_commit_7 (by rfl) ?_
  refine r_iconst X dX5_commit_8 rfl ?_
  refine r_bipush X dX5_commit_9 (by decide) ?_
  refine r_callSX X dX5_commit_11 kX5_37 (c_reqR g _ hl ad F c 0 7 hc (by exact ⟨by omega, by omega⟩) (by exact ⟨by omega, by omega⟩)) (by rfl) (by rfl) (by exact Nat.le_of_ble_eq_true rfl) (by decide) (by decide) (by omega) (by omega) (fun E ad' F' h => ⟨.inr (.inl ⟨h.1, q1, fun z => h.2.1 z.1⟩), h.2.2⟩) (fun v ad' F' hK => ?_)
  obtain ⟨q2, rfl, rfl, rfl⟩ := hK
  refine r_iload_n X dX5_commit_14 (by rfl) ?_
  refine r_iconst X dX5_commit_15 rfl ?_
  refine r_ldc X dX5_commit_16 w122 (99999) rfl ?_
  refine r_callSX X dX5_commit_18 kX5_37 (c_reqR g _ hl ad F m 1 99999 hm (by exact ⟨by omega, by omega⟩) (by exact ⟨by omega, by omega⟩)) (by rfl) (by rfl) (by exact Nat.le_of_ble_eq_true rfl) (by decide) (by decide) (by omega) (by omega) (fun E ad' F' h => ⟨.inr (.inl ⟨h.1, q1, fun z => h.2.1 z.2.1⟩), h.2.2⟩) (fun v ad' F' hK => ?_)
  obtain ⟨q3, rfl, rfl, rfl⟩ := hK
  refine r_iload X dX5_commit_21 (by rfl) ?_
  refine r_aload_n X dX5_commit_23 (by rfl) ?_
  refine r_get X dX5_commit_24 fgX5_32_7 (by assumption) (by rfl) ?_
  refine r_sipush X dX5_commit_27 (by decide) ?_
  refine r_callSX X dX5_commit_30 kX5_37 (c_reqR g _ hl ad F u td 999 hu (by exact ⟨by omega, by omega⟩) (by exact ⟨by omega, by omega⟩)) (by rfl) (by rfl) (by exact Nat.le_of_ble_eq_true rfl) (by decide) (by decide) (by omega) (by omega) (fun E ad' F' h => ⟨.inr (.inl ⟨h.1, q1, fun z => h.2.1 z.2.2⟩), h.2.2⟩) (fun v ad' F' hK => ?_)
  obtain ⟨q4, rfl, rfl, rfl⟩ := hK
  refine r_aload X dX5_commit_33 (by rfl) ?_
  refine r_iload_n X dX5_commit_35 (by rfl) ?_
  refine r_callV X dX5_commit_36 kX5_65 (c_allows g _ hl ad F (300 + j) (by omega) _ _ _ _ _ _ _ hf0 c (by omega) (by omega)) (hf0) (by rfl) (by rfl) (by rfl) (by rfl) (by exact Nat.le_of_ble_eq_true rfl) (by decide) (by decide) (by omega) (by omega) (fun v ad' F' hK => ?_)
  obtain ⟨rfl, rfl, rfl⟩ := hK
  refine r_callSX X dX5_commit_39 kX5_45 (c_reqS g _ hl ad F (hasZ (A 1 j) c)) (by rfl) (by rfl) (by exact Nat.le_of_ble_eq_true rfl) (by decide) (by decide) (by omega) (by omega) (fun E ad' F' h => ⟨.inr (.inr ⟨h.1, q1, ⟨q2, q3, q4⟩, fun z => h.2.1 z.1⟩), h.2.2⟩) (fun v ad' F' hK => ?_)
  obtain ⟨q5, rfl, rfl, rfl⟩ := hK
  refine r_aload X dX5_commit_42 (by rfl) ?_
  refine r_get X dX5_commit_44 fgX5_62_5 (hf0) (by rfl) ?_
  refine r_iload_n X dX5_commit_47 (by rfl) ?_
  have rest2 : m ≤ A 0 j → ∀ kc ks, kc ≤ 10 → ks ≤ 60 → V M g ad F kc ks 76 [some (.ref (ad 100)), some (.int (zI (j : Int))), some (.int (zI c)), some (.int (zI m)), some (.int (zI u)), some (.ref (ad (300 + j))), none] [.int (bP (nk < 6))] := fun q6 kc ks hkc hks => by
    refine r_callSX X dX5_commit_76 kX5_45 (c_reqS g _ hl ad F (nk < 6)) (by rfl) (by rfl) (by exact Nat.le_of_ble_eq_true rfl) (by decide) (by decide) (by omega) (by omega) (fun E ad' F' h => ⟨.inr (.inr ⟨h.1, q1, ⟨q2, q3, q4⟩, fun z => h.2.1 z.2.2⟩), h.2.2⟩) (fun v ad' F' hK => ?_)
    obtain ⟨q7, rfl, rfl, rfl⟩ := hK
    refine r_aload X dX5_commit_79 (by rfl) ?_
    refine r_dup X dX5_commit_81 (by rfl) ?_
    refine r_get X dX5_commit_82 fgX5_62_5 (hf0) (by rfl) ?_
    refine r_iload_n X dX5_commit_85 (by rfl) ?_
    refine r_isub X dX5_commit_86 ?_
    refine r_put X dX5_commit_87 fwX5_62_5 (hf0) (by omega) (by exact Nat.le_of_ble_eq_true rfl) (by rfl) (by rfl) ?_
    dsimp only [List.set]
    refine (fun (k : ∀ F1 : Pic, (F1 (300 + j) = some (.inr (5, [.int (zI (A 0 j - m)), .int (zI (j : Int)), .int (zI (A 1 j)), .int (zI (A 2 j)), .int (zI (A 3 j)), .int (zI (A 4 j)), .int (zI (A 5 j))]))) → (∀ x, x ≠ 300 + j → F1 x = F x) → V M g ad F1 _ _ _ _ _) => k _ (pu_s) (fun x hx => pu_n hx)) ?_
    intro F1 h1 s1
    have h100 : F1 100 = _ := (s1 100 (by omega)).trans hO
    refine r_aload_n X dX5_commit_90 (by rfl) ?_
    refine r_get X dX5_commit_91 fgX5_16_7 (by assumption) (by rfl) ?_
    refine r_new X (10000 + sn) dX5_commit_94 (ci := 3) (fs := [.int (zI 0), .null, .int (zI 0), .int (zI 0)]) rfl in_X0 tyX0_ok w361 w693 w20 (by decide +kernel) (by omega) ((s1 _ (by omega)).trans (hKN sn (by omega) (by omega))) (by omega) (by omega) (fun ad1 hA => ?_)
    rw [← hA 100 (by omega), ← hA 102 (by omega), ← hA (300 + j) (by omega)]
    refine r_dup X dX5_commit_97 (by rfl) ?_
    refine r_aload X dX5_commit_98 (by rfl) ?_
    refine r_iload_n X dX5_commit_100 (by rfl) ?_
    refine r_iload_n X dX5_commit_101 (by rfl) ?_
    refine r_iload X dX5_commit_102 (by rfl) ?_
    refine r_callI X dX5_commit_104 kX5_71 (c_comInit g _ hl ad1 _ (10000 + sn) (by omega) _ _ _ _ pu_s (300 + j) ⟨_, (pu_n (by omega)).trans h1⟩ (by omega) m c u) (by rfl) (by rfl) (by exact Nat.le_of_ble_eq_true rfl) (by decide) (by decide) (by omega) (by omega) (fun v ad' F2 hK => ?_)
    obtain ⟨rfl, rfl, hN2, fr2⟩ := hK
    have fr : ∀ x, x ≠ 10000 + sn → x ≠ 300 + j → F2 x = F x := fun x z1 z2 => (fr2 x z1).trans ((pu_n z1).trans (s1 x z2))
    have hl2 := lra_c (rl := 102) hR2.2.2
    have ho2' : F2 102 = _ := (fr 102 (by omega) (by omega)).trans ho2
    have hKs : ∀ i, i < nk → F2 (10000 + ser i) = some (kmC ad A kf i) := fun i hi => by have := (hKm i hi).2; rw [fr _ (by omega) (by omega)]; exact (hKm i hi).1
    refine r_callV X dX5_commit_107 kX5_54 (c_add g _ hl ad1 F2 102 nk cap2 (fun i => ad1 (10000 + ser i)) (by omega) (hR2.fr2 (fr _ (by omega) (by omega)) (fr _ (by omega) (by omega)) (hA _ (by omega)) (fun i hi => hA _ (by have := (hKm i hi).2; omega))) (fun c z1 z2 => (fr _ (by omega) (by omega)).trans (hLF2 c z1 z2)) ((fr 99 (by omega) (by omega)).trans h9) ((hA 99 (by omega)).trans a99) (fun i hi => ⟨_, 3, _, rfl, hKs i hi, ⟨by omega, by omega⟩, .inl rfl⟩) (by omega) (10000 + sn) 3 _ hN2 (by omega) (by omega) (.inl rfl)) (ho2') (by rfl) (by rfl) (by rfl) (by rfl) (by exact Nat.le_of_ble_eq_true rfl) (by decide) (by decide) (by omega) (by omega) (fun v ad3 F3 hK => ?_)
    obtain ⟨rfl, hA3, hF3, cap', hR2', hLF2'⟩ := hK
    have ar : ∀ x, ¬ (2000 < x ∧ x < 2100) → x ≠ 10000 + sn → ad3 x = ad x := fun x z1 z2 => (hA3 x z1).trans (hA x z2)
    have fr3 : ∀ x, x ≠ 102 → ¬ (2000 < x ∧ x < 2100) → x ≠ 10000 + sn → x ≠ 300 + j → F3 x = F x := fun x z1 z2 z3 z4 => (hF3 x z1 z2).trans (fr x z3 z4)
    have ho2'' := hR2'.obj
    obtain ⟨mo9, ho9⟩ := ho2''
    have hO3 : F3 100 = some (.inr (7, [.ref (ad3 101), .ref (ad3 102), .ref (ad3 103), .ref (ad3 104), .ref (ad3 200), .int (zI td)])) := by
      rw [fr3 _ (by omega) (by omega) (by omega) (by omega), hO, ar 101 (by omega) (by omega), ar 102 (by omega) (by omega), ar 103 (by omega) (by omega), ar 104 (by omega) (by omega), ar 200 (by omega) (by omega)]
    rw [← hA3 100 (by omega)]
    refine r_pop X dX5_commit_110 (by rfl) ?_
    refine r_aload_n X dX5_commit_111 (by rfl) ?_
    refine r_get X dX5_commit_112 fgX5_16_7 (by assumption) (by rfl) ?_
    refine r_callV X dX5_commit_115 kX5_41 (c_size g _ hl ad3 F3 102 (nk + 1) cap' _ (by omega) hR2') (by assumption) (by rfl) (by rfl) (by rfl) (by rfl) (by exact Nat.le_of_ble_eq_true rfl) (by decide) (by decide) (by omega) (by omega) (fun v ad' F' hK => ?_)
    obtain ⟨rfl, rfl, rfl⟩ := hK
    have goal : RX g ad3 F3 td nf (nk + 1) nc (fCom A j nk c m u) P (un kf nk j) (un ser nk sn) (sn + 1) := by
      refine ⟨⟨hO3, (fr3 _ (by omega) (by omega) (by omega) (by omega)).trans h9, (ar 99 (by omega) (by omega)).trans a99⟩, ⟨CL.fr ⟨cap1, hR1, hLF1⟩ (by omega) (fun x hx => fr3 x ?_ ?_ ?_ ?_) (fun x hx => ar x ?_ ?_) (fun i hi => ar _ (by omega) (by omega)), ⟨cap', hR2'.fr2 rfl rfl rfl (fun k hk => ?_), hLF2'⟩, CL.fr ⟨cap3, hR3, hLF3⟩ (by omega) (fun x hx => fr3 x ?_ ?_ ?_ ?_) (fun x hx => ar x ?_ ?_) (fun i hi => ar _ (by omega) (by omega)), kp, ep, CL.fr ⟨cap4, hR4, hLF4⟩ (by omega) (fun x hx => fr3 x ?_ ?_ ?_ ?_) (fun x hx => ar x ?_ ?_) (fun _ _ => rfl)⟩,
        hP.fr (fun x z1 z2 => fr3 x (by omega) (by omega) (by omega) (by omega)) (fun x z1 z2 => ar x (by omega) (by omega)), ?_, ?_, ?_⟩
      all_goals try (unfold inA at hx; omega)
      · unfold eIns un; dsimp only
        by_cases e : k < nk
        · rw [if_pos e, if_neg (by omega)]; exact hA3 _ (by omega)
        · rw [if_neg e, if_pos (by omega), if_pos (by omega)]; exact hA3 _ (by omega)
      · refine CFu.put (A := A) (i := j) ⟨hnf, hFu, hFuN⟩ hj ?_ (fun x z1 z2 z3 => fr3 x (by omega) (by omega) (by omega) z3) (fun c hc k hk hne => ?_)
        · rw [hF3 _ (by omega) (by omega), fr2 _ (by omega), pu_n (by omega), h1]; unfold fuC
          rw [fCom_0, if_pos rfl, fCom_o (a := 1) (by omega) (by omega), fCom_o (a := 2) (by omega) (by omega), fCom_o (a := 3) (by omega) (by omega), fCom_o (a := 4) (by omega) (by omega), fCom_o (a := 5) (by omega) (by omega)]
        · by_cases e : c = 0
          · rw [e, fCom_0, if_neg hne]
          · rw [fCom_o (by omega) e]
      · exact CCo.toA (CCo.fr ⟨hnc, hCo, hCoN⟩ (fun x z1 z2 => fr3 x (by omega) (by omega) (by omega) (by omega)) (fun i hi => ar _ (by omega) (by omega))) (fun c z1 z2 k hk => by rw [fCom_o (by omega) (by omega)])
      · have hkf : ∀ k, k < nk → kf k < nf := fun k hk => (hIk k hk).1
        refine ⟨⟨by omega, by omega⟩, fun k hk => ?_, fun k k2 hk hk2 hs => ?_, fun s z1 z2 => (fr3 _ (by omega) (by omega) (by omega) (by omega)).trans (hKN s (by omega) z2)⟩
        · by_cases e : k = nk
          · subst e
            refine ⟨?_, by unfold un; rw [if_pos rfl]; omega⟩
            rw [show un ser k sn k = sn from if_pos rfl, hF3 _ (by omega) (by omega), hN2]; unfold kmC
            rw [fCom_7, fCom_8, fCom_9, show un kf k j k = j from if_pos rfl, hA3 _ (by omega)]
          · obtain ⟨z1, z2⟩ := hKm k (by omega)
            rw [show un ser nk sn k = ser k from if_neg e]
            refine ⟨?_, by omega⟩
            rw [fr3 _ (by omega) (by omega) (by omega) (by omega), z1]; unfold kmC
            have := hkf k (by omega)
            rw [fCom_k (by omega) e, fCom_k (by omega) e, fCom_k (by omega) e, show un kf nk j k = kf k from if_neg e, ar _ (by omega) (by omega)]
        · unfold un at hs
          by_cases e : k = nk <;> by_cases e2 : k2 = nk
          · omega
          · rw [if_pos e, if_neg e2] at hs; have := (hKm k2 (by omega)).2; omega
          · rw [if_neg e, if_pos e2] at hs; have := (hKm k (by omega)).2; omega
          · rw [if_neg e, if_neg e2] at hs; exact hKi _ _ (by omega) (by omega) hs
    exact r_iret X rfl (rfl) dX5_commit_118 (⟨⟨q1, ⟨q2, q3, q4⟩, q5, q6, q7⟩, by rw [show ((nk + 1 : Nat) : Int) = (nk : Int) + 1 from by omega], fun x hx => ar x (by omega) (by omega), fun x hx => fr3 x (by omega) (by omega) (by omega) (by omega), _, goal⟩) (by omega) (by omega)
  have rest : ∀ kc ks, kc ≤ 9 → ks ≤ 54 → V M g ad F kc ks 56 [some (.ref (ad 100)), some (.int (zI (j : Int))), some (.int (zI c)), some (.int (zI m)), some (.int (zI u)), some (.ref (ad (300 + j))), none] [.int (bP (m ≤ A 0 j))] := fun kc ks hkc hks => by
    refine r_callSX X dX5_commit_56 kX5_45 (c_reqS g _ hl ad F (m ≤ A 0 j)) (by rfl) (by rfl) (by exact Nat.le_of_ble_eq_true rfl) (by decide) (by decide) (by omega) (by omega) (fun E ad' F' h => ⟨.inr (.inr ⟨h.1, q1, ⟨q2, q3, q4⟩, fun z => h.2.1 z.2.1⟩), h.2.2⟩) (fun v ad' F' hK => ?_)
    obtain ⟨q6, rfl, rfl, rfl⟩ := hK
    refine r_aload_n X dX5_commit_59 (by rfl) ?_
    refine r_get X dX5_commit_60 fgX5_16_7 (by assumption) (by rfl) ?_
    refine r_callV X dX5_commit_63 kX5_41 (c_size g _ hl ad F 102 nk cap2 _ (by omega) hR2) (by assumption) (by rfl) (by rfl) (by rfl) (by rfl) (by exact Nat.le_of_ble_eq_true rfl) (by decide) (by decide) (by omega) (by omega) (fun v ad' F' hK => ?_)
    obtain ⟨rfl, rfl, rfl⟩ := hK
    refine r_bipush X dX5_commit_66 (by decide) ?_
    refine r_icmp_ge X 75 dX5_commit_68 (by decide) (by unfold inR; omega) (by unfold inR; omega) (fun b => ?_) (fun b => ?_)
    · refine r_iconst X dX5_commit_75 rfl ?_
      refine W_bF (Q := nk < 6) (by omega) ?_
      exact rest2 q6 _ _ (by omega) (by omega)
    · refine r_iconst X dX5_commit_71 rfl ?_
      refine r_goto X dX5_commit_72 76 (by decide) ?_
      refine W_bT (Q := nk < 6) (by omega) ?_
      exact rest2 q6 _ _ (by omega) (by omega)
  refine r_icmp_lt X 55 dX5_commit_48 (by decide) (by unfold inR; omega) (by unfold inR; omega) (fun b => ?_) (fun b => ?_)
  · refine r_iconst X dX5_commit_55 rfl ?_
    refine W_bF (Q := m ≤ A 0 j) (by omega) ?_
    exact rest _ _ (by omega) (by omega)
  · refine r_iconst X dX5_commit_51 rfl ?_
    refine r_goto X dX5_commit_52 56 (by decide) ?_
    refine W_bT (Q := m ≤ A 0 j) (by omega) ?_
    exact rest _ _ (by omega) (by omega)
