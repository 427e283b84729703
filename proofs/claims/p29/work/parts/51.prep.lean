/-! ===== the plan is prepared ===== -/
noncomputable def mkm (n : Nat) (P : Nat → Prop) : Nat := (mk_ex n P).choose
theorem mkm_lt (n : Nat) (P : Nat → Prop) : mkm n P < 2 ^ n := (mk_ex n P).choose_spec.1
theorem mkm_tb {n : Nat} {P : Nat → Prop} {p : Nat} : (mkm n P).testBit p = true ↔ p < n ∧ P p := (mk_ex n P).choose_spec.2 p
theorem mkm_eq {n m : Nat} {P : Nat → Prop} (h : ∀ p, m.testBit p = true ↔ p < n ∧ P p) : m = mkm n P := tb_ext (fun p => (h p).trans mkm_tb.symm)
theorem RX.planw {g : Gx} {ad : Nat → Nat} {F F' : Pic} {td : Int} {nf nk nc : Nat} {A P : Nat → Nat → Int} {kf ser : Nat → Nat} {sn : Nat} (hX : RX g ad F td nf nk nc A P kf ser sn) (hF : FrP F F') (hP' : CP g ad F') : RX g ad F' td nf nk nc A P kf ser sn := by
  obtain ⟨hO, ⟨⟨cap1, hR1, hLF1⟩, ⟨cap2, hR2, hLF2⟩, ⟨cap3, hR3, hLF3⟩, kp, ep, cap4, hR4, hLF4⟩, hP, ⟨hnf, hFu, hFuN⟩, ⟨hnc, hCo, hCoN⟩, ⟨⟨hnk, hsn⟩, hKm, hKi, hKN⟩⟩ := id hX; obtain ⟨hO, h9, a99⟩ := hO
  refine ⟨CO.fr ⟨hO, h9, a99⟩ (hF _ (by omega)) (hF _ (by omega)) (fun _ _ => rfl), ⟨CL.fr ⟨cap1, hR1, hLF1⟩ (by omega) (fun x hx => hF x ?_) (fun _ _ => rfl) (fun _ _ => rfl), CL.fr ⟨cap2, hR2, hLF2⟩ (by omega) (fun x hx => hF x ?_) (fun _ _ => rfl) (fun _ _ => rfl), CL.fr ⟨cap3, hR3, hLF3⟩ (by omega) (fun x hx => hF x ?_) (fun _ _ => rfl) (fun _ _ => rfl), kp, ep, CL.fr ⟨cap4, hR4, hLF4⟩ (by omega) (fun x hx => hF x ?_) (fun _ _ => rfl) (fun _ _ => rfl)⟩,
    hP', CFu.fr ⟨hnf, hFu, hFuN⟩ (fun x z1 z2 => hF x (by omega)), CCo.fr ⟨hnc, hCo, hCoN⟩ (fun x z1 z2 => hF x (by omega)) (fun i hi => rfl), CK.fr ⟨⟨hnk, hsn⟩, hKm, hKi, hKN⟩ (fun x z1 z2 => hF x (by omega)) (fun i hi => rfl)⟩
  all_goals (unfold inA at hx; omega)
theorem CL.planw {g : Gx} {ad : Nat → Nat} {F F' : Pic} {rl k : Nat} {e : Nat → Nat} (h : CL g ad F rl k e) (hrl : 101 ≤ rl ∧ rl ≤ 104) (hF : FrP F F') : CL g ad F' rl k e := CL.fr h hrl (fun x hx => hF x (by unfold inA at hx; omega)) (fun _ _ => rfl) (fun _ _ => rfl)
theorem VC.own {td : Int} {nf nk nc : Nat} {A : Nat → Nat → Int} {kf : Nat → Nat} {t c : Nat} (h : IV td nf nk nc A kf t) (hc : VC nf nk c) : ow kf c < nf := by
  unfold ow
  rcases hc with ⟨h1, h2⟩ | ⟨h1, h2⟩
  · rw [if_pos h1]; exact (h.2.2.1 c h2).1
  · rw [if_neg (by omega)]; exact h2
set_option maxRecDepth 100000 in
set_option maxHeartbeats 4000000 in
theorem c_costsMay (g : Gx) (l : Launch) (hl : l.stackTraces = false) (ad : Nat → Nat) (F : Pic) (td : Int) (nf nk nc : Nat) (A P : Nat → Nat → Int) (kf ser : Nat → Nat) (sn : Nat) (hX : RX g ad F td nf nk nc A P kf ser sn) (t : Nat) (hI : IV td nf nk nc A kf t) (q : Nat) (hq : VC nf nk q) : Ct g l yX5_costsThatMayBePaidBy cX5_costsThatMayBePaidBy 4 (some .int) 6 0 0 [.ref (ad 100), .ref (ad (prl ser q))] ad F (fun v ad' F' => v = some (.int (zI ((mkm nc (mpP A kf q) : Nat) : Int))) ∧ ad = ad' ∧ F = F') := by
  refine Ct_of hl rfl [some (.ref (ad 100)), some (.ref (ad (prl ser q))), none, none] (Nat.le_of_ble_eq_true rfl) (fun _ h => h) ?_
  intro M hL hN X
  subst hL
  have hkf : ∀ i, i < nk → kf i < nf := fun i hi => (hI.2.2.1 i hi).1
  have hC := hX.pot hkf hq
  have hown := VC.own hI hq
  obtain ⟨hO, ⟨⟨cap1, hR1, hLF1⟩, ⟨cap2, hR2, hLF2⟩, ⟨cap3, hR3, hLF3⟩, kp, ep, cap4, hR4, hLF4⟩, hP, ⟨hnf, hFu, hFuN⟩, ⟨hnc, hCo, hCoN⟩, ⟨⟨hnk, hsn⟩, hKm, hKi, hKN⟩⟩ := id hX; obtain ⟨hO, h9, a99⟩ := hO
  obtain ⟨mo1, ho1⟩ := hR1.obj; obtain ⟨mo2, ho2⟩ := hR2.obj; obtain ⟨mo3, ho3⟩ := hR3.obj; obtain ⟨mo4, ho4⟩ := hR4.obj
  obtain ⟨-, ba, bl, -⟩ := hI.2.1 _ hown
  have loop : ∀ (k i m : Nat), nc - i = k → i ≤ nc → (∀ d, m.testBit d = true ↔ d < i ∧ mpP A kf q d) → V M g ad F 0 0 4 [some (.ref (ad 100)), some (.ref (ad (prl ser q))), some (.int (zI (m : Int))), some (.int (zI (i : Int)))] [] := by
    intro k
    induction k with
    | zero =>
      intro i m hk hi hm
      obtain rfl : i = nc := by omega
      refine r_iload_n X dX5_costsThatMayBePaidBy_4 (by rfl) ?_
      refine r_aload_n X dX5_costsThatMayBePaidBy_5 (by rfl) ?_
      refine r_get X dX5_costsThatMayBePaidBy_6 fgX5_19_7 (by assumption) (by rfl) ?_
      refine r_callV X dX5_costsThatMayBePaidBy_9 kX5_41 (c_size g _ hl ad F 103 i cap3 _ (by omega) hR3) (by assumption) (by rfl) (by rfl) (by rfl) (by rfl) (by exact Nat.le_of_ble_eq_true rfl) (by decide) (by decide) (by omega) (by omega) (fun v ad' F' hK => ?_)
      obtain ⟨rfl, rfl, rfl⟩ := hK
      refine r_icmp_ge X 45 dX5_costsThatMayBePaidBy_12 (by decide) (by unfold inR; omega) (by unfold inR; omega) (fun a => ?_) (fun a => ?_)
      · refine r_iload_n X dX5_costsThatMayBePaidBy_45 (by rfl) ?_
        exact r_iret X rfl (rfl) dX5_costsThatMayBePaidBy_46 (⟨by rw [mkm_eq hm], rfl, rfl⟩) (by omega) (by omega)
      · omega
    | succ k ih =>
      intro i m hk hi hm
      have hc0 := (hCo i (by omega)).1
      obtain ⟨b10, b11, -⟩ := hI.2.2.2.1 i (by omega)
      refine r_iload_n X dX5_costsThatMayBePaidBy_4 (by rfl) ?_
      refine r_aload_n X dX5_costsThatMayBePaidBy_5 (by rfl) ?_
      refine r_get X dX5_costsThatMayBePaidBy_6 fgX5_19_7 (by assumption) (by rfl) ?_
      refine r_callV X dX5_costsThatMayBePaidBy_9 kX5_41 (c_size g _ hl ad F 103 nc cap3 _ (by omega) hR3) (by assumption) (by rfl) (by rfl) (by rfl) (by rfl) (by exact Nat.le_of_ble_eq_true rfl) (by decide) (by decide) (by omega) (by omega) (fun v ad' F' hK => ?_)
      obtain ⟨rfl, rfl, rfl⟩ := hK
      refine r_icmp_ge X 45 dX5_costsThatMayBePaidBy_12 (by decide) (by unfold inR; omega) (by unfold inR; omega) (fun a => ?_) (fun a => ?_)
      · omega
      · refine r_aload_n X dX5_costsThatMayBePaidBy_15 (by rfl) ?_
        refine r_aload_n X dX5_costsThatMayBePaidBy_16 (by rfl) ?_
        refine r_get X dX5_costsThatMayBePaidBy_17 fgX5_19_7 (by assumption) (by rfl) ?_
        refine r_iload_n X dX5_costsThatMayBePaidBy_20 (by rfl) ?_
        refine r_callV X dX5_costsThatMayBePaidBy_21 kX5_118 (c_get g _ hl ad F 103 nc cap3 _ (by omega) hR3 i (by omega)) (by assumption) (by rfl) (by rfl) (by rfl) (by rfl) (by exact Nat.le_of_ble_eq_true rfl) (by decide) (by decide) (by omega) (by omega) (fun v ad' F' hK => ?_)
        obtain ⟨rfl, rfl, rfl⟩ := hK
        refine r_castC X dX5_costsThatMayBePaidBy_24 w395 (hc0) ?_
        refine q_pay X rfl hC hc0 ba bl b10 (fun h6 => (hI.2.2.1 q (by rcases hq with z | z <;> omega)).2.1) b11 dX5_costsThatMayBePaidBy_27 (by exact Nat.le_of_ble_eq_true rfl) (by omega) (by omega) (by omega) ?_
        refine r_if_eqb X 39 dX5_costsThatMayBePaidBy_30 (by decide) (fun b => ?_) (fun b => ?_)
        · refine r_iinc X dX5_costsThatMayBePaidBy_39 (by rfl) (by rw [hN]; decide) (by rfl) ?_
          dsimp only [List.set]
          refine r_goto X dX5_costsThatMayBePaidBy_42 4 (by decide) ?_
          refine ih (i + 1) m (by omega) (by omega) (fun d => ?_)
          rw [hm]
          exact ⟨fun z => ⟨by omega, z.2⟩, fun z => ⟨by
            rcases Nat.lt_or_ge d i with w | w
            · exact w
            · exact absurd z.2 (by rw [show d = i by omega]; exact b), z.2⟩⟩
        · refine r_iload_n X dX5_costsThatMayBePaidBy_33 (by rfl) ?_
          refine r_iconst X dX5_costsThatMayBePaidBy_34 rfl ?_
          refine r_iload_n X dX5_costsThatMayBePaidBy_35 (by rfl) ?_
          refine r_ishl X (hv := zI_shl (by omega)) dX5_costsThatMayBePaidBy_36 ?_
          refine r_ior X (hv := zI_or _ _) dX5_costsThatMayBePaidBy_37 ?_
          refine r_istore_n X dX5_costsThatMayBePaidBy_38 (by rw [hN]; decide) (by rfl) ?_
          dsimp only [List.set]
          refine r_iinc X dX5_costsThatMayBePaidBy_39 (by rfl) (by rw [hN]; decide) (by rfl) ?_
          dsimp only [List.set]
          refine r_goto X dX5_costsThatMayBePaidBy_42 4 (by decide) ?_
          refine ih (i + 1) _ (by omega) (by omega) (fun d => ?_)
          rw [tb_or, hm]
          constructor
          · rintro (z | z)
            · exact ⟨by omega, z.2⟩
            · exact ⟨by omega, by rw [z]; exact b⟩
          · intro z
            by_cases w : d = i
            · exact .inr w
            · exact .inl ⟨by omega, z.2⟩
  refine r_iconst X dX5_costsThatMayBePaidBy_0 rfl ?_
  refine r_istore_n X dX5_costsThatMayBePaidBy_1 (by rw [hN]; decide) (by rfl) ?_
  dsimp only [List.set]
  refine r_iconst X dX5_costsThatMayBePaidBy_2 rfl ?_
  refine r_istore_n X dX5_costsThatMayBePaidBy_3 (by rw [hN]; decide) (by rfl) ?_
  dsimp only [List.set]
  exact loop nc 0 0 (by omega) (by omega) (fun d => ⟨fun z => absurd z (tb_0 d), fun z => by omega⟩)
/-- cells of the plan and of the pots' list alone are written -/
def FrQ (F F' : Pic) : Prop := ∀ x, x ≠ 104 → ¬ (4000 < x ∧ x < 4100) → ¬ (200 ≤ x ∧ x < 260) → F' x = F x
def PS (A : Nat → Nat → Int) (nk nf : Nat) : Nat → Nat := PSq (exc A) nk (nk + nf)
theorem PS_vc {A : Nat → Nat → Int} {nk nf p : Nat} (hk : nk ≤ 6) (hp : p < nk + nf) : VC nf nk (PS A nk nf p) := by
  obtain ⟨r, h1, h2⟩ := PSq_mem (exc A) nk (nk + nf) p hp
  unfold PS; rw [h2]; exact cd_vc h1 hk
/-- the plan as it stands at first: its pots' money, its costs' amounts -/
def PL0 (A : Nat → Nat → Int) (kf : Nat → Nat) (nf nk nc : Nat) (pl cl pn : Nat → Int) (sh : Nat → Nat → Int) (rc py : Nat → Nat) : Prop :=
  (∀ p, p < nk + nf → pl p = moA A (PS A nk nf p) ∧ rc p = mkm nc (mpP A kf (PS A nk nf p)) ∧ py p = 0 ∧ ∀ c, c < nc → sh p c = 0) ∧ ∀ c, c < nc → cl c = A 12 c ∧ pn c = 0
set_option maxRecDepth 100000 in
set_option maxHeartbeats 4000000 in
theorem c_prepare (g : Gx) (l : Launch) (hl : l.stackTraces = false) (ad : Nat → Nat) (F : Pic) (td : Int) (nf nk nc : Nat) (A P : Nat → Nat → Int) (kf ser : Nat → Nat) (sn : Nat) (hX : RX g ad F td nf nk nc A P kf ser sn) (t : Nat) (hI : IV td nf nk nc A kf t) : Ct g l yX5_preparePlan cX5_preparePlan 3 none 9 12 720 [.ref (ad 100)] ad F (fun v ad' F' => v = none ∧ AdL 104 ad ad' ∧ FrQ F F' ∧ RX g ad' F' td nf nk nc A P kf ser sn ∧ CL g ad' F' 104 (nk + nf) (fun p => ad' (prl ser (PS A nk nf p))) ∧ ∃ pl cl pn sh rc py qu ah vi, PR g ad' F' (nk + nf) nc pl cl pn sh rc py qu ah vi ∧ PL0 A kf nf nk nc pl cl pn sh rc py) := by
  refine Ct_of hl rfl [some (.ref (ad 100)), none, none] (Nat.le_of_ble_eq_true rfl) (fun _ h => h) ?_
  intro M hL hN X
  subst hL
  have hkf : ∀ i, i < nk → kf i < nf := fun i hi => (hI.2.2.1 i hi).1
  have hO := hX.1.1
  refine r_aload_n X dX5_preparePlan_0 (by rfl) ?_
  refine r_callV X dX5_preparePlan_1 kX5_199 (c_lineUpPots g _ hl ad F _ _ _ _ _ _ _ _ _ hX t hI) (by assumption) (by rfl) (by rfl) (by rfl) (by rfl) (by exact Nat.le_of_ble_eq_true rfl) (by decide) (by decide) (by omega) (by omega) (fun v ad1 F1 hK => ?_)
  obtain ⟨rfl, hA1, hF1, hX1, hQ1⟩ := hK
  rw [← hA1 100 (by omega)]
  have hX1' := hX1
  clear hX hO
  obtain ⟨⟨hO, h9, a99⟩, ⟨⟨cap1, hR1, hLF1⟩, ⟨cap2, hR2, hLF2⟩, ⟨cap3, hR3, hLF3⟩, -⟩, hP, ⟨hnf, hFu, hFuN⟩, ⟨hnc, hCo, hCoN⟩, ⟨⟨hnk, hsn⟩, hKm, hKi, hKN⟩⟩ := id hX1
  obtain ⟨cap4, hR4, hLF4⟩ := id hQ1
  obtain ⟨mo3, ho3⟩ := hR3.obj
  obtain ⟨mo4, ho4⟩ := hR4.obj
  obtain ⟨np, nc0, pl, cl, pn, sh, rc, py, qu, ah, vi, hP⟩ := hP
  obtain ⟨⟨h0, h1, h2, h3, h4, h5, h6, h7, h8, h9⟩, hs, hnp, hnc⟩ := id hP
  refine r_aload_n X dX5_preparePlan_4 (by rfl) ?_
  refine r_get X dX5_preparePlan_5 fgX5_28_7 (by assumption) (by rfl) ?_
  refine r_aload_n X dX5_preparePlan_8 (by rfl) ?_
  refine r_get X dX5_preparePlan_9 fgX5_22_7 (by assumption) (by rfl) ?_
  refine r_callV X dX5_preparePlan_12 kX5_41 (c_size g _ hl ad1 F1 104 (nk + nf) cap4 _ (by omega) hR4) (by assumption) (by rfl) (by rfl) (by rfl) (by rfl) (by exact Nat.le_of_ble_eq_true rfl) (by decide) (by decide) (by omega) (by omega) (fun v ad' F' hK => ?_)
  obtain ⟨rfl, rfl, rfl⟩ := hK
  refine r_aload_n X dX5_preparePlan_15 (by rfl) ?_
  refine r_get X dX5_preparePlan_16 fgX5_19_7 (by assumption) (by rfl) ?_
  refine r_callV X dX5_preparePlan_19 kX5_41 (c_size g _ hl ad1 F1 103 nc cap3 _ (by omega) hR3) (by assumption) (by rfl) (by rfl) (by rfl) (by rfl) (by exact Nat.le_of_ble_eq_true rfl) (by decide) (by decide) (by omega) (by omega) (fun v ad' F' hK => ?_)
  obtain ⟨rfl, rfl, rfl⟩ := hK
  refine r_callV X dX5_preparePlan_22 kX5_202 (c_begin g _ hl ad1 F1 hP (nk + nf) nc (by omega) (by omega)) (by assumption) (by rfl) (by rfl) (by rfl) (by rfl) (by exact Nat.le_of_ble_eq_true rfl) (by decide) (by decide) (by omega) (by omega) (fun v ad' F2 hK => ?_)
  obtain ⟨rfl, rfl, hF2, sh2, py2, hP2, hz2⟩ := hK
  refine r_iconst X dX5_preparePlan_25 rfl ?_
  refine r_istore_n X dX5_preparePlan_26 (by rw [hN]; decide) (by rfl) ?_
  dsimp only [List.set]
  -- the pots
  have pots : ∀ (k i : Nat) (F3 : Pic) (pl3 : Nat → Int) (cl3 pn3 : Nat → Int) (rc3 : Nat → Nat) (o : Option Value), nk + nf - i = k → i ≤ nk + nf → FrP F1 F3 → PR g ad1 F3 (nk + nf) nc pl3 cl3 pn3 sh2 rc3 py2 qu ah vi → (∀ c, c < nc → cl3 c = A 12 c ∧ pn3 c = 0) → (∀ p, p < i → pl3 p = moA A (PS A nk nf p) ∧ rc3 p = mkm nc (mpP A kf (PS A nk nf p))) →
      V M g ad1 F3 12 720 68 [some (.ref (ad1 100)), some (.int (zI (i : Int))), o] [] := by
    intro k
    induction k with
    | zero =>
      intro i F3 pl3 cl3 pn3 rc3 o hk hi hF3 hP3 hc3 hp3
      obtain rfl : i = nk + nf := by omega
      have hX3 := hX1'.planw hF3 ⟨_, _, _, _, _, _, _, _, _, _, _, hP3⟩
      have hQ3 := hQ1.planw (by omega) hF3
      obtain ⟨c4, hR4', hLF4'⟩ := id hQ3
      obtain ⟨m4, ho4'⟩ := hR4'.obj
      obtain ⟨hO3, -⟩ := hX3.1
      refine r_iload_n X dX5_preparePlan_68 (by rfl) ?_
      refine r_aload_n X dX5_preparePlan_69 (by rfl) ?_
      refine r_get X dX5_preparePlan_70 fgX5_22_7 (by assumption) (by rfl) ?_
      refine r_callV X dX5_preparePlan_73 kX5_41 (c_size g _ hl ad1 F3 104 (nk + nf) c4 _ (by omega) hR4') (by assumption) (by rfl) (by rfl) (by rfl) (by rfl) (by exact Nat.le_of_ble_eq_true rfl) (by decide) (by decide) (by omega) (by omega) (fun v ad' F' hK => ?_)
      obtain ⟨rfl, rfl, rfl⟩ := hK
      refine r_icmp_ge X 114 dX5_preparePlan_76 (by decide) (by unfold inR; omega) (by unfold inR; omega) (fun a => ?_) (fun a => ?_)
      · exact r_vret X rfl dX5_preparePlan_114 (⟨rfl, hA1, fun x z1 z2 z3 => (hF3 x (by omega)).trans (hF1 x z1 (by omega)), hX3, hQ3, _, _, _, _, _, _, _, _, _, hP3, fun p hp => ⟨(hp3 p hp).1, (hp3 p hp).2, (hz2 p hp).1, (hz2 p hp).2⟩, hc3⟩) (by omega) (by omega)
      · omega
    | succ k ih =>
      intro i F3 pl3 cl3 pn3 rc3 o hk hi hF3 hP3 hc3 hp3
      have hX3 := hX1'.planw hF3 ⟨_, _, _, _, _, _, _, _, _, _, _, hP3⟩
      have hQ3 := hQ1.planw (by omega) hF3
      obtain ⟨c4, hR4', hLF4'⟩ := id hQ3
      obtain ⟨m4, ho4'⟩ := hR4'.obj
      obtain ⟨hO3, -⟩ := hX3.1
      have hvc : VC nf nk (PS A nk nf i) := PS_vc hnk (by omega)
      have hC := hX3.pot hkf hvc
      have h200 := hP3.1.1
      refine r_iload_n X dX5_preparePlan_68 (by rfl) ?_
      refine r_aload_n X dX5_preparePlan_69 (by rfl) ?_
      refine r_get X dX5_preparePlan_70 fgX5_22_7 (by assumption) (by rfl) ?_
      refine r_callV X dX5_preparePlan_73 kX5_41 (c_size g _ hl ad1 F3 104 (nk + nf) c4 _ (by omega) hR4') (by assumption) (by rfl) (by rfl) (by rfl) (by rfl) (by exact Nat.le_of_ble_eq_true rfl) (by decide) (by decide) (by omega) (by omega) (fun v ad' F' hK => ?_)
      obtain ⟨rfl, rfl, rfl⟩ := hK
      refine r_icmp_ge X 114 dX5_preparePlan_76 (by decide) (by unfold inR; omega) (by unfold inR; omega) (fun a => ?_) (fun a => ?_)
      · omega
      · refine r_aload_n X dX5_preparePlan_79 (by rfl) ?_
        refine r_get X dX5_preparePlan_80 fgX5_22_7 (by assumption) (by rfl) ?_
        refine r_iload_n X dX5_preparePlan_83 (by rfl) ?_
        refine r_callV X dX5_preparePlan_84 kX5_118 (c_get g _ hl ad1 F3 104 (nk + nf) c4 _ (by omega) hR4' i (by omega)) (by assumption) (by rfl) (by rfl) (by rfl) (by rfl) (by exact Nat.le_of_ble_eq_true rfl) (by decide) (by decide) (by omega) (by omega) (fun v ad' F' hK => ?_)
        obtain ⟨rfl, rfl, rfl⟩ := hK
        refine q_cast X rfl hC dX5_preparePlan_87 ?_
        refine r_astore_n X dX5_preparePlan_90 (by rw [hN]; decide) (by rfl) ?_
        dsimp only [List.set]
        refine r_aload_n X dX5_preparePlan_91 (by rfl) ?_
        refine r_get X dX5_preparePlan_92 fgX5_28_7 (by assumption) (by rfl) ?_
        refine r_iload_n X dX5_preparePlan_95 (by rfl) ?_
        refine r_aload_n X dX5_preparePlan_96 (by rfl) ?_
        refine q_mon X rfl hC dX5_preparePlan_97 ?_
        refine r_aload_n X dX5_preparePlan_100 (by rfl) ?_
        refine r_aload_n X dX5_preparePlan_101 (by rfl) ?_
        refine r_callV X dX5_preparePlan_102 kX5_209 (c_costsMay g _ hl ad1 F3 _ _ _ _ _ _ _ _ _ hX3 t hI _ hvc) (by assumption) (by rfl) (by rfl) (by rfl) (by rfl) (by exact Nat.le_of_ble_eq_true rfl) (by decide) (by decide) (by omega) (by omega) (fun v ad' F' hK => ?_)
        obtain ⟨rfl, rfl, rfl⟩ := hK
        refine r_callV X dX5_preparePlan_105 kX5_213 (c_setPot g _ hl ad1 F3 hP3 i (by omega) _ _) (by assumption) (by rfl) (by rfl) (by rfl) (by rfl) (by exact Nat.le_of_ble_eq_true rfl) (by decide) (by decide) (by omega) (by omega) (fun v ad' F4 hK => ?_)
        obtain ⟨rfl, rfl, hP4, hF4⟩ := hK
        refine r_iinc X dX5_preparePlan_108 (by rfl) (by rw [hN]; decide) (by rfl) ?_
        dsimp only [List.set]
        refine r_goto X dX5_preparePlan_111 68 (by decide) ?_
        refine ih (i + 1) F4 _ _ _ _ _ (by omega) (by omega) (hF3.tr hF4) hP4 hc3 (fun p hp => ?_)
        unfold ui un
        by_cases e : p = i
        · rw [if_pos e, if_pos e, e]; exact ⟨rfl, rfl⟩
        · rw [if_neg e, if_neg e]; exact hp3 p (by omega)
  -- the costs
  have costs : ∀ (k i : Nat) (F3 : Pic) (cl3 pn3 : Nat → Int), nc - i = k → i ≤ nc → FrP F1 F3 → PR g ad1 F3 (nk + nf) nc pl cl3 pn3 sh2 rc py2 qu ah vi → (∀ c, c < i → cl3 c = A 12 c ∧ pn3 c = 0) →
      V M g ad1 F3 12 720 27 [some (.ref (ad1 100)), some (.int (zI (i : Int))), none] [] := by
    intro k
    induction k with
    | zero =>
      intro i F3 cl3 pn3 hk hi hF3 hP3 hc3
      obtain rfl : i = nc := by omega
      have hX3 := hX1'.planw hF3 ⟨_, _, _, _, _, _, _, _, _, _, _, hP3⟩
      obtain ⟨⟨hO3, -⟩, ⟨-, -, ⟨c3, hR3', -⟩, -⟩, -⟩ := id hX3
      obtain ⟨m3, ho3'⟩ := hR3'.obj
      refine r_iload_n X dX5_preparePlan_27 (by rfl) ?_
      refine r_aload_n X dX5_preparePlan_28 (by rfl) ?_
      refine r_get X dX5_preparePlan_29 fgX5_19_7 (by assumption) (by rfl) ?_
      refine r_callV X dX5_preparePlan_32 kX5_41 (c_size g _ hl ad1 F3 103 i c3 _ (by omega) hR3') (by assumption) (by rfl) (by rfl) (by rfl) (by rfl) (by exact Nat.le_of_ble_eq_true rfl) (by decide) (by decide) (by omega) (by omega) (fun v ad' F' hK => ?_)
      obtain ⟨rfl, rfl, rfl⟩ := hK
      refine r_icmp_ge X 66 dX5_preparePlan_35 (by decide) (by unfold inR; omega) (by unfold inR; omega) (fun a => ?_) (fun a => ?_)
      · refine r_iconst X dX5_preparePlan_66 rfl ?_
        refine r_istore_n X dX5_preparePlan_67 (by rw [hN]; decide) (by rfl) ?_
        dsimp only [List.set]
        exact pots _ 0 F3 _ _ _ _ _ rfl (by omega) hF3 hP3 hc3 (fun p hp => by omega)
      · omega
    | succ k ih =>
      intro i F3 cl3 pn3 hk hi hF3 hP3 hc3
      have hX3 := hX1'.planw hF3 ⟨_, _, _, _, _, _, _, _, _, _, _, hP3⟩
      obtain ⟨⟨hO3, -⟩, ⟨-, -, ⟨c3, hR3', -⟩, -⟩, -, -, ⟨-, hCo3, -⟩, -⟩ := id hX3
      obtain ⟨m3, ho3'⟩ := hR3'.obj
      have hc0 : F3 (400 + i) = some (.inr (4, [.int (zI (A 10 i)), .int (zI (A 11 i)), .int (zI (A 12 i)), .ref (ad1 (500 + i))])) := (hCo3 i (by omega)).1
      have h200 := hP3.1.1
      refine r_iload_n X dX5_preparePlan_27 (by rfl) ?_
      refine r_aload_n X dX5_preparePlan_28 (by rfl) ?_
      refine r_get X dX5_preparePlan_29 fgX5_19_7 (by assumption) (by rfl) ?_
      refine r_callV X dX5_preparePlan_32 kX5_41 (c_size g _ hl ad1 F3 103 nc c3 _ (by omega) hR3') (by assumption) (by rfl) (by rfl) (by rfl) (by rfl) (by exact Nat.le_of_ble_eq_true rfl) (by decide) (by decide) (by omega) (by omega) (fun v ad' F' hK => ?_)
      obtain ⟨rfl, rfl, rfl⟩ := hK
      refine r_icmp_ge X 66 dX5_preparePlan_35 (by decide) (by unfold inR; omega) (by unfold inR; omega) (fun a => ?_) (fun a => ?_)
      · omega
      · refine r_aload_n X dX5_preparePlan_38 (by rfl) ?_
        refine r_get X dX5_preparePlan_39 fgX5_28_7 (by assumption) (by rfl) ?_
        refine r_iload_n X dX5_preparePlan_42 (by rfl) ?_
        refine r_aload_n X dX5_preparePlan_43 (by rfl) ?_
        refine r_get X dX5_preparePlan_44 fgX5_19_7 (by assumption) (by rfl) ?_
        refine r_iload_n X dX5_preparePlan_47 (by rfl) ?_
        refine r_callV X dX5_preparePlan_48 kX5_118 (c_get g _ hl ad1 F3 103 nc c3 _ (by omega) hR3' i (by omega)) (by assumption) (by rfl) (by rfl) (by rfl) (by rfl) (by exact Nat.le_of_ble_eq_true rfl) (by decide) (by decide) (by omega) (by omega) (fun v ad' F' hK => ?_)
        obtain ⟨rfl, rfl, rfl⟩ := hK
        refine r_castC X dX5_preparePlan_51 w395 (hc0) ?_
        refine r_get X dX5_preparePlan_54 fgX5_145_4 (hc0) (by rfl) ?_
        refine r_callV X dX5_preparePlan_57 kX5_206 (c_setCost g _ hl ad1 F3 hP3 i (by omega) _) (by assumption) (by rfl) (by rfl) (by rfl) (by rfl) (by exact Nat.le_of_ble_eq_true rfl) (by decide) (by decide) (by omega) (by omega) (fun v ad' F4 hK => ?_)
        obtain ⟨rfl, rfl, hP4, hF4⟩ := hK
        refine r_iinc X dX5_preparePlan_60 (by rfl) (by rw [hN]; decide) (by rfl) ?_
        dsimp only [List.set]
        refine r_goto X dX5_preparePlan_63 27 (by decide) ?_
        refine ih (i + 1) F4 _ _ (by omega) (by omega) (hF3.tr hF4) hP4 (fun c hc => ?_)
        unfold ui
        by_cases e : c = i
        · rw [if_pos e, if_pos e, e]; exact ⟨rfl, rfl⟩
        · rw [if_neg e, if_neg e]; exact hc3 c (by omega)
  exact costs _ 0 F2 _ _ rfl (by omega) hF2 hP2 (fun c hc => by omega)
