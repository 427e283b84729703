/-! ===== overhead is charged ===== -/
set_option maxRecDepth 100000 in
set_option maxHeartbeats 4000000 in
theorem c_shareOnes (g : Gx) (l : Launch) (hl : l.stackTraces = false) (ad : Nat → Nat) (F : Pic) (td : Int) (nf nk nc : Nat) (A P : Nat → Nat → Int) (kf ser : Nat → Nat) (sn : Nat) (hX : RX g ad F td nf nk nc A P kf ser sn) (t : Nat) (hI : IV td nf nk nc A kf t) (amt : Int) (ha : inR amt) : Ct g l yX5_shareOnes cX5_shareOnes 5 (some .int) 5 0 0 [.ref (ad 100), .int (zI amt)] ad F (fun v ad' F' => v = some (.int (zI (oneS A amt nf).2)) ∧ ad = ad' ∧ FrX F F' ∧ RX g ad' F' td nf nk nc (oneS A amt nf).1 P kf ser sn) := by
  refine Ct_of hl rfl [some (.ref (ad 100)), some (.int (zI amt)), none, none, none] (Nat.le_of_ble_eq_true rfl) (fun _ h => h) ?_
  intro M hL hN X
  subst hL
  have loop : ∀ (k i : Nat) (F1 : Pic) (w : Int) (o4 : Option Value), nf - i = k → i ≤ nf → w = (oneS A amt i).2 → FrX F F1 → RX g ad F1 td nf nk nc (oneS A amt i).1 P kf ser sn →
      V M g ad F1 0 0 4 [some (.ref (ad 100)), some (.int (zI amt)), some (.int (zI w)), some (.int (zI (i : Int))), o4] [] := by
    intro k
    induction k with
    | zero =>
      intro i F1 w o4 hk hi hw hF hX1
      obtain rfl : i = nf := by omega
      obtain ⟨⟨hO1, -⟩, ⟨⟨c1, hR1, -⟩, -⟩, -⟩ := id hX1
      obtain ⟨m1, ho1⟩ := hR1.obj
      have hI0 := hI.1
      refine r_iload_n X dX5_shareOnes_4 (by rfl) ?_
      refine r_aload_n X dX5_shareOnes_5 (by rfl) ?_
      refine r_get X dX5_shareOnes_6 fgX5_12_7 (by assumption) (by rfl) ?_
      refine r_callV X dX5_shareOnes_9 kX5_41 (c_size g _ hl ad F1 101 i c1 _ (by omega) hR1) (by assumption) (by rfl) (by rfl) (by rfl) (by rfl) (by exact Nat.le_of_ble_eq_true rfl) (by decide) (by decide) (by omega) (by omega) (fun v ad' F' hK => ?_)
      obtain ⟨rfl, rfl, rfl⟩ := hK
      refine r_icmp_ge X 56 dX5_shareOnes_12 (by decide) (by unfold inR; omega) (by unfold inR; omega) (fun a => ?_) (fun a => ?_)
      · refine r_iload_n X dX5_shareOnes_56 (by rfl) ?_
        exact r_iret X rfl (rfl) dX5_shareOnes_57 (⟨by rw [hw], rfl, hF, hX1⟩) (by omega) (by omega)
      · omega
    | succ k ih =>
      intro i F1 w o4 hk hi hw hF hX1
      obtain ⟨⟨hO1, -⟩, ⟨⟨c1, hR1, -⟩, -⟩, -, ⟨-, hFu1, -⟩, -⟩ := id hX1
      obtain ⟨m1, ho1⟩ := hR1.obj
      have hI0 := hI.1
      have b0 := hI.b0 (i := i) (by omega)
      have b4 := hI.b4 (i := i) (by omega)
      have b3 := (hI.2.1 i (by omega)).2.2.2.1
      have rb := roA_b hI (i := i) (by omega)
      have hon := one_iv (amt := amt) hI i (by omega)
      have eA : ∀ a, (oneS A amt i).1 a i = A a i := fun a => one_n A amt i a i (Nat.le_refl _)
      have hf0 : F1 (300 + i) = some (.inr (5, [.int (zI (A 0 i)), .int (zI (i : Int)), .int (zI (A 1 i)), .int (zI (A 2 i)), .int (zI (A 3 i)), .int (zI (A 4 i)), .int (zI (A 5 i))])) := by
        rw [hFu1 i (by omega)]; unfold fuC; rw [eA, eA, eA, eA, eA, eA]
      have eS : oneS A amt (i + 1) = if (oneS A amt i).2 < amt ∧ 0 < roA A i then (takeA (oneS A amt i).1 i 1, (oneS A amt i).2 + 1) else oneS A amt i := rfl
      refine r_iload_n X dX5_shareOnes_4 (by rfl) ?_
      refine r_aload_n X dX5_shareOnes_5 (by rfl) ?_
      refine r_get X dX5_shareOnes_6 fgX5_12_7 (by assumption) (by rfl) ?_
      refine r_callV X dX5_shareOnes_9 kX5_41 (c_size g _ hl ad F1 101 nf c1 _ (by omega) hR1) (by assumption) (by rfl) (by rfl) (by rfl) (by rfl) (by exact Nat.le_of_ble_eq_true rfl) (by decide) (by decide) (by omega) (by omega) (fun v ad' F' hK => ?_)
      obtain ⟨rfl, rfl, rfl⟩ := hK
      refine r_icmp_ge X 56 dX5_shareOnes_12 (by decide) (by unfold inR; omega) (by unfold inR; omega) (fun a => ?_) (fun a => ?_)
      · omega
      · refine r_iload_n X dX5_shareOnes_15 (by rfl) ?_
        refine r_iload_n X dX5_shareOnes_16 (by rfl) ?_
        refine r_icmp_ge X 56 dX5_shareOnes_17 (by decide) (by unfold inR; omega) (ha) (fun b => ?_) (fun b => ?_)
        · have e9 := one_stop (A := A) (amt := amt) (i := i) (by omega) nf (by omega)
          refine r_iload_n X dX5_shareOnes_56 (by rfl) ?_
          exact r_iret X rfl (rfl) dX5_shareOnes_57 (⟨by rw [hw, e9], rfl, hF, by rw [e9]; exact hX1⟩) (by omega) (by omega)
        · refine r_aload_n X dX5_shareOnes_20 (by rfl) ?_
          refine r_get X dX5_shareOnes_21 fgX5_12_7 (by assumption) (by rfl) ?_
          refine r_iload_n X dX5_shareOnes_24 (by rfl) ?_
          refine r_callV X dX5_shareOnes_25 kX5_118 (c_get g _ hl ad F1 101 nf c1 _ (by omega) hR1 i (by omega)) (by assumption) (by rfl) (by rfl) (by rfl) (by rfl) (by exact Nat.le_of_ble_eq_true rfl) (by decide) (by decide) (by omega) (by omega) (fun v ad' F' hK => ?_)
          obtain ⟨rfl, rfl, rfl⟩ := hK
          refine r_castF X dX5_shareOnes_28 w217 (hf0) ?_
          refine r_astore X dX5_shareOnes_31 (by rw [hN]; decide) (by rfl) ?_
          dsimp only [List.set]
          refine r_aload X dX5_shareOnes_33 (by rfl) ?_
          refine r_callV X dX5_shareOnes_35 kX5_132 (c_room g _ hl ad F1 (300 + i) (by omega) _ _ _ _ _ _ _ hf0 (by omega) (by omega) (by omega) (by omega)) (hf0) (by rfl) (by rfl) (by rfl) (by rfl) (by exact Nat.le_of_ble_eq_true rfl) (by decide) (by decide) (by omega) (by omega) (fun v ad' F' hK => ?_)
          obtain ⟨rfl, rfl, rfl⟩ := hK
          have rr : roZ (A 0 i) (A 3 i) (A 4 i) (A 5 i) = roA A i := rfl
          rw [rr]
          refine r_if_le X 50 dX5_shareOnes_38 (by decide) (by unfold inR; omega) (fun q => ?_) (fun q => ?_)
          · refine r_iinc X dX5_shareOnes_50 (by rfl) (by rw [hN]; decide) (by rfl) ?_
            dsimp only [List.set]
            refine r_goto X dX5_shareOnes_53 4 (by decide) ?_
            exact ih (i + 1) F1 w _ (by omega) (by omega) (by rw [eS, if_neg (by omega), hw]) hF (by rw [eS, if_neg (by omega)]; exact hX1)
          · refine r_aload X dX5_shareOnes_41 (by rfl) ?_
            refine r_iconst X dX5_shareOnes_43 rfl ?_
            refine r_callV X dX5_shareOnes_44 kX5_252 (c_takeOverhead g _ hl ad F1 (300 + i) (by omega) _ _ _ _ _ _ _ hf0 _) (hf0) (by rfl) (by rfl) (by rfl) (by rfl) (by exact Nat.le_of_ble_eq_true rfl) (by decide) (by decide) (by omega) (by omega) (fun v ad' F2 hK => ?_)
            obtain ⟨rfl, rfl, h1, s1⟩ := hK
            refine r_iinc X dX5_shareOnes_47 (by rfl) (by rw [hN]; decide) (by rfl) ?_
            dsimp only [List.set]
            refine r_iinc X dX5_shareOnes_50 (by rfl) (by rw [hN]; decide) (by rfl) ?_
            dsimp only [List.set]
            refine r_goto X dX5_shareOnes_53 4 (by decide) ?_
            refine ih (i + 1) F2 _ _ (by omega) (by omega) (by rw [eS, if_pos ⟨by omega, by omega⟩, hw]) (fun x hx => (s1 x (by omega)).trans (hF x hx)) ?_
            rw [eS, if_pos ⟨by omega, by omega⟩]
            refine hX1.take (by omega) ?_ s1
            rw [h1, eA, eA, eA, eA, eA, eA]
  refine r_iconst X dX5_shareOnes_0 rfl ?_
  refine r_istore_n X dX5_shareOnes_1 (by rw [hN]; decide) (by rfl) ?_
  dsimp only [List.set]
  refine r_iconst X dX5_shareOnes_2 rfl ?_
  refine r_istore_n X dX5_shareOnes_3 (by rw [hN]; decide) (by rfl) ?_
  dsimp only [List.set]
  exact loop nf 0 F 0 none (by omega) (by omega) rfl FrX.rf hX
/-- one round: by direct costs, or of ones -/
def stepS (nf : Nat) (A : Nat → Nat → Int) (l : Int) : (Nat → Nat → Int) × Int := if (rndS A l (allR A nf) nf).2 = 0 then oneS (rndS A l (allR A nf) nf).1 l nf else rndS A l (allR A nf) nf
def ovS (nf : Nat) : Nat → (Nat → Nat → Int) → Int → (Nat → Nat → Int) × Int
  | 0, A, l => (A, l)
  | n + 1, A, l => if l ≤ 0 then (A, l) else if (stepS nf A l).2 ≤ 0 then ((stepS nf A l).1, l - (stepS nf A l).2) else ovS nf n (stepS nf A l).1 (l - (stepS nf A l).2)
theorem step_iv {td : Int} {nf nk nc : Nat} {A : Nat → Nat → Int} {kf : Nat → Nat} {t : Nat} {l : Int} (hI : IV td nf nk nc A kf t) (hl : 0 ≤ l) : IV td nf nk nc (stepS nf A l).1 kf t ∧ 0 ≤ (stepS nf A l).2 ∧ (stepS nf A l).2 ≤ 51199488 := by
  obtain ⟨h1, h2, h3⟩ := rnd_iv (amt := l) (all := allR A nf) hI hl (allR_b hI (Nat.le_refl _)).1 nf (Nat.le_refl _)
  have h4 : sm nf (A 0) ≤ 51199488 := by
    have a := sm_nn (n := nk) (f := A 8) (fun i hi => (hI.2.2.1 i hi).2.2.1)
    have b := hI.2.2.2.2.1
    have c := hI.1.2.2.2.2.2
    omega
  unfold stepS
  split
  · obtain ⟨q1, q2, q3⟩ := one_iv (amt := l) h1 nf (Nat.le_refl _)
    have := hI.1.2.2.1
    exact ⟨q1, q2, by omega⟩
  · exact ⟨h1, h2, by omega⟩
set_option maxRecDepth 100000 in
set_option maxHeartbeats 4000000 in
theorem c_chargeOverhead (g : Gx) (l : Launch) (hl : l.stackTraces = false) (ad : Nat → Nat) (F : Pic) (td : Int) (nf nk nc : Nat) (A P : Nat → Nat → Int) (kf ser : Nat → Nat) (sn : Nat) (hX : RX g ad F td nf nk nc A P kf ser sn) (t : Nat) (hI : IV td nf nk nc A kf t) (amt : Int) (ha : inR amt) : CtX g l yX5_chargeOverhead cX5_chargeOverhead 6 (some .int) 7 4 40 [.ref (ad 100), .int (zI amt)] ad F (fun v ad' F' => (1 ≤ amt ∧ amt ≤ 99999) ∧ v = some (.int (zI (amt - (ovS nf amt.toNat A amt).2))) ∧ ad = ad' ∧ FrX F F' ∧ RX g ad' F' td nf nk nc (ovS nf amt.toNat A amt).1 P kf ser sn) (fun E ad' F' => (E = xIA ∧ ¬ (1 ≤ amt ∧ amt ≤ 99999)) ∧ ad = ad' ∧ F = F') := by
  refine CtX_of hl rfl [some (.ref (ad 100)), some (.int (zI amt)), none, none, none, none] (Nat.le_of_ble_eq_true rfl) (fun _ h => h) ?_
  intro M hL hN X
  subst hL
  refine r_iload_n X dX5_chargeOverhead_0 (by rfl) ?_
  refine r_iconst X dX5_chargeOverhead_1 rfl ?_
  refine r_ldc X dX5_chargeOverhead_2 w122 (99999) rfl ?_
  refine r_callSX X dX5_chargeOverhead_4 kX5_37 (c_reqR g _ hl ad F amt 1 99999 ha (by exact ⟨by omega, by omega⟩) (by exact ⟨by omega, by omega⟩)) (by rfl) (by rfl) (by exact Nat.le_of_ble_eq_true rfl) (by decide) (by decide) (by omega) (by omega) (fun E ad' F' h => ⟨⟨h.1, h.2.1⟩, h.2.2⟩) (fun v ad' F' hK => ?_)
  obtain ⟨q1, rfl, rfl, rfl⟩ := hK
  generalize hR : ovS nf amt.toNat A amt = R at X
  have ending : ∀ (F1 : Pic) (A1 : Nat → Nat → Int) (left : Int) (o3 o4 o5 : Option Value), FrX F F1 → RX g ad F1 td nf nk nc A1 P kf ser sn → (A1, left) = R →
      V M g ad F1 1 6 69 [some (.ref (ad 100)), some (.int (zI amt)), some (.int (zI left)), o3, o4, o5] [] := fun F1 A1 left o3 o4 o5 hF hX1 he => by
    subst he
    refine r_iload_n X dX5_chargeOverhead_69 (by rfl) ?_
    refine r_iload_n X dX5_chargeOverhead_70 (by rfl) ?_
    refine r_isub X dX5_chargeOverhead_71 ?_
    exact r_iret X rfl (rfl) dX5_chargeOverhead_72 (⟨q1, rfl, rfl, hF, hX1⟩) (by omega) (by omega)
  have loop : ∀ (k i : Nat) (F1 : Pic) (A1 : Nat → Nat → Int) (left : Int) (o5 : Option Value), amt - (i : Int) = (k : Int) → (-52000000 ≤ left ∧ left ≤ 99999) → FrX F F1 → RX g ad F1 td nf nk nc A1 P kf ser sn → IV td nf nk nc A1 kf t → ovS nf k A1 left = R →
      V M g ad F1 1 6 14 [some (.ref (ad 100)), some (.int (zI amt)), some (.int (zI left)), some (.int (zI 1)), some (.int (zI (i : Int))), o5] [] := by
    intro k
    induction k with
    | zero =>
      intro i F1 A1 left o5 hk hb hF hX1 hI1 he
      refine r_iload X dX5_chargeOverhead_14 (by rfl) ?_
      refine r_iload_n X dX5_chargeOverhead_16 (by rfl) ?_
      refine r_icmp_ge X 69 dX5_chargeOverhead_17 (by decide) (by unfold inR; omega) (by unfold inR; omega) (fun a => ?_) (fun a => ?_)
      · exact ending F1 A1 left _ _ _ hF hX1 he
      · omega
    | succ k ih =>
      intro i F1 A1 left o5 hk hb hF hX1 hI1 he
      have hO1 := hX1.1.1
      refine r_iload X dX5_chargeOverhead_14 (by rfl) ?_
      refine r_iload_n X dX5_chargeOverhead_16 (by rfl) ?_
      refine r_icmp_ge X 69 dX5_chargeOverhead_17 (by decide) (by unfold inR; omega) (by unfold inR; omega) (fun a => ?_) (fun a => ?_)
      · omega
      · refine r_iload_n X dX5_chargeOverhead_20 (by rfl) ?_
        refine r_if_eq X 69 dX5_chargeOverhead_21 (by decide) (by unfold inR; omega) (fun a2 => ?_) (fun a2 => ?_)
        · exact absurd a2 (by decide)
        · refine r_iload_n X dX5_chargeOverhead_24 (by rfl) ?_
          refine r_if_le X 69 dX5_chargeOverhead_25 (by decide) (by unfold inR; omega) (fun a3 => ?_) (fun a3 => ?_)
          · exact ending F1 A1 left _ _ _ hF hX1 (by rw [← he]; show _ = (if left ≤ 0 then _ else _); rw [if_pos a3])
          · have hstep := step_iv hI1 (l := left) (by omega)
            have he2 : (if (stepS nf A1 left).2 ≤ 0 then ((stepS nf A1 left).1, left - (stepS nf A1 left).2) else ovS nf k (stepS nf A1 left).1 (left - (stepS nf A1 left).2)) = R := by
              rw [← he]; show _ = (if left ≤ 0 then _ else _); rw [if_neg a3]
            -- behind the round
            have after : ∀ F2 : Pic, FrX F F2 → RX g ad F2 td nf nk nc (stepS nf A1 left).1 P kf ser sn → V M g ad F2 1 6 47 [some (.ref (ad 100)), some (.int (zI amt)), some (.int (zI left)), some (.int (zI 1)), some (.int (zI (i : Int))), some (.int (zI (stepS nf A1 left).2))] [] := fun F2 hF2 hX2 => by
              generalize hst : stepS nf A1 left = st at *
              refine r_iload_n X dX5_chargeOverhead_47 (by rfl) ?_
              refine r_iload X dX5_chargeOverhead_48 (by rfl) ?_
              refine r_isub X dX5_chargeOverhead_50 ?_
              refine r_istore_n X dX5_chargeOverhead_51 (by rw [hN]; decide) (by rfl) ?_
              dsimp only [List.set]
              refine r_iload X dX5_chargeOverhead_52 (by rfl) ?_
              refine r_if_le X 61 dX5_chargeOverhead_54 (by decide) (by unfold inR; omega) (fun b => ?_) (fun b => ?_)
              · refine r_iconst X dX5_chargeOverhead_61 rfl ?_
                refine r_istore_n X dX5_chargeOverhead_62 (by rw [hN]; decide) (by rfl) ?_
                dsimp only [List.set]
                refine r_iinc X dX5_chargeOverhead_63 (by rfl) (by rw [hN]; decide) (by rfl) ?_
                dsimp only [List.set]
                refine r_goto X dX5_chargeOverhead_66 14 (by decide) ?_
                rw [if_pos b] at he2
                refine r_iload X dX5_chargeOverhead_14 (by rfl) ?_
                refine r_iload_n X dX5_chargeOverhead_16 (by rfl) ?_
                refine r_icmp_ge X 69 dX5_chargeOverhead_17 (by decide) (by unfold inR; omega) (by unfold inR; omega) (fun c => ?_) (fun c => ?_)
                · exact ending F2 st.1 _ _ _ _ hF2 hX2 he2
                · refine r_iload_n X dX5_chargeOverhead_20 (by rfl) ?_
                  refine r_if_eq X 69 dX5_chargeOverhead_21 (by decide) (by unfold inR; omega) (fun c2 => ?_) (fun c2 => ?_)
                  · exact ending F2 st.1 _ _ _ _ hF2 hX2 he2
                  · exact absurd rfl c2
              · refine r_iconst X dX5_chargeOverhead_57 rfl ?_
                refine r_goto X dX5_chargeOverhead_58 62 (by decide) ?_
                refine r_istore_n X dX5_chargeOverhead_62 (by rw [hN]; decide) (by rfl) ?_
                dsimp only [List.set]
                refine r_iinc X dX5_chargeOverhead_63 (by rfl) (by rw [hN]; decide) (by rfl) ?_
                dsimp only [List.set]
                refine r_goto X dX5_chargeOverhead_66 14 (by decide) ?_
                rw [if_neg b] at he2
                exact ih (i + 1) F2 st.1 _ _ (by omega) (by omega) hF2 hX2 hstep.1 he2
            refine r_aload_n X dX5_chargeOverhead_28 (by rfl) ?_
            refine r_iload_n X dX5_chargeOverhead_29 (by rfl) ?_
            refine r_callV X dX5_chargeOverhead_30 kX5_111 (c_shareBy g _ hl ad F1 _ _ _ _ _ _ _ _ _ hX1 t hI1 left (by omega)) (by assumption) (by rfl) (by rfl) (by rfl) (by rfl) (by exact Nat.le_of_ble_eq_true rfl) (by decide) (by decide) (by omega) (by omega) (fun v ad' F2 hK => ?_)
            obtain ⟨rfl, rfl, hF2, hX2⟩ := hK
            have hr2 := rnd_iv (amt := left) (all := allR A1 nf) hI1 (by omega) (allR_b hI1 (Nat.le_refl _)).1 nf (Nat.le_refl _)
            have h40 : sm nf (A1 0) ≤ 51199488 := by
              have a := sm_nn (n := nk) (f := A1 8) (fun i hi => (hI1.2.2.1 i hi).2.2.1)
              have b := hI1.2.2.2.2.1
              have c := hI1.1.2.2.2.2.2
              omega
            refine r_istore X dX5_chargeOverhead_33 (by rw [hN]; decide) (by rfl) ?_
            dsimp only [List.set]
            refine r_iload X dX5_chargeOverhead_35 (by rfl) ?_
            refine r_if_ne X 47 dX5_chargeOverhead_37 (by decide) (by unfold inR; omega) (fun b => ?_) (fun b => ?_)
            · have es : stepS nf A1 left = rndS A1 left (allR A1 nf) nf := by unfold stepS; rw [if_neg (by omega)]
              rw [← es] at hX2 ⊢
              exact after F2 (hF.tr hF2) hX2
            · have es : stepS nf A1 left = oneS (rndS A1 left (allR A1 nf) nf).1 left nf := by unfold stepS; rw [if_pos (by omega)]
              have hO2 := hX2.1.1
              refine r_aload_n X dX5_chargeOverhead_40 (by rfl) ?_
              refine r_iload_n X dX5_chargeOverhead_41 (by rfl) ?_
              refine r_callV X dX5_chargeOverhead_42 kX5_115 (c_shareOnes g _ hl ad F2 _ _ _ _ _ _ _ _ _ hX2 t hr2.1 left (by exact ⟨by omega, by omega⟩)) (by assumption) (by rfl) (by rfl) (by rfl) (by rfl) (by exact Nat.le_of_ble_eq_true rfl) (by decide) (by decide) (by omega) (by omega) (fun v ad' F3 hK => ?_)
              obtain ⟨rfl, rfl, hF3, hX3⟩ := hK
              refine r_istore X dX5_chargeOverhead_45 (by rw [hN]; decide) (by rfl) ?_
              dsimp only [List.set]
              rw [← es] at hX3 ⊢
              exact after F3 (hF.tr (hF2.tr hF3)) hX3
  refine r_iload_n X dX5_chargeOverhead_7 (by rfl) ?_
  refine r_istore_n X dX5_chargeOverhead_8 (by rw [hN]; decide) (by rfl) ?_
  dsimp only [List.set]
  refine r_iconst X dX5_chargeOverhead_9 rfl ?_
  refine r_istore_n X dX5_chargeOverhead_10 (by rw [hN]; decide) (by rfl) ?_
  dsimp only [List.set]
  refine r_iconst X dX5_chargeOverhead_11 rfl ?_
  refine r_istore X dX5_chargeOverhead_12 (by rw [hN]; decide) (by rfl) ?_
  dsimp only [List.set]
  exact loop amt.toNat 0 F A amt none (by omega) (by omega) FrX.rf hX hI hR
