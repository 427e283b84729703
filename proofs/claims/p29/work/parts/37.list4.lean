theorem eDel_at {e : Nat → Nat} {k i j : Nat} {f : Nat → Option Nat} (hi : i < k) (hj : j < k - 1) (hf : ∀ i, i < k → f i = some (e i)) : va_up (va_cpy f f (i + 1) i (k - 1 - i)) (k - 1) none j = some (eDel e i j) := by
  unfold va_up eDel
  rw [if_neg (by omega)]
  by_cases h : j < i
  · rw [if_pos h, pk_cpy_out (by omega)]; exact hf j (by omega)
  · rw [if_neg h, pk_cpy_in (by omega) (by omega), show i + 1 + (j - i) = j + 1 by omega]; exact hf _ (by omega)
theorem eDel_end {e : Nat → Nat} {k i j : Nat} {f : Nat → Option Nat} (hi : i + 1 = k) (hj : j < k - 1) (hf : ∀ i, i < k → f i = some (e i)) : va_up f (k - 1) none j = some (eDel e i j) := by
  unfold va_up eDel
  rw [if_neg (by omega), if_pos (by omega)]
  exact hf j (by omega)
set_option maxRecDepth 100000 in
set_option maxHeartbeats 4000000 in
theorem c_fastRemove (g : Gx) (l : Launch) (hl : l.stackTraces = false) (ad : Nat → Nat) (F : Pic) (rl k cap : Nat) (e : Nat → Nat) (hrl : 101 ≤ rl ∧ rl ≤ 104) (hL : LR g ad F rl k cap e) (hlv : ∀ i, i < k → LIVE ad F (e i)) (i : Nat) (hi : i < k) : Ct g l yJx4a65c_fastRemove_b59b0 cJx4a65c_fastRemove_b59b0 4 none 1 0 0 [.ref (ad rl), .ref (ad (lra rl cap)), .int (zI (i : Int))] ad F (fun v ad' F' => v = none ∧ ad = ad' ∧ FrL rl F F' ∧ LR g ad F' rl (k - 1) cap (eDel e i) ∧ (LF F rl cap → LF F' rl cap)) := by
  refine Ct_of hl rfl [some (.ref (ad rl)), some (.ref (ad (lra rl cap))), some (.int (zI (i : Int))), none] (Nat.le_of_ble_eq_true rfl) (fun _ h => h) ?_
  intro M hL hN X
  subst hL
  obtain ⟨⟨mo, f, hobj, harr, hf⟩, hkc, hc⟩ := id hL
  have hla : lra rl cap = 1000 * (rl - 100) + cap := if_neg (by omega)
  refine r_aload_n X dJx4a65c_fastRemove_b59b0_0 (by rfl) ?_
  refine r_dup X dJx4a65c_fastRemove_b59b0_1 (by rfl) ?_
  refine r_get X dJx4a65c_fastRemove_b59b0_2 fgJx4a65c_63_2 (by assumption) (by rfl) ?_
  refine r_iconst X dJx4a65c_fastRemove_b59b0_5 rfl ?_
  refine r_iadd X dJx4a65c_fastRemove_b59b0_6 ?_
  refine r_put X dJx4a65c_fastRemove_b59b0_7 fwJx4a65c_63_2 (by assumption) (by omega) (by exact Nat.le_of_ble_eq_true rfl) (by rfl) (by rfl) ?_
  dsimp only [List.set]
  refine (fun (k : ∀ F1 : Pic, F1 rl = some (.inr (2, [.int (zI (mo + 1)), .ref (ad (lra rl cap)), .int (zI k)])) → (∀ x, x ≠ rl → F1 x = F x) → V M g ad F1 _ _ _ _ _) => k _ pu_s (fun x hx => pu_n hx)) ?_
  intro F1 hobj1 hs1
  have hlv1 : ∀ i, i < k → LIVE ad F1 (e i) := fun i hi => (hlv i hi).touch hobj hs1
  have harr1 : F1 (lra rl cap) = some (cO g cap f) := (hs1 _ (by omega)).trans harr
  have e1 : (k : Int) - 1 = ((k - 1 : Nat) : Int) := by omega
  refine r_aload_n X dJx4a65c_fastRemove_b59b0_10 (by rfl) ?_
  refine r_get X dJx4a65c_fastRemove_b59b0_11 fgJx4a65c_48_2 (by assumption) (by rfl) ?_
  refine r_iconst X dJx4a65c_fastRemove_b59b0_14 rfl ?_
  refine r_isub X dJx4a65c_fastRemove_b59b0_15 ?_
  refine W_int (congrArg zI e1) ?_
  refine r_dup X dJx4a65c_fastRemove_b59b0_16 (by rfl) ?_
  refine r_istore_n X dJx4a65c_fastRemove_b59b0_17 (by rw [hN]; decide) (by rfl) ?_
  dsimp only [List.set]
  refine r_iload_n X dJx4a65c_fastRemove_b59b0_18 (by rfl) ?_
  have fin : ∀ (F2 : Pic) (f2 : Nat → Option Nat), F2 rl = some (.inr (2, [.int (zI (mo + 1)), .ref (ad (lra rl cap)), .int (zI k)])) → F2 (lra rl cap) = some (cO g cap f2) → (∀ x, x ≠ rl → x ≠ lra rl cap → F2 x = F x) → (∀ j, j < k - 1 → va_up f2 (k - 1) none j = some (eDel e i j)) →
      V M g ad F2 0 0 34 [some (.ref (ad rl)), some (.ref (ad (lra rl cap))), some (.int (zI (i : Int))), some (.int (zI ((k - 1 : Nat) : Int)))] [] := fun F2 f2 hobj2 harr2 hs2 hf2 => by
    refine r_aload_n X dJx4a65c_fastRemove_b59b0_34 (by rfl) ?_
    refine r_aload_n X dJx4a65c_fastRemove_b59b0_35 (by rfl) ?_
    refine r_iload_n X dJx4a65c_fastRemove_b59b0_36 (by rfl) ?_
    refine r_dup_x1 X dJx4a65c_fastRemove_b59b0_37 (by rfl) (by rfl) ?_
    refine r_put X dJx4a65c_fastRemove_b59b0_38 fwJx4a65c_48_2 (by assumption) (by omega) (by exact Nat.le_of_ble_eq_true rfl) (by rfl) (by rfl) ?_
    dsimp only [List.set]
    have h3 : pu F2 rl (.inr (2, [.int (zI (mo + 1)), .ref (ad (lra rl cap)), .int (zI ((k - 1 : Nat) : Int))])) (lra rl cap) = some (cO g cap f2) := (pu_n (by omega)).trans harr2
    refine r_null X dJx4a65c_fastRemove_b59b0_41 ?_
    refine r_aastN X (k - 1) dJx4a65c_fastRemove_b59b0_42 h3 (by omega) (by rfl) (by omega) (by omega) ?_
    exact r_vret X rfl dJx4a65c_fastRemove_b59b0_43 (⟨rfl, rfl, fun x h1 h9 => (pu_n (by omega)).trans ((pu_n h1).trans (hs2 x h1 (by omega))), ⟨⟨mo + 1, _, (pu_n (by omega)).trans pu_s, pu_s, hf2⟩, by omega, hc⟩, fun hLF c h1 h9 => (pu_n (by omega)).trans ((pu_n (by omega)).trans ((hs2 _ (by omega) (by omega)).trans (hLF c h1 h9)))⟩) (by omega) (by omega)
  refine r_icmp_le X 34 dJx4a65c_fastRemove_b59b0_19 (by decide) (by unfold inR; omega) (by unfold inR; omega) (fun a1 => ?_) (fun a1 => ?_)
  · exact fin F1 f hobj1 harr1 (fun x h1 _ => hs1 x h1) (fun j hj => eDel_end (by omega) hj hf)
  · refine r_aload_n X dJx4a65c_fastRemove_b59b0_22 (by rfl) ?_
    refine r_iload_n X dJx4a65c_fastRemove_b59b0_23 (by rfl) ?_
    refine r_iconst X dJx4a65c_fastRemove_b59b0_24 rfl ?_
    refine r_iadd X dJx4a65c_fastRemove_b59b0_25 ?_
    refine r_aload_n X dJx4a65c_fastRemove_b59b0_26 (by rfl) ?_
    refine r_iload_n X dJx4a65c_fastRemove_b59b0_27 (by rfl) ?_
    refine r_iload_n X dJx4a65c_fastRemove_b59b0_28 (by rfl) ?_
    refine r_iload_n X dJx4a65c_fastRemove_b59b0_29 (by rfl) ?_
    refine r_isub X dJx4a65c_fastRemove_b59b0_30 ?_
    refine r_copy X (i + 1) i (k - 1 - i) dJx4a65c_fastRemove_b59b0_31 w378 w310 w15 harr1 harr1 (by omega) (by omega) (by omega) (by rfl) (by omega) ⟨by omega, by omega, by omega, by omega⟩ (fun j hj q hq => by
      rw [hf _ (by omega)] at hq
      cases hq
      exact hlv1 _ (by omega)) (by decide) (Nat.le_of_ble_eq_true rfl) ?_
    exact fin _ _ ((pu_n (by omega)).trans hobj1) pu_s (fun x h1 h9 => (pu_n h9).trans (hs1 x h1)) (fun j hj => eDel_at hi hj hf)
set_option maxRecDepth 100000 in
set_option maxHeartbeats 4000000 in
theorem c_remove (g : Gx) (l : Launch) (hl : l.stackTraces = false) (ad : Nat → Nat) (F : Pic) (rl k cap : Nat) (e : Nat → Nat) (hrl : 101 ≤ rl ∧ rl ≤ 104) (hL : LR g ad F rl k cap e) (hlv : ∀ i, i < k → LIVE ad F (e i)) (i : Nat) (hi : i < k) : Ct g l yJx4a65c_remove_915e3 cJx4a65c_remove_915e3 4 (some (.object "java/lang/Object")) 3 0 0 [.ref (ad rl), .int (zI (i : Int))] ad F (fun v ad' F' => v = some (.ref (e i)) ∧ ad = ad' ∧ FrL rl F F' ∧ LR g ad F' rl (k - 1) cap (eDel e i) ∧ (LF F rl cap → LF F' rl cap)) := by
  refine Ct_of hl rfl [some (.ref (ad rl)), some (.int (zI (i : Int))), none, none] (Nat.le_of_ble_eq_true rfl) (fun _ h => h) ?_
  intro M hL hN X
  subst hL
  obtain ⟨⟨mo, f, hobj, harr, hf⟩, hkc, hc⟩ := id hL
  refine r_iload_n X dJx4a65c_remove_915e3_0 (by rfl) ?_
  refine r_aload_n X dJx4a65c_remove_915e3_1 (by rfl) ?_
  refine r_get X dJx4a65c_remove_915e3_2 fgJx4a65c_48_2 (by assumption) (by rfl) ?_
  refine r_callS X dJx4a65c_remove_915e3_5 kJx4a65c_118 (c_checkIndex g _ hl ad F i k hi (by omega)) (by rfl) (by rfl) (by exact Nat.le_of_ble_eq_true rfl) (by decide) (by decide) (by omega) (by omega) (fun v ad' F' hK => ?_)
  obtain ⟨rfl, rfl, rfl⟩ := hK
  refine r_pop X dJx4a65c_remove_915e3_8 (by rfl) ?_
  refine r_aload_n X dJx4a65c_remove_915e3_9 (by rfl) ?_
  refine r_get X dJx4a65c_remove_915e3_10 fgJx4a65c_9_2 (by assumption) (by rfl) ?_
  refine r_astore_n X dJx4a65c_remove_915e3_13 (by rw [hN]; decide) (by rfl) ?_
  dsimp only [List.set]
  refine r_aload_n X dJx4a65c_remove_915e3_14 (by rfl) ?_
  refine r_iload_n X dJx4a65c_remove_915e3_15 (by rfl) ?_
  refine r_aald X _ dJx4a65c_remove_915e3_16 (by assumption) (by rfl) (by omega) (by first | decide | omega) (hf i hi) ?_
  refine r_astore_n X dJx4a65c_remove_915e3_17 (by rw [hN]; decide) (by rfl) ?_
  dsimp only [List.set]
  refine r_aload_n X dJx4a65c_remove_915e3_18 (by rfl) ?_
  refine r_aload_n X dJx4a65c_remove_915e3_19 (by rfl) ?_
  refine r_iload_n X dJx4a65c_remove_915e3_20 (by rfl) ?_
  refine r_callV X dJx4a65c_remove_915e3_21 kJx4a65c_144 (c_fastRemove g _ hl ad F rl k cap e hrl hL hlv i hi) (by assumption) (by rfl) (by rfl) (by rfl) (by rfl) (by exact Nat.le_of_ble_eq_true rfl) (by decide) (by decide) (by omega) (by omega) (fun v ad' F1 hK => ?_)
  obtain ⟨rfl, rfl, hK⟩ := hK
  refine r_aload_n X dJx4a65c_remove_915e3_24 (by rfl) ?_
  exact r_aret X rfl (.inl ⟨_, rfl⟩) dJx4a65c_remove_915e3_25 (⟨rfl, rfl, hK⟩) (by omega) (by omega)
set_option maxRecDepth 100000 in
set_option maxHeartbeats 4000000 in
theorem c_clear (g : Gx) (l : Launch) (hl : l.stackTraces = false) (ad : Nat → Nat) (F : Pic) (rl k cap : Nat) (e : Nat → Nat) (hrl : 101 ≤ rl ∧ rl ≤ 104) (hL : LR g ad F rl k cap e) : Ct g l yJx4a65c_clear_da8c8 cJx4a65c_clear_da8c8 4 none 1 0 0 [.ref (ad rl)] ad F (fun v ad' F' => v = none ∧ ad = ad' ∧ FrL rl F F' ∧ LR g ad F' rl 0 cap e ∧ (LF F rl cap → LF F' rl cap)) := by
  refine Ct_of hl rfl [some (.ref (ad rl)), none, none, none] (Nat.le_of_ble_eq_true rfl) (fun _ h => h) ?_
  intro M hL hN X
  subst hL
  obtain ⟨⟨mo, f, hobj, harr, hf⟩, hkc, hc⟩ := id hL
  have hlr : lra rl cap ≠ rl := by unfold lra; split <;> omega
  refine r_aload_n X dJx4a65c_clear_da8c8_0 (by rfl) ?_
  refine r_dup X dJx4a65c_clear_da8c8_1 (by rfl) ?_
  refine r_get X dJx4a65c_clear_da8c8_2 fgJx4a65c_63_2 (by assumption) (by rfl) ?_
  refine r_iconst X dJx4a65c_clear_da8c8_5 rfl ?_
  refine r_iadd X dJx4a65c_clear_da8c8_6 ?_
  refine r_put X dJx4a65c_clear_da8c8_7 fwJx4a65c_63_2 (by assumption) (by omega) (by exact Nat.le_of_ble_eq_true rfl) (by rfl) (by rfl) ?_
  dsimp only [List.set]
  refine (fun (k : ∀ F1 : Pic, F1 rl = some (.inr (2, [.int (zI (mo + 1)), .ref (ad (lra rl cap)), .int (zI k)])) → (∀ x, x ≠ rl → F1 x = F x) → V M g ad F1 _ _ _ _ _) => k _ pu_s (fun x hx => pu_n hx)) ?_
  intro F1 hobj1 hs1
  refine r_aload_n X dJx4a65c_clear_da8c8_10 (by rfl) ?_
  refine r_get X dJx4a65c_clear_da8c8_11 fgJx4a65c_9_2 (by assumption) (by rfl) ?_
  refine r_astore_n X dJx4a65c_clear_da8c8_14 (by rw [hN]; decide) (by rfl) ?_
  dsimp only [List.set]
  refine r_aload_n X dJx4a65c_clear_da8c8_15 (by rfl) ?_
  refine r_get X dJx4a65c_clear_da8c8_16 fgJx4a65c_48_2 (by assumption) (by rfl) ?_
  refine r_istore_n X dJx4a65c_clear_da8c8_19 (by rw [hN]; decide) (by rfl) ?_
  dsimp only [List.set]
  refine r_aload_n X dJx4a65c_clear_da8c8_20 (by rfl) ?_
  refine r_iconst X dJx4a65c_clear_da8c8_21 rfl ?_
  refine r_dup_x1 X dJx4a65c_clear_da8c8_22 (by rfl) (by rfl) ?_
  refine r_put X dJx4a65c_clear_da8c8_23 fwJx4a65c_48_2 (by assumption) (by omega) (by exact Nat.le_of_ble_eq_true rfl) (by rfl) (by rfl) ?_
  dsimp only [List.set]
  refine (fun (k : ∀ F1 : Pic, F1 rl = some (.inr (2, [.int (zI (mo + 1)), .ref (ad (lra rl cap)), .int (zI ((0 : Nat) : Int))])) → (∀ x, x ≠ rl → F1 x = F x) → V M g ad F1 _ _ _ _ _) => k _ pu_s (fun x hx => (pu_n hx).trans (hs1 x hx))) ?_
  intro F2 hobj2 hs2
  have loop : ∀ (n i : Nat) (F3 : Pic) (f3 : Nat → Option Nat), k - i = n → i ≤ k → F3 rl = some (.inr (2, [.int (zI (mo + 1)), .ref (ad (lra rl cap)), .int (zI ((0 : Nat) : Int))])) → F3 (lra rl cap) = some (cO g cap f3) → (∀ x, x ≠ rl → (x ≠ lra rl cap ∨ cap = 0) → F3 x = F x) →
      V M g ad F3 0 0 27 [some (.ref (ad rl)), some (.ref (ad (lra rl cap))), some (.int (zI (k : Int))), some (.int (zI (i : Int)))] [] := by
    intro n
    induction n using Nat.strongRecOn with
    | _ n ih =>
      intro i F3 f3 hn hi hobj3 harr3 hs3
      refine r_iload_n X dJx4a65c_clear_da8c8_27 (by rfl) ?_
      refine r_iload_n X dJx4a65c_clear_da8c8_28 (by rfl) ?_
      refine r_icmp_ge X 42 dJx4a65c_clear_da8c8_29 (by decide) (by unfold inR; omega) (by unfold inR; omega) (fun a1 => ?_) (fun a1 => ?_)
      · have q1 : FrL rl F F3 := fun x h1 h9 => hs3 x h1 (by
          by_cases h0 : cap = 0
          · exact .inr h0
          · have hla : lra rl cap = 1000 * (rl - 100) + cap := if_neg h0
            exact .inl (by omega))
        have q2 : LF F rl cap → LF F3 rl cap := fun hLF c h1 h9 => (hs3 _ (by omega) (by
          by_cases h0 : cap = 0
          · exact .inr h0
          · have hla : lra rl cap = 1000 * (rl - 100) + cap := if_neg h0
            exact .inl (by omega))).trans (hLF c h1 h9)
        exact r_vret X rfl dJx4a65c_clear_da8c8_42 (⟨rfl, rfl, q1, ⟨⟨mo + 1, f3, hobj3, harr3, fun i hi => by omega⟩, by omega, hc⟩, q2⟩) (by omega) (by omega)
      · have h0 : ¬ cap = 0 := by omega
        have hla : lra rl cap = 1000 * (rl - 100) + cap := if_neg h0
        refine r_aload_n X dJx4a65c_clear_da8c8_32 (by rfl) ?_
        refine r_iload_n X dJx4a65c_clear_da8c8_33 (by rfl) ?_
        refine r_null X dJx4a65c_clear_da8c8_34 ?_
        refine r_aastN X i dJx4a65c_clear_da8c8_35 harr3 (by omega) (by rfl) (by omega) (by omega) ?_
        refine r_iinc X dJx4a65c_clear_da8c8_36 (by rfl) (by rw [hN]; decide) (by rfl) ?_
        dsimp only [List.set]
        refine r_goto X dJx4a65c_clear_da8c8_39 27 (by decide) ?_
        exact ih (k - (i + 1)) (by omega) (i + 1) _ _ rfl (by omega) ((pu_n (fun q => hlr q.symm)).trans hobj3) pu_s (fun x h1 h9 => (pu_n (h9.resolve_right h0)).trans (hs3 x h1 h9))
  refine r_istore_n X dJx4a65c_clear_da8c8_26 (by rw [hN]; decide) (by rfl) ?_
  dsimp only [List.set]
  exact loop k 0 F2 f rfl (by omega) hobj2 ((hs2 _ hlr).trans harr) (fun x h1 _ => hs2 x h1)
set_option maxRecDepth 100000 in
set_option maxHeartbeats 4000000 in
theorem c_acInit (g : Gx) (l : Launch) (hl : l.stackTraces = false) (ad : Nat → Nat) (F : Pic) (r : Nat) : Ct g l yJxa1e45_init_da8c8 cJxa1e45_init_da8c8 1 none 1 0 0 [.ref (ad r)] ad F (fun v ad' F' => v = none ∧ ad = ad' ∧ F = F') := by
  refine Ct_of hl rfl [some (.ref (ad r))] (Nat.le_of_ble_eq_true rfl) (fun _ h => h) ?_
  intro M hL hN X
  subst hL
  refine r_aload_n X dJxa1e45_init_da8c8_0 (by rfl) ?_
  refine r_objInit X dJxa1e45_init_da8c8_1 w41 w28 w29 (by decide) (Nat.le_of_ble_eq_true rfl) ?_
  exact r_vret X rfl dJxa1e45_init_da8c8_4 (⟨rfl, rfl, rfl⟩) (by omega) (by omega)
set_option maxRecDepth 100000 in
set_option maxHeartbeats 4000000 in
theorem c_absInit (g : Gx) (l : Launch) (hl : l.stackTraces = false) (ad : Nat → Nat) (F : Pic) (r : Nat) (a b c : Value) (h : F r = some (.inr (2, [a, b, c]))) (hr : 100 ≤ r) : Ct g l yJxc12de_init_da8c8 cJxc12de_init_da8c8 1 none 2 0 0 [.ref (ad r)] ad F (fun v ad' F' => v = none ∧ ad = ad' ∧ F' r = some (.inr (2, [.int (zI 0), b, c])) ∧ ∀ x, x ≠ r → F' x = F x) := by
  refine Ct_of hl rfl [some (.ref (ad r))] (Nat.le_of_ble_eq_true rfl) (fun _ h => h) ?_
  intro M hL hN X
  subst hL
  refine r_aload_n X dJxc12de_init_da8c8_0 (by rfl) ?_
  refine r_callI X dJxc12de_init_da8c8_1 kJxc12de_1 (c_acInit g _ hl ad F r) (by rfl) (by rfl) (by exact Nat.le_of_ble_eq_true rfl) (by decide) (by decide) (by omega) (by omega) (fun v ad' F' hK => ?_)
  obtain ⟨rfl, rfl, rfl⟩ := hK
  refine r_aload_n X dJxc12de_init_da8c8_4 (by rfl) ?_
  refine r_iconst X dJxc12de_init_da8c8_5 rfl ?_
  refine r_put X dJxc12de_init_da8c8_6 fwJxc12de_7_2 (by assumption) (by omega) (by exact Nat.le_of_ble_eq_true rfl) (by rfl) (by rfl) ?_
  dsimp only [List.set]
  exact r_vret X rfl dJxc12de_init_da8c8_9 (⟨rfl, rfl, pu_s, fun x hx => pu_n hx⟩) (by omega) (by omega)
set_option maxRecDepth 100000 in
set_option maxHeartbeats 4000000 in
theorem c_alInit (g : Gx) (l : Launch) (hl : l.stackTraces = false) (ad : Nat → Nat) (F : Pic) (r : Nat) (a b : Value) (c : Int) (h : F r = some (.inr (2, [a, b, .int (zI c)]))) (hr : 100 ≤ r) (a99 : ad 99 = gn g 99) : Ct g l yJx4a65c_init_da8c8 cJx4a65c_init_da8c8 1 none 3 0 0 [.ref (ad r)] ad F (fun v ad' F' => v = none ∧ ad = ad' ∧ F' r = some (.inr (2, [.int (zI 0), .ref (ad 99), .int (zI c)])) ∧ ∀ x, x ≠ r → F' x = F x) := by
  refine Ct_of hl rfl [some (.ref (ad r))] (Nat.le_of_ble_eq_true rfl) (fun _ h => h) ?_
  intro M hL hN X
  subst hL
  refine r_aload_n X dJx4a65c_init_da8c8_0 (by rfl) ?_
  refine r_callI X dJx4a65c_init_da8c8_1 kJx4a65c_1 (c_absInit g _ hl ad F r a b (.int (zI c)) h hr) (by rfl) (by rfl) (by exact Nat.le_of_ble_eq_true rfl) (by decide) (by decide) (by omega) (by omega) (fun v ad' F1 hK => ?_)
  obtain ⟨rfl, rfl, h1, h2⟩ := hK
  refine r_aload_n X dJx4a65c_init_da8c8_4 (by rfl) ?_
  refine r_getsD X dJx4a65c_init_da8c8_5 w42 ?_
  refine r_put X dJx4a65c_init_da8c8_8 fwJx4a65c_9_2 (by assumption) (by omega) (by exact Nat.le_of_ble_eq_true rfl) (by rfl) (by rfl) ?_
  dsimp only [List.set]
  exact r_vret X rfl dJx4a65c_init_da8c8_11 (⟨rfl, rfl, by rw [pu_s, a99], fun x hx => (pu_n hx).trans (h2 x hx)⟩) (by omega) (by omega)
