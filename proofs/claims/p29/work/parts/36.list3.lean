set_option maxRecDepth 100000 in
set_option maxHeartbeats 4000000 in
theorem c_grow0 (g : Gx) (l : Launch) (hl : l.stackTraces = false) (ad : Nat → Nat) (F : Pic) (rl k cap : Nat) (e : Nat → Nat) (hrl : 101 ≤ rl ∧ rl ≤ 104) (hL : LR g ad F rl k cap e) (hLF : LF F rl cap) (h99 : F 99 = some (cO g 0 (fun _ => none))) (a99 : ad 99 = gn g 99) (hlv : ∀ i, i < k → LIVE ad F (e i)) (hk : k = cap) (h20 : k ≤ 20) : Ct g l yJx4a65c_grow_d5877 cJx4a65c_grow_d5877 1 (some (.array (.object "java/lang/Object"))) 4 1 60 [.ref (ad rl)] ad F (fun v ad' F' => v = some (.ref (ad' (lra rl (ncap cap)))) ∧ AdL rl ad ad' ∧ FrL rl F F' ∧ LR g ad' F' rl k (ncap cap) e ∧ LF F' rl (ncap cap)) := by
  refine Ct_of hl rfl [some (.ref (ad rl))] (Nat.le_of_ble_eq_true rfl) (fun _ h => h) ?_
  intro M hL hN X
  subst hL
  obtain ⟨mo, hobj⟩ := hL.obj
  refine r_aload_n X dJx4a65c_grow_d5877_0 (by rfl) ?_
  refine r_aload_n X dJx4a65c_grow_d5877_1 (by rfl) ?_
  refine r_get X dJx4a65c_grow_d5877_2 fgJx4a65c_48_2 (by assumption) (by rfl) ?_
  refine r_iconst X dJx4a65c_grow_d5877_5 rfl ?_
  refine r_iadd X dJx4a65c_grow_d5877_6 ?_
  refine r_callV X dJx4a65c_grow_d5877_7 kJx4a65c_69 (c_grow1 g _ hl ad F rl k cap e hrl hL hLF h99 a99 hlv hk h20) (by assumption) (by rfl) (by rfl) (by rfl) (by rfl) (by exact Nat.le_of_ble_eq_true rfl) (by decide) (by decide) (by omega) (by omega) (fun v ad' F' hK => ?_)
  obtain ⟨rfl, hK⟩ := hK
  exact r_aret X rfl (.inr ⟨_, rfl⟩) dJx4a65c_grow_d5877_10 (⟨rfl, hK⟩) (by omega) (by omega)
/-- a list with one more element q at place i -/
def eIns (e : Nat → Nat) (i q : Nat) : Nat → Nat := fun j => if j < i then e j else if j = i then q else e (j - 1)
def eDel (e : Nat → Nat) (i : Nat) : Nat → Nat := fun j => if j < i then e j else e (j + 1)
theorem AdL.live {rl : Nat} {ad ad' : Nat → Nat} {F F' : Pic} {q : Nat} (hA : AdL rl ad ad') (hF : FrL rl F F') (hrl : 101 ≤ rl ∧ rl ≤ 104) (hobj : ∃ vs, F rl = some (.inr (2, vs))) (h : LIVE ad F q) : LIVE ad' F' q := h.mono (fun rv ci vs hv hr9 hci => by
  obtain ⟨vs0, ho⟩ := hobj
  have h1 : rv ≠ rl := fun z => by rw [z, ho] at hv; cases hv; omega
  have h2 : ¬ (1000 * (rl - 100) < rv ∧ rv < 1000 * (rl - 100) + 100) := fun z => by omega
  exact ⟨hA rv h2, vs, (hF rv h1 h2).trans hv⟩)
theorem eIns_end {e : Nat → Nat} {k q q1 i : Nat} {f : Nat → Option Nat} (hi : i < k + 1) (hf : ∀ i, i < k → f i = some (e i)) (hq : q1 = q) : va_up f k (some q1) i = some (eIns e k q i) := by
  unfold va_up eIns
  by_cases h : i = k
  · rw [if_pos h, if_neg (by omega), if_pos h, hq]
  · rw [if_neg h, if_pos (by omega)]; exact hf i (by omega)
set_option maxRecDepth 100000 in
set_option maxHeartbeats 4000000 in
theorem c_add3 (g : Gx) (l : Launch) (hl : l.stackTraces = false) (ad : Nat → Nat) (F : Pic) (rl k cap : Nat) (e : Nat → Nat) (hrl : 101 ≤ rl ∧ rl ≤ 104) (hL : LR g ad F rl k cap e) (hLF : LF F rl cap) (h99 : F 99 = some (cO g 0 (fun _ => none))) (a99 : ad 99 = gn g 99) (hlv : ∀ i, i < k → LIVE ad F (e i)) (h20 : k ≤ 20) (rv ci : Nat) (vs : List Value) (hrv : F rv = some (.inr (ci, vs))) (h100 : 100 ≤ rv) (hnr : rv < 1000 ∨ 5000 ≤ rv) (hci : ci = 3 ∨ ci = 4 ∨ ci = 5) : Ct g l yJx4a65c_add_72be8 cJx4a65c_add_72be8 4 none 5 1 60 [.ref (ad rl), .ref (ad rv), .ref (ad (lra rl cap)), .int (zI (k : Int))] ad F (fun v ad' F' => v = none ∧ AdL rl ad ad' ∧ FrL rl F F' ∧ ∃ cap', LR g ad' F' rl (k + 1) cap' (eIns e k (ad rv)) ∧ LF F' rl cap') := by
  refine Ct_of hl rfl [some (.ref (ad rl)), some (.ref (ad rv)), some (.ref (ad (lra rl cap))), some (.int (zI (k : Int)))] (Nat.le_of_ble_eq_true rfl) (fun _ h => h) ?_
  intro M hL hN X
  subst hL
  have hL9 := hL
  obtain ⟨⟨mo, f, hobj, harr, hf⟩, hkc, hc⟩ := hL
  have hne : rv ≠ rl := fun z => by rw [z, hobj] at hrv; cases hrv; omega
  have hna : ¬ (1000 * (rl - 100) < rv ∧ rv < 1000 * (rl - 100) + 100) := fun z => by omega
  -- the end: room is there
  have fin : ∀ (ad1 : Nat → Nat) (F1 : Pic) (cap1 : Nat) (kc9 ks9 : Nat), kc9 ≤ 1 → ks9 ≤ 60 → k < cap1 → AdL rl ad ad1 → FrL rl F F1 → LR g ad1 F1 rl k cap1 e → LF F1 rl cap1 →
      V M g ad1 F1 kc9 ks9 11 [some (.ref (ad rl)), some (.ref (ad rv)), some (.ref (ad1 (lra rl cap1))), some (.int (zI (k : Int)))] [] := fun ad1 F1 cap1 kc9 ks9 hkc9 hks9 hlt hA1 hF1 hL1 hLF1 => by
    obtain ⟨⟨mo1, f1, hobj1, harr1, hf1⟩, hkc1, hc1⟩ := hL1
    have hv1 : F1 rv = some (.inr (ci, vs)) := (hF1 rv hne hna).trans hrv
    rw [← hA1 rl (by omega), ← hA1 rv hna]
    have hla : lra rl cap1 = 1000 * (rl - 100) + cap1 := if_neg (by omega)
    obtain ⟨q9, hq9, hca⟩ := cast_of X hci
    refine r_aload_n X dJx4a65c_add_72be8_11 (by rfl) ?_
    refine r_iload_n X dJx4a65c_add_72be8_12 (by rfl) ?_
    refine r_aload_n X dJx4a65c_add_72be8_13 (by rfl) ?_
    refine r_aast X k dJx4a65c_add_72be8_14 harr1 (by omega) hv1 h100 hq9 hca (by rfl) (by omega) (by omega) ?_
    have h2 : pu F1 (lra rl cap1) (cO g cap1 (va_up f1 k (some (ad1 rv)))) rl = some (.inr (2, [.int (zI mo1), .ref (ad1 (lra rl cap1)), .int (zI k)])) := (pu_n (by omega)).trans hobj1
    refine r_aload_n X dJx4a65c_add_72be8_15 (by rfl) ?_
    refine r_iload_n X dJx4a65c_add_72be8_16 (by rfl) ?_
    refine r_iconst X dJx4a65c_add_72be8_17 rfl ?_
    refine r_iadd X dJx4a65c_add_72be8_18 ?_
    refine r_put X dJx4a65c_add_72be8_19 fwJx4a65c_48_2 (by assumption) (by omega) (by exact Nat.le_of_ble_eq_true rfl) (by rfl) (by rfl) ?_
    dsimp only [List.set]
    exact r_vret X rfl dJx4a65c_add_72be8_22 (⟨rfl, hA1, fun x h1 h3 => (pu_n h1).trans ((pu_n (by omega)).trans (hF1 x h1 h3)), cap1, ⟨⟨mo1, va_up f1 k (some (ad1 rv)), pu_s, (pu_n (by omega)).trans pu_s, fun i hi => eIns_end (by omega) hf1 (hA1 rv hna)⟩, by omega, hc1⟩, fun c h1 h3 => (pu_n (by omega)).trans ((pu_n (by omega)).trans (hLF1 c h1 h3))⟩) (by omega) (by omega)
  refine r_iload_n X dJx4a65c_add_72be8_0 (by rfl) ?_
  refine r_aload_n X dJx4a65c_add_72be8_1 (by rfl) ?_
  refine r_alen (t0 := 2) X dJx4a65c_add_72be8_2 (by assumption) (by rfl) ?_
  refine r_icmp_ne X 11 dJx4a65c_add_72be8_3 (by decide) (by unfold inR; omega) (by unfold inR; omega) (fun a1 => ?_) (fun a1 => ?_)
  · exact fin ad F cap 0 0 (by omega) (by omega) (by omega) (fun _ _ => rfl) (fun _ _ _ => rfl) hL9 hLF
  · refine r_aload_n X dJx4a65c_add_72be8_6 (by rfl) ?_
    refine r_callV X dJx4a65c_add_72be8_7 kJx4a65c_129 (c_grow0 g _ hl ad F rl k cap e hrl hL9 hLF h99 a99 hlv (by omega) h20) (by assumption) (by rfl) (by rfl) (by rfl) (by rfl) (by exact Nat.le_of_ble_eq_true rfl) (by decide) (by decide) (by omega) (by omega) (fun v ad1 F1 hK => ?_)
    obtain ⟨rfl, hA1, hF1, hL1, hLF1⟩ := hK
    refine r_astore_n X dJx4a65c_add_72be8_10 (by rw [hN]; decide) (by rfl) ?_
    dsimp only [List.set]
    have hnc : cap < ncap cap := by unfold ncap; split <;> omega
    exact fin ad1 F1 (ncap cap) 1 60 (by omega) (by omega) (by omega) hA1 hF1 hL1 hLF1
/-- the list's own object is written anew, its array not -/
theorem LR.touch {g : Gx} {ad : Nat → Nat} {F F' : Pic} {rl k cap : Nat} {e : Nat → Nat} (hL : LR g ad F rl k cap e) (hrl : 101 ≤ rl ∧ rl ≤ 104) {mo : Int} (h1 : F' rl = some (.inr (2, [.int (zI mo), .ref (ad (lra rl cap)), .int (zI k)]))) (h2 : ∀ x, x ≠ rl → F' x = F x) : LR g ad F' rl k cap e := by
  obtain ⟨⟨mo9, f, hobj, harr, hf⟩, hkc, hc⟩ := hL
  refine ⟨⟨mo, f, h1, (h2 _ ?_).trans harr, hf⟩, hkc, hc⟩
  unfold lra; split <;> omega
theorem LF.touch {F F' : Pic} {rl cap : Nat} (h : LF F rl cap) (hrl : 101 ≤ rl ∧ rl ≤ 104) (h2 : ∀ x, x ≠ rl → F' x = F x) : LF F' rl cap := fun c h3 h4 => (h2 _ (by omega)).trans (h c h3 h4)
theorem LIVE.touch {ad : Nat → Nat} {F F' : Pic} {rl q : Nat} {vs : List Value} (h : LIVE ad F q) (ho : F rl = some (.inr (2, vs))) (h2 : ∀ x, x ≠ rl → F' x = F x) : LIVE ad F' q := h.mono (fun rv ci vs hv hr9 hci => by
  have h1 : rv ≠ rl := fun z => by rw [z, ho] at hv; cases hv; omega
  exact ⟨rfl, vs, (h2 rv h1).trans hv⟩)
set_option maxRecDepth 100000 in
set_option maxHeartbeats 4000000 in
theorem c_add (g : Gx) (l : Launch) (hl : l.stackTraces = false) (ad : Nat → Nat) (F : Pic) (rl k cap : Nat) (e : Nat → Nat) (hrl : 101 ≤ rl ∧ rl ≤ 104) (hL : LR g ad F rl k cap e) (hLF : LF F rl cap) (h99 : F 99 = some (cO g 0 (fun _ => none))) (a99 : ad 99 = gn g 99) (hlv : ∀ i, i < k → LIVE ad F (e i)) (h20 : k ≤ 20) (rv ci : Nat) (vs : List Value) (hrv : F rv = some (.inr (ci, vs))) (h100 : 100 ≤ rv) (hnr : rv < 1000 ∨ 5000 ≤ rv) (hci : ci = 3 ∨ ci = 4 ∨ ci = 5) : Ct g l yJx4a65c_add_9ea2d cJx4a65c_add_9ea2d 2 (some .boolean) 6 1 60 [.ref (ad rl), .ref (ad rv)] ad F (fun v ad' F' => v = some (.int (zI 1)) ∧ AdL rl ad ad' ∧ FrL rl F F' ∧ ∃ cap', LR g ad' F' rl (k + 1) cap' (eIns e k (ad rv)) ∧ LF F' rl cap') := by
  refine Ct_of hl rfl [some (.ref (ad rl)), some (.ref (ad rv))] (Nat.le_of_ble_eq_true rfl) (fun _ h => h) ?_
  intro M hL hN X
  subst hL
  obtain ⟨mo, hobj⟩ := hL.obj
  have hne : rv ≠ rl := fun z => by rw [z, hobj] at hrv; cases hrv; omega
  refine r_aload_n X dJx4a65c_add_9ea2d_0 (by rfl) ?_
  refine r_dup X dJx4a65c_add_9ea2d_1 (by rfl) ?_
  refine r_get X dJx4a65c_add_9ea2d_2 fgJx4a65c_63_2 (by assumption) (by rfl) ?_
  refine r_iconst X dJx4a65c_add_9ea2d_5 rfl ?_
  refine r_iadd X dJx4a65c_add_9ea2d_6 ?_
  refine r_put X dJx4a65c_add_9ea2d_7 fwJx4a65c_63_2 (by assumption) (by omega) (by exact Nat.le_of_ble_eq_true rfl) (by rfl) (by rfl) ?_
  dsimp only [List.set]
  refine (fun (k : ∀ F1 : Pic, F1 rl = some (.inr (2, [.int (zI (mo + 1)), .ref (ad (lra rl cap)), .int (zI k)])) → (∀ x, x ≠ rl → F1 x = F x) → V M g ad F1 _ _ _ _ _) => k _ pu_s (fun x hx => pu_n hx)) ?_
  intro F1 hobj1 hs1
  refine r_aload_n X dJx4a65c_add_9ea2d_10 (by rfl) ?_
  refine r_aload_n X dJx4a65c_add_9ea2d_11 (by rfl) ?_
  refine r_aload_n X dJx4a65c_add_9ea2d_12 (by rfl) ?_
  refine r_get X dJx4a65c_add_9ea2d_13 fgJx4a65c_9_2 (by assumption) (by rfl) ?_
  refine r_aload_n X dJx4a65c_add_9ea2d_16 (by rfl) ?_
  refine r_get X dJx4a65c_add_9ea2d_17 fgJx4a65c_48_2 (by assumption) (by rfl) ?_
  refine r_callV X dJx4a65c_add_9ea2d_20 kJx4a65c_131 (c_add3 g _ hl ad F1 rl k cap e hrl (hL.touch hrl hobj1 hs1) (hLF.touch hrl hs1) ((hs1 99 (by omega)).trans h99) a99 (fun i hi => (hlv i hi).touch hobj hs1) h20 rv ci vs ((hs1 rv hne).trans hrv) h100 hnr hci) (by assumption) (by rfl) (by rfl) (by rfl) (by rfl) (by exact Nat.le_of_ble_eq_true rfl) (by decide) (by decide) (by omega) (by omega) (fun v ad' F' hK => ?_)
  obtain ⟨rfl, hA, hF, hK⟩ := hK
  refine r_iconst X dJx4a65c_add_9ea2d_23 rfl ?_
  exact r_iret X rfl (rfl) dJx4a65c_add_9ea2d_24 (⟨rfl, hA, fun x h1 h2 => (hF x h1 h2).trans (hs1 x h1), hK⟩) (by omega) (by omega)
set_option maxRecDepth 100000 in
set_option maxHeartbeats 4000000 in
theorem c_rangeCheck (g : Gx) (l : Launch) (hl : l.stackTraces = false) (ad : Nat → Nat) (F : Pic) (rl k cap : Nat) (e : Nat → Nat) (hrl : 101 ≤ rl ∧ rl ≤ 104) (hL : LR g ad F rl k cap e) (i : Nat) (hi : i ≤ k) : Ct g l yJx4a65c_rangeCheckForAdd_d00df cJx4a65c_rangeCheckForAdd_d00df 2 none 1 0 0 [.ref (ad rl), .int (zI (i : Int))] ad F (fun v ad' F' => v = none ∧ ad = ad' ∧ F = F') := by
  refine Ct_of hl rfl [some (.ref (ad rl)), some (.int (zI (i : Int)))] (Nat.le_of_ble_eq_true rfl) (fun _ h => h) ?_
  intro M hL hN X
  subst hL
  obtain ⟨mo, hobj⟩ := hL.obj
  have hk := hL.2
  refine r_iload_n X dJx4a65c_rangeCheckForAdd_d00df_0 (by rfl) ?_
  refine r_aload_n X dJx4a65c_rangeCheckForAdd_d00df_1 (by rfl) ?_
  refine r_get X dJx4a65c_rangeCheckForAdd_d00df_2 fgJx4a65c_48_2 (by assumption) (by rfl) ?_
  refine r_icmp_gt X 12 dJx4a65c_rangeCheckForAdd_d00df_5 (by decide) (by unfold inR; omega) (by unfold inR; omega) (fun a => ?_) (fun a => ?_)
  · omega
  · refine r_iload_n X dJx4a65c_rangeCheckForAdd_d00df_8 (by rfl) ?_
    refine r_if_ge X 25 dJx4a65c_rangeCheckForAdd_d00df_9 (by decide) (by unfold inR; omega) (fun b => ?_) (fun b => ?_)
    · exact r_vret X rfl dJx4a65c_rangeCheckForAdd_d00df_25 (⟨rfl, rfl, rfl⟩) (by omega) (by omega)
    · omega
theorem eIns_at {e : Nat → Nat} {k i j q q1 : Nat} {f : Nat → Option Nat} (hi : i ≤ k) (hj : j < k + 1) (hf : ∀ i, i < k → f i = some (e i)) (hq : q1 = q) : va_up (va_cpy f f i (i + 1) (k - i)) i (some q1) j = some (eIns e i q j) := by
  unfold va_up eIns
  by_cases h : j = i
  · rw [if_pos h, if_neg (by omega), if_pos h, hq]
  · rw [if_neg h]
    by_cases h2 : j < i
    · rw [if_pos h2, pk_cpy_out (by omega)]; exact hf j (by omega)
    · rw [if_neg h2, if_neg h, pk_cpy_in (by omega) (by omega), show i + (j - (i + 1)) = j - 1 by omega]; exact hf _ (by omega)
set_option maxRecDepth 100000 in
set_option maxHeartbeats 4000000 in
theorem c_addAt (g : Gx) (l : Launch) (hl : l.stackTraces = false) (ad : Nat → Nat) (F : Pic) (rl k cap : Nat) (e : Nat → Nat) (hrl : 101 ≤ rl ∧ rl ≤ 104) (hL : LR g ad F rl k cap e) (hLF : LF F rl cap) (h99 : F 99 = some (cO g 0 (fun _ => none))) (a99 : ad 99 = gn g 99) (hlv : ∀ i, i < k → LIVE ad F (e i)) (h20 : k ≤ 20) (rv ci : Nat) (vs : List Value) (hrv : F rv = some (.inr (ci, vs))) (h100 : 100 ≤ rv) (hnr : rv < 1000 ∨ 5000 ≤ rv) (hci : ci = 3 ∨ ci = 4 ∨ ci = 5) (i : Nat) (hi : i ≤ k) : Ct g l yJx4a65c_add_7a177 cJx4a65c_add_7a177 5 none 6 1 60 [.ref (ad rl), .int (zI (i : Int)), .ref (ad rv)] ad F (fun v ad' F' => v = none ∧ AdL rl ad ad' ∧ FrL rl F F' ∧ ∃ cap', LR g ad' F' rl (k + 1) cap' (eIns e i (ad rv)) ∧ LF F' rl cap') := by
  refine Ct_of hl rfl [some (.ref (ad rl)), some (.int (zI (i : Int))), some (.ref (ad rv)), none, none] (Nat.le_of_ble_eq_true rfl) (fun _ h => h) ?_
  intro M hL hN X
  subst hL
  obtain ⟨mo, hobj⟩ := hL.obj
  have hkc := hL.2
  have hne : rv ≠ rl := fun z => by rw [z, hobj] at hrv; cases hrv; omega
  have hna : ¬ (1000 * (rl - 100) < rv ∧ rv < 1000 * (rl - 100) + 100) := fun z => by omega
  refine r_aload_n X dJx4a65c_add_7a177_0 (by rfl) ?_
  refine r_iload_n X dJx4a65c_add_7a177_1 (by rfl) ?_
  refine r_callV X dJx4a65c_add_7a177_2 kJx4a65c_135 (c_rangeCheck g _ hl ad F rl k cap e hrl hL i hi) (by assumption) (by rfl) (by rfl) (by rfl) (by rfl) (by exact Nat.le_of_ble_eq_true rfl) (by decide) (by decide) (by omega) (by omega) (fun v ad' F' hK => ?_)
  obtain ⟨rfl, rfl, rfl⟩ := hK
  refine r_aload_n X dJx4a65c_add_7a177_5 (by rfl) ?_
  refine r_dup X dJx4a65c_add_7a177_6 (by rfl) ?_
  refine r_get X dJx4a65c_add_7a177_7 fgJx4a65c_63_2 (by assumption) (by rfl) ?_
  refine r_iconst X dJx4a65c_add_7a177_10 rfl ?_
  refine r_iadd X dJx4a65c_add_7a177_11 ?_
  refine r_put X dJx4a65c_add_7a177_12 fwJx4a65c_63_2 (by assumption) (by omega) (by exact Nat.le_of_ble_eq_true rfl) (by rfl) (by rfl) ?_
  dsimp only [List.set]
  refine (fun (k : ∀ F1 : Pic, F1 rl = some (.inr (2, [.int (zI (mo + 1)), .ref (ad (lra rl cap)), .int (zI k)])) → (∀ x, x ≠ rl → F1 x = F x) → V M g ad F1 _ _ _ _ _) => k _ pu_s (fun x hx => pu_n hx)) ?_
  intro F1 hobj1 hs1
  have hL1 := hL.touch hrl hobj1 hs1
  have hLF1 := hLF.touch hrl hs1
  have hlv1 : ∀ i, i < k → LIVE ad F1 (e i) := fun i hi => (hlv i hi).touch hobj hs1
  have hv1 : F1 rv = some (.inr (ci, vs)) := (hs1 rv hne).trans hrv
  have fin : ∀ (ad2 : Nat → Nat) (F2 : Pic) (cap2 : Nat) (kc9 ks9 : Nat), kc9 ≤ 1 → ks9 ≤ 60 → k < cap2 → AdL rl ad ad2 → FrL rl F1 F2 → LR g ad2 F2 rl k cap2 e → LF F2 rl cap2 →
      V M g ad2 F2 kc9 ks9 38 [some (.ref (ad rl)), some (.int (zI (i : Int))), some (.ref (ad rv)), some (.int (zI (k : Int))), some (.ref (ad2 (lra rl cap2)))] [] := fun ad2 F2 cap2 kc9 ks9 hkc9 hks9 hlt hA2 hF2 hL2 hLF2 => by
    obtain ⟨⟨mo2, f2, hobj2, harr2, hf2⟩, hkc2, hc2⟩ := hL2
    have hv2 : F2 rv = some (.inr (ci, vs)) := (hF2 rv hne hna).trans hv1
    rw [← hA2 rl (by omega), ← hA2 rv hna]
    have hla : lra rl cap2 = 1000 * (rl - 100) + cap2 := if_neg (by omega)
    obtain ⟨q9, hq9, hca⟩ := cast_of X hci
    refine r_aload X dJx4a65c_add_7a177_38 (by rfl) ?_
    refine r_iload_n X dJx4a65c_add_7a177_40 (by rfl) ?_
    refine r_aload X dJx4a65c_add_7a177_41 (by rfl) ?_
    refine r_iload_n X dJx4a65c_add_7a177_43 (by rfl) ?_
    refine r_iconst X dJx4a65c_add_7a177_44 rfl ?_
    refine r_iadd X dJx4a65c_add_7a177_45 ?_
    refine r_iload_n X dJx4a65c_add_7a177_46 (by rfl) ?_
    refine r_iload_n X dJx4a65c_add_7a177_47 (by rfl) ?_
    refine r_isub X dJx4a65c_add_7a177_48 ?_
    refine r_copy X i (i + 1) (k - i) dJx4a65c_add_7a177_49 w378 w310 w15 harr2 harr2 (by omega) (by omega) (by rfl) (by omega) (by omega) ⟨by omega, by omega, by omega, by omega⟩ (fun j hj q hq => by
      rw [hf2 _ (by omega)] at hq
      cases hq
      exact AdL.live hA2 hF2 hrl ⟨_, hobj1⟩ (hlv1 _ (by omega))) (by decide) (Nat.le_of_ble_eq_true rfl) ?_
    have h3 : pu F2 (lra rl cap2) (cO g cap2 (va_cpy f2 f2 i (i + 1) (k - i))) (lra rl cap2) = some (cO g cap2 (va_cpy f2 f2 i (i + 1) (k - i))) := pu_s
    have h4 : pu F2 (lra rl cap2) (cO g cap2 (va_cpy f2 f2 i (i + 1) (k - i))) rv = some (.inr (ci, vs)) := (pu_n (by omega)).trans hv2
    have h5 : pu F2 (lra rl cap2) (cO g cap2 (va_cpy f2 f2 i (i + 1) (k - i))) rl = some (.inr (2, [.int (zI mo2), .ref (ad2 (lra rl cap2)), .int (zI k)])) := (pu_n (by omega)).trans hobj2
    have h6 : ∀ x, x ≠ lra rl cap2 → pu F2 (lra rl cap2) (cO g cap2 (va_cpy f2 f2 i (i + 1) (k - i))) x = F2 x := fun x hx => pu_n hx
    generalize pu F2 (lra rl cap2) (cO g cap2 (va_cpy f2 f2 i (i + 1) (k - i))) = F3 at h3 h4 h5 h6 ⊢
    refine r_aload X dJx4a65c_add_7a177_52 (by rfl) ?_
    refine r_iload_n X dJx4a65c_add_7a177_54 (by rfl) ?_
    refine r_aload_n X dJx4a65c_add_7a177_55 (by rfl) ?_
    refine r_aast X i dJx4a65c_add_7a177_56 h3 (by omega) h4 h100 hq9 hca (by rfl) (by omega) (by omega) ?_
    have h7 : pu F3 (lra rl cap2) (cO g cap2 (va_up (va_cpy f2 f2 i (i + 1) (k - i)) i (some (ad2 rv)))) rl = some (.inr (2, [.int (zI mo2), .ref (ad2 (lra rl cap2)), .int (zI k)])) := (pu_n (by omega)).trans h5
    refine r_aload_n X dJx4a65c_add_7a177_57 (by rfl) ?_
    refine r_iload_n X dJx4a65c_add_7a177_58 (by rfl) ?_
    refine r_iconst X dJx4a65c_add_7a177_59 rfl ?_
    refine r_iadd X dJx4a65c_add_7a177_60 ?_
    refine r_put X dJx4a65c_add_7a177_61 fwJx4a65c_48_2 (by assumption) (by omega) (by exact Nat.le_of_ble_eq_true rfl) (by rfl) (by rfl) ?_
    dsimp only [List.set]
    exact r_vret X rfl dJx4a65c_add_7a177_64 (⟨rfl, hA2, fun x h1 h9 => (pu_n h1).trans ((pu_n (by omega)).trans ((h6 x (by omega)).trans ((hF2 x h1 h9).trans (hs1 x h1)))), cap2, ⟨⟨mo2, _, pu_s, (pu_n (by omega)).trans pu_s, fun j hj => eIns_at hi hj hf2 (hA2 rv hna)⟩, by omega, hc2⟩, fun c h1 h9 => (pu_n (by omega)).trans ((pu_n (by omega)).trans ((h6 _ (by omega)).trans (hLF2 c h1 h9)))⟩) (by omega) (by omega)
  obtain ⟨⟨mo9, f9, hobj9, harr9, hf9⟩, hkc9, hc9⟩ := id hL1
  refine r_aload_n X dJx4a65c_add_7a177_15 (by rfl) ?_
  refine r_get X dJx4a65c_add_7a177_16 fgJx4a65c_48_2 (by assumption) (by rfl) ?_
  refine r_dup X dJx4a65c_add_7a177_19 (by rfl) ?_
  refine r_istore_n X dJx4a65c_add_7a177_20 (by rw [hN]; decide) (by rfl) ?_
  dsimp only [List.set]
  refine r_aload_n X dJx4a65c_add_7a177_21 (by rfl) ?_
  refine r_get X dJx4a65c_add_7a177_22 fgJx4a65c_9_2 (by assumption) (by rfl) ?_
  refine r_dup X dJx4a65c_add_7a177_25 (by rfl) ?_
  refine r_astore X dJx4a65c_add_7a177_26 (by rw [hN]; decide) (by rfl) ?_
  dsimp only [List.set]
  refine r_alen (t0 := 2) X dJx4a65c_add_7a177_28 (by assumption) (by rfl) ?_
  refine r_icmp_ne X 38 dJx4a65c_add_7a177_29 (by decide) (by unfold inR; omega) (by unfold inR; omega) (fun a1 => ?_) (fun a1 => ?_)
  · exact fin ad F1 cap 0 0 (by omega) (by omega) (by omega) (fun _ _ => rfl) (fun _ _ _ => rfl) hL1 hLF1
  · refine r_aload_n X dJx4a65c_add_7a177_32 (by rfl) ?_
    refine r_callV X dJx4a65c_add_7a177_33 kJx4a65c_129 (c_grow0 g _ hl ad F1 rl k cap e hrl hL1 hLF1 ((hs1 99 (by omega)).trans h99) a99 hlv1 (by omega) h20) (by assumption) (by rfl) (by rfl) (by rfl) (by rfl) (by exact Nat.le_of_ble_eq_true rfl) (by decide) (by decide) (by omega) (by omega) (fun v ad2 F2 hK => ?_)
    obtain ⟨rfl, hA2, hF2, hL2, hLF2⟩ := hK
    refine r_astore X dJx4a65c_add_7a177_36 (by rw [hN]; decide) (by rfl) ?_
    dsimp only [List.set]
    have hnc : cap < ncap cap := by unfold ncap; split <;> omega
    exact fin ad2 F2 (ncap cap) 1 60 (by omega) (by omega) (by omega) hA2 hF2 hL2 hLF2
