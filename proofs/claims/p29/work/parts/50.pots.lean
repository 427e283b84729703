/-! ===== the order of the pots ===== -/
def cpos (ex : Nat → Int) (e : Nat → Nat) (v : Int) : Nat → Nat
  | 0 => 0
  | k + 1 => cpos ex e v k + (if ex (e k) ≤ v then 1 else 0)
def Sd (ex : Nat → Int) (e : Nat → Nat) (k : Nat) : Prop := ∀ i j, i ≤ j → j < k → ex (e i) ≤ ex (e j)
theorem cpos_min {ex : Nat → Int} {e : Nat → Nat} {v : Int} {p : Nat} : ∀ k, (∀ i, i < p → i < k → ex (e i) ≤ v) → (∀ i, p ≤ i → i < k → v < ex (e i)) → cpos ex e v k = min p k := by
  intro k
  induction k with
  | zero => intro _ _; show 0 = _; omega
  | succ k ih =>
    intro h1 h2
    show cpos ex e v k + _ = _
    rw [ih (fun i a b => h1 i a (by omega)) (fun i a b => h2 i a (by omega))]
    by_cases h : k < p
    · rw [if_pos (h1 k h (by omega))]; omega
    · rw [if_neg (by have := h2 k (by omega) (by omega); omega)]; omega
theorem cpos_eq {ex : Nat → Int} {e : Nat → Nat} {v : Int} {p k : Nat} (hp : p ≤ k) (h1 : ∀ i, i < p → ex (e i) ≤ v) (h2 : ∀ i, p ≤ i → i < k → v < ex (e i)) : cpos ex e v k = p := by
  rw [cpos_min k (fun i a _ => h1 i a) h2]; omega
theorem cpos_ex {ex : Nat → Int} {e : Nat → Nat} {v : Int} {k : Nat} (h : Sd ex e k) : ∃ p, p ≤ k ∧ (∀ i, i < p → ex (e i) ≤ v) ∧ (∀ i, p ≤ i → i < k → v < ex (e i)) := by
  induction k with
  | zero => exact ⟨0, by omega, fun i hi => by omega, fun i _ hi => by omega⟩
  | succ k ih =>
    obtain ⟨p, h1, h2, h3⟩ := ih (fun i j a b => h i j a (by omega))
    by_cases hp : p < k
    · refine ⟨p, by omega, h2, fun i a b => ?_⟩
      have := h3 p (by omega) hp
      have := h p i a b
      omega
    · by_cases hv : ex (e k) ≤ v
      · refine ⟨k + 1, by omega, fun i hi => ?_, fun i a b => by omega⟩
        have := h i k (by omega) (by omega)
        omega
      · exact ⟨k, by omega, fun i hi => h2 i (by omega), fun i a b => by rw [show i = k by omega]; omega⟩
theorem cpos_sd {ex : Nat → Int} {e : Nat → Nat} {v : Int} {k : Nat} (h : Sd ex e k) : cpos ex e v k ≤ k ∧ (∀ i, i < cpos ex e v k → ex (e i) ≤ v) ∧ (∀ i, cpos ex e v k ≤ i → i < k → v < ex (e i)) := by
  obtain ⟨p, h1, h2, h3⟩ := cpos_ex (v := v) h
  rw [cpos_eq h1 h2 h3]
  exact ⟨h1, h2, h3⟩
theorem Sd.ins {ex : Nat → Int} {e : Nat → Nat} {k q : Nat} (h : Sd ex e k) : Sd ex (eIns e (cpos ex e (ex q) k) q) (k + 1) := by
  obtain ⟨h1, h2, h3⟩ := cpos_sd (v := ex q) h
  generalize cpos ex e (ex q) k = p at h1 h2 h3
  intro i j hij hj
  unfold eIns
  by_cases a : i < p
  · rw [if_pos a]
    by_cases b : j < p
    · rw [if_pos b]; exact h i j hij (by omega)
    · rw [if_neg b]
      by_cases c : j = p
      · rw [if_pos c]; exact h2 i a
      · rw [if_neg c]
        have := h2 i a
        have := h3 (j - 1) (by omega) (by omega)
        omega
  · rw [if_neg a]
    by_cases a2 : i = p
    · rw [if_pos a2]
      by_cases c : j = p
      · rw [if_neg (by omega), if_pos c]; exact Int.le_refl _
      · rw [if_neg (by omega), if_neg c]
        have := h3 (j - 1) (by omega) (by omega)
        omega
    · rw [if_neg a2, if_neg (by omega), if_neg (by omega)]
      exact h (i - 1) (j - 1) (by omega) (by omega)
def cd (nk s : Nat) : Nat := if s < nk then s else 6 + (s - nk)
def PSq (ex : Nat → Int) (nk : Nat) : Nat → Nat → Nat
  | 0 => fun _ => 0
  | s + 1 => eIns (PSq ex nk s) (cpos ex (PSq ex nk s) (ex (cd nk s)) s) (cd nk s)
theorem PSq_sd (ex : Nat → Int) (nk : Nat) : ∀ s, Sd ex (PSq ex nk s) s := by
  intro s
  induction s with
  | zero => intro i j _ hj; omega
  | succ s ih => exact Sd.ins ih
theorem PSq_mem (ex : Nat → Int) (nk : Nat) : ∀ s p, p < s → ∃ r, r < s ∧ PSq ex nk s p = cd nk r := by
  intro s
  induction s with
  | zero => intro p hp; omega
  | succ s ih =>
    intro p hp
    have hc := (cpos_sd (v := ex (cd nk s)) (PSq_sd ex nk s)).1
    show ∃ r, r < s + 1 ∧ eIns (PSq ex nk s) (cpos ex (PSq ex nk s) (ex (cd nk s)) s) (cd nk s) p = cd nk r
    unfold eIns
    by_cases a : p < cpos ex (PSq ex nk s) (ex (cd nk s)) s
    · rw [if_pos a]
      obtain ⟨r, h1, h2⟩ := ih p (by omega)
      exact ⟨r, by omega, h2⟩
    · rw [if_neg a]
      by_cases b : p = cpos ex (PSq ex nk s) (ex (cd nk s)) s
      · rw [if_pos b]; exact ⟨s, by omega, rfl⟩
      · rw [if_neg b]
        obtain ⟨r, h1, h2⟩ := ih (p - 1) (by omega)
        exact ⟨r, by omega, h2⟩
theorem cd_vc {nf nk r : Nat} (h : r < nk + nf) (h6 : nk ≤ 6) : VC nf nk (cd nk r) := by
  unfold cd VC
  by_cases a : r < nk
  · rw [if_pos a]; exact .inl ⟨by omega, a⟩
  · rw [if_neg a]; exact .inr ⟨by omega, by omega⟩
/-- only the pots' list was written -/
theorem RX.pots {g : Gx} {ad ad' : Nat → Nat} {F F' : Pic} {td : Int} {nf nk nc : Nat} {A P : Nat → Nat → Int} {kf ser : Nat → Nat} {sn : Nat} (hX : RX g ad F td nf nk nc A P kf ser sn) (hI : ∀ i, i < nk → kf i < nf) (hF : FrL 104 F F') (hA : AdL 104 ad ad') {k : Nat} {e : Nat → Nat} (hL : CL g ad' F' 104 k e) : RX g ad' F' td nf nk nc A P kf ser sn := by
  obtain ⟨hO, ⟨⟨cap1, hR1, hLF1⟩, ⟨cap2, hR2, hLF2⟩, ⟨cap3, hR3, hLF3⟩, kp, ep, cap4, hR4, hLF4⟩, hP, ⟨hnf, hFu, hFuN⟩, ⟨hnc, hCo, hCoN⟩, ⟨⟨hnk, hsn⟩, hKm, hKi, hKN⟩⟩ := id hX; obtain ⟨hO, h9, a99⟩ := hO
  refine ⟨CO.fr ⟨hO, h9, a99⟩ (hF _ (by omega) (by omega)) (hF _ (by omega) (by omega)) (fun x hx => hA x (by omega)), ⟨CL.fr ⟨cap1, hR1, hLF1⟩ (by omega) (fun x hx => hF x ?_ ?_) (fun x hx => hA x ?_) (fun i hi => hA _ (by omega)), CL.fr ⟨cap2, hR2, hLF2⟩ (by omega) (fun x hx => hF x ?_ ?_) (fun x hx => hA x ?_) (fun i hi => hA _ (by omega)), CL.fr ⟨cap3, hR3, hLF3⟩ (by omega) (fun x hx => hF x ?_ ?_) (fun x hx => hA x ?_) (fun i hi => hA _ (by omega)), k, e, hL⟩,
    hP.fr (fun x z1 z2 => hF x (by omega) (by omega)) (fun x z1 z2 => hA x (by omega)), CFu.fr ⟨hnf, hFu, hFuN⟩ (fun x z1 z2 => hF x (by omega) (by omega)), CCo.fr ⟨hnc, hCo, hCoN⟩ (fun x z1 z2 => hF x (by omega) (by omega)) (fun i hi => hA _ (by omega)), CK.fr ⟨⟨hnk, hsn⟩, hKm, hKi, hKN⟩ (fun x z1 z2 => hF x (by omega) (by omega)) (fun i hi => hA _ (by have := hI i hi; omega))⟩
  all_goals (unfold inA at hx; omega)
theorem IV.ex {td : Int} {nf nk nc : Nat} {A : Nat → Nat → Int} {kf : Nat → Nat} {t c : Nat} (h : IV td nf nk nc A kf t) (hc : VC nf nk c) : 0 ≤ exc A c ∧ exc A c ≤ 999 := by
  unfold exc
  rcases hc with ⟨h1, h2⟩ | ⟨h1, h2⟩
  · rw [if_pos h1]; exact (h.2.2.1 c h2).2.2.2
  · rw [if_neg (by omega)]; exact (h.2.1 _ h2).2.2.1
theorem CO.o4 {g : Gx} {ad : Nat → Nat} {F : Pic} {rl k : Nat} {e : Nat → Nat} (h : CL g ad F rl k e) : ∃ mo cap, F rl = some (.inr (2, [.int (zI mo), .ref (ad (lra rl cap)), .int (zI k)])) := by
  obtain ⟨cap, h, -⟩ := h
  obtain ⟨mo, h⟩ := h.obj
  exact ⟨mo, cap, h⟩
set_option maxRecDepth 100000 in
set_option maxHeartbeats 4000000 in
theorem c_lineUp (g : Gx) (l : Launch) (hl : l.stackTraces = false) (ad : Nat → Nat) (F : Pic) (td : Int) (nf nk nc : Nat) (A P : Nat → Nat → Int) (kf ser : Nat → Nat) (sn : Nat) (hX : RX g ad F td nf nk nc A P kf ser sn) (t : Nat) (hI : IV td nf nk nc A kf t) (e : Nat → Nat) (k : Nat) (hQ : CL g ad F 104 k (fun p => ad (prl ser (e p)))) (he : ∀ p, p < k → VC nf nk (e p)) (hk12 : k < 12) (q : Nat) (hq : VC nf nk q) (hs : Sd (exc A) e k) : Ct g l yX5_lineUp cX5_lineUp 3 none 7 1 60 [.ref (ad 100), .ref (ad (prl ser q))] ad F (fun v ad' F' => v = none ∧ AdL 104 ad ad' ∧ FrL 104 F F' ∧ CL g ad' F' 104 (k + 1) (fun p => ad' (prl ser (eIns e (cpos (exc A) e (exc A q) k) q p)))) := by
  refine Ct_of hl rfl [some (.ref (ad 100)), some (.ref (ad (prl ser q))), none] (Nat.le_of_ble_eq_true rfl) (fun _ h => h) ?_
  intro M hL hN X
  subst hL
  have hkf : ∀ i, i < nk → kf i < nf := fun i hi => (hI.2.2.1 i hi).1
  have hX0 := hX
  obtain ⟨cap4, hR4, hLF4⟩ := id hQ
  obtain ⟨hO, -, -, ⟨hnf, hFu, -⟩, -, ⟨⟨hnk, hsn⟩, hKm, -⟩⟩ := id hX
  obtain ⟨hO, h9, a99⟩ := hO
  obtain ⟨mo4, ho4⟩ := hR4.obj
  have hpc := fun c (hc : VC nf nk c) => hX0.pot hkf hc
  obtain ⟨p1, p2, p3⟩ := cpos_sd (v := exc A q) hs
  have hpr : ∀ c, VC nf nk c → 100 ≤ prl ser c ∧ (prl ser c < 1000 ∨ 5000 ≤ prl ser c) := fun c hc => by
    unfold prl; rcases hc with ⟨h1, h2⟩ | ⟨h1, h2⟩ <;> split <;> omega
  have hlv : ∀ c, VC nf nk c → ∃ ci vs, F (prl ser c) = some (.inr (ci, vs)) ∧ (ci = 3 ∨ ci = 4 ∨ ci = 5) := fun c hc => by
    obtain ⟨z1, z2⟩ := hpc c hc
    by_cases h6 : c < 6
    · rw [if_pos h6] at z1; exact ⟨3, _, by rw [show prl ser c = 10000 + ser c from if_pos h6]; exact z1, .inl rfl⟩
    · rw [show ow kf c = c - 6 from if_neg h6] at z2; exact ⟨5, _, by rw [show prl ser c = 300 + (c - 6) from if_neg h6]; exact z2, .inr (.inr rfl)⟩
  have exq := hI.ex hq
  have fin : V M g ad F 0 0 40 [some (.ref (ad 100)), some (.ref (ad (prl ser q))), some (.int (zI ((cpos (exc A) e (exc A q) k : Nat) : Int)))] [] := by
    obtain ⟨ci, vs, hv, hci⟩ := hlv q hq
    refine r_aload_n X dX5_lineUp_40 (by rfl) ?_
    refine r_get X dX5_lineUp_41 fgX5_22_7 (by assumption) (by rfl) ?_
    refine r_iload_n X dX5_lineUp_44 (by rfl) ?_
    refine r_aload_n X dX5_lineUp_45 (by rfl) ?_
    refine r_callV X dX5_lineUp_46 kX5_224 (c_addAt g _ hl ad F 104 k cap4 _ (by omega) hR4 hLF4 h9 a99 (fun i hi => (by obtain ⟨ci9, vs9, h1, h2⟩ := hlv (e i) (he i hi); exact ⟨_, ci9, vs9, rfl, h1, hpr _ (he i hi), h2⟩)) (by omega) (prl ser q) ci vs hv (hpr q hq).1 (hpr q hq).2 hci _ p1) (by assumption) (by rfl) (by rfl) (by rfl) (by rfl) (by exact Nat.le_of_ble_eq_true rfl) (by decide) (by decide) (by omega) (by omega) (fun v ad' F' hK => ?_)
    obtain ⟨rfl, hA, hF, cap', hR', hLF'⟩ := hK
    have hee : ∀ j, j < k + 1 → ad' (prl ser (eIns e (cpos (exc A) e (exc A q) k) q j)) = eIns (fun p => ad (prl ser (e p))) (cpos (exc A) e (exc A q) k) (ad (prl ser q)) j := fun j hj => by
      have hvc : VC nf nk (eIns e (cpos (exc A) e (exc A q) k) q j) := by
        unfold eIns; split
        · exact he j (by omega)
        · split
          · exact hq
          · exact he (j - 1) (by omega)
      rw [hA _ (by have := hpr _ hvc; omega)]
      unfold eIns; split
      · rfl
      · split <;> rfl
    exact r_vret X rfl dX5_lineUp_49 (⟨rfl, hA, hF, cap', hR'.fr2 rfl rfl rfl hee, hLF'⟩) (by omega) (by omega)
  have loop : ∀ (m i : Nat), cpos (exc A) e (exc A q) k - i = m → i ≤ cpos (exc A) e (exc A q) k → V M g ad F 0 0 2 [some (.ref (ad 100)), some (.ref (ad (prl ser q))), some (.int (zI (i : Int)))] [] := by
    intro m
    induction m using Nat.strongRecOn with
    | _ m ih =>
      intro i hm hi
      refine r_iload_n X dX5_lineUp_2 (by rfl) ?_
      refine r_aload_n X dX5_lineUp_3 (by rfl) ?_
      refine r_get X dX5_lineUp_4 fgX5_22_7 (by assumption) (by rfl) ?_
      refine r_callV X dX5_lineUp_7 kX5_41 (c_size g _ hl ad F 104 k cap4 _ (by omega) hR4) (by assumption) (by rfl) (by rfl) (by rfl) (by rfl) (by exact Nat.le_of_ble_eq_true rfl) (by decide) (by decide) (by omega) (by omega) (fun v ad' F' hK => ?_)
      obtain ⟨rfl, rfl, rfl⟩ := hK
      refine r_icmp_ge X 40 dX5_lineUp_10 (by decide) (by unfold inR; omega) (by unfold inR; omega) (fun a => ?_) (fun a => ?_)
      · rw [show i = cpos (exc A) e (exc A q) k by omega]; exact fin
      · have hei := he i (by omega)
        have exi := hI.ex hei
        refine r_aload_n X dX5_lineUp_13 (by rfl) ?_
        refine r_get X dX5_lineUp_14 fgX5_22_7 (by assumption) (by rfl) ?_
        refine r_iload_n X dX5_lineUp_17 (by rfl) ?_
        refine r_callV X dX5_lineUp_18 kX5_118 (c_get g _ hl ad F 104 k cap4 _ (by omega) hR4 i (by omega)) (by assumption) (by rfl) (by rfl) (by rfl) (by rfl) (by exact Nat.le_of_ble_eq_true rfl) (by decide) (by decide) (by omega) (by omega) (fun v ad' F' hK => ?_)
        obtain ⟨rfl, rfl, rfl⟩ := hK
        refine q_cast X rfl (hpc _ hei) dX5_lineUp_21 ?_
        refine q_exp X rfl (hpc _ hei) dX5_lineUp_24 (by exact Nat.le_of_ble_eq_true rfl) (by omega) (by omega) (by omega) ?_
        refine r_aload_n X dX5_lineUp_27 (by rfl) ?_
        refine q_exp X rfl (hpc _ hq) dX5_lineUp_28 (by exact Nat.le_of_ble_eq_true rfl) (by omega) (by omega) (by omega) ?_
        refine r_icmp_gt X 40 dX5_lineUp_31 (by decide) (by unfold inR; omega) (by unfold inR; omega) (fun b => ?_) (fun b => ?_)
        · have hi2 : ¬ i < cpos (exc A) e (exc A q) k := fun z => by have := p2 i z; omega
          rw [show i = cpos (exc A) e (exc A q) k by omega]; exact fin
        · have hi2 : i < cpos (exc A) e (exc A q) k := by
            rcases Nat.lt_or_ge i (cpos (exc A) e (exc A q) k) with z | z
            · exact z
            · have := p3 i z (by omega); omega
          refine r_iinc X dX5_lineUp_34 (by rfl) (by rw [hN]; decide) (by rfl) ?_
          dsimp only [List.set]
          refine r_goto X dX5_lineUp_37 2 (by decide) ?_
          exact ih (cpos (exc A) e (exc A q) k - (i + 1)) (by omega) (i + 1) rfl (by omega)
  refine r_iconst X dX5_lineUp_0 rfl ?_
  refine r_istore_n X dX5_lineUp_1 (by rw [hN]; decide) (by rfl) ?_
  dsimp only [List.set]
  exact loop _ 0 rfl (by omega)
set_option maxRecDepth 100000 in
set_option maxHeartbeats 4000000 in
theorem c_lineUpPots (g : Gx) (l : Launch) (hl : l.stackTraces = false) (ad : Nat → Nat) (F : Pic) (td : Int) (nf nk nc : Nat) (A P : Nat → Nat → Int) (kf ser : Nat → Nat) (sn : Nat) (hX : RX g ad F td nf nk nc A P kf ser sn) (t : Nat) (hI : IV td nf nk nc A kf t) : Ct g l yX5_lineUpPots cX5_lineUpPots 2 none 8 12 720 [.ref (ad 100)] ad F (fun v ad' F' => v = none ∧ AdL 104 ad ad' ∧ FrL 104 F F' ∧ RX g ad' F' td nf nk nc A P kf ser sn ∧ CL g ad' F' 104 (nk + nf) (fun p => ad' (prl ser (PSq (exc A) nk (nk + nf) p)))) := by
  refine Ct_of hl rfl [some (.ref (ad 100)), none] (Nat.le_of_ble_eq_true rfl) (fun _ h => h) ?_
  intro M hL hN X
  subst hL
  have hkf : ∀ i, i < nk → kf i < nf := fun i hi => (hI.2.2.1 i hi).1
  have hX0 := hX
  obtain ⟨hO, ⟨⟨cap1, hR1, hLF1⟩, ⟨cap2, hR2, hLF2⟩, ⟨cap3, hR3, hLF3⟩, kp, ep, cap4, hR4, hLF4⟩, hP, ⟨hnf, hFu, hFuN⟩, ⟨hnc, hCo, hCoN⟩, ⟨⟨hnk, hsn⟩, hKm, hKi, hKN⟩⟩ := id hX; obtain ⟨hO, h9, a99⟩ := hO
  obtain ⟨mo1, ho1⟩ := hR1.obj; obtain ⟨mo2, ho2⟩ := hR2.obj; obtain ⟨mo3, ho3⟩ := hR3.obj; obtain ⟨mo4, ho4⟩ := hR4.obj
  have hno : nf ≤ 6 ∧ nk ≤ 6 := ⟨hnf, hnk⟩
  -- a state in the course: s pots are lined up
  have St : ∀ (ad1 : Nat → Nat) (F1 : Pic), AdL 104 ad ad1 → FrL 104 F F1 → (∃ k e, CL g ad1 F1 104 k e) → RX g ad1 F1 td nf nk nc A P kf ser sn := fun ad1 F1 h1 h2 h3 => by
    obtain ⟨k, e, h3⟩ := h3
    exact hX0.pots hkf h2 h1 h3
  have hcd : ∀ s, s < nk + nf → VC nf nk (cd nk s) := fun s hs => cd_vc hs hnk
  have hvs : ∀ s, s ≤ nk + nf → ∀ p, p < s → VC nf nk (PSq (exc A) nk s p) := fun s hs p hp => by
    obtain ⟨r, h1, h2⟩ := PSq_mem (exc A) nk s p hp
    rw [h2]; exact hcd r (by omega)
  have funds : ∀ (m i : Nat) (ad1 : Nat → Nat) (F1 : Pic) (kc ks : Nat), nf - i = m → i ≤ nf → kc ≤ nk + i → ks ≤ 60 * (nk + i) → AdL 104 ad ad1 → FrL 104 F F1 → CL g ad1 F1 104 (nk + i) (fun p => ad1 (prl ser (PSq (exc A) nk (nk + i) p))) →
      V M g ad1 F1 kc ks 43 [some (.ref (ad1 100)), some (.int (zI (i : Int)))] [] := by
    intro m
    induction m with
    | zero =>
      intro i ad1 F1 kc ks hm hi hkc hks hA1 hF1 hQ
      have hX1 := St ad1 F1 hA1 hF1 ⟨_, _, hQ⟩
      obtain ⟨hO1, ⟨⟨c1, hR1, -⟩, -⟩, -⟩ := id hX1
      obtain ⟨hO1, -⟩ := hO1
      obtain ⟨m1, ho1⟩ := hR1.obj
      refine r_iload_n X dX5_lineUpPots_43 (by rfl) ?_
      refine r_aload_n X dX5_lineUpPots_44 (by rfl) ?_
      refine r_get X dX5_lineUpPots_45 fgX5_12_7 (by assumption) (by rfl) ?_
      refine r_callV X dX5_lineUpPots_48 kX5_41 (c_size g _ hl ad1 F1 101 nf c1 _ (by omega) hR1) (by assumption) (by rfl) (by rfl) (by rfl) (by rfl) (by exact Nat.le_of_ble_eq_true rfl) (by decide) (by decide) (by omega) (by omega) (fun v ad' F' hK => ?_)
      obtain ⟨rfl, rfl, rfl⟩ := hK
      obtain rfl : i = nf := by omega
      refine r_icmp_ge X 75 dX5_lineUpPots_51 (by decide) (by unfold inR; omega) (by unfold inR; omega) (fun a => ?_) (fun a => ?_)
      · exact r_vret X rfl dX5_lineUpPots_75 (⟨rfl, hA1, hF1, hX1, hQ⟩) (by omega) (by omega)
      · omega
    | succ m ih =>
      intro i ad1 F1 kc ks hm hi hkc hks hA1 hF1 hQ
      have hX1 := St ad1 F1 hA1 hF1 ⟨_, _, hQ⟩
      obtain ⟨hO1, ⟨⟨c1, hR1, -⟩, -⟩, -⟩ := id hX1
      obtain ⟨hO1, -⟩ := hO1
      obtain ⟨m1, ho1⟩ := hR1.obj
      have hc : VC nf nk (cd nk (nk + i)) := hcd _ (by omega)
      have hcc : cd nk (nk + i) = 6 + i := by unfold cd; rw [if_neg (by omega)]; omega
      have hpp : prl ser (cd nk (nk + i)) = 300 + i := by rw [hcc]; unfold prl; rw [if_neg (by omega)]; omega
      refine r_iload_n X dX5_lineUpPots_43 (by rfl) ?_
      refine r_aload_n X dX5_lineUpPots_44 (by rfl) ?_
      refine r_get X dX5_lineUpPots_45 fgX5_12_7 (by assumption) (by rfl) ?_
      refine r_callV X dX5_lineUpPots_48 kX5_41 (c_size g _ hl ad1 F1 101 nf c1 _ (by omega) hR1) (by assumption) (by rfl) (by rfl) (by rfl) (by rfl) (by exact Nat.le_of_ble_eq_true rfl) (by decide) (by decide) (by omega) (by omega) (fun v ad' F' hK => ?_)
      obtain ⟨rfl, rfl, rfl⟩ := hK
      refine r_icmp_ge X 75 dX5_lineUpPots_51 (by decide) (by unfold inR; omega) (by unfold inR; omega) (fun a => ?_) (fun a => ?_)
      · omega
      · refine r_aload_n X dX5_lineUpPots_54 (by rfl) ?_
        refine r_aload_n X dX5_lineUpPots_55 (by rfl) ?_
        refine r_get X dX5_lineUpPots_56 fgX5_12_7 (by assumption) (by rfl) ?_
        refine r_iload_n X dX5_lineUpPots_59 (by rfl) ?_
        refine r_callV X dX5_lineUpPots_60 kX5_118 (c_get g _ hl ad1 F1 101 nf c1 _ (by omega) hR1 i (by omega)) (by assumption) (by rfl) (by rfl) (by rfl) (by rfl) (by exact Nat.le_of_ble_eq_true rfl) (by decide) (by decide) (by omega) (by omega) (fun v ad' F' hK => ?_)
        obtain ⟨rfl, rfl, rfl⟩ := hK
        have hp5 := hX1.pot hkf hc
        rw [← hpp]
        refine q_cast X rfl hp5 dX5_lineUpPots_63 ?_
        refine r_callV X dX5_lineUpPots_66 kX5_219 (c_lineUp g _ hl ad1 F1 _ _ _ _ _ _ _ _ _ hX1 t hI _ _ hQ (hvs _ (by omega)) (by omega) _ hc (PSq_sd _ _ _)) (by assumption) (by rfl) (by rfl) (by rfl) (by rfl) (by exact Nat.le_of_ble_eq_true rfl) (by decide) (by decide) (by omega) (by omega) (fun v ad2 F2 hK => ?_)
        obtain ⟨rfl, hA2, hF2, hQ2⟩ := hK
        rw [← hA2 100 (by omega)]
        refine r_iinc X dX5_lineUpPots_69 (by rfl) (by rw [hN]; decide) (by rfl) ?_
        dsimp only [List.set]
        refine r_goto X dX5_lineUpPots_72 43 (by decide) ?_
        exact ih (i + 1) ad2 F2 _ _ (by omega) (by omega) (by omega) (by omega) (fun x hx => (hA2 x hx).trans (hA1 x hx)) (fun x z1 z2 => (hF2 x z1 z2).trans (hF1 x z1 z2)) hQ2
  have coms : ∀ (m i : Nat) (ad1 : Nat → Nat) (F1 : Pic) (kc ks : Nat), nk - i = m → i ≤ nk → kc ≤ i → ks ≤ 60 * i → AdL 104 ad ad1 → FrL 104 F F1 → CL g ad1 F1 104 i (fun p => ad1 (prl ser (PSq (exc A) nk i p))) →
      V M g ad1 F1 kc ks 9 [some (.ref (ad1 100)), some (.int (zI (i : Int)))] [] := by
    intro m
    induction m with
    | zero =>
      intro i ad1 F1 kc ks hm hi hkc hks hA1 hF1 hQ
      have hX1 := St ad1 F1 hA1 hF1 ⟨_, _, hQ⟩
      obtain ⟨hO1, ⟨-, ⟨c1, hR1, -⟩, -⟩, -⟩ := id hX1
      obtain ⟨hO1, -⟩ := hO1
      obtain ⟨m1, ho1⟩ := hR1.obj
      refine r_iload_n X dX5_lineUpPots_9 (by rfl) ?_
      refine r_aload_n X dX5_lineUpPots_10 (by rfl) ?_
      refine r_get X dX5_lineUpPots_11 fgX5_16_7 (by assumption) (by rfl) ?_
      refine r_callV X dX5_lineUpPots_14 kX5_41 (c_size g _ hl ad1 F1 102 nk c1 _ (by omega) hR1) (by assumption) (by rfl) (by rfl) (by rfl) (by rfl) (by exact Nat.le_of_ble_eq_true rfl) (by decide) (by decide) (by omega) (by omega) (fun v ad' F' hK => ?_)
      obtain ⟨rfl, rfl, rfl⟩ := hK
      obtain rfl : i = nk := by omega
      refine r_icmp_ge X 41 dX5_lineUpPots_17 (by decide) (by unfold inR; omega) (by unfold inR; omega) (fun a => ?_) (fun a => ?_)
      · refine r_iconst X dX5_lineUpPots_41 rfl ?_
        refine r_istore_n X dX5_lineUpPots_42 (by rw [hN]; decide) (by rfl) ?_
        dsimp only [List.set]
        exact funds nf 0 ad1 F1 _ _ (by omega) (by omega) (by omega) (by omega) hA1 hF1 hQ
      · omega
    | succ m ih =>
      intro i ad1 F1 kc ks hm hi hkc hks hA1 hF1 hQ
      have hX1 := St ad1 F1 hA1 hF1 ⟨_, _, hQ⟩
      obtain ⟨hO1, ⟨-, ⟨c1, hR1, -⟩, -⟩, -⟩ := id hX1
      obtain ⟨hO1, -⟩ := hO1
      obtain ⟨m1, ho1⟩ := hR1.obj
      have hc : VC nf nk (cd nk i) := hcd _ (by omega)
      have hcc : cd nk i = i := by unfold cd; rw [if_pos (by omega)]
      have hpp : prl ser (cd nk i) = 10000 + ser i := by rw [hcc]; unfold prl; rw [if_pos (by omega)]
      refine r_iload_n X dX5_lineUpPots_9 (by rfl) ?_
      refine r_aload_n X dX5_lineUpPots_10 (by rfl) ?_
      refine r_get X dX5_lineUpPots_11 fgX5_16_7 (by assumption) (by rfl) ?_
      refine r_callV X dX5_lineUpPots_14 kX5_41 (c_size g _ hl ad1 F1 102 nk c1 _ (by omega) hR1) (by assumption) (by rfl) (by rfl) (by rfl) (by rfl) (by exact Nat.le_of_ble_eq_true rfl) (by decide) (by decide) (by omega) (by omega) (fun v ad' F' hK => ?_)
      obtain ⟨rfl, rfl, rfl⟩ := hK
      refine r_icmp_ge X 41 dX5_lineUpPots_17 (by decide) (by unfold inR; omega) (by unfold inR; omega) (fun a => ?_) (fun a => ?_)
      · omega
      · refine r_aload_n X dX5_lineUpPots_20 (by rfl) ?_
        refine r_aload_n X dX5_lineUpPots_21 (by rfl) ?_
        refine r_get X dX5_lineUpPots_22 fgX5_16_7 (by assumption) (by rfl) ?_
        refine r_iload_n X dX5_lineUpPots_25 (by rfl) ?_
        refine r_callV X dX5_lineUpPots_26 kX5_118 (c_get g _ hl ad1 F1 102 nk c1 _ (by omega) hR1 i (by omega)) (by assumption) (by rfl) (by rfl) (by rfl) (by rfl) (by exact Nat.le_of_ble_eq_true rfl) (by decide) (by decide) (by omega) (by omega) (fun v ad' F' hK => ?_)
        obtain ⟨rfl, rfl, rfl⟩ := hK
        have hp5 := hX1.pot hkf hc
        rw [← hpp]
        refine q_cast X rfl hp5 dX5_lineUpPots_29 ?_
        refine r_callV X dX5_lineUpPots_32 kX5_219 (c_lineUp g _ hl ad1 F1 _ _ _ _ _ _ _ _ _ hX1 t hI _ _ hQ (hvs _ (by omega)) (by omega) _ hc (PSq_sd _ _ _)) (by assumption) (by rfl) (by rfl) (by rfl) (by rfl) (by exact Nat.le_of_ble_eq_true rfl) (by decide) (by decide) (by omega) (by omega) (fun v ad2 F2 hK => ?_)
        obtain ⟨rfl, hA2, hF2, hQ2⟩ := hK
        rw [← hA2 100 (by omega)]
        refine r_iinc X dX5_lineUpPots_35 (by rfl) (by rw [hN]; decide) (by rfl) ?_
        dsimp only [List.set]
        refine r_goto X dX5_lineUpPots_38 9 (by decide) ?_
        exact ih (i + 1) ad2 F2 _ _ (by omega) (by omega) (by omega) (by omega) (fun x hx => (hA2 x hx).trans (hA1 x hx)) (fun x z1 z2 => (hF2 x z1 z2).trans (hF1 x z1 z2)) hQ2
  refine r_aload_n X dX5_lineUpPots_0 (by rfl) ?_
  refine r_get X dX5_lineUpPots_1 fgX5_22_7 (by assumption) (by rfl) ?_
  refine r_callV X dX5_lineUpPots_4 kX5_216 (c_clear g _ hl ad F 104 kp cap4 ep (by omega) hR4) (by assumption) (by rfl) (by rfl) (by rfl) (by rfl) (by exact Nat.le_of_ble_eq_true rfl) (by decide) (by decide) (by omega) (by omega) (fun v ad' F1 hK => ?_)
  obtain ⟨rfl, rfl, hF1, hR1', hLF1'⟩ := hK
  refine r_iconst X dX5_lineUpPots_7 rfl ?_
  refine r_istore_n X dX5_lineUpPots_8 (by rw [hN]; decide) (by rfl) ?_
  dsimp only [List.set]
  exact coms nk 0 ad F1 _ _ (by omega) (by omega) (by omega) (by omega) (fun _ _ => rfl) hF1 ⟨cap4, hR1'.fr2 rfl rfl rfl (fun j hj => by omega), hLF1' hLF4⟩
