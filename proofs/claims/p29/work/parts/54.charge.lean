/-! ===== what can be paid; costs are charged ===== -/
theorem rB_rc {P X c : Nat} {rc rc' : Nat → Nat} (h : ∀ p, p < P → rc p = rc' p) : rB P rc X c = rB P rc' X c := by
  rw [Bool.eq_iff_iff, rB_iff, rB_iff]
  exact ⟨fun ⟨p, a, b, d⟩ => ⟨p, a, b, by rw [← h p a]; exact d⟩, fun ⟨p, a, b, d⟩ => ⟨p, a, b, by rw [h p a]; exact d⟩⟩
theorem cutv_eq {P C X : Nat} {mon mon' amt amt' : Nat → Int} {rc rc' : Nat → Nat} (h : ∀ p, p < P → rc p = rc' p) (hm : ∀ p, p < P → mon p = mon' p) (ha : ∀ c, c < C → amt c = amt' c) : cutv P C mon amt rc X = cutv P C mon' amt' rc' X := by
  unfold cutv
  rw [sm_congr (f := fun p => if X.testBit p then mon p else 0) (h := fun p => if X.testBit p then mon' p else 0) (fun p hp => by show (if X.testBit p then mon p else 0) = if X.testBit p then mon' p else 0; rw [hm p hp]),
    sm_congr (f := fun c => if rB P rc X c then amt c else 0) (h := fun c => if rB P rc' X c then amt' c else 0) (fun c hc => by show (if rB P rc X c then amt c else 0) = if rB P rc' X c then amt' c else 0; rw [rB_rc h, ha c hc])]
theorem MC.eqs {P C : Nat} {mon mon' amt amt' : Nat → Int} {rc rc' : Nat → Nat} {t : Int} (hM : MC P C mon amt rc t) (h : ∀ p, p < P → rc p = rc' p) (hm : ∀ p, p < P → mon p = mon' p) (ha : ∀ c, c < C → amt c = amt' c) : MC P C mon' amt' rc' t := by
  obtain ⟨⟨X, h1, h2⟩, h3⟩ := hM
  exact ⟨⟨X, h1, by rw [← cutv_eq h hm ha]; exact h2⟩, fun X hX => by rw [← cutv_eq h hm ha]; exact h3 X hX⟩
theorem cov_rc {np c p X d : Nat} {rc rc' : Nat → Nat} (h : ∀ p, p < np → rc p = rc' p) : cov np rc c p X d = cov np rc' c p X d := by
  rw [Bool.eq_iff_iff, cov_iff, cov_iff]
  exact ⟨fun ⟨q, a, b, d, e⟩ => ⟨q, a, b, by rw [← h q a]; exact d, e⟩, fun ⟨q, a, b, d, e⟩ => ⟨q, a, b, by rw [h q a]; exact d, e⟩⟩
theorem roomv_eq {np nc c p X : Nat} {rc rc' : Nat → Nat} {pay pay' cos cos' : Nat → Int} (h : ∀ p, p < np → rc p = rc' p) (hp : ∀ q, q < np → pay q = pay' q) (hc : ∀ d, d < nc → cos d = cos' d) : roomv np nc rc c p pay cos X = roomv np nc rc' c p pay' cos' X := by
  unfold roomv
  rw [sm_congr (f := fun d => if cov np rc c p X d then cos d else 0) (h := fun d => if cov np rc' c p X d then cos' d else 0) (fun d hd => by show (if cov np rc c p X d then cos d else 0) = if cov np rc' c p X d then cos' d else 0; rw [cov_rc h, hc d hd]),
    sm_congr (f := fun q => if X.testBit q then pay q else 0) (h := fun q => if X.testBit q then pay' q else 0) (fun q hq => by show (if X.testBit q then pay q else 0) = if X.testBit q then pay' q else 0; rw [hp q hq])]
theorem SHV.eqs {np nc c p : Nat} {rc rc' : Nat → Nat} {pay pay' cos cos' : Nat → Int} {s : Int} (hS : SHV np nc rc c p pay cos s) (hpn : p < np) (hcn : c < nc) (h : ∀ p, p < np → rc p = rc' p) (hp : ∀ q, q < np → pay q = pay' q) (hc : ∀ d, d < nc → cos d = cos' d) : SHV np nc rc' c p pay' cos' s := by
  obtain ⟨h1, h2, h3, h4⟩ := hS
  refine ⟨by rw [← hp p hpn]; exact h1, by rw [← hc c hcn]; exact h2, fun X a b d => ?_, ?_⟩
  · rw [← roomv_eq h hp hc]; exact h3 X a b (by rw [cov_rc h]; exact d)
  · rcases h4 with e | e | ⟨X, a, b, d, e⟩
    · exact .inl (by rw [← hp p hpn]; exact e)
    · exact .inr (.inl (by rw [← hc c hcn]; exact e))
    · exact .inr (.inr ⟨X, a, b, by rw [← cov_rc h]; exact d, by rw [← roomv_eq h hp hc]; exact e⟩)
theorem SH3.eqs {np nc c p : Nat} {rc rc' : Nat → Nat} {sh sh' : Nat → Nat → Int} (hS : SH3 np nc rc sh c p) (hpn : p < np) (hcn : c < nc) (h : ∀ p, p < np → rc p = rc' p) (hs : ∀ q d, q < np → d < nc → sh q d = sh' q d) : SH3 np nc rc' sh' c p := by
  unfold SH3 at hS ⊢
  rw [← hs p c hpn hcn]
  have hr : ∀ q d, q < np → d < nc → rm3 c p sh q d = rm3 c p sh' q d := fun q d a b => by unfold rm3; rw [hs q d a b]
  exact hS.eqs hpn hcn h (fun q hq => sm_congr (fun d hd => hr q d hq hd)) (fun d hd => sm_congr (f := fun q => rm3 c p sh q d) (h := fun q => rm3 c p sh' q d) (fun q hq => hr q d hq hd))
def mo (A : Nat → Nat → Int) (nk nf : Nat) : Nat → Int := fun p => moA A (PS A nk nf p)
noncomputable def rcF (A : Nat → Nat → Int) (kf : Nat → Nat) (nk nf nc : Nat) : Nat → Nat := fun p => mkm nc (mpP A kf (PS A nk nf p))
theorem IV.mob {td : Int} {nf nk nc : Nat} {A : Nat → Nat → Int} {kf : Nat → Nat} {t p : Nat} (h : IV td nf nk nc A kf t) (hp : p < nk + nf) : 0 ≤ mo A nk nf p ∧ mo A nk nf p ≤ 51199488 := by
  unfold mo moA
  rcases PS_vc (A := A) h.1.2.2.2.1 hp with ⟨h1, h2⟩ | ⟨h1, h2⟩
  · rw [if_pos h1]; exact h.b8 h2
  · rw [if_neg (by omega)]; exact h.b0 h2
theorem PL0.start {td : Int} {nf nk nc : Nat} {A : Nat → Nat → Int} {kf : Nat → Nat} {t : Nat} (hI : IV td nf nk nc A kf t) {pl cl pn : Nat → Int} {sh : Nat → Nat → Int} {rc py : Nat → Nat} (h : PL0 A kf nf nk nc pl cl pn sh rc py) : PF (nk + nf) nc rc (mo A nk nf) (A 12) pl cl pn sh ∧ BD (nk + nf) nc rc (mo A nk nf) (A 12) ∧ PYI (nk + nf) nc sh py ∧ (∀ p c, p < nk + nf → c < nc → sh p c = 0) ∧ ∀ p, p < nk + nf → rc p = rcF A kf nk nf nc p := by
  obtain ⟨h1, h2⟩ := h
  have hz : ∀ p c, p < nk + nf → c < nc → sh p c = 0 := fun p c hp hc => (h1 p hp).2.2.2 c hc
  refine ⟨⟨fun p c hp hc => by rw [hz p c hp hc]; omega, fun p c hp hc h => by rw [hz p c hp hc] at h; omega, fun p hp => ?_, fun c hc => ?_⟩, ⟨fun p hp => ?_, fun p hp => by have := (hI.mob hp).2; omega, fun c hc => (hI.2.2.2.1 c hc).2.2.2⟩, fun p hp q => ?_, hz, fun p hp => (h1 p hp).2.1⟩
  · rw [sm_zero (fun c hc => hz p c hp hc), (h1 p hp).1]
    exact ⟨(hI.mob hp).1, by unfold mo; omega⟩
  · rw [(h2 c hc).1, (h2 c hc).2, sm_zero (fun p hp => hz p c hp hc)]
    exact ⟨(hI.2.2.2.1 c hc).2.2.1, by omega, rfl⟩
  · rw [(h1 p hp).2.1]
    have e16 : 2 ^ nc ≤ 2 ^ 16 := Nat.pow_le_pow_right (by decide) hI.1.2.2.2.2.1
    exact Nat.lt_of_lt_of_le (mkm_lt _ _) e16
  · rw [(h1 p hp).2.2.1]
    exact ⟨fun z => absurd z (tb_0 q), fun z => by rw [hz p q hp z.1] at z; omega⟩
theorem FrQ.X {F F' : Pic} (h : FrQ F F') : FrX F F' := fun x hx => h x (by omega) (by omega) (by omega)
theorem FrP.X {F F' : Pic} (h : FrP F F') : FrX F F' := fun x hx => h x (by omega)
theorem FrB.X {F F' : Pic} (h : FrB F F') : FrX F F' := fun x hx => h x (by omega)
theorem AdL.X {ad ad' : Nat → Nat} (h : AdL 104 ad ad') : AdX ad ad' := fun x hx => h x (by omega)
/-- how much of each cost can be paid -/
def S1 (A : Nat → Nat → Int) (kf : Nat → Nat) (nk nf nc : Nat) (pn : Nat → Int) : Prop := ∀ k, k ≤ nc → MC (nk + nf) k (mo A nk nf) (A 12) (rcF A kf nk nf nc) (sm k pn)
/-- how much each pot pays -/
def S2 (A : Nat → Nat → Int) (kf : Nat → Nat) (nk nf nc : Nat) (pn dr : Nat → Int) : Prop := ∀ k, k ≤ nk + nf → MC k nc (mo A nk nf) pn (rcF A kf nk nf nc) (sm k dr)
/-- which pot pays how much of which cost -/
def S3 (A : Nat → Nat → Int) (kf : Nat → Nat) (nk nf nc : Nat) (pn dr : Nat → Int) (W : Nat → Nat → Int) : Prop :=
  (∀ p c, p < nk + nf → c < nc → 0 ≤ W p c ∧ (¬ (rcF A kf nk nf nc p).testBit c = true → W p c = 0) ∧ ((rcF A kf nk nf nc p).testBit c = true → SH3 (nk + nf) nc (rcF A kf nk nf nc) W c p)) ∧
  (∀ p c, ¬ (p < nk + nf ∧ c < nc) → W p c = 0) ∧ (∀ c, c < nc → sm (nk + nf) (fun p => W p c) = pn c) ∧ ∀ p, p < nk + nf → sm nc (W p) = dr p
/-- no more than there is -/
def B3 (A : Nat → Nat → Int) (nk nf nc : Nat) (pn dr : Nat → Int) : Prop := (∀ c, c < nc → pn c ≤ A 12 c) ∧ ∀ p, p < nk + nf → dr p ≤ mo A nk nf p
/-- a way to pay what is paid of each cost -/
def FL (A : Nat → Nat → Int) (kf : Nat → Nat) (nk nf nc : Nat) (pn : Nat → Int) : Prop := ∃ W : Nat → Nat → Int, (∀ p c, p < nk + nf → c < nc → 0 ≤ W p c) ∧ (∀ p c, p < nk + nf → c < nc → 0 < W p c → (rcF A kf nk nf nc p).testBit c = true) ∧ (∀ p, p < nk + nf → sm nc (W p) ≤ mo A nk nf p) ∧ ∀ c, c < nc → pn c ≤ A 12 c ∧ pn c = sm (nk + nf) (fun p => W p c)
theorem PF.fl {A : Nat → Nat → Int} {kf : Nat → Nat} {nk nf nc : Nat} {rc : Nat → Nat} {pl cl pn : Nat → Int} {sh : Nat → Nat → Int} (h : PF (nk + nf) nc rc (mo A nk nf) (A 12) pl cl pn sh) (hrc : ∀ p, p < nk + nf → rc p = rcF A kf nk nf nc p) : FL A kf nk nf nc pn :=
  ⟨sh, h.1, fun p c hp hc z => by rw [← hrc p hp]; exact h.2.1 p c hp hc z, fun p hp => by have := h.2.2.1 p hp; omega, fun c hc => by have := h.2.2.2 c hc; exact ⟨by omega, this.2.2⟩⟩
set_option maxRecDepth 100000 in
set_option maxHeartbeats 4000000 in
theorem c_payable (g : Gx) (l : Launch) (hl : l.stackTraces = false) (ad : Nat → Nat) (F : Pic) (td : Int) (nf nk nc : Nat) (A P : Nat → Nat → Int) (kf ser : Nat → Nat) (sn : Nat) (hX : RX g ad F td nf nk nc A P kf ser sn) (t : Nat) (hI : IV td nf nk nc A kf t) : Ct g l yX5_payable cX5_payable 1 (some .int) 10 12 720 [.ref (ad 100)] ad F (fun v ad' F' => AdX ad ad' ∧ FrX F F' ∧ RX g ad' F' td nf nk nc A P kf ser sn ∧ ∃ pn, v = some (.int (zI (sm nc pn))) ∧ S1 A kf nk nf nc pn ∧ FL A kf nk nf nc pn) := by
  refine Ct_of hl rfl [some (.ref (ad 100))] (Nat.le_of_ble_eq_true rfl) (fun _ h => h) ?_
  intro M hL hN X
  subst hL
  have hO := hX.1.1
  refine r_aload_n X dX5_payable_0 (by rfl) ?_
  refine r_callV X dX5_payable_1 kX5_90 (c_prepare g _ hl ad F _ _ _ _ _ _ _ _ _ hX t hI) (by assumption) (by rfl) (by rfl) (by rfl) (by rfl) (by exact Nat.le_of_ble_eq_true rfl) (by decide) (by decide) (by omega) (by omega) (fun v ad1 F1 hK => ?_)
  obtain ⟨rfl, hA1, hF1, hX1, hQ1, pl, cl, pn, sh, rc, py, qu, ah, vi, hP, h0⟩ := hK
  obtain ⟨hPF, hBD, hPY, hz, hrc⟩ := h0.start hI
  have hO1 := hX1.1.1
  have h200 := hP.1.1
  rw [← hA1 100 (by omega)]
  refine r_aload_n X dX5_payable_4 (by rfl) ?_
  refine r_get X dX5_payable_5 fgX5_28_7 (by assumption) (by rfl) ?_
  refine r_callV X dX5_payable_8 kX5_93 (c_payCosts g _ hl ad1 F1 hP _ _ hBD hPF hPY hz) (by assumption) (by rfl) (by rfl) (by rfl) (by rfl) (by exact Nat.le_of_ble_eq_true rfl) (by decide) (by decide) (by omega) (by omega) (fun v ad' F2 hK => ?_)
  obtain ⟨rfl, rfl, hF2, pl2, cl2, pn2, sh2, py2, qu2, ah2, vi2, hP2, hPF2, hPY2, hM⟩ := hK
  have hX2 := hX1.planw hF2 ⟨_, _, _, _, _, _, _, _, _, _, _, hP2⟩
  have hO2 := hX2.1.1
  have h202 := hP2.1.1
  refine r_aload_n X dX5_payable_11 (by rfl) ?_
  refine r_get X dX5_payable_12 fgX5_28_7 (by assumption) (by rfl) ?_
  refine r_callV X dX5_payable_15 kX5_102 (c_paidInAll g _ hl ad1 F2 hP2) (by assumption) (by rfl) (by rfl) (by rfl) (by rfl) (by exact Nat.le_of_ble_eq_true rfl) (by decide) (by decide) (by omega) (by omega) (fun v ad' F' hK => ?_)
  obtain ⟨rfl, rfl, rfl⟩ := hK
  exact r_iret X rfl (rfl) dX5_payable_18 (⟨hA1.X, hF1.X.tr hF2.X, hX2, pn2, rfl, fun k hk => (hM k hk).eqs hrc (fun _ _ => rfl) (fun _ _ => rfl), hPF2.fl hrc⟩) (by omega) (by omega)
set_option maxRecDepth 100000 in
set_option maxHeartbeats 4000000 in
theorem c_wouldPay (g : Gx) (l : Launch) (hl : l.stackTraces = false) (ad : Nat → Nat) (F : Pic) (td : Int) (nf nk nc : Nat) (A P : Nat → Nat → Int) (kf ser : Nat → Nat) (sn : Nat) (hX : RX g ad F td nf nk nc A P kf ser sn) (t : Nat) (hI : IV td nf nk nc A kf t) (i : Int) (hi : inR i) : CtX g l yX5_wouldPay cX5_wouldPay 3 (some .int) 10 13 726 [.ref (ad 100), .int (zI i)] ad F (fun v ad' F' => (0 ≤ i ∧ i < nc) ∧ AdX ad ad' ∧ FrX F F' ∧ RX g ad' F' td nf nk nc A P kf ser sn ∧ ∃ pn, v = some (.int (zI (pn i.toNat))) ∧ S1 A kf nk nf nc pn ∧ FL A kf nk nf nc pn) (fun E ad' F' => (E = xIO ∧ ¬ (0 ≤ i ∧ i < nc)) ∧ ad = ad' ∧ F = F') := by
  refine CtX_of hl rfl [some (.ref (ad 100)), some (.int (zI i)), none] (Nat.le_of_ble_eq_true rfl) (fun _ h => h) ?_
  intro M hL hN X
  subst hL
  refine r_aload_n X dX5_wouldPay_0 (by rfl) ?_
  refine r_iload_n X dX5_wouldPay_1 (by rfl) ?_
  refine r_callVX X dX5_wouldPay_2 kX5_141 (c_costAt g _ hl ad F _ _ _ _ _ _ _ _ ⟨ser, hX⟩ i hi) (hX.1.1) (by rfl) (by rfl) (by rfl) (by rfl) (by exact Nat.le_of_ble_eq_true rfl) (by decide) (by decide) (by omega) (by omega) (fun E ad' F' h => ⟨⟨h.1, h.2.1⟩, h.2.2⟩) (fun v ad' F' hK => ?_)
  obtain ⟨q1, rfl, rfl, rfl⟩ := hK
  have hO := hX.1.1
  have hc5 : nc ≤ 16 := hI.1.2.2.2.2.1
  obtain ⟨j, rfl⟩ := Int.eq_ofNat_of_zero_le q1.1
  have hj : j < nc := by omega
  refine r_astore_n X dX5_wouldPay_5 (by rw [hN]; decide) (by rfl) ?_
  dsimp only [List.set]
  refine r_aload_n X dX5_wouldPay_6 (by rfl) ?_
  refine r_callV X dX5_wouldPay_7 kX5_90 (c_prepare g _ hl ad F _ _ _ _ _ _ _ _ _ hX t hI) (by assumption) (by rfl) (by rfl) (by rfl) (by rfl) (by exact Nat.le_of_ble_eq_true rfl) (by decide) (by decide) (by omega) (by omega) (fun v ad1 F1 hK => ?_)
  obtain ⟨rfl, hA1, hF1, hX1, hQ1, pl, cl, pn, sh, rc, py, qu, ah, vi, hP, h0⟩ := hK
  obtain ⟨hPF, hBD, hPY, hz, hrc⟩ := h0.start hI
  have hO1 := hX1.1.1
  have h200 := hP.1.1
  rw [← hA1 100 (by omega), ← hA1 (400 + (j : Int).toNat) (by simp; omega)]
  refine r_aload_n X dX5_wouldPay_10 (by rfl) ?_
  refine r_get X dX5_wouldPay_11 fgX5_28_7 (by assumption) (by rfl) ?_
  refine r_callV X dX5_wouldPay_14 kX5_93 (c_payCosts g _ hl ad1 F1 hP _ _ hBD hPF hPY hz) (by assumption) (by rfl) (by rfl) (by rfl) (by rfl) (by exact Nat.le_of_ble_eq_true rfl) (by decide) (by decide) (by omega) (by omega) (fun v ad' F2 hK => ?_)
  obtain ⟨rfl, rfl, hF2, pl2, cl2, pn2, sh2, py2, qu2, ah2, vi2, hP2, hPF2, hPY2, hM⟩ := hK
  have hX2 := hX1.planw hF2 ⟨_, _, _, _, _, _, _, _, _, _, _, hP2⟩
  have hO2 := hX2.1.1
  have h202 := hP2.1.1
  have hc0 : F2 (400 + j) = some (.inr (4, [.int (zI (A 10 j)), .int (zI (A 11 j)), .int (zI (A 12 j)), .ref (ad1 (500 + j))])) := (hX2.2.2.2.2.1.2.1 j hj).1
  refine r_aload_n X dX5_wouldPay_17 (by rfl) ?_
  refine r_get X dX5_wouldPay_18 fgX5_145_4 (hc0) (by rfl) ?_
  refine r_aload_n X dX5_wouldPay_21 (by rfl) ?_
  refine r_get X dX5_wouldPay_22 fgX5_28_7 (by assumption) (by rfl) ?_
  refine r_iload_n X dX5_wouldPay_25 (by rfl) ?_
  refine r_callV X dX5_wouldPay_26 kX5_152 (c_leftOfCost g _ hl ad1 F2 hP2 j hj) (by assumption) (by rfl) (by rfl) (by rfl) (by rfl) (by exact Nat.le_of_ble_eq_true rfl) (by decide) (by decide) (by omega) (by omega) (fun v ad' F' hK => ?_)
  obtain ⟨rfl, rfl, rfl⟩ := hK
  refine r_isub X dX5_wouldPay_29 ?_
  have hpc := (hPF2.2.2.2 j hj).2.1
  exact r_iret X rfl (rfl) dX5_wouldPay_30 (⟨q1, hA1.X, hF1.X.tr hF2.X, hX2, pn2, by rw [show A 12 j - cl2 j = pn2 j by omega]; rfl, fun k hk => (hM k hk).eqs hrc (fun _ _ => rfl) (fun _ _ => rfl), hPF2.fl hrc⟩) (by omega) (by omega)
set_option maxRecDepth 100000 in
set_option maxHeartbeats 4000000 in
theorem c_charge (g : Gx) (l : Launch) (hl : l.stackTraces = false) (ad : Nat → Nat) (F : Pic) (td : Int) (nf nk nc : Nat) (A P : Nat → Nat → Int) (kf ser : Nat → Nat) (sn : Nat) (hX : RX g ad F td nf nk nc A P kf ser sn) (t : Nat) (hI : IV td nf nk nc A kf t) (hI2 : ∀ pn dr W, S3 A kf nk nf nc pn dr W → B3 A nk nf nc pn dr → IV td nf nk nc (bkA A kf (nk + nf) nc (PS A nk nf) W) kf t) : Ct g l yX5_charge cX5_charge 2 (some .int) 10 12 720 [.ref (ad 100)] ad F (fun v ad' F' => AdX ad ad' ∧ FrX F F' ∧ ∃ pn dr W ser', v = some (.int (zI (sm nc pn))) ∧ S1 A kf nk nf nc pn ∧ S2 A kf nk nf nc pn dr ∧ S3 A kf nk nf nc pn dr W ∧ B3 A nk nf nc pn dr ∧ RX g ad' F' td nf (endS qEmp nk (nk, bkA A kf (nk + nf) nc (PS A nk nf) W, kf)).1 nc (endS qEmp nk (nk, bkA A kf (nk + nf) nc (PS A nk nf) W, kf)).2.1 (bkP P kf (nk + nf) (PS A nk nf) W) (endS qEmp nk (nk, bkA A kf (nk + nf) nc (PS A nk nf) W, kf)).2.2 ser' sn) := by
  refine Ct_of hl rfl [some (.ref (ad 100)), none] (Nat.le_of_ble_eq_true rfl) (fun _ h => h) ?_
  intro M hL hN X
  subst hL
  have hO := hX.1.1
  refine r_aload_n X dX5_charge_0 (by rfl) ?_
  refine r_callV X dX5_charge_1 kX5_90 (c_prepare g _ hl ad F _ _ _ _ _ _ _ _ _ hX t hI) (by assumption) (by rfl) (by rfl) (by rfl) (by rfl) (by exact Nat.le_of_ble_eq_true rfl) (by decide) (by decide) (by omega) (by omega) (fun v ad1 F1 hK => ?_)
  obtain ⟨rfl, hA1, hF1, hX1, hQ1, pl, cl, pn, sh, rc, py, qu, ah, vi, hP, h0⟩ := hK
  obtain ⟨hPF, hBD, hPY, hz, hrc⟩ := h0.start hI
  have hkf : ∀ i, i < nk → kf i < nf := fun i hi => (hI.2.2.1 i hi).1
  have hnk : nk ≤ 6 := hI.1.2.2.2.1
  have hO1 := hX1.1.1
  have h200 := hP.1.1
  rw [← hA1 100 (by omega)]
  refine r_aload_n X dX5_charge_4 (by rfl) ?_
  refine r_get X dX5_charge_5 fgX5_28_7 (by assumption) (by rfl) ?_
  refine r_callV X dX5_charge_8 kX5_93 (c_payCosts g _ hl ad1 F1 hP _ _ hBD hPF hPY hz) (by assumption) (by rfl) (by rfl) (by rfl) (by rfl) (by exact Nat.le_of_ble_eq_true rfl) (by decide) (by decide) (by omega) (by omega) (fun v ad' F2 hK => ?_)
  obtain ⟨rfl, rfl, hF2, pl2, cl2, pn2, sh2, py2, qu2, ah2, vi2, hP2, hPF2, hPY2, hM⟩ := hK
  have hX2 := hX1.planw hF2 ⟨_, _, _, _, _, _, _, _, _, _, _, hP2⟩
  have hO2 := hX2.1.1
  have h202 := hP2.1.1
  refine r_aload_n X dX5_charge_11 (by rfl) ?_
  refine r_get X dX5_charge_12 fgX5_28_7 (by assumption) (by rfl) ?_
  refine r_callV X dX5_charge_15 kX5_96 (c_drawOnPots g _ hl ad1 F2 hP2 _ _ hBD hPF2 hPY2) (by assumption) (by rfl) (by rfl) (by rfl) (by rfl) (by exact Nat.le_of_ble_eq_true rfl) (by decide) (by decide) (by omega) (by omega) (fun v ad' F3 hK => ?_)
  obtain ⟨rfl, rfl, hF3, pl3, sh3, py3, qu3, ah3, vi3, hP3, hPF3, hPY3, hM3⟩ := hK
  have hX3 := hX2.planw hF3 ⟨_, _, _, _, _, _, _, _, _, _, _, hP3⟩
  have hO3 := hX3.1.1
  have h203 := hP3.1.1
  refine r_aload_n X dX5_charge_18 (by rfl) ?_
  refine r_get X dX5_charge_19 fgX5_28_7 (by assumption) (by rfl) ?_
  refine r_callV X dX5_charge_22 kX5_99 (c_spreadCosts g _ hl ad1 F3 hP3 _ _ hBD hPF3 hPY3) (by assumption) (by rfl) (by rfl) (by rfl) (by rfl) (by exact Nat.le_of_ble_eq_true rfl) (by decide) (by decide) (by omega) (by omega) (fun v ad' F4 hK => ?_)
  obtain ⟨rfl, rfl, hF4, sh4, py4, qu4, ah4, vi4, hP4, hPF4, hPY4, hM4⟩ := hK
  have hX4 := hX3.planw hF4 ⟨_, _, _, _, _, _, _, _, _, _, _, hP4⟩
  have hO4 := hX4.1.1
  have h204 := hP4.1.1
  refine r_aload_n X dX5_charge_25 (by rfl) ?_
  refine r_get X dX5_charge_26 fgX5_28_7 (by assumption) (by rfl) ?_
  refine r_callV X dX5_charge_29 kX5_102 (c_paidInAll g _ hl ad1 F4 hP4) (by assumption) (by rfl) (by rfl) (by rfl) (by rfl) (by exact Nat.le_of_ble_eq_true rfl) (by decide) (by decide) (by omega) (by omega) (fun v ad' F' hK => ?_)
  obtain ⟨rfl, rfl, rfl⟩ := hK
  refine r_istore_n X dX5_charge_32 (by rw [hN]; decide) (by rfl) ?_
  dsimp only [List.set]
  refine r_aload_n X dX5_charge_33 (by rfl) ?_
  have hQ4 := ((hQ1.planw (by omega) hF2).planw (by omega) hF3).planw (by omega) hF4
  refine r_callV X dX5_charge_34 kX5_105 (c_bookPlan g _ hl ad1 F4 _ _ _ _ _ _ _ _ _ hX4 t hkf (PS A nk nf) (nk + nf) (fun p hp => PS_vc hnk hp) hQ4 hP4) (by assumption) (by rfl) (by rfl) (by rfl) (by rfl) (by exact Nat.le_of_ble_eq_true rfl) (by decide) (by decide) (by omega) (by omega) (fun v ad' F5 hK => ?_)
  obtain ⟨rfl, rfl, hF5, hX5⟩ := hK
  have hO5 := hX5.1.1
  have s1 : S1 A kf nk nf nc pn2 := fun k hk => (hM k hk).eqs hrc (fun _ _ => rfl) (fun _ _ => rfl)
  have s2 : S2 A kf nk nf nc pn2 (fun q => mo A nk nf q - pl3 q) := fun k hk => (hM3 k hk).eqs (fun p hp => hrc p (by omega)) (fun _ _ => rfl) (fun _ _ => rfl)
  have hcl : ∀ q d, q < nk + nf → d < nc → sh4 q d = clip (nk + nf) nc sh4 q d := fun q d a b => by unfold clip; rw [if_pos ⟨a, b⟩]
  have s3 : S3 A kf nk nf nc pn2 (fun q => mo A nk nf q - pl3 q) (clip (nk + nf) nc sh4) := by
    refine ⟨fun p c hp hc => ⟨?_, fun hb => ?_, fun hb => ?_⟩, fun p c h => by unfold clip; rw [if_neg h], fun c hc => ?_, fun p hp => ?_⟩
    · rw [← hcl p c hp hc]; exact hPF4.1 p c hp hc
    · rw [← hcl p c hp hc]
      have a1 := hPF4.1 p c hp hc
      have a2 := hPF4.2.1 p c hp hc
      rcases Int.lt_or_le 0 (sh4 p c) with z | z
      · exact absurd (by rw [← hrc p hp]; exact a2 z) hb
      · omega
    · exact (hM4 c p hc hp (by rw [hrc p hp]; exact hb)).eqs hp hc hrc hcl
    · rw [(hPF4.2.2.2 c hc).2.2]; exact (sm_congr (f := fun p => sh4 p c) (h := fun p => clip (nk + nf) nc sh4 p c) (fun p hp => hcl p c hp hc)).symm
    · have a1 := (hPF4.2.2.1 p hp).2
      rw [← sm_congr (fun c hc => hcl p c hp hc)]
      show sm nc (sh4 p) = mo A nk nf p - pl3 p
      omega
  have b3 : B3 A nk nf nc pn2 (fun q => mo A nk nf q - pl3 q) := ⟨fun c hc => by have := hPF4.2.2.2 c hc; omega, fun p hp => by have := hPF4.2.2.1 p hp; show mo A nk nf p - pl3 p ≤ _; omega⟩
  refine r_aload_n X dX5_charge_37 (by rfl) ?_
  refine r_callV X dX5_charge_38 kX5_108 (c_ends g _ hl ad1 F5 _ _ _ _ _ _ _ _ _ hX5 t (hI2 _ _ _ s3 b3)) (by assumption) (by rfl) (by rfl) (by rfl) (by rfl) (by exact Nat.le_of_ble_eq_true rfl) (by decide) (by decide) (by omega) (by omega) (fun v ad' F6 hK => ?_)
  obtain ⟨rfl, rfl, hF6, ser', hX6⟩ := hK
  refine r_iload_n X dX5_charge_41 (by rfl) ?_
  exact r_iret X rfl (rfl) dX5_charge_42 (⟨hA1.X, hF1.X.tr (hF2.X.tr (hF3.X.tr (hF4.X.tr (hF5.X.tr hF6)))), pn2, _, _, ser', rfl, s1, s2, s3, b3, hX6⟩) (by omega) (by omega)
set_option maxRecDepth 100000 in
set_option maxHeartbeats 4000000 in
theorem c_wouldTake (g : Gx) (l : Launch) (hl : l.stackTraces = false) (ad : Nat → Nat) (F : Pic) (td : Int) (nf nk nc : Nat) (A P : Nat → Nat → Int) (kf ser : Nat → Nat) (sn : Nat) (hX : RX g ad F td nf nk nc A P kf ser sn) (t : Nat) (hI : IV td nf nk nc A kf t) (i : Int) (hi : inR i) : CtX g l yX5_wouldTake cX5_wouldTake 6 (some .int) 10 13 726 [.ref (ad 100), .int (zI i)] ad F (fun v ad' F' => (0 ≤ i ∧ i < nf) ∧ AdX ad ad' ∧ FrX F F' ∧ RX g ad' F' td nf nk nc A P kf ser sn ∧ ∃ pn dr, v = some (.int (zI (sm (nk + nf) (fun p => if ow kf (PS A nk nf p) = i.toNat then dr p else 0)))) ∧ S1 A kf nk nf nc pn ∧ S2 A kf nk nf nc pn dr ∧ FL A kf nk nf nc pn) (fun E ad' F' => (E = xIO ∧ ¬ (0 ≤ i ∧ i < nf)) ∧ ad = ad' ∧ F = F') := by
  refine CtX_of hl rfl [some (.ref (ad 100)), some (.int (zI i)), none, none, none, none] (Nat.le_of_ble_eq_true rfl) (fun _ h => h) ?_
  intro M hL hN X
  subst hL
  refine r_aload_n X dX5_wouldTake_0 (by rfl) ?_
  refine r_iload_n X dX5_wouldTake_1 (by rfl) ?_
  refine r_callVX X dX5_wouldTake_2 kX5_58 (c_fundAt g _ hl ad F _ _ _ _ _ _ _ _ ⟨ser, hX⟩ i hi) (hX.1.1) (by rfl) (by rfl) (by rfl) (by rfl) (by exact Nat.le_of_ble_eq_true rfl) (by decide) (by decide) (by omega) (by omega) (fun E ad' F' h => ⟨⟨h.1, h.2.1⟩, h.2.2⟩) (fun v ad' F' hK => ?_)
  obtain ⟨q1, rfl, rfl, rfl⟩ := hK
  have hO := hX.1.1
  have hnk : nk ≤ 6 := hI.1.2.2.2.1
  have hnf : nf ≤ 6 := hI.1.2.2.1
  have hkf : ∀ i, i < nk → kf i < nf := fun i hi => (hI.2.2.1 i hi).1
  obtain ⟨j, rfl⟩ := Int.eq_ofNat_of_zero_le q1.1
  have hj : j < nf := by omega
  refine r_astore_n X dX5_wouldTake_5 (by rw [hN]; decide) (by rfl) ?_
  dsimp only [List.set]
  refine r_aload_n X dX5_wouldTake_6 (by rfl) ?_
  refine r_callV X dX5_wouldTake_7 kX5_90 (c_prepare g _ hl ad F _ _ _ _ _ _ _ _ _ hX t hI) (by assumption) (by rfl) (by rfl) (by rfl) (by rfl) (by exact Nat.le_of_ble_eq_true rfl) (by decide) (by decide) (by omega) (by omega) (fun v ad1 F1 hK => ?_)
  obtain ⟨rfl, hA1, hF1, hX1, hQ1, pl, cl, pn, sh, rc, py, qu, ah, vi, hP, h0⟩ := hK
  obtain ⟨hPF, hBD, hPY, hz, hrc⟩ := h0.start hI
  have hO1 := hX1.1.1
  have h200 := hP.1.1
  rw [← hA1 100 (by omega), show (300 + (j : Int).toNat) = 300 + j from rfl, ← hA1 (300 + j) (by omega)]
  refine r_aload_n X dX5_wouldTake_10 (by rfl) ?_
  refine r_get X dX5_wouldTake_11 fgX5_28_7 (by assumption) (by rfl) ?_
  refine r_callV X dX5_wouldTake_14 kX5_93 (c_payCosts g _ hl ad1 F1 hP _ _ hBD hPF hPY hz) (by assumption) (by rfl) (by rfl) (by rfl) (by rfl) (by exact Nat.le_of_ble_eq_true rfl) (by decide) (by decide) (by omega) (by omega) (fun v ad' F2 hK => ?_)
  obtain ⟨rfl, rfl, hF2, pl2, cl2, pn2, sh2, py2, qu2, ah2, vi2, hP2, hPF2, hPY2, hM⟩ := hK
  have hX2 := hX1.planw hF2 ⟨_, _, _, _, _, _, _, _, _, _, _, hP2⟩
  have hO2 := hX2.1.1
  have h202 := hP2.1.1
  refine r_aload_n X dX5_wouldTake_17 (by rfl) ?_
  refine r_get X dX5_wouldTake_18 fgX5_28_7 (by assumption) (by rfl) ?_
  refine r_callV X dX5_wouldTake_21 kX5_96 (c_drawOnPots g _ hl ad1 F2 hP2 _ _ hBD hPF2 hPY2) (by assumption) (by rfl) (by rfl) (by rfl) (by rfl) (by exact Nat.le_of_ble_eq_true rfl) (by decide) (by decide) (by omega) (by omega) (fun v ad' F3 hK => ?_)
  obtain ⟨rfl, rfl, hF3, pl3, sh3, py3, qu3, ah3, vi3, hP3, hPF3, hPY3, hM3⟩ := hK
  have hX3 := hX2.planw hF3 ⟨_, _, _, _, _, _, _, _, _, _, _, hP3⟩
  have hO3 := hX3.1.1
  have h203 := hP3.1.1
  have hQ3 := (hQ1.planw (by omega) hF2).planw (by omega) hF3
  obtain ⟨c4, hR4, -⟩ := id hQ3
  obtain ⟨m4, ho4⟩ := hR4.obj
  have hf0 : F3 (300 + j) = some (fuC A j) := hX3.2.2.2.1.2.1 j hj
  have loop : ∀ (k p : Nat) (w : Int) (o : Option Value), nk + nf - p = k → p ≤ nk + nf → w = sm p (fun p => if ow kf (PS A nk nf p) = j then mo A nk nf p - pl3 p else 0) →
      V M g ad1 F3 (0 + 1 + 12 + 0 + 0) (0 + 6 + 720 + 0 + 0) 29 [some (.ref (ad1 100)), some (.int (zI (j : Int))), some (.ref (ad1 (300 + j))), some (.int (zI w)), some (.int (zI (p : Int))), o] [] := by
    intro k
    induction k with
    | zero =>
      intro p w o hk hp hw
      obtain rfl : p = nk + nf := by omega
      refine r_iload X dX5_wouldTake_29 (by rfl) ?_
      refine r_aload_n X dX5_wouldTake_31 (by rfl) ?_
      refine r_get X dX5_wouldTake_32 fgX5_22_7 (by assumption) (by rfl) ?_
      refine r_callV X dX5_wouldTake_35 kX5_41 (c_size g _ hl ad1 F3 104 (nk + nf) c4 _ (by omega) hR4) (by assumption) (by rfl) (by rfl) (by rfl) (by rfl) (by exact Nat.le_of_ble_eq_true rfl) (by decide) (by decide) (by omega) (by omega) (fun v ad' F' hK => ?_)
      obtain ⟨rfl, rfl, rfl⟩ := hK
      refine r_icmp_ge X 88 dX5_wouldTake_38 (by decide) (by unfold inR; omega) (by unfold inR; omega) (fun a => ?_) (fun a => ?_)
      · refine r_iload_n X dX5_wouldTake_88 (by rfl) ?_
        exact r_iret X rfl (rfl) dX5_wouldTake_89 (⟨q1, hA1.X, hF1.X.tr (hF2.X.tr hF3.X), hX3, pn2, _, by rw [hw]; rfl, fun k hk => (hM k hk).eqs hrc (fun _ _ => rfl) (fun _ _ => rfl), fun k hk => (hM3 k hk).eqs (fun p hp => hrc p (by omega)) (fun _ _ => rfl) (fun _ _ => rfl), hPF2.fl hrc⟩) (by omega) (by omega)
      · omega
    | succ k ih =>
      intro p w o hk hp hw
      have hvc : VC nf nk (PS A nk nf p) := PS_vc hnk (by omega)
      have hC := hX3.pot hkf hvc
      have how := VC.own hI hvc
      have hw' : sm (p + 1) (fun p => if ow kf (PS A nk nf p) = j then mo A nk nf p - pl3 p else 0) = sm p (fun p => if ow kf (PS A nk nf p) = j then mo A nk nf p - pl3 p else 0) + (if ow kf (PS A nk nf p) = j then mo A nk nf p - pl3 p else 0) := rfl
      refine r_iload X dX5_wouldTake_29 (by rfl) ?_
      refine r_aload_n X dX5_wouldTake_31 (by rfl) ?_
      refine r_get X dX5_wouldTake_32 fgX5_22_7 (by assumption) (by rfl) ?_
      refine r_callV X dX5_wouldTake_35 kX5_41 (c_size g _ hl ad1 F3 104 (nk + nf) c4 _ (by omega) hR4) (by assumption) (by rfl) (by rfl) (by rfl) (by rfl) (by exact Nat.le_of_ble_eq_true rfl) (by decide) (by decide) (by omega) (by omega) (fun v ad' F' hK => ?_)
      obtain ⟨rfl, rfl, rfl⟩ := hK
      refine r_icmp_ge X 88 dX5_wouldTake_38 (by decide) (by unfold inR; omega) (by unfold inR; omega) (fun a => ?_) (fun a => ?_)
      · omega
      · refine r_aload_n X dX5_wouldTake_41 (by rfl) ?_
        refine r_get X dX5_wouldTake_42 fgX5_22_7 (by assumption) (by rfl) ?_
        refine r_iload X dX5_wouldTake_45 (by rfl) ?_
        refine r_callV X dX5_wouldTake_47 kX5_118 (c_get g _ hl ad1 F3 104 (nk + nf) c4 _ (by omega) hR4 p (by omega)) (by assumption) (by rfl) (by rfl) (by rfl) (by rfl) (by exact Nat.le_of_ble_eq_true rfl) (by decide) (by decide) (by omega) (by omega) (fun v ad' F' hK => ?_)
        obtain ⟨rfl, rfl, rfl⟩ := hK
        refine q_cast X rfl hC dX5_wouldTake_50 ?_
        refine r_astore X dX5_wouldTake_53 (by rw [hN]; decide) (by rfl) ?_
        dsimp only [List.set]
        refine r_aload X dX5_wouldTake_55 (by rfl) ?_
        refine q_own X rfl hC dX5_wouldTake_57 (by exact Nat.le_of_ble_eq_true rfl) (by omega) (by omega) (by omega) ?_
        refine r_aload_n X dX5_wouldTake_60 (by rfl) ?_
        refine r_inj (hC.2) hf0 (by omega) (by omega) (fun hinj => ?_)
        refine r_acmp_ne X 82 dX5_wouldTake_61 (by decide) (fun b => ?_) (fun b => ?_)
        · refine r_iinc X dX5_wouldTake_82 (by rfl) (by rw [hN]; decide) (by rfl) ?_
          dsimp only [List.set]
          refine r_goto X dX5_wouldTake_85 29 (by decide) ?_
          exact ih (p + 1) w _ (by omega) (by omega) (by rw [hw', if_neg (fun z => b (by rw [z])), hw]; omega)
        · have hb : ow kf (PS A nk nf p) = j := by have := hinj b; omega
          refine r_iload_n X dX5_wouldTake_64 (by rfl) ?_
          refine r_aload X dX5_wouldTake_65 (by rfl) ?_
          refine q_mon X rfl hC dX5_wouldTake_67 ?_
          refine r_aload_n X dX5_wouldTake_70 (by rfl) ?_
          refine r_get X dX5_wouldTake_71 fgX5_28_7 (by assumption) (by rfl) ?_
          refine r_iload X dX5_wouldTake_74 (by rfl) ?_
          refine r_callV X dX5_wouldTake_76 kX5_159 (c_leftOfPot g _ hl ad1 F3 hP3 p (by omega)) (by assumption) (by rfl) (by rfl) (by rfl) (by rfl) (by exact Nat.le_of_ble_eq_true rfl) (by decide) (by decide) (by omega) (by omega) (fun v ad' F' hK => ?_)
          obtain ⟨rfl, rfl, rfl⟩ := hK
          refine r_isub X dX5_wouldTake_79 ?_
          refine r_iadd X dX5_wouldTake_80 ?_
          refine r_istore_n X dX5_wouldTake_81 (by rw [hN]; decide) (by rfl) ?_
          dsimp only [List.set]
          refine r_iinc X dX5_wouldTake_82 (by rfl) (by rw [hN]; decide) (by rfl) ?_
          dsimp only [List.set]
          refine r_goto X dX5_wouldTake_85 29 (by decide) ?_
          exact ih (p + 1) _ _ (by omega) (by omega) (by rw [hw', if_pos hb, hw]; rfl)
  refine r_iconst X dX5_wouldTake_24 rfl ?_
  refine r_istore_n X dX5_wouldTake_25 (by rw [hN]; decide) (by rfl) ?_
  dsimp only [List.set]
  refine r_iconst X dX5_wouldTake_26 rfl ?_
  refine r_istore X dX5_wouldTake_27 (by rw [hN]; decide) (by rfl) ?_
  dsimp only [List.set]
  exact loop _ 0 0 none rfl (by omega) rfl
