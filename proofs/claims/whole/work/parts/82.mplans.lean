/-! ===== the model: what is paid, what the pots pay ===== -/
theorem MC_c0 {P : Nat} {mon amt : Nat → Int} {rc : Nat → Nat} (h : ∀ p, p < P → 0 ≤ mon p) : MC P 0 mon amt rc 0 := by
  refine ⟨⟨0, Nat.pow_pos (by decide), ?_⟩, fun X _ => ?_⟩
  · unfold cutv
    rw [sm_zero (fun i _ => if_neg (tb_0 i))]; rfl
  · have := sm_nn (n := P) (f := fun p => if X.testBit p then mon p else 0) (fun p hp => by
      have := h p hp
      show 0 ≤ (if X.testBit p then mon p else 0)
      split <;> omega)
    show 0 ≤ _ + (0 : Int)
    omega
theorem MC_p0 {C : Nat} {mon amt : Nat → Int} {rc : Nat → Nat} : MC 0 C mon amt rc 0 := by
  have h : ∀ X, cutv 0 C mon amt rc X = 0 := fun X => by
    unfold cutv
    rw [sm_zero (n := C) (fun c _ => if_neg (fun z => by obtain ⟨p, hp, _⟩ := rB_iff.mp z; omega))]; rfl
  exact ⟨⟨0, by decide, h 0⟩, fun X _ => by rw [h X]; exact Int.le_refl _⟩
theorem MC.bd {P C : Nat} {mon amt : Nat → Int} {rc : Nat → Nat} {t : Int} (hM : MC P C mon amt rc t) (hC : C ≤ 16) (hm : ∀ p, p < P → 0 ≤ mon p) (ha : ∀ c, c < C → 0 ≤ amt c ∧ amt c ≤ 99999) : 0 ≤ t ∧ t ≤ 1599984 := by
  obtain ⟨⟨X, -, e⟩, h2⟩ := hM
  have a := h2 0 (Nat.pow_pos (by decide))
  have b := sm_bd (lo := 0) (hi := 99999) (f := fun c => if rB P rc 0 c then amt c else 0) C (fun i hi => by
    have := ha i hi
    show 0 ≤ (if rB P rc 0 i then amt i else 0) ∧ (if rB P rc 0 i then amt i else 0) ≤ 99999
    split <;> omega)
  have c := sm_nn (n := C) (f := fun c => if rB P rc X c then amt c else 0) (fun i hi => by
    have := ha i hi
    show 0 ≤ (if rB P rc X i then amt i else 0)
    split <;> omega)
  have d := sm_nn (n := P) (f := fun p => if X.testBit p then mon p else 0) (fun p hp => by
    have := hm p hp
    show 0 ≤ (if X.testBit p then mon p else 0)
    split <;> omega)
  unfold cutv at a e
  rw [sm_zero (n := P) (fun i _ => if_neg (tb_0 i))] at a
  omega
theorem sm_s (n : Nat) (f : Nat → Int) : sm (n + 1) f = sm n f + f n := rfl
theorem S1.bd {td : Int} {nf nk nc : Nat} {A : Nat → Nat → Int} {kf : Nat → Nat} {t : Nat} (hI : IV td nf nk nc A kf t) {pn : Nat → Int} (h : S1 A kf nk nf nc pn) {c : Nat} (hc : c < nc) : -2000000 ≤ pn c ∧ pn c ≤ 2000000 := by
  have hI0 := hI.1
  have a := (h c (by omega)).bd (by omega) (fun p hp => (hI.mob hp).1) (fun d hd => by have := (hI.2.2.2.1 d (by omega)).2.2; exact this)
  have b := (h (c + 1) (by omega)).bd (by omega) (fun p hp => (hI.mob hp).1) (fun d hd => by have := (hI.2.2.2.1 d (by omega)).2.2; exact this)
  rw [sm_s] at b
  omega
theorem S1.uniq {A : Nat → Nat → Int} {kf : Nat → Nat} {nk nf nc : Nat} {pn pn' : Nat → Int} (h : S1 A kf nk nf nc pn) (h' : S1 A kf nk nf nc pn') {c : Nat} (hc : c < nc) : pn c = pn' c := by
  have a := (h c (by omega)).uniq (h' c (by omega))
  have b := (h (c + 1) (by omega)).uniq (h' (c + 1) (by omega))
  rw [sm_s, sm_s] at b
  omega
theorem S2.uniq {A : Nat → Nat → Int} {kf : Nat → Nat} {nk nf nc : Nat} {pn pn' dr dr' : Nat → Int} (hp : ∀ c, c < nc → pn c = pn' c) (h : S2 A kf nk nf nc pn dr) (h' : S2 A kf nk nf nc pn' dr') {p : Nat} (hc : p < nk + nf) : dr p = dr' p := by
  have a := ((h p (by omega)).eqs (fun _ _ => rfl) (fun _ _ => rfl) hp).uniq (h' p (by omega))
  have b := ((h (p + 1) (by omega)).eqs (fun _ _ => rfl) (fun _ _ => rfl) hp).uniq (h' (p + 1) (by omega))
  rw [sm_s, sm_s] at b
  omega
theorem rcF_lt {A : Nat → Nat → Int} {kf : Nat → Nat} {nk nf nc p : Nat} (h : nc ≤ 16) : rcF A kf nk nf nc p < 65536 := Nat.lt_of_lt_of_le (mkm_lt _ _) (Nat.pow_le_pow_right (n := 2) (by decide) h)
theorem mnS_c {f h : Nat → Int} {np X : Nat} (e : ∀ p, p < np → f p = h p) : mnS f np X = mnS h np X := sm_congr (fun p hp => by
  show (if X.testBit p then f p else 0) = if X.testBit p then h p else 0
  rw [e p hp])
set_option maxRecDepth 100000 in
set_option maxHeartbeats 4000000 in
theorem c_mPlans (g : Gx) (l : Launch) (hl : l.stackTraces = false) (ad : Nat → Nat) (F : Pic) (td : Int) (nf nk nc np : Nat) (th : Int) (B A P : Nat → Nat → Int) (kf : Nat → Nat) (hB : MB g ad F td nf nk nc np th B) (hG : AG nf nk nc A P kf B) (t : Nat) (hI : IV td nf nk nc A kf t) : Ct g l yX6_plans cX6_plans 4 none 4 0 0 [.ref (ad 50000)] ad F (fun v ad' F' => v = none ∧ ad = ad' ∧ FrM F F' ∧ ∃ B', MB g ad F' td nf nk nc (nk + nf) th B' ∧ AG nf nk nc A P kf B' ∧ LPs A kf nk nf nc B' ∧ S1 A kf nk nf nc (B' 23) ∧ S2 A kf nk nf nc (B' 23) (B' 24) ∧ ∀ c, nc ≤ c → c < 16 → B' 23 c = 0) := by
  refine Ct_of hl rfl [some (.ref (ad 50000)), none, none, none] (Nat.le_of_ble_eq_true rfl) (fun _ h => h) ?_
  intro M hL hN X
  subst hL
  have hI0 := hI.1
  have hmon : ∀ p, p < nk + nf → 0 ≤ mo A nk nf p ∧ mo A nk nf p ≤ 60000000 := fun p hp => by have := hI.mob hp; omega
  have hB_o := hB.1
  unfold MOL at hB_o
  refine r_aload_n X dX6_plans_0 (by rfl) ?_
  refine r_callV X dX6_plans_1 kX6_150 (c_mLaysPots g _ hl ad F _ _ _ _ _ _ _ _ _ _ hB hG t hI) (by assumption) (by rfl) (by rfl) (by rfl) (by rfl) (by exact Nat.le_of_ble_eq_true rfl) (by decide) (by decide) (by omega) (by omega) (fun v ad' F1 hK => ?_)
  obtain ⟨rfl, rfl, hF1, B1, h1, hr1, hL1⟩ := hK
  have h1_o := h1.1
  unfold MOL at h1_o
  refine r_aload_n X dX6_plans_4 (by rfl) ?_
  refine r_aload_n X dX6_plans_5 (by rfl) ?_
  refine r_get X dX6_plans_6 fgX6_58_8 (by assumption) (by rfl) ?_
  refine r_callV X dX6_plans_9 kX6_153 (c_mLaysSets g _ hl ad F1 _ _ _ _ _ _ _ h1 21 (.inl rfl) (rcF A kf nk nf nc) (fun p hp => ⟨(hL1.2 p hp).2, rcF_lt (by omega)⟩) (by omega)) (by assumption) (by rfl) (by rfl) (by rfl) (by rfl) (by exact Nat.le_of_ble_eq_true rfl) (by decide) (by decide) (by omega) (by omega) (fun v ad' F2 hK => ?_)
  obtain ⟨rfl, rfl, hF2, B2, h2, hr2, hS2⟩ := hK
  have hS2' : (∀ X, X < 2 ^ (nk + nf) → B2 26 X = mnS (mo A nk nf) (nk + nf) X ∧ B2 27 X = ((csM (rcF A kf nk nf nc) (nk + nf) X : Nat) : Int)) := fun X hX => ⟨by rw [(hS2 X hX).1, mnS_c (fun p hp => (hL1.2 p hp).1)], (hS2 X hX).2⟩
  have hF02 : FrM F F2 := hF1.tr hF2
  have G2 : AG nf nk nc A P kf B2 := hG.row (fun a ha => by rw [hr2 a (by omega) (by omega), hr1 a (by omega)])
  have L2 : LPs A kf nk nf nc B2 := ⟨fun p hp => by rw [hr2 20 (by omega) (by omega), hr2 19 (by omega) (by omega)]; exact hL1.1 p hp, fun p hp => by rw [hr2 21 (by omega) (by omega), hr2 22 (by omega) (by omega)]; exact hL1.2 p hp⟩
  have q16 : ∀ c, c < nc → B2 16 c = A 12 c := fun c hc => (G2.2.2.2.1 c hc).2.2.1
  have i12 : ∀ c, c < nc → 0 ≤ A 12 c ∧ A 12 c ≤ 99999 := fun c hc => (hI.2.2.2.1 c hc).2.2
  have loop3 : ∀ (m p : Nat) (F3 : Pic) (B3 : Nat → Nat → Int) (w : Int) (o : Option Value) (pn : Nat → Int), nk + nf - p = m → p ≤ nk + nf → w = sm p (B3 24) → FrM F F3 → MB g ad F3 td nf nk nc (nk + nf) th B3 → (∀ a, a ≠ 23 → a ≠ 24 → B3 a = B2 a) → B3 23 = pn → S1 A kf nk nf nc pn → (∀ c, nc ≤ c → c < 16 → pn c = 0) → (∀ j, j ≤ p → MC j nc (mo A nk nf) pn (rcF A kf nk nf nc) (sm j (B3 24))) →
      V M g ad F3 0 0 85 [some (.ref (ad 50000)), some (.int (zI w)), some (.int (zI (p : Int))), o] [] := by
    intro m
    induction m with
    | zero =>
      intro p F3 B3 w o pn hm hp hw hF h3 hr hpn hS hz hM
      obtain rfl : p = nk + nf := by omega
      have h3_o := h3.1
      unfold MOL at h3_o
      refine r_iload_n X dX6_plans_85 (by rfl) ?_
      refine r_aload_n X dX6_plans_86 (by rfl) ?_
      refine r_get X dX6_plans_87 fgX6_131_8 (by assumption) (by rfl) ?_
      refine r_icmp_ge X 126 dX6_plans_90 (by decide) (by unfold inR; omega) (by unfold inR; omega) (fun a => ?_) (fun a => ?_)
      · exact r_vret X rfl dX6_plans_126 (⟨rfl, rfl, hF, B3, h3, G2.row (fun a ha => hr a (by omega) (by omega)), ⟨fun p hp => by rw [hr 20 (by omega) (by omega), hr 19 (by omega) (by omega)]; exact L2.1 p hp, fun p hp => by rw [hr 21 (by omega) (by omega), hr 22 (by omega) (by omega)]; exact L2.2 p hp⟩, by rw [hpn]; exact hS, by rw [hpn]; exact hM, by rw [hpn]; exact hz⟩) (by omega) (by omega)
      · omega
    | succ m ih =>
      intro p F3 B3 w o pn hm hp hw hF h3 hr hpn hS hz hM
      have ek : (p : Int) + 1 = ((p + 1 : Nat) : Int) := by omega
      have h3_o := h3.1
      unfold MOL at h3_o
      have h3_24 : F3 50024 = some (cI g 12 (fun j => zI (B3 24 j))) := h3.2 24 rfl
      refine r_iload_n X dX6_plans_85 (by rfl) ?_
      refine r_aload_n X dX6_plans_86 (by rfl) ?_
      refine r_get X dX6_plans_87 fgX6_131_8 (by assumption) (by rfl) ?_
      refine r_icmp_ge X 126 dX6_plans_90 (by decide) (by unfold inR; omega) (by unfold inR; omega) (fun a => ?_) (fun a => ?_)
      · omega
      · refine r_aload_n X dX6_plans_93 (by rfl) ?_
        refine r_iload_n X dX6_plans_94 (by rfl) ?_
        refine r_iconst X dX6_plans_95 rfl ?_
        refine r_iadd X dX6_plans_96 ?_
        refine r_aload_n X dX6_plans_97 (by rfl) ?_
        refine r_get X dX6_plans_98 fgX6_96_8 (by assumption) (by rfl) ?_
        refine r_aload_n X dX6_plans_101 (by rfl) ?_
        refine r_get X dX6_plans_102 fgX6_64_8 (by assumption) (by rfl) ?_
        rw [ek]
        refine r_callV X dX6_plans_105 kX6_157 (c_mMost g _ hl ad F3 _ _ _ _ _ _ _ h3 (rcF A kf nk nf nc) (mo A nk nf) (fun X hX => by rw [hr 26 (by omega) (by omega), hr 27 (by omega) (by omega)]; exact hS2' X hX) (by omega) (p + 1) nc (by omega) (by omega) 50023 (B3 23) (h3.2 23 rfl) hmon (fun c hc => by rw [hpn]; exact hS.bd hI hc)) (by assumption) (by rfl) (by rfl) (by rfl) (by rfl) (by exact Nat.le_of_ble_eq_true rfl) (by decide) (by decide) (by omega) (by omega) (fun v ad' F4 hK => ?_)
        obtain ⟨⟨t', rfl, hMC⟩, rfl, rfl⟩ := hK
        rw [hpn] at hMC
        refine r_istore_n X dX6_plans_108 (by rw [hN]; decide) (by rfl) ?_
        dsimp only [List.set]
        refine r_aload_n X dX6_plans_109 (by rfl) ?_
        refine r_get X dX6_plans_110 fgX6_67_8 (by assumption) (by rfl) ?_
        refine r_iload_n X dX6_plans_113 (by rfl) ?_
        refine r_iload_n X dX6_plans_114 (by rfl) ?_
        refine r_iload_n X dX6_plans_115 (by rfl) ?_
        refine r_isub X dX6_plans_116 ?_
        refine r_ist X p dX6_plans_117 (by assumption) (by omega) (by rfl) (by omega) (by first | decide | omega) ?_
        obtain ⟨B4, eB4⟩ : ∃ X9 : Nat → Nat → Int, X9 = u2 B3 24 (p) (t' - w) := ⟨_, rfl⟩
        refine (fun (kk9 : ∀ F4 : Pic, MB g ad F4 _ _ _ _ _ _ B4 → FrM F3 F4 → V M g ad F4 _ _ _ _ _) => kk9 _ (by rw [eB4]; exact h3.put 24 rfl (p) (t' - w)) (FrM.pu ⟨by omega, by omega⟩)) ?_
        intro F4 h4 h4F
        have h4_o := h4.1
        unfold MOL at h4_o
        refine r_iload_n X dX6_plans_118 (by rfl) ?_
        refine r_istore_n X dX6_plans_119 (by rw [hN]; decide) (by rfl) ?_
        dsimp only [List.set]
        refine r_iinc X dX6_plans_120 (by rfl) (by rw [hN]; decide) (by rfl) ?_
        dsimp only [List.set]
        refine r_goto X dX6_plans_123 85 (by decide) ?_
        have es : ∀ j, j ≤ p → sm j (B4 24) = sm j (B3 24) := fun j hj => sm_congr (fun i hi => by rw [eB4, u2_col' (by omega)])
        have es1 : sm (p + 1) (B4 24) = t' := by rw [sm_s, es p (Nat.le_refl _), eB4, u2_at, hw]; omega
        refine ih (p + 1) F4 B4 _ _ pn (by omega) (by omega) es1.symm (hF.tr h4F) h4 (fun a a1 a2 => by rw [eB4, u2_row' a2]; exact hr a a1 a2) (by rw [eB4, u2_row' (by omega)]; exact hpn) hS hz (fun j hj => ?_)
        by_cases e : j = p + 1
        · subst e; rw [es1]; exact hMC
        · rw [es j (by omega)]; exact hM j (by omega)
  have loop2 : ∀ (m c : Nat) (F3 : Pic) (B3 : Nat → Nat → Int) (w : Int) (o : Option Value), 16 - c = m → nc ≤ c → c ≤ 16 → FrM F F3 → MB g ad F3 td nf nk nc (nk + nf) th B3 → (∀ a, a ≠ 23 → B3 a = B2 a) → S1 A kf nk nf nc (B3 23) → (∀ x, nc ≤ x → x < c → B3 23 x = 0) →
      V M g ad F3 0 0 62 [some (.ref (ad 50000)), some (.int (zI w)), some (.int (zI (c : Int))), o] [] := by
    intro m
    induction m with
    | zero =>
      intro c F3 B3 w o hm hc0 hc hF h3 hr hS hz
      obtain rfl : c = 16 := by omega
      have h3_o := h3.1
      unfold MOL at h3_o
      refine r_iload_n X dX6_plans_62 (by rfl) ?_
      refine r_bipush X dX6_plans_63 (by decide) ?_
      refine r_icmp_ge X 81 dX6_plans_65 (by decide) (by unfold inR; omega) (by unfold inR; omega) (fun a => ?_) (fun a => ?_)
      · refine r_iconst X dX6_plans_81 rfl ?_
        refine r_istore_n X dX6_plans_82 (by rw [hN]; decide) (by rfl) ?_
        dsimp only [List.set]
        refine r_iconst X dX6_plans_83 rfl ?_
        refine r_istore_n X dX6_plans_84 (by rw [hN]; decide) (by rfl) ?_
        dsimp only [List.set]
        exact loop3 _ 0 F3 B3 0 _ (B3 23) rfl (by omega) rfl hF h3 (fun a a1 a2 => hr a a1) rfl hS hz (fun j hj => by rw [show j = 0 by omega]; exact MC_p0)
      · omega
    | succ m ih =>
      intro c F3 B3 w o hm hc0 hc hF h3 hr hS hz
      have h3_o := h3.1
      unfold MOL at h3_o
      have h3_23 : F3 50023 = some (cI g 16 (fun j => zI (B3 23 j))) := h3.2 23 rfl
      refine r_iload_n X dX6_plans_62 (by rfl) ?_
      refine r_bipush X dX6_plans_63 (by decide) ?_
      refine r_icmp_ge X 81 dX6_plans_65 (by decide) (by unfold inR; omega) (by unfold inR; omega) (fun a => ?_) (fun a => ?_)
      · omega
      · refine r_aload_n X dX6_plans_68 (by rfl) ?_
        refine r_get X dX6_plans_69 fgX6_64_8 (by assumption) (by rfl) ?_
        refine r_iload_n X dX6_plans_72 (by rfl) ?_
        refine r_iconst X dX6_plans_73 rfl ?_
        refine r_ist X c dX6_plans_74 (by assumption) (by omega) (by rfl) (by omega) (by first | decide | omega) ?_
        obtain ⟨B4, eB4⟩ : ∃ X9 : Nat → Nat → Int, X9 = u2 B3 23 (c) (0) := ⟨_, rfl⟩
        refine (fun (kk9 : ∀ F4 : Pic, MB g ad F4 _ _ _ _ _ _ B4 → FrM F3 F4 → V M g ad F4 _ _ _ _ _) => kk9 _ (by rw [eB4]; exact h3.put 23 rfl (c) (0)) (FrM.pu ⟨by omega, by omega⟩)) ?_
        intro F4 h4 h4F
        have h4_o := h4.1
        unfold MOL at h4_o
        refine r_iinc X dX6_plans_75 (by rfl) (by rw [hN]; decide) (by rfl) ?_
        dsimp only [List.set]
        refine r_goto X dX6_plans_78 62 (by decide) ?_
        refine ih (c + 1) F4 B4 w _ (by omega) (by omega) (by omega) (hF.tr h4F) h4 (fun a a1 => by rw [eB4, u2_row' a1]; exact hr a a1) (fun k hk => ?_) (fun x x1 x2 => ?_)
        · rw [sm_congr (h := B3 23) (fun i hi => by rw [eB4, u2_col' (by omega)])]; exact hS k hk
        · by_cases e : x = c
          · rw [e, eB4, u2_at]
          · rw [eB4, u2_col' e]; exact hz x x1 (by omega)
  have loop1 : ∀ (m k : Nat) (F3 : Pic) (B3 : Nat → Nat → Int) (w : Int) (o : Option Value), nc - k = m → k ≤ nc → w = sm k (B3 23) → FrM F F3 → MB g ad F3 td nf nk nc (nk + nf) th B3 → (∀ a, a ≠ 23 → B3 a = B2 a) → (∀ j, j ≤ k → MC (nk + nf) j (mo A nk nf) (A 12) (rcF A kf nk nf nc) (sm j (B3 23))) →
      V M g ad F3 0 0 16 [some (.ref (ad 50000)), some (.int (zI w)), some (.int (zI (k : Int))), o] [] := by
    intro m
    induction m with
    | zero =>
      intro k F3 B3 w o hm hk hw hF h3 hr hM
      obtain rfl : k = nc := by omega
      have h3_o := h3.1
      unfold MOL at h3_o
      refine r_iload_n X dX6_plans_16 (by rfl) ?_
      refine r_aload_n X dX6_plans_17 (by rfl) ?_
      refine r_get X dX6_plans_18 fgX6_96_8 (by assumption) (by rfl) ?_
      refine r_icmp_ge X 57 dX6_plans_21 (by decide) (by unfold inR; omega) (by unfold inR; omega) (fun a => ?_) (fun a => ?_)
      · refine r_aload_n X dX6_plans_57 (by rfl) ?_
        refine r_get X dX6_plans_58 fgX6_96_8 (by assumption) (by rfl) ?_
        refine r_istore_n X dX6_plans_61 (by rw [hN]; decide) (by rfl) ?_
        dsimp only [List.set]
        exact loop2 _ k F3 B3 w _ rfl (by omega) (by omega) hF h3 hr hM (fun x x1 x2 => by omega)
      · omega
    | succ m ih =>
      intro k F3 B3 w o hm hk hw hF h3 hr hM
      have ek : (k : Int) + 1 = ((k + 1 : Nat) : Int) := by omega
      have r16 : B3 16 = B2 16 := hr 16 (by omega)
      have h3_o := h3.1
      unfold MOL at h3_o
      have h3_23 : F3 50023 = some (cI g 16 (fun j => zI (B3 23 j))) := h3.2 23 rfl
      refine r_iload_n X dX6_plans_16 (by rfl) ?_
      refine r_aload_n X dX6_plans_17 (by rfl) ?_
      refine r_get X dX6_plans_18 fgX6_96_8 (by assumption) (by rfl) ?_
      refine r_icmp_ge X 57 dX6_plans_21 (by decide) (by unfold inR; omega) (by unfold inR; omega) (fun a => ?_) (fun a => ?_)
      · omega
      · refine r_aload_n X dX6_plans_24 (by rfl) ?_
        refine r_aload_n X dX6_plans_25 (by rfl) ?_
        refine r_get X dX6_plans_26 fgX6_131_8 (by assumption) (by rfl) ?_
        refine r_iload_n X dX6_plans_29 (by rfl) ?_
        refine r_iconst X dX6_plans_30 rfl ?_
        refine r_iadd X dX6_plans_31 ?_
        refine r_aload_n X dX6_plans_32 (by rfl) ?_
        refine r_get X dX6_plans_33 fgX6_46_8 (by assumption) (by rfl) ?_
        rw [ek]
        refine r_callV X dX6_plans_36 kX6_157 (c_mMost g _ hl ad F3 _ _ _ _ _ _ _ h3 (rcF A kf nk nf nc) (mo A nk nf) (fun X hX => by rw [hr 26 (by omega), hr 27 (by omega)]; exact hS2' X hX) (by omega) (nk + nf) (k + 1) (Nat.le_refl _) (by omega) 50016 (B3 16) (h3.2 16 rfl) hmon (fun c hc => by rw [r16, q16 c (by omega)]; have := i12 c (by omega); omega)) (by assumption) (by rfl) (by rfl) (by rfl) (by rfl) (by exact Nat.le_of_ble_eq_true rfl) (by decide) (by decide) (by omega) (by omega) (fun v ad' F4 hK => ?_)
        obtain ⟨⟨t', rfl, hMC⟩, rfl, rfl⟩ := hK
        have hMC2 := hMC.eqs (amt' := A 12) (fun _ _ => rfl) (fun _ _ => rfl) (fun c hc => by rw [r16]; exact q16 c (by omega))
        refine r_istore_n X dX6_plans_39 (by rw [hN]; decide) (by rfl) ?_
        dsimp only [List.set]
        refine r_aload_n X dX6_plans_40 (by rfl) ?_
        refine r_get X dX6_plans_41 fgX6_64_8 (by assumption) (by rfl) ?_
        refine r_iload_n X dX6_plans_44 (by rfl) ?_
        refine r_iload_n X dX6_plans_45 (by rfl) ?_
        refine r_iload_n X dX6_plans_46 (by rfl) ?_
        refine r_isub X dX6_plans_47 ?_
        refine r_ist X k dX6_plans_48 (by assumption) (by omega) (by rfl) (by omega) (by first | decide | omega) ?_
        obtain ⟨B4, eB4⟩ : ∃ X9 : Nat → Nat → Int, X9 = u2 B3 23 (k) (t' - w) := ⟨_, rfl⟩
        refine (fun (kk9 : ∀ F4 : Pic, MB g ad F4 _ _ _ _ _ _ B4 → FrM F3 F4 → V M g ad F4 _ _ _ _ _) => kk9 _ (by rw [eB4]; exact h3.put 23 rfl (k) (t' - w)) (FrM.pu ⟨by omega, by omega⟩)) ?_
        intro F4 h4 h4F
        have h4_o := h4.1
        unfold MOL at h4_o
        refine r_iload_n X dX6_plans_49 (by rfl) ?_
        refine r_istore_n X dX6_plans_50 (by rw [hN]; decide) (by rfl) ?_
        dsimp only [List.set]
        refine r_iinc X dX6_plans_51 (by rfl) (by rw [hN]; decide) (by rfl) ?_
        dsimp only [List.set]
        refine r_goto X dX6_plans_54 16 (by decide) ?_
        have es : ∀ j, j ≤ k → sm j (B4 23) = sm j (B3 23) := fun j hj => sm_congr (fun i hi => by rw [eB4, u2_col' (by omega)])
        have es1 : sm (k + 1) (B4 23) = t' := by rw [sm_s, es k (Nat.le_refl _), eB4, u2_at, hw]; omega
        refine ih (k + 1) F4 B4 _ _ (by omega) (by omega) es1.symm (hF.tr h4F) h4 (fun a a1 => by rw [eB4, u2_row' a1]; exact hr a a1) (fun j hj => ?_)
        by_cases e : j = k + 1
        · subst e; rw [es1]; exact hMC2
        · rw [es j (by omega)]; exact hM j (by omega)
  have h2_o := h2.1
  unfold MOL at h2_o
  refine r_iconst X dX6_plans_12 rfl ?_
  refine r_istore_n X dX6_plans_13 (by rw [hN]; decide) (by rfl) ?_
  dsimp only [List.set]
  refine r_iconst X dX6_plans_14 rfl ?_
  refine r_istore_n X dX6_plans_15 (by rw [hN]; decide) (by rfl) ?_
  dsimp only [List.set]
  exact loop1 _ 0 F2 B2 0 _ rfl (by omega) rfl hF02 h2 (fun _ _ => rfl) (fun j hj => by rw [show j = 0 by omega]; exact MC_c0 (fun p hp => (hmon p hp).1))
set_option maxRecDepth 100000 in
set_option maxHeartbeats 4000000 in
theorem c_mPayable (g : Gx) (l : Launch) (hl : l.stackTraces = false) (ad : Nat → Nat) (F : Pic) (td : Int) (nf nk nc np : Nat) (th : Int) (B A P : Nat → Nat → Int) (kf : Nat → Nat) (hB : MB g ad F td nf nk nc np th B) (hG : AG nf nk nc A P kf B) (t : Nat) (hI : IV td nf nk nc A kf t) : Ct g l yX6_payable cX6_payable 1 (some .int) 5 0 0 [.ref (ad 50000)] ad F (fun v ad' F' => ad = ad' ∧ FrM F F' ∧ (∃ w, v = some (.int (zI w)) ∧ MC (nk + nf) nc (mo A nk nf) (A 12) (rcF A kf nk nf nc) w) ∧ MG g ad F' td nf nk nc A P kf 0) := by
  refine Ct_of hl rfl [some (.ref (ad 50000))] (Nat.le_of_ble_eq_true rfl) (fun _ h => h) ?_
  intro M hL hN X
  subst hL
  have hI0 := hI.1
  have hmon : ∀ p, p < nk + nf → 0 ≤ mo A nk nf p ∧ mo A nk nf p ≤ 60000000 := fun p hp => by have := hI.mob hp; omega
  have hB_o := hB.1
  unfold MOL at hB_o
  refine r_aload_n X dX6_payable_0 (by rfl) ?_
  refine r_iconst X dX6_payable_1 rfl ?_
  refine r_put X dX6_payable_2 fwX6_82_8 (by assumption) (by omega) (by exact Nat.le_of_ble_eq_true rfl) (by rfl) (by rfl) ?_
  dsimp only [List.set]
  refine (fun (kk9 : ∀ F1 : Pic, MB g ad F1 td nf nk nc np 0 B → FrM F F1 → V M g ad F1 _ _ _ _ _) => kk9 _ (hB.obj (by rw [pu_s]; rfl) (fun x hx => pu_n hx)) (FrM.pu ⟨by omega, by omega⟩)) ?_
  intro F1 h1 h1F
  have h1_o := h1.1
  unfold MOL at h1_o
  refine r_aload_n X dX6_payable_5 (by rfl) ?_
  refine r_callV X dX6_payable_6 kX6_150 (c_mLaysPots g _ hl ad F1 _ _ _ _ _ _ _ _ _ _ h1 hG t hI) (by assumption) (by rfl) (by rfl) (by rfl) (by rfl) (by exact Nat.le_of_ble_eq_true rfl) (by decide) (by decide) (by omega) (by omega) (fun v ad' F2 hK => ?_)
  obtain ⟨rfl, rfl, hF2, B2, h2, hr2, hL2⟩ := hK
  have h2_o := h2.1
  unfold MOL at h2_o
  refine r_aload_n X dX6_payable_9 (by rfl) ?_
  refine r_aload_n X dX6_payable_10 (by rfl) ?_
  refine r_get X dX6_payable_11 fgX6_58_8 (by assumption) (by rfl) ?_
  refine r_callV X dX6_payable_14 kX6_153 (c_mLaysSets g _ hl ad F2 _ _ _ _ _ _ _ h2 21 (.inl rfl) (rcF A kf nk nf nc) (fun p hp => ⟨(hL2.2 p hp).2, rcF_lt (by omega)⟩) (by omega)) (by assumption) (by rfl) (by rfl) (by rfl) (by rfl) (by exact Nat.le_of_ble_eq_true rfl) (by decide) (by decide) (by omega) (by omega) (fun v ad' F3 hK => ?_)
  obtain ⟨rfl, rfl, hF3, B3, h3, hr3, hS3⟩ := hK
  have q16 : ∀ c, c < nc → B3 16 c = A 12 c := fun c hc => by rw [hr3 16 (by omega) (by omega), hr2 16 (by omega)]; exact (hG.2.2.2.1 c hc).2.2.1
  have i12 : ∀ c, c < nc → 0 ≤ A 12 c ∧ A 12 c ≤ 99999 := fun c hc => (hI.2.2.2.1 c hc).2.2
  have h3_o := h3.1
  unfold MOL at h3_o
  refine r_aload_n X dX6_payable_17 (by rfl) ?_
  refine r_aload_n X dX6_payable_18 (by rfl) ?_
  refine r_get X dX6_payable_19 fgX6_131_8 (by assumption) (by rfl) ?_
  refine r_aload_n X dX6_payable_22 (by rfl) ?_
  refine r_get X dX6_payable_23 fgX6_96_8 (by assumption) (by rfl) ?_
  refine r_aload_n X dX6_payable_26 (by rfl) ?_
  refine r_get X dX6_payable_27 fgX6_46_8 (by assumption) (by rfl) ?_
  refine r_callV X dX6_payable_30 kX6_157 (c_mMost g _ hl ad F3 _ _ _ _ _ _ _ h3 (rcF A kf nk nf nc) (mo A nk nf) (fun X hX => ⟨by rw [(hS3 X hX).1, mnS_c (fun p hp => (hL2.2 p hp).1)], (hS3 X hX).2⟩) (by omega) (nk + nf) nc (Nat.le_refl _) (by omega) 50016 (B3 16) (h3.2 16 rfl) hmon (fun c hc => by rw [q16 c hc]; have := i12 c hc; omega)) (by assumption) (by rfl) (by rfl) (by rfl) (by rfl) (by exact Nat.le_of_ble_eq_true rfl) (by decide) (by decide) (by omega) (by omega) (fun v ad' F4 hK => ?_)
  obtain ⟨⟨t', rfl, hMC⟩, rfl, rfl⟩ := hK
  exact r_iret X rfl (rfl) dX6_payable_33 (⟨rfl, h1F.tr (hF2.tr hF3), ⟨t', rfl, hMC.eqs (fun _ _ => rfl) (fun _ _ => rfl) q16⟩, _, _, h3, hG.row (fun a ha => by rw [hr3 a (by omega) (by omega), hr2 a (by omega)])⟩) (by omega) (by omega)
set_option maxRecDepth 100000 in
set_option maxHeartbeats 4000000 in
theorem c_mWouldPay (g : Gx) (l : Launch) (hl : l.stackTraces = false) (ad : Nat → Nat) (F : Pic) (td : Int) (nf nk nc np : Nat) (th : Int) (B A P : Nat → Nat → Int) (kf : Nat → Nat) (hB : MB g ad F td nf nk nc np th B) (hG : AG nf nk nc A P kf B) (t : Nat) (hI : IV td nf nk nc A kf t) (i : Int) (hi : inR i) : Ct g l yX6_wouldPay cX6_wouldPay 2 (some .int) 5 0 0 [.ref (ad 50000), .int (zI i)] ad F (fun v ad' F' => ad = ad' ∧ FrM F F' ∧ (((0 ≤ i ∧ i < nc) ∧ (∃ pn, v = some (.int (zI (pn i.toNat))) ∧ S1 A kf nk nf nc pn) ∧ MG g ad F' td nf nk nc A P kf 0) ∨ (¬ (0 ≤ i ∧ i < nc) ∧ v = some (.int (zI 0)) ∧ MG g ad F' td nf nk nc A P kf 1))) := by
  refine Ct_of hl rfl [some (.ref (ad 50000)), some (.int (zI i))] (Nat.le_of_ble_eq_true rfl) (fun _ h => h) ?_
  intro M hL hN X
  subst hL
  have hI0 := hI.1
  have hB_o := hB.1
  unfold MOL at hB_o
  refine r_aload_n X dX6_wouldPay_0 (by rfl) ?_
  refine r_iload_n X dX6_wouldPay_1 (by rfl) ?_
  refine r_callV X dX6_wouldPay_2 kX6_182 (c_mIsCost g _ hl ad F _ _ _ _ _ _ _ hB i hi (by omega)) (by assumption) (by rfl) (by rfl) (by rfl) (by rfl) (by exact Nat.le_of_ble_eq_true rfl) (by decide) (by decide) (by omega) (by omega) (fun v ad' F1 hK => ?_)
  obtain ⟨rfl, rfl, hF1, th', hB1, z1, z2⟩ := hK
  have hB1_o := hB1.1
  unfold MOL at hB1_o
  refine r_if_neb X 10 dX6_wouldPay_5 (by decide) (fun a => ?_) (fun a => ?_)
  · rw [z1 a] at hB1
    obtain ⟨j, rfl⟩ := Int.eq_ofNat_of_zero_le a.1
    refine r_aload_n X dX6_wouldPay_10 (by rfl) ?_
    refine r_callV X dX6_wouldPay_11 kX6_161 (c_mPlans g _ hl ad F1 _ _ _ _ _ _ _ _ _ _ hB1 hG t hI) (by assumption) (by rfl) (by rfl) (by rfl) (by rfl) (by exact Nat.le_of_ble_eq_true rfl) (by decide) (by decide) (by omega) (by omega) (fun v ad' F2 hK => ?_)
    obtain ⟨rfl, rfl, hF2, B2, h2, G2, L2, s1, s2, s3⟩ := hK
    have h2_o := h2.1
    unfold MOL at h2_o
    have h2_23 : F2 50023 = some (cI g 16 (fun j => zI (B2 23 j))) := h2.2 23 rfl
    refine r_aload_n X dX6_wouldPay_14 (by rfl) ?_
    refine r_get X dX6_wouldPay_15 fgX6_64_8 (by assumption) (by rfl) ?_
    refine r_iload_n X dX6_wouldPay_18 (by rfl) ?_
    refine r_iald X j dX6_wouldPay_19 (by assumption) (by rfl) (by omega) (by first | decide | omega) ?_
    exact r_iret X rfl (rfl) dX6_wouldPay_20 (⟨rfl, hF1.tr hF2, .inl ⟨a, ⟨B2 23, rfl, s1⟩, _, _, h2, G2⟩⟩) (by omega) (by omega)
  · rw [z2 a] at hB1
    refine r_iconst X dX6_wouldPay_8 rfl ?_
    exact r_iret X rfl (rfl) dX6_wouldPay_9 (⟨rfl, hF1, .inr ⟨a, rfl, _, _, hB1, hG⟩⟩) (by omega) (by omega)
set_option maxRecDepth 100000 in
set_option maxHeartbeats 4000000 in
theorem c_mWouldTake (g : Gx) (l : Launch) (hl : l.stackTraces = false) (ad : Nat → Nat) (F : Pic) (td : Int) (nf nk nc np : Nat) (th : Int) (B A P : Nat → Nat → Int) (kf : Nat → Nat) (hB : MB g ad F td nf nk nc np th B) (hG : AG nf nk nc A P kf B) (t : Nat) (hI : IV td nf nk nc A kf t) (i : Int) (hi : inR i) : Ct g l yX6_wouldTake cX6_wouldTake 4 (some .int) 5 0 0 [.ref (ad 50000), .int (zI i)] ad F (fun v ad' F' => ad = ad' ∧ FrM F F' ∧ (((0 ≤ i ∧ i < nf) ∧ (∃ pn dr, v = some (.int (zI (sm (nk + nf) (fun p => if ow kf (PS A nk nf p) = i.toNat then dr p else 0)))) ∧ S1 A kf nk nf nc pn ∧ S2 A kf nk nf nc pn dr) ∧ MG g ad F' td nf nk nc A P kf 0) ∨ (¬ (0 ≤ i ∧ i < nf) ∧ v = some (.int (zI 0)) ∧ MG g ad F' td nf nk nc A P kf 1))) := by
  refine Ct_of hl rfl [some (.ref (ad 50000)), some (.int (zI i)), none, none] (Nat.le_of_ble_eq_true rfl) (fun _ h => h) ?_
  intro M hL hN X
  subst hL
  have hI0 := hI.1
  have hB_o := hB.1
  unfold MOL at hB_o
  refine r_iconst X dX6_wouldTake_0 rfl ?_
  refine r_istore_n X dX6_wouldTake_1 (by rw [hN]; decide) (by rfl) ?_
  dsimp only [List.set]
  refine r_aload_n X dX6_wouldTake_2 (by rfl) ?_
  refine r_iload_n X dX6_wouldTake_3 (by rfl) ?_
  refine r_callV X dX6_wouldTake_4 kX6_115 (c_mIsFund g _ hl ad F _ _ _ _ _ _ _ hB i hi (by omega)) (by assumption) (by rfl) (by rfl) (by rfl) (by rfl) (by exact Nat.le_of_ble_eq_true rfl) (by decide) (by decide) (by omega) (by omega) (fun v ad' F1 hK => ?_)
  obtain ⟨rfl, rfl, hF1, th', hB1, z1, z2⟩ := hK
  have hB1_o := hB1.1
  unfold MOL at hB1_o
  refine r_if_eqb X 53 dX6_wouldTake_7 (by decide) (fun a => ?_) (fun a => ?_)
  · rw [z2 a] at hB1
    refine r_iload_n X dX6_wouldTake_53 (by rfl) ?_
    exact r_iret X rfl (rfl) dX6_wouldTake_54 (⟨rfl, hF1, .inr ⟨a, rfl, _, _, hB1, hG⟩⟩) (by omega) (by omega)
  · rw [z1 a] at hB1
    obtain ⟨j, rfl⟩ := Int.eq_ofNat_of_zero_le a.1
    refine r_aload_n X dX6_wouldTake_10 (by rfl) ?_
    refine r_callV X dX6_wouldTake_11 kX6_161 (c_mPlans g _ hl ad F1 _ _ _ _ _ _ _ _ _ _ hB1 hG t hI) (by assumption) (by rfl) (by rfl) (by rfl) (by rfl) (by exact Nat.le_of_ble_eq_true rfl) (by decide) (by decide) (by omega) (by omega) (fun v ad' F2 hK => ?_)
    obtain ⟨rfl, rfl, hF2, B2, h2, G2, L2, s1, s2, s3⟩ := hK
    have h2_o := h2.1
    unfold MOL at h2_o
    have h2_19 : F2 50019 = some (cI g 12 (fun j => zI (B2 19 j))) := h2.2 19 rfl
    have h2_24 : F2 50024 = some (cI g 12 (fun j => zI (B2 24 j))) := h2.2 24 rfl
    have loop : ∀ (m p : Nat) (w : Int), nk + nf - p = m → p ≤ nk + nf → w = sm p (fun p => if ow kf (PS A nk nf p) = j then B2 24 p else 0) → V M g ad F2 (0 + 0 + 0) (0 + 0 + 0) 16 [some (.ref (ad 50000)), some (.int (zI (j : Int))), some (.int (zI w)), some (.int (zI (p : Int)))] [] := by
      intro m
      induction m with
      | zero =>
        intro p w hm hp hw
        obtain rfl : p = nk + nf := by omega
        refine r_iload_n X dX6_wouldTake_16 (by rfl) ?_
        refine r_aload_n X dX6_wouldTake_17 (by rfl) ?_
        refine r_get X dX6_wouldTake_18 fgX6_131_8 (by assumption) (by rfl) ?_
        refine r_icmp_ge X 53 dX6_wouldTake_21 (by decide) (by unfold inR; omega) (by unfold inR; omega) (fun b => ?_) (fun b => ?_)
        · refine r_iload_n X dX6_wouldTake_53 (by rfl) ?_
          exact r_iret X rfl (rfl) dX6_wouldTake_54 (⟨rfl, hF1.tr hF2, .inl ⟨a, ⟨B2 23, B2 24, by rw [hw]; rfl, s1, s2⟩, _, _, h2, G2⟩⟩) (by omega) (by omega)
        · omega
      | succ m ih =>
        intro p w hm hp hw
        have e19 := (L2.1 p (by omega)).2
        have hw' : sm (p + 1) (fun p => if ow kf (PS A nk nf p) = j then B2 24 p else 0) = sm p (fun p => if ow kf (PS A nk nf p) = j then B2 24 p else 0) + (if ow kf (PS A nk nf p) = j then B2 24 p else 0) := rfl
        have how : ow kf (PS A nk nf p) < nf := VC.own hI (PS_vc (by omega) (by omega))
        generalize ow kf (PS A nk nf p) = o at *
        refine r_iload_n X dX6_wouldTake_16 (by rfl) ?_
        refine r_aload_n X dX6_wouldTake_17 (by rfl) ?_
        refine r_get X dX6_wouldTake_18 fgX6_131_8 (by assumption) (by rfl) ?_
        refine r_icmp_ge X 53 dX6_wouldTake_21 (by decide) (by unfold inR; omega) (by unfold inR; omega) (fun b => ?_) (fun b => ?_)
        · omega
        · refine r_iload_n X dX6_wouldTake_24 (by rfl) ?_
          refine r_aload_n X dX6_wouldTake_25 (by rfl) ?_
          refine r_get X dX6_wouldTake_26 fgX6_52_8 (by assumption) (by rfl) ?_
          refine r_iload_n X dX6_wouldTake_29 (by rfl) ?_
          refine r_iald X p dX6_wouldTake_30 (by assumption) (by rfl) (by omega) (by first | decide | omega) ?_
          rw [e19]
          refine r_iload_n X dX6_wouldTake_31 (by rfl) ?_
          refine r_icmp_ne X 44 dX6_wouldTake_32 (by decide) (by unfold inR; omega) (by unfold inR; omega) (fun q => ?_) (fun q => ?_)
          · refine r_iconst X dX6_wouldTake_44 rfl ?_
            refine r_iadd X dX6_wouldTake_45 ?_
            refine r_istore_n X dX6_wouldTake_46 (by rw [hN]; decide) (by rfl) ?_
            dsimp only [List.set]
            refine r_iinc X dX6_wouldTake_47 (by rfl) (by rw [hN]; decide) (by rfl) ?_
            dsimp only [List.set]
            refine r_goto X dX6_wouldTake_50 16 (by decide) ?_
            exact ih (p + 1) _ (by omega) (by omega) (by rw [hw', if_neg (by omega), hw])
          · refine r_aload_n X dX6_wouldTake_35 (by rfl) ?_
            refine r_get X dX6_wouldTake_36 fgX6_67_8 (by assumption) (by rfl) ?_
            refine r_iload_n X dX6_wouldTake_39 (by rfl) ?_
            refine r_iald X p dX6_wouldTake_40 (by assumption) (by rfl) (by omega) (by first | decide | omega) ?_
            refine r_goto X dX6_wouldTake_41 45 (by decide) ?_
            refine r_iadd X dX6_wouldTake_45 ?_
            refine r_istore_n X dX6_wouldTake_46 (by rw [hN]; decide) (by rfl) ?_
            dsimp only [List.set]
            refine r_iinc X dX6_wouldTake_47 (by rfl) (by rw [hN]; decide) (by rfl) ?_
            dsimp only [List.set]
            refine r_goto X dX6_wouldTake_50 16 (by decide) ?_
            exact ih (p + 1) _ (by omega) (by omega) (by rw [hw', if_pos (by omega), hw])
    refine r_iconst X dX6_wouldTake_14 rfl ?_
    refine r_istore_n X dX6_wouldTake_15 (by rw [hN]; decide) (by rfl) ?_
    dsimp only [List.set]
    exact loop _ 0 0 rfl (by omega) rfl
