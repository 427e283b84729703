/-! ===== the model: sets of pots, the least cut ===== -/
noncomputable def csM (R : Nat → Nat) (np X : Nat) : Nat := mkm 16 (fun d => ∃ p, p < np ∧ X.testBit p = true ∧ (R p).testBit d = true)
def mnS (f : Nat → Int) (np X : Nat) : Int := sm np (fun p => if X.testBit p then f p else 0)
theorem tb_ge {x n i : Nat} (h : x < 2 ^ n) (hi : n ≤ i) : x.testBit i = false := Nat.testBit_lt_two_pow (Nat.lt_of_lt_of_le h (Nat.pow_le_pow_right (by decide) hi))
theorem tb_lt2 {x n i : Nat} (h : x < 2 ^ n) (hi : x.testBit i = true) : i < n := by
  by_cases e : i < n
  · exact e
  · rw [tb_ge h (by omega)] at hi; cases hi
theorem tb_2s {p s j : Nat} (hs : s < 2 ^ p) : (2 ^ p + s).testBit j = true ↔ s.testBit j = true ∨ j = p := by
  have h := Nat.two_pow_add_eq_or_of_lt hs 1
  rw [Nat.mul_one] at h
  rw [h, Nat.or_comm]
  exact tb_or p
theorem mnS_0 {f : Nat → Int} {np : Nat} : mnS f np 0 = 0 := sm_zero (fun i _ => if_neg (tb_0 i))
theorem mnS_s {f : Nat → Int} {np p s : Nat} (hs : s < 2 ^ p) (hp : p < np) : mnS f np (2 ^ p + s) = mnS f np s + f p := by
  unfold mnS
  rw [sm_congr (h := fun j => if j = p then f p else (fun j => if s.testBit j then f j else 0) j) (fun j _ => ?_), sm_put, if_pos hp]
  · show _ + (f p - (if s.testBit p then f p else 0)) = _
    rw [if_neg (by rw [tb_ge hs (Nat.le_refl p)]; decide)]; omega
  · show (if (2 ^ p + s).testBit j then f j else 0) = if j = p then f p else (if s.testBit j then f j else 0)
    by_cases e : j = p
    · subst e; rw [if_pos rfl, if_pos ((tb_2s hs).mpr (.inr rfl))]
    · rw [if_neg e]
      by_cases e2 : s.testBit j = true
      · rw [if_pos e2, if_pos ((tb_2s hs).mpr (.inl e2))]
      · rw [if_neg e2, if_neg (fun z => ((tb_2s hs).mp z).elim e2 e)]
theorem csM_0 {R : Nat → Nat} {np : Nat} : csM R np 0 = 0 := by
  unfold csM
  refine (mkm_eq (fun p => ?_)).symm
  exact ⟨fun z => absurd z (tb_0 p), fun z => by obtain ⟨_, q, _, z2, _⟩ := z; exact absurd z2 (tb_0 q)⟩
theorem csM_s {R : Nat → Nat} {np p s : Nat} (hs : s < 2 ^ p) (hp : p < np) (hR : R p < 65536) : csM R np s ||| R p = csM R np (2 ^ p + s) := mkm_eq (fun d => by
  rw [Nat.testBit_or, Bool.or_eq_true]
  unfold csM
  rw [mkm_tb]
  constructor
  · rintro (⟨h1, q, h2, h3, h4⟩ | h)
    · exact ⟨h1, q, h2, (tb_2s hs).mpr (.inl h3), h4⟩
    · exact ⟨tb_lt2 (n := 16) hR h, p, hp, (tb_2s hs).mpr (.inr rfl), h⟩
  · rintro ⟨h1, q, h2, h3, h4⟩
    rcases (tb_2s hs).mp h3 with h5 | h5
    · exact .inl ⟨h1, q, h2, h5, h4⟩
    · exact .inr (h5 ▸ h4))
theorem csM_lt {R : Nat → Nat} {np X : Nat} : csM R np X < 65536 := mkm_lt _ _
theorem sm_bd {lo hi : Int} {f : Nat → Int} : ∀ n, (∀ i, i < n → lo ≤ f i ∧ f i ≤ hi) → lo * n ≤ sm n f ∧ sm n f ≤ hi * n := by
  intro n
  induction n with
  | zero => intro _; show lo * 0 ≤ 0 ∧ 0 ≤ hi * 0; omega
  | succ n ih =>
    intro h
    obtain ⟨h1, h2⟩ := ih (fun i hi => h i (by omega))
    obtain ⟨h3, h4⟩ := h n (by omega)
    show lo * ((n + 1 : Nat) : Int) ≤ sm n f + f n ∧ sm n f + f n ≤ hi * ((n + 1 : Nat) : Int)
    have e1 : lo * ((n + 1 : Nat) : Int) = lo * n + lo := by rw [Int.natCast_add, Int.mul_add]; simp
    have e2 : hi * ((n + 1 : Nat) : Int) = hi * n + hi := by rw [Int.natCast_add, Int.mul_add]; simp
    omega
theorem cutv_b {pp cc : Nat} {mon f : Nat → Int} {R : Nat → Nat} {X : Nat} (hp : pp ≤ 12) (hc : cc ≤ 16) (hmon : ∀ p, p < pp → 0 ≤ mon p ∧ mon p ≤ 60000000) (hf : ∀ c, c < cc → -2000000 ≤ f c ∧ f c ≤ 2000000) : -32000000 ≤ cutv pp cc mon f R X ∧ cutv pp cc mon f R X ≤ 752000000 := by
  have a := sm_bd (lo := 0) (hi := 60000000) (f := fun p => if X.testBit p then mon p else 0) pp (fun i hi => by
    have := hmon i hi
    show 0 ≤ (if X.testBit i then mon i else 0) ∧ (if X.testBit i then mon i else 0) ≤ 60000000
    split <;> omega)
  have b := sm_bd (lo := -2000000) (hi := 2000000) (f := fun c => if rB pp R X c then f c else 0) cc (fun i hi => by
    have := hf i hi
    show -2000000 ≤ (if rB pp R X i then f i else 0) ∧ (if rB pp R X i then f i else 0) ≤ 2000000
    split <;> omega)
  unfold cutv
  omega
theorem cutv_code {np pp cc : Nat} {mon f : Nat → Int} {R : Nat → Nat} {X : Nat} (hX : X < 2 ^ pp) (hp : pp ≤ np) (hc : cc ≤ 16) : mnS mon np X + sm 16 (fun c => if (csM R np (2 ^ pp - (X + 1)) &&& (2 ^ cc - 1)).testBit c then f c else 0) = cutv pp cc mon f R X := by
  have bit : ∀ c, (csM R np (2 ^ pp - (X + 1)) &&& (2 ^ cc - 1)).testBit c = true ↔ c < cc ∧ rB pp R X c = true := fun c => by
    rw [tb_and, Nat.testBit_two_pow_sub_one, decide_eq_true_eq, rB_iff]
    unfold csM
    rw [mkm_tb]
    constructor
    · rintro ⟨⟨h1, q, h2, h3, h4⟩, h5⟩
      rw [Nat.testBit_two_pow_sub_succ hX, Bool.and_eq_true, decide_eq_true_eq] at h3
      exact ⟨h5, q, h3.1, by simpa using h3.2, h4⟩
    · rintro ⟨h5, q, h1, h2, h4⟩
      exact ⟨⟨by omega, q, by omega, by rw [Nat.testBit_two_pow_sub_succ hX, Bool.and_eq_true, decide_eq_true_eq]; exact ⟨h1, by simpa using h2⟩, h4⟩, h5⟩
  unfold cutv mnS
  congr 1
  · exact sm_cut hp (fun i h1 h2 => if_neg (by rw [tb_ge hX h1]; decide))
  · rw [sm_cut hc (fun i h1 h2 => if_neg (fun z => by have := ((bit i).mp z).1; omega))]
    exact sm_congr (fun c hcc => by
      by_cases e : rB pp R X c = true
      · rw [if_pos e, if_pos ((bit c).mpr ⟨hcc, e⟩)]
      · rw [if_neg e, if_neg (fun z => e ((bit c).mp z).2)])
set_option maxRecDepth 100000 in
set_option maxHeartbeats 4000000 in
theorem c_mSum (g : Gx) (l : Launch) (hl : l.stackTraces = false) (ad : Nat → Nat) (F : Pic) (X0 : Nat) (hX0 : X0 < 65536) (r : Nat) (f : Nat → Int) (hF : F r = some (cI g 16 (fun j => zI (f j)))) : Ct g l yX6_sum cX6_sum 4 (some .int) 1 0 0 [.int (zI (X0 : Int)), .ref (ad r)] ad F (fun v ad' F' => v = some (.int (zI (sm 16 (fun c => if X0.testBit c then f c else 0)))) ∧ ad = ad' ∧ F = F') := by
  refine Ct_of hl rfl [some (.int (zI (X0 : Int))), some (.ref (ad r)), none, none] (Nat.le_of_ble_eq_true rfl) (fun _ h => h) ?_
  intro M hL hN X
  subst hL
  have loop : ∀ (m c : Nat) (w : Int), 16 - c = m → c ≤ 16 → w = sm c (fun c => if X0.testBit c then f c else 0) → V M g ad F 0 0 4 [some (.int (zI (X0 : Int))), some (.ref (ad r)), some (.int (zI w)), some (.int (zI (c : Int)))] [] := by
    intro m
    induction m with
    | zero =>
      intro c w hm hc hw
      obtain rfl : c = 16 := by omega
      refine r_iload_n X dX6_sum_4 (by rfl) ?_
      refine r_bipush X dX6_sum_5 (by decide) ?_
      refine r_icmp_ge X 35 dX6_sum_7 (by decide) (by unfold inR; omega) (by unfold inR; omega) (fun a => ?_) (fun a => ?_)
      · refine r_iload_n X dX6_sum_35 (by rfl) ?_
        exact r_iret X rfl (rfl) dX6_sum_36 (⟨by rw [hw], rfl, rfl⟩) (by omega) (by omega)
      · omega
    | succ m ih =>
      intro c w hm hc hw
      have hw' : sm (c + 1) (fun c => if X0.testBit c then f c else 0) = sm c (fun c => if X0.testBit c then f c else 0) + (if X0.testBit c then f c else 0) := rfl
      have hq := tb_iff X0 c
      refine r_iload_n X dX6_sum_4 (by rfl) ?_
      refine r_bipush X dX6_sum_5 (by decide) ?_
      refine r_icmp_ge X 35 dX6_sum_7 (by decide) (by unfold inR; omega) (by unfold inR; omega) (fun a => ?_) (fun a => ?_)
      · omega
      · refine r_iload_n X dX6_sum_10 (by rfl) ?_
        refine r_iload_n X dX6_sum_11 (by rfl) ?_
        refine r_iload_n X dX6_sum_12 (by rfl) ?_
        refine r_ishr X (hv := zI_shr (by omega) (by omega)) dX6_sum_13 ?_
        refine r_iconst X dX6_sum_14 rfl ?_
        refine r_iand X (hv := zI_and1 _) dX6_sum_15 ?_
        refine r_iconst X dX6_sum_16 rfl ?_
        refine r_icmp_ne X 26 dX6_sum_17 (by decide) (by unfold inR; omega) (by unfold inR; omega) (fun b => ?_) (fun b => ?_)
        · have e : ¬ X0.testBit c = true := fun z => by have := hq.mp z; omega
          refine r_iconst X dX6_sum_26 rfl ?_
          refine r_iadd X dX6_sum_27 ?_
          refine r_istore_n X dX6_sum_28 (by rw [hN]; decide) (by rfl) ?_
          dsimp only [List.set]
          refine r_iinc X dX6_sum_29 (by rfl) (by rw [hN]; decide) (by rfl) ?_
          dsimp only [List.set]
          refine r_goto X dX6_sum_32 4 (by decide) ?_
          exact ih (c + 1) _ (by omega) (by omega) (by rw [hw', if_neg e, hw])
        · have e : X0.testBit c = true := hq.mpr (by omega)
          refine r_aload_n X dX6_sum_20 (by rfl) ?_
          refine r_iload_n X dX6_sum_21 (by rfl) ?_
          refine r_iald X c dX6_sum_22 (hF) (by rfl) (by omega) (by first | decide | omega) ?_
          refine r_goto X dX6_sum_23 27 (by decide) ?_
          refine r_iadd X dX6_sum_27 ?_
          refine r_istore_n X dX6_sum_28 (by rw [hN]; decide) (by rfl) ?_
          dsimp only [List.set]
          refine r_iinc X dX6_sum_29 (by rfl) (by rw [hN]; decide) (by rfl) ?_
          dsimp only [List.set]
          refine r_goto X dX6_sum_32 4 (by decide) ?_
          exact ih (c + 1) _ (by omega) (by omega) (by rw [hw', if_pos e, hw])
  refine r_iconst X dX6_sum_0 rfl ?_
  refine r_istore_n X dX6_sum_1 (by rw [hN]; decide) (by rfl) ?_
  dsimp only [List.set]
  refine r_iconst X dX6_sum_2 rfl ?_
  refine r_istore_n X dX6_sum_3 (by rw [hN]; decide) (by rfl) ?_
  dsimp only [List.set]
  exact loop 16 0 0 (by omega) (by omega) rfl
set_option maxRecDepth 100000 in
set_option maxHeartbeats 4000000 in
theorem c_mLaysSets (g : Gx) (l : Launch) (hl : l.stackTraces = false) (ad : Nat → Nat) (F : Pic) (td : Int) (nf nk nc np : Nat) (th : Int) (B : Nat → Nat → Int) (hB : MB g ad F td nf nk nc np th B) (kM : Nat) (hkM : kM = 21 ∨ kM = 24) (R : Nat → Nat) (hR : ∀ p, p < np → B 22 p = ((R p : Nat) : Int) ∧ R p < 65536) (h12 : np ≤ 12) : Ct g l yX6_laysSets cX6_laysSets 4 none 1 0 0 [.ref (ad 50000), .ref (ad (50000 + kM))] ad F (fun v ad' F' => v = none ∧ ad = ad' ∧ FrM F F' ∧ ∃ B', MB g ad F' td nf nk nc np th B' ∧ (∀ a, a ≠ 26 → a ≠ 27 → B' a = B a) ∧ ∀ X, X < 2 ^ np → B' 26 X = mnS (B kM) np X ∧ B' 27 X = ((csM R np X : Nat) : Int)) := by
  refine Ct_of hl rfl [some (.ref (ad 50000)), some (.ref (ad (50000 + kM))), none, none] (Nat.le_of_ble_eq_true rfl) (fun _ h => h) ?_
  intro M hL hN X
  subst hL
  have outer : ∀ (m p : Nat) (F1 : Pic) (B1 : Nat → Nat → Int) (o3 : Option Value), np - p = m → p ≤ np → FrM F F1 → MB g ad F1 td nf nk nc np th B1 → (∀ a, a ≠ 26 → a ≠ 27 → B1 a = B a) → (∀ X, X < 2 ^ p → B1 26 X = mnS (B kM) np X ∧ B1 27 X = ((csM R np X : Nat) : Int)) →
      V M g ad F1 0 0 16 [some (.ref (ad 50000)), some (.ref (ad (50000 + kM))), some (.int (zI (p : Int))), o3] [] := by
    intro m
    induction m with
    | zero =>
      intro p F1 B1 o3 hm hp hF h1 hr hS
      obtain rfl : p = np := by omega
      have h1_o := h1.1
      unfold MOL at h1_o
      refine r_iload_n X dX6_laysSets_16 (by rfl) ?_
      refine r_aload_n X dX6_laysSets_17 (by rfl) ?_
      refine r_get X dX6_laysSets_18 fgX6_131_8 (by assumption) (by rfl) ?_
      refine r_icmp_ge X 88 dX6_laysSets_21 (by decide) (by unfold inR; omega) (by unfold inR; omega) (fun a => ?_) (fun a => ?_)
      · exact r_vret X rfl dX6_laysSets_88 (⟨rfl, rfl, hF, B1, h1, hr, hS⟩) (by omega) (by omega)
      · omega
    | succ m ih =>
      intro p F1 B1 o3 hm hp hF h1 hr hS
      have hpn : p < np := by omega
      have hT2 : 2 ^ (p + 1) ≤ 2 ^ 12 := Nat.pow_le_pow_right (by decide) (by omega)
      rw [Nat.pow_succ] at hT2
      have hT3 : (2 : Nat) ^ 12 = 4096 := by decide
      have inner : ∀ (n s : Nat) (F2 : Pic) (B2 : Nat → Nat → Int), 2 ^ p - s = n → s ≤ 2 ^ p → FrM F F2 → MB g ad F2 td nf nk nc np th B2 → (∀ a, a ≠ 26 → a ≠ 27 → B2 a = B a) → (∀ X, X < 2 ^ p + s → B2 26 X = mnS (B kM) np X ∧ B2 27 X = ((csM R np X : Nat) : Int)) →
          V M g ad F2 0 0 26 [some (.ref (ad 50000)), some (.ref (ad (50000 + kM))), some (.int (zI (p : Int))), some (.int (zI (s : Int)))] [] := by
        intro n
        induction n with
        | zero =>
          intro s F2 B2 hn hs hF2 h2 hr2 hS2
          obtain rfl : s = 2 ^ p := by omega
          refine r_iload_n X dX6_laysSets_26 (by rfl) ?_
          refine r_iconst X dX6_laysSets_27 rfl ?_
          refine r_iload_n X dX6_laysSets_28 (by rfl) ?_
          refine r_ishl X (hv := zI_shl (by omega)) dX6_laysSets_29 ?_
          refine r_icmp_ge X 82 dX6_laysSets_30 (by decide) (by unfold inR; omega) (by unfold inR; omega) (fun b => ?_) (fun b => ?_)
          · refine r_iinc X dX6_laysSets_82 (by rfl) (by rw [hN]; decide) (by rfl) ?_
            dsimp only [List.set]
            refine r_goto X dX6_laysSets_85 16 (by decide) ?_
            exact ih (p + 1) F2 B2 _ (by omega) (by omega) hF2 h2 hr2 (fun X hX => hS2 X (by rw [Nat.pow_succ] at hX; omega))
          · omega
        | succ n ihn =>
          intro s F2 B2 hn hs hF2 h2 hr2 hS2
          have hs2 : s < 2 ^ p := by omega
          obtain ⟨s26, s27⟩ := hS2 s (by omega)
          have hM : F2 (50000 + kM) = some (cI g 12 (fun j => zI (B2 kM j))) := by rcases hkM with rfl | rfl <;> exact h2.2 _ rfl
          have eM : B2 kM = B kM := hr2 kM (by omega) (by omega)
          have eR : B2 22 p = ((R p : Nat) : Int) := by rw [hr2 22 (by omega) (by omega)]; exact (hR p hpn).1
          have h2_o := h2.1
          unfold MOL at h2_o
          have h2_26 : F2 50026 = some (cI g 4096 (fun j => zI (B2 26 j))) := h2.2 26 rfl
          have h2_27 : F2 50027 = some (cI g 4096 (fun j => zI (B2 27 j))) := h2.2 27 rfl
          have h2_22 : F2 50022 = some (cI g 12 (fun j => zI (B2 22 j))) := h2.2 22 rfl
          refine r_iload_n X dX6_laysSets_26 (by rfl) ?_
          refine r_iconst X dX6_laysSets_27 rfl ?_
          refine r_iload_n X dX6_laysSets_28 (by rfl) ?_
          refine r_ishl X (hv := zI_shl (by omega)) dX6_laysSets_29 ?_
          refine r_icmp_ge X 82 dX6_laysSets_30 (by decide) (by unfold inR; omega) (by unfold inR; omega) (fun b => ?_) (fun b => ?_)
          · omega
          · refine r_aload_n X dX6_laysSets_33 (by rfl) ?_
            refine r_get X dX6_laysSets_34 fgX6_73_8 (by assumption) (by rfl) ?_
            refine r_iconst X dX6_laysSets_37 rfl ?_
            refine r_iload_n X dX6_laysSets_38 (by rfl) ?_
            refine r_ishl X (hv := zI_shl (by omega)) dX6_laysSets_39 ?_
            refine r_iload_n X dX6_laysSets_40 (by rfl) ?_
            refine r_iadd X dX6_laysSets_41 ?_
            refine r_aload_n X dX6_laysSets_42 (by rfl) ?_
            refine r_get X dX6_laysSets_43 fgX6_73_8 (by assumption) (by rfl) ?_
            refine r_iload_n X dX6_laysSets_46 (by rfl) ?_
            refine r_iald X s dX6_laysSets_47 (by assumption) (by rfl) (by omega) (by first | decide | omega) ?_
            rw [s26]
            refine r_aload_n X dX6_laysSets_48 (by rfl) ?_
            refine r_iload_n X dX6_laysSets_49 (by rfl) ?_
            refine r_iald X p dX6_laysSets_50 (hM) (by rfl) (by omega) (by first | decide | omega) ?_
            rw [eM]
            refine r_iadd X dX6_laysSets_51 ?_
            refine r_ist X (2 ^ p + s) dX6_laysSets_52 (by assumption) (by omega) (by omega) (by omega) (by first | decide | omega) ?_
            obtain ⟨B3, eB3⟩ : ∃ X9 : Nat → Nat → Int, X9 = u2 B2 26 (2 ^ p + s) (mnS (B kM) np s + B kM p) := ⟨_, rfl⟩
            refine (fun (kk9 : ∀ F3 : Pic, MB g ad F3 _ _ _ _ _ _ B3 → FrM F2 F3 → V M g ad F3 _ _ _ _ _) => kk9 _ (by rw [eB3]; exact h2.put 26 rfl (2 ^ p + s) (mnS (B kM) np s + B kM p)) (FrM.pu ⟨by omega, by omega⟩)) ?_
            intro F3 h3 h3F
            have h3_o := h3.1
            unfold MOL at h3_o
            have t27 : B3 27 s = ((csM R np s : Nat) : Int) := by rw [eB3, u2_row' (by omega)]; exact s27
            have t22 : B3 22 p = ((R p : Nat) : Int) := by rw [eB3, u2_row' (by omega)]; exact eR
            have h3_22 : F3 50022 = some (cI g 12 (fun j => zI (B3 22 j))) := h3.2 22 rfl
            have h3_27 : F3 50027 = some (cI g 4096 (fun j => zI (B3 27 j))) := h3.2 27 rfl
            refine r_aload_n X dX6_laysSets_53 (by rfl) ?_
            refine r_get X dX6_laysSets_54 fgX6_76_8 (by assumption) (by rfl) ?_
            refine r_iconst X dX6_laysSets_57 rfl ?_
            refine r_iload_n X dX6_laysSets_58 (by rfl) ?_
            refine r_ishl X (hv := zI_shl (by omega)) dX6_laysSets_59 ?_
            refine r_iload_n X dX6_laysSets_60 (by rfl) ?_
            refine r_iadd X dX6_laysSets_61 ?_
            refine r_aload_n X dX6_laysSets_62 (by rfl) ?_
            refine r_get X dX6_laysSets_63 fgX6_76_8 (by assumption) (by rfl) ?_
            refine r_iload_n X dX6_laysSets_66 (by rfl) ?_
            refine r_iald X s dX6_laysSets_67 (by assumption) (by rfl) (by omega) (by first | decide | omega) ?_
            rw [t27]
            refine r_aload_n X dX6_laysSets_68 (by rfl) ?_
            refine r_get X dX6_laysSets_69 fgX6_61_8 (by assumption) (by rfl) ?_
            refine r_iload_n X dX6_laysSets_72 (by rfl) ?_
            refine r_iald X p dX6_laysSets_73 (by assumption) (by rfl) (by omega) (by first | decide | omega) ?_
            rw [t22]
            refine r_ior X (hv := zI_or _ _) dX6_laysSets_74 ?_
            refine r_ist X (2 ^ p + s) dX6_laysSets_75 (by assumption) (by omega) (by omega) (by omega) (by first | decide | omega) ?_
            obtain ⟨B4, eB4⟩ : ∃ X9 : Nat → Nat → Int, X9 = u2 B3 27 (2 ^ p + s) (((csM R np s ||| R p : Nat) : Int)) := ⟨_, rfl⟩
            refine (fun (kk9 : ∀ F4 : Pic, MB g ad F4 _ _ _ _ _ _ B4 → FrM F3 F4 → V M g ad F4 _ _ _ _ _) => kk9 _ (by rw [eB4]; exact h3.put 27 rfl (2 ^ p + s) (((csM R np s ||| R p : Nat) : Int))) (FrM.pu ⟨by omega, by omega⟩)) ?_
            intro F4 h4 h4F
            have h4_o := h4.1
            unfold MOL at h4_o
            refine r_iinc X dX6_laysSets_76 (by rfl) (by rw [hN]; decide) (by rfl) ?_
            dsimp only [List.set]
            refine r_goto X dX6_laysSets_79 26 (by decide) ?_
            refine ihn (s + 1) F4 B4 (by omega) (by omega) (hF2.tr (h3F.tr h4F)) h4 (fun a a1 a2 => by rw [eB4, u2_row' a2, eB3, u2_row' a1]; exact hr2 a a1 a2) (fun X hX => ?_)
            by_cases eX : X = 2 ^ p + s
            · subst eX
              rw [eB4, u2_row' (by omega), eB3, u2_at, u2_at, mnS_s hs2 hpn, csM_s hs2 hpn (hR p hpn).2]
              exact ⟨rfl, rfl⟩
            · rw [eB4, u2_row' (by omega), u2_col' eX, eB3, u2_col' eX, u2_row' (by omega)]
              exact hS2 X (by omega)
      have h1_o := h1.1
      unfold MOL at h1_o
      refine r_iload_n X dX6_laysSets_16 (by rfl) ?_
      refine r_aload_n X dX6_laysSets_17 (by rfl) ?_
      refine r_get X dX6_laysSets_18 fgX6_131_8 (by assumption) (by rfl) ?_
      refine r_icmp_ge X 88 dX6_laysSets_21 (by decide) (by unfold inR; omega) (by unfold inR; omega) (fun a => ?_) (fun a => ?_)
      · omega
      · refine r_iconst X dX6_laysSets_24 rfl ?_
        refine r_istore_n X dX6_laysSets_25 (by rw [hN]; decide) (by rfl) ?_
        dsimp only [List.set]
        exact inner _ 0 F1 B1 rfl (by omega) hF h1 hr hS
  have hB_o := hB.1
  unfold MOL at hB_o
  have hB_26 : F 50026 = some (cI g 4096 (fun j => zI (B 26 j))) := hB.2 26 rfl
  refine r_aload_n X dX6_laysSets_0 (by rfl) ?_
  refine r_get X dX6_laysSets_1 fgX6_73_8 (by assumption) (by rfl) ?_
  refine r_iconst X dX6_laysSets_4 rfl ?_
  refine r_iconst X dX6_laysSets_5 rfl ?_
  refine r_ist X 0 dX6_laysSets_6 (by assumption) (by omega) (by rfl) (by omega) (by first | decide | omega) ?_
  obtain ⟨B1, eB1⟩ : ∃ X9 : Nat → Nat → Int, X9 = u2 B 26 (0) (0) := ⟨_, rfl⟩
  refine (fun (kk9 : ∀ F1 : Pic, MB g ad F1 _ _ _ _ _ _ B1 → FrM F F1 → V M g ad F1 _ _ _ _ _) => kk9 _ (by rw [eB1]; exact hB.put 26 rfl (0) (0)) (FrM.pu ⟨by omega, by omega⟩)) ?_
  intro F1 h1 h1F
  have h1_o := h1.1
  unfold MOL at h1_o
  have h1_27 : F1 50027 = some (cI g 4096 (fun j => zI (B1 27 j))) := h1.2 27 rfl
  refine r_aload_n X dX6_laysSets_7 (by rfl) ?_
  refine r_get X dX6_laysSets_8 fgX6_76_8 (by assumption) (by rfl) ?_
  refine r_iconst X dX6_laysSets_11 rfl ?_
  refine r_iconst X dX6_laysSets_12 rfl ?_
  refine r_ist X 0 dX6_laysSets_13 (by assumption) (by omega) (by rfl) (by omega) (by first | decide | omega) ?_
  obtain ⟨B2, eB2⟩ : ∃ X9 : Nat → Nat → Int, X9 = u2 B1 27 (0) (0) := ⟨_, rfl⟩
  refine (fun (kk9 : ∀ F2 : Pic, MB g ad F2 _ _ _ _ _ _ B2 → FrM F1 F2 → V M g ad F2 _ _ _ _ _) => kk9 _ (by rw [eB2]; exact h1.put 27 rfl (0) (0)) (FrM.pu ⟨by omega, by omega⟩)) ?_
  intro F2 h2 h2F
  have h2_o := h2.1
  unfold MOL at h2_o
  refine r_iconst X dX6_laysSets_14 rfl ?_
  refine r_istore_n X dX6_laysSets_15 (by rw [hN]; decide) (by rfl) ?_
  dsimp only [List.set]
  refine outer np 0 F2 B2 _ (by omega) (by omega) (h1F.tr h2F) h2 (fun a a1 a2 => by rw [eB2, u2_row' a2, eB1, u2_row' a1]) (fun X hX => ?_)
  obtain rfl : X = 0 := by omega
  rw [eB2, u2_row' (by omega), eB1, u2_at, u2_at, mnS_0, csM_0]
  exact ⟨rfl, rfl⟩
set_option maxRecDepth 100000 in
set_option maxHeartbeats 4000000 in
theorem c_mMost (g : Gx) (l : Launch) (hl : l.stackTraces = false) (ad : Nat → Nat) (F : Pic) (td : Int) (nf nk nc np : Nat) (th : Int) (B : Nat → Nat → Int) (hB : MB g ad F td nf nk nc np th B) (R : Nat → Nat) (mon : Nat → Int) (hS : ∀ X, X < 2 ^ np → B 26 X = mnS mon np X ∧ B 27 X = ((csM R np X : Nat) : Int)) (h12 : np ≤ 12) (pp cc : Nat) (hpp : pp ≤ np) (hcc : cc ≤ 16) (r : Nat) (f : Nat → Int) (hFr : F r = some (cI g 16 (fun j => zI (f j)))) (hmon : ∀ p, p < np → 0 ≤ mon p ∧ mon p ≤ 60000000) (hf : ∀ c, c < cc → -2000000 ≤ f c ∧ f c ≤ 2000000) : Ct g l yX6_most cX6_most 8 (some .int) 2 0 0 [.ref (ad 50000), .int (zI (pp : Int)), .int (zI (cc : Int)), .ref (ad r)] ad F (fun v ad' F' => (∃ t, v = some (.int (zI t)) ∧ MC pp cc mon f R t) ∧ ad = ad' ∧ F = F') := by
  refine Ct_of hl rfl [some (.ref (ad 50000)), some (.int (zI (pp : Int))), some (.int (zI (cc : Int))), some (.ref (ad r)), none, none, none, none] (Nat.le_of_ble_eq_true rfl) (fun _ h => h) ?_
  intro M hL hN X
  subst hL
  have hT2 : 2 ^ pp ≤ 2 ^ 12 := Nat.pow_le_pow_right (by decide) (by omega)
  have hTn : 2 ^ pp ≤ 2 ^ np := Nat.pow_le_pow_right (by decide) hpp
  have hT3 : (2 : Nat) ^ 12 = 4096 := by decide
  have hT4 : 0 < 2 ^ pp := Nat.pow_pos (by decide)
  have hC2 : 2 ^ cc ≤ 2 ^ 16 := Nat.pow_le_pow_right (by decide) hcc
  have hC3 : (2 : Nat) ^ 16 = 65536 := by decide
  have hC4 : 0 < 2 ^ cc := Nat.pow_pos (by decide)
  have hB_o := hB.1
  unfold MOL at hB_o
  have hB_26 : F 50026 = some (cI g 4096 (fun j => zI (B 26 j))) := hB.2 26 rfl
  have hB_27 : F 50027 = some (cI g 4096 (fun j => zI (B 27 j))) := hB.2 27 rfl
  have loop : ∀ (m X0 : Nat) (le : Int) (o7 : Option Value), 2 ^ pp - X0 = m → X0 ≤ 2 ^ pp → ((X0 = 0 ∧ le = 2147483647) ∨ ((∃ Y, Y < X0 ∧ cutv pp cc mon f R Y = le) ∧ ∀ Y, Y < X0 → le ≤ cutv pp cc mon f R Y)) →
      V M g ad F 0 0 14 [some (.ref (ad 50000)), some (.int (zI (pp : Int))), some (.int (zI (cc : Int))), some (.ref (ad r)), some (.int (zI (((2 ^ pp : Nat) : Int) - 1))), some (.int (zI le)), some (.int (zI (X0 : Int))), o7] [] := by
    intro m
    induction m with
    | zero =>
      intro X0 le o7 hm hX hle
      obtain rfl : X0 = 2 ^ pp := by omega
      refine r_iload X dX6_most_14 (by rfl) ?_
      refine r_iload X dX6_most_16 (by rfl) ?_
      refine r_icmp_gt X 73 dX6_most_18 (by decide) (by unfold inR; omega) (by unfold inR; omega) (fun a => ?_) (fun a => ?_)
      · refine r_iload X dX6_most_73 (by rfl) ?_
        exact r_iret X rfl (rfl) dX6_most_75 (⟨⟨le, rfl, by rcases hle with ⟨z, -⟩ | ⟨z1, z2⟩; omega; exact ⟨z1, z2⟩⟩, rfl, rfl⟩) (by omega) (by omega)
      · omega
    | succ m ih =>
      intro X0 le o7 hm hX hle
      have hX2 : X0 < 2 ^ pp := by omega
      have cb := cutv_b (R := R) (X := X0) (by omega : pp ≤ 12) hcc (fun p hp => hmon p (by omega)) hf
      have lb : -32000000 ≤ le ∧ le ≤ 2147483647 := by
        rcases hle with ⟨-, z⟩ | ⟨⟨Y, -, z⟩, -⟩
        · omega
        · have := cutv_b (R := R) (X := Y) (by omega : pp ≤ 12) hcc (fun p hp => hmon p (by omega)) hf
          omega
      have s1 := (hS X0 (by omega)).1
      have s2 := (hS (2 ^ pp - (X0 + 1)) (by omega)).2
      have code := cutv_code (R := R) (mon := mon) (f := f) hX2 hpp hcc
      refine r_iload X dX6_most_14 (by rfl) ?_
      refine r_iload X dX6_most_16 (by rfl) ?_
      refine r_icmp_gt X 73 dX6_most_18 (by decide) (by unfold inR; omega) (by unfold inR; omega) (fun a => ?_) (fun a => ?_)
      · omega
      · refine r_aload_n X dX6_most_21 (by rfl) ?_
        refine r_get X dX6_most_22 fgX6_73_8 (by assumption) (by rfl) ?_
        refine r_iload X dX6_most_25 (by rfl) ?_
        refine r_iald X X0 dX6_most_27 (by assumption) (by rfl) (by omega) (by first | decide | omega) ?_
        rw [s1]
        refine r_aload_n X dX6_most_28 (by rfl) ?_
        refine r_get X dX6_most_29 fgX6_76_8 (by assumption) (by rfl) ?_
        refine r_iload X dX6_most_32 (by rfl) ?_
        refine r_iload X dX6_most_34 (by rfl) ?_
        refine r_isub X dX6_most_36 ?_
        refine r_iald X (2 ^ pp - (X0 + 1)) dX6_most_37 (by assumption) (by omega) (by omega) (by first | decide | omega) ?_
        rw [s2]
        refine r_iconst X dX6_most_38 rfl ?_
        refine r_iload_n X dX6_most_39 (by rfl) ?_
        refine r_ishl X (hv := zI_shl (by omega)) dX6_most_40 ?_
        refine r_iconst X dX6_most_41 rfl ?_
        refine r_isub X dX6_most_42 ?_
        refine W_int (b := zI ((2 ^ cc - 1 : Nat) : Int)) (congrArg zI (by omega)) ?_
        refine r_iand X (hv := zI_and _ _) dX6_most_43 ?_
        refine r_aload_n X dX6_most_44 (by rfl) ?_
        refine r_callS X dX6_most_45 kX6_146 (c_mSum g _ hl ad F (csM R np (2 ^ pp - (X0 + 1)) &&& (2 ^ cc - 1)) (Nat.lt_of_le_of_lt Nat.and_le_left csM_lt) r f hFr) (by rfl) (by rfl) (by exact Nat.le_of_ble_eq_true rfl) (by decide) (by decide) (by omega) (by omega) (fun v ad' F' hK => ?_)
        obtain ⟨rfl, rfl, rfl⟩ := hK
        refine r_iadd X dX6_most_48 ?_
        rw [code]
        generalize hcv : cutv pp cc mon f R X0 = cv at *
        refine r_istore X dX6_most_49 (by rw [hN]; decide) (by rfl) ?_
        dsimp only [List.set]
        refine r_iload X dX6_most_51 (by rfl) ?_
        refine r_iload X dX6_most_53 (by rfl) ?_
        have rest : ∀ z : Int, z = min cv le → V M g ad F 0 0 65 [some (.ref (ad 50000)), some (.int (zI (pp : Int))), some (.int (zI (cc : Int))), some (.ref (ad r)), some (.int (zI (((2 ^ pp : Nat) : Int) - 1))), some (.int (zI le)), some (.int (zI (X0 : Int))), some (.int (zI cv))] [.int (zI z)] := fun z hz => by
          refine r_istore X dX6_most_65 (by rw [hN]; decide) (by rfl) ?_
          dsimp only [List.set]
          refine r_iinc X dX6_most_67 (by rfl) (by rw [hN]; decide) (by rfl) ?_
          dsimp only [List.set]
          refine r_goto X dX6_most_70 14 (by decide) ?_
          have hz1 : z ≤ cv ∧ z ≤ le ∧ (z = cv ∨ z = le) := by clear hle; omega
          have a1 : 2 ^ pp - (X0 + 1) = m := by clear hle; omega
          refine ih (X0 + 1) z _ a1 hX2 (.inr ⟨?_, fun Y hY => ?_⟩)
          · rcases hz1.2.2 with e | e
            · exact ⟨X0, Nat.lt_succ_self _, hcv.trans e.symm⟩
            · rcases hle with ⟨z2, z3⟩ | ⟨⟨Y, y1, y2⟩, -⟩
              · exact ⟨X0, Nat.lt_succ_self _, by rw [hcv]; omega⟩
              · exact ⟨Y, Nat.lt_succ_of_lt y1, y2.trans e.symm⟩
          · by_cases e : Y = X0
            · rw [e, hcv]; exact hz1.1
            · rcases hle with ⟨z2, -⟩ | ⟨-, z2⟩
              · omega
              · exact Int.le_trans hz1.2.1 (z2 Y (by omega))
        refine r_icmp_ge X 63 dX6_most_55 (by decide) (by unfold inR; omega) (by unfold inR; omega) (fun b => ?_) (fun b => ?_)
        · refine r_iload X dX6_most_63 (by rfl) ?_
          exact rest _ (by omega)
        · refine r_iload X dX6_most_58 (by rfl) ?_
          refine r_goto X dX6_most_60 65 (by decide) ?_
          exact rest _ (by omega)
  refine r_iconst X dX6_most_0 rfl ?_
  refine r_iload_n X dX6_most_1 (by rfl) ?_
  refine r_ishl X (hv := zI_shl (by omega)) dX6_most_2 ?_
  refine r_iconst X dX6_most_3 rfl ?_
  refine r_isub X dX6_most_4 ?_
  refine r_istore X dX6_most_5 (by rw [hN]; decide) (by rfl) ?_
  dsimp only [List.set]
  refine r_ldc X dX6_most_7 w1259 (2147483647) rfl ?_
  refine r_istore X dX6_most_9 (by rw [hN]; decide) (by rfl) ?_
  dsimp only [List.set]
  refine r_iconst X dX6_most_11 rfl ?_
  refine r_istore X dX6_most_12 (by rw [hN]; decide) (by rfl) ?_
  dsimp only [List.set]
  exact loop _ 0 _ _ rfl (by omega) (.inl ⟨rfl, rfl⟩)
