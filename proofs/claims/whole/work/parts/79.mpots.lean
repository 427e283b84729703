/-! ===== the model: its pots ===== -/
def pcZ (c : Nat) : Int := if c < 6 then (c : Int) else -1
/-- the first n pots of the model are those of the codes e -/
def MPo (kf : Nat → Nat) (B : Nat → Nat → Int) (n : Nat) (e : Nat → Nat) : Prop := ∀ p, p < n → B 20 p = pcZ (e p) ∧ B 19 p = ((ow kf (e p) : Nat) : Int)
theorem VC.le {nf nk c : Nat} (h : VC nf nk c) (h6 : nf ≤ 6) : c < 12 := by
  rcases h with ⟨a, b⟩ | ⟨a, b⟩ <;> omega
theorem AG.row2 {nf nk nc : Nat} {A P : Nat → Nat → Int} {kf : Nat → Nat} {B B' : Nat → Nat → Int} (h : AG nf nk nc A P kf B) (e : ∀ a, a ≠ 19 → a ≠ 20 → B' a = B a) : AG nf nk nc A P kf B' := h.row (fun a ha => e a (by omega) (by omega))
set_option maxRecDepth 100000 in
set_option maxHeartbeats 4000000 in
theorem c_mRank (g : Gx) (l : Launch) (hl : l.stackTraces = false) (ad : Nat → Nat) (F : Pic) (td : Int) (nf nk nc np : Nat) (th : Int) (B A P : Nat → Nat → Int) (kf : Nat → Nat) (hB : MB g ad F td nf nk nc np th B) (hG : AG nf nk nc A P kf B) (t : Nat) (hI : IV td nf nk nc A kf t) (c : Nat) (hc : VC nf nk c) : Ct g l yX6_rank cX6_rank 3 (some .int) 1 0 0 [.ref (ad 50000), .int (zI (pcZ c)), .int (zI ((ow kf c : Nat) : Int))] ad F (fun v ad' F' => v = some (.int (zI (16 * exc A c + (c : Int)))) ∧ ad = ad' ∧ F = F') := by
  refine Ct_of hl rfl [some (.ref (ad 50000)), some (.int (zI (pcZ c))), some (.int (zI ((ow kf c : Nat) : Int)))] (Nat.le_of_ble_eq_true rfl) (fun _ h => h) ?_
  intro M hL hN X
  subst hL
  have hI0 := hI.1
  have hB_o := hB.1
  unfold MOL at hB_o
  have hB_4 : F 50004 = some (cI g 6 (fun j => zI (B 4 j))) := hB.2 4 rfl
  have hB_12 : F 50012 = some (cI g 6 (fun j => zI (B 12 j))) := hB.2 12 rfl
  rcases hc with ⟨h1, h2⟩ | ⟨h1, h2⟩
  · have e1 : pcZ c = (c : Int) := if_pos h1
    have e2 : exc A c = A 9 c := if_pos h1
    have e12 : B 12 c = A 9 c := (hG.2.2.1 c h2).2.2.2
    rw [e1]
    rw [e2] at X
    refine r_iload_n X dX6_rank_0 (by rfl) ?_
    refine r_if_lt X 18 dX6_rank_1 (by decide) (by unfold inR; omega) (fun a => ?_) (fun a => ?_)
    · omega
    · refine r_bipush X dX6_rank_4 (by decide) ?_
      refine r_aload_n X dX6_rank_6 (by rfl) ?_
      refine r_get X dX6_rank_7 fgX6_37_8 (by assumption) (by rfl) ?_
      refine r_iload_n X dX6_rank_10 (by rfl) ?_
      refine r_iald X c dX6_rank_11 (by assumption) (by rfl) (by omega) (by first | decide | omega) ?_
      rw [e12]
      refine r_imul X dX6_rank_12 ?_
      refine r_iload_n X dX6_rank_13 (by rfl) ?_
      refine r_iadd X dX6_rank_14 ?_
      refine r_goto X dX6_rank_15 32 (by decide) ?_
      exact r_iret X rfl (rfl) dX6_rank_32 (⟨rfl, rfl, rfl⟩) (by omega) (by omega)
  · have e1 : pcZ c = -1 := if_neg (by omega)
    have e2 : exc A c = A 2 (c - 6) := if_neg (by omega)
    have e3 : ow kf c = c - 6 := if_neg (by omega)
    have e4 : B 4 (c - 6) = A 2 (c - 6) := (hG.1 (c - 6) h2).2.2.1
    rw [e1, e3]
    rw [e2] at X
    refine r_iload_n X dX6_rank_0 (by rfl) ?_
    refine r_if_lt X 18 dX6_rank_1 (by decide) (by unfold inR; omega) (fun a => ?_) (fun a => ?_)
    · refine r_bipush X dX6_rank_18 (by decide) ?_
      refine r_aload_n X dX6_rank_20 (by rfl) ?_
      refine r_get X dX6_rank_21 fgX6_16_8 (by assumption) (by rfl) ?_
      refine r_iload_n X dX6_rank_24 (by rfl) ?_
      refine r_iald X (c - 6) dX6_rank_25 (by assumption) (by rfl) (by omega) (by first | decide | omega) ?_
      rw [e4]
      refine r_imul X dX6_rank_26 ?_
      refine r_bipush X dX6_rank_27 (by decide) ?_
      refine r_iadd X dX6_rank_29 ?_
      refine r_iload_n X dX6_rank_30 (by rfl) ?_
      refine r_iadd X dX6_rank_31 ?_
      refine W_int (b := zI (16 * A 2 (c - 6) + (c : Int))) (congrArg zI (by omega)) ?_
      exact r_iret X rfl (rfl) dX6_rank_32 (⟨rfl, rfl, rfl⟩) (by omega) (by omega)
    · omega
set_option maxRecDepth 100000 in
set_option maxHeartbeats 4000000 in
theorem c_mAddPot (g : Gx) (l : Launch) (hl : l.stackTraces = false) (ad : Nat → Nat) (F : Pic) (td : Int) (nf nk nc np : Nat) (th : Int) (B A P : Nat → Nat → Int) (kf : Nat → Nat) (hB : MB g ad F td nf nk nc np th B) (hG : AG nf nk nc A P kf B) (t : Nat) (hI : IV td nf nk nc A kf t) (e : Nat → Nat) (hp : MPo kf B np e) (he : ∀ p, p < np → VC nf nk (e p)) (hs : Sd (exc A) e np) (h12 : np < 12) (q : Nat) (hq : VC nf nk q) (hlt : ∀ p, p < np → e p < q) : Ct g l yX6_addPot cX6_addPot 4 none 2 0 0 [.ref (ad 50000), .int (zI (pcZ q)), .int (zI ((ow kf q : Nat) : Int))] ad F (fun v ad' F' => v = none ∧ ad = ad' ∧ FrM F F' ∧ ∃ B', MB g ad F' td nf nk nc (np + 1) th B' ∧ (∀ a, a ≠ 19 → a ≠ 20 → B' a = B a) ∧ MPo kf B' (np + 1) (eIns e (cpos (exc A) e (exc A q) np) q)) := by
  refine Ct_of hl rfl [some (.ref (ad 50000)), some (.int (zI (pcZ q))), some (.int (zI ((ow kf q : Nat) : Int))), none] (Nat.le_of_ble_eq_true rfl) (fun _ h => h) ?_
  intro M hL hN X
  subst hL
  have hI0 := hI.1
  have hq12 := hq.le hI0.2.2.1
  have xq := hI.ex hq
  have ending : ∀ (k : Nat) (F1 : Pic) (B1 : Nat → Nat → Int), k ≤ np → FrM F F1 → MB g ad F1 td nf nk nc np th B1 → (∀ a, a ≠ 19 → a ≠ 20 → B1 a = B a) → MPo kf B1 k e → (∀ p, k < p → p ≤ np → B1 20 p = pcZ (e (p - 1)) ∧ B1 19 p = ((ow kf (e (p - 1)) : Nat) : Int)) → (∀ i, i < k → exc A (e i) ≤ exc A q) → (∀ i, k ≤ i → i < np → exc A q < exc A (e i)) →
      V M g ad F1 0 0 72 [some (.ref (ad 50000)), some (.int (zI (pcZ q))), some (.int (zI ((ow kf q : Nat) : Int))), some (.int (zI (k : Int)))] [] := fun k F1 B1 hk hF h1 hr hlo hhi x1 x2 => by
    have ec : cpos (exc A) e (exc A q) np = k := cpos_eq hk x1 x2
    have h1_o := h1.1
    unfold MOL at h1_o
    have h1_20 : F1 50020 = some (cI g 12 (fun j => zI (B1 20 j))) := h1.2 20 rfl
    refine r_aload_n X dX6_addPot_72 (by rfl) ?_
    refine r_get X dX6_addPot_73 fgX6_55_8 (by assumption) (by rfl) ?_
    refine r_iload_n X dX6_addPot_76 (by rfl) ?_
    refine r_iload_n X dX6_addPot_77 (by rfl) ?_
    refine r_ist X k dX6_addPot_78 (by assumption) (by omega) (by rfl) (by omega) (by first | decide | omega) ?_
    obtain ⟨B2, eB2⟩ : ∃ X9 : Nat → Nat → Int, X9 = u2 B1 20 (k) (pcZ q) := ⟨_, rfl⟩
    refine (fun (kk9 : ∀ F2 : Pic, MB g ad F2 _ _ _ _ _ _ B2 → FrM F1 F2 → V M g ad F2 _ _ _ _ _) => kk9 _ (by rw [eB2]; exact h1.put 20 rfl (k) (pcZ q)) (FrM.pu ⟨by omega, by omega⟩)) ?_
    intro F2 h2 h2F
    have h2_o := h2.1
    unfold MOL at h2_o
    have h2_19 : F2 50019 = some (cI g 12 (fun j => zI (B2 19 j))) := h2.2 19 rfl
    refine r_aload_n X dX6_addPot_79 (by rfl) ?_
    refine r_get X dX6_addPot_80 fgX6_52_8 (by assumption) (by rfl) ?_
    refine r_iload_n X dX6_addPot_83 (by rfl) ?_
    refine r_iload_n X dX6_addPot_84 (by rfl) ?_
    refine r_ist X k dX6_addPot_85 (by assumption) (by omega) (by rfl) (by omega) (by first | decide | omega) ?_
    obtain ⟨B3, eB3⟩ : ∃ X9 : Nat → Nat → Int, X9 = u2 B2 19 (k) (((ow kf q : Nat) : Int)) := ⟨_, rfl⟩
    refine (fun (kk9 : ∀ F3 : Pic, MB g ad F3 _ _ _ _ _ _ B3 → FrM F2 F3 → V M g ad F3 _ _ _ _ _) => kk9 _ (by rw [eB3]; exact h2.put 19 rfl (k) (((ow kf q : Nat) : Int))) (FrM.pu ⟨by omega, by omega⟩)) ?_
    intro F3 h3 h3F
    have h3_o := h3.1
    unfold MOL at h3_o
    refine r_aload_n X dX6_addPot_86 (by rfl) ?_
    refine r_dup X dX6_addPot_87 (by rfl) ?_
    refine r_get X dX6_addPot_88 fgX6_131_8 (by assumption) (by rfl) ?_
    refine r_iconst X dX6_addPot_91 rfl ?_
    refine r_iadd X dX6_addPot_92 ?_
    refine r_put X dX6_addPot_93 fwX6_131_8 (by assumption) (by omega) (by exact Nat.le_of_ble_eq_true rfl) (by rfl) (by rfl) ?_
    dsimp only [List.set]
    have e1 : (np : Int) + 1 = ((np + 1 : Nat) : Int) := by omega
    refine (fun (kk9 : ∀ F4 : Pic, MB g ad F4 td nf nk nc (np + 1) th B3 → FrM F3 F4 → V M g ad F4 _ _ _ _ _) => kk9 _ (h3.obj (by rw [pu_s, e1]; rfl) (fun x hx => pu_n hx)) (FrM.pu ⟨by omega, by omega⟩)) ?_
    intro F4 h4 h4F
    have h4_o := h4.1
    unfold MOL at h4_o
    exact r_vret X rfl dX6_addPot_96 (⟨rfl, rfl, hF.tr (h2F.tr (h3F.tr h4F)), B3, h4, fun a a1 a2 => by rw [eB3, u2_row' a1, eB2, u2_row' a2]; exact hr a a1 a2, fun p hp9 => by rw [ec]; unfold eIns; rw [eB3, u2_row' (by omega), eB2]; by_cases e1 : p < k; rw [if_pos e1, u2_col' (by omega), u2_col' (by omega), u2_row' (by omega)]; exact hlo p e1; by_cases e2 : p = k; rw [if_neg e1, if_pos e2, e2, u2_at, u2_at]; exact ⟨rfl, rfl⟩; rw [if_neg e1, if_neg e2, u2_col' e2, u2_col' e2, u2_row' (by omega)]; exact hhi p (by omega) (by omega)⟩) (by omega) (by omega)
  have loop : ∀ (k : Nat) (F1 : Pic) (B1 : Nat → Nat → Int) (z : Int), z = (k : Int) → k ≤ np → FrM F F1 → MB g ad F1 td nf nk nc np th B1 → (∀ a, a ≠ 19 → a ≠ 20 → B1 a = B a) → MPo kf B1 k e → (∀ p, k < p → p ≤ np → B1 20 p = pcZ (e (p - 1)) ∧ B1 19 p = ((ow kf (e (p - 1)) : Nat) : Int)) → (∀ i, k ≤ i → i < np → exc A q < exc A (e i)) →
      V M g ad F1 0 0 5 [some (.ref (ad 50000)), some (.int (zI (pcZ q))), some (.int (zI ((ow kf q : Nat) : Int))), some (.int (zI z))] [] := by
    intro k
    induction k with
    | zero =>
      intro F1 B1 z hz hk hF h1 hr hlo hhi x2
      subst hz
      refine r_iload_n X dX6_addPot_5 (by rfl) ?_
      refine r_if_le X 72 dX6_addPot_6 (by decide) (by unfold inR; omega) (fun a => ?_) (fun a => ?_)
      · exact ending 0 F1 B1 hk hF h1 hr hlo hhi (fun i hi => by omega) x2
      · omega
    | succ k ih =>
      intro F1 B1 z hz hk hF h1 hr hlo hhi x2
      subst hz
      have G1 : AG nf nk nc A P kf B1 := hG.row2 hr
      have vk := he k (by omega)
      have vk12 := vk.le hI0.2.2.1
      have xk := hI.ex vk
      have e20 := (hlo k (by omega)).1
      have e19 := (hlo k (by omega)).2
      have lk := hlt k (by omega)
      have h1_o := h1.1
      unfold MOL at h1_o
      have h1_19 : F1 50019 = some (cI g 12 (fun j => zI (B1 19 j))) := h1.2 19 rfl
      have h1_20 : F1 50020 = some (cI g 12 (fun j => zI (B1 20 j))) := h1.2 20 rfl
      refine r_iload_n X dX6_addPot_5 (by rfl) ?_
      refine r_if_le X 72 dX6_addPot_6 (by decide) (by unfold inR; omega) (fun a => ?_) (fun a => ?_)
      · omega
      · refine r_aload_n X dX6_addPot_9 (by rfl) ?_
        refine r_aload_n X dX6_addPot_10 (by rfl) ?_
        refine r_get X dX6_addPot_11 fgX6_55_8 (by assumption) (by rfl) ?_
        refine r_iload_n X dX6_addPot_14 (by rfl) ?_
        refine r_iconst X dX6_addPot_15 rfl ?_
        refine r_isub X dX6_addPot_16 ?_
        refine r_iald X k dX6_addPot_17 (by assumption) (by omega) (by omega) (by first | decide | omega) ?_
        rw [e20]
        refine r_aload_n X dX6_addPot_18 (by rfl) ?_
        refine r_get X dX6_addPot_19 fgX6_52_8 (by assumption) (by rfl) ?_
        refine r_iload_n X dX6_addPot_22 (by rfl) ?_
        refine r_iconst X dX6_addPot_23 rfl ?_
        refine r_isub X dX6_addPot_24 ?_
        refine r_iald X k dX6_addPot_25 (by assumption) (by omega) (by omega) (by first | decide | omega) ?_
        rw [e19]
        refine r_callV X dX6_addPot_26 kX6_134 (c_mRank g _ hl ad F1 _ _ _ _ _ _ _ _ _ _ h1 G1 t hI (e k) vk) (by assumption) (by rfl) (by rfl) (by rfl) (by rfl) (by exact Nat.le_of_ble_eq_true rfl) (by decide) (by decide) (by omega) (by omega) (fun v ad' F2 hK => ?_)
        obtain ⟨rfl, rfl, rfl⟩ := hK
        refine r_aload_n X dX6_addPot_29 (by rfl) ?_
        refine r_iload_n X dX6_addPot_30 (by rfl) ?_
        refine r_iload_n X dX6_addPot_31 (by rfl) ?_
        refine r_callV X dX6_addPot_32 kX6_134 (c_mRank g _ hl ad F1 _ _ _ _ _ _ _ _ _ _ h1 G1 t hI q hq) (by assumption) (by rfl) (by rfl) (by rfl) (by rfl) (by exact Nat.le_of_ble_eq_true rfl) (by decide) (by decide) (by omega) (by omega) (fun v ad' F2 hK => ?_)
        obtain ⟨rfl, rfl, rfl⟩ := hK
        refine r_icmp_le X 72 dX6_addPot_35 (by decide) (by unfold inR; omega) (by unfold inR; omega) (fun b => ?_) (fun b => ?_)
        · exact ending (k + 1) F1 B1 hk hF h1 hr hlo hhi (fun i hi => by have := hs i k (by omega) (by omega); omega) x2
        · refine r_aload_n X dX6_addPot_38 (by rfl) ?_
          refine r_get X dX6_addPot_39 fgX6_55_8 (by assumption) (by rfl) ?_
          refine r_iload_n X dX6_addPot_42 (by rfl) ?_
          refine r_aload_n X dX6_addPot_43 (by rfl) ?_
          refine r_get X dX6_addPot_44 fgX6_55_8 (by assumption) (by rfl) ?_
          refine r_iload_n X dX6_addPot_47 (by rfl) ?_
          refine r_iconst X dX6_addPot_48 rfl ?_
          refine r_isub X dX6_addPot_49 ?_
          refine r_iald X k dX6_addPot_50 (by assumption) (by omega) (by omega) (by first | decide | omega) ?_
          refine r_ist X (k + 1) dX6_addPot_51 (by assumption) (by omega) (by rfl) (by omega) (by first | decide | omega) ?_
          obtain ⟨B2, eB2⟩ : ∃ X9 : Nat → Nat → Int, X9 = u2 B1 20 (k + 1) (B1 20 k) := ⟨_, rfl⟩
          refine (fun (kk9 : ∀ F2 : Pic, MB g ad F2 _ _ _ _ _ _ B2 → FrM F1 F2 → V M g ad F2 _ _ _ _ _) => kk9 _ (by rw [eB2]; exact h1.put 20 rfl (k + 1) (B1 20 k)) (FrM.pu ⟨by omega, by omega⟩)) ?_
          intro F2 h2 h2F
          have h2_o := h2.1
          unfold MOL at h2_o
          have h2_19 : F2 50019 = some (cI g 12 (fun j => zI (B2 19 j))) := h2.2 19 rfl
          refine r_aload_n X dX6_addPot_52 (by rfl) ?_
          refine r_get X dX6_addPot_53 fgX6_52_8 (by assumption) (by rfl) ?_
          refine r_iload_n X dX6_addPot_56 (by rfl) ?_
          refine r_aload_n X dX6_addPot_57 (by rfl) ?_
          refine r_get X dX6_addPot_58 fgX6_52_8 (by assumption) (by rfl) ?_
          refine r_iload_n X dX6_addPot_61 (by rfl) ?_
          refine r_iconst X dX6_addPot_62 rfl ?_
          refine r_isub X dX6_addPot_63 ?_
          refine r_iald X k dX6_addPot_64 (by assumption) (by omega) (by omega) (by first | decide | omega) ?_
          refine r_ist X (k + 1) dX6_addPot_65 (by assumption) (by omega) (by rfl) (by omega) (by first | decide | omega) ?_
          obtain ⟨B3, eB3⟩ : ∃ X9 : Nat → Nat → Int, X9 = u2 B2 19 (k + 1) (B2 19 k) := ⟨_, rfl⟩
          refine (fun (kk9 : ∀ F3 : Pic, MB g ad F3 _ _ _ _ _ _ B3 → FrM F2 F3 → V M g ad F3 _ _ _ _ _) => kk9 _ (by rw [eB3]; exact h2.put 19 rfl (k + 1) (B2 19 k)) (FrM.pu ⟨by omega, by omega⟩)) ?_
          intro F3 h3 h3F
          have h3_o := h3.1
          unfold MOL at h3_o
          refine r_iinc X dX6_addPot_66 (by rfl) (by rw [hN]; decide) (by rfl) ?_
          dsimp only [List.set]
          refine r_goto X dX6_addPot_69 5 (by decide) ?_
          have f19 : B2 19 = B1 19 := by rw [eB2]; exact u2_row' (by omega)
          have f20 : B3 20 = B2 20 := by rw [eB3]; exact u2_row' (by omega)
          refine ih F3 B3 _ (by omega) (by omega) (hF.tr (h2F.tr h3F)) h3 (fun a a1 a2 => by rw [eB3, u2_row' a1, eB2, u2_row' a2]; exact hr a a1 a2) (fun p hp9 => ?_) (fun p p1 p2 => ?_) (fun i i1 i2 => ?_)
          · rw [f20, eB3, eB2, u2_col' (by omega), u2_col' (by omega), u2_row' (by omega)]; exact hlo p (by omega)
          · rw [f20, eB3, f19, eB2]
            by_cases ep : p = k + 1
            · subst ep
              rw [u2_at, u2_at]
              exact ⟨e20, e19⟩
            · rw [u2_col' ep, u2_col' ep, u2_row' (by omega)]; exact hhi p (by omega) p2
          · by_cases ei : i = k
            · subst ei; omega
            · exact x2 i (by omega) i2
  have hB_o := hB.1
  unfold MOL at hB_o
  refine r_aload_n X dX6_addPot_0 (by rfl) ?_
  refine r_get X dX6_addPot_1 fgX6_131_8 (by assumption) (by rfl) ?_
  refine r_istore_n X dX6_addPot_4 (by rw [hN]; decide) (by rfl) ?_
  dsimp only [List.set]
  exact loop np F B _ rfl (Nat.le_refl _) FrM.rf hB (fun _ _ _ => rfl) hp (fun p p1 p2 => by omega) (fun i i1 i2 => by omega)
