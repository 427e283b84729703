/-! ===== the model: its small methods ===== -/
set_option maxRecDepth 100000 in
set_option maxHeartbeats 4000000 in
theorem c_mIn (g : Gx) (l : Launch) (hl : l.stackTraces = false) (ad : Nat → Nat) (F : Pic) (v lo hi : Int) (h1 : inL v) (h2 : inL lo) (h3 : inL hi) : Ct g l yX6_in cX6_in 6 (some .boolean) 1 0 0 [.long (zL v), .long (zL lo), .long (zL hi)] ad F (fun v' ad' F' => v' = some (.int (bP (lo ≤ v ∧ v ≤ hi))) ∧ ad = ad' ∧ F = F') := by
  refine Ct_of hl rfl [some (.long (zL v)), none, some (.long (zL lo)), none, some (.long (zL hi)), none] (Nat.le_of_ble_eq_true rfl) (fun _ h => h) ?_
  intro M hL hN X
  subst hL
  have no : ¬ (lo ≤ v ∧ v ≤ hi) → V M g ad F 0 0 17 [some (.long (zL v)), none, some (.long (zL lo)), none, some (.long (zL hi)), none] [] := fun h => by
    refine r_iconst X dX6_in_17 rfl ?_
    exact r_iret X rfl (rfl) dX6_in_18 (⟨by rw [bP_f h], rfl, rfl⟩) (by omega) (by omega)
  refine r_lload_n X dX6_in_0 (by rfl) ?_
  refine r_lload_n X dX6_in_1 (by rfl) ?_
  refine r_lcmp X dX6_in_2 (h1) (h2) ?_
  refine r_if_lt X 17 dX6_in_3 (by decide) (lc_in) (fun a => ?_) (fun a => ?_)
  · exact no (fun z => by split at a <;> omega)
  · refine r_lload_n X dX6_in_6 (by rfl) ?_
    refine r_lload X dX6_in_7 (by rfl) ?_
    refine r_lcmp X dX6_in_9 (h1) (h3) ?_
    refine r_if_gt X 17 dX6_in_10 (by decide) (lc_in) (fun b => ?_) (fun b => ?_)
    · exact no (fun z => by have := lc_gt.mp b; omega)
    · have b' : ¬ hi < v := fun z => b (lc_gt.mpr z)
      have a' : ¬ v < lo := fun z => a (by rw [if_pos z]; omega)
      refine r_iconst X dX6_in_13 rfl ?_
      refine r_goto X dX6_in_14 18 (by decide) ?_
      exact r_iret X rfl (rfl) dX6_in_18 (⟨by rw [bP_t (P := lo ≤ v ∧ v ≤ hi) (by omega)], rfl, rfl⟩) (by omega) (by omega)
set_option maxRecDepth 100000 in
set_option maxHeartbeats 4000000 in
theorem c_mIsFund (g : Gx) (l : Launch) (hl : l.stackTraces = false) (ad : Nat → Nat) (F : Pic) (td : Int) (nf nk nc np : Nat) (th : Int) (B : Nat → Nat → Int) (hB : MB g ad F td nf nk nc np th B) (i : Int) (hi : inR i) (hn : nf ≤ 100 ∧ nk ≤ 100 ∧ nc ≤ 100) : Ct g l yX6_isFund cX6_isFund 2 (some .boolean) 2 0 0 [.ref (ad 50000), .int (zI i)] ad F (fun v ad' F' => v = some (.int (bP (0 ≤ i ∧ i < nf))) ∧ ad = ad' ∧ FrM F F' ∧ ∃ th', MB g ad F' td nf nk nc np th' B ∧ (0 ≤ i ∧ i < nf → th' = 0) ∧ (¬ (0 ≤ i ∧ i < nf) → th' = 1)) := by
  refine Ct_of hl rfl [some (.ref (ad 50000)), some (.int (zI i))] (Nat.le_of_ble_eq_true rfl) (fun _ h => h) ?_
  intro M hL hN X
  subst hL
  have hO : F 50000 = some (.inr (8, [.int (zI td), .int (zI nf), .ref (ad 50002), .ref (ad 50003), .ref (ad 50004), .ref (ad 50005), .ref (ad 50006), .ref (ad 50007), .int (zI nk), .ref (ad 50009), .ref (ad 50010), .ref (ad 50011), .ref (ad 50012), .int (zI nc), .ref (ad 50014), .ref (ad 50015), .ref (ad 50016), .ref (ad 50017), .int (zI np), .ref (ad 50019), .ref (ad 50020), .ref (ad 50021), .ref (ad 50022), .ref (ad 50023), .ref (ad 50024), .ref (ad 50025), .ref (ad 50026), .ref (ad 50027), .ref (ad 50028), .int (zI th)])) := hB.1
  unfold inR at hi
  refine r_aload_n X dX6_isFund_0 (by rfl) ?_
  refine r_iload_n X dX6_isFund_1 (by rfl) ?_
  refine r_i2l X dX6_isFund_2 ((by unfold inR; omega)) ?_
  refine r_lconst X dX6_isFund_3 0 rfl ?_
  refine r_aload_n X dX6_isFund_4 (by rfl) ?_
  refine r_get X dX6_isFund_5 fgX6_86_8 (by assumption) (by rfl) ?_
  refine r_iconst X dX6_isFund_8 rfl ?_
  refine r_isub X dX6_isFund_9 ?_
  refine r_i2l X dX6_isFund_10 ((by unfold inR; omega)) ?_
  refine r_callS X dX6_isFund_11 kX6_89 (c_mIn g _ hl ad F i 0 ((nf : Int) - 1) ⟨by omega, by omega⟩ ⟨by omega, by omega⟩ ⟨by omega, by omega⟩) (by rfl) (by rfl) (by exact Nat.le_of_ble_eq_true rfl) (by decide) (by decide) (by omega) (by omega) (fun v ad' F' hK => ?_)
  obtain ⟨rfl, rfl, rfl⟩ := hK
  have rest : ∀ (th' : Int), (0 ≤ i ∧ i < nf → th' = 0) → (¬ (0 ≤ i ∧ i < nf) → th' = 1) → V M g ad F (0 + 0) (0 + 0) 22 [some (.ref (ad 50000)), some (.int (zI i))] [.int (zI th'), .ref (ad 50000)] := fun th' z1 z2 => by
    refine r_put X dX6_isFund_22 fwX6_82_8 (by assumption) (by omega) (by exact Nat.le_of_ble_eq_true rfl) (by rfl) (by rfl) ?_
    dsimp only [List.set]
    refine (fun (k : ∀ F1 : Pic, (MB g ad F1 td nf nk nc np th' B) → (FrM F F1) → V M g ad F1 _ _ _ _ _) => k _ (hB.obj pu_s (fun x hx => pu_n hx)) (FrM.pu ⟨by omega, by omega⟩)) ?_
    intro F1 h1 hF1
    have hO1 := h1.1
    unfold MOL at hO1
    have hth : th' = 0 ∨ th' = 1 := by
      by_cases q : 0 ≤ i ∧ i < nf
      · exact .inl (z1 q)
      · exact .inr (z2 q)
    refine r_aload_n X dX6_isFund_25 (by rfl) ?_
    refine r_get X dX6_isFund_26 fgX6_82_8 (by assumption) (by rfl) ?_
    refine r_if_ne X 36 dX6_isFund_29 (by decide) (by unfold inR; omega) (fun a => ?_) (fun a => ?_)
    · refine r_iconst X dX6_isFund_36 rfl ?_
      exact r_iret X rfl (rfl) dX6_isFund_37 (⟨by rw [bP_f (P := 0 ≤ i ∧ i < nf) (fun q => a (z1 q))], rfl, hF1, th', h1, z1, z2⟩) (by omega) (by omega)
    · refine r_iconst X dX6_isFund_32 rfl ?_
      refine r_goto X dX6_isFund_33 37 (by decide) ?_
      exact r_iret X rfl (rfl) dX6_isFund_37 (⟨by rw [bP_t (P := 0 ≤ i ∧ i < nf) (by by_cases q : 0 ≤ i ∧ i < nf; exact q; exact absurd (z2 q) (by omega))], rfl, hF1, th', h1, z1, z2⟩) (by omega) (by omega)
  refine r_if_eqb X 21 dX6_isFund_14 (by decide) (fun b => ?_) (fun b => ?_)
  · refine r_iconst X dX6_isFund_21 rfl ?_
    exact rest 1 (fun z => absurd (by omega) b) (fun _ => rfl)
  · refine r_iconst X dX6_isFund_17 rfl ?_
    refine r_goto X dX6_isFund_18 22 (by decide) ?_
    exact rest 0 (fun _ => rfl) (fun z => absurd (by omega) z)
set_option maxRecDepth 100000 in
set_option maxHeartbeats 4000000 in
theorem c_mIsCom (g : Gx) (l : Launch) (hl : l.stackTraces = false) (ad : Nat → Nat) (F : Pic) (td : Int) (nf nk nc np : Nat) (th : Int) (B : Nat → Nat → Int) (hB : MB g ad F td nf nk nc np th B) (i : Int) (hi : inR i) (hn : nf ≤ 100 ∧ nk ≤ 100 ∧ nc ≤ 100) : Ct g l yX6_isCommitment cX6_isCommitment 2 (some .boolean) 2 0 0 [.ref (ad 50000), .int (zI i)] ad F (fun v ad' F' => v = some (.int (bP (0 ≤ i ∧ i < nk))) ∧ ad = ad' ∧ FrM F F' ∧ ∃ th', MB g ad F' td nf nk nc np th' B ∧ (0 ≤ i ∧ i < nk → th' = 0) ∧ (¬ (0 ≤ i ∧ i < nk) → th' = 1)) := by
  refine Ct_of hl rfl [some (.ref (ad 50000)), some (.int (zI i))] (Nat.le_of_ble_eq_true rfl) (fun _ h => h) ?_
  intro M hL hN X
  subst hL
  have hO : F 50000 = some (.inr (8, [.int (zI td), .int (zI nf), .ref (ad 50002), .ref (ad 50003), .ref (ad 50004), .ref (ad 50005), .ref (ad 50006), .ref (ad 50007), .int (zI nk), .ref (ad 50009), .ref (ad 50010), .ref (ad 50011), .ref (ad 50012), .int (zI nc), .ref (ad 50014), .ref (ad 50015), .ref (ad 50016), .ref (ad 50017), .int (zI np), .ref (ad 50019), .ref (ad 50020), .ref (ad 50021), .ref (ad 50022), .ref (ad 50023), .ref (ad 50024), .ref (ad 50025), .ref (ad 50026), .ref (ad 50027), .ref (ad 50028), .int (zI th)])) := hB.1
  unfold inR at hi
  refine r_aload_n X dX6_isCommitment_0 (by rfl) ?_
  refine r_iload_n X dX6_isCommitment_1 (by rfl) ?_
  refine r_i2l X dX6_isCommitment_2 ((by unfold inR; omega)) ?_
  refine r_lconst X dX6_isCommitment_3 0 rfl ?_
  refine r_aload_n X dX6_isCommitment_4 (by rfl) ?_
  refine r_get X dX6_isCommitment_5 fgX6_93_8 (by assumption) (by rfl) ?_
  refine r_iconst X dX6_isCommitment_8 rfl ?_
  refine r_isub X dX6_isCommitment_9 ?_
  refine r_i2l X dX6_isCommitment_10 ((by unfold inR; omega)) ?_
  refine r_callS X dX6_isCommitment_11 kX6_89 (c_mIn g _ hl ad F i 0 ((nk : Int) - 1) ⟨by omega, by omega⟩ ⟨by omega, by omega⟩ ⟨by omega, by omega⟩) (by rfl) (by rfl) (by exact Nat.le_of_ble_eq_true rfl) (by decide) (by decide) (by omega) (by omega) (fun v ad' F' hK => ?_)
  obtain ⟨rfl, rfl, rfl⟩ := hK
  have rest : ∀ (th' : Int), (0 ≤ i ∧ i < nk → th' = 0) → (¬ (0 ≤ i ∧ i < nk) → th' = 1) → V M g ad F (0 + 0) (0 + 0) 22 [some (.ref (ad 50000)), some (.int (zI i))] [.int (zI th'), .ref (ad 50000)] := fun th' z1 z2 => by
    refine r_put X dX6_isCommitment_22 fwX6_82_8 (by assumption) (by omega) (by exact Nat.le_of_ble_eq_true rfl) (by rfl) (by rfl) ?_
    dsimp only [List.set]
    refine (fun (k : ∀ F1 : Pic, (MB g ad F1 td nf nk nc np th' B) → (FrM F F1) → V M g ad F1 _ _ _ _ _) => k _ (hB.obj pu_s (fun x hx => pu_n hx)) (FrM.pu ⟨by omega, by omega⟩)) ?_
    intro F1 h1 hF1
    have hO1 := h1.1
    unfold MOL at hO1
    have hth : th' = 0 ∨ th' = 1 := by
      by_cases q : 0 ≤ i ∧ i < nk
      · exact .inl (z1 q)
      · exact .inr (z2 q)
    refine r_aload_n X dX6_isCommitment_25 (by rfl) ?_
    refine r_get X dX6_isCommitment_26 fgX6_82_8 (by assumption) (by rfl) ?_
    refine r_if_ne X 36 dX6_isCommitment_29 (by decide) (by unfold inR; omega) (fun a => ?_) (fun a => ?_)
    · refine r_iconst X dX6_isCommitment_36 rfl ?_
      exact r_iret X rfl (rfl) dX6_isCommitment_37 (⟨by rw [bP_f (P := 0 ≤ i ∧ i < nk) (fun q => a (z1 q))], rfl, hF1, th', h1, z1, z2⟩) (by omega) (by omega)
    · refine r_iconst X dX6_isCommitment_32 rfl ?_
      refine r_goto X dX6_isCommitment_33 37 (by decide) ?_
      exact r_iret X rfl (rfl) dX6_isCommitment_37 (⟨by rw [bP_t (P := 0 ≤ i ∧ i < nk) (by by_cases q : 0 ≤ i ∧ i < nk; exact q; exact absurd (z2 q) (by omega))], rfl, hF1, th', h1, z1, z2⟩) (by omega) (by omega)
  refine r_if_eqb X 21 dX6_isCommitment_14 (by decide) (fun b => ?_) (fun b => ?_)
  · refine r_iconst X dX6_isCommitment_21 rfl ?_
    exact rest 1 (fun z => absurd (by omega) b) (fun _ => rfl)
  · refine r_iconst X dX6_isCommitment_17 rfl ?_
    refine r_goto X dX6_isCommitment_18 22 (by decide) ?_
    exact rest 0 (fun _ => rfl) (fun z => absurd (by omega) z)
set_option maxRecDepth 100000 in
set_option maxHeartbeats 4000000 in
theorem c_mIsCost (g : Gx) (l : Launch) (hl : l.stackTraces = false) (ad : Nat → Nat) (F : Pic) (td : Int) (nf nk nc np : Nat) (th : Int) (B : Nat → Nat → Int) (hB : MB g ad F td nf nk nc np th B) (i : Int) (hi : inR i) (hn : nf ≤ 100 ∧ nk ≤ 100 ∧ nc ≤ 100) : Ct g l yX6_isCost cX6_isCost 2 (some .boolean) 2 0 0 [.ref (ad 50000), .int (zI i)] ad F (fun v ad' F' => v = some (.int (bP (0 ≤ i ∧ i < nc))) ∧ ad = ad' ∧ FrM F F' ∧ ∃ th', MB g ad F' td nf nk nc np th' B ∧ (0 ≤ i ∧ i < nc → th' = 0) ∧ (¬ (0 ≤ i ∧ i < nc) → th' = 1)) := by
  refine Ct_of hl rfl [some (.ref (ad 50000)), some (.int (zI i))] (Nat.le_of_ble_eq_true rfl) (fun _ h => h) ?_
  intro M hL hN X
  subst hL
  have hO : F 50000 = some (.inr (8, [.int (zI td), .int (zI nf), .ref (ad 50002), .ref (ad 50003), .ref (ad 50004), .ref (ad 50005), .ref (ad 50006), .ref (ad 50007), .int (zI nk), .ref (ad 50009), .ref (ad 50010), .ref (ad 50011), .ref (ad 50012), .int (zI nc), .ref (ad 50014), .ref (ad 50015), .ref (ad 50016), .ref (ad 50017), .int (zI np), .ref (ad 50019), .ref (ad 50020), .ref (ad 50021), .ref (ad 50022), .ref (ad 50023), .ref (ad 50024), .ref (ad 50025), .ref (ad 50026), .ref (ad 50027), .ref (ad 50028), .int (zI th)])) := hB.1
  unfold inR at hi
  refine r_aload_n X dX6_isCost_0 (by rfl) ?_
  refine r_iload_n X dX6_isCost_1 (by rfl) ?_
  refine r_i2l X dX6_isCost_2 ((by unfold inR; omega)) ?_
  refine r_lconst X dX6_isCost_3 0 rfl ?_
  refine r_aload_n X dX6_isCost_4 (by rfl) ?_
  refine r_get X dX6_isCost_5 fgX6_96_8 (by assumption) (by rfl) ?_
  refine r_iconst X dX6_isCost_8 rfl ?_
  refine r_isub X dX6_isCost_9 ?_
  refine r_i2l X dX6_isCost_10 ((by unfold inR; omega)) ?_
  refine r_callS X dX6_isCost_11 kX6_89 (c_mIn g _ hl ad F i 0 ((nc : Int) - 1) ⟨by omega, by omega⟩ ⟨by omega, by omega⟩ ⟨by omega, by omega⟩) (by rfl) (by rfl) (by exact Nat.le_of_ble_eq_true rfl) (by decide) (by decide) (by omega) (by omega) (fun v ad' F' hK => ?_)
  obtain ⟨rfl, rfl, rfl⟩ := hK
  have rest : ∀ (th' : Int), (0 ≤ i ∧ i < nc → th' = 0) → (¬ (0 ≤ i ∧ i < nc) → th' = 1) → V M g ad F (0 + 0) (0 + 0) 22 [some (.ref (ad 50000)), some (.int (zI i))] [.int (zI th'), .ref (ad 50000)] := fun th' z1 z2 => by
    refine r_put X dX6_isCost_22 fwX6_82_8 (by assumption) (by omega) (by exact Nat.le_of_ble_eq_true rfl) (by rfl) (by rfl) ?_
    dsimp only [List.set]
    refine (fun (k : ∀ F1 : Pic, (MB g ad F1 td nf nk nc np th' B) → (FrM F F1) → V M g ad F1 _ _ _ _ _) => k _ (hB.obj pu_s (fun x hx => pu_n hx)) (FrM.pu ⟨by omega, by omega⟩)) ?_
    intro F1 h1 hF1
    have hO1 := h1.1
    unfold MOL at hO1
    have hth : th' = 0 ∨ th' = 1 := by
      by_cases q : 0 ≤ i ∧ i < nc
      · exact .inl (z1 q)
      · exact .inr (z2 q)
    refine r_aload_n X dX6_isCost_25 (by rfl) ?_
    refine r_get X dX6_isCost_26 fgX6_82_8 (by assumption) (by rfl) ?_
    refine r_if_ne X 36 dX6_isCost_29 (by decide) (by unfold inR; omega) (fun a => ?_) (fun a => ?_)
    · refine r_iconst X dX6_isCost_36 rfl ?_
      exact r_iret X rfl (rfl) dX6_isCost_37 (⟨by rw [bP_f (P := 0 ≤ i ∧ i < nc) (fun q => a (z1 q))], rfl, hF1, th', h1, z1, z2⟩) (by omega) (by omega)
    · refine r_iconst X dX6_isCost_32 rfl ?_
      refine r_goto X dX6_isCost_33 37 (by decide) ?_
      exact r_iret X rfl (rfl) dX6_isCost_37 (⟨by rw [bP_t (P := 0 ≤ i ∧ i < nc) (by by_cases q : 0 ≤ i ∧ i < nc; exact q; exact absurd (z2 q) (by omega))], rfl, hF1, th', h1, z1, z2⟩) (by omega) (by omega)
  refine r_if_eqb X 21 dX6_isCost_14 (by decide) (fun b => ?_) (fun b => ?_)
  · refine r_iconst X dX6_isCost_21 rfl ?_
    exact rest 1 (fun z => absurd (by omega) b) (fun _ => rfl)
  · refine r_iconst X dX6_isCost_17 rfl ?_
    refine r_goto X dX6_isCost_18 22 (by decide) ?_
    exact rest 0 (fun _ => rfl) (fun z => absurd (by omega) z)
set_option maxRecDepth 100000 in
set_option maxHeartbeats 4000000 in
theorem c_mAllows (g : Gx) (l : Launch) (hl : l.stackTraces = false) (ad : Nat → Nat) (F : Pic) (td : Int) (nf nk nc np : Nat) (th : Int) (B : Nat → Nat → Int) (hB : MB g ad F td nf nk nc np th B) (i : Nat) (hi : i < 6) (c : Int) (ha : 0 ≤ B 3 i ∧ B 3 i ≤ 255) (hc : 0 ≤ c ∧ c ≤ 7) : Ct g l yX6_allows cX6_allows 3 (some .boolean) 1 0 0 [.ref (ad 50000), .int (zI (i : Int)), .int (zI c)] ad F (fun v ad' F' => v = some (.int (bP (hasZ (B 3 i) c))) ∧ ad = ad' ∧ F = F') := by
  refine Ct_of hl rfl [some (.ref (ad 50000)), some (.int (zI (i : Int))), some (.int (zI c))] (Nat.le_of_ble_eq_true rfl) (fun _ h => h) ?_
  intro M hL hN X
  subst hL
  have hO : F 50000 = some (.inr (8, [.int (zI td), .int (zI nf), .ref (ad 50002), .ref (ad 50003), .ref (ad 50004), .ref (ad 50005), .ref (ad 50006), .ref (ad 50007), .int (zI nk), .ref (ad 50009), .ref (ad 50010), .ref (ad 50011), .ref (ad 50012), .int (zI nc), .ref (ad 50014), .ref (ad 50015), .ref (ad 50016), .ref (ad 50017), .int (zI np), .ref (ad 50019), .ref (ad 50020), .ref (ad 50021), .ref (ad 50022), .ref (ad 50023), .ref (ad 50024), .ref (ad 50025), .ref (ad 50026), .ref (ad 50027), .ref (ad 50028), .int (zI th)])) := hB.1
  have h3 : F 50003 = some (cI g 6 (fun j => zI (B 3 j))) := hB.2 3 rfl
  obtain ⟨m', hm⟩ := Int.eq_ofNat_of_zero_le ha.1
  obtain ⟨e', rfl⟩ := Int.eq_ofNat_of_zero_le hc.1
  refine r_aload_n X dX6_allows_0 (by rfl) ?_
  refine r_get X dX6_allows_1 fgX6_13_8 (by assumption) (by rfl) ?_
  refine r_iload_n X dX6_allows_4 (by rfl) ?_
  refine r_iald X i dX6_allows_5 (by assumption) (by rfl) (by omega) (by first | decide | omega) ?_
  rw [hm] at ha
  rw [hm]
  rw [hm] at X
  refine r_iload_n X dX6_allows_6 (by rfl) ?_
  refine r_ishr X (hv := zI_shr (by omega) (by omega)) dX6_allows_7 ?_
  refine r_iconst X dX6_allows_8 rfl ?_
  refine r_iand X (hv := zI_and1 _) dX6_allows_9 ?_
  refine r_iconst X dX6_allows_10 rfl ?_
  have hq := tb_iff m' e'
  refine r_icmp_ne X 18 dX6_allows_11 (by decide) (by unfold inR; omega) (by unfold inR; omega) (fun a => ?_) (fun a => ?_)
  · refine r_iconst X dX6_allows_18 rfl ?_
    exact r_iret X rfl (rfl) dX6_allows_19 (⟨by rw [bP_f (P := hasZ (m' : Int) (e' : Int)) (fun z => a (by have := hq.mp z; omega))], rfl, rfl⟩) (by omega) (by omega)
  · refine r_iconst X dX6_allows_14 rfl ?_
    refine r_goto X dX6_allows_15 19 (by decide) ?_
    exact r_iret X rfl (rfl) dX6_allows_19 (⟨by rw [bP_t (P := hasZ (m' : Int) (e' : Int)) (hq.mpr (by omega))], rfl, rfl⟩) (by omega) (by omega)
