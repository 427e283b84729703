/-! ===== the model agrees with the ledger's numbers ===== -/
/-- the model's numbers are the ledger's -/
def MG (g : Gx) (ad : Nat → Nat) (F : Pic) (td : Int) (nf nk nc : Nat) (A P : Nat → Nat → Int) (kf : Nat → Nat) (th : Int) : Prop := ∃ np B, MB g ad F td nf nk nc np th B ∧ AG nf nk nc A P kf B
section AGs
variable {nf nk nc : Nat} {A P : Nat → Nat → Int} {kf : Nat → Nat} {B : Nat → Nat → Int}
theorem shB_n {C : Nat → Nat → Int} {i k a x : Nat} (h : ¬ (9 ≤ a ∧ a ≤ 12)) : shB C i k a x = C a x := by
  unfold shB; rw [if_neg (fun z => h z.1)]
theorem shB_step {C D B1 B2 B3 B4 : Nat → Nat → Int} {i w : Nat} (hik : i ≤ w) (h : D = shB C i w) (e1 : B1 = u2 D 9 w (D 9 (w + 1))) (e2 : B2 = u2 B1 10 w (B1 10 (w + 1))) (e3 : B3 = u2 B2 11 w (B2 11 (w + 1))) (e4 : B4 = u2 B3 12 w (B3 12 (w + 1))) : B4 = shB C i (w + 1) := by
  have d : ∀ a, D a (w + 1) = C a (w + 1) := fun a => by rw [h, shB_k (by omega)]
  have x10 : B1 10 (w + 1) = C 10 (w + 1) := by rw [e1, u2_row' (by omega), d]
  have x11 : B2 11 (w + 1) = C 11 (w + 1) := by rw [e2, u2_row' (by omega), e1, u2_row' (by omega), d]
  have x12 : B3 12 (w + 1) = C 12 (w + 1) := by rw [e3, u2_row' (by omega), e2, u2_row' (by omega), e1, u2_row' (by omega), d]
  rw [e4, x12, e3, x11, e2, x10, e1, d, h]
  exact shB_s hik
theorem AG.ends (h : AG nf nk nc A P kf B) {i : Nat} (hi : i < nk) (hk : kf i < nf) : AG nf (nk - 1) nc (fEnd A kf i) P (eDel kf i) (shB (u2 B 2 (kf i) (B 2 (kf i) + B 11 i)) i (nk - 1)) := by
  obtain ⟨h1, h2, h3, h4, h5⟩ := h
  refine ⟨fun x hx => ?_, fun x hx hx6 => ?_, fun x hx => ?_, fun x hx => ?_, fun x hx hx6 k hk6 => ?_⟩
  · obtain ⟨a0, a1, a2, a3, a4, a5⟩ := h1 x hx
    rw [shB_n (by omega), shB_n (by omega), shB_n (by omega), shB_n (by omega), shB_n (by omega), shB_n (by omega)]
    rw [u2_row' (a := 3) (by omega), u2_row' (a := 4) (by omega), u2_row' (a := 5) (by omega), u2_row' (a := 6) (by omega), u2_row' (a := 7) (by omega)]
    rw [fEnd_0, fEnd_o (a := 1) (by omega) (by omega), fEnd_o (a := 2) (by omega) (by omega), fEnd_o (a := 3) (by omega) (by omega), fEnd_o (a := 4) (by omega) (by omega), fEnd_o (a := 5) (by omega) (by omega)]
    refine ⟨?_, a1, a2, a3, a4, a5⟩
    by_cases e : x = kf i
    · subst e; rw [u2_at, if_pos rfl, (h3 i hi).2.2.1, a0]
    · rw [u2_col' e, if_neg e, a0]
  · rw [shB_n (by omega), shB_n (by omega), u2_row' (a := 6) (by omega), u2_row' (a := 7) (by omega)]; exact h2 x hx hx6
  · rw [fEnd_k (a := 7) (by omega), fEnd_k (a := 8) (by omega), fEnd_k (a := 9) (by omega)]
    have s : ∀ a, 9 ≤ a → a ≤ 12 → shB (u2 B 2 (kf i) (B 2 (kf i) + B 11 i)) i (nk - 1) a x = if x < i then B a x else B a (x + 1) := fun a h9 h12 => by
      unfold shB
      rw [u2_row' (by omega)]
      by_cases e : x < i
      · rw [if_neg (by omega), if_pos e]
      · rw [if_pos ⟨⟨h9, h12⟩, by omega, hx⟩, if_neg e]
    rw [s 9 (by omega) (by omega), s 10 (by omega) (by omega), s 11 (by omega) (by omega), s 12 (by omega) (by omega)]
    unfold eDel
    by_cases e : x < i
    · rw [if_pos e, if_pos e, if_pos e, if_pos e, if_pos e, if_pos e, if_pos e, if_pos e]; exact h3 x (by omega)
    · rw [if_neg e, if_neg e, if_neg e, if_neg e, if_neg e, if_neg e, if_neg e, if_neg e]; exact h3 (x + 1) (by omega)
  · rw [shB_n (by omega), shB_n (by omega), shB_n (by omega), u2_row' (a := 14) (by omega), u2_row' (a := 15) (by omega), u2_row' (a := 16) (by omega), fEnd_o (a := 10) (by omega) (by omega), fEnd_o (a := 11) (by omega) (by omega), fEnd_o (a := 12) (by omega) (by omega)]
    refine ⟨(h4 x hx).1, (h4 x hx).2.1, (h4 x hx).2.2.1, fun k hk => ?_⟩
    rw [shB_n (by omega), u2_row' (by omega)]; exact (h4 x hx).2.2.2 k hk
  · rw [shB_n (by omega), u2_row' (by omega)]; exact h5 x hx hx6 k hk6
end AGs
set_option maxRecDepth 100000 in
set_option maxHeartbeats 4000000 in
theorem c_mEnds (g : Gx) (l : Launch) (hl : l.stackTraces = false) (ad : Nat → Nat) (F : Pic) (td : Int) (nf nk nc np : Nat) (th : Int) (B A P : Nat → Nat → Int) (kf : Nat → Nat) (hB : MB g ad F td nf nk nc np th B) (hG : AG nf nk nc A P kf B) (i : Nat) (hi : i < nk) (hn : nk ≤ 6) (hkf : kf i < nf) (hf6 : nf ≤ 6) : Ct g l yX6_ends cX6_ends 3 none 1 0 0 [.ref (ad 50000), .int (zI (i : Int))] ad F (fun v ad' F' => v = none ∧ ad = ad' ∧ FrM F F' ∧ ∃ B', MB g ad F' td nf (nk - 1) nc np th B' ∧ AG nf (nk - 1) nc (fEnd A kf i) P (eDel kf i) B') := by
  refine Ct_of hl rfl [some (.ref (ad 50000)), some (.int (zI (i : Int))), none] (Nat.le_of_ble_eq_true rfl) (fun _ h => h) ?_
  intro M hL hN X
  subst hL
  have hB_o := hB.1
  unfold MOL at hB_o
  have hB_2 : F 50002 = some (cI g 6 (fun j => zI (B 2 j))) := hB.2 2 rfl
  have hB_9 : F 50009 = some (cI g 6 (fun j => zI (B 9 j))) := hB.2 9 rfl
  have hB_11 : F 50011 = some (cI g 6 (fun j => zI (B 11 j))) := hB.2 11 rfl
  have hf : B 9 i = (kf i : Int) := (hG.2.2.1 i hi).1
  refine r_aload_n X dX6_ends_0 (by rfl) ?_
  refine r_get X dX6_ends_1 fgX6_7_8 (by assumption) (by rfl) ?_
  refine r_aload_n X dX6_ends_4 (by rfl) ?_
  refine r_get X dX6_ends_5 fgX6_28_8 (by assumption) (by rfl) ?_
  refine r_iload_n X dX6_ends_8 (by rfl) ?_
  refine r_iald X i dX6_ends_9 (by assumption) (by rfl) (by omega) (by first | decide | omega) ?_
  rw [hf]
  refine r_dup2 X dX6_ends_10 (by rfl) (by rfl) ?_
  refine r_iald X (kf i) dX6_ends_11 (by assumption) (by rfl) (by omega) (by first | decide | omega) ?_
  refine r_aload_n X dX6_ends_12 (by rfl) ?_
  refine r_get X dX6_ends_13 fgX6_34_8 (by assumption) (by rfl) ?_
  refine r_iload_n X dX6_ends_16 (by rfl) ?_
  refine r_iald X i dX6_ends_17 (by assumption) (by rfl) (by omega) (by first | decide | omega) ?_
  refine r_iadd X dX6_ends_18 ?_
  refine r_ist X (kf i) dX6_ends_19 (by assumption) (by omega) (by rfl) (by omega) (by first | decide | omega) ?_
  obtain ⟨C, eC⟩ : ∃ X9 : Nat → Nat → Int, X9 = u2 B 2 (kf i) (B 2 (kf i) + B 11 i) := ⟨_, rfl⟩
  refine (fun (kk9 : ∀ F1 : Pic, MB g ad F1 _ _ _ _ _ _ C → FrM F F1 → V M g ad F1 _ _ _ _ _) => kk9 _ (by rw [eC]; exact hB.put 2 rfl (kf i) (B 2 (kf i) + B 11 i)) (FrM.pu ⟨by omega, by omega⟩)) ?_
  intro F1 h1 h1F
  have h1_o := h1.1
  unfold MOL at h1_o
  refine r_aload_n X dX6_ends_20 (by rfl) ?_
  refine r_dup X dX6_ends_21 (by rfl) ?_
  refine r_get X dX6_ends_22 fgX6_93_8 (by assumption) (by rfl) ?_
  refine r_iconst X dX6_ends_25 rfl ?_
  refine r_isub X dX6_ends_26 ?_
  refine r_put X dX6_ends_27 fwX6_93_8 (by assumption) (by omega) (by exact Nat.le_of_ble_eq_true rfl) (by rfl) (by rfl) ?_
  dsimp only [List.set]
  have e1 : (nk : Int) - 1 = ((nk - 1 : Nat) : Int) := by omega
  refine (fun (kk9 : ∀ F2 : Pic, MB g ad F2 td nf (nk - 1) nc np th C → FrM F1 F2 → V M g ad F2 _ _ _ _ _) => kk9 _ (h1.obj (by rw [pu_s, e1]; rfl) (fun x hx => pu_n hx)) (FrM.pu ⟨by omega, by omega⟩)) ?_
  intro F2 h2 h2F
  have h2_o := h2.1
  unfold MOL at h2_o
  have loop : ∀ (m w : Nat) (F3 : Pic) (D : Nat → Nat → Int), nk - 1 - w = m → i ≤ w → w ≤ nk - 1 → FrM F F3 → MB g ad F3 td nf (nk - 1) nc np th D → D = shB C i w → V M g ad F3 0 0 32 [some (.ref (ad 50000)), some (.int (zI (i : Int))), some (.int (zI (w : Int)))] [] := by
    intro m
    induction m with
    | zero =>
      intro w F3 D hm hk hk2 hF3 h3 hD
      obtain rfl : w = nk - 1 := by omega
      have h3_o := h3.1
      unfold MOL at h3_o
      refine r_iload_n X dX6_ends_32 (by rfl) ?_
      refine r_aload_n X dX6_ends_33 (by rfl) ?_
      refine r_get X dX6_ends_34 fgX6_93_8 (by assumption) (by rfl) ?_
      refine r_icmp_ge X 102 dX6_ends_37 (by decide) (by unfold inR; omega) (by unfold inR; omega) (fun a => ?_) (fun a => ?_)
      · exact r_vret X rfl dX6_ends_102 (⟨rfl, rfl, hF3, D, h3, by rw [hD, eC]; exact hG.ends hi hkf⟩) (by omega) (by omega)
      · omega
    | succ m ih =>
      intro w F3 D hm hk hk2 hF3 h3 hD
      have h3_o := h3.1
      unfold MOL at h3_o
      have ek : (w : Int) + 1 = ((w + 1 : Nat) : Int) := by omega
      have h3_9 : F3 50009 = some (cI g 6 (fun j => zI (D 9 j))) := h3.2 9 rfl
      refine r_iload_n X dX6_ends_32 (by rfl) ?_
      refine r_aload_n X dX6_ends_33 (by rfl) ?_
      refine r_get X dX6_ends_34 fgX6_93_8 (by assumption) (by rfl) ?_
      refine r_icmp_ge X 102 dX6_ends_37 (by decide) (by unfold inR; omega) (by unfold inR; omega) (fun a => ?_) (fun a => ?_)
      · omega
      · refine r_aload_n X dX6_ends_40 (by rfl) ?_
        refine r_get X dX6_ends_41 fgX6_28_8 (by assumption) (by rfl) ?_
        refine r_iload_n X dX6_ends_44 (by rfl) ?_
        refine r_aload_n X dX6_ends_45 (by rfl) ?_
        refine r_get X dX6_ends_46 fgX6_28_8 (by assumption) (by rfl) ?_
        refine r_iload_n X dX6_ends_49 (by rfl) ?_
        refine r_iconst X dX6_ends_50 rfl ?_
        refine r_iadd X dX6_ends_51 ?_
        refine r_iald X (w + 1) dX6_ends_52 (by assumption) (by rfl) (by omega) (by first | decide | omega) ?_
        refine r_ist X w dX6_ends_53 (by assumption) (by omega) (by rfl) (by omega) (by first | decide | omega) ?_
        obtain ⟨D1, eD1⟩ : ∃ X9 : Nat → Nat → Int, X9 = u2 D 9 (w) (D 9 (w + 1)) := ⟨_, rfl⟩
        refine (fun (kk9 : ∀ F4 : Pic, MB g ad F4 _ _ _ _ _ _ D1 → FrM F3 F4 → V M g ad F4 _ _ _ _ _) => kk9 _ (by rw [eD1]; exact h3.put 9 rfl (w) (D 9 (w + 1))) (FrM.pu ⟨by omega, by omega⟩)) ?_
        intro F4 h4 h4F
        have h4_o := h4.1
        unfold MOL at h4_o
        have h4_10 : F4 50010 = some (cI g 6 (fun j => zI (D1 10 j))) := h4.2 10 rfl
        refine r_aload_n X dX6_ends_54 (by rfl) ?_
        refine r_get X dX6_ends_55 fgX6_31_8 (by assumption) (by rfl) ?_
        refine r_iload_n X dX6_ends_58 (by rfl) ?_
        refine r_aload_n X dX6_ends_59 (by rfl) ?_
        refine r_get X dX6_ends_60 fgX6_31_8 (by assumption) (by rfl) ?_
        refine r_iload_n X dX6_ends_63 (by rfl) ?_
        refine r_iconst X dX6_ends_64 rfl ?_
        refine r_iadd X dX6_ends_65 ?_
        refine r_iald X (w + 1) dX6_ends_66 (by assumption) (by rfl) (by omega) (by first | decide | omega) ?_
        refine r_ist X w dX6_ends_67 (by assumption) (by omega) (by rfl) (by omega) (by first | decide | omega) ?_
        obtain ⟨D2, eD2⟩ : ∃ X9 : Nat → Nat → Int, X9 = u2 D1 10 (w) (D1 10 (w + 1)) := ⟨_, rfl⟩
        refine (fun (kk9 : ∀ F5 : Pic, MB g ad F5 _ _ _ _ _ _ D2 → FrM F4 F5 → V M g ad F5 _ _ _ _ _) => kk9 _ (by rw [eD2]; exact h4.put 10 rfl (w) (D1 10 (w + 1))) (FrM.pu ⟨by omega, by omega⟩)) ?_
        intro F5 h5 h5F
        have h5_o := h5.1
        unfold MOL at h5_o
        have h5_11 : F5 50011 = some (cI g 6 (fun j => zI (D2 11 j))) := h5.2 11 rfl
        refine r_aload_n X dX6_ends_68 (by rfl) ?_
        refine r_get X dX6_ends_69 fgX6_34_8 (by assumption) (by rfl) ?_
        refine r_iload_n X dX6_ends_72 (by rfl) ?_
        refine r_aload_n X dX6_ends_73 (by rfl) ?_
        refine r_get X dX6_ends_74 fgX6_34_8 (by assumption) (by rfl) ?_
        refine r_iload_n X dX6_ends_77 (by rfl) ?_
        refine r_iconst X dX6_ends_78 rfl ?_
        refine r_iadd X dX6_ends_79 ?_
        refine r_iald X (w + 1) dX6_ends_80 (by assumption) (by rfl) (by omega) (by first | decide | omega) ?_
        refine r_ist X w dX6_ends_81 (by assumption) (by omega) (by rfl) (by omega) (by first | decide | omega) ?_
        obtain ⟨D3, eD3⟩ : ∃ X9 : Nat → Nat → Int, X9 = u2 D2 11 (w) (D2 11 (w + 1)) := ⟨_, rfl⟩
        refine (fun (kk9 : ∀ F6 : Pic, MB g ad F6 _ _ _ _ _ _ D3 → FrM F5 F6 → V M g ad F6 _ _ _ _ _) => kk9 _ (by rw [eD3]; exact h5.put 11 rfl (w) (D2 11 (w + 1))) (FrM.pu ⟨by omega, by omega⟩)) ?_
        intro F6 h6 h6F
        have h6_o := h6.1
        unfold MOL at h6_o
        have h6_12 : F6 50012 = some (cI g 6 (fun j => zI (D3 12 j))) := h6.2 12 rfl
        refine r_aload_n X dX6_ends_82 (by rfl) ?_
        refine r_get X dX6_ends_83 fgX6_37_8 (by assumption) (by rfl) ?_
        refine r_iload_n X dX6_ends_86 (by rfl) ?_
        refine r_aload_n X dX6_ends_87 (by rfl) ?_
        refine r_get X dX6_ends_88 fgX6_37_8 (by assumption) (by rfl) ?_
        refine r_iload_n X dX6_ends_91 (by rfl) ?_
        refine r_iconst X dX6_ends_92 rfl ?_
        refine r_iadd X dX6_ends_93 ?_
        refine r_iald X (w + 1) dX6_ends_94 (by assumption) (by rfl) (by omega) (by first | decide | omega) ?_
        refine r_ist X w dX6_ends_95 (by assumption) (by omega) (by rfl) (by omega) (by first | decide | omega) ?_
        obtain ⟨D4, eD4⟩ : ∃ X9 : Nat → Nat → Int, X9 = u2 D3 12 (w) (D3 12 (w + 1)) := ⟨_, rfl⟩
        refine (fun (kk9 : ∀ F7 : Pic, MB g ad F7 _ _ _ _ _ _ D4 → FrM F6 F7 → V M g ad F7 _ _ _ _ _) => kk9 _ (by rw [eD4]; exact h6.put 12 rfl (w) (D3 12 (w + 1))) (FrM.pu ⟨by omega, by omega⟩)) ?_
        intro F7 h7 h7F
        have h7_o := h7.1
        unfold MOL at h7_o
        refine r_iinc X dX6_ends_96 (by rfl) (by rw [hN]; decide) (by rfl) ?_
        dsimp only [List.set]
        refine r_goto X dX6_ends_99 32 (by decide) ?_
        rw [ek]
        exact ih (w + 1) F7 D4 (by omega) (by omega) (by omega) (hF3.tr (h4F.tr (h5F.tr (h6F.tr h7F)))) h7 (shB_step hk hD eD1 eD2 eD3 eD4)
  refine r_iload_n X dX6_ends_30 (by rfl) ?_
  refine r_istore_n X dX6_ends_31 (by rw [hN]; decide) (by rfl) ?_
  dsimp only [List.set]
  exact loop _ i F2 C rfl (by omega) (by omega) (h1F.tr h2F) h2 (shB_0.symm)
