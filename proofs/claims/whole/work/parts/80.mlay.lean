/-! ===== the model lays its pots ===== -/
theorem mkm_0 {P : Nat → Prop} : mkm 0 P = 0 := (mkm_eq (fun p => ⟨fun z => absurd z (tb_0 p), fun z => by omega⟩)).symm
theorem mkm_s1 {d : Nat} {P : Nat → Prop} (h : P d) : mkm d P ||| 2 ^ d = mkm (d + 1) P := mkm_eq (fun p => by
  rw [tb_or, mkm_tb]
  constructor
  · rintro (z | z)
    · exact ⟨by omega, z.2⟩
    · exact ⟨by omega, z ▸ h⟩
  · rintro ⟨z1, z2⟩
    by_cases e : p = d
    · exact .inr e
    · exact .inl ⟨by omega, z2⟩)
theorem mkm_s0 {d : Nat} {P : Nat → Prop} (h : ¬ P d) : mkm d P = mkm (d + 1) P := mkm_eq (fun p => by
  rw [mkm_tb]
  constructor
  · exact fun z => ⟨by omega, z.2⟩
  · rintro ⟨z1, z2⟩
    by_cases e : p = d
    · exact absurd (e ▸ z2) h
    · exact ⟨by omega, z2⟩)
theorem cd_lt {nk r s : Nat} (h6 : nk ≤ 6) (h : r < s) : cd nk r < cd nk s := by
  unfold cd
  by_cases a : s < nk
  · rw [if_pos a, if_pos (by omega)]; exact h
  · rw [if_neg a]
    by_cases b : r < nk
    · rw [if_pos b]; omega
    · rw [if_neg b]; omega
theorem pcZ_b (c : Nat) : -1 ≤ pcZ c ∧ pcZ c ≤ 5 := by unfold pcZ; split <;> omega
/-- the model's pots are laid -/
def LPs (A : Nat → Nat → Int) (kf : Nat → Nat) (nk nf nc : Nat) (B : Nat → Nat → Int) : Prop := MPo kf B (nk + nf) (PS A nk nf) ∧ ∀ p, p < nk + nf → B 21 p = mo A nk nf p ∧ B 22 p = ((rcF A kf nk nf nc p : Nat) : Int)
set_option maxRecDepth 100000 in
set_option maxHeartbeats 4000000 in
theorem c_mLaysPots (g : Gx) (l : Launch) (hl : l.stackTraces = false) (ad : Nat → Nat) (F : Pic) (td : Int) (nf nk nc np : Nat) (th : Int) (B A P : Nat → Nat → Int) (kf : Nat → Nat) (hB : MB g ad F td nf nk nc np th B) (hG : AG nf nk nc A P kf B) (t : Nat) (hI : IV td nf nk nc A kf t) : Ct g l yX6_laysPots cX6_laysPots 4 none 3 0 0 [.ref (ad 50000)] ad F (fun v ad' F' => v = none ∧ ad = ad' ∧ FrM F F' ∧ ∃ B', MB g ad F' td nf nk nc (nk + nf) th B' ∧ (∀ a, a < 19 ∨ 22 < a → B' a = B a) ∧ LPs A kf nk nf nc B') := by
  refine Ct_of hl rfl [some (.ref (ad 50000)), none, none, none] (Nat.le_of_ble_eq_true rfl) (fun _ h => h) ?_
  intro M hL hN X
  subst hL
  have hI0 := hI.1
  have psvc : ∀ s, s ≤ nk + nf → ∀ p, p < s → VC nf nk (PSq (exc A) nk s p) := fun s hs p hp => by
    obtain ⟨r, h1, h2⟩ := PSq_mem (exc A) nk s p hp
    rw [h2]; exact cd_vc (by omega) (by omega)
  have pslt : ∀ s p, p < s → PSq (exc A) nk s p < cd nk s := fun s p hp => by
    obtain ⟨r, h1, h2⟩ := PSq_mem (exc A) nk s p hp
    rw [h2]; exact cd_lt (by omega) h1
  have loop3 : ∀ (m p : Nat) (F1 : Pic) (B1 : Nat → Nat → Int) (o2 o3 : Option Value), nk + nf - p = m → p ≤ nk + nf → FrM F F1 → MB g ad F1 td nf nk nc (nk + nf) th B1 → (∀ a, a < 19 ∨ 22 < a → B1 a = B a) → MPo kf B1 (nk + nf) (PS A nk nf) → (∀ x, x < p → B1 21 x = mo A nk nf x ∧ B1 22 x = ((rcF A kf nk nf nc x : Nat) : Int)) →
      V M g ad F1 0 0 56 [some (.ref (ad 50000)), some (.int (zI (p : Int))), o2, o3] [] := by
    intro m
    induction m with
    | zero =>
      intro p F1 B1 o2 o3 hm hp hF h1 hr hM hL
      obtain rfl : p = nk + nf := by omega
      have h1_o := h1.1
      unfold MOL at h1_o
      refine r_iload_n X dX6_laysPots_56 (by rfl) ?_
      refine r_aload_n X dX6_laysPots_57 (by rfl) ?_
      refine r_get X dX6_laysPots_58 fgX6_131_8 (by assumption) (by rfl) ?_
      refine r_icmp_ge X 175 dX6_laysPots_61 (by decide) (by unfold inR; omega) (by unfold inR; omega) (fun a => ?_) (fun a => ?_)
      · exact r_vret X rfl dX6_laysPots_175 (⟨rfl, rfl, hF, B1, h1, hr, hM, hL⟩) (by omega) (by omega)
      · omega
    | succ m ih =>
      intro p F1 B1 o2 o3 hm hp hF h1 hr hM hL
      have hpn : p < nk + nf := by omega
      have vc := psvc (nk + nf) (Nat.le_refl _) p hpn
      have eP : PSq (exc A) nk (nk + nf) p = PS A nk nf p := rfl
      rw [eP] at vc
      have emo : mo A nk nf p = moA A (PS A nk nf p) := rfl
      have erc : rcF A kf nk nf nc p = mkm nc (mpP A kf (PS A nk nf p)) := rfl
      obtain ⟨e20, e19⟩ := hM p hpn
      generalize hc : PS A nk nf p = c at *
      have vc12 := vc.le hI0.2.2.1
      have pb := pcZ_b c
      have hown : ow kf c < nf := vc.own hI
      have h1_o := h1.1
      unfold MOL at h1_o
      have h1_2 : F1 50002 = some (cI g 6 (fun j => zI (B1 2 j))) := h1.2 2 rfl
      have h1_11 : F1 50011 = some (cI g 6 (fun j => zI (B1 11 j))) := h1.2 11 rfl
      have h1_19 : F1 50019 = some (cI g 12 (fun j => zI (B1 19 j))) := h1.2 19 rfl
      have h1_20 : F1 50020 = some (cI g 12 (fun j => zI (B1 20 j))) := h1.2 20 rfl
      refine r_iload_n X dX6_laysPots_56 (by rfl) ?_
      refine r_aload_n X dX6_laysPots_57 (by rfl) ?_
      refine r_get X dX6_laysPots_58 fgX6_131_8 (by assumption) (by rfl) ?_
      refine r_icmp_ge X 175 dX6_laysPots_61 (by decide) (by unfold inR; omega) (by unfold inR; omega) (fun a => ?_) (fun a => ?_)
      · omega
      · refine r_aload_n X dX6_laysPots_64 (by rfl) ?_
        refine r_get X dX6_laysPots_65 fgX6_55_8 (by assumption) (by rfl) ?_
        refine r_iload_n X dX6_laysPots_68 (by rfl) ?_
        refine r_iald X p dX6_laysPots_69 (by assumption) (by rfl) (by omega) (by first | decide | omega) ?_
        rw [e20]
        have rest : ∀ z : Int, z = mo A nk nf p → V M g ad F1 0 0 100 [some (.ref (ad 50000)), some (.int (zI (p : Int))), some (.int (zI (pcZ c))), o3] [.int (zI z), .int (zI (p : Int)), .ref (ad 50021)] := fun z hz => by
          have h1_21 : F1 50021 = some (cI g 12 (fun j => zI (B1 21 j))) := h1.2 21 rfl
          refine r_ist X p dX6_laysPots_100 (by assumption) (by omega) (by rfl) (by omega) (by first | decide | omega) ?_
          obtain ⟨B2, eB2⟩ : ∃ X9 : Nat → Nat → Int, X9 = u2 B1 21 (p) (z) := ⟨_, rfl⟩
          refine (fun (kk9 : ∀ F2 : Pic, MB g ad F2 _ _ _ _ _ _ B2 → FrM F1 F2 → V M g ad F2 _ _ _ _ _) => kk9 _ (by rw [eB2]; exact h1.put 21 rfl (p) (z)) (FrM.pu ⟨by omega, by omega⟩)) ?_
          intro F2 h2 h2F
          have h2_o := h2.1
          unfold MOL at h2_o
          have h2_22 : F2 50022 = some (cI g 12 (fun j => zI (B2 22 j))) := h2.2 22 rfl
          refine r_aload_n X dX6_laysPots_101 (by rfl) ?_
          refine r_get X dX6_laysPots_102 fgX6_61_8 (by assumption) (by rfl) ?_
          refine r_iload_n X dX6_laysPots_105 (by rfl) ?_
          refine r_iconst X dX6_laysPots_106 rfl ?_
          refine r_ist X p dX6_laysPots_107 (by assumption) (by omega) (by rfl) (by omega) (by first | decide | omega) ?_
          obtain ⟨B3, eB3⟩ : ∃ X9 : Nat → Nat → Int, X9 = u2 B2 22 (p) (0) := ⟨_, rfl⟩
          refine (fun (kk9 : ∀ F3 : Pic, MB g ad F3 _ _ _ _ _ _ B3 → FrM F2 F3 → V M g ad F3 _ _ _ _ _) => kk9 _ (by rw [eB3]; exact h2.put 22 rfl (p) (0)) (FrM.pu ⟨by omega, by omega⟩)) ?_
          intro F3 h3 h3F
          have h3_o := h3.1
          unfold MOL at h3_o
          refine r_iconst X dX6_laysPots_108 rfl ?_
          refine r_istore_n X dX6_laysPots_109 (by rw [hN]; decide) (by rfl) ?_
          dsimp only [List.set]
          have r3 : ∀ a, a < 19 ∨ 22 < a → B3 a = B a := fun a ha => by rw [eB3, u2_row' (by omega), eB2, u2_row' (by omega)]; exact hr a ha
          have r19 : B3 19 = B1 19 := by rw [eB3, u2_row' (by omega), eB2, u2_row' (by omega)]
          have r20 : B3 20 = B1 20 := by rw [eB3, u2_row' (by omega), eB2, u2_row' (by omega)]
          have r21 : B3 21 p = mo A nk nf p := by rw [eB3, u2_row' (by omega), eB2, u2_at]; exact hz
          have r21x : ∀ x, x ≠ p → B3 21 x = B1 21 x := fun x hx => by rw [eB3, u2_row' (by omega), eB2, u2_col' hx]
          have r22x : ∀ x, x ≠ p → B3 22 x = B1 22 x := fun x hx => by rw [eB3, u2_col' hx, eB2, u2_row' (by omega)]
          have r22 : B3 22 p = ((mkm 0 (mpP A kf c) : Nat) : Int) := by rw [eB3, u2_at, mkm_0]; rfl
          have inner : ∀ (n d : Nat) (F4 : Pic) (B4 : Nat → Nat → Int), nc - d = n → d ≤ nc → FrM F F4 → MB g ad F4 td nf nk nc (nk + nf) th B4 → (∀ a, a ≠ 22 → B4 a = B3 a) → (∀ x, x ≠ p → B4 22 x = B3 22 x) → B4 22 p = ((mkm d (mpP A kf c) : Nat) : Int) →
              V M g ad F4 0 0 110 [some (.ref (ad 50000)), some (.int (zI (p : Int))), some (.int (zI (pcZ c))), some (.int (zI (d : Int)))] [] := by
            intro n
            induction n with
            | zero =>
              intro d F4 B4 hn hd hF4 h4 hr4 hx4 hm4
              obtain rfl : d = nc := by omega
              have h4_o := h4.1
              unfold MOL at h4_o
              refine r_iload_n X dX6_laysPots_110 (by rfl) ?_
              refine r_aload_n X dX6_laysPots_111 (by rfl) ?_
              refine r_get X dX6_laysPots_112 fgX6_96_8 (by assumption) (by rfl) ?_
              refine r_icmp_ge X 169 dX6_laysPots_115 (by decide) (by unfold inR; omega) (by unfold inR; omega) (fun b => ?_) (fun b => ?_)
              · refine r_iinc X dX6_laysPots_169 (by rfl) (by rw [hN]; decide) (by rfl) ?_
                dsimp only [List.set]
                refine r_goto X dX6_laysPots_172 56 (by decide) ?_
                refine ih (p + 1) F4 B4 _ _ (by omega) (by omega) hF4 h4 (fun a ha => by rw [hr4 a (by omega)]; exact r3 a ha) (fun x hx => by rw [hr4 20 (by omega), hr4 19 (by omega), r20, r19]; exact hM x hx) (fun x hx => ?_)
                by_cases ex : x = p
                · rw [ex, hr4 21 (by omega), r21, hm4, erc]; exact ⟨rfl, rfl⟩
                · rw [hr4 21 (by omega), r21x x ex, hx4 x ex, r22x x ex]; exact hL x (by omega)
              · omega
            | succ n ihn =>
              intro d F4 B4 hn hd hF4 h4 hr4 hx4 hm4
              have hdn : d < nc := by omega
              have f : ∀ a, a < 19 → B4 a = B a := fun a ha => by rw [hr4 a (by omega)]; exact r3 a (by omega)
              have gF := hG.1 (ow kf c) hown
              have gC := hG.2.2.2.1 d hdn
              have iF := hI.2.1 (ow kf c) hown
              have iC := hI.2.2.2.1 d hdn
              have q3 : B4 3 (ow kf c) = A 1 (ow kf c) := by rw [f 3 (by omega)]; exact gF.2.1
              have q4 : B4 4 (ow kf c) = A 2 (ow kf c) := by rw [f 4 (by omega)]; exact gF.2.2.1
              have q14 : B4 14 d = A 10 d := by rw [f 14 (by omega)]; exact gC.1
              have q15 : B4 15 d = A 11 d := by rw [f 15 (by omega)]; exact gC.2.1
              have q19 : B4 19 p = ((ow kf c : Nat) : Int) := by rw [hr4 19 (by omega), r19]; exact e19
              have h4_o := h4.1
              unfold MOL at h4_o
              have h4_10 : F4 50010 = some (cI g 6 (fun j => zI (B4 10 j))) := h4.2 10 rfl
              have h4_14 : F4 50014 = some (cI g 16 (fun j => zI (B4 14 j))) := h4.2 14 rfl
              have h4_19 : F4 50019 = some (cI g 12 (fun j => zI (B4 19 j))) := h4.2 19 rfl
              have h4_22 : F4 50022 = some (cI g 12 (fun j => zI (B4 22 j))) := h4.2 22 rfl
              have no : ¬ mpP A kf c d → V M g ad F4 0 0 163 [some (.ref (ad 50000)), some (.int (zI (p : Int))), some (.int (zI (pcZ c))), some (.int (zI (d : Int)))] [] := fun h => by
                refine r_iinc X dX6_laysPots_163 (by rfl) (by rw [hN]; decide) (by rfl) ?_
                dsimp only [List.set]
                refine r_goto X dX6_laysPots_166 110 (by decide) ?_
                exact ihn (d + 1) F4 B4 (by omega) (by omega) hF4 h4 hr4 hx4 (by rw [hm4, mkm_s0 h])
              have yes : mpP A kf c d → V M g ad F4 0 0 151 [some (.ref (ad 50000)), some (.int (zI (p : Int))), some (.int (zI (pcZ c))), some (.int (zI (d : Int)))] [] := fun h => by
                refine r_aload_n X dX6_laysPots_151 (by rfl) ?_
                refine r_get X dX6_laysPots_152 fgX6_61_8 (by assumption) (by rfl) ?_
                refine r_iload_n X dX6_laysPots_155 (by rfl) ?_
                refine r_dup2 X dX6_laysPots_156 (by rfl) (by rfl) ?_
                refine r_iald X p dX6_laysPots_157 (by assumption) (by rfl) (by omega) (by first | decide | omega) ?_
                rw [hm4]
                refine r_iconst X dX6_laysPots_158 rfl ?_
                refine r_iload_n X dX6_laysPots_159 (by rfl) ?_
                refine r_ishl X (hv := zI_shl (by omega)) dX6_laysPots_160 ?_
                refine r_ior X (hv := zI_or _ _) dX6_laysPots_161 ?_
                refine r_ist X p dX6_laysPots_162 (by assumption) (by omega) (by rfl) (by omega) (by first | decide | omega) ?_
                obtain ⟨B5, eB5⟩ : ∃ X9 : Nat → Nat → Int, X9 = u2 B4 22 (p) (((mkm d (mpP A kf c) ||| 2 ^ d : Nat) : Int)) := ⟨_, rfl⟩
                refine (fun (kk9 : ∀ F5 : Pic, MB g ad F5 _ _ _ _ _ _ B5 → FrM F4 F5 → V M g ad F5 _ _ _ _ _) => kk9 _ (by rw [eB5]; exact h4.put 22 rfl (p) (((mkm d (mpP A kf c) ||| 2 ^ d : Nat) : Int))) (FrM.pu ⟨by omega, by omega⟩)) ?_
                intro F5 h5 h5F
                have h5_o := h5.1
                unfold MOL at h5_o
                refine r_iinc X dX6_laysPots_163 (by rfl) (by rw [hN]; decide) (by rfl) ?_
                dsimp only [List.set]
                refine r_goto X dX6_laysPots_166 110 (by decide) ?_
                exact ihn (d + 1) F5 B5 (by omega) (by omega) (hF4.tr h5F) h5 (fun a ha => by rw [eB5, u2_row' ha]; exact hr4 a ha) (fun x hx => by rw [eB5, u2_col' hx]; exact hx4 x hx) (by rw [eB5, u2_at, mkm_s1 h])
              refine r_iload_n X dX6_laysPots_110 (by rfl) ?_
              refine r_aload_n X dX6_laysPots_111 (by rfl) ?_
              refine r_get X dX6_laysPots_112 fgX6_96_8 (by assumption) (by rfl) ?_
              refine r_icmp_ge X 169 dX6_laysPots_115 (by decide) (by unfold inR; omega) (by unfold inR; omega) (fun b => ?_) (fun b => ?_)
              · omega
              · refine r_aload_n X dX6_laysPots_118 (by rfl) ?_
                refine r_aload_n X dX6_laysPots_119 (by rfl) ?_
                refine r_get X dX6_laysPots_120 fgX6_52_8 (by assumption) (by rfl) ?_
                refine r_iload_n X dX6_laysPots_123 (by rfl) ?_
                refine r_iald X p dX6_laysPots_124 (by assumption) (by rfl) (by omega) (by first | decide | omega) ?_
                rw [q19]
                refine r_iload_n X dX6_laysPots_125 (by rfl) ?_
                refine r_callV X dX6_laysPots_126 kX6_142 (c_mSuits g _ hl ad F4 _ _ _ _ _ _ _ h4 (ow kf c) d (by omega) (by omega) (by rw [q3]; exact iF.2.1) (by rw [q14]; exact iC.1) (by rw [q15]; unfold inR; omega) (by rw [q4]; unfold inR; omega)) (by assumption) (by rfl) (by rfl) (by rfl) (by rfl) (by exact Nat.le_of_ble_eq_true rfl) (by decide) (by decide) (by omega) (by omega) (fun v ad' F5 hK => ?_)
                obtain ⟨rfl, rfl, rfl⟩ := hK
                rw [q3, q4, q14, q15]
                refine r_if_eqb X 163 dX6_laysPots_129 (by decide) (fun q => ?_) (fun q => ?_)
                · exact no (fun z => q z.2)
                · refine r_iload_n X dX6_laysPots_132 (by rfl) ?_
                  refine r_if_lt X 151 dX6_laysPots_133 (by decide) (by unfold inR; omega) (fun w => ?_) (fun w => ?_)
                  · exact yes ⟨fun z => by unfold pcZ at w; rw [if_pos z] at w; omega, q⟩
                  · have c6 : c < 6 := by
                      by_cases z : c < 6
                      · exact z
                      · unfold pcZ at w; rw [if_neg z] at w; omega
                    have ck : c < nk := by rcases vc with ⟨x1, x2⟩ | ⟨x1, x2⟩ <;> omega
                    have pz : pcZ c = (c : Int) := if_pos c6
                    have q10 : B4 10 c = A 7 c := by rw [f 10 (by omega)]; exact (hG.2.2.1 c ck).2.1
                    have i7 := (hI.2.2.1 c ck).2.1
                    refine r_aload_n X dX6_laysPots_136 (by rfl) ?_
                    refine r_get X dX6_laysPots_137 fgX6_31_8 (by assumption) (by rfl) ?_
                    refine r_iload_n X dX6_laysPots_140 (by rfl) ?_
                    refine r_iald X c dX6_laysPots_141 (by assumption) (pz) (by omega) (by first | decide | omega) ?_
                    refine r_aload_n X dX6_laysPots_142 (by rfl) ?_
                    refine r_get X dX6_laysPots_143 fgX6_40_8 (by assumption) (by rfl) ?_
                    refine r_iload_n X dX6_laysPots_146 (by rfl) ?_
                    refine r_iald X d dX6_laysPots_147 (by assumption) (by rfl) (by omega) (by first | decide | omega) ?_
                    rw [q10, q14]
                    refine r_icmp_ne X 163 dX6_laysPots_148 (by decide) (by unfold inR; omega) (by unfold inR; omega) (fun u => ?_) (fun u => ?_)
                    · exact no (fun z => u (z.1 c6).symm)
                    · exact yes ⟨fun _ => by omega, q⟩
          exact inner nc 0 F3 B3 (by omega) (by omega) (hF.tr (h2F.tr h3F)) h3 (fun _ _ => rfl) (fun _ _ => rfl) r22
        refine r_istore_n X dX6_laysPots_70 (by rw [hN]; decide) (by rfl) ?_
        dsimp only [List.set]
        refine r_aload_n X dX6_laysPots_71 (by rfl) ?_
        refine r_get X dX6_laysPots_72 fgX6_58_8 (by assumption) (by rfl) ?_
        refine r_iload_n X dX6_laysPots_75 (by rfl) ?_
        refine r_iload_n X dX6_laysPots_76 (by rfl) ?_
        refine r_if_lt X 89 dX6_laysPots_77 (by decide) (by unfold inR; omega) (fun b => ?_) (fun b => ?_)
        · have c6 : ¬ c < 6 := fun z => by unfold pcZ at b; rw [if_pos z] at b; omega
          have q2 : B1 2 (ow kf c) = moA A c := by
            rw [hr 2 (by omega), (hG.1 _ hown).1]; unfold moA ow; rw [if_neg c6, if_neg c6]
          refine r_aload_n X dX6_laysPots_89 (by rfl) ?_
          refine r_get X dX6_laysPots_90 fgX6_7_8 (by assumption) (by rfl) ?_
          refine r_aload_n X dX6_laysPots_93 (by rfl) ?_
          refine r_get X dX6_laysPots_94 fgX6_52_8 (by assumption) (by rfl) ?_
          refine r_iload_n X dX6_laysPots_97 (by rfl) ?_
          refine r_iald X p dX6_laysPots_98 (by assumption) (by rfl) (by omega) (by first | decide | omega) ?_
          rw [e19]
          refine r_iald X (ow kf c) dX6_laysPots_99 (by assumption) (by rfl) (by omega) (by first | decide | omega) ?_
          rw [q2]
          exact rest _ emo.symm
        · have c6 : c < 6 := by
            by_cases z : c < 6
            · exact z
            · unfold pcZ at b; rw [if_neg z] at b; omega
          have ck : c < nk := by rcases vc with ⟨x1, x2⟩ | ⟨x1, x2⟩ <;> omega
          have pz : pcZ c = (c : Int) := if_pos c6
          have q11 : B1 11 c = moA A c := by
            rw [hr 11 (by omega), (hG.2.2.1 c ck).2.2.1]; unfold moA; rw [if_pos c6]
          refine r_aload_n X dX6_laysPots_80 (by rfl) ?_
          refine r_get X dX6_laysPots_81 fgX6_34_8 (by assumption) (by rfl) ?_
          refine r_iload_n X dX6_laysPots_84 (by rfl) ?_
          refine r_iald X c dX6_laysPots_85 (by assumption) (pz) (by omega) (by first | decide | omega) ?_
          refine r_goto X dX6_laysPots_86 100 (by decide) ?_
          rw [q11]
          exact rest _ emo.symm
  have loop2 : ∀ (m f : Nat) (F1 : Pic) (B1 : Nat → Nat → Int) (o2 o3 : Option Value), nf - f = m → f ≤ nf → FrM F F1 → MB g ad F1 td nf nk nc (nk + f) th B1 → (∀ a, a ≠ 19 → a ≠ 20 → B1 a = B a) → MPo kf B1 (nk + f) (PSq (exc A) nk (nk + f)) →
      V M g ad F1 0 0 34 [some (.ref (ad 50000)), some (.int (zI (f : Int))), o2, o3] [] := by
    intro m
    induction m with
    | zero =>
      intro f F1 B1 o2 o3 hm hf hF h1 hr hM
      obtain rfl : f = nf := by omega
      have h1_o := h1.1
      unfold MOL at h1_o
      refine r_iload_n X dX6_laysPots_34 (by rfl) ?_
      refine r_aload_n X dX6_laysPots_35 (by rfl) ?_
      refine r_get X dX6_laysPots_36 fgX6_86_8 (by assumption) (by rfl) ?_
      refine r_icmp_ge X 54 dX6_laysPots_39 (by decide) (by unfold inR; omega) (by unfold inR; omega) (fun a => ?_) (fun a => ?_)
      · refine r_iconst X dX6_laysPots_54 rfl ?_
        refine r_istore_n X dX6_laysPots_55 (by rw [hN]; decide) (by rfl) ?_
        dsimp only [List.set]
        exact loop3 _ 0 F1 B1 _ _ rfl (by omega) hF h1 (fun a ha => hr a (by omega) (by omega)) hM (fun x hx => by omega)
      · omega
    | succ m ih =>
      intro f F1 B1 o2 o3 hm hf hF h1 hr hM
      have q0 : cd nk (nk + f) = 6 + f := by unfold cd; rw [if_neg (by omega)]; omega
      have q1 : pcZ (cd nk (nk + f)) = -1 := by rw [q0]; exact if_neg (by omega)
      have q2 : ow kf (cd nk (nk + f)) = f := by rw [q0]; unfold ow; rw [if_neg (by omega)]; omega
      have hC := c_mAddPot g _ hl ad F1 _ _ _ _ _ _ _ _ _ _ h1 (hG.row2 hr) t hI (PSq (exc A) nk (nk + f)) hM (psvc (nk + f) (by omega)) (PSq_sd (exc A) nk (nk + f)) (by omega) (cd nk (nk + f)) (cd_vc (by omega) (by omega)) (pslt (nk + f))
      rw [q1, q2] at hC
      have h1_o := h1.1
      unfold MOL at h1_o
      refine r_iload_n X dX6_laysPots_34 (by rfl) ?_
      refine r_aload_n X dX6_laysPots_35 (by rfl) ?_
      refine r_get X dX6_laysPots_36 fgX6_86_8 (by assumption) (by rfl) ?_
      refine r_icmp_ge X 54 dX6_laysPots_39 (by decide) (by unfold inR; omega) (by unfold inR; omega) (fun a => ?_) (fun a => ?_)
      · omega
      · refine r_aload_n X dX6_laysPots_42 (by rfl) ?_
        refine r_iconst X dX6_laysPots_43 rfl ?_
        refine r_iload_n X dX6_laysPots_44 (by rfl) ?_
        refine r_callV X dX6_laysPots_45 kX6_138 (hC) (by assumption) (by rfl) (by rfl) (by rfl) (by rfl) (by exact Nat.le_of_ble_eq_true rfl) (by decide) (by decide) (by omega) (by omega) (fun v ad' F2 hK => ?_)
        obtain ⟨rfl, rfl, hF2, B2, h2, hr2, hM2⟩ := hK
        refine r_iinc X dX6_laysPots_48 (by rfl) (by rw [hN]; decide) (by rfl) ?_
        dsimp only [List.set]
        refine r_goto X dX6_laysPots_51 34 (by decide) ?_
        exact ih (f + 1) F2 B2 _ _ (by omega) (by omega) (hF.tr hF2) h2 (fun a a1 a2 => (hr2 a a1 a2).trans (hr a a1 a2)) hM2
  have loop1 : ∀ (m k : Nat) (F1 : Pic) (B1 : Nat → Nat → Int) (o2 o3 : Option Value), nk - k = m → k ≤ nk → FrM F F1 → MB g ad F1 td nf nk nc k th B1 → (∀ a, a ≠ 19 → a ≠ 20 → B1 a = B a) → MPo kf B1 k (PSq (exc A) nk k) →
      V M g ad F1 0 0 7 [some (.ref (ad 50000)), some (.int (zI (k : Int))), o2, o3] [] := by
    intro m
    induction m with
    | zero =>
      intro k F1 B1 o2 o3 hm hk hF h1 hr hM
      obtain rfl : k = nk := by omega
      have h1_o := h1.1
      unfold MOL at h1_o
      refine r_iload_n X dX6_laysPots_7 (by rfl) ?_
      refine r_aload_n X dX6_laysPots_8 (by rfl) ?_
      refine r_get X dX6_laysPots_9 fgX6_93_8 (by assumption) (by rfl) ?_
      refine r_icmp_ge X 32 dX6_laysPots_12 (by decide) (by unfold inR; omega) (by unfold inR; omega) (fun a => ?_) (fun a => ?_)
      · refine r_iconst X dX6_laysPots_32 rfl ?_
        refine r_istore_n X dX6_laysPots_33 (by rw [hN]; decide) (by rfl) ?_
        dsimp only [List.set]
        exact loop2 nf 0 F1 B1 _ _ (by omega) (by omega) hF h1 hr hM
      · omega
    | succ m ih =>
      intro k F1 B1 o2 o3 hm hk hF h1 hr hM
      have hkn : k < nk := by omega
      have q0 : cd nk k = k := if_pos hkn
      have q1 : pcZ (cd nk k) = (k : Int) := by rw [q0]; exact if_pos (by omega)
      have q2 : ow kf (cd nk k) = kf k := by rw [q0]; exact if_pos (by omega)
      have q9 : B1 9 k = ((kf k : Nat) : Int) := by rw [hr 9 (by omega) (by omega)]; exact (hG.2.2.1 k hkn).1
      have hC := c_mAddPot g _ hl ad F1 _ _ _ _ _ _ _ _ _ _ h1 (hG.row2 hr) t hI (PSq (exc A) nk k) hM (psvc k (by omega)) (PSq_sd (exc A) nk k) (by omega) (cd nk k) (cd_vc (by omega) (by omega)) (pslt k)
      rw [q1, q2] at hC
      have h1_o := h1.1
      unfold MOL at h1_o
      have h1_9 : F1 50009 = some (cI g 6 (fun j => zI (B1 9 j))) := h1.2 9 rfl
      refine r_iload_n X dX6_laysPots_7 (by rfl) ?_
      refine r_aload_n X dX6_laysPots_8 (by rfl) ?_
      refine r_get X dX6_laysPots_9 fgX6_93_8 (by assumption) (by rfl) ?_
      refine r_icmp_ge X 32 dX6_laysPots_12 (by decide) (by unfold inR; omega) (by unfold inR; omega) (fun a => ?_) (fun a => ?_)
      · omega
      · refine r_aload_n X dX6_laysPots_15 (by rfl) ?_
        refine r_iload_n X dX6_laysPots_16 (by rfl) ?_
        refine r_aload_n X dX6_laysPots_17 (by rfl) ?_
        refine r_get X dX6_laysPots_18 fgX6_28_8 (by assumption) (by rfl) ?_
        refine r_iload_n X dX6_laysPots_21 (by rfl) ?_
        refine r_iald X k dX6_laysPots_22 (by assumption) (by rfl) (by omega) (by first | decide | omega) ?_
        rw [q9]
        refine r_callV X dX6_laysPots_23 kX6_138 (hC) (by assumption) (by rfl) (by rfl) (by rfl) (by rfl) (by exact Nat.le_of_ble_eq_true rfl) (by decide) (by decide) (by omega) (by omega) (fun v ad' F2 hK => ?_)
        obtain ⟨rfl, rfl, hF2, B2, h2, hr2, hM2⟩ := hK
        refine r_iinc X dX6_laysPots_26 (by rfl) (by rw [hN]; decide) (by rfl) ?_
        dsimp only [List.set]
        refine r_goto X dX6_laysPots_29 7 (by decide) ?_
        exact ih (k + 1) F2 B2 _ _ (by omega) (by omega) (hF.tr hF2) h2 (fun a a1 a2 => (hr2 a a1 a2).trans (hr a a1 a2)) hM2
  have hB_o := hB.1
  unfold MOL at hB_o
  refine r_aload_n X dX6_laysPots_0 (by rfl) ?_
  refine r_iconst X dX6_laysPots_1 rfl ?_
  refine r_put X dX6_laysPots_2 fwX6_131_8 (by assumption) (by omega) (by exact Nat.le_of_ble_eq_true rfl) (by rfl) (by rfl) ?_
  dsimp only [List.set]
  refine (fun (kk9 : ∀ F1 : Pic, MB g ad F1 td nf nk nc 0 th B → FrM F F1 → V M g ad F1 _ _ _ _ _) => kk9 _ (hB.obj (by rw [pu_s]; rfl) (fun x hx => pu_n hx)) (FrM.pu ⟨by omega, by omega⟩)) ?_
  intro F1 h1 h1F
  have h1_o := h1.1
  unfold MOL at h1_o
  refine r_iconst X dX6_laysPots_5 rfl ?_
  refine r_istore_n X dX6_laysPots_6 (by rw [hN]; decide) (by rfl) ?_
  dsimp only [List.set]
  exact loop1 nk 0 F1 B _ _ (by omega) (by omega) h1F h1 (fun _ _ _ => rfl) (fun p hp => by omega)
