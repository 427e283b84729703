/-! ===== the model: which pot pays how much of which cost ===== -/
theorem tb_addb {m c : Nat} (h : ¬ m.testBit c = true) : m + 2 ^ c = m ||| 2 ^ c := by
  have hl : m % 2 ^ c < 2 ^ c := Nat.mod_lt _ (Nat.pow_pos (by decide))
  have hm : m = 2 ^ c * (m / 2 ^ c) + m % 2 ^ c := (Nat.div_add_mod m (2 ^ c)).symm
  have ha : m / 2 ^ c % 2 = 0 := by
    have := tb_iff m c
    by_cases e : m / 2 ^ c % 2 = 1
    · exact absurd (this.mpr e) h
    · omega
  generalize m / 2 ^ c = a at *
  generalize m % 2 ^ c = r at *
  have hm2 : m + 2 ^ c = 2 ^ c * (a + 1) + r := by rw [Nat.mul_add, hm]; omega
  refine tb_ext (fun d => ?_)
  rw [tb_or, hm2, hm, Nat.testBit_two_pow_mul_add (a + 1) hl, Nat.testBit_two_pow_mul_add a hl]
  by_cases hd : d < c
  · rw [if_pos hd, if_pos hd]
    exact ⟨.inl, fun z => z.elim id (fun q => by omega)⟩
  · rw [if_neg hd, if_neg hd]
    by_cases he : d = c
    · rw [he, Nat.sub_self]
      refine ⟨fun _ => .inr rfl, fun _ => ?_⟩
      rw [Nat.testBit_zero]
      simp; omega
    · obtain ⟨k, hk⟩ : ∃ k, d - c = k + 1 := ⟨d - c - 1, by omega⟩
      rw [hk, Nat.testBit_succ, Nat.testBit_succ, show (a + 1) / 2 = a / 2 by omega]
      exact ⟨.inl, fun z => z.elim id (fun q => absurd q he)⟩
theorem un3_next {c p q d : Nat} : un3 c (p + 1) q d = true ↔ un3 c p q d = true ∧ ¬ (q = p ∧ d = c) := by
  rw [un3_iff, un3_iff]
  constructor
  · intro h; omega
  · intro h; omega
theorem un3_self {c p : Nat} : un3 c p p c = true := un3_iff.mpr (.inr ⟨rfl, Nat.le_refl _⟩)
theorem un3_row {np c q d : Nat} (hq : q < np) : un3 c np q d = un3 (c + 1) 0 q d := by
  rw [Bool.eq_iff_iff, un3_iff, un3_iff]
  constructor
  · intro h; omega
  · intro h; omega
theorem rm3_next {c p : Nat} {W : Nat → Nat → Int} {q d : Nat} : rm3 c (p + 1) W q d = if q = p ∧ d = c then 0 else rm3 c p W q d := by
  unfold rm3
  by_cases e : q = p ∧ d = c
  · rw [if_pos e, if_neg (fun z => (un3_next.mp z).2 e)]
  · rw [if_neg e]
    by_cases u : un3 c p q d = true
    · rw [if_pos u, if_pos (un3_next.mpr ⟨u, e⟩)]
    · rw [if_neg u, if_neg (fun z => u (un3_next.mp z).1)]
theorem rm3_self {c p : Nat} {W : Nat → Nat → Int} : rm3 c p W p c = W p c := if_pos un3_self
theorem rm3_r {nc c p : Nat} {W : Nat → Nat → Int} (hc : c < nc) (q : Nat) : sm nc (rm3 c (p + 1) W q) = sm nc (rm3 c p W q) - (if q = p then W p c else 0) := by
  by_cases e : q = p
  · subst e
    rw [if_pos rfl, sm_congr (h := fun d => if d = c then 0 else rm3 c q W q d) (fun d _ => ?_), sm_put, if_pos hc, rm3_self]
    · omega
    · rw [rm3_next]
      by_cases e2 : d = c
      · rw [if_pos ⟨rfl, e2⟩, if_pos e2]
      · rw [if_neg (fun z => e2 z.2), if_neg e2]
  · rw [if_neg e, sm_congr (h := rm3 c p W q) (fun d _ => by rw [rm3_next, if_neg (fun z => e z.1)])]; omega
theorem rm3_c {np c p : Nat} {W : Nat → Nat → Int} (hp : p < np) (d : Nat) : sm np (fun q => rm3 c (p + 1) W q d) = sm np (fun q => rm3 c p W q d) - (if d = c then W p c else 0) := by
  by_cases e : d = c
  · subst e
    rw [if_pos rfl, sm_congr (h := fun q => if q = p then 0 else (fun q => rm3 d p W q d) q) (fun q _ => ?_), sm_put, if_pos hp]
    · show _ + (0 - rm3 d p W p d) = _
      rw [rm3_self]; omega
    · show rm3 d (p + 1) W q d = if q = p then 0 else rm3 d p W q d
      rw [rm3_next]
      by_cases e2 : q = p
      · rw [if_pos ⟨e2, rfl⟩, if_pos e2]
      · rw [if_neg (fun z => e2 z.1), if_neg e2]
  · rw [if_neg e, sm_congr (h := fun q => rm3 c p W q d) (fun q _ => by show rm3 c (p + 1) W q d = _; rw [rm3_next, if_neg (fun z => e z.2)])]; omega
/-- a pot's costs from (c, p) on -/
noncomputable def RM (R : Nat → Nat) (c p q : Nat) : Nat := mkm 16 (fun d => (R q).testBit d = true ∧ un3 c p q d = true)
theorem RM_tb {R : Nat → Nat} {c p q d : Nat} : (RM R c p q).testBit d = true ↔ d < 16 ∧ (R q).testBit d = true ∧ un3 c p q d = true := mkm_tb
theorem RM_lt {R : Nat → Nat} {c p q : Nat} : RM R c p q < 65536 := mkm_lt _ _
theorem RM_0 {R : Nat → Nat} {q : Nat} (h : R q < 65536) : R q = RM R 0 0 q := mkm_eq (fun d => ⟨fun z => ⟨tb_lt2 (n := 16) h z, z, un3_iff.mpr (by omega)⟩, fun z => z.2.1⟩)
theorem RM_row {R : Nat → Nat} {np c q : Nat} (hq : q < np) : RM R c np q = RM R (c + 1) 0 q := by
  unfold RM
  refine mkm_eq (fun d => ?_)
  rw [mkm_tb, un3_row hq]
theorem RM_keep {R : Nat → Nat} {c p q : Nat} (h : q ≠ p ∨ ¬ (R q).testBit c = true) : RM R c p q = RM R c (p + 1) q := by
  refine mkm_eq (fun d => ?_)
  rw [RM_tb, un3_next]
  constructor
  · rintro ⟨h1, h2, h3⟩
    refine ⟨h1, h2, h3, fun z => ?_⟩
    rcases h with h | h
    · exact h z.1
    · exact h (z.2 ▸ h2)
  · rintro ⟨h1, h2, h3, -⟩
    exact ⟨h1, h2, h3⟩
theorem RM_bit {R : Nat → Nat} {c p : Nat} (h16 : c < 16) (h : (R p).testBit c = true) : RM R c p p = RM R c (p + 1) p + 2 ^ c := by
  have hn : ¬ (RM R c (p + 1) p).testBit c = true := fun z => (un3_next.mp (RM_tb.mp z).2.2).2 ⟨rfl, rfl⟩
  rw [tb_addb hn]
  refine (mkm_eq (fun d => ?_)).symm
  rw [tb_or, RM_tb, un3_next]
  constructor
  · rintro (⟨h1, h2, h3, -⟩ | e)
    · exact ⟨h1, h2, h3⟩
    · rw [e]; exact ⟨h16, h, un3_self⟩
  · rintro ⟨h1, h2, h3⟩
    by_cases e : d = c
    · exact .inr e
    · exact .inl ⟨h1, h2, h3, fun z => e z.2⟩
theorem csM_cov {R : Nat → Nat} {np c p X d : Nat} (hR : ∀ q, q < np → R q < 65536) : (csM (RM R c p) np X).testBit d = true ↔ cov np R c p X d = true := by
  unfold csM
  rw [mkm_tb, cov_iff]
  constructor
  · rintro ⟨h1, q, h2, h3, h4⟩
    exact ⟨q, h2, h3, (RM_tb.mp h4).2.1, (RM_tb.mp h4).2.2⟩
  · rintro ⟨q, h2, h3, h4, h5⟩
    have := tb_lt2 (n := 16) (hR q h2) h4
    exact ⟨this, q, h2, h3, RM_tb.mpr ⟨this, h4, h5⟩⟩
theorem room_code {R : Nat → Nat} {np nc c p X : Nat} {pay cos : Nat → Int} (hc : nc ≤ 16) (hR : ∀ q, q < np → R q < 2 ^ nc) : sm 16 (fun d => if (csM (RM R c p) np X).testBit d then cos d else 0) - mnS pay np X = roomv np nc R c p pay cos X := by
  have hR2 : ∀ q, q < np → R q < 65536 := fun q hq => Nat.lt_of_lt_of_le (hR q hq) (Nat.pow_le_pow_right (n := 2) (by decide) hc)
  unfold roomv mnS
  congr 1
  rw [sm_cut hc (fun i h1 h2 => if_neg (fun z => by
    obtain ⟨q, q1, q2, q3, q4⟩ := cov_iff.mp ((csM_cov hR2).mp z)
    have := tb_lt2 (hR q q1) q3
    omega))]
  exact sm_congr (fun d _ => by
    by_cases e : cov np R c p X d = true
    · rw [if_pos e, if_pos ((csM_cov hR2).mpr e)]
    · rw [if_neg e, if_neg (fun z => e ((csM_cov hR2).mp z))])
/-- the model's arrays ahead of (c, p) -/
def PSt (R : Nat → Nat) (W B0 : Nat → Nat → Int) (np nc c p : Nat) (B : Nat → Nat → Int) : Prop :=
  (∀ a, a < 22 ∨ 27 < a → B a = B0 a) ∧ (∀ q, q < np → B 22 q = ((RM R c p q : Nat) : Int) ∧ B 24 q = sm nc (rm3 c p W q)) ∧ (∀ d, d < nc → B 23 d = sm np (fun q => rm3 c p W q d)) ∧ ∀ q d, q < np → d < nc → un3 c p q d = false → B 25 (12 * d + q) = W q d
theorem PSt.row {R : Nat → Nat} {W B0 : Nat → Nat → Int} {np nc c : Nat} {B : Nat → Nat → Int} (h : PSt R W B0 np nc c np B) : PSt R W B0 np nc (c + 1) 0 B := by
  obtain ⟨h1, h2, h3, h4⟩ := h
  have e : ∀ q d, q < np → rm3 c np W q d = rm3 (c + 1) 0 W q d := fun q d hq => by unfold rm3; rw [un3_row hq]
  refine ⟨h1, fun q hq => ?_, fun d hd => ?_, fun q d hq hd hu => h4 q d hq hd (by rw [un3_row hq]; exact hu)⟩
  · rw [← RM_row hq, ← sm_congr (f := rm3 c np W q) (fun d _ => e q d hq)]; exact h2 q hq
  · rw [← sm_congr (f := fun q => rm3 c np W q d) (fun q hq => e q d hq)]; exact h3 d hd
theorem dv12 {d q d' q' np : Nat} (hn : np ≤ 12) (hq : q < np) (hq' : q' < np) (h : 12 * d + q = 12 * d' + q') : d = d' ∧ q = q' := by omega
set_option maxRecDepth 100000 in
set_option maxHeartbeats 4000000 in
theorem c_mParts (g : Gx) (l : Launch) (hl : l.stackTraces = false) (ad : Nat → Nat) (F : Pic) (td : Int) (nf nk nc np : Nat) (th : Int) (B : Nat → Nat → Int) (hB : MB g ad F td nf nk nc np th B) (R : Nat → Nat) (pn dr : Nat → Int) (W : Nat → Nat → Int) (h12 : np ≤ 12) (h16 : nc ≤ 16) (hR : ∀ q, q < np → R q < 2 ^ nc) (h22 : ∀ q, q < np → B 22 q = ((R q : Nat) : Int)) (h24 : ∀ q, q < np → B 24 q = sm nc (W q)) (h23 : ∀ d, d < nc → B 23 d = sm np (fun q => W q d)) (hW : ∀ p c, p < np → c < nc → 0 ≤ W p c ∧ (¬ (R p).testBit c = true → W p c = 0) ∧ ((R p).testBit c = true → SH3 np nc R W c p)) (b24 : ∀ q, q < np → B 24 q ≤ 60000000) (b23 : ∀ d, d < nc → B 23 d ≤ 99999) : Ct g l yX6_parts cX6_parts 6 none 2 0 0 [.ref (ad 50000)] ad F (fun v ad' F' => v = none ∧ ad = ad' ∧ FrM F F' ∧ ∃ B', MB g ad F' td nf nk nc np th B' ∧ (∀ a, a < 22 ∨ 27 < a → B' a = B a) ∧ ∀ c p, c < nc → p < np → B' 25 (12 * c + p) = W p c) := by
  refine Ct_of hl rfl [some (.ref (ad 50000)), none, none, none, none, none] (Nat.le_of_ble_eq_true rfl) (fun _ h => h) ?_
  intro M hL hN X
  subst hL
  have hR2 : ∀ q, q < np → R q < 65536 := fun q hq => Nat.lt_of_lt_of_le (hR q hq) (Nat.pow_le_pow_right (n := 2) (by decide) h16)
  have rmb : ∀ c p q d, q < np → d < nc → 0 ≤ rm3 c p W q d ∧ rm3 c p W q d ≤ W q d := fun c p q d hq hd => by
    have := (hW q d hq hd).1
    unfold rm3; split <;> omega
  have payb : ∀ c p q, q < np → 0 ≤ sm nc (rm3 c p W q) ∧ sm nc (rm3 c p W q) ≤ 60000000 := fun c p q hq => by
    have a := sm_nn (n := nc) (f := rm3 c p W q) (fun d hd => (rmb c p q d hq hd).1)
    have b := sm_le (n := nc) (f := rm3 c p W q) (h := W q) (fun d hd => (rmb c p q d hq hd).2)
    have c' := b24 q hq
    rw [h24 q hq] at c'
    omega
  have cosb : ∀ c p d, d < nc → 0 ≤ sm np (fun q => rm3 c p W q d) ∧ sm np (fun q => rm3 c p W q d) ≤ 99999 := fun c p d hd => by
    have a := sm_nn (n := np) (f := fun q => rm3 c p W q d) (fun q hq => (rmb c p q d hq hd).1)
    have b := sm_le (n := np) (f := fun q => rm3 c p W q d) (h := fun q => W q d) (fun q hq => (rmb c p q d hq hd).2)
    have c' := b23 d hd
    rw [h23 d hd] at c'
    omega
  have hT2 : 2 ^ np ≤ 2 ^ 12 := Nat.pow_le_pow_right (by decide) h12
  have hT3 : (2 : Nat) ^ 12 = 4096 := by decide
  have hT4 : 0 < 2 ^ np := Nat.pow_pos (by decide)
  have loopC : ∀ (m c : Nat) (F1 : Pic) (B1 : Nat → Nat → Int) (o2 o3 o4 o5 : Option Value), nc - c = m → c ≤ nc → FrM F F1 → MB g ad F1 td nf nk nc np th B1 → PSt R W B np nc c 0 B1 →
      V M g ad F1 0 0 2 [some (.ref (ad 50000)), some (.int (zI (c : Int))), o2, o3, o4, o5] [] := by
    intro m
    induction m with
    | zero =>
      intro c F1 B1 o2 o3 o4 o5 hm hc hF h1 hS
      obtain rfl : c = nc := by omega
      have h1_o := h1.1
      unfold MOL at h1_o
      refine r_iload_n X dX6_parts_2 (by rfl) ?_
      refine r_aload_n X dX6_parts_3 (by rfl) ?_
      refine r_get X dX6_parts_4 fgX6_96_8 (by assumption) (by rfl) ?_
      refine r_icmp_ge X 212 dX6_parts_7 (by decide) (by unfold inR; omega) (by unfold inR; omega) (fun a => ?_) (fun a => ?_)
      · exact r_vret X rfl dX6_parts_212 (⟨rfl, rfl, hF, B1, h1, hS.1, fun d q hd hq => hS.2.2.2 q d hq hd (by by_cases u : un3 c 0 q d = true; have := un3_iff.mp u; omega; simpa using u)⟩) (by omega) (by omega)
      · omega
    | succ m ih =>
      intro c F1 B1 o2 o3 o4 o5 hm hc hF h1 hS
      have hcn : c < nc := by omega
      have loopP : ∀ (n p : Nat) (F2 : Pic) (B2 : Nat → Nat → Int) (o3 o4 o5 : Option Value), np - p = n → p ≤ np → FrM F F2 → MB g ad F2 td nf nk nc np th B2 → PSt R W B np nc c p B2 →
          V M g ad F2 0 0 12 [some (.ref (ad 50000)), some (.int (zI (c : Int))), some (.int (zI (p : Int))), o3, o4, o5] [] := by
        intro n
        induction n with
        | zero =>
          intro p F2 B2 o3 o4 o5 hn hp hF2 h2 hS2
          obtain rfl : p = np := by omega
          have h2_o := h2.1
          unfold MOL at h2_o
          refine r_iload_n X dX6_parts_12 (by rfl) ?_
          refine r_aload_n X dX6_parts_13 (by rfl) ?_
          refine r_get X dX6_parts_14 fgX6_131_8 (by assumption) (by rfl) ?_
          refine r_icmp_ge X 206 dX6_parts_17 (by decide) (by unfold inR; omega) (by unfold inR; omega) (fun a => ?_) (fun a => ?_)
          · refine r_iinc X dX6_parts_206 (by rfl) (by rw [hN]; decide) (by rfl) ?_
            dsimp only [List.set]
            refine r_goto X dX6_parts_209 2 (by decide) ?_
            exact ih (c + 1) F2 B2 _ _ _ _ (by omega) (by omega) hF2 h2 hS2.row
          · omega
        | succ n ihn =>
          intro p F2 B2 o3 o4 o5 hn hp hF2 h2 hS2
          have hpn : p < np := by omega
          obtain ⟨e22, e24⟩ := hS2.2.1 p hpn
          have e23 := hS2.2.2.1 c hcn
          have hWp := hW p c hpn hcn
          have pb := payb c p p hpn
          have cb := cosb c p c hcn
          have ending : ∀ (F3 : Pic) (B3 : Nat → Nat → Int) (s : Int) (o4 o5 : Option Value), s = W p c → FrM F F3 → MB g ad F3 td nf nk nc np th B3 → (∀ a, a < 22 ∨ 27 < a → B3 a = B a) → (∀ q, q < np → B3 22 q = ((RM R c (p + 1) q : Nat) : Int) ∧ B3 24 q = sm nc (rm3 c (p + 1) W q)) → (∀ d, d < nc → B3 23 d = sm np (fun q => rm3 c (p + 1) W q d)) → B3 25 = B2 25 →
              V M g ad F3 0 0 188 [some (.ref (ad 50000)), some (.int (zI (c : Int))), some (.int (zI (p : Int))), some (.int (zI s)), o4, o5] [] := fun F3 B3 s o4 o5 hs hF3 h3 r1 r2 r3 r4 => by
            have h3_o := h3.1
            unfold MOL at h3_o
            have h3_25 : F3 50025 = some (cI g 192 (fun j => zI (B3 25 j))) := h3.2 25 rfl
            refine r_aload_n X dX6_parts_188 (by rfl) ?_
            refine r_get X dX6_parts_189 fgX6_70_8 (by assumption) (by rfl) ?_
            refine r_bipush X dX6_parts_192 (by decide) ?_
            refine r_iload_n X dX6_parts_194 (by rfl) ?_
            refine r_imul X dX6_parts_195 ?_
            refine r_iload_n X dX6_parts_196 (by rfl) ?_
            refine r_iadd X dX6_parts_197 ?_
            refine r_iload_n X dX6_parts_198 (by rfl) ?_
            refine r_ist X (12 * c + p) dX6_parts_199 (by assumption) (by omega) (by omega) (by omega) (by first | decide | omega) ?_
            obtain ⟨B4, eB4⟩ : ∃ X9 : Nat → Nat → Int, X9 = u2 B3 25 (12 * c + p) (s) := ⟨_, rfl⟩
            refine (fun (kk9 : ∀ F4 : Pic, MB g ad F4 _ _ _ _ _ _ B4 → FrM F3 F4 → V M g ad F4 _ _ _ _ _) => kk9 _ (by rw [eB4]; exact h3.put 25 rfl (12 * c + p) (s)) (FrM.pu ⟨by omega, by omega⟩)) ?_
            intro F4 h4 h4F
            have h4_o := h4.1
            unfold MOL at h4_o
            refine r_iinc X dX6_parts_200 (by rfl) (by rw [hN]; decide) (by rfl) ?_
            dsimp only [List.set]
            refine r_goto X dX6_parts_203 12 (by decide) ?_
            refine ihn (p + 1) F4 B4 _ _ _ (by omega) (by omega) (hF3.tr h4F) h4 ⟨fun a ha => by rw [eB4, u2_row' (by omega)]; exact r1 a ha, fun q hq => by rw [eB4, u2_row' (by omega), u2_row' (by omega)]; exact r2 q hq, fun d hd => by rw [eB4, u2_row' (by omega)]; exact r3 d hd, fun q d hq hd hu => ?_⟩
            by_cases e : q = p ∧ d = c
            · rw [e.1, e.2, eB4, u2_at, hs]
            · rw [eB4, u2_col' (fun z => e (by have := dv12 h12 hq hpn z; omega)), r4]
              refine hS2.2.2.2 q d hq hd ?_
              by_cases u : un3 c p q d = true
              · rw [un3_next.mpr ⟨u, e⟩] at hu; cases hu
              · simpa using u
          have h2_o := h2.1
          unfold MOL at h2_o
          have h2_22 : F2 50022 = some (cI g 12 (fun j => zI (B2 22 j))) := h2.2 22 rfl
          have h2_23 : F2 50023 = some (cI g 16 (fun j => zI (B2 23 j))) := h2.2 23 rfl
          have h2_24 : F2 50024 = some (cI g 12 (fun j => zI (B2 24 j))) := h2.2 24 rfl
          refine r_iload_n X dX6_parts_12 (by rfl) ?_
          refine r_aload_n X dX6_parts_13 (by rfl) ?_
          refine r_get X dX6_parts_14 fgX6_131_8 (by assumption) (by rfl) ?_
          refine r_icmp_ge X 206 dX6_parts_17 (by decide) (by unfold inR; omega) (by unfold inR; omega) (fun a => ?_) (fun a => ?_)
          · omega
          · refine r_iconst X dX6_parts_20 rfl ?_
            refine r_istore_n X dX6_parts_21 (by rw [hN]; decide) (by rfl) ?_
            dsimp only [List.set]
            refine r_aload_n X dX6_parts_22 (by rfl) ?_
            refine r_get X dX6_parts_23 fgX6_61_8 (by assumption) (by rfl) ?_
            refine r_iload_n X dX6_parts_26 (by rfl) ?_
            refine r_iald X p dX6_parts_27 (by assumption) (by rfl) (by omega) (by first | decide | omega) ?_
            rw [e22]
            have rml : RM R c p p < 65536 := RM_lt
            have hq := tb_iff (RM R c p p) c
            refine r_iload_n X dX6_parts_28 (by rfl) ?_
            refine r_ishr X (hv := zI_shr (by omega) (by omega)) dX6_parts_29 ?_
            refine r_iconst X dX6_parts_30 rfl ?_
            refine r_iand X (hv := zI_and1 _) dX6_parts_31 ?_
            refine r_iconst X dX6_parts_32 rfl ?_
            refine r_icmp_ne X 188 dX6_parts_33 (by decide) (by unfold inR; omega) (by unfold inR; omega) (fun b => ?_) (fun b => ?_)
            · have nb : ¬ (R p).testBit c = true := fun z => by have := hq.mp (RM_tb.mpr ⟨by omega, z, un3_self⟩); omega
              have w0 := hWp.2.1 nb
              refine ending F2 B2 0 _ _ w0.symm hF2 h2 hS2.1 (fun q hq9 => ?_) (fun d hd => ?_) rfl
              · rw [rm3_r hcn q, w0, ← RM_keep (by by_cases e : q = p; right; rw [e]; exact nb; left; exact e)]
                have := hS2.2.1 q hq9
                refine ⟨this.1, ?_⟩
                rw [this.2]; split <;> omega
              · rw [rm3_c hpn d, w0, hS2.2.2.1 d hd]; split <;> omega
            · have yb : (R p).testBit c = true := (RM_tb.mp (hq.mpr (by omega))).2.1
              have hV : SHV np nc R c p (fun q => sm nc (rm3 c p W q)) (fun d => sm np (fun q => rm3 c p W q d)) (W p c) := hWp.2.2 yb
              have rest : ∀ s0 : Int, s0 = min (sm nc (rm3 c p W p)) (sm np (fun q => rm3 c p W q c)) → V M g ad F2 0 0 66 [some (.ref (ad 50000)), some (.int (zI (c : Int))), some (.int (zI (p : Int))), some (.int (zI 0)), o4, o5] [.int (zI s0)] := fun s0 hs0 => by
                refine r_istore_n X dX6_parts_66 (by rw [hN]; decide) (by rfl) ?_
                dsimp only [List.set]
                refine r_aload_n X dX6_parts_67 (by rfl) ?_
                refine r_aload_n X dX6_parts_68 (by rfl) ?_
                refine r_get X dX6_parts_69 fgX6_67_8 (by assumption) (by rfl) ?_
                refine r_callV X dX6_parts_72 kX6_153 (c_mLaysSets g _ hl ad F2 _ _ _ _ _ _ _ h2 24 (.inr rfl) (RM R c p) (fun q hq9 => ⟨(hS2.2.1 q hq9).1, RM_lt⟩) h12) (by assumption) (by rfl) (by rfl) (by rfl) (by rfl) (by exact Nat.le_of_ble_eq_true rfl) (by decide) (by decide) (by omega) (by omega) (fun v ad' F3 hK => ?_)
                obtain ⟨rfl, rfl, hF3, B3, h3, hr3, hX3⟩ := hK
                have t22 : B3 22 = B2 22 := hr3 22 (by omega) (by omega)
                have t23 : B3 23 = B2 23 := hr3 23 (by omega) (by omega)
                have t24 : B3 24 = B2 24 := hr3 24 (by omega) (by omega)
                have t25 : B3 25 = B2 25 := hr3 25 (by omega) (by omega)
                have rmv : ∀ X0, sm 16 (fun d => if (csM (RM R c p) np X0).testBit d then B3 23 d else 0) - mnS (B2 24) np X0 = roomv np nc R c p (fun q => sm nc (rm3 c p W q)) (fun d => sm np (fun q => rm3 c p W q d)) X0 := fun X0 => by
                  rw [room_code h16 hR]
                  exact roomv_eq (fun _ _ => rfl) (fun q hq9 => (hS2.2.1 q hq9).2) (fun d hd => by rw [t23]; exact hS2.2.2.1 d hd)
                have rmb2 : ∀ X0, -720000000 ≤ roomv np nc R c p (fun q => sm nc (rm3 c p W q)) (fun d => sm np (fun q => rm3 c p W q d)) X0 ∧ roomv np nc R c p (fun q => sm nc (rm3 c p W q)) (fun d => sm np (fun q => rm3 c p W q d)) X0 ≤ 1599984 := fun X0 => by
                  have a := sm_bd (lo := 0) (hi := 99999) (f := fun d => if cov np R c p X0 d then sm np (fun q => rm3 c p W q d) else 0) nc (fun i hi => by
                    have := cosb c p i hi
                    show 0 ≤ (if cov np R c p X0 i then sm np (fun q => rm3 c p W q i) else 0) ∧ (if cov np R c p X0 i then sm np (fun q => rm3 c p W q i) else 0) ≤ 99999
                    split <;> omega)
                  have b := sm_bd (lo := 0) (hi := 60000000) (f := fun q => if X0.testBit q then sm nc (rm3 c p W q) else 0) np (fun i hi => by
                    have := payb c p i hi
                    show 0 ≤ (if X0.testBit i then sm nc (rm3 c p W i) else 0) ∧ (if X0.testBit i then sm nc (rm3 c p W i) else 0) ≤ 60000000
                    split <;> omega)
                  unfold roomv
                  dsimp only
                  omega
                have h3_o := h3.1
                unfold MOL at h3_o
                have h3_22 : F3 50022 = some (cI g 12 (fun j => zI (B3 22 j))) := h3.2 22 rfl
                have h3_23 : F3 50023 = some (cI g 16 (fun j => zI (B3 23 j))) := h3.2 23 rfl
                have h3_24 : F3 50024 = some (cI g 12 (fun j => zI (B3 24 j))) := h3.2 24 rfl
                have h3_26 : F3 50026 = some (cI g 4096 (fun j => zI (B3 26 j))) := h3.2 26 rfl
                have h3_27 : F3 50027 = some (cI g 4096 (fun j => zI (B3 27 j))) := h3.2 27 rfl
                generalize hpay : sm nc (rm3 c p W p) = pay at *
                generalize hcos : sm np (fun q => rm3 c p W q c) = cos at *
                have loopX : ∀ (k X0 : Nat) (s : Int) (o5 : Option Value), 2 ^ np - X0 = k → X0 ≤ 2 ^ np → (-800000000 ≤ s ∧ s ≤ 60000000) → s ≤ pay → s ≤ cos → (∀ Y, Y < X0 → ¬ Y.testBit p = true → cov np R c p Y c = true → s ≤ roomv np nc R c p (fun q => sm nc (rm3 c p W q)) (fun d => sm np (fun q => rm3 c p W q d)) Y) → (s = pay ∨ s = cos ∨ ∃ Y, Y < X0 ∧ ¬ Y.testBit p = true ∧ cov np R c p Y c = true ∧ s = roomv np nc R c p (fun q => sm nc (rm3 c p W q)) (fun d => sm np (fun q => rm3 c p W q d)) Y) →
                    V M g ad F3 0 0 78 [some (.ref (ad 50000)), some (.int (zI (c : Int))), some (.int (zI (p : Int))), some (.int (zI s)), some (.int (zI (X0 : Int))), o5] [] := by
                  intro k
                  induction k with
                  | zero =>
                    intro X0 s o5 hk hX sb s1 s2 s3 s4
                    obtain rfl : X0 = 2 ^ np := by omega
                    have hs : s = W p c := by
                      refine SHV.uniq (np := np) (nc := nc) (rc := R) (c := c) (p := p) (pay := fun q => sm nc (rm3 c p W q)) (cos := fun d => sm np (fun q => rm3 c p W q d)) ⟨?_, ?_, s3, ?_⟩ hV
                      · show s ≤ sm nc (rm3 c p W p); rw [hpay]; exact s1
                      · show s ≤ sm np (fun q => rm3 c p W q c); rw [hcos]; exact s2
                      · show s = sm nc (rm3 c p W p) ∨ s = sm np (fun q => rm3 c p W q c) ∨ _; rw [hpay, hcos]; exact s4
                    have rb := RM_bit (R := R) (c := c) (p := p) (by omega) yb
                    have v22 : B3 22 p = ((RM R c p p : Nat) : Int) := by rw [t22]; exact e22
                    clear s3 s4
                    refine r_iload X dX6_parts_78 (by rfl) ?_
                    refine r_iconst X dX6_parts_80 rfl ?_
                    refine r_aload_n X dX6_parts_81 (by rfl) ?_
                    refine r_get X dX6_parts_82 fgX6_131_8 (by assumption) (by rfl) ?_
                    refine r_ishl X (hv := zI_shl (by omega)) dX6_parts_85 ?_
                    refine r_icmp_ge X 156 dX6_parts_86 (by decide) (by unfold inR; omega) (by unfold inR; omega) (fun x => ?_) (fun x => ?_)
                    · refine r_aload_n X dX6_parts_156 (by rfl) ?_
                      refine r_get X dX6_parts_157 fgX6_61_8 (by assumption) (by rfl) ?_
                      refine r_iload_n X dX6_parts_160 (by rfl) ?_
                      refine r_dup2 X dX6_parts_161 (by rfl) (by rfl) ?_
                      refine r_iald X p dX6_parts_162 (by assumption) (by rfl) (by omega) (by first | decide | omega) ?_
                      rw [v22]
                      refine r_iconst X dX6_parts_163 rfl ?_
                      refine r_iload_n X dX6_parts_164 (by rfl) ?_
                      refine r_ishl X (hv := zI_shl (by omega)) dX6_parts_165 ?_
                      refine r_isub X dX6_parts_166 ?_
                      refine r_ist X p dX6_parts_167 (by assumption) (by omega) (by rfl) (by omega) (by first | decide | omega) ?_
                      obtain ⟨B4, eB4⟩ : ∃ X9 : Nat → Nat → Int, X9 = u2 B3 22 (p) (((RM R c p p : Nat) : Int) - ((2 ^ c : Nat) : Int)) := ⟨_, rfl⟩
                      refine (fun (kk9 : ∀ F4 : Pic, MB g ad F4 _ _ _ _ _ _ B4 → FrM F3 F4 → V M g ad F4 _ _ _ _ _) => kk9 _ (by rw [eB4]; exact h3.put 22 rfl (p) (((RM R c p p : Nat) : Int) - ((2 ^ c : Nat) : Int))) (FrM.pu ⟨by omega, by omega⟩)) ?_
                      intro F4 h4 h4F
                      have h4_o := h4.1
                      unfold MOL at h4_o
                      have h4_24 : F4 50024 = some (cI g 12 (fun j => zI (B4 24 j))) := h4.2 24 rfl
                      refine r_aload_n X dX6_parts_168 (by rfl) ?_
                      refine r_get X dX6_parts_169 fgX6_67_8 (by assumption) (by rfl) ?_
                      refine r_iload_n X dX6_parts_172 (by rfl) ?_
                      refine r_dup2 X dX6_parts_173 (by rfl) (by rfl) ?_
                      refine r_iald X p dX6_parts_174 (by assumption) (by rfl) (by omega) (by first | decide | omega) ?_
                      refine r_iload_n X dX6_parts_175 (by rfl) ?_
                      refine r_isub X dX6_parts_176 ?_
                      refine r_ist X p dX6_parts_177 (by assumption) (by omega) (by rfl) (by omega) (by first | decide | omega) ?_
                      obtain ⟨B5, eB5⟩ : ∃ X9 : Nat → Nat → Int, X9 = u2 B4 24 (p) (B4 24 p - s) := ⟨_, rfl⟩
                      refine (fun (kk9 : ∀ F5 : Pic, MB g ad F5 _ _ _ _ _ _ B5 → FrM F4 F5 → V M g ad F5 _ _ _ _ _) => kk9 _ (by rw [eB5]; exact h4.put 24 rfl (p) (B4 24 p - s)) (FrM.pu ⟨by omega, by omega⟩)) ?_
                      intro F5 h5 h5F
                      have h5_o := h5.1
                      unfold MOL at h5_o
                      have h5_23 : F5 50023 = some (cI g 16 (fun j => zI (B5 23 j))) := h5.2 23 rfl
                      refine r_aload_n X dX6_parts_178 (by rfl) ?_
                      refine r_get X dX6_parts_179 fgX6_64_8 (by assumption) (by rfl) ?_
                      refine r_iload_n X dX6_parts_182 (by rfl) ?_
                      refine r_dup2 X dX6_parts_183 (by rfl) (by rfl) ?_
                      refine r_iald X c dX6_parts_184 (by assumption) (by rfl) (by omega) (by first | decide | omega) ?_
                      refine r_iload_n X dX6_parts_185 (by rfl) ?_
                      refine r_isub X dX6_parts_186 ?_
                      refine r_ist X c dX6_parts_187 (by assumption) (by omega) (by rfl) (by omega) (by first | decide | omega) ?_
                      obtain ⟨B6, eB6⟩ : ∃ X9 : Nat → Nat → Int, X9 = u2 B5 23 (c) (B5 23 c - s) := ⟨_, rfl⟩
                      refine (fun (kk9 : ∀ F6 : Pic, MB g ad F6 _ _ _ _ _ _ B6 → FrM F5 F6 → V M g ad F6 _ _ _ _ _) => kk9 _ (by rw [eB6]; exact h5.put 23 rfl (c) (B5 23 c - s)) (FrM.pu ⟨by omega, by omega⟩)) ?_
                      intro F6 h6 h6F
                      have h6_o := h6.1
                      unfold MOL at h6_o
                      refine ending F6 B6 s _ _ hs (hF2.tr (hF3.tr (h4F.tr (h5F.tr h6F)))) h6 (fun a ha => ?_) (fun q hq9 => ⟨?_, ?_⟩) (fun d hd => ?_) ?_
                      · rw [eB6, u2_row' (by omega), eB5, u2_row' (by omega), eB4, u2_row' (by omega), hr3 a (by omega) (by omega)]; exact hS2.1 a ha
                      · rw [eB6, u2_row' (by omega), eB5, u2_row' (by omega), eB4]
                        by_cases e : q = p
                        · rw [e, u2_at]; omega
                        · rw [u2_col' e, t22, ← RM_keep (.inl e)]; exact (hS2.2.1 q hq9).1
                      · rw [eB6, u2_row' (by omega), eB5, rm3_r hcn q]
                        by_cases e : q = p
                        · rw [e, u2_at, if_pos rfl, eB4, u2_row' (by omega), t24, e24, ← hs, hpay]
                        · rw [u2_col' e, if_neg e, eB4, u2_row' (by omega), t24, (hS2.2.1 q hq9).2]; omega
                      · rw [eB6, rm3_c hpn d]
                        by_cases e : d = c
                        · rw [e, u2_at, if_pos rfl, eB5, u2_row' (by omega), eB4, u2_row' (by omega), t23, e23, ← hs, hcos]
                        · rw [u2_col' e, if_neg e, eB5, u2_row' (by omega), eB4, u2_row' (by omega), t23, hS2.2.2.1 d hd]; omega
                      · rw [eB6, u2_row' (by omega), eB5, u2_row' (by omega), eB4, u2_row' (by omega), t25]
                    · omega
                  | succ k ihX =>
                    intro X0 s o5 hk hX sb s1 s2 s3 s4
                    have hX2 : X0 < 2 ^ np := by clear s4; omega
                    obtain ⟨w26, w27⟩ := hX3 X0 hX2
                    have hqp := tb_iff X0 p
                    have hqc := tb_iff (csM (RM R c p) np X0) c
                    have cml : csM (RM R c p) np X0 < 65536 := csM_lt
                    have k1 : 2 ^ np - (X0 + 1) = k := by clear s4; omega
                    have rb2 := rmb2 X0
                    have rv := rmv X0
                    have skip : ¬ (¬ X0.testBit p = true ∧ cov np R c p X0 c = true) → ∀ o5 : Option Value, V M g ad F3 0 0 150 [some (.ref (ad 50000)), some (.int (zI (c : Int))), some (.int (zI (p : Int))), some (.int (zI s)), some (.int (zI (X0 : Int))), o5] [] := fun hno o5 => by
                      refine r_iinc X dX6_parts_150 (by rfl) (by rw [hN]; decide) (by rfl) ?_
                      dsimp only [List.set]
                      refine r_goto X dX6_parts_153 78 (by decide) ?_
                      refine ihX (X0 + 1) s _ k1 hX2 sb s1 s2 (fun Y hY y1 y2 => ?_) ?_
                      · by_cases e : Y = X0
                        · exact absurd ⟨e ▸ y1, e ▸ y2⟩ hno
                        · exact s3 Y (by clear s4; omega) y1 y2
                      · rcases s4 with e | e | ⟨Y, y0, y⟩
                        · exact .inl e
                        · exact .inr (.inl e)
                        · exact .inr (.inr ⟨Y, Nat.lt_succ_of_lt y0, y⟩)
                    have take : ∀ (s' : Int) (o5 : Option Value), ¬ X0.testBit p = true → cov np R c p X0 c = true → s' = min (roomv np nc R c p (fun q => sm nc (rm3 c p W q)) (fun d => sm np (fun q => rm3 c p W q d)) X0) s → V M g ad F3 0 0 149 [some (.ref (ad 50000)), some (.int (zI (c : Int))), some (.int (zI (p : Int))), some (.int (zI s)), some (.int (zI (X0 : Int))), o5] [.int (zI s')] := fun s' o5 x1 x2 hs' => by
                      generalize hrm : roomv np nc R c p (fun q => sm nc (rm3 c p W q)) (fun d => sm np (fun q => rm3 c p W q d)) X0 = rm at *
                      have z1 : s' ≤ rm ∧ s' ≤ s ∧ (s' = rm ∨ s' = s) ∧ (-800000000 ≤ s' ∧ s' ≤ 60000000) := by clear s4; omega
                      refine r_istore_n X dX6_parts_149 (by rw [hN]; decide) (by rfl) ?_
                      dsimp only [List.set]
                      refine r_iinc X dX6_parts_150 (by rfl) (by rw [hN]; decide) (by rfl) ?_
                      dsimp only [List.set]
                      refine r_goto X dX6_parts_153 78 (by decide) ?_
                      refine ihX (X0 + 1) s' _ k1 hX2 z1.2.2.2 (Int.le_trans z1.2.1 s1) (Int.le_trans z1.2.1 s2) (fun Y hY y1 y2 => ?_) ?_
                      · by_cases e : Y = X0
                        · rw [e, hrm]; exact z1.1
                        · exact Int.le_trans z1.2.1 (s3 Y (by clear s4; omega) y1 y2)
                      · rcases z1.2.2.1 with e | e
                        · exact .inr (.inr ⟨X0, Nat.lt_succ_self _, x1, x2, by rw [hrm]; exact e⟩)
                        · rcases s4 with e2 | e2 | ⟨Y, y0, y1, y2, y3⟩
                          · exact .inl (e.trans e2)
                          · exact .inr (.inl (e.trans e2))
                          · exact .inr (.inr ⟨Y, Nat.lt_succ_of_lt y0, y1, y2, e.trans y3⟩)
                    clear s4 s3
                    refine r_iload X dX6_parts_78 (by rfl) ?_
                    refine r_iconst X dX6_parts_80 rfl ?_
                    refine r_aload_n X dX6_parts_81 (by rfl) ?_
                    refine r_get X dX6_parts_82 fgX6_131_8 (by assumption) (by rfl) ?_
                    refine r_ishl X (hv := zI_shl (by omega)) dX6_parts_85 ?_
                    refine r_icmp_ge X 156 dX6_parts_86 (by decide) (by unfold inR; omega) (by unfold inR; omega) (fun x => ?_) (fun x => ?_)
                    · omega
                    · refine r_iload X dX6_parts_89 (by rfl) ?_
                      refine r_iload_n X dX6_parts_91 (by rfl) ?_
                      refine r_ishr X (hv := zI_shr (by omega) (by omega)) dX6_parts_92 ?_
                      refine r_iconst X dX6_parts_93 rfl ?_
                      refine r_iand X (hv := zI_and1 _) dX6_parts_94 ?_
                      refine r_if_ne X 150 dX6_parts_95 (by decide) (by unfold inR; omega) (fun y => ?_) (fun y => ?_)
                      · exact skip (fun z => z.1 (hqp.mpr (by omega))) _
                      · have x1 : ¬ X0.testBit p = true := fun z => by have := hqp.mp z; omega
                        refine r_aload_n X dX6_parts_98 (by rfl) ?_
                        refine r_get X dX6_parts_99 fgX6_76_8 (by assumption) (by rfl) ?_
                        refine r_iload X dX6_parts_102 (by rfl) ?_
                        refine r_iald X X0 dX6_parts_104 (by assumption) (by rfl) (by omega) (by first | decide | omega) ?_
                        rw [w27]
                        refine r_iload_n X dX6_parts_105 (by rfl) ?_
                        refine r_ishr X (hv := zI_shr (by omega) (by omega)) dX6_parts_106 ?_
                        refine r_iconst X dX6_parts_107 rfl ?_
                        refine r_iand X (hv := zI_and1 _) dX6_parts_108 ?_
                        refine r_iconst X dX6_parts_109 rfl ?_
                        refine r_icmp_ne X 150 dX6_parts_110 (by decide) (by unfold inR; omega) (by unfold inR; omega) (fun y2 => ?_) (fun y2 => ?_)
                        · exact skip (fun z => by have := hqc.mp ((csM_cov hR2).mpr z.2); omega) _
                        · have x2 : cov np R c p X0 c = true := (csM_cov hR2).mp (hqc.mpr (by omega))
                          refine r_aload_n X dX6_parts_113 (by rfl) ?_
                          refine r_get X dX6_parts_114 fgX6_76_8 (by assumption) (by rfl) ?_
                          refine r_iload X dX6_parts_117 (by rfl) ?_
                          refine r_iald X X0 dX6_parts_119 (by assumption) (by rfl) (by omega) (by first | decide | omega) ?_
                          rw [w27]
                          refine r_aload_n X dX6_parts_120 (by rfl) ?_
                          refine r_get X dX6_parts_121 fgX6_64_8 (by assumption) (by rfl) ?_
                          refine r_callS X dX6_parts_124 kX6_146 (c_mSum g _ hl ad F3 (csM (RM R c p) np X0) csM_lt 50023 (B3 23) (h3.2 23 rfl)) (by rfl) (by rfl) (by exact Nat.le_of_ble_eq_true rfl) (by decide) (by decide) (by omega) (by omega) (fun v ad' F4 hK => ?_)
                          obtain ⟨rfl, rfl, rfl⟩ := hK
                          refine r_aload_n X dX6_parts_127 (by rfl) ?_
                          refine r_get X dX6_parts_128 fgX6_73_8 (by assumption) (by rfl) ?_
                          refine r_iload X dX6_parts_131 (by rfl) ?_
                          refine r_iald X X0 dX6_parts_133 (by assumption) (by rfl) (by omega) (by first | decide | omega) ?_
                          rw [w26]
                          refine r_isub X dX6_parts_134 ?_
                          rw [rv]
                          refine r_istore X dX6_parts_135 (by rw [hN]; decide) (by rfl) ?_
                          dsimp only [List.set]
                          refine r_iload X dX6_parts_137 (by rfl) ?_
                          refine r_iload_n X dX6_parts_139 (by rfl) ?_
                          refine r_icmp_ge X 148 dX6_parts_140 (by decide) (by unfold inR; omega) (by unfold inR; omega) (fun z => ?_) (fun z => ?_)
                          · refine r_iload_n X dX6_parts_148 (by rfl) ?_
                            exact take s _ x1 x2 (by omega)
                          · refine r_iload X dX6_parts_143 (by rfl) ?_
                            refine r_goto X dX6_parts_145 149 (by decide) ?_
                            exact take _ _ x1 x2 (by omega)
                refine r_iconst X dX6_parts_75 rfl ?_
                refine r_istore X dX6_parts_76 (by rw [hN]; decide) (by rfl) ?_
                dsimp only [List.set]
                exact loopX _ 0 s0 _ rfl (Nat.zero_le _) (by omega) (by omega) (by omega) (fun Y hY => by omega) (by omega)
              refine r_aload_n X dX6_parts_36 (by rfl) ?_
              refine r_get X dX6_parts_37 fgX6_67_8 (by assumption) (by rfl) ?_
              refine r_iload_n X dX6_parts_40 (by rfl) ?_
              refine r_iald X p dX6_parts_41 (by assumption) (by rfl) (by omega) (by first | decide | omega) ?_
              refine r_aload_n X dX6_parts_42 (by rfl) ?_
              refine r_get X dX6_parts_43 fgX6_64_8 (by assumption) (by rfl) ?_
              refine r_iload_n X dX6_parts_46 (by rfl) ?_
              refine r_iald X c dX6_parts_47 (by assumption) (by rfl) (by omega) (by first | decide | omega) ?_
              rw [e24, e23]
              refine r_icmp_ge X 60 dX6_parts_48 (by decide) (by unfold inR; omega) (by unfold inR; omega) (fun q9 => ?_) (fun q9 => ?_)
              · refine r_aload_n X dX6_parts_60 (by rfl) ?_
                refine r_get X dX6_parts_61 fgX6_64_8 (by assumption) (by rfl) ?_
                refine r_iload_n X dX6_parts_64 (by rfl) ?_
                refine r_iald X c dX6_parts_65 (by assumption) (by rfl) (by omega) (by first | decide | omega) ?_
                rw [e23]
                exact rest _ (by omega)
              · refine r_aload_n X dX6_parts_51 (by rfl) ?_
                refine r_get X dX6_parts_52 fgX6_67_8 (by assumption) (by rfl) ?_
                refine r_iload_n X dX6_parts_55 (by rfl) ?_
                refine r_iald X p dX6_parts_56 (by assumption) (by rfl) (by omega) (by first | decide | omega) ?_
                refine r_goto X dX6_parts_57 66 (by decide) ?_
                rw [e24]
                exact rest _ (by omega)
      have h1_o := h1.1
      unfold MOL at h1_o
      refine r_iload_n X dX6_parts_2 (by rfl) ?_
      refine r_aload_n X dX6_parts_3 (by rfl) ?_
      refine r_get X dX6_parts_4 fgX6_96_8 (by assumption) (by rfl) ?_
      refine r_icmp_ge X 212 dX6_parts_7 (by decide) (by unfold inR; omega) (by unfold inR; omega) (fun a => ?_) (fun a => ?_)
      · omega
      · refine r_iconst X dX6_parts_10 rfl ?_
        refine r_istore_n X dX6_parts_11 (by rw [hN]; decide) (by rfl) ?_
        dsimp only [List.set]
        exact loopP _ 0 F1 B1 _ _ _ rfl (by omega) hF h1 hS
  refine r_iconst X dX6_parts_0 rfl ?_
  refine r_istore_n X dX6_parts_1 (by rw [hN]; decide) (by rfl) ?_
  dsimp only [List.set]
  refine loopC _ 0 F B _ _ _ _ rfl (by omega) FrM.rf hB ⟨fun _ _ => rfl, fun q hq => ⟨by rw [h22 q hq, ← RM_0 (hR2 q hq)], by rw [h24 q hq]; exact sm_congr (fun d _ => (if_pos (un3_iff.mpr (by omega))).symm)⟩, fun d hd => by rw [h23 d hd]; exact sm_congr (fun q _ => (if_pos (un3_iff.mpr (by omega))).symm), fun q d hq hd hu => ?_⟩
  rw [un3_iff.mpr (by omega)] at hu
  cases hu
