/-! ===== the model charges ===== -/
section AGs
variable {nf nk nc : Nat} {A P : Nat → Nat → Int} {kf : Nat → Nat} {B : Nat → Nat → Int}
theorem AG.set2 (h : AG nf nk nc A P kf B) (i : Nat) (v : Int) : AG nf nk nc (u2 A 0 i v) P kf (u2 B 2 i v) := by
  obtain ⟨h1, h2, h3, h4, h5⟩ := h
  refine ⟨fun x hx => ?_, fun x hx hx6 => ?_, fun x hx => ?_, fun x hx => ?_, fun x hx hx6 k hk6 => ?_⟩
  · have q := h1 x hx
    by_cases e : x = i
    · subst e; simp only [u2]; simp; exact q.2
    · simp only [u2]; simp [e]; exact q
  · simp only [u2]; simp; exact h2 x hx hx6
  · simp only [u2]; simp; exact h3 x hx
  · simp only [u2]; simp; exact h4 x hx
  · simp only [u2]; simp; exact h5 x hx hx6 k hk6
theorem AG.set6 (h : AG nf nk nc A P kf B) {i : Nat} (hi : i < nf) (v : Int) : AG nf nk nc (u2 A 4 i v) P kf (u2 B 6 i v) := by
  obtain ⟨h1, h2, h3, h4, h5⟩ := h
  refine ⟨fun x hx => ?_, fun x hx hx6 => ?_, fun x hx => ?_, fun x hx => ?_, fun x hx hx6 k hk6 => ?_⟩
  · have q := h1 x hx
    by_cases e : x = i
    · subst e; simp only [u2]; simp; exact ⟨q.1, q.2.1, q.2.2.1, q.2.2.2.1, q.2.2.2.2.2⟩
    · simp only [u2]; simp [e]; exact q
  · have e : x ≠ i := by omega
    simp only [u2]; simp [e]; exact h2 x hx hx6
  · simp only [u2]; simp; exact h3 x hx
  · simp only [u2]; simp; exact h4 x hx
  · simp only [u2]; simp; exact h5 x hx hx6 k hk6
theorem AG.set11 (h : AG nf nk nc A P kf B) (i : Nat) (v : Int) : AG nf nk nc (u2 A 8 i v) P kf (u2 B 11 i v) := by
  obtain ⟨h1, h2, h3, h4, h5⟩ := h
  refine ⟨fun x hx => ?_, fun x hx hx6 => ?_, fun x hx => ?_, fun x hx => ?_, fun x hx hx6 k hk6 => ?_⟩
  · simp only [u2]; simp; exact h1 x hx
  · simp only [u2]; simp; exact h2 x hx hx6
  · have q := h3 x hx
    by_cases e : x = i
    · subst e; simp only [u2]; simp; exact ⟨q.1, q.2.1, q.2.2.2⟩
    · simp only [u2]; simp [e]; exact q
  · simp only [u2]; simp; exact h4 x hx
  · simp only [u2]; simp; exact h5 x hx hx6 k hk6
theorem AG.set16 (h : AG nf nk nc A P kf B) (i : Nat) (v : Int) : AG nf nk nc (u2 A 12 i v) P kf (u2 B 16 i v) := by
  obtain ⟨h1, h2, h3, h4, h5⟩ := h
  refine ⟨fun x hx => ?_, fun x hx hx6 => ?_, fun x hx => ?_, fun x hx => ?_, fun x hx hx6 k hk6 => ?_⟩
  · simp only [u2]; simp; exact h1 x hx
  · simp only [u2]; simp; exact h2 x hx hx6
  · simp only [u2]; simp; exact h3 x hx
  · have q := h4 x hx
    by_cases e : x = i
    · subst e; simp only [u2]; simp; exact ⟨q.1, q.2.1, q.2.2.2⟩
    · simp only [u2]; simp [e]; exact q
  · simp only [u2]; simp; exact h5 x hx hx6 k hk6
theorem AG.set17 (h : AG nf nk nc A P kf B) {d o : Nat} (hd : d < nc) (ho : o < 6) (v : Int) : AG nf nk nc A (u2 P d o v) kf (u2 B 17 (6 * d + o) v) := by
  obtain ⟨h1, h2, h3, h4, h5⟩ := h
  refine ⟨fun x hx => ?_, fun x hx hx6 => ?_, fun x hx => ?_, fun x hx => ?_, fun x hx hx6 k hk6 => ?_⟩
  · simp only [u2]; simp; exact h1 x hx
  · simp only [u2]; simp; exact h2 x hx hx6
  · simp only [u2]; simp; exact h3 x hx
  · have q := h4 x hx
    rw [u2_row' (a := 14) (by omega), u2_row' (a := 15) (by omega), u2_row' (a := 16) (by omega)]
    refine ⟨q.1, q.2.1, q.2.2.1, fun k hk => ?_⟩
    by_cases e : x = d ∧ k = o
    · rw [e.1, e.2, u2_at, u2_at]
    · rw [u2_col' (fun z => e (by omega)), u2_o (by omega)]; exact q.2.2.2 k hk
  · rw [u2_col' (by omega)]; exact h5 x hx hx6 k hk6
end AGs
theorem u2_comm {f : Nat → Nat → Int} {a i a' i' : Nat} {v v' : Int} (h : a ≠ a') : u2 (u2 f a i v) a' i' v' = u2 (u2 f a' i' v') a i v := by
  funext x y
  unfold u2
  by_cases e1 : x = a ∧ y = i
  · rw [if_pos e1, if_neg (fun z => h (e1.1.symm.trans z.1)), if_pos e1]
  · rw [if_neg e1, if_neg e1]
theorem bk1_com {A : Nat → Nat → Int} {kf : Nat → Nat} {c d : Nat} {s : Int} (h : c < 6) : u2 (u2 (u2 A 12 d (A 12 d - s)) 4 (ow kf c) (A 4 (ow kf c) + s)) 8 c (A 8 c - s) = bk1 A kf c d s := by
  unfold bk1 mset moA
  rw [if_pos h, if_pos h, u2_comm (a := 4) (a' := 8) (by omega), u2_comm (a := 12) (a' := 8) (by omega), u2_comm (a := 12) (a' := 4) (by omega)]
theorem bk1_fund {A : Nat → Nat → Int} {kf : Nat → Nat} {c d : Nat} {s : Int} (h : ¬ c < 6) : u2 (u2 (u2 A 12 d (A 12 d - s)) 4 (ow kf c) (A 4 (ow kf c) + s)) 0 (c - 6) (A 0 (c - 6) - s) = bk1 A kf c d s := by
  unfold bk1 mset moA
  rw [if_neg h, if_neg h, u2_comm (a := 4) (a' := 0) (by omega), u2_comm (a := 12) (a' := 0) (by omega), u2_comm (a := 12) (a' := 4) (by omega)]
/-- the shares ahead of (c, p), in the order of the costs -/
def wC (W : Nat → Nat → Int) (c p : Nat) : Nat → Nat → Int := fun q d => if un3 c p q d = true then 0 else W q d
theorem wC_self {W : Nat → Nat → Int} {c p : Nat} : wC W c p p c = 0 := if_pos un3_self
theorem wC_s {W : Nat → Nat → Int} {c p : Nat} : u2 (wC W c p) p c (W p c) = wC W c (p + 1) := by
  funext q d
  unfold wC u2
  by_cases e : q = p ∧ d = c
  · rw [if_pos e, if_neg (fun z => (un3_next.mp z).2 e), e.1, e.2]
  · rw [if_neg e]
    dsimp only
    by_cases u : un3 c p q d = true
    · rw [if_pos u, if_pos (un3_next.mpr ⟨u, e⟩)]
    · rw [if_neg u, if_neg (fun z => u (un3_next.mp z).1)]
theorem wC_row {W : Nat → Nat → Int} {np nc c : Nat} (hW : ∀ q d, ¬ (q < np ∧ d < nc) → W q d = 0) : wC W c np = wC W (c + 1) 0 := by
  funext q d
  unfold wC
  by_cases hq : q < np
  · rw [un3_row hq]
  · rw [hW q d (fun z => hq z.1), ite_self, ite_self]
theorem wC_end {W : Nat → Nat → Int} {np nc : Nat} (hW : ∀ q d, ¬ (q < np ∧ d < nc) → W q d = 0) : wC W nc 0 = W := by
  funext q d
  unfold wC
  by_cases u : un3 nc 0 q d = true
  · rw [if_pos u, hW q d (fun z => by have := un3_iff.mp u; omega)]
  · rw [if_neg u]
set_option maxRecDepth 100000 in
set_option maxHeartbeats 4000000 in
theorem c_mCharge (g : Gx) (l : Launch) (hl : l.stackTraces = false) (ad : Nat → Nat) (F : Pic) (td : Int) (nf nk nc np : Nat) (th : Int) (B A P : Nat → Nat → Int) (kf : Nat → Nat) (hB : MB g ad F td nf nk nc np th B) (hG : AG nf nk nc A P kf B) (t : Nat) (hI : IV td nf nk nc A kf t) (pn dr : Nat → Int) (W : Nat → Nat → Int) (hs1 : S1 A kf nk nf nc pn) (hs2 : S2 A kf nk nf nc pn dr) (hs3 : S3 A kf nk nf nc pn dr W) (hb : B3 A nk nf nc pn dr) (hI2 : IV td nf nk nc (bkA A kf (nk + nf) nc (PS A nk nf) W) kf t) : Ct g l yX6_charge cX6_charge 6 (some .int) 5 0 0 [.ref (ad 50000)] ad F (fun v ad' F' => ad = ad' ∧ FrM F F' ∧ v = some (.int (zI (sm nc pn))) ∧ MG g ad F' td nf (endS qEmp nk (nk, bkA A kf (nk + nf) nc (PS A nk nf) W, kf)).1 nc (endS qEmp nk (nk, bkA A kf (nk + nf) nc (PS A nk nf) W, kf)).2.1 (bkP P kf (nk + nf) (PS A nk nf) W) (endS qEmp nk (nk, bkA A kf (nk + nf) nc (PS A nk nf) W, kf)).2.2 0) := by
  refine Ct_of hl rfl [some (.ref (ad 50000)), none, none, none, none, none] (Nat.le_of_ble_eq_true rfl) (fun _ h => h) ?_
  intro M hL hN X
  subst hL
  have hI0 := hI.1
  have hB_o := hB.1
  unfold MOL at hB_o
  refine r_aload_n X dX6_charge_0 (by rfl) ?_
  refine r_iconst X dX6_charge_1 rfl ?_
  refine r_put X dX6_charge_2 fwX6_82_8 (by assumption) (by omega) (by exact Nat.le_of_ble_eq_true rfl) (by rfl) (by rfl) ?_
  dsimp only [List.set]
  refine (fun (kk9 : ∀ F1 : Pic, MB g ad F1 td nf nk nc np 0 B → FrM F F1 → V M g ad F1 _ _ _ _ _) => kk9 _ (hB.obj (by rw [pu_s]; rfl) (fun x hx => pu_n hx)) (FrM.pu ⟨by omega, by omega⟩)) ?_
  intro F1 h1 h1F
  have h1_o := h1.1
  unfold MOL at h1_o
  refine r_aload_n X dX6_charge_5 (by rfl) ?_
  refine r_callV X dX6_charge_6 kX6_161 (c_mPlans g _ hl ad F1 _ _ _ _ _ _ _ _ _ _ h1 hG t hI) (by assumption) (by rfl) (by rfl) (by rfl) (by rfl) (by exact Nat.le_of_ble_eq_true rfl) (by decide) (by decide) (by omega) (by omega) (fun v ad' F2 hK => ?_)
  obtain ⟨rfl, rfl, hF2, B2, h2, G2, L2, s1, s2, s0⟩ := hK
  have e23 : ∀ c, c < nc → B2 23 c = pn c := fun c hc => s1.uniq hs1 hc
  have e24 : ∀ p, p < nk + nf → B2 24 p = dr p := fun p hp => s2.uniq e23 hs2 hp
  have e16 : 2 ^ nc ≤ 2 ^ 16 := Nat.pow_le_pow_right (by decide) hI0.2.2.2.2.1
  have h2_o := h2.1
  unfold MOL at h2_o
  refine r_aload_n X dX6_charge_9 (by rfl) ?_
  refine r_callV X dX6_charge_10 kX6_164 (c_mParts g _ hl ad F2 _ _ _ _ _ _ _ h2 (rcF A kf nk nf nc) pn dr W (by omega) (by omega) (fun q hq => mkm_lt _ _) (fun q hq => (L2.2 q hq).2) (fun q hq => by rw [e24 q hq, hs3.2.2.2 q hq]) (fun d hd => by rw [e23 d hd, hs3.2.2.1 d hd]) hs3.1 (fun q hq => by rw [e24 q hq]; have := hb.2 q hq; have := hI.mob hq; omega) (fun d hd => by rw [e23 d hd]; have := hb.1 d hd; have := (hI.2.2.2.1 d hd).2.2; omega)) (by assumption) (by rfl) (by rfl) (by rfl) (by rfl) (by exact Nat.le_of_ble_eq_true rfl) (by decide) (by decide) (by omega) (by omega) (fun v ad' F3 hK => ?_)
  obtain ⟨rfl, rfl, hF3, B3', h3, r3, w3⟩ := hK
  have hF03 : FrM F F3 := h1F.tr (hF2.tr hF3)
  have G3 : AG nf nk nc A P kf B3' := G2.row (fun a ha => r3 a (by omega))
  have L3 : MPo kf B3' (nk + nf) (PS A nk nf) := fun p hp => by rw [r3 20 (by omega), r3 19 (by omega)]; exact L2.1 p hp
  generalize hR9 : endS qEmp nk (nk, bkA A kf (nk + nf) nc (PS A nk nf) W, kf) = R9 at *
  have loopE : ∀ (k : Nat) (F4 : Pic) (nk1 : Nat) (A1 P1 : Nat → Nat → Int) (kf1 : Nat → Nat) (B1 : Nat → Nat → Int) (z : Int) (o3 o4 o5 : Option Value), k ≤ nk1 → nk1 ≤ nk → z = (k : Int) - 1 → FrM F F4 → MB g ad F4 td nf nk1 nc (nk + nf) 0 B1 → AG nf nk1 nc A1 (bkP P kf (nk + nf) (PS A nk nf) W) kf1 B1 → IV td nf nk1 nc A1 kf1 t → endS qEmp k (nk1, A1, kf1) = R9 →
      V M g ad F4 (0 + 0 + 0) (0 + 0 + 0) 160 [some (.ref (ad 50000)), some (.int (zI (sm nc pn))), some (.int (zI z)), o3, o4, o5] [] := by
    intro k
    induction k with
    | zero =>
      intro F4 nk1 A1 P1 kf1 B1 z o3 o4 o5 hk1 hk2 hz hF h4 G4 hI1 he
      refine r_iload_n X dX6_charge_160 (by rfl) ?_
      refine r_if_lt X 184 dX6_charge_161 (by decide) (by unfold inR; omega) (fun a => ?_) (fun a => ?_)
      · refine r_iload_n X dX6_charge_184 (by rfl) ?_
        exact r_iret X rfl (rfl) dX6_charge_185 (⟨rfl, hF, rfl, _, _, by rw [← he]; exact h4, by rw [← he]; exact G4⟩) (by omega) (by omega)
      · omega
    | succ k ih =>
      intro F4 nk1 A1 P1 kf1 B1 z o3 o4 o5 hk1 hk2 hz hF h4 G4 hI1 he
      obtain rfl : z = (k : Int) := by omega
      have h4_o := h4.1
      unfold MOL at h4_o
      have h4_11 : F4 50011 = some (cI g 6 (fun j => zI (B1 11 j))) := h4.2 11 rfl
      have e11 : B1 11 k = A1 8 k := (G4.2.2.1 k (by omega)).2.2.1
      have hkk := (hI1.2.2.1 k (by omega)).1
      have b8 := hI1.b8 (i := k) (by omega)
      refine r_iload_n X dX6_charge_160 (by rfl) ?_
      refine r_if_lt X 184 dX6_charge_161 (by decide) (by unfold inR; omega) (fun a => ?_) (fun a => ?_)
      · omega
      · refine r_aload_n X dX6_charge_164 (by rfl) ?_
        refine r_get X dX6_charge_165 fgX6_34_8 (by assumption) (by rfl) ?_
        refine r_iload_n X dX6_charge_168 (by rfl) ?_
        refine r_iald X k dX6_charge_169 (by assumption) (by rfl) (by omega) (by first | decide | omega) ?_
        rw [e11]
        refine r_if_ne X 178 dX6_charge_170 (by decide) (by unfold inR; omega) (fun b => ?_) (fun b => ?_)
        · refine r_iinc X dX6_charge_178 (by rfl) (by rw [hN]; decide) (by rfl) ?_
          dsimp only [List.set]
          refine r_goto X dX6_charge_181 160 (by decide) ?_
          exact ih F4 nk1 A1 P1 kf1 B1 _ _ _ _ (by omega) hk2 (by omega) hF h4 G4 hI1 (by rw [← he, endS_n]; unfold qEmp; simp; omega)
        · refine r_aload_n X dX6_charge_173 (by rfl) ?_
          refine r_iload_n X dX6_charge_174 (by rfl) ?_
          refine r_callV X dX6_charge_175 kX6_127 (c_mEnds g _ hl ad F4 _ _ _ _ _ _ _ _ _ _ h4 G4 k (by omega) (by omega) hkk (by omega)) (by assumption) (by rfl) (by rfl) (by rfl) (by rfl) (by exact Nat.le_of_ble_eq_true rfl) (by decide) (by decide) (by omega) (by omega) (fun v ad' F5 hK => ?_)
          obtain ⟨rfl, rfl, hF5, B', h5, G5⟩ := hK
          refine r_iinc X dX6_charge_178 (by rfl) (by rw [hN]; decide) (by rfl) ?_
          dsimp only [List.set]
          refine r_goto X dX6_charge_181 160 (by decide) ?_
          exact ih F5 (nk1 - 1) _ P1 _ B' _ _ _ _ (by omega) (by omega) (by omega) (hF.tr hF5) h5 G5 (hI1.ends (by omega)) (by rw [← he, endS_y]; unfold qEmp; simp; omega)
  have loopC : ∀ (m c : Nat) (F4 : Pic) (B1 : Nat → Nat → Int) (w : Int) (o3 o4 o5 : Option Value), nc - c = m → c ≤ nc → w = sm c pn → FrM F F4 → MB g ad F4 td nf nk nc (nk + nf) 0 B1 → (∀ a, 18 ≤ a → B1 a = B3' a) → AG nf nk nc (bkA A kf (nk + nf) nc (PS A nk nf) (wC W c 0)) (bkP P kf (nk + nf) (PS A nk nf) (wC W c 0)) kf B1 →
      V M g ad F4 (0 + 0 + 0) (0 + 0 + 0) 17 [some (.ref (ad 50000)), some (.int (zI w)), some (.int (zI (c : Int))), o3, o4, o5] [] := by
    intro m
    induction m with
    | zero =>
      intro c F4 B1 w o3 o4 o5 hm hc hw hF h4 r4 G4
      obtain rfl : c = nc := by omega
      rw [wC_end hs3.2.1] at G4
      have h4_o := h4.1
      unfold MOL at h4_o
      refine r_iload_n X dX6_charge_17 (by rfl) ?_
      refine r_aload_n X dX6_charge_18 (by rfl) ?_
      refine r_get X dX6_charge_19 fgX6_96_8 (by assumption) (by rfl) ?_
      refine r_icmp_ge X 153 dX6_charge_22 (by decide) (by unfold inR; omega) (by unfold inR; omega) (fun a => ?_) (fun a => ?_)
      · refine r_aload_n X dX6_charge_153 (by rfl) ?_
        refine r_get X dX6_charge_154 fgX6_93_8 (by assumption) (by rfl) ?_
        refine r_iconst X dX6_charge_157 rfl ?_
        refine r_isub X dX6_charge_158 ?_
        refine r_istore_n X dX6_charge_159 (by rw [hN]; decide) (by rfl) ?_
        dsimp only [List.set]
        rw [hw]
        exact loopE nk F4 nk _ P kf B1 _ _ _ _ (Nat.le_refl _) (Nat.le_refl _) rfl hF h4 G4 hI2 hR9
      · omega
    | succ m ih =>
      intro c F4 B1 w o3 o4 o5 hm hc hw hF h4 r4 G4
      have hcn : c < nc := by omega
      have loopP : ∀ (n p : Nat) (F5 : Pic) (B5 : Nat → Nat → Int) (w : Int) (o4 o5 : Option Value), nk + nf - p = n → p ≤ nk + nf → w = sm c pn + sm p (fun q => W q c) → FrM F F5 → MB g ad F5 td nf nk nc (nk + nf) 0 B5 → (∀ a, 18 ≤ a → B5 a = B3' a) → AG nf nk nc (bkA A kf (nk + nf) nc (PS A nk nf) (wC W c p)) (bkP P kf (nk + nf) (PS A nk nf) (wC W c p)) kf B5 →
          V M g ad F5 (0 + 0 + 0) (0 + 0 + 0) 27 [some (.ref (ad 50000)), some (.int (zI w)), some (.int (zI (c : Int))), some (.int (zI (p : Int))), o4, o5] [] := by
        intro n
        induction n with
        | zero =>
          intro p F5 B5 w o4 o5 hn hp hw hF5 h5 r5 G5
          obtain rfl : p = nk + nf := by omega
          rw [wC_row hs3.2.1] at G5
          have h5_o := h5.1
          unfold MOL at h5_o
          refine r_iload_n X dX6_charge_27 (by rfl) ?_
          refine r_aload_n X dX6_charge_28 (by rfl) ?_
          refine r_get X dX6_charge_29 fgX6_131_8 (by assumption) (by rfl) ?_
          refine r_icmp_ge X 147 dX6_charge_32 (by decide) (by unfold inR; omega) (by unfold inR; omega) (fun a => ?_) (fun a => ?_)
          · refine r_iinc X dX6_charge_147 (by rfl) (by rw [hN]; decide) (by rfl) ?_
            dsimp only [List.set]
            refine r_goto X dX6_charge_150 17 (by decide) ?_
            exact ih (c + 1) F5 B5 w _ _ _ (by omega) (by omega) (by rw [hw, sm_s, hs3.2.2.1 c hcn]) hF5 h5 r5 G5
          · omega
        | succ n ihn =>
          intro p F5 B5 w o4 o5 hn hp hw hF5 h5 r5 G5
          have hpn : p < nk + nf := by omega
          have vc := PS_vc (A := A) hI0.2.2.2.1 hpn
          obtain ⟨e20, e19⟩ := L3 p hpn
          have hown : ow kf (PS A nk nf p) < nf := VC.own hI vc
          have q25 : B5 25 (12 * c + p) = W p c := by rw [r5 25 (by omega)]; exact w3 c p hcn hpn
          have q19 : B5 19 p = ((ow kf (PS A nk nf p) : Nat) : Int) := by rw [r5 19 (by omega)]; exact e19
          have q20 : B5 20 p = pcZ (PS A nk nf p) := by rw [r5 20 (by omega)]; exact e20
          have st1 := bk_step (A := A) (kf := kf) (nc := nc) (e := PS A nk nf) (w := wC W c p) (s := W p c) hpn hcn wC_self
          have st2 := bkP_step (P := P) (kf := kf) (e := PS A nk nf) (w := wC W c p) (s := W p c) hpn wC_self
          rw [wC_s] at st1 st2
          have hw2 : w + W p c = sm c pn + sm (p + 1) (fun q => W q c) := by rw [sm_s, hw]; omega
          generalize bkA A kf (nk + nf) nc (PS A nk nf) (wC W c p) = A1 at *
          generalize bkP P kf (nk + nf) (PS A nk nf) (wC W c p) = P1 at *
          generalize PS A nk nf p = k at *
          have vc12 := vc.le hI0.2.2.1
          have pb := pcZ_b k
          have g16 : B5 16 c = A1 12 c := (G5.2.2.2.1 c hcn).2.2.1
          have g17 : B5 17 (6 * c + ow kf k) = P1 c (ow kf k) := (G5.2.2.2.1 c hcn).2.2.2 _ (by omega)
          have g6 : B5 6 (ow kf k) = A1 4 (ow kf k) := (G5.1 _ hown).2.2.2.2.1
          have h5_o := h5.1
          unfold MOL at h5_o
          have h5_16 : F5 50016 = some (cI g 16 (fun j => zI (B5 16 j))) := h5.2 16 rfl
          have h5_19 : F5 50019 = some (cI g 12 (fun j => zI (B5 19 j))) := h5.2 19 rfl
          have h5_25 : F5 50025 = some (cI g 192 (fun j => zI (B5 25 j))) := h5.2 25 rfl
          refine r_iload_n X dX6_charge_27 (by rfl) ?_
          refine r_aload_n X dX6_charge_28 (by rfl) ?_
          refine r_get X dX6_charge_29 fgX6_131_8 (by assumption) (by rfl) ?_
          refine r_icmp_ge X 147 dX6_charge_32 (by decide) (by unfold inR; omega) (by unfold inR; omega) (fun a => ?_) (fun a => ?_)
          · omega
          · refine r_aload_n X dX6_charge_35 (by rfl) ?_
            refine r_get X dX6_charge_36 fgX6_70_8 (by assumption) (by rfl) ?_
            refine r_bipush X dX6_charge_39 (by decide) ?_
            refine r_iload_n X dX6_charge_41 (by rfl) ?_
            refine r_imul X dX6_charge_42 ?_
            refine r_iload_n X dX6_charge_43 (by rfl) ?_
            refine r_iadd X dX6_charge_44 ?_
            refine r_iald X (12 * c + p) dX6_charge_45 (by assumption) (by omega) (by omega) (by first | decide | omega) ?_
            rw [q25]
            refine r_istore X dX6_charge_46 (by rw [hN]; decide) (by rfl) ?_
            dsimp only [List.set]
            refine r_aload_n X dX6_charge_48 (by rfl) ?_
            refine r_get X dX6_charge_49 fgX6_52_8 (by assumption) (by rfl) ?_
            refine r_iload_n X dX6_charge_52 (by rfl) ?_
            refine r_iald X p dX6_charge_53 (by assumption) (by rfl) (by omega) (by first | decide | omega) ?_
            rw [q19]
            refine r_istore X dX6_charge_54 (by rw [hN]; decide) (by rfl) ?_
            dsimp only [List.set]
            refine r_iload_n X dX6_charge_56 (by rfl) ?_
            refine r_iload X dX6_charge_57 (by rfl) ?_
            refine r_iadd X dX6_charge_59 ?_
            refine r_istore_n X dX6_charge_60 (by rw [hN]; decide) (by rfl) ?_
            dsimp only [List.set]
            refine r_aload_n X dX6_charge_61 (by rfl) ?_
            refine r_get X dX6_charge_62 fgX6_46_8 (by assumption) (by rfl) ?_
            refine r_iload_n X dX6_charge_65 (by rfl) ?_
            refine r_dup2 X dX6_charge_66 (by rfl) (by rfl) ?_
            refine r_iald X c dX6_charge_67 (by assumption) (by rfl) (by omega) (by first | decide | omega) ?_
            rw [g16]
            refine r_iload X dX6_charge_68 (by rfl) ?_
            refine r_isub X dX6_charge_70 ?_
            refine r_ist X c dX6_charge_71 (by assumption) (by omega) (by rfl) (by omega) (by first | decide | omega) ?_
            obtain ⟨B6, eB6⟩ : ∃ X9 : Nat → Nat → Int, X9 = u2 B5 16 (c) (A1 12 c - W p c) := ⟨_, rfl⟩
            refine (fun (kk9 : ∀ F6 : Pic, MB g ad F6 _ _ _ _ _ _ B6 → FrM F5 F6 → V M g ad F6 _ _ _ _ _) => kk9 _ (by rw [eB6]; exact h5.put 16 rfl (c) (A1 12 c - W p c)) (FrM.pu ⟨by omega, by omega⟩)) ?_
            intro F6 h6 h6F
            have h6_o := h6.1
            unfold MOL at h6_o
            have f17 : B6 17 (6 * c + ow kf k) = P1 c (ow kf k) := by rw [eB6, u2_row' (by omega)]; exact g17
            have h6_17 : F6 50017 = some (cI g 96 (fun j => zI (B6 17 j))) := h6.2 17 rfl
            refine r_aload_n X dX6_charge_72 (by rfl) ?_
            refine r_get X dX6_charge_73 fgX6_49_8 (by assumption) (by rfl) ?_
            refine r_bipush X dX6_charge_76 (by decide) ?_
            refine r_iload_n X dX6_charge_78 (by rfl) ?_
            refine r_imul X dX6_charge_79 ?_
            refine r_iload X dX6_charge_80 (by rfl) ?_
            refine r_iadd X dX6_charge_82 ?_
            refine r_dup2 X dX6_charge_83 (by rfl) (by rfl) ?_
            refine r_iald X (6 * c + ow kf k) dX6_charge_84 (by assumption) (by omega) (by omega) (by first | decide | omega) ?_
            rw [f17]
            refine r_iload X dX6_charge_85 (by rfl) ?_
            refine r_iadd X dX6_charge_87 ?_
            refine r_ist X (6 * c + ow kf k) dX6_charge_88 (by assumption) (by omega) (by omega) (by omega) (by first | decide | omega) ?_
            obtain ⟨B7, eB7⟩ : ∃ X9 : Nat → Nat → Int, X9 = u2 B6 17 (6 * c + ow kf k) (P1 c (ow kf k) + W p c) := ⟨_, rfl⟩
            refine (fun (kk9 : ∀ F7 : Pic, MB g ad F7 _ _ _ _ _ _ B7 → FrM F6 F7 → V M g ad F7 _ _ _ _ _) => kk9 _ (by rw [eB7]; exact h6.put 17 rfl (6 * c + ow kf k) (P1 c (ow kf k) + W p c)) (FrM.pu ⟨by omega, by omega⟩)) ?_
            intro F7 h7 h7F
            have h7_o := h7.1
            unfold MOL at h7_o
            have f6 : B7 6 (ow kf k) = A1 4 (ow kf k) := by rw [eB7, u2_row' (by omega), eB6, u2_row' (by omega)]; exact g6
            have h7_6 : F7 50006 = some (cI g 6 (fun j => zI (B7 6 j))) := h7.2 6 rfl
            refine r_aload_n X dX6_charge_89 (by rfl) ?_
            refine r_get X dX6_charge_90 fgX6_22_8 (by assumption) (by rfl) ?_
            refine r_iload X dX6_charge_93 (by rfl) ?_
            refine r_dup2 X dX6_charge_95 (by rfl) (by rfl) ?_
            refine r_iald X (ow kf k) dX6_charge_96 (by assumption) (by rfl) (by omega) (by first | decide | omega) ?_
            rw [f6]
            refine r_iload X dX6_charge_97 (by rfl) ?_
            refine r_iadd X dX6_charge_99 ?_
            refine r_ist X (ow kf k) dX6_charge_100 (by assumption) (by omega) (by rfl) (by omega) (by first | decide | omega) ?_
            obtain ⟨B8, eB8⟩ : ∃ X9 : Nat → Nat → Int, X9 = u2 B7 6 (ow kf k) (A1 4 (ow kf k) + W p c) := ⟨_, rfl⟩
            refine (fun (kk9 : ∀ F8 : Pic, MB g ad F8 _ _ _ _ _ _ B8 → FrM F7 F8 → V M g ad F8 _ _ _ _ _) => kk9 _ (by rw [eB8]; exact h7.put 6 rfl (ow kf k) (A1 4 (ow kf k) + W p c)) (FrM.pu ⟨by omega, by omega⟩)) ?_
            intro F8 h8 h8F
            have h8_o := h8.1
            unfold MOL at h8_o
            have f20 : B8 20 p = pcZ k := by rw [eB8, u2_row' (by omega), eB7, u2_row' (by omega), eB6, u2_row' (by omega)]; exact q20
            have f2 : B8 2 = B5 2 := by rw [eB8, u2_row' (by omega), eB7, u2_row' (by omega), eB6, u2_row' (by omega)]
            have f11 : B8 11 = B5 11 := by rw [eB8, u2_row' (by omega), eB7, u2_row' (by omega), eB6, u2_row' (by omega)]
            have G8 := ((G5.set16 c (A1 12 c - W p c)).set17 hcn (by omega : ow kf k < 6) (P1 c (ow kf k) + W p c)).set6 hown (A1 4 (ow kf k) + W p c)
            rw [← eB6, ← eB7, ← eB8, st2] at G8
            have r8 : ∀ a, 18 ≤ a → B8 a = B3' a := fun a ha => by rw [eB8, u2_row' (by omega), eB7, u2_row' (by omega), eB6, u2_row' (by omega)]; exact r5 a ha
            have hF8 : FrM F F8 := hF5.tr (h6F.tr (h7F.tr h8F))
            have h8_2 : F8 50002 = some (cI g 6 (fun j => zI (B8 2 j))) := h8.2 2 rfl
            have h8_11 : F8 50011 = some (cI g 6 (fun j => zI (B8 11 j))) := h8.2 11 rfl
            have h8_20 : F8 50020 = some (cI g 12 (fun j => zI (B8 20 j))) := h8.2 20 rfl
            refine r_aload_n X dX6_charge_101 (by rfl) ?_
            refine r_get X dX6_charge_102 fgX6_55_8 (by assumption) (by rfl) ?_
            refine r_iload_n X dX6_charge_105 (by rfl) ?_
            refine r_iald X p dX6_charge_106 (by assumption) (by rfl) (by omega) (by first | decide | omega) ?_
            rw [f20]
            refine r_if_lt X 129 dX6_charge_107 (by decide) (by unfold inR; omega) (fun b => ?_) (fun b => ?_)
            · have c6 : ¬ k < 6 := fun z => by unfold pcZ at b; rw [if_pos z] at b; omega
              have oe : ow kf k = k - 6 := if_neg c6
              have g2 : B8 2 (ow kf k) = A1 0 (ow kf k) := by rw [f2]; exact (G5.1 _ hown).1
              refine r_aload_n X dX6_charge_129 (by rfl) ?_
              refine r_get X dX6_charge_130 fgX6_7_8 (by assumption) (by rfl) ?_
              refine r_iload X dX6_charge_133 (by rfl) ?_
              refine r_dup2 X dX6_charge_135 (by rfl) (by rfl) ?_
              refine r_iald X (ow kf k) dX6_charge_136 (by assumption) (by rfl) (by omega) (by first | decide | omega) ?_
              rw [g2]
              refine r_iload X dX6_charge_137 (by rfl) ?_
              refine r_isub X dX6_charge_139 ?_
              refine r_ist X (ow kf k) dX6_charge_140 (by assumption) (by omega) (by rfl) (by omega) (by first | decide | omega) ?_
              obtain ⟨B9, eB9⟩ : ∃ X9 : Nat → Nat → Int, X9 = u2 B8 2 (ow kf k) (A1 0 (ow kf k) - W p c) := ⟨_, rfl⟩
              refine (fun (kk9 : ∀ F9 : Pic, MB g ad F9 _ _ _ _ _ _ B9 → FrM F8 F9 → V M g ad F9 _ _ _ _ _) => kk9 _ (by rw [eB9]; exact h8.put 2 rfl (ow kf k) (A1 0 (ow kf k) - W p c)) (FrM.pu ⟨by omega, by omega⟩)) ?_
              intro F9 h9 h9F
              have h9_o := h9.1
              unfold MOL at h9_o
              refine r_iinc X dX6_charge_141 (by rfl) (by rw [hN]; decide) (by rfl) ?_
              dsimp only [List.set]
              refine r_goto X dX6_charge_144 27 (by decide) ?_
              have G9 := G8.set2 (ow kf k) (A1 0 (ow kf k) - W p c)
              rw [← eB9] at G9
              have hbk := bk1_fund (A := A1) (kf := kf) (d := c) (s := W p c) c6
              rw [← oe, st1] at hbk
              rw [hbk] at G9
              exact ihn (p + 1) F9 B9 _ _ _ (by omega) (by omega) hw2 (hF8.tr h9F) h9 (fun a ha => by rw [eB9, u2_row' (by omega)]; exact r8 a ha) G9
            · have c6 : k < 6 := by
                by_cases z : k < 6
                · exact z
                · unfold pcZ at b; rw [if_neg z] at b; omega
              have ck : k < nk := by rcases vc with ⟨x1, x2⟩ | ⟨x1, x2⟩ <;> omega
              have pz : pcZ k = (k : Int) := if_pos c6
              have g11 : B8 11 k = A1 8 k := by rw [f11]; exact (G5.2.2.1 k ck).2.2.1
              refine r_aload_n X dX6_charge_110 (by rfl) ?_
              refine r_get X dX6_charge_111 fgX6_34_8 (by assumption) (by rfl) ?_
              refine r_aload_n X dX6_charge_114 (by rfl) ?_
              refine r_get X dX6_charge_115 fgX6_55_8 (by assumption) (by rfl) ?_
              refine r_iload_n X dX6_charge_118 (by rfl) ?_
              refine r_iald X p dX6_charge_119 (by assumption) (by rfl) (by omega) (by first | decide | omega) ?_
              rw [f20]
              refine r_dup2 X dX6_charge_120 (by rfl) (by rfl) ?_
              refine r_iald X k dX6_charge_121 (by assumption) (pz) (by omega) (by first | decide | omega) ?_
              rw [g11]
              refine r_iload X dX6_charge_122 (by rfl) ?_
              refine r_isub X dX6_charge_124 ?_
              refine r_ist X k dX6_charge_125 (by assumption) (by omega) (pz) (by omega) (by first | decide | omega) ?_
              refine r_goto X dX6_charge_126 141 (by decide) ?_
              obtain ⟨B9, eB9⟩ : ∃ X9 : Nat → Nat → Int, X9 = u2 B8 11 (k) (A1 8 k - W p c) := ⟨_, rfl⟩
              refine (fun (kk9 : ∀ F9 : Pic, MB g ad F9 _ _ _ _ _ _ B9 → FrM F8 F9 → V M g ad F9 _ _ _ _ _) => kk9 _ (by rw [eB9]; exact h8.put 11 rfl (k) (A1 8 k - W p c)) (FrM.pu ⟨by omega, by omega⟩)) ?_
              intro F9 h9 h9F
              have h9_o := h9.1
              unfold MOL at h9_o
              refine r_iinc X dX6_charge_141 (by rfl) (by rw [hN]; decide) (by rfl) ?_
              dsimp only [List.set]
              refine r_goto X dX6_charge_144 27 (by decide) ?_
              have G9 := G8.set11 k (A1 8 k - W p c)
              rw [← eB9] at G9
              have hbk := bk1_com (A := A1) (kf := kf) (d := c) (s := W p c) c6
              rw [st1] at hbk
              rw [hbk] at G9
              exact ihn (p + 1) F9 B9 _ _ _ (by omega) (by omega) hw2 (hF8.tr h9F) h9 (fun a ha => by rw [eB9, u2_row' (by omega)]; exact r8 a ha) G9
      have h4_o := h4.1
      unfold MOL at h4_o
      refine r_iload_n X dX6_charge_17 (by rfl) ?_
      refine r_aload_n X dX6_charge_18 (by rfl) ?_
      refine r_get X dX6_charge_19 fgX6_96_8 (by assumption) (by rfl) ?_
      refine r_icmp_ge X 153 dX6_charge_22 (by decide) (by unfold inR; omega) (by unfold inR; omega) (fun a => ?_) (fun a => ?_)
      · omega
      · refine r_iconst X dX6_charge_25 rfl ?_
        refine r_istore_n X dX6_charge_26 (by rw [hN]; decide) (by rfl) ?_
        dsimp only [List.set]
        exact loopP _ 0 F4 B1 w _ _ rfl (by omega) (by rw [hw]; show _ = _ + 0; omega) hF h4 r4 G4
  refine r_iconst X dX6_charge_13 rfl ?_
  refine r_istore_n X dX6_charge_14 (by rw [hN]; decide) (by rfl) ?_
  dsimp only [List.set]
  refine r_iconst X dX6_charge_15 rfl ?_
  refine r_istore_n X dX6_charge_16 (by rw [hN]; decide) (by rfl) ?_
  dsimp only [List.set]
  refine loopC _ 0 F3 B3' 0 _ _ _ rfl (by omega) rfl hF03 h3 (fun _ _ => rfl) ?_
  have z0 : ∀ p c, wC W 0 0 p c = 0 := fun p c => if_pos (un3_iff.mpr (by omega))
  rw [bkA_z (fun p c _ => z0 p c), bkP_z (fun p c _ => z0 p c)]
  exact G3
