theorem step1_done {np nc : Nat} {rc py : Nat → Nat} {mon unp pl cl pn : Nat → Int} {sh : Nat → Nat → Int} {c : Nat} {Z : Nat → Prop} (h : PF np nc rc mon unp pl cl pn sh) (hI : PYI np nc sh py) (hc : c < nc) (hZ : I1 np nc rc Z c pl cl sh)
    (hq : cl c ≤ 0 ∨ ∃ st en, (∀ p, st.testBit p = true ↔ (p < np ∧ 0 < pl p)) ∧ (∀ p, en.testBit p = true ↔ (p < np ∧ (rc p).testBit c = true)) ∧ FCno np nc rc py st en 0) :
    ∃ Z', I1 np nc rc Z' (c + 1) pl cl sh ∧ MC np (c + 1) mon unp rc (sm (c + 1) pn) := by
  obtain ⟨z1, z2, z3, z4⟩ := hZ
  have hZ' : ∃ Z' : Nat → Prop, (∀ p, p < np → Z' p → pl p = 0) ∧ (∀ a b c, a < np → ¬ Z' a → b < np → Z' b → c < nc → (rc a).testBit c = true → ¬ 0 < sh b c) ∧ (∀ d, d < c + 1 → 0 < cl d → ∀ p, p < np → (rc p).testBit d = true → Z' p) := by
    rcases hq with hq | ⟨st, en, hst, hen, R, r1, r2, r3⟩
    · refine ⟨Z, z1, z2, fun d hd hpos p hp e => ?_⟩
      by_cases h9 : d = c
      · subst h9; omega
      · exact z3 d (by omega) hpos p hp e
    · refine ⟨fun p => Z p ∨ ¬ R.testBit p = true, fun p hp hz => ?_, fun a b d ha hna hb hzb hd e => ?_, fun d hd hpos p hp e => ?_⟩
      · rcases hz with hz | hz
        · exact z1 p hp hz
        · have h1 := (h.2.2.1 p hp).1
          have h2 : ¬ 0 < pl p := fun q => hz (r1 p ((hst p).mpr ⟨hp, q⟩))
          omega
      · have h1 : ¬ Z a := fun q => hna (.inl q)
        have h2 : R.testBit a = true := Classical.not_not.mp (fun q => hna (.inr q))
        by_cases hz : Z b
        · exact z2 a b d ha h1 hb hz hd e
        · have h3 : ¬ R.testBit b = true := hzb.resolve_left hz
          exact fun q => r3 a b d h2 hb h3 (Nat.zero_le _) hd ⟨e, (hI b hb d).mpr ⟨hd, q⟩⟩
      · by_cases h9 : d = c
        · subst h9
          exact .inr (fun q => (r2 p q).2 ((hen p).mpr ⟨hp, e⟩))
        · exact .inl (z3 d (by omega) hpos p hp e)
  obtain ⟨Z', y1, y2, y3⟩ := hZ'
  refine ⟨Z', ⟨y1, y2, y3, fun d hd hdn p hp => z4 d (by omega) hdn p hp⟩, ?_⟩
  obtain ⟨f1, f2, f3, f4⟩ := h
  have hrow : ∀ p, p < np → sm nc (sh p) = sm (c + 1) (sh p) := fun p hp => sm_cut (by omega) (fun d h1 h2 => z4 d (by omega) h2 p hp)
  have htot : sm np (fun p => sm (c + 1) (sh p)) = sm (c + 1) pn := by
    rw [sm_swap]
    exact sm_congr (fun d hd => (f4 d (by omega)).2.2.symm)
  rw [← htot]
  constructor
  · obtain ⟨X, hX, hbit⟩ := mk_ex np Z'
    refine ⟨X, hX, cut_eq (fun p d hp hd => f1 p d hp (by omega)) (fun p d hp hd => f2 p d hp (by omega)) (fun p hp hx => ?_) (fun d hd hr => ?_) (fun p d hp hd hx hr => ?_)⟩
    · have := f3 p hp
      have h9 := y1 p hp ((hbit p).mp hx).2
      rw [← hrow p hp]; omega
    · obtain ⟨p, hp, hx, e⟩ := rB_iff.mp hr
      have h1 : ¬ Z' p := fun q => hx ((hbit p).mpr ⟨hp, q⟩)
      have h2 : ¬ 0 < cl d := fun q => h1 (y3 d hd q p hp e)
      have := f4 d (by omega)
      omega
    · obtain ⟨p', hp', hx', e⟩ := rB_iff.mp hr
      have h1 : ¬ Z' p' := fun q => hx' ((hbit p').mpr ⟨hp', q⟩)
      have h2 := y2 p' p d hp' h1 hp ((hbit p).mp hx).2 (by omega) e
      have := f1 p d hp (by omega)
      omega
  · intro X hX
    refine cut_ge (fun p d hp hd => f1 p d hp (by omega)) (fun p d hp hd => f2 p d hp (by omega)) (fun p hp => ?_) (fun d hd => ?_)
    · rw [← hrow p hp]; have := f3 p hp; omega
    · have := f4 d (by omega); omega
theorem MC_0 {np : Nat} {mon amt : Nat → Int} {rc : Nat → Nat} (h : ∀ p, p < np → 0 ≤ mon p) : MC np 0 mon amt rc 0 := by
  constructor
  · refine ⟨0, Nat.two_pow_pos np, ?_⟩
    show sm np _ + 0 = 0
    rw [sm_zero (fun p _ => by rw [if_neg (by simp)])]; rfl
  · intro X _
    show (0 : Int) ≤ sm np _ + 0
    have : 0 ≤ sm np (fun p => if X.testBit p then mon p else 0) := sm_nn (fun p hp => by
      split
      · exact h p hp
      · exact Int.le_refl _)
    omega
set_option maxRecDepth 100000 in
set_option maxHeartbeats 4000000 in
theorem c_payCosts (g : Gx) (l : Launch) (hl : l.stackTraces = false) (ad : Nat → Nat) (F : Pic) {np nc : Nat} {pl cl pn : Nat → Int} {sh : Nat → Nat → Int} {rc py : Nat → Nat} {qu ah vi : Nat → Int} (hP : PR g ad F np nc pl cl pn sh rc py qu ah vi) (mon unp : Nat → Int) (hB : BD np nc rc mon unp) (hF : PF np nc rc mon unp pl cl pn sh) (hI : PYI np nc sh py) (h0z : ∀ p c, p < np → c < nc → sh p c = 0) : Ct g l yX3_payCosts cX3_payCosts 4 none 5 0 0 [.ref (ad 200)] ad F (fun v ad' F' => v = none ∧ ad = ad' ∧ FrP F F' ∧ ∃ pl' cl' pn' sh' py' qu' ah' vi', PR g ad F' np nc pl' cl' pn' sh' rc py' qu' ah' vi' ∧ PF np nc rc mon unp pl' cl' pn' sh' ∧ PYI np nc sh' py' ∧ ∀ k, k ≤ nc → MC np k mon unp rc (sm k pn')) := by
  refine Ct_of hl rfl [some (.ref (ad 200)), none, none, none] (Nat.le_of_ble_eq_true rfl) (fun _ h => h) ?_
  intro M hL hN X
  subst hL
  obtain ⟨hnp, hnc⟩ := hP.lt
  have outer : ∀ (m c : Nat) (F1 : Pic) (pl1 cl1 pn1 : Nat → Int) (sh1 : Nat → Nat → Int) (py1 : Nat → Nat) (qu1 ah1 vi1 : Nat → Int) (Z : Nat → Prop), nc - c = m → c ≤ nc → PR g ad F1 np nc pl1 cl1 pn1 sh1 rc py1 qu1 ah1 vi1 → FrP F F1 → PF np nc rc mon unp pl1 cl1 pn1 sh1 → PYI np nc sh1 py1 → I1 np nc rc Z c pl1 cl1 sh1 → (∀ k, k ≤ c → MC np k mon unp rc (sm k pn1)) →
      V M g ad F1 0 0 2 [some (.ref (ad 200)), some (.int (zI (c : Int))), none, none] [] := by
    intro m
    induction m using Nat.strongRecOn with
    | _ m ih =>
      intro c F1 pl1 cl1 pn1 sh1 py1 qu1 ah1 vi1 Z hm hcn hP1 hFr hF1 hI1 hZ hMC
      obtain ⟨⟨i0, i1, i2, i3, i4, i5, i6, i7, i8, i9⟩, is, -, -⟩ := id hP1
      refine r_iload_n X dX3_payCosts_2 (by rfl) ?_
      refine r_aload_n X dX3_payCosts_3 (by rfl) ?_
      refine r_get X dX3_payCosts_4 fgX3_54_6 (by assumption) (by rfl) ?_
      refine r_icmp_ge X 42 dX3_payCosts_7 (by decide) (by unfold inR; omega) (by unfold inR; omega) (fun a1 => ?_) (fun a1 => ?_)
      · have e : c = nc := by omega
        subst e
        exact r_vret X rfl dX3_payCosts_42 (⟨rfl, rfl, hFr, pl1, cl1, pn1, sh1, py1, qu1, ah1, vi1, hP1, hF1, hI1, hMC⟩) (by omega) (by omega)
      · have hc : c < nc := by omega
        have hcl0 := hF1.clb hB hc
        have inner : ∀ (n t : Nat) (F1 : Pic) (pl1 cl1 pn1 : Nat → Int) (sh1 : Nat → Nat → Int) (py1 : Nat → Nat) (qu1 ah1 vi1 : Nat → Int), 1000000 - t = n → cl1 c + t ≤ 99999 → PR g ad F1 np nc pl1 cl1 pn1 sh1 rc py1 qu1 ah1 vi1 → FrP F F1 → PF np nc rc mon unp pl1 cl1 pn1 sh1 → PYI np nc sh1 py1 → I1 np nc rc Z c pl1 cl1 sh1 → (∀ k, k ≤ c → MC np k mon unp rc (sm k pn1)) →
            V M g ad F1 0 0 14 [some (.ref (ad 200)), some (.int (zI (c : Int))), some (.int (zI 1)), some (.int (zI (t : Int)))] [] := by
          intro n
          induction n using Nat.strongRecOn with
          | _ n ih2 =>
            intro t F1 pl1 cl1 pn1 sh1 py1 qu1 ah1 vi1 hn ht hP1 hFr hF1 hI1 hZ hMC
            have hcl1 := hF1.clb hB hc
            obtain ⟨⟨i0, i1, i2, i3, i4, i5, i6, i7, i8, i9⟩, is, -, -⟩ := id hP1
            refine r_iload_n X dX3_payCosts_14 (by rfl) ?_
            refine r_ldc X dX3_payCosts_15 w506 (1000000) rfl ?_
            refine r_icmp_ge X 36 dX3_payCosts_17 (by decide) (by unfold inR; omega) (by unfold inR; omega) (fun b1 => ?_) (fun b1 => ?_)
            · omega
            · refine r_iload_n X dX3_payCosts_20 (by rfl) ?_
              refine r_if_eq X 36 dX3_payCosts_21 (by decide) (by unfold inR; omega) (fun b2 => ?_) (fun b2 => ?_)
              · omega
              · refine r_aload_n X dX3_payCosts_24 (by rfl) ?_
                refine r_iload_n X dX3_payCosts_25 (by rfl) ?_
                refine r_callV X dX3_payCosts_26 kX3_65 (c_payMoreOf g _ hl ad F1 hP1 mon unp hB hF1 hI1 c hc Z hZ) (by assumption) (by rfl) (by rfl) (by rfl) (by rfl) (by exact Nat.le_of_ble_eq_true rfl) (by decide) (by decide) (by omega) (by omega) (fun v ad' F2 hK => ?_)
                obtain ⟨rfl, hFr2, pl2, cl2, pn2, sh2, py2, qu2, ah2, vi2, hP2, hF2, hI2, hZ2, hsame, hv⟩ := hK
                have hMC2 : ∀ k, k ≤ c → MC np k mon unp rc (sm k pn2) := fun k hk => by
                  rw [show sm k pn2 = sm k pn1 from sm_congr (fun d hd => (hsame d (by omega)).1)]
                  exact hMC k hk
                rcases hv with ⟨rfl, hcl, hq⟩ | ⟨rfl, hcl⟩
                · obtain ⟨Z2, hZ3, hMC3⟩ := step1_done hF2 hI2 hc hZ2 hq
                  have hMC4 : ∀ k, k ≤ c + 1 → MC np k mon unp rc (sm k pn2) := fun k hk => by
                    by_cases e : k = c + 1
                    · rw [e]; exact hMC3
                    · exact hMC2 k (by omega)
                  obtain ⟨⟨j0, j1, j2, j3, j4, j5, j6, j7, j8, j9⟩, js, -, -⟩ := id hP2
                  refine r_istore_n X dX3_payCosts_29 (by rw [hN]; decide) (by rfl) ?_
                  dsimp only [List.set]
                  refine r_iinc X dX3_payCosts_30 (by rfl) (by rw [hN]; decide) (by rfl) ?_
                  dsimp only [List.set]
                  refine r_goto X dX3_payCosts_33 14 (by decide) ?_
                  refine r_iload_n X dX3_payCosts_14 (by rfl) ?_
                  refine r_ldc X dX3_payCosts_15 w506 (1000000) rfl ?_
                  refine r_icmp_ge X 36 dX3_payCosts_17 (by decide) (by unfold inR; omega) (by unfold inR; omega) (fun b3 => ?_) (fun b3 => ?_)
                  · omega
                  · refine r_iload_n X dX3_payCosts_20 (by rfl) ?_
                    refine r_if_eq X 36 dX3_payCosts_21 (by decide) (by unfold inR; omega) (fun b4 => ?_) (fun b4 => ?_)
                    · refine r_iinc X dX3_payCosts_36 (by rfl) (by rw [hN]; decide) (by rfl) ?_
                      dsimp only [List.set]
                      refine r_goto X dX3_payCosts_39 2 (by decide) ?_
                      refine r_ls (fun i v => ?_) (ih (nc - (c + 1)) (by omega) (c + 1) F2 pl2 cl2 pn2 sh2 py2 qu2 ah2 vi2 Z2 rfl (by omega) hP2 (hFr.tr hFr2) hF2 hI2 hZ3 hMC4)
                      match i with
                      | 0 => exact id
                      | 1 => exact id
                      | 2 => exact fun h => by cases h
                      | 3 => exact fun h => by cases h
                      | j + 4 => exact fun h => by cases h
                    · exact absurd rfl b4
                · refine r_istore_n X dX3_payCosts_29 (by rw [hN]; decide) (by rfl) ?_
                  dsimp only [List.set]
                  refine r_iinc X dX3_payCosts_30 (by rfl) (by rw [hN]; decide) (by rfl) ?_
                  dsimp only [List.set]
                  refine r_goto X dX3_payCosts_33 14 (by decide) ?_
                  exact ih2 (1000000 - (t + 1)) (by omega) (t + 1) F2 pl2 cl2 pn2 sh2 py2 qu2 ah2 vi2 rfl (by omega) hP2 (hFr.tr hFr2) hF2 hI2 hZ2 hMC2
        refine r_iconst X dX3_payCosts_10 rfl ?_
        refine r_istore_n X dX3_payCosts_11 (by rw [hN]; decide) (by rfl) ?_
        dsimp only [List.set]
        refine r_iconst X dX3_payCosts_12 rfl ?_
        refine r_istore_n X dX3_payCosts_13 (by rw [hN]; decide) (by rfl) ?_
        dsimp only [List.set]
        exact inner 1000000 0 F1 pl1 cl1 pn1 sh1 py1 qu1 ah1 vi1 rfl (by omega) hP1 hFr hF1 hI1 hZ hMC
  refine r_iconst X dX3_payCosts_0 rfl ?_
  refine r_istore_n X dX3_payCosts_1 (by rw [hN]; decide) (by rfl) ?_
  dsimp only [List.set]
  refine outer nc 0 F pl cl pn sh py qu ah vi (fun _ => False) rfl (by omega) hP FrP.rf hF hI ⟨fun p _ q => q.elim, fun a b c _ _ _ q => q.elim, fun c hc => by omega, fun c _ hc p hp => h0z p c hp hc⟩ (fun k hk => ?_)
  rw [show k = 0 by omega]
  exact MC_0 (fun p hp => by
    have h1 := hF.2.2.1 p hp
    have h2 := sm_nn (f := sh p) (n := nc) (fun c hc => hF.1 p c hp hc)
    omega)
