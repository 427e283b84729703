/-! ===== the first step: what each cost is paid ===== -/
def PF (np nc : Nat) (rc : Nat → Nat) (mon unp : Nat → Int) (pl cl pn : Nat → Int) (sh : Nat → Nat → Int) : Prop :=
  (∀ p c, p < np → c < nc → 0 ≤ sh p c) ∧ (∀ p c, p < np → c < nc → 0 < sh p c → (rc p).testBit c = true) ∧ (∀ p, p < np → 0 ≤ pl p ∧ pl p + sm nc (sh p) = mon p) ∧ (∀ c, c < nc → 0 ≤ cl c ∧ cl c + pn c = unp c ∧ pn c = sm np (fun p => sh p c))
def BD (np nc : Nat) (rc : Nat → Nat) (mon unp : Nat → Int) : Prop := (∀ p, p < np → rc p < 65536) ∧ (∀ p, p < np → mon p ≤ 100000000) ∧ (∀ c, c < nc → unp c ≤ 99999)
theorem PF.pnn {np nc : Nat} {rc : Nat → Nat} {mon unp pl cl pn : Nat → Int} {sh : Nat → Nat → Int} (h : PF np nc rc mon unp pl cl pn sh) {c : Nat} (hc : c < nc) : 0 ≤ pn c := by
  rw [(h.2.2.2 c hc).2.2]; exact sm_nn (fun p hp => h.1 p c hp hc)
theorem PF.shb {np nc : Nat} {rc : Nat → Nat} {mon unp pl cl pn : Nat → Int} {sh : Nat → Nat → Int} (h : PF np nc rc mon unp pl cl pn sh) (hB : BD np nc rc mon unp) {p c : Nat} (hp : p < np) (hc : c < nc) : 0 ≤ sh p c ∧ sh p c ≤ 99999 := by
  have h1 := h.2.2.2 c hc
  have h2 := hB.2.2 c hc
  have h3 := sm_one (f := fun p => sh p c) (fun p hp => h.1 p c hp hc) hp
  have h4 := h.1 p c hp hc
  have h3 : sh p c ≤ sm np (fun p => sh p c) := h3
  omega
theorem PF.plb {np nc : Nat} {rc : Nat → Nat} {mon unp pl cl pn : Nat → Int} {sh : Nat → Nat → Int} (h : PF np nc rc mon unp pl cl pn sh) (hB : BD np nc rc mon unp) {p : Nat} (hp : p < np) : 0 ≤ pl p ∧ pl p ≤ 100000000 := by
  have h1 := h.2.2.1 p hp
  have h2 := hB.2.1 p hp
  have h3 := sm_nn (f := sh p) (n := nc) (fun c hc => h.1 p c hp hc)
  omega
theorem PF.clb {np nc : Nat} {rc : Nat → Nat} {mon unp pl cl pn : Nat → Int} {sh : Nat → Nat → Int} (h : PF np nc rc mon unp pl cl pn sh) (hB : BD np nc rc mon unp) {c : Nat} (hc : c < nc) : 0 ≤ cl c ∧ cl c ≤ 99999 ∧ 0 ≤ pn c ∧ pn c ≤ 99999 := by
  have h1 := h.2.2.2 c hc
  have h2 := hB.2.2 c hc
  have h3 := h.pnn hc
  omega
theorem PYI.pos {np nc : Nat} {sh : Nat → Nat → Int} {py : Nat → Nat} (h : PYI np nc sh py) {p c : Nat} (hp : p < np) (hc : (py p).testBit c = true) : 0 < sh p c := ((h p hp c).mp hc).2
theorem chL_lt {np nc : Nat} {ah vi : Nat → Int} : ∀ (L : List (Nat × Nat)) (p : Nat), CH np nc ah vi p L → ∀ x ∈ L, x.1 < np ∧ x.2 < nc := by
  intro L
  induction L with
  | nil => intro p _ x hx; cases hx
  | cons y t ih =>
    intro p hC x hx
    obtain ⟨c1, c2, c3, c4, c5, c6, c7⟩ := hC
    rcases List.mem_cons.mp hx with rfl | hx
    · exact ⟨c2, c3⟩
    · exact ih y.1 c7 x hx
theorem chS_zero {np nc : Nat} {ah vi : Nat → Int} {rc py : Nat → Nat} {k d : Nat} {a : Int} : ∀ (L : List (Nat × Nat)) (p : Nat) (sh : Nat → Nat → Int), CH np nc ah vi p L → CE rc py k p L → (∀ r, r < np → ¬ (py r).testBit d = true) → ∀ r, chS a sh p L r d = sh r d := by
  intro L
  induction L with
  | nil => intro p sh _ _ _ r; rfl
  | cons x t ih =>
    intro p sh hC hE h r
    obtain ⟨c1, c2, c3, c4, c5, c6, c7⟩ := hC
    obtain ⟨e1, e2, e3, e4⟩ := hE
    have hne : ¬ d = x.2 := fun q => h p c1 (q ▸ e2)
    rw [chS_cons, ih x.1 _ c7 e4 h r, lk_p c4, if_neg (fun q => hne q.2), if_neg (fun q => hne q.2)]; omega
section Aug1
variable {np nc : Nat} {ah vi : Nat → Int} {rc py : Nat → Nat} {k last c : Nat} {a : Int} {mon unp pl cl pn : Nat → Int} {sh : Nat → Nat → Int} {L : List (Nat × Nat)}
/-- the amounts behind a chain that ends in a payment of c -/
def aS (a : Int) (sh : Nat → Nat → Int) (last c : Nat) (L : List (Nat × Nat)) : Nat → Nat → Int := u2 (chS a sh last L) last c (chS a sh last L last c + a)
theorem aug1 (h : PF np nc rc mon unp pl cl pn sh) (hC : CH np nc ah vi last L) (hE : CE rc py k last L) (hN : (last :: L.map Prod.fst).Nodup) (hI : PYI np nc sh py) (hc : c < nc) (hl : (rc last).testBit c = true) (ha : 0 < a) (ha1 : ∀ e ∈ chE last L, a ≤ sh e.1 e.2) (ha2 : a ≤ cl c) (ha3 : a ≤ pl (chF last L)) :
    PF np nc rc mon unp (ui pl (chF last L) (pl (chF last L) + -a)) (ui cl c (cl c - a)) (ui pn c (pn c + a)) (aS a sh last c L) := by
  obtain ⟨h1, h2, h3, h4⟩ := h
  have n1 := chS_nn (a := a) L last sh hC hN (by omega) ha1 h1
  refine ⟨fun p d hp hd => ?_, fun p d hp hd hpos => ?_, fun p hp => ?_, fun d hd => ?_⟩
  · have := n1 p d hp hd
    unfold aS u2
    split
    · have := n1 last c hC.lt hc; omega
    · exact this
  · unfold aS u2 at hpos
    split at hpos
    · next e => rw [e.1, e.2]; exact hl
    · rcases chS_sup (k := k) (py := py) (rc := rc) L last sh hC hE (by omega) p d hpos with q | q
      · exact h2 p d hp hd q
      · exact q.1
  · unfold aS
    rw [u2_row _ _ _ _ _ hc, chS_row L last sh hC]
    have := h3 p hp
    have h9 := h3 (chF last L) (chF_lt L last hC)
    unfold ui
    by_cases e : p = chF last L
    · subst e; rw [if_pos rfl]; simp only [if_true]
      split <;> omega
    · rw [if_neg e, if_neg e]
      split <;> omega
  · unfold aS
    rw [u2_col _ _ _ _ _ hC.lt, chS_col L last sh hC]
    have := h4 d hd
    unfold ui
    by_cases e : d = c
    · subst e; simp only [if_true]; omega
    · rw [if_neg e, if_neg e, if_neg e]; omega
/-- the tight set of the costs that are through -/
def I1 (np nc : Nat) (rc : Nat → Nat) (Z : Nat → Prop) (k : Nat) (pl cl : Nat → Int) (sh : Nat → Nat → Int) : Prop :=
  (∀ p, p < np → Z p → pl p = 0) ∧ (∀ a b c, a < np → ¬ Z a → b < np → Z b → c < nc → (rc a).testBit c = true → ¬ 0 < sh b c) ∧ (∀ c, c < k → 0 < cl c → ∀ p, p < np → (rc p).testBit c = true → Z p) ∧ (∀ c, k < c → c < nc → ∀ p, p < np → sh p c = 0)
theorem aug1I {Z : Nat → Prop} (h : PF np nc rc mon unp pl cl pn sh) (hZ : I1 np nc rc Z c pl cl sh) (hC : CH np nc ah vi last L) (hE : CE rc py k last L) (hI : PYI np nc sh py) (hc : c < nc) (ha : 0 < a) (hf : 0 < pl (chF last L)) :
    I1 np nc rc Z c (ui pl (chF last L) (pl (chF last L) + -a)) (ui cl c (cl c - a)) (aS a sh last c L) := by
  obtain ⟨z1, z2, z3, z4⟩ := hZ
  have hfl := chF_lt L last hC
  have hout := ch_out (Z := Z) L last hC hE (fun a b d ha hZa hb hZb hd e1 e2 => z2 a b d ha hZa hb hZb hd e1 (hI.pos hb e2)) (fun q => by have := z1 _ hfl q; omega)
  have hsame : ∀ b d, Z b → aS a sh last c L b d = sh b d := fun b d hb => by
    have h1 : b ∉ last :: L.map Prod.fst := fun q => hout b q hb
    unfold aS u2
    rw [if_neg (show ¬ (b = last ∧ d = c) from fun q => h1 (q.1 ▸ List.mem_cons_self)), chS_off L last sh hC b d h1]
  refine ⟨fun p hp hZp => ?_, fun a b d ha hZa hb hZb hd e => ?_, fun d hd hpos p hp e => ?_, fun d hd hdn p hp => ?_⟩
  · have h1 : p ≠ chF last L := fun q => hout p (q ▸ chF_mem L last) hZp
    exact (if_neg h1).trans (z1 p hp hZp)
  · rw [hsame b d hZb]; exact z2 a b d ha hZa hb hZb hd e
  · have h1 : ui cl c (cl c - a) d = cl d := if_neg (by omega)
    rw [h1] at hpos
    exact z3 d hd hpos p hp e
  · unfold aS u2
    rw [if_neg (by omega), chS_zero (k := k) (rc := rc) (py := py) L last sh hC hE (fun r hr q => by
      have := hI.pos hr q
      rw [z4 d hd hdn r hr] at this
      omega) p]
    exact z4 d hd hdn p hp
end Aug1
set_option maxRecDepth 100000 in
set_option maxHeartbeats 4000000 in
theorem c_payMoreOf (g : Gx) (l : Launch) (hl : l.stackTraces = false) (ad : Nat → Nat) (F : Pic) {np nc : Nat} {pl cl pn : Nat → Int} {sh : Nat → Nat → Int} {rc py : Nat → Nat} {qu ah vi : Nat → Int} (hP : PR g ad F np nc pl cl pn sh rc py qu ah vi) (mon unp : Nat → Int) (hB : BD np nc rc mon unp) (hF : PF np nc rc mon unp pl cl pn sh) (hI : PYI np nc sh py) (c : Nat) (hc : c < nc) (Z : Nat → Prop) (hZ : I1 np nc rc Z c pl cl sh) : Ct g l yX3_payMoreOf cX3_payMoreOf 5 (some .boolean) 4 0 0 [.ref (ad 200), .int (zI (c : Int))] ad F (fun v ad' F' => ad = ad' ∧ FrP F F' ∧ ∃ pl' cl' pn' sh' py' qu' ah' vi', PR g ad F' np nc pl' cl' pn' sh' rc py' qu' ah' vi' ∧ PF np nc rc mon unp pl' cl' pn' sh' ∧ PYI np nc sh' py' ∧ I1 np nc rc Z c pl' cl' sh' ∧ (∀ d, d ≠ c → pn' d = pn d ∧ cl' d = cl d) ∧ ((v = some (.int (zI 0)) ∧ cl' c = cl c ∧ (cl' c ≤ 0 ∨ ∃ st en, (∀ p, st.testBit p = true ↔ (p < np ∧ 0 < pl' p)) ∧ (∀ p, en.testBit p = true ↔ (p < np ∧ (rc p).testBit c = true)) ∧ FCno np nc rc py' st en 0)) ∨ (v = some (.int (zI 1)) ∧ cl' c < cl c))) := by
  refine Ct_of hl rfl [some (.ref (ad 200)), some (.int (zI (c : Int))), none, none, none] (Nat.le_of_ble_eq_true rfl) (fun _ h => h) ?_
  intro M hL hN X
  subst hL
  obtain ⟨⟨h0, h1, h2, h3, h4, h5, h6, h7, h8, h9⟩, hs, hnp, hnc⟩ := id hP
  have hclb := hF.clb hB hc
  refine r_aload_n X dX3_payMoreOf_0 (by rfl) ?_
  refine r_iload_n X dX3_payMoreOf_1 (by rfl) ?_
  refine r_callV X dX3_payMoreOf_2 kX3_78 (c_leftOfCost g _ hl ad F hP c hc) (by assumption) (by rfl) (by rfl) (by rfl) (by rfl) (by exact Nat.le_of_ble_eq_true rfl) (by decide) (by decide) (by omega) (by omega) (fun v ad' F' hK => ?_)
  obtain ⟨rfl, rfl, rfl⟩ := hK
  refine r_if_gt X 10 dX3_payMoreOf_5 (by decide) (by unfold inR; omega) (fun a1 => ?_) (fun a1 => ?_)
  · refine r_aload_n X dX3_payMoreOf_10 (by rfl) ?_
    refine r_aload_n X dX3_payMoreOf_11 (by rfl) ?_
    refine r_callV X dX3_payMoreOf_12 kX3_82 (c_potsWithMoney g _ hl ad F hP (fun p hp => by have := hF.plb hB hp; unfold inR; omega)) (by assumption) (by rfl) (by rfl) (by rfl) (by rfl) (by exact Nat.le_of_ble_eq_true rfl) (by decide) (by decide) (by omega) (by omega) (fun v ad' F' hK => ?_)
    obtain ⟨⟨st, rfl, hst⟩, rfl, rfl⟩ := hK
    refine r_aload_n X dX3_payMoreOf_15 (by rfl) ?_
    refine r_aload_n X dX3_payMoreOf_16 (by rfl) ?_
    refine r_get X dX3_payMoreOf_17 fgX3_26_6 (by assumption) (by rfl) ?_
    refine r_iload_n X dX3_payMoreOf_20 (by rfl) ?_
    refine r_callV X dX3_payMoreOf_21 kX3_86 (c_potsWith g _ hl ad F hP 205 rc h5 (fun p hp => hB.1 p hp) c (by omega)) (by assumption) (by rfl) (by rfl) (by rfl) (by rfl) (by exact Nat.le_of_ble_eq_true rfl) (by decide) (by decide) (by omega) (by omega) (fun v ad' F' hK => ?_)
    obtain ⟨⟨en, rfl, hen⟩, rfl, rfl⟩ := hK
    refine r_iconst X dX3_payMoreOf_24 rfl ?_
    have hen16 : en < 65536 := tb_lt (n := 16) (fun p hp => by have := ((hen p).mp hp).1; omega)
    refine r_callV X dX3_payMoreOf_25 kX3_90 (c_findChain g _ hl ad F hP st en 0 (fun p hp => ((hst p).mp hp).1) hen16 (by omega) hB.1 (fun p hp => hI.lt hnc hp)) (by assumption) (by rfl) (by rfl) (by rfl) (by rfl) (by exact Nat.le_of_ble_eq_true rfl) (by decide) (by decide) (by omega) (by omega) (fun v ad' F1 hK => ?_)
    obtain ⟨rfl, hF1, qu1, ah1, vi1, hP1, hv⟩ := hK
    obtain ⟨⟨i0, i1, i2, i3, i4, i5, i6, i7, i8, i9⟩, is, -, -⟩ := id hP1
    rcases hv with ⟨rfl, hno⟩ | ⟨last, L, rfl, y1, y2, y3, y4, y5, y6, y7, y8⟩
    · refine r_istore_n X dX3_payMoreOf_28 (by rw [hN]; decide) (by rfl) ?_
      dsimp only [List.set]
      refine r_iload_n X dX3_payMoreOf_29 (by rfl) ?_
      refine r_iconst X dX3_payMoreOf_30 rfl ?_
      refine r_icmp_ne X 36 dX3_payMoreOf_31 (by decide) (by unfold inR; omega) (by unfold inR; omega) (fun a2 => ?_) (fun a2 => ?_)
      · exact absurd rfl a2
      · refine r_iconst X dX3_payMoreOf_34 rfl ?_
        exact r_iret X rfl (rfl) dX3_payMoreOf_35 (⟨rfl, hF1, pl, cl, pn, sh, py, qu1, ah1, vi1, hP1, hF, hI, hZ, fun d _ => ⟨rfl, rfl⟩, .inl ⟨rfl, rfl, .inr ⟨st, en, hst, hen, hno⟩⟩⟩) (by omega) (by omega)
    · have hlast := y2.lt
      refine r_istore_n X dX3_payMoreOf_28 (by rw [hN]; decide) (by rfl) ?_
      dsimp only [List.set]
      refine r_iload_n X dX3_payMoreOf_29 (by rfl) ?_
      refine r_iconst X dX3_payMoreOf_30 rfl ?_
      refine r_icmp_ne X 36 dX3_payMoreOf_31 (by decide) (by unfold inR; omega) (by unfold inR; omega) (fun a2 => ?_) (fun a2 => ?_)
      · refine r_aload_n X dX3_payMoreOf_36 (by rfl) ?_
        refine r_iload_n X dX3_payMoreOf_37 (by rfl) ?_
        refine r_callV X dX3_payMoreOf_38 kX3_94 (c_firstOfChain g _ hl ad F1 hP1 last L y2 y3) (by assumption) (by rfl) (by rfl) (by rfl) (by rfl) (by exact Nat.le_of_ble_eq_true rfl) (by decide) (by decide) (by omega) (by omega) (fun v ad' F' hK => ?_)
        obtain ⟨rfl, rfl, rfl⟩ := hK
        generalize hfi : chF last L = fi at y5
        have hfi2 := (hst fi).mp y5
        refine r_istore_n X dX3_payMoreOf_41 (by rw [hN]; decide) (by rfl) ?_
        dsimp only [List.set]
        refine r_aload_n X dX3_payMoreOf_42 (by rfl) ?_
        refine r_iload_n X dX3_payMoreOf_43 (by rfl) ?_
        refine r_aload_n X dX3_payMoreOf_44 (by rfl) ?_
        refine r_iload_n X dX3_payMoreOf_45 (by rfl) ?_
        refine r_callV X dX3_payMoreOf_46 kX3_78 (c_leftOfCost g _ hl ad F1 hP1 c hc) (by assumption) (by rfl) (by rfl) (by rfl) (by rfl) (by exact Nat.le_of_ble_eq_true rfl) (by decide) (by decide) (by omega) (by omega) (fun v ad' F' hK => ?_)
        obtain ⟨rfl, rfl, rfl⟩ := hK
        refine r_aload_n X dX3_payMoreOf_49 (by rfl) ?_
        refine r_iload_n X dX3_payMoreOf_50 (by rfl) ?_
        refine r_callV X dX3_payMoreOf_51 kX3_97 (c_leftOfPot g _ hl ad F1 hP1 fi hfi2.1) (by assumption) (by rfl) (by rfl) (by rfl) (by rfl) (by exact Nat.le_of_ble_eq_true rfl) (by decide) (by decide) (by omega) (by omega) (fun v ad' F' hK => ?_)
        obtain ⟨rfl, rfl, rfl⟩ := hK
        have hplb := hF.plb hB hfi2.1
        refine r_mmin X dX3_payMoreOf_54 w459 w307 w12 w308 (by unfold inR; omega) (by unfold inR; omega) (by exact Nat.le_of_ble_eq_true rfl) (by decide) (by omega) (by omega) ?_
        refine r_callV X dX3_payMoreOf_57 kX3_100 (c_narrowest g _ hl ad F1 hP1 last L y2 y3 (min (cl c) (pl fi)) (by unfold inR; omega) (fun p d hp hd => by have := hF.shb hB hp hd; unfold inR; omega)) (by assumption) (by rfl) (by rfl) (by rfl) (by rfl) (by exact Nat.le_of_ble_eq_true rfl) (by decide) (by decide) (by omega) (by omega) (fun v ad' F' hK => ?_)
        obtain ⟨rfl, rfl, rfl⟩ := hK
        have hpos : 0 < chN sh last L (min (cl c) (pl fi)) := chN_pos L last _ (by omega) (fun e he => by
          obtain ⟨q1, q2, q3⟩ := chE_py L last y2 y4 e he
          exact hI.pos q1 q3)
        have hle := (chN_le L last (min (cl c) (pl fi)) (sh := sh) (a := chN sh last L (min (cl c) (pl fi)))).mp (Int.le_refl _)
        generalize chN sh last L (min (cl c) (pl fi)) = a at hpos hle ⊢
        obtain ⟨hle1, hle2⟩ := hle
        refine r_istore X dX3_payMoreOf_60 (by rw [hN]; decide) (by rfl) ?_
        dsimp only [List.set]
        refine r_aload_n X dX3_payMoreOf_62 (by rfl) ?_
        refine r_iload_n X dX3_payMoreOf_63 (by rfl) ?_
        refine r_iload X dX3_payMoreOf_64 (by rfl) ?_
        refine r_callV X dX3_payMoreOf_66 kX3_103 (c_shiftAlongChain g _ hl ad F1 hP1 last L y2 y3 a 99999 (by omega) (fun p d hp hd => by have := hF.shb hB hp hd; omega) (by omega) hI) (by assumption) (by rfl) (by rfl) (by rfl) (by rfl) (by exact Nat.le_of_ble_eq_true rfl) (by decide) (by decide) (by omega) (by omega) (fun v ad' F2 hK => ?_)
        obtain ⟨rfl, rfl, ⟨py2, hP2, hI2⟩, hF2⟩ := hK
        have hnn := chS_nn (a := a) L last sh y2 y6 (by omega) hle2 hF.1
        have hs1 := hnn last c hlast hc
        have hs2 : chS a sh last L last c ≤ 99999 := by
          have e := chS_col (a := a) L last sh y2 c
          have e2 := sm_one (f := fun r => chS a sh last L r c) (fun r hr => hnn r c hr hc) hlast
          have e3 := (hF.2.2.2 c hc).2.2
          have e2 : chS a sh last L last c ≤ sm np (fun r => chS a sh last L r c) := e2
          omega
        obtain ⟨⟨j0, j1, j2, j3, j4, j5, j6, j7, j8, j9⟩, js, -, -⟩ := id hP2
        refine r_aload_n X dX3_payMoreOf_69 (by rfl) ?_
        refine r_iload_n X dX3_payMoreOf_70 (by rfl) ?_
        refine r_iload_n X dX3_payMoreOf_71 (by rfl) ?_
        refine r_iload X dX3_payMoreOf_72 (by rfl) ?_
        refine r_callV X dX3_payMoreOf_74 kX3_107 (c_addShare g _ hl ad F2 hP2 last c hlast hc a (by unfold inR; omega) (hI2.lt hnc hlast)) (by assumption) (by rfl) (by rfl) (by rfl) (by rfl) (by exact Nat.le_of_ble_eq_true rfl) (by decide) (by decide) (by omega) (by omega) (fun v ad' F3 hK => ?_)
        obtain ⟨rfl, rfl, ⟨m3, hP3, hm3⟩, hF3⟩ := hK
        have hI3 := hI2.put hc (fun _ => hm3)
        obtain ⟨⟨k0, k1, k2, k3, k4, k5, k6, k7, k8, k9⟩, ks, -, -⟩ := id hP3
        refine r_aload_n X dX3_payMoreOf_77 (by rfl) ?_
        refine r_iload_n X dX3_payMoreOf_78 (by rfl) ?_
        refine r_iload X dX3_payMoreOf_79 (by rfl) ?_
        refine r_ineg X dX3_payMoreOf_81 ?_
        refine r_callV X dX3_payMoreOf_82 kX3_111 (c_addToPot g _ hl ad F3 hP3 fi hfi2.1 (-a)) (by assumption) (by rfl) (by rfl) (by rfl) (by rfl) (by exact Nat.le_of_ble_eq_true rfl) (by decide) (by decide) (by omega) (by omega) (fun v ad' F4 hK => ?_)
        obtain ⟨rfl, rfl, hP4, hF4⟩ := hK
        obtain ⟨⟨m0, m1, m2, m3, m4, m5, m6, m7, m8, m9⟩, ms, -, -⟩ := id hP4
        refine r_aload_n X dX3_payMoreOf_85 (by rfl) ?_
        refine r_iload_n X dX3_payMoreOf_86 (by rfl) ?_
        refine r_iload X dX3_payMoreOf_87 (by rfl) ?_
        refine r_callV X dX3_payMoreOf_89 kX3_114 (c_planCost g _ hl ad F4 hP4 c hc a) (by assumption) (by rfl) (by rfl) (by rfl) (by rfl) (by exact Nat.le_of_ble_eq_true rfl) (by decide) (by decide) (by omega) (by omega) (fun v ad' F5 hK => ?_)
        obtain ⟨rfl, rfl, hP5, hF5⟩ := hK
        have hl2 := (hen last).mp y1
        have hPF := aug1 hF y2 y4 y6 hI hc hl2.2 hpos hle2 (by omega) (by rw [hfi]; omega)
        have hIZ := aug1I (a := a) hF hZ y2 y4 hI hc hpos (by rw [hfi]; exact hfi2.2)
        rw [hfi] at hPF hIZ
        have hfin := hF1.tr (hF2.tr (hF3.tr (hF4.tr hF5)))
        have hcl : ui cl c (cl c - a) c < cl c := by
          have : ui cl c (cl c - a) c = cl c - a := if_pos rfl
          omega
        refine r_iload X dX3_payMoreOf_92 (by rfl) ?_
        refine r_if_le X 101 dX3_payMoreOf_94 (by decide) (by unfold inR; omega) (fun a3 => ?_) (fun a3 => ?_)
        · omega
        · refine r_iconst X dX3_payMoreOf_97 rfl ?_
          refine r_goto X dX3_payMoreOf_98 102 (by decide) ?_
          exact r_iret X rfl (rfl) dX3_payMoreOf_102 (⟨rfl, hfin, _, _, _, _, _, qu1, ah1, vi1, hP5, hPF, hI3, hIZ, fun d hd => ⟨if_neg hd, if_neg hd⟩, .inr ⟨rfl, hcl⟩⟩) (by omega) (by omega)
      · omega
  · refine r_iconst X dX3_payMoreOf_8 rfl ?_
    exact r_iret X rfl (rfl) dX3_payMoreOf_9 (⟨rfl, FrP.rf, pl, cl, pn, sh, py, qu, ah, vi, hP, hF, hI, hZ, fun d _ => ⟨rfl, rfl⟩, .inl ⟨rfl, rfl, .inl (by omega)⟩⟩) (by omega) (by omega)
