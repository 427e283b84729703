/-! ===== a charge, in the numbers ===== -/
theorem bkA_mo {td : Int} {nf nk nc : Nat} {A : Nat → Nat → Int} {kf : Nat → Nat} {t : Nat} (hI : IV td nf nk nc A kf t) {W : Nat → Nat → Int} {p : Nat} (hp : p < nk + nf) : moA (bkA A kf (nk + nf) nc (PS A nk nf) W) (PS A nk nf p) = mo A nk nf p - sm nc (W p) := by
  have hinj : ∀ q, q < nk + nf → PS A nk nf q = PS A nk nf p → q = p := fun q hq h => PSq_inj (exc A) hI.1.2.2.2.1 _ q p hq hp h
  unfold mo moA
  by_cases h : PS A nk nf p < 6
  · rw [if_pos h, if_pos h, bkA_8, sm_single (k := p) hp (fun q hq hne => if_neg (fun z => hne (hinj q hq z.1))), if_pos ⟨rfl, h⟩]
  · rw [if_neg h, if_neg h, bkA_0, sm_single (k := p) hp (fun q hq hne => if_neg (fun z => hne (hinj q hq (by omega)))), if_pos (by omega)]
theorem bkA_mp {A : Nat → Nat → Int} {kf : Nat → Nat} {np nc : Nat} {e : Nat → Nat} {W : Nat → Nat → Int} {q c : Nat} : mpP (bkA A kf np nc e W) kf q c = mpP A kf q c := by
  unfold mpP
  rw [bkA_o (a := 10) (by omega) (by omega) (by omega) (by omega), bkA_o (a := 7) (by omega) (by omega) (by omega) (by omega), bkA_o (a := 1) (by omega) (by omega) (by omega) (by omega), bkA_o (a := 2) (by omega) (by omega) (by omega) (by omega), bkA_o (a := 11) (by omega) (by omega) (by omega) (by omega)]
/-- what a fund pays, from its free money and its commitments -/
theorem own_split {nf nk : Nat} {e : Nat → Nat} {kf : Nat → Nat} {np : Nat} {x : Nat → Int} (he : ∀ p, p < np → VC nf nk (e p)) (h6 : nk ≤ 6) (f : Nat) : sm np (fun p => if ow kf (e p) = f then x p else 0) = sm np (fun p => if e p = 6 + f then x p else 0) + sm nk (fun k => if kf k = f then sm np (fun p => if e p = k ∧ k < 6 then x p else 0) else 0) := by
  have e1 : sm nk (fun k => if kf k = f then sm np (fun p => if e p = k ∧ k < 6 then x p else 0) else 0) = sm nk (fun k => sm np (fun p => if kf k = f then (if e p = k ∧ k < 6 then x p else 0) else 0)) := sm_congr (fun k _ => by
    show (if kf k = f then sm np (fun p => if e p = k ∧ k < 6 then x p else 0) else 0) = sm np (fun p => if kf k = f then (if e p = k ∧ k < 6 then x p else 0) else 0)
    by_cases z : kf k = f
    · rw [if_pos z]; exact sm_congr (fun p _ => (if_pos z).symm)
    · rw [if_neg z]; exact (sm_zero (fun p _ => if_neg z)).symm)
  have e2 : sm nk (fun k => sm np (fun p => if kf k = f then (if e p = k ∧ k < 6 then x p else 0) else 0)) = sm np (fun p => sm nk (fun k => if kf k = f then (if e p = k ∧ k < 6 then x p else 0) else 0)) := sm_swap nk np (fun k p => if kf k = f then (if e p = k ∧ k < 6 then x p else 0) else 0)
  rw [e1, e2, ← sm_add]
  refine sm_congr (fun p hp => ?_)
  show (if ow kf (e p) = f then x p else 0) = (if e p = 6 + f then x p else 0) + sm nk (fun k => if kf k = f then (if e p = k ∧ k < 6 then x p else 0) else 0)
  rcases he p hp with ⟨h1, h2⟩ | ⟨h1, h2⟩
  · rw [show ow kf (e p) = kf (e p) from if_pos h1, if_neg (show ¬ e p = 6 + f by omega), sm_single (k := e p) h2 (fun k hk hne => by
      by_cases z : kf k = f
      · rw [if_pos z, if_neg (fun w => hne w.1.symm)]
      · rw [if_neg z])]
    by_cases z : kf (e p) = f
    · rw [if_pos z, if_pos z, if_pos ⟨rfl, h1⟩]; omega
    · rw [if_neg z, if_neg z]; omega
  · rw [show ow kf (e p) = e p - 6 from if_neg (by omega), sm_zero (n := nk) (fun k hk => by
      by_cases z : kf k = f
      · rw [if_pos z, if_neg (by omega)]
      · rw [if_neg z])]
    by_cases z : e p = 6 + f
    · rw [if_pos z, if_pos (by omega)]; omega
    · rw [if_neg z, if_neg (by omega)]; omega
theorem AV.book {td : Int} {nf nk nc : Nat} {A P : Nat → Nat → Int} {kf : Nat → Nat} {K : Nat → Int} {t : Nat} (hI : IV td nf nk nc A kf t) (h : AV nf nk nc A P kf K) {pn dr : Nat → Int} {W : Nat → Nat → Int} (hs : S3 A kf nk nf nc pn dr W) : AV nf nk nc (bkA A kf (nk + nf) nc (PS A nk nf) W) (bkP P kf (nk + nf) (PS A nk nf) W) kf K := by
  obtain ⟨h1, h2, h3⟩ := h
  obtain ⟨w1, w2, w3, w4⟩ := hs
  have h6 : nk ≤ 6 := hI.1.2.2.2.1
  have hvc : ∀ p, p < nk + nf → VC nf nk (PS A nk nf p) := fun p hp => PS_vc h6 hp
  have how : ∀ p, p < nk + nf → ow kf (PS A nk nf p) < nf := fun p hp => VC.own hI (hvc p hp)
  have wn : ∀ p c, p < nk + nf → 0 ≤ W p c := fun p c hp => by
    by_cases hc : c < nc
    · exact (w1 p c hp hc).1
    · rw [w2 p c (fun z => hc z.2)]; exact Int.le_refl _
  have hPr : ∀ c, sm nf (bkP P kf (nk + nf) (PS A nk nf) W c) = sm nf (P c) + sm (nk + nf) (fun p => W p c) := fun c => by
    show sm nf (fun f => P c f + sm (nk + nf) (fun p => if ow kf (PS A nk nf p) = f then W p c else 0)) = _
    rw [sm_add, sm_own (f := fun p => W p c) how]
  refine ⟨fun f hf => ?_, fun c hc => ?_, ?_⟩
  · have z : comZ (bkA A kf (nk + nf) nc (PS A nk nf) W) kf f nk = comZ A kf f nk - sm nk (fun k => if kf k = f then sm (nk + nf) (fun p => if PS A nk nf p = k ∧ k < 6 then sm nc (W p) else 0) else 0) := by
      unfold comZ
      rw [← sm_sub]
      exact sm_congr (fun k _ => by
        show (if kf k = f then bkA A kf (nk + nf) nc (PS A nk nf) W 8 k else 0) = (if kf k = f then A 8 k else 0) - (if kf k = f then sm (nk + nf) (fun p => if PS A nk nf p = k ∧ k < 6 then sm nc (W p) else 0) else 0)
        rw [bkA_8]
        split <;> omega)
    have o := own_split (kf := kf) (x := fun p => sm nc (W p)) hvc h6 f
    rw [z, bkA_0, bkA_4, bkA_o (a := 5) (by omega) (by omega) (by omega) (by omega)]
    have := h1 f hf
    omega
  · obtain ⟨a1, a2, a3, a4⟩ := h2 c hc
    rw [hPr, bkA_12]
    refine ⟨by omega, a2, fun f => ?_, fun f hf => ?_⟩
    · have := a3 f
      have : 0 ≤ sm (nk + nf) (fun p => if ow kf (PS A nk nf p) = f then W p c else 0) := sm_nn (fun p hp => by
        have := wn p c hp
        show 0 ≤ (if ow kf (PS A nk nf p) = f then W p c else 0)
        split <;> omega)
      unfold bkP
      omega
    · unfold bkP
      rw [a4 f hf, sm_zero (fun p hp => if_neg (by have := how p hp; omega))]; rfl
  · have a : sm nf (bkA A kf (nk + nf) nc (PS A nk nf) W 4) = sm nf (A 4) + sm (nk + nf) (fun p => sm nc (W p)) := by
      rw [sm_congr (h := fun x => A 4 x + sm (nk + nf) (fun p => if ow kf (PS A nk nf p) = x then sm nc (W p) else 0)) (fun x _ => bkA_4), sm_add, sm_own how]
    have b : sm nc (fun c => sm nf (bkP P kf (nk + nf) (PS A nk nf) W c)) = sm nc (fun c => sm nf (P c)) + sm nc (fun c => sm (nk + nf) (fun p => W p c)) := by
      rw [sm_congr (h := fun c => sm nf (P c) + sm (nk + nf) (fun p => W p c)) (fun c _ => hPr c), sm_add]
    have c := sm_swap (nk + nf) nc W
    rw [a, b, h3, c]
/-- all that is known behind a charge -/
def CB (A A' : Nat → Nat → Int) (kf kf' : Nat → Nat) (nk nk' nf nc : Nat) : Prop := (∀ c, c < nc → A' 12 c = A 12 c - pnC A kf nk nf nc c) ∧ (∀ f, f < nf → A' 4 f = A 4 f + tkC A kf nk nf nc f) ∧ ∀ c, c < nc → ¬ CHG A' kf' nk' nf c
theorem booked {td : Int} {nf nk nc : Nat} {A P : Nat → Nat → Int} {kf : Nat → Nat} {K : Nat → Int} {t : Nat} (hI : IV td nf nk nc A kf t) (h : AV nf nk nc A P kf K) (hk : KV td nk A) {pn dr : Nat → Int} {W : Nat → Nat → Int} (s1 : S1 A kf nk nf nc pn) (s2 : S2 A kf nk nf nc pn dr) (s3 : S3 A kf nk nf nc pn dr W) (b3 : B3 A nk nf nc pn dr)
    {A' : Nat → Nat → Int} {kf' : Nat → Nat} {nk' : Nat} (e : endS qEmp nk (nk, bkA A kf (nk + nf) nc (PS A nk nf) W, kf) = (nk', A', kf')) :
    IV td nf nk' nc A' kf' t ∧ AV nf nk' nc A' (bkP P kf (nk + nf) (PS A nk nf) W) kf' K ∧ KV td nk' A' ∧ CB A A' kf kf' nk nk' nf nc := by
  have hb := hI.book s3 b3
  have i1 := endS_iv (q := qEmp) nk nk _ _ (Nat.le_refl _) hb
  have i2 := AV.endS (q := qEmp) nk nk _ _ (Nat.le_refl _) (AV.book hI h s3)
  have h6 : nk ≤ 6 := hI.1.2.2.2.1
  have o4 := endS_o (q := qEmp) (a := 4) (by omega) (by omega) nk nk (bkA A kf (nk + nf) nc (PS A nk nf) W) kf
  have o12 := endS_o (q := qEmp) (a := 12) (by omega) (by omega) nk nk (bkA A kf (nk + nf) nc (PS A nk nf) W) kf
  have sub := endS_sub QL.emp nk nk (bkA A kf (nk + nf) nc (PS A nk nf) W) kf (Nat.le_refl _) (fun x a b => by omega)
  have bck := fun c => endE_back (nf := nf) (c := c) nk nk (bkA A kf (nk + nf) nc (PS A nk nf) W) kf (Nat.le_refl _) h6
  rw [e] at i1 i2 o4 o12 sub bck
  have h6' : nk' ≤ 6 := i1.1.2.2.2.1
  have c12 : ∀ c, c < nc → A' 12 c = A 12 c - pnC A kf nk nf nc c := fun c hc => by
    have o12 : A' 12 = bkA A kf (nk + nf) nc (PS A nk nf) W 12 := o12
    rw [o12, bkA_12, s3.2.2.1 c hc, s1.eqC c hc]
  refine ⟨i1, i2, fun k hk' => ?_, c12, fun f hf => ?_, fun c hc hC => ?_⟩
  · obtain ⟨⟨y, y1, y2, y3⟩, hn⟩ := sub k hk'
    have y3 : A' 9 k = bkA A kf (nk + nf) nc (PS A nk nf) W 9 y := y3
    rw [bkA_o (a := 9) (by omega) (by omega) (by omega) (by omega)] at y3
    have a := (hk y y1).2
    have b := (i1.2.2.1 k hk').2.2.1
    have hn : ¬ qEmp A' k = true := hn
    unfold qEmp at hn
    simp at hn
    have b : 0 ≤ A' 8 k := b
    exact ⟨by omega, by omega⟩
  · have o4 : A' 4 = bkA A kf (nk + nf) nc (PS A nk nf) W 4 := o4
    rw [o4, bkA_4, ← S2.tk s1 s2 f]
    congr 1
    exact sm_congr (fun p hp => by
      show (if ow kf (PS A nk nf p) = f then sm nc (W p) else 0) = if ow kf (PS A nk nf p) = f then dr p else 0
      rw [s3.2.2.2 p hp])
  · obtain ⟨hu, hP⟩ := hC
    obtain ⟨q, q1, q2, q3⟩ := bck c (CHG.chc h6' hP)
    obtain ⟨p, p1, p2⟩ := PS_sur (A := A) q1
    rw [← p2, bkA_mo hI p1] at q2
    rw [bkA_mp, ← p2] at q3
    have ht := cuw_tight (dr := dr) (mon := mo A nk nf) (amt := A 12) (pn := pn) (rc := rcF A kf nk nf nc) (W := W) (by obtain ⟨X, x1, x2⟩ := (s1 nc (Nat.le_refl _)).1; exact ⟨X, x1, x2⟩) (fun p c hp hc => (s3.1 p c hp hc).1) (fun p c hp hc hw => Classical.byContradiction (fun z => by have := (s3.1 p c hp hc).2.1 z; omega)) (fun p hp => ⟨s3.2.2.2 p hp, b3.2 p hp⟩) (fun c hc => ⟨(s3.2.2.1 c hc).symm, b3.1 c hc⟩) p1 hc (rcF_tb.mpr ⟨hc, q3⟩)
    rw [s3.2.2.2 p p1] at q2
    rcases ht with z | z
    · omega
    · refine hu ?_
      rw [c12 c hc, ← s1.eqC c hc, z]; omega
