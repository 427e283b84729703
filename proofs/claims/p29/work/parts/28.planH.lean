/-! ===== the second step: what each pot pays ===== -/
theorem sm_lt1 {n : Nat} {f h : Nat → Int} (e : ∀ i, i < n → f i ≤ h i) {k : Nat} (hk : k < n) (hl : f k < h k) : sm n f < sm n h := by
  induction n with
  | zero => omega
  | succ n ih =>
    show sm n f + f n < sm n h + h n
    by_cases q : k = n
    · subst q
      have := sm_le (n := k) (fun i hi => e i (by omega))
      omega
    · have := ih (fun i hi => e i (by omega)) (by omega)
      have := e n (by omega)
      omega
theorem sm_mono {n k : Nat} {f : Nat → Int} (hk : k ≤ n) (h : ∀ i, i < n → 0 ≤ f i) : sm k f ≤ sm n f := by
  induction n with
  | zero => rw [show k = 0 by omega]; exact Int.le_refl _
  | succ n ih =>
    by_cases e : k = n + 1
    · rw [e]; exact Int.le_refl _
    · show sm k f ≤ sm n f + f n
      have := ih (by omega) (fun i hi => h i (by omega))
      have := h n (by omega)
      omega
def kb (np nc : Nat) (rc : Nat → Nat) (pot : Nat) (sh : Nat → Nat → Int) : Int := sm np (fun b => if pot < b then sm nc (fun c => if (rc pot).testBit c then (if 0 < sh b c then 1 else 0) else sh b c) else 0)
theorem chS_last {np nc : Nat} {ah vi : Nat → Int} {a : Int} {x : Nat × Nat} {t : List (Nat × Nat)} {p : Nat} {sh : Nat → Nat → Int} (hC : CH np nc ah vi p (x :: t)) (hN : (p :: (x :: t).map Prod.fst).Nodup) (c : Nat) : chS a sh p (x :: t) p c = sh p c - (if c = x.2 then a else 0) := by
  obtain ⟨c1, c2, c3, c4, c5, c6, c7⟩ := hC
  have h1 : p ∉ x.1 :: t.map Prod.fst := (List.nodup_cons.mp hN).1
  rw [chS_cons, chS_off t x.1 _ c7 p c h1, lk_p c4, if_neg (fun q => c4 q.1.symm)]
  by_cases e : c = x.2
  · rw [if_pos ⟨rfl, e⟩, if_pos e]; omega
  · rw [if_neg (fun q => e q.2), if_neg e]; omega
def I2 (np nc : Nat) (rc : Nat → Nat) (Z : Nat → Prop) (k : Nat) (pl : Nat → Int) (sh : Nat → Nat → Int) : Prop :=
  (∀ p, Z p → p < k) ∧ (∀ a b c, a < np → Z a → b < np → ¬ Z b → c < nc → (rc a).testBit c = true → ¬ 0 < sh b c) ∧ (∀ q, q < k → 0 < pl q → Z q)
section Aug2
variable {np nc : Nat} {ah vi : Nat → Int} {rc py : Nat → Nat} {pot last : Nat} {a : Int} {mon unp pl cl pn : Nat → Int} {sh : Nat → Nat → Int} {L : List (Nat × Nat)}
theorem aug2 (h : PF np nc rc mon unp pl cl pn sh) (hC : CH np nc ah vi last L) (hE : CE rc py 0 last L) (hN : (last :: L.map Prod.fst).Nodup) (hI : PYI np nc sh py) (hfi : chF last L = pot) (hlt : pot < last) (ha : 0 < a) (ha1 : ∀ e ∈ chE last L, a ≤ sh e.1 e.2) (ha3 : a ≤ pl pot) :
    PF np nc rc mon unp (ui (ui pl pot (pl pot + -a)) last (ui pl pot (pl pot + -a) last + a)) cl pn (chS a sh last L) := by
  obtain ⟨h1, h2, h3, h4⟩ := h
  have n1 := chS_nn (a := a) L last sh hC hN (by omega) ha1 h1
  refine ⟨n1, fun p d hp hd hpos => ?_, fun p hp => ?_, fun d hd => ?_⟩
  · rcases chS_sup (k := 0) (py := py) (rc := rc) L last sh hC hE (by omega) p d hpos with q | q
    · exact h2 p d hp hd q
    · exact q.1
  · rw [chS_row L last sh hC, hfi]
    have := h3 p hp
    have h9 := h3 last hC.lt
    unfold ui
    by_cases e : p = last
    · subst e
      rw [if_pos rfl, if_neg (by omega), if_neg (by omega), if_pos rfl]; omega
    · rw [if_neg e, if_neg e]
      by_cases e2 : p = pot
      · subst e2; rw [if_pos rfl]; omega
      · rw [if_neg e2, if_neg e2]; omega
  · rw [chS_col L last sh hC]; exact h4 d hd
theorem aug2I {Z : Nat → Prop} (hZ : I2 np nc rc Z pot pl sh) (hC : CH np nc ah vi last L) (hE : CE rc py 0 last L) (hI : PYI np nc sh py) (hlt : pot < last) (ha : 0 < a) :
    I2 np nc rc Z pot (ui (ui pl pot (pl pot + -a)) last (ui pl pot (pl pot + -a) last + a)) (chS a sh last L) := by
  obtain ⟨z1, z2, z3⟩ := hZ
  have hout := ch_out2 (Z := Z) L last hC hE (fun a b d ha hZa hb hZb hd e1 e2 => z2 a b d ha hZa hb hZb hd e1 (hI.pos hb e2)) (fun q => by have := z1 _ q; omega)
  refine ⟨z1, fun a b d ha hZa hb hZb hd e hpos => ?_, fun q hq hpos => ?_⟩
  · rcases chS_sup (k := 0) (py := py) (rc := rc) L last sh hC hE (by omega) b d hpos with q | ⟨_, _, nx, hnx, q⟩
    · exact z2 a b d ha hZa hb hZb hd e q
    · have hnp : nx < np := by
        rcases List.mem_cons.mp hnx with rfl | hm
        · exact hC.lt
        · obtain ⟨x, hx, e9⟩ := List.mem_map.mp hm
          rw [← e9]; exact (chL_lt L last hC x hx).1
      exact z2 a nx d ha hZa hnp (hout nx hnx) hd e (hI.pos hnp q)
  · refine z3 q hq ?_
    unfold ui at hpos
    rw [if_neg (by omega), if_neg (by omega)] at hpos
    exact hpos
theorem aug2K (h : PF np nc rc mon unp pl cl pn sh) (hC : CH np nc ah vi last L) (hE : CE rc py 0 last L) (hN : (last :: L.map Prod.fst).Nodup) (hI : PYI np nc sh py) (hfi : chF last L = pot) (hlt : pot < last) (hen : ∀ x ∈ L, ¬ (pot < x.1 ∧ x.1 < np)) (hfar : ∀ x t, L = x :: t → t ≠ [] → ∀ c', c' < nc → ¬ ((rc pot).testBit c' = true ∧ (py last).testBit c' = true)) (ha : 0 < a) (hae : a = chN sh last L (pl pot)) : pl pot + -a ≤ 0 ∨ kb np nc rc pot (chS a sh last L) < kb np nc rc pot sh := by
  cases L with
  | nil => exact absurd hfi (by show ¬ last = pot; omega)
  | cons x t =>
    have hC' := hC
    obtain ⟨c1, c2, c3, c4, c5, c6, c7⟩ := hC
    obtain ⟨e1, e2, e3, e4⟩ := hE
    by_cases hle : pl pot + -a ≤ 0
    · exact .inl hle
    · refine .inr ?_
      have hoff : ∀ b, pot < b → b < np → b ≠ last → ∀ c, chS a sh last (x :: t) b c = sh b c := fun b hb hbn hne c => chS_off _ last sh hC' b c (fun q => by
        rcases List.mem_cons.mp q with q | q
        · exact hne q
        · obtain ⟨y, hy, e9⟩ := List.mem_map.mp q
          exact hen y hy (by rw [e9]; exact ⟨hb, hbn⟩))
      have hle1 : a ≤ sh last x.2 := ((chN_le (x :: t) last (pl pot) (sh := sh) (a := a)).mp (by omega)).2 (last, x.2) List.mem_cons_self
      have hrow : ∀ c, c < nc → (if (rc pot).testBit c then (if 0 < chS a sh last (x :: t) last c then 1 else 0) else chS a sh last (x :: t) last c) ≤ (if (rc pot).testBit c then (if 0 < sh last c then 1 else 0) else sh last c) := fun c hc => by
        rw [chS_last hC' hN c]
        by_cases q : (rc pot).testBit c = true
        · rw [if_pos q, if_pos q]
          by_cases z : 0 < sh last c - (if c = x.2 then a else 0)
          · rw [if_pos z, if_pos (by split at z <;> omega)]; exact Int.le_refl _
          · rw [if_neg z]; split <;> omega
        · rw [if_neg q, if_neg q]; split <;> omega
      have hstrict : (if (rc pot).testBit x.2 then (if 0 < chS a sh last (x :: t) last x.2 then 1 else 0) else chS a sh last (x :: t) last x.2) < (if (rc pot).testBit x.2 then (if 0 < sh last x.2 then 1 else 0) else sh last x.2) := by
        rw [chS_last hC' hN x.2, if_pos rfl]
        by_cases q : (rc pot).testBit x.2 = true
        · rw [if_pos q, if_pos q]
          have ht : t = [] := Classical.byContradiction (fun z => hfar x t rfl z x.2 c3 ⟨q, e2⟩)
          subst ht
          have h9 : a = min (pl pot) (sh last x.2) := hae
          rw [if_neg (by omega), if_pos (by omega)]; decide
        · rw [if_neg q, if_neg q]; omega
      unfold kb
      refine sm_lt1 (fun b hb => ?_) c1 ?_
      · by_cases q : pot < b
        · rw [if_pos q, if_pos q]
          by_cases z : b = last
          · subst z; exact sm_le hrow
          · refine Int.le_of_eq (sm_congr (fun c _ => ?_))
            rw [hoff b q hb z c]
        · rw [if_neg q, if_neg q]; exact Int.le_refl _
      · rw [if_pos hlt, if_pos hlt]
        exact sm_lt1 hrow c3 hstrict
end Aug2
theorem step2_done {np nc : Nat} {rc py : Nat → Nat} {mon unp pl cl pn : Nat → Int} {sh : Nat → Nat → Int} {pot : Nat} {Z : Nat → Prop} (h : PF np nc rc mon unp pl cl pn sh) (hI : PYI np nc sh py) (hp : pot < np) (hnp : np ≤ 12) (hZ : I2 np nc rc Z pot pl sh)
    (hq : pl pot ≤ 0 ∨ FCno np nc rc py (2 ^ pot) (paM np pot) 0) :
    ∃ Z', I2 np nc rc Z' (pot + 1) pl sh ∧ MC (pot + 1) nc mon pn rc (sm (pot + 1) (fun q => mon q - pl q)) := by
  obtain ⟨z1, z2, z3⟩ := hZ
  have hZ' : ∃ Z' : Nat → Prop, I2 np nc rc Z' (pot + 1) pl sh := by
    rcases hq with hq | ⟨R, r1, r2, r3⟩
    · refine ⟨Z, fun p hz => by have := z1 p hz; omega, z2, fun q hq' hpos => ?_⟩
      by_cases e : q = pot
      · subst e; omega
      · exact z3 q (by omega) hpos
    · refine ⟨fun p => Z p ∨ R.testBit p = true, fun p hz => ?_, fun a b d ha hza hb hnb hd e hpos => ?_, fun q hq' hpos => ?_⟩
      · rcases hz with hz | hz
        · have := z1 p hz; omega
        · obtain ⟨a1, a2⟩ := r2 p hz
          rw [pa_tb (by omega) (by omega)] at a2
          omega
      · have h1 : ¬ Z b := fun q => hnb (.inl q)
        have h2 : ¬ R.testBit b = true := fun q => hnb (.inr q)
        rcases hza with hza | hza
        · exact z2 a b d ha hza hb h1 hd e hpos
        · exact r3 a b d hza hb h2 (Nat.zero_le _) hd ⟨e, (hI b hb d).mpr ⟨hd, hpos⟩⟩
      · by_cases e : q = pot
        · subst e; exact .inr (r1 q (by rw [Nat.testBit_two_pow]; simp))
        · exact .inl (z3 q (by omega) hpos)
  obtain ⟨Z', y1, y2, y3⟩ := hZ'
  refine ⟨Z', ⟨y1, y2, y3⟩, ?_⟩
  obtain ⟨f1, f2, f3, f4⟩ := h
  have htot : sm (pot + 1) (fun q => mon q - pl q) = sm (pot + 1) (fun p => sm nc (sh p)) := sm_congr (fun p hp' => by have := f3 p (by omega); omega)
  rw [htot]
  constructor
  · obtain ⟨X, hX, hbit⟩ := mk_ex (pot + 1) (fun p => ¬ Z' p)
    refine ⟨X, hX, cut_eq (fun p d hp' hd => f1 p d (by omega) hd) (fun p d hp' hd => f2 p d (by omega) hd) (fun p hp' hx => ?_) (fun d hd hr => ?_) (fun p d hp' hd hx hr => ?_)⟩
    · have h1 := ((hbit p).mp hx).2
      have h2 : ¬ 0 < pl p := fun q => h1 (y3 p hp' q)
      have := f3 p (by omega)
      omega
    · obtain ⟨p, hp', hx, e⟩ := rB_iff.mp hr
      have h1 : Z' p := Classical.not_not.mp (fun q => hx ((hbit p).mpr ⟨hp', q⟩))
      rw [(f4 d hd).2.2]
      refine (sm_cut (by omega) (fun b hb hbn => ?_)).symm
      have h2 : ¬ Z' b := fun q => by have := y1 b q; omega
      have := y2 p b d (by omega) h1 hbn h2 hd e
      have := f1 b d hbn hd
      omega
    · obtain ⟨p', hp'', hx', e⟩ := rB_iff.mp hr
      have h1 : Z' p' := Classical.not_not.mp (fun q => hx' ((hbit p').mpr ⟨hp'', q⟩))
      have := y2 p' p d (by omega) h1 (by omega) ((hbit p).mp hx).2 hd e
      have := f1 p d (by omega) hd
      omega
  · intro X hX
    refine cut_ge (fun p d hp' hd => f1 p d (by omega) hd) (fun p d hp' hd => f2 p d (by omega) hd) (fun p hp' => ?_) (fun d hd => ?_)
    · have := f3 p (by omega); omega
    · rw [(f4 d hd).2.2]
      exact sm_mono (by omega) (fun b hb => f1 b d hb hd)
set_option maxRecDepth 100000 in
set_option maxHeartbeats 4000000 in
theorem c_drawMoreOn (g : Gx) (l : Launch) (hl : l.stackTraces = false) (ad : Nat → Nat) (F : Pic) {np nc : Nat} {pl cl pn : Nat → Int} {sh : Nat → Nat → Int} {rc py : Nat → Nat} {qu ah vi : Nat → Int} (hP : PR g ad F np nc pl cl pn sh rc py qu ah vi) (mon unp : Nat → Int) (hB : BD np nc rc mon unp) (hF : PF np nc rc mon unp pl cl pn sh) (hI : PYI np nc sh py) (pot : Nat) (hp : pot < np) (Z : Nat → Prop) (hZ : I2 np nc rc Z pot pl sh) : Ct g l yX3_drawMoreOn cX3_drawMoreOn 4 (some .boolean) 4 0 0 [.ref (ad 200), .int (zI (pot : Int))] ad F (fun v ad' F' => ad = ad' ∧ FrP F F' ∧ ∃ pl' sh' py' qu' ah' vi', PR g ad F' np nc pl' cl pn sh' rc py' qu' ah' vi' ∧ PF np nc rc mon unp pl' cl pn sh' ∧ PYI np nc sh' py' ∧ I2 np nc rc Z pot pl' sh' ∧ (∀ q, q < pot → pl' q = pl q) ∧ ((v = some (.int (zI 0)) ∧ (pl' pot ≤ 0 ∨ FCno np nc rc py' (2 ^ pot) (paM np pot) 0)) ∨ (v = some (.int (zI 1)) ∧ pl' pot < pl pot ∧ (pl' pot ≤ 0 ∨ kb np nc rc pot sh' < kb np nc rc pot sh)))) := by
  refine Ct_of hl rfl [some (.ref (ad 200)), some (.int (zI (pot : Int))), none, none] (Nat.le_of_ble_eq_true rfl) (fun _ h => h) ?_
  intro M hL hN X
  subst hL
  obtain ⟨⟨h0, h1, h2, h3, h4, h5, h6, h7, h8, h9⟩, hs, hnp, hnc⟩ := id hP
  have hplb := hF.plb hB hp
  refine r_aload_n X dX3_drawMoreOn_0 (by rfl) ?_
  refine r_iload_n X dX3_drawMoreOn_1 (by rfl) ?_
  refine r_callV X dX3_drawMoreOn_2 kX3_97 (c_leftOfPot g _ hl ad F hP pot hp) (by assumption) (by rfl) (by rfl) (by rfl) (by rfl) (by exact Nat.le_of_ble_eq_true rfl) (by decide) (by decide) (by omega) (by omega) (fun v ad' F' hK => ?_)
  obtain ⟨rfl, rfl, rfl⟩ := hK
  refine r_if_gt X 10 dX3_drawMoreOn_5 (by decide) (by unfold inR; omega) (fun a1 => ?_) (fun a1 => ?_)
  · refine r_aload_n X dX3_drawMoreOn_10 (by rfl) ?_
    refine r_iconst X dX3_drawMoreOn_11 rfl ?_
    refine r_iload_n X dX3_drawMoreOn_12 (by rfl) ?_
    refine r_ishl X (hv := zI_shl (by omega)) dX3_drawMoreOn_13 ?_
    refine r_aload_n X dX3_drawMoreOn_14 (by rfl) ?_
    refine r_iload_n X dX3_drawMoreOn_15 (by rfl) ?_
    refine r_callV X dX3_drawMoreOn_16 kX3_117 (c_potsAfter g _ hl ad F hP pot hp) (by assumption) (by rfl) (by rfl) (by rfl) (by rfl) (by exact Nat.le_of_ble_eq_true rfl) (by decide) (by decide) (by omega) (by omega) (fun v ad' F' hK => ?_)
    obtain ⟨rfl, rfl, rfl⟩ := hK
    refine r_iconst X dX3_drawMoreOn_19 rfl ?_
    have hen16 : paM np pot < 65536 := tb_lt (n := 16) (fun p hp' => by rw [pa_tb (by omega) (by omega)] at hp'; omega)
    refine r_callV X dX3_drawMoreOn_20 kX3_90 (c_findChain g _ hl ad F hP (2 ^ pot) (paM np pot) 0 (fun p hp' => by rw [Nat.testBit_two_pow] at hp'; have := of_decide_eq_true hp'; omega) hen16 (by omega) hB.1 (fun p hp' => hI.lt hnc hp')) (by assumption) (by rfl) (by rfl) (by rfl) (by rfl) (by exact Nat.le_of_ble_eq_true rfl) (by decide) (by decide) (by omega) (by omega) (fun v ad' F1 hK => ?_)
    obtain ⟨rfl, hF1, qu1, ah1, vi1, hP1, hv⟩ := hK
    obtain ⟨⟨i0, i1, i2, i3, i4, i5, i6, i7, i8, i9⟩, is, -, -⟩ := id hP1
    rcases hv with ⟨rfl, hno⟩ | ⟨last, L, rfl, y1, y2, y3, y4, y5, y6, y7, y8⟩
    · refine r_istore_n X dX3_drawMoreOn_23 (by rw [hN]; decide) (by rfl) ?_
      dsimp only [List.set]
      refine r_iload_n X dX3_drawMoreOn_24 (by rfl) ?_
      refine r_iconst X dX3_drawMoreOn_25 rfl ?_
      refine r_icmp_ne X 31 dX3_drawMoreOn_26 (by decide) (by unfold inR; omega) (by unfold inR; omega) (fun a2 => ?_) (fun a2 => ?_)
      · exact absurd rfl a2
      · refine r_iconst X dX3_drawMoreOn_29 rfl ?_
        exact r_iret X rfl (rfl) dX3_drawMoreOn_30 (⟨rfl, hF1, pl, sh, py, qu1, ah1, vi1, hP1, hF, hI, hZ, fun q _ => rfl, .inl ⟨rfl, .inr hno⟩⟩) (by omega) (by omega)
    · have hlast := y2.lt
      rw [pa_tb (by omega) (by omega)] at y1
      have hfi : chF last L = pot := by rw [Nat.testBit_two_pow] at y5; exact (of_decide_eq_true y5).symm
      refine r_istore_n X dX3_drawMoreOn_23 (by rw [hN]; decide) (by rfl) ?_
      dsimp only [List.set]
      refine r_iload_n X dX3_drawMoreOn_24 (by rfl) ?_
      refine r_iconst X dX3_drawMoreOn_25 rfl ?_
      refine r_icmp_ne X 31 dX3_drawMoreOn_26 (by decide) (by unfold inR; omega) (by unfold inR; omega) (fun a2 => ?_) (fun a2 => ?_)
      · refine r_aload_n X dX3_drawMoreOn_31 (by rfl) ?_
        refine r_iload_n X dX3_drawMoreOn_32 (by rfl) ?_
        refine r_aload_n X dX3_drawMoreOn_33 (by rfl) ?_
        refine r_iload_n X dX3_drawMoreOn_34 (by rfl) ?_
        refine r_callV X dX3_drawMoreOn_35 kX3_97 (c_leftOfPot g _ hl ad F1 hP1 pot hp) (by assumption) (by rfl) (by rfl) (by rfl) (by rfl) (by exact Nat.le_of_ble_eq_true rfl) (by decide) (by decide) (by omega) (by omega) (fun v ad' F' hK => ?_)
        obtain ⟨rfl, rfl, rfl⟩ := hK
        refine r_callV X dX3_drawMoreOn_38 kX3_100 (c_narrowest g _ hl ad F1 hP1 last L y2 y3 (pl pot) (by unfold inR; omega) (fun p d hp' hd => by have := hF.shb hB hp' hd; unfold inR; omega)) (by assumption) (by rfl) (by rfl) (by rfl) (by rfl) (by exact Nat.le_of_ble_eq_true rfl) (by decide) (by decide) (by omega) (by omega) (fun v ad' F' hK => ?_)
        obtain ⟨rfl, rfl, rfl⟩ := hK
        have hpos : 0 < chN sh last L (pl pot) := chN_pos L last _ (by omega) (fun e he => by
          obtain ⟨q1, q2, q3⟩ := chE_py L last y2 y4 e he
          exact hI.pos q1 q3)
        have hle := (chN_le L last (pl pot) (sh := sh) (a := chN sh last L (pl pot))).mp (Int.le_refl _)
        have hKB := aug2K hF y2 y4 y6 hI hfi y1.1 (fun x hx q => y7 x hx (by rw [pa_tb (by omega) (by omega)]; exact q)) (fun x t e1 e2 c' h1 h2 => by
          obtain ⟨s0, q1, q2⟩ := y8 x t e1 e2
          have e9 : s0 = pot := by rw [Nat.testBit_two_pow] at q1; exact (of_decide_eq_true q1).symm
          rw [e9] at q2
          exact q2 c' (Nat.zero_le _) h1 h2) hpos rfl
        generalize chN sh last L (pl pot) = a at hpos hle hKB ⊢
        obtain ⟨hle1, hle2⟩ := hle
        refine r_istore_n X dX3_drawMoreOn_41 (by rw [hN]; decide) (by rfl) ?_
        dsimp only [List.set]
        refine r_aload_n X dX3_drawMoreOn_42 (by rfl) ?_
        refine r_iload_n X dX3_drawMoreOn_43 (by rfl) ?_
        refine r_iload_n X dX3_drawMoreOn_44 (by rfl) ?_
        refine r_callV X dX3_drawMoreOn_45 kX3_103 (c_shiftAlongChain g _ hl ad F1 hP1 last L y2 y3 a 99999 (by omega) (fun p d hp' hd => by have := hF.shb hB hp' hd; omega) (by omega) hI) (by assumption) (by rfl) (by rfl) (by rfl) (by rfl) (by exact Nat.le_of_ble_eq_true rfl) (by decide) (by decide) (by omega) (by omega) (fun v ad' F2 hK => ?_)
        obtain ⟨rfl, rfl, ⟨py2, hP2, hI2⟩, hF2⟩ := hK
        obtain ⟨⟨j0, j1, j2, j3, j4, j5, j6, j7, j8, j9⟩, js, -, -⟩ := id hP2
        refine r_aload_n X dX3_drawMoreOn_48 (by rfl) ?_
        refine r_iload_n X dX3_drawMoreOn_49 (by rfl) ?_
        refine r_iload_n X dX3_drawMoreOn_50 (by rfl) ?_
        refine r_ineg X dX3_drawMoreOn_51 ?_
        refine r_callV X dX3_drawMoreOn_52 kX3_111 (c_addToPot g _ hl ad F2 hP2 pot hp (-a)) (by assumption) (by rfl) (by rfl) (by rfl) (by rfl) (by exact Nat.le_of_ble_eq_true rfl) (by decide) (by decide) (by omega) (by omega) (fun v ad' F3 hK => ?_)
        obtain ⟨rfl, rfl, hP3, hF3⟩ := hK
        obtain ⟨⟨k0, k1, k2, k3, k4, k5, k6, k7, k8, k9⟩, ks, -, -⟩ := id hP3
        refine r_aload_n X dX3_drawMoreOn_55 (by rfl) ?_
        refine r_iload_n X dX3_drawMoreOn_56 (by rfl) ?_
        refine r_iload_n X dX3_drawMoreOn_57 (by rfl) ?_
        refine r_callV X dX3_drawMoreOn_58 kX3_111 (c_addToPot g _ hl ad F3 hP3 last hlast a) (by assumption) (by rfl) (by rfl) (by rfl) (by rfl) (by exact Nat.le_of_ble_eq_true rfl) (by decide) (by decide) (by omega) (by omega) (fun v ad' F4 hK => ?_)
        obtain ⟨rfl, rfl, hP4, hF4⟩ := hK
        have hPF := aug2 hF y2 y4 y6 hI hfi y1.1 hpos hle2 hle1
        have hIZ := aug2I (a := a) hZ y2 y4 hI y1.1 hpos
        have hfin := hF1.tr (hF2.tr (hF3.tr hF4))
        have e1 : ui (ui pl pot (pl pot + -a)) last (ui pl pot (pl pot + -a) last + a) pot = pl pot + -a := by
          unfold ui; rw [if_neg (by omega), if_pos rfl]
        have e2 : ∀ q, q < pot → ui (ui pl pot (pl pot + -a)) last (ui pl pot (pl pot + -a) last + a) q = pl q := fun q hq => by
          unfold ui; rw [if_neg (by omega), if_neg (by omega)]
        refine r_iload_n X dX3_drawMoreOn_61 (by rfl) ?_
        refine r_if_le X 69 dX3_drawMoreOn_62 (by decide) (by unfold inR; omega) (fun a3 => ?_) (fun a3 => ?_)
        · omega
        · refine r_iconst X dX3_drawMoreOn_65 rfl ?_
          refine r_goto X dX3_drawMoreOn_66 70 (by decide) ?_
          exact r_iret X rfl (rfl) dX3_drawMoreOn_70 (⟨rfl, hfin, _, _, _, qu1, ah1, vi1, hP4, hPF, hI2, hIZ, e2, .inr ⟨rfl, by rw [e1]; omega, by rw [e1]; exact hKB⟩⟩) (by omega) (by omega)
      · omega
  · refine r_iconst X dX3_drawMoreOn_8 rfl ?_
    exact r_iret X rfl (rfl) dX3_drawMoreOn_9 (⟨rfl, FrP.rf, pl, sh, py, qu, ah, vi, hP, hF, hI, hZ, fun q _ => rfl, .inl ⟨rfl, .inl (by omega)⟩⟩) (by omega) (by omega)
