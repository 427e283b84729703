/-! ===== the plan is booked ===== -/
def bkA (A : Nat → Nat → Int) (kf : Nat → Nat) (np nc : Nat) (e : Nat → Nat) (w : Nat → Nat → Int) : Nat → Nat → Int := fun a x =>
  if a = 0 then A 0 x - sm np (fun p => if e p = 6 + x then sm nc (w p) else 0)
  else if a = 8 then A 8 x - sm np (fun p => if e p = x ∧ x < 6 then sm nc (w p) else 0)
  else if a = 4 then A 4 x + sm np (fun p => if ow kf (e p) = x then sm nc (w p) else 0)
  else if a = 12 then A 12 x - sm np (fun p => w p x)
  else A a x
def bkP (P : Nat → Nat → Int) (kf : Nat → Nat) (np : Nat) (e : Nat → Nat) (w : Nat → Nat → Int) : Nat → Nat → Int := fun c f => P c f + sm np (fun p => if ow kf (e p) = f then w p c else 0)
theorem sm_ifadd {n p : Nat} {D : Nat → Prop} [DecidablePred D] {f h : Nat → Int} {s : Int} (hp : p < n) (hh : ∀ q, q < n → h q = f q + (if q = p then s else 0)) : sm n (fun q => if D q then h q else 0) = sm n (fun q => if D q then f q else 0) + (if D p then s else 0) := by
  have e1 : sm n (fun q => if D q then h q else 0) = sm n (fun q => if q = p then (if D p then f p else 0) + (if D p then s else 0) else (if D q then f q else 0)) := sm_congr (fun q hq => by
    show (if D q then h q else 0) = if q = p then (if D p then f p else 0) + (if D p then s else 0) else (if D q then f q else 0)
    rw [hh q hq]
    by_cases e : q = p
    · subst e
      rw [if_pos rfl, if_pos rfl]
      by_cases hD : D q
      · rw [if_pos hD, if_pos hD, if_pos hD]
      · rw [if_neg hD, if_neg hD, if_neg hD]; omega
    · rw [if_neg e, if_neg e]
      by_cases hD : D q
      · rw [if_pos hD, if_pos hD]; omega
      · rw [if_neg hD, if_neg hD])
  rw [e1, sm_put, if_pos hp]; omega
theorem bkA_0 {A : Nat → Nat → Int} {kf : Nat → Nat} {np nc : Nat} {e : Nat → Nat} {w : Nat → Nat → Int} {x : Nat} : bkA A kf np nc e w 0 x = A 0 x - sm np (fun p => if e p = 6 + x then sm nc (w p) else 0) := rfl
theorem bkA_8 {A : Nat → Nat → Int} {kf : Nat → Nat} {np nc : Nat} {e : Nat → Nat} {w : Nat → Nat → Int} {x : Nat} : bkA A kf np nc e w 8 x = A 8 x - sm np (fun p => if e p = x ∧ x < 6 then sm nc (w p) else 0) := rfl
theorem bkA_4 {A : Nat → Nat → Int} {kf : Nat → Nat} {np nc : Nat} {e : Nat → Nat} {w : Nat → Nat → Int} {x : Nat} : bkA A kf np nc e w 4 x = A 4 x + sm np (fun p => if ow kf (e p) = x then sm nc (w p) else 0) := rfl
theorem bkA_12 {A : Nat → Nat → Int} {kf : Nat → Nat} {np nc : Nat} {e : Nat → Nat} {w : Nat → Nat → Int} {x : Nat} : bkA A kf np nc e w 12 x = A 12 x - sm np (fun p => w p x) := rfl
theorem bkA_o {A : Nat → Nat → Int} {kf : Nat → Nat} {np nc : Nat} {e : Nat → Nat} {w : Nat → Nat → Int} {a : Nat} (h0 : a ≠ 0) (h8 : a ≠ 8) (h4 : a ≠ 4) (h12 : a ≠ 12) : bkA A kf np nc e w a = A a := by
  funext x; unfold bkA; rw [if_neg h0, if_neg h8, if_neg h4, if_neg h12]
theorem bk_step {A : Nat → Nat → Int} {kf : Nat → Nat} {np nc : Nat} {e : Nat → Nat} {w : Nat → Nat → Int} {p c : Nat} {s : Int} (hp : p < np) (hc : c < nc) (h0 : w p c = 0) : bk1 (bkA A kf np nc e w) kf (e p) c s = bkA A kf np nc e (u2 w p c s) := by
  have hr : ∀ q, q < np → sm nc (u2 w p c s q) = sm nc (w q) + (if q = p then s else 0) := fun q _ => by
    rw [u2_row nc w p c s hc q, h0, Int.sub_zero]
  funext a x
  by_cases a12 : a = 12
  · subst a12
    rw [bkA_12]
    have e1 : sm np (fun q => u2 w p c s q x) = sm np (fun q => w q x) + (if x = c then s else 0) := by
      rw [u2_col np w p c s hp x, h0, Int.sub_zero]
    rw [e1]
    unfold bk1
    by_cases hx : x = c
    · subst hx; rw [u2_at, if_pos rfl, bkA_12]; omega
    · rw [u2_col' hx, u2_row' (by omega), mset_o (by omega) (by omega), if_neg hx, bkA_12]; omega
  · unfold bk1
    rw [u2_row' a12]
    by_cases a4 : a = 4
    · subst a4
      rw [show bkA A kf np nc e (u2 w p c s) 4 x = _ from bkA_4, sm_ifadd hp hr]
      by_cases hx : x = ow kf (e p)
      · subst hx; rw [u2_at, if_pos rfl, bkA_4]; omega
      · rw [u2_col' hx, mset_o (by omega) (by omega), if_neg (fun z => hx z.symm), bkA_4]; omega
    · rw [u2_row' a4]
      by_cases a8 : a = 8
      · subst a8
        rw [show bkA A kf np nc e (u2 w p c s) 8 x = _ from bkA_8, sm_ifadd hp hr]
        unfold mset moA
        by_cases h6 : e p < 6
        · rw [if_pos h6, if_pos h6]
          by_cases hx : x = e p
          · subst hx; rw [u2_at, if_pos ⟨rfl, h6⟩, bkA_8]; omega
          · rw [u2_col' hx, if_neg (fun z => hx z.1.symm), bkA_8]; omega
        · rw [if_neg h6, u2_row' (by omega), if_neg (fun z => h6 (by omega)), bkA_8]; omega
      · by_cases a0 : a = 0
        · subst a0
          rw [show bkA A kf np nc e (u2 w p c s) 0 x = _ from bkA_0, sm_ifadd hp hr]
          unfold mset moA
          by_cases h6 : e p < 6
          · rw [if_pos h6, u2_row' (by omega), if_neg (by omega), bkA_0]; omega
          · rw [if_neg h6, if_neg h6]
            by_cases hx : x = e p - 6
            · subst hx; rw [u2_at, if_pos (by omega), bkA_0]; omega
            · rw [u2_col' hx, if_neg (by omega), bkA_0]; omega
        · rw [mset_o a8 a0, bkA_o a0 a8 a4 a12, bkA_o a0 a8 a4 a12]
theorem bkP_step {P : Nat → Nat → Int} {kf : Nat → Nat} {np : Nat} {e : Nat → Nat} {w : Nat → Nat → Int} {p c : Nat} {s : Int} (hp : p < np) (h0 : w p c = 0) : u2 (bkP P kf np e w) c (ow kf (e p)) (bkP P kf np e w c (ow kf (e p)) + s) = bkP P kf np e (u2 w p c s) := by
  funext a x
  have e1 : sm np (fun q => if ow kf (e q) = x then u2 w p c s q a else 0) = sm np (fun q => if ow kf (e q) = x then w q a else 0) + (if ow kf (e p) = x then (if a = c then s else 0) else 0) := by
    refine sm_ifadd (f := fun q => w q a) hp (fun q _ => ?_)
    show u2 w p c s q a = w q a + _
    unfold u2
    by_cases hq : q = p
    · subst hq
      by_cases ha : a = c
      · subst ha; rw [if_pos ⟨rfl, rfl⟩, if_pos rfl, if_pos rfl, h0]; omega
      · rw [if_neg (fun z => ha z.2), if_pos rfl, if_neg ha]; omega
    · rw [if_neg (fun z => hq z.1), if_neg hq]; omega
  show u2 (bkP P kf np e w) c (ow kf (e p)) (bkP P kf np e w c (ow kf (e p)) + s) a x = P a x + sm np (fun q => if ow kf (e q) = x then u2 w p c s q a else 0)
  rw [e1]
  by_cases ha : a = c
  · subst ha
    by_cases hx : x = ow kf (e p)
    · subst hx; rw [u2_at, if_pos rfl, if_pos rfl]; unfold bkP; omega
    · rw [u2_col' hx, if_neg (fun z => hx z.symm)]; unfold bkP; omega
  · rw [u2_row' ha, if_neg ha]; unfold bkP; split <;> omega
theorem bkA_z {A : Nat → Nat → Int} {kf : Nat → Nat} {np nc : Nat} {e : Nat → Nat} {w : Nat → Nat → Int} (h : ∀ p c, p < np → w p c = 0) : bkA A kf np nc e w = A := by
  have hs : ∀ p, p < np → sm nc (w p) = 0 := fun p hp => sm_zero (fun c _ => h p c hp)
  funext a x; unfold bkA
  split
  · rename_i z; subst z; rw [sm_zero (fun p hp => by rw [hs p hp]; split <;> rfl)]; omega
  · split
    · rename_i z; subst z; rw [sm_zero (fun p hp => by rw [hs p hp]; split <;> rfl)]; omega
    · split
      · rename_i z; subst z; rw [sm_zero (fun p hp => by rw [hs p hp]; split <;> rfl)]; omega
      · split
        · rename_i z; subst z; rw [sm_zero (fun p hp => h p x hp)]; omega
        · rfl
theorem bkP_z {P : Nat → Nat → Int} {kf : Nat → Nat} {np : Nat} {e : Nat → Nat} {w : Nat → Nat → Int} (h : ∀ p c, p < np → w p c = 0) : bkP P kf np e w = P := by
  funext a x; unfold bkP; rw [sm_zero (fun p hp => by rw [h p a hp]; split <;> rfl)]; omega
/-- the shares ahead of (p, c), in the order of the pots -/
def wPre (W : Nat → Nat → Int) (p c : Nat) : Nat → Nat → Int := fun q d => if q < p ∨ (q = p ∧ d < c) then W q d else 0
theorem wPre_s {W : Nat → Nat → Int} {p c : Nat} : u2 (wPre W p c) p c (W p c) = wPre W p (c + 1) := by
  funext q d; unfold u2 wPre
  by_cases h : q = p ∧ d = c
  · rw [if_pos h, if_pos (by omega), h.1, h.2]
  · rw [if_neg h]
    by_cases h2 : q < p ∨ (q = p ∧ d < c)
    · rw [if_pos h2, if_pos (by omega)]
    · rw [if_neg h2, if_neg (by omega)]
theorem wPre_n {W : Nat → Nat → Int} {p nc : Nat} (h : ∀ q d, nc ≤ d → W q d = 0) : wPre W p nc = wPre W (p + 1) 0 := by
  funext q d; unfold wPre
  by_cases h2 : q < p ∨ (q = p ∧ d < nc)
  · rw [if_pos h2, if_pos (by omega)]
  · rw [if_neg h2]
    by_cases h3 : q < p + 1 ∨ (q = p + 1 ∧ d < 0)
    · rw [if_pos h3, h q d (by omega)]
    · rw [if_neg h3]
theorem wPre_0 {W : Nat → Nat → Int} {p c : Nat} : wPre W p c p c = 0 := by unfold wPre; rw [if_neg (by omega)]
theorem wPre_e {W : Nat → Nat → Int} {np : Nat} (h : ∀ q d, np ≤ q → W q d = 0) : wPre W np 0 = W := by
  funext q d; unfold wPre
  by_cases h2 : q < np ∨ (q = np ∧ d < 0)
  · rw [if_pos h2]
  · rw [if_neg h2, h q d (by omega)]
/-- a matrix, 0 beyond its bounds -/
def clip (np nc : Nat) (sh : Nat → Nat → Int) : Nat → Nat → Int := fun p c => if p < np ∧ c < nc then sh p c else 0
theorem FrB.tr {F F1 F2 : Pic} (h : FrB F F1) (h1 : FrB F1 F2) : FrB F F2 := fun r hr => (h1 r hr).trans (h r hr)
set_option maxRecDepth 100000 in
set_option maxHeartbeats 4000000 in
theorem c_bookPlan (g : Gx) (l : Launch) (hl : l.stackTraces = false) (ad : Nat → Nat) (F : Pic) (td : Int) (nf nk nc : Nat) (A P : Nat → Nat → Int) (kf ser : Nat → Nat) (sn : Nat) (hX : RX g ad F td nf nk nc A P kf ser sn) (t : Nat) (hkf : ∀ i, i < nk → kf i < nf) (e : Nat → Nat) (np : Nat) (he : ∀ p, p < np → VC nf nk (e p)) (hQ : CL g ad F 104 np (fun p => ad (prl ser (e p)))) {pl cl pn : Nat → Int} {sh : Nat → Nat → Int} {rc py : Nat → Nat} {qu ah vi : Nat → Int} (hP : PR g ad F np nc pl cl pn sh rc py qu ah vi) : Ct g l yX5_bookPlan cX5_bookPlan 3 none 4 0 0 [.ref (ad 100)] ad F (fun v ad' F' => v = none ∧ ad = ad' ∧ FrB F F' ∧ RX g ad F' td nf nk nc (bkA A kf np nc e (clip np nc sh)) (bkP P kf np e (clip np nc sh)) kf ser sn) := by
  refine Ct_of hl rfl [some (.ref (ad 100)), none, none] (Nat.le_of_ble_eq_true rfl) (fun _ h => h) ?_
  intro M hL hN X
  subst hL
  have hW1 : ∀ q d, nc ≤ d → clip np nc sh q d = 0 := fun q d h => by unfold clip; rw [if_neg (by omega)]
  have hW2 : ∀ q d, np ≤ q → clip np nc sh q d = 0 := fun q d h => by unfold clip; rw [if_neg (by omega)]
  have hX0 := hX
  -- between two steps: the cells at (p, c)
  have inner : ∀ (k c p : Nat) (F1 : Pic), nc - c = k → c ≤ nc → p < np → FrB F F1 → RX g ad F1 td nf nk nc (bkA A kf np nc e (wPre (clip np nc sh) p c)) (bkP P kf np e (wPre (clip np nc sh) p c)) kf ser sn →
      (∀ F2 : Pic, FrB F F2 → RX g ad F2 td nf nk nc (bkA A kf np nc e (wPre (clip np nc sh) p nc)) (bkP P kf np e (wPre (clip np nc sh) p nc)) kf ser sn → V M g ad F2 0 0 66 [some (.ref (ad 100)), some (.int (zI (p : Int))), some (.int (zI (nc : Int)))] []) →
      V M g ad F1 0 0 15 [some (.ref (ad 100)), some (.int (zI (p : Int))), some (.int (zI (c : Int)))] [] := by
    intro k
    induction k with
    | zero =>
      intro c p F1 hk hc hp hB hX1 fin
      obtain rfl : c = nc := by omega
      obtain ⟨⟨hO1, -⟩, ⟨-, -, ⟨c3, hR3, -⟩, -⟩, -⟩ := id hX1
      obtain ⟨m3, ho3⟩ := hR3.obj
      refine r_iload_n X dX5_bookPlan_15 (by rfl) ?_
      refine r_aload_n X dX5_bookPlan_16 (by rfl) ?_
      refine r_get X dX5_bookPlan_17 fgX5_19_7 (by assumption) (by rfl) ?_
      refine r_callV X dX5_bookPlan_20 kX5_41 (c_size g _ hl ad F1 103 c c3 _ (by omega) hR3) (by assumption) (by rfl) (by rfl) (by rfl) (by rfl) (by exact Nat.le_of_ble_eq_true rfl) (by decide) (by decide) (by omega) (by omega) (fun v ad' F' hK => ?_)
      obtain ⟨rfl, rfl, rfl⟩ := hK
      have hb := hP.2.2.2
      refine r_icmp_ge X 66 dX5_bookPlan_23 (by decide) (by unfold inR; omega) (by unfold inR; omega) (fun a => ?_) (fun a => ?_)
      · exact fin F1 hB hX1
      · omega
    | succ k ih =>
      intro c p F1 hk hc hp hB hX1 fin
      have hP1 := PR.fr hP (fun x z1 z2 => hB x (by omega)) (fun _ _ _ => rfl)
      have hQ1 : CL g ad F1 104 np (fun p => ad (prl ser (e p))) := CL.fr hQ (by omega) (fun x hx => hB x (by unfold inA at hx; omega)) (fun _ _ => rfl) (fun _ _ => rfl)
      obtain ⟨⟨hO1, -⟩, ⟨-, -, ⟨c3, hR3, -⟩, -⟩, -, -, ⟨-, hCo1, -⟩, -⟩ := id hX1
      obtain ⟨m3, ho3⟩ := hR3.obj
      obtain ⟨c4, hR4, -⟩ := id hQ1
      obtain ⟨m4, ho4⟩ := hR4.obj
      have hb := hP.2.2.2
      have hnp := hP.2.2.1
      have hvc := he p hp
      have hC := hX1.pot hkf hvc
      have h200 := hP1.1.1
      have hcc := (hCo1 c (by omega)).1
      refine r_iload_n X dX5_bookPlan_15 (by rfl) ?_
      refine r_aload_n X dX5_bookPlan_16 (by rfl) ?_
      refine r_get X dX5_bookPlan_17 fgX5_19_7 (by assumption) (by rfl) ?_
      refine r_callV X dX5_bookPlan_20 kX5_41 (c_size g _ hl ad F1 103 nc c3 _ (by omega) hR3) (by assumption) (by rfl) (by rfl) (by rfl) (by rfl) (by exact Nat.le_of_ble_eq_true rfl) (by decide) (by decide) (by omega) (by omega) (fun v ad' F' hK => ?_)
      obtain ⟨rfl, rfl, rfl⟩ := hK
      refine r_icmp_ge X 66 dX5_bookPlan_23 (by decide) (by unfold inR; omega) (by unfold inR; omega) (fun a => ?_) (fun a => ?_)
      · omega
      · refine r_aload_n X dX5_bookPlan_26 (by rfl) ?_
        refine r_get X dX5_bookPlan_27 fgX5_22_7 (by assumption) (by rfl) ?_
        refine r_iload_n X dX5_bookPlan_30 (by rfl) ?_
        refine r_callV X dX5_bookPlan_31 kX5_118 (c_get g _ hl ad F1 104 np c4 _ (by omega) hR4 p hp) (by assumption) (by rfl) (by rfl) (by rfl) (by rfl) (by exact Nat.le_of_ble_eq_true rfl) (by decide) (by decide) (by omega) (by omega) (fun v ad' F' hK => ?_)
        obtain ⟨rfl, rfl, rfl⟩ := hK
        refine q_cast X rfl hC dX5_bookPlan_34 ?_
        refine r_aload_n X dX5_bookPlan_37 (by rfl) ?_
        refine r_get X dX5_bookPlan_38 fgX5_19_7 (by assumption) (by rfl) ?_
        refine r_iload_n X dX5_bookPlan_41 (by rfl) ?_
        refine r_callV X dX5_bookPlan_42 kX5_118 (c_get g _ hl ad F1 103 nc c3 _ (by omega) hR3 c (by omega)) (by assumption) (by rfl) (by rfl) (by rfl) (by rfl) (by exact Nat.le_of_ble_eq_true rfl) (by decide) (by decide) (by omega) (by omega) (fun v ad' F' hK => ?_)
        obtain ⟨rfl, rfl, rfl⟩ := hK
        refine r_castC X dX5_bookPlan_45 w395 (hcc) ?_
        refine r_aload_n X dX5_bookPlan_48 (by rfl) ?_
        refine r_get X dX5_bookPlan_49 fgX5_28_7 (by assumption) (by rfl) ?_
        refine r_iload_n X dX5_bookPlan_52 (by rfl) ?_
        refine r_iload_n X dX5_bookPlan_53 (by rfl) ?_
        refine r_callV X dX5_bookPlan_54 kX5_230 (c_share g _ hl ad F1 hP1 p c hp (by omega)) (by assumption) (by rfl) (by rfl) (by rfl) (by rfl) (by exact Nat.le_of_ble_eq_true rfl) (by decide) (by decide) (by omega) (by omega) (fun v ad' F' hK => ?_)
        obtain ⟨rfl, rfl, rfl⟩ := hK
        refine r_callS X dX5_bookPlan_57 kX5_234 (c_book g _ hl ad F1 _ _ _ _ _ _ _ _ _ hX1 t hkf _ hvc c (by omega) _) (by rfl) (by rfl) (by exact Nat.le_of_ble_eq_true rfl) (by decide) (by decide) (by omega) (by omega) (fun v ad' F2 hK => ?_)
        obtain ⟨rfl, rfl, hB2, hX2⟩ := hK
        have hsh : sh p c = clip np nc sh p c := by unfold clip; rw [if_pos ⟨hp, by omega⟩]
        rw [hsh, bk_step hp (by omega) wPre_0, bkP_step hp wPre_0, wPre_s] at hX2
        refine r_iinc X dX5_bookPlan_60 (by rfl) (by rw [hN]; decide) (by rfl) ?_
        dsimp only [List.set]
        refine r_goto X dX5_bookPlan_63 15 (by decide) ?_
        exact ih (c + 1) p F2 (by omega) (by omega) hp (hB.tr hB2) hX2 fin
  have outer : ∀ (k p : Nat) (F1 : Pic) (o : Option Value), np - p = k → p ≤ np → FrB F F1 → RX g ad F1 td nf nk nc (bkA A kf np nc e (wPre (clip np nc sh) p 0)) (bkP P kf np e (wPre (clip np nc sh) p 0)) kf ser sn →
      V M g ad F1 0 0 2 [some (.ref (ad 100)), some (.int (zI (p : Int))), o] [] := by
    intro k
    induction k with
    | zero =>
      intro p F1 o hk hp hB hX1
      obtain rfl : p = np := by omega
      have hQ1 : CL g ad F1 104 p (fun p => ad (prl ser (e p))) := CL.fr hQ (by omega) (fun x hx => hB x (by unfold inA at hx; omega)) (fun _ _ => rfl) (fun _ _ => rfl)
      obtain ⟨⟨hO1, -⟩, -⟩ := id hX1
      obtain ⟨c4, hR4, -⟩ := id hQ1
      obtain ⟨m4, ho4⟩ := hR4.obj
      have hnp := hP.2.2.1
      rw [wPre_e hW2] at hX1
      refine r_iload_n X dX5_bookPlan_2 (by rfl) ?_
      refine r_aload_n X dX5_bookPlan_3 (by rfl) ?_
      refine r_get X dX5_bookPlan_4 fgX5_22_7 (by assumption) (by rfl) ?_
      refine r_callV X dX5_bookPlan_7 kX5_41 (c_size g _ hl ad F1 104 p c4 _ (by omega) hR4) (by assumption) (by rfl) (by rfl) (by rfl) (by rfl) (by exact Nat.le_of_ble_eq_true rfl) (by decide) (by decide) (by omega) (by omega) (fun v ad' F' hK => ?_)
      obtain ⟨rfl, rfl, rfl⟩ := hK
      refine r_icmp_ge X 72 dX5_bookPlan_10 (by decide) (by unfold inR; omega) (by unfold inR; omega) (fun a => ?_) (fun a => ?_)
      · exact r_vret X rfl dX5_bookPlan_72 (⟨rfl, rfl, hB, hX1⟩) (by omega) (by omega)
      · omega
    | succ k ih =>
      intro p F1 o hk hp hB hX1
      have hQ1 : CL g ad F1 104 np (fun p => ad (prl ser (e p))) := CL.fr hQ (by omega) (fun x hx => hB x (by unfold inA at hx; omega)) (fun _ _ => rfl) (fun _ _ => rfl)
      obtain ⟨⟨hO1, -⟩, -⟩ := id hX1
      obtain ⟨c4, hR4, -⟩ := id hQ1
      obtain ⟨m4, ho4⟩ := hR4.obj
      have hnp := hP.2.2.1
      refine r_iload_n X dX5_bookPlan_2 (by rfl) ?_
      refine r_aload_n X dX5_bookPlan_3 (by rfl) ?_
      refine r_get X dX5_bookPlan_4 fgX5_22_7 (by assumption) (by rfl) ?_
      refine r_callV X dX5_bookPlan_7 kX5_41 (c_size g _ hl ad F1 104 np c4 _ (by omega) hR4) (by assumption) (by rfl) (by rfl) (by rfl) (by rfl) (by exact Nat.le_of_ble_eq_true rfl) (by decide) (by decide) (by omega) (by omega) (fun v ad' F' hK => ?_)
      obtain ⟨rfl, rfl, rfl⟩ := hK
      refine r_icmp_ge X 72 dX5_bookPlan_10 (by decide) (by unfold inR; omega) (by unfold inR; omega) (fun a => ?_) (fun a => ?_)
      · omega
      · refine r_iconst X dX5_bookPlan_13 rfl ?_
        refine r_istore_n X dX5_bookPlan_14 (by rw [hN]; decide) (by rfl) ?_
        dsimp only [List.set]
        refine inner nc 0 p F1 (by omega) (by omega) (by omega) hB hX1 (fun F2 hB2 hX2 => ?_)
        rw [wPre_n hW1] at hX2
        refine r_iinc X dX5_bookPlan_66 (by rfl) (by rw [hN]; decide) (by rfl) ?_
        dsimp only [List.set]
        refine r_goto X dX5_bookPlan_69 2 (by decide) ?_
        exact ih (p + 1) F2 _ (by omega) (by omega) hB2 hX2
  refine r_iconst X dX5_bookPlan_0 rfl ?_
  refine r_istore_n X dX5_bookPlan_1 (by rw [hN]; decide) (by rfl) ?_
  dsimp only [List.set]
  refine outer np 0 F none (by omega) (by omega) (fun _ _ => rfl) ?_
  rw [bkA_z (fun p c _ => by unfold wPre; rw [if_neg (by omega)]), bkP_z (fun p c _ => by unfold wPre; rw [if_neg (by omega)])]
  exact hX0
