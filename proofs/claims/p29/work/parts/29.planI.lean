theorem sm_ub {n : Nat} {f : Nat → Int} {B : Int} (h : ∀ i, i < n → f i ≤ B) : sm n f ≤ n * B := by
  induction n with
  | zero => show (0 : Int) ≤ ((0 : Nat) : Int) * B; rw [show ((0 : Nat) : Int) = 0 from rfl, Int.zero_mul]; exact Int.le_refl _
  | succ n ih =>
    show sm n f + f n ≤ ((n + 1 : Nat) : Int) * B
    have h1 := ih (fun i hi => h i (by omega))
    have h2 := h n (by omega)
    rw [show ((n + 1 : Nat) : Int) = (n : Int) + 1 from rfl, Int.add_mul, Int.one_mul]
    omega
section Meas
variable {np nc : Nat} {rc : Nat → Nat} {pot : Nat} {mon unp pl cl pn : Nat → Int} {sh : Nat → Nat → Int}
def sR (nc : Nat) (rc : Nat → Nat) (pot : Nat) (pn : Nat → Int) : Int := sm nc (fun c => if (rc pot).testBit c then pn c else 0)
def sN (nc : Nat) (rc : Nat → Nat) (pot : Nat) (pn : Nat → Int) : Int := sm nc (fun c => if (rc pot).testBit c then 0 else pn c)
theorem sRN (h : ∀ c, c < nc → pn c ≤ 99999) (hn : nc ≤ 16) : sR nc rc pot pn + sN nc rc pot pn ≤ 1599984 := by
  unfold sR sN
  rw [← sm_add]
  have h1 : sm nc (fun c => (if (rc pot).testBit c then pn c else 0) + (if (rc pot).testBit c then 0 else pn c)) ≤ nc * 99999 := sm_ub (fun c hc => by
    have := h c hc
    split <;> omega)
  omega
theorem sR_nn (h : PF np nc rc mon unp pl cl pn sh) (hp : pot < np) : 0 ≤ sR nc rc pot pn - mon pot + pl pot ∧ mon pot - pl pot ≥ 0 := by
  obtain ⟨f1, f2, f3, f4⟩ := h
  have h3 := f3 pot hp
  have h0 : 0 ≤ sm nc (sh pot) := sm_nn (fun c hc => f1 pot c hp hc)
  have h1 : sm nc (sh pot) ≤ sR nc rc pot pn := sm_le (fun c hc => by
    have a1 := f1 pot c hp hc
    have a2 := sm_one (f := fun p => sh p c) (fun p hp => f1 p c hp hc) hp
    have a2 : sh pot c ≤ sm np (fun p => sh p c) := a2
    by_cases e : (rc pot).testBit c = true
    · rw [if_pos e, (f4 c hc).2.2]; exact a2
    · rw [if_neg e]
      have : ¬ 0 < sh pot c := fun q => e (f2 pot c hp hc q)
      omega)
  omega
theorem kb_nn (h : PF np nc rc mon unp pl cl pn sh) : 0 ≤ kb np nc rc pot sh := sm_nn (fun b hb => by
  split
  · exact sm_nn (fun c hc => by
      have := h.1 b c hb hc
      split
      · split <;> omega
      · exact this)
  · exact Int.le_refl _)
theorem kb_ub (h : PF np nc rc mon unp pl cl pn sh) (hn : np ≤ 12) (hc : nc ≤ 16) : kb np nc rc pot sh ≤ 192 + sN nc rc pot pn := by
  obtain ⟨f1, f2, f3, f4⟩ := h
  have h1 : kb np nc rc pot sh ≤ sm np (fun b => sm nc (fun _ => 1) + sm nc (fun c => if (rc pot).testBit c then 0 else sh b c)) := sm_le (fun b hb => by
    rw [← sm_add]
    have h0 : 0 ≤ sm nc (fun c => 1 + (if (rc pot).testBit c then 0 else sh b c)) := sm_nn (fun c hc => by have := f1 b c hb hc; split <;> omega)
    by_cases q : pot < b
    · rw [if_pos q]
      exact sm_le (fun c hc => by
        have := f1 b c hb hc
        split
        · split <;> omega
        · omega)
    · rw [if_neg q]; exact h0)
  rw [sm_add] at h1
  have h2 : sm np (fun _ => sm nc (fun _ => 1)) ≤ np * 16 := sm_ub (fun _ _ => by
    have : sm nc (fun _ => (1 : Int)) ≤ nc * 1 := sm_ub (fun _ _ => Int.le_refl _)
    omega)
  have h3 : sm np (fun b => sm nc (fun c => if (rc pot).testBit c then 0 else sh b c)) = sN nc rc pot pn := by
    rw [sm_swap]
    refine sm_congr (fun c hc => ?_)
    by_cases e : (rc pot).testBit c = true
    · rw [if_pos e]; exact sm_zero (fun b _ => by rw [if_pos e])
    · rw [if_neg e, (f4 c hc).2.2]
      exact sm_congr (fun b _ => by rw [if_neg e])
  omega
def mT (np nc : Nat) (rc : Nat → Nat) (pot : Nat) (mon pn pl : Nat → Int) (sh : Nat → Nat → Int) : Int := if sR nc rc pot pn ≤ 900000 then sR nc rc pot pn - mon pot + pl pot else kb np nc rc pot sh
theorem mT_nn (h : PF np nc rc mon unp pl cl pn sh) (hp : pot < np) : 0 ≤ mT np nc rc pot mon pn pl sh := by
  unfold mT; split
  · exact (sR_nn h hp).1
  · exact kb_nn h
theorem mT_ub (h : PF np nc rc mon unp pl cl pn sh) (hB : BD np nc rc mon unp) (hp : pot < np) (hn : np ≤ 12) (hc : nc ≤ 16) : mT np nc rc pot mon pn pl sh ≤ 950000 := by
  unfold mT
  have h1 := sR_nn h hp
  have h2 := kb_ub (pot := pot) h hn hc
  have h3 := sRN (rc := rc) (pot := pot) (fun c hc => (h.clb hB hc).2.2.2) hc
  split <;> omega
end Meas
set_option maxRecDepth 100000 in
set_option maxHeartbeats 4000000 in
theorem c_drawOnPots (g : Gx) (l : Launch) (hl : l.stackTraces = false) (ad : Nat → Nat) (F : Pic) {np nc : Nat} {pl cl pn : Nat → Int} {sh : Nat → Nat → Int} {rc py : Nat → Nat} {qu ah vi : Nat → Int} (hP : PR g ad F np nc pl cl pn sh rc py qu ah vi) (mon unp : Nat → Int) (hB : BD np nc rc mon unp) (hF : PF np nc rc mon unp pl cl pn sh) (hI : PYI np nc sh py) : Ct g l yX3_drawOnPots cX3_drawOnPots 4 none 5 0 0 [.ref (ad 200)] ad F (fun v ad' F' => v = none ∧ ad = ad' ∧ FrP F F' ∧ ∃ pl' sh' py' qu' ah' vi', PR g ad F' np nc pl' cl pn sh' rc py' qu' ah' vi' ∧ PF np nc rc mon unp pl' cl pn sh' ∧ PYI np nc sh' py' ∧ ∀ k, k ≤ np → MC k nc mon pn rc (sm k (fun q => mon q - pl' q))) := by
  refine Ct_of hl rfl [some (.ref (ad 200)), none, none, none] (Nat.le_of_ble_eq_true rfl) (fun _ h => h) ?_
  intro M hL hN X
  subst hL
  obtain ⟨hnp, hnc⟩ := hP.lt
  have outer : ∀ (m pot : Nat) (F1 : Pic) (pl1 : Nat → Int) (sh1 : Nat → Nat → Int) (py1 : Nat → Nat) (qu1 ah1 vi1 : Nat → Int) (Z : Nat → Prop), np - pot = m → pot ≤ np → PR g ad F1 np nc pl1 cl pn sh1 rc py1 qu1 ah1 vi1 → FrP F F1 → PF np nc rc mon unp pl1 cl pn sh1 → PYI np nc sh1 py1 → I2 np nc rc Z pot pl1 sh1 → (∀ k, k ≤ pot → MC k nc mon pn rc (sm k (fun q => mon q - pl1 q))) →
      V M g ad F1 0 0 2 [some (.ref (ad 200)), some (.int (zI (pot : Int))), none, none] [] := by
    intro m
    induction m using Nat.strongRecOn with
    | _ m ih =>
      intro pot F1 pl1 sh1 py1 qu1 ah1 vi1 Z hm hcn hP1 hFr hF1 hI1 hZ hMC
      obtain ⟨⟨i0, i1, i2, i3, i4, i5, i6, i7, i8, i9⟩, is, -, -⟩ := id hP1
      refine r_iload_n X dX3_drawOnPots_2 (by rfl) ?_
      refine r_aload_n X dX3_drawOnPots_3 (by rfl) ?_
      refine r_get X dX3_drawOnPots_4 fgX3_50_6 (by assumption) (by rfl) ?_
      refine r_icmp_ge X 42 dX3_drawOnPots_7 (by decide) (by unfold inR; omega) (by unfold inR; omega) (fun a1 => ?_) (fun a1 => ?_)
      · have e : pot = np := by omega
        subst e
        exact r_vret X rfl dX3_drawOnPots_42 (⟨rfl, rfl, hFr, pl1, sh1, py1, qu1, ah1, vi1, hP1, hF1, hI1, hMC⟩) (by omega) (by omega)
      · have hc : pot < np := by omega
        have hub := mT_ub hF1 hB hc hnp hnc
        have inner : ∀ (n t : Nat) (F1 : Pic) (pl1 : Nat → Int) (sh1 : Nat → Nat → Int) (py1 : Nat → Nat) (qu1 ah1 vi1 : Nat → Int), 1000000 - t = n → ((t : Int) + mT np nc rc pot mon pn pl1 sh1 ≤ 950000 ∨ (pl1 pot ≤ 0 ∧ t ≤ 950001)) → PR g ad F1 np nc pl1 cl pn sh1 rc py1 qu1 ah1 vi1 → FrP F F1 → PF np nc rc mon unp pl1 cl pn sh1 → PYI np nc sh1 py1 → I2 np nc rc Z pot pl1 sh1 → (∀ k, k ≤ pot → MC k nc mon pn rc (sm k (fun q => mon q - pl1 q))) →
            V M g ad F1 0 0 14 [some (.ref (ad 200)), some (.int (zI (pot : Int))), some (.int (zI 1)), some (.int (zI (t : Int)))] [] := by
          intro n
          induction n using Nat.strongRecOn with
          | _ n ih2 =>
            intro t F1 pl1 sh1 py1 qu1 ah1 vi1 hn ht hP1 hFr hF1 hI1 hZ hMC
            have hT0 := mT_nn hF1 hc
            obtain ⟨⟨i0, i1, i2, i3, i4, i5, i6, i7, i8, i9⟩, is, -, -⟩ := id hP1
            refine r_iload_n X dX3_drawOnPots_14 (by rfl) ?_
            refine r_ldc X dX3_drawOnPots_15 w506 (1000000) rfl ?_
            refine r_icmp_ge X 36 dX3_drawOnPots_17 (by decide) (by unfold inR; omega) (by unfold inR; omega) (fun b1 => ?_) (fun b1 => ?_)
            · omega
            · refine r_iload_n X dX3_drawOnPots_20 (by rfl) ?_
              refine r_if_eq X 36 dX3_drawOnPots_21 (by decide) (by unfold inR; omega) (fun b2 => ?_) (fun b2 => ?_)
              · omega
              · refine r_aload_n X dX3_drawOnPots_24 (by rfl) ?_
                refine r_iload_n X dX3_drawOnPots_25 (by rfl) ?_
                refine r_callV X dX3_drawOnPots_26 kX3_68 (c_drawMoreOn g _ hl ad F1 hP1 mon unp hB hF1 hI1 pot hc Z hZ) (by assumption) (by rfl) (by rfl) (by rfl) (by rfl) (by exact Nat.le_of_ble_eq_true rfl) (by decide) (by decide) (by omega) (by omega) (fun v ad' F2 hK => ?_)
                obtain ⟨rfl, hFr2, pl2, sh2, py2, qu2, ah2, vi2, hP2, hF2, hI2, hZ2, hsame, hv⟩ := hK
                have hMC2 : ∀ k, k ≤ pot → MC k nc mon pn rc (sm k (fun q => mon q - pl2 q)) := fun k hk => by
                  rw [show sm k (fun q => mon q - pl2 q) = sm k (fun q => mon q - pl1 q) from sm_congr (fun d hd => by rw [hsame d (by omega)])]
                  exact hMC k hk
                rcases hv with ⟨rfl, hq⟩ | ⟨rfl, hlt, hk⟩
                · obtain ⟨Z2, hZ3, hMC3⟩ := step2_done hF2 hI2 hc hnp hZ2 hq
                  have hMC4 : ∀ k, k ≤ pot + 1 → MC k nc mon pn rc (sm k (fun q => mon q - pl2 q)) := fun k hk => by
                    by_cases e : k = pot + 1
                    · rw [e]; exact hMC3
                    · exact hMC2 k (by omega)
                  obtain ⟨⟨j0, j1, j2, j3, j4, j5, j6, j7, j8, j9⟩, js, -, -⟩ := id hP2
                  refine r_istore_n X dX3_drawOnPots_29 (by rw [hN]; decide) (by rfl) ?_
                  dsimp only [List.set]
                  refine r_iinc X dX3_drawOnPots_30 (by rfl) (by rw [hN]; decide) (by rfl) ?_
                  dsimp only [List.set]
                  refine r_goto X dX3_drawOnPots_33 14 (by decide) ?_
                  refine r_iload_n X dX3_drawOnPots_14 (by rfl) ?_
                  refine r_ldc X dX3_drawOnPots_15 w506 (1000000) rfl ?_
                  refine r_icmp_ge X 36 dX3_drawOnPots_17 (by decide) (by unfold inR; omega) (by unfold inR; omega) (fun b3 => ?_) (fun b3 => ?_)
                  · omega
                  · refine r_iload_n X dX3_drawOnPots_20 (by rfl) ?_
                    refine r_if_eq X 36 dX3_drawOnPots_21 (by decide) (by unfold inR; omega) (fun b4 => ?_) (fun b4 => ?_)
                    · refine r_iinc X dX3_drawOnPots_36 (by rfl) (by rw [hN]; decide) (by rfl) ?_
                      dsimp only [List.set]
                      refine r_goto X dX3_drawOnPots_39 2 (by decide) ?_
                      refine r_ls (fun i v => ?_) (ih (np - (pot + 1)) (by omega) (pot + 1) F2 pl2 sh2 py2 qu2 ah2 vi2 Z2 rfl (by omega) hP2 (hFr.tr hFr2) hF2 hI2 hZ3 hMC4)
                      match i with
                      | 0 => exact id
                      | 1 => exact id
                      | 2 => exact fun h => by cases h
                      | 3 => exact fun h => by cases h
                      | j + 4 => exact fun h => by cases h
                    · exact absurd rfl b4
                · have h9 := (hF2.2.2.1 pot hc).1
                  have hT2 := mT_nn hF2 hc
                  have hm2 : ((t + 1 : Nat) : Int) + mT np nc rc pot mon pn pl2 sh2 ≤ 950000 ∨ (pl2 pot ≤ 0 ∧ t + 1 ≤ 950001) := by
                    rcases ht with ht | ⟨ht, _⟩
                    · unfold mT at ht hT0 ⊢
                      by_cases e : sR nc rc pot pn ≤ 900000
                      · rw [if_pos e] at ht hT0 ⊢
                        exact .inl (by omega)
                      · rw [if_neg e] at ht hT0 ⊢
                        rcases hk with hk | hk
                        · exact .inr ⟨hk, by omega⟩
                        · exact .inl (by omega)
                    · omega
                  refine r_istore_n X dX3_drawOnPots_29 (by rw [hN]; decide) (by rfl) ?_
                  dsimp only [List.set]
                  refine r_iinc X dX3_drawOnPots_30 (by rfl) (by rw [hN]; decide) (by rfl) ?_
                  dsimp only [List.set]
                  refine r_goto X dX3_drawOnPots_33 14 (by decide) ?_
                  exact ih2 (1000000 - (t + 1)) (by omega) (t + 1) F2 pl2 sh2 py2 qu2 ah2 vi2 rfl hm2 hP2 (hFr.tr hFr2) hF2 hI2 hZ2 hMC2
        refine r_iconst X dX3_drawOnPots_10 rfl ?_
        refine r_istore_n X dX3_drawOnPots_11 (by rw [hN]; decide) (by rfl) ?_
        dsimp only [List.set]
        refine r_iconst X dX3_drawOnPots_12 rfl ?_
        refine r_istore_n X dX3_drawOnPots_13 (by rw [hN]; decide) (by rfl) ?_
        dsimp only [List.set]
        exact inner 1000000 0 F1 pl1 sh1 py1 qu1 ah1 vi1 rfl (.inl (by omega)) hP1 hFr hF1 hI1 hZ hMC
  refine r_iconst X dX3_drawOnPots_0 rfl ?_
  refine r_istore_n X dX3_drawOnPots_1 (by rw [hN]; decide) (by rfl) ?_
  dsimp only [List.set]
  refine outer np 0 F pl sh py qu ah vi (fun _ => False) rfl (by omega) hP FrP.rf hF hI ⟨fun p q => q.elim, fun a b c _ q => q.elim, fun q hq => by omega⟩ (fun k hk => ?_)
  rw [show k = 0 by omega]
  constructor
  · refine ⟨0, by decide, ?_⟩
    show sm 0 _ + sm nc _ = 0
    rw [sm_zero (n := nc) (fun c _ => by
      have : ¬ rB 0 rc 0 c = true := fun q => by obtain ⟨p, hp, _⟩ := rB_iff.mp q; omega
      rw [if_neg this])]
    rfl
  · intro X _
    show (0 : Int) ≤ sm 0 _ + sm nc _
    have : 0 ≤ sm nc (fun c => if rB 0 rc X c then pn c else 0) := sm_nn (fun c hc => by
      split
      · exact hF.pnn hc
      · exact Int.le_refl _)
    have h0 : sm 0 (fun p => if X.testBit p then mon p else 0) = 0 := rfl
    omega
