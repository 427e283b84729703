set_option maxRecDepth 100000 in
set_option maxHeartbeats 4000000 in
theorem c_payMoreFrom (g : Gx) (l : Launch) (hl : l.stackTraces = false) (ad : Nat → Nat) (F : Pic) {np nc : Nat} {pl cl pn : Nat → Int} {sh : Nat → Nat → Int} {rc py : Nat → Nat} {qu ah vi : Nat → Int} (hP : PR g ad F np nc pl cl pn sh rc py qu ah vi) (mon unp : Nat → Int) (hB : BD np nc rc mon unp) (hF : PF np nc rc mon unp pl cl pn sh) (hI : PYI np nc sh py) (pot c : Nat) (hp : pot < np) (hc : c < nc) (hrc : (rc pot).testBit c = true) : Ct g l yX3_payMoreFrom cX3_payMoreFrom 6 (some .boolean) 4 0 0 [.ref (ad 200), .int (zI (pot : Int)), .int (zI (c : Int))] ad F (fun v ad' F' => ad = ad' ∧ FrP F F' ∧ ∃ sh' py' qu' ah' vi', PR g ad F' np nc pl cl pn sh' rc py' qu' ah' vi' ∧ PF np nc rc mon unp pl cl pn sh' ∧ PYI np nc sh' py' ∧ PE np nc c pot sh sh' ∧ (∀ q, q < np → sm nc (sh' q) = sm nc (sh q)) ∧ (∀ d, d < nc → sm np (fun q => sh' q d) = sm np (fun q => sh q d)) ∧ ((v = some (.int (zI 0)) ∧ SH3 np nc rc sh' c pot) ∨ (v = some (.int (zI 1)) ∧ sh pot c < sh' pot c))) := by
  refine Ct_of hl rfl [some (.ref (ad 200)), some (.int (zI (pot : Int))), some (.int (zI (c : Int))), none, none, none] (Nat.le_of_ble_eq_true rfl) (fun _ h => h) ?_
  intro M hL hN X
  subst hL
  obtain ⟨⟨h0, h1, h2, h3, h4, h5, h6, h7, h8, h9⟩, hs, hnp, hnc⟩ := id hP
  refine r_aload_n X dX3_payMoreFrom_0 (by rfl) ?_
  refine r_aload_n X dX3_payMoreFrom_1 (by rfl) ?_
  refine r_iload_n X dX3_payMoreFrom_2 (by rfl) ?_
  refine r_callV X dX3_payMoreFrom_3 kX3_117 (c_potsAfter g _ hl ad F hP pot hp) (by assumption) (by rfl) (by rfl) (by rfl) (by rfl) (by exact Nat.le_of_ble_eq_true rfl) (by decide) (by decide) (by omega) (by omega) (fun v ad' F' hK => ?_)
  obtain ⟨rfl, rfl, rfl⟩ := hK
  refine r_aload_n X dX3_payMoreFrom_6 (by rfl) ?_
  refine r_aload_n X dX3_payMoreFrom_7 (by rfl) ?_
  refine r_get X dX3_payMoreFrom_8 fgX3_29_6 (by assumption) (by rfl) ?_
  refine r_iload_n X dX3_payMoreFrom_11 (by rfl) ?_
  refine r_callV X dX3_payMoreFrom_12 kX3_86 (c_potsWith g _ hl ad F hP 206 py h6 (fun p hp' => hI.lt hnc hp') c (by omega)) (by assumption) (by rfl) (by rfl) (by rfl) (by rfl) (by exact Nat.le_of_ble_eq_true rfl) (by decide) (by decide) (by omega) (by omega) (fun v ad' F' hK => ?_)
  obtain ⟨⟨m0, rfl, hm0⟩, rfl, rfl⟩ := hK
  refine r_iand X (hv := zI_and _ _) dX3_payMoreFrom_15 ?_
  refine r_iconst X dX3_payMoreFrom_16 rfl ?_
  refine r_iload_n X dX3_payMoreFrom_17 (by rfl) ?_
  refine r_ishl X (hv := zI_shl (by omega)) dX3_payMoreFrom_18 ?_
  refine r_iload_n X dX3_payMoreFrom_19 (by rfl) ?_
  refine r_iconst X dX3_payMoreFrom_20 rfl ?_
  refine r_iadd X dX3_payMoreFrom_21 ?_
  have hst : ∀ q, (paM np pot &&& m0).testBit q = true ↔ (pot < q ∧ q < np ∧ (py q).testBit c = true) := fun q => by
    rw [tb_and, pa_tb (by omega) (by omega), hm0]
    exact ⟨fun h => ⟨h.1.1, h.1.2, h.2.2⟩, fun h => ⟨⟨h.1, h.2.1⟩, h.2.1, h.2.2⟩⟩
  generalize paM np pot &&& m0 = st at hst ⊢
  have hen16 : 2 ^ pot < 65536 := Nat.lt_of_lt_of_le (Nat.pow_lt_pow_right (by decide) (show pot < 16 by omega)) (by decide)
  refine r_callV X dX3_payMoreFrom_22 kX3_90 (c_findChain g _ hl ad F hP st (2 ^ pot) (c + 1) (fun p hp' => ((hst p).mp hp').2.1) hen16 (by omega) hB.1 (fun p hp' => hI.lt hnc hp')) (by assumption) (by rfl) (by rfl) (by rfl) (by rfl) (by exact Nat.le_of_ble_eq_true rfl) (by decide) (by decide) (by omega) (by omega) (fun v ad' F1 hK => ?_)
  obtain ⟨rfl, hF1, qu1, ah1, vi1, hP1, hv⟩ := hK
  obtain ⟨⟨i0, i1, i2, i3, i4, i5, i6, i7, i8, i9⟩, is, -, -⟩ := id hP1
  rcases hv with ⟨rfl, hno⟩ | ⟨last, L, rfl, y1, y2, y3, y4, y5, y6, y7, y8⟩
  · refine r_istore_n X dX3_payMoreFrom_25 (by rw [hN]; decide) (by rfl) ?_
    dsimp only [List.set]
    refine r_iload_n X dX3_payMoreFrom_26 (by rfl) ?_
    refine r_iconst X dX3_payMoreFrom_27 rfl ?_
    refine r_icmp_ne X 33 dX3_payMoreFrom_28 (by decide) (by unfold inR; omega) (by unfold inR; omega) (fun a2 => ?_) (fun a2 => ?_)
    · exact absurd rfl a2
    · refine r_iconst X dX3_payMoreFrom_31 rfl ?_
      exact r_iret X rfl (rfl) dX3_payMoreFrom_32 (⟨rfl, hF1, sh, py, qu1, ah1, vi1, hP1, hF, hI, fun _ _ _ _ _ => rfl, fun _ _ => rfl, fun _ _ => rfl, .inl ⟨rfl, step3_done hF hI hp hc hst hno⟩⟩) (by omega) (by omega)
  · have hlast : last = pot := by rw [Nat.testBit_two_pow] at y1; exact (of_decide_eq_true y1).symm
    subst hlast
    refine r_istore_n X dX3_payMoreFrom_25 (by rw [hN]; decide) (by rfl) ?_
    dsimp only [List.set]
    refine r_iload_n X dX3_payMoreFrom_26 (by rfl) ?_
    refine r_iconst X dX3_payMoreFrom_27 rfl ?_
    refine r_icmp_ne X 33 dX3_payMoreFrom_28 (by decide) (by unfold inR; omega) (by unfold inR; omega) (fun a2 => ?_) (fun a2 => ?_)
    · refine r_aload_n X dX3_payMoreFrom_33 (by rfl) ?_
      refine r_iload_n X dX3_payMoreFrom_34 (by rfl) ?_
      refine r_callV X dX3_payMoreFrom_35 kX3_94 (c_firstOfChain g _ hl ad F1 hP1 last L y2 y3) (by assumption) (by rfl) (by rfl) (by rfl) (by rfl) (by exact Nat.le_of_ble_eq_true rfl) (by decide) (by decide) (by omega) (by omega) (fun v ad' F' hK => ?_)
      obtain ⟨rfl, rfl, rfl⟩ := hK
      generalize hfi : chF last L = fi at y5
      have hfi2 := (hst fi).mp y5
      refine r_istore X dX3_payMoreFrom_38 (by rw [hN]; decide) (by rfl) ?_
      dsimp only [List.set]
      refine r_aload_n X dX3_payMoreFrom_40 (by rfl) ?_
      refine r_iload_n X dX3_payMoreFrom_41 (by rfl) ?_
      refine r_aload_n X dX3_payMoreFrom_42 (by rfl) ?_
      refine r_iload X dX3_payMoreFrom_43 (by rfl) ?_
      refine r_iload_n X dX3_payMoreFrom_45 (by rfl) ?_
      refine r_callV X dX3_payMoreFrom_46 kX3_120 (c_share g _ hl ad F1 hP1 fi c hfi2.2.1 hc) (by assumption) (by rfl) (by rfl) (by rfl) (by rfl) (by exact Nat.le_of_ble_eq_true rfl) (by decide) (by decide) (by omega) (by omega) (fun v ad' F' hK => ?_)
      obtain ⟨rfl, rfl, rfl⟩ := hK
      have hsf := hF.shb hB hfi2.2.1 hc
      refine r_callV X dX3_payMoreFrom_49 kX3_100 (c_narrowest g _ hl ad F1 hP1 last L y2 y3 (sh fi c) (by unfold inR; omega) (fun p d hp' hd => by have := hF.shb hB hp' hd; unfold inR; omega)) (by assumption) (by rfl) (by rfl) (by rfl) (by rfl) (by exact Nat.le_of_ble_eq_true rfl) (by decide) (by decide) (by omega) (by omega) (fun v ad' F' hK => ?_)
      obtain ⟨rfl, rfl, rfl⟩ := hK
      have hpos : 0 < chN sh last L (sh fi c) := chN_pos L last _ (hI.pos hfi2.2.1 hfi2.2.2) (fun e he => by
        obtain ⟨q1, q2, q3⟩ := chE_py L last y2 y4 e he
        exact hI.pos q1 q3)
      have hle := (chN_le L last (sh fi c) (sh := sh) (a := chN sh last L (sh fi c))).mp (Int.le_refl _)
      generalize chN sh last L (sh fi c) = a at hpos hle ⊢
      obtain ⟨hle1, hle2⟩ := hle
      obtain ⟨hPF, hPE, hup, hrow, hcol⟩ := aug3 hF y2 y4 y6 hfi hfi2.1 hc hrc hpos hle2 hle1
      refine r_istore X dX3_payMoreFrom_52 (by rw [hN]; decide) (by rfl) ?_
      dsimp only [List.set]
      refine r_aload_n X dX3_payMoreFrom_54 (by rfl) ?_
      refine r_iload_n X dX3_payMoreFrom_55 (by rfl) ?_
      refine r_iload X dX3_payMoreFrom_56 (by rfl) ?_
      refine r_callV X dX3_payMoreFrom_58 kX3_103 (c_shiftAlongChain g _ hl ad F1 hP1 last L y2 y3 a 99999 (by omega) (fun p d hp' hd => by have := hF.shb hB hp' hd; omega) (by omega) hI) (by assumption) (by rfl) (by rfl) (by rfl) (by rfl) (by exact Nat.le_of_ble_eq_true rfl) (by decide) (by decide) (by omega) (by omega) (fun v ad' F2 hK => ?_)
      obtain ⟨rfl, rfl, ⟨py2, hP2, hI2⟩, hF2⟩ := hK
      have hlow : ∀ r, chS a sh last L r c = sh r c := fun r => chS_low (k := c + 1) (py := py) (rc := rc) L last sh y2 y4 r c (by omega)
      have hsl := hF.shb hB hp hc
      have hlf := hlow fi
      have hll := hlow last
      obtain ⟨⟨j0, j1, j2, j3, j4, j5, j6, j7, j8, j9⟩, js, -, -⟩ := id hP2
      refine r_aload_n X dX3_payMoreFrom_61 (by rfl) ?_
      refine r_iload X dX3_payMoreFrom_62 (by rfl) ?_
      refine r_iload_n X dX3_payMoreFrom_64 (by rfl) ?_
      refine r_iload X dX3_payMoreFrom_65 (by rfl) ?_
      refine r_ineg X dX3_payMoreFrom_67 ?_
      refine r_callV X dX3_payMoreFrom_68 kX3_107 (c_addShare g _ hl ad F2 hP2 fi c hfi2.2.1 hc (-a) (by unfold inR; omega) (hI2.lt hnc hfi2.2.1)) (by assumption) (by rfl) (by rfl) (by rfl) (by rfl) (by exact Nat.le_of_ble_eq_true rfl) (by decide) (by decide) (by omega) (by omega) (fun v ad' F3 hK => ?_)
      obtain ⟨rfl, rfl, ⟨m3, hP3, hm3⟩, hF3⟩ := hK
      have hI3 := hI2.put hc (fun _ => hm3)
      obtain ⟨⟨k0, k1, k2, k3, k4, k5, k6, k7, k8, k9⟩, ks, -, -⟩ := id hP3
      refine r_aload_n X dX3_payMoreFrom_71 (by rfl) ?_
      refine r_iload_n X dX3_payMoreFrom_72 (by rfl) ?_
      refine r_iload_n X dX3_payMoreFrom_73 (by rfl) ?_
      refine r_iload X dX3_payMoreFrom_74 (by rfl) ?_
      have e9 : u2 (chS a sh last L) fi c (chS a sh last L fi c + -a) last c = sh last c := (if_neg (by omega)).trans hll
      refine r_callV X dX3_payMoreFrom_76 kX3_107 (c_addShare g _ hl ad F3 hP3 last c hp hc a (by rw [e9]; unfold inR; omega) (hI3.lt hnc hp)) (by assumption) (by rfl) (by rfl) (by rfl) (by rfl) (by exact Nat.le_of_ble_eq_true rfl) (by decide) (by decide) (by omega) (by omega) (fun v ad' F4 hK => ?_)
      obtain ⟨rfl, rfl, ⟨m4, hP4, hm4⟩, hF4⟩ := hK
      have hI4 := hI3.put hc (fun _ => hm4)
      have hfin := hF1.tr (hF2.tr (hF3.tr hF4))
      refine r_iload X dX3_payMoreFrom_79 (by rfl) ?_
      refine r_if_le X 88 dX3_payMoreFrom_81 (by decide) (by unfold inR; omega) (fun a3 => ?_) (fun a3 => ?_)
      · omega
      · refine r_iconst X dX3_payMoreFrom_84 rfl ?_
        refine r_goto X dX3_payMoreFrom_85 89 (by decide) ?_
        exact r_iret X rfl (rfl) dX3_payMoreFrom_89 (⟨rfl, hfin, _, _, qu1, ah1, vi1, hP4, hPF, hI4, hPE, hrow, hcol, .inr ⟨rfl, by show sh last c < lk a (chS a sh last L) fi (last, c) last c; rw [hup]; omega⟩⟩) (by omega) (by omega)
    · omega
set_option maxRecDepth 100000 in
set_option maxHeartbeats 4000000 in
theorem c_spreadCosts (g : Gx) (l : Launch) (hl : l.stackTraces = false) (ad : Nat → Nat) (F : Pic) {np nc : Nat} {pl cl pn : Nat → Int} {sh : Nat → Nat → Int} {rc py : Nat → Nat} {qu ah vi : Nat → Int} (hP : PR g ad F np nc pl cl pn sh rc py qu ah vi) (mon unp : Nat → Int) (hB : BD np nc rc mon unp) (hF : PF np nc rc mon unp pl cl pn sh) (hI : PYI np nc sh py) : Ct g l yX3_spreadCosts cX3_spreadCosts 5 none 5 0 0 [.ref (ad 200)] ad F (fun v ad' F' => v = none ∧ ad = ad' ∧ FrP F F' ∧ ∃ sh' py' qu' ah' vi', PR g ad F' np nc pl cl pn sh' rc py' qu' ah' vi' ∧ PF np nc rc mon unp pl cl pn sh' ∧ PYI np nc sh' py' ∧ ∀ d q, d < nc → q < np → (rc q).testBit d = true → SH3 np nc rc sh' d q) := by
  refine Ct_of hl rfl [some (.ref (ad 200)), none, none, none, none] (Nat.le_of_ble_eq_true rfl) (fun _ h => h) ?_
  intro M hL hN X
  subst hL
  obtain ⟨hnp, hnc⟩ := hP.lt
  have tr : ∀ (sh1 sh2 : Nat → Nat → Int) (c p : Nat), PE np nc c p sh1 sh2 → (∀ q, q < np → sm nc (sh2 q) = sm nc (sh1 q)) → (∀ d, d < nc → sm np (fun q => sh2 q d) = sm np (fun q => sh1 q d)) → (∀ d q, d < nc → q < np → un3 c p q d = false → (rc q).testBit d = true → SH3 np nc rc sh1 d q) → ∀ d q, d < nc → q < np → un3 c p q d = false → (rc q).testBit d = true → SH3 np nc rc sh2 d q := fun sh1 sh2 c p hPE hr hcl h d q hd hq hu e => by
    have hn : ¬ (c < d ∨ (c = d ∧ p ≤ q)) := fun z => by rw [un3_iff.mpr z] at hu; cases hu
    refine (h d q hd hq hu e).tr hq hd hr hcl (fun q' d' hq' hd' hu' => hPE q' d' hq' hd' ?_) (hPE q d hq hd hu)
    have hn' : ¬ (d < d' ∨ (d = d' ∧ q ≤ q')) := fun z => by rw [un3_iff.mpr z] at hu'; cases hu'
    cases hz : un3 c p q' d' with
    | false => rfl
    | true => have := un3_iff.mp hz; omega
  have outer : ∀ (m c : Nat) (F1 : Pic) (sh1 : Nat → Nat → Int) (py1 : Nat → Nat) (qu1 ah1 vi1 : Nat → Int), nc - c = m → c ≤ nc → PR g ad F1 np nc pl cl pn sh1 rc py1 qu1 ah1 vi1 → FrP F F1 → PF np nc rc mon unp pl cl pn sh1 → PYI np nc sh1 py1 → (∀ d q, d < nc → q < np → un3 c 0 q d = false → (rc q).testBit d = true → SH3 np nc rc sh1 d q) →
      V M g ad F1 0 0 2 [some (.ref (ad 200)), some (.int (zI (c : Int))), none, none, none] [] := by
    intro m
    induction m using Nat.strongRecOn with
    | _ m ih =>
      intro c F1 sh1 py1 qu1 ah1 vi1 hm hcn hP1 hFr hF1 hI1 hS
      obtain ⟨⟨i0, i1, i2, i3, i4, i5, i6, i7, i8, i9⟩, is, -, -⟩ := id hP1
      refine r_iload_n X dX3_spreadCosts_2 (by rfl) ?_
      refine r_aload_n X dX3_spreadCosts_3 (by rfl) ?_
      refine r_get X dX3_spreadCosts_4 fgX3_54_6 (by assumption) (by rfl) ?_
      refine r_icmp_ge X 70 dX3_spreadCosts_7 (by decide) (by unfold inR; omega) (by unfold inR; omega) (fun a1 => ?_) (fun a1 => ?_)
      · exact r_vret X rfl dX3_spreadCosts_70 (⟨rfl, rfl, hFr, sh1, py1, qu1, ah1, vi1, hP1, hF1, hI1, fun d q hd hq e => hS d q hd hq (by cases hz : un3 c 0 q d with | false => rfl | true => have := un3_iff.mp hz; omega) e⟩) (by omega) (by omega)
      · have hc : c < nc := by omega
        have middle : ∀ (n pot : Nat) (F1 : Pic) (sh1 : Nat → Nat → Int) (py1 : Nat → Nat) (qu1 ah1 vi1 : Nat → Int), np - pot = n → pot ≤ np → PR g ad F1 np nc pl cl pn sh1 rc py1 qu1 ah1 vi1 → FrP F F1 → PF np nc rc mon unp pl cl pn sh1 → PYI np nc sh1 py1 → (∀ d q, d < nc → q < np → un3 c pot q d = false → (rc q).testBit d = true → SH3 np nc rc sh1 d q) →
            V M g ad F1 0 0 12 [some (.ref (ad 200)), some (.int (zI (c : Int))), some (.int (zI (pot : Int))), none, none] [] := by
          intro n
          induction n using Nat.strongRecOn with
          | _ n ihm =>
            intro pot F1 sh1 py1 qu1 ah1 vi1 hn hpn hP1 hFr hF1 hI1 hS
            obtain ⟨⟨i0, i1, i2, i3, i4, i5, i6, i7, i8, i9⟩, is, -, -⟩ := id hP1
            refine r_iload_n X dX3_spreadCosts_12 (by rfl) ?_
            refine r_aload_n X dX3_spreadCosts_13 (by rfl) ?_
            refine r_get X dX3_spreadCosts_14 fgX3_50_6 (by assumption) (by rfl) ?_
            refine r_icmp_ge X 64 dX3_spreadCosts_17 (by decide) (by unfold inR; omega) (by unfold inR; omega) (fun b1 => ?_) (fun b1 => ?_)
            · refine r_iinc X dX3_spreadCosts_64 (by rfl) (by rw [hN]; decide) (by rfl) ?_
              dsimp only [List.set]
              refine r_goto X dX3_spreadCosts_67 2 (by decide) ?_
              refine r_ls (fun i v => ?_) (ih (nc - (c + 1)) (by omega) (c + 1) F1 sh1 py1 qu1 ah1 vi1 rfl (by omega) hP1 hFr hF1 hI1 (fun d q hd hq hu e => hS d q hd hq ?_ e))
              · match i with
                | 0 => exact id
                | 1 => exact id
                | 2 => exact fun h => by cases h
                | 3 => exact fun h => by cases h
                | 4 => exact fun h => by cases h
                | j + 5 => exact fun h => by cases h
              · have hn' : ¬ (c + 1 < d ∨ (c + 1 = d ∧ 0 ≤ q)) := fun z => by rw [un3_iff.mpr z] at hu; cases hu
                cases hz : un3 c pot q d with
                | false => rfl
                | true => have := un3_iff.mp hz; omega
            · have hp : pot < np := by omega
              -- one more pot is through
              have next : ∀ (F2 : Pic) (sh2 : Nat → Nat → Int) (py2 : Nat → Nat) (qu2 ah2 vi2 : Nat → Int) (w t : Int), PR g ad F2 np nc pl cl pn sh2 rc py2 qu2 ah2 vi2 → FrP F F2 → PF np nc rc mon unp pl cl pn sh2 → PYI np nc sh2 py2 → (∀ d q, d < nc → q < np → un3 c pot q d = false → (rc q).testBit d = true → SH3 np nc rc sh2 d q) → ((rc pot).testBit c = true → SH3 np nc rc sh2 c pot) →
                  V M g ad F2 0 0 58 [some (.ref (ad 200)), some (.int (zI (c : Int))), some (.int (zI (pot : Int))), some (.int (zI w)), some (.int (zI t))] [] := fun F2 sh2 py2 qu2 ah2 vi2 w t hP2 hFr2 hF2 hI2 hS2 hS9 => by
                refine r_iinc X dX3_spreadCosts_58 (by rfl) (by rw [hN]; decide) (by rfl) ?_
                dsimp only [List.set]
                refine r_goto X dX3_spreadCosts_61 12 (by decide) ?_
                refine r_ls (fun i v => ?_) (ihm (np - (pot + 1)) (by omega) (pot + 1) F2 sh2 py2 qu2 ah2 vi2 rfl (by omega) hP2 hFr2 hF2 hI2 (fun d q hd hq hu e => ?_))
                · match i with
                  | 0 => exact id
                  | 1 => exact id
                  | 2 => exact id
                  | 3 => exact fun h => by cases h
                  | 4 => exact fun h => by cases h
                  | j + 5 => exact fun h => by cases h
                · have hn' : ¬ (c < d ∨ (c = d ∧ pot + 1 ≤ q)) := fun z => by rw [un3_iff.mpr z] at hu; cases hu
                  by_cases hz : d = c ∧ q = pot
                  · rw [hz.1, hz.2] at e ⊢; exact hS9 e
                  · refine hS2 d q hd hq ?_ e
                    cases hy : un3 c pot q d with
                    | false => rfl
                    | true => have := un3_iff.mp hy; omega
              have hrb := hB.1 pot hp
              refine r_aload_n X dX3_spreadCosts_20 (by rfl) ?_
              refine r_get X dX3_spreadCosts_21 fgX3_26_6 (by assumption) (by rfl) ?_
              refine r_iload_n X dX3_spreadCosts_24 (by rfl) ?_
              refine r_iald X _ dX3_spreadCosts_25 (by assumption) (by rfl) (by omega) (by first | decide | omega) ?_
              refine r_iload_n X dX3_spreadCosts_26 (by rfl) ?_
              refine r_callSN (np := 2) X dX3_spreadCosts_27 w489 w1 ⟨by decide, by decide⟩ (by decide +kernel) X.2.1.2.2.2.2.1.2.1 w488 (c_has g _ hl ad F1 (rc pot) c (by omega) (by omega)) (by rfl) (by rfl) (by exact Nat.le_of_ble_eq_true rfl) (by decide) (by decide) (by omega) (by omega) (fun v ad' F' hK => ?_)
              obtain ⟨rfl, rfl, rfl⟩ := hK
              by_cases hbit : (rc pot).testBit c = true
              · refine W_int (bP_t hbit).symm ?_
                have inner : ∀ (n t : Nat) (F1 : Pic) (sh1 : Nat → Nat → Int) (py1 : Nat → Nat) (qu1 ah1 vi1 : Nat → Int), 1000000 - t = n → (t : Int) ≤ sh1 pot c → PR g ad F1 np nc pl cl pn sh1 rc py1 qu1 ah1 vi1 → FrP F F1 → PF np nc rc mon unp pl cl pn sh1 → PYI np nc sh1 py1 → (∀ d q, d < nc → q < np → un3 c pot q d = false → (rc q).testBit d = true → SH3 np nc rc sh1 d q) →
                    V M g ad F1 0 0 34 [some (.ref (ad 200)), some (.int (zI (c : Int))), some (.int (zI (pot : Int))), some (.int (zI 1)), some (.int (zI (t : Int)))] [] := by
                  intro n
                  induction n using Nat.strongRecOn with
                  | _ n ihi =>
                    intro t F1 sh1 py1 qu1 ah1 vi1 hn ht hP1 hFr hF1 hI1 hS
                    have hsb := hF1.shb hB hp hc
                    obtain ⟨⟨i0, i1, i2, i3, i4, i5, i6, i7, i8, i9⟩, is, -, -⟩ := id hP1
                    refine r_iload X dX3_spreadCosts_34 (by rfl) ?_
                    refine r_ldc X dX3_spreadCosts_36 w506 (1000000) rfl ?_
                    refine r_icmp_ge X 58 dX3_spreadCosts_38 (by decide) (by unfold inR; omega) (by unfold inR; omega) (fun d1 => ?_) (fun d1 => ?_)
                    · omega
                    · refine r_iload_n X dX3_spreadCosts_41 (by rfl) ?_
                      refine r_if_eq X 58 dX3_spreadCosts_42 (by decide) (by unfold inR; omega) (fun d2 => ?_) (fun d2 => ?_)
                      · omega
                      · refine r_aload_n X dX3_spreadCosts_45 (by rfl) ?_
                        refine r_iload_n X dX3_spreadCosts_46 (by rfl) ?_
                        refine r_iload_n X dX3_spreadCosts_47 (by rfl) ?_
                        refine r_callV X dX3_spreadCosts_48 kX3_75 (c_payMoreFrom g _ hl ad F1 hP1 mon unp hB hF1 hI1 pot c hp hc hbit) (by assumption) (by rfl) (by rfl) (by rfl) (by rfl) (by exact Nat.le_of_ble_eq_true rfl) (by decide) (by decide) (by omega) (by omega) (fun v ad' F2 hK => ?_)
                        obtain ⟨rfl, hFr2, sh2, py2, qu2, ah2, vi2, hP2, hF2, hI2, hPE, hrow, hcol, hv⟩ := hK
                        have hS2 := tr sh1 sh2 c pot hPE hrow hcol hS
                        rcases hv with ⟨rfl, hdone⟩ | ⟨rfl, hlt⟩
                        · refine r_istore_n X dX3_spreadCosts_51 (by rw [hN]; decide) (by rfl) ?_
                          dsimp only [List.set]
                          refine r_iinc X dX3_spreadCosts_52 (by rfl) (by rw [hN]; decide) (by rfl) ?_
                          dsimp only [List.set]
                          refine r_goto X dX3_spreadCosts_55 34 (by decide) ?_
                          refine r_iload X dX3_spreadCosts_34 (by rfl) ?_
                          refine r_ldc X dX3_spreadCosts_36 w506 (1000000) rfl ?_
                          refine r_icmp_ge X 58 dX3_spreadCosts_38 (by decide) (by unfold inR; omega) (by unfold inR; omega) (fun d3 => ?_) (fun d3 => ?_)
                          · omega
                          · refine r_iload_n X dX3_spreadCosts_41 (by rfl) ?_
                            refine r_if_eq X 58 dX3_spreadCosts_42 (by decide) (by unfold inR; omega) (fun d4 => ?_) (fun d4 => ?_)
                            · exact next F2 sh2 py2 qu2 ah2 vi2 0 _ hP2 (hFr.tr hFr2) hF2 hI2 hS2 (fun _ => hdone)
                            · exact absurd rfl d4
                        · refine r_istore_n X dX3_spreadCosts_51 (by rw [hN]; decide) (by rfl) ?_
                          dsimp only [List.set]
                          refine r_iinc X dX3_spreadCosts_52 (by rfl) (by rw [hN]; decide) (by rfl) ?_
                          dsimp only [List.set]
                          refine r_goto X dX3_spreadCosts_55 34 (by decide) ?_
                          exact ihi (1000000 - (t + 1)) (by omega) (t + 1) F2 sh2 py2 qu2 ah2 vi2 rfl (by omega) hP2 (hFr.tr hFr2) hF2 hI2 hS2
                refine r_istore_n X dX3_spreadCosts_30 (by rw [hN]; decide) (by rfl) ?_
                dsimp only [List.set]
                refine r_iconst X dX3_spreadCosts_31 rfl ?_
                refine r_istore X dX3_spreadCosts_32 (by rw [hN]; decide) (by rfl) ?_
                dsimp only [List.set]
                exact inner 1000000 0 F1 sh1 py1 qu1 ah1 vi1 rfl (hF1.1 pot c hp hc) hP1 hFr hF1 hI1 hS
              · refine W_int (bP_f hbit).symm ?_
                refine r_istore_n X dX3_spreadCosts_30 (by rw [hN]; decide) (by rfl) ?_
                dsimp only [List.set]
                refine r_iconst X dX3_spreadCosts_31 rfl ?_
                refine r_istore X dX3_spreadCosts_32 (by rw [hN]; decide) (by rfl) ?_
                dsimp only [List.set]
                refine r_iload X dX3_spreadCosts_34 (by rfl) ?_
                refine r_ldc X dX3_spreadCosts_36 w506 (1000000) rfl ?_
                refine r_icmp_ge X 58 dX3_spreadCosts_38 (by decide) (by unfold inR; omega) (by unfold inR; omega) (fun d3 => ?_) (fun d3 => ?_)
                · omega
                · refine r_iload_n X dX3_spreadCosts_41 (by rfl) ?_
                  refine r_if_eq X 58 dX3_spreadCosts_42 (by decide) (by unfold inR; omega) (fun d4 => ?_) (fun d4 => ?_)
                  · exact next F1 sh1 py1 qu1 ah1 vi1 0 _ hP1 hFr hF1 hI1 hS (fun e => absurd e hbit)
                  · exact absurd rfl d4
        refine r_iconst X dX3_spreadCosts_10 rfl ?_
        refine r_istore_n X dX3_spreadCosts_11 (by rw [hN]; decide) (by rfl) ?_
        dsimp only [List.set]
        exact middle np 0 F1 sh1 py1 qu1 ah1 vi1 rfl (by omega) hP1 hFr hF1 hI1 hS
  refine r_iconst X dX3_spreadCosts_0 rfl ?_
  refine r_istore_n X dX3_spreadCosts_1 (by rw [hN]; decide) (by rfl) ?_
  dsimp only [List.set]
  exact outer nc 0 F sh py qu ah vi rfl (by omega) hP FrP.rf hF hI (fun d q hd hq hu e => by
    exfalso
    have : un3 0 0 q d = true := un3_iff.mpr (by omega)
    rw [this] at hu; cases hu)
