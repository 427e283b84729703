/-! ===== the law: charges ===== -/
/-- the first cost, from c on, that can be charged -/
def FI (A : Nat → Nat → Int) (kf : Nat → Nat) (nk nf nc c : Nat) (fi : Int) : Prop := (fi = -1 ∧ ∀ d, c ≤ d → d < nc → ¬ CHG A kf nk nf d) ∨ ∃ j : Nat, fi = (j : Int) ∧ c ≤ j ∧ j < nc ∧ CHG A kf nk nf j ∧ ∀ d, c ≤ d → d < j → ¬ CHG A kf nk nf d
theorem FI.no {A : Nat → Nat → Int} {kf : Nat → Nat} {nk nf nc c : Nat} {fi : Int} (h : FI A kf nk nf nc (c + 1) fi) (hc : ¬ CHG A kf nk nf c) : FI A kf nk nf nc c fi := by
  rcases h with ⟨h1, h2⟩ | ⟨j, h1, h2, h3, h4, h5⟩
  · exact .inl ⟨h1, fun d a b => by
      by_cases e : d = c
      · rw [e]; exact hc
      · exact h2 d (by omega) b⟩
  · exact .inr ⟨j, h1, by omega, h3, h4, fun d a b => by
      by_cases e : d = c
      · rw [e]; exact hc
      · exact h5 d (by omega) b⟩
theorem FI.yes {A : Nat → Nat → Int} {kf : Nat → Nat} {nk nf nc c : Nat} (hc : c < nc) (h : CHG A kf nk nf c) : FI A kf nk nf nc c (c : Int) := .inr ⟨c, rfl, Nat.le_refl _, hc, h, fun d a b => by omega⟩
set_option maxRecDepth 100000 in
set_option maxHeartbeats 4000000 in
theorem c_charges (g : Gx) (l : Launch) (hl : l.stackTraces = false) (ad : Nat → Nat) (F : Pic) (a1 a2 : Nat) (td : Int) (nf nk nc : Nat) (A P : Nat → Nat → Int) (kf : Nat → Nat) (sn t : Nat) (Kp : Nat → Int) (hS : SL g ad F a1 a2 td nf nk nc A P kf sn Kp) (hI : IV td nf nk nc A kf t) (hAV : AV nf nk nc A P kf Kp) (hKV : KV td nk A) : Ct g l yL_charges cL_charges 9 (some .boolean) 11 930 51600 [.ref a1] ad F (fun v ad' F' => v = some (.int (zI 1)) ∧ ∃ nk' A' P' kf', SL g ad' F' a1 a2 td nf nk' nc A' P' kf' sn Kp ∧ IV td nf nk' nc A' kf' t ∧ AV nf nk' nc A' P' kf' Kp ∧ KV td nk' A') := by
  refine Ct_of hl rfl [some (.ref a1), none, none, none, none, none, none, none, none] (Nat.le_of_ble_eq_true rfl) (fun _ h => h) ?_
  intro M hL hN X
  subst hL
  have hb := hI.1
  refine r_aload_n X dL_charges_0 (by rfl) ?_
  refine l_payable X rfl (by omega) hS hI dL_charges_1 (by exact Nat.le_of_ble_eq_true rfl) (by omega) (by omega) (fun ad1 F1 hS1 hF => ?_)
  clear hS
  have hSb : 0 ≤ sm nc (pnC A kf nk nf nc) ∧ sm nc (pnC A kf nk nf nc) ≤ 1599984 := by
    have a := sm_nn (n := nc) (f := pnC A kf nk nf nc) (fun c hc => (hF.2.nn hc).1)
    have b := sm_le (n := nc) (f := pnC A kf nk nf nc) (h := A 12) (fun c hc => (hF.2.nn hc).2)
    have c := hI.2.2.2.2.2
    have d := sm_nn (n := nf) (f := A 4) (fun i hi => (hI.2.1 i hi).2.2.2.2.1)
    omega
  -- behind the first charge: each cost, and nothing more
  have loopB : ∀ (nk' : Nat) (A' P' : Nat → Nat → Int) (kf' : Nat → Nat), IV td nf nk' nc A' kf' t → AV nf nk' nc A' P' kf' Kp → KV td nk' A' → CB A A' kf kf' nk nk' nf nc → ∀ (m c : Nat) (ad : Nat → Nat) (F : Pic) (kc ks : Nat) (v1 v2 v3 v5 v6 v7 : Int), nc - c = m → c ≤ nc → SL g ad F a1 a2 td nf nk' nc A' P' kf' sn Kp → kc ≤ 490 + 26 * c → ks ≤ 26900 + 1452 * c →
      V M g ad F kc ks 208 [some (.ref a1), some (.int (zI v1)), some (.int (zI v2)), some (.int (zI v3)), some (.int (zI 1)), some (.int (zI v5)), some (.int (zI v6)), some (.int (zI v7)), some (.int (zI (c : Int)))] [] := by
    intro nk' A' P' kf' hI' hAV' hKV' hCB m
    induction m with
    | zero =>
      intro c ad F kc ks v1 v2 v3 v5 v6 v7 hm hc hS hkc hks
      obtain rfl : c = nc := by omega
      refine r_iload X dL_charges_208 (by rfl) ?_
      refine r_aload_n X dL_charges_210 (by rfl) ?_
      refine l_costs X rfl (by omega) hS hI' dL_charges_211 (by exact Nat.le_of_ble_eq_true rfl) (by omega) (by omega) ?_
      refine r_icmp_ge X 254 dL_charges_214 (by decide) (by unfold inR; omega) (by unfold inR; omega) (fun a => ?_) (fun a => ?_)
      · refine r_iload X dL_charges_254 (by rfl) ?_
        refine r_if_eq X 277 dL_charges_256 (by decide) (by unfold inR; omega) (fun b => ?_) (fun b => ?_)
        · omega
        · refine r_aload_n X dL_charges_259 (by rfl) ?_
          refine l_payable X rfl (by omega) hS hI' dL_charges_260 (by exact Nat.le_of_ble_eq_true rfl) (by omega) (by omega) (fun ad2 F2 hS2 hF2 => ?_)
          have h0 : sm c (pnC A' kf' nk' nf c) = 0 := sm_zero (fun d hd => hF2.pos hd (hCB.2.2 d hd))
          refine r_if_ne X 277 dL_charges_263 (by decide) (by unfold inR; omega) (fun e => ?_) (fun e => ?_)
          · exact absurd h0 e
          · refine r_aload_n X dL_charges_266 (by rfl) ?_
            refine l_charge X rfl (by omega) hS2 hI' hAV' hKV' dL_charges_267 (by exact Nat.le_of_ble_eq_true rfl) (by omega) (by omega) (fun ad3 F3 nk3 A3 P3 kf3 hS3 hI3 hAV3 hKV3 hF3 hCB3 => ?_)
            refine r_if_ne X 277 dL_charges_270 (by decide) (by unfold inR; omega) (fun f => ?_) (fun f => ?_)
            · exact absurd h0 f
            · refine r_iconst X dL_charges_273 rfl ?_
              refine r_goto X dL_charges_274 278 (by decide) ?_
              exact r_iret X rfl (rfl) dL_charges_278 (⟨rfl, nk3, A3, P3, kf3, hS3, hI3, hAV3, hKV3⟩) (by omega) (by omega)
      · omega
    | succ m ih =>
      intro c ad F kc ks v1 v2 v3 v5 v6 v7 hm hc hS hkc hks
      have hcn : c < nc := by omega
      refine r_iload X dL_charges_208 (by rfl) ?_
      refine r_aload_n X dL_charges_210 (by rfl) ?_
      refine l_costs X rfl (by omega) hS hI' dL_charges_211 (by exact Nat.le_of_ble_eq_true rfl) (by omega) (by omega) ?_
      refine r_icmp_ge X 254 dL_charges_214 (by decide) (by unfold inR; omega) (by unfold inR; omega) (fun a => ?_) (fun a => ?_)
      · omega
      · refine r_iload X dL_charges_217 (by rfl) ?_
        refine r_if_eq X 254 dL_charges_219 (by decide) (by unfold inR; omega) (fun b => ?_) (fun b => ?_)
        · omega
        · refine r_aload_n X dL_charges_222 (by rfl) ?_
          refine r_iload X dL_charges_223 (by rfl) ?_
          refine l_reason X rfl (by omega) hS hI' dL_charges_225 hcn (by exact Nat.le_of_ble_eq_true rfl) (by omega) (by omega) (fun ad2 F2 w hS2 hR => ?_)
          obtain ⟨-, r2, r3, r4⟩ := hR.r0
          refine r_iconst X dL_charges_228 rfl ?_
          refine r_icmp_eq X 245 dL_charges_229 (by decide) (by unfold inR; omega) (by unfold inR; omega) (fun e => ?_) (fun e => ?_)
          · exact absurd (r2 e) (hCB.2.2 c hcn)
          · refine r_aload_n X dL_charges_232 (by rfl) ?_
            refine r_iload X dL_charges_233 (by rfl) ?_
            refine l_wouldPay X rfl (by omega) hS2 hI' dL_charges_235 hcn (by exact Nat.le_of_ble_eq_true rfl) (by omega) (by omega) (fun ad3 F3 hS3 hF3 => ?_)
            have h0 := hF3.pos hcn (hCB.2.2 c hcn)
            refine r_if_ne X 245 dL_charges_238 (by decide) (by unfold inR; omega) (fun f => ?_) (fun f => ?_)
            · exact absurd h0 f
            · refine r_iconst X dL_charges_241 rfl ?_
              refine r_goto X dL_charges_242 246 (by decide) ?_
              refine r_istore X dL_charges_246 (by rw [hN]; decide) (by rfl) ?_
              dsimp only [List.set]
              refine r_iinc X dL_charges_248 (by rfl) (by rw [hN]; decide) (by rfl) ?_
              dsimp only [List.set]
              refine r_goto X dL_charges_251 208 (by decide) ?_
              exact ih (c + 1) ad3 F3 _ _ _ _ _ _ _ _ (by omega) (by omega) hS3 (by omega) (by omega)
  -- the charge
  have partF : ∀ (ad : Nat → Nat) (F : Pic) (kc ks : Nat) (v2 v3 : Int) (its tk hd : Int), SL g ad F a1 a2 td nf nk nc A P kf sn Kp → (0 < nc → its = A 12 0 - pnC A kf nk nf nc 0) → (0 < nf → tk = tkC A kf nk nf nc 0) → (0 < nf → hd = A 4 0) → kc ≤ 470 → ks ≤ 26146 →
      V M g ad F kc ks 146 [some (.ref a1), some (.int (zI (sm nc (pnC A kf nk nf nc)))), some (.int (zI v2)), some (.int (zI v3)), some (.int (zI 1)), some (.int (zI its)), some (.int (zI tk)), none, none] [.int (zI hd)] := fun ad F kc ks v2 v3 its tk hd hS hits htk hhd hkc hks => by
    refine r_istore X dL_charges_146 (by rw [hN]; decide) (by rfl) ?_
    dsimp only [List.set]
    refine r_iload X dL_charges_148 (by rfl) ?_
    refine r_if_eq X 202 dL_charges_150 (by decide) (by unfold inR; omega) (fun a => ?_) (fun a => ?_)
    · omega
    · refine r_aload_n X dL_charges_153 (by rfl) ?_
      refine l_charge X rfl (by omega) hS hI hAV hKV dL_charges_154 (by exact Nat.le_of_ble_eq_true rfl) (by omega) (by omega) (fun ad2 F2 nk2 A2 P2 kf2 hS2 hI2 hAV2 hKV2 hF2 hCB => ?_)
      refine r_iload_n X dL_charges_157 (by rfl) ?_
      refine r_icmp_ne X 202 dL_charges_158 (by decide) (by unfold inR; omega) (by unfold inR; omega) (fun b => ?_) (fun b => ?_)
      · exact absurd rfl b
      · have last : ∀ (kc ks : Nat), kc ≤ 490 → ks ≤ 26900 → V M g ad2 F2 kc ks 198 [some (.ref a1), some (.int (zI (sm nc (pnC A kf nk nf nc)))), some (.int (zI v2)), some (.int (zI v3)), some (.int (zI 1)), some (.int (zI its)), some (.int (zI tk)), some (.int (zI hd)), none] [] := fun kc ks hkc hks => by
          refine r_iconst X dL_charges_198 rfl ?_
          refine r_goto X dL_charges_199 203 (by decide) ?_
          refine r_istore X dL_charges_203 (by rw [hN]; decide) (by rfl) ?_
          dsimp only [List.set]
          refine r_iconst X dL_charges_205 rfl ?_
          refine r_istore X dL_charges_206 (by rw [hN]; decide) (by rfl) ?_
          dsimp only [List.set]
          exact loopB nk2 A2 P2 kf2 hI2 hAV2 hKV2 hCB nc 0 ad2 F2 kc ks _ _ _ _ _ _ (by omega) (by omega) hS2 (by omega) (by omega)
        have mid : ∀ (kc ks : Nat), kc ≤ 485 → ks ≤ 26880 → V M g ad2 F2 kc ks 178 [some (.ref a1), some (.int (zI (sm nc (pnC A kf nk nf nc)))), some (.int (zI v2)), some (.int (zI v3)), some (.int (zI 1)), some (.int (zI its)), some (.int (zI tk)), some (.int (zI hd)), none] [] := fun kc ks hkc hks => by
          refine r_aload_n X dL_charges_178 (by rfl) ?_
          refine l_funds X rfl (by omega) hS2 hI2 dL_charges_179 (by exact Nat.le_of_ble_eq_true rfl) (by omega) (by omega) ?_
          refine r_if_eq X 198 dL_charges_182 (by decide) (by unfold inR; omega) (fun c => ?_) (fun c => ?_)
          · exact last _ _ (by omega) (by omega)
          · have hnf : 0 < nf := by omega
            have e1 := hCB.2.1 0 hnf
            have e2 := htk hnf
            have e3 := hhd hnf
            have e4 := hI2.b4 hnf
            refine r_aload_n X dL_charges_185 (by rfl) ?_
            refine r_iconst X dL_charges_186 rfl ?_
            refine l_directOf X rfl (by omega) hS2 hI2 dL_charges_187 (i := 0) hnf (by exact Nat.le_of_ble_eq_true rfl) (by omega) (by omega) ?_
            refine r_iload X dL_charges_190 (by rfl) ?_
            refine r_iload X dL_charges_192 (by rfl) ?_
            refine r_iadd X dL_charges_194 ?_
            refine r_icmp_ne X 202 dL_charges_195 (by decide) (by unfold inR; omega) (by unfold inR; omega) (fun e => ?_) (fun e => ?_)
            · omega
            · exact last _ _ (by omega) (by omega)
        refine r_aload_n X dL_charges_161 (by rfl) ?_
        refine l_costs X rfl (by omega) hS2 hI2 dL_charges_162 (by exact Nat.le_of_ble_eq_true rfl) (by omega) (by omega) ?_
        refine r_if_eq X 178 dL_charges_165 (by decide) (by unfold inR; omega) (fun c => ?_) (fun c => ?_)
        · exact mid _ _ (by omega) (by omega)
        · have hnc : 0 < nc := by omega
          have e1 := hCB.1 0 hnc
          have e2 := hits hnc
          have e4 := hF.2.nn hnc
          obtain ⟨-, -, e5⟩ := hI.2.2.2.1 0 hnc
          refine r_aload_n X dL_charges_168 (by rfl) ?_
          refine r_iconst X dL_charges_169 rfl ?_
          refine l_unpaidOf X rfl (by omega) hS2 hI2 dL_charges_170 (i := 0) hnc (by exact Nat.le_of_ble_eq_true rfl) (by omega) (by omega) ?_
          refine r_iload X dL_charges_173 (by rfl) ?_
          refine r_icmp_ne X 202 dL_charges_175 (by decide) (by unfold inR; omega) (by unfold inR; omega) (fun e => ?_) (fun e => ?_)
          · omega
          · exact mid _ _ (by omega) (by omega)
  have partE : ∀ (ad : Nat → Nat) (F : Pic) (kc ks : Nat) (v2 v3 : Int) (its tk : Int), SL g ad F a1 a2 td nf nk nc A P kf sn Kp → (0 < nc → its = A 12 0 - pnC A kf nk nf nc 0) → (0 < nf → tk = tkC A kf nk nf nc 0) → kc ≤ 469 → ks ≤ 26140 →
      V M g ad F kc ks 128 [some (.ref a1), some (.int (zI (sm nc (pnC A kf nk nf nc)))), some (.int (zI v2)), some (.int (zI v3)), some (.int (zI 1)), some (.int (zI its)), none, none, none] [.int (zI tk)] := fun ad F kc ks v2 v3 its tk hS hits htk hkc hks => by
    refine r_istore X dL_charges_128 (by rw [hN]; decide) (by rfl) ?_
    dsimp only [List.set]
    refine r_aload_n X dL_charges_130 (by rfl) ?_
    refine l_funds X rfl (by omega) hS hI dL_charges_131 (by exact Nat.le_of_ble_eq_true rfl) (by omega) (by omega) ?_
    refine r_if_ne X 141 dL_charges_134 (by decide) (by unfold inR; omega) (fun a => ?_) (fun a => ?_)
    · have hnf : 0 < nf := by omega
      refine r_aload_n X dL_charges_141 (by rfl) ?_
      refine r_iconst X dL_charges_142 rfl ?_
      refine l_directOf X rfl (by omega) hS hI dL_charges_143 (i := 0) hnf (by exact Nat.le_of_ble_eq_true rfl) (by omega) (by omega) ?_
      exact partF ad F _ _ v2 v3 its tk _ hS hits htk (fun _ => rfl) (by omega) (by omega)
    · refine r_iconst X dL_charges_137 rfl ?_
      refine r_goto X dL_charges_138 146 (by decide) ?_
      exact partF ad F _ _ v2 v3 its tk 0 hS hits htk (fun z => by omega) (by omega) (by omega)
  have partD : ∀ (ad : Nat → Nat) (F : Pic) (kc ks : Nat) (v2 v3 : Int) (o5 : Option Value) (its : Int), SL g ad F a1 a2 td nf nk nc A P kf sn Kp → (0 < nc → its = A 12 0 - pnC A kf nk nf nc 0) → kc ≤ 456 → ks ≤ 25414 →
      V M g ad F kc ks 110 [some (.ref a1), some (.int (zI (sm nc (pnC A kf nk nf nc)))), some (.int (zI v2)), some (.int (zI v3)), some (.int (zI 1)), o5, none, none, none] [.int (zI its)] := fun ad F kc ks v2 v3 o5 its hS hits hkc hks => by
    refine r_istore X dL_charges_110 (by rw [hN]; decide) (by rfl) ?_
    dsimp only [List.set]
    refine r_aload_n X dL_charges_112 (by rfl) ?_
    refine l_funds X rfl (by omega) hS hI dL_charges_113 (by exact Nat.le_of_ble_eq_true rfl) (by omega) (by omega) ?_
    refine r_if_ne X 123 dL_charges_116 (by decide) (by unfold inR; omega) (fun a => ?_) (fun a => ?_)
    · have hnf : 0 < nf := by omega
      refine r_aload_n X dL_charges_123 (by rfl) ?_
      refine r_iconst X dL_charges_124 rfl ?_
      refine l_wouldTake X rfl (by omega) hS hI dL_charges_125 (i := 0) hnf (by exact Nat.le_of_ble_eq_true rfl) (by omega) (by omega) (fun ad2 F2 hS2 hF2 => ?_)
      exact partE ad2 F2 _ _ v2 v3 its _ hS2 hits (fun _ => rfl) (by omega) (by omega)
    · refine r_iconst X dL_charges_119 rfl ?_
      refine r_goto X dL_charges_120 128 (by decide) ?_
      exact partE ad F _ _ v2 v3 its 0 hS hits (fun z => by omega) (by omega) (by omega)
  have partC : ∀ (ad : Nat → Nat) (F : Pic) (kc ks : Nat) (v2 v3 : Int) (o5 : Option Value), SL g ad F a1 a2 td nf nk nc A P kf sn Kp → kc ≤ 442 → ks ≤ 24680 →
      V M g ad F kc ks 81 [some (.ref a1), some (.int (zI (sm nc (pnC A kf nk nf nc)))), some (.int (zI v2)), some (.int (zI v3)), some (.int (zI 1)), o5, none, none, none] [] := fun ad F kc ks v2 v3 o5 hS hkc hks => by
    refine r_iconst X dL_charges_81 rfl ?_
    refine r_goto X dL_charges_82 86 (by decide) ?_
    refine r_istore X dL_charges_86 (by rw [hN]; decide) (by rfl) ?_
    dsimp only [List.set]
    refine r_aload_n X dL_charges_88 (by rfl) ?_
    refine l_costs X rfl (by omega) hS hI dL_charges_89 (by exact Nat.le_of_ble_eq_true rfl) (by omega) (by omega) ?_
    refine r_if_ne X 99 dL_charges_92 (by decide) (by unfold inR; omega) (fun a => ?_) (fun a => ?_)
    · have hnc : 0 < nc := by omega
      refine r_aload_n X dL_charges_99 (by rfl) ?_
      refine r_iconst X dL_charges_100 rfl ?_
      refine l_unpaidOf X rfl (by omega) hS hI dL_charges_101 (i := 0) hnc (by exact Nat.le_of_ble_eq_true rfl) (by omega) (by omega) ?_
      refine r_aload_n X dL_charges_104 (by rfl) ?_
      refine r_iconst X dL_charges_105 rfl ?_
      refine l_wouldPay X rfl (by omega) hS hI dL_charges_106 (i := 0) hnc (by exact Nat.le_of_ble_eq_true rfl) (by omega) (by omega) (fun ad2 F2 hS2 hF2 => ?_)
      refine r_isub X dL_charges_109 ?_
      exact partD ad2 F2 _ _ v2 v3 o5 _ hS2 (fun _ => rfl) (by omega) (by omega)
    · refine r_iconst X dL_charges_95 rfl ?_
      refine r_goto X dL_charges_96 110 (by decide) ?_
      exact partD ad F _ _ v2 v3 o5 0 hS (fun z => by omega) (by omega) (by omega)
  have partB : ∀ (ad : Nat → Nat) (F : Pic) (kc ks : Nat) (o5 : Option Value) (fi : Int), SL g ad F a1 a2 td nf nk nc A P kf sn Kp → FI A kf nk nf nc 0 fi → kc ≤ 428 → ks ≤ 23952 →
      V M g ad F kc ks 57 [some (.ref a1), some (.int (zI (sm nc (pnC A kf nk nf nc)))), some (.int (zI (sm nc (pnC A kf nk nf nc)))), some (.int (zI fi)), some (.int (zI 1)), o5, none, none, none] [] := fun ad F kc ks o5 fi hS hfi hkc hks => by
    have hfb : -1 ≤ fi ∧ fi < 16 := by
      rcases hfi with ⟨z, -⟩ | ⟨j, z, -, z2, -⟩ <;> omega
    refine r_iload_n X dL_charges_57 (by rfl) ?_
    refine r_iload_n X dL_charges_58 (by rfl) ?_
    refine r_icmp_ne X 85 dL_charges_59 (by decide) (by unfold inR; omega) (by unfold inR; omega) (fun a => ?_) (fun a => ?_)
    · exact absurd rfl a
    · refine r_iload_n X dL_charges_62 (by rfl) ?_
      refine r_if_ge X 73 dL_charges_63 (by decide) (by unfold inR; omega) (fun b => ?_) (fun b => ?_)
      · obtain ⟨j, rfl, -, j2, j3, j4⟩ : ∃ j : Nat, fi = (j : Int) ∧ 0 ≤ j ∧ j < nc ∧ CHG A kf nk nf j ∧ ∀ d, 0 ≤ d → d < j → ¬ CHG A kf nk nf d := by
          rcases hfi with ⟨z, -⟩ | z
          · omega
          · exact z
        have hpos := hF.first hI j2 j3 (fun d hd => j4 d (Nat.zero_le _) hd)
        have hnn := hF.2.nn j2
        obtain ⟨-, -, e5⟩ := hI.2.2.2.1 j j2
        refine r_aload_n X dL_charges_73 (by rfl) ?_
        refine r_iload_n X dL_charges_74 (by rfl) ?_
        refine l_wouldPay X rfl (by omega) hS hI dL_charges_75 j2 (by exact Nat.le_of_ble_eq_true rfl) (by omega) (by omega) (fun ad2 F2 hS2 hF2 => ?_)
        refine r_if_le X 85 dL_charges_78 (by decide) (by unfold inR; omega) (fun c => ?_) (fun c => ?_)
        · omega
        · exact partC ad2 F2 _ _ _ _ o5 hS2 (by omega) (by omega)
      · have h0 : sm nc (pnC A kf nk nf nc) = 0 := by
          rcases hfi with ⟨-, z⟩ | ⟨j, z, -⟩
          · exact sm_zero (fun d hd => hF.pos hd (z d (Nat.zero_le _) hd))
          · omega
        refine r_iload_n X dL_charges_66 (by rfl) ?_
        refine r_if_ne X 85 dL_charges_67 (by decide) (by unfold inR; omega) (fun c => ?_) (fun c => ?_)
        · exact absurd h0 c
        · refine r_goto X dL_charges_70 81 (by decide) ?_
          exact partC ad F _ _ _ _ o5 hS (by omega) (by omega)
  -- the costs, from behind
  have loopA : ∀ (c : Nat) (ad : Nat → Nat) (F : Pic) (kc ks : Nat) (w fi z : Int), c ≤ nc → SL g ad F a1 a2 td nf nk nc A P kf sn Kp → w = sm nc (pnC A kf nk nf nc) - sm c (pnC A kf nk nf nc) → FI A kf nk nf nc c fi → z = (c : Int) - 1 → kc + 26 * c ≤ 428 → ks + 1452 * c ≤ 23952 →
      V M g ad F kc ks 20 [some (.ref a1), some (.int (zI (sm nc (pnC A kf nk nf nc)))), some (.int (zI w)), some (.int (zI fi)), some (.int (zI 1)), some (.int (zI z)), none, none, none] [] := by
    intro c
    induction c with
    | zero =>
      intro ad F kc ks w fi z hc hS hw hfi hz hkc hks
      have e0 : sm 0 (pnC A kf nk nf nc) = 0 := rfl
      obtain rfl : w = sm nc (pnC A kf nk nf nc) := by omega
      refine r_iload X dL_charges_20 (by rfl) ?_
      refine r_if_lt X 57 dL_charges_22 (by decide) (by unfold inR; omega) (fun a => ?_) (fun a => ?_)
      · exact partB ad F kc ks _ fi hS hfi (by omega) (by omega)
      · omega
    | succ c ih =>
      intro ad F kc ks w fi z hc hS hw hfi hz hkc hks
      obtain rfl : z = (c : Int) := by omega
      have hcn : c < nc := by omega
      have es : sm (c + 1) (pnC A kf nk nf nc) = sm c (pnC A kf nk nf nc) + pnC A kf nk nf nc c := rfl
      refine r_iload X dL_charges_20 (by rfl) ?_
      refine r_if_lt X 57 dL_charges_22 (by decide) (by unfold inR; omega) (fun a => ?_) (fun a => ?_)
      · omega
      · refine r_iload_n X dL_charges_25 (by rfl) ?_
        refine r_aload_n X dL_charges_26 (by rfl) ?_
        refine r_iload X dL_charges_27 (by rfl) ?_
        refine l_wouldPay X rfl (by omega) hS hI dL_charges_29 hcn (by exact Nat.le_of_ble_eq_true rfl) (by omega) (by omega) (fun ad2 F2 hS2 hF2 => ?_)
        refine r_iadd X dL_charges_32 ?_
        refine r_istore_n X dL_charges_33 (by rw [hN]; decide) (by rfl) ?_
        dsimp only [List.set]
        refine r_aload_n X dL_charges_34 (by rfl) ?_
        refine r_iload X dL_charges_35 (by rfl) ?_
        refine l_reason X rfl (by omega) hS2 hI dL_charges_37 hcn (by exact Nat.le_of_ble_eq_true rfl) (by omega) (by omega) (fun ad3 F3 w3 hS3 hR => ?_)
        obtain ⟨-, r2, r3, r4⟩ := hR.r0
        refine r_iconst X dL_charges_40 rfl ?_
        refine r_icmp_ne X 49 dL_charges_41 (by decide) (by unfold inR; omega) (by unfold inR; omega) (fun b => ?_) (fun b => ?_)
        · refine r_iload_n X dL_charges_49 (by rfl) ?_
          refine r_istore_n X dL_charges_50 (by rw [hN]; decide) (by rfl) ?_
          dsimp only [List.set]
          refine r_iinc X dL_charges_51 (by rfl) (by rw [hN]; decide) (by rfl) ?_
          dsimp only [List.set]
          refine r_goto X dL_charges_54 20 (by decide) ?_
          exact ih ad3 F3 _ _ _ fi _ (by omega) hS3 (by rw [hw]; omega) (hfi.no (fun q => b (hR.r3 hI q))) (by omega) (by omega) (by omega)
        · refine r_iload X dL_charges_44 (by rfl) ?_
          refine r_goto X dL_charges_46 50 (by decide) ?_
          refine r_istore_n X dL_charges_50 (by rw [hN]; decide) (by rfl) ?_
          dsimp only [List.set]
          refine r_iinc X dL_charges_51 (by rfl) (by rw [hN]; decide) (by rfl) ?_
          dsimp only [List.set]
          refine r_goto X dL_charges_54 20 (by decide) ?_
          exact ih ad3 F3 _ _ _ _ _ (by omega) hS3 (by rw [hw]; omega) (FI.yes hcn (r2 b)) (by omega) (by omega) (by omega)
  refine r_istore_n X dL_charges_4 (by rw [hN]; decide) (by rfl) ?_
  dsimp only [List.set]
  refine r_iconst X dL_charges_5 rfl ?_
  refine r_istore_n X dL_charges_6 (by rw [hN]; decide) (by rfl) ?_
  dsimp only [List.set]
  refine r_iconst X dL_charges_7 rfl ?_
  refine r_istore_n X dL_charges_8 (by rw [hN]; decide) (by rfl) ?_
  dsimp only [List.set]
  refine r_iconst X dL_charges_9 rfl ?_
  refine r_istore X dL_charges_10 (by rw [hN]; decide) (by rfl) ?_
  dsimp only [List.set]
  refine r_aload_n X dL_charges_12 (by rfl) ?_
  refine l_costs X rfl (by omega) hS1 hI dL_charges_13 (by exact Nat.le_of_ble_eq_true rfl) (by omega) (by omega) ?_
  refine r_iconst X dL_charges_16 rfl ?_
  refine r_isub X dL_charges_17 ?_
  refine r_istore X dL_charges_18 (by rw [hN]; decide) (by rfl) ?_
  dsimp only [List.set]
  exact loopA nc ad1 F1 _ _ 0 (-1) _ (Nat.le_refl _) hS1 (by omega) (.inl ⟨rfl, fun d a b => by omega⟩) rfl (by omega) (by omega)
