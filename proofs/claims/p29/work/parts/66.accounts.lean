/-! ===== the law: accounts ===== -/
set_option maxRecDepth 100000 in
set_option maxHeartbeats 4000000 in
theorem c_accounts (g : Gx) (l : Launch) (hl : l.stackTraces = false) (ad : Nat → Nat) (F : Pic) (a1 a2 : Nat) (td : Int) (nf nk nc : Nat) (A P : Nat → Nat → Int) (kf : Nat → Nat) (sn t : Nat) (Kp : Nat → Int) (hS : SL g ad F a1 a2 td nf nk nc A P kf sn Kp) (hI : IV td nf nk nc A kf t) (hAV : AV nf nk nc A P kf Kp) (hKV : KV td nk A) : Ct g l yL_accounts cL_accounts 9 (some .boolean) 11 1900 77400 [.ref a1, .ref a2] ad F (fun v ad' F' => v = some (.int (zI 1)) ∧ SL g ad' F' a1 a2 td nf nk nc A P kf sn Kp) := by
  refine Ct_of hl rfl [some (.ref a1), some (.ref a2), none, none, none, none, none, none, none] (Nat.le_of_ble_eq_true rfl) (fun _ h => h) ?_
  intro M hL hN X
  subst hL
  have hb := hI.1
  have h4b : 0 ≤ sm nf (A 4) ∧ sm nf (A 4) ≤ 1599984 := by
    have a := sm_nn (n := nf) (f := A 4) (fun i hi => (hI.2.1 i hi).2.2.2.2.1)
    have b := sm_nn (n := nc) (f := A 12) (fun i hi => (hI.2.2.2.1 i hi).2.2.1)
    have c := hI.2.2.2.2.2
    omega
  -- the funds' part of what would be paid
  have loop4 : ∀ (m i : Nat) (ad : Nat → Nat) (F : Pic) (kc ks : Nat) (w : Int) (o7 o8 : Option Value), nf - i = m → i ≤ nf → SL g ad F a1 a2 td nf nk nc A P kf sn Kp → (0 < i → FC2 A kf nk nf nc) → (0 < nc → FC1 A kf nk nf nc) → w = sm nc (pnC A kf nk nf nc) - sm i (tkC A kf nk nf nc) → kc ≤ 1798 + 13 * i → ks ≤ 72996 + 726 * i →
      V M g ad F kc ks 456 [some (.ref a1), some (.ref a2), some (.int (zI (sm nf (A 4)))), some (.int (zI (sm nc (fun e => sm nf (P e))))), some (.int (zI w)), some (.int (zI 1)), some (.int (zI (i : Int))), o7, o8] [] := by
    intro m
    induction m with
    | zero =>
      intro i ad F kc ks w o7 o8 hm hi hS h2 h1 hw hkc hks
      obtain rfl : i = nf := by omega
      have hw0 : w = 0 := by
        by_cases z : 0 < i
        · rw [hw, FC2.total hI (h2 z)]; omega
        · by_cases z2 : 0 < nc
          · rw [hw, (h1 z2).none hI (by omega), show i = 0 by omega]; rfl
          · rw [hw, show i = 0 by omega, show nc = 0 by omega]; rfl
      have hpd := hAV.2.2
      refine r_iload X dL_accounts_456 (by rfl) ?_
      refine r_aload_n X dL_accounts_458 (by rfl) ?_
      refine l_funds X rfl (by omega) hS hI dL_accounts_459 (by exact Nat.le_of_ble_eq_true rfl) (by omega) (by omega) ?_
      refine r_icmp_ge X 482 dL_accounts_462 (by decide) (by unfold inR; omega) (by unfold inR; omega) (fun a => ?_) (fun a => ?_)
      · refine r_iload X dL_accounts_482 (by rfl) ?_
        refine r_if_eq X 501 dL_accounts_484 (by decide) (by unfold inR; omega) (fun b => ?_) (fun b => ?_)
        · omega
        · refine r_iload X dL_accounts_487 (by rfl) ?_
          refine r_if_ne X 501 dL_accounts_489 (by decide) (by unfold inR; omega) (fun c => ?_) (fun c => ?_)
          · exact absurd hw0 c
          · refine r_iload_n X dL_accounts_492 (by rfl) ?_
            refine r_iload_n X dL_accounts_493 (by rfl) ?_
            rw [← hpd]
            refine r_icmp_ne X 501 dL_accounts_494 (by decide) (by unfold inR; omega) (by unfold inR; omega) (fun e => ?_) (fun e => ?_)
            · exact absurd rfl e
            · refine r_iconst X dL_accounts_497 rfl ?_
              refine r_goto X dL_accounts_498 502 (by decide) ?_
              exact r_iret X rfl (rfl) dL_accounts_502 (⟨rfl, hS⟩) (by omega) (by omega)
      · omega
    | succ m ih =>
      intro i ad F kc ks w o7 o8 hm hi hS h2 h1 hw hkc hks
      refine r_iload X dL_accounts_456 (by rfl) ?_
      refine r_aload_n X dL_accounts_458 (by rfl) ?_
      refine l_funds X rfl (by omega) hS hI dL_accounts_459 (by exact Nat.le_of_ble_eq_true rfl) (by omega) (by omega) ?_
      refine r_icmp_ge X 482 dL_accounts_462 (by decide) (by unfold inR; omega) (by unfold inR; omega) (fun a => ?_) (fun a => ?_)
      · omega
      · refine r_iload X dL_accounts_465 (by rfl) ?_
        refine r_aload_n X dL_accounts_467 (by rfl) ?_
        refine r_iload X dL_accounts_468 (by rfl) ?_
        refine l_wouldTake X rfl (by omega) hS hI dL_accounts_470 (by omega) (by exact Nat.le_of_ble_eq_true rfl) (by omega) (by omega) (fun ad2 F2 hS2 hF2 => ?_)
        refine r_isub X dL_accounts_473 ?_
        refine r_istore X dL_accounts_474 (by rw [hN]; decide) (by rfl) ?_
        dsimp only [List.set]
        refine r_iinc X dL_accounts_476 (by rfl) (by rw [hN]; decide) (by rfl) ?_
        dsimp only [List.set]
        refine r_goto X dL_accounts_479 456 (by decide) ?_
        exact ih (i + 1) ad2 F2 _ _ _ o7 o8 (by omega) (by omega) hS2 (fun _ => hF2) h1 (by rw [hw]; show _ = _ - (sm i (tkC A kf nk nf nc) + tkC A kf nk nf nc i); omega) (by omega) (by omega)
  -- the costs
  have loop3 : ∀ (m c : Nat) (ad : Nat → Nat) (F : Pic) (kc ks : Nat) (o7 o8 : Option Value), nc - c = m → c ≤ nc → SL g ad F a1 a2 td nf nk nc A P kf sn Kp → (0 < c → FC1 A kf nk nf nc) → kc ≤ 102 + 106 * c → ks ≤ 612 + 4524 * c →
      V M g ad F kc ks 234 [some (.ref a1), some (.ref a2), some (.int (zI (sm nf (A 4)))), some (.int (zI (sm c (fun e => sm nf (P e))))), some (.int (zI (sm c (pnC A kf nk nf nc)))), some (.int (zI 1)), some (.int (zI (c : Int))), o7, o8] [] := by
    intro m
    induction m with
    | zero =>
      intro c ad F kc ks o7 o8 hm hc hS h1 hkc hks
      obtain rfl : c = nc := by omega
      refine r_iload X dL_accounts_234 (by rfl) ?_
      refine r_aload_n X dL_accounts_236 (by rfl) ?_
      refine l_costs X rfl (by omega) hS hI dL_accounts_237 (by exact Nat.le_of_ble_eq_true rfl) (by omega) (by omega) ?_
      refine r_icmp_ge X 453 dL_accounts_240 (by decide) (by unfold inR; omega) (by unfold inR; omega) (fun a => ?_) (fun a => ?_)
      · refine r_iconst X dL_accounts_453 rfl ?_
        refine r_istore X dL_accounts_454 (by rw [hN]; decide) (by rfl) ?_
        dsimp only [List.set]
        exact loop4 nf 0 ad F kc ks _ o7 o8 (by omega) (by omega) hS (fun z => by omega) h1 (by show _ = _ - (0 : Int); omega) (by omega) (by omega)
      · omega
    | succ m ih =>
      intro c ad F kc ks o7 o8 hm hc hS h1 hkc hks
      have hcn : c < nc := by omega
      obtain ⟨k1, k2, k3, k4⟩ := hAV.2.1 c hcn
      obtain ⟨-, -, u1, u2⟩ := hI.2.2.2.1 c hcn
      have kp : 0 ≤ sm nf (P c) := sm_nn (fun f _ => k3 f)
      -- behind the funds' shares
      have after : ∀ (kc ks : Nat), kc ≤ 102 + 106 * c + 24 → ks ≤ 612 + 4524 * c + 144 → V M g ad F kc ks 305 [some (.ref a1), some (.ref a2), some (.int (zI (sm nf (A 4)))), some (.int (zI (sm c (fun e => sm nf (P e))))), some (.int (zI (sm c (pnC A kf nk nf nc)))), some (.int (zI 1)), some (.int (zI (c : Int))), some (.int (zI (sm nf (P c)))), some (.int (zI (nf : Int)))] [] := fun kc ks hkc hks => by
        refine r_iload_n X dL_accounts_305 (by rfl) ?_
        refine r_iload X dL_accounts_306 (by rfl) ?_
        refine r_iadd X dL_accounts_308 ?_
        refine r_istore_n X dL_accounts_309 (by rw [hN]; decide) (by rfl) ?_
        dsimp only [List.set]
        refine r_iload X dL_accounts_310 (by rfl) ?_
        refine r_aload_n X dL_accounts_312 (by rfl) ?_
        refine r_iload X dL_accounts_313 (by rfl) ?_
        refine l_wouldPay X rfl (by omega) hS hI dL_accounts_315 hcn (by exact Nat.le_of_ble_eq_true rfl) (by omega) (by omega) (fun ad2 F2 hS2 hF => ?_)
        have hpn := hF.2.nn hcn
        refine r_iadd X dL_accounts_318 ?_
        refine r_istore X dL_accounts_319 (by rw [hN]; decide) (by rfl) ?_
        dsimp only [List.set]
        refine r_iload X dL_accounts_321 (by rfl) ?_
        refine r_if_eq X 413 dL_accounts_323 (by decide) (by unfold inR; omega) (fun a => ?_) (fun a => ?_)
        · omega
        · refine r_aload_n X dL_accounts_326 (by rfl) ?_
          refine r_iload X dL_accounts_327 (by rfl) ?_
          refine l_unpaidOf X rfl (by omega) hS2 hI dL_accounts_329 hcn (by exact Nat.le_of_ble_eq_true rfl) (by omega) (by omega) ?_
          refine r_if_lt X 413 dL_accounts_332 (by decide) (by unfold inR; omega) (fun b => ?_) (fun b => ?_)
          · omega
          · refine r_iload X dL_accounts_335 (by rfl) ?_
            refine r_aload_n X dL_accounts_337 (by rfl) ?_
            refine r_iload X dL_accounts_338 (by rfl) ?_
            refine l_unpaidOf X rfl (by omega) hS2 hI dL_accounts_340 hcn (by exact Nat.le_of_ble_eq_true rfl) (by omega) (by omega) ?_
            refine r_iadd X dL_accounts_343 ?_
            refine r_aload_n X dL_accounts_344 (by rfl) ?_
            refine r_bipush X dL_accounts_345 (by decide) ?_
            refine r_iload X dL_accounts_347 (by rfl) ?_
            refine r_iadd X dL_accounts_349 ?_
            refine l_kld X hS2 (16 + c) dL_accounts_350 (by omega) (by omega) ?_
            refine r_icmp_ne X 413 dL_accounts_351 (by decide) (by unfold inR; omega) (by unfold inR; omega) (fun e => ?_) (fun e => ?_)
            · exact absurd k1 e
            · refine r_aload_n X dL_accounts_354 (by rfl) ?_
              refine r_iload X dL_accounts_355 (by rfl) ?_
              refine l_wouldPay X rfl (by omega) hS2 hI dL_accounts_357 hcn (by exact Nat.le_of_ble_eq_true rfl) (by omega) (by omega) (fun ad3 F3 hS3 hF3 => ?_)
              refine r_if_lt X 413 dL_accounts_360 (by decide) (by unfold inR; omega) (fun e2 => ?_) (fun e2 => ?_)
              · omega
              · refine r_aload_n X dL_accounts_363 (by rfl) ?_
                refine r_iload X dL_accounts_364 (by rfl) ?_
                refine l_wouldPay X rfl (by omega) hS3 hI dL_accounts_366 hcn (by exact Nat.le_of_ble_eq_true rfl) (by omega) (by omega) (fun ad4 F4 hS4 hF4 => ?_)
                refine r_aload_n X dL_accounts_369 (by rfl) ?_
                refine r_iload X dL_accounts_370 (by rfl) ?_
                refine l_unpaidOf X rfl (by omega) hS4 hI dL_accounts_372 hcn (by exact Nat.le_of_ble_eq_true rfl) (by omega) (by omega) ?_
                refine r_icmp_gt X 413 dL_accounts_375 (by decide) (by unfold inR; omega) (by unfold inR; omega) (fun e3 => ?_) (fun e3 => ?_)
                · omega
                · refine r_aload_n X dL_accounts_378 (by rfl) ?_
                  refine r_iload X dL_accounts_379 (by rfl) ?_
                  refine l_reason X rfl (by omega) hS4 hI dL_accounts_381 hcn (by exact Nat.le_of_ble_eq_true rfl) (by omega) (by omega) (fun ad5 F5 w hS5 hR => ?_)
                  obtain ⟨r1, r2, r3, r4⟩ := hR.r0
                  -- the two tests agree
                  have fin : ∀ (kc ks : Nat), kc ≤ 102 + 106 * c + 24 + 39 + 13 + 4 → ks ≤ 612 + 4524 * c + 144 + 2178 + 726 + 24 → V M g ad5 F5 kc ks 409 [some (.ref a1), some (.ref a2), some (.int (zI (sm nf (A 4)))), some (.int (zI (sm (c + 1) (fun e => sm nf (P e))))), some (.int (zI (sm (c + 1) (pnC A kf nk nf nc)))), some (.int (zI 1)), some (.int (zI (c : Int))), some (.int (zI (sm nf (P c)))), some (.int (zI (nf : Int)))] [] := fun kc ks hkc hks => by
                    refine r_iconst X dL_accounts_409 rfl ?_
                    refine r_goto X dL_accounts_410 414 (by decide) ?_
                    refine r_istore X dL_accounts_414 (by rw [hN]; decide) (by rfl) ?_
                    dsimp only [List.set]
                    refine r_iload X dL_accounts_416 (by rfl) ?_
                    refine r_if_eq X 444 dL_accounts_418 (by decide) (by unfold inR; omega) (fun f1 => ?_) (fun f1 => ?_)
                    · omega
                    · refine r_aload_n X dL_accounts_421 (by rfl) ?_
                      refine r_iload X dL_accounts_422 (by rfl) ?_
                      refine l_wouldPay X rfl (by omega) hS5 hI dL_accounts_424 hcn (by exact Nat.le_of_ble_eq_true rfl) (by omega) (by omega) (fun ad6 F6 hS6 hF6 => ?_)
                      have last : ∀ (ad7 : Nat → Nat) (F7 : Pic) (kc ks : Nat), SL g ad7 F7 a1 a2 td nf nk nc A P kf sn Kp → kc ≤ 102 + 106 * (c + 1) → ks ≤ 612 + 4524 * (c + 1) → V M g ad7 F7 kc ks 440 [some (.ref a1), some (.ref a2), some (.int (zI (sm nf (A 4)))), some (.int (zI (sm (c + 1) (fun e => sm nf (P e))))), some (.int (zI (sm (c + 1) (pnC A kf nk nf nc)))), some (.int (zI 1)), some (.int (zI (c : Int))), some (.int (zI (sm nf (P c)))), some (.int (zI (nf : Int)))] [] := fun ad7 F7 kc ks hS7 hkc hks => by
                        refine r_iconst X dL_accounts_440 rfl ?_
                        refine r_goto X dL_accounts_441 445 (by decide) ?_
                        refine r_istore X dL_accounts_445 (by rw [hN]; decide) (by rfl) ?_
                        dsimp only [List.set]
                        refine r_iinc X dL_accounts_447 (by rfl) (by rw [hN]; decide) (by rfl) ?_
                        dsimp only [List.set]
                        refine r_goto X dL_accounts_450 234 (by decide) ?_
                        exact ih (c + 1) ad7 F7 kc ks _ _ (by omega) (by omega) hS7 (fun _ => hF) hkc hks
                      refine r_if_eq X 440 dL_accounts_427 (by decide) (by unfold inR; omega) (fun f2 => ?_) (fun f2 => ?_)
                      · exact last ad6 F6 _ _ hS6 (by omega) (by omega)
                      · refine r_aload_n X dL_accounts_430 (by rfl) ?_
                        refine r_iload X dL_accounts_431 (by rfl) ?_
                        refine l_reason X rfl (by omega) hS6 hI dL_accounts_433 hcn (by exact Nat.le_of_ble_eq_true rfl) (by omega) (by omega) (fun ad7 F7 w2 hS7 hR2 => ?_)
                        have hw2 : w2 = 3 := hR2.r3 hI (Classical.byContradiction (fun z => f2 (hF.pos hcn z)))
                        refine r_iconst X dL_accounts_436 rfl ?_
                        refine r_icmp_ne X 444 dL_accounts_437 (by decide) (by unfold inR; omega) (by unfold inR; omega) (fun f3 => ?_) (fun f3 => ?_)
                        · exact absurd hw2 f3
                        · exact last ad7 F7 _ _ hS7 (by omega) (by omega)
                  refine r_if_ne X 391 dL_accounts_384 (by decide) (by unfold inR; omega) (fun g1 => ?_) (fun g1 => ?_)
                  · refine r_iconst X dL_accounts_391 rfl ?_
                    refine r_aload_n X dL_accounts_392 (by rfl) ?_
                    refine r_iload X dL_accounts_393 (by rfl) ?_
                    refine l_unpaidOf X rfl (by omega) hS5 hI dL_accounts_395 hcn (by exact Nat.le_of_ble_eq_true rfl) (by omega) (by omega) ?_
                    refine r_if_ne X 405 dL_accounts_398 (by decide) (by unfold inR; omega) (fun g2 => ?_) (fun g2 => ?_)
                    · refine r_iconst X dL_accounts_405 rfl ?_
                      refine r_icmp_ne X 413 dL_accounts_406 (by decide) (by unfold inR; omega) (by unfold inR; omega) (fun g3 => ?_) (fun g3 => ?_)
                      · omega
                      · exact fin _ _ (by omega) (by omega)
                    · exact absurd (r1.mpr g2) g1
                  · refine r_iconst X dL_accounts_387 rfl ?_
                    refine r_goto X dL_accounts_388 392 (by decide) ?_
                    refine r_aload_n X dL_accounts_392 (by rfl) ?_
                    refine r_iload X dL_accounts_393 (by rfl) ?_
                    refine l_unpaidOf X rfl (by omega) hS5 hI dL_accounts_395 hcn (by exact Nat.le_of_ble_eq_true rfl) (by omega) (by omega) ?_
                    refine r_if_ne X 405 dL_accounts_398 (by decide) (by unfold inR; omega) (fun g2 => ?_) (fun g2 => ?_)
                    · exact absurd (r1.mp g1) g2
                    · refine r_iconst X dL_accounts_401 rfl ?_
                      refine r_goto X dL_accounts_402 406 (by decide) ?_
                      refine r_icmp_ne X 413 dL_accounts_406 (by decide) (by unfold inR; omega) (by unfold inR; omega) (fun g3 => ?_) (fun g3 => ?_)
                      · omega
                      · exact fin _ _ (by omega) (by omega)
      have inner : ∀ (m j : Nat) (kc ks : Nat), nf - j = m → j ≤ nf → kc ≤ 102 + 106 * c + 4 * j → ks ≤ 612 + 4524 * c + 24 * j → V M g ad F kc ks 254 [some (.ref a1), some (.ref a2), some (.int (zI (sm nf (A 4)))), some (.int (zI (sm c (fun e => sm nf (P e))))), some (.int (zI (sm c (pnC A kf nk nf nc)))), some (.int (zI 1)), some (.int (zI (c : Int))), some (.int (zI (sm j (P c)))), some (.int (zI (j : Int)))] [] := by
        intro m
        induction m with
        | zero =>
          intro j kc ks hm hj hkc hks
          obtain rfl : j = nf := by omega
          refine r_iload X dL_accounts_254 (by rfl) ?_
          refine r_aload_n X dL_accounts_256 (by rfl) ?_
          refine l_funds X rfl (by omega) hS hI dL_accounts_257 (by exact Nat.le_of_ble_eq_true rfl) (by omega) (by omega) ?_
          refine r_icmp_ge X 305 dL_accounts_260 (by decide) (by unfold inR; omega) (by unfold inR; omega) (fun a => ?_) (fun a => ?_)
          · exact after kc ks (by omega) (by omega)
          · omega
        | succ m ih2 =>
          intro j kc ks hm hj hkc hks
          have hp := k3 j
          have hp2 : P c j ≤ 99999 := by
            have := sm_one (n := nf) (f := P c) (fun f _ => k3 f) (k := j) (by omega)
            omega
          refine r_iload X dL_accounts_254 (by rfl) ?_
          refine r_aload_n X dL_accounts_256 (by rfl) ?_
          refine l_funds X rfl (by omega) hS hI dL_accounts_257 (by exact Nat.le_of_ble_eq_true rfl) (by omega) (by omega) ?_
          refine r_icmp_ge X 305 dL_accounts_260 (by decide) (by unfold inR; omega) (by unfold inR; omega) (fun a => ?_) (fun a => ?_)
          · omega
          · refine r_iload X dL_accounts_263 (by rfl) ?_
            refine r_aload_n X dL_accounts_265 (by rfl) ?_
            refine r_iload X dL_accounts_266 (by rfl) ?_
            refine r_iload X dL_accounts_268 (by rfl) ?_
            refine l_paidBy X rfl (by omega) hS hI dL_accounts_270 hcn (by omega) (by exact Nat.le_of_ble_eq_true rfl) (by omega) (by omega) ?_
            refine r_iadd X dL_accounts_273 ?_
            refine r_istore X dL_accounts_274 (by rw [hN]; decide) (by rfl) ?_
            dsimp only [List.set]
            refine r_iload X dL_accounts_276 (by rfl) ?_
            refine r_if_eq X 296 dL_accounts_278 (by decide) (by unfold inR; omega) (fun b => ?_) (fun b => ?_)
            · omega
            · refine r_aload_n X dL_accounts_281 (by rfl) ?_
              refine r_iload X dL_accounts_282 (by rfl) ?_
              refine r_iload X dL_accounts_284 (by rfl) ?_
              refine l_paidBy X rfl (by omega) hS hI dL_accounts_286 hcn (by omega) (by exact Nat.le_of_ble_eq_true rfl) (by omega) (by omega) ?_
              refine r_if_lt X 296 dL_accounts_289 (by decide) (by unfold inR; omega) (fun e => ?_) (fun e => ?_)
              · omega
              · refine r_iconst X dL_accounts_292 rfl ?_
                refine r_goto X dL_accounts_293 297 (by decide) ?_
                refine r_istore X dL_accounts_297 (by rw [hN]; decide) (by rfl) ?_
                dsimp only [List.set]
                refine r_iinc X dL_accounts_299 (by rfl) (by rw [hN]; decide) (by rfl) ?_
                dsimp only [List.set]
                refine r_goto X dL_accounts_302 254 (by decide) ?_
                exact ih2 (j + 1) _ _ (by omega) (by omega) (by omega) (by omega)
      refine r_iload X dL_accounts_234 (by rfl) ?_
      refine r_aload_n X dL_accounts_236 (by rfl) ?_
      refine l_costs X rfl (by omega) hS hI dL_accounts_237 (by exact Nat.le_of_ble_eq_true rfl) (by omega) (by omega) ?_
      refine r_icmp_ge X 453 dL_accounts_240 (by decide) (by unfold inR; omega) (by unfold inR; omega) (fun a => ?_) (fun a => ?_)
      · omega
      · refine r_iload X dL_accounts_243 (by rfl) ?_
        refine r_if_eq X 453 dL_accounts_245 (by decide) (by unfold inR; omega) (fun b => ?_) (fun b => ?_)
        · omega
        · refine r_iconst X dL_accounts_248 rfl ?_
          refine r_istore X dL_accounts_249 (by rw [hN]; decide) (by rfl) ?_
          dsimp only [List.set]
          refine r_iconst X dL_accounts_251 rfl ?_
          refine r_istore X dL_accounts_252 (by rw [hN]; decide) (by rfl) ?_
          dsimp only [List.set]
          exact inner nf 0 _ _ (by omega) (by omega) (by omega) (by omega)
  -- the commitments
  have loop2 : ∀ (m i : Nat) (kc ks : Nat), nk - i = m → i ≤ nk → kc ≤ 60 + 7 * i → ks ≤ 360 + 42 * i →
      V M g ad F kc ks 141 [some (.ref a1), some (.ref a2), some (.int (zI (sm nf (A 4)))), some (.int (zI 0)), some (.int (zI 0)), some (.int (zI 1)), some (.int (zI (i : Int))), none, none] [] := by
    intro m
    induction m with
    | zero =>
      intro i kc ks hm hi hkc hks
      obtain rfl : i = nk := by omega
      refine r_iload X dL_accounts_141 (by rfl) ?_
      refine r_aload_n X dL_accounts_143 (by rfl) ?_
      refine l_commitments X rfl (by omega) hS hI dL_accounts_144 (by exact Nat.le_of_ble_eq_true rfl) (by omega) (by omega) ?_
      refine r_icmp_ge X 231 dL_accounts_147 (by decide) (by unfold inR; omega) (by unfold inR; omega) (fun a => ?_) (fun a => ?_)
      · refine r_iconst X dL_accounts_231 rfl ?_
        refine r_istore X dL_accounts_232 (by rw [hN]; decide) (by rfl) ?_
        dsimp only [List.set]
        exact loop3 nc 0 ad F kc ks none none (by omega) (by omega) hS (fun z => by omega) (by omega) (by omega)
      · omega
    | succ m ih =>
      intro i kc ks hm hi hkc hks
      have hin : i < nk := by omega
      obtain ⟨v1, v2⟩ := hKV i hin
      have v3 := (hI.b8 hin).2
      obtain ⟨v4, -, -, -, v5⟩ := hI.2.2.1 i hin
      have v6 := comZ_one hI hin
      have v7 := comZ_b (f := kf i) hI (Nat.le_refl nk)
      refine r_iload X dL_accounts_141 (by rfl) ?_
      refine r_aload_n X dL_accounts_143 (by rfl) ?_
      refine l_commitments X rfl (by omega) hS hI dL_accounts_144 (by exact Nat.le_of_ble_eq_true rfl) (by omega) (by omega) ?_
      refine r_icmp_ge X 231 dL_accounts_147 (by decide) (by unfold inR; omega) (by unfold inR; omega) (fun a => ?_) (fun a => ?_)
      · omega
      · refine r_iload X dL_accounts_150 (by rfl) ?_
        refine r_if_eq X 231 dL_accounts_152 (by decide) (by unfold inR; omega) (fun b => ?_) (fun b => ?_)
        · omega
        · refine r_aload_n X dL_accounts_155 (by rfl) ?_
          refine r_iload X dL_accounts_156 (by rfl) ?_
          refine l_leftOf X rfl (by omega) hS hI dL_accounts_158 hin (by exact Nat.le_of_ble_eq_true rfl) (by omega) (by omega) ?_
          refine r_if_le X 222 dL_accounts_161 (by decide) (by unfold inR; omega) (fun c => ?_) (fun c => ?_)
          · omega
          · refine r_aload_n X dL_accounts_164 (by rfl) ?_
            refine r_iload X dL_accounts_165 (by rfl) ?_
            refine l_untilOf X rfl (by omega) hS hI dL_accounts_167 hin (by exact Nat.le_of_ble_eq_true rfl) (by omega) (by omega) ?_
            refine r_aload_n X dL_accounts_170 (by rfl) ?_
            refine l_today X rfl (by omega) hS hI dL_accounts_171 (by exact Nat.le_of_ble_eq_true rfl) (by omega) (by omega) ?_
            refine r_icmp_lt X 222 dL_accounts_174 (by decide) (by unfold inR; omega) (by unfold inR; omega) (fun e => ?_) (fun e => ?_)
            · omega
            · refine r_aload_n X dL_accounts_177 (by rfl) ?_
              refine r_iload X dL_accounts_178 (by rfl) ?_
              refine l_fundOf X rfl (by omega) hS hI dL_accounts_180 hin (by exact Nat.le_of_ble_eq_true rfl) (by omega) (by omega) ?_
              refine r_if_lt X 222 dL_accounts_183 (by decide) (by unfold inR; omega) (fun e2 => ?_) (fun e2 => ?_)
              · omega
              · refine r_aload_n X dL_accounts_186 (by rfl) ?_
                refine r_iload X dL_accounts_187 (by rfl) ?_
                refine l_fundOf X rfl (by omega) hS hI dL_accounts_189 hin (by exact Nat.le_of_ble_eq_true rfl) (by omega) (by omega) ?_
                refine r_aload_n X dL_accounts_192 (by rfl) ?_
                refine l_funds X rfl (by omega) hS hI dL_accounts_193 (by exact Nat.le_of_ble_eq_true rfl) (by omega) (by omega) ?_
                refine r_icmp_ge X 222 dL_accounts_196 (by decide) (by unfold inR; omega) (by unfold inR; omega) (fun e3 => ?_) (fun e3 => ?_)
                · omega
                · refine r_aload_n X dL_accounts_199 (by rfl) ?_
                  refine r_iload X dL_accounts_200 (by rfl) ?_
                  refine l_leftOf X rfl (by omega) hS hI dL_accounts_202 hin (by exact Nat.le_of_ble_eq_true rfl) (by omega) (by omega) ?_
                  refine r_aload_n X dL_accounts_205 (by rfl) ?_
                  refine r_aload_n X dL_accounts_206 (by rfl) ?_
                  refine r_iload X dL_accounts_207 (by rfl) ?_
                  refine l_fundOf X rfl (by omega) hS hI dL_accounts_209 hin (by exact Nat.le_of_ble_eq_true rfl) (by omega) (by omega) ?_
                  refine l_committedOf X rfl (by omega) hS hI dL_accounts_212 v4 (by exact Nat.le_of_ble_eq_true rfl) (by omega) (by omega) ?_
                  refine r_icmp_gt X 222 dL_accounts_215 (by decide) (by unfold inR; omega) (by unfold inR; omega) (fun e4 => ?_) (fun e4 => ?_)
                  · omega
                  · refine r_iconst X dL_accounts_218 rfl ?_
                    refine r_goto X dL_accounts_219 223 (by decide) ?_
                    refine r_istore X dL_accounts_223 (by rw [hN]; decide) (by rfl) ?_
                    dsimp only [List.set]
                    refine r_iinc X dL_accounts_225 (by rfl) (by rw [hN]; decide) (by rfl) ?_
                    dsimp only [List.set]
                    refine r_goto X dL_accounts_228 141 (by decide) ?_
                    exact ih (i + 1) _ _ (by omega) (by omega) (by omega) (by omega)
  -- the funds
  have loop1 : ∀ (m i : Nat) (kc ks : Nat), nf - i = m → i ≤ nf → kc ≤ 10 * i → ks ≤ 60 * i →
      V M g ad F kc ks 26 [some (.ref a1), some (.ref a2), some (.int (zI (sm i (A 4)))), some (.int (zI 0)), some (.int (zI 0)), some (.int (zI 1)), some (.int (zI (i : Int))), none, none] [] := by
    intro m
    induction m with
    | zero =>
      intro i kc ks hm hi hkc hks
      obtain rfl : i = nf := by omega
      refine r_iload X dL_accounts_26 (by rfl) ?_
      refine r_aload_n X dL_accounts_28 (by rfl) ?_
      refine l_funds X rfl (by omega) hS hI dL_accounts_29 (by exact Nat.le_of_ble_eq_true rfl) (by omega) (by omega) ?_
      refine r_icmp_ge X 138 dL_accounts_32 (by decide) (by unfold inR; omega) (by unfold inR; omega) (fun a => ?_) (fun a => ?_)
      · refine r_iconst X dL_accounts_138 rfl ?_
        refine r_istore X dL_accounts_139 (by rw [hN]; decide) (by rfl) ?_
        dsimp only [List.set]
        exact loop2 nk 0 kc ks (by omega) (by omega) (by omega) (by omega)
      · omega
    | succ m ih =>
      intro i kc ks hm hi hkc hks
      have hin : i < nf := by omega
      have v0 := hI.b0 hin
      have v1 := hI.b4 hin
      have v2 := comZ_b (f := i) hI (Nat.le_refl nk)
      have v3 := roA_b hI hin
      have v4 := hAV.1 i hin
      refine r_iload X dL_accounts_26 (by rfl) ?_
      refine r_aload_n X dL_accounts_28 (by rfl) ?_
      refine l_funds X rfl (by omega) hS hI dL_accounts_29 (by exact Nat.le_of_ble_eq_true rfl) (by omega) (by omega) ?_
      refine r_icmp_ge X 138 dL_accounts_32 (by decide) (by unfold inR; omega) (by unfold inR; omega) (fun a => ?_) (fun a => ?_)
      · omega
      · refine r_iload X dL_accounts_35 (by rfl) ?_
        refine r_if_eq X 138 dL_accounts_37 (by decide) (by unfold inR; omega) (fun b => ?_) (fun b => ?_)
        · omega
        · refine r_iload_n X dL_accounts_40 (by rfl) ?_
          refine r_aload_n X dL_accounts_41 (by rfl) ?_
          refine r_iload X dL_accounts_42 (by rfl) ?_
          refine l_directOf X rfl (by omega) hS hI dL_accounts_44 hin (by exact Nat.le_of_ble_eq_true rfl) (by omega) (by omega) ?_
          refine r_iadd X dL_accounts_47 ?_
          refine r_istore_n X dL_accounts_48 (by rw [hN]; decide) (by rfl) ?_
          dsimp only [List.set]
          refine r_aload_n X dL_accounts_49 (by rfl) ?_
          refine r_iload X dL_accounts_50 (by rfl) ?_
          refine l_freeOf X rfl (by omega) hS hI dL_accounts_52 hin (by exact Nat.le_of_ble_eq_true rfl) (by omega) (by omega) ?_
          refine r_if_lt X 129 dL_accounts_55 (by decide) (by unfold inR; omega) (fun c => ?_) (fun c => ?_)
          · omega
          · refine r_aload_n X dL_accounts_58 (by rfl) ?_
            refine r_iload X dL_accounts_59 (by rfl) ?_
            refine l_committedOf X rfl (by omega) hS hI dL_accounts_61 hin (by exact Nat.le_of_ble_eq_true rfl) (by omega) (by omega) ?_
            refine r_if_lt X 129 dL_accounts_64 (by decide) (by unfold inR; omega) (fun e => ?_) (fun e => ?_)
            · omega
            · refine r_aload_n X dL_accounts_67 (by rfl) ?_
              refine r_iload X dL_accounts_68 (by rfl) ?_
              refine l_freeOf X rfl (by omega) hS hI dL_accounts_70 hin (by exact Nat.le_of_ble_eq_true rfl) (by omega) (by omega) ?_
              refine r_aload_n X dL_accounts_73 (by rfl) ?_
              refine r_iload X dL_accounts_74 (by rfl) ?_
              refine l_committedOf X rfl (by omega) hS hI dL_accounts_76 hin (by exact Nat.le_of_ble_eq_true rfl) (by omega) (by omega) ?_
              refine r_iadd X dL_accounts_79 ?_
              refine r_aload_n X dL_accounts_80 (by rfl) ?_
              refine r_iload X dL_accounts_81 (by rfl) ?_
              refine l_directOf X rfl (by omega) hS hI dL_accounts_83 hin (by exact Nat.le_of_ble_eq_true rfl) (by omega) (by omega) ?_
              refine r_iadd X dL_accounts_86 ?_
              refine r_aload_n X dL_accounts_87 (by rfl) ?_
              refine r_iload X dL_accounts_88 (by rfl) ?_
              refine l_overheadOf X rfl (by omega) hS hI dL_accounts_90 hin (by exact Nat.le_of_ble_eq_true rfl) (by omega) (by omega) ?_
              refine r_iadd X dL_accounts_93 ?_
              refine r_aload_n X dL_accounts_94 (by rfl) ?_
              refine r_iload X dL_accounts_95 (by rfl) ?_
              refine l_kld X hS i dL_accounts_97 rfl (by omega) ?_
              refine r_icmp_ne X 129 dL_accounts_98 (by decide) (by unfold inR; omega) (by unfold inR; omega) (fun e1 => ?_) (fun e1 => ?_)
              · exact absurd v4 e1
              · refine r_aload_n X dL_accounts_101 (by rfl) ?_
                refine r_iload X dL_accounts_102 (by rfl) ?_
                refine l_roomOf X rfl (by omega) hS hI dL_accounts_104 hin (by exact Nat.le_of_ble_eq_true rfl) (by omega) (by omega) ?_
                refine r_if_lt X 129 dL_accounts_107 (by decide) (by unfold inR; omega) (fun e2 => ?_) (fun e2 => ?_)
                · omega
                · refine r_aload_n X dL_accounts_110 (by rfl) ?_
                  refine r_iload X dL_accounts_111 (by rfl) ?_
                  refine l_roomOf X rfl (by omega) hS hI dL_accounts_113 hin (by exact Nat.le_of_ble_eq_true rfl) (by omega) (by omega) ?_
                  refine r_aload_n X dL_accounts_116 (by rfl) ?_
                  refine r_iload X dL_accounts_117 (by rfl) ?_
                  refine l_freeOf X rfl (by omega) hS hI dL_accounts_119 hin (by exact Nat.le_of_ble_eq_true rfl) (by omega) (by omega) ?_
                  refine r_icmp_gt X 129 dL_accounts_122 (by decide) (by unfold inR; omega) (by unfold inR; omega) (fun e3 => ?_) (fun e3 => ?_)
                  · omega
                  · refine r_iconst X dL_accounts_125 rfl ?_
                    refine r_goto X dL_accounts_126 130 (by decide) ?_
                    refine r_istore X dL_accounts_130 (by rw [hN]; decide) (by rfl) ?_
                    dsimp only [List.set]
                    refine r_iinc X dL_accounts_132 (by rfl) (by rw [hN]; decide) (by rfl) ?_
                    dsimp only [List.set]
                    refine r_goto X dL_accounts_135 26 (by decide) ?_
                    exact ih (i + 1) _ _ (by omega) (by omega) (by omega) (by omega)
  refine r_iconst X dL_accounts_0 rfl ?_
  refine r_istore_n X dL_accounts_1 (by rw [hN]; decide) (by rfl) ?_
  dsimp only [List.set]
  refine r_iconst X dL_accounts_2 rfl ?_
  refine r_istore_n X dL_accounts_3 (by rw [hN]; decide) (by rfl) ?_
  dsimp only [List.set]
  refine r_iconst X dL_accounts_4 rfl ?_
  refine r_istore X dL_accounts_5 (by rw [hN]; decide) (by rfl) ?_
  dsimp only [List.set]
  refine r_aload_n X dL_accounts_7 (by rfl) ?_
  refine l_commitments X rfl (by omega) hS hI dL_accounts_8 (by exact Nat.le_of_ble_eq_true rfl) (by omega) (by omega) ?_
  refine r_bipush X dL_accounts_11 (by decide) ?_
  refine r_icmp_gt X 20 dL_accounts_13 (by decide) (by unfold inR; omega) (by unfold inR; omega) (fun a => ?_) (fun a => ?_)
  · omega
  · refine r_iconst X dL_accounts_16 rfl ?_
    refine r_goto X dL_accounts_17 21 (by decide) ?_
    refine r_istore X dL_accounts_21 (by rw [hN]; decide) (by rfl) ?_
    dsimp only [List.set]
    refine r_iconst X dL_accounts_23 rfl ?_
    refine r_istore X dL_accounts_24 (by rw [hN]; decide) (by rfl) ?_
    dsimp only [List.set]
    exact loop1 nf 0 _ _ (by omega) (by omega) (by omega) (by omega)
