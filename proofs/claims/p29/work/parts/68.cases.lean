/-! ===== the law: its turns ===== -/
section Law3
variable {M : Mx} {g : Gx} {y : MethodName} {cc : ByteArray} {ret : Option FieldType} {n mc ms : Nat} {K : Option Value → (Nat → Nat) → Pic → Prop} {KX : String → (Nat → Nat) → Pic → Prop} {ad : Nat → Nat} {F : Pic} {kc ks pc : Nat} {LS : List (Option Value)} {ST : List Value}
variable {a1 a2 : Nat} {td : Int} {nf nk nc : Nat} {A P : Nat → Nat → Int} {kf : Nat → Nat} {sn t : Nat} {Kp : Nat → Int}
theorem l_accounts (X : Cx M g y cc ret n mc ms [] K KX) (hy : y.cls = RL) (hn : 11 < n) (hS : SL g ad F a1 a2 td nf nk nc A P kf sn Kp) (hI : IV td nf nk nc A kf t) (hAV : AV nf nk nc A P kf Kp) (hKV : KV td nk A) (d : decode cc pc = .ok (.invokestatic 78, 3)) (hcat : (ST.map fun v => v.category).sum ≤ 8) (h1 : kc + 1900 ≤ mc) (h2 : ks + 77400 ≤ ms)
    (k : ∀ ad' F', SL g ad' F' a1 a2 td nf nk nc A P kf sn Kp → V M g ad' F' (kc + 1900) (ks + 77400) (pc + 3) LS (.int (zI 1) :: ST)) : V M g ad F kc ks pc LS (.ref a2 :: .ref a1 :: ST) := by
  refine r_callS (rest := ST) (As := [.ref a1, .ref a2]) X d (by rw [hy]; exact kL_78) (c_accounts g _ X.2.2.2.2.2.2 ad F a1 a2 td nf nk nc A P kf sn t Kp hS hI hAV hKV) rfl rfl hcat (by omega) (by decide) h1 h2 (fun v ad' F' hK => ?_)
  obtain ⟨rfl, hS'⟩ := hK
  exact k ad' F' hS'
theorem l_charges (X : Cx M g y cc ret n mc ms [] K KX) (hy : y.cls = RL) (hn : 11 < n) (hS : SL g ad F a1 a2 td nf nk nc A P kf sn Kp) (hI : IV td nf nk nc A kf t) (hAV : AV nf nk nc A P kf Kp) (hKV : KV td nk A) (d : decode cc pc = .ok (.invokestatic 108, 3)) (hcat : (ST.map fun v => v.category).sum ≤ 8) (h1 : kc + 930 ≤ mc) (h2 : ks + 51600 ≤ ms)
    (k : ∀ ad' F' nk' A' P' kf', SL g ad' F' a1 a2 td nf nk' nc A' P' kf' sn Kp → IV td nf nk' nc A' kf' t → AV nf nk' nc A' P' kf' Kp → KV td nk' A' → V M g ad' F' (kc + 930) (ks + 51600) (pc + 3) LS (.int (zI 1) :: ST)) : V M g ad F kc ks pc LS (.ref a1 :: ST) := by
  refine r_callS (rest := ST) (As := [.ref a1]) X d (by rw [hy]; exact kL_108) (c_charges g _ X.2.2.2.2.2.2 ad F a1 a2 td nf nk nc A P kf sn t Kp hS hI hAV hKV) rfl rfl hcat (by omega) (by decide) h1 h2 (fun v ad' F' hK => ?_)
  obtain ⟨rfl, nk', A', P', kf', hS', i1, i2, i3⟩ := hK
  exact k ad' F' nk' A' P' kf' hS' i1 i2 i3
end Law3
/-- what holds behind n turns -/
def LI (g : Gx) (ad : Nat → Nat) (F : Pic) (a1 a2 n : Nat) : Prop := ∃ td nf nk nc A P kf sn Kp, SL g ad F a1 a2 td nf nk nc A P kf sn Kp ∧ IV td nf nk nc A kf n ∧ AV nf nk nc A P kf Kp ∧ KV td nk A ∧ sn ≤ n
set_option maxRecDepth 100000 in
set_option maxHeartbeats 4000000 in
theorem st_addFund {M : Mx} {g : Gx} {mc ms : Nat} {K : Option Value → (Nat → Nat) → Pic → Prop} (X : Cx M g yL_law cL_law (some .boolean) 12 mc ms [] K noX) (hN : mN M = 15) {a1 a2 n tn : Nat} {ad : Nat → Nat} {F : Pic} {kc ks : Nat} {v6 : Int32} {w7 w8 : Int} {f9 : Nat} {o10 o11 o12 o13 o14 : Option Value} {td : Int} {nf nk nc : Nat} {A P : Nat → Nat → Int} {kf : Nat → Nat} {sn : Nat} {Kp : Nat → Int} (hS : SL g ad F a1 a2 td nf nk nc A P kf sn Kp) (hI : IV td nf nk nc A kf n) (hAV : AV nf nk nc A P kf Kp) (hKV : KV td nk A) (hsn : sn ≤ n) (hn : n < 44) (h1 : kc + 940 ≤ mc) (h2 : ks + 51700 ≤ ms) (back : ∀ (ad' : Nat → Nat) (F' : Pic) (o6 o7 o8 o9 o10 o11 o12 o13 o14 : Option Value), LI g ad' F' a1 a2 (n + 1) → V M g ad' F' (kc + 940) (ks + 51700) 797 [some (.ref (gn g 97)), some (.ref a1), some (.ref a2), some (.int (zI 1)), some (.int (zI (tn : Int))), some (.int (zI (n : Int))), o6, o7, o8, o9, o10, o11, o12, o13, o14] []) (hw8 : 1 ≤ w8 ∧ w8 ≤ 99999) (h6 : nf < 6) : V M g ad F kc ks 177 [some (.ref (gn g 97)), some (.ref a1), some (.ref a2), some (.int (zI 1)), some (.int (zI (tn : Int))), some (.int (zI (n : Int))), some (.int v6), some (.int (zI w7)), some (.int (zI w8)), some (.int (zI (f9 : Int))), o10, o11, o12, o13, o14] [] := by
  have hb := hI.1
  refine r_aload_n X dL_law_177 (by rfl) ?_
  refine r_iload X dL_law_178 (by rfl) ?_
  refine r_iconst X dL_law_180 rfl ?_
  refine r_isub X dL_law_181 ?_
  refine r_iload X dL_law_182 (by rfl) ?_
  refine r_bipush X dL_law_184 (by decide) ?_
  refine r_ishr X (hv := rfl) dL_law_186 ?_
  refine r_sipush X dL_law_187 (by decide) ?_
  refine l_low X rfl (by omega) 256 dL_law_190 (rfl) (by omega) (by exact Nat.le_of_ble_eq_true rfl) (by omega) (by omega) (fun al hal => ?_)
  refine r_iload X dL_law_193 (by rfl) ?_
  refine r_iconst X dL_law_195 rfl ?_
  refine r_ishr X (hv := rfl) dL_law_196 ?_
  refine r_iconst X dL_law_197 rfl ?_
  refine l_low X rfl (by omega) 3 dL_law_198 (rfl) (by omega) (by exact Nat.le_of_ble_eq_true rfl) (by omega) (by omega) (fun z3 hz3 => ?_)
  have tail : ∀ (d : Int), 0 ≤ d ∧ d ≤ 999 → V M g ad F kc ks 222 [some (.ref (gn g 97)), some (.ref a1), some (.ref a2), some (.int (zI 1)), some (.int (zI (tn : Int))), some (.int (zI (n : Int))), some (.int v6), some (.int (zI w7)), some (.int (zI w8)), some (.int (zI (f9 : Int))), o10, o11, o12, o13, o14] [.int (zI d), .int (zI (al : Int)), .int (zI (w8 - 1)), .ref a1] := fun d hd => by
    refine r_iload X dL_law_222 (by rfl) ?_
    refine r_bipush X dL_law_224 (by decide) ?_
    refine r_ishr X (hv := rfl) dL_law_226 ?_
    refine r_bipush X dL_law_227 (by decide) ?_
    refine l_low X rfl (by omega) 101 dL_law_229 (rfl) (by omega) (by exact Nat.le_of_ble_eq_true rfl) (by omega) (by omega) (fun ce hce => ?_)
    have hr : raF (w8 - 1) (al : Int) d (ce : Int) := ⟨by omega, by omega, by omega, by omega⟩
    refine l_addFund X rfl (by omega) hS hI dL_law_232 hr h6 (by exact Nat.le_of_ble_eq_true rfl) (by omega) (by omega) (fun ad2 F2 hS2 => ?_)
    refine r_istore X dL_law_235 (by rw [hN]; decide) (by rfl) ?_
    dsimp only [List.set]
    refine r_aload_n X dL_law_237 (by rfl) ?_
    refine r_iload X dL_law_238 (by rfl) ?_
    refine r_iload X dL_law_240 (by rfl) ?_
    refine r_iconst X dL_law_242 rfl ?_
    refine r_isub X dL_law_243 ?_
    refine l_kst X hS2 nf dL_law_244 rfl (by omega) (fun F3 hS3 => ?_)
    refine r_goto X dL_law_245 797 (by decide) ?_
    exact r_widen (by omega) (by omega) (back _ _ _ _ _ _ _ _ _ _ _ ⟨_, _, _, _, _, _, _, _, _, hS3, hI.addF (by omega) hr h6, hAV.addF (fun k hk => (hI.2.2.1 k hk).1) h6, hKV.addF, by omega⟩)
  refine r_if_ne X 218 dL_law_201 (by decide) (by unfold inR; omega) (fun a => ?_) (fun a => ?_)
  · refine r_aload_n X dL_law_218 (by rfl) ?_
    refine l_today X rfl (by omega) hS hI dL_law_219 (by exact Nat.le_of_ble_eq_true rfl) (by omega) (by omega) ?_
    exact tail td ⟨by omega, by omega⟩
  · refine r_iload X dL_law_204 (by rfl) ?_
    refine r_bipush X dL_law_206 (by decide) ?_
    refine r_ishr X (hv := rfl) dL_law_208 ?_
    refine r_sipush X dL_law_209 (by decide) ?_
    refine l_low X rfl (by omega) 1000 dL_law_212 (rfl) (by omega) (by exact Nat.le_of_ble_eq_true rfl) (by omega) (by omega) (fun la hla => ?_)
    refine r_goto X dL_law_215 222 (by decide) ?_
    exact tail (la : Int) ⟨by omega, by omega⟩
set_option maxRecDepth 100000 in
set_option maxHeartbeats 4000000 in
theorem st_deposit {M : Mx} {g : Gx} {mc ms : Nat} {K : Option Value → (Nat → Nat) → Pic → Prop} (X : Cx M g yL_law cL_law (some .boolean) 12 mc ms [] K noX) (hN : mN M = 15) {a1 a2 n tn : Nat} {ad : Nat → Nat} {F : Pic} {kc ks : Nat} {v6 : Int32} {w7 w8 : Int} {f9 : Nat} {o10 o11 o12 o13 o14 : Option Value} {td : Int} {nf nk nc : Nat} {A P : Nat → Nat → Int} {kf : Nat → Nat} {sn : Nat} {Kp : Nat → Int} (hS : SL g ad F a1 a2 td nf nk nc A P kf sn Kp) (hI : IV td nf nk nc A kf n) (hAV : AV nf nk nc A P kf Kp) (hKV : KV td nk A) (hsn : sn ≤ n) (hn : n < 44) (h1 : kc + 940 ≤ mc) (h2 : ks + 51700 ≤ ms) (back : ∀ (ad' : Nat → Nat) (F' : Pic) (o6 o7 o8 o9 o10 o11 o12 o13 o14 : Option Value), LI g ad' F' a1 a2 (n + 1) → V M g ad' F' (kc + 940) (ks + 51700) 797 [some (.ref (gn g 97)), some (.ref a1), some (.ref a2), some (.int (zI 1)), some (.int (zI (tn : Int))), some (.int (zI (n : Int))), o6, o7, o8, o9, o10, o11, o12, o13, o14] []) (hw8 : 1 ≤ w8 ∧ w8 ≤ 99999) (hf9 : f9 < nf) : V M g ad F kc ks 261 [some (.ref (gn g 97)), some (.ref a1), some (.ref a2), some (.int (zI 1)), some (.int (zI (tn : Int))), some (.int (zI (n : Int))), some (.int v6), some (.int (zI w7)), some (.int (zI w8)), some (.int (zI (f9 : Int))), o10, o11, o12, o13, o14] [] := by
  have hb := hI.1
  have hb0 := hI.b0 hf9
  refine r_aload_n X dL_law_261 (by rfl) ?_
  refine r_iload X dL_law_262 (by rfl) ?_
  refine r_dup2 X dL_law_264 (by rfl) (by rfl) ?_
  refine l_kld X hS f9 dL_law_265 rfl (by omega) ?_
  refine r_iload X dL_law_266 (by rfl) ?_
  refine r_iadd X dL_law_268 ?_
  refine l_kst X hS f9 dL_law_269 rfl (by omega) (fun F2 hS2 => ?_)
  refine r_aload_n X dL_law_270 (by rfl) ?_
  refine r_iload X dL_law_271 (by rfl) ?_
  refine r_iload X dL_law_273 (by rfl) ?_
  refine l_deposit X rfl (by omega) hS2 hI dL_law_275 hf9 hw8 (by exact Nat.le_of_ble_eq_true rfl) (by omega) (by omega) (fun F3 hS3 => ?_)
  refine r_iload X dL_law_278 (by rfl) ?_
  refine r_icmp_lt X 287 dL_law_280 (by decide) (by unfold inR; omega) (by unfold inR; omega) (fun a => ?_) (fun a => ?_)
  · omega
  · refine r_iconst X dL_law_283 rfl ?_
    refine r_goto X dL_law_284 288 (by decide) ?_
    refine r_istore_n X dL_law_288 (by rw [hN]; decide) (by rfl) ?_
    dsimp only [List.set]
    refine r_goto X dL_law_289 797 (by decide) ?_
    exact r_widen (by omega) (by omega) (back _ _ _ _ _ _ _ _ _ _ _ ⟨_, _, _, _, _, _, _, _, _, hS3, hI.dep (by omega) hf9 hw8, hAV.dep hf9 (by omega), hKV.dep, by omega⟩)
set_option maxRecDepth 100000 in
set_option maxHeartbeats 4000000 in
theorem st_commit {M : Mx} {g : Gx} {mc ms : Nat} {K : Option Value → (Nat → Nat) → Pic → Prop} (X : Cx M g yL_law cL_law (some .boolean) 12 mc ms [] K noX) (hN : mN M = 15) {a1 a2 n tn : Nat} {ad : Nat → Nat} {F : Pic} {kc ks : Nat} {v6 : Int32} {w7 w8 : Int} {f9 : Nat} {o10 o11 o12 o13 o14 : Option Value} {td : Int} {nf nk nc : Nat} {A P : Nat → Nat → Int} {kf : Nat → Nat} {sn : Nat} {Kp : Nat → Int} (hS : SL g ad F a1 a2 td nf nk nc A P kf sn Kp) (hI : IV td nf nk nc A kf n) (hAV : AV nf nk nc A P kf Kp) (hKV : KV td nk A) (hsn : sn ≤ n) (hn : n < 44) (h1 : kc + 940 ≤ mc) (h2 : ks + 51700 ≤ ms) (back : ∀ (ad' : Nat → Nat) (F' : Pic) (o6 o7 o8 o9 o10 o11 o12 o13 o14 : Option Value), LI g ad' F' a1 a2 (n + 1) → V M g ad' F' (kc + 940) (ks + 51700) 797 [some (.ref (gn g 97)), some (.ref a1), some (.ref a2), some (.int (zI 1)), some (.int (zI (tn : Int))), some (.int (zI (n : Int))), o6, o7, o8, o9, o10, o11, o12, o13, o14] []) (hw8 : 1 ≤ w8 ∧ w8 ≤ 99999) (hf9 : f9 < nf) : V M g ad F kc ks 306 [some (.ref (gn g 97)), some (.ref a1), some (.ref a2), some (.int (zI 1)), some (.int (zI (tn : Int))), some (.int (zI (n : Int))), some (.int v6), some (.int (zI w7)), some (.int (zI w8)), some (.int (zI (f9 : Int))), o10, o11, o12, o13, o14] [] := by
  have hb := hI.1
  have hb0 := hI.b0 hf9
  refine r_aload_n X dL_law_306 (by rfl) ?_
  refine l_today X rfl (by omega) hS hI dL_law_307 (by exact Nat.le_of_ble_eq_true rfl) (by omega) (by omega) ?_
  refine r_iload X dL_law_310 (by rfl) ?_
  refine r_iconst X dL_law_312 rfl ?_
  refine r_ishr X (hv := rfl) dL_law_313 ?_
  refine r_bipush X dL_law_314 (by decide) ?_
  refine l_low X rfl (by omega) 40 dL_law_316 (rfl) (by omega) (by exact Nat.le_of_ble_eq_true rfl) (by omega) (by omega) (fun z hz => ?_)
  refine r_iadd X dL_law_319 ?_
  refine r_istore X dL_law_320 (by rw [hN]; decide) (by rfl) ?_
  dsimp only [List.set]
  refine r_aload_n X dL_law_322 (by rfl) ?_
  refine l_commitments X rfl (by omega) hS hI dL_law_323 (by exact Nat.le_of_ble_eq_true rfl) (by omega) (by omega) ?_
  refine r_istore X dL_law_326 (by rw [hN]; decide) (by rfl) ?_
  dsimp only [List.set]
  refine r_aload_n X dL_law_328 (by rfl) ?_
  refine r_iload X dL_law_329 (by rfl) ?_
  refine l_freeOf X rfl (by omega) hS hI dL_law_331 hf9 (by exact Nat.le_of_ble_eq_true rfl) (by omega) (by omega) ?_
  refine r_istore X dL_law_334 (by rw [hN]; decide) (by rfl) ?_
  dsimp only [List.set]
  refine r_aload_n X dL_law_336 (by rfl) ?_
  refine r_iload X dL_law_337 (by rfl) ?_
  refine r_iload X dL_law_339 (by rfl) ?_
  refine r_bipush X dL_law_341 (by decide) ?_
  refine l_low X rfl (by omega) 8 dL_law_343 (rfl) (by omega) (by exact Nat.le_of_ble_eq_true rfl) (by omega) (by omega) (fun c hc => ?_)
  refine r_iload X dL_law_346 (by rfl) ?_
  refine r_iload X dL_law_348 (by rfl) ?_
  refine r_sipush X dL_law_350 (by decide) ?_
  have tail : ∀ (u : Int), td ≤ u ∧ u ≤ 999 → V M g ad F (kc + 1) (ks + 6) 364 [some (.ref (gn g 97)), some (.ref a1), some (.ref a2), some (.int (zI 1)), some (.int (zI (tn : Int))), some (.int (zI (n : Int))), some (.int v6), some (.int (zI w7)), some (.int (zI w8)), some (.int (zI (f9 : Int))), some (.int (zI (td + z))), some (.int (zI (nk : Int))), some (.int (zI (A 0 f9))), o13, o14] [.int (zI u), .int (zI w8), .int (zI (c : Int)), .int (zI (f9 : Int)), .ref a1] := fun u hu => by
    have hr : raK td (c : Int) w8 u := ⟨by omega, hw8, hu⟩
    refine l_commit X rfl (by omega) hS hI (by omega) dL_law_364 hf9 hr (by exact Nat.le_of_ble_eq_true rfl) (by omega) (by omega) (fun ad2 F2 hS2 => ?_) (fun ad2 F2 hst hS2 => ?_)
    · refine r_istore X dL_law_367 (by rw [hN]; decide) (by rfl) ?_
      dsimp only [List.set]
      refine r_iload X dL_law_369 (by rfl) ?_
      refine r_bipush X dL_law_371 (by decide) ?_
      refine r_icmp_ne X 404 dL_law_373 (by decide) (by unfold inR; omega) (by unfold inR; omega) (fun a => ?_) (fun a => ?_)
      · exact absurd rfl a
      · refine r_aload_n X dL_law_376 (by rfl) ?_
        refine l_commitments X rfl (by omega) hS2 hI dL_law_377 (by exact Nat.le_of_ble_eq_true rfl) (by omega) (by omega) ?_
        refine r_iload X dL_law_380 (by rfl) ?_
        refine r_icmp_ne X 400 dL_law_382 (by decide) (by unfold inR; omega) (by unfold inR; omega) (fun b => ?_) (fun b => ?_)
        · exact absurd rfl b
        · refine r_aload_n X dL_law_385 (by rfl) ?_
          refine r_iload X dL_law_386 (by rfl) ?_
          refine l_freeOf X rfl (by omega) hS2 hI dL_law_388 hf9 (by exact Nat.le_of_ble_eq_true rfl) (by omega) (by omega) ?_
          refine r_iload X dL_law_391 (by rfl) ?_
          refine r_icmp_ne X 400 dL_law_393 (by decide) (by unfold inR; omega) (by unfold inR; omega) (fun e => ?_) (fun e => ?_)
          · exact absurd rfl e
          · refine r_iconst X dL_law_396 rfl ?_
            refine r_goto X dL_law_397 454 (by decide) ?_
            refine r_istore_n X dL_law_454 (by rw [hN]; decide) (by rfl) ?_
            dsimp only [List.set]
            refine r_goto X dL_law_455 797 (by decide) ?_
            exact r_widen (by omega) (by omega) (back _ _ _ _ _ _ _ _ _ _ _ ⟨_, _, _, _, _, _, _, _, _, hS2, hI.more (by omega), hAV, hKV, by omega⟩)
    · have hI2 := hI.com (by omega) hf9 hr hst
      have e0 : fCom A f9 nk (c : Int) w8 u 0 f9 = A 0 f9 - w8 := by rw [fCom_0, if_pos rfl]
      have e8 : fCom A f9 nk (c : Int) w8 u 8 nk = w8 := fCom_8
      have ek : un kf nk f9 nk = f9 := if_pos rfl
      refine r_istore X dL_law_367 (by rw [hN]; decide) (by rfl) ?_
      dsimp only [List.set]
      refine r_iload X dL_law_369 (by rfl) ?_
      refine r_bipush X dL_law_371 (by decide) ?_
      refine r_icmp_ne X 404 dL_law_373 (by decide) (by unfold inR; omega) (by unfold inR; omega) (fun a => ?_) (fun a => ?_)
      · refine r_iload X dL_law_404 (by rfl) ?_
        refine r_iload X dL_law_406 (by rfl) ?_
        refine r_iconst X dL_law_408 rfl ?_
        refine r_iadd X dL_law_409 ?_
        refine r_icmp_ne X 453 dL_law_410 (by decide) (by unfold inR; omega) (by unfold inR; omega) (fun b => ?_) (fun b => ?_)
        · exact absurd rfl b
        · refine r_aload_n X dL_law_413 (by rfl) ?_
          refine r_iload X dL_law_414 (by rfl) ?_
          refine l_freeOf X rfl (by omega) hS2 hI2 dL_law_416 hf9 (by exact Nat.le_of_ble_eq_true rfl) (by omega) (by omega) ?_
          refine r_iload X dL_law_419 (by rfl) ?_
          refine r_iload X dL_law_421 (by rfl) ?_
          refine r_isub X dL_law_423 ?_
          refine r_icmp_ne X 453 dL_law_424 (by decide) (by unfold inR; omega) (by unfold inR; omega) (fun e => ?_) (fun e => ?_)
          · exact absurd e0 e
          · refine r_aload_n X dL_law_427 (by rfl) ?_
            refine r_iload X dL_law_428 (by rfl) ?_
            refine l_leftOf X rfl (by omega) hS2 hI2 dL_law_430 (i := nk) (by omega) (by exact Nat.le_of_ble_eq_true rfl) (by omega) (by omega) ?_
            refine r_iload X dL_law_433 (by rfl) ?_
            refine r_icmp_ne X 453 dL_law_435 (by decide) (by unfold inR; omega) (by unfold inR; omega) (fun e2 => ?_) (fun e2 => ?_)
            · exact absurd e8 e2
            · refine r_aload_n X dL_law_438 (by rfl) ?_
              refine r_iload X dL_law_439 (by rfl) ?_
              refine l_fundOf X rfl (by omega) hS2 hI2 dL_law_441 (i := nk) (by omega) (by exact Nat.le_of_ble_eq_true rfl) (by omega) (by omega) ?_
              rw [ek]
              refine r_iload X dL_law_444 (by rfl) ?_
              refine r_icmp_ne X 453 dL_law_446 (by decide) (by unfold inR; omega) (by unfold inR; omega) (fun e3 => ?_) (fun e3 => ?_)
              · exact absurd rfl e3
              · refine r_iconst X dL_law_449 rfl ?_
                refine r_goto X dL_law_450 454 (by decide) ?_
                refine r_istore_n X dL_law_454 (by rw [hN]; decide) (by rfl) ?_
                dsimp only [List.set]
                refine r_goto X dL_law_455 797 (by decide) ?_
                exact r_widen (by omega) (by omega) (back _ _ _ _ _ _ _ _ _ _ _ ⟨_, _, _, _, _, _, _, _, _, hS2, hI2, hAV.com, hKV.com hw8.1 hu.1, by omega⟩)
      · omega
  refine r_icmp_le X 362 dL_law_353 (by decide) (by unfold inR; omega) (by unfold inR; omega) (fun a => ?_) (fun a => ?_)
  · refine r_iload X dL_law_362 (by rfl) ?_
    exact tail _ ⟨by omega, a⟩
  · refine r_sipush X dL_law_356 (by decide) ?_
    refine r_goto X dL_law_359 364 (by decide) ?_
    exact tail 999 ⟨by omega, by omega⟩
set_option maxRecDepth 100000 in
set_option maxHeartbeats 4000000 in
theorem st_addCost {M : Mx} {g : Gx} {mc ms : Nat} {K : Option Value → (Nat → Nat) → Pic → Prop} (X : Cx M g yL_law cL_law (some .boolean) 12 mc ms [] K noX) (hN : mN M = 15) {a1 a2 n tn : Nat} {ad : Nat → Nat} {F : Pic} {kc ks : Nat} {v6 : Int32} {w7 w8 : Int} {f9 : Nat} {o10 o11 o12 o13 o14 : Option Value} {td : Int} {nf nk nc : Nat} {A P : Nat → Nat → Int} {kf : Nat → Nat} {sn : Nat} {Kp : Nat → Int} (hS : SL g ad F a1 a2 td nf nk nc A P kf sn Kp) (hI : IV td nf nk nc A kf n) (hAV : AV nf nk nc A P kf Kp) (hKV : KV td nk A) (hsn : sn ≤ n) (hn : n < 44) (h1 : kc + 940 ≤ mc) (h2 : ks + 51700 ≤ ms) (back : ∀ (ad' : Nat → Nat) (F' : Pic) (o6 o7 o8 o9 o10 o11 o12 o13 o14 : Option Value), LI g ad' F' a1 a2 (n + 1) → V M g ad' F' (kc + 940) (ks + 51700) 797 [some (.ref (gn g 97)), some (.ref a1), some (.ref a2), some (.int (zI 1)), some (.int (zI (tn : Int))), some (.int (zI (n : Int))), o6, o7, o8, o9, o10, o11, o12, o13, o14] []) (hw8 : 1 ≤ w8 ∧ w8 ≤ 99999) (h16 : nc < 16) : V M g ad F kc ks 474 [some (.ref (gn g 97)), some (.ref a1), some (.ref a2), some (.int (zI 1)), some (.int (zI (tn : Int))), some (.int (zI (n : Int))), some (.int v6), some (.int (zI w7)), some (.int (zI w8)), some (.int (zI (f9 : Int))), o10, o11, o12, o13, o14] [] := by
  have hb := hI.1
  refine r_aload_n X dL_law_474 (by rfl) ?_
  refine r_iload X dL_law_475 (by rfl) ?_
  refine r_bipush X dL_law_477 (by decide) ?_
  refine l_low X rfl (by omega) 8 dL_law_479 (rfl) (by omega) (by exact Nat.le_of_ble_eq_true rfl) (by omega) (by omega) (fun c hc => ?_)
  refine r_iload X dL_law_482 (by rfl) ?_
  refine r_bipush X dL_law_484 (by decide) ?_
  refine r_ishr X (hv := rfl) dL_law_486 ?_
  refine r_aload_n X dL_law_487 (by rfl) ?_
  refine l_today X rfl (by omega) hS hI dL_law_488 (by exact Nat.le_of_ble_eq_true rfl) (by omega) (by omega) ?_
  refine r_iconst X dL_law_491 rfl ?_
  refine r_iadd X dL_law_492 ?_
  refine l_low X rfl (by omega) ((td + 1).toNat) dL_law_493 ((by omega)) (by omega) (by exact Nat.le_of_ble_eq_true rfl) (by omega) (by omega) (fun d hd => ?_)
  refine r_iload X dL_law_496 (by rfl) ?_
  have hr : raC td (c : Int) (d : Int) w8 := ⟨by omega, by omega, hw8⟩
  refine l_addCost X rfl (by omega) hS hI dL_law_498 hr h16 (by exact Nat.le_of_ble_eq_true rfl) (by omega) (by omega) (fun ad2 F2 hS2 => ?_)
  refine r_istore X dL_law_501 (by rw [hN]; decide) (by rfl) ?_
  dsimp only [List.set]
  refine r_aload_n X dL_law_503 (by rfl) ?_
  refine r_bipush X dL_law_504 (by decide) ?_
  refine r_iload X dL_law_506 (by rfl) ?_
  refine r_iadd X dL_law_508 ?_
  refine r_iload X dL_law_509 (by rfl) ?_
  refine l_kst X hS2 (16 + nc) dL_law_511 (by omega) (by omega) (fun F3 hS3 => ?_)
  refine r_goto X dL_law_512 797 (by decide) ?_
  exact r_widen (by omega) (by omega) (back _ _ _ _ _ _ _ _ _ _ _ ⟨_, _, _, _, _, _, _, _, _, hS3, (hI.cst hr h16).more (by omega), hAV.cst hw8.2 (by omega), hKV.cst, by omega⟩)
set_option maxRecDepth 100000 in
set_option maxHeartbeats 4000000 in
theorem st_charges {M : Mx} {g : Gx} {mc ms : Nat} {K : Option Value → (Nat → Nat) → Pic → Prop} (X : Cx M g yL_law cL_law (some .boolean) 12 mc ms [] K noX) (hN : mN M = 15) {a1 a2 n tn : Nat} {ad : Nat → Nat} {F : Pic} {kc ks : Nat} {v6 : Int32} {w7 w8 : Int} {f9 : Nat} {o10 o11 o12 o13 o14 : Option Value} {td : Int} {nf nk nc : Nat} {A P : Nat → Nat → Int} {kf : Nat → Nat} {sn : Nat} {Kp : Nat → Int} (hS : SL g ad F a1 a2 td nf nk nc A P kf sn Kp) (hI : IV td nf nk nc A kf n) (hAV : AV nf nk nc A P kf Kp) (hKV : KV td nk A) (hsn : sn ≤ n) (hn : n < 44) (h1 : kc + 940 ≤ mc) (h2 : ks + 51700 ≤ ms) (back : ∀ (ad' : Nat → Nat) (F' : Pic) (o6 o7 o8 o9 o10 o11 o12 o13 o14 : Option Value), LI g ad' F' a1 a2 (n + 1) → V M g ad' F' (kc + 940) (ks + 51700) 797 [some (.ref (gn g 97)), some (.ref a1), some (.ref a2), some (.int (zI 1)), some (.int (zI (tn : Int))), some (.int (zI (n : Int))), o6, o7, o8, o9, o10, o11, o12, o13, o14] []) (hw8 : 1 ≤ w8 ∧ w8 ≤ 99999) : V M g ad F kc ks 522 [some (.ref (gn g 97)), some (.ref a1), some (.ref a2), some (.int (zI 1)), some (.int (zI (tn : Int))), some (.int (zI (n : Int))), some (.int v6), some (.int (zI w7)), some (.int (zI w8)), some (.int (zI (f9 : Int))), o10, o11, o12, o13, o14] [] := by
  refine r_aload_n X dL_law_522 (by rfl) ?_
  refine l_charges X rfl (by omega) hS hI hAV hKV dL_law_523 (by exact Nat.le_of_ble_eq_true rfl) (by omega) (by omega) (fun ad2 F2 nk2 A2 P2 kf2 hS2 hI2 hAV2 hKV2 => ?_)
  refine r_istore_n X dL_law_526 (by rw [hN]; decide) (by rfl) ?_
  dsimp only [List.set]
  refine r_goto X dL_law_527 797 (by decide) ?_
  exact r_widen (by omega) (by omega) (back _ _ _ _ _ _ _ _ _ _ _ ⟨_, _, _, _, _, _, _, _, _, hS2, hI2.more (by omega), hAV2, hKV2, by omega⟩)
set_option maxRecDepth 100000 in
set_option maxHeartbeats 4000000 in
theorem st_overhead {M : Mx} {g : Gx} {mc ms : Nat} {K : Option Value → (Nat → Nat) → Pic → Prop} (X : Cx M g yL_law cL_law (some .boolean) 12 mc ms [] K noX) (hN : mN M = 15) {a1 a2 n tn : Nat} {ad : Nat → Nat} {F : Pic} {kc ks : Nat} {v6 : Int32} {w7 w8 : Int} {f9 : Nat} {o10 o11 o12 o13 o14 : Option Value} {td : Int} {nf nk nc : Nat} {A P : Nat → Nat → Int} {kf : Nat → Nat} {sn : Nat} {Kp : Nat → Int} (hS : SL g ad F a1 a2 td nf nk nc A P kf sn Kp) (hI : IV td nf nk nc A kf n) (hAV : AV nf nk nc A P kf Kp) (hKV : KV td nk A) (hsn : sn ≤ n) (hn : n < 44) (h1 : kc + 940 ≤ mc) (h2 : ks + 51700 ≤ ms) (back : ∀ (ad' : Nat → Nat) (F' : Pic) (o6 o7 o8 o9 o10 o11 o12 o13 o14 : Option Value), LI g ad' F' a1 a2 (n + 1) → V M g ad' F' (kc + 940) (ks + 51700) 797 [some (.ref (gn g 97)), some (.ref a1), some (.ref a2), some (.int (zI 1)), some (.int (zI (tn : Int))), some (.int (zI (n : Int))), o6, o7, o8, o9, o10, o11, o12, o13, o14] []) (hw8 : 1 ≤ w8 ∧ w8 ≤ 99999) : V M g ad F kc ks 537 [some (.ref (gn g 97)), some (.ref a1), some (.ref a2), some (.int (zI 1)), some (.int (zI (tn : Int))), some (.int (zI (n : Int))), some (.int v6), some (.int (zI w7)), some (.int (zI w8)), some (.int (zI (f9 : Int))), o10, o11, o12, o13, o14] [] := by
  refine r_aload_n X dL_law_537 (by rfl) ?_
  refine r_iload X dL_law_538 (by rfl) ?_
  refine l_chargeOverhead X rfl (by omega) hS hI hAV hKV dL_law_540 hw8 (by exact Nat.le_of_ble_eq_true rfl) (by omega) (by omega) (fun F2 A2 w hw0 hw1 hw2 hS2 hI2 hAV2 hKV2 => ?_)
  refine r_istore X dL_law_543 (by rw [hN]; decide) (by rfl) ?_
  dsimp only [List.set]
  refine r_iload X dL_law_545 (by rfl) ?_
  refine r_if_lt X 561 dL_law_547 (by decide) (by unfold inR; omega) (fun a => ?_) (fun a => ?_)
  · omega
  · refine r_iload X dL_law_550 (by rfl) ?_
    refine r_iload X dL_law_552 (by rfl) ?_
    refine r_icmp_gt X 561 dL_law_554 (by decide) (by unfold inR; omega) (by unfold inR; omega) (fun b => ?_) (fun b => ?_)
    · omega
    · refine r_iconst X dL_law_557 rfl ?_
      refine r_goto X dL_law_558 562 (by decide) ?_
      refine r_istore_n X dL_law_562 (by rw [hN]; decide) (by rfl) ?_
      dsimp only [List.set]
      refine r_goto X dL_law_563 797 (by decide) ?_
      exact r_widen (by omega) (by omega) (back _ _ _ _ _ _ _ _ _ _ _ ⟨_, _, _, _, _, _, _, _, _, hS2, hI2.more (by omega), hAV2, hKV2, by omega⟩)
set_option maxRecDepth 100000 in
set_option maxHeartbeats 4000000 in
theorem st_cancel {M : Mx} {g : Gx} {mc ms : Nat} {K : Option Value → (Nat → Nat) → Pic → Prop} (X : Cx M g yL_law cL_law (some .boolean) 12 mc ms [] K noX) (hN : mN M = 15) {a1 a2 n tn : Nat} {ad : Nat → Nat} {F : Pic} {kc ks : Nat} {v6 : Int32} {w7 w8 : Int} {f9 : Nat} {o10 o11 o12 o13 o14 : Option Value} {td : Int} {nf nk nc : Nat} {A P : Nat → Nat → Int} {kf : Nat → Nat} {sn : Nat} {Kp : Nat → Int} (hS : SL g ad F a1 a2 td nf nk nc A P kf sn Kp) (hI : IV td nf nk nc A kf n) (hAV : AV nf nk nc A P kf Kp) (hKV : KV td nk A) (hsn : sn ≤ n) (hn : n < 44) (h1 : kc + 940 ≤ mc) (h2 : ks + 51700 ≤ ms) (back : ∀ (ad' : Nat → Nat) (F' : Pic) (o6 o7 o8 o9 o10 o11 o12 o13 o14 : Option Value), LI g ad' F' a1 a2 (n + 1) → V M g ad' F' (kc + 940) (ks + 51700) 797 [some (.ref (gn g 97)), some (.ref a1), some (.ref a2), some (.int (zI 1)), some (.int (zI (tn : Int))), some (.int (zI (n : Int))), o6, o7, o8, o9, o10, o11, o12, o13, o14] []) (hw8 : 1 ≤ w8 ∧ w8 ≤ 99999) (hk0 : 0 < nk) : V M g ad F kc ks 580 [some (.ref (gn g 97)), some (.ref a1), some (.ref a2), some (.int (zI 1)), some (.int (zI (tn : Int))), some (.int (zI (n : Int))), some (.int v6), some (.int (zI w7)), some (.int (zI w8)), some (.int (zI (f9 : Int))), o10, o11, o12, o13, o14] [] := by
  have hb := hI.1
  refine r_iload X dL_law_580 (by rfl) ?_
  refine r_iconst X dL_law_582 rfl ?_
  refine r_ishr X (hv := rfl) dL_law_583 ?_
  refine r_aload_n X dL_law_584 (by rfl) ?_
  refine l_commitments X rfl (by omega) hS hI dL_law_585 (by exact Nat.le_of_ble_eq_true rfl) (by omega) (by omega) ?_
  refine l_low X rfl (by omega) nk dL_law_588 (rfl) (by omega) (by exact Nat.le_of_ble_eq_true rfl) (by omega) (by omega) (fun k hk => ?_)
  obtain ⟨hkf, -, -, -⟩ := hI.2.2.1 k hk
  have hb8 := hI.b8 hk
  have hb0 := hI.b0 hkf
  have hI2 := (hI.ends hk).more (by omega)
  have e0 : fEnd A kf k 0 (kf k) = A 0 (kf k) + A 8 k := by rw [fEnd_0, if_pos rfl]
  refine r_istore X dL_law_591 (by rw [hN]; decide) (by rfl) ?_
  dsimp only [List.set]
  refine r_aload_n X dL_law_593 (by rfl) ?_
  refine l_commitments X rfl (by omega) hS hI dL_law_594 (by exact Nat.le_of_ble_eq_true rfl) (by omega) (by omega) ?_
  refine r_istore X dL_law_597 (by rw [hN]; decide) (by rfl) ?_
  dsimp only [List.set]
  refine r_aload_n X dL_law_599 (by rfl) ?_
  refine r_iload X dL_law_600 (by rfl) ?_
  refine l_fundOf X rfl (by omega) hS hI dL_law_602 hk (by exact Nat.le_of_ble_eq_true rfl) (by omega) (by omega) ?_
  refine r_istore X dL_law_605 (by rw [hN]; decide) (by rfl) ?_
  dsimp only [List.set]
  refine r_aload_n X dL_law_607 (by rfl) ?_
  refine r_iload X dL_law_608 (by rfl) ?_
  refine l_freeOf X rfl (by omega) hS hI dL_law_610 hkf (by exact Nat.le_of_ble_eq_true rfl) (by omega) (by omega) ?_
  refine r_istore X dL_law_613 (by rw [hN]; decide) (by rfl) ?_
  dsimp only [List.set]
  refine r_aload_n X dL_law_615 (by rfl) ?_
  refine r_iload X dL_law_616 (by rfl) ?_
  refine l_leftOf X rfl (by omega) hS hI dL_law_618 hk (by exact Nat.le_of_ble_eq_true rfl) (by omega) (by omega) ?_
  refine r_istore X dL_law_621 (by rw [hN]; decide) (by rfl) ?_
  dsimp only [List.set]
  refine r_aload_n X dL_law_623 (by rfl) ?_
  refine r_iload X dL_law_624 (by rfl) ?_
  refine l_cancel X rfl (by omega) hS hI dL_law_626 hk (by exact Nat.le_of_ble_eq_true rfl) (by omega) (by omega) (fun F2 hS2 => ?_)
  refine r_iload X dL_law_629 (by rfl) ?_
  refine r_icmp_ne X 663 dL_law_631 (by decide) (by unfold inR; omega) (by unfold inR; omega) (fun a => ?_) (fun a => ?_)
  · exact absurd rfl a
  · refine r_aload_n X dL_law_634 (by rfl) ?_
    refine l_commitments X rfl (by omega) hS2 hI2 dL_law_635 (by exact Nat.le_of_ble_eq_true rfl) (by omega) (by omega) ?_
    refine r_iload X dL_law_638 (by rfl) ?_
    refine r_iconst X dL_law_640 rfl ?_
    refine r_isub X dL_law_641 ?_
    refine r_icmp_ne X 663 dL_law_642 (by decide) (by unfold inR; omega) (by unfold inR; omega) (fun b => ?_) (fun b => ?_)
    · omega
    · refine r_aload_n X dL_law_645 (by rfl) ?_
      refine r_iload X dL_law_646 (by rfl) ?_
      refine l_freeOf X rfl (by omega) hS2 hI2 dL_law_648 hkf (by exact Nat.le_of_ble_eq_true rfl) (by omega) (by omega) ?_
      refine r_iload X dL_law_651 (by rfl) ?_
      refine r_iload X dL_law_653 (by rfl) ?_
      refine r_iadd X dL_law_655 ?_
      refine r_icmp_ne X 663 dL_law_656 (by decide) (by unfold inR; omega) (by unfold inR; omega) (fun e => ?_) (fun e => ?_)
      · exact absurd e0 e
      · refine r_iconst X dL_law_659 rfl ?_
        refine r_goto X dL_law_660 664 (by decide) ?_
        refine r_istore_n X dL_law_664 (by rw [hN]; decide) (by rfl) ?_
        dsimp only [List.set]
        refine r_goto X dL_law_665 797 (by decide) ?_
        exact r_widen (by omega) (by omega) (back _ _ _ _ _ _ _ _ _ _ _ ⟨_, _, _, _, _, _, _, _, _, hS2, hI2, hAV.ends hk, hKV.ends hk, by omega⟩)
set_option maxRecDepth 100000 in
set_option maxHeartbeats 4000000 in
theorem st_advance {M : Mx} {g : Gx} {mc ms : Nat} {K : Option Value → (Nat → Nat) → Pic → Prop} (X : Cx M g yL_law cL_law (some .boolean) 12 mc ms [] K noX) (hN : mN M = 15) {a1 a2 n tn : Nat} {ad : Nat → Nat} {F : Pic} {kc ks : Nat} {v6 : Int32} {w7 w8 : Int} {f9 : Nat} {o10 o11 o12 o13 o14 : Option Value} {td : Int} {nf nk nc : Nat} {A P : Nat → Nat → Int} {kf : Nat → Nat} {sn : Nat} {Kp : Nat → Int} (hS : SL g ad F a1 a2 td nf nk nc A P kf sn Kp) (hI : IV td nf nk nc A kf n) (hAV : AV nf nk nc A P kf Kp) (hKV : KV td nk A) (hsn : sn ≤ n) (hn : n < 44) (h1 : kc + 940 ≤ mc) (h2 : ks + 51700 ≤ ms) (back : ∀ (ad' : Nat → Nat) (F' : Pic) (o6 o7 o8 o9 o10 o11 o12 o13 o14 : Option Value), LI g ad' F' a1 a2 (n + 1) → V M g ad' F' (kc + 940) (ks + 51700) 797 [some (.ref (gn g 97)), some (.ref a1), some (.ref a2), some (.int (zI 1)), some (.int (zI (tn : Int))), some (.int (zI (n : Int))), o6, o7, o8, o9, o10, o11, o12, o13, o14] []) (hw8 : 1 ≤ w8 ∧ w8 ≤ 99999) (htd : td < 999) : V M g ad F kc ks 678 [some (.ref (gn g 97)), some (.ref a1), some (.ref a2), some (.int (zI 1)), some (.int (zI (tn : Int))), some (.int (zI (n : Int))), some (.int v6), some (.int (zI w7)), some (.int (zI w8)), some (.int (zI (f9 : Int))), o10, o11, o12, o13, o14] [] := by
  have hb := hI.1
  refine r_iconst X dL_law_678 rfl ?_
  refine r_iload X dL_law_679 (by rfl) ?_
  refine r_bipush X dL_law_681 (by decide) ?_
  refine l_low X rfl (by omega) 20 dL_law_683 (rfl) (by omega) (by exact Nat.le_of_ble_eq_true rfl) (by omega) (by omega) (fun z hz => ?_)
  refine r_iadd X dL_law_686 ?_
  refine r_istore X dL_law_687 (by rw [hN]; decide) (by rfl) ?_
  dsimp only [List.set]
  refine r_aload_n X dL_law_689 (by rfl) ?_
  refine l_today X rfl (by omega) hS hI dL_law_690 (by exact Nat.le_of_ble_eq_true rfl) (by omega) (by omega) ?_
  refine r_iload X dL_law_693 (by rfl) ?_
  refine r_iadd X dL_law_695 ?_
  refine r_sipush X dL_law_696 (by decide) ?_
  have tail : ∀ (d : Int), (1 ≤ d ∧ d ≤ 999) ∧ td + d ≤ 999 → V M g ad F kc ks 715 [some (.ref (gn g 97)), some (.ref a1), some (.ref a2), some (.int (zI 1)), some (.int (zI (tn : Int))), some (.int (zI (n : Int))), some (.int v6), some (.int (zI w7)), some (.int (zI w8)), some (.int (zI (f9 : Int))), some (.int (zI (1 + (z : Int)))), o11, o12, o13, o14] [.int (zI d)] := fun d hd => by
    have hI2 := (endS_iv (q := qLap (td + d)) nk nk A kf (Nat.le_refl _) (hI.today (td' := td + d) (by omega))).more (by omega)
    have hcn := endS_cnt (QL.lap (td := td + d)) nk nk A kf (Nat.le_refl _)
    have hle := endS_le (q := qLap (td + d)) nk nk A kf
    have loop : ∀ (m j : Nat) (kc' ks' : Nat), nk - j = m → j ≤ nk → kc' ≤ kc + j → ks' ≤ ks + 6 * j → V M g ad F kc' ks' 729 [some (.ref (gn g 97)), some (.ref a1), some (.ref a2), some (.int (zI 1)), some (.int (zI (tn : Int))), some (.int (zI (n : Int))), some (.int v6), some (.int (zI w7)), some (.int (zI w8)), some (.int (zI (f9 : Int))), some (.int (zI d)), some (.int (zI (nk : Int))), some (.int (zI (sm j (fun x => if qLap (td + d) A x then (1 : Int) else 0)))), some (.int (zI (j : Int))), o14] [] := by
      intro m
      induction m with
      | zero =>
        intro j kc' ks' hm hj hkc hks
        obtain rfl : j = nk := by omega
        refine r_iload X dL_law_729 (by rfl) ?_
        refine r_iload X dL_law_731 (by rfl) ?_
        refine r_icmp_ge X 768 dL_law_733 (by decide) (by unfold inR; omega) (by unfold inR; omega) (fun a => ?_) (fun a => ?_)
        · refine r_aload_n X dL_law_768 (by rfl) ?_
          refine r_iload X dL_law_769 (by rfl) ?_
          refine l_advance X rfl (by omega) hS hI dL_law_771 hd (by exact Nat.le_of_ble_eq_true rfl) (by omega) (by omega) (fun F2 hS2 => ?_)
          refine r_iload X dL_law_774 (by rfl) ?_
          refine r_icmp_ne X 795 dL_law_776 (by decide) (by unfold inR; omega) (by unfold inR; omega) (fun b => ?_) (fun b => ?_)
          · omega
          · refine r_aload_n X dL_law_779 (by rfl) ?_
            refine l_commitments X rfl (by omega) hS2 hI2 dL_law_780 (by exact Nat.le_of_ble_eq_true rfl) (by omega) (by omega) ?_
            refine r_iload X dL_law_783 (by rfl) ?_
            refine r_iload X dL_law_785 (by rfl) ?_
            refine r_isub X dL_law_787 ?_
            refine r_icmp_ne X 795 dL_law_788 (by decide) (by unfold inR; omega) (by unfold inR; omega) (fun e => ?_) (fun e => ?_)
            · omega
            · refine r_iconst X dL_law_791 rfl ?_
              refine r_goto X dL_law_792 796 (by decide) ?_
              refine r_istore_n X dL_law_796 (by rw [hN]; decide) (by rfl) ?_
              dsimp only [List.set]
              exact r_widen (by omega) (by omega) (back _ _ _ _ _ _ _ _ _ _ _ ⟨_, _, _, _, _, _, _, _, _, hS2, hI2, AV.endS _ _ _ _ (Nat.le_refl _) hAV, hKV.lap, by omega⟩)
        · omega
      | succ m ih =>
        intro j kc' ks' hm hj hkc hks
        have hjn : j < nk := by omega
        obtain ⟨-, -, -, v5⟩ := hI.2.2.1 j hjn
        have es : sm (j + 1) (fun x => if qLap (td + d) A x then (1 : Int) else 0) = sm j (fun x => if qLap (td + d) A x then (1 : Int) else 0) + (if qLap (td + d) A j then 1 else 0) := rfl
        refine r_iload X dL_law_729 (by rfl) ?_
        refine r_iload X dL_law_731 (by rfl) ?_
        refine r_icmp_ge X 768 dL_law_733 (by decide) (by unfold inR; omega) (by unfold inR; omega) (fun a => ?_) (fun a => ?_)
        · omega
        · refine r_iload X dL_law_736 (by rfl) ?_
          refine r_aload_n X dL_law_738 (by rfl) ?_
          refine r_iload X dL_law_739 (by rfl) ?_
          refine l_untilOf X rfl (by omega) hS hI dL_law_741 hjn (by exact Nat.le_of_ble_eq_true rfl) (by omega) (by omega) ?_
          refine r_aload_n X dL_law_744 (by rfl) ?_
          refine l_today X rfl (by omega) hS hI dL_law_745 (by exact Nat.le_of_ble_eq_true rfl) (by omega) (by omega) ?_
          refine r_iload X dL_law_748 (by rfl) ?_
          refine r_iadd X dL_law_750 ?_
          refine r_icmp_ge X 758 dL_law_751 (by decide) (by unfold inR; omega) (by unfold inR; omega) (fun b => ?_) (fun b => ?_)
          · refine r_iconst X dL_law_758 rfl ?_
            refine r_iadd X dL_law_759 ?_
            refine r_istore X dL_law_760 (by rw [hN]; decide) (by rfl) ?_
            dsimp only [List.set]
            refine r_iinc X dL_law_762 (by rfl) (by rw [hN]; decide) (by rfl) ?_
            dsimp only [List.set]
            refine r_goto X dL_law_765 729 (by decide) ?_
            rw [show sm j (fun x => if qLap (td + d) A x then (1 : Int) else 0) + 0 = sm (j + 1) (fun x => if qLap (td + d) A x then (1 : Int) else 0) by rw [es, if_neg (by unfold qLap; simp; omega)]]
            exact ih (j + 1) _ _ (by omega) (by omega) (by omega) (by omega)
          · refine r_iconst X dL_law_754 rfl ?_
            refine r_goto X dL_law_755 759 (by decide) ?_
            refine r_iadd X dL_law_759 ?_
            refine r_istore X dL_law_760 (by rw [hN]; decide) (by rfl) ?_
            dsimp only [List.set]
            refine r_iinc X dL_law_762 (by rfl) (by rw [hN]; decide) (by rfl) ?_
            dsimp only [List.set]
            refine r_goto X dL_law_765 729 (by decide) ?_
            rw [show sm j (fun x => if qLap (td + d) A x then (1 : Int) else 0) + 1 = sm (j + 1) (fun x => if qLap (td + d) A x then (1 : Int) else 0) by rw [es, if_pos (by unfold qLap; simp; omega)]]
            exact ih (j + 1) _ _ (by omega) (by omega) (by omega) (by omega)
    refine r_istore X dL_law_715 (by rw [hN]; decide) (by rfl) ?_
    dsimp only [List.set]
    refine r_aload_n X dL_law_717 (by rfl) ?_
    refine l_commitments X rfl (by omega) hS hI dL_law_718 (by exact Nat.le_of_ble_eq_true rfl) (by omega) (by omega) ?_
    refine r_istore X dL_law_721 (by rw [hN]; decide) (by rfl) ?_
    dsimp only [List.set]
    refine r_iconst X dL_law_723 rfl ?_
    refine r_istore X dL_law_724 (by rw [hN]; decide) (by rfl) ?_
    dsimp only [List.set]
    refine r_iconst X dL_law_726 rfl ?_
    refine r_istore X dL_law_727 (by rw [hN]; decide) (by rfl) ?_
    dsimp only [List.set]
    exact loop nk 0 _ _ (by omega) (by omega) (by omega) (by omega)
  refine r_icmp_le X 713 dL_law_699 (by decide) (by unfold inR; omega) (by unfold inR; omega) (fun a => ?_) (fun a => ?_)
  · refine r_iload X dL_law_713 (by rfl) ?_
    exact tail _ ⟨by omega, a⟩
  · refine r_sipush X dL_law_702 (by decide) ?_
    refine r_aload_n X dL_law_705 (by rfl) ?_
    refine l_today X rfl (by omega) hS hI dL_law_706 (by exact Nat.le_of_ble_eq_true rfl) (by omega) (by omega) ?_
    refine r_isub X dL_law_709 ?_
    refine r_goto X dL_law_710 715 (by decide) ?_
    exact tail _ ⟨by omega, by omega⟩
