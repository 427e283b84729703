/-! ===== the law: its cases ===== -/
set_option maxRecDepth 100000 in
set_option maxHeartbeats 4000000 in
theorem sw_addFund : WSw RL 83 yL_addFund cL_addFund 7 (some .int) [(0, 14, 17, 13), (0, 14, 21, 15)] 6 := ⟨⟨cw_addFund, w0, ⟨by decide, by decide⟩, by decide +kernel, ww 746 rfl rfl⟩, ww 747 rfl rfl⟩
set_option maxRecDepth 100000 in
set_option maxHeartbeats 4000000 in
theorem tl_addFund {M : Mx} {g : Gx} {mc ms : Nat} {K : Option Value → (Nat → Nat) → Pic → Prop} (X : Cx M g yL_law cL_law (some .boolean) 840 mc ms [] K noX) {ad : Nat → Nat} {F : Pic} {kc ks : Nat} (hkc : kc ≤ mc) (hks : ks ≤ ms) {td : Int} {nf nk nc : Nat} {A P : Nat → Nat → Int} {kf : Nat → Nat} {k : Int} (hM : MG g ad F td nf nk nc A P kf k) (hk : 0 ≤ k ∧ k ≤ 9) {bb : Int32} {f9 : Nat → Int64} (h60 : F 60000 = some (cJ g 1 f9)) (he : k = 0 → f9 0 = bb.toInt64) {v0 v1 v4 : Option Value} (next : V M g ad F kc ks 1474 [v0, v1, some (.ref (ad 50000)), some (.ref (ad 60000)), v4, some (.int (zI k)), some (.int bb)] []) : V M g ad F kc ks 217 [v0, v1, some (.ref (ad 50000)), some (.ref (ad 60000)), v4, some (.int (zI k)), some (.int bb)] [] := by
  obtain ⟨np, B, hB, hG⟩ := hM
  have hl := X.2.2.2.2.2.2
  refine r_aload_n X dL_law_217 (by rfl) ?_
  refine r_callV X dL_law_218 kL_89 (c_mThrown g _ hl ad F _ _ _ _ _ _ _ hB) (hB.1) (by rfl) (by rfl) (by rfl) (by rfl) (by exact Nat.le_of_ble_eq_true rfl) (by decide) (by decide) (by omega) (by omega) (fun v ad' F' hK => ?_)
  obtain ⟨rfl, rfl, rfl⟩ := hK
  refine r_iload X dL_law_221 (by rfl) ?_
  refine r_same X 228 dL_law_223 (by decide) ?_
  refine r_iload X dL_law_228 (by rfl) ?_
  refine r_if_ne X 245 dL_law_230 (by decide) (by unfold inR; omega) (fun q => ?_) (fun q => ?_)
  · refine r_goto X dL_law_245 1474 (by decide) ?_
    exact next
  · refine r_aload_n X dL_law_233 (by rfl) ?_
    refine r_iconst X dL_law_234 rfl ?_
    refine r_lald X 0 dL_law_235 (h60) (by rfl) (by omega) (by first | decide | omega) ?_
    rw [he q]
    refine r_iload X dL_law_236 (by rfl) ?_
    refine r_i2lG X dL_law_238 ?_
    refine r_lcmpE X dL_law_239 ?_
    refine r_if_eq X 245 dL_law_240 (by decide) (by unfold inR; omega) (fun q2 => ?_) (fun q2 => ?_)
    · refine r_goto X dL_law_245 1474 (by decide) ?_
      exact next
    · exact absurd rfl q2
set_option maxRecDepth 100000 in
set_option maxHeartbeats 4000000 in
theorem st_addFund {M : Mx} {g : Gx} {mc ms : Nat} {K : Option Value → (Nat → Nat) → Pic → Prop} (X : Cx M g yL_law cL_law (some .boolean) 840 mc ms [] K noX) (hN : mN M = 7) {b L : Nat} {xs : Nat → Int32} (hSX : va_X b L xs (mS M) (mS M).heap) (hSb : b < (mS M).heap.size) (hSA : ¬ gA g b) (hSL : L ≤ 2560) {a1 a5 a6 : Nat} {ad : Nat → Nat} {F : Pic} {t : Nat} (ht : t < 512) (h5 : 5 * t + 5 ≤ L) (hI : INV g a1 a5 a6 ad F t) {kc ks : Nat} (hkc : kc + 32 ≤ mc) (hks : ks + 1000 ≤ ms) {o5 o6 : Option Value} (next : ∀ (ad' : Nat → Nat) (F' : Pic) (o5 o6 : Option Value), INV g a1 a5 a6 ad' F' (t + 1) → V M g ad' F' (kc + 32) (ks + 1000) 1474 [some (.ref b), some (.ref a1), some (.ref a5), some (.ref a6), some (.int (zI ((5 * t : Nat) : Int))), o5, o6] []) : V M g ad F kc ks 156 [some (.ref b), some (.ref a1), some (.ref a5), some (.ref a6), some (.int (zI ((5 * t : Nat) : Int))), o5, o6] [] := by
  obtain ⟨⟨rfl, rfl, rfl⟩, ⟨f, h60⟩, td, nf, nk, nc, A, P, kf, sn, ⟨ser, hX9⟩, ⟨th, np, B, hB, hG⟩, hI, hsn⟩ := hI
  have hl := X.2.2.2.2.2.2
  have hI0 := hI.1
  have h100 := hX9.1.1
  have hkf : ∀ i, i < nk → kf i < nf := fun i hi => (hI.2.2.1 i hi).1
  obtain ⟨s1, e1, r1⟩ : ∃ z : Int, xs (5 * t + 1) = zI z ∧ inR z := ⟨_, zI_of _, inR_of _⟩
  obtain ⟨s2, e2, r2⟩ : ∃ z : Int, xs (5 * t + 2) = zI z ∧ inR z := ⟨_, zI_of _, inR_of _⟩
  obtain ⟨s3, e3, r3⟩ : ∃ z : Int, xs (5 * t + 3) = zI z ∧ inR z := ⟨_, zI_of _, inR_of _⟩
  obtain ⟨s4, e4, r4⟩ : ∃ z : Int, xs (5 * t + 4) = zI z ∧ inR z := ⟨_, zI_of _, inR_of _⟩
  refine r_aload_n X dL_law_156 (by rfl) ?_
  refine r_aload_n X dL_law_157 (by rfl) ?_
  refine r_iload X dL_law_158 (by rfl) ?_
  refine r_iconst X dL_law_160 rfl ?_
  refine r_iadd X dL_law_161 ?_
  refine r_sld X hSX hSb hSA hSL (5 * t + 1) dL_law_162 (by omega) (by omega) ?_
  rw [e1]
  refine r_aload_n X dL_law_163 (by rfl) ?_
  refine r_iload X dL_law_164 (by rfl) ?_
  refine r_iconst X dL_law_166 rfl ?_
  refine r_iadd X dL_law_167 ?_
  refine r_sld X hSX hSb hSA hSL (5 * t + 2) dL_law_168 (by omega) (by omega) ?_
  rw [e2]
  refine r_aload_n X dL_law_169 (by rfl) ?_
  refine r_iload X dL_law_170 (by rfl) ?_
  refine r_iconst X dL_law_172 rfl ?_
  refine r_iadd X dL_law_173 ?_
  refine r_sld X hSX hSb hSA hSL (5 * t + 3) dL_law_174 (by omega) (by omega) ?_
  rw [e3]
  refine r_aload_n X dL_law_175 (by rfl) ?_
  refine r_iload X dL_law_176 (by rfl) ?_
  refine r_iconst X dL_law_178 rfl ?_
  refine r_iadd X dL_law_179 ?_
  refine r_sld X hSX hSb hSA hSL (5 * t + 4) dL_law_180 (by omega) (by omega) ?_
  rw [e4]
  refine r_aload_n X dL_law_181 (by rfl) ?_
  refine r_callSW X dL_law_182 sw_addFund (c_wAddFund g _ hl ad F f h60 h100 (zI s1) (zI s2) (zI s3) (zI s4) (c_addFund g _ hl ad F _ _ _ _ _ _ _ _ ⟨ser, hX9⟩ hkf s1 s2 s3 s4 r1 r2 r3 r4) (by decide) (fun v ad' F' h => ⟨⟨_, h.2.1⟩, h.2.2.2.1 60000 (by omega), h.2.2.1 60000 (by omega)⟩) (fun E ad' F' h => h.1.elim (fun q => .inl q.1) (fun q => .inr q.1))) (by rfl) (by rfl) (by exact Nat.le_of_ble_eq_true rfl) (by omega) (by decide) (by omega) (by omega) (fun v ad1 F1 hK => ?_)
  rcases hK with ⟨rfl, F2, x, f2, hK2, hF1⟩ | ⟨q, hq, hKX, rfl⟩
  · have h63 : F1 60000 = some (cJ g 1 (vp_updL f2 0 x.toInt64)) := by rw [hF1]; exact pu_s
    have hfr : ∀ y, y ≠ 60000 → F1 y = F2 y := fun y hy => by rw [hF1]; exact pu_n hy
    clear hF1
    obtain ⟨⟨c1, c2⟩, hv, aa, hF2, ser2, hX2⟩ := hK2
    cases hv
    have hX3 := hX2.frM (F' := F1) (fun y hy => hfr y (by omega))
    have hB3 := hB.fr (F' := F1) (ad' := ad1) (fun y y1 y2 => (hfr y (by omega)).trans (hF2 y (by omega))) (fun y y1 y2 => aa y (by omega))
    rw [← aa 100 (by omega), ← aa 50000 (by omega), ← aa 60000 (by omega)] at next ⊢
    refine r_istore X dL_law_185 (by rw [hN]; decide) (by rfl) ?_
    dsimp only [List.set]
    refine r_aload_n X dL_law_187 (by rfl) ?_
    refine r_aload_n X dL_law_188 (by rfl) ?_
    refine r_iload X dL_law_189 (by rfl) ?_
    refine r_iconst X dL_law_191 rfl ?_
    refine r_iadd X dL_law_192 ?_
    refine r_sld X hSX hSb hSA hSL (5 * t + 1) dL_law_193 (by omega) (by omega) ?_
    rw [e1]
    refine r_aload_n X dL_law_194 (by rfl) ?_
    refine r_iload X dL_law_195 (by rfl) ?_
    refine r_iconst X dL_law_197 rfl ?_
    refine r_iadd X dL_law_198 ?_
    refine r_sld X hSX hSb hSA hSL (5 * t + 2) dL_law_199 (by omega) (by omega) ?_
    rw [e2]
    refine r_aload_n X dL_law_200 (by rfl) ?_
    refine r_iload X dL_law_201 (by rfl) ?_
    refine r_iconst X dL_law_203 rfl ?_
    refine r_iadd X dL_law_204 ?_
    refine r_sld X hSX hSb hSA hSL (5 * t + 3) dL_law_205 (by omega) (by omega) ?_
    rw [e3]
    refine r_aload_n X dL_law_206 (by rfl) ?_
    refine r_iload X dL_law_207 (by rfl) ?_
    refine r_iconst X dL_law_209 rfl ?_
    refine r_iadd X dL_law_210 ?_
    refine r_sld X hSX hSb hSA hSL (5 * t + 4) dL_law_211 (by omega) (by omega) ?_
    rw [e4]
    refine r_callV X dL_law_212 kL_88 (c_gAddFund g _ hl ad1 F1 _ _ _ _ _ _ _ _ _ _ hB3 hG s1 s2 s3 s4 r1 r2 r3 r4 (by omega)) (hB3.1) (by rfl) (by rfl) (by rfl) (by rfl) (by exact Nat.le_of_ble_eq_true rfl) (by decide) (by decide) (by omega) (by omega) (fun v ad2 F4 hK4 => ?_)
    obtain ⟨rfl, hF4, hK4⟩ := hK4
    have h64 := (hF4 60000 (by omega)).trans h63
    have hX4 := hX3.frM (F' := F4) (fun y hy => hF4 y (by omega))
    rcases hK4 with ⟨q1, q2, rfl, hM⟩ | ⟨n1, rfl, hM⟩ | ⟨q1, n2, rfl, hM⟩
    · refine r_istore X dL_law_215 (by rw [hN]; decide) (by rfl) ?_
      dsimp only [List.set]
      exact tl_addFund X (by omega) (by omega) hM (by omega) h64 (fun _ => rfl) (r_widen (by omega) (by omega) (next ad1 F4 _ _ ⟨⟨rfl, rfl, rfl⟩, ⟨_, h64⟩, _, _, _, _, _, _, _, _, ⟨_, hX4⟩, ⟨_, hM⟩, hI.addF ht c1 c2, by omega⟩))
    · exact absurd c1 n1
    · exact absurd c2 n2
  · simp only [List.mem_cons, List.not_mem_nil, or_false] at hq
    rcases hq with rfl | rfl
    · obtain ⟨hC, rfl, rfl⟩ := hKX
      rcases hC with ⟨z, c⟩ | ⟨z, c⟩
      · have m1 := c
        refine r_istore X dL_law_185 (by rw [hN]; decide) (by rfl) ?_
        dsimp only [List.set]
        refine r_aload_n X dL_law_187 (by rfl) ?_
        refine r_aload_n X dL_law_188 (by rfl) ?_
        refine r_iload X dL_law_189 (by rfl) ?_
        refine r_iconst X dL_law_191 rfl ?_
        refine r_iadd X dL_law_192 ?_
        refine r_sld X hSX hSb hSA hSL (5 * t + 1) dL_law_193 (by omega) (by omega) ?_
        rw [e1]
        refine r_aload_n X dL_law_194 (by rfl) ?_
        refine r_iload X dL_law_195 (by rfl) ?_
        refine r_iconst X dL_law_197 rfl ?_
        refine r_iadd X dL_law_198 ?_
        refine r_sld X hSX hSb hSA hSL (5 * t + 2) dL_law_199 (by omega) (by omega) ?_
        rw [e2]
        refine r_aload_n X dL_law_200 (by rfl) ?_
        refine r_iload X dL_law_201 (by rfl) ?_
        refine r_iconst X dL_law_203 rfl ?_
        refine r_iadd X dL_law_204 ?_
        refine r_sld X hSX hSb hSA hSL (5 * t + 3) dL_law_205 (by omega) (by omega) ?_
        rw [e3]
        refine r_aload_n X dL_law_206 (by rfl) ?_
        refine r_iload X dL_law_207 (by rfl) ?_
        refine r_iconst X dL_law_209 rfl ?_
        refine r_iadd X dL_law_210 ?_
        refine r_sld X hSX hSb hSA hSL (5 * t + 4) dL_law_211 (by omega) (by omega) ?_
        rw [e4]
        refine r_callV X dL_law_212 kL_88 (c_gAddFund g _ hl ad F _ _ _ _ _ _ _ _ _ _ hB hG s1 s2 s3 s4 r1 r2 r3 r4 (by omega)) (hB.1) (by rfl) (by rfl) (by rfl) (by rfl) (by exact Nat.le_of_ble_eq_true rfl) (by decide) (by decide) (by omega) (by omega) (fun v ad2 F4 hK4 => ?_)
        obtain ⟨rfl, hF4, hK4⟩ := hK4
        have h64 := (hF4 60000 (by omega)).trans h60
        have hX4 := hX9.frM (F' := F4) (fun y hy => hF4 y (by omega))
        rcases hK4 with ⟨q1, q2, rfl, hM⟩ | ⟨n1, rfl, hM⟩ | ⟨q1, n2, rfl, hM⟩
        · exact absurd q1 m1
        · refine r_istore X dL_law_215 (by rw [hN]; decide) (by rfl) ?_
          dsimp only [List.set]
          exact tl_addFund X (by omega) (by omega) hM (by omega) h64 (fun z => absurd z (by decide)) (r_widen (by omega) (by omega) (next ad F4 _ _ ⟨⟨rfl, rfl, rfl⟩, ⟨_, h64⟩, _, _, _, _, _, _, _, _, ⟨_, hX4⟩, ⟨_, hM⟩, hI.more ht, by omega⟩))
        · exact absurd q1 m1
      · exact absurd z (by decide)
    · obtain ⟨hC, rfl, rfl⟩ := hKX
      rcases hC with ⟨z, c⟩ | ⟨z, c⟩
      · exact absurd z (by decide)
      · obtain ⟨d1, m2⟩ := c
        refine r_istore X dL_law_185 (by rw [hN]; decide) (by rfl) ?_
        dsimp only [List.set]
        refine r_aload_n X dL_law_187 (by rfl) ?_
        refine r_aload_n X dL_law_188 (by rfl) ?_
        refine r_iload X dL_law_189 (by rfl) ?_
        refine r_iconst X dL_law_191 rfl ?_
        refine r_iadd X dL_law_192 ?_
        refine r_sld X hSX hSb hSA hSL (5 * t + 1) dL_law_193 (by omega) (by omega) ?_
        rw [e1]
        refine r_aload_n X dL_law_194 (by rfl) ?_
        refine r_iload X dL_law_195 (by rfl) ?_
        refine r_iconst X dL_law_197 rfl ?_
        refine r_iadd X dL_law_198 ?_
        refine r_sld X hSX hSb hSA hSL (5 * t + 2) dL_law_199 (by omega) (by omega) ?_
        rw [e2]
        refine r_aload_n X dL_law_200 (by rfl) ?_
        refine r_iload X dL_law_201 (by rfl) ?_
        refine r_iconst X dL_law_203 rfl ?_
        refine r_iadd X dL_law_204 ?_
        refine r_sld X hSX hSb hSA hSL (5 * t + 3) dL_law_205 (by omega) (by omega) ?_
        rw [e3]
        refine r_aload_n X dL_law_206 (by rfl) ?_
        refine r_iload X dL_law_207 (by rfl) ?_
        refine r_iconst X dL_law_209 rfl ?_
        refine r_iadd X dL_law_210 ?_
        refine r_sld X hSX hSb hSA hSL (5 * t + 4) dL_law_211 (by omega) (by omega) ?_
        rw [e4]
        refine r_callV X dL_law_212 kL_88 (c_gAddFund g _ hl ad F _ _ _ _ _ _ _ _ _ _ hB hG s1 s2 s3 s4 r1 r2 r3 r4 (by omega)) (hB.1) (by rfl) (by rfl) (by rfl) (by rfl) (by exact Nat.le_of_ble_eq_true rfl) (by decide) (by decide) (by omega) (by omega) (fun v ad2 F4 hK4 => ?_)
        obtain ⟨rfl, hF4, hK4⟩ := hK4
        have h64 := (hF4 60000 (by omega)).trans h60
        have hX4 := hX9.frM (F' := F4) (fun y hy => hF4 y (by omega))
        rcases hK4 with ⟨q1, q2, rfl, hM⟩ | ⟨n1, rfl, hM⟩ | ⟨q1, n2, rfl, hM⟩
        · exact absurd q2 m2
        · exact absurd d1 n1
        · refine r_istore X dL_law_215 (by rw [hN]; decide) (by rfl) ?_
          dsimp only [List.set]
          exact tl_addFund X (by omega) (by omega) hM (by omega) h64 (fun z => absurd z (by decide)) (r_widen (by omega) (by omega) (next ad F4 _ _ ⟨⟨rfl, rfl, rfl⟩, ⟨_, h64⟩, _, _, _, _, _, _, _, _, ⟨_, hX4⟩, ⟨_, hM⟩, hI.more ht, by omega⟩))
set_option maxRecDepth 100000 in
set_option maxHeartbeats 4000000 in
theorem sw_deposit : WSw RL 93 yL_deposit cL_deposit 5 (some .int) [(0, 10, 13, 21), (0, 10, 17, 13)] 4 := ⟨⟨cw_deposit, w0, ⟨by decide, by decide⟩, by decide +kernel, ww 830 rfl rfl⟩, ww 831 rfl rfl⟩
set_option maxRecDepth 100000 in
set_option maxHeartbeats 4000000 in
theorem tl_deposit {M : Mx} {g : Gx} {mc ms : Nat} {K : Option Value → (Nat → Nat) → Pic → Prop} (X : Cx M g yL_law cL_law (some .boolean) 840 mc ms [] K noX) {ad : Nat → Nat} {F : Pic} {kc ks : Nat} (hkc : kc ≤ mc) (hks : ks ≤ ms) {td : Int} {nf nk nc : Nat} {A P : Nat → Nat → Int} {kf : Nat → Nat} {k : Int} (hM : MG g ad F td nf nk nc A P kf k) (hk : 0 ≤ k ∧ k ≤ 9) {bb : Int32} {f9 : Nat → Int64} (h60 : F 60000 = some (cJ g 1 f9)) (he : k = 0 → f9 0 = bb.toInt64) {v0 v1 v4 : Option Value} (next : V M g ad F kc ks 1474 [v0, v1, some (.ref (ad 50000)), some (.ref (ad 60000)), v4, some (.int (zI k)), some (.int bb)] []) : V M g ad F kc ks 285 [v0, v1, some (.ref (ad 50000)), some (.ref (ad 60000)), v4, some (.int (zI k)), some (.int bb)] [] := by
  obtain ⟨np, B, hB, hG⟩ := hM
  have hl := X.2.2.2.2.2.2
  refine r_aload_n X dL_law_285 (by rfl) ?_
  refine r_callV X dL_law_286 kL_89 (c_mThrown g _ hl ad F _ _ _ _ _ _ _ hB) (hB.1) (by rfl) (by rfl) (by rfl) (by rfl) (by exact Nat.le_of_ble_eq_true rfl) (by decide) (by decide) (by omega) (by omega) (fun v ad' F' hK => ?_)
  obtain ⟨rfl, rfl, rfl⟩ := hK
  refine r_iload X dL_law_289 (by rfl) ?_
  refine r_same X 296 dL_law_291 (by decide) ?_
  refine r_iload X dL_law_296 (by rfl) ?_
  refine r_if_ne X 313 dL_law_298 (by decide) (by unfold inR; omega) (fun q => ?_) (fun q => ?_)
  · refine r_goto X dL_law_313 1474 (by decide) ?_
    exact next
  · refine r_aload_n X dL_law_301 (by rfl) ?_
    refine r_iconst X dL_law_302 rfl ?_
    refine r_lald X 0 dL_law_303 (h60) (by rfl) (by omega) (by first | decide | omega) ?_
    rw [he q]
    refine r_iload X dL_law_304 (by rfl) ?_
    refine r_i2lG X dL_law_306 ?_
    refine r_lcmpE X dL_law_307 ?_
    refine r_if_eq X 313 dL_law_308 (by decide) (by unfold inR; omega) (fun q2 => ?_) (fun q2 => ?_)
    · refine r_goto X dL_law_313 1474 (by decide) ?_
      exact next
    · exact absurd rfl q2
set_option maxRecDepth 100000 in
set_option maxHeartbeats 4000000 in
theorem st_deposit {M : Mx} {g : Gx} {mc ms : Nat} {K : Option Value → (Nat → Nat) → Pic → Prop} (X : Cx M g yL_law cL_law (some .boolean) 840 mc ms [] K noX) (hN : mN M = 7) {b L : Nat} {xs : Nat → Int32} (hSX : va_X b L xs (mS M) (mS M).heap) (hSb : b < (mS M).heap.size) (hSA : ¬ gA g b) (hSL : L ≤ 2560) {a1 a5 a6 : Nat} {ad : Nat → Nat} {F : Pic} {t : Nat} (ht : t < 512) (h5 : 5 * t + 5 ≤ L) (hI : INV g a1 a5 a6 ad F t) {kc ks : Nat} (hkc : kc + 32 ≤ mc) (hks : ks + 1000 ≤ ms) {o5 o6 : Option Value} (next : ∀ (ad' : Nat → Nat) (F' : Pic) (o5 o6 : Option Value), INV g a1 a5 a6 ad' F' (t + 1) → V M g ad' F' (kc + 32) (ks + 1000) 1474 [some (.ref b), some (.ref a1), some (.ref a5), some (.ref a6), some (.int (zI ((5 * t : Nat) : Int))), o5, o6] []) : V M g ad F kc ks 248 [some (.ref b), some (.ref a1), some (.ref a5), some (.ref a6), some (.int (zI ((5 * t : Nat) : Int))), o5, o6] [] := by
  obtain ⟨⟨rfl, rfl, rfl⟩, ⟨f, h60⟩, td, nf, nk, nc, A, P, kf, sn, ⟨ser, hX9⟩, ⟨th, np, B, hB, hG⟩, hI, hsn⟩ := hI
  have hl := X.2.2.2.2.2.2
  have hI0 := hI.1
  have h100 := hX9.1.1
  have hkf : ∀ i, i < nk → kf i < nf := fun i hi => (hI.2.2.1 i hi).1
  obtain ⟨s1, e1, r1⟩ : ∃ z : Int, xs (5 * t + 1) = zI z ∧ inR z := ⟨_, zI_of _, inR_of _⟩
  obtain ⟨s2, e2, r2⟩ : ∃ z : Int, xs (5 * t + 2) = zI z ∧ inR z := ⟨_, zI_of _, inR_of _⟩
  refine r_aload_n X dL_law_248 (by rfl) ?_
  refine r_aload_n X dL_law_249 (by rfl) ?_
  refine r_iload X dL_law_250 (by rfl) ?_
  refine r_iconst X dL_law_252 rfl ?_
  refine r_iadd X dL_law_253 ?_
  refine r_sld X hSX hSb hSA hSL (5 * t + 1) dL_law_254 (by omega) (by omega) ?_
  rw [e1]
  refine r_aload_n X dL_law_255 (by rfl) ?_
  refine r_iload X dL_law_256 (by rfl) ?_
  refine r_iconst X dL_law_258 rfl ?_
  refine r_iadd X dL_law_259 ?_
  refine r_sld X hSX hSb hSA hSL (5 * t + 2) dL_law_260 (by omega) (by omega) ?_
  rw [e2]
  refine r_aload_n X dL_law_261 (by rfl) ?_
  refine r_callSW X dL_law_262 sw_deposit (c_wDeposit g _ hl ad F f h60 h100 (zI s1) (zI s2) (c_deposit g _ hl ad F _ _ _ _ _ _ _ _ ⟨ser, hX9⟩ s1 s2 r1 r2) (by decide) (fun v ad' F' h => ⟨⟨_, h.2.1⟩, h.2.2.2.1 60000 (by omega), by rw [h.2.2.1]⟩) (fun E ad' F' h => h.1.elim (fun q => .inl q.1) (fun q => .inr q.1))) (by rfl) (by rfl) (by exact Nat.le_of_ble_eq_true rfl) (by omega) (by decide) (by omega) (by omega) (fun v ad1 F1 hK => ?_)
  rcases hK with ⟨rfl, F2, x, f2, hK2, hF1⟩ | ⟨q, hq, hKX, rfl⟩
  · have h63 : F1 60000 = some (cJ g 1 (vp_updL f2 0 x.toInt64)) := by rw [hF1]; exact pu_s
    have hfr : ∀ y, y ≠ 60000 → F1 y = F2 y := fun y hy => by rw [hF1]; exact pu_n hy
    clear hF1
    obtain ⟨⟨c1, c2⟩, hv, rfl, hF2, ser2, hX2⟩ := hK2
    cases hv
    have aa : ∀ x, (x ≤ 100 ∨ 40000 ≤ x) → ad x = ad x := fun _ _ => rfl
    have hX3 := hX2.frM (F' := F1) (fun y hy => hfr y (by omega))
    have hB3 := hB.fr (F' := F1) (ad' := ad) (fun y y1 y2 => (hfr y (by omega)).trans (hF2 y (by omega))) (fun y y1 y2 => aa y (by omega))
    refine r_istore X dL_law_265 (by rw [hN]; decide) (by rfl) ?_
    dsimp only [List.set]
    refine r_aload_n X dL_law_267 (by rfl) ?_
    refine r_aload_n X dL_law_268 (by rfl) ?_
    refine r_iload X dL_law_269 (by rfl) ?_
    refine r_iconst X dL_law_271 rfl ?_
    refine r_iadd X dL_law_272 ?_
    refine r_sld X hSX hSb hSA hSL (5 * t + 1) dL_law_273 (by omega) (by omega) ?_
    rw [e1]
    refine r_aload_n X dL_law_274 (by rfl) ?_
    refine r_iload X dL_law_275 (by rfl) ?_
    refine r_iconst X dL_law_277 rfl ?_
    refine r_iadd X dL_law_278 ?_
    refine r_sld X hSX hSb hSA hSL (5 * t + 2) dL_law_279 (by omega) (by omega) ?_
    rw [e2]
    refine r_callV X dL_law_280 kL_96 (c_gDeposit g _ hl ad F1 _ _ _ _ _ _ _ _ _ _ hB3 hG s1 s2 r1 r2 (by omega)) (hB3.1) (by rfl) (by rfl) (by rfl) (by rfl) (by exact Nat.le_of_ble_eq_true rfl) (by decide) (by decide) (by omega) (by omega) (fun v ad2 F4 hK4 => ?_)
    obtain ⟨rfl, hF4, hK4⟩ := hK4
    have h64 := (hF4 60000 (by omega)).trans h63
    have hX4 := hX3.frM (F' := F4) (fun y hy => hF4 y (by omega))
    rcases hK4 with ⟨q1, q2, rfl, hM⟩ | ⟨n1, rfl, hM⟩ | ⟨q1, n2, rfl, hM⟩
    · refine r_istore X dL_law_283 (by rw [hN]; decide) (by rfl) ?_
      dsimp only [List.set]
      exact tl_deposit X (by omega) (by omega) hM (by omega) h64 (fun _ => rfl) (r_widen (by omega) (by omega) (next ad F4 _ _ ⟨⟨rfl, rfl, rfl⟩, ⟨_, h64⟩, _, _, _, _, _, _, _, _, ⟨_, hX4⟩, ⟨_, hM⟩, hI.dep ht (by omega) c2, by omega⟩))
    · exact absurd c1 n1
    · exact absurd c2 n2
  · simp only [List.mem_cons, List.not_mem_nil, or_false] at hq
    rcases hq with rfl | rfl
    · obtain ⟨hC, rfl, rfl⟩ := hKX
      rcases hC with ⟨z, c⟩ | ⟨z, c⟩
      · have m1 := c
        refine r_istore X dL_law_265 (by rw [hN]; decide) (by rfl) ?_
        dsimp only [List.set]
        refine r_aload_n X dL_law_267 (by rfl) ?_
        refine r_aload_n X dL_law_268 (by rfl) ?_
        refine r_iload X dL_law_269 (by rfl) ?_
        refine r_iconst X dL_law_271 rfl ?_
        refine r_iadd X dL_law_272 ?_
        refine r_sld X hSX hSb hSA hSL (5 * t + 1) dL_law_273 (by omega) (by omega) ?_
        rw [e1]
        refine r_aload_n X dL_law_274 (by rfl) ?_
        refine r_iload X dL_law_275 (by rfl) ?_
        refine r_iconst X dL_law_277 rfl ?_
        refine r_iadd X dL_law_278 ?_
        refine r_sld X hSX hSb hSA hSL (5 * t + 2) dL_law_279 (by omega) (by omega) ?_
        rw [e2]
        refine r_callV X dL_law_280 kL_96 (c_gDeposit g _ hl ad F _ _ _ _ _ _ _ _ _ _ hB hG s1 s2 r1 r2 (by omega)) (hB.1) (by rfl) (by rfl) (by rfl) (by rfl) (by exact Nat.le_of_ble_eq_true rfl) (by decide) (by decide) (by omega) (by omega) (fun v ad2 F4 hK4 => ?_)
        obtain ⟨rfl, hF4, hK4⟩ := hK4
        have h64 := (hF4 60000 (by omega)).trans h60
        have hX4 := hX9.frM (F' := F4) (fun y hy => hF4 y (by omega))
        rcases hK4 with ⟨q1, q2, rfl, hM⟩ | ⟨n1, rfl, hM⟩ | ⟨q1, n2, rfl, hM⟩
        · exact absurd q1 m1
        · refine r_istore X dL_law_283 (by rw [hN]; decide) (by rfl) ?_
          dsimp only [List.set]
          exact tl_deposit X (by omega) (by omega) hM (by omega) h64 (fun z => absurd z (by decide)) (r_widen (by omega) (by omega) (next ad F4 _ _ ⟨⟨rfl, rfl, rfl⟩, ⟨_, h64⟩, _, _, _, _, _, _, _, _, ⟨_, hX4⟩, ⟨_, hM⟩, hI.more ht, by omega⟩))
        · exact absurd q1 m1
      · exact absurd z (by decide)
    · obtain ⟨hC, rfl, rfl⟩ := hKX
      rcases hC with ⟨z, c⟩ | ⟨z, c⟩
      · exact absurd z (by decide)
      · obtain ⟨d1, m2⟩ := c
        refine r_istore X dL_law_265 (by rw [hN]; decide) (by rfl) ?_
        dsimp only [List.set]
        refine r_aload_n X dL_law_267 (by rfl) ?_
        refine r_aload_n X dL_law_268 (by rfl) ?_
        refine r_iload X dL_law_269 (by rfl) ?_
        refine r_iconst X dL_law_271 rfl ?_
        refine r_iadd X dL_law_272 ?_
        refine r_sld X hSX hSb hSA hSL (5 * t + 1) dL_law_273 (by omega) (by omega) ?_
        rw [e1]
        refine r_aload_n X dL_law_274 (by rfl) ?_
        refine r_iload X dL_law_275 (by rfl) ?_
        refine r_iconst X dL_law_277 rfl ?_
        refine r_iadd X dL_law_278 ?_
        refine r_sld X hSX hSb hSA hSL (5 * t + 2) dL_law_279 (by omega) (by omega) ?_
        rw [e2]
        refine r_callV X dL_law_280 kL_96 (c_gDeposit g _ hl ad F _ _ _ _ _ _ _ _ _ _ hB hG s1 s2 r1 r2 (by omega)) (hB.1) (by rfl) (by rfl) (by rfl) (by rfl) (by exact Nat.le_of_ble_eq_true rfl) (by decide) (by decide) (by omega) (by omega) (fun v ad2 F4 hK4 => ?_)
        obtain ⟨rfl, hF4, hK4⟩ := hK4
        have h64 := (hF4 60000 (by omega)).trans h60
        have hX4 := hX9.frM (F' := F4) (fun y hy => hF4 y (by omega))
        rcases hK4 with ⟨q1, q2, rfl, hM⟩ | ⟨n1, rfl, hM⟩ | ⟨q1, n2, rfl, hM⟩
        · exact absurd q2 m2
        · exact absurd d1 n1
        · refine r_istore X dL_law_283 (by rw [hN]; decide) (by rfl) ?_
          dsimp only [List.set]
          exact tl_deposit X (by omega) (by omega) hM (by omega) h64 (fun z => absurd z (by decide)) (r_widen (by omega) (by omega) (next ad F4 _ _ ⟨⟨rfl, rfl, rfl⟩, ⟨_, h64⟩, _, _, _, _, _, _, _, _, ⟨_, hX4⟩, ⟨_, hM⟩, hI.more ht, by omega⟩))
set_option maxRecDepth 100000 in
set_option maxHeartbeats 4000000 in
theorem sw_commit : WSw RL 97 yL_commit cL_commit 7 (some .int) [(0, 14, 17, 21), (0, 14, 21, 13), (0, 14, 25, 15)] 6 := ⟨⟨cw_commit, w0, ⟨by decide, by decide⟩, by decide +kernel, ww 845 rfl rfl⟩, ww 846 rfl rfl⟩
set_option maxRecDepth 100000 in
set_option maxHeartbeats 4000000 in
theorem tl_commit {M : Mx} {g : Gx} {mc ms : Nat} {K : Option Value → (Nat → Nat) → Pic → Prop} (X : Cx M g yL_law cL_law (some .boolean) 840 mc ms [] K noX) {ad : Nat → Nat} {F : Pic} {kc ks : Nat} (hkc : kc ≤ mc) (hks : ks ≤ ms) {td : Int} {nf nk nc : Nat} {A P : Nat → Nat → Int} {kf : Nat → Nat} {k : Int} (hM : MG g ad F td nf nk nc A P kf k) (hk : 0 ≤ k ∧ k ≤ 9) {bb : Int32} {f9 : Nat → Int64} (h60 : F 60000 = some (cJ g 1 f9)) (he : k = 0 → f9 0 = bb.toInt64) {v0 v1 v4 : Option Value} (next : V M g ad F kc ks 1474 [v0, v1, some (.ref (ad 50000)), some (.ref (ad 60000)), v4, some (.int (zI k)), some (.int bb)] []) : V M g ad F kc ks 377 [v0, v1, some (.ref (ad 50000)), some (.ref (ad 60000)), v4, some (.int (zI k)), some (.int bb)] [] := by
  obtain ⟨np, B, hB, hG⟩ := hM
  have hl := X.2.2.2.2.2.2
  refine r_aload_n X dL_law_377 (by rfl) ?_
  refine r_callV X dL_law_378 kL_89 (c_mThrown g _ hl ad F _ _ _ _ _ _ _ hB) (hB.1) (by rfl) (by rfl) (by rfl) (by rfl) (by exact Nat.le_of_ble_eq_true rfl) (by decide) (by decide) (by omega) (by omega) (fun v ad' F' hK => ?_)
  obtain ⟨rfl, rfl, rfl⟩ := hK
  refine r_iload X dL_law_381 (by rfl) ?_
  refine r_same X 388 dL_law_383 (by decide) ?_
  refine r_iload X dL_law_388 (by rfl) ?_
  refine r_if_ne X 405 dL_law_390 (by decide) (by unfold inR; omega) (fun q => ?_) (fun q => ?_)
  · refine r_goto X dL_law_405 1474 (by decide) ?_
    exact next
  · refine r_aload_n X dL_law_393 (by rfl) ?_
    refine r_iconst X dL_law_394 rfl ?_
    refine r_lald X 0 dL_law_395 (h60) (by rfl) (by omega) (by first | decide | omega) ?_
    rw [he q]
    refine r_iload X dL_law_396 (by rfl) ?_
    refine r_i2lG X dL_law_398 ?_
    refine r_lcmpE X dL_law_399 ?_
    refine r_if_eq X 405 dL_law_400 (by decide) (by unfold inR; omega) (fun q2 => ?_) (fun q2 => ?_)
    · refine r_goto X dL_law_405 1474 (by decide) ?_
      exact next
    · exact absurd rfl q2
set_option maxRecDepth 100000 in
set_option maxHeartbeats 4000000 in
theorem st_commit {M : Mx} {g : Gx} {mc ms : Nat} {K : Option Value → (Nat → Nat) → Pic → Prop} (X : Cx M g yL_law cL_law (some .boolean) 840 mc ms [] K noX) (hN : mN M = 7) {b L : Nat} {xs : Nat → Int32} (hSX : va_X b L xs (mS M) (mS M).heap) (hSb : b < (mS M).heap.size) (hSA : ¬ gA g b) (hSL : L ≤ 2560) {a1 a5 a6 : Nat} {ad : Nat → Nat} {F : Pic} {t : Nat} (ht : t < 512) (h5 : 5 * t + 5 ≤ L) (hI : INV g a1 a5 a6 ad F t) {kc ks : Nat} (hkc : kc + 32 ≤ mc) (hks : ks + 1000 ≤ ms) {o5 o6 : Option Value} (next : ∀ (ad' : Nat → Nat) (F' : Pic) (o5 o6 : Option Value), INV g a1 a5 a6 ad' F' (t + 1) → V M g ad' F' (kc + 32) (ks + 1000) 1474 [some (.ref b), some (.ref a1), some (.ref a5), some (.ref a6), some (.int (zI ((5 * t : Nat) : Int))), o5, o6] []) : V M g ad F kc ks 316 [some (.ref b), some (.ref a1), some (.ref a5), some (.ref a6), some (.int (zI ((5 * t : Nat) : Int))), o5, o6] [] := by
  obtain ⟨⟨rfl, rfl, rfl⟩, ⟨f, h60⟩, td, nf, nk, nc, A, P, kf, sn, ⟨ser, hX9⟩, ⟨th, np, B, hB, hG⟩, hI, hsn⟩ := hI
  have hl := X.2.2.2.2.2.2
  have hI0 := hI.1
  have h100 := hX9.1.1
  have hkf : ∀ i, i < nk → kf i < nf := fun i hi => (hI.2.2.1 i hi).1
  obtain ⟨s1, e1, r1⟩ : ∃ z : Int, xs (5 * t + 1) = zI z ∧ inR z := ⟨_, zI_of _, inR_of _⟩
  obtain ⟨s2, e2, r2⟩ : ∃ z : Int, xs (5 * t + 2) = zI z ∧ inR z := ⟨_, zI_of _, inR_of _⟩
  obtain ⟨s3, e3, r3⟩ : ∃ z : Int, xs (5 * t + 3) = zI z ∧ inR z := ⟨_, zI_of _, inR_of _⟩
  obtain ⟨s4, e4, r4⟩ : ∃ z : Int, xs (5 * t + 4) = zI z ∧ inR z := ⟨_, zI_of _, inR_of _⟩
  refine r_aload_n X dL_law_316 (by rfl) ?_
  refine r_aload_n X dL_law_317 (by rfl) ?_
  refine r_iload X dL_law_318 (by rfl) ?_
  refine r_iconst X dL_law_320 rfl ?_
  refine r_iadd X dL_law_321 ?_
  refine r_sld X hSX hSb hSA hSL (5 * t + 1) dL_law_322 (by omega) (by omega) ?_
  rw [e1]
  refine r_aload_n X dL_law_323 (by rfl) ?_
  refine r_iload X dL_law_324 (by rfl) ?_
  refine r_iconst X dL_law_326 rfl ?_
  refine r_iadd X dL_law_327 ?_
  refine r_sld X hSX hSb hSA hSL (5 * t + 2) dL_law_328 (by omega) (by omega) ?_
  rw [e2]
  refine r_aload_n X dL_law_329 (by rfl) ?_
  refine r_iload X dL_law_330 (by rfl) ?_
  refine r_iconst X dL_law_332 rfl ?_
  refine r_iadd X dL_law_333 ?_
  refine r_sld X hSX hSb hSA hSL (5 * t + 3) dL_law_334 (by omega) (by omega) ?_
  rw [e3]
  refine r_aload_n X dL_law_335 (by rfl) ?_
  refine r_iload X dL_law_336 (by rfl) ?_
  refine r_iconst X dL_law_338 rfl ?_
  refine r_iadd X dL_law_339 ?_
  refine r_sld X hSX hSb hSA hSL (5 * t + 4) dL_law_340 (by omega) (by omega) ?_
  rw [e4]
  refine r_aload_n X dL_law_341 (by rfl) ?_
  refine r_callSW X dL_law_342 sw_commit (c_wCommit g _ hl ad F f h60 h100 (zI s1) (zI s2) (zI s3) (zI s4) (c_commit g _ hl ad F _ _ _ _ _ _ _ _ ⟨ser, hX9⟩ t hI (by omega) s1 s2 s3 s4 r1 r2 r3 r4) (by decide) (fun v ad' F' h => ⟨⟨_, h.2.1⟩, h.2.2.2.1 60000 (by omega), h.2.2.1 60000 (by omega)⟩) (fun E ad' F' h => h.1.elim (fun q => .inl q.1) (fun q => q.elim (fun q => .inr (.inl q.1)) (fun q => .inr (.inr q.1))))) (by rfl) (by rfl) (by exact Nat.le_of_ble_eq_true rfl) (by omega) (by decide) (by omega) (by omega) (fun v ad1 F1 hK => ?_)
  rcases hK with ⟨rfl, F2, x, f2, hK2, hF1⟩ | ⟨q, hq, hKX, rfl⟩
  · have h63 : F1 60000 = some (cJ g 1 (vp_updL f2 0 x.toInt64)) := by rw [hF1]; exact pu_s
    have hfr : ∀ y, y ≠ 60000 → F1 y = F2 y := fun y hy => by rw [hF1]; exact pu_n hy
    clear hF1
    obtain ⟨⟨c1, c2, c3⟩, hv, aa, hF2, ser2, hX2⟩ := hK2
    cases hv
    have hX3 := hX2.frM (F' := F1) (fun y hy => hfr y (by omega))
    have hB3 := hB.fr (F' := F1) (ad' := ad1) (fun y y1 y2 => (hfr y (by omega)).trans (hF2 y (by omega))) (fun y y1 y2 => aa y (by omega))
    rw [← aa 100 (by omega), ← aa 50000 (by omega), ← aa 60000 (by omega)] at next ⊢
    refine r_istore X dL_law_345 (by rw [hN]; decide) (by rfl) ?_
    dsimp only [List.set]
    refine r_aload_n X dL_law_347 (by rfl) ?_
    refine r_aload_n X dL_law_348 (by rfl) ?_
    refine r_iload X dL_law_349 (by rfl) ?_
    refine r_iconst X dL_law_351 rfl ?_
    refine r_iadd X dL_law_352 ?_
    refine r_sld X hSX hSb hSA hSL (5 * t + 1) dL_law_353 (by omega) (by omega) ?_
    rw [e1]
    refine r_aload_n X dL_law_354 (by rfl) ?_
    refine r_iload X dL_law_355 (by rfl) ?_
    refine r_iconst X dL_law_357 rfl ?_
    refine r_iadd X dL_law_358 ?_
    refine r_sld X hSX hSb hSA hSL (5 * t + 2) dL_law_359 (by omega) (by omega) ?_
    rw [e2]
    refine r_aload_n X dL_law_360 (by rfl) ?_
    refine r_iload X dL_law_361 (by rfl) ?_
    refine r_iconst X dL_law_363 rfl ?_
    refine r_iadd X dL_law_364 ?_
    refine r_sld X hSX hSb hSA hSL (5 * t + 3) dL_law_365 (by omega) (by omega) ?_
    rw [e3]
    refine r_aload_n X dL_law_366 (by rfl) ?_
    refine r_iload X dL_law_367 (by rfl) ?_
    refine r_iconst X dL_law_369 rfl ?_
    refine r_iadd X dL_law_370 ?_
    refine r_sld X hSX hSb hSA hSL (5 * t + 4) dL_law_371 (by omega) (by omega) ?_
    rw [e4]
    refine r_callV X dL_law_372 kL_99 (c_mCommit g _ hl ad1 F1 _ _ _ _ _ _ _ _ _ _ hB3 hG t hI s1 s2 s3 s4 r1 r2 r3 r4) (hB3.1) (by rfl) (by rfl) (by rfl) (by rfl) (by exact Nat.le_of_ble_eq_true rfl) (by decide) (by decide) (by omega) (by omega) (fun v ad2 F4 hK4 => ?_)
    obtain ⟨rfl, hF4, hK4⟩ := hK4
    have h64 := (hF4 60000 (by omega)).trans h63
    have hX4 := hX3.frM (F' := F4) (fun y hy => hF4 y (by omega))
    rcases hK4 with ⟨⟨q1, q2, q3⟩, rfl, hM⟩ | ⟨n1, rfl, hM⟩ | ⟨q1, n2, rfl, hM⟩ | ⟨q1, q2, n3, rfl, hM⟩
    · refine r_istore X dL_law_375 (by rw [hN]; decide) (by rfl) ?_
      dsimp only [List.set]
      exact tl_commit X (by omega) (by omega) hM (by omega) h64 (fun _ => rfl) (r_widen (by omega) (by omega) (next ad1 F4 _ _ ⟨⟨rfl, rfl, rfl⟩, ⟨_, h64⟩, _, _, _, _, _, _, _, _, ⟨_, hX4⟩, ⟨_, hM⟩, hI.com ht (by omega) c2 c3, by omega⟩))
    · exact absurd c1 n1
    · exact absurd c2 n2
    · exact absurd c3 n3
  · simp only [List.mem_cons, List.not_mem_nil, or_false] at hq
    rcases hq with rfl | rfl | rfl
    · obtain ⟨hC, rfl, rfl⟩ := hKX
      rcases hC with ⟨z, c⟩ | ⟨z, c⟩ | ⟨z, c⟩
      · have m1 := c
        refine r_istore X dL_law_345 (by rw [hN]; decide) (by rfl) ?_
        dsimp only [List.set]
        refine r_aload_n X dL_law_347 (by rfl) ?_
        refine r_aload_n X dL_law_348 (by rfl) ?_
        refine r_iload X dL_law_349 (by rfl) ?_
        refine r_iconst X dL_law_351 rfl ?_
        refine r_iadd X dL_law_352 ?_
        refine r_sld X hSX hSb hSA hSL (5 * t + 1) dL_law_353 (by omega) (by omega) ?_
        rw [e1]
        refine r_aload_n X dL_law_354 (by rfl) ?_
        refine r_iload X dL_law_355 (by rfl) ?_
        refine r_iconst X dL_law_357 rfl ?_
        refine r_iadd X dL_law_358 ?_
        refine r_sld X hSX hSb hSA hSL (5 * t + 2) dL_law_359 (by omega) (by omega) ?_
        rw [e2]
        refine r_aload_n X dL_law_360 (by rfl) ?_
        refine r_iload X dL_law_361 (by rfl) ?_
        refine r_iconst X dL_law_363 rfl ?_
        refine r_iadd X dL_law_364 ?_
        refine r_sld X hSX hSb hSA hSL (5 * t + 3) dL_law_365 (by omega) (by omega) ?_
        rw [e3]
        refine r_aload_n X dL_law_366 (by rfl) ?_
        refine r_iload X dL_law_367 (by rfl) ?_
        refine r_iconst X dL_law_369 rfl ?_
        refine r_iadd X dL_law_370 ?_
        refine r_sld X hSX hSb hSA hSL (5 * t + 4) dL_law_371 (by omega) (by omega) ?_
        rw [e4]
        refine r_callV X dL_law_372 kL_99 (c_mCommit g _ hl ad F _ _ _ _ _ _ _ _ _ _ hB hG t hI s1 s2 s3 s4 r1 r2 r3 r4) (hB.1) (by rfl) (by rfl) (by rfl) (by rfl) (by exact Nat.le_of_ble_eq_true rfl) (by decide) (by decide) (by omega) (by omega) (fun v ad2 F4 hK4 => ?_)
        obtain ⟨rfl, hF4, hK4⟩ := hK4
        have h64 := (hF4 60000 (by omega)).trans h60
        have hX4 := hX9.frM (F' := F4) (fun y hy => hF4 y (by omega))
        rcases hK4 with ⟨⟨q1, q2, q3⟩, rfl, hM⟩ | ⟨n1, rfl, hM⟩ | ⟨q1, n2, rfl, hM⟩ | ⟨q1, q2, n3, rfl, hM⟩
        · exact absurd q1 m1
        · refine r_istore X dL_law_375 (by rw [hN]; decide) (by rfl) ?_
          dsimp only [List.set]
          exact tl_commit X (by omega) (by omega) hM (by omega) h64 (fun z => absurd z (by decide)) (r_widen (by omega) (by omega) (next ad F4 _ _ ⟨⟨rfl, rfl, rfl⟩, ⟨_, h64⟩, _, _, _, _, _, _, _, _, ⟨_, hX4⟩, ⟨_, hM⟩, hI.more ht, by omega⟩))
        · exact absurd q1 m1
        · exact absurd q1 m1
      · exact absurd z (by decide)
      · exact absurd z (by decide)
    · obtain ⟨hC, rfl, rfl⟩ := hKX
      rcases hC with ⟨z, c⟩ | ⟨z, c⟩ | ⟨z, c⟩
      · exact absurd z (by decide)
      · obtain ⟨d1, m2⟩ := c
        refine r_istore X dL_law_345 (by rw [hN]; decide) (by rfl) ?_
        dsimp only [List.set]
        refine r_aload_n X dL_law_347 (by rfl) ?_
        refine r_aload_n X dL_law_348 (by rfl) ?_
        refine r_iload X dL_law_349 (by rfl) ?_
        refine r_iconst X dL_law_351 rfl ?_
        refine r_iadd X dL_law_352 ?_
        refine r_sld X hSX hSb hSA hSL (5 * t + 1) dL_law_353 (by omega) (by omega) ?_
        rw [e1]
        refine r_aload_n X dL_law_354 (by rfl) ?_
        refine r_iload X dL_law_355 (by rfl) ?_
        refine r_iconst X dL_law_357 rfl ?_
        refine r_iadd X dL_law_358 ?_
        refine r_sld X hSX hSb hSA hSL (5 * t + 2) dL_law_359 (by omega) (by omega) ?_
        rw [e2]
        refine r_aload_n X dL_law_360 (by rfl) ?_
        refine r_iload X dL_law_361 (by rfl) ?_
        refine r_iconst X dL_law_363 rfl ?_
        refine r_iadd X dL_law_364 ?_
        refine r_sld X hSX hSb hSA hSL (5 * t + 3) dL_law_365 (by omega) (by omega) ?_
        rw [e3]
        refine r_aload_n X dL_law_366 (by rfl) ?_
        refine r_iload X dL_law_367 (by rfl) ?_
        refine r_iconst X dL_law_369 rfl ?_
        refine r_iadd X dL_law_370 ?_
        refine r_sld X hSX hSb hSA hSL (5 * t + 4) dL_law_371 (by omega) (by omega) ?_
        rw [e4]
        refine r_callV X dL_law_372 kL_99 (c_mCommit g _ hl ad F _ _ _ _ _ _ _ _ _ _ hB hG t hI s1 s2 s3 s4 r1 r2 r3 r4) (hB.1) (by rfl) (by rfl) (by rfl) (by rfl) (by exact Nat.le_of_ble_eq_true rfl) (by decide) (by decide) (by omega) (by omega) (fun v ad2 F4 hK4 => ?_)
        obtain ⟨rfl, hF4, hK4⟩ := hK4
        have h64 := (hF4 60000 (by omega)).trans h60
        have hX4 := hX9.frM (F' := F4) (fun y hy => hF4 y (by omega))
        rcases hK4 with ⟨⟨q1, q2, q3⟩, rfl, hM⟩ | ⟨n1, rfl, hM⟩ | ⟨q1, n2, rfl, hM⟩ | ⟨q1, q2, n3, rfl, hM⟩
        · exact absurd q2 m2
        · exact absurd d1 n1
        · refine r_istore X dL_law_375 (by rw [hN]; decide) (by rfl) ?_
          dsimp only [List.set]
          exact tl_commit X (by omega) (by omega) hM (by omega) h64 (fun z => absurd z (by decide)) (r_widen (by omega) (by omega) (next ad F4 _ _ ⟨⟨rfl, rfl, rfl⟩, ⟨_, h64⟩, _, _, _, _, _, _, _, _, ⟨_, hX4⟩, ⟨_, hM⟩, hI.more ht, by omega⟩))
        · exact absurd q2 m2
      · exact absurd z (by decide)
    · obtain ⟨hC, rfl, rfl⟩ := hKX
      rcases hC with ⟨z, c⟩ | ⟨z, c⟩ | ⟨z, c⟩
      · exact absurd z (by decide)
      · exact absurd z (by decide)
      · obtain ⟨d1, d2, m3⟩ := c
        refine r_istore X dL_law_345 (by rw [hN]; decide) (by rfl) ?_
        dsimp only [List.set]
        refine r_aload_n X dL_law_347 (by rfl) ?_
        refine r_aload_n X dL_law_348 (by rfl) ?_
        refine r_iload X dL_law_349 (by rfl) ?_
        refine r_iconst X dL_law_351 rfl ?_
        refine r_iadd X dL_law_352 ?_
        refine r_sld X hSX hSb hSA hSL (5 * t + 1) dL_law_353 (by omega) (by omega) ?_
        rw [e1]
        refine r_aload_n X dL_law_354 (by rfl) ?_
        refine r_iload X dL_law_355 (by rfl) ?_
        refine r_iconst X dL_law_357 rfl ?_
        refine r_iadd X dL_law_358 ?_
        refine r_sld X hSX hSb hSA hSL (5 * t + 2) dL_law_359 (by omega) (by omega) ?_
        rw [e2]
        refine r_aload_n X dL_law_360 (by rfl) ?_
        refine r_iload X dL_law_361 (by rfl) ?_
        refine r_iconst X dL_law_363 rfl ?_
        refine r_iadd X dL_law_364 ?_
        refine r_sld X hSX hSb hSA hSL (5 * t + 3) dL_law_365 (by omega) (by omega) ?_
        rw [e3]
        refine r_aload_n X dL_law_366 (by rfl) ?_
        refine r_iload X dL_law_367 (by rfl) ?_
        refine r_iconst X dL_law_369 rfl ?_
        refine r_iadd X dL_law_370 ?_
        refine r_sld X hSX hSb hSA hSL (5 * t + 4) dL_law_371 (by omega) (by omega) ?_
        rw [e4]
        refine r_callV X dL_law_372 kL_99 (c_mCommit g _ hl ad F _ _ _ _ _ _ _ _ _ _ hB hG t hI s1 s2 s3 s4 r1 r2 r3 r4) (hB.1) (by rfl) (by rfl) (by rfl) (by rfl) (by exact Nat.le_of_ble_eq_true rfl) (by decide) (by decide) (by omega) (by omega) (fun v ad2 F4 hK4 => ?_)
        obtain ⟨rfl, hF4, hK4⟩ := hK4
        have h64 := (hF4 60000 (by omega)).trans h60
        have hX4 := hX9.frM (F' := F4) (fun y hy => hF4 y (by omega))
        rcases hK4 with ⟨⟨q1, q2, q3⟩, rfl, hM⟩ | ⟨n1, rfl, hM⟩ | ⟨q1, n2, rfl, hM⟩ | ⟨q1, q2, n3, rfl, hM⟩
        · exact absurd q3 m3
        · exact absurd d1 n1
        · exact absurd d2 n2
        · refine r_istore X dL_law_375 (by rw [hN]; decide) (by rfl) ?_
          dsimp only [List.set]
          exact tl_commit X (by omega) (by omega) hM (by omega) h64 (fun z => absurd z (by decide)) (r_widen (by omega) (by omega) (next ad F4 _ _ ⟨⟨rfl, rfl, rfl⟩, ⟨_, h64⟩, _, _, _, _, _, _, _, _, ⟨_, hX4⟩, ⟨_, hM⟩, hI.more ht, by omega⟩))
set_option maxRecDepth 100000 in
set_option maxHeartbeats 4000000 in
theorem sw_cancel : WSw RL 100 yL_cancel cL_cancel 4 (some .int) [(0, 9, 12, 21)] 3 := ⟨⟨cw_cancel, w0, ⟨by decide, by decide⟩, by decide +kernel, ww 869 rfl rfl⟩, ww 870 rfl rfl⟩
set_option maxRecDepth 100000 in
set_option maxHeartbeats 4000000 in
theorem tl_cancel {M : Mx} {g : Gx} {mc ms : Nat} {K : Option Value → (Nat → Nat) → Pic → Prop} (X : Cx M g yL_law cL_law (some .boolean) 840 mc ms [] K noX) {ad : Nat → Nat} {F : Pic} {kc ks : Nat} (hkc : kc ≤ mc) (hks : ks ≤ ms) {td : Int} {nf nk nc : Nat} {A P : Nat → Nat → Int} {kf : Nat → Nat} {k : Int} (hM : MG g ad F td nf nk nc A P kf k) (hk : 0 ≤ k ∧ k ≤ 9) {bb : Int32} {f9 : Nat → Int64} (h60 : F 60000 = some (cJ g 1 f9)) (he : k = 0 → f9 0 = bb.toInt64) {v0 v1 v4 : Option Value} (next : V M g ad F kc ks 1474 [v0, v1, some (.ref (ad 50000)), some (.ref (ad 60000)), v4, some (.int (zI k)), some (.int bb)] []) : V M g ad F kc ks 433 [v0, v1, some (.ref (ad 50000)), some (.ref (ad 60000)), v4, some (.int (zI k)), some (.int bb)] [] := by
  obtain ⟨np, B, hB, hG⟩ := hM
  have hl := X.2.2.2.2.2.2
  refine r_aload_n X dL_law_433 (by rfl) ?_
  refine r_callV X dL_law_434 kL_89 (c_mThrown g _ hl ad F _ _ _ _ _ _ _ hB) (hB.1) (by rfl) (by rfl) (by rfl) (by rfl) (by exact Nat.le_of_ble_eq_true rfl) (by decide) (by decide) (by omega) (by omega) (fun v ad' F' hK => ?_)
  obtain ⟨rfl, rfl, rfl⟩ := hK
  refine r_iload X dL_law_437 (by rfl) ?_
  refine r_same X 444 dL_law_439 (by decide) ?_
  refine r_iload X dL_law_444 (by rfl) ?_
  refine r_if_ne X 461 dL_law_446 (by decide) (by unfold inR; omega) (fun q => ?_) (fun q => ?_)
  · refine r_goto X dL_law_461 1474 (by decide) ?_
    exact next
  · refine r_aload_n X dL_law_449 (by rfl) ?_
    refine r_iconst X dL_law_450 rfl ?_
    refine r_lald X 0 dL_law_451 (h60) (by rfl) (by omega) (by first | decide | omega) ?_
    rw [he q]
    refine r_iload X dL_law_452 (by rfl) ?_
    refine r_i2lG X dL_law_454 ?_
    refine r_lcmpE X dL_law_455 ?_
    refine r_if_eq X 461 dL_law_456 (by decide) (by unfold inR; omega) (fun q2 => ?_) (fun q2 => ?_)
    · refine r_goto X dL_law_461 1474 (by decide) ?_
      exact next
    · exact absurd rfl q2
set_option maxRecDepth 100000 in
set_option maxHeartbeats 4000000 in
theorem st_cancel {M : Mx} {g : Gx} {mc ms : Nat} {K : Option Value → (Nat → Nat) → Pic → Prop} (X : Cx M g yL_law cL_law (some .boolean) 840 mc ms [] K noX) (hN : mN M = 7) {b L : Nat} {xs : Nat → Int32} (hSX : va_X b L xs (mS M) (mS M).heap) (hSb : b < (mS M).heap.size) (hSA : ¬ gA g b) (hSL : L ≤ 2560) {a1 a5 a6 : Nat} {ad : Nat → Nat} {F : Pic} {t : Nat} (ht : t < 512) (h5 : 5 * t + 5 ≤ L) (hI : INV g a1 a5 a6 ad F t) {kc ks : Nat} (hkc : kc + 32 ≤ mc) (hks : ks + 1000 ≤ ms) {o5 o6 : Option Value} (next : ∀ (ad' : Nat → Nat) (F' : Pic) (o5 o6 : Option Value), INV g a1 a5 a6 ad' F' (t + 1) → V M g ad' F' (kc + 32) (ks + 1000) 1474 [some (.ref b), some (.ref a1), some (.ref a5), some (.ref a6), some (.int (zI ((5 * t : Nat) : Int))), o5, o6] []) : V M g ad F kc ks 408 [some (.ref b), some (.ref a1), some (.ref a5), some (.ref a6), some (.int (zI ((5 * t : Nat) : Int))), o5, o6] [] := by
  obtain ⟨⟨rfl, rfl, rfl⟩, ⟨f, h60⟩, td, nf, nk, nc, A, P, kf, sn, ⟨ser, hX9⟩, ⟨th, np, B, hB, hG⟩, hI, hsn⟩ := hI
  have hl := X.2.2.2.2.2.2
  have hI0 := hI.1
  have h100 := hX9.1.1
  have hkf : ∀ i, i < nk → kf i < nf := fun i hi => (hI.2.2.1 i hi).1
  obtain ⟨s1, e1, r1⟩ : ∃ z : Int, xs (5 * t + 1) = zI z ∧ inR z := ⟨_, zI_of _, inR_of _⟩
  refine r_aload_n X dL_law_408 (by rfl) ?_
  refine r_aload_n X dL_law_409 (by rfl) ?_
  refine r_iload X dL_law_410 (by rfl) ?_
  refine r_iconst X dL_law_412 rfl ?_
  refine r_iadd X dL_law_413 ?_
  refine r_sld X hSX hSb hSA hSL (5 * t + 1) dL_law_414 (by omega) (by omega) ?_
  rw [e1]
  refine r_aload_n X dL_law_415 (by rfl) ?_
  refine r_callSW X dL_law_416 sw_cancel (c_wCancel g _ hl ad F f h60 h100 (zI s1) (c_cancel g _ hl ad F _ _ _ _ _ _ _ _ ⟨ser, hX9⟩ t hI s1 r1) (by decide) (fun v ad' F' h => ⟨⟨_, h.2.1⟩, h.2.2.2.1 60000 (by omega), by rw [h.2.2.1]⟩) (fun E ad' F' h => h.1.1)) (by rfl) (by rfl) (by exact Nat.le_of_ble_eq_true rfl) (by omega) (by decide) (by omega) (by omega) (fun v ad1 F1 hK => ?_)
  rcases hK with ⟨rfl, F2, x, f2, hK2, hF1⟩ | ⟨q, hq, hKX, rfl⟩
  · have h63 : F1 60000 = some (cJ g 1 (vp_updL f2 0 x.toInt64)) := by rw [hF1]; exact pu_s
    have hfr : ∀ y, y ≠ 60000 → F1 y = F2 y := fun y hy => by rw [hF1]; exact pu_n hy
    clear hF1
    obtain ⟨c1, hv, rfl, hF2, ser2, hX2⟩ := hK2
    cases hv
    have aa : ∀ x, (x ≤ 100 ∨ 40000 ≤ x) → ad x = ad x := fun _ _ => rfl
    have hX3 := hX2.frM (F' := F1) (fun y hy => hfr y (by omega))
    have hB3 := hB.fr (F' := F1) (ad' := ad) (fun y y1 y2 => (hfr y (by omega)).trans (hF2 y (by omega))) (fun y y1 y2 => aa y (by omega))
    refine r_istore X dL_law_419 (by rw [hN]; decide) (by rfl) ?_
    dsimp only [List.set]
    refine r_aload_n X dL_law_421 (by rfl) ?_
    refine r_aload_n X dL_law_422 (by rfl) ?_
    refine r_iload X dL_law_423 (by rfl) ?_
    refine r_iconst X dL_law_425 rfl ?_
    refine r_iadd X dL_law_426 ?_
    refine r_sld X hSX hSb hSA hSL (5 * t + 1) dL_law_427 (by omega) (by omega) ?_
    rw [e1]
    refine r_callV X dL_law_428 kL_103 (c_mCancel g _ hl ad F1 _ _ _ _ _ _ _ _ _ _ hB3 hG t hI s1 r1) (hB3.1) (by rfl) (by rfl) (by rfl) (by rfl) (by exact Nat.le_of_ble_eq_true rfl) (by decide) (by decide) (by omega) (by omega) (fun v ad2 F4 hK4 => ?_)
    obtain ⟨rfl, hF4, hK4⟩ := hK4
    have h64 := (hF4 60000 (by omega)).trans h63
    have hX4 := hX3.frM (F' := F4) (fun y hy => hF4 y (by omega))
    rcases hK4 with ⟨q1, rfl, hM⟩ | ⟨n1, rfl, hM⟩
    · refine r_istore X dL_law_431 (by rw [hN]; decide) (by rfl) ?_
      dsimp only [List.set]
      exact tl_cancel X (by omega) (by omega) hM (by omega) h64 (fun _ => rfl) (r_widen (by omega) (by omega) (next ad F4 _ _ ⟨⟨rfl, rfl, rfl⟩, ⟨_, h64⟩, _, _, _, _, _, _, _, _, ⟨_, hX4⟩, ⟨_, hM⟩, (hI.ends (by omega)).more ht, by omega⟩))
    · exact absurd c1 n1
  · simp only [List.mem_cons, List.not_mem_nil, or_false] at hq
    obtain rfl := hq
    obtain ⟨⟨-, m1⟩, rfl, rfl⟩ := hKX
    refine r_istore X dL_law_419 (by rw [hN]; decide) (by rfl) ?_
    dsimp only [List.set]
    refine r_aload_n X dL_law_421 (by rfl) ?_
    refine r_aload_n X dL_law_422 (by rfl) ?_
    refine r_iload X dL_law_423 (by rfl) ?_
    refine r_iconst X dL_law_425 rfl ?_
    refine r_iadd X dL_law_426 ?_
    refine r_sld X hSX hSb hSA hSL (5 * t + 1) dL_law_427 (by omega) (by omega) ?_
    rw [e1]
    refine r_callV X dL_law_428 kL_103 (c_mCancel g _ hl ad F _ _ _ _ _ _ _ _ _ _ hB hG t hI s1 r1) (hB.1) (by rfl) (by rfl) (by rfl) (by rfl) (by exact Nat.le_of_ble_eq_true rfl) (by decide) (by decide) (by omega) (by omega) (fun v ad2 F4 hK4 => ?_)
    obtain ⟨rfl, hF4, hK4⟩ := hK4
    have h64 := (hF4 60000 (by omega)).trans h60
    have hX4 := hX9.frM (F' := F4) (fun y hy => hF4 y (by omega))
    rcases hK4 with ⟨q1, rfl, hM⟩ | ⟨n1, rfl, hM⟩
    · exact absurd q1 m1
    · refine r_istore X dL_law_431 (by rw [hN]; decide) (by rfl) ?_
      dsimp only [List.set]
      exact tl_cancel X (by omega) (by omega) hM (by omega) h64 (fun z => absurd z (by decide)) (r_widen (by omega) (by omega) (next ad F4 _ _ ⟨⟨rfl, rfl, rfl⟩, ⟨_, h64⟩, _, _, _, _, _, _, _, _, ⟨_, hX4⟩, ⟨_, hM⟩, hI.more ht, by omega⟩))
set_option maxRecDepth 100000 in
set_option maxHeartbeats 4000000 in
theorem sw_advance : WSw RL 104 yL_advance cL_advance 4 (some .int) [(0, 9, 12, 13)] 3 := ⟨⟨cw_advance, w0, ⟨by decide, by decide⟩, by decide +kernel, ww 881 rfl rfl⟩, ww 882 rfl rfl⟩
set_option maxRecDepth 100000 in
set_option maxHeartbeats 4000000 in
theorem tl_advance {M : Mx} {g : Gx} {mc ms : Nat} {K : Option Value → (Nat → Nat) → Pic → Prop} (X : Cx M g yL_law cL_law (some .boolean) 840 mc ms [] K noX) {ad : Nat → Nat} {F : Pic} {kc ks : Nat} (hkc : kc ≤ mc) (hks : ks ≤ ms) {td : Int} {nf nk nc : Nat} {A P : Nat → Nat → Int} {kf : Nat → Nat} {k : Int} (hM : MG g ad F td nf nk nc A P kf k) (hk : 0 ≤ k ∧ k ≤ 9) {bb : Int32} {f9 : Nat → Int64} (h60 : F 60000 = some (cJ g 1 f9)) (he : k = 0 → f9 0 = bb.toInt64) {v0 v1 v4 : Option Value} (next : V M g ad F kc ks 1474 [v0, v1, some (.ref (ad 50000)), some (.ref (ad 60000)), v4, some (.int (zI k)), some (.int bb)] []) : V M g ad F kc ks 489 [v0, v1, some (.ref (ad 50000)), some (.ref (ad 60000)), v4, some (.int (zI k)), some (.int bb)] [] := by
  obtain ⟨np, B, hB, hG⟩ := hM
  have hl := X.2.2.2.2.2.2
  refine r_aload_n X dL_law_489 (by rfl) ?_
  refine r_callV X dL_law_490 kL_89 (c_mThrown g _ hl ad F _ _ _ _ _ _ _ hB) (hB.1) (by rfl) (by rfl) (by rfl) (by rfl) (by exact Nat.le_of_ble_eq_true rfl) (by decide) (by decide) (by omega) (by omega) (fun v ad' F' hK => ?_)
  obtain ⟨rfl, rfl, rfl⟩ := hK
  refine r_iload X dL_law_493 (by rfl) ?_
  refine r_same X 500 dL_law_495 (by decide) ?_
  refine r_iload X dL_law_500 (by rfl) ?_
  refine r_if_ne X 517 dL_law_502 (by decide) (by unfold inR; omega) (fun q => ?_) (fun q => ?_)
  · refine r_goto X dL_law_517 1474 (by decide) ?_
    exact next
  · refine r_aload_n X dL_law_505 (by rfl) ?_
    refine r_iconst X dL_law_506 rfl ?_
    refine r_lald X 0 dL_law_507 (h60) (by rfl) (by omega) (by first | decide | omega) ?_
    rw [he q]
    refine r_iload X dL_law_508 (by rfl) ?_
    refine r_i2lG X dL_law_510 ?_
    refine r_lcmpE X dL_law_511 ?_
    refine r_if_eq X 517 dL_law_512 (by decide) (by unfold inR; omega) (fun q2 => ?_) (fun q2 => ?_)
    · refine r_goto X dL_law_517 1474 (by decide) ?_
      exact next
    · exact absurd rfl q2
set_option maxRecDepth 100000 in
set_option maxHeartbeats 4000000 in
theorem st_advance {M : Mx} {g : Gx} {mc ms : Nat} {K : Option Value → (Nat → Nat) → Pic → Prop} (X : Cx M g yL_law cL_law (some .boolean) 840 mc ms [] K noX) (hN : mN M = 7) {b L : Nat} {xs : Nat → Int32} (hSX : va_X b L xs (mS M) (mS M).heap) (hSb : b < (mS M).heap.size) (hSA : ¬ gA g b) (hSL : L ≤ 2560) {a1 a5 a6 : Nat} {ad : Nat → Nat} {F : Pic} {t : Nat} (ht : t < 512) (h5 : 5 * t + 5 ≤ L) (hI : INV g a1 a5 a6 ad F t) {kc ks : Nat} (hkc : kc + 32 ≤ mc) (hks : ks + 1000 ≤ ms) {o5 o6 : Option Value} (next : ∀ (ad' : Nat → Nat) (F' : Pic) (o5 o6 : Option Value), INV g a1 a5 a6 ad' F' (t + 1) → V M g ad' F' (kc + 32) (ks + 1000) 1474 [some (.ref b), some (.ref a1), some (.ref a5), some (.ref a6), some (.int (zI ((5 * t : Nat) : Int))), o5, o6] []) : V M g ad F kc ks 464 [some (.ref b), some (.ref a1), some (.ref a5), some (.ref a6), some (.int (zI ((5 * t : Nat) : Int))), o5, o6] [] := by
  obtain ⟨⟨rfl, rfl, rfl⟩, ⟨f, h60⟩, td, nf, nk, nc, A, P, kf, sn, ⟨ser, hX9⟩, ⟨th, np, B, hB, hG⟩, hI, hsn⟩ := hI
  have hl := X.2.2.2.2.2.2
  have hI0 := hI.1
  have h100 := hX9.1.1
  have hkf : ∀ i, i < nk → kf i < nf := fun i hi => (hI.2.2.1 i hi).1
  obtain ⟨s1, e1, r1⟩ : ∃ z : Int, xs (5 * t + 1) = zI z ∧ inR z := ⟨_, zI_of _, inR_of _⟩
  refine r_aload_n X dL_law_464 (by rfl) ?_
  refine r_aload_n X dL_law_465 (by rfl) ?_
  refine r_iload X dL_law_466 (by rfl) ?_
  refine r_iconst X dL_law_468 rfl ?_
  refine r_iadd X dL_law_469 ?_
  refine r_sld X hSX hSb hSA hSL (5 * t + 1) dL_law_470 (by omega) (by omega) ?_
  rw [e1]
  refine r_aload_n X dL_law_471 (by rfl) ?_
  refine r_callSW X dL_law_472 sw_advance (c_wAdvance g _ hl ad F f h60 h100 (zI s1) (c_advance g _ hl ad F _ _ _ _ _ _ _ _ ⟨ser, hX9⟩ t hI s1 r1) (by decide) (fun v ad' F' h => ⟨⟨_, h.2.1⟩, h.2.2.2.1 60000 (by omega), by rw [h.2.2.1]⟩) (fun E ad' F' h => h.1.1)) (by rfl) (by rfl) (by exact Nat.le_of_ble_eq_true rfl) (by omega) (by decide) (by omega) (by omega) (fun v ad1 F1 hK => ?_)
  rcases hK with ⟨rfl, F2, x, f2, hK2, hF1⟩ | ⟨q, hq, hKX, rfl⟩
  · have h63 : F1 60000 = some (cJ g 1 (vp_updL f2 0 x.toInt64)) := by rw [hF1]; exact pu_s
    have hfr : ∀ y, y ≠ 60000 → F1 y = F2 y := fun y hy => by rw [hF1]; exact pu_n hy
    clear hF1
    obtain ⟨c1, hv, rfl, hF2, ser2, hX2⟩ := hK2
    cases hv
    have aa : ∀ x, (x ≤ 100 ∨ 40000 ≤ x) → ad x = ad x := fun _ _ => rfl
    have hX3 := hX2.frM (F' := F1) (fun y hy => hfr y (by omega))
    have hB3 := hB.fr (F' := F1) (ad' := ad) (fun y y1 y2 => (hfr y (by omega)).trans (hF2 y (by omega))) (fun y y1 y2 => aa y (by omega))
    refine r_istore X dL_law_475 (by rw [hN]; decide) (by rfl) ?_
    dsimp only [List.set]
    refine r_aload_n X dL_law_477 (by rfl) ?_
    refine r_aload_n X dL_law_478 (by rfl) ?_
    refine r_iload X dL_law_479 (by rfl) ?_
    refine r_iconst X dL_law_481 rfl ?_
    refine r_iadd X dL_law_482 ?_
    refine r_sld X hSX hSb hSA hSL (5 * t + 1) dL_law_483 (by omega) (by omega) ?_
    rw [e1]
    refine r_callV X dL_law_484 kL_106 (c_mAdvance g _ hl ad F1 _ _ _ _ _ _ _ _ _ _ hB3 hG t hI s1 r1) (hB3.1) (by rfl) (by rfl) (by rfl) (by rfl) (by exact Nat.le_of_ble_eq_true rfl) (by decide) (by decide) (by omega) (by omega) (fun v ad2 F4 hK4 => ?_)
    obtain ⟨rfl, hF4, hK4⟩ := hK4
    have h64 := (hF4 60000 (by omega)).trans h63
    have hX4 := hX3.frM (F' := F4) (fun y hy => hF4 y (by omega))
    rcases hK4 with ⟨q1, rfl, hM⟩ | ⟨n1, rfl, hM⟩
    · refine r_istore X dL_law_487 (by rw [hN]; decide) (by rfl) ?_
      dsimp only [List.set]
      exact tl_advance X (by omega) (by omega) hM (by omega) h64 (fun _ => rfl) (r_widen (by omega) (by omega) (next ad F4 _ _ ⟨⟨rfl, rfl, rfl⟩, ⟨_, h64⟩, _, _, _, _, _, _, _, _, ⟨_, hX4⟩, ⟨_, hM⟩, (endS_iv nk nk A kf (Nat.le_refl _) (hI.today ⟨by omega, by omega⟩)).more ht, by omega⟩))
    · exact absurd c1 n1
  · simp only [List.mem_cons, List.not_mem_nil, or_false] at hq
    obtain rfl := hq
    obtain ⟨⟨-, m1⟩, rfl, rfl⟩ := hKX
    refine r_istore X dL_law_475 (by rw [hN]; decide) (by rfl) ?_
    dsimp only [List.set]
    refine r_aload_n X dL_law_477 (by rfl) ?_
    refine r_aload_n X dL_law_478 (by rfl) ?_
    refine r_iload X dL_law_479 (by rfl) ?_
    refine r_iconst X dL_law_481 rfl ?_
    refine r_iadd X dL_law_482 ?_
    refine r_sld X hSX hSb hSA hSL (5 * t + 1) dL_law_483 (by omega) (by omega) ?_
    rw [e1]
    refine r_callV X dL_law_484 kL_106 (c_mAdvance g _ hl ad F _ _ _ _ _ _ _ _ _ _ hB hG t hI s1 r1) (hB.1) (by rfl) (by rfl) (by rfl) (by rfl) (by exact Nat.le_of_ble_eq_true rfl) (by decide) (by decide) (by omega) (by omega) (fun v ad2 F4 hK4 => ?_)
    obtain ⟨rfl, hF4, hK4⟩ := hK4
    have h64 := (hF4 60000 (by omega)).trans h60
    have hX4 := hX9.frM (F' := F4) (fun y hy => hF4 y (by omega))
    rcases hK4 with ⟨q1, rfl, hM⟩ | ⟨n1, rfl, hM⟩
    · exact absurd q1 m1
    · refine r_istore X dL_law_487 (by rw [hN]; decide) (by rfl) ?_
      dsimp only [List.set]
      exact tl_advance X (by omega) (by omega) hM (by omega) h64 (fun z => absurd z (by decide)) (r_widen (by omega) (by omega) (next ad F4 _ _ ⟨⟨rfl, rfl, rfl⟩, ⟨_, h64⟩, _, _, _, _, _, _, _, _, ⟨_, hX4⟩, ⟨_, hM⟩, hI.more ht, by omega⟩))
set_option maxRecDepth 100000 in
set_option maxHeartbeats 4000000 in
theorem sw_addCost : WSw RL 107 yL_addCost cL_addCost 6 (some .int) [(0, 12, 15, 13), (0, 12, 19, 15)] 5 := ⟨⟨cw_addCost, w0, ⟨by decide, by decide⟩, by decide +kernel, ww 893 rfl rfl⟩, ww 894 rfl rfl⟩
set_option maxRecDepth 100000 in
set_option maxHeartbeats 4000000 in
theorem tl_addCost {M : Mx} {g : Gx} {mc ms : Nat} {K : Option Value → (Nat → Nat) → Pic → Prop} (X : Cx M g yL_law cL_law (some .boolean) 840 mc ms [] K noX) {ad : Nat → Nat} {F : Pic} {kc ks : Nat} (hkc : kc ≤ mc) (hks : ks ≤ ms) {td : Int} {nf nk nc : Nat} {A P : Nat → Nat → Int} {kf : Nat → Nat} {k : Int} (hM : MG g ad F td nf nk nc A P kf k) (hk : 0 ≤ k ∧ k ≤ 9) {bb : Int32} {f9 : Nat → Int64} (h60 : F 60000 = some (cJ g 1 f9)) (he : k = 0 → f9 0 = bb.toInt64) {v0 v1 v4 : Option Value} (next : V M g ad F kc ks 1474 [v0, v1, some (.ref (ad 50000)), some (.ref (ad 60000)), v4, some (.int (zI k)), some (.int bb)] []) : V M g ad F kc ks 569 [v0, v1, some (.ref (ad 50000)), some (.ref (ad 60000)), v4, some (.int (zI k)), some (.int bb)] [] := by
  obtain ⟨np, B, hB, hG⟩ := hM
  have hl := X.2.2.2.2.2.2
  refine r_aload_n X dL_law_569 (by rfl) ?_
  refine r_callV X dL_law_570 kL_89 (c_mThrown g _ hl ad F _ _ _ _ _ _ _ hB) (hB.1) (by rfl) (by rfl) (by rfl) (by rfl) (by exact Nat.le_of_ble_eq_true rfl) (by decide) (by decide) (by omega) (by omega) (fun v ad' F' hK => ?_)
  obtain ⟨rfl, rfl, rfl⟩ := hK
  refine r_iload X dL_law_573 (by rfl) ?_
  refine r_same X 580 dL_law_575 (by decide) ?_
  refine r_iload X dL_law_580 (by rfl) ?_
  refine r_if_ne X 597 dL_law_582 (by decide) (by unfold inR; omega) (fun q => ?_) (fun q => ?_)
  · refine r_goto X dL_law_597 1474 (by decide) ?_
    exact next
  · refine r_aload_n X dL_law_585 (by rfl) ?_
    refine r_iconst X dL_law_586 rfl ?_
    refine r_lald X 0 dL_law_587 (h60) (by rfl) (by omega) (by first | decide | omega) ?_
    rw [he q]
    refine r_iload X dL_law_588 (by rfl) ?_
    refine r_i2lG X dL_law_590 ?_
    refine r_lcmpE X dL_law_591 ?_
    refine r_if_eq X 597 dL_law_592 (by decide) (by unfold inR; omega) (fun q2 => ?_) (fun q2 => ?_)
    · refine r_goto X dL_law_597 1474 (by decide) ?_
      exact next
    · exact absurd rfl q2
set_option maxRecDepth 100000 in
set_option maxHeartbeats 4000000 in
theorem st_addCost {M : Mx} {g : Gx} {mc ms : Nat} {K : Option Value → (Nat → Nat) → Pic → Prop} (X : Cx M g yL_law cL_law (some .boolean) 840 mc ms [] K noX) (hN : mN M = 7) {b L : Nat} {xs : Nat → Int32} (hSX : va_X b L xs (mS M) (mS M).heap) (hSb : b < (mS M).heap.size) (hSA : ¬ gA g b) (hSL : L ≤ 2560) {a1 a5 a6 : Nat} {ad : Nat → Nat} {F : Pic} {t : Nat} (ht : t < 512) (h5 : 5 * t + 5 ≤ L) (hI : INV g a1 a5 a6 ad F t) {kc ks : Nat} (hkc : kc + 32 ≤ mc) (hks : ks + 1000 ≤ ms) {o5 o6 : Option Value} (next : ∀ (ad' : Nat → Nat) (F' : Pic) (o5 o6 : Option Value), INV g a1 a5 a6 ad' F' (t + 1) → V M g ad' F' (kc + 32) (ks + 1000) 1474 [some (.ref b), some (.ref a1), some (.ref a5), some (.ref a6), some (.int (zI ((5 * t : Nat) : Int))), o5, o6] []) : V M g ad F kc ks 520 [some (.ref b), some (.ref a1), some (.ref a5), some (.ref a6), some (.int (zI ((5 * t : Nat) : Int))), o5, o6] [] := by
  obtain ⟨⟨rfl, rfl, rfl⟩, ⟨f, h60⟩, td, nf, nk, nc, A, P, kf, sn, ⟨ser, hX9⟩, ⟨th, np, B, hB, hG⟩, hI, hsn⟩ := hI
  have hl := X.2.2.2.2.2.2
  have hI0 := hI.1
  have h100 := hX9.1.1
  have hkf : ∀ i, i < nk → kf i < nf := fun i hi => (hI.2.2.1 i hi).1
  obtain ⟨s1, e1, r1⟩ : ∃ z : Int, xs (5 * t + 1) = zI z ∧ inR z := ⟨_, zI_of _, inR_of _⟩
  obtain ⟨s2, e2, r2⟩ : ∃ z : Int, xs (5 * t + 2) = zI z ∧ inR z := ⟨_, zI_of _, inR_of _⟩
  obtain ⟨s3, e3, r3⟩ : ∃ z : Int, xs (5 * t + 3) = zI z ∧ inR z := ⟨_, zI_of _, inR_of _⟩
  refine r_aload_n X dL_law_520 (by rfl) ?_
  refine r_aload_n X dL_law_521 (by rfl) ?_
  refine r_iload X dL_law_522 (by rfl) ?_
  refine r_iconst X dL_law_524 rfl ?_
  refine r_iadd X dL_law_525 ?_
  refine r_sld X hSX hSb hSA hSL (5 * t + 1) dL_law_526 (by omega) (by omega) ?_
  rw [e1]
  refine r_aload_n X dL_law_527 (by rfl) ?_
  refine r_iload X dL_law_528 (by rfl) ?_
  refine r_iconst X dL_law_530 rfl ?_
  refine r_iadd X dL_law_531 ?_
  refine r_sld X hSX hSb hSA hSL (5 * t + 2) dL_law_532 (by omega) (by omega) ?_
  rw [e2]
  refine r_aload_n X dL_law_533 (by rfl) ?_
  refine r_iload X dL_law_534 (by rfl) ?_
  refine r_iconst X dL_law_536 rfl ?_
  refine r_iadd X dL_law_537 ?_
  refine r_sld X hSX hSb hSA hSL (5 * t + 3) dL_law_538 (by omega) (by omega) ?_
  rw [e3]
  refine r_aload_n X dL_law_539 (by rfl) ?_
  refine r_callSW X dL_law_540 sw_addCost (c_wAddCost g _ hl ad F f h60 h100 (zI s1) (zI s2) (zI s3) (c_addCost g _ hl ad F _ _ _ _ _ _ _ _ ⟨ser, hX9⟩ t hI s1 s2 s3 r1 r2 r3) (by decide) (fun v ad' F' h => ⟨⟨_, h.2.1⟩, h.2.2.2.1 60000 (by omega), h.2.2.1 60000 (by omega)⟩) (fun E ad' F' h => h.1.elim (fun q => .inl q.1) (fun q => .inr q.1))) (by rfl) (by rfl) (by exact Nat.le_of_ble_eq_true rfl) (by omega) (by decide) (by omega) (by omega) (fun v ad1 F1 hK => ?_)
  rcases hK with ⟨rfl, F2, x, f2, hK2, hF1⟩ | ⟨q, hq, hKX, rfl⟩
  · have h63 : F1 60000 = some (cJ g 1 (vp_updL f2 0 x.toInt64)) := by rw [hF1]; exact pu_s
    have hfr : ∀ y, y ≠ 60000 → F1 y = F2 y := fun y hy => by rw [hF1]; exact pu_n hy
    clear hF1
    obtain ⟨⟨c1, c2⟩, hv, aa, hF2, ser2, hX2⟩ := hK2
    cases hv
    have hX3 := hX2.frM (F' := F1) (fun y hy => hfr y (by omega))
    have hB3 := hB.fr (F' := F1) (ad' := ad1) (fun y y1 y2 => (hfr y (by omega)).trans (hF2 y (by omega))) (fun y y1 y2 => aa y (by omega))
    rw [← aa 100 (by omega), ← aa 50000 (by omega), ← aa 60000 (by omega)] at next ⊢
    refine r_istore X dL_law_543 (by rw [hN]; decide) (by rfl) ?_
    dsimp only [List.set]
    refine r_aload_n X dL_law_545 (by rfl) ?_
    refine r_aload_n X dL_law_546 (by rfl) ?_
    refine r_iload X dL_law_547 (by rfl) ?_
    refine r_iconst X dL_law_549 rfl ?_
    refine r_iadd X dL_law_550 ?_
    refine r_sld X hSX hSb hSA hSL (5 * t + 1) dL_law_551 (by omega) (by omega) ?_
    rw [e1]
    refine r_aload_n X dL_law_552 (by rfl) ?_
    refine r_iload X dL_law_553 (by rfl) ?_
    refine r_iconst X dL_law_555 rfl ?_
    refine r_iadd X dL_law_556 ?_
    refine r_sld X hSX hSb hSA hSL (5 * t + 2) dL_law_557 (by omega) (by omega) ?_
    rw [e2]
    refine r_aload_n X dL_law_558 (by rfl) ?_
    refine r_iload X dL_law_559 (by rfl) ?_
    refine r_iconst X dL_law_561 rfl ?_
    refine r_iadd X dL_law_562 ?_
    refine r_sld X hSX hSb hSA hSL (5 * t + 3) dL_law_563 (by omega) (by omega) ?_
    rw [e3]
    refine r_callV X dL_law_564 kL_110 (c_mAddCost g _ hl ad1 F1 _ _ _ _ _ _ _ _ _ _ hB3 hG t hI s1 s2 s3 r1 r2 r3) (hB3.1) (by rfl) (by rfl) (by rfl) (by rfl) (by exact Nat.le_of_ble_eq_true rfl) (by decide) (by decide) (by omega) (by omega) (fun v ad2 F4 hK4 => ?_)
    obtain ⟨rfl, hF4, hK4⟩ := hK4
    have h64 := (hF4 60000 (by omega)).trans h63
    have hX4 := hX3.frM (F' := F4) (fun y hy => hF4 y (by omega))
    rcases hK4 with ⟨⟨q1, q2⟩, rfl, hM⟩ | ⟨n1, rfl, hM⟩ | ⟨q1, n2, rfl, hM⟩
    · refine r_istore X dL_law_567 (by rw [hN]; decide) (by rfl) ?_
      dsimp only [List.set]
      exact tl_addCost X (by omega) (by omega) hM (by omega) h64 (fun _ => rfl) (r_widen (by omega) (by omega) (next ad1 F4 _ _ ⟨⟨rfl, rfl, rfl⟩, ⟨_, h64⟩, _, _, _, _, _, _, _, _, ⟨_, hX4⟩, ⟨_, hM⟩, (hI.cst c1 c2).more ht, by omega⟩))
    · exact absurd c1 n1
    · exact absurd c2 n2
  · simp only [List.mem_cons, List.not_mem_nil, or_false] at hq
    rcases hq with rfl | rfl
    · obtain ⟨hC, rfl, rfl⟩ := hKX
      rcases hC with ⟨z, c⟩ | ⟨z, c⟩
      · have m1 := c
        refine r_istore X dL_law_543 (by rw [hN]; decide) (by rfl) ?_
        dsimp only [List.set]
        refine r_aload_n X dL_law_545 (by rfl) ?_
        refine r_aload_n X dL_law_546 (by rfl) ?_
        refine r_iload X dL_law_547 (by rfl) ?_
        refine r_iconst X dL_law_549 rfl ?_
        refine r_iadd X dL_law_550 ?_
        refine r_sld X hSX hSb hSA hSL (5 * t + 1) dL_law_551 (by omega) (by omega) ?_
        rw [e1]
        refine r_aload_n X dL_law_552 (by rfl) ?_
        refine r_iload X dL_law_553 (by rfl) ?_
        refine r_iconst X dL_law_555 rfl ?_
        refine r_iadd X dL_law_556 ?_
        refine r_sld X hSX hSb hSA hSL (5 * t + 2) dL_law_557 (by omega) (by omega) ?_
        rw [e2]
        refine r_aload_n X dL_law_558 (by rfl) ?_
        refine r_iload X dL_law_559 (by rfl) ?_
        refine r_iconst X dL_law_561 rfl ?_
        refine r_iadd X dL_law_562 ?_
        refine r_sld X hSX hSb hSA hSL (5 * t + 3) dL_law_563 (by omega) (by omega) ?_
        rw [e3]
        refine r_callV X dL_law_564 kL_110 (c_mAddCost g _ hl ad F _ _ _ _ _ _ _ _ _ _ hB hG t hI s1 s2 s3 r1 r2 r3) (hB.1) (by rfl) (by rfl) (by rfl) (by rfl) (by exact Nat.le_of_ble_eq_true rfl) (by decide) (by decide) (by omega) (by omega) (fun v ad2 F4 hK4 => ?_)
        obtain ⟨rfl, hF4, hK4⟩ := hK4
        have h64 := (hF4 60000 (by omega)).trans h60
        have hX4 := hX9.frM (F' := F4) (fun y hy => hF4 y (by omega))
        rcases hK4 with ⟨⟨q1, q2⟩, rfl, hM⟩ | ⟨n1, rfl, hM⟩ | ⟨q1, n2, rfl, hM⟩
        · exact absurd q1 m1
        · refine r_istore X dL_law_567 (by rw [hN]; decide) (by rfl) ?_
          dsimp only [List.set]
          exact tl_addCost X (by omega) (by omega) hM (by omega) h64 (fun z => absurd z (by decide)) (r_widen (by omega) (by omega) (next ad F4 _ _ ⟨⟨rfl, rfl, rfl⟩, ⟨_, h64⟩, _, _, _, _, _, _, _, _, ⟨_, hX4⟩, ⟨_, hM⟩, hI.more ht, by omega⟩))
        · exact absurd q1 m1
      · exact absurd z (by decide)
    · obtain ⟨hC, rfl, rfl⟩ := hKX
      rcases hC with ⟨z, c⟩ | ⟨z, c⟩
      · exact absurd z (by decide)
      · obtain ⟨d1, m2⟩ := c
        refine r_istore X dL_law_543 (by rw [hN]; decide) (by rfl) ?_
        dsimp only [List.set]
        refine r_aload_n X dL_law_545 (by rfl) ?_
        refine r_aload_n X dL_law_546 (by rfl) ?_
        refine r_iload X dL_law_547 (by rfl) ?_
        refine r_iconst X dL_law_549 rfl ?_
        refine r_iadd X dL_law_550 ?_
        refine r_sld X hSX hSb hSA hSL (5 * t + 1) dL_law_551 (by omega) (by omega) ?_
        rw [e1]
        refine r_aload_n X dL_law_552 (by rfl) ?_
        refine r_iload X dL_law_553 (by rfl) ?_
        refine r_iconst X dL_law_555 rfl ?_
        refine r_iadd X dL_law_556 ?_
        refine r_sld X hSX hSb hSA hSL (5 * t + 2) dL_law_557 (by omega) (by omega) ?_
        rw [e2]
        refine r_aload_n X dL_law_558 (by rfl) ?_
        refine r_iload X dL_law_559 (by rfl) ?_
        refine r_iconst X dL_law_561 rfl ?_
        refine r_iadd X dL_law_562 ?_
        refine r_sld X hSX hSb hSA hSL (5 * t + 3) dL_law_563 (by omega) (by omega) ?_
        rw [e3]
        refine r_callV X dL_law_564 kL_110 (c_mAddCost g _ hl ad F _ _ _ _ _ _ _ _ _ _ hB hG t hI s1 s2 s3 r1 r2 r3) (hB.1) (by rfl) (by rfl) (by rfl) (by rfl) (by exact Nat.le_of_ble_eq_true rfl) (by decide) (by decide) (by omega) (by omega) (fun v ad2 F4 hK4 => ?_)
        obtain ⟨rfl, hF4, hK4⟩ := hK4
        have h64 := (hF4 60000 (by omega)).trans h60
        have hX4 := hX9.frM (F' := F4) (fun y hy => hF4 y (by omega))
        rcases hK4 with ⟨⟨q1, q2⟩, rfl, hM⟩ | ⟨n1, rfl, hM⟩ | ⟨q1, n2, rfl, hM⟩
        · exact absurd q2 m2
        · exact absurd d1 n1
        · refine r_istore X dL_law_567 (by rw [hN]; decide) (by rfl) ?_
          dsimp only [List.set]
          exact tl_addCost X (by omega) (by omega) hM (by omega) h64 (fun z => absurd z (by decide)) (r_widen (by omega) (by omega) (next ad F4 _ _ ⟨⟨rfl, rfl, rfl⟩, ⟨_, h64⟩, _, _, _, _, _, _, _, _, ⟨_, hX4⟩, ⟨_, hM⟩, hI.more ht, by omega⟩))
set_option maxRecDepth 100000 in
set_option maxHeartbeats 4000000 in
theorem sw_chargeOverhead : WSw RL 115 yL_chargeOverhead cL_chargeOverhead 4 (some .int) [(0, 9, 12, 13)] 3 := ⟨⟨cw_chargeOverhead, w0, ⟨by decide, by decide⟩, by decide +kernel, ww 923 rfl rfl⟩, ww 924 rfl rfl⟩
set_option maxRecDepth 100000 in
set_option maxHeartbeats 4000000 in
theorem tl_chargeOverhead {M : Mx} {g : Gx} {mc ms : Nat} {K : Option Value → (Nat → Nat) → Pic → Prop} (X : Cx M g yL_law cL_law (some .boolean) 840 mc ms [] K noX) {ad : Nat → Nat} {F : Pic} {kc ks : Nat} (hkc : kc ≤ mc) (hks : ks ≤ ms) {td : Int} {nf nk nc : Nat} {A P : Nat → Nat → Int} {kf : Nat → Nat} {k : Int} (hM : MG g ad F td nf nk nc A P kf k) (hk : 0 ≤ k ∧ k ≤ 9) {bb : Int32} {f9 : Nat → Int64} (h60 : F 60000 = some (cJ g 1 f9)) (he : k = 0 → f9 0 = bb.toInt64) {v0 v1 v4 : Option Value} (next : V M g ad F kc ks 1474 [v0, v1, some (.ref (ad 50000)), some (.ref (ad 60000)), v4, some (.int (zI k)), some (.int bb)] []) : V M g ad F kc ks 638 [v0, v1, some (.ref (ad 50000)), some (.ref (ad 60000)), v4, some (.int (zI k)), some (.int bb)] [] := by
  obtain ⟨np, B, hB, hG⟩ := hM
  have hl := X.2.2.2.2.2.2
  refine r_aload_n X dL_law_638 (by rfl) ?_
  refine r_callV X dL_law_639 kL_89 (c_mThrown g _ hl ad F _ _ _ _ _ _ _ hB) (hB.1) (by rfl) (by rfl) (by rfl) (by rfl) (by exact Nat.le_of_ble_eq_true rfl) (by decide) (by decide) (by omega) (by omega) (fun v ad' F' hK => ?_)
  obtain ⟨rfl, rfl, rfl⟩ := hK
  refine r_iload X dL_law_642 (by rfl) ?_
  refine r_same X 649 dL_law_644 (by decide) ?_
  refine r_iload X dL_law_649 (by rfl) ?_
  refine r_if_ne X 666 dL_law_651 (by decide) (by unfold inR; omega) (fun q => ?_) (fun q => ?_)
  · refine r_goto X dL_law_666 1474 (by decide) ?_
    exact next
  · refine r_aload_n X dL_law_654 (by rfl) ?_
    refine r_iconst X dL_law_655 rfl ?_
    refine r_lald X 0 dL_law_656 (h60) (by rfl) (by omega) (by first | decide | omega) ?_
    rw [he q]
    refine r_iload X dL_law_657 (by rfl) ?_
    refine r_i2lG X dL_law_659 ?_
    refine r_lcmpE X dL_law_660 ?_
    refine r_if_eq X 666 dL_law_661 (by decide) (by unfold inR; omega) (fun q2 => ?_) (fun q2 => ?_)
    · refine r_goto X dL_law_666 1474 (by decide) ?_
      exact next
    · exact absurd rfl q2
set_option maxRecDepth 100000 in
set_option maxHeartbeats 4000000 in
theorem st_chargeOverhead {M : Mx} {g : Gx} {mc ms : Nat} {K : Option Value → (Nat → Nat) → Pic → Prop} (X : Cx M g yL_law cL_law (some .boolean) 840 mc ms [] K noX) (hN : mN M = 7) {b L : Nat} {xs : Nat → Int32} (hSX : va_X b L xs (mS M) (mS M).heap) (hSb : b < (mS M).heap.size) (hSA : ¬ gA g b) (hSL : L ≤ 2560) {a1 a5 a6 : Nat} {ad : Nat → Nat} {F : Pic} {t : Nat} (ht : t < 512) (h5 : 5 * t + 5 ≤ L) (hI : INV g a1 a5 a6 ad F t) {kc ks : Nat} (hkc : kc + 32 ≤ mc) (hks : ks + 1000 ≤ ms) {o5 o6 : Option Value} (next : ∀ (ad' : Nat → Nat) (F' : Pic) (o5 o6 : Option Value), INV g a1 a5 a6 ad' F' (t + 1) → V M g ad' F' (kc + 32) (ks + 1000) 1474 [some (.ref b), some (.ref a1), some (.ref a5), some (.ref a6), some (.int (zI ((5 * t : Nat) : Int))), o5, o6] []) : V M g ad F kc ks 613 [some (.ref b), some (.ref a1), some (.ref a5), some (.ref a6), some (.int (zI ((5 * t : Nat) : Int))), o5, o6] [] := by
  obtain ⟨⟨rfl, rfl, rfl⟩, ⟨f, h60⟩, td, nf, nk, nc, A, P, kf, sn, ⟨ser, hX9⟩, ⟨th, np, B, hB, hG⟩, hI, hsn⟩ := hI
  have hl := X.2.2.2.2.2.2
  have hI0 := hI.1
  have h100 := hX9.1.1
  have hkf : ∀ i, i < nk → kf i < nf := fun i hi => (hI.2.2.1 i hi).1
  obtain ⟨s1, e1, r1⟩ : ∃ z : Int, xs (5 * t + 1) = zI z ∧ inR z := ⟨_, zI_of _, inR_of _⟩
  refine r_aload_n X dL_law_613 (by rfl) ?_
  refine r_aload_n X dL_law_614 (by rfl) ?_
  refine r_iload X dL_law_615 (by rfl) ?_
  refine r_iconst X dL_law_617 rfl ?_
  refine r_iadd X dL_law_618 ?_
  refine r_sld X hSX hSb hSA hSL (5 * t + 1) dL_law_619 (by omega) (by omega) ?_
  rw [e1]
  refine r_aload_n X dL_law_620 (by rfl) ?_
  refine r_callSW X dL_law_621 sw_chargeOverhead (c_wChargeOverhead g _ hl ad F f h60 h100 (zI s1) (c_chargeOverhead g _ hl ad F _ _ _ _ _ _ _ _ _ hX9 t hI s1 r1) (by decide) (fun v ad' F' h => ⟨⟨_, h.2.1⟩, h.2.2.2.1 60000 (by omega), by rw [h.2.2.1]⟩) (fun E ad' F' h => h.1.1)) (by rfl) (by rfl) (by exact Nat.le_of_ble_eq_true rfl) (by omega) (by decide) (by omega) (by omega) (fun v ad1 F1 hK => ?_)
  rcases hK with ⟨rfl, F2, x, f2, hK2, hF1⟩ | ⟨q, hq, hKX, rfl⟩
  · have h63 : F1 60000 = some (cJ g 1 (vp_updL f2 0 x.toInt64)) := by rw [hF1]; exact pu_s
    have hfr : ∀ y, y ≠ 60000 → F1 y = F2 y := fun y hy => by rw [hF1]; exact pu_n hy
    clear hF1
    obtain ⟨c1, hv, rfl, hF2, hX2⟩ := hK2
    cases hv
    have aa : ∀ x, (x ≤ 100 ∨ 40000 ≤ x) → ad x = ad x := fun _ _ => rfl
    have hX3 := hX2.frM (F' := F1) (fun y hy => hfr y (by omega))
    have hB3 := hB.fr (F' := F1) (ad' := ad) (fun y y1 y2 => (hfr y (by omega)).trans (hF2 y (by omega))) (fun y y1 y2 => aa y (by omega))
    refine r_istore X dL_law_624 (by rw [hN]; decide) (by rfl) ?_
    dsimp only [List.set]
    refine r_aload_n X dL_law_626 (by rfl) ?_
    refine r_aload_n X dL_law_627 (by rfl) ?_
    refine r_iload X dL_law_628 (by rfl) ?_
    refine r_iconst X dL_law_630 rfl ?_
    refine r_iadd X dL_law_631 ?_
    refine r_sld X hSX hSb hSA hSL (5 * t + 1) dL_law_632 (by omega) (by omega) ?_
    rw [e1]
    refine r_callV X dL_law_633 kL_117 (c_mChargeOverhead g _ hl ad F1 _ _ _ _ _ _ _ _ _ _ hB3 hG t hI s1 r1) (hB3.1) (by rfl) (by rfl) (by rfl) (by rfl) (by exact Nat.le_of_ble_eq_true rfl) (by decide) (by decide) (by omega) (by omega) (fun v ad2 F4 hK4 => ?_)
    obtain ⟨rfl, hF4, hK4⟩ := hK4
    have h64 := (hF4 60000 (by omega)).trans h63
    have hX4 := hX3.frM (F' := F4) (fun y hy => hF4 y (by omega))
    rcases hK4 with ⟨q1, rfl, hM⟩ | ⟨n1, rfl, hM⟩
    · refine r_istore X dL_law_636 (by rw [hN]; decide) (by rfl) ?_
      dsimp only [List.set]
      exact tl_chargeOverhead X (by omega) (by omega) hM (by omega) h64 (fun _ => rfl) (r_widen (by omega) (by omega) (next ad F4 _ _ ⟨⟨rfl, rfl, rfl⟩, ⟨_, h64⟩, _, _, _, _, _, _, _, _, ⟨_, hX4⟩, ⟨_, hM⟩, (ov_iv s1.toNat A s1 hI).more ht, by omega⟩))
    · exact absurd c1 n1
  · simp only [List.mem_cons, List.not_mem_nil, or_false] at hq
    obtain rfl := hq
    obtain ⟨⟨-, m1⟩, rfl, rfl⟩ := hKX
    refine r_istore X dL_law_624 (by rw [hN]; decide) (by rfl) ?_
    dsimp only [List.set]
    refine r_aload_n X dL_law_626 (by rfl) ?_
    refine r_aload_n X dL_law_627 (by rfl) ?_
    refine r_iload X dL_law_628 (by rfl) ?_
    refine r_iconst X dL_law_630 rfl ?_
    refine r_iadd X dL_law_631 ?_
    refine r_sld X hSX hSb hSA hSL (5 * t + 1) dL_law_632 (by omega) (by omega) ?_
    rw [e1]
    refine r_callV X dL_law_633 kL_117 (c_mChargeOverhead g _ hl ad F _ _ _ _ _ _ _ _ _ _ hB hG t hI s1 r1) (hB.1) (by rfl) (by rfl) (by rfl) (by rfl) (by exact Nat.le_of_ble_eq_true rfl) (by decide) (by decide) (by omega) (by omega) (fun v ad2 F4 hK4 => ?_)
    obtain ⟨rfl, hF4, hK4⟩ := hK4
    have h64 := (hF4 60000 (by omega)).trans h60
    have hX4 := hX9.frM (F' := F4) (fun y hy => hF4 y (by omega))
    rcases hK4 with ⟨q1, rfl, hM⟩ | ⟨n1, rfl, hM⟩
    · exact absurd q1 m1
    · refine r_istore X dL_law_636 (by rw [hN]; decide) (by rfl) ?_
      dsimp only [List.set]
      exact tl_chargeOverhead X (by omega) (by omega) hM (by omega) h64 (fun z => absurd z (by decide)) (r_widen (by omega) (by omega) (next ad F4 _ _ ⟨⟨rfl, rfl, rfl⟩, ⟨_, h64⟩, _, _, _, _, _, _, _, _, ⟨_, hX4⟩, ⟨_, hM⟩, hI.more ht, by omega⟩))
set_option maxRecDepth 100000 in
set_option maxHeartbeats 4000000 in
theorem sw_freeOf : WSw RL 126 yL_freeOf cL_freeOf 4 (some .int) [(0, 9, 12, 21)] 3 := ⟨⟨cw_freeOf, w0, ⟨by decide, by decide⟩, by decide +kernel, ww 955 rfl rfl⟩, ww 956 rfl rfl⟩
set_option maxRecDepth 100000 in
set_option maxHeartbeats 4000000 in
theorem tl_freeOf {M : Mx} {g : Gx} {mc ms : Nat} {K : Option Value → (Nat → Nat) → Pic → Prop} (X : Cx M g yL_law cL_law (some .boolean) 840 mc ms [] K noX) {ad : Nat → Nat} {F : Pic} {kc ks : Nat} (hkc : kc ≤ mc) (hks : ks ≤ ms) {td : Int} {nf nk nc : Nat} {A P : Nat → Nat → Int} {kf : Nat → Nat} {k : Int} (hM : MG g ad F td nf nk nc A P kf k) (hk : 0 ≤ k ∧ k ≤ 9) {bb : Int32} {f9 : Nat → Int64} (h60 : F 60000 = some (cJ g 1 f9)) (he : k = 0 → f9 0 = bb.toInt64) {v0 v1 v4 : Option Value} (next : V M g ad F kc ks 1474 [v0, v1, some (.ref (ad 50000)), some (.ref (ad 60000)), v4, some (.int (zI k)), some (.int bb)] []) : V M g ad F kc ks 720 [v0, v1, some (.ref (ad 50000)), some (.ref (ad 60000)), v4, some (.int (zI k)), some (.int bb)] [] := by
  obtain ⟨np, B, hB, hG⟩ := hM
  have hl := X.2.2.2.2.2.2
  refine r_aload_n X dL_law_720 (by rfl) ?_
  refine r_callV X dL_law_721 kL_89 (c_mThrown g _ hl ad F _ _ _ _ _ _ _ hB) (hB.1) (by rfl) (by rfl) (by rfl) (by rfl) (by exact Nat.le_of_ble_eq_true rfl) (by decide) (by decide) (by omega) (by omega) (fun v ad' F' hK => ?_)
  obtain ⟨rfl, rfl, rfl⟩ := hK
  refine r_iload X dL_law_724 (by rfl) ?_
  refine r_same X 731 dL_law_726 (by decide) ?_
  refine r_iload X dL_law_731 (by rfl) ?_
  refine r_if_ne X 748 dL_law_733 (by decide) (by unfold inR; omega) (fun q => ?_) (fun q => ?_)
  · refine r_goto X dL_law_748 1474 (by decide) ?_
    exact next
  · refine r_aload_n X dL_law_736 (by rfl) ?_
    refine r_iconst X dL_law_737 rfl ?_
    refine r_lald X 0 dL_law_738 (h60) (by rfl) (by omega) (by first | decide | omega) ?_
    rw [he q]
    refine r_iload X dL_law_739 (by rfl) ?_
    refine r_i2lG X dL_law_741 ?_
    refine r_lcmpE X dL_law_742 ?_
    refine r_if_eq X 748 dL_law_743 (by decide) (by unfold inR; omega) (fun q2 => ?_) (fun q2 => ?_)
    · refine r_goto X dL_law_748 1474 (by decide) ?_
      exact next
    · exact absurd rfl q2
set_option maxRecDepth 100000 in
set_option maxHeartbeats 4000000 in
theorem st_freeOf {M : Mx} {g : Gx} {mc ms : Nat} {K : Option Value → (Nat → Nat) → Pic → Prop} (X : Cx M g yL_law cL_law (some .boolean) 840 mc ms [] K noX) (hN : mN M = 7) {b L : Nat} {xs : Nat → Int32} (hSX : va_X b L xs (mS M) (mS M).heap) (hSb : b < (mS M).heap.size) (hSA : ¬ gA g b) (hSL : L ≤ 2560) {a1 a5 a6 : Nat} {ad : Nat → Nat} {F : Pic} {t : Nat} (ht : t < 512) (h5 : 5 * t + 5 ≤ L) (hI : INV g a1 a5 a6 ad F t) {kc ks : Nat} (hkc : kc + 32 ≤ mc) (hks : ks + 1000 ≤ ms) {o5 o6 : Option Value} (next : ∀ (ad' : Nat → Nat) (F' : Pic) (o5 o6 : Option Value), INV g a1 a5 a6 ad' F' (t + 1) → V M g ad' F' (kc + 32) (ks + 1000) 1474 [some (.ref b), some (.ref a1), some (.ref a5), some (.ref a6), some (.int (zI ((5 * t : Nat) : Int))), o5, o6] []) : V M g ad F kc ks 695 [some (.ref b), some (.ref a1), some (.ref a5), some (.ref a6), some (.int (zI ((5 * t : Nat) : Int))), o5, o6] [] := by
  obtain ⟨⟨rfl, rfl, rfl⟩, ⟨f, h60⟩, td, nf, nk, nc, A, P, kf, sn, ⟨ser, hX9⟩, ⟨th, np, B, hB, hG⟩, hI, hsn⟩ := hI
  have hl := X.2.2.2.2.2.2
  have hI0 := hI.1
  have h100 := hX9.1.1
  have hkf : ∀ i, i < nk → kf i < nf := fun i hi => (hI.2.2.1 i hi).1
  obtain ⟨s1, e1, r1⟩ : ∃ z : Int, xs (5 * t + 1) = zI z ∧ inR z := ⟨_, zI_of _, inR_of _⟩
  refine r_aload_n X dL_law_695 (by rfl) ?_
  refine r_aload_n X dL_law_696 (by rfl) ?_
  refine r_iload X dL_law_697 (by rfl) ?_
  refine r_iconst X dL_law_699 rfl ?_
  refine r_iadd X dL_law_700 ?_
  refine r_sld X hSX hSb hSA hSL (5 * t + 1) dL_law_701 (by omega) (by omega) ?_
  rw [e1]
  refine r_aload_n X dL_law_702 (by rfl) ?_
  refine r_callSW X dL_law_703 sw_freeOf (c_wFreeOf g _ hl ad F f h60 h100 (zI s1) (c_freeOf g _ hl ad F _ _ _ _ _ _ _ _ ⟨ser, hX9⟩ s1 r1) (by decide) (fun v ad' F' h => ⟨⟨_, h.2.1⟩, by rw [h.2.2.2], by rw [h.2.2.1]⟩) (fun E ad' F' h => h.1.1)) (by rfl) (by rfl) (by exact Nat.le_of_ble_eq_true rfl) (by omega) (by decide) (by omega) (by omega) (fun v ad1 F1 hK => ?_)
  rcases hK with ⟨rfl, F2, x, f2, hK2, hF1⟩ | ⟨q, hq, hKX, rfl⟩
  · have h63 : F1 60000 = some (cJ g 1 (vp_updL f2 0 x.toInt64)) := by rw [hF1]; exact pu_s
    have hfr : ∀ y, y ≠ 60000 → F1 y = F2 y := fun y hy => by rw [hF1]; exact pu_n hy
    clear hF1
    obtain ⟨c1, hv, rfl, rfl⟩ := hK2
    cases hv
    have aa : ∀ x, (x ≤ 100 ∨ 40000 ≤ x) → ad x = ad x := fun _ _ => rfl
    have hF2 : ∀ x, (x < 100 ∨ 40000 ≤ x) → F x = F x := fun _ _ => rfl
    have hX2 := hX9
    have hX3 := hX2.frM (F' := F1) (fun y hy => hfr y (by omega))
    have hB3 := hB.fr (F' := F1) (ad' := ad) (fun y y1 y2 => (hfr y (by omega)).trans (hF2 y (by omega))) (fun y y1 y2 => aa y (by omega))
    refine r_istore X dL_law_706 (by rw [hN]; decide) (by rfl) ?_
    dsimp only [List.set]
    refine r_aload_n X dL_law_708 (by rfl) ?_
    refine r_aload_n X dL_law_709 (by rfl) ?_
    refine r_iload X dL_law_710 (by rfl) ?_
    refine r_iconst X dL_law_712 rfl ?_
    refine r_iadd X dL_law_713 ?_
    refine r_sld X hSX hSb hSA hSL (5 * t + 1) dL_law_714 (by omega) (by omega) ?_
    rw [e1]
    refine r_callV X dL_law_715 kL_128 (c_gFreeOf g _ hl ad F1 _ _ _ _ _ _ _ _ _ _ hB3 hG s1 r1 (by omega)) (hB3.1) (by rfl) (by rfl) (by rfl) (by rfl) (by exact Nat.le_of_ble_eq_true rfl) (by decide) (by decide) (by omega) (by omega) (fun v ad2 F4 hK4 => ?_)
    obtain ⟨rfl, hF4, hK4⟩ := hK4
    have h64 := (hF4 60000 (by omega)).trans h63
    have hX4 := hX3.frM (F' := F4) (fun y hy => hF4 y (by omega))
    rcases hK4 with ⟨q1, rfl, hM⟩ | ⟨n1, rfl, hM⟩
    · refine r_istore X dL_law_718 (by rw [hN]; decide) (by rfl) ?_
      dsimp only [List.set]
      exact tl_freeOf X (by omega) (by omega) hM (by omega) h64 (fun _ => rfl) (r_widen (by omega) (by omega) (next ad F4 _ _ ⟨⟨rfl, rfl, rfl⟩, ⟨_, h64⟩, _, _, _, _, _, _, _, _, ⟨_, hX4⟩, ⟨_, hM⟩, hI.more ht, by omega⟩))
    · exact absurd c1 n1
  · simp only [List.mem_cons, List.not_mem_nil, or_false] at hq
    obtain rfl := hq
    obtain ⟨⟨-, m1⟩, rfl, rfl⟩ := hKX
    refine r_istore X dL_law_706 (by rw [hN]; decide) (by rfl) ?_
    dsimp only [List.set]
    refine r_aload_n X dL_law_708 (by rfl) ?_
    refine r_aload_n X dL_law_709 (by rfl) ?_
    refine r_iload X dL_law_710 (by rfl) ?_
    refine r_iconst X dL_law_712 rfl ?_
    refine r_iadd X dL_law_713 ?_
    refine r_sld X hSX hSb hSA hSL (5 * t + 1) dL_law_714 (by omega) (by omega) ?_
    rw [e1]
    refine r_callV X dL_law_715 kL_128 (c_gFreeOf g _ hl ad F _ _ _ _ _ _ _ _ _ _ hB hG s1 r1 (by omega)) (hB.1) (by rfl) (by rfl) (by rfl) (by rfl) (by exact Nat.le_of_ble_eq_true rfl) (by decide) (by decide) (by omega) (by omega) (fun v ad2 F4 hK4 => ?_)
    obtain ⟨rfl, hF4, hK4⟩ := hK4
    have h64 := (hF4 60000 (by omega)).trans h60
    have hX4 := hX9.frM (F' := F4) (fun y hy => hF4 y (by omega))
    rcases hK4 with ⟨q1, rfl, hM⟩ | ⟨n1, rfl, hM⟩
    · exact absurd q1 m1
    · refine r_istore X dL_law_718 (by rw [hN]; decide) (by rfl) ?_
      dsimp only [List.set]
      exact tl_freeOf X (by omega) (by omega) hM (by omega) h64 (fun z => absurd z (by decide)) (r_widen (by omega) (by omega) (next ad F4 _ _ ⟨⟨rfl, rfl, rfl⟩, ⟨_, h64⟩, _, _, _, _, _, _, _, _, ⟨_, hX4⟩, ⟨_, hM⟩, hI.more ht, by omega⟩))
set_option maxRecDepth 100000 in
set_option maxHeartbeats 4000000 in
theorem sw_committedOf : WSw RL 129 yL_committedOf cL_committedOf 4 (some .int) [(0, 9, 12, 21)] 3 := ⟨⟨cw_committedOf, w0, ⟨by decide, by decide⟩, by decide +kernel, ww 962 rfl rfl⟩, ww 963 rfl rfl⟩
set_option maxRecDepth 100000 in
set_option maxHeartbeats 4000000 in
theorem tl_committedOf {M : Mx} {g : Gx} {mc ms : Nat} {K : Option Value → (Nat → Nat) → Pic → Prop} (X : Cx M g yL_law cL_law (some .boolean) 840 mc ms [] K noX) {ad : Nat → Nat} {F : Pic} {kc ks : Nat} (hkc : kc ≤ mc) (hks : ks ≤ ms) {td : Int} {nf nk nc : Nat} {A P : Nat → Nat → Int} {kf : Nat → Nat} {k : Int} (hM : MG g ad F td nf nk nc A P kf k) (hk : 0 ≤ k ∧ k ≤ 9) {bb : Int32} {f9 : Nat → Int64} (h60 : F 60000 = some (cJ g 1 f9)) (he : k = 0 → f9 0 = bb.toInt64) {v0 v1 v4 : Option Value} (next : V M g ad F kc ks 1474 [v0, v1, some (.ref (ad 50000)), some (.ref (ad 60000)), v4, some (.int (zI k)), some (.int bb)] []) : V M g ad F kc ks 776 [v0, v1, some (.ref (ad 50000)), some (.ref (ad 60000)), v4, some (.int (zI k)), some (.int bb)] [] := by
  obtain ⟨np, B, hB, hG⟩ := hM
  have hl := X.2.2.2.2.2.2
  refine r_aload_n X dL_law_776 (by rfl) ?_
  refine r_callV X dL_law_777 kL_89 (c_mThrown g _ hl ad F _ _ _ _ _ _ _ hB) (hB.1) (by rfl) (by rfl) (by rfl) (by rfl) (by exact Nat.le_of_ble_eq_true rfl) (by decide) (by decide) (by omega) (by omega) (fun v ad' F' hK => ?_)
  obtain ⟨rfl, rfl, rfl⟩ := hK
  refine r_iload X dL_law_780 (by rfl) ?_
  refine r_same X 787 dL_law_782 (by decide) ?_
  refine r_iload X dL_law_787 (by rfl) ?_
  refine r_if_ne X 804 dL_law_789 (by decide) (by unfold inR; omega) (fun q => ?_) (fun q => ?_)
  · refine r_goto X dL_law_804 1474 (by decide) ?_
    exact next
  · refine r_aload_n X dL_law_792 (by rfl) ?_
    refine r_iconst X dL_law_793 rfl ?_
    refine r_lald X 0 dL_law_794 (h60) (by rfl) (by omega) (by first | decide | omega) ?_
    rw [he q]
    refine r_iload X dL_law_795 (by rfl) ?_
    refine r_i2lG X dL_law_797 ?_
    refine r_lcmpE X dL_law_798 ?_
    refine r_if_eq X 804 dL_law_799 (by decide) (by unfold inR; omega) (fun q2 => ?_) (fun q2 => ?_)
    · refine r_goto X dL_law_804 1474 (by decide) ?_
      exact next
    · exact absurd rfl q2
set_option maxRecDepth 100000 in
set_option maxHeartbeats 4000000 in
theorem st_committedOf {M : Mx} {g : Gx} {mc ms : Nat} {K : Option Value → (Nat → Nat) → Pic → Prop} (X : Cx M g yL_law cL_law (some .boolean) 840 mc ms [] K noX) (hN : mN M = 7) {b L : Nat} {xs : Nat → Int32} (hSX : va_X b L xs (mS M) (mS M).heap) (hSb : b < (mS M).heap.size) (hSA : ¬ gA g b) (hSL : L ≤ 2560) {a1 a5 a6 : Nat} {ad : Nat → Nat} {F : Pic} {t : Nat} (ht : t < 512) (h5 : 5 * t + 5 ≤ L) (hI : INV g a1 a5 a6 ad F t) {kc ks : Nat} (hkc : kc + 32 ≤ mc) (hks : ks + 1000 ≤ ms) {o5 o6 : Option Value} (next : ∀ (ad' : Nat → Nat) (F' : Pic) (o5 o6 : Option Value), INV g a1 a5 a6 ad' F' (t + 1) → V M g ad' F' (kc + 32) (ks + 1000) 1474 [some (.ref b), some (.ref a1), some (.ref a5), some (.ref a6), some (.int (zI ((5 * t : Nat) : Int))), o5, o6] []) : V M g ad F kc ks 751 [some (.ref b), some (.ref a1), some (.ref a5), some (.ref a6), some (.int (zI ((5 * t : Nat) : Int))), o5, o6] [] := by
  obtain ⟨⟨rfl, rfl, rfl⟩, ⟨f, h60⟩, td, nf, nk, nc, A, P, kf, sn, ⟨ser, hX9⟩, ⟨th, np, B, hB, hG⟩, hI, hsn⟩ := hI
  have hl := X.2.2.2.2.2.2
  have hI0 := hI.1
  have h100 := hX9.1.1
  have hkf : ∀ i, i < nk → kf i < nf := fun i hi => (hI.2.2.1 i hi).1
  obtain ⟨s1, e1, r1⟩ : ∃ z : Int, xs (5 * t + 1) = zI z ∧ inR z := ⟨_, zI_of _, inR_of _⟩
  refine r_aload_n X dL_law_751 (by rfl) ?_
  refine r_aload_n X dL_law_752 (by rfl) ?_
  refine r_iload X dL_law_753 (by rfl) ?_
  refine r_iconst X dL_law_755 rfl ?_
  refine r_iadd X dL_law_756 ?_
  refine r_sld X hSX hSb hSA hSL (5 * t + 1) dL_law_757 (by omega) (by omega) ?_
  rw [e1]
  refine r_aload_n X dL_law_758 (by rfl) ?_
  refine r_callSW X dL_law_759 sw_committedOf (c_wCommittedOf g _ hl ad F f h60 h100 (zI s1) (c_committedOf g _ hl ad F _ _ _ _ _ _ _ _ ⟨ser, hX9⟩ t hI s1 r1) (by decide) (fun v ad' F' h => ⟨⟨_, h.2.1⟩, by rw [h.2.2.2], by rw [h.2.2.1]⟩) (fun E ad' F' h => h.1.1)) (by rfl) (by rfl) (by exact Nat.le_of_ble_eq_true rfl) (by omega) (by decide) (by omega) (by omega) (fun v ad1 F1 hK => ?_)
  rcases hK with ⟨rfl, F2, x, f2, hK2, hF1⟩ | ⟨q, hq, hKX, rfl⟩
  · have h63 : F1 60000 = some (cJ g 1 (vp_updL f2 0 x.toInt64)) := by rw [hF1]; exact pu_s
    have hfr : ∀ y, y ≠ 60000 → F1 y = F2 y := fun y hy => by rw [hF1]; exact pu_n hy
    clear hF1
    obtain ⟨c1, hv, rfl, rfl⟩ := hK2
    cases hv
    have aa : ∀ x, (x ≤ 100 ∨ 40000 ≤ x) → ad x = ad x := fun _ _ => rfl
    have hF2 : ∀ x, (x < 100 ∨ 40000 ≤ x) → F x = F x := fun _ _ => rfl
    have hX2 := hX9
    have hX3 := hX2.frM (F' := F1) (fun y hy => hfr y (by omega))
    have hB3 := hB.fr (F' := F1) (ad' := ad) (fun y y1 y2 => (hfr y (by omega)).trans (hF2 y (by omega))) (fun y y1 y2 => aa y (by omega))
    refine r_istore X dL_law_762 (by rw [hN]; decide) (by rfl) ?_
    dsimp only [List.set]
    refine r_aload_n X dL_law_764 (by rfl) ?_
    refine r_aload_n X dL_law_765 (by rfl) ?_
    refine r_iload X dL_law_766 (by rfl) ?_
    refine r_iconst X dL_law_768 rfl ?_
    refine r_iadd X dL_law_769 ?_
    refine r_sld X hSX hSb hSA hSL (5 * t + 1) dL_law_770 (by omega) (by omega) ?_
    rw [e1]
    refine r_callV X dL_law_771 kL_131 (c_mCommittedOf g _ hl ad F1 _ _ _ _ _ _ _ _ _ _ hB3 hG t hI s1 r1) (hB3.1) (by rfl) (by rfl) (by rfl) (by rfl) (by exact Nat.le_of_ble_eq_true rfl) (by decide) (by decide) (by omega) (by omega) (fun v ad2 F4 hK4 => ?_)
    obtain ⟨rfl, hF4, hK4⟩ := hK4
    have h64 := (hF4 60000 (by omega)).trans h63
    have hX4 := hX3.frM (F' := F4) (fun y hy => hF4 y (by omega))
    rcases hK4 with ⟨q1, rfl, hM⟩ | ⟨n1, rfl, hM⟩
    · refine r_istore X dL_law_774 (by rw [hN]; decide) (by rfl) ?_
      dsimp only [List.set]
      exact tl_committedOf X (by omega) (by omega) hM (by omega) h64 (fun _ => rfl) (r_widen (by omega) (by omega) (next ad F4 _ _ ⟨⟨rfl, rfl, rfl⟩, ⟨_, h64⟩, _, _, _, _, _, _, _, _, ⟨_, hX4⟩, ⟨_, hM⟩, hI.more ht, by omega⟩))
    · exact absurd c1 n1
  · simp only [List.mem_cons, List.not_mem_nil, or_false] at hq
    obtain rfl := hq
    obtain ⟨⟨-, m1⟩, rfl, rfl⟩ := hKX
    refine r_istore X dL_law_762 (by rw [hN]; decide) (by rfl) ?_
    dsimp only [List.set]
    refine r_aload_n X dL_law_764 (by rfl) ?_
    refine r_aload_n X dL_law_765 (by rfl) ?_
    refine r_iload X dL_law_766 (by rfl) ?_
    refine r_iconst X dL_law_768 rfl ?_
    refine r_iadd X dL_law_769 ?_
    refine r_sld X hSX hSb hSA hSL (5 * t + 1) dL_law_770 (by omega) (by omega) ?_
    rw [e1]
    refine r_callV X dL_law_771 kL_131 (c_mCommittedOf g _ hl ad F _ _ _ _ _ _ _ _ _ _ hB hG t hI s1 r1) (hB.1) (by rfl) (by rfl) (by rfl) (by rfl) (by exact Nat.le_of_ble_eq_true rfl) (by decide) (by decide) (by omega) (by omega) (fun v ad2 F4 hK4 => ?_)
    obtain ⟨rfl, hF4, hK4⟩ := hK4
    have h64 := (hF4 60000 (by omega)).trans h60
    have hX4 := hX9.frM (F' := F4) (fun y hy => hF4 y (by omega))
    rcases hK4 with ⟨q1, rfl, hM⟩ | ⟨n1, rfl, hM⟩
    · exact absurd q1 m1
    · refine r_istore X dL_law_774 (by rw [hN]; decide) (by rfl) ?_
      dsimp only [List.set]
      exact tl_committedOf X (by omega) (by omega) hM (by omega) h64 (fun z => absurd z (by decide)) (r_widen (by omega) (by omega) (next ad F4 _ _ ⟨⟨rfl, rfl, rfl⟩, ⟨_, h64⟩, _, _, _, _, _, _, _, _, ⟨_, hX4⟩, ⟨_, hM⟩, hI.more ht, by omega⟩))
set_option maxRecDepth 100000 in
set_option maxHeartbeats 4000000 in
theorem sw_directOf : WSw RL 132 yL_directOf cL_directOf 4 (some .int) [(0, 9, 12, 21)] 3 := ⟨⟨cw_directOf, w0, ⟨by decide, by decide⟩, by decide +kernel, ww 969 rfl rfl⟩, ww 970 rfl rfl⟩
set_option maxRecDepth 100000 in
set_option maxHeartbeats 4000000 in
theorem tl_directOf {M : Mx} {g : Gx} {mc ms : Nat} {K : Option Value → (Nat → Nat) → Pic → Prop} (X : Cx M g yL_law cL_law (some .boolean) 840 mc ms [] K noX) {ad : Nat → Nat} {F : Pic} {kc ks : Nat} (hkc : kc ≤ mc) (hks : ks ≤ ms) {td : Int} {nf nk nc : Nat} {A P : Nat → Nat → Int} {kf : Nat → Nat} {k : Int} (hM : MG g ad F td nf nk nc A P kf k) (hk : 0 ≤ k ∧ k ≤ 9) {bb : Int32} {f9 : Nat → Int64} (h60 : F 60000 = some (cJ g 1 f9)) (he : k = 0 → f9 0 = bb.toInt64) {v0 v1 v4 : Option Value} (next : V M g ad F kc ks 1474 [v0, v1, some (.ref (ad 50000)), some (.ref (ad 60000)), v4, some (.int (zI k)), some (.int bb)] []) : V M g ad F kc ks 832 [v0, v1, some (.ref (ad 50000)), some (.ref (ad 60000)), v4, some (.int (zI k)), some (.int bb)] [] := by
  obtain ⟨np, B, hB, hG⟩ := hM
  have hl := X.2.2.2.2.2.2
  refine r_aload_n X dL_law_832 (by rfl) ?_
  refine r_callV X dL_law_833 kL_89 (c_mThrown g _ hl ad F _ _ _ _ _ _ _ hB) (hB.1) (by rfl) (by rfl) (by rfl) (by rfl) (by exact Nat.le_of_ble_eq_true rfl) (by decide) (by decide) (by omega) (by omega) (fun v ad' F' hK => ?_)
  obtain ⟨rfl, rfl, rfl⟩ := hK
  refine r_iload X dL_law_836 (by rfl) ?_
  refine r_same X 843 dL_law_838 (by decide) ?_
  refine r_iload X dL_law_843 (by rfl) ?_
  refine r_if_ne X 860 dL_law_845 (by decide) (by unfold inR; omega) (fun q => ?_) (fun q => ?_)
  · refine r_goto X dL_law_860 1474 (by decide) ?_
    exact next
  · refine r_aload_n X dL_law_848 (by rfl) ?_
    refine r_iconst X dL_law_849 rfl ?_
    refine r_lald X 0 dL_law_850 (h60) (by rfl) (by omega) (by first | decide | omega) ?_
    rw [he q]
    refine r_iload X dL_law_851 (by rfl) ?_
    refine r_i2lG X dL_law_853 ?_
    refine r_lcmpE X dL_law_854 ?_
    refine r_if_eq X 860 dL_law_855 (by decide) (by unfold inR; omega) (fun q2 => ?_) (fun q2 => ?_)
    · refine r_goto X dL_law_860 1474 (by decide) ?_
      exact next
    · exact absurd rfl q2
set_option maxRecDepth 100000 in
set_option maxHeartbeats 4000000 in
theorem st_directOf {M : Mx} {g : Gx} {mc ms : Nat} {K : Option Value → (Nat → Nat) → Pic → Prop} (X : Cx M g yL_law cL_law (some .boolean) 840 mc ms [] K noX) (hN : mN M = 7) {b L : Nat} {xs : Nat → Int32} (hSX : va_X b L xs (mS M) (mS M).heap) (hSb : b < (mS M).heap.size) (hSA : ¬ gA g b) (hSL : L ≤ 2560) {a1 a5 a6 : Nat} {ad : Nat → Nat} {F : Pic} {t : Nat} (ht : t < 512) (h5 : 5 * t + 5 ≤ L) (hI : INV g a1 a5 a6 ad F t) {kc ks : Nat} (hkc : kc + 32 ≤ mc) (hks : ks + 1000 ≤ ms) {o5 o6 : Option Value} (next : ∀ (ad' : Nat → Nat) (F' : Pic) (o5 o6 : Option Value), INV g a1 a5 a6 ad' F' (t + 1) → V M g ad' F' (kc + 32) (ks + 1000) 1474 [some (.ref b), some (.ref a1), some (.ref a5), some (.ref a6), some (.int (zI ((5 * t : Nat) : Int))), o5, o6] []) : V M g ad F kc ks 807 [some (.ref b), some (.ref a1), some (.ref a5), some (.ref a6), some (.int (zI ((5 * t : Nat) : Int))), o5, o6] [] := by
  obtain ⟨⟨rfl, rfl, rfl⟩, ⟨f, h60⟩, td, nf, nk, nc, A, P, kf, sn, ⟨ser, hX9⟩, ⟨th, np, B, hB, hG⟩, hI, hsn⟩ := hI
  have hl := X.2.2.2.2.2.2
  have hI0 := hI.1
  have h100 := hX9.1.1
  have hkf : ∀ i, i < nk → kf i < nf := fun i hi => (hI.2.2.1 i hi).1
  obtain ⟨s1, e1, r1⟩ : ∃ z : Int, xs (5 * t + 1) = zI z ∧ inR z := ⟨_, zI_of _, inR_of _⟩
  refine r_aload_n X dL_law_807 (by rfl) ?_
  refine r_aload_n X dL_law_808 (by rfl) ?_
  refine r_iload X dL_law_809 (by rfl) ?_
  refine r_iconst X dL_law_811 rfl ?_
  refine r_iadd X dL_law_812 ?_
  refine r_sld X hSX hSb hSA hSL (5 * t + 1) dL_law_813 (by omega) (by omega) ?_
  rw [e1]
  refine r_aload_n X dL_law_814 (by rfl) ?_
  refine r_callSW X dL_law_815 sw_directOf (c_wDirectOf g _ hl ad F f h60 h100 (zI s1) (c_directOf g _ hl ad F _ _ _ _ _ _ _ _ ⟨ser, hX9⟩ s1 r1) (by decide) (fun v ad' F' h => ⟨⟨_, h.2.1⟩, by rw [h.2.2.2], by rw [h.2.2.1]⟩) (fun E ad' F' h => h.1.1)) (by rfl) (by rfl) (by exact Nat.le_of_ble_eq_true rfl) (by omega) (by decide) (by omega) (by omega) (fun v ad1 F1 hK => ?_)
  rcases hK with ⟨rfl, F2, x, f2, hK2, hF1⟩ | ⟨q, hq, hKX, rfl⟩
  · have h63 : F1 60000 = some (cJ g 1 (vp_updL f2 0 x.toInt64)) := by rw [hF1]; exact pu_s
    have hfr : ∀ y, y ≠ 60000 → F1 y = F2 y := fun y hy => by rw [hF1]; exact pu_n hy
    clear hF1
    obtain ⟨c1, hv, rfl, rfl⟩ := hK2
    cases hv
    have aa : ∀ x, (x ≤ 100 ∨ 40000 ≤ x) → ad x = ad x := fun _ _ => rfl
    have hF2 : ∀ x, (x < 100 ∨ 40000 ≤ x) → F x = F x := fun _ _ => rfl
    have hX2 := hX9
    have hX3 := hX2.frM (F' := F1) (fun y hy => hfr y (by omega))
    have hB3 := hB.fr (F' := F1) (ad' := ad) (fun y y1 y2 => (hfr y (by omega)).trans (hF2 y (by omega))) (fun y y1 y2 => aa y (by omega))
    refine r_istore X dL_law_818 (by rw [hN]; decide) (by rfl) ?_
    dsimp only [List.set]
    refine r_aload_n X dL_law_820 (by rfl) ?_
    refine r_aload_n X dL_law_821 (by rfl) ?_
    refine r_iload X dL_law_822 (by rfl) ?_
    refine r_iconst X dL_law_824 rfl ?_
    refine r_iadd X dL_law_825 ?_
    refine r_sld X hSX hSb hSA hSL (5 * t + 1) dL_law_826 (by omega) (by omega) ?_
    rw [e1]
    refine r_callV X dL_law_827 kL_134 (c_gDirectOf g _ hl ad F1 _ _ _ _ _ _ _ _ _ _ hB3 hG s1 r1 (by omega)) (hB3.1) (by rfl) (by rfl) (by rfl) (by rfl) (by exact Nat.le_of_ble_eq_true rfl) (by decide) (by decide) (by omega) (by omega) (fun v ad2 F4 hK4 => ?_)
    obtain ⟨rfl, hF4, hK4⟩ := hK4
    have h64 := (hF4 60000 (by omega)).trans h63
    have hX4 := hX3.frM (F' := F4) (fun y hy => hF4 y (by omega))
    rcases hK4 with ⟨q1, rfl, hM⟩ | ⟨n1, rfl, hM⟩
    · refine r_istore X dL_law_830 (by rw [hN]; decide) (by rfl) ?_
      dsimp only [List.set]
      exact tl_directOf X (by omega) (by omega) hM (by omega) h64 (fun _ => rfl) (r_widen (by omega) (by omega) (next ad F4 _ _ ⟨⟨rfl, rfl, rfl⟩, ⟨_, h64⟩, _, _, _, _, _, _, _, _, ⟨_, hX4⟩, ⟨_, hM⟩, hI.more ht, by omega⟩))
    · exact absurd c1 n1
  · simp only [List.mem_cons, List.not_mem_nil, or_false] at hq
    obtain rfl := hq
    obtain ⟨⟨-, m1⟩, rfl, rfl⟩ := hKX
    refine r_istore X dL_law_818 (by rw [hN]; decide) (by rfl) ?_
    dsimp only [List.set]
    refine r_aload_n X dL_law_820 (by rfl) ?_
    refine r_aload_n X dL_law_821 (by rfl) ?_
    refine r_iload X dL_law_822 (by rfl) ?_
    refine r_iconst X dL_law_824 rfl ?_
    refine r_iadd X dL_law_825 ?_
    refine r_sld X hSX hSb hSA hSL (5 * t + 1) dL_law_826 (by omega) (by omega) ?_
    rw [e1]
    refine r_callV X dL_law_827 kL_134 (c_gDirectOf g _ hl ad F _ _ _ _ _ _ _ _ _ _ hB hG s1 r1 (by omega)) (hB.1) (by rfl) (by rfl) (by rfl) (by rfl) (by exact Nat.le_of_ble_eq_true rfl) (by decide) (by decide) (by omega) (by omega) (fun v ad2 F4 hK4 => ?_)
    obtain ⟨rfl, hF4, hK4⟩ := hK4
    have h64 := (hF4 60000 (by omega)).trans h60
    have hX4 := hX9.frM (F' := F4) (fun y hy => hF4 y (by omega))
    rcases hK4 with ⟨q1, rfl, hM⟩ | ⟨n1, rfl, hM⟩
    · exact absurd q1 m1
    · refine r_istore X dL_law_830 (by rw [hN]; decide) (by rfl) ?_
      dsimp only [List.set]
      exact tl_directOf X (by omega) (by omega) hM (by omega) h64 (fun z => absurd z (by decide)) (r_widen (by omega) (by omega) (next ad F4 _ _ ⟨⟨rfl, rfl, rfl⟩, ⟨_, h64⟩, _, _, _, _, _, _, _, _, ⟨_, hX4⟩, ⟨_, hM⟩, hI.more ht, by omega⟩))
set_option maxRecDepth 100000 in
set_option maxHeartbeats 4000000 in
theorem sw_overheadOf : WSw RL 135 yL_overheadOf cL_overheadOf 4 (some .int) [(0, 9, 12, 21)] 3 := ⟨⟨cw_overheadOf, w0, ⟨by decide, by decide⟩, by decide +kernel, ww 976 rfl rfl⟩, ww 977 rfl rfl⟩
set_option maxRecDepth 100000 in
set_option maxHeartbeats 4000000 in
theorem tl_overheadOf {M : Mx} {g : Gx} {mc ms : Nat} {K : Option Value → (Nat → Nat) → Pic → Prop} (X : Cx M g yL_law cL_law (some .boolean) 840 mc ms [] K noX) {ad : Nat → Nat} {F : Pic} {kc ks : Nat} (hkc : kc ≤ mc) (hks : ks ≤ ms) {td : Int} {nf nk nc : Nat} {A P : Nat → Nat → Int} {kf : Nat → Nat} {k : Int} (hM : MG g ad F td nf nk nc A P kf k) (hk : 0 ≤ k ∧ k ≤ 9) {bb : Int32} {f9 : Nat → Int64} (h60 : F 60000 = some (cJ g 1 f9)) (he : k = 0 → f9 0 = bb.toInt64) {v0 v1 v4 : Option Value} (next : V M g ad F kc ks 1474 [v0, v1, some (.ref (ad 50000)), some (.ref (ad 60000)), v4, some (.int (zI k)), some (.int bb)] []) : V M g ad F kc ks 888 [v0, v1, some (.ref (ad 50000)), some (.ref (ad 60000)), v4, some (.int (zI k)), some (.int bb)] [] := by
  obtain ⟨np, B, hB, hG⟩ := hM
  have hl := X.2.2.2.2.2.2
  refine r_aload_n X dL_law_888 (by rfl) ?_
  refine r_callV X dL_law_889 kL_89 (c_mThrown g _ hl ad F _ _ _ _ _ _ _ hB) (hB.1) (by rfl) (by rfl) (by rfl) (by rfl) (by exact Nat.le_of_ble_eq_true rfl) (by decide) (by decide) (by omega) (by omega) (fun v ad' F' hK => ?_)
  obtain ⟨rfl, rfl, rfl⟩ := hK
  refine r_iload X dL_law_892 (by rfl) ?_
  refine r_same X 899 dL_law_894 (by decide) ?_
  refine r_iload X dL_law_899 (by rfl) ?_
  refine r_if_ne X 916 dL_law_901 (by decide) (by unfold inR; omega) (fun q => ?_) (fun q => ?_)
  · refine r_goto X dL_law_916 1474 (by decide) ?_
    exact next
  · refine r_aload_n X dL_law_904 (by rfl) ?_
    refine r_iconst X dL_law_905 rfl ?_
    refine r_lald X 0 dL_law_906 (h60) (by rfl) (by omega) (by first | decide | omega) ?_
    rw [he q]
    refine r_iload X dL_law_907 (by rfl) ?_
    refine r_i2lG X dL_law_909 ?_
    refine r_lcmpE X dL_law_910 ?_
    refine r_if_eq X 916 dL_law_911 (by decide) (by unfold inR; omega) (fun q2 => ?_) (fun q2 => ?_)
    · refine r_goto X dL_law_916 1474 (by decide) ?_
      exact next
    · exact absurd rfl q2
set_option maxRecDepth 100000 in
set_option maxHeartbeats 4000000 in
theorem st_overheadOf {M : Mx} {g : Gx} {mc ms : Nat} {K : Option Value → (Nat → Nat) → Pic → Prop} (X : Cx M g yL_law cL_law (some .boolean) 840 mc ms [] K noX) (hN : mN M = 7) {b L : Nat} {xs : Nat → Int32} (hSX : va_X b L xs (mS M) (mS M).heap) (hSb : b < (mS M).heap.size) (hSA : ¬ gA g b) (hSL : L ≤ 2560) {a1 a5 a6 : Nat} {ad : Nat → Nat} {F : Pic} {t : Nat} (ht : t < 512) (h5 : 5 * t + 5 ≤ L) (hI : INV g a1 a5 a6 ad F t) {kc ks : Nat} (hkc : kc + 32 ≤ mc) (hks : ks + 1000 ≤ ms) {o5 o6 : Option Value} (next : ∀ (ad' : Nat → Nat) (F' : Pic) (o5 o6 : Option Value), INV g a1 a5 a6 ad' F' (t + 1) → V M g ad' F' (kc + 32) (ks + 1000) 1474 [some (.ref b), some (.ref a1), some (.ref a5), some (.ref a6), some (.int (zI ((5 * t : Nat) : Int))), o5, o6] []) : V M g ad F kc ks 863 [some (.ref b), some (.ref a1), some (.ref a5), some (.ref a6), some (.int (zI ((5 * t : Nat) : Int))), o5, o6] [] := by
  obtain ⟨⟨rfl, rfl, rfl⟩, ⟨f, h60⟩, td, nf, nk, nc, A, P, kf, sn, ⟨ser, hX9⟩, ⟨th, np, B, hB, hG⟩, hI, hsn⟩ := hI
  have hl := X.2.2.2.2.2.2
  have hI0 := hI.1
  have h100 := hX9.1.1
  have hkf : ∀ i, i < nk → kf i < nf := fun i hi => (hI.2.2.1 i hi).1
  obtain ⟨s1, e1, r1⟩ : ∃ z : Int, xs (5 * t + 1) = zI z ∧ inR z := ⟨_, zI_of _, inR_of _⟩
  refine r_aload_n X dL_law_863 (by rfl) ?_
  refine r_aload_n X dL_law_864 (by rfl) ?_
  refine r_iload X dL_law_865 (by rfl) ?_
  refine r_iconst X dL_law_867 rfl ?_
  refine r_iadd X dL_law_868 ?_
  refine r_sld X hSX hSb hSA hSL (5 * t + 1) dL_law_869 (by omega) (by omega) ?_
  rw [e1]
  refine r_aload_n X dL_law_870 (by rfl) ?_
  refine r_callSW X dL_law_871 sw_overheadOf (c_wOverheadOf g _ hl ad F f h60 h100 (zI s1) (c_overheadOf g _ hl ad F _ _ _ _ _ _ _ _ ⟨ser, hX9⟩ s1 r1) (by decide) (fun v ad' F' h => ⟨⟨_, h.2.1⟩, by rw [h.2.2.2], by rw [h.2.2.1]⟩) (fun E ad' F' h => h.1.1)) (by rfl) (by rfl) (by exact Nat.le_of_ble_eq_true rfl) (by omega) (by decide) (by omega) (by omega) (fun v ad1 F1 hK => ?_)
  rcases hK with ⟨rfl, F2, x, f2, hK2, hF1⟩ | ⟨q, hq, hKX, rfl⟩
  · have h63 : F1 60000 = some (cJ g 1 (vp_updL f2 0 x.toInt64)) := by rw [hF1]; exact pu_s
    have hfr : ∀ y, y ≠ 60000 → F1 y = F2 y := fun y hy => by rw [hF1]; exact pu_n hy
    clear hF1
    obtain ⟨c1, hv, rfl, rfl⟩ := hK2
    cases hv
    have aa : ∀ x, (x ≤ 100 ∨ 40000 ≤ x) → ad x = ad x := fun _ _ => rfl
    have hF2 : ∀ x, (x < 100 ∨ 40000 ≤ x) → F x = F x := fun _ _ => rfl
    have hX2 := hX9
    have hX3 := hX2.frM (F' := F1) (fun y hy => hfr y (by omega))
    have hB3 := hB.fr (F' := F1) (ad' := ad) (fun y y1 y2 => (hfr y (by omega)).trans (hF2 y (by omega))) (fun y y1 y2 => aa y (by omega))
    refine r_istore X dL_law_874 (by rw [hN]; decide) (by rfl) ?_
    dsimp only [List.set]
    refine r_aload_n X dL_law_876 (by rfl) ?_
    refine r_aload_n X dL_law_877 (by rfl) ?_
    refine r_iload X dL_law_878 (by rfl) ?_
    refine r_iconst X dL_law_880 rfl ?_
    refine r_iadd X dL_law_881 ?_
    refine r_sld X hSX hSb hSA hSL (5 * t + 1) dL_law_882 (by omega) (by omega) ?_
    rw [e1]
    refine r_callV X dL_law_883 kL_137 (c_gOverheadOf g _ hl ad F1 _ _ _ _ _ _ _ _ _ _ hB3 hG s1 r1 (by omega)) (hB3.1) (by rfl) (by rfl) (by rfl) (by rfl) (by exact Nat.le_of_ble_eq_true rfl) (by decide) (by decide) (by omega) (by omega) (fun v ad2 F4 hK4 => ?_)
    obtain ⟨rfl, hF4, hK4⟩ := hK4
    have h64 := (hF4 60000 (by omega)).trans h63
    have hX4 := hX3.frM (F' := F4) (fun y hy => hF4 y (by omega))
    rcases hK4 with ⟨q1, rfl, hM⟩ | ⟨n1, rfl, hM⟩
    · refine r_istore X dL_law_886 (by rw [hN]; decide) (by rfl) ?_
      dsimp only [List.set]
      exact tl_overheadOf X (by omega) (by omega) hM (by omega) h64 (fun _ => rfl) (r_widen (by omega) (by omega) (next ad F4 _ _ ⟨⟨rfl, rfl, rfl⟩, ⟨_, h64⟩, _, _, _, _, _, _, _, _, ⟨_, hX4⟩, ⟨_, hM⟩, hI.more ht, by omega⟩))
    · exact absurd c1 n1
  · simp only [List.mem_cons, List.not_mem_nil, or_false] at hq
    obtain rfl := hq
    obtain ⟨⟨-, m1⟩, rfl, rfl⟩ := hKX
    refine r_istore X dL_law_874 (by rw [hN]; decide) (by rfl) ?_
    dsimp only [List.set]
    refine r_aload_n X dL_law_876 (by rfl) ?_
    refine r_aload_n X dL_law_877 (by rfl) ?_
    refine r_iload X dL_law_878 (by rfl) ?_
    refine r_iconst X dL_law_880 rfl ?_
    refine r_iadd X dL_law_881 ?_
    refine r_sld X hSX hSb hSA hSL (5 * t + 1) dL_law_882 (by omega) (by omega) ?_
    rw [e1]
    refine r_callV X dL_law_883 kL_137 (c_gOverheadOf g _ hl ad F _ _ _ _ _ _ _ _ _ _ hB hG s1 r1 (by omega)) (hB.1) (by rfl) (by rfl) (by rfl) (by rfl) (by exact Nat.le_of_ble_eq_true rfl) (by decide) (by decide) (by omega) (by omega) (fun v ad2 F4 hK4 => ?_)
    obtain ⟨rfl, hF4, hK4⟩ := hK4
    have h64 := (hF4 60000 (by omega)).trans h60
    have hX4 := hX9.frM (F' := F4) (fun y hy => hF4 y (by omega))
    rcases hK4 with ⟨q1, rfl, hM⟩ | ⟨n1, rfl, hM⟩
    · exact absurd q1 m1
    · refine r_istore X dL_law_886 (by rw [hN]; decide) (by rfl) ?_
      dsimp only [List.set]
      exact tl_overheadOf X (by omega) (by omega) hM (by omega) h64 (fun z => absurd z (by decide)) (r_widen (by omega) (by omega) (next ad F4 _ _ ⟨⟨rfl, rfl, rfl⟩, ⟨_, h64⟩, _, _, _, _, _, _, _, _, ⟨_, hX4⟩, ⟨_, hM⟩, hI.more ht, by omega⟩))
set_option maxRecDepth 100000 in
set_option maxHeartbeats 4000000 in
theorem sw_roomOf : WSw RL 138 yL_roomOf cL_roomOf 4 (some .int) [(0, 9, 12, 21)] 3 := ⟨⟨cw_roomOf, w0, ⟨by decide, by decide⟩, by decide +kernel, ww 983 rfl rfl⟩, ww 984 rfl rfl⟩
set_option maxRecDepth 100000 in
set_option maxHeartbeats 4000000 in
theorem tl_roomOf {M : Mx} {g : Gx} {mc ms : Nat} {K : Option Value → (Nat → Nat) → Pic → Prop} (X : Cx M g yL_law cL_law (some .boolean) 840 mc ms [] K noX) {ad : Nat → Nat} {F : Pic} {kc ks : Nat} (hkc : kc ≤ mc) (hks : ks ≤ ms) {td : Int} {nf nk nc : Nat} {A P : Nat → Nat → Int} {kf : Nat → Nat} {k : Int} (hM : MG g ad F td nf nk nc A P kf k) (hk : 0 ≤ k ∧ k ≤ 9) {bb : Int32} {f9 : Nat → Int64} (h60 : F 60000 = some (cJ g 1 f9)) (he : k = 0 → f9 0 = bb.toInt64) {v0 v1 v4 : Option Value} (next : V M g ad F kc ks 1474 [v0, v1, some (.ref (ad 50000)), some (.ref (ad 60000)), v4, some (.int (zI k)), some (.int bb)] []) : V M g ad F kc ks 944 [v0, v1, some (.ref (ad 50000)), some (.ref (ad 60000)), v4, some (.int (zI k)), some (.int bb)] [] := by
  obtain ⟨np, B, hB, hG⟩ := hM
  have hl := X.2.2.2.2.2.2
  refine r_aload_n X dL_law_944 (by rfl) ?_
  refine r_callV X dL_law_945 kL_89 (c_mThrown g _ hl ad F _ _ _ _ _ _ _ hB) (hB.1) (by rfl) (by rfl) (by rfl) (by rfl) (by exact Nat.le_of_ble_eq_true rfl) (by decide) (by decide) (by omega) (by omega) (fun v ad' F' hK => ?_)
  obtain ⟨rfl, rfl, rfl⟩ := hK
  refine r_iload X dL_law_948 (by rfl) ?_
  refine r_same X 955 dL_law_950 (by decide) ?_
  refine r_iload X dL_law_955 (by rfl) ?_
  refine r_if_ne X 972 dL_law_957 (by decide) (by unfold inR; omega) (fun q => ?_) (fun q => ?_)
  · refine r_goto X dL_law_972 1474 (by decide) ?_
    exact next
  · refine r_aload_n X dL_law_960 (by rfl) ?_
    refine r_iconst X dL_law_961 rfl ?_
    refine r_lald X 0 dL_law_962 (h60) (by rfl) (by omega) (by first | decide | omega) ?_
    rw [he q]
    refine r_iload X dL_law_963 (by rfl) ?_
    refine r_i2lG X dL_law_965 ?_
    refine r_lcmpE X dL_law_966 ?_
    refine r_if_eq X 972 dL_law_967 (by decide) (by unfold inR; omega) (fun q2 => ?_) (fun q2 => ?_)
    · refine r_goto X dL_law_972 1474 (by decide) ?_
      exact next
    · exact absurd rfl q2
set_option maxRecDepth 100000 in
set_option maxHeartbeats 4000000 in
theorem st_roomOf {M : Mx} {g : Gx} {mc ms : Nat} {K : Option Value → (Nat → Nat) → Pic → Prop} (X : Cx M g yL_law cL_law (some .boolean) 840 mc ms [] K noX) (hN : mN M = 7) {b L : Nat} {xs : Nat → Int32} (hSX : va_X b L xs (mS M) (mS M).heap) (hSb : b < (mS M).heap.size) (hSA : ¬ gA g b) (hSL : L ≤ 2560) {a1 a5 a6 : Nat} {ad : Nat → Nat} {F : Pic} {t : Nat} (ht : t < 512) (h5 : 5 * t + 5 ≤ L) (hI : INV g a1 a5 a6 ad F t) {kc ks : Nat} (hkc : kc + 32 ≤ mc) (hks : ks + 1000 ≤ ms) {o5 o6 : Option Value} (next : ∀ (ad' : Nat → Nat) (F' : Pic) (o5 o6 : Option Value), INV g a1 a5 a6 ad' F' (t + 1) → V M g ad' F' (kc + 32) (ks + 1000) 1474 [some (.ref b), some (.ref a1), some (.ref a5), some (.ref a6), some (.int (zI ((5 * t : Nat) : Int))), o5, o6] []) : V M g ad F kc ks 919 [some (.ref b), some (.ref a1), some (.ref a5), some (.ref a6), some (.int (zI ((5 * t : Nat) : Int))), o5, o6] [] := by
  obtain ⟨⟨rfl, rfl, rfl⟩, ⟨f, h60⟩, td, nf, nk, nc, A, P, kf, sn, ⟨ser, hX9⟩, ⟨th, np, B, hB, hG⟩, hI, hsn⟩ := hI
  have hl := X.2.2.2.2.2.2
  have hI0 := hI.1
  have h100 := hX9.1.1
  have hkf : ∀ i, i < nk → kf i < nf := fun i hi => (hI.2.2.1 i hi).1
  obtain ⟨s1, e1, r1⟩ : ∃ z : Int, xs (5 * t + 1) = zI z ∧ inR z := ⟨_, zI_of _, inR_of _⟩
  refine r_aload_n X dL_law_919 (by rfl) ?_
  refine r_aload_n X dL_law_920 (by rfl) ?_
  refine r_iload X dL_law_921 (by rfl) ?_
  refine r_iconst X dL_law_923 rfl ?_
  refine r_iadd X dL_law_924 ?_
  refine r_sld X hSX hSb hSA hSL (5 * t + 1) dL_law_925 (by omega) (by omega) ?_
  rw [e1]
  refine r_aload_n X dL_law_926 (by rfl) ?_
  refine r_callSW X dL_law_927 sw_roomOf (c_wRoomOf g _ hl ad F f h60 h100 (zI s1) (c_roomOf g _ hl ad F _ _ _ _ _ _ _ _ ⟨ser, hX9⟩ t hI s1 r1) (by decide) (fun v ad' F' h => ⟨⟨_, h.2.1⟩, by rw [h.2.2.2], by rw [h.2.2.1]⟩) (fun E ad' F' h => h.1.1)) (by rfl) (by rfl) (by exact Nat.le_of_ble_eq_true rfl) (by omega) (by decide) (by omega) (by omega) (fun v ad1 F1 hK => ?_)
  rcases hK with ⟨rfl, F2, x, f2, hK2, hF1⟩ | ⟨q, hq, hKX, rfl⟩
  · have h63 : F1 60000 = some (cJ g 1 (vp_updL f2 0 x.toInt64)) := by rw [hF1]; exact pu_s
    have hfr : ∀ y, y ≠ 60000 → F1 y = F2 y := fun y hy => by rw [hF1]; exact pu_n hy
    clear hF1
    obtain ⟨c1, hv, rfl, rfl⟩ := hK2
    cases hv
    have aa : ∀ x, (x ≤ 100 ∨ 40000 ≤ x) → ad x = ad x := fun _ _ => rfl
    have hF2 : ∀ x, (x < 100 ∨ 40000 ≤ x) → F x = F x := fun _ _ => rfl
    have hX2 := hX9
    have hX3 := hX2.frM (F' := F1) (fun y hy => hfr y (by omega))
    have hB3 := hB.fr (F' := F1) (ad' := ad) (fun y y1 y2 => (hfr y (by omega)).trans (hF2 y (by omega))) (fun y y1 y2 => aa y (by omega))
    refine r_istore X dL_law_930 (by rw [hN]; decide) (by rfl) ?_
    dsimp only [List.set]
    refine r_aload_n X dL_law_932 (by rfl) ?_
    refine r_aload_n X dL_law_933 (by rfl) ?_
    refine r_iload X dL_law_934 (by rfl) ?_
    refine r_iconst X dL_law_936 rfl ?_
    refine r_iadd X dL_law_937 ?_
    refine r_sld X hSX hSb hSA hSL (5 * t + 1) dL_law_938 (by omega) (by omega) ?_
    rw [e1]
    refine r_callV X dL_law_939 kL_140 (c_mRoomOf g _ hl ad F1 _ _ _ _ _ _ _ _ _ _ hB3 hG t hI s1 r1) (hB3.1) (by rfl) (by rfl) (by rfl) (by rfl) (by exact Nat.le_of_ble_eq_true rfl) (by decide) (by decide) (by omega) (by omega) (fun v ad2 F4 hK4 => ?_)
    obtain ⟨rfl, hF4, hK4⟩ := hK4
    have h64 := (hF4 60000 (by omega)).trans h63
    have hX4 := hX3.frM (F' := F4) (fun y hy => hF4 y (by omega))
    rcases hK4 with ⟨q1, rfl, hM⟩ | ⟨n1, rfl, hM⟩
    · refine r_istore X dL_law_942 (by rw [hN]; decide) (by rfl) ?_
      dsimp only [List.set]
      exact tl_roomOf X (by omega) (by omega) hM (by omega) h64 (fun _ => rfl) (r_widen (by omega) (by omega) (next ad F4 _ _ ⟨⟨rfl, rfl, rfl⟩, ⟨_, h64⟩, _, _, _, _, _, _, _, _, ⟨_, hX4⟩, ⟨_, hM⟩, hI.more ht, by omega⟩))
    · exact absurd c1 n1
  · simp only [List.mem_cons, List.not_mem_nil, or_false] at hq
    obtain rfl := hq
    obtain ⟨⟨-, m1⟩, rfl, rfl⟩ := hKX
    refine r_istore X dL_law_930 (by rw [hN]; decide) (by rfl) ?_
    dsimp only [List.set]
    refine r_aload_n X dL_law_932 (by rfl) ?_
    refine r_aload_n X dL_law_933 (by rfl) ?_
    refine r_iload X dL_law_934 (by rfl) ?_
    refine r_iconst X dL_law_936 rfl ?_
    refine r_iadd X dL_law_937 ?_
    refine r_sld X hSX hSb hSA hSL (5 * t + 1) dL_law_938 (by omega) (by omega) ?_
    rw [e1]
    refine r_callV X dL_law_939 kL_140 (c_mRoomOf g _ hl ad F _ _ _ _ _ _ _ _ _ _ hB hG t hI s1 r1) (hB.1) (by rfl) (by rfl) (by rfl) (by rfl) (by exact Nat.le_of_ble_eq_true rfl) (by decide) (by decide) (by omega) (by omega) (fun v ad2 F4 hK4 => ?_)
    obtain ⟨rfl, hF4, hK4⟩ := hK4
    have h64 := (hF4 60000 (by omega)).trans h60
    have hX4 := hX9.frM (F' := F4) (fun y hy => hF4 y (by omega))
    rcases hK4 with ⟨q1, rfl, hM⟩ | ⟨n1, rfl, hM⟩
    · exact absurd q1 m1
    · refine r_istore X dL_law_942 (by rw [hN]; decide) (by rfl) ?_
      dsimp only [List.set]
      exact tl_roomOf X (by omega) (by omega) hM (by omega) h64 (fun z => absurd z (by decide)) (r_widen (by omega) (by omega) (next ad F4 _ _ ⟨⟨rfl, rfl, rfl⟩, ⟨_, h64⟩, _, _, _, _, _, _, _, _, ⟨_, hX4⟩, ⟨_, hM⟩, hI.more ht, by omega⟩))
set_option maxRecDepth 100000 in
set_option maxHeartbeats 4000000 in
theorem sw_fundOf : WSw RL 145 yL_fundOf cL_fundOf 4 (some .int) [(0, 9, 12, 21)] 3 := ⟨⟨cw_fundOf, w0, ⟨by decide, by decide⟩, by decide +kernel, ww 990 rfl rfl⟩, ww 991 rfl rfl⟩
set_option maxRecDepth 100000 in
set_option maxHeartbeats 4000000 in
theorem tl_fundOf {M : Mx} {g : Gx} {mc ms : Nat} {K : Option Value → (Nat → Nat) → Pic → Prop} (X : Cx M g yL_law cL_law (some .boolean) 840 mc ms [] K noX) {ad : Nat → Nat} {F : Pic} {kc ks : Nat} (hkc : kc ≤ mc) (hks : ks ≤ ms) {td : Int} {nf nk nc : Nat} {A P : Nat → Nat → Int} {kf : Nat → Nat} {k : Int} (hM : MG g ad F td nf nk nc A P kf k) (hk : 0 ≤ k ∧ k ≤ 9) {bb : Int32} {f9 : Nat → Int64} (h60 : F 60000 = some (cJ g 1 f9)) (he : k = 0 → f9 0 = bb.toInt64) {v0 v1 v4 : Option Value} (next : V M g ad F kc ks 1474 [v0, v1, some (.ref (ad 50000)), some (.ref (ad 60000)), v4, some (.int (zI k)), some (.int bb)] []) : V M g ad F kc ks 1013 [v0, v1, some (.ref (ad 50000)), some (.ref (ad 60000)), v4, some (.int (zI k)), some (.int bb)] [] := by
  obtain ⟨np, B, hB, hG⟩ := hM
  have hl := X.2.2.2.2.2.2
  refine r_aload_n X dL_law_1013 (by rfl) ?_
  refine r_callV X dL_law_1014 kL_89 (c_mThrown g _ hl ad F _ _ _ _ _ _ _ hB) (hB.1) (by rfl) (by rfl) (by rfl) (by rfl) (by exact Nat.le_of_ble_eq_true rfl) (by decide) (by decide) (by omega) (by omega) (fun v ad' F' hK => ?_)
  obtain ⟨rfl, rfl, rfl⟩ := hK
  refine r_iload X dL_law_1017 (by rfl) ?_
  refine r_same X 1024 dL_law_1019 (by decide) ?_
  refine r_iload X dL_law_1024 (by rfl) ?_
  refine r_if_ne X 1041 dL_law_1026 (by decide) (by unfold inR; omega) (fun q => ?_) (fun q => ?_)
  · refine r_goto X dL_law_1041 1474 (by decide) ?_
    exact next
  · refine r_aload_n X dL_law_1029 (by rfl) ?_
    refine r_iconst X dL_law_1030 rfl ?_
    refine r_lald X 0 dL_law_1031 (h60) (by rfl) (by omega) (by first | decide | omega) ?_
    rw [he q]
    refine r_iload X dL_law_1032 (by rfl) ?_
    refine r_i2lG X dL_law_1034 ?_
    refine r_lcmpE X dL_law_1035 ?_
    refine r_if_eq X 1041 dL_law_1036 (by decide) (by unfold inR; omega) (fun q2 => ?_) (fun q2 => ?_)
    · refine r_goto X dL_law_1041 1474 (by decide) ?_
      exact next
    · exact absurd rfl q2
set_option maxRecDepth 100000 in
set_option maxHeartbeats 4000000 in
theorem st_fundOf {M : Mx} {g : Gx} {mc ms : Nat} {K : Option Value → (Nat → Nat) → Pic → Prop} (X : Cx M g yL_law cL_law (some .boolean) 840 mc ms [] K noX) (hN : mN M = 7) {b L : Nat} {xs : Nat → Int32} (hSX : va_X b L xs (mS M) (mS M).heap) (hSb : b < (mS M).heap.size) (hSA : ¬ gA g b) (hSL : L ≤ 2560) {a1 a5 a6 : Nat} {ad : Nat → Nat} {F : Pic} {t : Nat} (ht : t < 512) (h5 : 5 * t + 5 ≤ L) (hI : INV g a1 a5 a6 ad F t) {kc ks : Nat} (hkc : kc + 32 ≤ mc) (hks : ks + 1000 ≤ ms) {o5 o6 : Option Value} (next : ∀ (ad' : Nat → Nat) (F' : Pic) (o5 o6 : Option Value), INV g a1 a5 a6 ad' F' (t + 1) → V M g ad' F' (kc + 32) (ks + 1000) 1474 [some (.ref b), some (.ref a1), some (.ref a5), some (.ref a6), some (.int (zI ((5 * t : Nat) : Int))), o5, o6] []) : V M g ad F kc ks 988 [some (.ref b), some (.ref a1), some (.ref a5), some (.ref a6), some (.int (zI ((5 * t : Nat) : Int))), o5, o6] [] := by
  obtain ⟨⟨rfl, rfl, rfl⟩, ⟨f, h60⟩, td, nf, nk, nc, A, P, kf, sn, ⟨ser, hX9⟩, ⟨th, np, B, hB, hG⟩, hI, hsn⟩ := hI
  have hl := X.2.2.2.2.2.2
  have hI0 := hI.1
  have h100 := hX9.1.1
  have hkf : ∀ i, i < nk → kf i < nf := fun i hi => (hI.2.2.1 i hi).1
  obtain ⟨s1, e1, r1⟩ : ∃ z : Int, xs (5 * t + 1) = zI z ∧ inR z := ⟨_, zI_of _, inR_of _⟩
  refine r_aload_n X dL_law_988 (by rfl) ?_
  refine r_aload_n X dL_law_989 (by rfl) ?_
  refine r_iload X dL_law_990 (by rfl) ?_
  refine r_iconst X dL_law_992 rfl ?_
  refine r_iadd X dL_law_993 ?_
  refine r_sld X hSX hSb hSA hSL (5 * t + 1) dL_law_994 (by omega) (by omega) ?_
  rw [e1]
  refine r_aload_n X dL_law_995 (by rfl) ?_
  refine r_callSW X dL_law_996 sw_fundOf (c_wFundOf g _ hl ad F f h60 h100 (zI s1) (c_fundOf g _ hl ad F _ _ _ _ _ _ _ _ ⟨ser, hX9⟩ t hI s1 r1) (by decide) (fun v ad' F' h => ⟨⟨_, h.2.1⟩, by rw [h.2.2.2], by rw [h.2.2.1]⟩) (fun E ad' F' h => h.1.1)) (by rfl) (by rfl) (by exact Nat.le_of_ble_eq_true rfl) (by omega) (by decide) (by omega) (by omega) (fun v ad1 F1 hK => ?_)
  rcases hK with ⟨rfl, F2, x, f2, hK2, hF1⟩ | ⟨q, hq, hKX, rfl⟩
  · have h63 : F1 60000 = some (cJ g 1 (vp_updL f2 0 x.toInt64)) := by rw [hF1]; exact pu_s
    have hfr : ∀ y, y ≠ 60000 → F1 y = F2 y := fun y hy => by rw [hF1]; exact pu_n hy
    clear hF1
    obtain ⟨c1, hv, rfl, rfl⟩ := hK2
    cases hv
    have aa : ∀ x, (x ≤ 100 ∨ 40000 ≤ x) → ad x = ad x := fun _ _ => rfl
    have hF2 : ∀ x, (x < 100 ∨ 40000 ≤ x) → F x = F x := fun _ _ => rfl
    have hX2 := hX9
    have hX3 := hX2.frM (F' := F1) (fun y hy => hfr y (by omega))
    have hB3 := hB.fr (F' := F1) (ad' := ad) (fun y y1 y2 => (hfr y (by omega)).trans (hF2 y (by omega))) (fun y y1 y2 => aa y (by omega))
    refine r_istore X dL_law_999 (by rw [hN]; decide) (by rfl) ?_
    dsimp only [List.set]
    refine r_aload_n X dL_law_1001 (by rfl) ?_
    refine r_aload_n X dL_law_1002 (by rfl) ?_
    refine r_iload X dL_law_1003 (by rfl) ?_
    refine r_iconst X dL_law_1005 rfl ?_
    refine r_iadd X dL_law_1006 ?_
    refine r_sld X hSX hSb hSA hSL (5 * t + 1) dL_law_1007 (by omega) (by omega) ?_
    rw [e1]
    refine r_callV X dL_law_1008 kL_147 (c_gFundOf g _ hl ad F1 _ _ _ _ _ _ _ _ _ _ hB3 hG s1 r1 (by omega)) (hB3.1) (by rfl) (by rfl) (by rfl) (by rfl) (by exact Nat.le_of_ble_eq_true rfl) (by decide) (by decide) (by omega) (by omega) (fun v ad2 F4 hK4 => ?_)
    obtain ⟨rfl, hF4, hK4⟩ := hK4
    have h64 := (hF4 60000 (by omega)).trans h63
    have hX4 := hX3.frM (F' := F4) (fun y hy => hF4 y (by omega))
    rcases hK4 with ⟨q1, rfl, hM⟩ | ⟨n1, rfl, hM⟩
    · refine r_istore X dL_law_1011 (by rw [hN]; decide) (by rfl) ?_
      dsimp only [List.set]
      exact tl_fundOf X (by omega) (by omega) hM (by omega) h64 (fun _ => rfl) (r_widen (by omega) (by omega) (next ad F4 _ _ ⟨⟨rfl, rfl, rfl⟩, ⟨_, h64⟩, _, _, _, _, _, _, _, _, ⟨_, hX4⟩, ⟨_, hM⟩, hI.more ht, by omega⟩))
    · exact absurd c1 n1
  · simp only [List.mem_cons, List.not_mem_nil, or_false] at hq
    obtain rfl := hq
    obtain ⟨⟨-, m1⟩, rfl, rfl⟩ := hKX
    refine r_istore X dL_law_999 (by rw [hN]; decide) (by rfl) ?_
    dsimp only [List.set]
    refine r_aload_n X dL_law_1001 (by rfl) ?_
    refine r_aload_n X dL_law_1002 (by rfl) ?_
    refine r_iload X dL_law_1003 (by rfl) ?_
    refine r_iconst X dL_law_1005 rfl ?_
    refine r_iadd X dL_law_1006 ?_
    refine r_sld X hSX hSb hSA hSL (5 * t + 1) dL_law_1007 (by omega) (by omega) ?_
    rw [e1]
    refine r_callV X dL_law_1008 kL_147 (c_gFundOf g _ hl ad F _ _ _ _ _ _ _ _ _ _ hB hG s1 r1 (by omega)) (hB.1) (by rfl) (by rfl) (by rfl) (by rfl) (by exact Nat.le_of_ble_eq_true rfl) (by decide) (by decide) (by omega) (by omega) (fun v ad2 F4 hK4 => ?_)
    obtain ⟨rfl, hF4, hK4⟩ := hK4
    have h64 := (hF4 60000 (by omega)).trans h60
    have hX4 := hX9.frM (F' := F4) (fun y hy => hF4 y (by omega))
    rcases hK4 with ⟨q1, rfl, hM⟩ | ⟨n1, rfl, hM⟩
    · exact absurd q1 m1
    · refine r_istore X dL_law_1011 (by rw [hN]; decide) (by rfl) ?_
      dsimp only [List.set]
      exact tl_fundOf X (by omega) (by omega) hM (by omega) h64 (fun z => absurd z (by decide)) (r_widen (by omega) (by omega) (next ad F4 _ _ ⟨⟨rfl, rfl, rfl⟩, ⟨_, h64⟩, _, _, _, _, _, _, _, _, ⟨_, hX4⟩, ⟨_, hM⟩, hI.more ht, by omega⟩))
set_option maxRecDepth 100000 in
set_option maxHeartbeats 4000000 in
theorem sw_leftOf : WSw RL 148 yL_leftOf cL_leftOf 4 (some .int) [(0, 9, 12, 21)] 3 := ⟨⟨cw_leftOf, w0, ⟨by decide, by decide⟩, by decide +kernel, ww 997 rfl rfl⟩, ww 998 rfl rfl⟩
set_option maxRecDepth 100000 in
set_option maxHeartbeats 4000000 in
theorem tl_leftOf {M : Mx} {g : Gx} {mc ms : Nat} {K : Option Value → (Nat → Nat) → Pic → Prop} (X : Cx M g yL_law cL_law (some .boolean) 840 mc ms [] K noX) {ad : Nat → Nat} {F : Pic} {kc ks : Nat} (hkc : kc ≤ mc) (hks : ks ≤ ms) {td : Int} {nf nk nc : Nat} {A P : Nat → Nat → Int} {kf : Nat → Nat} {k : Int} (hM : MG g ad F td nf nk nc A P kf k) (hk : 0 ≤ k ∧ k ≤ 9) {bb : Int32} {f9 : Nat → Int64} (h60 : F 60000 = some (cJ g 1 f9)) (he : k = 0 → f9 0 = bb.toInt64) {v0 v1 v4 : Option Value} (next : V M g ad F kc ks 1474 [v0, v1, some (.ref (ad 50000)), some (.ref (ad 60000)), v4, some (.int (zI k)), some (.int bb)] []) : V M g ad F kc ks 1069 [v0, v1, some (.ref (ad 50000)), some (.ref (ad 60000)), v4, some (.int (zI k)), some (.int bb)] [] := by
  obtain ⟨np, B, hB, hG⟩ := hM
  have hl := X.2.2.2.2.2.2
  refine r_aload_n X dL_law_1069 (by rfl) ?_
  refine r_callV X dL_law_1070 kL_89 (c_mThrown g _ hl ad F _ _ _ _ _ _ _ hB) (hB.1) (by rfl) (by rfl) (by rfl) (by rfl) (by exact Nat.le_of_ble_eq_true rfl) (by decide) (by decide) (by omega) (by omega) (fun v ad' F' hK => ?_)
  obtain ⟨rfl, rfl, rfl⟩ := hK
  refine r_iload X dL_law_1073 (by rfl) ?_
  refine r_same X 1080 dL_law_1075 (by decide) ?_
  refine r_iload X dL_law_1080 (by rfl) ?_
  refine r_if_ne X 1097 dL_law_1082 (by decide) (by unfold inR; omega) (fun q => ?_) (fun q => ?_)
  · refine r_goto X dL_law_1097 1474 (by decide) ?_
    exact next
  · refine r_aload_n X dL_law_1085 (by rfl) ?_
    refine r_iconst X dL_law_1086 rfl ?_
    refine r_lald X 0 dL_law_1087 (h60) (by rfl) (by omega) (by first | decide | omega) ?_
    rw [he q]
    refine r_iload X dL_law_1088 (by rfl) ?_
    refine r_i2lG X dL_law_1090 ?_
    refine r_lcmpE X dL_law_1091 ?_
    refine r_if_eq X 1097 dL_law_1092 (by decide) (by unfold inR; omega) (fun q2 => ?_) (fun q2 => ?_)
    · refine r_goto X dL_law_1097 1474 (by decide) ?_
      exact next
    · exact absurd rfl q2
set_option maxRecDepth 100000 in
set_option maxHeartbeats 4000000 in
theorem st_leftOf {M : Mx} {g : Gx} {mc ms : Nat} {K : Option Value → (Nat → Nat) → Pic → Prop} (X : Cx M g yL_law cL_law (some .boolean) 840 mc ms [] K noX) (hN : mN M = 7) {b L : Nat} {xs : Nat → Int32} (hSX : va_X b L xs (mS M) (mS M).heap) (hSb : b < (mS M).heap.size) (hSA : ¬ gA g b) (hSL : L ≤ 2560) {a1 a5 a6 : Nat} {ad : Nat → Nat} {F : Pic} {t : Nat} (ht : t < 512) (h5 : 5 * t + 5 ≤ L) (hI : INV g a1 a5 a6 ad F t) {kc ks : Nat} (hkc : kc + 32 ≤ mc) (hks : ks + 1000 ≤ ms) {o5 o6 : Option Value} (next : ∀ (ad' : Nat → Nat) (F' : Pic) (o5 o6 : Option Value), INV g a1 a5 a6 ad' F' (t + 1) → V M g ad' F' (kc + 32) (ks + 1000) 1474 [some (.ref b), some (.ref a1), some (.ref a5), some (.ref a6), some (.int (zI ((5 * t : Nat) : Int))), o5, o6] []) : V M g ad F kc ks 1044 [some (.ref b), some (.ref a1), some (.ref a5), some (.ref a6), some (.int (zI ((5 * t : Nat) : Int))), o5, o6] [] := by
  obtain ⟨⟨rfl, rfl, rfl⟩, ⟨f, h60⟩, td, nf, nk, nc, A, P, kf, sn, ⟨ser, hX9⟩, ⟨th, np, B, hB, hG⟩, hI, hsn⟩ := hI
  have hl := X.2.2.2.2.2.2
  have hI0 := hI.1
  have h100 := hX9.1.1
  have hkf : ∀ i, i < nk → kf i < nf := fun i hi => (hI.2.2.1 i hi).1
  obtain ⟨s1, e1, r1⟩ : ∃ z : Int, xs (5 * t + 1) = zI z ∧ inR z := ⟨_, zI_of _, inR_of _⟩
  refine r_aload_n X dL_law_1044 (by rfl) ?_
  refine r_aload_n X dL_law_1045 (by rfl) ?_
  refine r_iload X dL_law_1046 (by rfl) ?_
  refine r_iconst X dL_law_1048 rfl ?_
  refine r_iadd X dL_law_1049 ?_
  refine r_sld X hSX hSb hSA hSL (5 * t + 1) dL_law_1050 (by omega) (by omega) ?_
  rw [e1]
  refine r_aload_n X dL_law_1051 (by rfl) ?_
  refine r_callSW X dL_law_1052 sw_leftOf (c_wLeftOf g _ hl ad F f h60 h100 (zI s1) (c_leftOf g _ hl ad F _ _ _ _ _ _ _ _ ⟨ser, hX9⟩ s1 r1) (by decide) (fun v ad' F' h => ⟨⟨_, h.2.1⟩, by rw [h.2.2.2], by rw [h.2.2.1]⟩) (fun E ad' F' h => h.1.1)) (by rfl) (by rfl) (by exact Nat.le_of_ble_eq_true rfl) (by omega) (by decide) (by omega) (by omega) (fun v ad1 F1 hK => ?_)
  rcases hK with ⟨rfl, F2, x, f2, hK2, hF1⟩ | ⟨q, hq, hKX, rfl⟩
  · have h63 : F1 60000 = some (cJ g 1 (vp_updL f2 0 x.toInt64)) := by rw [hF1]; exact pu_s
    have hfr : ∀ y, y ≠ 60000 → F1 y = F2 y := fun y hy => by rw [hF1]; exact pu_n hy
    clear hF1
    obtain ⟨c1, hv, rfl, rfl⟩ := hK2
    cases hv
    have aa : ∀ x, (x ≤ 100 ∨ 40000 ≤ x) → ad x = ad x := fun _ _ => rfl
    have hF2 : ∀ x, (x < 100 ∨ 40000 ≤ x) → F x = F x := fun _ _ => rfl
    have hX2 := hX9
    have hX3 := hX2.frM (F' := F1) (fun y hy => hfr y (by omega))
    have hB3 := hB.fr (F' := F1) (ad' := ad) (fun y y1 y2 => (hfr y (by omega)).trans (hF2 y (by omega))) (fun y y1 y2 => aa y (by omega))
    refine r_istore X dL_law_1055 (by rw [hN]; decide) (by rfl) ?_
    dsimp only [List.set]
    refine r_aload_n X dL_law_1057 (by rfl) ?_
    refine r_aload_n X dL_law_1058 (by rfl) ?_
    refine r_iload X dL_law_1059 (by rfl) ?_
    refine r_iconst X dL_law_1061 rfl ?_
    refine r_iadd X dL_law_1062 ?_
    refine r_sld X hSX hSb hSA hSL (5 * t + 1) dL_law_1063 (by omega) (by omega) ?_
    rw [e1]
    refine r_callV X dL_law_1064 kL_150 (c_gLeftOf g _ hl ad F1 _ _ _ _ _ _ _ _ _ _ hB3 hG s1 r1 (by omega)) (hB3.1) (by rfl) (by rfl) (by rfl) (by rfl) (by exact Nat.le_of_ble_eq_true rfl) (by decide) (by decide) (by omega) (by omega) (fun v ad2 F4 hK4 => ?_)
    obtain ⟨rfl, hF4, hK4⟩ := hK4
    have h64 := (hF4 60000 (by omega)).trans h63
    have hX4 := hX3.frM (F' := F4) (fun y hy => hF4 y (by omega))
    rcases hK4 with ⟨q1, rfl, hM⟩ | ⟨n1, rfl, hM⟩
    · refine r_istore X dL_law_1067 (by rw [hN]; decide) (by rfl) ?_
      dsimp only [List.set]
      exact tl_leftOf X (by omega) (by omega) hM (by omega) h64 (fun _ => rfl) (r_widen (by omega) (by omega) (next ad F4 _ _ ⟨⟨rfl, rfl, rfl⟩, ⟨_, h64⟩, _, _, _, _, _, _, _, _, ⟨_, hX4⟩, ⟨_, hM⟩, hI.more ht, by omega⟩))
    · exact absurd c1 n1
  · simp only [List.mem_cons, List.not_mem_nil, or_false] at hq
    obtain rfl := hq
    obtain ⟨⟨-, m1⟩, rfl, rfl⟩ := hKX
    refine r_istore X dL_law_1055 (by rw [hN]; decide) (by rfl) ?_
    dsimp only [List.set]
    refine r_aload_n X dL_law_1057 (by rfl) ?_
    refine r_aload_n X dL_law_1058 (by rfl) ?_
    refine r_iload X dL_law_1059 (by rfl) ?_
    refine r_iconst X dL_law_1061 rfl ?_
    refine r_iadd X dL_law_1062 ?_
    refine r_sld X hSX hSb hSA hSL (5 * t + 1) dL_law_1063 (by omega) (by omega) ?_
    rw [e1]
    refine r_callV X dL_law_1064 kL_150 (c_gLeftOf g _ hl ad F _ _ _ _ _ _ _ _ _ _ hB hG s1 r1 (by omega)) (hB.1) (by rfl) (by rfl) (by rfl) (by rfl) (by exact Nat.le_of_ble_eq_true rfl) (by decide) (by decide) (by omega) (by omega) (fun v ad2 F4 hK4 => ?_)
    obtain ⟨rfl, hF4, hK4⟩ := hK4
    have h64 := (hF4 60000 (by omega)).trans h60
    have hX4 := hX9.frM (F' := F4) (fun y hy => hF4 y (by omega))
    rcases hK4 with ⟨q1, rfl, hM⟩ | ⟨n1, rfl, hM⟩
    · exact absurd q1 m1
    · refine r_istore X dL_law_1067 (by rw [hN]; decide) (by rfl) ?_
      dsimp only [List.set]
      exact tl_leftOf X (by omega) (by omega) hM (by omega) h64 (fun z => absurd z (by decide)) (r_widen (by omega) (by omega) (next ad F4 _ _ ⟨⟨rfl, rfl, rfl⟩, ⟨_, h64⟩, _, _, _, _, _, _, _, _, ⟨_, hX4⟩, ⟨_, hM⟩, hI.more ht, by omega⟩))
set_option maxRecDepth 100000 in
set_option maxHeartbeats 4000000 in
theorem sw_untilOf : WSw RL 151 yL_untilOf cL_untilOf 4 (some .int) [(0, 9, 12, 21)] 3 := ⟨⟨cw_untilOf, w0, ⟨by decide, by decide⟩, by decide +kernel, ww 1004 rfl rfl⟩, ww 1005 rfl rfl⟩
set_option maxRecDepth 100000 in
set_option maxHeartbeats 4000000 in
theorem tl_untilOf {M : Mx} {g : Gx} {mc ms : Nat} {K : Option Value → (Nat → Nat) → Pic → Prop} (X : Cx M g yL_law cL_law (some .boolean) 840 mc ms [] K noX) {ad : Nat → Nat} {F : Pic} {kc ks : Nat} (hkc : kc ≤ mc) (hks : ks ≤ ms) {td : Int} {nf nk nc : Nat} {A P : Nat → Nat → Int} {kf : Nat → Nat} {k : Int} (hM : MG g ad F td nf nk nc A P kf k) (hk : 0 ≤ k ∧ k ≤ 9) {bb : Int32} {f9 : Nat → Int64} (h60 : F 60000 = some (cJ g 1 f9)) (he : k = 0 → f9 0 = bb.toInt64) {v0 v1 v4 : Option Value} (next : V M g ad F kc ks 1474 [v0, v1, some (.ref (ad 50000)), some (.ref (ad 60000)), v4, some (.int (zI k)), some (.int bb)] []) : V M g ad F kc ks 1125 [v0, v1, some (.ref (ad 50000)), some (.ref (ad 60000)), v4, some (.int (zI k)), some (.int bb)] [] := by
  obtain ⟨np, B, hB, hG⟩ := hM
  have hl := X.2.2.2.2.2.2
  refine r_aload_n X dL_law_1125 (by rfl) ?_
  refine r_callV X dL_law_1126 kL_89 (c_mThrown g _ hl ad F _ _ _ _ _ _ _ hB) (hB.1) (by rfl) (by rfl) (by rfl) (by rfl) (by exact Nat.le_of_ble_eq_true rfl) (by decide) (by decide) (by omega) (by omega) (fun v ad' F' hK => ?_)
  obtain ⟨rfl, rfl, rfl⟩ := hK
  refine r_iload X dL_law_1129 (by rfl) ?_
  refine r_same X 1136 dL_law_1131 (by decide) ?_
  refine r_iload X dL_law_1136 (by rfl) ?_
  refine r_if_ne X 1153 dL_law_1138 (by decide) (by unfold inR; omega) (fun q => ?_) (fun q => ?_)
  · refine r_goto X dL_law_1153 1474 (by decide) ?_
    exact next
  · refine r_aload_n X dL_law_1141 (by rfl) ?_
    refine r_iconst X dL_law_1142 rfl ?_
    refine r_lald X 0 dL_law_1143 (h60) (by rfl) (by omega) (by first | decide | omega) ?_
    rw [he q]
    refine r_iload X dL_law_1144 (by rfl) ?_
    refine r_i2lG X dL_law_1146 ?_
    refine r_lcmpE X dL_law_1147 ?_
    refine r_if_eq X 1153 dL_law_1148 (by decide) (by unfold inR; omega) (fun q2 => ?_) (fun q2 => ?_)
    · refine r_goto X dL_law_1153 1474 (by decide) ?_
      exact next
    · exact absurd rfl q2
set_option maxRecDepth 100000 in
set_option maxHeartbeats 4000000 in
theorem st_untilOf {M : Mx} {g : Gx} {mc ms : Nat} {K : Option Value → (Nat → Nat) → Pic → Prop} (X : Cx M g yL_law cL_law (some .boolean) 840 mc ms [] K noX) (hN : mN M = 7) {b L : Nat} {xs : Nat → Int32} (hSX : va_X b L xs (mS M) (mS M).heap) (hSb : b < (mS M).heap.size) (hSA : ¬ gA g b) (hSL : L ≤ 2560) {a1 a5 a6 : Nat} {ad : Nat → Nat} {F : Pic} {t : Nat} (ht : t < 512) (h5 : 5 * t + 5 ≤ L) (hI : INV g a1 a5 a6 ad F t) {kc ks : Nat} (hkc : kc + 32 ≤ mc) (hks : ks + 1000 ≤ ms) {o5 o6 : Option Value} (next : ∀ (ad' : Nat → Nat) (F' : Pic) (o5 o6 : Option Value), INV g a1 a5 a6 ad' F' (t + 1) → V M g ad' F' (kc + 32) (ks + 1000) 1474 [some (.ref b), some (.ref a1), some (.ref a5), some (.ref a6), some (.int (zI ((5 * t : Nat) : Int))), o5, o6] []) : V M g ad F kc ks 1100 [some (.ref b), some (.ref a1), some (.ref a5), some (.ref a6), some (.int (zI ((5 * t : Nat) : Int))), o5, o6] [] := by
  obtain ⟨⟨rfl, rfl, rfl⟩, ⟨f, h60⟩, td, nf, nk, nc, A, P, kf, sn, ⟨ser, hX9⟩, ⟨th, np, B, hB, hG⟩, hI, hsn⟩ := hI
  have hl := X.2.2.2.2.2.2
  have hI0 := hI.1
  have h100 := hX9.1.1
  have hkf : ∀ i, i < nk → kf i < nf := fun i hi => (hI.2.2.1 i hi).1
  obtain ⟨s1, e1, r1⟩ : ∃ z : Int, xs (5 * t + 1) = zI z ∧ inR z := ⟨_, zI_of _, inR_of _⟩
  refine r_aload_n X dL_law_1100 (by rfl) ?_
  refine r_aload_n X dL_law_1101 (by rfl) ?_
  refine r_iload X dL_law_1102 (by rfl) ?_
  refine r_iconst X dL_law_1104 rfl ?_
  refine r_iadd X dL_law_1105 ?_
  refine r_sld X hSX hSb hSA hSL (5 * t + 1) dL_law_1106 (by omega) (by omega) ?_
  rw [e1]
  refine r_aload_n X dL_law_1107 (by rfl) ?_
  refine r_callSW X dL_law_1108 sw_untilOf (c_wUntilOf g _ hl ad F f h60 h100 (zI s1) (c_untilOf g _ hl ad F _ _ _ _ _ _ _ _ ⟨ser, hX9⟩ s1 r1) (by decide) (fun v ad' F' h => ⟨⟨_, h.2.1⟩, by rw [h.2.2.2], by rw [h.2.2.1]⟩) (fun E ad' F' h => h.1.1)) (by rfl) (by rfl) (by exact Nat.le_of_ble_eq_true rfl) (by omega) (by decide) (by omega) (by omega) (fun v ad1 F1 hK => ?_)
  rcases hK with ⟨rfl, F2, x, f2, hK2, hF1⟩ | ⟨q, hq, hKX, rfl⟩
  · have h63 : F1 60000 = some (cJ g 1 (vp_updL f2 0 x.toInt64)) := by rw [hF1]; exact pu_s
    have hfr : ∀ y, y ≠ 60000 → F1 y = F2 y := fun y hy => by rw [hF1]; exact pu_n hy
    clear hF1
    obtain ⟨c1, hv, rfl, rfl⟩ := hK2
    cases hv
    have aa : ∀ x, (x ≤ 100 ∨ 40000 ≤ x) → ad x = ad x := fun _ _ => rfl
    have hF2 : ∀ x, (x < 100 ∨ 40000 ≤ x) → F x = F x := fun _ _ => rfl
    have hX2 := hX9
    have hX3 := hX2.frM (F' := F1) (fun y hy => hfr y (by omega))
    have hB3 := hB.fr (F' := F1) (ad' := ad) (fun y y1 y2 => (hfr y (by omega)).trans (hF2 y (by omega))) (fun y y1 y2 => aa y (by omega))
    refine r_istore X dL_law_1111 (by rw [hN]; decide) (by rfl) ?_
    dsimp only [List.set]
    refine r_aload_n X dL_law_1113 (by rfl) ?_
    refine r_aload_n X dL_law_1114 (by rfl) ?_
    refine r_iload X dL_law_1115 (by rfl) ?_
    refine r_iconst X dL_law_1117 rfl ?_
    refine r_iadd X dL_law_1118 ?_
    refine r_sld X hSX hSb hSA hSL (5 * t + 1) dL_law_1119 (by omega) (by omega) ?_
    rw [e1]
    refine r_callV X dL_law_1120 kL_153 (c_gUntilOf g _ hl ad F1 _ _ _ _ _ _ _ _ _ _ hB3 hG s1 r1 (by omega)) (hB3.1) (by rfl) (by rfl) (by rfl) (by rfl) (by exact Nat.le_of_ble_eq_true rfl) (by decide) (by decide) (by omega) (by omega) (fun v ad2 F4 hK4 => ?_)
    obtain ⟨rfl, hF4, hK4⟩ := hK4
    have h64 := (hF4 60000 (by omega)).trans h63
    have hX4 := hX3.frM (F' := F4) (fun y hy => hF4 y (by omega))
    rcases hK4 with ⟨q1, rfl, hM⟩ | ⟨n1, rfl, hM⟩
    · refine r_istore X dL_law_1123 (by rw [hN]; decide) (by rfl) ?_
      dsimp only [List.set]
      exact tl_untilOf X (by omega) (by omega) hM (by omega) h64 (fun _ => rfl) (r_widen (by omega) (by omega) (next ad F4 _ _ ⟨⟨rfl, rfl, rfl⟩, ⟨_, h64⟩, _, _, _, _, _, _, _, _, ⟨_, hX4⟩, ⟨_, hM⟩, hI.more ht, by omega⟩))
    · exact absurd c1 n1
  · simp only [List.mem_cons, List.not_mem_nil, or_false] at hq
    obtain rfl := hq
    obtain ⟨⟨-, m1⟩, rfl, rfl⟩ := hKX
    refine r_istore X dL_law_1111 (by rw [hN]; decide) (by rfl) ?_
    dsimp only [List.set]
    refine r_aload_n X dL_law_1113 (by rfl) ?_
    refine r_aload_n X dL_law_1114 (by rfl) ?_
    refine r_iload X dL_law_1115 (by rfl) ?_
    refine r_iconst X dL_law_1117 rfl ?_
    refine r_iadd X dL_law_1118 ?_
    refine r_sld X hSX hSb hSA hSL (5 * t + 1) dL_law_1119 (by omega) (by omega) ?_
    rw [e1]
    refine r_callV X dL_law_1120 kL_153 (c_gUntilOf g _ hl ad F _ _ _ _ _ _ _ _ _ _ hB hG s1 r1 (by omega)) (hB.1) (by rfl) (by rfl) (by rfl) (by rfl) (by exact Nat.le_of_ble_eq_true rfl) (by decide) (by decide) (by omega) (by omega) (fun v ad2 F4 hK4 => ?_)
    obtain ⟨rfl, hF4, hK4⟩ := hK4
    have h64 := (hF4 60000 (by omega)).trans h60
    have hX4 := hX9.frM (F' := F4) (fun y hy => hF4 y (by omega))
    rcases hK4 with ⟨q1, rfl, hM⟩ | ⟨n1, rfl, hM⟩
    · exact absurd q1 m1
    · refine r_istore X dL_law_1123 (by rw [hN]; decide) (by rfl) ?_
      dsimp only [List.set]
      exact tl_untilOf X (by omega) (by omega) hM (by omega) h64 (fun z => absurd z (by decide)) (r_widen (by omega) (by omega) (next ad F4 _ _ ⟨⟨rfl, rfl, rfl⟩, ⟨_, h64⟩, _, _, _, _, _, _, _, _, ⟨_, hX4⟩, ⟨_, hM⟩, hI.more ht, by omega⟩))
set_option maxRecDepth 100000 in
set_option maxHeartbeats 4000000 in
theorem sw_unpaidOf : WSw RL 158 yL_unpaidOf cL_unpaidOf 4 (some .int) [(0, 9, 12, 21)] 3 := ⟨⟨cw_unpaidOf, w0, ⟨by decide, by decide⟩, by decide +kernel, ww 1011 rfl rfl⟩, ww 1012 rfl rfl⟩
set_option maxRecDepth 100000 in
set_option maxHeartbeats 4000000 in
theorem tl_unpaidOf {M : Mx} {g : Gx} {mc ms : Nat} {K : Option Value → (Nat → Nat) → Pic → Prop} (X : Cx M g yL_law cL_law (some .boolean) 840 mc ms [] K noX) {ad : Nat → Nat} {F : Pic} {kc ks : Nat} (hkc : kc ≤ mc) (hks : ks ≤ ms) {td : Int} {nf nk nc : Nat} {A P : Nat → Nat → Int} {kf : Nat → Nat} {k : Int} (hM : MG g ad F td nf nk nc A P kf k) (hk : 0 ≤ k ∧ k ≤ 9) {bb : Int32} {f9 : Nat → Int64} (h60 : F 60000 = some (cJ g 1 f9)) (he : k = 0 → f9 0 = bb.toInt64) {v0 v1 v4 : Option Value} (next : V M g ad F kc ks 1474 [v0, v1, some (.ref (ad 50000)), some (.ref (ad 60000)), v4, some (.int (zI k)), some (.int bb)] []) : V M g ad F kc ks 1194 [v0, v1, some (.ref (ad 50000)), some (.ref (ad 60000)), v4, some (.int (zI k)), some (.int bb)] [] := by
  obtain ⟨np, B, hB, hG⟩ := hM
  have hl := X.2.2.2.2.2.2
  refine r_aload_n X dL_law_1194 (by rfl) ?_
  refine r_callV X dL_law_1195 kL_89 (c_mThrown g _ hl ad F _ _ _ _ _ _ _ hB) (hB.1) (by rfl) (by rfl) (by rfl) (by rfl) (by exact Nat.le_of_ble_eq_true rfl) (by decide) (by decide) (by omega) (by omega) (fun v ad' F' hK => ?_)
  obtain ⟨rfl, rfl, rfl⟩ := hK
  refine r_iload X dL_law_1198 (by rfl) ?_
  refine r_same X 1205 dL_law_1200 (by decide) ?_
  refine r_iload X dL_law_1205 (by rfl) ?_
  refine r_if_ne X 1222 dL_law_1207 (by decide) (by unfold inR; omega) (fun q => ?_) (fun q => ?_)
  · refine r_goto X dL_law_1222 1474 (by decide) ?_
    exact next
  · refine r_aload_n X dL_law_1210 (by rfl) ?_
    refine r_iconst X dL_law_1211 rfl ?_
    refine r_lald X 0 dL_law_1212 (h60) (by rfl) (by omega) (by first | decide | omega) ?_
    rw [he q]
    refine r_iload X dL_law_1213 (by rfl) ?_
    refine r_i2lG X dL_law_1215 ?_
    refine r_lcmpE X dL_law_1216 ?_
    refine r_if_eq X 1222 dL_law_1217 (by decide) (by unfold inR; omega) (fun q2 => ?_) (fun q2 => ?_)
    · refine r_goto X dL_law_1222 1474 (by decide) ?_
      exact next
    · exact absurd rfl q2
set_option maxRecDepth 100000 in
set_option maxHeartbeats 4000000 in
theorem st_unpaidOf {M : Mx} {g : Gx} {mc ms : Nat} {K : Option Value → (Nat → Nat) → Pic → Prop} (X : Cx M g yL_law cL_law (some .boolean) 840 mc ms [] K noX) (hN : mN M = 7) {b L : Nat} {xs : Nat → Int32} (hSX : va_X b L xs (mS M) (mS M).heap) (hSb : b < (mS M).heap.size) (hSA : ¬ gA g b) (hSL : L ≤ 2560) {a1 a5 a6 : Nat} {ad : Nat → Nat} {F : Pic} {t : Nat} (ht : t < 512) (h5 : 5 * t + 5 ≤ L) (hI : INV g a1 a5 a6 ad F t) {kc ks : Nat} (hkc : kc + 32 ≤ mc) (hks : ks + 1000 ≤ ms) {o5 o6 : Option Value} (next : ∀ (ad' : Nat → Nat) (F' : Pic) (o5 o6 : Option Value), INV g a1 a5 a6 ad' F' (t + 1) → V M g ad' F' (kc + 32) (ks + 1000) 1474 [some (.ref b), some (.ref a1), some (.ref a5), some (.ref a6), some (.int (zI ((5 * t : Nat) : Int))), o5, o6] []) : V M g ad F kc ks 1169 [some (.ref b), some (.ref a1), some (.ref a5), some (.ref a6), some (.int (zI ((5 * t : Nat) : Int))), o5, o6] [] := by
  obtain ⟨⟨rfl, rfl, rfl⟩, ⟨f, h60⟩, td, nf, nk, nc, A, P, kf, sn, ⟨ser, hX9⟩, ⟨th, np, B, hB, hG⟩, hI, hsn⟩ := hI
  have hl := X.2.2.2.2.2.2
  have hI0 := hI.1
  have h100 := hX9.1.1
  have hkf : ∀ i, i < nk → kf i < nf := fun i hi => (hI.2.2.1 i hi).1
  obtain ⟨s1, e1, r1⟩ : ∃ z : Int, xs (5 * t + 1) = zI z ∧ inR z := ⟨_, zI_of _, inR_of _⟩
  refine r_aload_n X dL_law_1169 (by rfl) ?_
  refine r_aload_n X dL_law_1170 (by rfl) ?_
  refine r_iload X dL_law_1171 (by rfl) ?_
  refine r_iconst X dL_law_1173 rfl ?_
  refine r_iadd X dL_law_1174 ?_
  refine r_sld X hSX hSb hSA hSL (5 * t + 1) dL_law_1175 (by omega) (by omega) ?_
  rw [e1]
  refine r_aload_n X dL_law_1176 (by rfl) ?_
  refine r_callSW X dL_law_1177 sw_unpaidOf (c_wUnpaidOf g _ hl ad F f h60 h100 (zI s1) (c_unpaidOf g _ hl ad F _ _ _ _ _ _ _ _ ⟨ser, hX9⟩ s1 r1) (by decide) (fun v ad' F' h => ⟨⟨_, h.2.1⟩, by rw [h.2.2.2], by rw [h.2.2.1]⟩) (fun E ad' F' h => h.1.1)) (by rfl) (by rfl) (by exact Nat.le_of_ble_eq_true rfl) (by omega) (by decide) (by omega) (by omega) (fun v ad1 F1 hK => ?_)
  rcases hK with ⟨rfl, F2, x, f2, hK2, hF1⟩ | ⟨q, hq, hKX, rfl⟩
  · have h63 : F1 60000 = some (cJ g 1 (vp_updL f2 0 x.toInt64)) := by rw [hF1]; exact pu_s
    have hfr : ∀ y, y ≠ 60000 → F1 y = F2 y := fun y hy => by rw [hF1]; exact pu_n hy
    clear hF1
    obtain ⟨c1, hv, rfl, rfl⟩ := hK2
    cases hv
    have aa : ∀ x, (x ≤ 100 ∨ 40000 ≤ x) → ad x = ad x := fun _ _ => rfl
    have hF2 : ∀ x, (x < 100 ∨ 40000 ≤ x) → F x = F x := fun _ _ => rfl
    have hX2 := hX9
    have hX3 := hX2.frM (F' := F1) (fun y hy => hfr y (by omega))
    have hB3 := hB.fr (F' := F1) (ad' := ad) (fun y y1 y2 => (hfr y (by omega)).trans (hF2 y (by omega))) (fun y y1 y2 => aa y (by omega))
    refine r_istore X dL_law_1180 (by rw [hN]; decide) (by rfl) ?_
    dsimp only [List.set]
    refine r_aload_n X dL_law_1182 (by rfl) ?_
    refine r_aload_n X dL_law_1183 (by rfl) ?_
    refine r_iload X dL_law_1184 (by rfl) ?_
    refine r_iconst X dL_law_1186 rfl ?_
    refine r_iadd X dL_law_1187 ?_
    refine r_sld X hSX hSb hSA hSL (5 * t + 1) dL_law_1188 (by omega) (by omega) ?_
    rw [e1]
    refine r_callV X dL_law_1189 kL_160 (c_gUnpaidOf g _ hl ad F1 _ _ _ _ _ _ _ _ _ _ hB3 hG s1 r1 (by omega)) (hB3.1) (by rfl) (by rfl) (by rfl) (by rfl) (by exact Nat.le_of_ble_eq_true rfl) (by decide) (by decide) (by omega) (by omega) (fun v ad2 F4 hK4 => ?_)
    obtain ⟨rfl, hF4, hK4⟩ := hK4
    have h64 := (hF4 60000 (by omega)).trans h63
    have hX4 := hX3.frM (F' := F4) (fun y hy => hF4 y (by omega))
    rcases hK4 with ⟨q1, rfl, hM⟩ | ⟨n1, rfl, hM⟩
    · refine r_istore X dL_law_1192 (by rw [hN]; decide) (by rfl) ?_
      dsimp only [List.set]
      exact tl_unpaidOf X (by omega) (by omega) hM (by omega) h64 (fun _ => rfl) (r_widen (by omega) (by omega) (next ad F4 _ _ ⟨⟨rfl, rfl, rfl⟩, ⟨_, h64⟩, _, _, _, _, _, _, _, _, ⟨_, hX4⟩, ⟨_, hM⟩, hI.more ht, by omega⟩))
    · exact absurd c1 n1
  · simp only [List.mem_cons, List.not_mem_nil, or_false] at hq
    obtain rfl := hq
    obtain ⟨⟨-, m1⟩, rfl, rfl⟩ := hKX
    refine r_istore X dL_law_1180 (by rw [hN]; decide) (by rfl) ?_
    dsimp only [List.set]
    refine r_aload_n X dL_law_1182 (by rfl) ?_
    refine r_aload_n X dL_law_1183 (by rfl) ?_
    refine r_iload X dL_law_1184 (by rfl) ?_
    refine r_iconst X dL_law_1186 rfl ?_
    refine r_iadd X dL_law_1187 ?_
    refine r_sld X hSX hSb hSA hSL (5 * t + 1) dL_law_1188 (by omega) (by omega) ?_
    rw [e1]
    refine r_callV X dL_law_1189 kL_160 (c_gUnpaidOf g _ hl ad F _ _ _ _ _ _ _ _ _ _ hB hG s1 r1 (by omega)) (hB.1) (by rfl) (by rfl) (by rfl) (by rfl) (by exact Nat.le_of_ble_eq_true rfl) (by decide) (by decide) (by omega) (by omega) (fun v ad2 F4 hK4 => ?_)
    obtain ⟨rfl, hF4, hK4⟩ := hK4
    have h64 := (hF4 60000 (by omega)).trans h60
    have hX4 := hX9.frM (F' := F4) (fun y hy => hF4 y (by omega))
    rcases hK4 with ⟨q1, rfl, hM⟩ | ⟨n1, rfl, hM⟩
    · exact absurd q1 m1
    · refine r_istore X dL_law_1192 (by rw [hN]; decide) (by rfl) ?_
      dsimp only [List.set]
      exact tl_unpaidOf X (by omega) (by omega) hM (by omega) h64 (fun z => absurd z (by decide)) (r_widen (by omega) (by omega) (next ad F4 _ _ ⟨⟨rfl, rfl, rfl⟩, ⟨_, h64⟩, _, _, _, _, _, _, _, _, ⟨_, hX4⟩, ⟨_, hM⟩, hI.more ht, by omega⟩))
set_option maxRecDepth 100000 in
set_option maxHeartbeats 4000000 in
theorem sw_paidBy : WSw RL 161 yL_paidBy cL_paidBy 5 (some .int) [(0, 10, 13, 21)] 4 := ⟨⟨cw_paidBy, w0, ⟨by decide, by decide⟩, by decide +kernel, ww 1023 rfl rfl⟩, ww 1024 rfl rfl⟩
set_option maxRecDepth 100000 in
set_option maxHeartbeats 4000000 in
theorem tl_paidBy {M : Mx} {g : Gx} {mc ms : Nat} {K : Option Value → (Nat → Nat) → Pic → Prop} (X : Cx M g yL_law cL_law (some .boolean) 840 mc ms [] K noX) {ad : Nat → Nat} {F : Pic} {kc ks : Nat} (hkc : kc ≤ mc) (hks : ks ≤ ms) {td : Int} {nf nk nc : Nat} {A P : Nat → Nat → Int} {kf : Nat → Nat} {k : Int} (hM : MG g ad F td nf nk nc A P kf k) (hk : 0 ≤ k ∧ k ≤ 9) {bb : Int32} {f9 : Nat → Int64} (h60 : F 60000 = some (cJ g 1 f9)) (he : k = 0 → f9 0 = bb.toInt64) {v0 v1 v4 : Option Value} (next : V M g ad F kc ks 1474 [v0, v1, some (.ref (ad 50000)), some (.ref (ad 60000)), v4, some (.int (zI k)), some (.int bb)] []) : V M g ad F kc ks 1262 [v0, v1, some (.ref (ad 50000)), some (.ref (ad 60000)), v4, some (.int (zI k)), some (.int bb)] [] := by
  obtain ⟨np, B, hB, hG⟩ := hM
  have hl := X.2.2.2.2.2.2
  refine r_aload_n X dL_law_1262 (by rfl) ?_
  refine r_callV X dL_law_1263 kL_89 (c_mThrown g _ hl ad F _ _ _ _ _ _ _ hB) (hB.1) (by rfl) (by rfl) (by rfl) (by rfl) (by exact Nat.le_of_ble_eq_true rfl) (by decide) (by decide) (by omega) (by omega) (fun v ad' F' hK => ?_)
  obtain ⟨rfl, rfl, rfl⟩ := hK
  refine r_iload X dL_law_1266 (by rfl) ?_
  refine r_same X 1273 dL_law_1268 (by decide) ?_
  refine r_iload X dL_law_1273 (by rfl) ?_
  refine r_if_ne X 1290 dL_law_1275 (by decide) (by unfold inR; omega) (fun q => ?_) (fun q => ?_)
  · refine r_goto X dL_law_1290 1474 (by decide) ?_
    exact next
  · refine r_aload_n X dL_law_1278 (by rfl) ?_
    refine r_iconst X dL_law_1279 rfl ?_
    refine r_lald X 0 dL_law_1280 (h60) (by rfl) (by omega) (by first | decide | omega) ?_
    rw [he q]
    refine r_iload X dL_law_1281 (by rfl) ?_
    refine r_i2lG X dL_law_1283 ?_
    refine r_lcmpE X dL_law_1284 ?_
    refine r_if_eq X 1290 dL_law_1285 (by decide) (by unfold inR; omega) (fun q2 => ?_) (fun q2 => ?_)
    · refine r_goto X dL_law_1290 1474 (by decide) ?_
      exact next
    · exact absurd rfl q2
set_option maxRecDepth 100000 in
set_option maxHeartbeats 4000000 in
theorem st_paidBy {M : Mx} {g : Gx} {mc ms : Nat} {K : Option Value → (Nat → Nat) → Pic → Prop} (X : Cx M g yL_law cL_law (some .boolean) 840 mc ms [] K noX) (hN : mN M = 7) {b L : Nat} {xs : Nat → Int32} (hSX : va_X b L xs (mS M) (mS M).heap) (hSb : b < (mS M).heap.size) (hSA : ¬ gA g b) (hSL : L ≤ 2560) {a1 a5 a6 : Nat} {ad : Nat → Nat} {F : Pic} {t : Nat} (ht : t < 512) (h5 : 5 * t + 5 ≤ L) (hI : INV g a1 a5 a6 ad F t) {kc ks : Nat} (hkc : kc + 32 ≤ mc) (hks : ks + 1000 ≤ ms) {o5 o6 : Option Value} (next : ∀ (ad' : Nat → Nat) (F' : Pic) (o5 o6 : Option Value), INV g a1 a5 a6 ad' F' (t + 1) → V M g ad' F' (kc + 32) (ks + 1000) 1474 [some (.ref b), some (.ref a1), some (.ref a5), some (.ref a6), some (.int (zI ((5 * t : Nat) : Int))), o5, o6] []) : V M g ad F kc ks 1225 [some (.ref b), some (.ref a1), some (.ref a5), some (.ref a6), some (.int (zI ((5 * t : Nat) : Int))), o5, o6] [] := by
  obtain ⟨⟨rfl, rfl, rfl⟩, ⟨f, h60⟩, td, nf, nk, nc, A, P, kf, sn, ⟨ser, hX9⟩, ⟨th, np, B, hB, hG⟩, hI, hsn⟩ := hI
  have hl := X.2.2.2.2.2.2
  have hI0 := hI.1
  have h100 := hX9.1.1
  have hkf : ∀ i, i < nk → kf i < nf := fun i hi => (hI.2.2.1 i hi).1
  obtain ⟨s1, e1, r1⟩ : ∃ z : Int, xs (5 * t + 1) = zI z ∧ inR z := ⟨_, zI_of _, inR_of _⟩
  obtain ⟨s2, e2, r2⟩ : ∃ z : Int, xs (5 * t + 2) = zI z ∧ inR z := ⟨_, zI_of _, inR_of _⟩
  refine r_aload_n X dL_law_1225 (by rfl) ?_
  refine r_aload_n X dL_law_1226 (by rfl) ?_
  refine r_iload X dL_law_1227 (by rfl) ?_
  refine r_iconst X dL_law_1229 rfl ?_
  refine r_iadd X dL_law_1230 ?_
  refine r_sld X hSX hSb hSA hSL (5 * t + 1) dL_law_1231 (by omega) (by omega) ?_
  rw [e1]
  refine r_aload_n X dL_law_1232 (by rfl) ?_
  refine r_iload X dL_law_1233 (by rfl) ?_
  refine r_iconst X dL_law_1235 rfl ?_
  refine r_iadd X dL_law_1236 ?_
  refine r_sld X hSX hSb hSA hSL (5 * t + 2) dL_law_1237 (by omega) (by omega) ?_
  rw [e2]
  refine r_aload_n X dL_law_1238 (by rfl) ?_
  refine r_callSW X dL_law_1239 sw_paidBy (c_wPaidBy g _ hl ad F f h60 h100 (zI s1) (zI s2) (c_paidBy g _ hl ad F _ _ _ _ _ _ _ _ ⟨ser, hX9⟩ s1 s2 r1 r2) (by decide) (fun v ad' F' h => ⟨⟨_, h.2.1⟩, by rw [h.2.2.2], by rw [h.2.2.1]⟩) (fun E ad' F' h => h.1.1)) (by rfl) (by rfl) (by exact Nat.le_of_ble_eq_true rfl) (by omega) (by decide) (by omega) (by omega) (fun v ad1 F1 hK => ?_)
  rcases hK with ⟨rfl, F2, x, f2, hK2, hF1⟩ | ⟨q, hq, hKX, rfl⟩
  · have h63 : F1 60000 = some (cJ g 1 (vp_updL f2 0 x.toInt64)) := by rw [hF1]; exact pu_s
    have hfr : ∀ y, y ≠ 60000 → F1 y = F2 y := fun y hy => by rw [hF1]; exact pu_n hy
    clear hF1
    obtain ⟨c1, hv, rfl, rfl⟩ := hK2
    cases hv
    have aa : ∀ x, (x ≤ 100 ∨ 40000 ≤ x) → ad x = ad x := fun _ _ => rfl
    have hF2 : ∀ x, (x < 100 ∨ 40000 ≤ x) → F x = F x := fun _ _ => rfl
    have hX2 := hX9
    have hX3 := hX2.frM (F' := F1) (fun y hy => hfr y (by omega))
    have hB3 := hB.fr (F' := F1) (ad' := ad) (fun y y1 y2 => (hfr y (by omega)).trans (hF2 y (by omega))) (fun y y1 y2 => aa y (by omega))
    refine r_istore X dL_law_1242 (by rw [hN]; decide) (by rfl) ?_
    dsimp only [List.set]
    refine r_aload_n X dL_law_1244 (by rfl) ?_
    refine r_aload_n X dL_law_1245 (by rfl) ?_
    refine r_iload X dL_law_1246 (by rfl) ?_
    refine r_iconst X dL_law_1248 rfl ?_
    refine r_iadd X dL_law_1249 ?_
    refine r_sld X hSX hSb hSA hSL (5 * t + 1) dL_law_1250 (by omega) (by omega) ?_
    rw [e1]
    refine r_aload_n X dL_law_1251 (by rfl) ?_
    refine r_iload X dL_law_1252 (by rfl) ?_
    refine r_iconst X dL_law_1254 rfl ?_
    refine r_iadd X dL_law_1255 ?_
    refine r_sld X hSX hSb hSA hSL (5 * t + 2) dL_law_1256 (by omega) (by omega) ?_
    rw [e2]
    refine r_callV X dL_law_1257 kL_163 (c_mPaidBy g _ hl ad F1 _ _ _ _ _ _ _ _ _ _ hB3 hG t hI s1 s2 r1 r2) (hB3.1) (by rfl) (by rfl) (by rfl) (by rfl) (by exact Nat.le_of_ble_eq_true rfl) (by decide) (by decide) (by omega) (by omega) (fun v ad2 F4 hK4 => ?_)
    obtain ⟨rfl, hF4, hK4⟩ := hK4
    have h64 := (hF4 60000 (by omega)).trans h63
    have hX4 := hX3.frM (F' := F4) (fun y hy => hF4 y (by omega))
    rcases hK4 with ⟨q1, rfl, hM⟩ | ⟨n1, rfl, hM⟩
    · refine r_istore X dL_law_1260 (by rw [hN]; decide) (by rfl) ?_
      dsimp only [List.set]
      exact tl_paidBy X (by omega) (by omega) hM (by omega) h64 (fun _ => rfl) (r_widen (by omega) (by omega) (next ad F4 _ _ ⟨⟨rfl, rfl, rfl⟩, ⟨_, h64⟩, _, _, _, _, _, _, _, _, ⟨_, hX4⟩, ⟨_, hM⟩, hI.more ht, by omega⟩))
    · exact absurd c1 n1
  · simp only [List.mem_cons, List.not_mem_nil, or_false] at hq
    obtain rfl := hq
    obtain ⟨⟨-, m1⟩, rfl, rfl⟩ := hKX
    refine r_istore X dL_law_1242 (by rw [hN]; decide) (by rfl) ?_
    dsimp only [List.set]
    refine r_aload_n X dL_law_1244 (by rfl) ?_
    refine r_aload_n X dL_law_1245 (by rfl) ?_
    refine r_iload X dL_law_1246 (by rfl) ?_
    refine r_iconst X dL_law_1248 rfl ?_
    refine r_iadd X dL_law_1249 ?_
    refine r_sld X hSX hSb hSA hSL (5 * t + 1) dL_law_1250 (by omega) (by omega) ?_
    rw [e1]
    refine r_aload_n X dL_law_1251 (by rfl) ?_
    refine r_iload X dL_law_1252 (by rfl) ?_
    refine r_iconst X dL_law_1254 rfl ?_
    refine r_iadd X dL_law_1255 ?_
    refine r_sld X hSX hSb hSA hSL (5 * t + 2) dL_law_1256 (by omega) (by omega) ?_
    rw [e2]
    refine r_callV X dL_law_1257 kL_163 (c_mPaidBy g _ hl ad F _ _ _ _ _ _ _ _ _ _ hB hG t hI s1 s2 r1 r2) (hB.1) (by rfl) (by rfl) (by rfl) (by rfl) (by exact Nat.le_of_ble_eq_true rfl) (by decide) (by decide) (by omega) (by omega) (fun v ad2 F4 hK4 => ?_)
    obtain ⟨rfl, hF4, hK4⟩ := hK4
    have h64 := (hF4 60000 (by omega)).trans h60
    have hX4 := hX9.frM (F' := F4) (fun y hy => hF4 y (by omega))
    rcases hK4 with ⟨q1, rfl, hM⟩ | ⟨n1, rfl, hM⟩
    · exact absurd q1 m1
    · refine r_istore X dL_law_1260 (by rw [hN]; decide) (by rfl) ?_
      dsimp only [List.set]
      exact tl_paidBy X (by omega) (by omega) hM (by omega) h64 (fun z => absurd z (by decide)) (r_widen (by omega) (by omega) (next ad F4 _ _ ⟨⟨rfl, rfl, rfl⟩, ⟨_, h64⟩, _, _, _, _, _, _, _, _, ⟨_, hX4⟩, ⟨_, hM⟩, hI.more ht, by omega⟩))
set_option maxRecDepth 100000 in
set_option maxHeartbeats 4000000 in
theorem sw_wouldPay : WSw RL 168 yL_wouldPay cL_wouldPay 4 (some .int) [(0, 9, 12, 21)] 3 := ⟨⟨cw_wouldPay, w0, ⟨by decide, by decide⟩, by decide +kernel, ww 1034 rfl rfl⟩, ww 1035 rfl rfl⟩
set_option maxRecDepth 100000 in
set_option maxHeartbeats 4000000 in
theorem tl_wouldPay {M : Mx} {g : Gx} {mc ms : Nat} {K : Option Value → (Nat → Nat) → Pic → Prop} (X : Cx M g yL_law cL_law (some .boolean) 840 mc ms [] K noX) {ad : Nat → Nat} {F : Pic} {kc ks : Nat} (hkc : kc ≤ mc) (hks : ks ≤ ms) {td : Int} {nf nk nc : Nat} {A P : Nat → Nat → Int} {kf : Nat → Nat} {k : Int} (hM : MG g ad F td nf nk nc A P kf k) (hk : 0 ≤ k ∧ k ≤ 9) {bb : Int32} {f9 : Nat → Int64} (h60 : F 60000 = some (cJ g 1 f9)) (he : k = 0 → f9 0 = bb.toInt64) {v0 v1 v4 : Option Value} (next : V M g ad F kc ks 1474 [v0, v1, some (.ref (ad 50000)), some (.ref (ad 60000)), v4, some (.int (zI k)), some (.int bb)] []) : V M g ad F kc ks 1331 [v0, v1, some (.ref (ad 50000)), some (.ref (ad 60000)), v4, some (.int (zI k)), some (.int bb)] [] := by
  obtain ⟨np, B, hB, hG⟩ := hM
  have hl := X.2.2.2.2.2.2
  refine r_aload_n X dL_law_1331 (by rfl) ?_
  refine r_callV X dL_law_1332 kL_89 (c_mThrown g _ hl ad F _ _ _ _ _ _ _ hB) (hB.1) (by rfl) (by rfl) (by rfl) (by rfl) (by exact Nat.le_of_ble_eq_true rfl) (by decide) (by decide) (by omega) (by omega) (fun v ad' F' hK => ?_)
  obtain ⟨rfl, rfl, rfl⟩ := hK
  refine r_iload X dL_law_1335 (by rfl) ?_
  refine r_same X 1342 dL_law_1337 (by decide) ?_
  refine r_iload X dL_law_1342 (by rfl) ?_
  refine r_if_ne X 1359 dL_law_1344 (by decide) (by unfold inR; omega) (fun q => ?_) (fun q => ?_)
  · refine r_goto X dL_law_1359 1474 (by decide) ?_
    exact next
  · refine r_aload_n X dL_law_1347 (by rfl) ?_
    refine r_iconst X dL_law_1348 rfl ?_
    refine r_lald X 0 dL_law_1349 (h60) (by rfl) (by omega) (by first | decide | omega) ?_
    rw [he q]
    refine r_iload X dL_law_1350 (by rfl) ?_
    refine r_i2lG X dL_law_1352 ?_
    refine r_lcmpE X dL_law_1353 ?_
    refine r_if_eq X 1359 dL_law_1354 (by decide) (by unfold inR; omega) (fun q2 => ?_) (fun q2 => ?_)
    · refine r_goto X dL_law_1359 1474 (by decide) ?_
      exact next
    · exact absurd rfl q2
set_option maxRecDepth 100000 in
set_option maxHeartbeats 4000000 in
theorem st_wouldPay {M : Mx} {g : Gx} {mc ms : Nat} {K : Option Value → (Nat → Nat) → Pic → Prop} (X : Cx M g yL_law cL_law (some .boolean) 840 mc ms [] K noX) (hN : mN M = 7) {b L : Nat} {xs : Nat → Int32} (hSX : va_X b L xs (mS M) (mS M).heap) (hSb : b < (mS M).heap.size) (hSA : ¬ gA g b) (hSL : L ≤ 2560) {a1 a5 a6 : Nat} {ad : Nat → Nat} {F : Pic} {t : Nat} (ht : t < 512) (h5 : 5 * t + 5 ≤ L) (hI : INV g a1 a5 a6 ad F t) {kc ks : Nat} (hkc : kc + 32 ≤ mc) (hks : ks + 1000 ≤ ms) {o5 o6 : Option Value} (next : ∀ (ad' : Nat → Nat) (F' : Pic) (o5 o6 : Option Value), INV g a1 a5 a6 ad' F' (t + 1) → V M g ad' F' (kc + 32) (ks + 1000) 1474 [some (.ref b), some (.ref a1), some (.ref a5), some (.ref a6), some (.int (zI ((5 * t : Nat) : Int))), o5, o6] []) : V M g ad F kc ks 1306 [some (.ref b), some (.ref a1), some (.ref a5), some (.ref a6), some (.int (zI ((5 * t : Nat) : Int))), o5, o6] [] := by
  obtain ⟨⟨rfl, rfl, rfl⟩, ⟨f, h60⟩, td, nf, nk, nc, A, P, kf, sn, ⟨ser, hX9⟩, ⟨th, np, B, hB, hG⟩, hI, hsn⟩ := hI
  have hl := X.2.2.2.2.2.2
  have hI0 := hI.1
  have h100 := hX9.1.1
  have hkf : ∀ i, i < nk → kf i < nf := fun i hi => (hI.2.2.1 i hi).1
  obtain ⟨s1, e1, r1⟩ : ∃ z : Int, xs (5 * t + 1) = zI z ∧ inR z := ⟨_, zI_of _, inR_of _⟩
  refine r_aload_n X dL_law_1306 (by rfl) ?_
  refine r_aload_n X dL_law_1307 (by rfl) ?_
  refine r_iload X dL_law_1308 (by rfl) ?_
  refine r_iconst X dL_law_1310 rfl ?_
  refine r_iadd X dL_law_1311 ?_
  refine r_sld X hSX hSb hSA hSL (5 * t + 1) dL_law_1312 (by omega) (by omega) ?_
  rw [e1]
  refine r_aload_n X dL_law_1313 (by rfl) ?_
  refine r_callSW X dL_law_1314 sw_wouldPay (c_wWouldPay g _ hl ad F f h60 h100 (zI s1) (c_wouldPay g _ hl ad F _ _ _ _ _ _ _ _ _ hX9 t hI s1 r1) (by decide) (fun v ad' F' h => ⟨by obtain ⟨_, _, _, _, pn, hv, _⟩ := h; exact ⟨_, hv⟩, h.2.2.1 60000 (by omega), h.2.1 60000 (by omega)⟩) (fun E ad' F' h => h.1.1)) (by rfl) (by rfl) (by exact Nat.le_of_ble_eq_true rfl) (by omega) (by decide) (by omega) (by omega) (fun v ad1 F1 hK => ?_)
  rcases hK with ⟨rfl, F2, x, f2, hK2, hF1⟩ | ⟨q, hq, hKX, rfl⟩
  · have h63 : F1 60000 = some (cJ g 1 (vp_updL f2 0 x.toInt64)) := by rw [hF1]; exact pu_s
    have hfr : ∀ y, y ≠ 60000 → F1 y = F2 y := fun y hy => by rw [hF1]; exact pu_n hy
    clear hF1
    obtain ⟨c1, aa, hF2, hX2, pn, hv, z1⟩ := hK2
    cases hv
    have hX3 := hX2.frM (F' := F1) (fun y hy => hfr y (by omega))
    have hB3 := hB.fr (F' := F1) (ad' := ad1) (fun y y1 y2 => (hfr y (by omega)).trans (hF2 y (by omega))) (fun y y1 y2 => aa y (by omega))
    rw [← aa 100 (by omega), ← aa 50000 (by omega), ← aa 60000 (by omega)] at next ⊢
    refine r_istore X dL_law_1317 (by rw [hN]; decide) (by rfl) ?_
    dsimp only [List.set]
    refine r_aload_n X dL_law_1319 (by rfl) ?_
    refine r_aload_n X dL_law_1320 (by rfl) ?_
    refine r_iload X dL_law_1321 (by rfl) ?_
    refine r_iconst X dL_law_1323 rfl ?_
    refine r_iadd X dL_law_1324 ?_
    refine r_sld X hSX hSb hSA hSL (5 * t + 1) dL_law_1325 (by omega) (by omega) ?_
    rw [e1]
    refine r_callV X dL_law_1326 kL_170 (c_mWouldPay g _ hl ad1 F1 _ _ _ _ _ _ _ _ _ _ hB3 hG t hI s1 r1) (hB3.1) (by rfl) (by rfl) (by rfl) (by rfl) (by exact Nat.le_of_ble_eq_true rfl) (by decide) (by decide) (by omega) (by omega) (fun v ad2 F4 hK4 => ?_)
    obtain ⟨rfl, hF4, hK4⟩ := hK4
    have h64 := (hF4 60000 (by omega)).trans h63
    have hX4 := hX3.frM (F' := F4) (fun y hy => hF4 y (by omega))
    rcases hK4 with ⟨q1, ⟨pn2, rfl, y1⟩, hM⟩ | ⟨n1, rfl, hM⟩
    · refine r_istore X dL_law_1329 (by rw [hN]; decide) (by rfl) ?_
      dsimp only [List.set]
      exact tl_wouldPay X (by omega) (by omega) hM (by omega) h64 (fun _ => by rw [y1.uniq z1 (c := s1.toNat) (by omega)]; rfl) (r_widen (by omega) (by omega) (next ad1 F4 _ _ ⟨⟨rfl, rfl, rfl⟩, ⟨_, h64⟩, _, _, _, _, _, _, _, _, ⟨_, hX4⟩, ⟨_, hM⟩, hI.more ht, by omega⟩))
    · exact absurd c1 n1
  · simp only [List.mem_cons, List.not_mem_nil, or_false] at hq
    obtain rfl := hq
    obtain ⟨⟨-, m1⟩, rfl, rfl⟩ := hKX
    refine r_istore X dL_law_1317 (by rw [hN]; decide) (by rfl) ?_
    dsimp only [List.set]
    refine r_aload_n X dL_law_1319 (by rfl) ?_
    refine r_aload_n X dL_law_1320 (by rfl) ?_
    refine r_iload X dL_law_1321 (by rfl) ?_
    refine r_iconst X dL_law_1323 rfl ?_
    refine r_iadd X dL_law_1324 ?_
    refine r_sld X hSX hSb hSA hSL (5 * t + 1) dL_law_1325 (by omega) (by omega) ?_
    rw [e1]
    refine r_callV X dL_law_1326 kL_170 (c_mWouldPay g _ hl ad F _ _ _ _ _ _ _ _ _ _ hB hG t hI s1 r1) (hB.1) (by rfl) (by rfl) (by rfl) (by rfl) (by exact Nat.le_of_ble_eq_true rfl) (by decide) (by decide) (by omega) (by omega) (fun v ad2 F4 hK4 => ?_)
    obtain ⟨rfl, hF4, hK4⟩ := hK4
    have h64 := (hF4 60000 (by omega)).trans h60
    have hX4 := hX9.frM (F' := F4) (fun y hy => hF4 y (by omega))
    rcases hK4 with ⟨q1, ⟨pn2, rfl, y1⟩, hM⟩ | ⟨n1, rfl, hM⟩
    · exact absurd q1 m1
    · refine r_istore X dL_law_1329 (by rw [hN]; decide) (by rfl) ?_
      dsimp only [List.set]
      exact tl_wouldPay X (by omega) (by omega) hM (by omega) h64 (fun z => absurd z (by decide)) (r_widen (by omega) (by omega) (next ad F4 _ _ ⟨⟨rfl, rfl, rfl⟩, ⟨_, h64⟩, _, _, _, _, _, _, _, _, ⟨_, hX4⟩, ⟨_, hM⟩, hI.more ht, by omega⟩))
set_option maxRecDepth 100000 in
set_option maxHeartbeats 4000000 in
theorem sw_wouldTake : WSw RL 171 yL_wouldTake cL_wouldTake 4 (some .int) [(0, 9, 12, 21)] 3 := ⟨⟨cw_wouldTake, w0, ⟨by decide, by decide⟩, by decide +kernel, ww 1042 rfl rfl⟩, ww 1043 rfl rfl⟩
set_option maxRecDepth 100000 in
set_option maxHeartbeats 4000000 in
theorem tl_wouldTake {M : Mx} {g : Gx} {mc ms : Nat} {K : Option Value → (Nat → Nat) → Pic → Prop} (X : Cx M g yL_law cL_law (some .boolean) 840 mc ms [] K noX) {ad : Nat → Nat} {F : Pic} {kc ks : Nat} (hkc : kc ≤ mc) (hks : ks ≤ ms) {td : Int} {nf nk nc : Nat} {A P : Nat → Nat → Int} {kf : Nat → Nat} {k : Int} (hM : MG g ad F td nf nk nc A P kf k) (hk : 0 ≤ k ∧ k ≤ 9) {bb : Int32} {f9 : Nat → Int64} (h60 : F 60000 = some (cJ g 1 f9)) (he : k = 0 → f9 0 = bb.toInt64) {v0 v1 v4 : Option Value} (next : V M g ad F kc ks 1474 [v0, v1, some (.ref (ad 50000)), some (.ref (ad 60000)), v4, some (.int (zI k)), some (.int bb)] []) : V M g ad F kc ks 1387 [v0, v1, some (.ref (ad 50000)), some (.ref (ad 60000)), v4, some (.int (zI k)), some (.int bb)] [] := by
  obtain ⟨np, B, hB, hG⟩ := hM
  have hl := X.2.2.2.2.2.2
  refine r_aload_n X dL_law_1387 (by rfl) ?_
  refine r_callV X dL_law_1388 kL_89 (c_mThrown g _ hl ad F _ _ _ _ _ _ _ hB) (hB.1) (by rfl) (by rfl) (by rfl) (by rfl) (by exact Nat.le_of_ble_eq_true rfl) (by decide) (by decide) (by omega) (by omega) (fun v ad' F' hK => ?_)
  obtain ⟨rfl, rfl, rfl⟩ := hK
  refine r_iload X dL_law_1391 (by rfl) ?_
  refine r_same X 1398 dL_law_1393 (by decide) ?_
  refine r_iload X dL_law_1398 (by rfl) ?_
  refine r_if_ne X 1415 dL_law_1400 (by decide) (by unfold inR; omega) (fun q => ?_) (fun q => ?_)
  · refine r_goto X dL_law_1415 1474 (by decide) ?_
    exact next
  · refine r_aload_n X dL_law_1403 (by rfl) ?_
    refine r_iconst X dL_law_1404 rfl ?_
    refine r_lald X 0 dL_law_1405 (h60) (by rfl) (by omega) (by first | decide | omega) ?_
    rw [he q]
    refine r_iload X dL_law_1406 (by rfl) ?_
    refine r_i2lG X dL_law_1408 ?_
    refine r_lcmpE X dL_law_1409 ?_
    refine r_if_eq X 1415 dL_law_1410 (by decide) (by unfold inR; omega) (fun q2 => ?_) (fun q2 => ?_)
    · refine r_goto X dL_law_1415 1474 (by decide) ?_
      exact next
    · exact absurd rfl q2
set_option maxRecDepth 100000 in
set_option maxHeartbeats 4000000 in
theorem st_wouldTake {M : Mx} {g : Gx} {mc ms : Nat} {K : Option Value → (Nat → Nat) → Pic → Prop} (X : Cx M g yL_law cL_law (some .boolean) 840 mc ms [] K noX) (hN : mN M = 7) {b L : Nat} {xs : Nat → Int32} (hSX : va_X b L xs (mS M) (mS M).heap) (hSb : b < (mS M).heap.size) (hSA : ¬ gA g b) (hSL : L ≤ 2560) {a1 a5 a6 : Nat} {ad : Nat → Nat} {F : Pic} {t : Nat} (ht : t < 512) (h5 : 5 * t + 5 ≤ L) (hI : INV g a1 a5 a6 ad F t) {kc ks : Nat} (hkc : kc + 32 ≤ mc) (hks : ks + 1000 ≤ ms) {o5 o6 : Option Value} (next : ∀ (ad' : Nat → Nat) (F' : Pic) (o5 o6 : Option Value), INV g a1 a5 a6 ad' F' (t + 1) → V M g ad' F' (kc + 32) (ks + 1000) 1474 [some (.ref b), some (.ref a1), some (.ref a5), some (.ref a6), some (.int (zI ((5 * t : Nat) : Int))), o5, o6] []) : V M g ad F kc ks 1362 [some (.ref b), some (.ref a1), some (.ref a5), some (.ref a6), some (.int (zI ((5 * t : Nat) : Int))), o5, o6] [] := by
  obtain ⟨⟨rfl, rfl, rfl⟩, ⟨f, h60⟩, td, nf, nk, nc, A, P, kf, sn, ⟨ser, hX9⟩, ⟨th, np, B, hB, hG⟩, hI, hsn⟩ := hI
  have hl := X.2.2.2.2.2.2
  have hI0 := hI.1
  have h100 := hX9.1.1
  have hkf : ∀ i, i < nk → kf i < nf := fun i hi => (hI.2.2.1 i hi).1
  obtain ⟨s1, e1, r1⟩ : ∃ z : Int, xs (5 * t + 1) = zI z ∧ inR z := ⟨_, zI_of _, inR_of _⟩
  refine r_aload_n X dL_law_1362 (by rfl) ?_
  refine r_aload_n X dL_law_1363 (by rfl) ?_
  refine r_iload X dL_law_1364 (by rfl) ?_
  refine r_iconst X dL_law_1366 rfl ?_
  refine r_iadd X dL_law_1367 ?_
  refine r_sld X hSX hSb hSA hSL (5 * t + 1) dL_law_1368 (by omega) (by omega) ?_
  rw [e1]
  refine r_aload_n X dL_law_1369 (by rfl) ?_
  refine r_callSW X dL_law_1370 sw_wouldTake (c_wWouldTake g _ hl ad F f h60 h100 (zI s1) (c_wouldTake g _ hl ad F _ _ _ _ _ _ _ _ _ hX9 t hI s1 r1) (by decide) (fun v ad' F' h => ⟨by obtain ⟨_, _, _, _, pn, dr, hv, _⟩ := h; exact ⟨_, hv⟩, h.2.2.1 60000 (by omega), h.2.1 60000 (by omega)⟩) (fun E ad' F' h => h.1.1)) (by rfl) (by rfl) (by exact Nat.le_of_ble_eq_true rfl) (by omega) (by decide) (by omega) (by omega) (fun v ad1 F1 hK => ?_)
  rcases hK with ⟨rfl, F2, x, f2, hK2, hF1⟩ | ⟨q, hq, hKX, rfl⟩
  · have h63 : F1 60000 = some (cJ g 1 (vp_updL f2 0 x.toInt64)) := by rw [hF1]; exact pu_s
    have hfr : ∀ y, y ≠ 60000 → F1 y = F2 y := fun y hy => by rw [hF1]; exact pu_n hy
    clear hF1
    obtain ⟨c1, aa, hF2, hX2, pn, dr, hv, z1, z2⟩ := hK2
    cases hv
    have hX3 := hX2.frM (F' := F1) (fun y hy => hfr y (by omega))
    have hB3 := hB.fr (F' := F1) (ad' := ad1) (fun y y1 y2 => (hfr y (by omega)).trans (hF2 y (by omega))) (fun y y1 y2 => aa y (by omega))
    rw [← aa 100 (by omega), ← aa 50000 (by omega), ← aa 60000 (by omega)] at next ⊢
    refine r_istore X dL_law_1373 (by rw [hN]; decide) (by rfl) ?_
    dsimp only [List.set]
    refine r_aload_n X dL_law_1375 (by rfl) ?_
    refine r_aload_n X dL_law_1376 (by rfl) ?_
    refine r_iload X dL_law_1377 (by rfl) ?_
    refine r_iconst X dL_law_1379 rfl ?_
    refine r_iadd X dL_law_1380 ?_
    refine r_sld X hSX hSb hSA hSL (5 * t + 1) dL_law_1381 (by omega) (by omega) ?_
    rw [e1]
    refine r_callV X dL_law_1382 kL_173 (c_mWouldTake g _ hl ad1 F1 _ _ _ _ _ _ _ _ _ _ hB3 hG t hI s1 r1) (hB3.1) (by rfl) (by rfl) (by rfl) (by rfl) (by exact Nat.le_of_ble_eq_true rfl) (by decide) (by decide) (by omega) (by omega) (fun v ad2 F4 hK4 => ?_)
    obtain ⟨rfl, hF4, hK4⟩ := hK4
    have h64 := (hF4 60000 (by omega)).trans h63
    have hX4 := hX3.frM (F' := F4) (fun y hy => hF4 y (by omega))
    rcases hK4 with ⟨q1, ⟨pn2, dr2, rfl, y1, y2⟩, hM⟩ | ⟨n1, rfl, hM⟩
    · refine r_istore X dL_law_1385 (by rw [hN]; decide) (by rfl) ?_
      dsimp only [List.set]
      exact tl_wouldTake X (by omega) (by omega) hM (by omega) h64 (fun _ => by rw [show sm (nk + nf) (fun p => if ow kf (PS A nk nf p) = s1.toNat then dr2 p else 0) = sm (nk + nf) (fun p => if ow kf (PS A nk nf p) = s1.toNat then dr p else 0) from sm_congr (fun p hp => by rw [S2.uniq (fun c hc => y1.uniq z1 hc) y2 z2 hp])]; rfl) (r_widen (by omega) (by omega) (next ad1 F4 _ _ ⟨⟨rfl, rfl, rfl⟩, ⟨_, h64⟩, _, _, _, _, _, _, _, _, ⟨_, hX4⟩, ⟨_, hM⟩, hI.more ht, by omega⟩))
    · exact absurd c1 n1
  · simp only [List.mem_cons, List.not_mem_nil, or_false] at hq
    obtain rfl := hq
    obtain ⟨⟨-, m1⟩, rfl, rfl⟩ := hKX
    refine r_istore X dL_law_1373 (by rw [hN]; decide) (by rfl) ?_
    dsimp only [List.set]
    refine r_aload_n X dL_law_1375 (by rfl) ?_
    refine r_aload_n X dL_law_1376 (by rfl) ?_
    refine r_iload X dL_law_1377 (by rfl) ?_
    refine r_iconst X dL_law_1379 rfl ?_
    refine r_iadd X dL_law_1380 ?_
    refine r_sld X hSX hSb hSA hSL (5 * t + 1) dL_law_1381 (by omega) (by omega) ?_
    rw [e1]
    refine r_callV X dL_law_1382 kL_173 (c_mWouldTake g _ hl ad F _ _ _ _ _ _ _ _ _ _ hB hG t hI s1 r1) (hB.1) (by rfl) (by rfl) (by rfl) (by rfl) (by exact Nat.le_of_ble_eq_true rfl) (by decide) (by decide) (by omega) (by omega) (fun v ad2 F4 hK4 => ?_)
    obtain ⟨rfl, hF4, hK4⟩ := hK4
    have h64 := (hF4 60000 (by omega)).trans h60
    have hX4 := hX9.frM (F' := F4) (fun y hy => hF4 y (by omega))
    rcases hK4 with ⟨q1, ⟨pn2, dr2, rfl, y1, y2⟩, hM⟩ | ⟨n1, rfl, hM⟩
    · exact absurd q1 m1
    · refine r_istore X dL_law_1385 (by rw [hN]; decide) (by rfl) ?_
      dsimp only [List.set]
      exact tl_wouldTake X (by omega) (by omega) hM (by omega) h64 (fun z => absurd z (by decide)) (r_widen (by omega) (by omega) (next ad F4 _ _ ⟨⟨rfl, rfl, rfl⟩, ⟨_, h64⟩, _, _, _, _, _, _, _, _, ⟨_, hX4⟩, ⟨_, hM⟩, hI.more ht, by omega⟩))
set_option maxRecDepth 100000 in
set_option maxHeartbeats 4000000 in
theorem sw_reason : WSw RL 174 yL_reason cL_reason 4 (some .int) [(0, 9, 12, 21)] 3 := ⟨⟨cw_reason, w0, ⟨by decide, by decide⟩, by decide +kernel, ww 1050 rfl rfl⟩, ww 1051 rfl rfl⟩
set_option maxRecDepth 100000 in
set_option maxHeartbeats 4000000 in
theorem tl_reason {M : Mx} {g : Gx} {mc ms : Nat} {K : Option Value → (Nat → Nat) → Pic → Prop} (X : Cx M g yL_law cL_law (some .boolean) 840 mc ms [] K noX) {ad : Nat → Nat} {F : Pic} {kc ks : Nat} (hkc : kc ≤ mc) (hks : ks ≤ ms) {td : Int} {nf nk nc : Nat} {A P : Nat → Nat → Int} {kf : Nat → Nat} {k : Int} (hM : MG g ad F td nf nk nc A P kf k) (hk : 0 ≤ k ∧ k ≤ 9) {bb : Int32} {f9 : Nat → Int64} (h60 : F 60000 = some (cJ g 1 f9)) (he : k = 0 → f9 0 = bb.toInt64) {v0 v1 v4 : Option Value} (next : V M g ad F kc ks 1474 [v0, v1, some (.ref (ad 50000)), some (.ref (ad 60000)), v4, some (.int (zI k)), some (.int bb)] []) : V M g ad F kc ks 1443 [v0, v1, some (.ref (ad 50000)), some (.ref (ad 60000)), v4, some (.int (zI k)), some (.int bb)] [] := by
  obtain ⟨np, B, hB, hG⟩ := hM
  have hl := X.2.2.2.2.2.2
  refine r_aload_n X dL_law_1443 (by rfl) ?_
  refine r_callV X dL_law_1444 kL_89 (c_mThrown g _ hl ad F _ _ _ _ _ _ _ hB) (hB.1) (by rfl) (by rfl) (by rfl) (by rfl) (by exact Nat.le_of_ble_eq_true rfl) (by decide) (by decide) (by omega) (by omega) (fun v ad' F' hK => ?_)
  obtain ⟨rfl, rfl, rfl⟩ := hK
  refine r_iload X dL_law_1447 (by rfl) ?_
  refine r_same X 1454 dL_law_1449 (by decide) ?_
  refine r_iload X dL_law_1454 (by rfl) ?_
  refine r_if_ne X 1471 dL_law_1456 (by decide) (by unfold inR; omega) (fun q => ?_) (fun q => ?_)
  · refine r_goto X dL_law_1471 1474 (by decide) ?_
    exact next
  · refine r_aload_n X dL_law_1459 (by rfl) ?_
    refine r_iconst X dL_law_1460 rfl ?_
    refine r_lald X 0 dL_law_1461 (h60) (by rfl) (by omega) (by first | decide | omega) ?_
    rw [he q]
    refine r_iload X dL_law_1462 (by rfl) ?_
    refine r_i2lG X dL_law_1464 ?_
    refine r_lcmpE X dL_law_1465 ?_
    refine r_if_eq X 1471 dL_law_1466 (by decide) (by unfold inR; omega) (fun q2 => ?_) (fun q2 => ?_)
    · refine r_goto X dL_law_1471 1474 (by decide) ?_
      exact next
    · exact absurd rfl q2
set_option maxRecDepth 100000 in
set_option maxHeartbeats 4000000 in
theorem st_reason {M : Mx} {g : Gx} {mc ms : Nat} {K : Option Value → (Nat → Nat) → Pic → Prop} (X : Cx M g yL_law cL_law (some .boolean) 840 mc ms [] K noX) (hN : mN M = 7) {b L : Nat} {xs : Nat → Int32} (hSX : va_X b L xs (mS M) (mS M).heap) (hSb : b < (mS M).heap.size) (hSA : ¬ gA g b) (hSL : L ≤ 2560) {a1 a5 a6 : Nat} {ad : Nat → Nat} {F : Pic} {t : Nat} (ht : t < 512) (h5 : 5 * t + 5 ≤ L) (hI : INV g a1 a5 a6 ad F t) {kc ks : Nat} (hkc : kc + 32 ≤ mc) (hks : ks + 1000 ≤ ms) {o5 o6 : Option Value} (next : ∀ (ad' : Nat → Nat) (F' : Pic) (o5 o6 : Option Value), INV g a1 a5 a6 ad' F' (t + 1) → V M g ad' F' (kc + 32) (ks + 1000) 1474 [some (.ref b), some (.ref a1), some (.ref a5), some (.ref a6), some (.int (zI ((5 * t : Nat) : Int))), o5, o6] []) : V M g ad F kc ks 1418 [some (.ref b), some (.ref a1), some (.ref a5), some (.ref a6), some (.int (zI ((5 * t : Nat) : Int))), o5, o6] [] := by
  obtain ⟨⟨rfl, rfl, rfl⟩, ⟨f, h60⟩, td, nf, nk, nc, A, P, kf, sn, ⟨ser, hX9⟩, ⟨th, np, B, hB, hG⟩, hI, hsn⟩ := hI
  have hl := X.2.2.2.2.2.2
  have hI0 := hI.1
  have h100 := hX9.1.1
  have hkf : ∀ i, i < nk → kf i < nf := fun i hi => (hI.2.2.1 i hi).1
  obtain ⟨s1, e1, r1⟩ : ∃ z : Int, xs (5 * t + 1) = zI z ∧ inR z := ⟨_, zI_of _, inR_of _⟩
  refine r_aload_n X dL_law_1418 (by rfl) ?_
  refine r_aload_n X dL_law_1419 (by rfl) ?_
  refine r_iload X dL_law_1420 (by rfl) ?_
  refine r_iconst X dL_law_1422 rfl ?_
  refine r_iadd X dL_law_1423 ?_
  refine r_sld X hSX hSb hSA hSL (5 * t + 1) dL_law_1424 (by omega) (by omega) ?_
  rw [e1]
  refine r_aload_n X dL_law_1425 (by rfl) ?_
  refine r_callSW X dL_law_1426 sw_reason (c_wReason g _ hl ad F f h60 h100 (zI s1) (c_reason g _ hl ad F _ _ _ _ _ _ _ _ _ hX9 t hI s1 r1) (by decide) (fun v ad' F' h => ⟨by obtain ⟨_, ⟨w, hv, _⟩, _⟩ := h; exact ⟨_, hv⟩, h.2.2.2.1 60000 (by omega), h.2.2.1 60000 (by omega)⟩) (fun E ad' F' h => h.1.1)) (by rfl) (by rfl) (by exact Nat.le_of_ble_eq_true rfl) (by omega) (by decide) (by omega) (by omega) (fun v ad1 F1 hK => ?_)
  rcases hK with ⟨rfl, F2, x, f2, hK2, hF1⟩ | ⟨q, hq, hKX, rfl⟩
  · have h63 : F1 60000 = some (cJ g 1 (vp_updL f2 0 x.toInt64)) := by rw [hF1]; exact pu_s
    have hfr : ∀ y, y ≠ 60000 → F1 y = F2 y := fun y hy => by rw [hF1]; exact pu_n hy
    clear hF1
    obtain ⟨c1, ⟨w1, hv, z1⟩, aa, hF2, hX2⟩ := hK2
    cases hv
    have hX3 := hX2.frM (F' := F1) (fun y hy => hfr y (by omega))
    have hB3 := hB.fr (F' := F1) (ad' := ad1) (fun y y1 y2 => (hfr y (by omega)).trans (hF2 y (by omega))) (fun y y1 y2 => aa y (by omega))
    rw [← aa 100 (by omega), ← aa 50000 (by omega), ← aa 60000 (by omega)] at next ⊢
    refine r_istore X dL_law_1429 (by rw [hN]; decide) (by rfl) ?_
    dsimp only [List.set]
    refine r_aload_n X dL_law_1431 (by rfl) ?_
    refine r_aload_n X dL_law_1432 (by rfl) ?_
    refine r_iload X dL_law_1433 (by rfl) ?_
    refine r_iconst X dL_law_1435 rfl ?_
    refine r_iadd X dL_law_1436 ?_
    refine r_sld X hSX hSb hSA hSL (5 * t + 1) dL_law_1437 (by omega) (by omega) ?_
    rw [e1]
    refine r_callV X dL_law_1438 kL_176 (c_mReason g _ hl ad1 F1 _ _ _ _ _ _ _ _ _ _ hB3 hG t hI s1 r1) (hB3.1) (by rfl) (by rfl) (by rfl) (by rfl) (by exact Nat.le_of_ble_eq_true rfl) (by decide) (by decide) (by omega) (by omega) (fun v ad2 F4 hK4 => ?_)
    obtain ⟨rfl, hF4, hK4⟩ := hK4
    have h64 := (hF4 60000 (by omega)).trans h63
    have hX4 := hX3.frM (F' := F4) (fun y hy => hF4 y (by omega))
    rcases hK4 with ⟨q1, ⟨w2, rfl, y1⟩, hM⟩ | ⟨n1, rfl, hM⟩
    · refine r_istore X dL_law_1441 (by rw [hN]; decide) (by rfl) ?_
      dsimp only [List.set]
      exact tl_reason X (by omega) (by omega) hM (by omega) h64 (fun _ => by rw [y1.uniq z1]; rfl) (r_widen (by omega) (by omega) (next ad1 F4 _ _ ⟨⟨rfl, rfl, rfl⟩, ⟨_, h64⟩, _, _, _, _, _, _, _, _, ⟨_, hX4⟩, ⟨_, hM⟩, hI.more ht, by omega⟩))
    · exact absurd c1 n1
  · simp only [List.mem_cons, List.not_mem_nil, or_false] at hq
    obtain rfl := hq
    obtain ⟨⟨-, m1⟩, rfl, rfl⟩ := hKX
    refine r_istore X dL_law_1429 (by rw [hN]; decide) (by rfl) ?_
    dsimp only [List.set]
    refine r_aload_n X dL_law_1431 (by rfl) ?_
    refine r_aload_n X dL_law_1432 (by rfl) ?_
    refine r_iload X dL_law_1433 (by rfl) ?_
    refine r_iconst X dL_law_1435 rfl ?_
    refine r_iadd X dL_law_1436 ?_
    refine r_sld X hSX hSb hSA hSL (5 * t + 1) dL_law_1437 (by omega) (by omega) ?_
    rw [e1]
    refine r_callV X dL_law_1438 kL_176 (c_mReason g _ hl ad F _ _ _ _ _ _ _ _ _ _ hB hG t hI s1 r1) (hB.1) (by rfl) (by rfl) (by rfl) (by rfl) (by exact Nat.le_of_ble_eq_true rfl) (by decide) (by decide) (by omega) (by omega) (fun v ad2 F4 hK4 => ?_)
    obtain ⟨rfl, hF4, hK4⟩ := hK4
    have h64 := (hF4 60000 (by omega)).trans h60
    have hX4 := hX9.frM (F' := F4) (fun y hy => hF4 y (by omega))
    rcases hK4 with ⟨q1, ⟨w2, rfl, y1⟩, hM⟩ | ⟨n1, rfl, hM⟩
    · exact absurd q1 m1
    · refine r_istore X dL_law_1441 (by rw [hN]; decide) (by rfl) ?_
      dsimp only [List.set]
      exact tl_reason X (by omega) (by omega) hM (by omega) h64 (fun z => absurd z (by decide)) (r_widen (by omega) (by omega) (next ad F4 _ _ ⟨⟨rfl, rfl, rfl⟩, ⟨_, h64⟩, _, _, _, _, _, _, _, _, ⟨_, hX4⟩, ⟨_, hM⟩, hI.more ht, by omega⟩))
set_option maxRecDepth 100000 in
set_option maxHeartbeats 4000000 in
theorem st_charge {M : Mx} {g : Gx} {mc ms : Nat} {K : Option Value → (Nat → Nat) → Pic → Prop} (X : Cx M g yL_law cL_law (some .boolean) 840 mc ms [] K noX) (hN : mN M = 7) {b L : Nat} {xs : Nat → Int32} (hSX : va_X b L xs (mS M) (mS M).heap) (hSb : b < (mS M).heap.size) (hSA : ¬ gA g b) (hSL : L ≤ 2560) {a1 a5 a6 : Nat} {ad : Nat → Nat} {F : Pic} {t : Nat} (ht : t < 512) (h5 : 5 * t + 5 ≤ L) (hI : INV g a1 a5 a6 ad F t) {kc ks : Nat} (hkc : kc + 32 ≤ mc) (hks : ks + 1000 ≤ ms) {o5 o6 : Option Value} (next : ∀ (ad' : Nat → Nat) (F' : Pic) (o5 o6 : Option Value), INV g a1 a5 a6 ad' F' (t + 1) → V M g ad' F' (kc + 32) (ks + 1000) 1474 [some (.ref b), some (.ref a1), some (.ref a5), some (.ref a6), some (.int (zI ((5 * t : Nat) : Int))), o5, o6] []) : V M g ad F kc ks 600 [some (.ref b), some (.ref a1), some (.ref a5), some (.ref a6), some (.int (zI ((5 * t : Nat) : Int))), o5, o6] [] := by
  obtain ⟨⟨rfl, rfl, rfl⟩, ⟨f, h60⟩, td, nf, nk, nc, A, P, kf, sn, ⟨ser, hX9⟩, ⟨th, np, B, hB, hG⟩, hI, hsn⟩ := hI
  have hl := X.2.2.2.2.2.2
  have hI0 := hI.1
  have h100 := hX9.1.1
  refine r_aload_n X dL_law_600 (by rfl) ?_
  refine r_callV X dL_law_601 kL_111 (c_charge g _ hl ad F _ _ _ _ _ _ _ _ _ hX9 t hI (fun pn dr W h3 hb => hI.book h3 hb)) (h100) (by rfl) (by rfl) (by rfl) (by rfl) (by exact Nat.le_of_ble_eq_true rfl) (by decide) (by decide) (by omega) (by omega) (fun v ad1 F1 hK => ?_)
  obtain ⟨aa, hF1, pn, dr, W, ser2, rfl, z1, z2, z3, zb, hX1⟩ := hK
  have hB3 := hB.fr (F' := F1) (ad' := ad1) (fun y y1 y2 => hF1 y (by omega)) (fun y y1 y2 => aa y (by omega))
  rw [← aa 100 (by omega), ← aa 50000 (by omega), ← aa 60000 (by omega)] at next ⊢
  refine r_aload_n X dL_law_604 (by rfl) ?_
  refine r_callV X dL_law_605 kL_114 (c_mCharge g _ hl ad1 F1 _ _ _ _ _ _ _ _ _ _ hB3 hG t hI pn dr W z1 z2 z3 zb (hI.book z3 zb)) (hB3.1) (by rfl) (by rfl) (by rfl) (by rfl) (by exact Nat.le_of_ble_eq_true rfl) (by decide) (by decide) (by omega) (by omega) (fun v ad2 F4 hK4 => ?_)
  obtain ⟨rfl, hF4, rfl, hM⟩ := hK4
  refine r_same X 1474 dL_law_608 (by decide) (r_widen (by omega) (by omega) (next ad1 F4 _ _ ⟨⟨rfl, rfl, rfl⟩, ⟨f, (hF4 60000 (by omega)).trans ((hF1 60000 (by omega)).trans h60)⟩, _, _, _, _, _, _, _, _, ⟨_, hX1.frM (fun y hy => hF4 y (by omega))⟩, ⟨_, hM⟩, (endS_iv nk nk _ kf (Nat.le_refl _) (hI.book z3 zb)).more ht, by omega⟩))
set_option maxRecDepth 100000 in
set_option maxHeartbeats 4000000 in
theorem st_today {M : Mx} {g : Gx} {mc ms : Nat} {K : Option Value → (Nat → Nat) → Pic → Prop} (X : Cx M g yL_law cL_law (some .boolean) 840 mc ms [] K noX) (hN : mN M = 7) {b L : Nat} {xs : Nat → Int32} (hSX : va_X b L xs (mS M) (mS M).heap) (hSb : b < (mS M).heap.size) (hSA : ¬ gA g b) (hSL : L ≤ 2560) {a1 a5 a6 : Nat} {ad : Nat → Nat} {F : Pic} {t : Nat} (ht : t < 512) (h5 : 5 * t + 5 ≤ L) (hI : INV g a1 a5 a6 ad F t) {kc ks : Nat} (hkc : kc + 32 ≤ mc) (hks : ks + 1000 ≤ ms) {o5 o6 : Option Value} (next : ∀ (ad' : Nat → Nat) (F' : Pic) (o5 o6 : Option Value), INV g a1 a5 a6 ad' F' (t + 1) → V M g ad' F' (kc + 32) (ks + 1000) 1474 [some (.ref b), some (.ref a1), some (.ref a5), some (.ref a6), some (.int (zI ((5 * t : Nat) : Int))), o5, o6] []) : V M g ad F kc ks 669 [some (.ref b), some (.ref a1), some (.ref a5), some (.ref a6), some (.int (zI ((5 * t : Nat) : Int))), o5, o6] [] := by
  obtain ⟨⟨rfl, rfl, rfl⟩, ⟨f, h60⟩, td, nf, nk, nc, A, P, kf, sn, ⟨ser, hX9⟩, ⟨th, np, B, hB, hG⟩, hI, hsn⟩ := hI
  have hl := X.2.2.2.2.2.2
  have hI0 := hI.1
  have h100 := hX9.1.1
  refine r_aload_n X dL_law_669 (by rfl) ?_
  refine r_callV X dL_law_670 kL_118 (c_today g _ hl ad F _ _ _ _ _ _ _ _ ⟨ser, hX9⟩) (h100) (by rfl) (by rfl) (by rfl) (by rfl) (by exact Nat.le_of_ble_eq_true rfl) (by decide) (by decide) (by omega) (by omega) (fun v ad1 F1 hK => ?_)
  obtain ⟨rfl, rfl, rfl⟩ := hK
  refine r_aload_n X dL_law_673 (by rfl) ?_
  refine r_callV X dL_law_674 kL_121 (c_gToday g _ hl ad F _ _ _ _ _ _ _ _ _ _ hB hG) (hB.1) (by rfl) (by rfl) (by rfl) (by rfl) (by exact Nat.le_of_ble_eq_true rfl) (by decide) (by decide) (by omega) (by omega) (fun v ad2 F4 hK4 => ?_)
  obtain ⟨rfl, hF4, rfl, hM⟩ := hK4
  refine r_same X 1474 dL_law_677 (by decide) (r_widen (by omega) (by omega) (next ad F4 _ _ ⟨⟨rfl, rfl, rfl⟩, ⟨f, (hF4 60000 (by omega)).trans h60⟩, _, _, _, _, _, _, _, _, ⟨_, hX9.frM (fun y hy => hF4 y (by omega))⟩, ⟨_, hM⟩, hI.more ht, by omega⟩))
set_option maxRecDepth 100000 in
set_option maxHeartbeats 4000000 in
theorem st_funds {M : Mx} {g : Gx} {mc ms : Nat} {K : Option Value → (Nat → Nat) → Pic → Prop} (X : Cx M g yL_law cL_law (some .boolean) 840 mc ms [] K noX) (hN : mN M = 7) {b L : Nat} {xs : Nat → Int32} (hSX : va_X b L xs (mS M) (mS M).heap) (hSb : b < (mS M).heap.size) (hSA : ¬ gA g b) (hSL : L ≤ 2560) {a1 a5 a6 : Nat} {ad : Nat → Nat} {F : Pic} {t : Nat} (ht : t < 512) (h5 : 5 * t + 5 ≤ L) (hI : INV g a1 a5 a6 ad F t) {kc ks : Nat} (hkc : kc + 32 ≤ mc) (hks : ks + 1000 ≤ ms) {o5 o6 : Option Value} (next : ∀ (ad' : Nat → Nat) (F' : Pic) (o5 o6 : Option Value), INV g a1 a5 a6 ad' F' (t + 1) → V M g ad' F' (kc + 32) (ks + 1000) 1474 [some (.ref b), some (.ref a1), some (.ref a5), some (.ref a6), some (.int (zI ((5 * t : Nat) : Int))), o5, o6] []) : V M g ad F kc ks 682 [some (.ref b), some (.ref a1), some (.ref a5), some (.ref a6), some (.int (zI ((5 * t : Nat) : Int))), o5, o6] [] := by
  obtain ⟨⟨rfl, rfl, rfl⟩, ⟨f, h60⟩, td, nf, nk, nc, A, P, kf, sn, ⟨ser, hX9⟩, ⟨th, np, B, hB, hG⟩, hI, hsn⟩ := hI
  have hl := X.2.2.2.2.2.2
  have hI0 := hI.1
  have h100 := hX9.1.1
  refine r_aload_n X dL_law_682 (by rfl) ?_
  refine r_callV X dL_law_683 kL_122 (c_nFunds g _ hl ad F _ _ _ _ _ _ _ _ ⟨ser, hX9⟩) (h100) (by rfl) (by rfl) (by rfl) (by rfl) (by exact Nat.le_of_ble_eq_true rfl) (by decide) (by decide) (by omega) (by omega) (fun v ad1 F1 hK => ?_)
  obtain ⟨rfl, rfl, rfl⟩ := hK
  refine r_aload_n X dL_law_686 (by rfl) ?_
  refine r_callV X dL_law_687 kL_125 (c_gFunds g _ hl ad F _ _ _ _ _ _ _ _ _ _ hB hG) (hB.1) (by rfl) (by rfl) (by rfl) (by rfl) (by exact Nat.le_of_ble_eq_true rfl) (by decide) (by decide) (by omega) (by omega) (fun v ad2 F4 hK4 => ?_)
  obtain ⟨rfl, hF4, rfl, hM⟩ := hK4
  refine r_same X 1474 dL_law_690 (by decide) (r_widen (by omega) (by omega) (next ad F4 _ _ ⟨⟨rfl, rfl, rfl⟩, ⟨f, (hF4 60000 (by omega)).trans h60⟩, _, _, _, _, _, _, _, _, ⟨_, hX9.frM (fun y hy => hF4 y (by omega))⟩, ⟨_, hM⟩, hI.more ht, by omega⟩))
set_option maxRecDepth 100000 in
set_option maxHeartbeats 4000000 in
theorem st_commitments {M : Mx} {g : Gx} {mc ms : Nat} {K : Option Value → (Nat → Nat) → Pic → Prop} (X : Cx M g yL_law cL_law (some .boolean) 840 mc ms [] K noX) (hN : mN M = 7) {b L : Nat} {xs : Nat → Int32} (hSX : va_X b L xs (mS M) (mS M).heap) (hSb : b < (mS M).heap.size) (hSA : ¬ gA g b) (hSL : L ≤ 2560) {a1 a5 a6 : Nat} {ad : Nat → Nat} {F : Pic} {t : Nat} (ht : t < 512) (h5 : 5 * t + 5 ≤ L) (hI : INV g a1 a5 a6 ad F t) {kc ks : Nat} (hkc : kc + 32 ≤ mc) (hks : ks + 1000 ≤ ms) {o5 o6 : Option Value} (next : ∀ (ad' : Nat → Nat) (F' : Pic) (o5 o6 : Option Value), INV g a1 a5 a6 ad' F' (t + 1) → V M g ad' F' (kc + 32) (ks + 1000) 1474 [some (.ref b), some (.ref a1), some (.ref a5), some (.ref a6), some (.int (zI ((5 * t : Nat) : Int))), o5, o6] []) : V M g ad F kc ks 975 [some (.ref b), some (.ref a1), some (.ref a5), some (.ref a6), some (.int (zI ((5 * t : Nat) : Int))), o5, o6] [] := by
  obtain ⟨⟨rfl, rfl, rfl⟩, ⟨f, h60⟩, td, nf, nk, nc, A, P, kf, sn, ⟨ser, hX9⟩, ⟨th, np, B, hB, hG⟩, hI, hsn⟩ := hI
  have hl := X.2.2.2.2.2.2
  have hI0 := hI.1
  have h100 := hX9.1.1
  refine r_aload_n X dL_law_975 (by rfl) ?_
  refine r_callV X dL_law_976 kL_141 (c_nComs g _ hl ad F _ _ _ _ _ _ _ _ ⟨ser, hX9⟩) (h100) (by rfl) (by rfl) (by rfl) (by rfl) (by exact Nat.le_of_ble_eq_true rfl) (by decide) (by decide) (by omega) (by omega) (fun v ad1 F1 hK => ?_)
  obtain ⟨rfl, rfl, rfl⟩ := hK
  refine r_aload_n X dL_law_979 (by rfl) ?_
  refine r_callV X dL_law_980 kL_144 (c_gComs g _ hl ad F _ _ _ _ _ _ _ _ _ _ hB hG) (hB.1) (by rfl) (by rfl) (by rfl) (by rfl) (by exact Nat.le_of_ble_eq_true rfl) (by decide) (by decide) (by omega) (by omega) (fun v ad2 F4 hK4 => ?_)
  obtain ⟨rfl, hF4, rfl, hM⟩ := hK4
  refine r_same X 1474 dL_law_983 (by decide) (r_widen (by omega) (by omega) (next ad F4 _ _ ⟨⟨rfl, rfl, rfl⟩, ⟨f, (hF4 60000 (by omega)).trans h60⟩, _, _, _, _, _, _, _, _, ⟨_, hX9.frM (fun y hy => hF4 y (by omega))⟩, ⟨_, hM⟩, hI.more ht, by omega⟩))
set_option maxRecDepth 100000 in
set_option maxHeartbeats 4000000 in
theorem st_costs {M : Mx} {g : Gx} {mc ms : Nat} {K : Option Value → (Nat → Nat) → Pic → Prop} (X : Cx M g yL_law cL_law (some .boolean) 840 mc ms [] K noX) (hN : mN M = 7) {b L : Nat} {xs : Nat → Int32} (hSX : va_X b L xs (mS M) (mS M).heap) (hSb : b < (mS M).heap.size) (hSA : ¬ gA g b) (hSL : L ≤ 2560) {a1 a5 a6 : Nat} {ad : Nat → Nat} {F : Pic} {t : Nat} (ht : t < 512) (h5 : 5 * t + 5 ≤ L) (hI : INV g a1 a5 a6 ad F t) {kc ks : Nat} (hkc : kc + 32 ≤ mc) (hks : ks + 1000 ≤ ms) {o5 o6 : Option Value} (next : ∀ (ad' : Nat → Nat) (F' : Pic) (o5 o6 : Option Value), INV g a1 a5 a6 ad' F' (t + 1) → V M g ad' F' (kc + 32) (ks + 1000) 1474 [some (.ref b), some (.ref a1), some (.ref a5), some (.ref a6), some (.int (zI ((5 * t : Nat) : Int))), o5, o6] []) : V M g ad F kc ks 1156 [some (.ref b), some (.ref a1), some (.ref a5), some (.ref a6), some (.int (zI ((5 * t : Nat) : Int))), o5, o6] [] := by
  obtain ⟨⟨rfl, rfl, rfl⟩, ⟨f, h60⟩, td, nf, nk, nc, A, P, kf, sn, ⟨ser, hX9⟩, ⟨th, np, B, hB, hG⟩, hI, hsn⟩ := hI
  have hl := X.2.2.2.2.2.2
  have hI0 := hI.1
  have h100 := hX9.1.1
  refine r_aload_n X dL_law_1156 (by rfl) ?_
  refine r_callV X dL_law_1157 kL_154 (c_nCosts g _ hl ad F _ _ _ _ _ _ _ _ ⟨ser, hX9⟩) (h100) (by rfl) (by rfl) (by rfl) (by rfl) (by exact Nat.le_of_ble_eq_true rfl) (by decide) (by decide) (by omega) (by omega) (fun v ad1 F1 hK => ?_)
  obtain ⟨rfl, rfl, rfl⟩ := hK
  refine r_aload_n X dL_law_1160 (by rfl) ?_
  refine r_callV X dL_law_1161 kL_157 (c_gCosts g _ hl ad F _ _ _ _ _ _ _ _ _ _ hB hG) (hB.1) (by rfl) (by rfl) (by rfl) (by rfl) (by exact Nat.le_of_ble_eq_true rfl) (by decide) (by decide) (by omega) (by omega) (fun v ad2 F4 hK4 => ?_)
  obtain ⟨rfl, hF4, rfl, hM⟩ := hK4
  refine r_same X 1474 dL_law_1164 (by decide) (r_widen (by omega) (by omega) (next ad F4 _ _ ⟨⟨rfl, rfl, rfl⟩, ⟨f, (hF4 60000 (by omega)).trans h60⟩, _, _, _, _, _, _, _, _, ⟨_, hX9.frM (fun y hy => hF4 y (by omega))⟩, ⟨_, hM⟩, hI.more ht, by omega⟩))
set_option maxRecDepth 100000 in
set_option maxHeartbeats 4000000 in
theorem st_payable {M : Mx} {g : Gx} {mc ms : Nat} {K : Option Value → (Nat → Nat) → Pic → Prop} (X : Cx M g yL_law cL_law (some .boolean) 840 mc ms [] K noX) (hN : mN M = 7) {b L : Nat} {xs : Nat → Int32} (hSX : va_X b L xs (mS M) (mS M).heap) (hSb : b < (mS M).heap.size) (hSA : ¬ gA g b) (hSL : L ≤ 2560) {a1 a5 a6 : Nat} {ad : Nat → Nat} {F : Pic} {t : Nat} (ht : t < 512) (h5 : 5 * t + 5 ≤ L) (hI : INV g a1 a5 a6 ad F t) {kc ks : Nat} (hkc : kc + 32 ≤ mc) (hks : ks + 1000 ≤ ms) {o5 o6 : Option Value} (next : ∀ (ad' : Nat → Nat) (F' : Pic) (o5 o6 : Option Value), INV g a1 a5 a6 ad' F' (t + 1) → V M g ad' F' (kc + 32) (ks + 1000) 1474 [some (.ref b), some (.ref a1), some (.ref a5), some (.ref a6), some (.int (zI ((5 * t : Nat) : Int))), o5, o6] []) : V M g ad F kc ks 1293 [some (.ref b), some (.ref a1), some (.ref a5), some (.ref a6), some (.int (zI ((5 * t : Nat) : Int))), o5, o6] [] := by
  obtain ⟨⟨rfl, rfl, rfl⟩, ⟨f, h60⟩, td, nf, nk, nc, A, P, kf, sn, ⟨ser, hX9⟩, ⟨th, np, B, hB, hG⟩, hI, hsn⟩ := hI
  have hl := X.2.2.2.2.2.2
  have hI0 := hI.1
  have h100 := hX9.1.1
  refine r_aload_n X dL_law_1293 (by rfl) ?_
  refine r_callV X dL_law_1294 kL_164 (c_payable g _ hl ad F _ _ _ _ _ _ _ _ _ hX9 t hI) (h100) (by rfl) (by rfl) (by rfl) (by rfl) (by exact Nat.le_of_ble_eq_true rfl) (by decide) (by decide) (by omega) (by omega) (fun v ad1 F1 hK => ?_)
  obtain ⟨aa, hF1, hX1, pn, rfl, z1⟩ := hK
  have hB3 := hB.fr (F' := F1) (ad' := ad1) (fun y y1 y2 => hF1 y (by omega)) (fun y y1 y2 => aa y (by omega))
  rw [← aa 100 (by omega), ← aa 50000 (by omega), ← aa 60000 (by omega)] at next ⊢
  refine r_aload_n X dL_law_1297 (by rfl) ?_
  refine r_callV X dL_law_1298 kL_167 (c_mPayable g _ hl ad1 F1 _ _ _ _ _ _ _ _ _ _ hB3 hG t hI) (hB3.1) (by rfl) (by rfl) (by rfl) (by rfl) (by exact Nat.le_of_ble_eq_true rfl) (by decide) (by decide) (by omega) (by omega) (fun v ad2 F4 hK4 => ?_)
  obtain ⟨rfl, hF4, ⟨w, rfl, hw⟩, hM⟩ := hK4
  obtain rfl : w = sm nc pn := hw.uniq (z1 nc (Nat.le_refl _))
  refine r_same X 1474 dL_law_1301 (by decide) (r_widen (by omega) (by omega) (next ad1 F4 _ _ ⟨⟨rfl, rfl, rfl⟩, ⟨f, (hF4 60000 (by omega)).trans ((hF1 60000 (by omega)).trans h60)⟩, _, _, _, _, _, _, _, _, ⟨_, hX1.frM (fun y hy => hF4 y (by omega))⟩, ⟨_, hM⟩, hI.more ht, by omega⟩))
