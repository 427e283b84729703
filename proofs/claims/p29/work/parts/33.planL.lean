/-! ===== the plan: made, begun ===== -/
theorem zI_z : (0 : Int32) = zI 0 := rfl
theorem PR.s_np {g : Gx} {ad : Nat → Nat} {F : Pic} {np nc : Nat} {pl cl pn : Nat → Int} {sh : Nat → Nat → Int} {rc py : Nat → Nat} {qu ah vi : Nat → Int} (hP : PR g ad F np nc pl cl pn sh rc py qu ah vi) {a b : Nat} (ha : a ≤ 12) (hb : b ≤ 16) : PR g ad (pu F 200 (.inr (6, [.int (zI a), .int (zI b), .ref (ad 201), .ref (ad 202), .ref (ad 203), .ref (ad 204), .ref (ad 205), .ref (ad 206), .ref (ad 207), .ref (ad 208), .ref (ad 209)]))) a b pl cl pn sh rc py qu ah vi := by
  obtain ⟨⟨h0, h1, h2, h3, h4, h5, h6, h7, h8, h9⟩, hs, hnp, hnc⟩ := id hP
  exact ⟨⟨pu_s, (pu_n (by decide)).trans h1, (pu_n (by decide)).trans h2, (pu_n (by decide)).trans h3, (pu_n (by decide)).trans h4, (pu_n (by decide)).trans h5, (pu_n (by decide)).trans h6, (pu_n (by decide)).trans h7, (pu_n (by decide)).trans h8, (pu_n (by decide)).trans h9⟩, fun i hi => (pu_n (by omega)).trans (hs i hi), ha, hb⟩
set_option maxRecDepth 100000 in
set_option maxHeartbeats 4000000 in
theorem c_begin (g : Gx) (l : Launch) (hl : l.stackTraces = false) (ad : Nat → Nat) (F : Pic) {np nc : Nat} {pl cl pn : Nat → Int} {sh : Nat → Nat → Int} {rc py : Nat → Nat} {qu ah vi : Nat → Int} (hP : PR g ad F np nc pl cl pn sh rc py qu ah vi) (a b : Nat) (ha : a ≤ 12) (hb : b ≤ 16) : Ct g l yX3_begin cX3_begin 5 none 1 0 0 [.ref (ad 200), .int (zI (a : Int)), .int (zI (b : Int))] ad F (fun v ad' F' => v = none ∧ ad = ad' ∧ FrP F F' ∧ ∃ sh' py', PR g ad F' a b pl cl pn sh' rc py' qu ah vi ∧ ∀ p, p < a → py' p = 0 ∧ ∀ c, c < b → sh' p c = 0) := by
  refine Ct_of hl rfl [some (.ref (ad 200)), some (.int (zI (a : Int))), some (.int (zI (b : Int))), none, none] (Nat.le_of_ble_eq_true rfl) (fun _ h => h) ?_
  intro M hL hN X
  subst hL
  obtain ⟨⟨h0, h1, h2, h3, h4, h5, h6, h7, h8, h9⟩, hs, hnp, hnc⟩ := id hP
  refine r_aload_n X dX3_begin_0 (by rfl) ?_
  refine r_iconst X dX3_begin_1 rfl ?_
  refine r_iload_n X dX3_begin_2 (by rfl) ?_
  refine r_bipush X dX3_begin_3 (by decide) ?_
  refine r_mmin X dX3_begin_5 w459 w307 w12 w308 (by unfold inR; omega) (by unfold inR; omega) (by exact Nat.le_of_ble_eq_true rfl) (by decide) (by omega) (by omega) ?_
  refine r_mmax X dX3_begin_8 w460 w278 w12 w279 (by unfold inR; omega) (by unfold inR; omega) (by exact Nat.le_of_ble_eq_true rfl) (by decide) (by omega) (by omega) ?_
  refine W_int (b := zI (a : Int)) (congrArg zI (by omega)) ?_
  refine r_put X dX3_begin_11 fwX3_50_6 (by assumption) (by omega) (by exact Nat.le_of_ble_eq_true rfl) (by rfl) (by rfl) ?_
  dsimp only [List.set]
  refine (fun (k : ∀ F1 : Pic, (PR g ad F1 _ _ _ _ _ _ _ _ _ _ _) → (FrP F F1) → V M g ad F1 _ _ _ _ _) => k _ (hP.s_np ha hnc) (FrP.pu ⟨by omega, by omega⟩)) ?_
  intro F1 hP1 hF1
  obtain ⟨⟨i0, i1, i2, i3, i4, i5, i6, i7, i8, i9⟩, is, -, -⟩ := id hP1
  refine r_aload_n X dX3_begin_14 (by rfl) ?_
  refine r_iconst X dX3_begin_15 rfl ?_
  refine r_iload_n X dX3_begin_16 (by rfl) ?_
  refine r_bipush X dX3_begin_17 (by decide) ?_
  refine r_mmin X dX3_begin_19 w459 w307 w12 w308 (by unfold inR; omega) (by unfold inR; omega) (by exact Nat.le_of_ble_eq_true rfl) (by decide) (by omega) (by omega) ?_
  refine r_mmax X dX3_begin_22 w460 w278 w12 w279 (by unfold inR; omega) (by unfold inR; omega) (by exact Nat.le_of_ble_eq_true rfl) (by decide) (by omega) (by omega) ?_
  refine W_int (b := zI (b : Int)) (congrArg zI (by omega)) ?_
  refine r_put X dX3_begin_25 fwX3_54_6 (by assumption) (by omega) (by exact Nat.le_of_ble_eq_true rfl) (by rfl) (by rfl) ?_
  dsimp only [List.set]
  refine (fun (k : ∀ F2 : Pic, (PR g ad F2 _ _ _ _ _ _ _ _ _ _ _) → (FrP F1 F2) → V M g ad F2 _ _ _ _ _) => k _ (hP1.s_np ha hb) (FrP.pu ⟨by omega, by omega⟩)) ?_
  intro F2 hP2 hF2
  refine r_iconst X dX3_begin_28 rfl ?_
  refine r_istore_n X dX3_begin_29 (by rw [hN]; decide) (by rfl) ?_
  dsimp only [List.set]
  have outer : ∀ (n i : Nat) (F3 : Pic) (sh3 : Nat → Nat → Int) (py3 : Nat → Nat), a - i = n → i ≤ a → PR g ad F3 a b pl cl pn sh3 rc py3 qu ah vi → FrP F F3 → (∀ p, p < i → py3 p = 0 ∧ ∀ c, c < b → sh3 p c = 0) →
      V M g ad F3 0 0 30 [some (.ref (ad 200)), some (.int (zI (a : Int))), some (.int (zI (b : Int))), some (.int (zI (i : Int))), none] [] := by
    intro n
    induction n using Nat.strongRecOn with
    | _ n ih =>
      intro i F3 sh3 py3 hn hi hP3 hF3 hz
      obtain ⟨⟨k0, k1, k2, k3, k4, k5, k6, k7, k8, k9⟩, ks, -, -⟩ := id hP3
      refine r_iload_n X dX3_begin_30 (by rfl) ?_
      refine r_aload_n X dX3_begin_31 (by rfl) ?_
      refine r_get X dX3_begin_32 fgX3_50_6 (by assumption) (by rfl) ?_
      refine r_icmp_ge X 79 dX3_begin_35 (by decide) (by unfold inR; omega) (by unfold inR; omega) (fun a1 => ?_) (fun a1 => ?_)
      · exact r_vret X rfl dX3_begin_79 (⟨rfl, rfl, hF3, sh3, py3, hP3, fun p hp => hz p (by omega)⟩) (by omega) (by omega)
      · refine r_aload_n X dX3_begin_38 (by rfl) ?_
        refine r_get X dX3_begin_39 fgX3_29_6 (by assumption) (by rfl) ?_
        refine r_iload_n X dX3_begin_42 (by rfl) ?_
        refine r_iconst X dX3_begin_43 rfl ?_
        refine r_ist X _ dX3_begin_44 (by assumption) (by omega) (by rfl) (by omega) (by first | decide | omega) ?_
        refine (fun (k : ∀ F4 : Pic, (PR g ad F4 _ _ _ _ _ _ _ _ _ _ _) → (FrP F3 F4) → V M g ad F4 _ _ _ _ _) => k _ (hP3.s_py i 0) (FrP.pu ⟨by omega, by omega⟩)) ?_
        intro F4 hP4 hF4
        refine r_iconst X dX3_begin_45 rfl ?_
        refine r_istore X dX3_begin_46 (by rw [hN]; decide) (by rfl) ?_
        dsimp only [List.set]
        have inner : ∀ (m j : Nat) (F5 : Pic) (sh5 : Nat → Nat → Int), b - j = m → j ≤ b → PR g ad F5 a b pl cl pn sh5 rc (un py3 i 0) qu ah vi → FrP F F5 → (∀ p, p < i → ∀ c, c < b → sh5 p c = 0) → (∀ c, c < j → sh5 i c = 0) →
            V M g ad F5 0 0 48 [some (.ref (ad 200)), some (.int (zI (a : Int))), some (.int (zI (b : Int))), some (.int (zI (i : Int))), some (.int (zI (j : Int)))] [] := by
          intro m
          induction m using Nat.strongRecOn with
          | _ m ih2 =>
            intro j F5 sh5 hm hj hP5 hF5 hz5 hzi
            obtain ⟨⟨k0, k1, k2, k3, k4, k5, k6, k7, k8, k9⟩, ks, -, -⟩ := id hP5
            have hsp := ks i (by omega)
            refine r_iload X dX3_begin_48 (by rfl) ?_
            refine r_aload_n X dX3_begin_50 (by rfl) ?_
            refine r_get X dX3_begin_51 fgX3_54_6 (by assumption) (by rfl) ?_
            refine r_icmp_ge X 73 dX3_begin_54 (by decide) (by unfold inR; omega) (by unfold inR; omega) (fun a2 => ?_) (fun a2 => ?_)
            · refine r_iinc X dX3_begin_73 (by rfl) (by rw [hN]; decide) (by rfl) ?_
              dsimp only [List.set]
              refine r_goto X dX3_begin_76 30 (by decide) ?_
              refine r_ls (fun q v => ?_) (ih (a - (i + 1)) (by omega) (i + 1) F5 sh5 (un py3 i 0) rfl (by omega) hP5 hF5 (fun p hp => ?_))
              · match q with
                | 0 => exact id
                | 1 => exact id
                | 2 => exact id
                | 3 => exact id
                | 4 => exact fun h => by cases h
                | q + 5 => exact fun h => by cases h
              · by_cases e : p = i
                · subst e; exact ⟨if_pos rfl, fun c hc => hzi c (by omega)⟩
                · exact ⟨(if_neg e).trans (hz p (by omega)).1, hz5 p (by omega)⟩
            · refine r_aload_n X dX3_begin_57 (by rfl) ?_
              refine r_get X dX3_begin_58 fgX3_23_6 (by assumption) (by rfl) ?_
              refine r_iload_n X dX3_begin_61 (by rfl) ?_
              refine r_aaldQ X _ dX3_begin_62 (by assumption) (by rfl) (by omega) (by first | decide | omega) (by exact (show some (ad (220 + i % 16)) = some (ad (220 + i)) by rw [Nat.mod_eq_of_lt (by omega)])) ?_
              refine r_iload X dX3_begin_63 (by rfl) ?_
              refine r_iconst X dX3_begin_65 rfl ?_
              refine r_ist X _ dX3_begin_66 (by assumption) (by omega) (by rfl) (by omega) (by first | decide | omega) ?_
              refine (fun (k : ∀ F6 : Pic, (PR g ad F6 _ _ _ _ _ _ _ _ _ _ _) → (FrP F5 F6) → V M g ad F6 _ _ _ _ _) => k _ (hP5.s_sh (p := i) (by omega) j 0) (FrP.pu ⟨by omega, by omega⟩)) ?_
              intro F6 hP6 hF6
              refine r_iinc X dX3_begin_67 (by rfl) (by rw [hN]; decide) (by rfl) ?_
              dsimp only [List.set]
              refine r_goto X dX3_begin_70 48 (by decide) ?_
              refine ih2 (b - (j + 1)) (by omega) (j + 1) F6 _ rfl (by omega) hP6 (hF5.tr hF6) (fun p hp c hc => ?_) (fun c hc => ?_)
              · exact (if_neg (by omega)).trans (hz5 p hp c hc)
              · by_cases e : c = j
                · exact if_pos ⟨rfl, e⟩
                · exact (if_neg (fun q => e q.2)).trans (hzi c (by omega))
        exact inner b 0 F4 sh3 (by omega) (by omega) hP4 (hF3.tr hF4) (fun p hp => (hz p hp).2) (fun c hc => by omega)
  exact outer a 0 F2 sh py (by omega) (by omega) hP2 (hF1.tr hF2) (fun p hp => by omega)
set_option maxRecDepth 100000 in
set_option maxHeartbeats 4000000 in
theorem c_planInit (g : Gx) (l : Launch) (hl : l.stackTraces = false) (ad : Nat → Nat) (F : Pic) (h200 : F 200 = some (.inr (6, [.int 0, .int 0, .null, .null, .null, .null, .null, .null, .null, .null, .null]))) (hn : ∀ r, 201 ≤ r → r < 260 → F r = none) : Ct g l yX3_init cX3_init 1 none 1 21 308 [.ref (ad 200)] ad F (fun v ad' F' => v = none ∧ FrP F F' ∧ (∀ x, (x ≤ 200 ∨ 260 ≤ x) → ad' x = ad x) ∧ PR g ad' F' 0 0 (fun _ => 0) (fun _ => 0) (fun _ => 0) (fun _ _ => 0) (fun _ => 0) (fun _ => 0) (fun _ => 0) (fun _ => 0) (fun _ => 0)) := by
  refine Ct_of hl rfl [some (.ref (ad 200))] (Nat.le_of_ble_eq_true rfl) (fun _ h => h) ?_
  intro M hL hN X
  subst hL
  have hobj := h200
  have hn201 := hn 201 (by decide) (by decide)
  have hn202 := hn 202 (by decide) (by decide)
  have hn203 := hn 203 (by decide) (by decide)
  have hn204 := hn 204 (by decide) (by decide)
  have hn205 := hn 205 (by decide) (by decide)
  have hn206 := hn 206 (by decide) (by decide)
  have hn207 := hn 207 (by decide) (by decide)
  have hn208 := hn 208 (by decide) (by decide)
  have hn209 := hn 209 (by decide) (by decide)
  refine r_aload_n X dX3_init_0 (by rfl) ?_
  refine r_objInit X dX3_init_1 w61 w28 w29 (by decide) (Nat.le_of_ble_eq_true rfl) ?_
  have hfr : ∀ x, (x ≤ 200 ∨ 260 ≤ x ∨ x = 204 ∨ (220 ≤ x ∧ x < 232)) ∧ x ≠ 200 → F x = F x := fun _ _ => rfl
  have hAd : ∀ x, (x ≤ 200 ∨ 260 ≤ x ∨ x = 204 ∨ (220 ≤ x ∧ x < 232)) → ad x = ad x := fun _ _ => rfl
  refine r_aload_n X dX3_init_4 (by rfl) ?_
  refine r_bipush X dX3_init_5 (by decide) ?_
  refine r_newI X 201 12 dX3_init_7 w98 (by rfl) (by decide) (by decide) hn201 (by omega) (by omega) (fun ad1 hA1 => ?_)
  rw [← hA1 200 (by decide)]
  refine r_putF X dX3_init_9 ffX3_9_6 rfl ((pu_n (by decide)).trans hobj) (by decide) (Nat.le_of_ble_eq_true rfl) rfl rfl ?_
  dsimp only [List.set]
  have hAd : ∀ x, (x ≤ 200 ∨ 260 ≤ x ∨ x = 204 ∨ (220 ≤ x ∧ x < 232)) → ad1 x = ad x := fun x hx => (hA1 x (by omega)).trans (hAd x hx)
  refine (fun (k : ∀ F1 : Pic, (F1 200 = some (.inr (6, [.int 0, .int 0, .ref (ad1 201), .null, .null, .null, .null, .null, .null, .null, .null]))) → (F1 201 = some (cI g 12 (fun _ => 0))) → (F1 202 = none) → (F1 203 = none) → (F1 204 = none) → (F1 205 = none) → (F1 206 = none) → (F1 207 = none) → (F1 208 = none) → (F1 209 = none) → (∀ x, (x ≤ 200 ∨ 260 ≤ x ∨ x = 204 ∨ (220 ≤ x ∧ x < 232)) ∧ x ≠ 200 → F1 x = F x) → V M g ad1 F1 _ _ _ _ _) => k _ (pu_s) ((pu_n (by decide)).trans pu_s) ((pu_n (by decide)).trans ((pu_n (by decide)).trans hn202)) ((pu_n (by decide)).trans ((pu_n (by decide)).trans hn203)) ((pu_n (by decide)).trans ((pu_n (by decide)).trans hn204)) ((pu_n (by decide)).trans ((pu_n (by decide)).trans hn205)) ((pu_n (by decide)).trans ((pu_n (by decide)).trans hn206)) ((pu_n (by decide)).trans ((pu_n (by decide)).trans hn207)) ((pu_n (by decide)).trans ((pu_n (by decide)).trans hn208)) ((pu_n (by decide)).trans ((pu_n (by decide)).trans hn209)) (fun x hx => (pu_n (by omega)).trans ((pu_n (by omega)).trans (hfr x hx)))) ?_
  clear hobj hn202 hn203 hn204 hn205 hn206 hn207 hn208 hn209 hfr
  intro F1 hobj hc201 hn202 hn203 hn204 hn205 hn206 hn207 hn208 hn209 hfr
  refine r_aload_n X dX3_init_12 (by rfl) ?_
  refine r_bipush X dX3_init_13 (by decide) ?_
  refine r_newI X 202 16 dX3_init_15 w98 (by rfl) (by decide) (by decide) hn202 (by omega) (by omega) (fun ad2 hA2 => ?_)
  rw [← hA2 200 (by decide)]
  refine r_putF X dX3_init_17 ffX3_15_6 rfl ((pu_n (by decide)).trans hobj) (by decide) (Nat.le_of_ble_eq_true rfl) rfl rfl ?_
  dsimp only [List.set]
  have hAd : ∀ x, (x ≤ 200 ∨ 260 ≤ x ∨ x = 204 ∨ (220 ≤ x ∧ x < 232)) → ad2 x = ad x := fun x hx => (hA2 x (by omega)).trans (hAd x hx)
  refine (fun (k : ∀ F2 : Pic, (F2 200 = some (.inr (6, [.int 0, .int 0, .ref (ad2 201), .ref (ad2 202), .null, .null, .null, .null, .null, .null, .null]))) → (F2 201 = some (cI g 12 (fun _ => 0))) → (F2 202 = some (cI g 16 (fun _ => 0))) → (F2 203 = none) → (F2 204 = none) → (F2 205 = none) → (F2 206 = none) → (F2 207 = none) → (F2 208 = none) → (F2 209 = none) → (∀ x, (x ≤ 200 ∨ 260 ≤ x ∨ x = 204 ∨ (220 ≤ x ∧ x < 232)) ∧ x ≠ 200 → F2 x = F x) → V M g ad2 F2 _ _ _ _ _) => k _ (pu_s.trans (by rw [hA2 201 (by decide)])) ((pu_n (by decide)).trans ((pu_n (by decide)).trans hc201)) ((pu_n (by decide)).trans pu_s) ((pu_n (by decide)).trans ((pu_n (by decide)).trans hn203)) ((pu_n (by decide)).trans ((pu_n (by decide)).trans hn204)) ((pu_n (by decide)).trans ((pu_n (by decide)).trans hn205)) ((pu_n (by decide)).trans ((pu_n (by decide)).trans hn206)) ((pu_n (by decide)).trans ((pu_n (by decide)).trans hn207)) ((pu_n (by decide)).trans ((pu_n (by decide)).trans hn208)) ((pu_n (by decide)).trans ((pu_n (by decide)).trans hn209)) (fun x hx => (pu_n (by omega)).trans ((pu_n (by omega)).trans (hfr x hx)))) ?_
  clear hobj hc201 hn203 hn204 hn205 hn206 hn207 hn208 hn209 hfr
  intro F2 hobj hc201 hc202 hn203 hn204 hn205 hn206 hn207 hn208 hn209 hfr
  refine r_aload_n X dX3_init_20 (by rfl) ?_
  refine r_bipush X dX3_init_21 (by decide) ?_
  refine r_newI X 203 16 dX3_init_23 w98 (by rfl) (by decide) (by decide) hn203 (by omega) (by omega) (fun ad3 hA3 => ?_)
  rw [← hA3 200 (by decide)]
  refine r_putF X dX3_init_25 ffX3_18_6 rfl ((pu_n (by decide)).trans hobj) (by decide) (Nat.le_of_ble_eq_true rfl) rfl rfl ?_
  dsimp only [List.set]
  have hAd : ∀ x, (x ≤ 200 ∨ 260 ≤ x ∨ x = 204 ∨ (220 ≤ x ∧ x < 232)) → ad3 x = ad x := fun x hx => (hA3 x (by omega)).trans (hAd x hx)
  refine (fun (k : ∀ F3 : Pic, (F3 200 = some (.inr (6, [.int 0, .int 0, .ref (ad3 201), .ref (ad3 202), .ref (ad3 203), .null, .null, .null, .null, .null, .null]))) → (F3 201 = some (cI g 12 (fun _ => 0))) → (F3 202 = some (cI g 16 (fun _ => 0))) → (F3 203 = some (cI g 16 (fun _ => 0))) → (F3 204 = none) → (F3 205 = none) → (F3 206 = none) → (F3 207 = none) → (F3 208 = none) → (F3 209 = none) → (∀ x, (x ≤ 200 ∨ 260 ≤ x ∨ x = 204 ∨ (220 ≤ x ∧ x < 232)) ∧ x ≠ 200 → F3 x = F x) → V M g ad3 F3 _ _ _ _ _) => k _ (pu_s.trans (by rw [hA3 201 (by decide), hA3 202 (by decide)])) ((pu_n (by decide)).trans ((pu_n (by decide)).trans hc201)) ((pu_n (by decide)).trans ((pu_n (by decide)).trans hc202)) ((pu_n (by decide)).trans pu_s) ((pu_n (by decide)).trans ((pu_n (by decide)).trans hn204)) ((pu_n (by decide)).trans ((pu_n (by decide)).trans hn205)) ((pu_n (by decide)).trans ((pu_n (by decide)).trans hn206)) ((pu_n (by decide)).trans ((pu_n (by decide)).trans hn207)) ((pu_n (by decide)).trans ((pu_n (by decide)).trans hn208)) ((pu_n (by decide)).trans ((pu_n (by decide)).trans hn209)) (fun x hx => (pu_n (by omega)).trans ((pu_n (by omega)).trans (hfr x hx)))) ?_
  clear hobj hc201 hc202 hn204 hn205 hn206 hn207 hn208 hn209 hfr
  intro F3 hobj hc201 hc202 hc203 hn204 hn205 hn206 hn207 hn208 hn209 hfr
  refine r_aload_n X dX3_init_28 (by rfl) ?_
  refine r_bipush X dX3_init_29 (by decide) ?_
  refine r_bipush X dX3_init_31 (by decide) ?_
  refine r_mna X 204 220 12 16 dX3_init_33 w62 w98 (by rfl) (by rfl) (by decide) (by decide) (by decide) (by decide) (by decide) hn204 (fun i hi => (hfr (220 + i) (by omega)).trans (hn _ (by omega) (by omega))) (by omega) (by omega) (fun ad4 G4 hA4 hO4 hI4 hK4 => ?_)
  rw [← hA4 200 (by decide) (fun i _ => by omega)]
  refine r_putF X dX3_init_37 ffX3_23_6 rfl ((hK4 200 (by decide) (fun i _ => by omega)).trans hobj) (by decide) (Nat.le_of_ble_eq_true rfl) rfl rfl ?_
  dsimp only [List.set]
  have hAd : ∀ x, (x ≤ 200 ∨ 260 ≤ x) → ad4 x = ad x := fun x hx => (hA4 x (by omega) (fun i _ => by omega)).trans (hAd x (by omega))
  refine (fun (k : ∀ F4 : Pic, F4 200 = some (.inr (6, [.int 0, .int 0, .ref (ad4 201), .ref (ad4 202), .ref (ad4 203), .ref (ad4 204), .null, .null, .null, .null, .null])) → F4 201 = some (cI g 12 (fun _ => 0)) → F4 202 = some (cI g 16 (fun _ => 0)) → F4 203 = some (cI g 16 (fun _ => 0)) → F4 204 = some (cQ g 12 (fun i => some (ad4 (220 + i % 16)))) → (∀ i, i < 12 → F4 (220 + i) = some (cI g 16 (fun _ => 0))) → F4 205 = none → F4 206 = none → F4 207 = none → F4 208 = none → F4 209 = none → (∀ x, (x ≤ 200 ∨ 260 ≤ x) ∧ x ≠ 200 → F4 x = F x) → V M g ad4 F4 _ _ _ _ _) => k _
    (pu_s.trans (by rw [hA4 201 (by decide) (fun i _ => by omega), hA4 202 (by decide) (fun i _ => by omega), hA4 203 (by decide) (fun i _ => by omega)]))
    ((pu_n (by decide)).trans ((hK4 201 (by decide) (fun i _ => by omega)).trans hc201)) ((pu_n (by decide)).trans ((hK4 202 (by decide) (fun i _ => by omega)).trans hc202)) ((pu_n (by decide)).trans ((hK4 203 (by decide) (fun i _ => by omega)).trans hc203)) ((pu_n (by decide)).trans hO4) (fun i hi => (pu_n (by omega)).trans (hI4 i hi))
    ((pu_n (by decide)).trans ((hK4 205 (by decide) (fun i _ => by omega)).trans hn205)) ((pu_n (by decide)).trans ((hK4 206 (by decide) (fun i _ => by omega)).trans hn206)) ((pu_n (by decide)).trans ((hK4 207 (by decide) (fun i _ => by omega)).trans hn207)) ((pu_n (by decide)).trans ((hK4 208 (by decide) (fun i _ => by omega)).trans hn208)) ((pu_n (by decide)).trans ((hK4 209 (by decide) (fun i _ => by omega)).trans hn209))
    (fun x hx => (pu_n (by omega)).trans ((hK4 x (by omega) (fun i _ => by omega)).trans (hfr x (by omega))))) ?_
  clear hobj hc201 hc202 hc203 hn204 hn205 hn206 hn207 hn208 hn209 hfr
  intro F4 hobj hc201 hc202 hc203 hc204 hcI hn205 hn206 hn207 hn208 hn209 hfr
  refine r_aload_n X dX3_init_40 (by rfl) ?_
  refine r_bipush X dX3_init_41 (by decide) ?_
  refine r_newI X 205 12 dX3_init_43 w98 (by rfl) (by decide) (by decide) hn205 (by omega) (by omega) (fun ad5 hA5 => ?_)
  rw [← hA5 200 (by decide)]
  refine r_putF X dX3_init_45 ffX3_26_6 rfl ((pu_n (by decide)).trans hobj) (by decide) (Nat.le_of_ble_eq_true rfl) rfl rfl ?_
  dsimp only [List.set]
  have hAd : ∀ x, (x ≤ 200 ∨ 260 ≤ x) → ad5 x = ad x := fun x hx => (hA5 x (by omega)).trans (hAd x hx)
  refine (fun (k : ∀ F5 : Pic, (F5 200 = some (.inr (6, [.int 0, .int 0, .ref (ad5 201), .ref (ad5 202), .ref (ad5 203), .ref (ad5 204), .ref (ad5 205), .null, .null, .null, .null]))) → (F5 201 = some (cI g 12 (fun _ => 0))) → (F5 202 = some (cI g 16 (fun _ => 0))) → (F5 203 = some (cI g 16 (fun _ => 0))) → (F5 204 = some (cQ g 12 (fun i => some (ad5 (220 + i % 16))))) → (F5 205 = some (cI g 12 (fun _ => 0))) → (F5 206 = none) → (F5 207 = none) → (F5 208 = none) → (F5 209 = none) → (∀ i, i < 12 → F5 (220 + i) = some (cI g 16 (fun _ => 0))) → (∀ x, (x ≤ 200 ∨ 260 ≤ x) ∧ x ≠ 200 → F5 x = F x) → V M g ad5 F5 _ _ _ _ _) => k _ (pu_s.trans (by rw [hA5 201 (by decide), hA5 202 (by decide), hA5 203 (by decide), hA5 204 (by decide)])) ((pu_n (by decide)).trans ((pu_n (by decide)).trans hc201)) ((pu_n (by decide)).trans ((pu_n (by decide)).trans hc202)) ((pu_n (by decide)).trans ((pu_n (by decide)).trans hc203)) (((pu_n (by decide)).trans ((pu_n (by decide)).trans hc204)).trans (by rw [show (fun i : Nat => some (ad5 (220 + i % 16))) = (fun i : Nat => some (ad4 (220 + i % 16))) from funext fun i => by rw [hA5 _ (by omega)]])) ((pu_n (by decide)).trans pu_s) ((pu_n (by decide)).trans ((pu_n (by decide)).trans hn206)) ((pu_n (by decide)).trans ((pu_n (by decide)).trans hn207)) ((pu_n (by decide)).trans ((pu_n (by decide)).trans hn208)) ((pu_n (by decide)).trans ((pu_n (by decide)).trans hn209)) (fun i hi => (pu_n (by omega)).trans ((pu_n (by omega)).trans (hcI i hi))) (fun x hx => (pu_n (by omega)).trans ((pu_n (by omega)).trans (hfr x hx)))) ?_
  clear hobj hc201 hc202 hc203 hc204 hn206 hn207 hn208 hn209 hcI hfr
  intro F5 hobj hc201 hc202 hc203 hc204 hc205 hn206 hn207 hn208 hn209 hcI hfr
  refine r_aload_n X dX3_init_48 (by rfl) ?_
  refine r_bipush X dX3_init_49 (by decide) ?_
  refine r_newI X 206 12 dX3_init_51 w98 (by rfl) (by decide) (by decide) hn206 (by omega) (by omega) (fun ad6 hA6 => ?_)
  rw [← hA6 200 (by decide)]
  refine r_putF X dX3_init_53 ffX3_29_6 rfl ((pu_n (by decide)).trans hobj) (by decide) (Nat.le_of_ble_eq_true rfl) rfl rfl ?_
  dsimp only [List.set]
  have hAd : ∀ x, (x ≤ 200 ∨ 260 ≤ x) → ad6 x = ad x := fun x hx => (hA6 x (by omega)).trans (hAd x hx)
  refine (fun (k : ∀ F6 : Pic, (F6 200 = some (.inr (6, [.int 0, .int 0, .ref (ad6 201), .ref (ad6 202), .ref (ad6 203), .ref (ad6 204), .ref (ad6 205), .ref (ad6 206), .null, .null, .null]))) → (F6 201 = some (cI g 12 (fun _ => 0))) → (F6 202 = some (cI g 16 (fun _ => 0))) → (F6 203 = some (cI g 16 (fun _ => 0))) → (F6 204 = some (cQ g 12 (fun i => some (ad6 (220 + i % 16))))) → (F6 205 = some (cI g 12 (fun _ => 0))) → (F6 206 = some (cI g 12 (fun _ => 0))) → (F6 207 = none) → (F6 208 = none) → (F6 209 = none) → (∀ i, i < 12 → F6 (220 + i) = some (cI g 16 (fun _ => 0))) → (∀ x, (x ≤ 200 ∨ 260 ≤ x) ∧ x ≠ 200 → F6 x = F x) → V M g ad6 F6 _ _ _ _ _) => k _ (pu_s.trans (by rw [hA6 201 (by decide), hA6 202 (by decide), hA6 203 (by decide), hA6 204 (by decide), hA6 205 (by decide)])) ((pu_n (by decide)).trans ((pu_n (by decide)).trans hc201)) ((pu_n (by decide)).trans ((pu_n (by decide)).trans hc202)) ((pu_n (by decide)).trans ((pu_n (by decide)).trans hc203)) (((pu_n (by decide)).trans ((pu_n (by decide)).trans hc204)).trans (by rw [show (fun i : Nat => some (ad6 (220 + i % 16))) = (fun i : Nat => some (ad5 (220 + i % 16))) from funext fun i => by rw [hA6 _ (by omega)]])) ((pu_n (by decide)).trans ((pu_n (by decide)).trans hc205)) ((pu_n (by decide)).trans pu_s) ((pu_n (by decide)).trans ((pu_n (by decide)).trans hn207)) ((pu_n (by decide)).trans ((pu_n (by decide)).trans hn208)) ((pu_n (by decide)).trans ((pu_n (by decide)).trans hn209)) (fun i hi => (pu_n (by omega)).trans ((pu_n (by omega)).trans (hcI i hi))) (fun x hx => (pu_n (by omega)).trans ((pu_n (by omega)).trans (hfr x hx)))) ?_
  clear hobj hc201 hc202 hc203 hc204 hc205 hn207 hn208 hn209 hcI hfr
  intro F6 hobj hc201 hc202 hc203 hc204 hc205 hc206 hn207 hn208 hn209 hcI hfr
  refine r_aload_n X dX3_init_56 (by rfl) ?_
  refine r_bipush X dX3_init_57 (by decide) ?_
  refine r_newI X 207 12 dX3_init_59 w98 (by rfl) (by decide) (by decide) hn207 (by omega) (by omega) (fun ad7 hA7 => ?_)
  rw [← hA7 200 (by decide)]
  refine r_putF X dX3_init_61 ffX3_32_6 rfl ((pu_n (by decide)).trans hobj) (by decide) (Nat.le_of_ble_eq_true rfl) rfl rfl ?_
  dsimp only [List.set]
  have hAd : ∀ x, (x ≤ 200 ∨ 260 ≤ x) → ad7 x = ad x := fun x hx => (hA7 x (by omega)).trans (hAd x hx)
  refine (fun (k : ∀ F7 : Pic, (F7 200 = some (.inr (6, [.int 0, .int 0, .ref (ad7 201), .ref (ad7 202), .ref (ad7 203), .ref (ad7 204), .ref (ad7 205), .ref (ad7 206), .ref (ad7 207), .null, .null]))) → (F7 201 = some (cI g 12 (fun _ => 0))) → (F7 202 = some (cI g 16 (fun _ => 0))) → (F7 203 = some (cI g 16 (fun _ => 0))) → (F7 204 = some (cQ g 12 (fun i => some (ad7 (220 + i % 16))))) → (F7 205 = some (cI g 12 (fun _ => 0))) → (F7 206 = some (cI g 12 (fun _ => 0))) → (F7 207 = some (cI g 12 (fun _ => 0))) → (F7 208 = none) → (F7 209 = none) → (∀ i, i < 12 → F7 (220 + i) = some (cI g 16 (fun _ => 0))) → (∀ x, (x ≤ 200 ∨ 260 ≤ x) ∧ x ≠ 200 → F7 x = F x) → V M g ad7 F7 _ _ _ _ _) => k _ (pu_s.trans (by rw [hA7 201 (by decide), hA7 202 (by decide), hA7 203 (by decide), hA7 204 (by decide), hA7 205 (by decide), hA7 206 (by decide)])) ((pu_n (by decide)).trans ((pu_n (by decide)).trans hc201)) ((pu_n (by decide)).trans ((pu_n (by decide)).trans hc202)) ((pu_n (by decide)).trans ((pu_n (by decide)).trans hc203)) (((pu_n (by decide)).trans ((pu_n (by decide)).trans hc204)).trans (by rw [show (fun i : Nat => some (ad7 (220 + i % 16))) = (fun i : Nat => some (ad6 (220 + i % 16))) from funext fun i => by rw [hA7 _ (by omega)]])) ((pu_n (by decide)).trans ((pu_n (by decide)).trans hc205)) ((pu_n (by decide)).trans ((pu_n (by decide)).trans hc206)) ((pu_n (by decide)).trans pu_s) ((pu_n (by decide)).trans ((pu_n (by decide)).trans hn208)) ((pu_n (by decide)).trans ((pu_n (by decide)).trans hn209)) (fun i hi => (pu_n (by omega)).trans ((pu_n (by omega)).trans (hcI i hi))) (fun x hx => (pu_n (by omega)).trans ((pu_n (by omega)).trans (hfr x hx)))) ?_
  clear hobj hc201 hc202 hc203 hc204 hc205 hc206 hn208 hn209 hcI hfr
  intro F7 hobj hc201 hc202 hc203 hc204 hc205 hc206 hc207 hn208 hn209 hcI hfr
  refine r_aload_n X dX3_init_64 (by rfl) ?_
  refine r_bipush X dX3_init_65 (by decide) ?_
  refine r_newI X 208 12 dX3_init_67 w98 (by rfl) (by decide) (by decide) hn208 (by omega) (by omega) (fun ad8 hA8 => ?_)
  rw [← hA8 200 (by decide)]
  refine r_putF X dX3_init_69 ffX3_35_6 rfl ((pu_n (by decide)).trans hobj) (by decide) (Nat.le_of_ble_eq_true rfl) rfl rfl ?_
  dsimp only [List.set]
  have hAd : ∀ x, (x ≤ 200 ∨ 260 ≤ x) → ad8 x = ad x := fun x hx => (hA8 x (by omega)).trans (hAd x hx)
  refine (fun (k : ∀ F8 : Pic, (F8 200 = some (.inr (6, [.int 0, .int 0, .ref (ad8 201), .ref (ad8 202), .ref (ad8 203), .ref (ad8 204), .ref (ad8 205), .ref (ad8 206), .ref (ad8 207), .ref (ad8 208), .null]))) → (F8 201 = some (cI g 12 (fun _ => 0))) → (F8 202 = some (cI g 16 (fun _ => 0))) → (F8 203 = some (cI g 16 (fun _ => 0))) → (F8 204 = some (cQ g 12 (fun i => some (ad8 (220 + i % 16))))) → (F8 205 = some (cI g 12 (fun _ => 0))) → (F8 206 = some (cI g 12 (fun _ => 0))) → (F8 207 = some (cI g 12 (fun _ => 0))) → (F8 208 = some (cI g 12 (fun _ => 0))) → (F8 209 = none) → (∀ i, i < 12 → F8 (220 + i) = some (cI g 16 (fun _ => 0))) → (∀ x, (x ≤ 200 ∨ 260 ≤ x) ∧ x ≠ 200 → F8 x = F x) → V M g ad8 F8 _ _ _ _ _) => k _ (pu_s.trans (by rw [hA8 201 (by decide), hA8 202 (by decide), hA8 203 (by decide), hA8 204 (by decide), hA8 205 (by decide), hA8 206 (by decide), hA8 207 (by decide)])) ((pu_n (by decide)).trans ((pu_n (by decide)).trans hc201)) ((pu_n (by decide)).trans ((pu_n (by decide)).trans hc202)) ((pu_n (by decide)).trans ((pu_n (by decide)).trans hc203)) (((pu_n (by decide)).trans ((pu_n (by decide)).trans hc204)).trans (by rw [show (fun i : Nat => some (ad8 (220 + i % 16))) = (fun i : Nat => some (ad7 (220 + i % 16))) from funext fun i => by rw [hA8 _ (by omega)]])) ((pu_n (by decide)).trans ((pu_n (by decide)).trans hc205)) ((pu_n (by decide)).trans ((pu_n (by decide)).trans hc206)) ((pu_n (by decide)).trans ((pu_n (by decide)).trans hc207)) ((pu_n (by decide)).trans pu_s) ((pu_n (by decide)).trans ((pu_n (by decide)).trans hn209)) (fun i hi => (pu_n (by omega)).trans ((pu_n (by omega)).trans (hcI i hi))) (fun x hx => (pu_n (by omega)).trans ((pu_n (by omega)).trans (hfr x hx)))) ?_
  clear hobj hc201 hc202 hc203 hc204 hc205 hc206 hc207 hn209 hcI hfr
  intro F8 hobj hc201 hc202 hc203 hc204 hc205 hc206 hc207 hc208 hn209 hcI hfr
  refine r_aload_n X dX3_init_72 (by rfl) ?_
  refine r_bipush X dX3_init_73 (by decide) ?_
  refine r_newI X 209 12 dX3_init_75 w98 (by rfl) (by decide) (by decide) hn209 (by omega) (by omega) (fun ad9 hA9 => ?_)
  rw [← hA9 200 (by decide)]
  refine r_putF X dX3_init_77 ffX3_38_6 rfl ((pu_n (by decide)).trans hobj) (by decide) (Nat.le_of_ble_eq_true rfl) rfl rfl ?_
  dsimp only [List.set]
  have hAd : ∀ x, (x ≤ 200 ∨ 260 ≤ x) → ad9 x = ad x := fun x hx => (hA9 x (by omega)).trans (hAd x hx)
  refine (fun (k : ∀ F9 : Pic, (F9 200 = some (.inr (6, [.int 0, .int 0, .ref (ad9 201), .ref (ad9 202), .ref (ad9 203), .ref (ad9 204), .ref (ad9 205), .ref (ad9 206), .ref (ad9 207), .ref (ad9 208), .ref (ad9 209)]))) → (F9 201 = some (cI g 12 (fun _ => 0))) → (F9 202 = some (cI g 16 (fun _ => 0))) → (F9 203 = some (cI g 16 (fun _ => 0))) → (F9 204 = some (cQ g 12 (fun i => some (ad9 (220 + i % 16))))) → (F9 205 = some (cI g 12 (fun _ => 0))) → (F9 206 = some (cI g 12 (fun _ => 0))) → (F9 207 = some (cI g 12 (fun _ => 0))) → (F9 208 = some (cI g 12 (fun _ => 0))) → (F9 209 = some (cI g 12 (fun _ => 0))) → (∀ i, i < 12 → F9 (220 + i) = some (cI g 16 (fun _ => 0))) → (∀ x, (x ≤ 200 ∨ 260 ≤ x) ∧ x ≠ 200 → F9 x = F x) → V M g ad9 F9 _ _ _ _ _) => k _ (pu_s.trans (by rw [hA9 201 (by decide), hA9 202 (by decide), hA9 203 (by decide), hA9 204 (by decide), hA9 205 (by decide), hA9 206 (by decide), hA9 207 (by decide), hA9 208 (by decide)])) ((pu_n (by decide)).trans ((pu_n (by decide)).trans hc201)) ((pu_n (by decide)).trans ((pu_n (by decide)).trans hc202)) ((pu_n (by decide)).trans ((pu_n (by decide)).trans hc203)) (((pu_n (by decide)).trans ((pu_n (by decide)).trans hc204)).trans (by rw [show (fun i : Nat => some (ad9 (220 + i % 16))) = (fun i : Nat => some (ad8 (220 + i % 16))) from funext fun i => by rw [hA9 _ (by omega)]])) ((pu_n (by decide)).trans ((pu_n (by decide)).trans hc205)) ((pu_n (by decide)).trans ((pu_n (by decide)).trans hc206)) ((pu_n (by decide)).trans ((pu_n (by decide)).trans hc207)) ((pu_n (by decide)).trans ((pu_n (by decide)).trans hc208)) ((pu_n (by decide)).trans pu_s) (fun i hi => (pu_n (by omega)).trans ((pu_n (by omega)).trans (hcI i hi))) (fun x hx => (pu_n (by omega)).trans ((pu_n (by omega)).trans (hfr x hx)))) ?_
  clear hobj hc201 hc202 hc203 hc204 hc205 hc206 hc207 hc208 hcI hfr
  intro F9 hobj hc201 hc202 hc203 hc204 hc205 hc206 hc207 hc208 hc209 hcI hfr
  exact r_vret X rfl dX3_init_80 (⟨rfl, fun x hx => hfr x (by omega), fun x hx => hAd x hx, ⟨⟨hobj, hc201, hc202, hc203, hc204, hc205, hc206, hc207, hc208, hc209⟩, hcI, by decide, by decide⟩⟩) (by omega) (by omega)
