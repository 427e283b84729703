/-! ===== a share of a cost is booked ===== -/
def mset (A : Nat → Nat → Int) (c : Nat) (v : Int) : Nat → Nat → Int := if c < 6 then u2 A 8 c v else u2 A 0 (c - 6) v
theorem mset_o {A : Nat → Nat → Int} {c a : Nat} {v : Int} (h : a ≠ 8) (h0 : a ≠ 0) : mset A c v a = A a := by
  unfold mset; split <;> rw [u2_row' (by omega)]
section
variable {M : Mx} {g : Gx} {y : MethodName} {cc : ByteArray} {ret : Option FieldType} {n mc ms : Nat} {tb : List ExceptionTableEntry} {K : Option Value → (Nat → Nat) → Pic → Prop} {KX : String → (Nat → Nat) → Pic → Prop} {ad : Nat → Nat} {F : Pic} {kc ks pc idx : Nat} {LS : List (Option Value)} {ST : List Value} {A : Nat → Nat → Int} {kf ser : Nat → Nat}
theorem q_mput (X : Cx M g y cc ret n mc ms tb K KX) {c : Nat} {v : Int} (hy : y.cls = RX5) (hC : PotC ad F A kf ser c) (hko : c < 6 → ser c < 20000 ∧ kf c < 100) (d : decode cc pc = .ok (.putfield 158, 3)) (k : ∀ F1 : Pic, PotC ad F1 (mset A c v) kf ser c → (∀ x, x ≠ prl ser c → F1 x = F x) → V M g ad F1 kc ks (pc + 3) LS ST) : V M g ad F kc ks pc LS (.int (zI v) :: .ref (ad (prl ser c)) :: ST) := by
  by_cases h : c < 6
  · have e : prl ser c = 10000 + ser c := if_pos h
    have hF := hC.1
    have hF2 := hC.2
    rw [if_pos h] at hF
    have eo : ow kf c = kf c := if_pos h
    have em : mset A c v = u2 A 8 c v := if_pos h
    have hk := hko h
    rw [eo] at hF2
    rw [e, em] at k
    rw [e]
    refine r_put X d (by rw [hy]; exact fwX5_158_3) hF (by omega) (by exact Nat.le_of_ble_eq_true rfl) (by rfl) (by rfl) (k _ ⟨?_, ?_⟩ (fun x hx => pu_n hx))
    · rw [if_pos h, pu_s]; unfold kmC; rw [u2_at, u2_row' (by omega), u2_row' (by omega)]; rfl
    · rw [eo, pu_n (by omega), hF2]; unfold fuC; rw [u2_row' (by omega), u2_row' (by omega), u2_row' (by omega), u2_row' (by omega), u2_row' (by omega), u2_row' (by omega)]
  · have e : prl ser c = 300 + (c - 6) := if_neg h
    have hF := hC.2
    have eo : ow kf c = c - 6 := if_neg h
    rw [eo] at hF
    have em : mset A c v = u2 A 0 (c - 6) v := if_neg h
    rw [e, em] at k
    rw [e]
    refine r_put X d (by rw [hy]; exact fwX5_158_5) hF (by omega) (by exact Nat.le_of_ble_eq_true rfl) (by rfl) (by rfl) (k _ ⟨?_, ?_⟩ (fun x hx => pu_n hx))
    · rw [if_neg h]; trivial
    · rw [eo, pu_s]; unfold fuC; rw [u2_at, u2_row' (by omega), u2_row' (by omega), u2_row' (by omega), u2_row' (by omega), u2_row' (by omega)]; rfl
end
def bk1 (A : Nat → Nat → Int) (kf : Nat → Nat) (c d : Nat) (s : Int) : Nat → Nat → Int := u2 (u2 (mset A c (moA A c - s)) 4 (ow kf c) (A 4 (ow kf c) + s)) 12 d (A 12 d - s)
def FrB (F F' : Pic) : Prop := ∀ x, (x < 300 ∨ (1000 ≤ x ∧ x < 10000) ∨ 40000 ≤ x) → F' x = F x
set_option maxRecDepth 100000 in
set_option maxHeartbeats 4000000 in
theorem c_book (g : Gx) (l : Launch) (hl : l.stackTraces = false) (ad : Nat → Nat) (F : Pic) (td : Int) (nf nk nc : Nat) (A P : Nat → Nat → Int) (kf ser : Nat → Nat) (sn : Nat) (hX : RX g ad F td nf nk nc A P kf ser sn) (t : Nat) (hkf : ∀ i, i < nk → kf i < nf) (c : Nat) (hc : VC nf nk c) (d : Nat) (hd : d < nc) (s : Int) : Ct g l yX5_book cX5_book 3 none 3 0 0 [.ref (ad (prl ser c)), .ref (ad (400 + d)), .int (zI s)] ad F (fun v ad' F' => v = none ∧ ad = ad' ∧ FrB F F' ∧ RX g ad F' td nf nk nc (bk1 A kf c d s) (u2 P d (ow kf c) (P d (ow kf c) + s)) kf ser sn) := by
  refine Ct_of hl rfl [some (.ref (ad (prl ser c))), some (.ref (ad (400 + d))), some (.int (zI s))] (Nat.le_of_ble_eq_true rfl) (fun _ h => h) ?_
  intro M hL hN X
  subst hL
  have hC := hX.pot hkf hc
  have hX0 := hX
  obtain ⟨hO, ⟨⟨cap1, hR1, hLF1⟩, ⟨cap2, hR2, hLF2⟩, ⟨cap3, hR3, hLF3⟩, kp, ep, cap4, hR4, hLF4⟩, hP, ⟨hnf, hFu, hFuN⟩, ⟨hnc, hCo, hCoN⟩, ⟨⟨hnk, hsn⟩, hKm, hKi, hKN⟩⟩ := id hX; obtain ⟨hO, h9, a99⟩ := hO
  have how : ow kf c < nf := by
    unfold ow; rcases hc with ⟨h1, h2⟩ | ⟨h1, h2⟩
    · rw [if_pos h1]; exact hkf c h2
    · rw [if_neg (by omega)]; exact h2
  have hck : c < 6 → c < nk := fun h => by rcases hc with z | z <;> omega
  have hpr : prl ser c = 300 + ow kf c ∨ (c < 6 ∧ prl ser c = 10000 + ser c ∧ ser c < sn) := by
    by_cases h : c < 6
    · exact .inr ⟨h, if_pos h, (hKm c (hck h)).2⟩
    · exact .inl (by unfold prl ow; rw [if_neg h, if_neg h])
  obtain ⟨hc0, f0, hs0, hp0⟩ := hCo d hd
  refine r_aload_n X dX5_book_0 (by rfl) ?_
  refine r_dup X dX5_book_1 (by rfl) ?_
  refine q_mon X rfl hC dX5_book_2 ?_
  refine r_iload_n X dX5_book_5 (by rfl) ?_
  refine r_isub X dX5_book_6 ?_
  refine q_mput X rfl hC (fun h => ⟨by have := (hKm c (hck h)).2; omega, by have := hkf c (hck h); omega⟩) dX5_book_7 (fun F1 hC1 s1 => ?_)
  refine r_aload_n X dX5_book_10 (by rfl) ?_
  refine q_own X rfl hC1 dX5_book_11 (by exact Nat.le_of_ble_eq_true rfl) (by omega) (by omega) (by omega) ?_
  have hf1 := hC1.2
  refine r_dup X dX5_book_14 (by rfl) ?_
  refine r_get X dX5_book_15 fgX5_126_5 (hf1) (by rfl) ?_
  refine r_iload_n X dX5_book_18 (by rfl) ?_
  refine r_iadd X dX5_book_19 ?_
  refine r_put X dX5_book_20 fwX5_126_5 (hf1) (by omega) (by exact Nat.le_of_ble_eq_true rfl) (by rfl) (by rfl) ?_
  dsimp only [List.set]
  rw [mset_o (a := 4) (by omega) (by omega)]
  refine (fun (k : ∀ F2 : Pic, (F2 (300 + ow kf c) = some (fuC (u2 (mset A c (moA A c - s)) 4 (ow kf c) (A 4 (ow kf c) + s)) (ow kf c))) → (∀ x, x ≠ 300 + ow kf c → F2 x = F1 x) → V M g ad F2 _ _ _ _ _) => k _ (by rw [pu_s]; unfold fuC; rw [u2_at, u2_row' (by omega), u2_row' (by omega), u2_row' (by omega), u2_row' (by omega), u2_row' (by omega)]) (fun x hx => pu_n hx)) ?_
  intro F2 h2 s2
  have hC2 : PotC ad F2 (u2 (mset A c (moA A c - s)) 4 (ow kf c) (A 4 (ow kf c) + s)) kf ser c := by
    refine ⟨?_, h2⟩
    by_cases h : c < 6
    · have h9 := hC1.1
      rw [if_pos h] at h9 ⊢
      rw [s2 _ (by omega), h9]; unfold kmC; rw [u2_row' (by omega), u2_row' (by omega), u2_row' (by omega)]
    · rw [if_neg h]; trivial
  refine r_aload_n X dX5_book_23 (by rfl) ?_
  refine r_aload_n X dX5_book_24 (by rfl) ?_
  refine q_own X rfl hC2 dX5_book_25 (by exact Nat.le_of_ble_eq_true rfl) (by omega) (by omega) (by omega) ?_
  refine r_iload_n X dX5_book_28 (by rfl) ?_
  have fr2 : ∀ x, x ≠ prl ser c → x ≠ 300 + ow kf c → F2 x = F x := fun x z1 z2 => (s2 x z2).trans (s1 x z1)
  have hc2 : F2 (400 + d) = some (.inr (4, [.int (zI (A 10 d)), .int (zI (A 11 d)), .int (zI (A 12 d)), .ref (ad (500 + d))])) := by rw [fr2 _ (by omega) (by omega)]; exact hc0
  refine r_callV X dX5_book_29 kX5_238 (c_costPay g _ hl ad F2 (300 + ow kf c) (by omega) _ _ _ _ _ _ _ h2 (400 + d) (by omega) _ _ _ (500 + d) (by omega) (by omega) hc2 (ow kf c) (by omega) rfl f0 (P d) (by rw [fr2 _ (by omega) (by omega)]; exact hs0) hp0 s) (hc2) (by rfl) (by rfl) (by rfl) (by rfl) (by exact Nat.le_of_ble_eq_true rfl) (by decide) (by decide) (by omega) (by omega) (fun v ad' F3 hK => ?_)
  obtain ⟨rfl, rfl, k1, k2, k3⟩ := hK
  have fr : ∀ x, x ≠ prl ser c → x ≠ 300 + ow kf c → x ≠ 400 + d → x ≠ 500 + d → F3 x = F x := fun x z1 z2 z3 z4 => (k3 x z3 z4).trans (fr2 x z1 z2)
  have hFB : FrB F F3 := fun x hx => fr x (by omega) (by omega) (by omega) (by omega)
  have bo : ∀ a, a ≠ 8 → a ≠ 0 → a ≠ 4 → a ≠ 12 → bk1 A kf c d s a = A a := fun a z1 z2 z3 z4 => by unfold bk1; rw [u2_row' z4, u2_row' z3, mset_o z1 z2]
  have goal : RX g ad F3 td nf nk nc (bk1 A kf c d s) (u2 P d (ow kf c) (P d (ow kf c) + s)) kf ser sn := by
    refine ⟨CO.fr ⟨hO, h9, a99⟩ (hFB _ (by omega)) (hFB _ (by omega)) (fun _ _ => rfl), ⟨CL.fr ⟨cap1, hR1, hLF1⟩ (by omega) (fun x hx => hFB x ?_) (fun _ _ => rfl) (fun _ _ => rfl), CL.fr ⟨cap2, hR2, hLF2⟩ (by omega) (fun x hx => hFB x ?_) (fun _ _ => rfl) (fun _ _ => rfl), CL.fr ⟨cap3, hR3, hLF3⟩ (by omega) (fun x hx => hFB x ?_) (fun _ _ => rfl) (fun _ _ => rfl), kp, ep, CL.fr ⟨cap4, hR4, hLF4⟩ (by omega) (fun x hx => hFB x ?_) (fun _ _ => rfl) (fun _ _ => rfl)⟩,
      hP.fr (fun x z1 z2 => hFB x (by omega)) (fun _ _ _ => rfl), ?_, ?_, ?_⟩
    all_goals try (unfold inA at hx; omega)
    · refine CFu.put (A := A) (i := ow kf c) ⟨hnf, hFu, hFuN⟩ how ?_ (fun x z1 z2 z3 => fr x (by omega) z3 (by omega) (by omega)) (fun a ha j hj hne => ?_)
      · rw [k3 _ (by omega) (by omega), h2]; unfold fuC bk1
        rw [u2_row' (a := 0) (i := 12) (by omega), u2_row' (a := 1) (i := 12) (by omega), u2_row' (a := 2) (i := 12) (by omega), u2_row' (a := 3) (i := 12) (by omega), u2_row' (a := 4) (i := 12) (by omega), u2_row' (a := 5) (i := 12) (by omega)]
      · unfold bk1
        rw [u2_row' (by omega), u2_col' hne]
        unfold mset
        by_cases h : c < 6
        · rw [if_pos h, u2_row' (by omega)]
        · rw [if_neg h, u2_col' (by rw [show ow kf c = c - 6 from if_neg h] at hne; exact hne)]
    · refine ⟨hnc, fun i hi => ?_, fun i z1 z2 => ⟨(fr _ (by omega) (by omega) (by omega) (by omega)).trans (hCoN i z1 z2).1, (fr _ (by omega) (by omega) (by omega) (by omega)).trans (hCoN i z1 z2).2⟩⟩
      by_cases e : i = d
      · subst e
        refine ⟨?_, _, k2, fun j hj => ?_⟩
        · rw [k1]; unfold coC
          rw [bo 10 (by omega) (by omega) (by omega) (by omega), bo 11 (by omega) (by omega) (by omega) (by omega)]
          unfold bk1; rw [u2_at]
        · unfold upd u2
          by_cases e2 : j = ow kf c
          · rw [if_pos e2, if_pos ⟨rfl, e2⟩]
          · rw [if_neg e2, if_neg (fun z => e2 z.2)]; exact hp0 j hj
      · obtain ⟨z1, f, z2, z3⟩ := hCo i hi
        refine ⟨?_, f, (fr _ (by omega) (by omega) (by omega) (by omega)).trans z2, fun j hj => by rw [u2_row' e]; exact z3 j hj⟩
        rw [fr _ (by omega) (by omega) (by omega) (by omega), z1]; unfold coC
        rw [bo 10 (by omega) (by omega) (by omega) (by omega), bo 11 (by omega) (by omega) (by omega) (by omega)]
        unfold bk1; rw [u2_col' e, u2_row' (by omega), mset_o (by omega) (by omega)]
    · refine ⟨⟨hnk, hsn⟩, fun i hi => ?_, hKi, fun x z1 z2 => (fr _ (by omega) (by omega) (by omega) (by omega)).trans (hKN x z1 z2)⟩
      obtain ⟨z1, z2⟩ := hKm i hi
      refine ⟨?_, z2⟩
      by_cases e : i = c
      · subst e
        have h6 : i < 6 := by omega
        have h9 := hC2.1
        rw [if_pos h6] at h9
        rw [k3 _ (by omega) (by omega), h9]; unfold kmC bk1
        rw [u2_row' (a := 8) (i := 12) (by omega), u2_row' (a := 7) (i := 12) (by omega), u2_row' (a := 9) (i := 12) (by omega)]
      · have hne : ¬ 10000 + ser i = prl ser c := fun z => by
          rcases hpr with q | ⟨q1, q2, q3⟩
          · omega
          · exact e (hKi i c hi (hck q1) (by omega))
        rw [fr _ hne (by omega) (by omega) (by omega), z1]; unfold kmC
        rw [bo 7 (by omega) (by omega) (by omega) (by omega), bo 9 (by omega) (by omega) (by omega) (by omega)]
        unfold bk1; rw [u2_row' (a := 8) (i := 12) (by omega), u2_row' (a := 8) (i := 4) (by omega)]
        unfold mset
        by_cases h : c < 6
        · rw [if_pos h, u2_col' e]
        · rw [if_neg h, u2_row' (by omega)]
  exact r_vret X rfl dX5_book_32 (⟨rfl, rfl, hFB, goal⟩) (by omega) (by omega)
