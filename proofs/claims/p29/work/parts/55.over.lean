/-! ===== overhead ===== -/
theorem lc_gt {a b : Int} : (0 < (if a < b then (-1 : Int) else if a = b then 0 else 1)) ↔ b < a := by
  split
  · omega
  · split <;> omega
theorem lc_in {a b : Int} : inR (if a < b then (-1 : Int) else if a = b then 0 else 1) := by
  unfold inR; split
  · omega
  · split <;> omega
theorem r_mminL {M : Mx} {g : Gx} {y : MethodName} {cc : ByteArray} {ret : Option FieldType} {n mc ms : Nat} {tb : List ExceptionTableEntry} {K : Option Value → (Nat → Nat) → Pic → Prop} {KX : String → (Nat → Nat) → Pic → Prop} {ad : Nat → Nat} {F : Pic} {kc ks pc : Nat} {LS : List (Option Value)} {ST : List Value} (X : Cx M g y cc ret n mc ms tb K KX) {x z : Int} (hy : y.cls = RX5) (d : decode cc pc = .ok (.invokestatic 246, 3)) (hx : inL x) (hz : inL z) (hcat : (ST.map fun v => v.category).sum ≤ 8) (hlv : 0 < n) (h1 : kc ≤ mc) (h2 : ks ≤ ms)
    (k : V M g ad F kc ks (pc + 3) LS (.long (zL (min x z)) :: ST)) : V M g ad F kc ks pc LS (.long (zL z) :: .long (zL x) :: ST) := fun H locs ls a b c => by
  refine va_mmin_long X.1.1 X.1.2.1 (X.1.2.2.1.trans c.1.symm) X.1.2.2.2.1 (X.1.2.2.2.2 _ (by rw [hy]; exact w633)) (X.1.2.2.2.2 _ w634) (X.1.2.2.2.2 _ w12) (X.1.2.2.2.2 _ w635) (by rw [X.2.2.2.2.1]; exact hlv) (by rw [X.2.2.2.2.1]; show _ + 15 ≤ 42 * n; omega) (by rw [X.2.2.2.2.1]; exact h1) (by rw [X.2.2.2.2.1]; exact h2) d ?_
  have e : (if zL z < zL x then zL z else zL x) = zL (min x z) := by
    by_cases h : z < x
    · rw [if_pos ((zL_lt hz hx).mpr h), Int.min_def, if_neg (by omega)]
    · rw [if_neg (fun q => h ((zL_lt hz hx).mp q)), Int.min_def, if_pos (by omega)]
  rw [e]
  exact k H locs ls a b c
def roA (A : Nat → Nat → Int) (f : Nat) : Int := roZ (A 0 f) (A 3 f) (A 4 f) (A 5 f)
def allR (A : Nat → Nat → Int) (n : Nat) : Int := sm n (fun f => if 0 < roA A f then A 4 f else 0)
def takeA (A : Nat → Nat → Int) (f : Nat) (m : Int) : Nat → Nat → Int := u2 (u2 A 0 f (A 0 f - m)) 5 f (A 5 f + m)
theorem takeA_o {A : Nat → Nat → Int} {f a : Nat} {m : Int} (h : a ≠ 0) (h5 : a ≠ 5) : takeA A f m a = A a := by
  unfold takeA; rw [u2_row' h5, u2_row' h]
theorem takeA_n {A : Nat → Nat → Int} {f a x : Nat} {m : Int} (h : x ≠ f) : takeA A f m a x = A a x := by
  unfold takeA; rw [u2_col' h, u2_col' h]
theorem takeA_0 {A : Nat → Nat → Int} {f : Nat} {m : Int} : takeA A f m 0 f = A 0 f - m := by
  unfold takeA; rw [u2_row' (by omega), u2_at]
theorem takeA_5 {A : Nat → Nat → Int} {f : Nat} {m : Int} : takeA A f m 5 f = A 5 f + m := by
  unfold takeA; rw [u2_at]
/-- a round of shares by direct costs, the first i funds -/
def rndS (A : Nat → Nat → Int) (amt all : Int) : Nat → (Nat → Nat → Int) × Int
  | 0 => (A, 0)
  | i + 1 => if 0 < roA A i then (takeA (rndS A amt all i).1 i (min (amt * A 4 i / all) (roA A i)), (rndS A amt all i).2 + min (amt * A 4 i / all) (roA A i)) else rndS A amt all i
/-- a round of ones -/
def oneS (A : Nat → Nat → Int) (amt : Int) : Nat → (Nat → Nat → Int) × Int
  | 0 => (A, 0)
  | i + 1 => if (oneS A amt i).2 < amt ∧ 0 < roA A i then (takeA (oneS A amt i).1 i 1, (oneS A amt i).2 + 1) else oneS A amt i
theorem rnd_n (A : Nat → Nat → Int) (amt all : Int) : ∀ (i a x : Nat), i ≤ x → (rndS A amt all i).1 a x = A a x := by
  intro i
  induction i with
  | zero => intro a x _; rfl
  | succ i ih =>
    intro a x hx
    show (if 0 < roA A i then (takeA (rndS A amt all i).1 i _, _) else rndS A amt all i).1 a x = _
    split
    · show takeA (rndS A amt all i).1 i _ a x = _
      rw [takeA_n (by omega)]; exact ih a x (by omega)
    · exact ih a x (by omega)
theorem one_n (A : Nat → Nat → Int) (amt : Int) : ∀ (i a x : Nat), i ≤ x → (oneS A amt i).1 a x = A a x := by
  intro i
  induction i with
  | zero => intro a x _; rfl
  | succ i ih =>
    intro a x hx
    show (if (oneS A amt i).2 < amt ∧ 0 < roA A i then (takeA (oneS A amt i).1 i 1, _) else oneS A amt i).1 a x = _
    split
    · show takeA (oneS A amt i).1 i _ a x = _
      rw [takeA_n (by omega)]; exact ih a x (by omega)
    · exact ih a x (by omega)
theorem roA_b {td : Int} {nf nk nc : Nat} {A : Nat → Nat → Int} {kf : Nat → Nat} {t i : Nat} (hI : IV td nf nk nc A kf t) (hi : i < nf) : 0 ≤ roA A i ∧ roA A i ≤ A 0 i := by
  have := hI.b0 hi
  unfold roA roZ
  omega
theorem IV.take {td : Int} {nf nk nc : Nat} {A : Nat → Nat → Int} {kf : Nat → Nat} {t i : Nat} {m : Int} (hI : IV td nf nk nc A kf t) (hi : i < nf) (hm : 0 ≤ m ∧ m ≤ roA A i) : IV td nf nk nc (takeA A i m) kf t := by
  have hr := roA_b hI hi
  obtain ⟨h1, h2, h3, h4, h5, h6⟩ := hI
  refine ⟨h1, fun x hx => ?_, fun x hx => ?_, fun x hx => ?_, ?_, ?_⟩
  · obtain ⟨q0, q1, q2, q3, q4, q5⟩ := h2 x hx
    rw [takeA_o (a := 1) (by omega) (by omega), takeA_o (a := 2) (by omega) (by omega), takeA_o (a := 3) (by omega) (by omega), takeA_o (a := 4) (by omega) (by omega)]
    by_cases e : x = i
    · subst e
      rw [takeA_0, takeA_5]
      have h9 : roA A x ≤ max 0 (A 4 x * A 3 x / 100 - A 5 x) := by unfold roA roZ; omega
      have h10 : A 4 x * A 3 x / 100 ≤ A 4 x := by
        have z1 : A 4 x * A 3 x ≤ A 4 x * 100 := Int.mul_le_mul_of_nonneg_left q3.2 q4
        omega
      refine ⟨by omega, q1, q2, q3, q4, by omega, by omega⟩
    · rw [takeA_n e, takeA_n e]; exact ⟨q0, q1, q2, q3, q4, q5⟩
  · rw [takeA_o (a := 7) (by omega) (by omega), takeA_o (a := 8) (by omega) (by omega), takeA_o (a := 9) (by omega) (by omega)]; exact h3 x hx
  · rw [takeA_o (a := 10) (by omega) (by omega), takeA_o (a := 11) (by omega) (by omega), takeA_o (a := 12) (by omega) (by omega)]; exact h4 x hx
  · rw [takeA_o (a := 8) (by omega) (by omega)]
    have : sm nf (takeA A i m 0) ≤ sm nf (A 0) := sm_le (fun x hx => by
      by_cases e : x = i
      · subst e; rw [takeA_0]; omega
      · rw [takeA_n e]; exact Int.le_refl _)
    omega
  · rw [takeA_o (a := 4) (by omega) (by omega), takeA_o (a := 12) (by omega) (by omega)]; exact h6
theorem RX.take {g : Gx} {ad : Nat → Nat} {F F' : Pic} {td : Int} {nf nk nc : Nat} {A P : Nat → Nat → Int} {kf ser : Nat → Nat} {sn i : Nat} {m : Int} (hX : RX g ad F td nf nk nc A P kf ser sn) (hi : i < nf) (h1 : F' (300 + i) = some (.inr (5, [.int (zI (A 0 i - m)), .int (zI (i : Int)), .int (zI (A 1 i)), .int (zI (A 2 i)), .int (zI (A 3 i)), .int (zI (A 4 i)), .int (zI (A 5 i + m))]))) (s1 : ∀ x, x ≠ 300 + i → F' x = F x) : RX g ad F' td nf nk nc (takeA A i m) P kf ser sn := by
  obtain ⟨hO, ⟨⟨cap1, hR1, hLF1⟩, ⟨cap2, hR2, hLF2⟩, ⟨cap3, hR3, hLF3⟩, kp, ep, cap4, hR4, hLF4⟩, hP, ⟨hnf, hFu, hFuN⟩, ⟨hnc, hCo, hCoN⟩, ⟨⟨hnk, hsn⟩, hKm, hKi, hKN⟩⟩ := id hX; obtain ⟨hO, h9, a99⟩ := hO
  refine ⟨CO.fr ⟨hO, h9, a99⟩ (s1 _ (by omega)) (s1 _ (by omega)) (fun _ _ => rfl), ⟨CL.fr ⟨cap1, hR1, hLF1⟩ (by omega) (fun x hx => s1 x ?_) (fun _ _ => rfl) (fun _ _ => rfl), CL.fr ⟨cap2, hR2, hLF2⟩ (by omega) (fun x hx => s1 x ?_) (fun _ _ => rfl) (fun _ _ => rfl), CL.fr ⟨cap3, hR3, hLF3⟩ (by omega) (fun x hx => s1 x ?_) (fun _ _ => rfl) (fun _ _ => rfl), kp, ep, CL.fr ⟨cap4, hR4, hLF4⟩ (by omega) (fun x hx => s1 x ?_) (fun _ _ => rfl) (fun _ _ => rfl)⟩,
    hP.fr (fun x z1 z2 => s1 x (by omega)) (fun _ _ _ => rfl), ?_, ?_, ?_⟩
  all_goals try (unfold inA at hx; omega)
  · refine CFu.put (A := A) (i := i) ⟨hnf, hFu, hFuN⟩ hi ?_ (fun x z1 z2 z3 => s1 x z3) (fun c hc k hk hne => takeA_n hne)
    rw [h1]; unfold fuC
    rw [takeA_0, takeA_5, takeA_o (by omega) (by omega), takeA_o (by omega) (by omega), takeA_o (by omega) (by omega), takeA_o (by omega) (by omega)]
  · exact CCo.toA (CCo.fr ⟨hnc, hCo, hCoN⟩ (fun x z1 z2 => s1 x (by omega)) (fun _ _ => rfl)) (fun c z1 z2 k hk => by rw [takeA_o (by omega) (by omega)])
  · exact CK.toA (CK.fr ⟨⟨hnk, hsn⟩, hKm, hKi, hKN⟩ (fun x z1 z2 => s1 x (by omega)) (fun _ _ => rfl)) (fun c z1 z2 k hk => by rw [takeA_o (by omega) (by omega)])
theorem allR_b {td : Int} {nf nk nc : Nat} {A : Nat → Nat → Int} {kf : Nat → Nat} {t : Nat} (hI : IV td nf nk nc A kf t) {n : Nat} (hn : n ≤ nf) : 0 ≤ allR A n ∧ allR A n ≤ 1599984 := by
  have h1 : 0 ≤ allR A n := sm_nn (fun i hi => by
    have := (hI.b4 (i := i) (by omega)).1
    show 0 ≤ (if 0 < roA A i then A 4 i else 0)
    split <;> omega)
  have h2 : allR A n ≤ sm n (A 4) := sm_le (fun i hi => by
    have := (hI.b4 (i := i) (by omega)).1
    show (if 0 < roA A i then A 4 i else 0) ≤ A 4 i
    split <;> omega)
  have h3 : ∀ k, n ≤ k → k ≤ nf → sm n (A 4) ≤ sm k (A 4) := by
    intro k
    induction k with
    | zero => intro z _; rw [show n = 0 by omega]; exact Int.le_refl _
    | succ k ih =>
      intro z1 z2
      by_cases e : n = k + 1
      · rw [e]; exact Int.le_refl _
      · have := ih (by omega) (by omega)
        have := (hI.b4 (i := k) (by omega)).1
        show sm n (A 4) ≤ sm k (A 4) + A 4 k
        omega
  have h4 := h3 nf hn (Nat.le_refl _)
  have h5 : 0 ≤ sm nc (A 12) := sm_nn (fun i hi => (hI.2.2.2.1 i hi).2.2.1)
  have h6 := hI.2.2.2.2.2
  have h7 := hI.1.2.2.2.2.1
  omega
set_option maxRecDepth 100000 in
set_option maxHeartbeats 4000000 in
theorem c_allR (g : Gx) (l : Launch) (hl : l.stackTraces = false) (ad : Nat → Nat) (F : Pic) (td : Int) (nf nk nc : Nat) (A P : Nat → Nat → Int) (kf ser : Nat → Nat) (sn : Nat) (hX : RX g ad F td nf nk nc A P kf ser sn) (t : Nat) (hI : IV td nf nk nc A kf t) : Ct g l yX5_directCostsWithRoom cX5_directCostsWithRoom 5 (some .long) 4 0 0 [.ref (ad 100)] ad F (fun v ad' F' => v = some (.long (zL (allR A nf))) ∧ ad = ad' ∧ F = F') := by
  refine Ct_of hl rfl [some (.ref (ad 100)), none, none, none, none] (Nat.le_of_ble_eq_true rfl) (fun _ h => h) ?_
  intro M hL hN X
  subst hL
  obtain ⟨hO, ⟨⟨cap1, hR1, hLF1⟩, ⟨cap2, hR2, hLF2⟩, ⟨cap3, hR3, hLF3⟩, kp, ep, cap4, hR4, hLF4⟩, hP, ⟨hnf, hFu, hFuN⟩, ⟨hnc, hCo, hCoN⟩, ⟨⟨hnk, hsn⟩, hKm, hKi, hKN⟩⟩ := id hX; obtain ⟨hO, h9, a99⟩ := hO
  obtain ⟨mo1, ho1⟩ := hR1.obj; obtain ⟨mo2, ho2⟩ := hR2.obj; obtain ⟨mo3, ho3⟩ := hR3.obj; obtain ⟨mo4, ho4⟩ := hR4.obj
  have loop : ∀ (k i : Nat) (w : Int) (o : Option Value), nf - i = k → i ≤ nf → w = allR A i → V M g ad F 0 0 4 [some (.ref (ad 100)), some (.long (zL w)), none, some (.int (zI (i : Int))), o] [] := by
    intro k
    induction k with
    | zero =>
      intro i w o hk hi hw
      obtain rfl : i = nf := by omega
      refine r_iload_n X dX5_directCostsWithRoom_4 (by rfl) ?_
      refine r_aload_n X dX5_directCostsWithRoom_5 (by rfl) ?_
      refine r_get X dX5_directCostsWithRoom_6 fgX5_12_7 (by assumption) (by rfl) ?_
      refine r_callV X dX5_directCostsWithRoom_9 kX5_41 (c_size g _ hl ad F 101 i cap1 _ (by omega) hR1) (by assumption) (by rfl) (by rfl) (by rfl) (by rfl) (by exact Nat.le_of_ble_eq_true rfl) (by decide) (by decide) (by omega) (by omega) (fun v ad' F' hK => ?_)
      obtain ⟨rfl, rfl, rfl⟩ := hK
      refine r_icmp_ge X 51 dX5_directCostsWithRoom_12 (by decide) (by unfold inR; omega) (by unfold inR; omega) (fun a => ?_) (fun a => ?_)
      · refine r_lload_n X dX5_directCostsWithRoom_51 (by rfl) ?_
        exact r_lret X rfl dX5_directCostsWithRoom_52 (⟨by rw [hw], rfl, rfl⟩) (by omega) (by omega)
      · omega
    | succ k ih =>
      intro i w o hk hi hw
      have b0 := hI.b0 (i := i) (by omega)
      have b4 := hI.b4 (i := i) (by omega)
      have b3 := (hI.2.1 i (by omega)).2.2.2.1
      have rb := roA_b hI (i := i) (by omega)
      have hf0 : F (300 + i) = some (.inr (5, [.int (zI (A 0 i)), .int (zI (i : Int)), .int (zI (A 1 i)), .int (zI (A 2 i)), .int (zI (A 3 i)), .int (zI (A 4 i)), .int (zI (A 5 i))])) := hFu i (by omega)
      have hw' : allR A (i + 1) = allR A i + (if 0 < roA A i then A 4 i else 0) := rfl
      refine r_iload_n X dX5_directCostsWithRoom_4 (by rfl) ?_
      refine r_aload_n X dX5_directCostsWithRoom_5 (by rfl) ?_
      refine r_get X dX5_directCostsWithRoom_6 fgX5_12_7 (by assumption) (by rfl) ?_
      refine r_callV X dX5_directCostsWithRoom_9 kX5_41 (c_size g _ hl ad F 101 nf cap1 _ (by omega) hR1) (by assumption) (by rfl) (by rfl) (by rfl) (by rfl) (by exact Nat.le_of_ble_eq_true rfl) (by decide) (by decide) (by omega) (by omega) (fun v ad' F' hK => ?_)
      obtain ⟨rfl, rfl, rfl⟩ := hK
      refine r_icmp_ge X 51 dX5_directCostsWithRoom_12 (by decide) (by unfold inR; omega) (by unfold inR; omega) (fun a => ?_) (fun a => ?_)
      · omega
      · refine r_aload_n X dX5_directCostsWithRoom_15 (by rfl) ?_
        refine r_get X dX5_directCostsWithRoom_16 fgX5_12_7 (by assumption) (by rfl) ?_
        refine r_iload_n X dX5_directCostsWithRoom_19 (by rfl) ?_
        refine r_callV X dX5_directCostsWithRoom_20 kX5_118 (c_get g _ hl ad F 101 nf cap1 _ (by omega) hR1 i (by omega)) (by assumption) (by rfl) (by rfl) (by rfl) (by rfl) (by exact Nat.le_of_ble_eq_true rfl) (by decide) (by decide) (by omega) (by omega) (fun v ad' F' hK => ?_)
        obtain ⟨rfl, rfl, rfl⟩ := hK
        refine r_castF X dX5_directCostsWithRoom_23 w217 (hf0) ?_
        refine r_astore X dX5_directCostsWithRoom_26 (by rw [hN]; decide) (by rfl) ?_
        dsimp only [List.set]
        refine r_aload X dX5_directCostsWithRoom_28 (by rfl) ?_
        refine r_callV X dX5_directCostsWithRoom_30 kX5_132 (c_room g _ hl ad F (300 + i) (by omega) _ _ _ _ _ _ _ hf0 (by omega) (by omega) (by omega) (by omega)) (hf0) (by rfl) (by rfl) (by rfl) (by rfl) (by exact Nat.le_of_ble_eq_true rfl) (by decide) (by decide) (by omega) (by omega) (fun v ad' F' hK => ?_)
        obtain ⟨rfl, rfl, rfl⟩ := hK
        have rr : roZ (A 0 i) (A 3 i) (A 4 i) (A 5 i) = roA A i := rfl
        rw [rr]
        refine r_if_le X 45 dX5_directCostsWithRoom_33 (by decide) (by unfold inR; omega) (fun b => ?_) (fun b => ?_)
        · refine r_iinc X dX5_directCostsWithRoom_45 (by rfl) (by rw [hN]; decide) (by rfl) ?_
          dsimp only [List.set]
          refine r_goto X dX5_directCostsWithRoom_48 4 (by decide) ?_
          exact ih (i + 1) w _ (by omega) (by omega) (by rw [hw', if_neg (by omega), hw]; omega)
        · refine r_lload_n X dX5_directCostsWithRoom_36 (by rfl) ?_
          refine r_aload X dX5_directCostsWithRoom_37 (by rfl) ?_
          refine r_get X dX5_directCostsWithRoom_39 fgX5_126_5 (hf0) (by rfl) ?_
          refine r_i2l X dX5_directCostsWithRoom_42 ((by unfold inR; omega)) ?_
          refine r_ladd X dX5_directCostsWithRoom_43 ?_
          refine r_lstore_n X dX5_directCostsWithRoom_44 (by rw [hN]; decide) (by rfl) ?_
          dsimp only [List.set]
          refine r_iinc X dX5_directCostsWithRoom_45 (by rfl) (by rw [hN]; decide) (by rfl) ?_
          dsimp only [List.set]
          refine r_goto X dX5_directCostsWithRoom_48 4 (by decide) ?_
          exact ih (i + 1) _ _ (by omega) (by omega) (by rw [hw', if_pos (by omega), hw])
  refine r_lconst X dX5_directCostsWithRoom_0 0 rfl ?_
  refine r_lstore_n X dX5_directCostsWithRoom_1 (by rw [hN]; decide) (by rfl) ?_
  dsimp only [List.set]
  refine r_iconst X dX5_directCostsWithRoom_2 rfl ?_
  refine r_istore_n X dX5_directCostsWithRoom_3 (by rw [hN]; decide) (by rfl) ?_
  dsimp only [List.set]
  exact loop nf 0 0 none (by omega) (by omega) rfl
