/-! ===== the numbers behind a charge ===== -/
theorem cd_inj {nk r r' : Nat} (h6 : nk ≤ 6) (h : cd nk r = cd nk r') : r = r' := by
  unfold cd at h; split at h <;> split at h <;> omega
theorem PSq_inj (ex : Nat → Int) {nk : Nat} (h6 : nk ≤ 6) : ∀ s p q, p < s → q < s → PSq ex nk s p = PSq ex nk s q → p = q := by
  intro s
  induction s with
  | zero => intro p q hp; omega
  | succ s ih =>
    intro p q hp hq
    have hc := (cpos_sd (v := ex (cd nk s)) (PSq_sd ex nk s)).1
    show eIns (PSq ex nk s) (cpos ex (PSq ex nk s) (ex (cd nk s)) s) (cd nk s) p = eIns (PSq ex nk s) (cpos ex (PSq ex nk s) (ex (cd nk s)) s) (cd nk s) q → p = q
    generalize cpos ex (PSq ex nk s) (ex (cd nk s)) s = z at hc
    have hne : ∀ x, x < s → PSq ex nk s x ≠ cd nk s := fun x hx h => by
      obtain ⟨r, h1, h2⟩ := PSq_mem ex nk s x hx
      rw [h2] at h
      have := cd_inj h6 h
      omega
    unfold eIns
    intro h
    by_cases a : p < z
    · rw [if_pos a] at h
      by_cases b : q < z
      · rw [if_pos b] at h; exact ih p q (by omega) (by omega) h
      · rw [if_neg b] at h
        by_cases c : q = z
        · rw [if_pos c] at h; exact absurd h (hne p (by omega))
        · rw [if_neg c] at h
          have := ih p (q - 1) (by omega) (by omega) h
          omega
    · rw [if_neg a] at h
      by_cases a2 : p = z
      · rw [if_pos a2] at h
        by_cases b : q < z
        · rw [if_pos b] at h; exact absurd h.symm (hne q (by omega))
        · rw [if_neg b] at h
          by_cases c : q = z
          · omega
          · rw [if_neg c] at h; exact absurd h.symm (hne (q - 1) (by omega))
      · rw [if_neg a2] at h
        by_cases b : q < z
        · rw [if_pos b] at h
          have := ih (p - 1) q (by omega) (by omega) h
          omega
        · rw [if_neg b] at h
          by_cases c : q = z
          · rw [if_pos c] at h; exact absurd h (hne (p - 1) (by omega))
          · rw [if_neg c] at h
            have := ih (p - 1) (q - 1) (by omega) (by omega) h
            omega
theorem sm_inj {n : Nat} {D : Nat → Prop} [DecidablePred D] {f : Nat → Int} {B : Int} (hB : 0 ≤ B) (hi : ∀ p q, p < n → q < n → D p → D q → p = q) (hf : ∀ p, p < n → D p → f p ≤ B) : sm n (fun p => if D p then f p else 0) ≤ B := by
  induction n with
  | zero => exact hB
  | succ n ih =>
    show sm n (fun p => if D p then f p else 0) + (if D n then f n else 0) ≤ B
    by_cases h : D n
    · rw [if_pos h, sm_zero (fun p hp => by
        show (if D p then f p else 0) = 0
        rw [if_neg (fun z => by have := hi p n (by omega) (by omega) z h; omega)])]
      have := hf n (by omega) h
      omega
    · rw [if_neg h]
      have := ih (fun p q a b => hi p q (by omega) (by omega)) (fun p a => hf p (by omega))
      omega
theorem sm_own {n m : Nat} {o : Nat → Nat} {f : Nat → Int} (h : ∀ p, p < n → o p < m) : sm m (fun x => sm n (fun p => if o p = x then f p else 0)) = sm n f := by
  rw [sm_swap m n (fun x p => if o p = x then f p else 0)]
  refine sm_congr (fun p hp => ?_)
  show sm m (fun x => if o p = x then f p else 0) = f p
  rw [sm_congr (h := fun x => if x = o p then f p else 0) (fun x _ => by
    by_cases e : o p = x
    · rw [if_pos e, if_pos e.symm]
    · rw [if_neg e, if_neg (fun z => e z.symm)]), sm_put m (o p) (fun _ => 0) (f p), sm_zero (fun _ _ => rfl), if_pos (h p hp)]
  omega
theorem IV.book {td : Int} {nf nk nc : Nat} {A : Nat → Nat → Int} {kf : Nat → Nat} {t : Nat} (hI : IV td nf nk nc A kf t) {pn dr : Nat → Int} {W : Nat → Nat → Int} (h3 : S3 A kf nk nf nc pn dr W) (hb : B3 A nk nf nc pn dr) : IV td nf nk nc (bkA A kf (nk + nf) nc (PS A nk nf) W) kf t := by
  have hI0 := hI
  obtain ⟨w1, w2, w3, w4⟩ := h3
  obtain ⟨b1, b2⟩ := hb
  obtain ⟨g1, g2, g3, g4, g5, g6⟩ := hI
  have h6 : nk ≤ 6 := g1.2.2.2.1
  have wn : ∀ p c, p < nk + nf → 0 ≤ W p c := fun p c hp => by
    by_cases hc : c < nc
    · exact (w1 p c hp hc).1
    · rw [w2 p c (fun z => hc z.2)]; exact Int.le_refl _
  have hinj : ∀ p q, p < nk + nf → q < nk + nf → PS A nk nf p = PS A nk nf q → p = q := fun p q hp hq h => PSq_inj (exc A) h6 _ p q hp hq h
  have dn : ∀ p, p < nk + nf → 0 ≤ sm nc (W p) := fun p hp => sm_nn (fun c _ => wn p c hp)
  have pnn : ∀ c, c < nc → 0 ≤ pn c := fun c hc => by rw [← w3 c hc]; exact sm_nn (fun p hp => wn p c hp)
  have e0 : ∀ x, 0 ≤ sm (nk + nf) (fun p => if PS A nk nf p = 6 + x then sm nc (W p) else 0) := fun x => sm_nn (fun p hp => by
    have := dn p hp
    show 0 ≤ (if PS A nk nf p = 6 + x then sm nc (W p) else 0)
    split <;> omega)
  have u0 : ∀ x, x < nf → sm (nk + nf) (fun p => if PS A nk nf p = 6 + x then sm nc (W p) else 0) ≤ A 0 x := fun x hx => sm_inj (g2 x hx).1 (fun p q hp hq y1 y2 => hinj p q hp hq (by rw [y1, y2])) (fun p hp y => by
    have a := b2 p hp
    rw [w4 p hp]
    unfold mo moA at a
    rw [y, if_neg (by omega), show 6 + x - 6 = x by omega] at a
    exact a)
  have e8 : ∀ x, 0 ≤ sm (nk + nf) (fun p => if PS A nk nf p = x ∧ x < 6 then sm nc (W p) else 0) := fun x => sm_nn (fun p hp => by
    have := dn p hp
    show 0 ≤ (if PS A nk nf p = x ∧ x < 6 then sm nc (W p) else 0)
    split <;> omega)
  have u8 : ∀ x, x < nk → sm (nk + nf) (fun p => if PS A nk nf p = x ∧ x < 6 then sm nc (W p) else 0) ≤ A 8 x := fun x hx => sm_inj (g3 x hx).2.2.1 (fun p q hp hq y1 y2 => hinj p q hp hq (by rw [y1.1, y2.1])) (fun p hp y => by
    have a := b2 p hp
    rw [w4 p hp]
    unfold mo moA at a
    rw [y.1, if_pos y.2] at a
    exact a)
  have e4 : ∀ x, 0 ≤ sm (nk + nf) (fun p => if ow kf (PS A nk nf p) = x then sm nc (W p) else 0) := fun x => sm_nn (fun p hp => by
    have := dn p hp
    show 0 ≤ (if ow kf (PS A nk nf p) = x then sm nc (W p) else 0)
    split <;> omega)
  refine ⟨g1, fun x hx => ?_, fun x hx => ?_, fun x hx => ?_, ?_, ?_⟩
  · obtain ⟨q0, q1, q2, q3, q4, q5⟩ := g2 x hx
    rw [bkA_0, bkA_4, bkA_o (a := 1) (by omega) (by omega) (by omega) (by omega), bkA_o (a := 2) (by omega) (by omega) (by omega) (by omega), bkA_o (a := 3) (by omega) (by omega) (by omega) (by omega), bkA_o (a := 5) (by omega) (by omega) (by omega) (by omega)]
    have a := u0 x hx
    have b := e4 x
    exact ⟨by omega, q1, q2, q3, by omega, by omega, by omega⟩
  · obtain ⟨q0, q1, q2, q3⟩ := g3 x hx
    rw [bkA_8, bkA_o (a := 7) (by omega) (by omega) (by omega) (by omega), bkA_o (a := 9) (by omega) (by omega) (by omega) (by omega)]
    have a := u8 x hx
    exact ⟨q0, q1, by omega, q3⟩
  · obtain ⟨q0, q1, q2⟩ := g4 x hx
    rw [bkA_12, bkA_o (a := 10) (by omega) (by omega) (by omega) (by omega), bkA_o (a := 11) (by omega) (by omega) (by omega) (by omega)]
    have a := b1 x hx
    have b := pnn x hx
    rw [w3 x hx]
    exact ⟨q0, q1, by omega, by omega⟩
  · have a : sm nf (bkA A kf (nk + nf) nc (PS A nk nf) W 0) ≤ sm nf (A 0) := sm_le (fun x _ => by rw [bkA_0]; have := e0 x; omega)
    have b : sm nk (bkA A kf (nk + nf) nc (PS A nk nf) W 8) ≤ sm nk (A 8) := sm_le (fun x _ => by rw [bkA_8]; have := e8 x; omega)
    omega
  · have a : sm nf (bkA A kf (nk + nf) nc (PS A nk nf) W 4) = sm nf (A 4) + sm (nk + nf) (fun p => sm nc (W p)) := by
      rw [sm_congr (h := fun x => A 4 x + sm (nk + nf) (fun p => if ow kf (PS A nk nf p) = x then sm nc (W p) else 0)) (fun x _ => bkA_4), sm_add, sm_own (fun p hp => VC.own hI0 (PS_vc h6 hp))]
    have b : sm nc (bkA A kf (nk + nf) nc (PS A nk nf) W 12) = sm nc (A 12) - sm nc (fun c => sm (nk + nf) (fun p => W p c)) := by
      rw [sm_congr (h := fun x => A 12 x - sm (nk + nf) (fun p => W p x)) (fun x _ => bkA_12), sm_sub]
    have c := sm_swap (nk + nf) nc W
    rw [a, b, ← c]
    omega
