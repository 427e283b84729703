/-! ===== pots by their codes; what is left to be charged behind a charge ===== -/
theorem PSq_sur (ex : Nat → Int) (nk : Nat) : ∀ s r, r < s → ∃ p, p < s ∧ PSq ex nk s p = cd nk r := by
  intro s
  induction s with
  | zero => intro r hr; omega
  | succ s ih =>
    intro r hr
    have hc := (cpos_sd (v := ex (cd nk s)) (PSq_sd ex nk s)).1
    show ∃ p, p < s + 1 ∧ eIns (PSq ex nk s) (cpos ex (PSq ex nk s) (ex (cd nk s)) s) (cd nk s) p = cd nk r
    generalize cpos ex (PSq ex nk s) (ex (cd nk s)) s = z at hc
    unfold eIns
    by_cases e : r = s
    · exact ⟨z, by omega, by rw [if_neg (by omega), if_pos rfl, e]⟩
    · obtain ⟨p, p1, p2⟩ := ih r (by omega)
      by_cases hz : p < z
      · exact ⟨p, by omega, by rw [if_pos hz]; exact p2⟩
      · exact ⟨p + 1, by omega, by rw [if_neg (by omega), if_neg (by omega)]; exact p2⟩
theorem PS_sur {A : Nat → Nat → Int} {nk nf q : Nat} (hq : VC nf nk q) : ∃ p, p < nk + nf ∧ PS A nk nf p = q := by
  have h : ∃ r, r < nk + nf ∧ cd nk r = q := by
    rcases hq with ⟨h1, h2⟩ | ⟨h1, h2⟩
    · exact ⟨q, by omega, if_pos h2⟩
    · exact ⟨nk + (q - 6), by omega, by unfold cd; rw [if_neg (by omega)]; omega⟩
  obtain ⟨r, r1, r2⟩ := h
  obtain ⟨p, p1, p2⟩ := PSq_sur (exc A) nk (nk + nf) r r1
  exact ⟨p, p1, by unfold PS; rw [p2, r2]⟩
def CHc (A : Nat → Nat → Int) (kf : Nat → Nat) (nf nk c : Nat) : Prop := ∃ q, VC nf nk q ∧ 0 < moA A q ∧ mpP A kf q c
theorem CHG.chc {A : Nat → Nat → Int} {kf : Nat → Nat} {nk nf c : Nat} (hk : nk ≤ 6) (h : PAw A kf nk nf c (nk + nf)) : CHc A kf nf nk c := by
  obtain ⟨p, p1, p2, p3⟩ := h
  exact ⟨PS A nk nf p, PS_vc hk p1, p2, p3⟩
theorem CHc.back {A : Nat → Nat → Int} {kf : Nat → Nat} {nf nk i c : Nat} (hi : i < nk) (hk : nk ≤ 6) (h0 : A 8 i = 0) (h : CHc (fEnd A kf i) (eDel kf i) nf (nk - 1) c) : CHc A kf nf nk c := by
  obtain ⟨q, hv, hm, hp⟩ := h
  unfold mpP at hp
  rw [fEnd_o (a := 10) (by omega) (by omega), fEnd_o (a := 11) (by omega) (by omega), fEnd_o (a := 1) (by omega) (by omega), fEnd_o (a := 2) (by omega) (by omega)] at hp
  by_cases q6 : q < 6
  · have hq : q < nk - 1 := by rcases hv with z | z <;> omega
    unfold moA at hm
    rw [if_pos q6, fEnd_k (a := 8) (by omega)] at hm
    rw [fEnd_k (a := 7) (by omega), show ow (eDel kf i) q = (if q < i then kf q else kf (q + 1)) from if_pos q6] at hp
    by_cases e : q < i
    · rw [if_pos e] at hm
      rw [if_pos e, if_pos e] at hp
      refine ⟨q, .inl ⟨q6, by omega⟩, by unfold moA; rw [if_pos q6]; exact hm, ?_⟩
      unfold mpP
      rw [show ow kf q = kf q from if_pos q6]; exact hp
    · rw [if_neg e] at hm
      rw [if_neg e, if_neg e] at hp
      have q7 : q + 1 < 6 := by omega
      refine ⟨q + 1, .inl ⟨q7, by omega⟩, by unfold moA; rw [if_pos q7]; exact hm, ?_⟩
      unfold mpP
      rw [show ow kf (q + 1) = kf (q + 1) from if_pos q7]; exact ⟨fun _ => hp.1 q6, hp.2⟩
  · unfold moA at hm
    rw [if_neg q6, fEnd_0] at hm
    rw [show ow (eDel kf i) q = q - 6 from if_neg q6] at hp
    refine ⟨q, .inr ⟨by omega, by rcases hv with z | z <;> omega⟩, ?_, ?_⟩
    · unfold moA
      rw [if_neg q6]
      split at hm <;> omega
    · unfold mpP
      rw [show ow kf q = q - 6 from if_neg q6]; exact ⟨fun z => absurd z q6, hp.2⟩
theorem endE_back {nf c : Nat} : ∀ (k nk : Nat) (A : Nat → Nat → Int) (kf : Nat → Nat), k ≤ nk → nk ≤ 6 → CHc (endS qEmp k (nk, A, kf)).2.1 (endS qEmp k (nk, A, kf)).2.2 nf (endS qEmp k (nk, A, kf)).1 c → CHc A kf nf nk c := by
  intro k
  induction k with
  | zero => intro nk A kf _ _ h; exact h
  | succ k ih =>
    intro nk A kf hk h6 h
    by_cases e : qEmp A k = true
    · rw [endS_y e] at h
      exact (ih _ _ _ (by omega) (by omega) h).back (by omega) h6 (by unfold qEmp at e; exact of_decide_eq_true e)
    · rw [endS_n e] at h
      exact ih _ _ _ (by omega) h6 h
theorem endS_o {q : (Nat → Nat → Int) → Nat → Bool} {a : Nat} (h : ¬ (7 ≤ a ∧ a ≤ 9)) (h0 : a ≠ 0) : ∀ (k nk : Nat) (A : Nat → Nat → Int) (kf : Nat → Nat), (endS q k (nk, A, kf)).2.1 a = A a := by
  intro k
  induction k with
  | zero => intro nk A kf; rfl
  | succ k ih =>
    intro nk A kf
    by_cases e : q A k = true
    · rw [endS_y e, ih, fEnd_o h h0]
    · rw [endS_n e, ih]
theorem endS_le {q : (Nat → Nat → Int) → Nat → Bool} : ∀ (k nk : Nat) (A : Nat → Nat → Int) (kf : Nat → Nat), (endS q k (nk, A, kf)).1 ≤ nk := by
  intro k
  induction k with
  | zero => intro nk A kf; exact Nat.le_refl _
  | succ k ih =>
    intro nk A kf
    by_cases e : q A k = true
    · rw [endS_y e]; exact Nat.le_trans (ih _ _ _) (by omega)
    · rw [endS_n e]; exact ih _ _ _
/-- a test that looks at what is left of a commitment and its day alone -/
def QL (q : (Nat → Nat → Int) → Nat → Bool) : Prop := ∀ (A B : Nat → Nat → Int) (x y : Nat), A 8 x = B 8 y → A 9 x = B 9 y → q A x = q B y
theorem QL.lap {td : Int} : QL (qLap td) := fun A B x y _ h => by unfold qLap; rw [h]
theorem QL.emp : QL qEmp := fun A B x y h _ => by unfold qEmp; rw [h]
/-- those that are left are old ones, and the test doesn't name them -/
theorem endS_sub {q : (Nat → Nat → Int) → Nat → Bool} (hq : QL q) : ∀ (k nk : Nat) (A : Nat → Nat → Int) (kf : Nat → Nat), k ≤ nk → (∀ x, k ≤ x → x < nk → ¬ q A x = true) → ∀ x, x < (endS q k (nk, A, kf)).1 → (∃ y, y < nk ∧ (endS q k (nk, A, kf)).2.1 8 x = A 8 y ∧ (endS q k (nk, A, kf)).2.1 9 x = A 9 y) ∧ ¬ q (endS q k (nk, A, kf)).2.1 x = true := by
  intro k
  induction k with
  | zero => intro nk A kf _ h x hx; exact ⟨⟨x, hx, rfl, rfl⟩, h x (by omega) hx⟩
  | succ k ih =>
    intro nk A kf hk h x hx
    by_cases e : q A k = true
    · rw [endS_y e] at hx ⊢
      obtain ⟨⟨y, y1, y2, y3⟩, hn⟩ := ih (nk - 1) (fEnd A kf k) (eDel kf k) (by omega) (fun z z1 z2 => by
        rw [hq (fEnd A kf k) A z (z + 1) (by rw [fEnd_k (by omega), if_neg (by omega)]) (by rw [fEnd_k (by omega), if_neg (by omega)])]
        exact h (z + 1) (by omega) (by omega)) x hx
      refine ⟨?_, hn⟩
      rw [fEnd_k (a := 8) (by omega)] at y2
      rw [fEnd_k (a := 9) (by omega)] at y3
      by_cases z : y < k
      · rw [if_pos z] at y2 y3; exact ⟨y, by omega, y2, y3⟩
      · rw [if_neg z] at y2 y3; exact ⟨y + 1, by omega, y2, y3⟩
    · rw [endS_n e] at hx ⊢
      exact ih nk A kf (by omega) (fun z z1 z2 => by
        by_cases w : z = k
        · rw [w]; exact e
        · exact h z (by omega) z2) x hx
/-- how many the test names -/
theorem endS_cnt {q : (Nat → Nat → Int) → Nat → Bool} (hq : QL q) : ∀ (k nk : Nat) (A : Nat → Nat → Int) (kf : Nat → Nat), k ≤ nk → ((endS q k (nk, A, kf)).1 : Int) = nk - sm k (fun x => if q A x then 1 else 0) := by
  intro k
  induction k with
  | zero => intro nk A kf _; show (nk : Int) = nk - 0; omega
  | succ k ih =>
    intro nk A kf hk
    have s : sm (k + 1) (fun x => if q A x then (1 : Int) else 0) = sm k (fun x => if q A x then (1 : Int) else 0) + (if q A k then 1 else 0) := rfl
    by_cases e : q A k = true
    · rw [endS_y e, ih _ _ _ (by omega), s, if_pos e]
      have : sm k (fun x => if q (fEnd A kf k) x then (1 : Int) else 0) = sm k (fun x => if q A x then (1 : Int) else 0) := sm_congr (fun x hx => by
        show (if q (fEnd A kf k) x then (1 : Int) else 0) = if q A x then 1 else 0
        rw [hq (fEnd A kf k) A x x (by rw [fEnd_k (by omega), if_pos hx]) (by rw [fEnd_k (by omega), if_pos hx])])
      omega
    · rw [endS_n e, ih _ _ _ (by omega), s, if_neg e]; omega
/-! ===== the accounts ===== -/
def AV (nf nk nc : Nat) (A P : Nat → Nat → Int) (kf : Nat → Nat) (K : Nat → Int) : Prop :=
  (∀ f, f < nf → A 0 f + comZ A kf f nk + A 4 f + A 5 f = K f) ∧
  (∀ c, c < nc → sm nf (P c) + A 12 c = K (16 + c) ∧ K (16 + c) ≤ 99999 ∧ (∀ f, 0 ≤ P c f) ∧ ∀ f, nf ≤ f → P c f = 0) ∧ sm nf (A 4) = sm nc (fun c => sm nf (P c))
def KV (td : Int) (nk : Nat) (A : Nat → Nat → Int) : Prop := ∀ k, k < nk → 0 < A 8 k ∧ td ≤ A 9 k
theorem AV.new {A P : Nat → Nat → Int} {kf : Nat → Nat} {K : Nat → Int} : AV 0 0 0 A P kf K := ⟨fun f hf => by omega, fun c hc => by omega, rfl⟩
theorem KV.new {A : Nat → Nat → Int} : KV 0 0 A := fun k hk => by omega
theorem comZ_congr {A B : Nat → Nat → Int} {kf : Nat → Nat} {f n : Nat} (h : ∀ k, k < n → A 8 k = B 8 k) : comZ A kf f n = comZ B kf f n := sm_congr (fun k hk => by
  show (if kf k = f then A 8 k else 0) = if kf k = f then B 8 k else 0
  rw [h k hk])
theorem comZ_b {td : Int} {nf nk nc : Nat} {A : Nat → Nat → Int} {kf : Nat → Nat} {t f n : Nat} (hI : IV td nf nk nc A kf t) (hn : n ≤ nk) : 0 ≤ comZ A kf f n ∧ comZ A kf f n ≤ 51199488 := by
  obtain ⟨h1, h2, h3, h4, h5, h6⟩ := hI
  have a : sm n (fun k => if kf k = f then A 8 k else 0) ≤ sm n (A 8) := sm_le (fun k hk => by
    have := (h3 k (by omega)).2.2.1
    show (if kf k = f then A 8 k else 0) ≤ A 8 k
    split <;> omega)
  have b : 0 ≤ sm n (fun k => if kf k = f then A 8 k else 0) := sm_nn (fun k hk => by
    have := (h3 k (by omega)).2.2.1
    show 0 ≤ (if kf k = f then A 8 k else 0)
    split <;> omega)
  have c := sm_nn (n := nf) (f := A 0) (fun j hj => (h2 j hj).1)
  have d : sm n (A 8) ≤ sm nk (A 8) := by
    have e : ∀ m, n ≤ m → m ≤ nk → sm n (A 8) ≤ sm m (A 8) := by
      intro m
      induction m with
      | zero => intro e1 _; rw [show n = 0 by omega]; exact Int.le_refl _
      | succ m ih =>
        intro e1 e2
        by_cases e3 : n = m + 1
        · rw [e3]; exact Int.le_refl _
        · have := ih (by omega) (by omega)
          have := (h3 m (by omega)).2.2.1
          show sm n (A 8) ≤ sm m (A 8) + A 8 m
          omega
    exact e nk hn (Nat.le_refl _)
  unfold comZ
  omega
theorem comZ_one {td : Int} {nf nk nc : Nat} {A : Nat → Nat → Int} {kf : Nat → Nat} {t k : Nat} (hI : IV td nf nk nc A kf t) (hk : k < nk) : A 8 k ≤ comZ A kf (kf k) nk := by
  have a := sm_one (n := nk) (f := fun j => if kf j = kf k then A 8 j else 0) (fun j hj => by
    have := (hI.2.2.1 j hj).2.2.1
    show 0 ≤ (if kf j = kf k then A 8 j else 0)
    split <;> omega) hk
  have a : (if kf k = kf k then A 8 k else 0) ≤ comZ A kf (kf k) nk := a
  rw [if_pos rfl] at a
  exact a
theorem AV.addF {nf nk nc : Nat} {A P : Nat → Nat → Int} {kf : Nat → Nat} {K : Nat → Int} {m a d c : Int} (h : AV nf nk nc A P kf K) (hk : ∀ k, k < nk → kf k < nf) (hn : nf < 6) : AV (nf + 1) nk nc (fNew A nf m a d c) P kf (ui K nf m) := by
  obtain ⟨h1, h2, h3⟩ := h
  have v : ∀ k, k ≤ 5 → fNew A nf m a d c k nf = (if k = 0 then m else if k = 1 then a else if k = 2 then d else if k = 3 then c else 0) := fun k hk => by unfold fNew; rw [if_pos ⟨rfl, hk⟩]
  have z : ∀ f, comZ (fNew A nf m a d c) kf f nk = comZ A kf f nk := fun f => comZ_congr (fun k _ => by rw [fNew_o (by omega)])
  have hP : ∀ e, e < nc → sm (nf + 1) (P e) = sm nf (P e) := fun e he => by
    show sm nf (P e) + P e nf = _
    rw [(h2 e he).2.2.2 nf (Nat.le_refl _)]; omega
  refine ⟨fun f hf => ?_, fun e he => ?_, ?_⟩
  · rw [z]
    by_cases x : f = nf
    · subst x
      rw [v 0 (by omega), v 4 (by omega), v 5 (by omega)]
      have : comZ A kf f nk = 0 := sm_zero (fun k hk' => if_neg (by have := hk k hk'; omega))
      unfold ui
      simp
      omega
    · rw [fNew_n x, fNew_n x, fNew_n x]
      unfold ui
      rw [if_neg x]
      exact h1 f (by omega)
  · obtain ⟨a1, a2, a3, a4⟩ := h2 e he
    rw [hP e he, fNew_o (by omega)]
    unfold ui
    rw [if_neg (by omega)]
    exact ⟨a1, a2, a3, fun f hf => a4 f (by omega)⟩
  · show sm nf (fNew A nf m a d c 4) + fNew A nf m a d c 4 nf = _
    rw [v 4 (by omega), sm_congr (f := fNew A nf m a d c 4) (h := A 4) (fun x hx => fNew_n (by omega)), h3]
    simp
    exact sm_congr (fun e he => (hP e he).symm)
theorem KV.addF {td : Int} {nf nk : Nat} {A : Nat → Nat → Int} {m a d c : Int} (h : KV td nk A) : KV td nk (fNew A nf m a d c) := fun k hk => by
  rw [fNew_o (k := 8) (by omega), fNew_o (k := 9) (by omega)]; exact h k hk
theorem AV.dep {nf nk nc : Nat} {A P : Nat → Nat → Int} {kf : Nat → Nat} {K : Nat → Int} {i : Nat} {m : Int} (h : AV nf nk nc A P kf K) (hi : i < nf) (hn : nf ≤ 6) : AV nf nk nc (u2 A 0 i (A 0 i + m)) P kf (ui K i (K i + m)) := by
  obtain ⟨h1, h2, h3⟩ := h
  have z : ∀ f, comZ (u2 A 0 i (A 0 i + m)) kf f nk = comZ A kf f nk := fun f => comZ_congr (fun k _ => by rw [u2_row' (by omega)])
  refine ⟨fun f hf => ?_, fun e he => ?_, ?_⟩
  · rw [z, u2_row' (a := 4) (by omega), u2_row' (a := 5) (by omega)]
    have := h1 f hf
    unfold u2 ui
    by_cases x : f = i
    · subst x; rw [if_pos ⟨rfl, rfl⟩, if_pos rfl]; omega
    · rw [if_neg (fun w => x w.2), if_neg x]; exact this
  · rw [u2_row' (a := 12) (by omega)]
    unfold ui
    rw [if_neg (by omega)]
    exact h2 e he
  · rw [u2_row' (a := 4) (by omega)]; exact h3
theorem KV.dep {td : Int} {nk : Nat} {A : Nat → Nat → Int} {i : Nat} {v : Int} (h : KV td nk A) : KV td nk (u2 A 0 i v) := fun k hk => by
  rw [u2_row' (a := 8) (by omega), u2_row' (a := 9) (by omega)]; exact h k hk
theorem AV.com {nf nk nc : Nat} {A P : Nat → Nat → Int} {kf : Nat → Nat} {K : Nat → Int} {i : Nat} {c m u : Int} (h : AV nf nk nc A P kf K) : AV nf (nk + 1) nc (fCom A i nk c m u) P (un kf nk i) K := by
  obtain ⟨h1, h2, h3⟩ := h
  refine ⟨fun f hf => ?_, fun e he => by rw [fCom_o (by omega) (by omega)]; exact h2 e he, by rw [fCom_o (by omega) (by omega)]; exact h3⟩
  have z : comZ (fCom A i nk c m u) (un kf nk i) f (nk + 1) = comZ A kf f nk + (if i = f then m else 0) := by
    show sm nk (fun k => if un kf nk i k = f then fCom A i nk c m u 8 k else 0) + (if un kf nk i nk = f then fCom A i nk c m u 8 nk else 0) = _
    rw [show un kf nk i nk = i from if_pos rfl, fCom_8]
    congr 1
    exact sm_congr (fun k hk => by
      show (if un kf nk i k = f then fCom A i nk c m u 8 k else 0) = if kf k = f then A 8 k else 0
      rw [show un kf nk i k = kf k from if_neg (by omega), fCom_k (by omega) (by omega)])
  rw [z, fCom_0, fCom_o (a := 4) (by omega) (by omega), fCom_o (a := 5) (by omega) (by omega)]
  have := h1 f hf
  by_cases x : f = i
  · subst x; rw [if_pos rfl, if_pos rfl]; omega
  · rw [if_neg x, if_neg (fun w => x w.symm)]; omega
theorem KV.com {td : Int} {nk i : Nat} {A : Nat → Nat → Int} {c m u : Int} (h : KV td nk A) (hm : 1 ≤ m) (hu : td ≤ u) : KV td (nk + 1) (fCom A i nk c m u) := fun k hk => by
  by_cases e : k = nk
  · subst e; rw [fCom_8, fCom_9]; omega
  · rw [fCom_k (by omega) e, fCom_k (by omega) e]; exact h k (by omega)
theorem AV.cst {nf nk nc : Nat} {A P : Nat → Nat → Int} {kf : Nat → Nat} {K : Nat → Int} {c d m : Int} (h : AV nf nk nc A P kf K) (hm : m ≤ 99999) (hn : nf ≤ 6) : AV nf nk (nc + 1) (fCst A nc c d m) (fP0 P nc) kf (ui K (16 + nc) m) := by
  obtain ⟨h1, h2, h3⟩ := h
  have hP0 : sm nf (fP0 P nc nc) = 0 := sm_zero (fun f _ => by unfold fP0; exact if_pos rfl)
  have hPe : ∀ e, e ≠ nc → fP0 P nc e = P e := fun e he => by funext f; unfold fP0; exact if_neg he
  refine ⟨fun f hf => ?_, fun e he => ?_, ?_⟩
  · rw [fCst_o (a := 0) (by omega), fCst_o (a := 4) (by omega), fCst_o (a := 5) (by omega), comZ_congr (A := fCst A nc c d m) (B := A) (fun k _ => by rw [fCst_o (by omega)])]
    unfold ui
    rw [if_neg (by omega)]
    exact h1 f hf
  · by_cases x : e = nc
    · subst x
      rw [hP0, fCst_12]
      unfold ui
      rw [if_pos rfl]
      exact ⟨by omega, hm, fun f => by unfold fP0; rw [if_pos rfl]; exact Int.le_refl _, fun f _ => by unfold fP0; exact if_pos rfl⟩
    · rw [hPe e x, fCst_k x]
      unfold ui
      rw [if_neg (by omega)]
      exact h2 e (by omega)
  · rw [fCst_o (a := 4) (by omega), h3]
    show _ = sm nc (fun e => sm nf (fP0 P nc e)) + sm nf (fP0 P nc nc)
    rw [hP0, sm_congr (f := fun e => sm nf (fP0 P nc e)) (h := fun e => sm nf (P e)) (fun e he => by rw [hPe e (by omega)])]
    omega
theorem KV.cst {td : Int} {nk nc : Nat} {A : Nat → Nat → Int} {c d m : Int} (h : KV td nk A) : KV td nk (fCst A nc c d m) := fun k hk => by
  rw [fCst_o (a := 8) (by omega), fCst_o (a := 9) (by omega)]; exact h k hk
theorem AV.ends {nf nk nc : Nat} {A P : Nat → Nat → Int} {kf : Nat → Nat} {K : Nat → Int} {i : Nat} (h : AV nf nk nc A P kf K) (hi : i < nk) : AV nf (nk - 1) nc (fEnd A kf i) P (eDel kf i) K := by
  obtain ⟨h1, h2, h3⟩ := h
  refine ⟨fun f hf => ?_, fun e he => by rw [fEnd_o (by omega) (by omega)]; exact h2 e he, by rw [fEnd_o (by omega) (by omega)]; exact h3⟩
  have z : comZ (fEnd A kf i) (eDel kf i) f (nk - 1) = comZ A kf f nk - (if kf i = f then A 8 i else 0) := by
    have a := sm_del (f := fun k => if kf k = f then A 8 k else 0) hi
    unfold comZ
    rw [← a]
    exact sm_congr (fun k hk => by
      show (if eDel kf i k = f then fEnd A kf i 8 k else 0) = if k < i then (if kf k = f then A 8 k else 0) else (if kf (k + 1) = f then A 8 (k + 1) else 0)
      rw [fEnd_k (by omega)]
      unfold eDel
      by_cases x : k < i
      · rw [if_pos x, if_pos x, if_pos x]
      · rw [if_neg x, if_neg x, if_neg x])
  rw [z, fEnd_0, fEnd_o (a := 4) (by omega) (by omega), fEnd_o (a := 5) (by omega) (by omega)]
  have := h1 f hf
  by_cases x : f = kf i
  · rw [if_pos x, if_pos x.symm]; omega
  · rw [if_neg x, if_neg (fun w => x w.symm)]; omega
theorem KV.ends {td : Int} {nk i : Nat} {A : Nat → Nat → Int} {kf : Nat → Nat} (h : KV td nk A) (hi : i < nk) : KV td (nk - 1) (fEnd A kf i) := fun k hk => by
  rw [fEnd_k (a := 8) (by omega), fEnd_k (a := 9) (by omega)]
  by_cases e : k < i
  · rw [if_pos e, if_pos e]; exact h k (by omega)
  · rw [if_neg e, if_neg e]; exact h (k + 1) (by omega)
theorem AV.endS {q : (Nat → Nat → Int) → Nat → Bool} {nf nc : Nat} {P : Nat → Nat → Int} {K : Nat → Int} : ∀ (k nk : Nat) (A : Nat → Nat → Int) (kf : Nat → Nat), k ≤ nk → AV nf nk nc A P kf K → AV nf (endS q k (nk, A, kf)).1 nc (endS q k (nk, A, kf)).2.1 P (endS q k (nk, A, kf)).2.2 K := by
  intro k
  induction k with
  | zero => intro nk A kf _ h; exact h
  | succ k ih =>
    intro nk A kf hk h
    by_cases e : q A k = true
    · rw [endS_y e]; exact ih _ _ _ (by omega) (h.ends (by omega))
    · rw [endS_n e]; exact ih _ _ _ (by omega) h
theorem KV.lap {td td' : Int} {nk : Nat} {A : Nat → Nat → Int} {kf : Nat → Nat} (h : KV td nk A) : KV td' (endS (qLap td') nk (nk, A, kf)).1 (endS (qLap td') nk (nk, A, kf)).2.1 := fun k hk => by
  obtain ⟨⟨y, y1, y2, y3⟩, hn⟩ := endS_sub QL.lap nk nk A kf (Nat.le_refl _) (fun x a b => by omega) k hk
  have := h y y1
  unfold qLap at hn
  simp at hn
  exact ⟨by omega, hn⟩
/-! overhead -/
def OV (A B : Nat → Nat → Int) : Prop := (∀ a, a ≠ 0 → a ≠ 5 → B a = A a) ∧ ∀ f, B 0 f + B 5 f = A 0 f + A 5 f
theorem OV.rf {A : Nat → Nat → Int} : OV A A := ⟨fun _ _ _ => rfl, fun _ => rfl⟩
theorem OV.tr {A B C : Nat → Nat → Int} (h : OV A B) (h' : OV B C) : OV A C := ⟨fun a h0 h5 => (h'.1 a h0 h5).trans (h.1 a h0 h5), fun f => (h'.2 f).trans (h.2 f)⟩
theorem OV.take {A : Nat → Nat → Int} {f : Nat} {m : Int} : OV A (takeA A f m) := ⟨fun a h0 h5 => takeA_o h0 h5, fun x => by
  by_cases e : x = f
  · subst e; rw [takeA_0, takeA_5]; omega
  · rw [takeA_n e, takeA_n e]⟩
theorem OV.rnd {A : Nat → Nat → Int} {amt all : Int} : ∀ i, OV A (rndS A amt all i).1 := by
  intro i
  induction i with
  | zero => exact OV.rf
  | succ i ih =>
    show OV A (if 0 < roA A i then (takeA (rndS A amt all i).1 i (min (amt * A 4 i / all) (roA A i)), (rndS A amt all i).2 + min (amt * A 4 i / all) (roA A i)) else rndS A amt all i).1
    split
    · exact ih.tr OV.take
    · exact ih
theorem OV.one {A : Nat → Nat → Int} {amt : Int} : ∀ i, OV A (oneS A amt i).1 := by
  intro i
  induction i with
  | zero => exact OV.rf
  | succ i ih =>
    show OV A (if (oneS A amt i).2 < amt ∧ 0 < roA A i then (takeA (oneS A amt i).1 i 1, (oneS A amt i).2 + 1) else oneS A amt i).1
    split
    · exact ih.tr OV.take
    · exact ih
theorem OV.step {nf : Nat} {A : Nat → Nat → Int} {l : Int} : OV A (stepS nf A l).1 := by
  unfold stepS
  split
  · exact (OV.rnd nf).tr (OV.one nf)
  · exact OV.rnd nf
theorem OV.ov {nf : Nat} : ∀ (n : Nat) (A : Nat → Nat → Int) (l : Int), OV A (ovS nf n A l).1 := by
  intro n
  induction n with
  | zero => intro A l; exact OV.rf
  | succ n ih =>
    intro A l
    show OV A (if l ≤ 0 then (A, l) else if (stepS nf A l).2 ≤ 0 then ((stepS nf A l).1, l - (stepS nf A l).2) else ovS nf n (stepS nf A l).1 (l - (stepS nf A l).2)).1
    split
    · exact OV.rf
    · split
      · exact OV.step
      · exact OV.step.tr (ih _ _)
theorem AV.over {nf nk nc : Nat} {A B P : Nat → Nat → Int} {kf : Nat → Nat} {K : Nat → Int} (h : AV nf nk nc A P kf K) (ho : OV A B) : AV nf nk nc B P kf K := by
  obtain ⟨h1, h2, h3⟩ := h
  obtain ⟨o1, o2⟩ := ho
  refine ⟨fun f hf => ?_, fun e he => by rw [o1 12 (by omega) (by omega)]; exact h2 e he, by rw [o1 4 (by omega) (by omega)]; exact h3⟩
  rw [comZ_congr (A := B) (B := A) (fun k _ => by rw [o1 8 (by omega) (by omega)]), o1 4 (by omega) (by omega)]
  have := h1 f hf
  have := o2 f
  omega
theorem KV.over {td : Int} {nk : Nat} {A B : Nat → Nat → Int} (h : KV td nk A) (ho : OV A B) : KV td nk B := fun k hk => by
  rw [ho.1 8 (by omega) (by omega), ho.1 9 (by omega) (by omega)]; exact h k hk
/-- no round shares more than there is -/
theorem rnd_le {A : Nat → Nat → Int} {amt : Int} {nf : Nat} (ha : 0 ≤ amt) (h4 : ∀ f, f < nf → 0 ≤ A 4 f) : (rndS A amt (allR A nf) nf).2 ≤ amt := by
  have s : ∀ i, i ≤ nf → (0 < allR A nf → allR A nf * (rndS A amt (allR A nf) i).2 ≤ amt * allR A i) ∧ (¬ 0 < allR A nf → (rndS A amt (allR A nf) i).2 ≤ 0) := by
    intro i
    induction i with
    | zero => intro _; exact ⟨fun _ => by show allR A nf * 0 ≤ amt * 0; omega, fun _ => Int.le_refl _⟩
    | succ i ih =>
      intro hi
      obtain ⟨ih1, ih2⟩ := ih (by omega)
      have e2 : (rndS A amt (allR A nf) (i + 1)).2 = if 0 < roA A i then (rndS A amt (allR A nf) i).2 + min (amt * A 4 i / allR A nf) (roA A i) else (rndS A amt (allR A nf) i).2 := by
        show (if 0 < roA A i then (takeA (rndS A amt (allR A nf) i).1 i (min (amt * A 4 i / allR A nf) (roA A i)), (rndS A amt (allR A nf) i).2 + min (amt * A 4 i / allR A nf) (roA A i)) else rndS A amt (allR A nf) i).2 = _
        split <;> rfl
      have e3 : allR A (i + 1) = allR A i + (if 0 < roA A i then A 4 i else 0) := rfl
      rw [e2, e3]
      by_cases r : 0 < roA A i
      · rw [if_pos r, if_pos r]
        refine ⟨fun hp => ?_, fun hn => ?_⟩
        · have a := ih1 hp
          have b : allR A nf * (amt * A 4 i / allR A nf) ≤ amt * A 4 i := Int.mul_ediv_self_le (by omega)
          have c : allR A nf * min (amt * A 4 i / allR A nf) (roA A i) ≤ allR A nf * (amt * A 4 i / allR A nf) := Int.mul_le_mul_of_nonneg_left (by omega) (by omega)
          rw [Int.mul_add, Int.mul_add]
          omega
        · have a := ih2 hn
          have z : allR A nf = 0 := by
            have : 0 ≤ allR A nf := sm_nn (fun f hf => by
              have := h4 f hf
              show 0 ≤ (if 0 < roA A f then A 4 f else 0)
              split <;> omega)
            omega
          have w : amt * A 4 i / allR A nf = 0 := by rw [z, Int.ediv_zero]
          rw [w]
          omega
      · rw [if_neg r, if_neg r]
        refine ⟨fun hp => ?_, fun hn => ih2 hn⟩
        have := ih1 hp
        rw [show allR A i + 0 = allR A i by omega]
        exact this
  obtain ⟨s1, s2⟩ := s nf (Nat.le_refl _)
  by_cases hp : 0 < allR A nf
  · have a := s1 hp
    rw [Int.mul_comm amt] at a
    exact Int.le_of_mul_le_mul_left a hp
  · have := s2 hp
    omega
theorem one_le {A : Nat → Nat → Int} {amt : Int} (ha : 0 ≤ amt) : ∀ i, (oneS A amt i).2 ≤ amt := by
  intro i
  induction i with
  | zero => exact ha
  | succ i ih =>
    show (if (oneS A amt i).2 < amt ∧ 0 < roA A i then (takeA (oneS A amt i).1 i 1, (oneS A amt i).2 + 1) else oneS A amt i).2 ≤ amt
    split
    · show (oneS A amt i).2 + 1 ≤ amt
      omega
    · exact ih
theorem step_le {td : Int} {nf nk nc : Nat} {kf : Nat → Nat} {t : Nat} {A : Nat → Nat → Int} {l : Int} (hI : IV td nf nk nc A kf t) (hl : 0 ≤ l) : (stepS nf A l).2 ≤ l := by
  unfold stepS
  split
  · exact one_le hl nf
  · exact rnd_le hl (fun f hf => (hI.2.1 f hf).2.2.2.2.1)
theorem ov_b {td : Int} {nf nk nc : Nat} {kf : Nat → Nat} {t : Nat} : ∀ (n : Nat) (A : Nat → Nat → Int) (l : Int), IV td nf nk nc A kf t → 0 ≤ l → 0 ≤ (ovS nf n A l).2 ∧ (ovS nf n A l).2 ≤ l := by
  intro n
  induction n with
  | zero => intro A l _ h; exact ⟨h, Int.le_refl _⟩
  | succ n ih =>
    intro A l hI h
    obtain ⟨a1, a2, a3⟩ := step_iv hI h
    have a4 := step_le hI h
    show 0 ≤ (if l ≤ 0 then (A, l) else if (stepS nf A l).2 ≤ 0 then ((stepS nf A l).1, l - (stepS nf A l).2) else ovS nf n (stepS nf A l).1 (l - (stepS nf A l).2)).2 ∧ (if l ≤ 0 then (A, l) else if (stepS nf A l).2 ≤ 0 then ((stepS nf A l).1, l - (stepS nf A l).2) else ovS nf n (stepS nf A l).1 (l - (stepS nf A l).2)).2 ≤ l
    by_cases z : l ≤ 0
    · rw [if_pos z]; exact ⟨h, Int.le_refl _⟩
    · rw [if_neg z]
      by_cases w : (stepS nf A l).2 ≤ 0
      · rw [if_pos w]
        show 0 ≤ l - (stepS nf A l).2 ∧ l - (stepS nf A l).2 ≤ l
        omega
      · rw [if_neg w]
        have := ih _ _ a1 (show 0 ≤ l - (stepS nf A l).2 by omega)
        omega
/-- with no fund nothing is shared -/
theorem ov_none {A : Nat → Nat → Int} {l : Int} : ∀ n, (ovS 0 n A l).2 = l := by
  intro n
  cases n with
  | zero => rfl
  | succ n =>
    have s : (stepS 0 A l).2 = 0 := by unfold stepS; split <;> rfl
    show (if l ≤ 0 then (A, l) else if (stepS 0 A l).2 ≤ 0 then ((stepS 0 A l).1, l - (stepS 0 A l).2) else ovS 0 n (stepS 0 A l).1 (l - (stepS 0 A l).2)).2 = l
    split
    · rfl
    · rw [if_pos (by omega)]
      show l - (stepS 0 A l).2 = l
      omega
