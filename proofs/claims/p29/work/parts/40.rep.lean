/-! ===== the ledger's cells ===== -/
def inA (rl x : Nat) : Prop := 1000 * (rl - 100) < x ∧ x < 1000 * (rl - 100) + 100
/-- the roles whose addresses stay: all live ones but the lists' arrays -/
def AdK (ad ad' : Nat → Nat) (F : Pic) : Prop := ∀ x, (x < 1000 ∨ 5000 ≤ x) → F x ≠ none → ad' x = ad x
def CO (g : Gx) (ad : Nat → Nat) (F : Pic) (td : Int) : Prop := F 100 = some (.inr (7, [.ref (ad 101), .ref (ad 102), .ref (ad 103), .ref (ad 104), .ref (ad 200), .int (zI td)])) ∧ F 99 = some (cO g 0 (fun _ => none)) ∧ ad 99 = gn g 99
def CL (g : Gx) (ad : Nat → Nat) (F : Pic) (rl k : Nat) (e : Nat → Nat) : Prop := ∃ cap, LR g ad F rl k cap e ∧ LF F rl cap
def CP (g : Gx) (ad : Nat → Nat) (F : Pic) : Prop := ∃ np nc pl cl pn sh rc py qu ah vi, PR g ad F np nc pl cl pn sh rc py qu ah vi
def fuC (A : Nat → Nat → Int) (i : Nat) : va_E := .inr (5, [.int (zI (A 0 i)), .int (zI (i : Int)), .int (zI (A 1 i)), .int (zI (A 2 i)), .int (zI (A 3 i)), .int (zI (A 4 i)), .int (zI (A 5 i))])
def coC (ad : Nat → Nat) (A : Nat → Nat → Int) (i : Nat) : va_E := .inr (4, [.int (zI (A 10 i)), .int (zI (A 11 i)), .int (zI (A 12 i)), .ref (ad (500 + i))])
def kmC (ad : Nat → Nat) (A : Nat → Nat → Int) (kf : Nat → Nat) (i : Nat) : va_E := .inr (3, [.int (zI (A 8 i)), .ref (ad (300 + kf i)), .int (zI (A 7 i)), .int (zI (A 9 i))])
def CFu (F : Pic) (nf : Nat) (A : Nat → Nat → Int) : Prop := nf ≤ 6 ∧ (∀ i, i < nf → F (300 + i) = some (fuC A i)) ∧ ∀ i, nf ≤ i → i < 100 → F (300 + i) = none
def CCo (g : Gx) (ad : Nat → Nat) (F : Pic) (nc : Nat) (A P : Nat → Nat → Int) : Prop := nc ≤ 16 ∧ (∀ i, i < nc → F (400 + i) = some (coC ad A i) ∧ ∃ f, F (500 + i) = some (cI g 6 f) ∧ ∀ j, j < 6 → f j = zI (P i j)) ∧ ∀ i, nc ≤ i → i < 100 → F (400 + i) = none ∧ F (500 + i) = none
def CK (ad : Nat → Nat) (F : Pic) (nk : Nat) (A : Nat → Nat → Int) (kf ser : Nat → Nat) (sn : Nat) : Prop := (nk ≤ 6 ∧ sn ≤ 600) ∧ (∀ i, i < nk → F (10000 + ser i) = some (kmC ad A kf i) ∧ ser i < sn) ∧ (∀ i j, i < nk → j < nk → ser i = ser j → i = j) ∧ ∀ s, sn ≤ s → s < 20000 → F (10000 + s) = none
/-- the ledger at role 100: today, numbers of funds, commitments, costs, their amounts -/
def RX (g : Gx) (ad : Nat → Nat) (F : Pic) (td : Int) (nf nk nc : Nat) (A P : Nat → Nat → Int) (kf ser : Nat → Nat) (sn : Nat) : Prop :=
  CO g ad F td ∧ (CL g ad F 101 nf (fun i => ad (300 + i)) ∧ CL g ad F 102 nk (fun i => ad (10000 + ser i)) ∧ CL g ad F 103 nc (fun i => ad (400 + i)) ∧ ∃ kp ep, CL g ad F 104 kp ep) ∧ CP g ad F ∧ CFu F nf A ∧ CCo g ad F nc A P ∧ CK ad F nk A kf ser sn
/-- what holds of a ledger's numbers behind t calls -/
def IV (td : Int) (nf nk nc : Nat) (A : Nat → Nat → Int) (kf : Nat → Nat) (t : Nat) : Prop :=
  (0 ≤ td ∧ td ≤ 999 ∧ nf ≤ 6 ∧ nk ≤ 6 ∧ nc ≤ 16 ∧ t ≤ 512) ∧
  (∀ i, i < nf → 0 ≤ A 0 i ∧ (0 ≤ A 1 i ∧ A 1 i ≤ 255) ∧ (0 ≤ A 2 i ∧ A 2 i ≤ 999) ∧ (0 ≤ A 3 i ∧ A 3 i ≤ 100) ∧ 0 ≤ A 4 i ∧ (0 ≤ A 5 i ∧ A 5 i ≤ A 4 i)) ∧
  (∀ i, i < nk → kf i < nf ∧ (0 ≤ A 7 i ∧ A 7 i ≤ 7) ∧ 0 ≤ A 8 i ∧ (0 ≤ A 9 i ∧ A 9 i ≤ 999)) ∧
  (∀ i, i < nc → (0 ≤ A 10 i ∧ A 10 i ≤ 7) ∧ (0 ≤ A 11 i ∧ A 11 i ≤ 999) ∧ (0 ≤ A 12 i ∧ A 12 i ≤ 99999)) ∧
  sm nf (A 0) + sm nk (A 8) ≤ 99999 * t ∧ sm nf (A 4) + sm nc (A 12) ≤ 99999 * nc
theorem IV.b0 {td : Int} {nf nk nc : Nat} {A : Nat → Nat → Int} {kf : Nat → Nat} {t : Nat} (h : IV td nf nk nc A kf t) {i : Nat} (hi : i < nf) : 0 ≤ A 0 i ∧ A 0 i ≤ 51199488 := by
  obtain ⟨h1, h2, h3, h4, h5, h6⟩ := h
  have a := sm_one (f := A 0) (fun j hj => (h2 j hj).1) hi
  have b := sm_nn (n := nk) (f := A 8) (fun j hj => (h3 j hj).2.2.1)
  have := (h2 i hi).1
  omega
theorem IV.b8 {td : Int} {nf nk nc : Nat} {A : Nat → Nat → Int} {kf : Nat → Nat} {t : Nat} (h : IV td nf nk nc A kf t) {i : Nat} (hi : i < nk) : 0 ≤ A 8 i ∧ A 8 i ≤ 51199488 := by
  obtain ⟨h1, h2, h3, h4, h5, h6⟩ := h
  have a := sm_one (f := A 8) (fun j hj => (h3 j hj).2.2.1) hi
  have b := sm_nn (n := nf) (f := A 0) (fun j hj => (h2 j hj).1)
  have := (h3 i hi).2.2.1
  omega
theorem IV.b4 {td : Int} {nf nk nc : Nat} {A : Nat → Nat → Int} {kf : Nat → Nat} {t : Nat} (h : IV td nf nk nc A kf t) {i : Nat} (hi : i < nf) : 0 ≤ A 4 i ∧ A 4 i ≤ 1599984 ∧ 0 ≤ A 5 i ∧ A 5 i ≤ 1599984 := by
  obtain ⟨h1, h2, h3, h4, h5, h6⟩ := h
  have a := sm_one (f := A 4) (fun j hj => (h2 j hj).2.2.2.2.1) hi
  have b := sm_nn (n := nc) (f := A 12) (fun j hj => (h4 j hj).2.2.1)
  have := (h2 i hi).2.2.2.2
  omega
section Fr
variable {g : Gx} {ad ad' : Nat → Nat} {F F' : Pic}
theorem AdK.at (h : AdK ad ad' F) {x : Nat} {e : va_E} (hF : F x = some e) (hx : x < 1000 ∨ 5000 ≤ x) : ad' x = ad x := h x hx (by rw [hF]; exact fun z => by cases z)
theorem CL.obj {rl k : Nat} {e : Nat → Nat} (h : CL g ad F rl k e) : ∃ vs, F rl = some (.inr (2, vs)) := by
  obtain ⟨cap, hL, -⟩ := h
  obtain ⟨mo, ho⟩ := hL.obj
  exact ⟨_, ho⟩
theorem CO.fr {td : Int} (h : CO g ad F td) (h1 : F' 100 = F 100) (h9 : F' 99 = F 99) (hA : ∀ x, x = 99 ∨ (101 ≤ x ∧ x ≤ 104) ∨ x = 200 → ad' x = ad x) : CO g ad' F' td := by
  obtain ⟨a, b, c⟩ := h
  refine ⟨?_, h9.trans b, (hA 99 (.inl rfl)).trans c⟩
  rw [h1, a, hA 101 (by omega), hA 102 (by omega), hA 103 (by omega), hA 104 (by omega), hA 200 (by omega)]
theorem CL.fr {rl k : Nat} {e e' : Nat → Nat} (h : CL g ad F rl k e) (hrl : 101 ≤ rl ∧ rl ≤ 104) (hF : ∀ x, x = rl ∨ inA rl x ∨ x = 99 → F' x = F x) (hA : ∀ x, inA rl x ∨ x = 99 → ad' x = ad x) (he : ∀ i, i < k → e' i = e i) : CL g ad' F' rl k e' := by
  obtain ⟨cap, ⟨⟨mo, f, hobj, harr, hf⟩, hkc, hc⟩, hLF⟩ := h
  have hl : inA rl (lra rl cap) ∨ lra rl cap = 99 := by unfold inA lra; split <;> omega
  refine ⟨cap, ⟨⟨mo, f, ?_, ?_, fun i hi => by rw [he i hi]; exact hf i hi⟩, hkc, hc⟩, fun c h1 h2 => (hF _ (.inr (.inl ⟨by omega, by omega⟩))).trans (hLF c h1 h2)⟩
  · rw [hF rl (.inl rfl), hA _ hl]; exact hobj
  · rw [hF _ (.inr hl)]; exact harr
theorem PR.fr {np nc : Nat} {pl cl pn : Nat → Int} {sh : Nat → Nat → Int} {rc py : Nat → Nat} {qu ah vi : Nat → Int} (h : PR g ad F np nc pl cl pn sh rc py qu ah vi) (hF : ∀ x, 200 ≤ x → x < 260 → F' x = F x) (hA : ∀ x, 200 ≤ x → x < 260 → ad' x = ad x) : PR g ad' F' np nc pl cl pn sh rc py qu ah vi := by
  obtain ⟨⟨h0, h1, h2, h3, h4, h5, h6, h7, h8, h9⟩, hs, hnp, hnc⟩ := h
  refine ⟨⟨?_, (hF _ (by decide) (by decide)).trans h1, (hF _ (by decide) (by decide)).trans h2, (hF _ (by decide) (by decide)).trans h3, ?_, (hF _ (by decide) (by decide)).trans h5, (hF _ (by decide) (by decide)).trans h6, (hF _ (by decide) (by decide)).trans h7, (hF _ (by decide) (by decide)).trans h8, (hF _ (by decide) (by decide)).trans h9⟩, fun i hi => (hF _ (by omega) (by omega)).trans (hs i hi), hnp, hnc⟩
  · rw [hF 200 (by decide) (by decide), h0, hA 201 (by decide) (by decide), hA 202 (by decide) (by decide), hA 203 (by decide) (by decide), hA 204 (by decide) (by decide), hA 205 (by decide) (by decide), hA 206 (by decide) (by decide), hA 207 (by decide) (by decide), hA 208 (by decide) (by decide), hA 209 (by decide) (by decide)]
  · rw [hF 204 (by decide) (by decide), h4]
    congr 6
    funext i
    rw [hA (220 + i % 16) (by omega) (by omega)]
theorem CP.fr (h : CP g ad F) (hF : ∀ x, 200 ≤ x → x < 260 → F' x = F x) (hA : ∀ x, 200 ≤ x → x < 260 → ad' x = ad x) : CP g ad' F' := by
  obtain ⟨a, b, c, d, e, f, i, j, k, l, m, h⟩ := h
  exact ⟨a, b, c, d, e, f, i, j, k, l, m, h.fr hF hA⟩
theorem CFu.fr {nf : Nat} {A : Nat → Nat → Int} (h : CFu F nf A) (hF : ∀ x, 300 ≤ x → x < 400 → F' x = F x) : CFu F' nf A := ⟨h.1, fun i hi => (hF _ (by omega) (by have := h.1; omega)).trans (h.2.1 i hi), fun i h1 h2 => (hF _ (by omega) (by omega)).trans (h.2.2 i h1 h2)⟩
theorem CCo.fr {nc : Nat} {A P : Nat → Nat → Int} (h : CCo g ad F nc A P) (hF : ∀ x, 400 ≤ x → x < 600 → F' x = F x) (hA : ∀ i, i < nc → ad' (500 + i) = ad (500 + i)) : CCo g ad' F' nc A P := by
  obtain ⟨h0, h1, h2⟩ := h
  refine ⟨h0, fun i hi => ⟨?_, ?_⟩, fun i h3 h4 => ⟨(hF _ (by omega) (by omega)).trans (h2 i h3 h4).1, (hF _ (by omega) (by omega)).trans (h2 i h3 h4).2⟩⟩
  · rw [hF _ (by omega) (by omega), (h1 i hi).1]; unfold coC; rw [hA i hi]
  · obtain ⟨f, a, b⟩ := (h1 i hi).2
    exact ⟨f, (hF _ (by omega) (by omega)).trans a, b⟩
theorem CK.fr {nk : Nat} {A : Nat → Nat → Int} {kf ser : Nat → Nat} {sn : Nat} (h : CK ad F nk A kf ser sn) (hF : ∀ x, 10000 ≤ x → x < 40000 → F' x = F x) (hA : ∀ i, i < nk → ad' (300 + kf i) = ad (300 + kf i)) : CK ad' F' nk A kf ser sn := by
  obtain ⟨h0, h1, h2, h3⟩ := h
  refine ⟨h0, fun i hi => ⟨?_, (h1 i hi).2⟩, h2, fun s h4 h5 => (hF _ (by omega) (by omega)).trans (h3 s h4 h5)⟩
  rw [hF _ (by omega) (by have := (h1 i hi).2; omega), (h1 i hi).1]; unfold kmC; rw [hA i hi]
end Fr
