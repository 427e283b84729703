/-! ===== the model: its cells ===== -/
def szM (k : Nat) : Nat := if k ≤ 12 then 6 else if k ≤ 16 then 16 else if k = 17 then 96 else if k ≤ 22 then 12 else if k = 23 then 16 else if k = 24 then 12 else if k = 25 then 192 else if k ≤ 27 then 4096 else 6
def isA (k : Nat) : Bool := (2 ≤ k && k ≤ 7) || (9 ≤ k && k ≤ 12) || (14 ≤ k && k ≤ 17) || (19 ≤ k && k ≤ 28)
def MOL (ad : Nat → Nat) (td : Int) (nf nk nc np : Nat) (th : Int) : List Value := [.int (zI td), .int (zI nf), .ref (ad 50002), .ref (ad 50003), .ref (ad 50004), .ref (ad 50005), .ref (ad 50006), .ref (ad 50007), .int (zI nk), .ref (ad 50009), .ref (ad 50010), .ref (ad 50011), .ref (ad 50012), .int (zI nc), .ref (ad 50014), .ref (ad 50015), .ref (ad 50016), .ref (ad 50017), .int (zI np), .ref (ad 50019), .ref (ad 50020), .ref (ad 50021), .ref (ad 50022), .ref (ad 50023), .ref (ad 50024), .ref (ad 50025), .ref (ad 50026), .ref (ad 50027), .ref (ad 50028), .int (zI th)]
/-- the model at role 50000: B k = the contents of its k-th field's array -/
def MB (g : Gx) (ad : Nat → Nat) (F : Pic) (td : Int) (nf nk nc np : Nat) (th : Int) (B : Nat → Nat → Int) : Prop := F 50000 = some (.inr (8, MOL ad td nf nk nc np th)) ∧ ∀ k, isA k = true → F (50000 + k) = some (cI g (szM k) (fun j => zI (B k j)))
/-- nothing but the model's cells is written -/
def FrM (F F' : Pic) : Prop := ∀ x, (x < 50000 ∨ 50100 ≤ x) → F' x = F x
theorem FrM.rf {F : Pic} : FrM F F := fun _ _ => rfl
theorem FrM.tr {F F1 F2 : Pic} (h : FrM F F1) (h1 : FrM F1 F2) : FrM F F2 := fun r hr => (h1 r hr).trans (h r hr)
theorem isA_b {k : Nat} (h : isA k = true) : 2 ≤ k ∧ k ≤ 28 := by
  unfold isA at h
  simp only [Bool.or_eq_true, Bool.and_eq_true, decide_eq_true_eq] at h
  omega
theorem MB.put {g : Gx} {ad : Nat → Nat} {F : Pic} {td : Int} {nf nk nc np : Nat} {th : Int} {B : Nat → Nat → Int} (h : MB g ad F td nf nk nc np th B) (k : Nat) (hk : isA k = true) (j : Nat) (v : Int) : MB g ad (pu F (50000 + k) (cI g (szM k) (upd (fun j => zI (B k j)) j (zI v)))) td nf nk nc np th (u2 B k j v) := by
  have hb := isA_b hk
  refine ⟨(pu_n (by omega)).trans h.1, fun k' hk' => ?_⟩
  by_cases e : k' = k
  · subst e
    rw [pu_s, upd_ui]
    congr 4
    funext i
    unfold ui u2
    by_cases e2 : i = j
    · rw [if_pos e2, if_pos ⟨rfl, e2⟩]
    · rw [if_neg e2, if_neg (fun z => e2 z.2)]
  · rw [pu_n (by omega), h.2 k' hk', u2_row' e]
theorem MB.obj {g : Gx} {ad : Nat → Nat} {F F' : Pic} {td td' : Int} {nf nk nc np nf' nk' nc' np' : Nat} {th th' : Int} {B : Nat → Nat → Int} (h : MB g ad F td nf nk nc np th B) (h1 : F' 50000 = some (.inr (8, MOL ad td' nf' nk' nc' np' th'))) (h2 : ∀ x, x ≠ 50000 → F' x = F x) : MB g ad F' td' nf' nk' nc' np' th' B :=
  ⟨h1, fun k hk => by have := isA_b hk; rw [h2 _ (by omega)]; exact h.2 k hk⟩
theorem FrM.pu {F : Pic} {r : Nat} {e : va_E} (h : 50000 ≤ r ∧ r < 50100) : FrM F (pu F r e) := fun x hx => pu_n (by omega)
/-- the model's arrays and the ledger's numbers are the same -/
def AG (nf nk nc : Nat) (A P : Nat → Nat → Int) (kf : Nat → Nat) (B : Nat → Nat → Int) : Prop :=
  (∀ i, i < nf → B 2 i = A 0 i ∧ B 3 i = A 1 i ∧ B 4 i = A 2 i ∧ B 5 i = A 3 i ∧ B 6 i = A 4 i ∧ B 7 i = A 5 i) ∧ (∀ i, nf ≤ i → i < 6 → B 6 i = 0 ∧ B 7 i = 0) ∧
  (∀ k, k < nk → B 9 k = (kf k : Int) ∧ B 10 k = A 7 k ∧ B 11 k = A 8 k ∧ B 12 k = A 9 k) ∧
  (∀ c, c < nc → B 14 c = A 10 c ∧ B 15 c = A 11 c ∧ B 16 c = A 12 c ∧ ∀ k, k < 6 → B 17 (6 * c + k) = P c k) ∧ (∀ c, nc ≤ c → c < 16 → ∀ k, k < 6 → B 17 (6 * c + k) = 0)
set_option maxRecDepth 100000 in
set_option maxHeartbeats 4000000 in
theorem c_mThrown (g : Gx) (l : Launch) (hl : l.stackTraces = false) (ad : Nat → Nat) (F : Pic) (td : Int) (nf nk nc np : Nat) (th : Int) (B : Nat → Nat → Int) (hB : MB g ad F td nf nk nc np th B) : Ct g l yX6_thrown cX6_thrown 1 (some .int) 1 0 0 [.ref (ad 50000)] ad F (fun v ad' F' => v = some (.int (zI th)) ∧ ad = ad' ∧ F = F') := by
  refine Ct_of hl rfl [some (.ref (ad 50000))] (Nat.le_of_ble_eq_true rfl) (fun _ h => h) ?_
  intro M hL hN X
  subst hL
  have hO : F 50000 = some (.inr (8, [.int (zI td), .int (zI nf), .ref (ad 50002), .ref (ad 50003), .ref (ad 50004), .ref (ad 50005), .ref (ad 50006), .ref (ad 50007), .int (zI nk), .ref (ad 50009), .ref (ad 50010), .ref (ad 50011), .ref (ad 50012), .int (zI nc), .ref (ad 50014), .ref (ad 50015), .ref (ad 50016), .ref (ad 50017), .int (zI np), .ref (ad 50019), .ref (ad 50020), .ref (ad 50021), .ref (ad 50022), .ref (ad 50023), .ref (ad 50024), .ref (ad 50025), .ref (ad 50026), .ref (ad 50027), .ref (ad 50028), .int (zI th)])) := hB.1
  refine r_aload_n X dX6_thrown_0 (by rfl) ?_
  refine r_get X dX6_thrown_1 fgX6_82_8 (by assumption) (by rfl) ?_
  exact r_iret X rfl (rfl) dX6_thrown_4 (⟨rfl, rfl, rfl⟩) (by omega) (by omega)
set_option maxRecDepth 100000 in
set_option maxHeartbeats 4000000 in
theorem c_mFails (g : Gx) (l : Launch) (hl : l.stackTraces = false) (ad : Nat → Nat) (F : Pic) (td : Int) (nf nk nc np : Nat) (th : Int) (B : Nat → Nat → Int) (hB : MB g ad F td nf nk nc np th B) (s : Int) : Ct g l yX6_fails cX6_fails 2 (some .int) 1 0 0 [.ref (ad 50000), .int (zI s)] ad F (fun v ad' F' => v = some (.int (zI 0)) ∧ ad = ad' ∧ FrM F F' ∧ MB g ad F' td nf nk nc np s B) := by
  refine Ct_of hl rfl [some (.ref (ad 50000)), some (.int (zI s))] (Nat.le_of_ble_eq_true rfl) (fun _ h => h) ?_
  intro M hL hN X
  subst hL
  have hO : F 50000 = some (.inr (8, [.int (zI td), .int (zI nf), .ref (ad 50002), .ref (ad 50003), .ref (ad 50004), .ref (ad 50005), .ref (ad 50006), .ref (ad 50007), .int (zI nk), .ref (ad 50009), .ref (ad 50010), .ref (ad 50011), .ref (ad 50012), .int (zI nc), .ref (ad 50014), .ref (ad 50015), .ref (ad 50016), .ref (ad 50017), .int (zI np), .ref (ad 50019), .ref (ad 50020), .ref (ad 50021), .ref (ad 50022), .ref (ad 50023), .ref (ad 50024), .ref (ad 50025), .ref (ad 50026), .ref (ad 50027), .ref (ad 50028), .int (zI th)])) := hB.1
  refine r_aload_n X dX6_fails_0 (by rfl) ?_
  refine r_iload_n X dX6_fails_1 (by rfl) ?_
  refine r_put X dX6_fails_2 fwX6_82_8 (by assumption) (by omega) (by exact Nat.le_of_ble_eq_true rfl) (by rfl) (by rfl) ?_
  dsimp only [List.set]
  refine r_iconst X dX6_fails_5 rfl ?_
  exact r_iret X rfl (rfl) dX6_fails_6 (⟨rfl, rfl, FrM.pu ⟨by omega, by omega⟩, hB.obj pu_s (fun x hx => pu_n hx)⟩) (by omega) (by omega)
