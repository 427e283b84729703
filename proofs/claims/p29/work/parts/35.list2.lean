/-- a list's array: the role of it -/
def lra (rl cap : Nat) : Nat := if cap = 0 then 99 else 1000 * (rl - 100) + cap
def LR (g : Gx) (ad : Nat → Nat) (F : Pic) (rl k cap : Nat) (e : Nat → Nat) : Prop :=
  (∃ (mo : Int) (f : Nat → Option Nat), F rl = some (.inr (2, [.int (zI mo), .ref (ad (lra rl cap)), .int (zI k)])) ∧ F (lra rl cap) = some (cO g cap f) ∧ (∀ i, i < k → f i = some (e i))) ∧ k ≤ cap ∧ (cap = 0 ∨ (10 ≤ cap ∧ cap ≤ 60))
/-- the roles of greater arrays are free -/
def LF (F : Pic) (rl cap : Nat) : Prop := ∀ c, cap < c → c < 100 → F (1000 * (rl - 100) + c) = none
def FrL (rl : Nat) (F F' : Pic) : Prop := ∀ x, x ≠ rl → ¬ (1000 * (rl - 100) < x ∧ x < 1000 * (rl - 100) + 100) → F' x = F x
def AdL (rl : Nat) (ad ad' : Nat → Nat) : Prop := ∀ x, ¬ (1000 * (rl - 100) < x ∧ x < 1000 * (rl - 100) + 100) → ad' x = ad x
theorem LR.obj {g : Gx} {ad : Nat → Nat} {F : Pic} {rl k cap : Nat} {e : Nat → Nat} (h : LR g ad F rl k cap e) : ∃ mo : Int, F rl = some (.inr (2, [.int (zI mo), .ref (ad (lra rl cap)), .int (zI k)])) := ⟨_, h.1.choose_spec.choose_spec.1⟩
theorem LIVE.mono {ad ad' : Nat → Nat} {F F' : Pic} {q : Nat} (h : LIVE ad F q) (hx : ∀ (rv ci : Nat) (vs : List Value), F rv = some (.inr (ci, vs)) → (100 ≤ rv ∧ (rv < 1000 ∨ 5000 ≤ rv)) → (ci = 3 ∨ ci = 4 ∨ ci = 5) → ad' rv = ad rv ∧ ∃ vs', F' rv = some (.inr (ci, vs'))) : LIVE ad' F' q := by
  obtain ⟨rv, ci, vs, e, h1, h2, h3⟩ := h
  obtain ⟨a, vs', b⟩ := hx rv ci vs h1 h2 h3
  exact ⟨rv, ci, vs', e.trans a.symm, b, h2, h3⟩
set_option maxRecDepth 100000 in
set_option maxHeartbeats 4000000 in
theorem c_size (g : Gx) (l : Launch) (hl : l.stackTraces = false) (ad : Nat → Nat) (F : Pic) (rl k cap : Nat) (e : Nat → Nat) (hrl : 101 ≤ rl ∧ rl ≤ 104) (hL : LR g ad F rl k cap e) : Ct g l yJx4a65c_size_8abf5 cJx4a65c_size_8abf5 1 (some .int) 1 0 0 [.ref (ad rl)] ad F (fun v ad' F' => v = some (.int (zI k)) ∧ ad = ad' ∧ F = F') := by
  refine Ct_of hl rfl [some (.ref (ad rl))] (Nat.le_of_ble_eq_true rfl) (fun _ h => h) ?_
  intro M hL hN X
  subst hL
  obtain ⟨mo, hobj⟩ := hL.obj
  refine r_aload_n X dJx4a65c_size_8abf5_0 (by rfl) ?_
  refine r_get X dJx4a65c_size_8abf5_1 fgJx4a65c_48_2 (by assumption) (by rfl) ?_
  exact r_iret X rfl (rfl) dJx4a65c_size_8abf5_4 (⟨rfl, rfl, rfl⟩) (by omega) (by omega)
set_option maxRecDepth 100000 in
set_option maxHeartbeats 4000000 in
theorem c_elementData (g : Gx) (l : Launch) (hl : l.stackTraces = false) (ad : Nat → Nat) (F : Pic) (rl k cap : Nat) (e : Nat → Nat) (hrl : 101 ≤ rl ∧ rl ≤ 104) (hL : LR g ad F rl k cap e) (i : Nat) (hi : i < k) : Ct g l yJx4a65c_elementData_915e3 cJx4a65c_elementData_915e3 2 (some (.object "java/lang/Object")) 1 0 0 [.ref (ad rl), .int (zI (i : Int))] ad F (fun v ad' F' => v = some (.ref (e i)) ∧ ad = ad' ∧ F = F') := by
  refine Ct_of hl rfl [some (.ref (ad rl)), some (.int (zI (i : Int)))] (Nat.le_of_ble_eq_true rfl) (fun _ h => h) ?_
  intro M hL hN X
  subst hL
  obtain ⟨⟨mo, f, hobj, harr, hf⟩, hk, hc⟩ := hL
  refine r_aload_n X dJx4a65c_elementData_915e3_0 (by rfl) ?_
  refine r_get X dJx4a65c_elementData_915e3_1 fgJx4a65c_9_2 (by assumption) (by rfl) ?_
  refine r_iload_n X dJx4a65c_elementData_915e3_4 (by rfl) ?_
  refine r_aald X _ dJx4a65c_elementData_915e3_5 (by assumption) (by rfl) (by omega) (by first | decide | omega) (hf i hi) ?_
  exact r_aret X rfl (.inl ⟨_, rfl⟩) dJx4a65c_elementData_915e3_6 (⟨rfl, rfl, rfl⟩) (by omega) (by omega)
set_option maxRecDepth 100000 in
set_option maxHeartbeats 4000000 in
theorem c_checkIndex3 (g : Gx) (l : Launch) (hl : l.stackTraces = false) (ad : Nat → Nat) (F : Pic) (i k : Nat) (hi : i < k) (hk : k < 1000) : Ct g l yJ3_checkIndex_8e157 cJ3_checkIndex_8e157 3 (some .int) 1 0 0 [.int (zI (i : Int)), .int (zI (k : Int)), .null] ad F (fun v ad' F' => v = some (.int (zI (i : Int))) ∧ ad = ad' ∧ F = F') := by
  refine Ct_of hl rfl [some (.int (zI (i : Int))), some (.int (zI (k : Int))), some (.null)] (Nat.le_of_ble_eq_true rfl) (fun _ h => h) ?_
  intro M hL hN X
  subst hL
  refine r_iload_n X dJ3_checkIndex_8e157_0 (by rfl) ?_
  refine r_if_lt X 9 dJ3_checkIndex_8e157_1 (by decide) (by unfold inR; omega) (fun a => ?_) (fun a => ?_)
  · omega
  · refine r_iload_n X dJ3_checkIndex_8e157_4 (by rfl) ?_
    refine r_iload_n X dJ3_checkIndex_8e157_5 (by rfl) ?_
    refine r_icmp_lt X 16 dJ3_checkIndex_8e157_6 (by decide) (by unfold inR; omega) (by unfold inR; omega) (fun b => ?_) (fun b => ?_)
    · refine r_iload_n X dJ3_checkIndex_8e157_16 (by rfl) ?_
      exact r_iret X rfl (rfl) dJ3_checkIndex_8e157_17 (⟨rfl, rfl, rfl⟩) (by omega) (by omega)
    · omega
set_option maxRecDepth 100000 in
set_option maxHeartbeats 4000000 in
theorem c_checkIndex (g : Gx) (l : Launch) (hl : l.stackTraces = false) (ad : Nat → Nat) (F : Pic) (i k : Nat) (hi : i < k) (hk : k < 1000) : Ct g l yJ15_checkIndex_7cf53 cJ15_checkIndex_7cf53 2 (some .int) 2 0 0 [.int (zI (i : Int)), .int (zI (k : Int))] ad F (fun v ad' F' => v = some (.int (zI (i : Int))) ∧ ad = ad' ∧ F = F') := by
  refine Ct_of hl rfl [some (.int (zI (i : Int))), some (.int (zI (k : Int)))] (Nat.le_of_ble_eq_true rfl) (fun _ h => h) ?_
  intro M hL hN X
  subst hL
  refine r_iload_n X dJ15_checkIndex_7cf53_0 (by rfl) ?_
  refine r_iload_n X dJ15_checkIndex_7cf53_1 (by rfl) ?_
  refine r_null X dJ15_checkIndex_7cf53_2 ?_
  refine r_callS X dJ15_checkIndex_7cf53_3 kJ15_105 (c_checkIndex3 g _ hl ad F i k hi hk) (by rfl) (by rfl) (by exact Nat.le_of_ble_eq_true rfl) (by decide) (by decide) (by omega) (by omega) (fun v ad' F' hK => ?_)
  obtain ⟨rfl, rfl, rfl⟩ := hK
  exact r_iret X rfl (rfl) dJ15_checkIndex_7cf53_6 (⟨rfl, rfl, rfl⟩) (by omega) (by omega)
set_option maxRecDepth 100000 in
set_option maxHeartbeats 4000000 in
theorem c_get (g : Gx) (l : Launch) (hl : l.stackTraces = false) (ad : Nat → Nat) (F : Pic) (rl k cap : Nat) (e : Nat → Nat) (hrl : 101 ≤ rl ∧ rl ≤ 104) (hL : LR g ad F rl k cap e) (i : Nat) (hi : i < k) : Ct g l yJx4a65c_get_915e3 cJx4a65c_get_915e3 2 (some (.object "java/lang/Object")) 3 0 0 [.ref (ad rl), .int (zI (i : Int))] ad F (fun v ad' F' => v = some (.ref (e i)) ∧ ad = ad' ∧ F = F') := by
  refine Ct_of hl rfl [some (.ref (ad rl)), some (.int (zI (i : Int)))] (Nat.le_of_ble_eq_true rfl) (fun _ h => h) ?_
  intro M hL hN X
  subst hL
  obtain ⟨mo, hobj⟩ := hL.obj
  have hk := hL.2
  refine r_iload_n X dJx4a65c_get_915e3_0 (by rfl) ?_
  refine r_aload_n X dJx4a65c_get_915e3_1 (by rfl) ?_
  refine r_get X dJx4a65c_get_915e3_2 fgJx4a65c_48_2 (by assumption) (by rfl) ?_
  refine r_callS X dJx4a65c_get_915e3_5 kJx4a65c_118 (c_checkIndex g _ hl ad F i k hi (by omega)) (by rfl) (by rfl) (by exact Nat.le_of_ble_eq_true rfl) (by decide) (by decide) (by omega) (by omega) (fun v ad' F' hK => ?_)
  obtain ⟨rfl, rfl, rfl⟩ := hK
  refine r_pop X dJx4a65c_get_915e3_8 (by rfl) ?_
  refine r_aload_n X dJx4a65c_get_915e3_9 (by rfl) ?_
  refine r_iload_n X dJx4a65c_get_915e3_10 (by rfl) ?_
  refine r_callV X dJx4a65c_get_915e3_11 kJx4a65c_123 (c_elementData g _ hl ad F rl k cap e hrl hL i hi) (by assumption) (by rfl) (by rfl) (by rfl) (by rfl) (by exact Nat.le_of_ble_eq_true rfl) (by decide) (by decide) (by omega) (by omega) (fun v ad' F' hK => ?_)
  obtain ⟨rfl, rfl, rfl⟩ := hK
  exact r_aret X rfl (.inl ⟨_, rfl⟩) dJx4a65c_get_915e3_14 (⟨rfl, rfl, rfl⟩) (by omega) (by omega)
set_option maxRecDepth 100000 in
set_option maxHeartbeats 4000000 in
theorem c_newLength (g : Gx) (l : Launch) (hl : l.stackTraces = false) (ad : Nat → Nat) (F : Pic) (a b c : Int) (h : 0 < a ∧ a ≤ 1000 ∧ 0 < b ∧ b ≤ 1000 ∧ 0 ≤ c ∧ c ≤ 1000) : Ct g l yJ8_newLength_cabcc cJ8_newLength_cabcc 4 (some .int) 1 0 0 [.int (zI a), .int (zI b), .int (zI c)] ad F (fun v ad' F' => v = some (.int (zI (a + max b c))) ∧ ad = ad' ∧ F = F') := by
  refine Ct_of hl rfl [some (.int (zI a)), some (.int (zI b)), some (.int (zI c)), none] (Nat.le_of_ble_eq_true rfl) (fun _ h => h) ?_
  intro M hL hN X
  subst hL
  refine r_iload_n X dJ8_newLength_cabcc_0 (by rfl) ?_
  refine r_iload_n X dJ8_newLength_cabcc_1 (by rfl) ?_
  refine r_iload_n X dJ8_newLength_cabcc_2 (by rfl) ?_
  refine r_mmax X dJ8_newLength_cabcc_3 w277 w278 w12 w279 (by unfold inR; omega) (by unfold inR; omega) (by exact Nat.le_of_ble_eq_true rfl) (by decide) (by omega) (by omega) ?_
  refine r_iadd X dJ8_newLength_cabcc_6 ?_
  refine r_istore_n X dJ8_newLength_cabcc_7 (by rw [hN]; decide) (by rfl) ?_
  dsimp only [List.set]
  refine r_iconst X dJ8_newLength_cabcc_8 rfl ?_
  refine r_iload_n X dJ8_newLength_cabcc_9 (by rfl) ?_
  refine r_icmp_ge X 21 dJ8_newLength_cabcc_10 (by decide) (by unfold inR; omega) (by unfold inR; omega) (fun a1 => ?_) (fun a1 => ?_)
  · omega
  · refine r_iload_n X dJ8_newLength_cabcc_13 (by rfl) ?_
    refine r_ldc X dJ8_newLength_cabcc_14 w280 (2147483639) rfl ?_
    refine r_icmp_gt X 21 dJ8_newLength_cabcc_16 (by decide) (by unfold inR; omega) (by unfold inR; omega) (fun a2 => ?_) (fun a2 => ?_)
    · omega
    · refine r_iload_n X dJ8_newLength_cabcc_19 (by rfl) ?_
      exact r_iret X rfl (rfl) dJ8_newLength_cabcc_20 (⟨rfl, rfl, rfl⟩) (by omega) (by omega)
set_option maxRecDepth 100000 in
set_option maxHeartbeats 4000000 in
theorem c_copyOf3 (g : Gx) (l : Launch) (hl : l.stackTraces = false) (ad : Nat → Nat) (F : Pic) (r rn n0 N : Nat) (f : Nat → Option Nat) (hF : F r = some (cO g n0 f)) (hr : 100 ≤ r) (hn : F rn = none) (hrn : 100 ≤ rn) (hNN : n0 ≤ N ∧ N ≤ 60) (hlv : ∀ i, i < n0 → ∀ q, f i = some q → LIVE ad F q) : Ct g l yJ7_copyOf_6403c cJ7_copyOf_6403c 4 (some (.array (.object "java/lang/Object"))) 1 1 60 [.ref (ad r), .int (zI (N : Int)), .ref (gn g 98)] ad F (fun v ad' F' => v = some (.ref (ad' rn)) ∧ (∀ x, x ≠ rn → ad' x = ad x) ∧ F' rn = some (cO g N (va_cpy f (fun _ => none) 0 0 n0)) ∧ ∀ x, x ≠ rn → F' x = F x) := by
  refine Ct_of hl rfl [some (.ref (ad r)), some (.int (zI (N : Int))), some (.ref (gn g 98)), none] (Nat.le_of_ble_eq_true rfl) (fun _ h => h) ?_
  intro M hL hN X
  subst hL
  have hne : r ≠ rn := fun q => by rw [q, hn] at hF; cases hF
  refine r_aload_n X dJ7_copyOf_6403c_0 (by rfl) ?_
  refine r_ldcM X dJ7_copyOf_6403c_1 w303 ?_
  refine r_acmp_ne X 13 dJ7_copyOf_6403c_3 (by decide) (fun h => absurd rfl h) (fun _ => ?_)
  refine r_iload_n X dJ7_copyOf_6403c_6 (by rfl) ?_
  refine r_newO X rn N dJ7_copyOf_6403c_7 w305 (by rfl) (by omega) hrn hn (by omega) (by omega) (fun ad1 hA1 => ?_)
  rw [← hA1 r hne]
  have h1 : pu F rn (cO g N (fun _ => none)) r = some (cO g n0 f) := (pu_n hne).trans hF
  have h2 : pu F rn (cO g N (fun _ => none)) rn = some (cO g N (fun _ => none)) := pu_s
  have h3 : ∀ i, i < n0 → ∀ q, f (0 + i) = some q → LIVE ad1 (pu F rn (cO g N (fun _ => none))) q := fun i hi q hq => (hlv i hi q (by rw [Nat.zero_add] at hq; exact hq)).mono (fun rv ci vs hv _ _ => by
    have : rv ≠ rn := fun z => by rw [z, hn] at hv; cases hv
    exact ⟨hA1 rv this, vs, (pu_n this).trans hv⟩)
  generalize hF2 : pu F rn (cO g N (fun _ => none)) = F2 at h1 h2 h3 ⊢
  refine r_goto X dJ7_copyOf_6403c_10 24 (by decide) ?_
  refine r_astore_n X dJ7_copyOf_6403c_24 (by rw [hN]; decide) (by rfl) ?_
  dsimp only [List.set]
  refine r_aload_n X dJ7_copyOf_6403c_25 (by rfl) ?_
  refine r_iconst X dJ7_copyOf_6403c_26 rfl ?_
  refine r_aload_n X dJ7_copyOf_6403c_27 (by rfl) ?_
  refine r_iconst X dJ7_copyOf_6403c_28 rfl ?_
  refine r_aload_n X dJ7_copyOf_6403c_29 (by rfl) ?_
  refine r_alen (t0 := 2) X dJ7_copyOf_6403c_30 (by assumption) (by rfl) ?_
  refine r_iload_n X dJ7_copyOf_6403c_31 (by rfl) ?_
  refine r_mmin X dJ7_copyOf_6403c_32 w306 w307 w12 w308 (by unfold inR; omega) (by unfold inR; omega) (by exact Nat.le_of_ble_eq_true rfl) (by decide) (by omega) (by omega) ?_
  refine W_int (b := zI (n0 : Int)) (congrArg zI (by omega)) ?_
  refine r_copy X 0 0 n0 dJ7_copyOf_6403c_35 w309 w310 w15 h1 h2 hr hrn (by rfl) (by rfl) (by rfl) ⟨by omega, by omega, by omega, by omega⟩ h3 (by decide) (Nat.le_of_ble_eq_true rfl) ?_
  refine r_aload_n X dJ7_copyOf_6403c_38 (by rfl) ?_
  exact r_aret X rfl (.inr ⟨_, rfl⟩) dJ7_copyOf_6403c_39 (⟨rfl, hA1, pu_s, fun x hx => by rw [pu_n hx, ← hF2, pu_n hx]⟩) (by omega) (by omega)
set_option maxRecDepth 100000 in
set_option maxHeartbeats 4000000 in
theorem c_copyOf2 (g : Gx) (l : Launch) (hl : l.stackTraces = false) (ad : Nat → Nat) (F : Pic) (r rn n0 N : Nat) (f : Nat → Option Nat) (hF : F r = some (cO g n0 f)) (hr : 100 ≤ r) (hn : F rn = none) (hrn : 100 ≤ rn) (hNN : n0 ≤ N ∧ N ≤ 60) (hlv : ∀ i, i < n0 → ∀ q, f i = some q → LIVE ad F q) : Ct g l yJ7_copyOf_1904c cJ7_copyOf_1904c 2 (some (.array (.object "java/lang/Object"))) 2 1 60 [.ref (ad r), .int (zI (N : Int))] ad F (fun v ad' F' => v = some (.ref (ad' rn)) ∧ (∀ x, x ≠ rn → ad' x = ad x) ∧ F' rn = some (cO g N (va_cpy f (fun _ => none) 0 0 n0)) ∧ ∀ x, x ≠ rn → F' x = F x) := by
  refine Ct_of hl rfl [some (.ref (ad r)), some (.int (zI (N : Int)))] (Nat.le_of_ble_eq_true rfl) (fun _ h => h) ?_
  intro M hL hN X
  subst hL
  refine r_aload_n X dJ7_copyOf_1904c_0 (by rfl) ?_
  refine r_iload_n X dJ7_copyOf_1904c_1 (by rfl) ?_
  refine r_aload_n X dJ7_copyOf_1904c_2 (by rfl) ?_
  refine r_getC X dJ7_copyOf_1904c_3 w287 w799 w288 hF (by decide) (Nat.le_of_ble_eq_true rfl) ?_
  refine r_callS X dJ7_copyOf_1904c_6 kJ7_300 (c_copyOf3 g _ hl ad F r rn n0 N f hF hr hn hrn hNN hlv) (by rfl) (by rfl) (by exact Nat.le_of_ble_eq_true rfl) (by decide) (by decide) (by omega) (by omega) (fun v ad' F' hK => ?_)
  obtain ⟨rfl, hA, hK⟩ := hK
  exact r_aret X rfl (.inr ⟨_, rfl⟩) dJ7_copyOf_1904c_9 (⟨rfl, hA, hK⟩) (by omega) (by omega)
def ncap (cap : Nat) : Nat := if cap = 0 then 10 else cap + cap / 2
theorem lra_n {rl cap : Nat} (h : cap = 0 ∨ (10 ≤ cap ∧ cap ≤ 60)) : lra rl (ncap cap) = 1000 * (rl - 100) + ncap cap := if_neg (by unfold ncap; split <;> omega)
set_option maxRecDepth 100000 in
set_option maxHeartbeats 4000000 in
theorem c_grow1 (g : Gx) (l : Launch) (hl : l.stackTraces = false) (ad : Nat → Nat) (F : Pic) (rl k cap : Nat) (e : Nat → Nat) (hrl : 101 ≤ rl ∧ rl ≤ 104) (hL : LR g ad F rl k cap e) (hLF : LF F rl cap) (h99 : F 99 = some (cO g 0 (fun _ => none))) (a99 : ad 99 = gn g 99) (hlv : ∀ i, i < k → LIVE ad F (e i)) (hk : k = cap) (h20 : k ≤ 20) : Ct g l yJx4a65c_grow_92f84 cJx4a65c_grow_92f84 4 (some (.array (.object "java/lang/Object"))) 3 1 60 [.ref (ad rl), .int (zI ((k : Int) + 1))] ad F (fun v ad' F' => v = some (.ref (ad' (lra rl (ncap cap)))) ∧ AdL rl ad ad' ∧ FrL rl F F' ∧ LR g ad' F' rl k (ncap cap) e ∧ LF F' rl (ncap cap)) := by
  refine Ct_of hl rfl [some (.ref (ad rl)), some (.int (zI ((k : Int) + 1))), none, none] (Nat.le_of_ble_eq_true rfl) (fun _ h => h) ?_
  intro M hL hN X
  subst hL
  obtain ⟨⟨mo, f, hobj, harr, hf⟩, -, hc⟩ := hL
  have hrn := lra_n (rl := rl) hc
  have hnc : cap < ncap cap ∧ 10 ≤ ncap cap ∧ ncap cap ≤ 30 := by unfold ncap; split <;> omega
  have hfree : F (lra rl (ncap cap)) = none := by rw [hrn]; exact hLF _ hnc.1 (by omega)
  have hne : rl ≠ lra rl (ncap cap) := by rw [hrn]; omega
  refine r_aload_n X dJx4a65c_grow_92f84_0 (by rfl) ?_
  refine r_get X dJx4a65c_grow_92f84_1 fgJx4a65c_9_2 (by assumption) (by rfl) ?_
  refine r_alen (t0 := 2) X dJx4a65c_grow_92f84_4 (by assumption) (by rfl) ?_
  refine r_istore_n X dJx4a65c_grow_92f84_5 (by rw [hN]; decide) (by rfl) ?_
  dsimp only [List.set]
  refine r_iload_n X dJx4a65c_grow_92f84_6 (by rfl) ?_
  refine r_if_gt X 20 dJx4a65c_grow_92f84_7 (by decide) (by unfold inR; omega) (fun a1 => ?_) (fun a1 => ?_)
  · have hc0 : ¬ cap = 0 := by omega
    have hla : lra rl cap = 1000 * (rl - 100) + cap := if_neg hc0
    have hne2 : lra rl cap ≠ lra rl (ncap cap) := by rw [hrn, hla]; omega
    refine r_iload_n X dJx4a65c_grow_92f84_20 (by rfl) ?_
    refine r_iload_n X dJx4a65c_grow_92f84_21 (by rfl) ?_
    refine r_iload_n X dJx4a65c_grow_92f84_22 (by rfl) ?_
    refine r_isub X dJx4a65c_grow_92f84_23 ?_
    refine r_iload_n X dJx4a65c_grow_92f84_24 (by rfl) ?_
    refine r_iconst X dJx4a65c_grow_92f84_25 rfl ?_
    refine r_ishr X (hv := zI_shr (e := 1) (by omega) (by decide)) dJx4a65c_grow_92f84_26 ?_
    refine r_callS X dJx4a65c_grow_92f84_27 kJx4a65c_73 (c_newLength g _ hl ad F (cap : Int) ((k : Int) + 1 - (cap : Int)) ((cap / 2 ^ 1 : Nat) : Int) (by omega)) (by rfl) (by rfl) (by exact Nat.le_of_ble_eq_true rfl) (by decide) (by decide) (by omega) (by omega) (fun v ad' F' hK => ?_)
    obtain ⟨rfl, rfl, rfl⟩ := hK
    refine W_int (b := zI (ncap cap : Int)) (congrArg zI (by unfold ncap; rw [if_neg hc0]; omega)) ?_
    refine r_istore_n X dJx4a65c_grow_92f84_30 (by rw [hN]; decide) (by rfl) ?_
    dsimp only [List.set]
    refine r_aload_n X dJx4a65c_grow_92f84_31 (by rfl) ?_
    refine r_aload_n X dJx4a65c_grow_92f84_32 (by rfl) ?_
    refine r_get X dJx4a65c_grow_92f84_33 fgJx4a65c_9_2 (by assumption) (by rfl) ?_
    refine r_iload_n X dJx4a65c_grow_92f84_36 (by rfl) ?_
    refine r_callS X dJx4a65c_grow_92f84_37 kJx4a65c_66 (c_copyOf2 g _ hl ad F (lra rl cap) (lra rl (ncap cap)) cap (ncap cap) f harr (by omega) hfree (by omega) (by omega) (fun i hi q hq => by rw [hf i (by omega)] at hq; cases hq; exact hlv i (by omega))) (by rfl) (by rfl) (by exact Nat.le_of_ble_eq_true rfl) (by decide) (by decide) (by omega) (by omega) (fun v ad' F1 hK => ?_)
    obtain ⟨rfl, hA, hK1, hK2⟩ := hK
    rw [← hA rl hne]
    have hobj1 : F1 rl = some (.inr (2, [.int (zI mo), .ref (ad (lra rl cap)), .int (zI k)])) := (hK2 rl hne).trans hobj
    refine r_dup_x1 X dJx4a65c_grow_92f84_40 (by rfl) (by rfl) ?_
    refine r_put X dJx4a65c_grow_92f84_41 fwJx4a65c_9_2 (hobj1) (by omega) (by exact Nat.le_of_ble_eq_true rfl) (by rfl) (by rfl) ?_
    dsimp only [List.set]
    exact r_aret X rfl (.inr ⟨_, rfl⟩) dJx4a65c_grow_92f84_44 (⟨rfl, fun x hx => hA x (by omega), fun x h1 h2 => (pu_n h1).trans (hK2 x (by omega)), ⟨⟨mo, _, pu_s, (pu_n (fun q => hne q.symm)).trans hK1, fun i hi => (by rw [pk_cpy_in (by omega) (by omega)]; rw [show 0 + (i - 0) = i by omega]; exact hf i hi)⟩, by omega, .inr (by omega)⟩, fun c h1 h2 => (pu_n (by omega)).trans ((hK2 _ (by omega)).trans (hLF c (by omega) h2))⟩) (by omega) (by omega)
  · have hc0 : cap = 0 := by omega
    have hla : lra rl cap = 99 := if_pos hc0
    refine r_aload_n X dJx4a65c_grow_92f84_10 (by rfl) ?_
    refine r_get X dJx4a65c_grow_92f84_11 fgJx4a65c_9_2 (by assumption) (by rfl) ?_
    refine r_getsD X dJx4a65c_grow_92f84_14 w42 ?_
    refine r_acmp_eq X 45 dJx4a65c_grow_92f84_17 (by decide) (fun _ => ?_) (fun h => absurd (by rw [hla]; exact a99) h)
    refine r_aload_n X dJx4a65c_grow_92f84_45 (by rfl) ?_
    refine r_bipush X dJx4a65c_grow_92f84_46 (by decide) ?_
    refine r_iload_n X dJx4a65c_grow_92f84_48 (by rfl) ?_
    refine r_mmax X dJx4a65c_grow_92f84_49 w312 w278 w12 w279 (by unfold inR; omega) (by unfold inR; omega) (by exact Nat.le_of_ble_eq_true rfl) (by decide) (by omega) (by omega) ?_
    refine W_int (b := zI (ncap cap : Int)) (congrArg zI (by unfold ncap; rw [if_pos hc0]; omega)) ?_
    refine r_newO X (lra rl (ncap cap)) (ncap cap) dJx4a65c_grow_92f84_52 w313 (by rfl) (by omega) (by omega) hfree (by omega) (by omega) (fun ad1 hA => ?_)
    rw [← hA rl hne]
    refine r_dup_x1 X dJx4a65c_grow_92f84_55 (by rfl) (by rfl) ?_
    refine r_put X dJx4a65c_grow_92f84_56 fwJx4a65c_9_2 ((pu_n hne).trans hobj) (by omega) (by exact Nat.le_of_ble_eq_true rfl) (by rfl) (by rfl) ?_
    dsimp only [List.set]
    exact r_aret X rfl (.inr ⟨_, rfl⟩) dJx4a65c_grow_92f84_59 (⟨rfl, fun x hx => hA x (by omega), fun x h1 h2 => (pu_n h1).trans (pu_n (by omega)), ⟨⟨mo, _, pu_s, (pu_n (fun q => hne q.symm)).trans pu_s, fun i hi => by omega⟩, by omega, .inr (by omega)⟩, fun c h1 h2 => (pu_n (by omega)).trans ((pu_n (by omega)).trans (hLF c (by omega) h2))⟩) (by omega) (by omega)
