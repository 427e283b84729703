/-! ===== pictures of the heap: F : role -> cell, ad : role -> address; roles from 100 on may be written ===== -/
abbrev Pic := Nat → Option va_E
abbrev Gx := (Nat × va_G) × ((Nat → ClassId) × (Nat → Nat))
def gz (g : Gx) : Nat := g.1.1
def gD (g : Gx) : va_G := g.1.2
def gA (g : Gx) : Nat → Prop := fun q => gz g ≤ q
def gc (g : Gx) (k : Nat) : ClassId := g.2.1 k
def gn (g : Gx) (k : Nat) : Nat := g.2.2 k
def gT (g : Gx) : List (ClassId × FieldType) := [(gc g 0, .int), (gc g 1, .int), (gc g 2, .object "java/lang/Object"), (gc g 3, .array .int)]
def Kn (g : Gx) (U : State) : Prop := va_K (gD g) vwCl (gT g) U
abbrev cI (g : Gx) (n : Nat) (f : Nat → Int32) : va_E := .inl (gc g 0, n, .inl f)
abbrev cJ (g : Gx) (n : Nat) (f : Nat → Int64) : va_E := .inl (gc g 1, n, .inr (.inl f))
abbrev cO (g : Gx) (n : Nat) (f : Nat → Option Nat) : va_E := .inl (gc g 2, n, .inr (.inr (.inr (.inr f))))
abbrev cQ (g : Gx) (n : Nat) (f : Nat → Option Nat) : va_E := .inl (gc g 3, n, .inr (.inr (.inr (.inr f))))
def pu (F : Pic) (r : Nat) (e : va_E) : Pic := fun x => if x = r then some e else F x
theorem pu_s {F : Pic} {r : Nat} {e : va_E} : pu F r e r = some e := if_pos rfl
theorem pu_n {F : Pic} {r x : Nat} {e : va_E} (h : x ≠ r) : pu F r e x = F x := if_neg h
theorem pu_ne {F : Pic} {r x : Nat} {e : va_E} (h : F x ≠ none) : pu F r e x ≠ none := by
  unfold pu; split
  · exact fun q => by cases q
  · exact h
def wl (ad : Nat → Nat) (F : Pic) (L : List Nat) : va_W := L.map (fun r => (ad r, (F r).getD (.inr (0, []))))
/-- an old, empty array of objects -/
def LoE (g : Gx) (f : Nat → Option Nat) : va_E := .inl (gc g 2, 0, .inr (.inr (.inr (.inr f))))
/-- what is known of it: less than of a cell that was made here -/
def LoC (g : Gx) (H : Heap) (a : Nat) (e : va_E) : Prop := (∃ f, e = LoE g f) ∧ ∃ cell : Cell, H[a]? = some cell ∧ cell.cls = gc g 2 ∧ (cell.vm.isStatics = false ∧ cell.vm ≠ .unknown) ∧ cell.slots.size.toInt32 = 0
theorem LoC.kept {g : Gx} {H H1 : Heap} {a : Nat} {e : va_E} (h : LoC g H a e) (hk : H1[a]? = H[a]?) : LoC g H1 a e := ⟨h.1, h.2.choose, by rw [hk]; exact h.2.choose_spec.1, h.2.choose_spec.2⟩
theorem LoC.lt {g : Gx} {H : Heap} {a : Nat} {e : va_E} (h : LoC g H a e) : a < H.size := (Array.getElem?_eq_some_iff.mp h.2.choose_spec.1).1
theorem ne_ob {g : Gx} {o : Nat × List Value} : ∀ f, (.inr o : va_E) ≠ LoE g f := fun f z => by unfold LoE at z; cases z
theorem ne_cI {g : Gx} {n : Nat} {h : Nat → Int32} : ∀ f, cI g n h ≠ LoE g f := fun f z => by
  have z2 := congrArg (fun q => q.2.2) (Sum.inl.inj z)
  cases z2
theorem ne_cJ {g : Gx} {n : Nat} {h : Nat → Int64} : ∀ f, cJ g n h ≠ LoE g f := fun f z => by
  have z2 := congrArg (fun q => q.2.2) (Sum.inl.inj z)
  cases z2
theorem ne_cO {g : Gx} {n : Nat} {h : Nat → Option Nat} (hn : 0 < n) : ∀ f, cO g n h ≠ LoE g f := fun f z => by
  have z2 : n = 0 := congrArg (fun q => q.2.1) (Sum.inl.inj z)
  omega
theorem ne_cQ {g : Gx} {n : Nat} {h : Nat → Option Nat} (hn : 0 < n) : ∀ f, cQ g n h ≠ LoE g f := fun f z => by
  have z2 : n = 0 := congrArg (fun q => q.2.1) (Sum.inl.inj z)
  omega
def HP (g : Gx) (ad : Nat → Nat) (F : Pic) (H : Heap) : Prop := ∃ L : List Nat, L.Nodup ∧ (∀ r, r ∈ L ↔ (100 ≤ r ∧ F r ≠ none)) ∧ va_P (gD g) vwCl (wl ad F L) H ∧ va_D (gA g) (wl ad F L) ∧ (∀ r e, r < 100 → F r = some e → LoC g H (ad r) e ∧ ad r < gz g)
theorem wl_at {ad : Nat → Nat} {F : Pic} {L : List Nat} {r : Nat} {e : va_E} (h : r ∈ L) (hF : F r = some e) : ∃ k : Nat, L[k]? = some r ∧ (wl ad F L)[k]? = some (ad r, e) := by
  obtain ⟨k, hk⟩ := List.getElem?_of_mem h
  refine ⟨k, hk, ?_⟩
  unfold wl
  rw [List.getElem?_map, hk]
  simp [hF]
theorem HP.at {g : Gx} {ad : Nat → Nat} {F : Pic} {H : Heap} {r : Nat} {e : va_E} (h : HP g ad F H) (hF : F r = some e) (hn : ∀ f, e ≠ LoE g f) : va_at (gD g) vwCl (ad r, e) H := by
  obtain ⟨L, -, h2, h3, -, h5⟩ := h
  by_cases hr : r < 100
  · obtain ⟨f, hf⟩ := (h5 r e hr hF).1.1
    exact absurd hf (hn f)
  · obtain ⟨k, -, hk⟩ := wl_at (ad := ad) ((h2 r).mpr ⟨by omega, by rw [hF]; exact fun q => by cases q⟩) hF
    exact h3 k _ hk
theorem HP.old {g : Gx} {ad : Nat → Nat} {F : Pic} {H : Heap} {r : Nat} {e : va_E} (h : HP g ad F H) (hF : F r = some e) : LoC g H (ad r) e ∨ va_at (gD g) vwCl (ad r, e) H := by
  obtain ⟨L, -, h2, h3, -, h5⟩ := h
  by_cases hr : r < 100
  · exact .inl (h5 r e hr hF).1
  · obtain ⟨k, -, hk⟩ := wl_at (ad := ad) ((h2 r).mpr ⟨by omega, by rw [hF]; exact fun q => by cases q⟩) hF
    exact .inr (h3 k _ hk)
theorem va_one {g : Gx} {ad : Nat → Nat} {H : Heap} {r : Nat} {e : va_E} (h : va_at (gD g) vwCl (ad r, e) H) : va_P (gD g) vwCl [(ad r, e)] H := by
  intro k q hk
  have h0 : k < 1 := (List.getElem?_eq_some_iff.mp hk).1
  rw [show k = 0 by omega] at hk
  cases hk
  exact h
theorem HP.one {g : Gx} {ad : Nat → Nat} {F : Pic} {H : Heap} {r : Nat} {e : va_E} (h : HP g ad F H) (hF : F r = some e) (hn : ∀ f, e ≠ LoE g f) : va_P (gD g) vwCl [(ad r, e)] H := va_one (h.at hF hn)
theorem HP.inj {g : Gx} {ad : Nat → Nat} {F : Pic} {H : Heap} {r r' : Nat} {e e' : va_E} (h : HP g ad F H) (hF : F r = some e) (hF' : F r' = some e') (hr : 100 ≤ r) (hr' : 100 ≤ r') (ha : ad r = ad r') : r = r' := by
  obtain ⟨L, h1, h2, h3, h4, h5⟩ := h
  obtain ⟨k, k1, k2⟩ := wl_at (ad := ad) ((h2 r).mpr ⟨hr, by rw [hF]; exact fun q => by cases q⟩) hF
  obtain ⟨k', k1', k2'⟩ := wl_at (ad := ad) ((h2 r').mpr ⟨hr', by rw [hF']; exact fun q => by cases q⟩) hF'
  have e := h4.1 k k' _ _ k2 k2' ha
  subst e
  exact Option.some.inj (k1.symm.trans k1')
theorem nd_set {α β : Type} (f : α → β) (r : α) (y : β) : ∀ (L : List α) (k : Nat), L.Nodup → L[k]? = some r → ∀ g : α → β, (∀ x, x ≠ r → g x = f x) → g r = y → (L.map f).set k y = L.map g := by
  intro L
  induction L with
  | nil => intro k _ h; simp at h
  | cons a t ih =>
    intro k hn hk g hg hr
    have hn2 := List.nodup_cons.mp hn
    cases k with
    | zero =>
      have e : a = r := by simpa using hk
      subst e
      simp only [List.map_cons, List.set_cons_zero, hr]
      congr 1
      exact List.map_congr_left (fun x hx => (hg x (fun q => hn2.1 (q ▸ hx))).symm)
    | succ k =>
      have hk' : t[k]? = some r := by simpa using hk
      have hm : r ∈ t := List.mem_of_getElem? hk'
      simp only [List.map_cons, List.set_cons_succ]
      rw [ih k hn2.2 hk' g hg hr, hg a (fun q => hn2.1 (q ▸ hm))]
theorem HP.opn {g : Gx} {ad : Nat → Nat} {F : Pic} {H : Heap} (h : HP g ad F H) : ∃ ws : va_W, va_P (gD g) vwCl ws H ∧ va_D (gA g) ws ∧
    (∀ r e, F r = some e → 100 ≤ r → ∃ k, ws[k]? = some (ad r, e) ∧ ∀ (e' : va_E) (H1 : Heap), va_P (gD g) vwCl (ws.set k (ad r, e')) H1 → va_D (gA g) (ws.set k (ad r, e')) → (∀ q, q < gz g → H1[q]? = H[q]?) → HP g ad (pu F r e') H1) ∧
    (∀ (r : Nat) (e : va_E) (q : Nat) (H1 : Heap) (ad' : Nat → Nat), F r = none → 100 ≤ r → ad' r = q → (∀ x, F x ≠ none → ad' x = ad x) → va_P (gD g) vwCl (ws ++ [(q, e)]) H1 → va_D (gA g) (ws ++ [(q, e)]) → (∀ q, q < gz g → H1[q]? = H[q]?) → HP g ad' (pu F r e) H1) := by
  obtain ⟨L, h1, h2, h3, h4, h5⟩ := h
  refine ⟨wl ad F L, h3, h4, ?_, ?_⟩
  · intro r e hF hr
    have hm : r ∈ L := (h2 r).mpr ⟨hr, by rw [hF]; exact fun q => by cases q⟩
    obtain ⟨k, k1, k2⟩ := wl_at (ad := ad) hm hF
    refine ⟨k, k2, fun e' H1 hP hD hq => ?_⟩
    have hw : (wl ad F L).set k (ad r, e') = wl ad (pu F r e') L := by
      unfold wl
      refine nd_set _ r _ L k h1 k1 _ (fun x hx => ?_) ?_
      · rw [pu_n hx]
      · rw [pu_s]; rfl
    rw [hw] at hP hD
    refine ⟨L, h1, fun x => ?_, hP, hD, fun x e9 hx he => ?_⟩
    · rw [h2 x]
      by_cases hxr : x = r
      · subst hxr
        rw [pu_s, hF]
        exact ⟨fun q => ⟨q.1, fun z => by cases z⟩, fun q => ⟨q.1, fun z => by cases z⟩⟩
      · rw [pu_n hxr]
    · rw [pu_n (by omega)] at he
      obtain ⟨a1, a2⟩ := h5 x e9 hx he
      exact ⟨a1.kept (hq _ a2), a2⟩
  · intro r e q H1 ad' hF hr hq hx hP hD hk
    have hnm : r ∉ L := fun z => ((h2 r).mp z).2 hF
    have hw : wl ad F L ++ [(q, e)] = wl ad' (pu F r e) (L ++ [r]) := by
      unfold wl
      rw [List.map_append]
      congr 1
      · refine List.map_congr_left (fun x hxL => ?_)
        rw [hx x ((h2 x).mp hxL).2, pu_n (show x ≠ r from fun z => hnm (z ▸ hxL))]
      · simp [pu_s, hq]
    rw [hw] at hP hD
    refine ⟨L ++ [r], ?_, fun x => ?_, hP, hD, fun x e9 hx9 he => ?_⟩
    · refine List.nodup_append.mpr ⟨h1, by simp, fun a ha b hb => ?_⟩
      rw [List.mem_singleton.mp hb]
      exact fun z => hnm (z ▸ ha)
    · rw [List.mem_append, h2 x, List.mem_singleton]
      by_cases hxr : x = r
      · subst hxr
        rw [pu_s]
        exact ⟨fun _ => ⟨hr, fun z => by cases z⟩, fun _ => Or.inr rfl⟩
      · rw [pu_n hxr]
        exact ⟨fun z => z.elim id (fun z => absurd z hxr), Or.inl⟩
    · rw [pu_n (by omega)] at he
      obtain ⟨a1, a2⟩ := h5 x e9 hx9 he
      have hxx : ad' x = ad x := hx x (by rw [he]; exact fun z => by cases z)
      rw [hxx]
      exact ⟨a1.kept (hk _ a2), a2⟩
/-- fewer cells -/
theorem HP.less {g : Gx} {ad : Nat → Nat} {F F' : Pic} {H : Heap} (h : HP g ad F H) (hF : ∀ r e, F' r = some e → F r = some e) : HP g ad F' H := by
  obtain ⟨L, h1, h2, h3, h4, h5⟩ := h
  have sub : ∀ r, F' r ≠ none → r ∈ L → (ad r, (F' r).getD (.inr (0, []))) = (ad r, (F r).getD (.inr (0, []))) := fun r hr _ => by
    cases hc : F' r with
    | none => exact absurd hc hr
    | some e => rw [hF r e hc]
  refine ⟨L.filter (fun r => (F' r).isSome), h1.filter _, fun r => ?_, ?_, ?_, fun r e hr he => h5 r e hr (hF r e he)⟩
  · rw [List.mem_filter, h2]
    constructor
    · exact fun z => ⟨z.1.1, fun q => by rw [q] at z; cases z.2⟩
    · intro z
      cases hc : F' r with
      | none => exact absurd hc z.2
      | some e => exact ⟨⟨z.1, by rw [hF r e hc]; exact fun q => by cases q⟩, rfl⟩
  · intro k q hk
    have hm := List.mem_of_getElem? hk
    unfold wl at hm
    obtain ⟨r, hr, rfl⟩ := List.mem_map.mp hm
    obtain ⟨hr1, hr2⟩ := List.mem_filter.mp hr
    rw [sub r (fun z => by rw [z] at hr2; cases hr2) hr1]
    obtain ⟨j, hj⟩ := List.getElem?_of_mem hr1
    refine h3 j _ ?_
    unfold wl
    rw [List.getElem?_map, hj]; rfl
  · refine ⟨fun i j a b hi hj hab => ?_, fun k q hk => ?_⟩
    · unfold wl at hi hj
      rw [List.getElem?_map] at hi hj
      cases h9 : (L.filter (fun r => (F' r).isSome))[i]? with
      | none => rw [h9] at hi; cases hi
      | some r =>
        cases h8 : (L.filter (fun r => (F' r).isSome))[j]? with
        | none => rw [h8] at hj; cases hj
        | some r' =>
          rw [h9] at hi; rw [h8] at hj
          cases hi; cases hj
          have m1 := (List.mem_filter.mp (List.mem_of_getElem? h9)).1
          have m2 := (List.mem_filter.mp (List.mem_of_getElem? h8)).1
          obtain ⟨i', hi'⟩ := List.getElem?_of_mem m1
          obtain ⟨j', hj'⟩ := List.getElem?_of_mem m2
          have e := h4.1 i' j' (ad r, (F r).getD (.inr (0, []))) (ad r', (F r').getD (.inr (0, []))) (by unfold wl; rw [List.getElem?_map, hi']; rfl) (by unfold wl; rw [List.getElem?_map, hj']; rfl) hab
          subst e
          have er : r = r' := Option.some.inj (hi'.symm.trans hj')
          subst er
          exact (List.getElem?_inj (List.getElem?_eq_some_iff.mp h9).1 (h1.filter _)).mp (h9.trans h8.symm)
    · have hm := List.mem_of_getElem? hk
      unfold wl at hm
      obtain ⟨r, hr, rfl⟩ := List.mem_map.mp hm
      obtain ⟨j, hj⟩ := List.getElem?_of_mem (List.mem_filter.mp hr).1
      exact h4.2 j (ad r, (F r).getD (.inr (0, []))) (by unfold wl; rw [List.getElem?_map, hj]; rfl)
theorem va_S.low {g : Gx} {H0 H H1 : Heap} {l0 l1 : List Loc} (h : va_S (gA g) H0 H l0) (h1 : va_S (gA g) H0 H1 l1) (hz : gz g ≤ H0.size) : ∀ q, q < gz g → H1[q]? = H[q]? := fun q hq =>
  (h1.2.1 q (by omega) (by unfold gA; omega)).trans (h.2.1 q (by omega) (by unfold gA; omega)).symm
/-! ===== locals as a list ===== -/
def las (LS : List (Option Value)) : List (Nat × Value) := (List.range LS.length).filterMap (fun i => match LS[i]? with | some (some v) => some (i, v) | _ => none)
theorem las_mem {LS : List (Option Value)} {i : Nat} {v : Value} : (i, v) ∈ las LS ↔ LS[i]? = some (some v) := by
  unfold las
  rw [List.mem_filterMap]
  constructor
  · rintro ⟨j, -, hj⟩
    split at hj
    · next w hw => cases hj; exact hw
    · cases hj
  · intro h
    refine ⟨i, List.mem_range.mpr (List.getElem?_eq_some_iff.mp h).1, ?_⟩
    rw [h]
def lvs (ls : Array Slot) (n : Nat) (LS : List (Option Value)) : Prop := lv_has ls n (las LS)
theorem lvs.at {ls : Array Slot} {n : Nat} {LS : List (Option Value)} (h : lvs ls n LS) {i : Nat} {v : Value} (e : LS[i]? = some (some v)) : ls[i]? = some (.val v) := h.2.2 (i, v) (las_mem.mpr e)
/-- no long reaches into place i -/
def lok (LS : List (Option Value)) : Nat → Bool
  | 0 => true
  | i + 1 => match LS[i]? with | some (some v) => v.category == 1 | _ => true
theorem lvs.set1 {ls : Array Slot} {n i : Nat} {LS : List (Option Value)} {v : Value} (h : lv_has ls n ((i, v) :: (las LS).filter (fun q => !(q.1 == i) && !(q.1 + 1 == i && q.2.category == 2)))) (hk : lok LS i = true) : lvs ls n (LS.set i (some v)) := by
  refine ⟨h.1, h.2.1, fun q hq => h.2.2 q ?_⟩
  obtain ⟨j, w⟩ := q
  have e := las_mem.mp hq
  rw [List.getElem?_set] at e
  split at e
  · next hij => subst hij; split at e
                · cases e; exact List.mem_cons_self
                · cases e
  · next hij =>
    refine List.mem_cons_of_mem _ (List.mem_filter.mpr ⟨las_mem.mpr e, ?_⟩)
    have h1 : (j == i) = false := by simp; exact fun z => hij z.symm
    by_cases h2 : j + 1 = i
    · subst h2
      have hk2 : (match LS[j]? with | some (some v) => v.category == 1 | _ => true) = true := hk
      rw [e] at hk2
      have hc : w.category = 1 := by simpa using hk2
      simp [hc]
    · simp [h2]; exact fun z => hij z.symm
theorem lvs.set2 {ls : Array Slot} {n i : Nat} {LS : List (Option Value)} {v : Value} (h : lv_has ls n ((i, v) :: (las LS).filter (fun q => !(q.1 == i) && (!(q.1 == i + 1) && !(q.1 + 1 == i && q.2.category == 2))))) (hk : lok LS i = true) : lvs ls n ((LS.set i (some v)).set (i + 1) none) := by
  refine ⟨h.1, h.2.1, fun q hq => h.2.2 q ?_⟩
  obtain ⟨j, w⟩ := q
  have e := las_mem.mp hq
  rw [List.getElem?_set] at e
  split at e
  · split at e
    · cases e
    · cases e
  · next hij2 =>
    rw [List.getElem?_set] at e
    split at e
    · next hij => subst hij; split at e
                  · cases e; exact List.mem_cons_self
                  · cases e
    · next hij =>
      refine List.mem_cons_of_mem _ (List.mem_filter.mpr ⟨las_mem.mpr e, ?_⟩)
      have h1 : (j == i) = false := by simp; exact fun z => hij z.symm
      have h3 : (j == i + 1) = false := by simp; exact fun z => hij2 z.symm
      by_cases h2 : j + 1 = i
      · subst h2
        have hk2 : (match LS[j]? with | some (some v) => v.category == 1 | _ => true) = true := hk
        rw [e] at hk2
        have hc : w.category = 1 := by simpa using hk2
        simp [hc]; omega
      · simp [h2]; exact ⟨fun z => hij z.symm, fun z => hij2 z.symm⟩
theorem lvs.less {ls : Array Slot} {n : Nat} {LS LS' : List (Option Value)} (h : lvs ls n LS) (hq : ∀ (i : Nat) (v : Value), LS'[i]? = some (some v) → LS[i]? = some (some v)) : lvs ls n LS' :=
  ⟨h.1, h.2.1, fun q hm => h.2.2 q (las_mem.mpr (hq q.1 q.2 (las_mem.mp hm)))⟩
