/-! ===== the plan: its cells, its small methods ===== -/
def PR (g : Gx) (ad : Nat → Nat) (F : Pic) (np nc : Nat) (pl cl pn : Nat → Int) (sh : Nat → Nat → Int) (rc py : Nat → Nat) (qu ah vi : Nat → Int) : Prop :=
  (F 200 = some (.inr (6, [.int (zI np), .int (zI nc), .ref (ad 201), .ref (ad 202), .ref (ad 203), .ref (ad 204), .ref (ad 205), .ref (ad 206), .ref (ad 207), .ref (ad 208), .ref (ad 209)])) ∧
  F 201 = some (cI g 12 (fun j => zI (pl j))) ∧ F 202 = some (cI g 16 (fun j => zI (cl j))) ∧ F 203 = some (cI g 16 (fun j => zI (pn j))) ∧ F 204 = some (cQ g 12 (fun i => some (ad (220 + i % 16)))) ∧ F 205 = some (cI g 12 (fun j => zI (rc j : Nat))) ∧ F 206 = some (cI g 12 (fun j => zI (py j : Nat))) ∧ F 207 = some (cI g 12 (fun j => zI (qu j))) ∧ F 208 = some (cI g 12 (fun j => zI (ah j))) ∧ F 209 = some (cI g 12 (fun j => zI (vi j)))) ∧
  (∀ i, i < 12 → F (220 + i) = some (cI g 16 (fun j => zI (sh i j)))) ∧ np ≤ 12 ∧ nc ≤ 16
/-- nothing but the plan's cells is written -/
def FrP (F F' : Pic) : Prop := ∀ r, (r < 200 ∨ 260 ≤ r) → F' r = F r
theorem FrP.rf {F : Pic} : FrP F F := fun _ _ => rfl
theorem FrP.tr {F F1 F2 : Pic} (h : FrP F F1) (h1 : FrP F1 F2) : FrP F F2 := fun r hr => (h1 r hr).trans (h r hr)
theorem FrP.pu {F : Pic} {r : Nat} {e : va_E} (h : 200 ≤ r ∧ r < 260) : FrP F (pu F r e) := fun x hx => pu_n (by omega)
def ui (f : Nat → Int) (k : Nat) (v : Int) : Nat → Int := fun j => if j = k then v else f j
def un (f : Nat → Nat) (k : Nat) (v : Nat) : Nat → Nat := fun j => if j = k then v else f j
def u2 (f : Nat → Nat → Int) (i k : Nat) (v : Int) : Nat → Nat → Int := fun a b => if a = i ∧ b = k then v else f a b
theorem upd_ui (f : Nat → Int) (k : Nat) (v : Int) : upd (fun j => zI (f j)) k (zI v) = fun j => zI (ui f k v j) := by
  funext j; unfold upd ui; split <;> rfl
theorem upd_un (f : Nat → Nat) (k : Nat) (v : Nat) : upd (fun j => zI (f j : Nat)) k (zI (v : Nat)) = fun j => zI (un f k v j : Nat) := by
  funext j; unfold upd un; split <;> rfl
section Puts
variable {g : Gx} {ad : Nat → Nat} {F : Pic} {np nc : Nat} {pl cl pn : Nat → Int} {sh : Nat → Nat → Int} {rc py : Nat → Nat} {qu ah vi : Nat → Int}
theorem PR.s_pl (hP : PR g ad F np nc pl cl pn sh rc py qu ah vi) (k : Nat) (v : Int) : PR g ad (pu F 201 (cI g 12 (upd (fun j => zI (pl j)) k (zI v)))) np nc (ui pl k v) cl pn sh rc py qu ah vi := by
  obtain ⟨⟨h0, h1, h2, h3, h4, h5, h6, h7, h8, h9⟩, hs, hnp, hnc⟩ := id hP
  rw [upd_ui]
  exact ⟨⟨(pu_n (by decide)).trans h0, pu_s, (pu_n (by decide)).trans h2, (pu_n (by decide)).trans h3, (pu_n (by decide)).trans h4, (pu_n (by decide)).trans h5, (pu_n (by decide)).trans h6, (pu_n (by decide)).trans h7, (pu_n (by decide)).trans h8, (pu_n (by decide)).trans h9⟩, fun i hi => (pu_n (by omega)).trans (hs i hi), hnp, hnc⟩
theorem PR.s_cl (hP : PR g ad F np nc pl cl pn sh rc py qu ah vi) (k : Nat) (v : Int) : PR g ad (pu F 202 (cI g 16 (upd (fun j => zI (cl j)) k (zI v)))) np nc pl (ui cl k v) pn sh rc py qu ah vi := by
  obtain ⟨⟨h0, h1, h2, h3, h4, h5, h6, h7, h8, h9⟩, hs, hnp, hnc⟩ := id hP
  rw [upd_ui]
  exact ⟨⟨(pu_n (by decide)).trans h0, (pu_n (by decide)).trans h1, pu_s, (pu_n (by decide)).trans h3, (pu_n (by decide)).trans h4, (pu_n (by decide)).trans h5, (pu_n (by decide)).trans h6, (pu_n (by decide)).trans h7, (pu_n (by decide)).trans h8, (pu_n (by decide)).trans h9⟩, fun i hi => (pu_n (by omega)).trans (hs i hi), hnp, hnc⟩
theorem PR.s_pn (hP : PR g ad F np nc pl cl pn sh rc py qu ah vi) (k : Nat) (v : Int) : PR g ad (pu F 203 (cI g 16 (upd (fun j => zI (pn j)) k (zI v)))) np nc pl cl (ui pn k v) sh rc py qu ah vi := by
  obtain ⟨⟨h0, h1, h2, h3, h4, h5, h6, h7, h8, h9⟩, hs, hnp, hnc⟩ := id hP
  rw [upd_ui]
  exact ⟨⟨(pu_n (by decide)).trans h0, (pu_n (by decide)).trans h1, (pu_n (by decide)).trans h2, pu_s, (pu_n (by decide)).trans h4, (pu_n (by decide)).trans h5, (pu_n (by decide)).trans h6, (pu_n (by decide)).trans h7, (pu_n (by decide)).trans h8, (pu_n (by decide)).trans h9⟩, fun i hi => (pu_n (by omega)).trans (hs i hi), hnp, hnc⟩
theorem PR.s_rc (hP : PR g ad F np nc pl cl pn sh rc py qu ah vi) (k : Nat) (v : Nat) : PR g ad (pu F 205 (cI g 12 (upd (fun j => zI (rc j : Nat)) k (zI (v : Nat))))) np nc pl cl pn sh (un rc k v) py qu ah vi := by
  obtain ⟨⟨h0, h1, h2, h3, h4, h5, h6, h7, h8, h9⟩, hs, hnp, hnc⟩ := id hP
  rw [upd_un]
  exact ⟨⟨(pu_n (by decide)).trans h0, (pu_n (by decide)).trans h1, (pu_n (by decide)).trans h2, (pu_n (by decide)).trans h3, (pu_n (by decide)).trans h4, pu_s, (pu_n (by decide)).trans h6, (pu_n (by decide)).trans h7, (pu_n (by decide)).trans h8, (pu_n (by decide)).trans h9⟩, fun i hi => (pu_n (by omega)).trans (hs i hi), hnp, hnc⟩
theorem PR.s_py (hP : PR g ad F np nc pl cl pn sh rc py qu ah vi) (k : Nat) (v : Nat) : PR g ad (pu F 206 (cI g 12 (upd (fun j => zI (py j : Nat)) k (zI (v : Nat))))) np nc pl cl pn sh rc (un py k v) qu ah vi := by
  obtain ⟨⟨h0, h1, h2, h3, h4, h5, h6, h7, h8, h9⟩, hs, hnp, hnc⟩ := id hP
  rw [upd_un]
  exact ⟨⟨(pu_n (by decide)).trans h0, (pu_n (by decide)).trans h1, (pu_n (by decide)).trans h2, (pu_n (by decide)).trans h3, (pu_n (by decide)).trans h4, (pu_n (by decide)).trans h5, pu_s, (pu_n (by decide)).trans h7, (pu_n (by decide)).trans h8, (pu_n (by decide)).trans h9⟩, fun i hi => (pu_n (by omega)).trans (hs i hi), hnp, hnc⟩
theorem PR.s_qu (hP : PR g ad F np nc pl cl pn sh rc py qu ah vi) (k : Nat) (v : Int) : PR g ad (pu F 207 (cI g 12 (upd (fun j => zI (qu j)) k (zI v)))) np nc pl cl pn sh rc py (ui qu k v) ah vi := by
  obtain ⟨⟨h0, h1, h2, h3, h4, h5, h6, h7, h8, h9⟩, hs, hnp, hnc⟩ := id hP
  rw [upd_ui]
  exact ⟨⟨(pu_n (by decide)).trans h0, (pu_n (by decide)).trans h1, (pu_n (by decide)).trans h2, (pu_n (by decide)).trans h3, (pu_n (by decide)).trans h4, (pu_n (by decide)).trans h5, (pu_n (by decide)).trans h6, pu_s, (pu_n (by decide)).trans h8, (pu_n (by decide)).trans h9⟩, fun i hi => (pu_n (by omega)).trans (hs i hi), hnp, hnc⟩
theorem PR.s_ah (hP : PR g ad F np nc pl cl pn sh rc py qu ah vi) (k : Nat) (v : Int) : PR g ad (pu F 208 (cI g 12 (upd (fun j => zI (ah j)) k (zI v)))) np nc pl cl pn sh rc py qu (ui ah k v) vi := by
  obtain ⟨⟨h0, h1, h2, h3, h4, h5, h6, h7, h8, h9⟩, hs, hnp, hnc⟩ := id hP
  rw [upd_ui]
  exact ⟨⟨(pu_n (by decide)).trans h0, (pu_n (by decide)).trans h1, (pu_n (by decide)).trans h2, (pu_n (by decide)).trans h3, (pu_n (by decide)).trans h4, (pu_n (by decide)).trans h5, (pu_n (by decide)).trans h6, (pu_n (by decide)).trans h7, pu_s, (pu_n (by decide)).trans h9⟩, fun i hi => (pu_n (by omega)).trans (hs i hi), hnp, hnc⟩
theorem PR.s_vi (hP : PR g ad F np nc pl cl pn sh rc py qu ah vi) (k : Nat) (v : Int) : PR g ad (pu F 209 (cI g 12 (upd (fun j => zI (vi j)) k (zI v)))) np nc pl cl pn sh rc py qu ah (ui vi k v) := by
  obtain ⟨⟨h0, h1, h2, h3, h4, h5, h6, h7, h8, h9⟩, hs, hnp, hnc⟩ := id hP
  rw [upd_ui]
  exact ⟨⟨(pu_n (by decide)).trans h0, (pu_n (by decide)).trans h1, (pu_n (by decide)).trans h2, (pu_n (by decide)).trans h3, (pu_n (by decide)).trans h4, (pu_n (by decide)).trans h5, (pu_n (by decide)).trans h6, (pu_n (by decide)).trans h7, (pu_n (by decide)).trans h8, pu_s⟩, fun i hi => (pu_n (by omega)).trans (hs i hi), hnp, hnc⟩
theorem PR.s_sh (hP : PR g ad F np nc pl cl pn sh rc py qu ah vi) {p : Nat} (hp : p < 12) (k : Nat) (v : Int) : PR g ad (pu F (220 + p) (cI g 16 (upd (fun j => zI (sh p j)) k (zI v)))) np nc pl cl pn (u2 sh p k v) rc py qu ah vi := by
  obtain ⟨⟨h0, h1, h2, h3, h4, h5, h6, h7, h8, h9⟩, hs, hnp, hnc⟩ := id hP
  refine ⟨⟨(pu_n (by omega)).trans h0, (pu_n (by omega)).trans h1, (pu_n (by omega)).trans h2, (pu_n (by omega)).trans h3, (pu_n (by omega)).trans h4, (pu_n (by omega)).trans h5, (pu_n (by omega)).trans h6, (pu_n (by omega)).trans h7, (pu_n (by omega)).trans h8, (pu_n (by omega)).trans h9⟩, fun i hi => ?_, hnp, hnc⟩
  by_cases e : i = p
  · subst e
    rw [pu_s]
    congr 5
    funext j; unfold upd u2
    by_cases ej : j = k
    · rw [if_pos ej, if_pos ⟨rfl, ej⟩]
    · rw [if_neg ej, if_neg (fun q => ej q.2)]
  · rw [pu_n (by omega), hs i hi]
    congr 5
    funext j; unfold u2
    rw [if_neg (fun q => e q.1)]
end Puts
set_option maxRecDepth 100000 in
set_option maxHeartbeats 4000000 in
theorem c_has (g : Gx) (l : Launch) (hl : l.stackTraces = false) (ad : Nat → Nat) (F : Pic) (m e : Nat) (hm : m < 2147483648) (he : e < 32) : Ct g l yX5_has cX5_has 2 (some .boolean) 1 0 0 [.int (zI (m : Int)), .int (zI (e : Int))] ad F (fun v ad' F' => v = some (.int (bP (m.testBit e = true))) ∧ ad = ad' ∧ F = F') := by
  refine Ct_of hl rfl [some (.int (zI (m : Int))), some (.int (zI (e : Int)))] (Nat.le_of_ble_eq_true rfl) (fun _ h => h) ?_
  intro M hL hN X
  subst hL
  refine r_iload_n X dX5_has_0 (by rfl) ?_
  refine r_iload_n X dX5_has_1 (by rfl) ?_
  refine r_ishr X (hv := zI_shr hm he) dX5_has_2 ?_
  refine r_iconst X dX5_has_3 rfl ?_
  refine r_iand X (hv := zI_and1 _) dX5_has_4 ?_
  have hq := tb_iff m e
  refine r_if_eq X 12 dX5_has_5 (by decide) (by unfold inR; omega) (fun a => ?_) (fun a => ?_)
  · refine r_iconst X dX5_has_12 rfl ?_
    exact r_iret X rfl (rfl) dX5_has_13 (⟨by rw [bP_f (P := m.testBit e = true) (by rw [hq]; omega)], rfl, rfl⟩) (by omega) (by omega)
  · refine r_iconst X dX5_has_8 rfl ?_
    refine r_goto X dX5_has_9 13 (by decide) ?_
    exact r_iret X rfl (rfl) dX5_has_13 (⟨by rw [bP_t (P := m.testBit e = true) (by rw [hq]; omega)], rfl, rfl⟩) (by omega) (by omega)
set_option maxRecDepth 100000 in
set_option maxHeartbeats 4000000 in
theorem c_isPot (g : Gx) (l : Launch) (hl : l.stackTraces = false) (ad : Nat → Nat) (F : Pic) {np nc : Nat} {pl cl pn : Nat → Int} {sh : Nat → Nat → Int} {rc py : Nat → Nat} {qu ah vi : Nat → Int} (hP : PR g ad F np nc pl cl pn sh rc py qu ah vi) (x : Int) (hx : inR x) : Ct g l yX3_isPot cX3_isPot 2 (some .boolean) 1 0 0 [.ref (ad 200), .int (zI x)] ad F (fun v ad' F' => v = some (.int (bP (0 ≤ x ∧ x < np))) ∧ ad = ad' ∧ F = F') := by
  refine Ct_of hl rfl [some (.ref (ad 200)), some (.int (zI x))] (Nat.le_of_ble_eq_true rfl) (fun _ h => h) ?_
  intro M hL hN X
  subst hL
  obtain ⟨⟨h0, h1, h2, h3, h4, h5, h6, h7, h8, h9⟩, hs, hnp, hnc⟩ := id hP
  unfold inR at hx
  refine r_iload_n X dX3_isPot_0 (by rfl) ?_
  refine r_if_lt X 22 dX3_isPot_1 (by decide) (by unfold inR; omega) (fun a => ?_) (fun a => ?_)
  · refine r_iconst X dX3_isPot_22 rfl ?_
    exact r_iret X rfl (rfl) dX3_isPot_23 (⟨by rw [bP_f (P := 0 ≤ x ∧ x < np) (by omega)], rfl, rfl⟩) (by omega) (by omega)
  · refine r_iload_n X dX3_isPot_4 (by rfl) ?_
    refine r_aload_n X dX3_isPot_5 (by rfl) ?_
    refine r_get X dX3_isPot_6 fgX3_50_6 (by assumption) (by rfl) ?_
    refine r_icmp_ge X 22 dX3_isPot_9 (by decide) (by unfold inR; omega) (by unfold inR; omega) (fun b => ?_) (fun b => ?_)
    · refine r_iconst X dX3_isPot_22 rfl ?_
      exact r_iret X rfl (rfl) dX3_isPot_23 (⟨by rw [bP_f (P := 0 ≤ x ∧ x < np) (by omega)], rfl, rfl⟩) (by omega) (by omega)
    · refine r_iload_n X dX3_isPot_12 (by rfl) ?_
      refine r_bipush X dX3_isPot_13 (by decide) ?_
      refine r_icmp_ge X 22 dX3_isPot_15 (by decide) (by unfold inR; omega) (by unfold inR; omega) (fun c => ?_) (fun c => ?_)
      · omega
      · refine r_iconst X dX3_isPot_18 rfl ?_
        refine r_goto X dX3_isPot_19 23 (by decide) ?_
        exact r_iret X rfl (rfl) dX3_isPot_23 (⟨by rw [bP_t (P := 0 ≤ x ∧ x < np) (by omega)], rfl, rfl⟩) (by omega) (by omega)
set_option maxRecDepth 100000 in
set_option maxHeartbeats 4000000 in
theorem c_isCost (g : Gx) (l : Launch) (hl : l.stackTraces = false) (ad : Nat → Nat) (F : Pic) {np nc : Nat} {pl cl pn : Nat → Int} {sh : Nat → Nat → Int} {rc py : Nat → Nat} {qu ah vi : Nat → Int} (hP : PR g ad F np nc pl cl pn sh rc py qu ah vi) (x : Int) (hx : inR x) : Ct g l yX3_isCost cX3_isCost 2 (some .boolean) 1 0 0 [.ref (ad 200), .int (zI x)] ad F (fun v ad' F' => v = some (.int (bP (0 ≤ x ∧ x < nc))) ∧ ad = ad' ∧ F = F') := by
  refine Ct_of hl rfl [some (.ref (ad 200)), some (.int (zI x))] (Nat.le_of_ble_eq_true rfl) (fun _ h => h) ?_
  intro M hL hN X
  subst hL
  obtain ⟨⟨h0, h1, h2, h3, h4, h5, h6, h7, h8, h9⟩, hs, hnp, hnc⟩ := id hP
  unfold inR at hx
  refine r_iload_n X dX3_isCost_0 (by rfl) ?_
  refine r_if_lt X 22 dX3_isCost_1 (by decide) (by unfold inR; omega) (fun a => ?_) (fun a => ?_)
  · refine r_iconst X dX3_isCost_22 rfl ?_
    exact r_iret X rfl (rfl) dX3_isCost_23 (⟨by rw [bP_f (P := 0 ≤ x ∧ x < nc) (by omega)], rfl, rfl⟩) (by omega) (by omega)
  · refine r_iload_n X dX3_isCost_4 (by rfl) ?_
    refine r_aload_n X dX3_isCost_5 (by rfl) ?_
    refine r_get X dX3_isCost_6 fgX3_54_6 (by assumption) (by rfl) ?_
    refine r_icmp_ge X 22 dX3_isCost_9 (by decide) (by unfold inR; omega) (by unfold inR; omega) (fun b => ?_) (fun b => ?_)
    · refine r_iconst X dX3_isCost_22 rfl ?_
      exact r_iret X rfl (rfl) dX3_isCost_23 (⟨by rw [bP_f (P := 0 ≤ x ∧ x < nc) (by omega)], rfl, rfl⟩) (by omega) (by omega)
    · refine r_iload_n X dX3_isCost_12 (by rfl) ?_
      refine r_bipush X dX3_isCost_13 (by decide) ?_
      refine r_icmp_ge X 22 dX3_isCost_15 (by decide) (by unfold inR; omega) (by unfold inR; omega) (fun c => ?_) (fun c => ?_)
      · omega
      · refine r_iconst X dX3_isCost_18 rfl ?_
        refine r_goto X dX3_isCost_19 23 (by decide) ?_
        exact r_iret X rfl (rfl) dX3_isCost_23 (⟨by rw [bP_t (P := 0 ≤ x ∧ x < nc) (by omega)], rfl, rfl⟩) (by omega) (by omega)
