/-! ===== pots and costs: their small methods ===== -/
theorem zI_div {a b : Int} (ha : 0 ≤ a ∧ a < 2147483648) (hb : 0 < b ∧ b < 2147483648) : zI a / zI b = zI (a / b) := by
  have h1 : a.tdiv b = a / b := Int.tdiv_eq_ediv_of_nonneg ha.1
  have h2 : 0 ≤ a / b := Int.ediv_nonneg ha.1 (by omega)
  have h3 : a / b ≤ a := Int.ediv_le_self b ha.1
  rw [← Int32.toInt_inj, Int32.toInt_div, zI_to ⟨by omega, by omega⟩, zI_to ⟨by omega, by omega⟩, zI_to ⟨by omega, by omega⟩, h1]
  exact Int.bmod_eq_of_le (by omega) (by omega)
theorem zL_div {a b : Int} (ha : 0 ≤ a ∧ a < 9223372036854775808) (hb : 0 < b ∧ b < 9223372036854775808) : zL a / zL b = zL (a / b) := by
  have h1 : a.tdiv b = a / b := Int.tdiv_eq_ediv_of_nonneg ha.1
  have h2 : 0 ≤ a / b := Int.ediv_nonneg ha.1 (by omega)
  have h3 : a / b ≤ a := Int.ediv_le_self b ha.1
  rw [← Int64.toInt_inj, Int64.toInt_div, zL_to ⟨by omega, by omega⟩, zL_to ⟨by omega, by omega⟩, zL_to ⟨by omega, by omega⟩, h1]
  exact Int.bmod_eq_of_le (by omega) (by omega)
theorem zI_ne0 {b : Int} (hb : 0 < b ∧ b < 2147483648) : ¬ zI b = 0 := fun h => by
  have := (zI_eq (b := 0) ⟨by omega, by omega⟩ ⟨by omega, by omega⟩).mp h
  omega
theorem zL_ne0 {b : Int} (hb : 0 < b ∧ b < 9223372036854775808) : ¬ zL b = 0 := fun h => by
  have := (zL_eq (b := 0) ⟨by omega, by omega⟩ ⟨by omega, by omega⟩).mp h
  omega
def hasZ (m e : Int) : Prop := m.toNat.testBit e.toNat = true
theorem c_hasZ (g : Gx) (l : Launch) (hl : l.stackTraces = false) (ad : Nat → Nat) (F : Pic) (m e : Int) (hm : 0 ≤ m ∧ m < 2147483648) (he : 0 ≤ e ∧ e < 32) : Ct g l yX5_has cX5_has 2 (some .boolean) 1 0 0 [.int (zI m), .int (zI e)] ad F (fun v ad' F' => v = some (.int (bP (hasZ m e))) ∧ ad = ad' ∧ F = F') := by
  obtain ⟨m', rfl⟩ := Int.eq_ofNat_of_zero_le hm.1
  obtain ⟨e', rfl⟩ := Int.eq_ofNat_of_zero_le he.1
  exact c_has g l hl ad F m' e' (by omega) (by omega)
set_option maxRecDepth 100000 in
set_option maxHeartbeats 4000000 in
theorem c_x4f (g : Gx) (l : Launch) (hl : l.stackTraces = false) (ad : Nat → Nat) (F : Pic) (r : Nat) (hr : 100 ≤ r) (mo nu al la ce di ov : Int) (h : F r = some (.inr (5, [.int (zI mo), .int (zI nu), .int (zI al), .int (zI la), .int (zI ce), .int (zI di), .int (zI ov)]))) (m : Int) : Ct g l yX4_init cX4_init 2 none 1 0 0 [.ref (ad r), .int (zI m)] ad F (fun v ad' F' => v = none ∧ ad = ad' ∧ F' = pu F r (.inr (5, [.int (zI m), .int (zI nu), .int (zI al), .int (zI la), .int (zI ce), .int (zI di), .int (zI ov)]))) := by
  refine Ct_of hl rfl [some (.ref (ad r)), some (.int (zI m))] (Nat.le_of_ble_eq_true rfl) (fun _ h => h) ?_
  intro M hL hN X
  subst hL
  refine r_aload_n X dX4_init_0 (by rfl) ?_
  refine r_objInit X dX4_init_1 w225 w28 w29 (by decide) (Nat.le_of_ble_eq_true rfl) ?_
  refine r_aload_n X dX4_init_4 (by rfl) ?_
  refine r_iload_n X dX4_init_5 (by rfl) ?_
  refine r_put X dX4_init_6 fwX4_7_5 (by assumption) (by omega) (by exact Nat.le_of_ble_eq_true rfl) (by rfl) (by rfl) ?_
  dsimp only [List.set]
  exact r_vret X rfl dX4_init_9 (⟨rfl, rfl, rfl⟩) (by omega) (by omega)
set_option maxRecDepth 100000 in
set_option maxHeartbeats 4000000 in
theorem c_x4k (g : Gx) (l : Launch) (hl : l.stackTraces = false) (ad : Nat → Nat) (F : Pic) (r : Nat) (hr : 100 ≤ r) (mo ca un : Int) (vf : Value) (h : F r = some (.inr (3, [.int (zI mo), vf, .int (zI ca), .int (zI un)]))) (m : Int) : Ct g l yX4_init cX4_init 2 none 1 0 0 [.ref (ad r), .int (zI m)] ad F (fun v ad' F' => v = none ∧ ad = ad' ∧ F' = pu F r (.inr (3, [.int (zI m), vf, .int (zI ca), .int (zI un)]))) := by
  refine Ct_of hl rfl [some (.ref (ad r)), some (.int (zI m))] (Nat.le_of_ble_eq_true rfl) (fun _ h => h) ?_
  intro M hL hN X
  subst hL
  refine r_aload_n X dX4_init_0 (by rfl) ?_
  refine r_objInit X dX4_init_1 w225 w28 w29 (by decide) (Nat.le_of_ble_eq_true rfl) ?_
  refine r_aload_n X dX4_init_4 (by rfl) ?_
  refine r_iload_n X dX4_init_5 (by rfl) ?_
  refine r_put X dX4_init_6 fwX4_7_3 (by assumption) (by omega) (by exact Nat.le_of_ble_eq_true rfl) (by rfl) (by rfl) ?_
  dsimp only [List.set]
  exact r_vret X rfl dX4_init_9 (⟨rfl, rfl, rfl⟩) (by omega) (by omega)
set_option maxRecDepth 100000 in
set_option maxHeartbeats 4000000 in
theorem c_fundInit (g : Gx) (l : Launch) (hl : l.stackTraces = false) (ad : Nat → Nat) (F : Pic) (r : Nat) (hr : 100 ≤ r) (mo nu al la ce di ov : Int) (h : F r = some (.inr (5, [.int (zI mo), .int (zI nu), .int (zI al), .int (zI la), .int (zI ce), .int (zI di), .int (zI ov)]))) (i m a d c : Int) : Ct g l yX2_init cX2_init 6 none 2 0 0 [.ref (ad r), .int (zI i), .int (zI m), .int (zI a), .int (zI d), .int (zI c)] ad F (fun v ad' F' => v = none ∧ ad = ad' ∧ F' r = some (.inr (5, [.int (zI m), .int (zI i), .int (zI a), .int (zI d), .int (zI c), .int (zI di), .int (zI ov)])) ∧ ∀ x, x ≠ r → F' x = F x) := by
  refine Ct_of hl rfl [some (.ref (ad r)), some (.int (zI i)), some (.int (zI m)), some (.int (zI a)), some (.int (zI d)), some (.int (zI c))] (Nat.le_of_ble_eq_true rfl) (fun _ h => h) ?_
  intro M hL hN X
  subst hL
  refine r_aload_n X dX2_init_0 (by rfl) ?_
  refine r_iload_n X dX2_init_1 (by rfl) ?_
  refine r_callI X dX2_init_2 kX2_3 (c_x4f g _ hl ad F r hr mo nu al la ce di ov h m) (by rfl) (by rfl) (by exact Nat.le_of_ble_eq_true rfl) (by decide) (by decide) (by omega) (by omega) (fun v ad' F' hK => ?_)
  obtain ⟨rfl, rfl, rfl⟩ := hK
  refine r_aload_n X dX2_init_5 (by rfl) ?_
  refine r_iload_n X dX2_init_6 (by rfl) ?_
  refine r_putF X dX2_init_7 ffX2_9_5 rfl (pu_s) (by omega) (by exact Nat.le_of_ble_eq_true rfl) (by rfl) (by rfl) ?_
  dsimp only [List.set]
  refine r_aload_n X dX2_init_10 (by rfl) ?_
  refine r_iload_n X dX2_init_11 (by rfl) ?_
  refine r_putF X dX2_init_12 ffX2_15_5 rfl (pu_s) (by omega) (by exact Nat.le_of_ble_eq_true rfl) (by rfl) (by rfl) ?_
  dsimp only [List.set]
  refine r_aload_n X dX2_init_15 (by rfl) ?_
  refine r_iload X dX2_init_16 (by rfl) ?_
  refine r_putF X dX2_init_18 ffX2_18_5 rfl (pu_s) (by omega) (by exact Nat.le_of_ble_eq_true rfl) (by rfl) (by rfl) ?_
  dsimp only [List.set]
  refine r_aload_n X dX2_init_21 (by rfl) ?_
  refine r_iload X dX2_init_22 (by rfl) ?_
  refine r_putF X dX2_init_24 ffX2_21_5 rfl (pu_s) (by omega) (by exact Nat.le_of_ble_eq_true rfl) (by rfl) (by rfl) ?_
  dsimp only [List.set]
  exact r_vret X rfl dX2_init_27 (⟨rfl, rfl, pu_s, fun x hx => by rw [pu_n hx, pu_n hx, pu_n hx, pu_n hx, pu_n hx]⟩) (by omega) (by omega)
set_option maxRecDepth 100000 in
set_option maxHeartbeats 4000000 in
theorem c_fundOwner (g : Gx) (l : Launch) (hl : l.stackTraces = false) (ad : Nat → Nat) (F : Pic) (r : Nat) (hr : 100 ≤ r) (mo nu al la ce di ov : Int) (h : F r = some (.inr (5, [.int (zI mo), .int (zI nu), .int (zI al), .int (zI la), .int (zI ce), .int (zI di), .int (zI ov)]))) : Ct g l yX2_owner cX2_owner 1 (some (.object "RestrictedFunds$Fund")) 1 0 0 [.ref (ad r)] ad F (fun v ad' F' => v = some (.ref (ad r)) ∧ ad = ad' ∧ F = F') := by
  refine Ct_of hl rfl [some (.ref (ad r))] (Nat.le_of_ble_eq_true rfl) (fun _ h => h) ?_
  intro M hL hN X
  subst hL
  refine r_aload_n X dX2_owner_0 (by rfl) ?_
  exact r_aret X rfl (.inl ⟨_, rfl⟩) dX2_owner_1 (⟨rfl, rfl, rfl⟩) (by omega) (by omega)
set_option maxRecDepth 100000 in
set_option maxHeartbeats 4000000 in
theorem c_fundExpiry (g : Gx) (l : Launch) (hl : l.stackTraces = false) (ad : Nat → Nat) (F : Pic) (r : Nat) (hr : 100 ≤ r) (mo nu al la ce di ov : Int) (h : F r = some (.inr (5, [.int (zI mo), .int (zI nu), .int (zI al), .int (zI la), .int (zI ce), .int (zI di), .int (zI ov)]))) : Ct g l yX2_expiry cX2_expiry 1 (some .int) 1 0 0 [.ref (ad r)] ad F (fun v ad' F' => v = some (.int (zI la)) ∧ ad = ad' ∧ F = F') := by
  refine Ct_of hl rfl [some (.ref (ad r))] (Nat.le_of_ble_eq_true rfl) (fun _ h => h) ?_
  intro M hL hN X
  subst hL
  refine r_aload_n X dX2_expiry_0 (by rfl) ?_
  refine r_get X dX2_expiry_1 fgX2_18_5 (by assumption) (by rfl) ?_
  exact r_iret X rfl (rfl) dX2_expiry_4 (⟨rfl, rfl, rfl⟩) (by omega) (by omega)
set_option maxRecDepth 100000 in
set_option maxHeartbeats 4000000 in
theorem c_allows (g : Gx) (l : Launch) (hl : l.stackTraces = false) (ad : Nat → Nat) (F : Pic) (r : Nat) (hr : 100 ≤ r) (mo nu al la ce di ov : Int) (h : F r = some (.inr (5, [.int (zI mo), .int (zI nu), .int (zI al), .int (zI la), .int (zI ce), .int (zI di), .int (zI ov)]))) (c : Int) (ha : 0 ≤ al ∧ al < 2147483648) (hc : 0 ≤ c ∧ c < 32) : Ct g l yX2_allows cX2_allows 2 (some .boolean) 2 0 0 [.ref (ad r), .int (zI c)] ad F (fun v ad' F' => v = some (.int (bP (hasZ al c))) ∧ ad = ad' ∧ F = F') := by
  refine Ct_of hl rfl [some (.ref (ad r)), some (.int (zI c))] (Nat.le_of_ble_eq_true rfl) (fun _ h => h) ?_
  intro M hL hN X
  subst hL
  refine r_aload_n X dX2_allows_0 (by rfl) ?_
  refine r_get X dX2_allows_1 fgX2_15_5 (by assumption) (by rfl) ?_
  refine r_iload_n X dX2_allows_4 (by rfl) ?_
  refine r_callSN (np := 2) X dX2_allows_5 w489 w1 ⟨by decide, by decide⟩ (by decide +kernel) X.2.1.2.2.2.2.1.1 w488 (c_hasZ g _ hl ad F al c ha hc) (by rfl) (by rfl) (by exact Nat.le_of_ble_eq_true rfl) (by decide) (by decide) (by omega) (by omega) (fun v ad' F' hK => ?_)
  obtain ⟨rfl, rfl, rfl⟩ := hK
  exact r_iret X rfl (nb_bP _) dX2_allows_8 (⟨rfl, rfl, rfl⟩) (by omega) (by omega)
def suP (al la ca da : Int) : Prop := hasZ al ca ∧ da ≤ la
set_option maxRecDepth 100000 in
set_option maxHeartbeats 4000000 in
theorem c_suits (g : Gx) (l : Launch) (hl : l.stackTraces = false) (ad : Nat → Nat) (F : Pic) (r : Nat) (hr : 100 ≤ r) (mo nu al la ce di ov : Int) (h : F r = some (.inr (5, [.int (zI mo), .int (zI nu), .int (zI al), .int (zI la), .int (zI ce), .int (zI di), .int (zI ov)]))) (rc : Nat) (hrc : 100 ≤ rc) (cca da cun : Int) (rsh : Nat) (hc : F rc = some (.inr (4, [.int (zI cca), .int (zI da), .int (zI cun), .ref rsh]))) (ha : 0 ≤ al ∧ al < 2147483648) (hcc : 0 ≤ cca ∧ cca < 32) (h3 : inR da) (h4 : inR la) : Ct g l yX2_suits cX2_suits 2 (some .boolean) 3 0 0 [.ref (ad r), .ref (ad rc)] ad F (fun v ad' F' => v = some (.int (bP (suP al la cca da))) ∧ ad = ad' ∧ F = F') := by
  refine Ct_of hl rfl [some (.ref (ad r)), some (.ref (ad rc))] (Nat.le_of_ble_eq_true rfl) (fun _ h => h) ?_
  intro M hL hN X
  subst hL
  refine r_aload_n X dX2_suits_0 (by rfl) ?_
  refine r_aload_n X dX2_suits_1 (by rfl) ?_
  refine r_get X dX2_suits_2 fgX2_32_4 (by assumption) (by rfl) ?_
  refine r_callV X dX2_suits_5 kX2_37 (c_allows g _ hl ad F r hr mo nu al la ce di ov h cca ha hcc) (by assumption) (by rfl) (by rfl) (by rfl) (by rfl) (by exact Nat.le_of_ble_eq_true rfl) (by decide) (by decide) (by omega) (by omega) (fun v ad' F' hK => ?_)
  obtain ⟨rfl, rfl, rfl⟩ := hK
  have no : ¬ suP al la cca da → V M g ad F 0 0 26 [some (.ref (ad r)), some (.ref (ad rc))] [] := fun h9 => by
    refine r_iconst X dX2_suits_26 rfl ?_
    exact r_iret X rfl (rfl) dX2_suits_27 (⟨by rw [bP_f h9], rfl, rfl⟩) (by omega) (by omega)
  refine r_if_eqb X 26 dX2_suits_8 (by decide) (fun a => ?_) (fun a => ?_)
  · exact no (fun h9 => a h9.1)
  · refine r_aload_n X dX2_suits_11 (by rfl) ?_
    refine r_get X dX2_suits_12 fgX2_41_4 (by assumption) (by rfl) ?_
    refine r_aload_n X dX2_suits_15 (by rfl) ?_
    refine r_get X dX2_suits_16 fgX2_18_5 (by assumption) (by rfl) ?_
    refine r_icmp_gt X 26 dX2_suits_19 (by decide) (h3) (h4) (fun b => ?_) (fun b => ?_)
    · exact no (fun h9 => by have := h9.2; omega)
    · refine r_iconst X dX2_suits_22 rfl ?_
      refine r_goto X dX2_suits_23 27 (by decide) ?_
      exact r_iret X rfl (rfl) dX2_suits_27 (⟨by rw [bP_t (P := suP al la cca da) ⟨a, by omega⟩], rfl, rfl⟩) (by omega) (by omega)
set_option maxRecDepth 100000 in
set_option maxHeartbeats 4000000 in
theorem c_fundMayPay (g : Gx) (l : Launch) (hl : l.stackTraces = false) (ad : Nat → Nat) (F : Pic) (r : Nat) (hr : 100 ≤ r) (mo nu al la ce di ov : Int) (h : F r = some (.inr (5, [.int (zI mo), .int (zI nu), .int (zI al), .int (zI la), .int (zI ce), .int (zI di), .int (zI ov)]))) (rc : Nat) (hrc : 100 ≤ rc) (cca da cun : Int) (rsh : Nat) (hc : F rc = some (.inr (4, [.int (zI cca), .int (zI da), .int (zI cun), .ref rsh]))) (ha : 0 ≤ al ∧ al < 2147483648) (hcc : 0 ≤ cca ∧ cca < 32) (h3 : inR da) (h4 : inR la) : Ct g l yX2_mayPay cX2_mayPay 2 (some .boolean) 4 0 0 [.ref (ad r), .ref (ad rc)] ad F (fun v ad' F' => v = some (.int (bP (suP al la cca da))) ∧ ad = ad' ∧ F = F') := by
  refine Ct_of hl rfl [some (.ref (ad r)), some (.ref (ad rc))] (Nat.le_of_ble_eq_true rfl) (fun _ h => h) ?_
  intro M hL hN X
  subst hL
  refine r_aload_n X dX2_mayPay_0 (by rfl) ?_
  refine r_aload_n X dX2_mayPay_1 (by rfl) ?_
  refine r_callV X dX2_mayPay_2 kX2_24 (c_suits g _ hl ad F r hr mo nu al la ce di ov h rc hrc cca da cun rsh hc ha hcc h3 h4) (by assumption) (by rfl) (by rfl) (by rfl) (by rfl) (by exact Nat.le_of_ble_eq_true rfl) (by decide) (by decide) (by omega) (by omega) (fun v ad' F' hK => ?_)
  obtain ⟨rfl, rfl, rfl⟩ := hK
  exact r_iret X rfl (nb_bP _) dX2_mayPay_5 (⟨rfl, rfl, rfl⟩) (by omega) (by omega)
def roZ (mo ce di ov : Int) : Int := max 0 (min (di * ce / 100 - ov) mo)
set_option maxRecDepth 100000 in
set_option maxHeartbeats 4000000 in
theorem c_room (g : Gx) (l : Launch) (hl : l.stackTraces = false) (ad : Nat → Nat) (F : Pic) (r : Nat) (hr : 100 ≤ r) (mo nu al la ce di ov : Int) (h : F r = some (.inr (5, [.int (zI mo), .int (zI nu), .int (zI al), .int (zI la), .int (zI ce), .int (zI di), .int (zI ov)]))) (h1 : 0 ≤ di ∧ di ≤ 1599984) (h2 : 0 ≤ ce ∧ ce ≤ 100) (h3 : 0 ≤ ov ∧ ov ≤ 1599984) (h4 : 0 ≤ mo ∧ mo < 2147483648) : Ct g l yX2_room cX2_room 2 (some .int) 1 0 0 [.ref (ad r)] ad F (fun v ad' F' => v = some (.int (zI (roZ mo ce di ov))) ∧ ad = ad' ∧ F = F') := by
  refine Ct_of hl rfl [some (.ref (ad r)), none] (Nat.le_of_ble_eq_true rfl) (fun _ h => h) ?_
  intro M hL hN X
  subst hL
  have m1 : 0 ≤ di * ce := Int.mul_nonneg h1.1 h2.1
  have m2 : di * ce ≤ 1599984 * 100 := Int.le_trans (Int.mul_le_mul_of_nonneg_right h1.2 h2.1) (Int.mul_le_mul_of_nonneg_left h2.2 (by omega))
  refine r_aload_n X dX2_room_0 (by rfl) ?_
  refine r_get X dX2_room_1 fgX2_44_5 (by assumption) (by rfl) ?_
  refine r_aload_n X dX2_room_4 (by rfl) ?_
  refine r_get X dX2_room_5 fgX2_21_5 (by assumption) (by rfl) ?_
  refine r_imul X dX2_room_8 ?_
  refine r_bipush X dX2_room_9 (by decide) ?_
  refine r_idiv X (hne := zI_ne0 (by omega)) (hv := zI_div ⟨m1, by omega⟩ (by omega)) dX2_room_11 ?_
  refine r_aload_n X dX2_room_12 (by rfl) ?_
  refine r_get X dX2_room_13 fgX2_47_5 (by assumption) (by rfl) ?_
  refine r_isub X dX2_room_16 ?_
  refine r_istore_n X dX2_room_17 (by rw [hN]; decide) (by rfl) ?_
  dsimp only [List.set]
  refine r_iconst X dX2_room_18 rfl ?_
  refine r_iload_n X dX2_room_19 (by rfl) ?_
  refine r_aload_n X dX2_room_20 (by rfl) ?_
  refine r_get X dX2_room_21 fgX2_50_5 (by assumption) (by rfl) ?_
  refine r_mmin X dX2_room_24 w631 w307 w12 w308 (by unfold inR; omega) (by unfold inR; omega) (by exact Nat.le_of_ble_eq_true rfl) (by decide) (by omega) (by omega) ?_
  refine r_mmax X dX2_room_27 w632 w278 w12 w279 (by unfold inR; omega) (by unfold inR; omega) (by exact Nat.le_of_ble_eq_true rfl) (by decide) (by omega) (by omega) ?_
  exact r_iret X rfl (rfl) dX2_room_30 (⟨rfl, rfl, rfl⟩) (by omega) (by omega)
set_option maxRecDepth 100000 in
set_option maxHeartbeats 4000000 in
theorem c_takeOverhead (g : Gx) (l : Launch) (hl : l.stackTraces = false) (ad : Nat → Nat) (F : Pic) (r : Nat) (hr : 100 ≤ r) (mo nu al la ce di ov : Int) (h : F r = some (.inr (5, [.int (zI mo), .int (zI nu), .int (zI al), .int (zI la), .int (zI ce), .int (zI di), .int (zI ov)]))) (m : Int) : Ct g l yX2_takeOverhead cX2_takeOverhead 2 none 1 0 0 [.ref (ad r), .int (zI m)] ad F (fun v ad' F' => v = none ∧ ad = ad' ∧ F' r = some (.inr (5, [.int (zI (mo - m)), .int (zI nu), .int (zI al), .int (zI la), .int (zI ce), .int (zI di), .int (zI (ov + m))])) ∧ ∀ x, x ≠ r → F' x = F x) := by
  refine Ct_of hl rfl [some (.ref (ad r)), some (.int (zI m))] (Nat.le_of_ble_eq_true rfl) (fun _ h => h) ?_
  intro M hL hN X
  subst hL
  refine r_aload_n X dX2_takeOverhead_0 (by rfl) ?_
  refine r_dup X dX2_takeOverhead_1 (by rfl) ?_
  refine r_get X dX2_takeOverhead_2 fgX2_50_5 (by assumption) (by rfl) ?_
  refine r_iload_n X dX2_takeOverhead_5 (by rfl) ?_
  refine r_isub X dX2_takeOverhead_6 ?_
  refine r_put X dX2_takeOverhead_7 fwX2_50_5 (by assumption) (by omega) (by exact Nat.le_of_ble_eq_true rfl) (by rfl) (by rfl) ?_
  dsimp only [List.set]
  refine r_aload_n X dX2_takeOverhead_10 (by rfl) ?_
  refine r_dup X dX2_takeOverhead_11 (by rfl) ?_
  refine r_get X dX2_takeOverhead_12 fgX2_47_5 (pu_s) (by rfl) ?_
  refine r_iload_n X dX2_takeOverhead_15 (by rfl) ?_
  refine r_iadd X dX2_takeOverhead_16 ?_
  refine r_put X dX2_takeOverhead_17 fwX2_47_5 (pu_s) (by omega) (by exact Nat.le_of_ble_eq_true rfl) (by rfl) (by rfl) ?_
  dsimp only [List.set]
  exact r_vret X rfl dX2_takeOverhead_20 (⟨rfl, rfl, pu_s, fun x hx => by rw [pu_n hx, pu_n hx]⟩) (by omega) (by omega)
set_option maxRecDepth 100000 in
set_option maxHeartbeats 4000000 in
theorem c_comInit (g : Gx) (l : Launch) (hl : l.stackTraces = false) (ad : Nat → Nat) (F : Pic) (r : Nat) (hr : 100 ≤ r) (mo ca un : Int) (vf : Value) (h : F r = some (.inr (3, [.int (zI mo), vf, .int (zI ca), .int (zI un)]))) (rf : Nat) (hf : ∃ vs, F rf = some (.inr (5, vs))) (hrf : rf ≠ r) (m c u : Int) : Ct g l yX0_init cX0_init 5 none 2 0 0 [.ref (ad r), .ref (ad rf), .int (zI c), .int (zI m), .int (zI u)] ad F (fun v ad' F' => v = none ∧ ad = ad' ∧ F' r = some (.inr (3, [.int (zI m), .ref (ad rf), .int (zI c), .int (zI u)])) ∧ ∀ x, x ≠ r → F' x = F x) := by
  refine Ct_of hl rfl [some (.ref (ad r)), some (.ref (ad rf)), some (.int (zI c)), some (.int (zI m)), some (.int (zI u))] (Nat.le_of_ble_eq_true rfl) (fun _ h => h) ?_
  intro M hL hN X
  subst hL
  refine r_aload_n X dX0_init_0 (by rfl) ?_
  refine r_iload_n X dX0_init_1 (by rfl) ?_
  refine r_callI X dX0_init_2 kX0_1 (c_x4k g _ hl ad F r hr mo ca un vf h m) (by rfl) (by rfl) (by exact Nat.le_of_ble_eq_true rfl) (by decide) (by decide) (by omega) (by omega) (fun v ad' F' hK => ?_)
  obtain ⟨rfl, rfl, rfl⟩ := hK
  refine r_aload_n X dX0_init_5 (by rfl) ?_
  refine r_aload_n X dX0_init_6 (by rfl) ?_
  refine r_putF X dX0_init_7 ffX0_7_3 rfl (pu_s) (by omega) (by exact Nat.le_of_ble_eq_true rfl) (by rfl) (by rfl) ?_
  dsimp only [List.set]
  refine r_aload_n X dX0_init_10 (by rfl) ?_
  refine r_iload_n X dX0_init_11 (by rfl) ?_
  refine r_putF X dX0_init_12 ffX0_13_3 rfl (pu_s) (by omega) (by exact Nat.le_of_ble_eq_true rfl) (by rfl) (by rfl) ?_
  dsimp only [List.set]
  refine r_aload_n X dX0_init_15 (by rfl) ?_
  refine r_iload X dX0_init_16 (by rfl) ?_
  refine r_putF X dX0_init_18 ffX0_17_3 rfl (pu_s) (by omega) (by exact Nat.le_of_ble_eq_true rfl) (by rfl) (by rfl) ?_
  dsimp only [List.set]
  exact r_vret X rfl dX0_init_21 (⟨rfl, rfl, pu_s, fun x hx => by rw [pu_n hx, pu_n hx, pu_n hx, pu_n hx]⟩) (by omega) (by omega)
set_option maxRecDepth 100000 in
set_option maxHeartbeats 4000000 in
theorem c_comOwner (g : Gx) (l : Launch) (hl : l.stackTraces = false) (ad : Nat → Nat) (F : Pic) (r : Nat) (hr : 100 ≤ r) (mo ca un : Int) (vf : Value) (h : F r = some (.inr (3, [.int (zI mo), vf, .int (zI ca), .int (zI un)]))) (q : Nat) (hq : vf = .ref q) : Ct g l yX0_owner cX0_owner 1 (some (.object "RestrictedFunds$Fund")) 1 0 0 [.ref (ad r)] ad F (fun v ad' F' => v = some (.ref q) ∧ ad = ad' ∧ F = F') := by
  refine Ct_of hl rfl [some (.ref (ad r))] (Nat.le_of_ble_eq_true rfl) (fun _ h => h) ?_
  intro M hL hN X
  subst hL
  subst hq
  refine r_aload_n X dX0_owner_0 (by rfl) ?_
  refine r_get X dX0_owner_1 fgX0_7_3 (by assumption) (by rfl) ?_
  exact r_aret X rfl (.inl ⟨_, rfl⟩) dX0_owner_4 (⟨rfl, rfl, rfl⟩) (by omega) (by omega)
set_option maxRecDepth 100000 in
set_option maxHeartbeats 4000000 in
theorem c_comExpiry (g : Gx) (l : Launch) (hl : l.stackTraces = false) (ad : Nat → Nat) (F : Pic) (r : Nat) (hr : 100 ≤ r) (mo ca un : Int) (vf : Value) (h : F r = some (.inr (3, [.int (zI mo), vf, .int (zI ca), .int (zI un)]))) : Ct g l yX0_expiry cX0_expiry 1 (some .int) 1 0 0 [.ref (ad r)] ad F (fun v ad' F' => v = some (.int (zI un)) ∧ ad = ad' ∧ F = F') := by
  refine Ct_of hl rfl [some (.ref (ad r))] (Nat.le_of_ble_eq_true rfl) (fun _ h => h) ?_
  intro M hL hN X
  subst hL
  refine r_aload_n X dX0_expiry_0 (by rfl) ?_
  refine r_get X dX0_expiry_1 fgX0_17_3 (by assumption) (by rfl) ?_
  exact r_iret X rfl (rfl) dX0_expiry_4 (⟨rfl, rfl, rfl⟩) (by omega) (by omega)
set_option maxRecDepth 100000 in
set_option maxHeartbeats 4000000 in
theorem c_comMayPay (g : Gx) (l : Launch) (hl : l.stackTraces = false) (ad : Nat → Nat) (F : Pic) (r : Nat) (hr : 100 ≤ r) (mo nu al la ce di ov : Int) (h : F r = some (.inr (5, [.int (zI mo), .int (zI nu), .int (zI al), .int (zI la), .int (zI ce), .int (zI di), .int (zI ov)]))) (rk : Nat) (kmo ca kun : Int) (hk : F rk = some (.inr (3, [.int (zI kmo), .ref (ad r), .int (zI ca), .int (zI kun)]))) (rc : Nat) (hrc : 100 ≤ rc) (cca da cun : Int) (rsh : Nat) (hc : F rc = some (.inr (4, [.int (zI cca), .int (zI da), .int (zI cun), .ref rsh]))) (ha : 0 ≤ al ∧ al < 2147483648) (hcc : 0 ≤ cca ∧ cca < 32) (hca : inR ca) (h3 : inR da) (h4 : inR la) : Ct g l yX0_mayPay cX0_mayPay 2 (some .boolean) 4 0 0 [.ref (ad rk), .ref (ad rc)] ad F (fun v ad' F' => v = some (.int (bP (cca = ca ∧ suP al la cca da))) ∧ ad = ad' ∧ F = F') := by
  refine Ct_of hl rfl [some (.ref (ad rk)), some (.ref (ad rc))] (Nat.le_of_ble_eq_true rfl) (fun _ h => h) ?_
  intro M hL hN X
  subst hL
  have no : ¬ (cca = ca ∧ suP al la cca da) → V M g ad F 0 0 26 [some (.ref (ad rk)), some (.ref (ad rc))] [] := fun h9 => by
    refine r_iconst X dX0_mayPay_26 rfl ?_
    exact r_iret X rfl (rfl) dX0_mayPay_27 (⟨by rw [bP_f h9], rfl, rfl⟩) (by omega) (by omega)
  refine r_aload_n X dX0_mayPay_0 (by rfl) ?_
  refine r_get X dX0_mayPay_1 fgX0_20_4 (by assumption) (by rfl) ?_
  refine r_aload_n X dX0_mayPay_4 (by rfl) ?_
  refine r_get X dX0_mayPay_5 fgX0_13_3 (by assumption) (by rfl) ?_
  refine r_icmp_ne X 26 dX0_mayPay_8 (by decide) (by unfold inR; omega) (hca) (fun a => ?_) (fun a => ?_)
  · exact no (fun h9 => a h9.1)
  · refine r_aload_n X dX0_mayPay_11 (by rfl) ?_
    refine r_get X dX0_mayPay_12 fgX0_7_3 (by assumption) (by rfl) ?_
    refine r_aload_n X dX0_mayPay_15 (by rfl) ?_
    refine r_callV X dX0_mayPay_16 kX0_23 (c_suits g _ hl ad F r hr mo nu al la ce di ov h rc hrc cca da cun rsh hc ha hcc h3 h4) (by assumption) (by rfl) (by rfl) (by rfl) (by rfl) (by exact Nat.le_of_ble_eq_true rfl) (by decide) (by decide) (by omega) (by omega) (fun v ad' F' hK => ?_)
    obtain ⟨rfl, rfl, rfl⟩ := hK
    refine r_if_eqb X 26 dX0_mayPay_19 (by decide) (fun b => ?_) (fun b => ?_)
    · exact no (fun h9 => b h9.2)
    · refine r_iconst X dX0_mayPay_22 rfl ?_
      refine r_goto X dX0_mayPay_23 27 (by decide) ?_
      exact r_iret X rfl (rfl) dX0_mayPay_27 (⟨by rw [bP_t (P := cca = ca ∧ suP al la cca da) ⟨by omega, b⟩], rfl, rfl⟩) (by omega) (by omega)
set_option maxRecDepth 100000 in
set_option maxHeartbeats 4000000 in
theorem c_costInit (g : Gx) (l : Launch) (hl : l.stackTraces = false) (ad : Nat → Nat) (F : Pic) (r rs : Nat) (hr : 100 ≤ r) (hrs : 100 ≤ rs) (hne : r ≠ rs) (a b c : Int) (vz : Value) (h : F r = some (.inr (4, [.int (zI a), .int (zI b), .int (zI c), vz]))) (hn : F rs = none) (c1 d1 u1 : Int) : Ct g l yX1_init cX1_init 4 none 1 1 6 [.ref (ad r), .int (zI c1), .int (zI d1), .int (zI u1)] ad F (fun v ad' F' => v = none ∧ (∀ x, x ≠ rs → ad' x = ad x) ∧ F' r = some (.inr (4, [.int (zI c1), .int (zI d1), .int (zI u1), .ref (ad' rs)])) ∧ F' rs = some (cI g 6 (fun _ => 0)) ∧ ∀ x, x ≠ r → x ≠ rs → F' x = F x) := by
  refine Ct_of hl rfl [some (.ref (ad r)), some (.int (zI c1)), some (.int (zI d1)), some (.int (zI u1))] (Nat.le_of_ble_eq_true rfl) (fun _ h => h) ?_
  intro M hL hN X
  subst hL
  refine r_aload_n X dX1_init_0 (by rfl) ?_
  refine r_objInit X dX1_init_1 w400 w28 w29 (by decide) (Nat.le_of_ble_eq_true rfl) ?_
  refine r_aload_n X dX1_init_4 (by rfl) ?_
  refine r_bipush X dX1_init_5 (by decide) ?_
  refine r_newI X rs 6 dX1_init_7 w98 (by rfl) (by decide) hrs hn (by omega) (by omega) (fun ad1 hA => ?_)
  rw [← hA r hne]
  refine r_putF X dX1_init_9 ffX1_9_4 rfl ((pu_n hne).trans h) hr (Nat.le_of_ble_eq_true rfl) rfl rfl ?_
  dsimp only [List.set]
  refine r_aload_n X dX1_init_12 (by rfl) ?_
  refine r_iload_n X dX1_init_13 (by rfl) ?_
  refine r_putF X dX1_init_14 ffX1_15_4 rfl (pu_s) (by omega) (by exact Nat.le_of_ble_eq_true rfl) (by rfl) (by rfl) ?_
  dsimp only [List.set]
  refine r_aload_n X dX1_init_17 (by rfl) ?_
  refine r_iload_n X dX1_init_18 (by rfl) ?_
  refine r_putF X dX1_init_19 ffX1_19_4 rfl (pu_s) (by omega) (by exact Nat.le_of_ble_eq_true rfl) (by rfl) (by rfl) ?_
  dsimp only [List.set]
  refine r_aload_n X dX1_init_22 (by rfl) ?_
  refine r_iload_n X dX1_init_23 (by rfl) ?_
  refine r_put X dX1_init_24 fwX1_22_4 (pu_s) (by omega) (by exact Nat.le_of_ble_eq_true rfl) (by rfl) (by rfl) ?_
  dsimp only [List.set]
  exact r_vret X rfl dX1_init_27 (⟨rfl, hA, pu_s, by rw [pu_n (Ne.symm hne), pu_n (Ne.symm hne), pu_n (Ne.symm hne), pu_n (Ne.symm hne), pu_s], fun x hx h9 => by rw [pu_n hx, pu_n hx, pu_n hx, pu_n hx, pu_n h9]⟩) (by omega) (by omega)
set_option maxRecDepth 100000 in
set_option maxHeartbeats 4000000 in
theorem c_shareOf (g : Gx) (l : Launch) (hl : l.stackTraces = false) (ad : Nat → Nat) (F : Pic) (r : Nat) (hr : 100 ≤ r) (mo nu al la ce di ov : Int) (h : F r = some (.inr (5, [.int (zI mo), .int (zI nu), .int (zI al), .int (zI la), .int (zI ce), .int (zI di), .int (zI ov)]))) (rc : Nat) (cca da cun : Int) (rs : Nat) (hc : F rc = some (.inr (4, [.int (zI cca), .int (zI da), .int (zI cun), .ref (ad rs)]))) (i : Nat) (hi : i < 6) (hnu : nu = i) (f : Nat → Int32) (p : Nat → Int) (hs : F rs = some (cI g 6 f)) (hf : ∀ j, j < 6 → f j = zI (p j)) : Ct g l yX1_shareOf cX1_shareOf 3 (some .int) 1 0 0 [.ref (ad rc), .ref (ad r)] ad F (fun v ad' F' => v = some (.int (zI (p i))) ∧ ad = ad' ∧ F = F') := by
  refine Ct_of hl rfl [some (.ref (ad rc)), some (.ref (ad r)), none] (Nat.le_of_ble_eq_true rfl) (fun _ h => h) ?_
  intro M hL hN X
  subst hL
  subst hnu
  refine r_aload_n X dX1_shareOf_0 (by rfl) ?_
  refine r_get X dX1_shareOf_1 fgX1_25_5 (by assumption) (by rfl) ?_
  refine r_istore_n X dX1_shareOf_4 (by rw [hN]; decide) (by rfl) ?_
  dsimp only [List.set]
  refine r_iload_n X dX1_shareOf_5 (by rfl) ?_
  refine r_if_lt X 24 dX1_shareOf_6 (by decide) (by unfold inR; omega) (fun a => ?_) (fun a => ?_)
  · omega
  · refine r_iload_n X dX1_shareOf_9 (by rfl) ?_
    refine r_bipush X dX1_shareOf_10 (by decide) ?_
    refine r_icmp_ge X 24 dX1_shareOf_12 (by decide) (by unfold inR; omega) (by unfold inR; omega) (fun b => ?_) (fun b => ?_)
    · omega
    · refine r_aload_n X dX1_shareOf_15 (by rfl) ?_
      refine r_get X dX1_shareOf_16 fgX1_9_4 (by assumption) (by rfl) ?_
      refine r_iload_n X dX1_shareOf_19 (by rfl) ?_
      refine r_iald X i dX1_shareOf_20 (by assumption) (by rfl) (by omega) (by first | decide | omega) ?_
      refine r_goto X dX1_shareOf_21 25 (by decide) ?_
      exact r_iret X rfl (rfl) dX1_shareOf_25 (⟨by rw [hf i hi], rfl, rfl⟩) (by omega) (by omega)
set_option maxRecDepth 100000 in
set_option maxHeartbeats 4000000 in
theorem c_costPay (g : Gx) (l : Launch) (hl : l.stackTraces = false) (ad : Nat → Nat) (F : Pic) (r : Nat) (hr : 100 ≤ r) (mo nu al la ce di ov : Int) (h : F r = some (.inr (5, [.int (zI mo), .int (zI nu), .int (zI al), .int (zI la), .int (zI ce), .int (zI di), .int (zI ov)]))) (rc : Nat) (hrc : 100 ≤ rc) (cca da cun : Int) (rs : Nat) (hrs : 100 ≤ rs) (hne : rc ≠ rs) (hc : F rc = some (.inr (4, [.int (zI cca), .int (zI da), .int (zI cun), .ref (ad rs)]))) (i : Nat) (hi : i < 6) (hnu : nu = i) (f : Nat → Int32) (p : Nat → Int) (hs : F rs = some (cI g 6 f)) (hf : ∀ j, j < 6 → f j = zI (p j)) (m : Int) : Ct g l yX1_pay cX1_pay 4 none 1 0 0 [.ref (ad rc), .ref (ad r), .int (zI m)] ad F (fun v ad' F' => v = none ∧ ad = ad' ∧ F' rc = some (.inr (4, [.int (zI cca), .int (zI da), .int (zI (cun - m)), .ref (ad rs)])) ∧ F' rs = some (cI g 6 (upd f i (zI (p i + m)))) ∧ ∀ x, x ≠ rc → x ≠ rs → F' x = F x) := by
  refine Ct_of hl rfl [some (.ref (ad rc)), some (.ref (ad r)), some (.int (zI m)), none] (Nat.le_of_ble_eq_true rfl) (fun _ h => h) ?_
  intro M hL hN X
  subst hL
  subst hnu
  refine r_aload_n X dX1_pay_0 (by rfl) ?_
  refine r_get X dX1_pay_1 fgX1_25_5 (by assumption) (by rfl) ?_
  refine r_istore_n X dX1_pay_4 (by rw [hN]; decide) (by rfl) ?_
  dsimp only [List.set]
  refine r_iload_n X dX1_pay_5 (by rfl) ?_
  refine r_if_lt X 35 dX1_pay_6 (by decide) (by unfold inR; omega) (fun a => ?_) (fun a => ?_)
  · omega
  · refine r_iload_n X dX1_pay_9 (by rfl) ?_
    refine r_bipush X dX1_pay_10 (by decide) ?_
    refine r_icmp_ge X 35 dX1_pay_12 (by decide) (by unfold inR; omega) (by unfold inR; omega) (fun b => ?_) (fun b => ?_)
    · omega
    · refine r_aload_n X dX1_pay_15 (by rfl) ?_
      refine r_get X dX1_pay_16 fgX1_9_4 (by assumption) (by rfl) ?_
      refine r_iload_n X dX1_pay_19 (by rfl) ?_
      refine r_dup2 X dX1_pay_20 (by rfl) (by rfl) ?_
      refine r_iald X i dX1_pay_21 (by assumption) (by rfl) (by omega) (by first | decide | omega) ?_
      rw [hf i hi]
      refine r_iload_n X dX1_pay_22 (by rfl) ?_
      refine r_iadd X dX1_pay_23 ?_
      refine r_ist X i dX1_pay_24 (by assumption) (by omega) (by rfl) (by omega) (by first | decide | omega) ?_
      refine r_aload_n X dX1_pay_25 (by rfl) ?_
      refine r_dup X dX1_pay_26 (by rfl) ?_
      refine r_get X dX1_pay_27 fgX1_22_4 ((pu_n hne).trans hc) (by rfl) ?_
      refine r_iload_n X dX1_pay_30 (by rfl) ?_
      refine r_isub X dX1_pay_31 ?_
      refine r_put X dX1_pay_32 fwX1_22_4 ((pu_n hne).trans hc) (by omega) (by exact Nat.le_of_ble_eq_true rfl) (by rfl) (by rfl) ?_
      dsimp only [List.set]
      exact r_vret X rfl dX1_pay_35 (⟨rfl, rfl, pu_s, (pu_n (Ne.symm hne)).trans pu_s, fun x hx h9 => by rw [pu_n hx, pu_n h9]⟩) (by omega) (by omega)
