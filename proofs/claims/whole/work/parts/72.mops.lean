/-! ===== the model: its steps ===== -/
set_option maxRecDepth 100000 in
set_option maxHeartbeats 4000000 in
theorem c_mSuits (g : Gx) (l : Launch) (hl : l.stackTraces = false) (ad : Nat → Nat) (F : Pic) (td : Int) (nf nk nc np : Nat) (th : Int) (B : Nat → Nat → Int) (hB : MB g ad F td nf nk nc np th B) (i j : Nat) (hi : i < 6) (hj : j < 16) (ha : 0 ≤ B 3 i ∧ B 3 i ≤ 255) (hc : 0 ≤ B 14 j ∧ B 14 j ≤ 7) (hd : inR (B 15 j)) (hla : inR (B 4 i)) : Ct g l yX6_suits cX6_suits 3 (some .boolean) 2 0 0 [.ref (ad 50000), .int (zI (i : Int)), .int (zI (j : Int))] ad F (fun v ad' F' => v = some (.int (bP (suP (B 3 i) (B 4 i) (B 14 j) (B 15 j)))) ∧ ad = ad' ∧ F = F') := by
  refine Ct_of hl rfl [some (.ref (ad 50000)), some (.int (zI (i : Int))), some (.int (zI (j : Int)))] (Nat.le_of_ble_eq_true rfl) (fun _ h => h) ?_
  intro M hL hN X
  subst hL
  have hO : F 50000 = some (.inr (8, [.int (zI td), .int (zI nf), .ref (ad 50002), .ref (ad 50003), .ref (ad 50004), .ref (ad 50005), .ref (ad 50006), .ref (ad 50007), .int (zI nk), .ref (ad 50009), .ref (ad 50010), .ref (ad 50011), .ref (ad 50012), .int (zI nc), .ref (ad 50014), .ref (ad 50015), .ref (ad 50016), .ref (ad 50017), .int (zI np), .ref (ad 50019), .ref (ad 50020), .ref (ad 50021), .ref (ad 50022), .ref (ad 50023), .ref (ad 50024), .ref (ad 50025), .ref (ad 50026), .ref (ad 50027), .ref (ad 50028), .int (zI th)])) := hB.1
  have h14 : F 50014 = some (cI g 16 (fun j => zI (B 14 j))) := hB.2 14 rfl
  have h15 : F 50015 = some (cI g 16 (fun j => zI (B 15 j))) := hB.2 15 rfl
  have h4 : F 50004 = some (cI g 6 (fun j => zI (B 4 j))) := hB.2 4 rfl
  have no : ¬ suP (B 3 i) (B 4 i) (B 14 j) (B 15 j) → V M g ad F 0 0 33 [some (.ref (ad 50000)), some (.int (zI (i : Int))), some (.int (zI (j : Int)))] [] := fun h => by
    refine r_iconst X dX6_suits_33 rfl ?_
    exact r_iret X rfl (rfl) dX6_suits_34 (⟨by rw [bP_f h], rfl, rfl⟩) (by omega) (by omega)
  refine r_aload_n X dX6_suits_0 (by rfl) ?_
  refine r_iload_n X dX6_suits_1 (by rfl) ?_
  refine r_aload_n X dX6_suits_2 (by rfl) ?_
  refine r_get X dX6_suits_3 fgX6_40_8 (by assumption) (by rfl) ?_
  refine r_iload_n X dX6_suits_6 (by rfl) ?_
  refine r_iald X j dX6_suits_7 (by assumption) (by rfl) (by omega) (by first | decide | omega) ?_
  refine r_callV X dX6_suits_8 kX6_99 (c_mAllows g _ hl ad F _ _ _ _ _ _ _ hB i hi (B 14 j) ha hc) (by assumption) (by rfl) (by rfl) (by rfl) (by rfl) (by exact Nat.le_of_ble_eq_true rfl) (by decide) (by decide) (by omega) (by omega) (fun v ad' F' hK => ?_)
  obtain ⟨rfl, rfl, rfl⟩ := hK
  refine r_if_eqb X 33 dX6_suits_11 (by decide) (fun a => ?_) (fun a => ?_)
  · exact no (fun z => a z.1)
  · refine r_aload_n X dX6_suits_14 (by rfl) ?_
    refine r_get X dX6_suits_15 fgX6_43_8 (by assumption) (by rfl) ?_
    refine r_iload_n X dX6_suits_18 (by rfl) ?_
    refine r_iald X j dX6_suits_19 (by assumption) (by rfl) (by omega) (by first | decide | omega) ?_
    refine r_aload_n X dX6_suits_20 (by rfl) ?_
    refine r_get X dX6_suits_21 fgX6_16_8 (by assumption) (by rfl) ?_
    refine r_iload_n X dX6_suits_24 (by rfl) ?_
    refine r_iald X i dX6_suits_25 (by assumption) (by rfl) (by omega) (by first | decide | omega) ?_
    refine r_icmp_gt X 33 dX6_suits_26 (by decide) (hd) (hla) (fun b => ?_) (fun b => ?_)
    · exact no (fun z => by have := z.2; omega)
    · refine r_iconst X dX6_suits_29 rfl ?_
      refine r_goto X dX6_suits_30 34 (by decide) ?_
      exact r_iret X rfl (rfl) dX6_suits_34 (⟨by rw [bP_t (P := suP (B 3 i) (B 4 i) (B 14 j) (B 15 j)) ⟨a, by omega⟩], rfl, rfl⟩) (by omega) (by omega)
