/-! ===== pots: their code numbers, calls on them ===== -/
def prl (ser : Nat → Nat) (c : Nat) : Nat := if c < 6 then 10000 + ser c else 300 + (c - 6)
def exc (A : Nat → Nat → Int) (c : Nat) : Int := if c < 6 then A 9 c else A 2 (c - 6)
def moA (A : Nat → Nat → Int) (c : Nat) : Int := if c < 6 then A 8 c else A 0 (c - 6)
def ow (kf : Nat → Nat) (c : Nat) : Nat := if c < 6 then kf c else c - 6
def mpP (A : Nat → Nat → Int) (kf : Nat → Nat) (c d : Nat) : Prop := (c < 6 → A 10 d = A 7 c) ∧ suP (A 1 (ow kf c)) (A 2 (ow kf c)) (A 10 d) (A 11 d)
/-- a code of a pot that is there -/
def VC (nf nk c : Nat) : Prop := (c < 6 ∧ c < nk) ∨ (6 ≤ c ∧ c - 6 < nf)
/-- the cell of a pot, and its fund's -/
def PotC (ad : Nat → Nat) (F : Pic) (A : Nat → Nat → Int) (kf ser : Nat → Nat) (c : Nat) : Prop := (if c < 6 then F (10000 + ser c) = some (kmC ad A kf c) else True) ∧ F (300 + ow kf c) = some (fuC A (ow kf c))
theorem RX.pot {g : Gx} {ad : Nat → Nat} {F : Pic} {td : Int} {nf nk nc : Nat} {A P : Nat → Nat → Int} {kf ser : Nat → Nat} {sn c : Nat} (hX : RX g ad F td nf nk nc A P kf ser sn) (hk : ∀ i, i < nk → kf i < nf) (hc : VC nf nk c) : PotC ad F A kf ser c := by
  obtain ⟨hO, ⟨⟨cap1, hR1, hLF1⟩, ⟨cap2, hR2, hLF2⟩, ⟨cap3, hR3, hLF3⟩, kp, ep, cap4, hR4, hLF4⟩, hP, ⟨hnf, hFu, hFuN⟩, ⟨hnc, hCo, hCoN⟩, ⟨⟨hnk, hsn⟩, hKm, hKi, hKN⟩⟩ := id hX; obtain ⟨hO, h9, a99⟩ := hO
  rcases hc with ⟨h1, h2⟩ | ⟨h1, h2⟩
  · exact ⟨by rw [if_pos h1]; exact (hKm c h2).1, by unfold ow; rw [if_pos h1]; exact hFu _ (hk c h2)⟩
  · exact ⟨by rw [if_neg (by omega)]; trivial, by unfold ow; rw [if_neg (by omega)]; exact hFu _ h2⟩
section
variable {M : Mx} {g : Gx} {y : MethodName} {cc : ByteArray} {ret : Option FieldType} {n mc ms : Nat} {tb : List ExceptionTableEntry} {K : Option Value → (Nat → Nat) → Pic → Prop} {KX : String → (Nat → Nat) → Pic → Prop} {ad : Nat → Nat} {F : Pic} {kc ks pc idx : Nat} {LS : List (Option Value)} {ST : List Value} {A : Nat → Nat → Int} {kf ser : Nat → Nat}
theorem q_cast (X : Cx M g y cc ret n mc ms tb K KX) {c : Nat} (hy : y.cls = RX5) (hC : PotC ad F A kf ser c) (d : decode cc pc = .ok (.checkcast 155, 3)) (k : V M g ad F kc ks (pc + 3) LS (.ref (ad (prl ser c)) :: ST)) : V M g ad F kc ks pc LS (.ref (ad (prl ser c)) :: ST) := by
  have w : Cond.classLink y.cls 155 "RestrictedFunds$Pot" ∈ WS := by rw [hy]; exact w435
  by_cases h : c < 6
  · have e : prl ser c = 10000 + ser c := if_pos h
    have hF := hC.1
    rw [if_pos h] at hF
    rw [e] at k ⊢
    exact r_castP3 X d w hF k
  · have e : prl ser c = 300 + (c - 6) := if_neg h
    have hF := hC.2
    rw [show ow kf c = c - 6 from if_neg h] at hF
    rw [e] at k ⊢
    exact r_castP5 X d w hF k
theorem q_exp (X : Cx M g y cc ret n mc ms tb K KX) {c : Nat} (hy : y.cls = RX5) (hC : PotC ad F A kf ser c) (d : decode cc pc = .ok (.invokevirtual 223, 3)) (hcat : (ST.map fun v => v.category).sum ≤ 8) (hlv : 1 < n) (h1 : kc ≤ mc) (h2 : ks ≤ ms) (k : V M g ad F kc ks (pc + 3) LS (.int (zI (exc A c)) :: ST)) : V M g ad F kc ks pc LS (.ref (ad (prl ser c)) :: ST) := by
  have w5 : Cond.methodLink y.cls 223 yX4_expiry ∈ WS := by rw [hy]; exact w440
  have w7 := X.2.1.2.2.2.2.2.1.2.1
  by_cases h : c < 6
  · have e : prl ser c = 10000 + ser c := if_pos h
    have hF := hC.1
    rw [if_pos h] at hF
    rw [show exc A c = A 9 c from if_pos h] at k
    rw [e]
    refine r_callU (q := vwCl.get ⟨3, by decide⟩) (np := 0) (As := []) (rest := ST) X d w390 w20 ⟨by decide, by decide⟩ (by decide +kernel) w5 w442 w7 w443 w388 (c_comExpiry g _ X.2.2.2.2.2.2 ad F (10000 + ser c) (by omega) _ _ _ _ hF) hF rfl rfl rfl hcat hlv (by omega) h1 h2 (fun v ad' F' hK => ?_)
    obtain ⟨rfl, rfl, rfl⟩ := hK
    exact k
  · have e : prl ser c = 300 + (c - 6) := if_neg h
    have hF := hC.2
    rw [show ow kf c = c - 6 from if_neg h] at hF
    rw [show exc A c = A 2 (c - 6) from if_neg h] at k
    rw [e]
    refine r_callU (q := vwCl.get ⟨5, by decide⟩) (np := 0) (As := []) (rest := ST) X d w446 w19 ⟨by decide, by decide⟩ (by decide +kernel) w5 w442 w7 w444 w445 (c_fundExpiry g _ X.2.2.2.2.2.2 ad F (300 + (c - 6)) (by omega) _ _ _ _ _ _ _ hF) hF rfl rfl rfl hcat hlv (by omega) h1 h2 (fun v ad' F' hK => ?_)
    obtain ⟨rfl, rfl, rfl⟩ := hK
    exact k
theorem q_own (X : Cx M g y cc ret n mc ms tb K KX) {c : Nat} (hy : y.cls = RX5) (hC : PotC ad F A kf ser c) (d : decode cc pc = .ok (.invokevirtual 157, 3)) (hcat : (ST.map fun v => v.category).sum ≤ 8) (hlv : 1 < n) (h1 : kc ≤ mc) (h2 : ks ≤ ms) (k : V M g ad F kc ks (pc + 3) LS (.ref (ad (300 + ow kf c)) :: ST)) : V M g ad F kc ks pc LS (.ref (ad (prl ser c)) :: ST) := by
  have w5 : Cond.methodLink y.cls 157 yX4_owner ∈ WS := by rw [hy]; exact w600
  have w7 := X.2.1.2.2.2.2.2.1.1
  by_cases h : c < 6
  · have e : prl ser c = 10000 + ser c := if_pos h
    have hF := hC.1
    rw [if_pos h] at hF
    rw [show ow kf c = kf c from if_pos h] at k
    rw [e]
    refine r_callU (q := vwCl.get ⟨3, by decide⟩) (np := 0) (As := []) (rest := ST) X d w369 w20 ⟨by decide, by decide⟩ (by decide +kernel) w5 w602 w7 w603 w367 (c_comOwner g _ X.2.2.2.2.2.2 ad F (10000 + ser c) (by omega) _ _ _ _ hF _ rfl) hF rfl rfl rfl hcat hlv (by omega) h1 h2 (fun v ad' F' hK => ?_)
    obtain ⟨rfl, rfl, rfl⟩ := hK
    exact k
  · have e : prl ser c = 300 + (c - 6) := if_neg h
    have hF := hC.2
    rw [show ow kf c = c - 6 from if_neg h] at hF k
    rw [e]
    refine r_callU (q := vwCl.get ⟨5, by decide⟩) (np := 0) (As := []) (rest := ST) X d w606 w19 ⟨by decide, by decide⟩ (by decide +kernel) w5 w602 w7 w604 w605 (c_fundOwner g _ X.2.2.2.2.2.2 ad F (300 + (c - 6)) (by omega) _ _ _ _ _ _ _ hF) hF rfl rfl rfl hcat hlv (by omega) h1 h2 (fun v ad' F' hK => ?_)
    obtain ⟨rfl, rfl, rfl⟩ := hK
    exact k
theorem q_pay (X : Cx M g y cc ret n mc ms tb K KX) {c j : Nat} (hy : y.cls = RX5) (hC : PotC ad F A kf ser c) (hc : F (400 + j) = some (coC ad A j)) (ha : 0 ≤ A 1 (ow kf c) ∧ A 1 (ow kf c) ≤ 255) (hl : 0 ≤ A 2 (ow kf c) ∧ A 2 (ow kf c) ≤ 999) (hcc : 0 ≤ A 10 j ∧ A 10 j ≤ 7) (hk7 : c < 6 → 0 ≤ A 7 c ∧ A 7 c ≤ 7) (hd : 0 ≤ A 11 j ∧ A 11 j ≤ 999)
    (d : decode cc pc = .ok (.invokevirtual 227, 3)) (hcat : (ST.map fun v => v.category).sum ≤ 8) (hlv : 4 < n) (h1 : kc ≤ mc) (h2 : ks ≤ ms) (k : V M g ad F kc ks (pc + 3) LS (.int (bP (mpP A kf c j)) :: ST)) : V M g ad F kc ks pc LS (.ref (ad (400 + j)) :: .ref (ad (prl ser c)) :: ST) := by
  have w5 : Cond.methodLink y.cls 227 yX4_mayPay ∈ WS := by rw [hy]; exact w473
  have w7 := X.2.1.2.2.2.2.2.1.2.2
  by_cases h : c < 6
  · have e : prl ser c = 10000 + ser c := if_pos h
    have hF := hC.1
    have hF2 := hC.2
    rw [if_pos h] at hF
    have eo : ow kf c = kf c := if_pos h
    rw [eo] at hF2 ha hl
    have h7 := hk7 h
    have em : mpP A kf c j = (A 10 j = A 7 c ∧ suP (A 1 (kf c)) (A 2 (kf c)) (A 10 j) (A 11 j)) := by
      unfold mpP; rw [eo]; exact propext ⟨fun q => ⟨q.1 h, q.2⟩, fun q => ⟨fun _ => q.1, q.2⟩⟩
    rw [em] at k
    rw [e]
    refine r_callU (q := vwCl.get ⟨3, by decide⟩) (np := 1) (As := [.ref (ad (400 + j))]) (rest := ST) X d w478 w20 ⟨by decide, by decide⟩ (by decide +kernel) w5 w475 w7 w476 w477 (c_comMayPay g _ X.2.2.2.2.2.2 ad F (300 + kf c) (by omega) _ _ _ _ _ _ _ hF2 (10000 + ser c) _ _ _ hF (400 + j) (by omega) _ _ _ _ hc (by omega) (by omega) ⟨by omega, by omega⟩ ⟨by omega, by omega⟩ ⟨by omega, by omega⟩) hF rfl rfl rfl hcat hlv (by omega) h1 h2 (fun v ad' F' hK => ?_)
    obtain ⟨rfl, rfl, rfl⟩ := hK
    exact k
  · have e : prl ser c = 300 + (c - 6) := if_neg h
    have hF := hC.2
    have eo : ow kf c = c - 6 := if_neg h
    rw [eo] at hF ha hl
    have em : mpP A kf c j = suP (A 1 (c - 6)) (A 2 (c - 6)) (A 10 j) (A 11 j) := by
      unfold mpP; rw [eo]; exact propext ⟨fun q => q.2, fun q => ⟨fun z => absurd z h, q⟩⟩
    rw [em] at k
    rw [e]
    refine r_callU (q := vwCl.get ⟨5, by decide⟩) (np := 1) (As := [.ref (ad (400 + j))]) (rest := ST) X d w492 w19 ⟨by decide, by decide⟩ (by decide +kernel) w5 w475 w7 w490 w491 (c_fundMayPay g _ X.2.2.2.2.2.2 ad F (300 + (c - 6)) (by omega) _ _ _ _ _ _ _ hF (400 + j) (by omega) _ _ _ _ hc (by omega) (by omega) ⟨by omega, by omega⟩ ⟨by omega, by omega⟩) hF rfl rfl rfl hcat hlv (by omega) h1 h2 (fun v ad' F' hK => ?_)
    obtain ⟨rfl, rfl, rfl⟩ := hK
    exact k
theorem q_mon (X : Cx M g y cc ret n mc ms tb K KX) {c : Nat} (hy : y.cls = RX5) (hC : PotC ad F A kf ser c) (d : decode cc pc = .ok (.getfield 158, 3)) (k : V M g ad F kc ks (pc + 3) LS (.int (zI (moA A c)) :: ST)) : V M g ad F kc ks pc LS (.ref (ad (prl ser c)) :: ST) := by
  by_cases h : c < 6
  · have e : prl ser c = 10000 + ser c := if_pos h
    have hF := hC.1
    rw [if_pos h] at hF
    rw [show moA A c = A 8 c from if_pos h] at k
    rw [e]
    exact r_get X d (by rw [hy]; exact fgX5_158_3) hF rfl k
  · have e : prl ser c = 300 + (c - 6) := if_neg h
    have hF := hC.2
    rw [show ow kf c = c - 6 from if_neg h] at hF
    rw [show moA A c = A 0 (c - 6) from if_neg h] at k
    rw [e]
    exact r_get X d (by rw [hy]; exact fgX5_158_5) hF rfl k
end
