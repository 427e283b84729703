/-! ===== the law: rows, frames ===== -/
section Rows
variable {M : Mx} {g : Gx} {y : MethodName} {cc : ByteArray} {ret : Option FieldType} {n mc ms : Nat} {tb : List ExceptionTableEntry} {K : Option Value → (Nat → Nat) → Pic → Prop} {KX : String → (Nat → Nat) → Pic → Prop} {ad : Nat → Nat} {F : Pic} {kc ks pc : Nat} {LS : List (Option Value)} {ST rest : List Value}
theorem r_sld (X : Cx M g y cc ret n mc ms tb K KX) {b L : Nat} {xs : Nat → Int32} (hX : va_X b L xs (mS M) (mS M).heap) (hbl : b < (mS M).heap.size) (hbA : ¬ gA g b) (hL : L ≤ 2560) {z : Int} (i : Nat) (d : decode cc pc = .ok (.iaload, 1)) (hz : z = (i : Int)) (hi : i < L) (k : V M g ad F kc ks (pc + 1) LS (.int (xs i) :: ST)) : V M g ad F kc ks pc LS (.int (zI z) :: .ref b :: ST) := fun H locs ls a h c => by
  subst hz
  refine va_sld X.1.1 X.1.2.1 hX hbl hbA h (zI_in hi (by omega)) d ?_
  rw [zI_cl (by omega)]
  exact k H locs ls a h c
theorem r_slen (X : Cx M g y cc ret n mc ms tb K KX) {b L : Nat} {xs : Nat → Int32} (hX : va_X b L xs (mS M) (mS M).heap) (hbl : b < (mS M).heap.size) (hbA : ¬ gA g b) (d : decode cc pc = .ok (.arraylength, 1)) (k : V M g ad F kc ks (pc + 1) LS (.int (zI (L : Int)) :: ST)) : V M g ad F kc ks pc LS (.ref b :: ST) := fun H locs ls a h c =>
  va_slen X.1.1 X.1.2.1 hX hbl hbA h d (by have e : Int32.ofNat L = zI (L : Int) := (zI_nI L).symm; rw [e]; exact k H locs ls a h c)
theorem r_same (X : Cx M g y cc ret n mc ms tb K KX) {x : Int32} {off : Int} (tgt : Nat) (d : decode cc pc = .ok (.if_icmp .eq off, 3)) (ht : (pc : Int) + off = (tgt : Int)) (kt : V M g ad F kc ks tgt LS ST) : V M g ad F kc ks pc LS (.int x :: .int x :: ST) := fun H locs ls a b c => lv_icmp_eq X.1.1 X.1.2.1 d ht (fun _ => kt H locs ls a b c) (fun h => absurd rfl h)
theorem r_lcmpE (X : Cx M g y cc ret n mc ms tb K KX) {x : Int64} (d : decode cc pc = .ok (.lcmp, 1)) (k : V M g ad F kc ks (pc + 1) LS (.int (zI 0) :: ST)) : V M g ad F kc ks pc LS (.long x :: .long x :: ST) := fun H locs ls a b c => by
  refine W.lcmp X.1.1 X.1.2.1 d ?_
  have e : lg_cmp x x = zI 0 := by
    unfold lg_cmp
    rw [if_neg (by rw [gt_iff_lt, Int64.lt_iff_toInt_lt]; omega), if_pos rfl]; rfl
  rw [e]
  exact k H locs ls a b c
theorem r_tsw (X : Cx M g y cc ret n mc ms tb K KX) {dflt lo hi : Int} {offs : Array Int} {len : Nat} {v off : Int} (tgt : Nat) (d : decode cc pc = .ok (.tableswitch dflt lo hi offs, len)) (hv : inR v) (h1 : lo ≤ v) (h2 : v ≤ hi) (ho : offs[(v - lo).toNat]? = some off) (ht : (pc : Int) + off = (tgt : Int)) (k : V M g ad F kc ks tgt LS ST) : V M g ad F kc ks pc LS (.int (zI v) :: ST) := fun H locs ls a b c =>
  lv_tableIn X.1.1 X.1.2.1 d (by rw [zI_to hv]; omega) (by rw [zI_to hv]; omega) (by rw [zI_to hv]; exact ho) ht (k H locs ls a b c)
theorem r_tswO (X : Cx M g y cc ret n mc ms tb K KX) {dflt lo hi : Int} {offs : Array Int} {len : Nat} {v : Int} (tgt : Nat) (d : decode cc pc = .ok (.tableswitch dflt lo hi offs, len)) (hv : inR v) (h : hi < v) (ht : (pc : Int) + dflt = (tgt : Int)) (k : V M g ad F kc ks tgt LS ST) : V M g ad F kc ks pc LS (.int (zI v) :: ST) := fun H locs ls a b c =>
  lv_tableOut X.1.1 X.1.2.1 d (.inr (by rw [zI_to hv]; exact h)) ht (k H locs ls a b c)
theorem i32_nat (x : Int32) : ∃ a : Nat, x = nI a := ⟨x.toBitVec.toNat, by
  apply Int32.toBitVec_inj.1
  show x.toBitVec = BitVec.ofNat 32 x.toBitVec.toNat
  simp⟩
theorem and31 (x : Int32) : ∃ v : Int, (0 ≤ v ∧ v ≤ 31) ∧ x &&& zI 31 = zI v := by
  obtain ⟨a, rfl⟩ := i32_nat x
  have h := Nat.and_le_right (n := a) (m := 31)
  refine ⟨((a &&& 31 : Nat) : Int), ⟨by omega, by omega⟩, ?_⟩
  rw [show zI 31 = nI 31 from zI_nI 31, zI_nI, fa_and]
end Rows
theorem Ct.mono {g : Gx} {l : Launch} {y : MethodName} {cy : ByteArray} {nL : Nat} {ret : Option FieldType} {n mc ms : Nat} {as : List Value} {ad : Nat → Nat} {F : Pic} {K K2 : Option Value → (Nat → Nat) → Pic → Prop}
    (h : Ct g l y cy nL ret n mc ms as ad F K) (hk : ∀ v ad' F', K v ad' F' → K2 v ad' F') : Ct g l y cy nL ret n mc ms as ad F K2 := by
  unfold Ct Met at h ⊢
  exact MetFree.mono h (fun _ _ q => q) (fun _ _ _ _ _ q => q) (fun a st o t _ q => ⟨⟨q.1.1.elim fun v w => w.elim fun ad' w => w.elim fun F' w => ⟨v, ad', F', w.1, hk _ _ _ w.2.1, w.2.2⟩, q.1.2⟩, q.2⟩)
theorem MB.fr {g : Gx} {ad ad' : Nat → Nat} {F F' : Pic} {td : Int} {nf nk nc np : Nat} {th : Int} {B : Nat → Nat → Int} (h : MB g ad F td nf nk nc np th B) (hF : ∀ x, 50000 ≤ x → x < 50100 → F' x = F x) (hA : ∀ x, 50000 ≤ x → x < 50100 → ad' x = ad x) : MB g ad' F' td nf nk nc np th B := by
  refine ⟨?_, fun k hk => by have := isA_b hk; rw [hF _ (by omega) (by omega)]; exact h.2 k hk⟩
  rw [hF 50000 (by omega) (by omega), h.1]
  unfold MOL
  rw [hA 50002 (by omega) (by omega), hA 50003 (by omega) (by omega), hA 50004 (by omega) (by omega), hA 50005 (by omega) (by omega), hA 50006 (by omega) (by omega), hA 50007 (by omega) (by omega), hA 50009 (by omega) (by omega), hA 50010 (by omega) (by omega), hA 50011 (by omega) (by omega), hA 50012 (by omega) (by omega), hA 50014 (by omega) (by omega), hA 50015 (by omega) (by omega), hA 50016 (by omega) (by omega), hA 50017 (by omega) (by omega), hA 50019 (by omega) (by omega), hA 50020 (by omega) (by omega), hA 50021 (by omega) (by omega), hA 50022 (by omega) (by omega), hA 50023 (by omega) (by omega), hA 50024 (by omega) (by omega), hA 50025 (by omega) (by omega), hA 50026 (by omega) (by omega), hA 50027 (by omega) (by omega), hA 50028 (by omega) (by omega)]
theorem RX.frM {g : Gx} {ad : Nat → Nat} {F F' : Pic} {td : Int} {nf nk nc : Nat} {A P : Nat → Nat → Int} {kf ser : Nat → Nat} {sn : Nat} (hX : RX g ad F td nf nk nc A P kf ser sn) (hF : ∀ x, x < 40000 → F' x = F x) : RX g ad F' td nf nk nc A P kf ser sn := by
  obtain ⟨h1, ⟨h2, h3, h4, kp, ep, h5⟩, h6, h7, h8, h9⟩ := hX
  refine ⟨h1.fr (hF _ (by omega)) (hF _ (by omega)) (fun _ _ => rfl), ⟨h2.fr (by omega) (fun x hx => hF x ?_) (fun _ _ => rfl) (fun _ _ => rfl), h3.fr (by omega) (fun x hx => hF x ?_) (fun _ _ => rfl) (fun _ _ => rfl), h4.fr (by omega) (fun x hx => hF x ?_) (fun _ _ => rfl) (fun _ _ => rfl), kp, ep, h5.fr (by omega) (fun x hx => hF x ?_) (fun _ _ => rfl) (fun _ _ => rfl)⟩, h6.fr (fun x a b => hF x (by omega)) (fun _ _ _ => rfl), h7.fr (fun x a b => hF x (by omega)), h8.fr (fun x a b => hF x (by omega)) (fun _ _ => rfl), h9.fr (fun x a b => hF x (by omega)) (fun _ _ => rfl)⟩
  all_goals (unfold inA at hx; omega)
/-- what holds between two calls, behind t of them -/
def INV (g : Gx) (a1 a5 a6 : Nat) (ad : Nat → Nat) (F : Pic) (t : Nat) : Prop := (ad 100 = a1 ∧ ad 50000 = a5 ∧ ad 60000 = a6) ∧ (∃ f, F 60000 = some (cJ g 1 f)) ∧ ∃ td nf nk nc A P kf sn, (∃ ser, RX g ad F td nf nk nc A P kf ser sn) ∧ (∃ th, MG g ad F td nf nk nc A P kf th) ∧ IV td nf nk nc A kf t ∧ sn ≤ t
/-! ===== the model's first contracts, in the ledger's numbers ===== -/
theorem c_gFreeOf (g : Gx) (l : Launch) (hl : l.stackTraces = false) (ad : Nat → Nat) (F : Pic) (td : Int) (nf nk nc np : Nat) (th : Int) (B A P : Nat → Nat → Int) (kf : Nat → Nat) (hB : MB g ad F td nf nk nc np th B) (hG : AG nf nk nc A P kf B) (i : Int) (hi : inR i) (hn : nf ≤ 6 ∧ nk ≤ 6 ∧ nc ≤ 16) : Ct g l yX6_freeOf cX6_freeOf 2 (some .int) 3 0 0 [.ref (ad 50000), .int (zI i)] ad F (fun v ad' F' => ad = ad' ∧ FrM F F' ∧ (((0 ≤ i ∧ i < nf) ∧ v = some (.int (zI (A 0 i.toNat))) ∧ MG g ad F' td nf nk nc A P kf 0) ∨ (¬ (0 ≤ i ∧ i < nf) ∧ v = some (.int (zI 0)) ∧ MG g ad F' td nf nk nc A P kf 1))) :=
  (c_mFreeOf g l hl ad F _ _ _ _ _ _ _ hB i hi hn).mono (fun v ad' F' h => ⟨h.1, h.2.1, by
    rcases h.2.2 with q | q
    · have hj : i.toNat < nf := by omega
      exact .inl ⟨q.1, by rw [q.2.1, (hG.1 _ hj).1], _, _, q.2.2, hG⟩
    · exact .inr ⟨q.1, q.2.1, _, _, q.2.2, hG⟩⟩)
theorem c_gDirectOf (g : Gx) (l : Launch) (hl : l.stackTraces = false) (ad : Nat → Nat) (F : Pic) (td : Int) (nf nk nc np : Nat) (th : Int) (B A P : Nat → Nat → Int) (kf : Nat → Nat) (hB : MB g ad F td nf nk nc np th B) (hG : AG nf nk nc A P kf B) (i : Int) (hi : inR i) (hn : nf ≤ 6 ∧ nk ≤ 6 ∧ nc ≤ 16) : Ct g l yX6_directOf cX6_directOf 2 (some .int) 3 0 0 [.ref (ad 50000), .int (zI i)] ad F (fun v ad' F' => ad = ad' ∧ FrM F F' ∧ (((0 ≤ i ∧ i < nf) ∧ v = some (.int (zI (A 4 i.toNat))) ∧ MG g ad F' td nf nk nc A P kf 0) ∨ (¬ (0 ≤ i ∧ i < nf) ∧ v = some (.int (zI 0)) ∧ MG g ad F' td nf nk nc A P kf 1))) :=
  (c_mDirectOf g l hl ad F _ _ _ _ _ _ _ hB i hi hn).mono (fun v ad' F' h => ⟨h.1, h.2.1, by
    rcases h.2.2 with q | q
    · have hj : i.toNat < nf := by omega
      exact .inl ⟨q.1, by rw [q.2.1, (hG.1 _ hj).2.2.2.2.1], _, _, q.2.2, hG⟩
    · exact .inr ⟨q.1, q.2.1, _, _, q.2.2, hG⟩⟩)
theorem c_gOverheadOf (g : Gx) (l : Launch) (hl : l.stackTraces = false) (ad : Nat → Nat) (F : Pic) (td : Int) (nf nk nc np : Nat) (th : Int) (B A P : Nat → Nat → Int) (kf : Nat → Nat) (hB : MB g ad F td nf nk nc np th B) (hG : AG nf nk nc A P kf B) (i : Int) (hi : inR i) (hn : nf ≤ 6 ∧ nk ≤ 6 ∧ nc ≤ 16) : Ct g l yX6_overheadOf cX6_overheadOf 2 (some .int) 3 0 0 [.ref (ad 50000), .int (zI i)] ad F (fun v ad' F' => ad = ad' ∧ FrM F F' ∧ (((0 ≤ i ∧ i < nf) ∧ v = some (.int (zI (A 5 i.toNat))) ∧ MG g ad F' td nf nk nc A P kf 0) ∨ (¬ (0 ≤ i ∧ i < nf) ∧ v = some (.int (zI 0)) ∧ MG g ad F' td nf nk nc A P kf 1))) :=
  (c_mOverheadOf g l hl ad F _ _ _ _ _ _ _ hB i hi hn).mono (fun v ad' F' h => ⟨h.1, h.2.1, by
    rcases h.2.2 with q | q
    · have hj : i.toNat < nf := by omega
      exact .inl ⟨q.1, by rw [q.2.1, (hG.1 _ hj).2.2.2.2.2], _, _, q.2.2, hG⟩
    · exact .inr ⟨q.1, q.2.1, _, _, q.2.2, hG⟩⟩)
theorem c_gLeftOf (g : Gx) (l : Launch) (hl : l.stackTraces = false) (ad : Nat → Nat) (F : Pic) (td : Int) (nf nk nc np : Nat) (th : Int) (B A P : Nat → Nat → Int) (kf : Nat → Nat) (hB : MB g ad F td nf nk nc np th B) (hG : AG nf nk nc A P kf B) (i : Int) (hi : inR i) (hn : nf ≤ 6 ∧ nk ≤ 6 ∧ nc ≤ 16) : Ct g l yX6_leftOf cX6_leftOf 2 (some .int) 3 0 0 [.ref (ad 50000), .int (zI i)] ad F (fun v ad' F' => ad = ad' ∧ FrM F F' ∧ (((0 ≤ i ∧ i < nk) ∧ v = some (.int (zI (A 8 i.toNat))) ∧ MG g ad F' td nf nk nc A P kf 0) ∨ (¬ (0 ≤ i ∧ i < nk) ∧ v = some (.int (zI 0)) ∧ MG g ad F' td nf nk nc A P kf 1))) :=
  (c_mLeftOf g l hl ad F _ _ _ _ _ _ _ hB i hi hn).mono (fun v ad' F' h => ⟨h.1, h.2.1, by
    rcases h.2.2 with q | q
    · have hj : i.toNat < nk := by omega
      exact .inl ⟨q.1, by rw [q.2.1, (hG.2.2.1 _ hj).2.2.1], _, _, q.2.2, hG⟩
    · exact .inr ⟨q.1, q.2.1, _, _, q.2.2, hG⟩⟩)
theorem c_gUntilOf (g : Gx) (l : Launch) (hl : l.stackTraces = false) (ad : Nat → Nat) (F : Pic) (td : Int) (nf nk nc np : Nat) (th : Int) (B A P : Nat → Nat → Int) (kf : Nat → Nat) (hB : MB g ad F td nf nk nc np th B) (hG : AG nf nk nc A P kf B) (i : Int) (hi : inR i) (hn : nf ≤ 6 ∧ nk ≤ 6 ∧ nc ≤ 16) : Ct g l yX6_untilOf cX6_untilOf 2 (some .int) 3 0 0 [.ref (ad 50000), .int (zI i)] ad F (fun v ad' F' => ad = ad' ∧ FrM F F' ∧ (((0 ≤ i ∧ i < nk) ∧ v = some (.int (zI (A 9 i.toNat))) ∧ MG g ad F' td nf nk nc A P kf 0) ∨ (¬ (0 ≤ i ∧ i < nk) ∧ v = some (.int (zI 0)) ∧ MG g ad F' td nf nk nc A P kf 1))) :=
  (c_mUntilOf g l hl ad F _ _ _ _ _ _ _ hB i hi hn).mono (fun v ad' F' h => ⟨h.1, h.2.1, by
    rcases h.2.2 with q | q
    · have hj : i.toNat < nk := by omega
      exact .inl ⟨q.1, by rw [q.2.1, (hG.2.2.1 _ hj).2.2.2], _, _, q.2.2, hG⟩
    · exact .inr ⟨q.1, q.2.1, _, _, q.2.2, hG⟩⟩)
theorem c_gFundOf (g : Gx) (l : Launch) (hl : l.stackTraces = false) (ad : Nat → Nat) (F : Pic) (td : Int) (nf nk nc np : Nat) (th : Int) (B A P : Nat → Nat → Int) (kf : Nat → Nat) (hB : MB g ad F td nf nk nc np th B) (hG : AG nf nk nc A P kf B) (i : Int) (hi : inR i) (hn : nf ≤ 6 ∧ nk ≤ 6 ∧ nc ≤ 16) : Ct g l yX6_fundOf cX6_fundOf 2 (some .int) 3 0 0 [.ref (ad 50000), .int (zI i)] ad F (fun v ad' F' => ad = ad' ∧ FrM F F' ∧ (((0 ≤ i ∧ i < nk) ∧ v = some (.int (zI (((kf i.toNat : Nat) : Int)))) ∧ MG g ad F' td nf nk nc A P kf 0) ∨ (¬ (0 ≤ i ∧ i < nk) ∧ v = some (.int (zI 0)) ∧ MG g ad F' td nf nk nc A P kf 1))) :=
  (c_mFundOf g l hl ad F _ _ _ _ _ _ _ hB i hi hn).mono (fun v ad' F' h => ⟨h.1, h.2.1, by
    rcases h.2.2 with q | q
    · have hj : i.toNat < nk := by omega
      exact .inl ⟨q.1, by rw [q.2.1, (hG.2.2.1 _ hj).1], _, _, q.2.2, hG⟩
    · exact .inr ⟨q.1, q.2.1, _, _, q.2.2, hG⟩⟩)
theorem c_gUnpaidOf (g : Gx) (l : Launch) (hl : l.stackTraces = false) (ad : Nat → Nat) (F : Pic) (td : Int) (nf nk nc np : Nat) (th : Int) (B A P : Nat → Nat → Int) (kf : Nat → Nat) (hB : MB g ad F td nf nk nc np th B) (hG : AG nf nk nc A P kf B) (i : Int) (hi : inR i) (hn : nf ≤ 6 ∧ nk ≤ 6 ∧ nc ≤ 16) : Ct g l yX6_unpaidOf cX6_unpaidOf 2 (some .int) 3 0 0 [.ref (ad 50000), .int (zI i)] ad F (fun v ad' F' => ad = ad' ∧ FrM F F' ∧ (((0 ≤ i ∧ i < nc) ∧ v = some (.int (zI (A 12 i.toNat))) ∧ MG g ad F' td nf nk nc A P kf 0) ∨ (¬ (0 ≤ i ∧ i < nc) ∧ v = some (.int (zI 0)) ∧ MG g ad F' td nf nk nc A P kf 1))) :=
  (c_mUnpaidOf g l hl ad F _ _ _ _ _ _ _ hB i hi hn).mono (fun v ad' F' h => ⟨h.1, h.2.1, by
    rcases h.2.2 with q | q
    · have hj : i.toNat < nc := by omega
      exact .inl ⟨q.1, by rw [q.2.1, (hG.2.2.2.1 _ hj).2.2.1], _, _, q.2.2, hG⟩
    · exact .inr ⟨q.1, q.2.1, _, _, q.2.2, hG⟩⟩)
theorem c_gDeposit (g : Gx) (l : Launch) (hl : l.stackTraces = false) (ad : Nat → Nat) (F : Pic) (td : Int) (nf nk nc np : Nat) (th : Int) (B A P : Nat → Nat → Int) (kf : Nat → Nat) (hB : MB g ad F td nf nk nc np th B) (hG : AG nf nk nc A P kf B) (i m : Int) (hi : inR i) (hm : inR m) (hn : nf ≤ 6 ∧ nk ≤ 100 ∧ nc ≤ 100) : Ct g l yX6_deposit cX6_deposit 3 (some .int) 3 0 0 [.ref (ad 50000), .int (zI i), .int (zI m)] ad F (fun v ad' F' => ad = ad' ∧ FrM F F' ∧ (((0 ≤ i ∧ i < nf) ∧ (1 ≤ m ∧ m ≤ 99999) ∧ v = some (.int (zI (A 0 i.toNat + m))) ∧ MG g ad F' td nf nk nc (u2 A 0 i.toNat (A 0 i.toNat + m)) P kf 0) ∨ (¬ (0 ≤ i ∧ i < nf) ∧ v = some (.int (zI 0)) ∧ MG g ad F' td nf nk nc A P kf 1) ∨ ((0 ≤ i ∧ i < nf) ∧ ¬ (1 ≤ m ∧ m ≤ 99999) ∧ v = some (.int (zI 0)) ∧ MG g ad F' td nf nk nc A P kf 2))) :=
  (c_mDeposit g l hl ad F _ _ _ _ _ _ _ hB i m hi hm hn).mono (fun v ad' F' h => ⟨h.1, h.2.1, by
    rcases h.2.2 with q | q | q
    · have hj : i.toNat < nf := by omega
      exact .inl ⟨q.1, q.2.1, by rw [q.2.2.1, (hG.1 _ hj).1], _, _, q.2.2.2, hG.dep hj m⟩
    · exact .inr (.inl ⟨q.1, q.2.1, _, _, q.2.2, hG⟩)
    · exact .inr (.inr ⟨q.1, q.2.1, q.2.2.1, _, _, q.2.2.2, hG⟩)⟩)
theorem c_gAddFund (g : Gx) (l : Launch) (hl : l.stackTraces = false) (ad : Nat → Nat) (F : Pic) (td : Int) (nf nk nc np : Nat) (th : Int) (B A P : Nat → Nat → Int) (kf : Nat → Nat) (hB : MB g ad F td nf nk nc np th B) (hG : AG nf nk nc A P kf B) (m a d c : Int) (hm : inR m) (ha : inR a) (hd : inR d) (hc : inR c) (hn : nf ≤ 6 ∧ nk ≤ 100 ∧ nc ≤ 100) : Ct g l yX6_addFund cX6_addFund 5 (some .int) 3 0 0 [.ref (ad 50000), .int (zI m), .int (zI a), .int (zI d), .int (zI c)] ad F (fun v ad' F' => ad = ad' ∧ FrM F F' ∧ ((raF m a d c ∧ nf < 6 ∧ v = some (.int (zI nf)) ∧ MG g ad F' td (nf + 1) nk nc (fNew A nf m a d c) P kf 0) ∨ (¬ raF m a d c ∧ v = some (.int (zI 0)) ∧ MG g ad F' td nf nk nc A P kf 1) ∨ (raF m a d c ∧ ¬ nf < 6 ∧ v = some (.int (zI 0)) ∧ MG g ad F' td nf nk nc A P kf 2))) :=
  (c_mAddFund g l hl ad F _ _ _ _ _ _ _ hB m a d c hm ha hd hc hn).mono (fun v ad' F' h => ⟨h.1, h.2.1, by
    rcases h.2.2 with q | q | q
    · exact .inl ⟨q.1, q.2.1, q.2.2.1, _, _, q.2.2.2, hG.addF q.2.1 m a d c⟩
    · exact .inr (.inl ⟨q.1, q.2.1, _, _, q.2.2, hG⟩)
    · exact .inr (.inr ⟨q.1, q.2.1, q.2.2.1, _, _, q.2.2.2, hG⟩)⟩)
theorem c_gToday (g : Gx) (l : Launch) (hl : l.stackTraces = false) (ad : Nat → Nat) (F : Pic) (td : Int) (nf nk nc np : Nat) (th : Int) (B A P : Nat → Nat → Int) (kf : Nat → Nat) (hB : MB g ad F td nf nk nc np th B) (hG : AG nf nk nc A P kf B)  : Ct g l yX6_today cX6_today 1 (some .int) 1 0 0 [.ref (ad 50000)] ad F (fun v ad' F' => ad = ad' ∧ FrM F F' ∧ v = some (.int (zI td)) ∧ MG g ad F' td nf nk nc A P kf 0) :=
  (c_mToday g l hl ad F _ _ _ _ _ _ _ hB).mono (fun v ad' F' h => ⟨h.1, h.2.1, h.2.2.1, _, _, h.2.2.2, hG⟩)
theorem c_gFunds (g : Gx) (l : Launch) (hl : l.stackTraces = false) (ad : Nat → Nat) (F : Pic) (td : Int) (nf nk nc np : Nat) (th : Int) (B A P : Nat → Nat → Int) (kf : Nat → Nat) (hB : MB g ad F td nf nk nc np th B) (hG : AG nf nk nc A P kf B)  : Ct g l yX6_funds cX6_funds 1 (some .int) 1 0 0 [.ref (ad 50000)] ad F (fun v ad' F' => ad = ad' ∧ FrM F F' ∧ v = some (.int (zI (nf : Int))) ∧ MG g ad F' td nf nk nc A P kf 0) :=
  (c_mFunds g l hl ad F _ _ _ _ _ _ _ hB).mono (fun v ad' F' h => ⟨h.1, h.2.1, h.2.2.1, _, _, h.2.2.2, hG⟩)
theorem c_gComs (g : Gx) (l : Launch) (hl : l.stackTraces = false) (ad : Nat → Nat) (F : Pic) (td : Int) (nf nk nc np : Nat) (th : Int) (B A P : Nat → Nat → Int) (kf : Nat → Nat) (hB : MB g ad F td nf nk nc np th B) (hG : AG nf nk nc A P kf B)  : Ct g l yX6_commitments cX6_commitments 1 (some .int) 1 0 0 [.ref (ad 50000)] ad F (fun v ad' F' => ad = ad' ∧ FrM F F' ∧ v = some (.int (zI (nk : Int))) ∧ MG g ad F' td nf nk nc A P kf 0) :=
  (c_mComs g l hl ad F _ _ _ _ _ _ _ hB).mono (fun v ad' F' h => ⟨h.1, h.2.1, h.2.2.1, _, _, h.2.2.2, hG⟩)
theorem c_gCosts (g : Gx) (l : Launch) (hl : l.stackTraces = false) (ad : Nat → Nat) (F : Pic) (td : Int) (nf nk nc np : Nat) (th : Int) (B A P : Nat → Nat → Int) (kf : Nat → Nat) (hB : MB g ad F td nf nk nc np th B) (hG : AG nf nk nc A P kf B)  : Ct g l yX6_costs cX6_costs 1 (some .int) 1 0 0 [.ref (ad 50000)] ad F (fun v ad' F' => ad = ad' ∧ FrM F F' ∧ v = some (.int (zI (nc : Int))) ∧ MG g ad F' td nf nk nc A P kf 0) :=
  (c_mCosts g l hl ad F _ _ _ _ _ _ _ hB).mono (fun v ad' F' h => ⟨h.1, h.2.1, h.2.2.1, _, _, h.2.2.2, hG⟩)
