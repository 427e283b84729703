/-! ===== the model's reason ===== -/
theorem REA.uniq {A : Nat → Nat → Int} {kf : Nat → Nat} {nf nk j : Nat} {v w : Int} (h : REA A kf nf nk j v) (h' : REA A kf nf nk j w) : v = w := by
  unfold REA at h h'
  by_cases a : A 12 j = 0
  · rcases h with h | h | h | h <;> rcases h' with h' | h' | h' | h' <;> omega
  · by_cases b : ALw A nf j nf
    · by_cases c : SUw A nf j nf
      · by_cases d : PAw A kf nk nf j (nk + nf)
        · rcases h with h | h | h | h <;> rcases h' with h' | h' | h' | h' <;> simp_all
        · by_cases e : HEw A kf j nk
          · rcases h with h | h | h | h <;> rcases h' with h' | h' | h' | h' <;> simp_all
          · rcases h with h | h | h | h <;> rcases h' with h' | h' | h' | h' <;> simp_all
      · rcases h with h | h | h | h <;> rcases h' with h' | h' | h' | h' <;> simp_all
    · rcases h with h | h | h | h <;> rcases h' with h' | h' | h' | h' <;> simp_all
def HEm (A : Nat → Nat → Int) (kf : Nat → Nat) (nk j n : Nat) : Prop := ∃ x, x < n ∧ suP (A 1 x) (A 2 x) (A 10 j) (A 11 j) ∧ 0 < comZ A kf x nk
theorem comZ_b {td : Int} {nf nk nc : Nat} {A : Nat → Nat → Int} {kf : Nat → Nat} {t x : Nat} (hI : IV td nf nk nc A kf t) : 0 ≤ comZ A kf x nk ∧ comZ A kf x nk ≤ 51199488 := by
  have a := sm_nn (n := nk) (f := fun k => if kf k = x then A 8 k else 0) (fun k hk => by
    have := (hI.b8 hk).1
    show 0 ≤ (if kf k = x then A 8 k else 0)
    split <;> omega)
  have b := sm_le (n := nk) (f := fun k => if kf k = x then A 8 k else 0) (h := A 8) (fun k hk => by
    have := (hI.b8 hk).1
    show (if kf k = x then A 8 k else 0) ≤ A 8 k
    split <;> omega)
  have c := sm_nn (n := nf) (f := A 0) (fun j hj => (hI.b0 hj).1)
  have d := hI.2.2.2.2.1
  have e := hI.1
  unfold comZ
  omega
theorem HEm_iff {td : Int} {nf nk nc : Nat} {A : Nat → Nat → Int} {kf : Nat → Nat} {t j : Nat} (hI : IV td nf nk nc A kf t) : HEm A kf nk j nf ↔ HEw A kf j nk := by
  constructor
  · rintro ⟨x, hx, h1, h2⟩
    by_cases e : ∃ k, k < nk ∧ 0 < A 8 k ∧ kf k = x
    · obtain ⟨k, k1, k2, k3⟩ := e
      exact ⟨k, k1, k2, by rw [k3]; exact h1⟩
    · have z : comZ A kf x nk = 0 := sm_zero (fun k hk => by
        have := (hI.b8 hk).1
        show (if kf k = x then A 8 k else 0) = 0
        by_cases q : kf k = x
        · rw [if_pos q]
          by_cases q2 : 0 < A 8 k
          · exact absurd ⟨k, hk, q2, q⟩ e
          · omega
        · rw [if_neg q])
      omega
  · rintro ⟨k, hk, h1, h2⟩
    refine ⟨kf k, (hI.2.2.1 k hk).1, h2, ?_⟩
    have a := sm_one (n := nk) (f := fun i => if kf i = kf k then A 8 i else 0) (fun i hi => by
      have := (hI.b8 hi).1
      show 0 ≤ (if kf i = kf k then A 8 i else 0)
      split <;> omega) hk
    have b : (if kf k = kf k then A 8 k else 0) ≤ comZ A kf (kf k) nk := a
    rw [if_pos rfl] at b
    omega
set_option maxRecDepth 100000 in
set_option maxHeartbeats 4000000 in
theorem c_mReason (g : Gx) (l : Launch) (hl : l.stackTraces = false) (ad : Nat → Nat) (F : Pic) (td : Int) (nf nk nc np : Nat) (th : Int) (B A P : Nat → Nat → Int) (kf : Nat → Nat) (hB : MB g ad F td nf nk nc np th B) (hG : AG nf nk nc A P kf B) (t : Nat) (hI : IV td nf nk nc A kf t) (i : Int) (hi : inR i) : Ct g l yX6_reason cX6_reason 7 (some .int) 4 0 0 [.ref (ad 50000), .int (zI i)] ad F (fun v ad' F' => ad = ad' ∧ FrM F F' ∧ (((0 ≤ i ∧ i < nc) ∧ (∃ w, v = some (.int (zI w)) ∧ REA A kf nf nk i.toNat w) ∧ MG g ad F' td nf nk nc A P kf 0) ∨ (¬ (0 ≤ i ∧ i < nc) ∧ v = some (.int (zI 0)) ∧ MG g ad F' td nf nk nc A P kf 1))) := by
  refine Ct_of hl rfl [some (.ref (ad 50000)), some (.int (zI i)), none, none, none, none, none] (Nat.le_of_ble_eq_true rfl) (fun _ h => h) ?_
  intro M hL hN X
  subst hL
  have hI0 := hI.1
  have hB_o := hB.1
  unfold MOL at hB_o
  refine r_aload_n X dX6_reason_0 (by rfl) ?_
  refine r_iload_n X dX6_reason_1 (by rfl) ?_
  refine r_callV X dX6_reason_2 kX6_182 (c_mIsCost g _ hl ad F _ _ _ _ _ _ _ hB i hi (by omega)) (by assumption) (by rfl) (by rfl) (by rfl) (by rfl) (by exact Nat.le_of_ble_eq_true rfl) (by decide) (by decide) (by omega) (by omega) (fun v ad' F1 hK => ?_)
  obtain ⟨rfl, rfl, hF1, th', hB1, z1, z2⟩ := hK
  have hB1_o := hB1.1
  unfold MOL at hB1_o
  refine r_if_neb X 10 dX6_reason_5 (by decide) (fun a => ?_) (fun a => ?_)
  · rw [z1 a] at hB1
    obtain ⟨j, rfl⟩ := Int.eq_ofNat_of_zero_le a.1
    have hj : j < nc := by omega
    have iC := hI.2.2.2.1 j hj
    refine r_iconst X dX6_reason_10 rfl ?_
    refine W_bF (Q := ALw A nf j 0) (fun ⟨x, hx, _⟩ => by omega) ?_
    refine r_istore_n X dX6_reason_11 (by rw [hN]; decide) (by rfl) ?_
    dsimp only [List.set]
    refine r_iconst X dX6_reason_12 rfl ?_
    refine W_bF (Q := SUw A nf j 0) (fun ⟨x, hx, _⟩ => by omega) ?_
    refine r_istore_n X dX6_reason_13 (by rw [hN]; decide) (by rfl) ?_
    dsimp only [List.set]
    refine r_iconst X dX6_reason_14 rfl ?_
    refine W_bF (Q := PAw A kf nk nf j 0) (fun ⟨x, hx, _⟩ => by omega) ?_
    refine r_istore X dX6_reason_15 (by rw [hN]; decide) (by rfl) ?_
    dsimp only [List.set]
    refine r_iconst X dX6_reason_17 rfl ?_
    refine W_bF (Q := HEm A kf nk j 0) (fun ⟨x, hx, _⟩ => by omega) ?_
    refine r_istore X dX6_reason_18 (by rw [hN]; decide) (by rfl) ?_
    dsimp only [List.set]
    refine r_aload_n X dX6_reason_20 (by rfl) ?_
    refine r_callV X dX6_reason_21 kX6_150 (c_mLaysPots g _ hl ad F1 _ _ _ _ _ _ _ _ _ _ hB1 hG t hI) (by assumption) (by rfl) (by rfl) (by rfl) (by rfl) (by exact Nat.le_of_ble_eq_true rfl) (by decide) (by decide) (by omega) (by omega) (fun v ad' F2 hK => ?_)
    obtain ⟨rfl, rfl, hF2, B2, h2, hr2, L2⟩ := hK
    have G2 : AG nf nk nc A P kf B2 := hG.row (fun a ha => hr2 a (by omega))
    have gC := G2.2.2.2.1 j hj
    have hF02 := hF1.tr hF2
    have h2_o := h2.1
    unfold MOL at h2_o
    have h2_14 : F2 50014 = some (cI g 16 (fun j => zI (B2 14 j))) := h2.2 14 rfl
    have h2_16 : F2 50016 = some (cI g 16 (fun j => zI (B2 16 j))) := h2.2 16 rfl
    have h2_21 : F2 50021 = some (cI g 12 (fun j => zI (B2 21 j))) := h2.2 21 rfl
    have h2_22 : F2 50022 = some (cI g 12 (fun j => zI (B2 22 j))) := h2.2 22 rfl
    have fin : ∀ w : Int, REA A kf nf nk j w → ∀ LS, V M g ad F2 (0 + 0 + 0) (0 + 0 + 0) 221 LS [.int (zI w)] := fun w hw LS => by
      exact r_iret X rfl (rfl) dX6_reason_221 (⟨rfl, hF02, .inl ⟨a, ⟨w, rfl, hw⟩, _, _, h2, G2⟩⟩) (by omega) (by omega)
    have s173 : ∀ o : Option Value, V M g ad F2 (0 + 0 + 0) (0 + 0 + 0) 173 [some (.ref (ad 50000)), some (.int (zI (j : Int))), some (.int (bP (ALw A nf j nf))), some (.int (bP (SUw A nf j nf))), some (.int (bP (PAw A kf nk nf j (nk + nf)))), some (.int (bP (HEm A kf nk j nf))), o] [] := fun o => by
      refine r_aload_n X dX6_reason_173 (by rfl) ?_
      refine r_get X dX6_reason_174 fgX6_46_8 (by assumption) (by rfl) ?_
      refine r_iload_n X dX6_reason_177 (by rfl) ?_
      refine r_iald X j dX6_reason_178 (by assumption) (by rfl) (by omega) (by first | decide | omega) ?_
      rw [gC.2.2.1]
      refine r_if_ne X 186 dX6_reason_179 (by decide) (by unfold inR; omega) (fun q0 => ?_) (fun q0 => ?_)
      · refine r_iload_n X dX6_reason_186 (by rfl) ?_
        refine r_if_neb X 194 dX6_reason_187 (by decide) (fun q1 => ?_) (fun q1 => ?_)
        · refine r_iload_n X dX6_reason_194 (by rfl) ?_
          refine r_if_neb X 202 dX6_reason_195 (by decide) (fun q2 => ?_) (fun q2 => ?_)
          · refine r_iload X dX6_reason_202 (by rfl) ?_
            refine r_if_eqb X 211 dX6_reason_204 (by decide) (fun q3 => ?_) (fun q3 => ?_)
            · refine r_iload X dX6_reason_211 (by rfl) ?_
              refine r_if_eqb X 220 dX6_reason_213 (by decide) (fun q4 => ?_) (fun q4 => ?_)
              · refine r_iconst X dX6_reason_220 rfl ?_
                exact fin 5 (.inr (.inr (.inr ⟨q0, q1, q2, .inr (.inr ⟨q3, fun z => q4 ((HEm_iff hI).mpr z), rfl⟩)⟩))) _
              · refine r_iconst X dX6_reason_216 rfl ?_
                refine r_goto X dX6_reason_217 221 (by decide) ?_
                exact fin 4 (.inr (.inr (.inr ⟨q0, q1, q2, .inr (.inl ⟨q3, (HEm_iff hI).mp q4, rfl⟩)⟩))) _
            · refine r_iconst X dX6_reason_207 rfl ?_
              refine r_goto X dX6_reason_208 221 (by decide) ?_
              exact fin 3 (.inr (.inr (.inr ⟨q0, q1, q2, .inl ⟨q3, rfl⟩⟩))) _
          · refine r_iconst X dX6_reason_198 rfl ?_
            refine r_goto X dX6_reason_199 221 (by decide) ?_
            exact fin 2 (.inr (.inr (.inl ⟨q0, q1, q2, rfl⟩))) _
        · refine r_iconst X dX6_reason_190 rfl ?_
          refine r_goto X dX6_reason_191 221 (by decide) ?_
          exact fin 1 (.inr (.inl ⟨q0, q1, rfl⟩)) _
      · refine r_iconst X dX6_reason_182 rfl ?_
        refine r_goto X dX6_reason_183 221 (by decide) ?_
        exact fin 0 (.inl ⟨by omega, rfl⟩) _
    have loop2 : ∀ (m p : Nat), nk + nf - p = m → p ≤ nk + nf → V M g ad F2 (0 + 0 + 0) (0 + 0 + 0) 121 [some (.ref (ad 50000)), some (.int (zI (j : Int))), some (.int (bP (ALw A nf j nf))), some (.int (bP (SUw A nf j nf))), some (.int (bP (PAw A kf nk nf j p))), some (.int (bP (HEm A kf nk j nf))), some (.int (zI (p : Int)))] [] := by
      intro m
      induction m with
      | zero =>
        intro p hm hp
        obtain rfl : p = nk + nf := by omega
        refine r_iload X dX6_reason_121 (by rfl) ?_
        refine r_aload_n X dX6_reason_123 (by rfl) ?_
        refine r_get X dX6_reason_124 fgX6_131_8 (by assumption) (by rfl) ?_
        refine r_icmp_ge X 173 dX6_reason_127 (by decide) (by unfold inR; omega) (by unfold inR; omega) (fun b => ?_) (fun b => ?_)
        · exact s173 _
        · omega
      | succ m ih =>
        intro p hm hp
        have hpn : p < nk + nf := by omega
        obtain ⟨e21, e22⟩ := L2.2 p hpn
        have hmo := hI.mob hpn
        have hbit : (rcF A kf nk nf nc p).testBit j = true ↔ mpP A kf (PS A nk nf p) j := ⟨fun z => (mkm_tb.mp z).2, fun z => mkm_tb.mpr ⟨hj, z⟩⟩
        have rl : rcF A kf nk nf nc p < 65536 := rcF_lt (by omega)
        have hq := tb_iff (rcF A kf nk nf nc p) j
        generalize rcF A kf nk nf nc p = rp at *
        have s165 : V M g ad F2 (0 + 0 + 0) (0 + 0 + 0) 165 [some (.ref (ad 50000)), some (.int (zI (j : Int))), some (.int (bP (ALw A nf j nf))), some (.int (bP (SUw A nf j nf))), some (.int (bP (PAw A kf nk nf j p))), some (.int (bP (HEm A kf nk j nf))), some (.int (zI (p : Int)))] [.int (bP (PAw A kf nk nf j (p + 1)))] := by
          refine r_istore X dX6_reason_165 (by rw [hN]; decide) (by rfl) ?_
          dsimp only [List.set]
          refine r_iinc X dX6_reason_167 (by rfl) (by rw [hN]; decide) (by rfl) ?_
          dsimp only [List.set]
          refine r_goto X dX6_reason_170 121 (by decide) ?_
          exact ih (p + 1) (by omega) (by omega)
        have y : PAw A kf nk nf j (p + 1) → V M g ad F2 (0 + 0 + 0) (0 + 0 + 0) 160 [some (.ref (ad 50000)), some (.int (zI (j : Int))), some (.int (bP (ALw A nf j nf))), some (.int (bP (SUw A nf j nf))), some (.int (bP (PAw A kf nk nf j p))), some (.int (bP (HEm A kf nk j nf))), some (.int (zI (p : Int)))] [] := fun h => by
          refine r_iconst X dX6_reason_160 rfl ?_
          refine r_goto X dX6_reason_161 165 (by decide) ?_
          exact W_bT h s165
        have n : ¬ PAw A kf nk nf j (p + 1) → V M g ad F2 (0 + 0 + 0) (0 + 0 + 0) 164 [some (.ref (ad 50000)), some (.int (zI (j : Int))), some (.int (bP (ALw A nf j nf))), some (.int (bP (SUw A nf j nf))), some (.int (bP (PAw A kf nk nf j p))), some (.int (bP (HEm A kf nk j nf))), some (.int (zI (p : Int)))] [] := fun h => by
          refine r_iconst X dX6_reason_164 rfl ?_
          exact W_bF h s165
        have no : ¬ PAw A kf nk nf j p → ¬ (0 < mo A nk nf p ∧ mpP A kf (PS A nk nf p) j) → ¬ PAw A kf nk nf j (p + 1) := fun x1 x2 => by
          rintro ⟨q, q1, q2⟩
          by_cases e : q = p
          · exact x2 (e ▸ q2)
          · exact x1 ⟨q, by omega, q2⟩
        refine r_iload X dX6_reason_121 (by rfl) ?_
        refine r_aload_n X dX6_reason_123 (by rfl) ?_
        refine r_get X dX6_reason_124 fgX6_131_8 (by assumption) (by rfl) ?_
        refine r_icmp_ge X 173 dX6_reason_127 (by decide) (by unfold inR; omega) (by unfold inR; omega) (fun b => ?_) (fun b => ?_)
        · omega
        · refine r_iload X dX6_reason_130 (by rfl) ?_
          refine r_if_neb X 160 dX6_reason_132 (by decide) (fun q => ?_) (fun q => ?_)
          · exact y (by obtain ⟨x, x1, x2⟩ := q; exact ⟨x, by omega, x2⟩)
          · refine r_aload_n X dX6_reason_135 (by rfl) ?_
            refine r_get X dX6_reason_136 fgX6_61_8 (by assumption) (by rfl) ?_
            refine r_iload X dX6_reason_139 (by rfl) ?_
            refine r_iald X p dX6_reason_141 (by assumption) (by rfl) (by omega) (by first | decide | omega) ?_
            rw [e22]
            refine r_iload_n X dX6_reason_142 (by rfl) ?_
            refine r_ishr X (hv := zI_shr (by omega) (by omega)) dX6_reason_143 ?_
            refine r_iconst X dX6_reason_144 rfl ?_
            refine r_iand X (hv := zI_and1 _) dX6_reason_145 ?_
            refine r_iconst X dX6_reason_146 rfl ?_
            refine r_icmp_ne X 164 dX6_reason_147 (by decide) (by unfold inR; omega) (by unfold inR; omega) (fun q2 => ?_) (fun q2 => ?_)
            · exact n (no q (fun z => by have := hq.mp (hbit.mpr z.2); omega))
            · have hb1 := hbit.mp (hq.mpr (by omega))
              refine r_aload_n X dX6_reason_150 (by rfl) ?_
              refine r_get X dX6_reason_151 fgX6_58_8 (by assumption) (by rfl) ?_
              refine r_iload X dX6_reason_154 (by rfl) ?_
              refine r_iald X p dX6_reason_156 (by assumption) (by rfl) (by omega) (by first | decide | omega) ?_
              rw [e21]
              refine r_if_le X 164 dX6_reason_157 (by decide) (by unfold inR; omega) (fun q3 => ?_) (fun q3 => ?_)
              · exact n (no q (fun z => by omega))
              · exact y ⟨p, by omega, by omega, hb1⟩
    have loop1 : ∀ (m f : Nat), nf - f = m → f ≤ nf → V M g ad F2 (0 + 0 + 0) (0 + 0 + 0) 27 [some (.ref (ad 50000)), some (.int (zI (j : Int))), some (.int (bP (ALw A nf j f))), some (.int (bP (SUw A nf j f))), some (.int (bP (PAw A kf nk nf j 0))), some (.int (bP (HEm A kf nk j f))), some (.int (zI (f : Int)))] [] := by
      intro m
      induction m with
      | zero =>
        intro f hm hf
        obtain rfl : f = nf := by omega
        refine r_iload X dX6_reason_27 (by rfl) ?_
        refine r_aload_n X dX6_reason_29 (by rfl) ?_
        refine r_get X dX6_reason_30 fgX6_86_8 (by assumption) (by rfl) ?_
        refine r_icmp_ge X 118 dX6_reason_33 (by decide) (by unfold inR; omega) (by unfold inR; omega) (fun b => ?_) (fun b => ?_)
        · refine r_iconst X dX6_reason_118 rfl ?_
          refine r_istore X dX6_reason_119 (by rw [hN]; decide) (by rfl) ?_
          dsimp only [List.set]
          exact loop2 _ 0 rfl (by omega)
        · omega
      | succ m ih =>
        intro f hm hf
        have hfn : f < nf := by omega
        have gF := G2.1 f hfn
        have iF := hI.2.1 f hfn
        have cb := comZ_b (x := f) hI
        have s110 : V M g ad F2 (0 + 0 + 0) (0 + 0 + 0) 110 [some (.ref (ad 50000)), some (.int (zI (j : Int))), some (.int (bP (ALw A nf j (f + 1)))), some (.int (bP (SUw A nf j (f + 1)))), some (.int (bP (PAw A kf nk nf j 0))), some (.int (bP (HEm A kf nk j f))), some (.int (zI (f : Int)))] [.int (bP (HEm A kf nk j (f + 1)))] := by
          refine r_istore X dX6_reason_110 (by rw [hN]; decide) (by rfl) ?_
          dsimp only [List.set]
          refine r_iinc X dX6_reason_112 (by rfl) (by rw [hN]; decide) (by rfl) ?_
          dsimp only [List.set]
          refine r_goto X dX6_reason_115 27 (by decide) ?_
          exact ih (f + 1) (by omega) (by omega)
        have s80 : V M g ad F2 (0 + 0 + 0) (0 + 0 + 0) 80 [some (.ref (ad 50000)), some (.int (zI (j : Int))), some (.int (bP (ALw A nf j (f + 1)))), some (.int (bP (SUw A nf j f))), some (.int (bP (PAw A kf nk nf j 0))), some (.int (bP (HEm A kf nk j f))), some (.int (zI (f : Int)))] [.int (bP (SUw A nf j (f + 1)))] := by
          have y : HEm A kf nk j (f + 1) → V M g ad F2 (0 + 0 + 0) (0 + 0 + 0) 105 [some (.ref (ad 50000)), some (.int (zI (j : Int))), some (.int (bP (ALw A nf j (f + 1)))), some (.int (bP (SUw A nf j (f + 1)))), some (.int (bP (PAw A kf nk nf j 0))), some (.int (bP (HEm A kf nk j f))), some (.int (zI (f : Int)))] [] := fun h => by
            refine r_iconst X dX6_reason_105 rfl ?_
            refine r_goto X dX6_reason_106 110 (by decide) ?_
            exact W_bT h s110
          have n : ¬ HEm A kf nk j f → ¬ (suP (A 1 f) (A 2 f) (A 10 j) (A 11 j) ∧ 0 < comZ A kf f nk) → V M g ad F2 (0 + 0 + 0) (0 + 0 + 0) 109 [some (.ref (ad 50000)), some (.int (zI (j : Int))), some (.int (bP (ALw A nf j (f + 1)))), some (.int (bP (SUw A nf j (f + 1)))), some (.int (bP (PAw A kf nk nf j 0))), some (.int (bP (HEm A kf nk j f))), some (.int (zI (f : Int)))] [] := fun x1 x2 => by
            have h : ¬ HEm A kf nk j (f + 1) := by
              rintro ⟨q, q1, q2⟩
              by_cases e : q = f
              · exact x2 (e ▸ q2)
              · exact x1 ⟨q, by omega, q2⟩
            refine r_iconst X dX6_reason_109 rfl ?_
            exact W_bF h s110
          refine r_istore_n X dX6_reason_80 (by rw [hN]; decide) (by rfl) ?_
          dsimp only [List.set]
          refine r_iload X dX6_reason_81 (by rfl) ?_
          refine r_if_neb X 105 dX6_reason_83 (by decide) (fun q => ?_) (fun q => ?_)
          · exact y (by obtain ⟨x, x1, x2⟩ := q; exact ⟨x, by omega, x2⟩)
          · refine r_aload_n X dX6_reason_86 (by rfl) ?_
            refine r_iload X dX6_reason_87 (by rfl) ?_
            refine r_iload_n X dX6_reason_89 (by rfl) ?_
            refine r_callV X dX6_reason_90 kX6_142 (c_mSuits g _ hl ad F2 _ _ _ _ _ _ _ h2 f j (by omega) (by omega) (by rw [gF.2.1]; exact iF.2.1) (by rw [gC.1]; exact iC.1) (by rw [gC.2.1]; unfold inR; omega) (by rw [gF.2.2.1]; unfold inR; omega)) (by assumption) (by rfl) (by rfl) (by rfl) (by rfl) (by exact Nat.le_of_ble_eq_true rfl) (by decide) (by decide) (by omega) (by omega) (fun v ad' F3 hK => ?_)
            obtain ⟨rfl, rfl, rfl⟩ := hK
            rw [gF.2.1, gF.2.2.1, gC.1, gC.2.1]
            refine r_if_eqb X 109 dX6_reason_93 (by decide) (fun q2 => ?_) (fun q2 => ?_)
            · exact n q (fun z => q2 z.1)
            · refine r_aload_n X dX6_reason_96 (by rfl) ?_
              refine r_iload X dX6_reason_97 (by rfl) ?_
              refine r_callV X dX6_reason_99 kX6_179 (c_mCommitted g _ hl ad F2 _ _ _ _ _ _ _ _ _ _ h2 G2 t hI f (by omega)) (by assumption) (by rfl) (by rfl) (by rfl) (by rfl) (by exact Nat.le_of_ble_eq_true rfl) (by decide) (by decide) (by omega) (by omega) (fun v ad' F3 hK => ?_)
              obtain ⟨rfl, rfl, rfl⟩ := hK
              refine r_if_le X 109 dX6_reason_102 (by decide) (by unfold inR; omega) (fun q3 => ?_) (fun q3 => ?_)
              · exact n q (fun z => by omega)
              · exact y ⟨f, by omega, q2, by omega⟩
        have s60 : V M g ad F2 (0 + 0 + 0) (0 + 0 + 0) 60 [some (.ref (ad 50000)), some (.int (zI (j : Int))), some (.int (bP (ALw A nf j f))), some (.int (bP (SUw A nf j f))), some (.int (bP (PAw A kf nk nf j 0))), some (.int (bP (HEm A kf nk j f))), some (.int (zI (f : Int)))] [.int (bP (ALw A nf j (f + 1)))] := by
          have y : SUw A nf j (f + 1) → V M g ad F2 (0 + 0 + 0) (0 + 0 + 0) 75 [some (.ref (ad 50000)), some (.int (zI (j : Int))), some (.int (bP (ALw A nf j (f + 1)))), some (.int (bP (SUw A nf j f))), some (.int (bP (PAw A kf nk nf j 0))), some (.int (bP (HEm A kf nk j f))), some (.int (zI (f : Int)))] [] := fun h => by
            refine r_iconst X dX6_reason_75 rfl ?_
            refine r_goto X dX6_reason_76 80 (by decide) ?_
            exact W_bT h s80
          refine r_istore_n X dX6_reason_60 (by rw [hN]; decide) (by rfl) ?_
          dsimp only [List.set]
          refine r_iload_n X dX6_reason_61 (by rfl) ?_
          refine r_if_neb X 75 dX6_reason_62 (by decide) (fun q => ?_) (fun q => ?_)
          · exact y (by obtain ⟨x, x1, x2⟩ := q; exact ⟨x, by omega, x2⟩)
          · refine r_aload_n X dX6_reason_65 (by rfl) ?_
            refine r_iload X dX6_reason_66 (by rfl) ?_
            refine r_iload_n X dX6_reason_68 (by rfl) ?_
            refine r_callV X dX6_reason_69 kX6_142 (c_mSuits g _ hl ad F2 _ _ _ _ _ _ _ h2 f j (by omega) (by omega) (by rw [gF.2.1]; exact iF.2.1) (by rw [gC.1]; exact iC.1) (by rw [gC.2.1]; unfold inR; omega) (by rw [gF.2.2.1]; unfold inR; omega)) (by assumption) (by rfl) (by rfl) (by rfl) (by rfl) (by exact Nat.le_of_ble_eq_true rfl) (by decide) (by decide) (by omega) (by omega) (fun v ad' F3 hK => ?_)
            obtain ⟨rfl, rfl, rfl⟩ := hK
            rw [gF.2.1, gF.2.2.1, gC.1, gC.2.1]
            refine r_if_eqb X 79 dX6_reason_72 (by decide) (fun q2 => ?_) (fun q2 => ?_)
            · have h : ¬ SUw A nf j (f + 1) := by
                rintro ⟨x, x1, x2⟩
                by_cases e : x = f
                · exact q2 (e ▸ x2)
                · exact q ⟨x, by omega, x2⟩
              refine r_iconst X dX6_reason_79 rfl ?_
              exact W_bF h s80
            · exact y ⟨f, by omega, q2⟩
        have y : ALw A nf j (f + 1) → V M g ad F2 (0 + 0 + 0) (0 + 0 + 0) 55 [some (.ref (ad 50000)), some (.int (zI (j : Int))), some (.int (bP (ALw A nf j f))), some (.int (bP (SUw A nf j f))), some (.int (bP (PAw A kf nk nf j 0))), some (.int (bP (HEm A kf nk j f))), some (.int (zI (f : Int)))] [] := fun h => by
          refine r_iconst X dX6_reason_55 rfl ?_
          refine r_goto X dX6_reason_56 60 (by decide) ?_
          exact W_bT h s60
        refine r_iload X dX6_reason_27 (by rfl) ?_
        refine r_aload_n X dX6_reason_29 (by rfl) ?_
        refine r_get X dX6_reason_30 fgX6_86_8 (by assumption) (by rfl) ?_
        refine r_icmp_ge X 118 dX6_reason_33 (by decide) (by unfold inR; omega) (by unfold inR; omega) (fun b => ?_) (fun b => ?_)
        · omega
        · refine r_iload_n X dX6_reason_36 (by rfl) ?_
          refine r_if_neb X 55 dX6_reason_37 (by decide) (fun q => ?_) (fun q => ?_)
          · exact y (by obtain ⟨x, x1, x2⟩ := q; exact ⟨x, by omega, x2⟩)
          · refine r_aload_n X dX6_reason_40 (by rfl) ?_
            refine r_iload X dX6_reason_41 (by rfl) ?_
            refine r_aload_n X dX6_reason_43 (by rfl) ?_
            refine r_get X dX6_reason_44 fgX6_40_8 (by assumption) (by rfl) ?_
            refine r_iload_n X dX6_reason_47 (by rfl) ?_
            refine r_iald X j dX6_reason_48 (by assumption) (by rfl) (by omega) (by first | decide | omega) ?_
            rw [gC.1]
            refine r_callV X dX6_reason_49 kX6_99 (c_mAllows g _ hl ad F2 _ _ _ _ _ _ _ h2 f (by omega) (A 10 j) (by rw [gF.2.1]; exact iF.2.1) iC.1) (by assumption) (by rfl) (by rfl) (by rfl) (by rfl) (by exact Nat.le_of_ble_eq_true rfl) (by decide) (by decide) (by omega) (by omega) (fun v ad' F3 hK => ?_)
            obtain ⟨rfl, rfl, rfl⟩ := hK
            rw [gF.2.1]
            refine r_if_eqb X 59 dX6_reason_52 (by decide) (fun q2 => ?_) (fun q2 => ?_)
            · have h : ¬ ALw A nf j (f + 1) := by
                rintro ⟨x, x1, x2⟩
                by_cases e : x = f
                · exact q2 (e ▸ x2)
                · exact q ⟨x, by omega, x2⟩
              refine r_iconst X dX6_reason_59 rfl ?_
              exact W_bF h s60
            · exact y ⟨f, by omega, q2⟩
    refine r_iconst X dX6_reason_24 rfl ?_
    refine r_istore X dX6_reason_25 (by rw [hN]; decide) (by rfl) ?_
    dsimp only [List.set]
    exact loop1 _ 0 rfl (by omega)
  · rw [z2 a] at hB1
    refine r_iconst X dX6_reason_8 rfl ?_
    exact r_iret X rfl (rfl) dX6_reason_9 (⟨rfl, hF1, .inr ⟨a, rfl, _, _, hB1, hG⟩⟩) (by omega) (by omega)
