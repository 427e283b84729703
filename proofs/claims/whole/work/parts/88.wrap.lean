/-! ===== the law's wrappers ===== -/
set_option maxRecDepth 100000 in
theorem cw_addFund : Cond.codeWith yL_addFund cL_addFund 7 (some .int) [(0, 14, 17, 13), (0, 14, 21, 15)] ∈ WS := ww 748 rfl rfl
set_option maxRecDepth 100000 in
set_option maxHeartbeats 4000000 in
theorem c_wAddFund (g : Gx) (l : Launch) (hl : l.stackTraces = false) (ad : Nat → Nat) (F : Pic) (f : Nat → Int64) (h60 : F 60000 = some (cJ g 1 f)) {vs : List Value} (h100 : F 100 = some (.inr (7, vs))) (p0 p1 p2 p3 : Int32) {n' mc' ms' : Nat} {K' : Option Value → (Nat → Nat) → Pic → Prop} {KX' : String → (Nat → Nat) → Pic → Prop} (hM : CtX g l yX5_addFund cX5_addFund 6 (some .int) n' mc' ms' [.ref (ad 100), .int p0, .int p1, .int p2, .int p3] ad F K' KX') (hn' : n' ≤ 10) (hv : ∀ v ad' F', K' v ad' F' → (∃ x, v = some (.int x)) ∧ F' 60000 = F 60000 ∧ ad' 60000 = ad 60000) (hE : ∀ E ad' F', KX' E ad' F' → E = xIA ∨ E = xIS) : Ctw g l yL_addFund cL_addFund 7 (some .int) [(0, 14, 17, 13), (0, 14, 21, 15)] 11 mc' ms' [.ref (ad 100), .int p0, .int p1, .int p2, .int p3, .ref (ad 60000)] ad F (WK g K' KX' [(xIA, 1), (xIS, 2)]) := by
  refine Ctw_of hl rfl [some (.ref (ad 100)), some (.int p0), some (.int p1), some (.int p2), some (.int p3), some (.ref (ad 60000)), none] (Nat.le_of_ble_eq_true rfl) (fun _ h => h) ?_
  intro M hL hN X
  subst hL
  refine r_aload X dL_addFund_0 (by rfl) ?_
  refine r_iconst X dL_addFund_2 rfl ?_
  refine r_aload_n X dL_addFund_3 (by rfl) ?_
  refine r_iload_n X dL_addFund_4 (by rfl) ?_
  refine r_iload_n X dL_addFund_5 (by rfl) ?_
  refine r_iload_n X dL_addFund_6 (by rfl) ?_
  refine r_iload X dL_addFund_7 (by rfl) ?_
  refine r_callVXC X dL_addFund_9 kL_7 hM h100 rfl rfl (by rfl) (by rfl) (by exact Nat.le_of_ble_eq_true rfl) (by omega) (by decide) (by omega) (by omega) (fun E ad' F' hK => ?_) (fun v ad' F' hK => ?_)
  · rcases hE E ad' F' hK with rfl | rfl
    · refine ⟨17, ⟨[], ⟨0, 14, 17, 13⟩, _, rfl, (fun z hz => by cases hz), rfl, by decide, ww 749 rfl rfl, cau_IA X, rfl⟩, fun q => ?_⟩
      refine r_astore X dL_addFund_17 (by rw [hN]; decide) (by rfl) ?_
      dsimp only [List.set]
      refine r_iconst X dL_addFund_19 rfl ?_
      exact r_iret X rfl (rfl) dL_addFund_20 (.inr ⟨(xIA, 1), List.mem_cons_self, hK, rfl⟩) (by omega) (by omega)
    · refine ⟨21, ⟨[⟨0, 14, 17, 13⟩], ⟨0, 14, 21, 15⟩, _, rfl, (fun z hz => by rw [List.mem_singleton.mp hz]; exact ⟨by decide, _, ww 749 rfl rfl, cau_SA X⟩), rfl, by decide, ww 750 rfl rfl, cau_IS X, rfl⟩, fun q => ?_⟩
      refine r_astore X dL_addFund_21 (by rw [hN]; decide) (by rfl) ?_
      dsimp only [List.set]
      refine r_iconst X dL_addFund_23 rfl ?_
      exact r_iret X rfl (rfl) dL_addFund_24 (.inr ⟨(xIS, 2), List.mem_cons_of_mem _ List.mem_cons_self, hK, rfl⟩) (by omega) (by omega)
  · obtain ⟨⟨x, rfl⟩, e60, a60⟩ := hv v ad' F' hK
    refine r_i2lG X dL_addFund_12 ?_
    rw [← a60]
    refine r_lst X 0 dL_addFund_13 (e60.trans h60) (by omega) (by rfl) (by omega) (by first | decide | omega) ?_
    refine r_goto X dL_addFund_14 25 (by decide) ?_
    refine r_iconst X dL_addFund_25 rfl ?_
    exact r_iret X rfl (rfl) dL_addFund_26 (.inl ⟨rfl, F', x, f, hK, rfl⟩) (by omega) (by omega)
set_option maxRecDepth 100000 in
theorem cw_deposit : Cond.codeWith yL_deposit cL_deposit 5 (some .int) [(0, 10, 13, 21), (0, 10, 17, 13)] ∈ WS := ww 832 rfl rfl
set_option maxRecDepth 100000 in
set_option maxHeartbeats 4000000 in
theorem c_wDeposit (g : Gx) (l : Launch) (hl : l.stackTraces = false) (ad : Nat → Nat) (F : Pic) (f : Nat → Int64) (h60 : F 60000 = some (cJ g 1 f)) {vs : List Value} (h100 : F 100 = some (.inr (7, vs))) (p0 p1 : Int32) {n' mc' ms' : Nat} {K' : Option Value → (Nat → Nat) → Pic → Prop} {KX' : String → (Nat → Nat) → Pic → Prop} (hM : CtX g l yX5_deposit cX5_deposit 4 (some .int) n' mc' ms' [.ref (ad 100), .int p0, .int p1] ad F K' KX') (hn' : n' ≤ 10) (hv : ∀ v ad' F', K' v ad' F' → (∃ x, v = some (.int x)) ∧ F' 60000 = F 60000 ∧ ad' 60000 = ad 60000) (hE : ∀ E ad' F', KX' E ad' F' → E = xIO ∨ E = xIA) : Ctw g l yL_deposit cL_deposit 5 (some .int) [(0, 10, 13, 21), (0, 10, 17, 13)] 11 mc' ms' [.ref (ad 100), .int p0, .int p1, .ref (ad 60000)] ad F (WK g K' KX' [(xIO, 1), (xIA, 2)]) := by
  refine Ctw_of hl rfl [some (.ref (ad 100)), some (.int p0), some (.int p1), some (.ref (ad 60000)), none] (Nat.le_of_ble_eq_true rfl) (fun _ h => h) ?_
  intro M hL hN X
  subst hL
  refine r_aload_n X dL_deposit_0 (by rfl) ?_
  refine r_iconst X dL_deposit_1 rfl ?_
  refine r_aload_n X dL_deposit_2 (by rfl) ?_
  refine r_iload_n X dL_deposit_3 (by rfl) ?_
  refine r_iload_n X dL_deposit_4 (by rfl) ?_
  refine r_callVXC X dL_deposit_5 kL_17 hM h100 rfl rfl (by rfl) (by rfl) (by exact Nat.le_of_ble_eq_true rfl) (by omega) (by decide) (by omega) (by omega) (fun E ad' F' hK => ?_) (fun v ad' F' hK => ?_)
  · rcases hE E ad' F' hK with rfl | rfl
    · refine ⟨13, ⟨[], ⟨0, 10, 13, 21⟩, _, rfl, (fun z hz => by cases hz), rfl, by decide, ww 833 rfl rfl, cau_IO X, rfl⟩, fun q => ?_⟩
      refine r_astore X dL_deposit_13 (by rw [hN]; decide) (by rfl) ?_
      dsimp only [List.set]
      refine r_iconst X dL_deposit_15 rfl ?_
      exact r_iret X rfl (rfl) dL_deposit_16 (.inr ⟨(xIO, 1), List.mem_cons_self, hK, rfl⟩) (by omega) (by omega)
    · refine ⟨17, ⟨[⟨0, 10, 13, 21⟩], ⟨0, 10, 17, 13⟩, _, rfl, (fun z hz => by rw [List.mem_singleton.mp hz]; exact ⟨by decide, _, ww 833 rfl rfl, cau_AO X⟩), rfl, by decide, ww 749 rfl rfl, cau_IA X, rfl⟩, fun q => ?_⟩
      refine r_astore X dL_deposit_17 (by rw [hN]; decide) (by rfl) ?_
      dsimp only [List.set]
      refine r_iconst X dL_deposit_19 rfl ?_
      exact r_iret X rfl (rfl) dL_deposit_20 (.inr ⟨(xIA, 2), List.mem_cons_of_mem _ List.mem_cons_self, hK, rfl⟩) (by omega) (by omega)
  · obtain ⟨⟨x, rfl⟩, e60, a60⟩ := hv v ad' F' hK
    refine r_i2lG X dL_deposit_8 ?_
    rw [← a60]
    refine r_lst X 0 dL_deposit_9 (e60.trans h60) (by omega) (by rfl) (by omega) (by first | decide | omega) ?_
    refine r_goto X dL_deposit_10 21 (by decide) ?_
    refine r_iconst X dL_deposit_21 rfl ?_
    exact r_iret X rfl (rfl) dL_deposit_22 (.inl ⟨rfl, F', x, f, hK, rfl⟩) (by omega) (by omega)
set_option maxRecDepth 100000 in
theorem cw_commit : Cond.codeWith yL_commit cL_commit 7 (some .int) [(0, 14, 17, 21), (0, 14, 21, 13), (0, 14, 25, 15)] ∈ WS := ww 847 rfl rfl
set_option maxRecDepth 100000 in
set_option maxHeartbeats 4000000 in
theorem c_wCommit (g : Gx) (l : Launch) (hl : l.stackTraces = false) (ad : Nat → Nat) (F : Pic) (f : Nat → Int64) (h60 : F 60000 = some (cJ g 1 f)) {vs : List Value} (h100 : F 100 = some (.inr (7, vs))) (p0 p1 p2 p3 : Int32) {n' mc' ms' : Nat} {K' : Option Value → (Nat → Nat) → Pic → Prop} {KX' : String → (Nat → Nat) → Pic → Prop} (hM : CtX g l yX5_commit cX5_commit 6 (some .int) n' mc' ms' [.ref (ad 100), .int p0, .int p1, .int p2, .int p3] ad F K' KX') (hn' : n' ≤ 10) (hv : ∀ v ad' F', K' v ad' F' → (∃ x, v = some (.int x)) ∧ F' 60000 = F 60000 ∧ ad' 60000 = ad 60000) (hE : ∀ E ad' F', KX' E ad' F' → E = xIO ∨ E = xIA ∨ E = xIS) : Ctw g l yL_commit cL_commit 7 (some .int) [(0, 14, 17, 21), (0, 14, 21, 13), (0, 14, 25, 15)] 11 mc' ms' [.ref (ad 100), .int p0, .int p1, .int p2, .int p3, .ref (ad 60000)] ad F (WK g K' KX' [(xIO, 1), (xIA, 2), (xIS, 3)]) := by
  refine Ctw_of hl rfl [some (.ref (ad 100)), some (.int p0), some (.int p1), some (.int p2), some (.int p3), some (.ref (ad 60000)), none] (Nat.le_of_ble_eq_true rfl) (fun _ h => h) ?_
  intro M hL hN X
  subst hL
  refine r_aload X dL_commit_0 (by rfl) ?_
  refine r_iconst X dL_commit_2 rfl ?_
  refine r_aload_n X dL_commit_3 (by rfl) ?_
  refine r_iload_n X dL_commit_4 (by rfl) ?_
  refine r_iload_n X dL_commit_5 (by rfl) ?_
  refine r_iload_n X dL_commit_6 (by rfl) ?_
  refine r_iload X dL_commit_7 (by rfl) ?_
  refine r_callVXC X dL_commit_9 kL_23 hM h100 rfl rfl (by rfl) (by rfl) (by exact Nat.le_of_ble_eq_true rfl) (by omega) (by decide) (by omega) (by omega) (fun E ad' F' hK => ?_) (fun v ad' F' hK => ?_)
  · rcases hE E ad' F' hK with rfl | rfl | rfl
    · refine ⟨17, ⟨[], ⟨0, 14, 17, 21⟩, _, rfl, (fun z hz => by cases hz), rfl, by decide, ww 833 rfl rfl, cau_IO X, rfl⟩, fun q => ?_⟩
      refine r_astore X dL_commit_17 (by rw [hN]; decide) (by rfl) ?_
      dsimp only [List.set]
      refine r_iconst X dL_commit_19 rfl ?_
      exact r_iret X rfl (rfl) dL_commit_20 (.inr ⟨(xIO, 1), List.mem_cons_self, hK, rfl⟩) (by omega) (by omega)
    · refine ⟨21, ⟨[⟨0, 14, 17, 21⟩], ⟨0, 14, 21, 13⟩, _, rfl, (fun z hz => by rw [List.mem_singleton.mp hz]; exact ⟨by decide, _, ww 833 rfl rfl, cau_AO X⟩), rfl, by decide, ww 749 rfl rfl, cau_IA X, rfl⟩, fun q => ?_⟩
      refine r_astore X dL_commit_21 (by rw [hN]; decide) (by rfl) ?_
      dsimp only [List.set]
      refine r_iconst X dL_commit_23 rfl ?_
      exact r_iret X rfl (rfl) dL_commit_24 (.inr ⟨(xIA, 2), List.mem_cons_of_mem _ List.mem_cons_self, hK, rfl⟩) (by omega) (by omega)
    · refine ⟨25, ⟨[⟨0, 14, 17, 21⟩, ⟨0, 14, 21, 13⟩], ⟨0, 14, 25, 15⟩, _, rfl, (fun z hz => by rcases List.mem_cons.mp hz with rfl | hz2; exact ⟨by decide, _, ww 833 rfl rfl, cau_SO X⟩; rw [List.mem_singleton.mp hz2]; exact ⟨by decide, _, ww 749 rfl rfl, cau_SA X⟩), rfl, by decide, ww 750 rfl rfl, cau_IS X, rfl⟩, fun q => ?_⟩
      refine r_astore X dL_commit_25 (by rw [hN]; decide) (by rfl) ?_
      dsimp only [List.set]
      refine r_iconst X dL_commit_27 rfl ?_
      exact r_iret X rfl (rfl) dL_commit_28 (.inr ⟨(xIS, 3), List.mem_cons_of_mem _ (List.mem_cons_of_mem _ List.mem_cons_self), hK, rfl⟩) (by omega) (by omega)
  · obtain ⟨⟨x, rfl⟩, e60, a60⟩ := hv v ad' F' hK
    refine r_i2lG X dL_commit_12 ?_
    rw [← a60]
    refine r_lst X 0 dL_commit_13 (e60.trans h60) (by omega) (by rfl) (by omega) (by first | decide | omega) ?_
    refine r_goto X dL_commit_14 29 (by decide) ?_
    refine r_iconst X dL_commit_29 rfl ?_
    exact r_iret X rfl (rfl) dL_commit_30 (.inl ⟨rfl, F', x, f, hK, rfl⟩) (by omega) (by omega)
set_option maxRecDepth 100000 in
theorem cw_cancel : Cond.codeWith yL_cancel cL_cancel 4 (some .int) [(0, 9, 12, 21)] ∈ WS := ww 871 rfl rfl
set_option maxRecDepth 100000 in
set_option maxHeartbeats 4000000 in
theorem c_wCancel (g : Gx) (l : Launch) (hl : l.stackTraces = false) (ad : Nat → Nat) (F : Pic) (f : Nat → Int64) (h60 : F 60000 = some (cJ g 1 f)) {vs : List Value} (h100 : F 100 = some (.inr (7, vs))) (p0 : Int32) {n' mc' ms' : Nat} {K' : Option Value → (Nat → Nat) → Pic → Prop} {KX' : String → (Nat → Nat) → Pic → Prop} (hM : CtX g l yX5_cancel cX5_cancel 3 (some .int) n' mc' ms' [.ref (ad 100), .int p0] ad F K' KX') (hn' : n' ≤ 10) (hv : ∀ v ad' F', K' v ad' F' → (∃ x, v = some (.int x)) ∧ F' 60000 = F 60000 ∧ ad' 60000 = ad 60000) (hE : ∀ E ad' F', KX' E ad' F' → E = xIO) : Ctw g l yL_cancel cL_cancel 4 (some .int) [(0, 9, 12, 21)] 11 mc' ms' [.ref (ad 100), .int p0, .ref (ad 60000)] ad F (WK g K' KX' [(xIO, 1)]) := by
  refine Ctw_of hl rfl [some (.ref (ad 100)), some (.int p0), some (.ref (ad 60000)), none] (Nat.le_of_ble_eq_true rfl) (fun _ h => h) ?_
  intro M hL hN X
  subst hL
  refine r_aload_n X dL_cancel_0 (by rfl) ?_
  refine r_iconst X dL_cancel_1 rfl ?_
  refine r_aload_n X dL_cancel_2 (by rfl) ?_
  refine r_iload_n X dL_cancel_3 (by rfl) ?_
  refine r_callVXC X dL_cancel_4 kL_26 hM h100 rfl rfl (by rfl) (by rfl) (by exact Nat.le_of_ble_eq_true rfl) (by omega) (by decide) (by omega) (by omega) (fun E ad' F' hK => ?_) (fun v ad' F' hK => ?_)
  · obtain rfl := hE E ad' F' hK
    refine ⟨12, ⟨[], ⟨0, 9, 12, 21⟩, _, rfl, (fun z hz => by cases hz), rfl, by decide, ww 833 rfl rfl, cau_IO X, rfl⟩, fun q => ?_⟩
    refine r_astore_n X dL_cancel_12 (by rw [hN]; decide) (by rfl) ?_
    dsimp only [List.set]
    refine r_iconst X dL_cancel_13 rfl ?_
    exact r_iret X rfl (rfl) dL_cancel_14 (.inr ⟨(xIO, 1), List.mem_cons_self, hK, rfl⟩) (by omega) (by omega)
  · obtain ⟨⟨x, rfl⟩, e60, a60⟩ := hv v ad' F' hK
    refine r_i2lG X dL_cancel_7 ?_
    rw [← a60]
    refine r_lst X 0 dL_cancel_8 (e60.trans h60) (by omega) (by rfl) (by omega) (by first | decide | omega) ?_
    refine r_goto X dL_cancel_9 15 (by decide) ?_
    refine r_iconst X dL_cancel_15 rfl ?_
    exact r_iret X rfl (rfl) dL_cancel_16 (.inl ⟨rfl, F', x, f, hK, rfl⟩) (by omega) (by omega)
set_option maxRecDepth 100000 in
theorem cw_advance : Cond.codeWith yL_advance cL_advance 4 (some .int) [(0, 9, 12, 13)] ∈ WS := ww 883 rfl rfl
set_option maxRecDepth 100000 in
set_option maxHeartbeats 4000000 in
theorem c_wAdvance (g : Gx) (l : Launch) (hl : l.stackTraces = false) (ad : Nat → Nat) (F : Pic) (f : Nat → Int64) (h60 : F 60000 = some (cJ g 1 f)) {vs : List Value} (h100 : F 100 = some (.inr (7, vs))) (p0 : Int32) {n' mc' ms' : Nat} {K' : Option Value → (Nat → Nat) → Pic → Prop} {KX' : String → (Nat → Nat) → Pic → Prop} (hM : CtX g l yX5_advance cX5_advance 2 (some .int) n' mc' ms' [.ref (ad 100), .int p0] ad F K' KX') (hn' : n' ≤ 10) (hv : ∀ v ad' F', K' v ad' F' → (∃ x, v = some (.int x)) ∧ F' 60000 = F 60000 ∧ ad' 60000 = ad 60000) (hE : ∀ E ad' F', KX' E ad' F' → E = xIA) : Ctw g l yL_advance cL_advance 4 (some .int) [(0, 9, 12, 13)] 11 mc' ms' [.ref (ad 100), .int p0, .ref (ad 60000)] ad F (WK g K' KX' [(xIA, 1)]) := by
  refine Ctw_of hl rfl [some (.ref (ad 100)), some (.int p0), some (.ref (ad 60000)), none] (Nat.le_of_ble_eq_true rfl) (fun _ h => h) ?_
  intro M hL hN X
  subst hL
  refine r_aload_n X dL_advance_0 (by rfl) ?_
  refine r_iconst X dL_advance_1 rfl ?_
  refine r_aload_n X dL_advance_2 (by rfl) ?_
  refine r_iload_n X dL_advance_3 (by rfl) ?_
  refine r_callVXC X dL_advance_4 kL_30 hM h100 rfl rfl (by rfl) (by rfl) (by exact Nat.le_of_ble_eq_true rfl) (by omega) (by decide) (by omega) (by omega) (fun E ad' F' hK => ?_) (fun v ad' F' hK => ?_)
  · obtain rfl := hE E ad' F' hK
    refine ⟨12, ⟨[], ⟨0, 9, 12, 13⟩, _, rfl, (fun z hz => by cases hz), rfl, by decide, ww 749 rfl rfl, cau_IA X, rfl⟩, fun q => ?_⟩
    refine r_astore_n X dL_advance_12 (by rw [hN]; decide) (by rfl) ?_
    dsimp only [List.set]
    refine r_iconst X dL_advance_13 rfl ?_
    exact r_iret X rfl (rfl) dL_advance_14 (.inr ⟨(xIA, 1), List.mem_cons_self, hK, rfl⟩) (by omega) (by omega)
  · obtain ⟨⟨x, rfl⟩, e60, a60⟩ := hv v ad' F' hK
    refine r_i2lG X dL_advance_7 ?_
    rw [← a60]
    refine r_lst X 0 dL_advance_8 (e60.trans h60) (by omega) (by rfl) (by omega) (by first | decide | omega) ?_
    refine r_goto X dL_advance_9 15 (by decide) ?_
    refine r_iconst X dL_advance_15 rfl ?_
    exact r_iret X rfl (rfl) dL_advance_16 (.inl ⟨rfl, F', x, f, hK, rfl⟩) (by omega) (by omega)
set_option maxRecDepth 100000 in
theorem cw_addCost : Cond.codeWith yL_addCost cL_addCost 6 (some .int) [(0, 12, 15, 13), (0, 12, 19, 15)] ∈ WS := ww 895 rfl rfl
set_option maxRecDepth 100000 in
set_option maxHeartbeats 4000000 in
theorem c_wAddCost (g : Gx) (l : Launch) (hl : l.stackTraces = false) (ad : Nat → Nat) (F : Pic) (f : Nat → Int64) (h60 : F 60000 = some (cJ g 1 f)) {vs : List Value} (h100 : F 100 = some (.inr (7, vs))) (p0 p1 p2 : Int32) {n' mc' ms' : Nat} {K' : Option Value → (Nat → Nat) → Pic → Prop} {KX' : String → (Nat → Nat) → Pic → Prop} (hM : CtX g l yX5_addCost cX5_addCost 4 (some .int) n' mc' ms' [.ref (ad 100), .int p0, .int p1, .int p2] ad F K' KX') (hn' : n' ≤ 10) (hv : ∀ v ad' F', K' v ad' F' → (∃ x, v = some (.int x)) ∧ F' 60000 = F 60000 ∧ ad' 60000 = ad 60000) (hE : ∀ E ad' F', KX' E ad' F' → E = xIA ∨ E = xIS) : Ctw g l yL_addCost cL_addCost 6 (some .int) [(0, 12, 15, 13), (0, 12, 19, 15)] 11 mc' ms' [.ref (ad 100), .int p0, .int p1, .int p2, .ref (ad 60000)] ad F (WK g K' KX' [(xIA, 1), (xIS, 2)]) := by
  refine Ctw_of hl rfl [some (.ref (ad 100)), some (.int p0), some (.int p1), some (.int p2), some (.ref (ad 60000)), none] (Nat.le_of_ble_eq_true rfl) (fun _ h => h) ?_
  intro M hL hN X
  subst hL
  refine r_aload X dL_addCost_0 (by rfl) ?_
  refine r_iconst X dL_addCost_2 rfl ?_
  refine r_aload_n X dL_addCost_3 (by rfl) ?_
  refine r_iload_n X dL_addCost_4 (by rfl) ?_
  refine r_iload_n X dL_addCost_5 (by rfl) ?_
  refine r_iload_n X dL_addCost_6 (by rfl) ?_
  refine r_callVXC X dL_addCost_7 kL_33 hM h100 rfl rfl (by rfl) (by rfl) (by exact Nat.le_of_ble_eq_true rfl) (by omega) (by decide) (by omega) (by omega) (fun E ad' F' hK => ?_) (fun v ad' F' hK => ?_)
  · rcases hE E ad' F' hK with rfl | rfl
    · refine ⟨15, ⟨[], ⟨0, 12, 15, 13⟩, _, rfl, (fun z hz => by cases hz), rfl, by decide, ww 749 rfl rfl, cau_IA X, rfl⟩, fun q => ?_⟩
      refine r_astore X dL_addCost_15 (by rw [hN]; decide) (by rfl) ?_
      dsimp only [List.set]
      refine r_iconst X dL_addCost_17 rfl ?_
      exact r_iret X rfl (rfl) dL_addCost_18 (.inr ⟨(xIA, 1), List.mem_cons_self, hK, rfl⟩) (by omega) (by omega)
    · refine ⟨19, ⟨[⟨0, 12, 15, 13⟩], ⟨0, 12, 19, 15⟩, _, rfl, (fun z hz => by rw [List.mem_singleton.mp hz]; exact ⟨by decide, _, ww 749 rfl rfl, cau_SA X⟩), rfl, by decide, ww 750 rfl rfl, cau_IS X, rfl⟩, fun q => ?_⟩
      refine r_astore X dL_addCost_19 (by rw [hN]; decide) (by rfl) ?_
      dsimp only [List.set]
      refine r_iconst X dL_addCost_21 rfl ?_
      exact r_iret X rfl (rfl) dL_addCost_22 (.inr ⟨(xIS, 2), List.mem_cons_of_mem _ List.mem_cons_self, hK, rfl⟩) (by omega) (by omega)
  · obtain ⟨⟨x, rfl⟩, e60, a60⟩ := hv v ad' F' hK
    refine r_i2lG X dL_addCost_10 ?_
    rw [← a60]
    refine r_lst X 0 dL_addCost_11 (e60.trans h60) (by omega) (by rfl) (by omega) (by first | decide | omega) ?_
    refine r_goto X dL_addCost_12 23 (by decide) ?_
    refine r_iconst X dL_addCost_23 rfl ?_
    exact r_iret X rfl (rfl) dL_addCost_24 (.inl ⟨rfl, F', x, f, hK, rfl⟩) (by omega) (by omega)
set_option maxRecDepth 100000 in
theorem cw_chargeOverhead : Cond.codeWith yL_chargeOverhead cL_chargeOverhead 4 (some .int) [(0, 9, 12, 13)] ∈ WS := ww 925 rfl rfl
set_option maxRecDepth 100000 in
set_option maxHeartbeats 4000000 in
theorem c_wChargeOverhead (g : Gx) (l : Launch) (hl : l.stackTraces = false) (ad : Nat → Nat) (F : Pic) (f : Nat → Int64) (h60 : F 60000 = some (cJ g 1 f)) {vs : List Value} (h100 : F 100 = some (.inr (7, vs))) (p0 : Int32) {n' mc' ms' : Nat} {K' : Option Value → (Nat → Nat) → Pic → Prop} {KX' : String → (Nat → Nat) → Pic → Prop} (hM : CtX g l yX5_chargeOverhead cX5_chargeOverhead 6 (some .int) n' mc' ms' [.ref (ad 100), .int p0] ad F K' KX') (hn' : n' ≤ 10) (hv : ∀ v ad' F', K' v ad' F' → (∃ x, v = some (.int x)) ∧ F' 60000 = F 60000 ∧ ad' 60000 = ad 60000) (hE : ∀ E ad' F', KX' E ad' F' → E = xIA) : Ctw g l yL_chargeOverhead cL_chargeOverhead 4 (some .int) [(0, 9, 12, 13)] 11 mc' ms' [.ref (ad 100), .int p0, .ref (ad 60000)] ad F (WK g K' KX' [(xIA, 1)]) := by
  refine Ctw_of hl rfl [some (.ref (ad 100)), some (.int p0), some (.ref (ad 60000)), none] (Nat.le_of_ble_eq_true rfl) (fun _ h => h) ?_
  intro M hL hN X
  subst hL
  refine r_aload_n X dL_chargeOverhead_0 (by rfl) ?_
  refine r_iconst X dL_chargeOverhead_1 rfl ?_
  refine r_aload_n X dL_chargeOverhead_2 (by rfl) ?_
  refine r_iload_n X dL_chargeOverhead_3 (by rfl) ?_
  refine r_callVXC X dL_chargeOverhead_4 kL_37 hM h100 rfl rfl (by rfl) (by rfl) (by exact Nat.le_of_ble_eq_true rfl) (by omega) (by decide) (by omega) (by omega) (fun E ad' F' hK => ?_) (fun v ad' F' hK => ?_)
  · obtain rfl := hE E ad' F' hK
    refine ⟨12, ⟨[], ⟨0, 9, 12, 13⟩, _, rfl, (fun z hz => by cases hz), rfl, by decide, ww 749 rfl rfl, cau_IA X, rfl⟩, fun q => ?_⟩
    refine r_astore_n X dL_chargeOverhead_12 (by rw [hN]; decide) (by rfl) ?_
    dsimp only [List.set]
    refine r_iconst X dL_chargeOverhead_13 rfl ?_
    exact r_iret X rfl (rfl) dL_chargeOverhead_14 (.inr ⟨(xIA, 1), List.mem_cons_self, hK, rfl⟩) (by omega) (by omega)
  · obtain ⟨⟨x, rfl⟩, e60, a60⟩ := hv v ad' F' hK
    refine r_i2lG X dL_chargeOverhead_7 ?_
    rw [← a60]
    refine r_lst X 0 dL_chargeOverhead_8 (e60.trans h60) (by omega) (by rfl) (by omega) (by first | decide | omega) ?_
    refine r_goto X dL_chargeOverhead_9 15 (by decide) ?_
    refine r_iconst X dL_chargeOverhead_15 rfl ?_
    exact r_iret X rfl (rfl) dL_chargeOverhead_16 (.inl ⟨rfl, F', x, f, hK, rfl⟩) (by omega) (by omega)
set_option maxRecDepth 100000 in
theorem cw_freeOf : Cond.codeWith yL_freeOf cL_freeOf 4 (some .int) [(0, 9, 12, 21)] ∈ WS := ww 957 rfl rfl
set_option maxRecDepth 100000 in
set_option maxHeartbeats 4000000 in
theorem c_wFreeOf (g : Gx) (l : Launch) (hl : l.stackTraces = false) (ad : Nat → Nat) (F : Pic) (f : Nat → Int64) (h60 : F 60000 = some (cJ g 1 f)) {vs : List Value} (h100 : F 100 = some (.inr (7, vs))) (p0 : Int32) {n' mc' ms' : Nat} {K' : Option Value → (Nat → Nat) → Pic → Prop} {KX' : String → (Nat → Nat) → Pic → Prop} (hM : CtX g l yX5_freeOf cX5_freeOf 2 (some .int) n' mc' ms' [.ref (ad 100), .int p0] ad F K' KX') (hn' : n' ≤ 10) (hv : ∀ v ad' F', K' v ad' F' → (∃ x, v = some (.int x)) ∧ F' 60000 = F 60000 ∧ ad' 60000 = ad 60000) (hE : ∀ E ad' F', KX' E ad' F' → E = xIO) : Ctw g l yL_freeOf cL_freeOf 4 (some .int) [(0, 9, 12, 21)] 11 mc' ms' [.ref (ad 100), .int p0, .ref (ad 60000)] ad F (WK g K' KX' [(xIO, 1)]) := by
  refine Ctw_of hl rfl [some (.ref (ad 100)), some (.int p0), some (.ref (ad 60000)), none] (Nat.le_of_ble_eq_true rfl) (fun _ h => h) ?_
  intro M hL hN X
  subst hL
  refine r_aload_n X dL_freeOf_0 (by rfl) ?_
  refine r_iconst X dL_freeOf_1 rfl ?_
  refine r_aload_n X dL_freeOf_2 (by rfl) ?_
  refine r_iload_n X dL_freeOf_3 (by rfl) ?_
  refine r_callVXC X dL_freeOf_4 kL_40 hM h100 rfl rfl (by rfl) (by rfl) (by exact Nat.le_of_ble_eq_true rfl) (by omega) (by decide) (by omega) (by omega) (fun E ad' F' hK => ?_) (fun v ad' F' hK => ?_)
  · obtain rfl := hE E ad' F' hK
    refine ⟨12, ⟨[], ⟨0, 9, 12, 21⟩, _, rfl, (fun z hz => by cases hz), rfl, by decide, ww 833 rfl rfl, cau_IO X, rfl⟩, fun q => ?_⟩
    refine r_astore_n X dL_freeOf_12 (by rw [hN]; decide) (by rfl) ?_
    dsimp only [List.set]
    refine r_iconst X dL_freeOf_13 rfl ?_
    exact r_iret X rfl (rfl) dL_freeOf_14 (.inr ⟨(xIO, 1), List.mem_cons_self, hK, rfl⟩) (by omega) (by omega)
  · obtain ⟨⟨x, rfl⟩, e60, a60⟩ := hv v ad' F' hK
    refine r_i2lG X dL_freeOf_7 ?_
    rw [← a60]
    refine r_lst X 0 dL_freeOf_8 (e60.trans h60) (by omega) (by rfl) (by omega) (by first | decide | omega) ?_
    refine r_goto X dL_freeOf_9 15 (by decide) ?_
    refine r_iconst X dL_freeOf_15 rfl ?_
    exact r_iret X rfl (rfl) dL_freeOf_16 (.inl ⟨rfl, F', x, f, hK, rfl⟩) (by omega) (by omega)
set_option maxRecDepth 100000 in
theorem cw_committedOf : Cond.codeWith yL_committedOf cL_committedOf 4 (some .int) [(0, 9, 12, 21)] ∈ WS := ww 964 rfl rfl
set_option maxRecDepth 100000 in
set_option maxHeartbeats 4000000 in
theorem c_wCommittedOf (g : Gx) (l : Launch) (hl : l.stackTraces = false) (ad : Nat → Nat) (F : Pic) (f : Nat → Int64) (h60 : F 60000 = some (cJ g 1 f)) {vs : List Value} (h100 : F 100 = some (.inr (7, vs))) (p0 : Int32) {n' mc' ms' : Nat} {K' : Option Value → (Nat → Nat) → Pic → Prop} {KX' : String → (Nat → Nat) → Pic → Prop} (hM : CtX g l yX5_committedOf cX5_committedOf 6 (some .int) n' mc' ms' [.ref (ad 100), .int p0] ad F K' KX') (hn' : n' ≤ 10) (hv : ∀ v ad' F', K' v ad' F' → (∃ x, v = some (.int x)) ∧ F' 60000 = F 60000 ∧ ad' 60000 = ad 60000) (hE : ∀ E ad' F', KX' E ad' F' → E = xIO) : Ctw g l yL_committedOf cL_committedOf 4 (some .int) [(0, 9, 12, 21)] 11 mc' ms' [.ref (ad 100), .int p0, .ref (ad 60000)] ad F (WK g K' KX' [(xIO, 1)]) := by
  refine Ctw_of hl rfl [some (.ref (ad 100)), some (.int p0), some (.ref (ad 60000)), none] (Nat.le_of_ble_eq_true rfl) (fun _ h => h) ?_
  intro M hL hN X
  subst hL
  refine r_aload_n X dL_committedOf_0 (by rfl) ?_
  refine r_iconst X dL_committedOf_1 rfl ?_
  refine r_aload_n X dL_committedOf_2 (by rfl) ?_
  refine r_iload_n X dL_committedOf_3 (by rfl) ?_
  refine r_callVXC X dL_committedOf_4 kL_43 hM h100 rfl rfl (by rfl) (by rfl) (by exact Nat.le_of_ble_eq_true rfl) (by omega) (by decide) (by omega) (by omega) (fun E ad' F' hK => ?_) (fun v ad' F' hK => ?_)
  · obtain rfl := hE E ad' F' hK
    refine ⟨12, ⟨[], ⟨0, 9, 12, 21⟩, _, rfl, (fun z hz => by cases hz), rfl, by decide, ww 833 rfl rfl, cau_IO X, rfl⟩, fun q => ?_⟩
    refine r_astore_n X dL_committedOf_12 (by rw [hN]; decide) (by rfl) ?_
    dsimp only [List.set]
    refine r_iconst X dL_committedOf_13 rfl ?_
    exact r_iret X rfl (rfl) dL_committedOf_14 (.inr ⟨(xIO, 1), List.mem_cons_self, hK, rfl⟩) (by omega) (by omega)
  · obtain ⟨⟨x, rfl⟩, e60, a60⟩ := hv v ad' F' hK
    refine r_i2lG X dL_committedOf_7 ?_
    rw [← a60]
    refine r_lst X 0 dL_committedOf_8 (e60.trans h60) (by omega) (by rfl) (by omega) (by first | decide | omega) ?_
    refine r_goto X dL_committedOf_9 15 (by decide) ?_
    refine r_iconst X dL_committedOf_15 rfl ?_
    exact r_iret X rfl (rfl) dL_committedOf_16 (.inl ⟨rfl, F', x, f, hK, rfl⟩) (by omega) (by omega)
set_option maxRecDepth 100000 in
theorem cw_directOf : Cond.codeWith yL_directOf cL_directOf 4 (some .int) [(0, 9, 12, 21)] ∈ WS := ww 971 rfl rfl
set_option maxRecDepth 100000 in
set_option maxHeartbeats 4000000 in
theorem c_wDirectOf (g : Gx) (l : Launch) (hl : l.stackTraces = false) (ad : Nat → Nat) (F : Pic) (f : Nat → Int64) (h60 : F 60000 = some (cJ g 1 f)) {vs : List Value} (h100 : F 100 = some (.inr (7, vs))) (p0 : Int32) {n' mc' ms' : Nat} {K' : Option Value → (Nat → Nat) → Pic → Prop} {KX' : String → (Nat → Nat) → Pic → Prop} (hM : CtX g l yX5_directOf cX5_directOf 2 (some .int) n' mc' ms' [.ref (ad 100), .int p0] ad F K' KX') (hn' : n' ≤ 10) (hv : ∀ v ad' F', K' v ad' F' → (∃ x, v = some (.int x)) ∧ F' 60000 = F 60000 ∧ ad' 60000 = ad 60000) (hE : ∀ E ad' F', KX' E ad' F' → E = xIO) : Ctw g l yL_directOf cL_directOf 4 (some .int) [(0, 9, 12, 21)] 11 mc' ms' [.ref (ad 100), .int p0, .ref (ad 60000)] ad F (WK g K' KX' [(xIO, 1)]) := by
  refine Ctw_of hl rfl [some (.ref (ad 100)), some (.int p0), some (.ref (ad 60000)), none] (Nat.le_of_ble_eq_true rfl) (fun _ h => h) ?_
  intro M hL hN X
  subst hL
  refine r_aload_n X dL_directOf_0 (by rfl) ?_
  refine r_iconst X dL_directOf_1 rfl ?_
  refine r_aload_n X dL_directOf_2 (by rfl) ?_
  refine r_iload_n X dL_directOf_3 (by rfl) ?_
  refine r_callVXC X dL_directOf_4 kL_46 hM h100 rfl rfl (by rfl) (by rfl) (by exact Nat.le_of_ble_eq_true rfl) (by omega) (by decide) (by omega) (by omega) (fun E ad' F' hK => ?_) (fun v ad' F' hK => ?_)
  · obtain rfl := hE E ad' F' hK
    refine ⟨12, ⟨[], ⟨0, 9, 12, 21⟩, _, rfl, (fun z hz => by cases hz), rfl, by decide, ww 833 rfl rfl, cau_IO X, rfl⟩, fun q => ?_⟩
    refine r_astore_n X dL_directOf_12 (by rw [hN]; decide) (by rfl) ?_
    dsimp only [List.set]
    refine r_iconst X dL_directOf_13 rfl ?_
    exact r_iret X rfl (rfl) dL_directOf_14 (.inr ⟨(xIO, 1), List.mem_cons_self, hK, rfl⟩) (by omega) (by omega)
  · obtain ⟨⟨x, rfl⟩, e60, a60⟩ := hv v ad' F' hK
    refine r_i2lG X dL_directOf_7 ?_
    rw [← a60]
    refine r_lst X 0 dL_directOf_8 (e60.trans h60) (by omega) (by rfl) (by omega) (by first | decide | omega) ?_
    refine r_goto X dL_directOf_9 15 (by decide) ?_
    refine r_iconst X dL_directOf_15 rfl ?_
    exact r_iret X rfl (rfl) dL_directOf_16 (.inl ⟨rfl, F', x, f, hK, rfl⟩) (by omega) (by omega)
set_option maxRecDepth 100000 in
theorem cw_overheadOf : Cond.codeWith yL_overheadOf cL_overheadOf 4 (some .int) [(0, 9, 12, 21)] ∈ WS := ww 978 rfl rfl
set_option maxRecDepth 100000 in
set_option maxHeartbeats 4000000 in
theorem c_wOverheadOf (g : Gx) (l : Launch) (hl : l.stackTraces = false) (ad : Nat → Nat) (F : Pic) (f : Nat → Int64) (h60 : F 60000 = some (cJ g 1 f)) {vs : List Value} (h100 : F 100 = some (.inr (7, vs))) (p0 : Int32) {n' mc' ms' : Nat} {K' : Option Value → (Nat → Nat) → Pic → Prop} {KX' : String → (Nat → Nat) → Pic → Prop} (hM : CtX g l yX5_overheadOf cX5_overheadOf 2 (some .int) n' mc' ms' [.ref (ad 100), .int p0] ad F K' KX') (hn' : n' ≤ 10) (hv : ∀ v ad' F', K' v ad' F' → (∃ x, v = some (.int x)) ∧ F' 60000 = F 60000 ∧ ad' 60000 = ad 60000) (hE : ∀ E ad' F', KX' E ad' F' → E = xIO) : Ctw g l yL_overheadOf cL_overheadOf 4 (some .int) [(0, 9, 12, 21)] 11 mc' ms' [.ref (ad 100), .int p0, .ref (ad 60000)] ad F (WK g K' KX' [(xIO, 1)]) := by
  refine Ctw_of hl rfl [some (.ref (ad 100)), some (.int p0), some (.ref (ad 60000)), none] (Nat.le_of_ble_eq_true rfl) (fun _ h => h) ?_
  intro M hL hN X
  subst hL
  refine r_aload_n X dL_overheadOf_0 (by rfl) ?_
  refine r_iconst X dL_overheadOf_1 rfl ?_
  refine r_aload_n X dL_overheadOf_2 (by rfl) ?_
  refine r_iload_n X dL_overheadOf_3 (by rfl) ?_
  refine r_callVXC X dL_overheadOf_4 kL_49 hM h100 rfl rfl (by rfl) (by rfl) (by exact Nat.le_of_ble_eq_true rfl) (by omega) (by decide) (by omega) (by omega) (fun E ad' F' hK => ?_) (fun v ad' F' hK => ?_)
  · obtain rfl := hE E ad' F' hK
    refine ⟨12, ⟨[], ⟨0, 9, 12, 21⟩, _, rfl, (fun z hz => by cases hz), rfl, by decide, ww 833 rfl rfl, cau_IO X, rfl⟩, fun q => ?_⟩
    refine r_astore_n X dL_overheadOf_12 (by rw [hN]; decide) (by rfl) ?_
    dsimp only [List.set]
    refine r_iconst X dL_overheadOf_13 rfl ?_
    exact r_iret X rfl (rfl) dL_overheadOf_14 (.inr ⟨(xIO, 1), List.mem_cons_self, hK, rfl⟩) (by omega) (by omega)
  · obtain ⟨⟨x, rfl⟩, e60, a60⟩ := hv v ad' F' hK
    refine r_i2lG X dL_overheadOf_7 ?_
    rw [← a60]
    refine r_lst X 0 dL_overheadOf_8 (e60.trans h60) (by omega) (by rfl) (by omega) (by first | decide | omega) ?_
    refine r_goto X dL_overheadOf_9 15 (by decide) ?_
    refine r_iconst X dL_overheadOf_15 rfl ?_
    exact r_iret X rfl (rfl) dL_overheadOf_16 (.inl ⟨rfl, F', x, f, hK, rfl⟩) (by omega) (by omega)
set_option maxRecDepth 100000 in
theorem cw_roomOf : Cond.codeWith yL_roomOf cL_roomOf 4 (some .int) [(0, 9, 12, 21)] ∈ WS := ww 985 rfl rfl
set_option maxRecDepth 100000 in
set_option maxHeartbeats 4000000 in
theorem c_wRoomOf (g : Gx) (l : Launch) (hl : l.stackTraces = false) (ad : Nat → Nat) (F : Pic) (f : Nat → Int64) (h60 : F 60000 = some (cJ g 1 f)) {vs : List Value} (h100 : F 100 = some (.inr (7, vs))) (p0 : Int32) {n' mc' ms' : Nat} {K' : Option Value → (Nat → Nat) → Pic → Prop} {KX' : String → (Nat → Nat) → Pic → Prop} (hM : CtX g l yX5_roomOf cX5_roomOf 2 (some .int) n' mc' ms' [.ref (ad 100), .int p0] ad F K' KX') (hn' : n' ≤ 10) (hv : ∀ v ad' F', K' v ad' F' → (∃ x, v = some (.int x)) ∧ F' 60000 = F 60000 ∧ ad' 60000 = ad 60000) (hE : ∀ E ad' F', KX' E ad' F' → E = xIO) : Ctw g l yL_roomOf cL_roomOf 4 (some .int) [(0, 9, 12, 21)] 11 mc' ms' [.ref (ad 100), .int p0, .ref (ad 60000)] ad F (WK g K' KX' [(xIO, 1)]) := by
  refine Ctw_of hl rfl [some (.ref (ad 100)), some (.int p0), some (.ref (ad 60000)), none] (Nat.le_of_ble_eq_true rfl) (fun _ h => h) ?_
  intro M hL hN X
  subst hL
  refine r_aload_n X dL_roomOf_0 (by rfl) ?_
  refine r_iconst X dL_roomOf_1 rfl ?_
  refine r_aload_n X dL_roomOf_2 (by rfl) ?_
  refine r_iload_n X dL_roomOf_3 (by rfl) ?_
  refine r_callVXC X dL_roomOf_4 kL_52 hM h100 rfl rfl (by rfl) (by rfl) (by exact Nat.le_of_ble_eq_true rfl) (by omega) (by decide) (by omega) (by omega) (fun E ad' F' hK => ?_) (fun v ad' F' hK => ?_)
  · obtain rfl := hE E ad' F' hK
    refine ⟨12, ⟨[], ⟨0, 9, 12, 21⟩, _, rfl, (fun z hz => by cases hz), rfl, by decide, ww 833 rfl rfl, cau_IO X, rfl⟩, fun q => ?_⟩
    refine r_astore_n X dL_roomOf_12 (by rw [hN]; decide) (by rfl) ?_
    dsimp only [List.set]
    refine r_iconst X dL_roomOf_13 rfl ?_
    exact r_iret X rfl (rfl) dL_roomOf_14 (.inr ⟨(xIO, 1), List.mem_cons_self, hK, rfl⟩) (by omega) (by omega)
  · obtain ⟨⟨x, rfl⟩, e60, a60⟩ := hv v ad' F' hK
    refine r_i2lG X dL_roomOf_7 ?_
    rw [← a60]
    refine r_lst X 0 dL_roomOf_8 (e60.trans h60) (by omega) (by rfl) (by omega) (by first | decide | omega) ?_
    refine r_goto X dL_roomOf_9 15 (by decide) ?_
    refine r_iconst X dL_roomOf_15 rfl ?_
    exact r_iret X rfl (rfl) dL_roomOf_16 (.inl ⟨rfl, F', x, f, hK, rfl⟩) (by omega) (by omega)
set_option maxRecDepth 100000 in
theorem cw_fundOf : Cond.codeWith yL_fundOf cL_fundOf 4 (some .int) [(0, 9, 12, 21)] ∈ WS := ww 992 rfl rfl
set_option maxRecDepth 100000 in
set_option maxHeartbeats 4000000 in
theorem c_wFundOf (g : Gx) (l : Launch) (hl : l.stackTraces = false) (ad : Nat → Nat) (F : Pic) (f : Nat → Int64) (h60 : F 60000 = some (cJ g 1 f)) {vs : List Value} (h100 : F 100 = some (.inr (7, vs))) (p0 : Int32) {n' mc' ms' : Nat} {K' : Option Value → (Nat → Nat) → Pic → Prop} {KX' : String → (Nat → Nat) → Pic → Prop} (hM : CtX g l yX5_fundOf cX5_fundOf 2 (some .int) n' mc' ms' [.ref (ad 100), .int p0] ad F K' KX') (hn' : n' ≤ 10) (hv : ∀ v ad' F', K' v ad' F' → (∃ x, v = some (.int x)) ∧ F' 60000 = F 60000 ∧ ad' 60000 = ad 60000) (hE : ∀ E ad' F', KX' E ad' F' → E = xIO) : Ctw g l yL_fundOf cL_fundOf 4 (some .int) [(0, 9, 12, 21)] 11 mc' ms' [.ref (ad 100), .int p0, .ref (ad 60000)] ad F (WK g K' KX' [(xIO, 1)]) := by
  refine Ctw_of hl rfl [some (.ref (ad 100)), some (.int p0), some (.ref (ad 60000)), none] (Nat.le_of_ble_eq_true rfl) (fun _ h => h) ?_
  intro M hL hN X
  subst hL
  refine r_aload_n X dL_fundOf_0 (by rfl) ?_
  refine r_iconst X dL_fundOf_1 rfl ?_
  refine r_aload_n X dL_fundOf_2 (by rfl) ?_
  refine r_iload_n X dL_fundOf_3 (by rfl) ?_
  refine r_callVXC X dL_fundOf_4 kL_55 hM h100 rfl rfl (by rfl) (by rfl) (by exact Nat.le_of_ble_eq_true rfl) (by omega) (by decide) (by omega) (by omega) (fun E ad' F' hK => ?_) (fun v ad' F' hK => ?_)
  · obtain rfl := hE E ad' F' hK
    refine ⟨12, ⟨[], ⟨0, 9, 12, 21⟩, _, rfl, (fun z hz => by cases hz), rfl, by decide, ww 833 rfl rfl, cau_IO X, rfl⟩, fun q => ?_⟩
    refine r_astore_n X dL_fundOf_12 (by rw [hN]; decide) (by rfl) ?_
    dsimp only [List.set]
    refine r_iconst X dL_fundOf_13 rfl ?_
    exact r_iret X rfl (rfl) dL_fundOf_14 (.inr ⟨(xIO, 1), List.mem_cons_self, hK, rfl⟩) (by omega) (by omega)
  · obtain ⟨⟨x, rfl⟩, e60, a60⟩ := hv v ad' F' hK
    refine r_i2lG X dL_fundOf_7 ?_
    rw [← a60]
    refine r_lst X 0 dL_fundOf_8 (e60.trans h60) (by omega) (by rfl) (by omega) (by first | decide | omega) ?_
    refine r_goto X dL_fundOf_9 15 (by decide) ?_
    refine r_iconst X dL_fundOf_15 rfl ?_
    exact r_iret X rfl (rfl) dL_fundOf_16 (.inl ⟨rfl, F', x, f, hK, rfl⟩) (by omega) (by omega)
set_option maxRecDepth 100000 in
theorem cw_leftOf : Cond.codeWith yL_leftOf cL_leftOf 4 (some .int) [(0, 9, 12, 21)] ∈ WS := ww 999 rfl rfl
set_option maxRecDepth 100000 in
set_option maxHeartbeats 4000000 in
theorem c_wLeftOf (g : Gx) (l : Launch) (hl : l.stackTraces = false) (ad : Nat → Nat) (F : Pic) (f : Nat → Int64) (h60 : F 60000 = some (cJ g 1 f)) {vs : List Value} (h100 : F 100 = some (.inr (7, vs))) (p0 : Int32) {n' mc' ms' : Nat} {K' : Option Value → (Nat → Nat) → Pic → Prop} {KX' : String → (Nat → Nat) → Pic → Prop} (hM : CtX g l yX5_leftOf cX5_leftOf 2 (some .int) n' mc' ms' [.ref (ad 100), .int p0] ad F K' KX') (hn' : n' ≤ 10) (hv : ∀ v ad' F', K' v ad' F' → (∃ x, v = some (.int x)) ∧ F' 60000 = F 60000 ∧ ad' 60000 = ad 60000) (hE : ∀ E ad' F', KX' E ad' F' → E = xIO) : Ctw g l yL_leftOf cL_leftOf 4 (some .int) [(0, 9, 12, 21)] 11 mc' ms' [.ref (ad 100), .int p0, .ref (ad 60000)] ad F (WK g K' KX' [(xIO, 1)]) := by
  refine Ctw_of hl rfl [some (.ref (ad 100)), some (.int p0), some (.ref (ad 60000)), none] (Nat.le_of_ble_eq_true rfl) (fun _ h => h) ?_
  intro M hL hN X
  subst hL
  refine r_aload_n X dL_leftOf_0 (by rfl) ?_
  refine r_iconst X dL_leftOf_1 rfl ?_
  refine r_aload_n X dL_leftOf_2 (by rfl) ?_
  refine r_iload_n X dL_leftOf_3 (by rfl) ?_
  refine r_callVXC X dL_leftOf_4 kL_58 hM h100 rfl rfl (by rfl) (by rfl) (by exact Nat.le_of_ble_eq_true rfl) (by omega) (by decide) (by omega) (by omega) (fun E ad' F' hK => ?_) (fun v ad' F' hK => ?_)
  · obtain rfl := hE E ad' F' hK
    refine ⟨12, ⟨[], ⟨0, 9, 12, 21⟩, _, rfl, (fun z hz => by cases hz), rfl, by decide, ww 833 rfl rfl, cau_IO X, rfl⟩, fun q => ?_⟩
    refine r_astore_n X dL_leftOf_12 (by rw [hN]; decide) (by rfl) ?_
    dsimp only [List.set]
    refine r_iconst X dL_leftOf_13 rfl ?_
    exact r_iret X rfl (rfl) dL_leftOf_14 (.inr ⟨(xIO, 1), List.mem_cons_self, hK, rfl⟩) (by omega) (by omega)
  · obtain ⟨⟨x, rfl⟩, e60, a60⟩ := hv v ad' F' hK
    refine r_i2lG X dL_leftOf_7 ?_
    rw [← a60]
    refine r_lst X 0 dL_leftOf_8 (e60.trans h60) (by omega) (by rfl) (by omega) (by first | decide | omega) ?_
    refine r_goto X dL_leftOf_9 15 (by decide) ?_
    refine r_iconst X dL_leftOf_15 rfl ?_
    exact r_iret X rfl (rfl) dL_leftOf_16 (.inl ⟨rfl, F', x, f, hK, rfl⟩) (by omega) (by omega)
set_option maxRecDepth 100000 in
theorem cw_untilOf : Cond.codeWith yL_untilOf cL_untilOf 4 (some .int) [(0, 9, 12, 21)] ∈ WS := ww 1006 rfl rfl
set_option maxRecDepth 100000 in
set_option maxHeartbeats 4000000 in
theorem c_wUntilOf (g : Gx) (l : Launch) (hl : l.stackTraces = false) (ad : Nat → Nat) (F : Pic) (f : Nat → Int64) (h60 : F 60000 = some (cJ g 1 f)) {vs : List Value} (h100 : F 100 = some (.inr (7, vs))) (p0 : Int32) {n' mc' ms' : Nat} {K' : Option Value → (Nat → Nat) → Pic → Prop} {KX' : String → (Nat → Nat) → Pic → Prop} (hM : CtX g l yX5_untilOf cX5_untilOf 2 (some .int) n' mc' ms' [.ref (ad 100), .int p0] ad F K' KX') (hn' : n' ≤ 10) (hv : ∀ v ad' F', K' v ad' F' → (∃ x, v = some (.int x)) ∧ F' 60000 = F 60000 ∧ ad' 60000 = ad 60000) (hE : ∀ E ad' F', KX' E ad' F' → E = xIO) : Ctw g l yL_untilOf cL_untilOf 4 (some .int) [(0, 9, 12, 21)] 11 mc' ms' [.ref (ad 100), .int p0, .ref (ad 60000)] ad F (WK g K' KX' [(xIO, 1)]) := by
  refine Ctw_of hl rfl [some (.ref (ad 100)), some (.int p0), some (.ref (ad 60000)), none] (Nat.le_of_ble_eq_true rfl) (fun _ h => h) ?_
  intro M hL hN X
  subst hL
  refine r_aload_n X dL_untilOf_0 (by rfl) ?_
  refine r_iconst X dL_untilOf_1 rfl ?_
  refine r_aload_n X dL_untilOf_2 (by rfl) ?_
  refine r_iload_n X dL_untilOf_3 (by rfl) ?_
  refine r_callVXC X dL_untilOf_4 kL_61 hM h100 rfl rfl (by rfl) (by rfl) (by exact Nat.le_of_ble_eq_true rfl) (by omega) (by decide) (by omega) (by omega) (fun E ad' F' hK => ?_) (fun v ad' F' hK => ?_)
  · obtain rfl := hE E ad' F' hK
    refine ⟨12, ⟨[], ⟨0, 9, 12, 21⟩, _, rfl, (fun z hz => by cases hz), rfl, by decide, ww 833 rfl rfl, cau_IO X, rfl⟩, fun q => ?_⟩
    refine r_astore_n X dL_untilOf_12 (by rw [hN]; decide) (by rfl) ?_
    dsimp only [List.set]
    refine r_iconst X dL_untilOf_13 rfl ?_
    exact r_iret X rfl (rfl) dL_untilOf_14 (.inr ⟨(xIO, 1), List.mem_cons_self, hK, rfl⟩) (by omega) (by omega)
  · obtain ⟨⟨x, rfl⟩, e60, a60⟩ := hv v ad' F' hK
    refine r_i2lG X dL_untilOf_7 ?_
    rw [← a60]
    refine r_lst X 0 dL_untilOf_8 (e60.trans h60) (by omega) (by rfl) (by omega) (by first | decide | omega) ?_
    refine r_goto X dL_untilOf_9 15 (by decide) ?_
    refine r_iconst X dL_untilOf_15 rfl ?_
    exact r_iret X rfl (rfl) dL_untilOf_16 (.inl ⟨rfl, F', x, f, hK, rfl⟩) (by omega) (by omega)
set_option maxRecDepth 100000 in
theorem cw_unpaidOf : Cond.codeWith yL_unpaidOf cL_unpaidOf 4 (some .int) [(0, 9, 12, 21)] ∈ WS := ww 1013 rfl rfl
set_option maxRecDepth 100000 in
set_option maxHeartbeats 4000000 in
theorem c_wUnpaidOf (g : Gx) (l : Launch) (hl : l.stackTraces = false) (ad : Nat → Nat) (F : Pic) (f : Nat → Int64) (h60 : F 60000 = some (cJ g 1 f)) {vs : List Value} (h100 : F 100 = some (.inr (7, vs))) (p0 : Int32) {n' mc' ms' : Nat} {K' : Option Value → (Nat → Nat) → Pic → Prop} {KX' : String → (Nat → Nat) → Pic → Prop} (hM : CtX g l yX5_unpaidOf cX5_unpaidOf 2 (some .int) n' mc' ms' [.ref (ad 100), .int p0] ad F K' KX') (hn' : n' ≤ 10) (hv : ∀ v ad' F', K' v ad' F' → (∃ x, v = some (.int x)) ∧ F' 60000 = F 60000 ∧ ad' 60000 = ad 60000) (hE : ∀ E ad' F', KX' E ad' F' → E = xIO) : Ctw g l yL_unpaidOf cL_unpaidOf 4 (some .int) [(0, 9, 12, 21)] 11 mc' ms' [.ref (ad 100), .int p0, .ref (ad 60000)] ad F (WK g K' KX' [(xIO, 1)]) := by
  refine Ctw_of hl rfl [some (.ref (ad 100)), some (.int p0), some (.ref (ad 60000)), none] (Nat.le_of_ble_eq_true rfl) (fun _ h => h) ?_
  intro M hL hN X
  subst hL
  refine r_aload_n X dL_unpaidOf_0 (by rfl) ?_
  refine r_iconst X dL_unpaidOf_1 rfl ?_
  refine r_aload_n X dL_unpaidOf_2 (by rfl) ?_
  refine r_iload_n X dL_unpaidOf_3 (by rfl) ?_
  refine r_callVXC X dL_unpaidOf_4 kL_64 hM h100 rfl rfl (by rfl) (by rfl) (by exact Nat.le_of_ble_eq_true rfl) (by omega) (by decide) (by omega) (by omega) (fun E ad' F' hK => ?_) (fun v ad' F' hK => ?_)
  · obtain rfl := hE E ad' F' hK
    refine ⟨12, ⟨[], ⟨0, 9, 12, 21⟩, _, rfl, (fun z hz => by cases hz), rfl, by decide, ww 833 rfl rfl, cau_IO X, rfl⟩, fun q => ?_⟩
    refine r_astore_n X dL_unpaidOf_12 (by rw [hN]; decide) (by rfl) ?_
    dsimp only [List.set]
    refine r_iconst X dL_unpaidOf_13 rfl ?_
    exact r_iret X rfl (rfl) dL_unpaidOf_14 (.inr ⟨(xIO, 1), List.mem_cons_self, hK, rfl⟩) (by omega) (by omega)
  · obtain ⟨⟨x, rfl⟩, e60, a60⟩ := hv v ad' F' hK
    refine r_i2lG X dL_unpaidOf_7 ?_
    rw [← a60]
    refine r_lst X 0 dL_unpaidOf_8 (e60.trans h60) (by omega) (by rfl) (by omega) (by first | decide | omega) ?_
    refine r_goto X dL_unpaidOf_9 15 (by decide) ?_
    refine r_iconst X dL_unpaidOf_15 rfl ?_
    exact r_iret X rfl (rfl) dL_unpaidOf_16 (.inl ⟨rfl, F', x, f, hK, rfl⟩) (by omega) (by omega)
set_option maxRecDepth 100000 in
theorem cw_paidBy : Cond.codeWith yL_paidBy cL_paidBy 5 (some .int) [(0, 10, 13, 21)] ∈ WS := ww 1025 rfl rfl
set_option maxRecDepth 100000 in
set_option maxHeartbeats 4000000 in
theorem c_wPaidBy (g : Gx) (l : Launch) (hl : l.stackTraces = false) (ad : Nat → Nat) (F : Pic) (f : Nat → Int64) (h60 : F 60000 = some (cJ g 1 f)) {vs : List Value} (h100 : F 100 = some (.inr (7, vs))) (p0 p1 : Int32) {n' mc' ms' : Nat} {K' : Option Value → (Nat → Nat) → Pic → Prop} {KX' : String → (Nat → Nat) → Pic → Prop} (hM : CtX g l yX5_paidBy cX5_paidBy 4 (some .int) n' mc' ms' [.ref (ad 100), .int p0, .int p1] ad F K' KX') (hn' : n' ≤ 10) (hv : ∀ v ad' F', K' v ad' F' → (∃ x, v = some (.int x)) ∧ F' 60000 = F 60000 ∧ ad' 60000 = ad 60000) (hE : ∀ E ad' F', KX' E ad' F' → E = xIO) : Ctw g l yL_paidBy cL_paidBy 5 (some .int) [(0, 10, 13, 21)] 11 mc' ms' [.ref (ad 100), .int p0, .int p1, .ref (ad 60000)] ad F (WK g K' KX' [(xIO, 1)]) := by
  refine Ctw_of hl rfl [some (.ref (ad 100)), some (.int p0), some (.int p1), some (.ref (ad 60000)), none] (Nat.le_of_ble_eq_true rfl) (fun _ h => h) ?_
  intro M hL hN X
  subst hL
  refine r_aload_n X dL_paidBy_0 (by rfl) ?_
  refine r_iconst X dL_paidBy_1 rfl ?_
  refine r_aload_n X dL_paidBy_2 (by rfl) ?_
  refine r_iload_n X dL_paidBy_3 (by rfl) ?_
  refine r_iload_n X dL_paidBy_4 (by rfl) ?_
  refine r_callVXC X dL_paidBy_5 kL_67 hM h100 rfl rfl (by rfl) (by rfl) (by exact Nat.le_of_ble_eq_true rfl) (by omega) (by decide) (by omega) (by omega) (fun E ad' F' hK => ?_) (fun v ad' F' hK => ?_)
  · obtain rfl := hE E ad' F' hK
    refine ⟨13, ⟨[], ⟨0, 10, 13, 21⟩, _, rfl, (fun z hz => by cases hz), rfl, by decide, ww 833 rfl rfl, cau_IO X, rfl⟩, fun q => ?_⟩
    refine r_astore X dL_paidBy_13 (by rw [hN]; decide) (by rfl) ?_
    dsimp only [List.set]
    refine r_iconst X dL_paidBy_15 rfl ?_
    exact r_iret X rfl (rfl) dL_paidBy_16 (.inr ⟨(xIO, 1), List.mem_cons_self, hK, rfl⟩) (by omega) (by omega)
  · obtain ⟨⟨x, rfl⟩, e60, a60⟩ := hv v ad' F' hK
    refine r_i2lG X dL_paidBy_8 ?_
    rw [← a60]
    refine r_lst X 0 dL_paidBy_9 (e60.trans h60) (by omega) (by rfl) (by omega) (by first | decide | omega) ?_
    refine r_goto X dL_paidBy_10 17 (by decide) ?_
    refine r_iconst X dL_paidBy_17 rfl ?_
    exact r_iret X rfl (rfl) dL_paidBy_18 (.inl ⟨rfl, F', x, f, hK, rfl⟩) (by omega) (by omega)
set_option maxRecDepth 100000 in
theorem cw_wouldPay : Cond.codeWith yL_wouldPay cL_wouldPay 4 (some .int) [(0, 9, 12, 21)] ∈ WS := ww 1036 rfl rfl
set_option maxRecDepth 100000 in
set_option maxHeartbeats 4000000 in
theorem c_wWouldPay (g : Gx) (l : Launch) (hl : l.stackTraces = false) (ad : Nat → Nat) (F : Pic) (f : Nat → Int64) (h60 : F 60000 = some (cJ g 1 f)) {vs : List Value} (h100 : F 100 = some (.inr (7, vs))) (p0 : Int32) {n' mc' ms' : Nat} {K' : Option Value → (Nat → Nat) → Pic → Prop} {KX' : String → (Nat → Nat) → Pic → Prop} (hM : CtX g l yX5_wouldPay cX5_wouldPay 3 (some .int) n' mc' ms' [.ref (ad 100), .int p0] ad F K' KX') (hn' : n' ≤ 10) (hv : ∀ v ad' F', K' v ad' F' → (∃ x, v = some (.int x)) ∧ F' 60000 = F 60000 ∧ ad' 60000 = ad 60000) (hE : ∀ E ad' F', KX' E ad' F' → E = xIO) : Ctw g l yL_wouldPay cL_wouldPay 4 (some .int) [(0, 9, 12, 21)] 11 mc' ms' [.ref (ad 100), .int p0, .ref (ad 60000)] ad F (WK g K' KX' [(xIO, 1)]) := by
  refine Ctw_of hl rfl [some (.ref (ad 100)), some (.int p0), some (.ref (ad 60000)), none] (Nat.le_of_ble_eq_true rfl) (fun _ h => h) ?_
  intro M hL hN X
  subst hL
  refine r_aload_n X dL_wouldPay_0 (by rfl) ?_
  refine r_iconst X dL_wouldPay_1 rfl ?_
  refine r_aload_n X dL_wouldPay_2 (by rfl) ?_
  refine r_iload_n X dL_wouldPay_3 (by rfl) ?_
  refine r_callVXC X dL_wouldPay_4 kL_70 hM h100 rfl rfl (by rfl) (by rfl) (by exact Nat.le_of_ble_eq_true rfl) (by omega) (by decide) (by omega) (by omega) (fun E ad' F' hK => ?_) (fun v ad' F' hK => ?_)
  · obtain rfl := hE E ad' F' hK
    refine ⟨12, ⟨[], ⟨0, 9, 12, 21⟩, _, rfl, (fun z hz => by cases hz), rfl, by decide, ww 833 rfl rfl, cau_IO X, rfl⟩, fun q => ?_⟩
    refine r_astore_n X dL_wouldPay_12 (by rw [hN]; decide) (by rfl) ?_
    dsimp only [List.set]
    refine r_iconst X dL_wouldPay_13 rfl ?_
    exact r_iret X rfl (rfl) dL_wouldPay_14 (.inr ⟨(xIO, 1), List.mem_cons_self, hK, rfl⟩) (by omega) (by omega)
  · obtain ⟨⟨x, rfl⟩, e60, a60⟩ := hv v ad' F' hK
    refine r_i2lG X dL_wouldPay_7 ?_
    rw [← a60]
    refine r_lst X 0 dL_wouldPay_8 (e60.trans h60) (by omega) (by rfl) (by omega) (by first | decide | omega) ?_
    refine r_goto X dL_wouldPay_9 15 (by decide) ?_
    refine r_iconst X dL_wouldPay_15 rfl ?_
    exact r_iret X rfl (rfl) dL_wouldPay_16 (.inl ⟨rfl, F', x, f, hK, rfl⟩) (by omega) (by omega)
set_option maxRecDepth 100000 in
theorem cw_wouldTake : Cond.codeWith yL_wouldTake cL_wouldTake 4 (some .int) [(0, 9, 12, 21)] ∈ WS := ww 1044 rfl rfl
set_option maxRecDepth 100000 in
set_option maxHeartbeats 4000000 in
theorem c_wWouldTake (g : Gx) (l : Launch) (hl : l.stackTraces = false) (ad : Nat → Nat) (F : Pic) (f : Nat → Int64) (h60 : F 60000 = some (cJ g 1 f)) {vs : List Value} (h100 : F 100 = some (.inr (7, vs))) (p0 : Int32) {n' mc' ms' : Nat} {K' : Option Value → (Nat → Nat) → Pic → Prop} {KX' : String → (Nat → Nat) → Pic → Prop} (hM : CtX g l yX5_wouldTake cX5_wouldTake 6 (some .int) n' mc' ms' [.ref (ad 100), .int p0] ad F K' KX') (hn' : n' ≤ 10) (hv : ∀ v ad' F', K' v ad' F' → (∃ x, v = some (.int x)) ∧ F' 60000 = F 60000 ∧ ad' 60000 = ad 60000) (hE : ∀ E ad' F', KX' E ad' F' → E = xIO) : Ctw g l yL_wouldTake cL_wouldTake 4 (some .int) [(0, 9, 12, 21)] 11 mc' ms' [.ref (ad 100), .int p0, .ref (ad 60000)] ad F (WK g K' KX' [(xIO, 1)]) := by
  refine Ctw_of hl rfl [some (.ref (ad 100)), some (.int p0), some (.ref (ad 60000)), none] (Nat.le_of_ble_eq_true rfl) (fun _ h => h) ?_
  intro M hL hN X
  subst hL
  refine r_aload_n X dL_wouldTake_0 (by rfl) ?_
  refine r_iconst X dL_wouldTake_1 rfl ?_
  refine r_aload_n X dL_wouldTake_2 (by rfl) ?_
  refine r_iload_n X dL_wouldTake_3 (by rfl) ?_
  refine r_callVXC X dL_wouldTake_4 kL_73 hM h100 rfl rfl (by rfl) (by rfl) (by exact Nat.le_of_ble_eq_true rfl) (by omega) (by decide) (by omega) (by omega) (fun E ad' F' hK => ?_) (fun v ad' F' hK => ?_)
  · obtain rfl := hE E ad' F' hK
    refine ⟨12, ⟨[], ⟨0, 9, 12, 21⟩, _, rfl, (fun z hz => by cases hz), rfl, by decide, ww 833 rfl rfl, cau_IO X, rfl⟩, fun q => ?_⟩
    refine r_astore_n X dL_wouldTake_12 (by rw [hN]; decide) (by rfl) ?_
    dsimp only [List.set]
    refine r_iconst X dL_wouldTake_13 rfl ?_
    exact r_iret X rfl (rfl) dL_wouldTake_14 (.inr ⟨(xIO, 1), List.mem_cons_self, hK, rfl⟩) (by omega) (by omega)
  · obtain ⟨⟨x, rfl⟩, e60, a60⟩ := hv v ad' F' hK
    refine r_i2lG X dL_wouldTake_7 ?_
    rw [← a60]
    refine r_lst X 0 dL_wouldTake_8 (e60.trans h60) (by omega) (by rfl) (by omega) (by first | decide | omega) ?_
    refine r_goto X dL_wouldTake_9 15 (by decide) ?_
    refine r_iconst X dL_wouldTake_15 rfl ?_
    exact r_iret X rfl (rfl) dL_wouldTake_16 (.inl ⟨rfl, F', x, f, hK, rfl⟩) (by omega) (by omega)
set_option maxRecDepth 100000 in
theorem cw_reason : Cond.codeWith yL_reason cL_reason 4 (some .int) [(0, 9, 12, 21)] ∈ WS := ww 1052 rfl rfl
set_option maxRecDepth 100000 in
set_option maxHeartbeats 4000000 in
theorem c_wReason (g : Gx) (l : Launch) (hl : l.stackTraces = false) (ad : Nat → Nat) (F : Pic) (f : Nat → Int64) (h60 : F 60000 = some (cJ g 1 f)) {vs : List Value} (h100 : F 100 = some (.inr (7, vs))) (p0 : Int32) {n' mc' ms' : Nat} {K' : Option Value → (Nat → Nat) → Pic → Prop} {KX' : String → (Nat → Nat) → Pic → Prop} (hM : CtX g l yX5_reason cX5_reason 3 (some .int) n' mc' ms' [.ref (ad 100), .int p0] ad F K' KX') (hn' : n' ≤ 10) (hv : ∀ v ad' F', K' v ad' F' → (∃ x, v = some (.int x)) ∧ F' 60000 = F 60000 ∧ ad' 60000 = ad 60000) (hE : ∀ E ad' F', KX' E ad' F' → E = xIO) : Ctw g l yL_reason cL_reason 4 (some .int) [(0, 9, 12, 21)] 11 mc' ms' [.ref (ad 100), .int p0, .ref (ad 60000)] ad F (WK g K' KX' [(xIO, 1)]) := by
  refine Ctw_of hl rfl [some (.ref (ad 100)), some (.int p0), some (.ref (ad 60000)), none] (Nat.le_of_ble_eq_true rfl) (fun _ h => h) ?_
  intro M hL hN X
  subst hL
  refine r_aload_n X dL_reason_0 (by rfl) ?_
  refine r_iconst X dL_reason_1 rfl ?_
  refine r_aload_n X dL_reason_2 (by rfl) ?_
  refine r_iload_n X dL_reason_3 (by rfl) ?_
  refine r_callVXC X dL_reason_4 kL_76 hM h100 rfl rfl (by rfl) (by rfl) (by exact Nat.le_of_ble_eq_true rfl) (by omega) (by decide) (by omega) (by omega) (fun E ad' F' hK => ?_) (fun v ad' F' hK => ?_)
  · obtain rfl := hE E ad' F' hK
    refine ⟨12, ⟨[], ⟨0, 9, 12, 21⟩, _, rfl, (fun z hz => by cases hz), rfl, by decide, ww 833 rfl rfl, cau_IO X, rfl⟩, fun q => ?_⟩
    refine r_astore_n X dL_reason_12 (by rw [hN]; decide) (by rfl) ?_
    dsimp only [List.set]
    refine r_iconst X dL_reason_13 rfl ?_
    exact r_iret X rfl (rfl) dL_reason_14 (.inr ⟨(xIO, 1), List.mem_cons_self, hK, rfl⟩) (by omega) (by omega)
  · obtain ⟨⟨x, rfl⟩, e60, a60⟩ := hv v ad' F' hK
    refine r_i2lG X dL_reason_7 ?_
    rw [← a60]
    refine r_lst X 0 dL_reason_8 (e60.trans h60) (by omega) (by rfl) (by omega) (by first | decide | omega) ?_
    refine r_goto X dL_reason_9 15 (by decide) ?_
    refine r_iconst X dL_reason_15 rfl ?_
    exact r_iret X rfl (rfl) dL_reason_16 (.inl ⟨rfl, F', x, f, hK, rfl⟩) (by omega) (by omega)
