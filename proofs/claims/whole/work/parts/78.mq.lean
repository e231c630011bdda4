set_option maxHeartbeats 4000000 in
set_option maxRecDepth 100000 in
theorem c_X12_sequenceLength (l : Launch) (G : GG) {h : Hp} {M : Nat} {m : Md} (K : MdK h M) {t : List Nat} {c : Cmp} {r : Xr} {k : Nat} {ps : Nat → Cmp × Xr} (hS : MSt m t c r k ps) {x : Int32} : Con l G yX12_sequenceLength wsX12_sequenceLength 2 43 0 0 [.ref M, .int x] (Hm h M m) (pI (fun y h2 => y = atI x (xpc r) (fun j => nI (xsq r j).length) (-1) ∧ h2 = Hm h M m)) := by
  refine Con.of (cc := cX12_sequenceLength) (nL := 2) (ret := (some .int)) (by decide) rfl rfl rfl rfl (fun Γ hG hl X Y9 => ?_)
  subst hG
  subst hl
  obtain ⟨hT, hC, hX, ok, hp, hp6, hP⟩ := id hS
  obtain ⟨⟨⟨x1, x2⟩, ⟨x3, x4⟩, x5, x6, x7⟩, ok2, x8, x9⟩ := id ok
  have ok21 := ok2.2.1
  refine V.aload_n X dX12_sequenceLength_0 rfl ?_
  refine V.iload_n X dX12_sequenceLength_1 rfl ?_
  refine V.callVi (n := 1) X dX12_sequenceLength_2 gX12_sequenceLength_X12_isSequence (c_X12_isSequence _ _ K hX.1.2.2.2.2.1 (by omega)) rfl (by decide +kernel) rfl rfl rfl K.1 rfl rfl ⟨Nat.le_of_ble_eq_true rfl, Nat.le_of_ble_eq_true rfl⟩ (fun r2 h2 hp2 => ?_)
  obtain ⟨rfl, e9⟩ := hp2; obtain rfl := e9.symm
  refine V.if_eq 19 X dX12_sequenceLength_5 (by decide) (fun c5 => ?_) (fun c5 => ?_)
  · have c5 := bI_eq c5
    have e8 : (-1 : Int32) = atI x (xpc r) (fun j => nI (xsq r j).length) (-1) := (atI_no c5).symm
    refine V.iconst (v := -1) X dX12_sequenceLength_19 (by decide) ?_
    exact V.iret X Y9 dX12_sequenceLength_20 ⟨e8, rfl⟩ (Nat.le_of_ble_eq_true rfl) (Nat.le_of_ble_eq_true rfl)
  · have c5 := bI_ne c5
    obtain ⟨j, hj, rfl⟩ := ix_of c5 (show xpc r < 2 ^ 31 by omega)
    have e8 : atI (nI j) (xpc r) (fun j => nI (xsq r j).length) (-1) = (fun j => nI (xsq r j).length) j := atI_yes hj (show xpc r < 2 ^ 31 by omega)
    refine V.aload_n X dX12_sequenceLength_8 rfl ?_
    refine V.sipush (v := nI 278) X dX12_sequenceLength_9 (by decide) ?_
    refine V.iload_n X dX12_sequenceLength_12 rfl ?_
    refine V.callVi (n := 2) X dX12_sequenceLength_13 gX12_sequenceLength_X12_lengthOf (c_X12_lengthOf _ _ K (by omega)) rfl (by decide +kernel) rfl rfl rfl K.1 rfl rfl ⟨Nat.le_of_ble_eq_true rfl, Nat.le_of_ble_eq_true rfl⟩ (fun r13 h13 hp13 => ?_)
    obtain ⟨rfl, e9⟩ := hp13; obtain rfl := e9.symm
    rw [(hX.2.1 j hj).1]
    refine V.goto 20 X dX12_sequenceLength_16 (by decide) ?_
    exact V.iret X Y9 dX12_sequenceLength_20 ⟨e8.symm, rfl⟩ (Nat.le_of_ble_eq_true rfl) (Nat.le_of_ble_eq_true rfl)
set_option maxHeartbeats 4000000 in
set_option maxRecDepth 100000 in
theorem c_X12_failureLength (l : Launch) (G : GG) {h : Hp} {M : Nat} {m : Md} (K : MdK h M) {t : List Nat} {c : Cmp} {r : Xr} {k : Nat} {ps : Nat → Cmp × Xr} (hS : MSt m t c r k ps) {x : Int32} : Con l G yX12_failureLength wsX12_failureLength 2 43 0 0 [.ref M, .int x] (Hm h M m) (pI (fun y h2 => y = atI x (xfl r) (fun j => nI (xfs r j).length) (-1) ∧ h2 = Hm h M m)) := by
  refine Con.of (cc := cX12_failureLength) (nL := 2) (ret := (some .int)) (by decide) rfl rfl rfl rfl (fun Γ hG hl X Y9 => ?_)
  subst hG
  subst hl
  obtain ⟨hT, hC, hX, ok, hp, hp6, hP⟩ := id hS
  obtain ⟨⟨⟨x1, x2⟩, ⟨x3, x4⟩, x5, x6, x7⟩, ok2, x8, x9⟩ := id ok
  have ok21 := ok2.2.1
  refine V.aload_n X dX12_failureLength_0 rfl ?_
  refine V.iload_n X dX12_failureLength_1 rfl ?_
  refine V.callVi (n := 1) X dX12_failureLength_2 gX12_failureLength_X12_isFailure (c_X12_isFailure _ _ K hX.1.2.2.2.2.2 (by omega)) rfl (by decide +kernel) rfl rfl rfl K.1 rfl rfl ⟨Nat.le_of_ble_eq_true rfl, Nat.le_of_ble_eq_true rfl⟩ (fun r2 h2 hp2 => ?_)
  obtain ⟨rfl, e9⟩ := hp2; obtain rfl := e9.symm
  refine V.if_eq 19 X dX12_failureLength_5 (by decide) (fun c5 => ?_) (fun c5 => ?_)
  · have c5 := bI_eq c5
    have e8 : (-1 : Int32) = atI x (xfl r) (fun j => nI (xfs r j).length) (-1) := (atI_no c5).symm
    refine V.iconst (v := -1) X dX12_failureLength_19 (by decide) ?_
    exact V.iret X Y9 dX12_failureLength_20 ⟨e8, rfl⟩ (Nat.le_of_ble_eq_true rfl) (Nat.le_of_ble_eq_true rfl)
  · have c5 := bI_ne c5
    obtain ⟨j, hj, rfl⟩ := ix_of c5 (show xfl r < 2 ^ 31 by omega)
    have e8 : atI (nI j) (xfl r) (fun j => nI (xfs r j).length) (-1) = (fun j => nI (xfs r j).length) j := atI_yes hj (show xfl r < 2 ^ 31 by omega)
    refine V.aload_n X dX12_failureLength_8 rfl ?_
    refine V.sipush (v := nI 718) X dX12_failureLength_9 (by decide) ?_
    refine V.iload_n X dX12_failureLength_12 rfl ?_
    refine V.callVi (n := 2) X dX12_failureLength_13 gX12_failureLength_X12_lengthOf (c_X12_lengthOf _ _ K (by omega)) rfl (by decide +kernel) rfl rfl rfl K.1 rfl rfl ⟨Nat.le_of_ble_eq_true rfl, Nat.le_of_ble_eq_true rfl⟩ (fun r13 h13 hp13 => ?_)
    obtain ⟨rfl, e9⟩ := hp13; obtain rfl := e9.symm
    rw [((hX.2.2.1 j hj).1).1]
    refine V.goto 20 X dX12_failureLength_16 (by decide) ?_
    exact V.iret X Y9 dX12_failureLength_20 ⟨e8.symm, rfl⟩ (Nat.le_of_ble_eq_true rfl) (Nat.le_of_ble_eq_true rfl)
set_option maxHeartbeats 4000000 in
set_option maxRecDepth 100000 in
theorem c_X12_sequenceCall (l : Launch) (G : GG) {h : Hp} {M : Nat} {m : Md} (K : MdK h M) {t : List Nat} {c : Cmp} {r : Xr} {k : Nat} {ps : Nat → Cmp × Xr} (hS : MSt m t c r k ps) {x z : Int32} : Con l G yX12_sequenceCall wsX12_sequenceCall 2 43 0 0 [.ref M, .int x, .int z] (Hm h M m) (pI (fun y h2 => y = (if z < 0 then -1 else atI x (xpc r) (fun j => sqV (xsq r j) z) (-1)) ∧ h2 = Hm h M m)) := by
  refine Con.of (cc := cX12_sequenceCall) (nL := 3) (ret := (some .int)) (by decide) rfl rfl rfl rfl (fun Γ hG hl X Y9 => ?_)
  subst hG
  subst hl
  obtain ⟨hT, hC, hX, ok, hp, hp6, hP⟩ := id hS
  obtain ⟨⟨⟨x1, x2⟩, ⟨x3, x4⟩, x5, x6, x7⟩, ok2, x8, x9⟩ := id ok
  have ok21 := ok2.2.1
  refine V.aload_n X dX12_sequenceCall_0 rfl ?_
  refine V.iload_n X dX12_sequenceCall_1 rfl ?_
  refine V.callVi (n := 1) X dX12_sequenceCall_2 gX12_sequenceCall_X12_isSequence (c_X12_isSequence _ _ K hX.1.2.2.2.2.1 (by omega)) rfl (by decide +kernel) rfl rfl rfl K.1 rfl rfl ⟨Nat.le_of_ble_eq_true rfl, Nat.le_of_ble_eq_true rfl⟩ (fun r2 h2 hp2 => ?_)
  obtain ⟨rfl, e9⟩ := hp2; obtain rfl := e9.symm
  refine V.if_eq 12 X dX12_sequenceCall_5 (by decide) (fun c5 => ?_) (fun c5 => ?_)
  · have c5 := bI_eq c5
    have e8 : (-1 : Int32) = (if z < 0 then -1 else atI x (xpc r) (fun j => sqV (xsq r j) z) (-1)) := by
      by_cases hz : z < 0
      · rw [if_pos hz]
      · rw [if_neg hz]; exact (atI_no c5).symm
    refine V.iconst (v := -1) X dX12_sequenceCall_12 (by decide) ?_
    exact V.iret X Y9 dX12_sequenceCall_13 ⟨e8, rfl⟩ (Nat.le_of_ble_eq_true rfl) (Nat.le_of_ble_eq_true rfl)
  · have c5 := bI_ne c5
    obtain ⟨j, hj, rfl⟩ := ix_of c5 (show xpc r < 2 ^ 31 by omega)
    have e8 : atI (nI j) (xpc r) (fun j => sqV (xsq r j) z) (-1) = (fun j => sqV (xsq r j) z) j := atI_yes hj (show xpc r < 2 ^ 31 by omega)
    refine V.iload_n X dX12_sequenceCall_8 rfl ?_
    refine V.if_ge 14 X dX12_sequenceCall_9 (by decide) (fun c9 => ?_) (fun c9 => ?_)
    · have hz : ¬ z < 0 := i32_nlt c9
      obtain ⟨a, ha, rfl⟩ := nI_of hz
      have e7 : (if nI a < 0 then -1 else atI (nI j) (xpc r) (fun j => sqV (xsq r j) (nI a)) (-1)) = sqV (xsq r j) (nI a) := (if_neg hz).trans e8
      have hq := hX.2.1 j hj
      have hq9 := hq.2.1
      refine V.iload_n X dX12_sequenceCall_14 rfl ?_
      refine V.aload_n X dX12_sequenceCall_15 rfl ?_
      refine V.sipush (v := nI 278) X dX12_sequenceCall_16 (by decide) ?_
      refine V.iload_n X dX12_sequenceCall_19 rfl ?_
      refine V.callVi (n := 2) X dX12_sequenceCall_20 gX12_sequenceCall_X12_lengthOf (c_X12_lengthOf _ _ K (by omega)) rfl (by decide +kernel) rfl rfl rfl K.1 rfl rfl ⟨Nat.le_of_ble_eq_true rfl, Nat.le_of_ble_eq_true rfl⟩ (fun r20 h20 hp20 => ?_)
      obtain ⟨rfl, e9⟩ := hp20; obtain rfl := e9.symm
      rw [hq.1]
      refine V.icmp_ge 38 X dX12_sequenceCall_23 (by decide) (fun c23 => ?_) (fun c23 => ?_)
      · rw [nI_leI (by omega) (by omega)] at c23
        have e6 : (-1000 : Int32) = sqV (xsq r j) (nI a) := by
          unfold sqV
          rw [isIx_nI ha, decide_eq_false (by omega)]
          rfl
        refine V.sipush (v := -1000) X dX12_sequenceCall_38 (by decide) ?_
        exact V.iret X Y9 dX12_sequenceCall_41 ⟨e6.trans e7.symm, rfl⟩ (Nat.le_of_ble_eq_true rfl) (Nat.le_of_ble_eq_true rfl)
      · rw [nI_leI (by omega) (by omega)] at c23
        have e6 : nI ((xsq r j).getD a 0) = sqV (xsq r j) (nI a) := by
          unfold sqV
          rw [isIx_nI ha, decide_eq_true (by omega), if_pos rfl, nI_clamp ha]
        refine V.aload_n X dX12_sequenceCall_26 rfl ?_
        refine V.sipush (v := nI 278) X dX12_sequenceCall_27 (by decide) ?_
        refine V.iload_n X dX12_sequenceCall_30 rfl ?_
        refine V.iload_n X dX12_sequenceCall_31 rfl ?_
        refine V.callVi (n := 3) X dX12_sequenceCall_32 gX12_sequenceCall_X12_callOf (c_X12_callOf _ _ K (by omega)) rfl (by decide +kernel) rfl rfl rfl K.1 rfl rfl ⟨Nat.le_of_ble_eq_true rfl, Nat.le_of_ble_eq_true rfl⟩ (fun r32 h32 hp32 => ?_)
        obtain ⟨rfl, e9⟩ := hp32; obtain rfl := e9.symm
        rw [hq.2.2 a (by omega)]
        refine V.goto 41 X dX12_sequenceCall_35 (by decide) ?_
        exact V.iret X Y9 dX12_sequenceCall_41 ⟨e6.trans e7.symm, rfl⟩ (Nat.le_of_ble_eq_true rfl) (Nat.le_of_ble_eq_true rfl)
    · have hz : z < 0 := i32_nle c9
      have e7 : (-1 : Int32) = (if z < 0 then -1 else atI (nI j) (xpc r) (fun j => sqV (xsq r j) z) (-1)) := (if_pos hz).symm
      refine V.iconst (v := -1) X dX12_sequenceCall_12 (by decide) ?_
      exact V.iret X Y9 dX12_sequenceCall_13 ⟨e7, rfl⟩ (Nat.le_of_ble_eq_true rfl) (Nat.le_of_ble_eq_true rfl)
set_option maxHeartbeats 4000000 in
set_option maxRecDepth 100000 in
theorem c_X12_failureCall (l : Launch) (G : GG) {h : Hp} {M : Nat} {m : Md} (K : MdK h M) {t : List Nat} {c : Cmp} {r : Xr} {k : Nat} {ps : Nat → Cmp × Xr} (hS : MSt m t c r k ps) {x z : Int32} : Con l G yX12_failureCall wsX12_failureCall 2 43 0 0 [.ref M, .int x, .int z] (Hm h M m) (pI (fun y h2 => y = (if z < 0 then -1 else atI x (xfl r) (fun j => sqV (xfs r j) z) (-1)) ∧ h2 = Hm h M m)) := by
  refine Con.of (cc := cX12_failureCall) (nL := 3) (ret := (some .int)) (by decide) rfl rfl rfl rfl (fun Γ hG hl X Y9 => ?_)
  subst hG
  subst hl
  obtain ⟨hT, hC, hX, ok, hp, hp6, hP⟩ := id hS
  obtain ⟨⟨⟨x1, x2⟩, ⟨x3, x4⟩, x5, x6, x7⟩, ok2, x8, x9⟩ := id ok
  have ok21 := ok2.2.1
  refine V.aload_n X dX12_failureCall_0 rfl ?_
  refine V.iload_n X dX12_failureCall_1 rfl ?_
  refine V.callVi (n := 1) X dX12_failureCall_2 gX12_failureCall_X12_isFailure (c_X12_isFailure _ _ K hX.1.2.2.2.2.2 (by omega)) rfl (by decide +kernel) rfl rfl rfl K.1 rfl rfl ⟨Nat.le_of_ble_eq_true rfl, Nat.le_of_ble_eq_true rfl⟩ (fun r2 h2 hp2 => ?_)
  obtain ⟨rfl, e9⟩ := hp2; obtain rfl := e9.symm
  refine V.if_eq 12 X dX12_failureCall_5 (by decide) (fun c5 => ?_) (fun c5 => ?_)
  · have c5 := bI_eq c5
    have e8 : (-1 : Int32) = (if z < 0 then -1 else atI x (xfl r) (fun j => sqV (xfs r j) z) (-1)) := by
      by_cases hz : z < 0
      · rw [if_pos hz]
      · rw [if_neg hz]; exact (atI_no c5).symm
    refine V.iconst (v := -1) X dX12_failureCall_12 (by decide) ?_
    exact V.iret X Y9 dX12_failureCall_13 ⟨e8, rfl⟩ (Nat.le_of_ble_eq_true rfl) (Nat.le_of_ble_eq_true rfl)
  · have c5 := bI_ne c5
    obtain ⟨j, hj, rfl⟩ := ix_of c5 (show xfl r < 2 ^ 31 by omega)
    have e8 : atI (nI j) (xfl r) (fun j => sqV (xfs r j) z) (-1) = (fun j => sqV (xfs r j) z) j := atI_yes hj (show xfl r < 2 ^ 31 by omega)
    refine V.iload_n X dX12_failureCall_8 rfl ?_
    refine V.if_ge 14 X dX12_failureCall_9 (by decide) (fun c9 => ?_) (fun c9 => ?_)
    · have hz : ¬ z < 0 := i32_nlt c9
      obtain ⟨a, ha, rfl⟩ := nI_of hz
      have e7 : (if nI a < 0 then -1 else atI (nI j) (xfl r) (fun j => sqV (xfs r j) (nI a)) (-1)) = sqV (xfs r j) (nI a) := (if_neg hz).trans e8
      have hq := (hX.2.2.1 j hj).1
      have hq9 := hq.2.1
      refine V.iload_n X dX12_failureCall_14 rfl ?_
      refine V.aload_n X dX12_failureCall_15 rfl ?_
      refine V.sipush (v := nI 718) X dX12_failureCall_16 (by decide) ?_
      refine V.iload_n X dX12_failureCall_19 rfl ?_
      refine V.callVi (n := 2) X dX12_failureCall_20 gX12_failureCall_X12_lengthOf (c_X12_lengthOf _ _ K (by omega)) rfl (by decide +kernel) rfl rfl rfl K.1 rfl rfl ⟨Nat.le_of_ble_eq_true rfl, Nat.le_of_ble_eq_true rfl⟩ (fun r20 h20 hp20 => ?_)
      obtain ⟨rfl, e9⟩ := hp20; obtain rfl := e9.symm
      rw [hq.1]
      refine V.icmp_ge 38 X dX12_failureCall_23 (by decide) (fun c23 => ?_) (fun c23 => ?_)
      · rw [nI_leI (by omega) (by omega)] at c23
        have e6 : (-1000 : Int32) = sqV (xfs r j) (nI a) := by
          unfold sqV
          rw [isIx_nI ha, decide_eq_false (by omega)]
          rfl
        refine V.sipush (v := -1000) X dX12_failureCall_38 (by decide) ?_
        exact V.iret X Y9 dX12_failureCall_41 ⟨e6.trans e7.symm, rfl⟩ (Nat.le_of_ble_eq_true rfl) (Nat.le_of_ble_eq_true rfl)
      · rw [nI_leI (by omega) (by omega)] at c23
        have e6 : nI ((xfs r j).getD a 0) = sqV (xfs r j) (nI a) := by
          unfold sqV
          rw [isIx_nI ha, decide_eq_true (by omega), if_pos rfl, nI_clamp ha]
        refine V.aload_n X dX12_failureCall_26 rfl ?_
        refine V.sipush (v := nI 718) X dX12_failureCall_27 (by decide) ?_
        refine V.iload_n X dX12_failureCall_30 rfl ?_
        refine V.iload_n X dX12_failureCall_31 rfl ?_
        refine V.callVi (n := 3) X dX12_failureCall_32 gX12_failureCall_X12_callOf (c_X12_callOf _ _ K (by omega)) rfl (by decide +kernel) rfl rfl rfl K.1 rfl rfl ⟨Nat.le_of_ble_eq_true rfl, Nat.le_of_ble_eq_true rfl⟩ (fun r32 h32 hp32 => ?_)
        obtain ⟨rfl, e9⟩ := hp32; obtain rfl := e9.symm
        rw [hq.2.2 a (by omega)]
        refine V.goto 41 X dX12_failureCall_35 (by decide) ?_
        exact V.iret X Y9 dX12_failureCall_41 ⟨e6.trans e7.symm, rfl⟩ (Nat.le_of_ble_eq_true rfl) (Nat.le_of_ble_eq_true rfl)
    · have hz : z < 0 := i32_nle c9
      have e7 : (-1 : Int32) = (if z < 0 then -1 else atI (nI j) (xfl r) (fun j => sqV (xfs r j) z) (-1)) := (if_pos hz).symm
      refine V.iconst (v := -1) X dX12_failureCall_12 (by decide) ?_
      exact V.iret X Y9 dX12_failureCall_13 ⟨e7, rfl⟩ (Nat.le_of_ble_eq_true rfl) (Nat.le_of_ble_eq_true rfl)
set_option maxHeartbeats 4000000 in
set_option maxRecDepth 100000 in
theorem c_X12_failureVerdict (l : Launch) (G : GG) {h : Hp} {M : Nat} {m : Md} (K : MdK h M) {t : List Nat} {c : Cmp} {r : Xr} {k : Nat} {ps : Nat → Cmp × Xr} (hS : MSt m t c r k ps) {x : Int32} : Con l G yX12_failureVerdict wsX12_failureVerdict 2 43 0 0 [.ref M, .int x] (Hm h M m) (pI (fun y h2 => y = atI x (xfl r) (fun j => nI (xvd r j)) (-1) ∧ h2 = Hm h M m)) := by
  refine Con.of (cc := cX12_failureVerdict) (nL := 2) (ret := (some .int)) (by decide) rfl rfl rfl rfl (fun Γ hG hl X Y9 => ?_)
  subst hG
  subst hl
  obtain ⟨hT, hC, hX, ok, hp, hp6, hP⟩ := id hS
  obtain ⟨⟨⟨x1, x2⟩, ⟨x3, x4⟩, x5, x6, x7⟩, ok2, x8, x9⟩ := id ok
  have ok21 := ok2.2.1
  refine V.aload_n X dX12_failureVerdict_0 rfl ?_
  refine V.iload_n X dX12_failureVerdict_1 rfl ?_
  refine V.callVi (n := 1) X dX12_failureVerdict_2 gX12_failureVerdict_X12_isFailure (c_X12_isFailure _ _ K hX.1.2.2.2.2.2 (by omega)) rfl (by decide +kernel) rfl rfl rfl K.1 rfl rfl ⟨Nat.le_of_ble_eq_true rfl, Nat.le_of_ble_eq_true rfl⟩ (fun r2 h2 hp2 => ?_)
  obtain ⟨rfl, e9⟩ := hp2; obtain rfl := e9.symm
  refine V.if_eq 16 X dX12_failureVerdict_5 (by decide) (fun c5 => ?_) (fun c5 => ?_)
  · have c5 := bI_eq c5
    have e8 : (-1 : Int32) = atI x (xfl r) (fun j => nI (xvd r j)) (-1) := (atI_no c5).symm
    refine V.iconst (v := -1) X dX12_failureVerdict_16 (by decide) ?_
    exact V.iret X Y9 dX12_failureVerdict_17 ⟨e8, rfl⟩ (Nat.le_of_ble_eq_true rfl) (Nat.le_of_ble_eq_true rfl)
  · have c5 := bI_ne c5
    obtain ⟨j, hj, rfl⟩ := ix_of c5 (show xfl r < 2 ^ 31 by omega)
    have e8 : atI (nI j) (xfl r) (fun j => nI (xvd r j)) (-1) = (fun j => nI (xvd r j)) j := atI_yes hj (show xfl r < 2 ^ 31 by omega)
    refine V.aload_n X dX12_failureVerdict_8 rfl ?_
    refine V.iload_n X dX12_failureVerdict_9 rfl ?_
    refine V.callVi (n := 1) X dX12_failureVerdict_10 gX12_failureVerdict_X12_verdictOf (c_X12_verdictOf _ _ K (by omega)) rfl (by decide +kernel) rfl rfl rfl K.1 rfl rfl ⟨Nat.le_of_ble_eq_true rfl, Nat.le_of_ble_eq_true rfl⟩ (fun r10 h10 hp10 => ?_)
    obtain ⟨rfl, e9⟩ := hp10; obtain rfl := e9.symm
    rw [(hX.2.2.1 j hj).2]
    refine V.goto 17 X dX12_failureVerdict_13 (by decide) ?_
    exact V.iret X Y9 dX12_failureVerdict_17 ⟨e8.symm, rfl⟩ (Nat.le_of_ble_eq_true rfl) (Nat.le_of_ble_eq_true rfl)
theorem fX12_finalValue_22 : FL wsX12_finalValue RX12 22 14 11 (.array .int) true := ⟨_, rfl, by decide, Or.inl ⟨"ContractTesterModel", by decide +kernel, Or.inl rfl⟩, by decide +kernel, by decide +kernel, rfl⟩
set_option maxHeartbeats 4000000 in
set_option maxRecDepth 100000 in
theorem c_X12_finalValue (l : Launch) (G : GG) {h : Hp} {M : Nat} {m : Md} (K : MdK h M) {t : List Nat} {c : Cmp} {r : Xr} {k : Nat} {ps : Nat → Cmp × Xr} (hS : MSt m t c r k ps) {x f : Int32} : Con l G yX12_finalValue wsX12_finalValue 5 114 0 0 [.ref M, .int x, .int f] (Hm h M m) (pI (fun y h2 => y = fnv r x f ∧ ∃ m2, h2 = Hm h M m2 ∧ MSt m2 t c r k ps)) := by
  refine Con.of (cc := cX12_finalValue) (nL := 3) (ret := (some .int)) (by decide) rfl rfl rfl rfl (fun Γ hG hl X Y9 => ?_)
  subst hG
  subst hl
  obtain ⟨hT, hC, hX, ok, hp, hp6, hP⟩ := id hS
  obtain ⟨⟨⟨x1, x2⟩, ⟨x3, x4⟩, x5, x6, x7⟩, ok2, x8, x9⟩ := id ok
  have ok21 := ok2.2.1
  refine V.aload_n X dX12_finalValue_0 rfl ?_
  refine V.iload_n X dX12_finalValue_1 rfl ?_
  refine V.callVi (n := 1) X dX12_finalValue_2 gX12_finalValue_X12_isSequence (c_X12_isSequence _ _ K hX.1.2.2.2.2.1 (by omega)) rfl (by decide +kernel) rfl rfl rfl K.1 rfl rfl ⟨Nat.le_of_ble_eq_true rfl, Nat.le_of_ble_eq_true rfl⟩ (fun r2 h2 hp2 => ?_)
  obtain ⟨rfl, e9⟩ := hp2; obtain rfl := e9.symm
  refine V.if_eq 17 X dX12_finalValue_5 (by decide) (fun c5 => ?_) (fun c5 => ?_)
  · have c5 := bI_eq c5
    have e8 : (-1000 : Int32) = fnv r x f := (fnv_x c5).symm
    refine V.sipush (v := -1000) X dX12_finalValue_17 (by decide) ?_
    exact V.iret X Y9 dX12_finalValue_20 ⟨e8, m, rfl, hS⟩ (Nat.le_of_ble_eq_true rfl) (Nat.le_of_ble_eq_true rfl)
  · have c5 := bI_ne c5
    refine V.iload_n X dX12_finalValue_8 rfl ?_
    refine V.iconst (v := nI 0) X dX12_finalValue_9 (by decide) ?_
    refine V.iconst (v := nI 2) X dX12_finalValue_10 (by decide) ?_
    refine V.callSi (n := 3) X dX12_finalValue_11 gX12_finalValue_X12_in (c_X12_in _ _) rfl (by decide +kernel) rfl rfl rfl ⟨Nat.le_of_ble_eq_true rfl, Nat.le_of_ble_eq_true rfl⟩ (fun r11 h11 hp11 => ?_)
    obtain ⟨rfl, e9⟩ := hp11; obtain rfl := e9.symm
    rw [inB_nI (by decide)]
    refine V.if_ne 21 X dX12_finalValue_14 (by decide) (fun c14 => ?_) (fun c14 => ?_)
    · have c14 := bI_ne c14
      obtain ⟨j, hj, rfl⟩ := ix_of c5 (show xpc r < 2 ^ 31 by omega)
      obtain ⟨a, ha, rfl⟩ := ix_of c14 (by decide)
      have ha : a < 3 := ha
      have e8 : fnv r (nI j) (nI a) = getF (xss r j) (nI a) := by
        unfold fnv
        rw [if_pos c14]
        exact atI_yes hj (by omega)
      refine V.aload_n X dX12_finalValue_21 rfl ?_
      refine V.iload_n X dX12_finalValue_22 rfl ?_
      refine V.callVv (n := 1) X dX12_finalValue_23 gX12_finalValue_X12_execute (c_X12_execute _ _ K hC ok2 (by omega) (hX.2.1 j hj) (x8 j hj).2.2 (x8 j hj).2.1) rfl (by decide +kernel) rfl rfl rfl K.1 rfl rfl ⟨Nat.le_of_ble_eq_true rfl, Nat.le_of_ble_eq_true rfl⟩ (fun h23 hp23 => ?_)
      obtain ⟨m2, rfl, G2, h5⟩ := hp23
      refine V.aload_n X dX12_finalValue_26 rfl ?_
      refine V.mgr (k := 11) (a := 5) X K fX12_finalValue_22 dX12_finalValue_27 (by decide) ?_
      refine V.iload_n X dX12_finalValue_30 rfl ?_
      refine V.mld (x := getF (xss r j) (nI a)) X K 5 3  dX12_finalValue_31 rfl rfl (by omega) (by rw [← h5]; rcases (show a = 0 ∨ a = 1 ∨ a = 2 by omega) with rfl | rfl | rfl <;> rfl) ?_
      exact V.iret X Y9 dX12_finalValue_32 ⟨e8.symm, m2, rfl, hS.sc (G2.mono (fun _ _ => scP_kp)) (fun x => G2 1 x (scP1 x))⟩ (Nat.le_of_ble_eq_true rfl) (Nat.le_of_ble_eq_true rfl)
    · have c14 := bI_eq c14
      have e8 : (-1000 : Int32) = fnv r x f := (fnv_f c14).symm
      refine V.sipush (v := -1000) X dX12_finalValue_17 (by decide) ?_
      exact V.iret X Y9 dX12_finalValue_20 ⟨e8, m, rfl, hS⟩ (Nat.le_of_ble_eq_true rfl) (Nat.le_of_ble_eq_true rfl)
theorem fX12_findState_28 : FL wsX12_findState RX12 28 14 13 (.array .int) true := ⟨_, rfl, by decide, Or.inl ⟨"ContractTesterModel", by decide +kernel, Or.inl rfl⟩, by decide +kernel, by decide +kernel, rfl⟩
set_option maxHeartbeats 4000000 in
set_option maxRecDepth 100000 in
theorem c_X12_findState (l : Launch) (G : GG) {h : Hp} {M : Nat} {m : Md} (K : MdK h M) {t : List Nat} {c : Cmp} {r : Xr} {k : Nat} {ps : Nat → Cmp × Xr} (hS : MSt m t c r k ps) {x y z : Int32} : Con l G yX12_findState wsX12_findState 6 135 0 0 [.ref M, .int x, .int y, .int z] (Hm h M m) (pI (fun v h2 => v = oI (sws r (x, y, z) 40 0) ∧ ∃ m2, h2 = Hm h M m2 ∧ MSt m2 t c r k ps)) := by
  refine Con.of (cc := cX12_findState) (nL := 4) (ret := (some .int)) (by decide) rfl rfl rfl rfl (fun Γ hG hl X Y9 => ?_)
  subst hG
  subst hl
  obtain ⟨hT, hC, hX, ok, hp, hp6, hP⟩ := id hS
  obtain ⟨⟨⟨x1, x2⟩, ⟨x3, x4⟩, x5, x6, x7⟩, ok2, x8, x9⟩ := id ok
  have ok21 := ok2.2.1
  refine V.aload_n X dX12_findState_0 rfl ?_
  refine V.mgr (k := 13) (a := 7) X K fX12_findState_28 dX12_findState_1 (by decide) ?_
  refine V.iconst (v := nI 0) X dX12_findState_4 (by decide) ?_
  refine V.iload_n X dX12_findState_5 rfl ?_
  refine V.mst X K 7 3  dX12_findState_6 rfl rfl (by omega) ?_
  refine V.aload_n X dX12_findState_7 rfl ?_
  refine V.mgr (k := 13) (a := 7) X K fX12_findState_28 dX12_findState_8 (by decide) ?_
  refine V.iconst (v := nI 1) X dX12_findState_11 (by decide) ?_
  refine V.iload_n X dX12_findState_12 rfl ?_
  refine V.mst X K 7 3  dX12_findState_13 rfl rfl (by omega) ?_
  refine V.aload_n X dX12_findState_14 rfl ?_
  refine V.mgr (k := 13) (a := 7) X K fX12_findState_28 dX12_findState_15 (by decide) ?_
  refine V.iconst (v := nI 2) X dX12_findState_18 (by decide) ?_
  refine V.iload_n X dX12_findState_19 rfl ?_
  refine V.mst X K 7 3  dX12_findState_20 rfl rfl (by omega) ?_
  have F0 : MFr kpP m (mput (mput (mput m 7 0 x) 7 1 y) 7 2 z) := ((MFr.rf.put (Or.inr ⟨Or.inr (Or.inr rfl), by decide⟩)).put (Or.inr ⟨Or.inr (Or.inr rfl), by decide⟩)).put (Or.inr ⟨Or.inr (Or.inr rfl), by decide⟩)
  have S0 := hS.sc F0 (fun a => (mput_a (by decide)).trans ((mput_a (by decide)).trans (mput_a (by decide))))
  refine V.aload_n X dX12_findState_21 rfl ?_
  refine V.callVi (n := 0) X dX12_findState_22 gX12_findState_X12_findTarget (c_X12_findTarget _ _ K S0.2.1 S0.2.2.1 ok (t := (x, y, z)) rfl) rfl (by decide +kernel) rfl rfl rfl K.1 rfl rfl ⟨Nat.le_of_ble_eq_true rfl, Nat.le_of_ble_eq_true rfl⟩ (fun r22 h22 hp22 => ?_)
  obtain ⟨rfl, m2, rfl, G2⟩ := hp22
  exact V.iret X Y9 dX12_findState_25 ⟨rfl, m2, rfl, S0.sc (G2.mono (fun _ _ => scP_kp)) (fun a => G2 1 a (scP1 a))⟩ (Nat.le_of_ble_eq_true rfl) (Nat.le_of_ble_eq_true rfl)
theorem fX12_enabledMethods_7 : FL wsX12_enabledMethods RX12 7 14 0 (.array .int) true := ⟨_, rfl, by decide, Or.inl ⟨"ContractTesterModel", by decide +kernel, Or.inl rfl⟩, by decide +kernel, by decide +kernel, rfl⟩
set_option maxHeartbeats 4000000 in
set_option maxRecDepth 100000 in
theorem c_X12_enabledMethods (l : Launch) (G : GG) {h : Hp} {M : Nat} {m : Md} (K : MdK h M) {t : List Nat} {c : Cmp} {r : Xr} {k : Nat} {ps : Nat → Cmp × Xr} (hS : MSt m t c r k ps) {x : Int32} : Con l G yX12_enabledMethods wsX12_enabledMethods 5 114 0 0 [.ref M, .int x] (Hm h M m) (pI (fun y h2 => y = atI x (xpc r) (fun j => enb c (xss r j) c.2.2.length 0 (nI 0)) (-1) ∧ ∃ m2, h2 = Hm h M m2 ∧ MSt m2 t c r k ps)) := by
  refine Con.of (cc := cX12_enabledMethods) (nL := 4) (ret := (some .int)) (by decide) rfl rfl rfl rfl (fun Γ hG hl X Y9 => ?_)
  subst hG
  subst hl
  obtain ⟨hT, hC, hX, ok, hp, hp6, hP⟩ := id hS
  obtain ⟨⟨⟨x1, x2⟩, ⟨x3, x4⟩, x5, x6, x7⟩, ok2, x8, x9⟩ := id ok
  have ok21 := ok2.2.1
  refine V.aload_n X dX12_enabledMethods_0 rfl ?_
  refine V.iload_n X dX12_enabledMethods_1 rfl ?_
  refine V.callVi (n := 1) X dX12_enabledMethods_2 gX12_enabledMethods_X12_isSequence (c_X12_isSequence _ _ K hX.1.2.2.2.2.1 (by omega)) rfl (by decide +kernel) rfl rfl rfl K.1 rfl rfl ⟨Nat.le_of_ble_eq_true rfl, Nat.le_of_ble_eq_true rfl⟩ (fun r2 h2 hp2 => ?_)
  obtain ⟨rfl, e9⟩ := hp2; obtain rfl := e9.symm
  refine V.if_ne 10 X dX12_enabledMethods_5 (by decide) (fun c5 => ?_) (fun c5 => ?_)
  · have c5 := bI_ne c5
    obtain ⟨j, hj, rfl⟩ := ix_of c5 (show xpc r < 2 ^ 31 by omega)
    have e8 : atI (nI j) (xpc r) (fun j => enb c (xss r j) c.2.2.length 0 (nI 0)) (-1) = (fun j => enb c (xss r j) c.2.2.length 0 (nI 0)) j := atI_yes hj (show xpc r < 2 ^ 31 by omega)
    refine V.aload_n X dX12_enabledMethods_10 rfl ?_
    refine V.iload_n X dX12_enabledMethods_11 rfl ?_
    refine V.callVv (n := 1) X dX12_enabledMethods_12 gX12_enabledMethods_X12_execute (c_X12_execute _ _ K hC ok2 (by omega) (hX.2.1 j hj) (x8 j hj).2.2 (x8 j hj).2.1) rfl (by decide +kernel) rfl rfl rfl K.1 rfl rfl ⟨Nat.le_of_ble_eq_true rfl, Nat.le_of_ble_eq_true rfl⟩ (fun h12 hp12 => ?_)
    obtain ⟨m2, rfl, G2, h5⟩ := hp12
    have S2 := hS.sc (G2.mono (fun _ _ => scP_kp)) (fun x => G2 1 x (scP1 x))
    refine V.iconst (v := nI 0) X dX12_enabledMethods_15 (by decide) ?_
    refine V.istore_n X dX12_enabledMethods_16 [(0, _), (1, _), (2, _)] rfl rfl rfl ?_
    refine V.iconst (v := nI 0) X dX12_enabledMethods_17 (by decide) ?_
    refine V.istore_n X dX12_enabledMethods_18 [(0, _), (1, _), (2, _), (3, _)] rfl rfl rfl ?_
    have loop : ∀ (n i : Nat) (a : Int32), i + n = c.2.2.length → enb c (xss r j) n i a = enb c (xss r j) c.2.2.length 0 (nI 0) → V Γ 0 0 19 [(0, .ref M), (1, .int (nI j)), (2, .int a), (3, .int (nI i))] [] (Hm h M m2) := by
      intro n
      induction n with
      | zero =>
        intro i a g1 g2
        have g2 : a = enb c (xss r j) c.2.2.length 0 (nI 0) := g2
        refine V.iload_n X dX12_enabledMethods_19 rfl ?_
        refine V.aload_n X dX12_enabledMethods_20 rfl ?_
        refine V.mgr (k := 0) (a := 1) X K fX12_enabledMethods_7 dX12_enabledMethods_21 (by decide) ?_
        refine V.iconst (v := nI 4) X dX12_enabledMethods_24 (by decide) ?_
        refine V.mld  X K 1 1178  dX12_enabledMethods_25 rfl rfl (by omega) S2.2.1.2.2.1 ?_
        refine V.icmp_ge 54 X dX12_enabledMethods_26 (by decide) (fun c26 => ?_) (fun c26 => False.elim (by rw [nI_leI (by omega) (by omega)] at c26; omega))
        rw [nI_leI (by omega) (by omega)] at c26
        refine V.iload_n X dX12_enabledMethods_54 rfl ?_
        exact V.iret X Y9 dX12_enabledMethods_55 ⟨by rw [e8, g2], m2, rfl, S2⟩ (Nat.le_of_ble_eq_true rfl) (Nat.le_of_ble_eq_true rfl)
      | succ n ih =>
        intro i a g1 g2
        obtain ⟨q, hq⟩ := get_some (show i < c.2.2.length by omega)
        have mok := ok2.2.2.2 q (List.mem_of_getElem? hq)
        have Q := S2.2.1.2.2.2.2 i q hq
        have hpr : preC c i = q.1 := by unfold preC; rw [List.getD_eq_getElem?_getD, hq]; rfl
        refine V.iload_n X dX12_enabledMethods_19 rfl ?_
        refine V.aload_n X dX12_enabledMethods_20 rfl ?_
        refine V.mgr (k := 0) (a := 1) X K fX12_enabledMethods_7 dX12_enabledMethods_21 (by decide) ?_
        refine V.iconst (v := nI 4) X dX12_enabledMethods_24 (by decide) ?_
        refine V.mld  X K 1 1178  dX12_enabledMethods_25 rfl rfl (by omega) S2.2.1.2.2.1 ?_
        refine V.icmp_ge 54 X dX12_enabledMethods_26 (by decide) (fun c26 => False.elim (by rw [nI_leI (by omega) (by omega)] at c26; omega)) (fun c26 => ?_)
        rw [nI_leI (by omega) (by omega)] at c26
        refine V.iload_n X dX12_enabledMethods_29 rfl ?_
        refine V.aload_n X dX12_enabledMethods_30 rfl ?_
        refine V.iload_n X dX12_enabledMethods_31 rfl ?_
        refine V.iconst (v := nI 1) X dX12_enabledMethods_32 (by decide) ?_
        refine V.callVi (n := 2) X dX12_enabledMethods_33 gX12_enabledMethods_X12_areHeld (c_X12_areHeld _ _ K (by omega) (MtL_len mok) Q (zOk_m mok) (Or.inl rfl)) rfl (by decide +kernel) rfl rfl rfl K.1 rfl rfl ⟨Nat.le_of_ble_eq_true rfl, Nat.le_of_ble_eq_true rfl⟩ (fun r33 h33 hp33 => ?_)
        obtain ⟨rfl, e9⟩ := hp33; obtain rfl := e9.symm
        rw [all_1, h5, allC_now mok.2.2.2.1 (stM m2 6) (xss r j) (xss r j)]
        refine V.if_eq 45 X dX12_enabledMethods_36 (by decide) (fun c36 => ?_) (fun c36 => ?_)
        · have c36 := bI_eq c36
          rw [enb_f (by rw [hpr]; exact c36)] at g2
          refine V.iconst (v := nI 0) X dX12_enabledMethods_45 (by decide) ?_
          refine V.ior X dX12_enabledMethods_46 ?_
          try rw [show a ||| nI 0 = a from Int32.or_zero]
          refine V.istore_n X dX12_enabledMethods_47 [(0, _), (1, _), (2, _), (3, _)] rfl rfl rfl ?_
          refine V.iinc  X dX12_enabledMethods_48 [(0, _), (1, _), (2, _), (3, _)] rfl (nI_1 _) rfl rfl rfl ?_
          refine V.goto 19 X dX12_enabledMethods_51 (by decide) ?_
          first
            | exact ih (i + 1) _ (by omega) g2
        · have c36 := bI_ne c36
          rw [enb_t (by rw [hpr]; exact c36)] at g2
          refine V.iconst (v := nI 1) X dX12_enabledMethods_39 (by decide) ?_
          refine V.iload_n X dX12_enabledMethods_40 rfl ?_
          refine V.ishl X dX12_enabledMethods_41 ?_
          refine V.goto 46 X dX12_enabledMethods_42 (by decide) ?_
          refine V.ior X dX12_enabledMethods_46 ?_
          try rw [show a ||| nI 0 = a from Int32.or_zero]
          refine V.istore_n X dX12_enabledMethods_47 [(0, _), (1, _), (2, _), (3, _)] rfl rfl rfl ?_
          refine V.iinc  X dX12_enabledMethods_48 [(0, _), (1, _), (2, _), (3, _)] rfl (nI_1 _) rfl rfl rfl ?_
          refine V.goto 19 X dX12_enabledMethods_51 (by decide) ?_
          first
            | exact ih (i + 1) _ (by omega) g2
    exact loop c.2.2.length 0 (nI 0) (Nat.zero_add _) rfl
  · have c5 := bI_eq c5
    have e8 : (-1 : Int32) = atI x (xpc r) (fun j => enb c (xss r j) c.2.2.length 0 (nI 0)) (-1) := (atI_no c5).symm
    refine V.iconst (v := -1) X dX12_enabledMethods_8 (by decide) ?_
    exact V.iret X Y9 dX12_enabledMethods_9 ⟨e8, m, rfl, hS⟩ (Nat.le_of_ble_eq_true rfl) (Nat.le_of_ble_eq_true rfl)
