def fnv (r : Xr) (x f : Int32) : Int32 := if isIx f 3 = true then atI x (xpc r) (fun j => getF (xss r j) f) (-1000) else -1000
theorem fnv_f {r : Xr} {x f : Int32} (h : isIx f 3 = false) : fnv r x f = -1000 := by
  unfold fnv
  rw [h]
  rfl
theorem fnv_x {r : Xr} {x f : Int32} (h : isIx x (xpc r) = false) : fnv r x f = -1000 := by
  unfold fnv
  rw [atI_no h]
  split <;> rfl
theorem isIx_ge {x : Int32} {n : Nat} (hn : n < 2 ^ 31) (h : ¬ x < nI n) : isIx x n = false := by
  refine isIx_big hn (Int32.le_iff_toInt_le.mpr ?_)
  have h9 : ¬ x.toInt < (nI n).toInt := fun e => h (Int32.lt_iff_toInt_lt.mpr e)
  omega
theorem isIx_yes {x : Int32} {n : Nat} (hn : n < 2 ^ 31) (h0 : ¬ x < 0) (h : x < nI n) : isIx x n = true := by
  obtain ⟨j, hj, rfl⟩ := nI_of h0
  rw [nI_ltI hj hn] at h
  rw [isIx_nI hj]
  simp [h]
theorem fX11_finalValue_26 : FL wsX11_finalValue RX11 26 13 2 (.object "ContractTester$Exploration") true := ⟨_, rfl, by decide, Or.inl ⟨"ContractTester", by decide +kernel, Or.inl rfl⟩, by decide +kernel, by decide +kernel, rfl⟩
theorem fX11_finalValue_186 : FL wsX11_finalValue RX11 186 5 3 (.array (.object "ContractTester$State")) true := ⟨_, rfl, by decide, Or.inr ⟨"ContractTester", by decide +kernel⟩, by decide +kernel, by decide +kernel, rfl⟩
set_option maxHeartbeats 4000000 in
set_option maxRecDepth 100000 in
theorem c_X11_finalValue (l : Launch) (G : GG) {h : Hp} {T E : Nat} (hT : Hk h T = some (.inl 13)) (hT2 : Hv h T 2 = .ref E) {r : Xr} {rs : St} (hX : XlAt h E r rs) (hpc : xpc r ≤ 40) {x f : Int32} : Con l G yX11_finalValue wsX11_finalValue 1 21 0 0 [.ref T, .int x, .int f] h (pI (fun y h2 => y = fnv r x f ∧ h2 = h)) := by
  refine Con.of (cc := cX11_finalValue) (nL := 3) (ret := (some .int)) (by decide) rfl rfl rfl rfl (fun Γ hG hl X Y9 => ?_)
  subst hG
  subst hl
  obtain ⟨⟨a0, a1, a2, a3⟩, n, pq, pg, sr⟩ := id hX
  refine V.aload_n X dX11_finalValue_0 rfl ?_
  refine V.getf  X fX11_finalValue_26 dX11_finalValue_1 hT hT2 ?_
  refine V.iload_n X dX11_finalValue_4 rfl ?_
  refine V.callVi (n := 1) X dX11_finalValue_5 gX11_finalValue_X3_hasSequence (c_X3_hasSequence _ _ hX hpc) rfl (by decide +kernel) rfl rfl rfl a0.1 rfl rfl ⟨Nat.le_of_ble_eq_true rfl, Nat.le_of_ble_eq_true rfl⟩ (fun r5 h5 hp5 => ?_)
  obtain ⟨rfl, e9⟩ := hp5; obtain rfl := e9.symm
  refine V.if_eq 20 X dX11_finalValue_8 (by decide) (fun c8 => ?_) (fun c8 => ?_)
  · have e0 : fnv r x f = -1000 := fnv_x (bI_eq c8)
    refine V.sipush (v := -1000) X dX11_finalValue_20 (by decide) ?_
    exact V.iret X Y9 dX11_finalValue_23 ⟨by rw [e0], rfl⟩ (Nat.le_of_ble_eq_true rfl) (Nat.le_of_ble_eq_true rfl)
  · obtain ⟨j, hj, rfl⟩ := isIx_ex (by omega) (bI_ne c8)
    have hj2 : j < 40 := by omega
    obtain ⟨q1, q2, q3⟩ := pq j hj2
    refine V.iload_n X dX11_finalValue_11 rfl ?_
    refine V.if_lt 20 X dX11_finalValue_12 (by decide) (fun c12 => ?_) (fun c12 => ?_)
    · have e0 : fnv r (nI j) f = -1000 := fnv_f (isIx_neg c12)
      refine V.sipush (v := -1000) X dX11_finalValue_20 (by decide) ?_
      exact V.iret X Y9 dX11_finalValue_23 ⟨by rw [e0], rfl⟩ (Nat.le_of_ble_eq_true rfl) (Nat.le_of_ble_eq_true rfl)
    · refine V.iload_n X dX11_finalValue_15 rfl ?_
      refine V.iconst (v := nI 3) X dX11_finalValue_16 (by decide) ?_
      refine V.icmp_lt 24 X dX11_finalValue_17 (by decide) (fun c17 => ?_) (fun c17 => ?_)
      · have e0 : fnv r (nI j) f = getF (xss r j) f := by
          unfold fnv
          rw [if_pos (isIx_yes (by decide) c12 c17), atI_yes hj (by omega)]
        refine V.aload_n X dX11_finalValue_24 rfl ?_
        refine V.getf  X fX11_finalValue_26 dX11_finalValue_25 hT hT2 ?_
        refine V.getf  X fX11_finalValue_186 dX11_finalValue_28 a0.1 a0.2.2.1 ?_
        refine V.iload_n X dX11_finalValue_31 rfl ?_
        refine V.aald (j := _)  X dX11_finalValue_32 a1.2.1 rfl rfl (by omega) (by omega) (a2 j hj2).2 ?_
        refine V.iload_n X dX11_finalValue_33 rfl ?_
        refine V.callVi (n := 1) X dX11_finalValue_34 gX11_finalValue_X10_valueOf (c_X10_valueOf _ _ q2) rfl (by decide +kernel) rfl rfl rfl q2.1 rfl rfl ⟨Nat.le_of_ble_eq_true rfl, Nat.le_of_ble_eq_true rfl⟩ (fun r34 h34 hp34 => ?_)
        obtain ⟨rfl, e9⟩ := hp34; obtain rfl := e9.symm
        exact V.iret X Y9 dX11_finalValue_37 ⟨e0.symm, rfl⟩ (Nat.le_of_ble_eq_true rfl) (Nat.le_of_ble_eq_true rfl)
      · have e0 : fnv r (nI j) f = -1000 := fnv_f (isIx_ge (by decide) c17)
        refine V.sipush (v := -1000) X dX11_finalValue_20 (by decide) ?_
        exact V.iret X Y9 dX11_finalValue_23 ⟨by rw [e0], rfl⟩ (Nat.le_of_ble_eq_true rfl) (Nat.le_of_ble_eq_true rfl)
theorem fX11_minimizedLength_26 : FL wsX11_minimizedLength RX11 26 13 2 (.object "ContractTester$Exploration") true := ⟨_, rfl, by decide, Or.inl ⟨"ContractTester", by decide +kernel, Or.inl rfl⟩, by decide +kernel, by decide +kernel, rfl⟩
theorem fX11_minimizedLength_204 : FL wsX11_minimizedLength RX11 204 5 6 (.array (.object "ContractTester$Sequence")) true := ⟨_, rfl, by decide, Or.inr ⟨"ContractTester", by decide +kernel⟩, by decide +kernel, by decide +kernel, rfl⟩
theorem fX11_minimizedLength_207 : FL wsX11_minimizedLength RX11 207 5 7 (.array .int) true := ⟨_, rfl, by decide, Or.inr ⟨"ContractTester", by decide +kernel⟩, by decide +kernel, by decide +kernel, rfl⟩
theorem fX11_minimizedLength_50 : FL wsX11_minimizedLength RX11 50 13 6 (.object "ContractTester$Sequence") true := ⟨_, rfl, by decide, Or.inl ⟨"ContractTester", by decide +kernel, Or.inl rfl⟩, by decide +kernel, by decide +kernel, rfl⟩
theorem fX11_minimizedLength_181 : FL wsX11_minimizedLength RX11 181 11 1 .int false := ⟨_, rfl, by decide, Or.inr ⟨"ContractTester", by decide +kernel⟩, by decide +kernel, by decide +kernel, rfl⟩
set_option maxHeartbeats 4000000 in
set_option maxRecDepth 100000 in
theorem c_X11_minimizedLength (l : Launch) (G : GG) {h : Hp} {T E : Nat} (hT : Hk h T = some (.inl 13)) (hT2 : Hv h T 2 = .ref E) {r : Xr} {rs : St} (hX : XlAt h E r rs) {P : Nat → Prop} {o : Nat} {c : Cmp} (hO : Hv h E 0 = .ref o) (hC : CpAt P G h o c) {Z : Nat} (hW : WkZ h T Z) (hTZ : T < Z ∧ E + 171 ≤ Z) (hP : ∀ q, P q → ¬ ZS Z q) {ys zs : List Nat} (hS : ScZ h Z ys zs) (hfl : xfl r ≤ 20) (hff : ∀ j, j < xfl r → 0 < (xfs r j).length ∧ (∀ m ∈ xfs r j, m < 1000) ∧ xvd r j < 1000) {x : Int32} : Con l G yX11_minimizedLength wsX11_minimizedLength 8 185 0 0 [.ref T, .int x] h (pI (fun y h2 => y = atI x (xfl r) (fun j => nI (minC c (xvd r j) 8 (xfs r j)).length) (-1) ∧ Fr (ZS Z) h h2 ∧ ∃ ys1 zs1, ScZ h2 Z ys1 zs1)) := by
  refine Con.of (cc := cX11_minimizedLength) (nL := 2) (ret := (some .int)) (by decide) rfl rfl rfl rfl (fun Γ hG hl X Y9 => ?_)
  subst hG
  subst hl
  refine V.wf (fun w => ?_)
  obtain ⟨⟨a0, a1, a2, a3⟩, n, pq, pg, sr⟩ := id hX
  refine V.aload_n X dX11_minimizedLength_0 rfl ?_
  refine V.getf  X fX11_minimizedLength_26 dX11_minimizedLength_1 hT hT2 ?_
  refine V.iload_n X dX11_minimizedLength_4 rfl ?_
  refine V.callVi (n := 1) X dX11_minimizedLength_5 gX11_minimizedLength_X3_hasFailure (c_X3_hasFailure _ _ hX hfl) rfl (by decide +kernel) rfl rfl rfl a0.1 rfl rfl ⟨Nat.le_of_ble_eq_true rfl, Nat.le_of_ble_eq_true rfl⟩ (fun r5 h5 hp5 => ?_)
  obtain ⟨rfl, e9⟩ := hp5; obtain rfl := e9.symm
  refine V.if_ne 13 X dX11_minimizedLength_8 (by decide) (fun c8 => ?_) (fun c8 => ?_)
  · obtain ⟨j, hj, rfl⟩ := isIx_ex (by omega) (bI_ne c8)
    have hj2 : j < 20 := by omega
    obtain ⟨q1, q2⟩ := pg j hj2
    obtain ⟨u1, u2, u3⟩ := hff j hj
    refine V.aload_n X dX11_minimizedLength_13 rfl ?_
    refine V.aload_n X dX11_minimizedLength_14 rfl ?_
    refine V.getf  X fX11_minimizedLength_26 dX11_minimizedLength_15 hT hT2 ?_
    refine V.getf  X fX11_minimizedLength_204 dX11_minimizedLength_18 a0.1 a0.2.2.2.2.1 ?_
    refine V.iload_n X dX11_minimizedLength_21 rfl ?_
    refine V.aald (j := _)  X dX11_minimizedLength_22 a1.2.2.2.1 rfl rfl (by omega) (by omega) (a3 j hj2) ?_
    refine V.aload_n X dX11_minimizedLength_23 rfl ?_
    refine V.getf  X fX11_minimizedLength_26 dX11_minimizedLength_24 hT hT2 ?_
    refine V.getf  X fX11_minimizedLength_207 dX11_minimizedLength_27 a0.1 a0.2.2.2.2.2.1 ?_
    refine V.iload_n X dX11_minimizedLength_30 rfl ?_
    refine V.iald (j := _)  X dX11_minimizedLength_31 a1.2.2.2.2 rfl (by omega) (by omega) q2 ?_
    refine V.callVv (n := 2) X dX11_minimizedLength_32 gX11_minimizedLength_X11_minimize (c_X11_minimize _ _ hW ⟨hTZ.1, by omega⟩ hT2 a0.1 hO hC hP u3 hS q1 (by omega) u1 u2) rfl (by decide +kernel) rfl rfl rfl hT rfl rfl ⟨Nat.le_of_ble_eq_true rfl, Nat.le_of_ble_eq_true rfl⟩ (fun h32 hp32 => ?_)
    obtain ⟨fm, zm, sm⟩ := hp32
    have wm := hW.kept w fm (fun e => by unfold ZS at e; omega)
    refine V.wf (fun w9 => ?_)
    refine V.aload_n X dX11_minimizedLength_35 rfl ?_
    refine V.getf  X fX11_minimizedLength_50 dX11_minimizedLength_36 wm.1 wm.2.2.2.1 ?_
    refine V.getf  X fX11_minimizedLength_181 dX11_minimizedLength_39 sm.2.2.1.1 sm.2.2.1.2.2.1 ?_
    exact V.iret X Y9 dX11_minimizedLength_42 ⟨by rw [atI_yes hj (by omega)], fm, _, _, sm⟩ (Nat.le_of_ble_eq_true rfl) (Nat.le_of_ble_eq_true rfl)
  · have hi : isIx x (xfl r) = false := bI_eq (by simpa using c8)
    refine V.iconst (v := -1) X dX11_minimizedLength_11 (by decide) ?_
    exact V.iret X Y9 dX11_minimizedLength_12 ⟨by rw [atI_no hi], Fr.rf, _, _, hS⟩ (Nat.le_of_ble_eq_true rfl) (Nat.le_of_ble_eq_true rfl)
