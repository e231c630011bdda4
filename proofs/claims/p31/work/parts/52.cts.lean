theorem fX11_setInitialValue_26 : FL wsX11_setInitialValue RX11 26 13 2 (.object "ContractTester$Exploration") true := ⟨_, rfl, by decide, Or.inl ⟨"ContractTester", by decide +kernel, Or.inl rfl⟩, by decide +kernel, by decide +kernel, rfl⟩
theorem fX11_setInitialValue_91 : FL wsX11_setInitialValue RX11 91 5 0 (.object "ContractTester$Component") false := ⟨_, rfl, by decide, Or.inr ⟨"ContractTester", by decide +kernel⟩, by decide +kernel, by decide +kernel, rfl⟩
theorem fX11_setInitialValue_95 : FL wsX11_setInitialValue RX11 95 3 0 (.object "ContractTester$State") true := ⟨_, rfl, by decide, Or.inr ⟨"ContractTester", by decide +kernel⟩, by decide +kernel, by decide +kernel, rfl⟩
set_option maxHeartbeats 4000000 in
set_option maxRecDepth 100000 in
theorem c_X11_setInitialValue (l : Launch) (G : GG) {h : Hp} {T d : Nat} {t : List Nat} {c : Cmp} {r : Xr} {la k : Nat} {sx : Nat → Cmp × Xr} (hC : CtAt G h T d t c r la k sx) {f v : Int32} : Con l G yX11_setInitialValue wsX11_setInitialValue 7 153 24 212 [.ref T, .int f, .int v] h (pI (fun y2 h2 => ((isIx f 3 = false ∨ v < -99 ∨ ¬ v ≤ nI 99) ∧ y2 = -1 ∧ h2 = h) ∨ ((isIx f 3 = true ∧ ¬ v < -99 ∧ v ≤ nI 99) ∧ y2 = nI 100 + getF c.1 f ∧ CtAt G h2 T d t (setF c.1 f v, c.2.1, c.2.2) (rst (setF c.1 f v, c.2.1, c.2.2) r) (nxL la) (nxK k) (fup sx (nxL la) (c, r)) ∧ Fr (CtW T d) h h2))) := by
  refine Con.of (cc := cX11_setInitialValue) (nL := 4) (ret := (some .int)) (by decide) rfl rfl rfl rfl (fun Γ hG hl X Y9 => ?_)
  subst hG
  subst hl
  refine V.wf (fun w => ?_)
  obtain ⟨a, b, -, -, x, y, -⟩ := id hC
  obtain ⟨⟨rs0, l0⟩, o0, v0, p0⟩ := id x
  obtain ⟨xx, yy, zz, hp, hx, k0, k1, k2, k3, k4, k5⟩ := id p0
  refine V.iload_n X dX11_setInitialValue_0 rfl ?_
  refine V.if_lt 21 X dX11_setInitialValue_1 (by decide) (fun c1 => ?_) (fun c1 => ?_)
  · have e0 : (isIx f 3 = false ∨ v < -99 ∨ ¬ v ≤ nI 99) := Or.inl (isIx_neg c1)
    refine V.iconst (v := -1) X dX11_setInitialValue_21 (by decide) ?_
    exact V.iret X Y9 dX11_setInitialValue_22 (Or.inl ⟨e0, rfl, rfl⟩) (Nat.le_of_ble_eq_true rfl) (Nat.le_of_ble_eq_true rfl)
  · refine V.iload_n X dX11_setInitialValue_4 rfl ?_
    refine V.iconst (v := nI 3) X dX11_setInitialValue_5 (by decide) ?_
    refine V.icmp_ge 21 X dX11_setInitialValue_6 (by decide) (fun c6 => ?_) (fun c6 => ?_)
    · have e0 : (isIx f 3 = false ∨ v < -99 ∨ ¬ v ≤ nI 99) := Or.inl (isIx_big (by decide) c6)
      refine V.iconst (v := -1) X dX11_setInitialValue_21 (by decide) ?_
      exact V.iret X Y9 dX11_setInitialValue_22 (Or.inl ⟨e0, rfl, rfl⟩) (Nat.le_of_ble_eq_true rfl) (Nat.le_of_ble_eq_true rfl)
    · refine V.iload_n X dX11_setInitialValue_9 rfl ?_
      refine V.bipush (v := -99) X dX11_setInitialValue_10 (by decide) ?_
      refine V.icmp_lt 21 X dX11_setInitialValue_12 (by decide) (fun c12 => ?_) (fun c12 => ?_)
      · have e0 : (isIx f 3 = false ∨ v < -99 ∨ ¬ v ≤ nI 99) := Or.inr (Or.inl c12)
        refine V.iconst (v := -1) X dX11_setInitialValue_21 (by decide) ?_
        exact V.iret X Y9 dX11_setInitialValue_22 (Or.inl ⟨e0, rfl, rfl⟩) (Nat.le_of_ble_eq_true rfl) (Nat.le_of_ble_eq_true rfl)
      · refine V.iload_n X dX11_setInitialValue_15 rfl ?_
        refine V.bipush (v := nI 99) X dX11_setInitialValue_16 (by decide) ?_
        refine V.icmp_le 23 X dX11_setInitialValue_18 (by decide) (fun c18 => ?_) (fun c18 => ?_)
        · have e0 : isIx f 3 = true ∧ ¬ v < -99 ∧ v ≤ nI 99 := by
            obtain ⟨j, hj, rfl⟩ := isIx_t c1 c6 (by decide)
            exact ⟨by rw [isIx_nI (by omega)]; simp [hj], c12, c18⟩
          refine V.aload_n X dX11_setInitialValue_23 rfl ?_
          refine V.getf  X fX11_setInitialValue_26 dX11_setInitialValue_24 a.1 a.2.2.2.1 ?_
          refine V.getf  X fX11_setInitialValue_91 dX11_setInitialValue_27 l0.1.1.1 v0 ?_
          refine V.getf  X fX11_setInitialValue_95 dX11_setInitialValue_30 k0 k1 ?_
          refine V.iload_n X dX11_setInitialValue_33 rfl ?_
          refine V.callVi (n := 1) X dX11_setInitialValue_34 gX11_setInitialValue_X10_valueOf (c_X10_valueOf _ _ k4) rfl (by decide +kernel) rfl rfl rfl k4.1 rfl rfl ⟨Nat.le_of_ble_eq_true rfl, Nat.le_of_ble_eq_true rfl⟩ (fun r34 h34 hp34 => ?_)
          obtain ⟨rfl, e9⟩ := hp34; obtain rfl := e9.symm
          refine V.istore_n X dX11_setInitialValue_37 [(0, _), (1, _), (2, _), (3, _)] rfl rfl rfl ?_
          refine V.aload_n X dX11_setInitialValue_38 rfl ?_
          refine V.aload_n X dX11_setInitialValue_39 rfl ?_
          refine V.getf  X fX11_setInitialValue_26 dX11_setInitialValue_40 a.1 a.2.2.2.1 ?_
          refine V.getf  X fX11_setInitialValue_91 dX11_setInitialValue_43 l0.1.1.1 v0 ?_
          refine V.iload_n X dX11_setInitialValue_46 rfl ?_
          refine V.iload_n X dX11_setInitialValue_47 rfl ?_
          refine V.callVr (n := 2) X dX11_setInitialValue_48 gX11_setInitialValue_X1_withInitialValue (c_X1_withInitialValue _ _ (f := f) (v := v) p0) rfl (by decide +kernel) rfl rfl rfl p0.k rfl rfl ⟨Nat.le_of_ble_eq_true rfl, Nat.le_of_ble_eq_true rfl⟩ (fun r48 h48 hp48 => ?_)
          obtain ⟨-, rfl, f48, pC⟩ := hp48
          have n48 : CpAt (CtP T d) (cxG Γ) h48 (Hz h) (setF c.1 f v, c.2.1, c.2.2) := pC.tr (fun q t z hk => ⟨z.elim (fun z => z) (fun z => hC.new w q z), hk, fun _ => rfl⟩)
          have C48 := hC.grow w f48
          refine V.callVv (n := 1) X dX11_setInitialValue_51 gX11_setInitialValue_X11_replaceComponent (c_X11_replaceComponent _ _ C48 n48) rfl (by decide +kernel) rfl rfl rfl C48.1.1 rfl rfl ⟨Nat.le_of_ble_eq_true rfl, Nat.le_of_ble_eq_true rfl⟩ (fun h51 hp51 => ?_)
          obtain ⟨C51, f51⟩ := hp51
          refine V.bipush (v := nI 100) X dX11_setInitialValue_54 (by decide) ?_
          refine V.iload_n X dX11_setInitialValue_56 rfl ?_
          refine V.iadd X dX11_setInitialValue_57 ?_
          exact V.iret X Y9 dX11_setInitialValue_58 (Or.inr ⟨e0, rfl, C51, (fr_no f48).tr (fr_xh f51)⟩) (Nat.le_of_ble_eq_true rfl) (Nat.le_of_ble_eq_true rfl)
        · have e0 : (isIx f 3 = false ∨ v < -99 ∨ ¬ v ≤ nI 99) := Or.inr (Or.inr c18)
          refine V.iconst (v := -1) X dX11_setInitialValue_21 (by decide) ?_
          exact V.iret X Y9 dX11_setInitialValue_22 (Or.inl ⟨e0, rfl, rfl⟩) (Nat.le_of_ble_eq_true rfl) (Nat.le_of_ble_eq_true rfl)
