theorem fX3_restart_30 : FL wsX3_restart RX3 30 5 3 (.array (.object "ContractTester$State")) true := ⟨_, rfl, by decide, Or.inl ⟨"ContractTester$Exploration", by decide +kernel, Or.inl rfl⟩, by decide +kernel, by decide +kernel, rfl⟩
theorem fX3_restart_12 : FL wsX3_restart RX3 12 5 0 (.object "ContractTester$Component") false := ⟨_, rfl, by decide, Or.inl ⟨"ContractTester$Exploration", by decide +kernel, Or.inl rfl⟩, by decide +kernel, by decide +kernel, rfl⟩
theorem fX3_restart_53 : FL wsX3_restart RX3 53 3 0 (.object "ContractTester$State") true := ⟨_, rfl, by decide, Or.inr ⟨"ContractTester", by decide +kernel⟩, by decide +kernel, by decide +kernel, rfl⟩
theorem fX3_restart_34 : FL wsX3_restart RX3 34 5 4 (.array .int) true := ⟨_, rfl, by decide, Or.inl ⟨"ContractTester$Exploration", by decide +kernel, Or.inl rfl⟩, by decide +kernel, by decide +kernel, rfl⟩
theorem fX3_restart_50 : FL wsX3_restart RX3 50 5 5 .int false := ⟨_, rfl, by decide, Or.inl ⟨"ContractTester$Exploration", by decide +kernel, Or.inl rfl⟩, by decide +kernel, by decide +kernel, rfl⟩
theorem fX3_restart_60 : FL wsX3_restart RX3 60 5 8 .int false := ⟨_, rfl, by decide, Or.inl ⟨"ContractTester$Exploration", by decide +kernel, Or.inl rfl⟩, by decide +kernel, by decide +kernel, rfl⟩
theorem fX3_restart_63 : FL wsX3_restart RX3 63 5 9 .int false := ⟨_, rfl, by decide, Or.inl ⟨"ContractTester$Exploration", by decide +kernel, Or.inl rfl⟩, by decide +kernel, by decide +kernel, rfl⟩
theorem fX3_restart_66 : FL wsX3_restart RX3 66 5 10 .int false := ⟨_, rfl, by decide, Or.inl ⟨"ContractTester$Exploration", by decide +kernel, Or.inl rfl⟩, by decide +kernel, by decide +kernel, rfl⟩
theorem fX3_restart_69 : FL wsX3_restart RX3 69 5 11 .int false := ⟨_, rfl, by decide, Or.inl ⟨"ContractTester$Exploration", by decide +kernel, Or.inl rfl⟩, by decide +kernel, by decide +kernel, rfl⟩
set_option maxHeartbeats 4000000 in
set_option maxRecDepth 100000 in
theorem c_X3_restart (l : Launch) (G : GG) {h : Hp} {E : Nat} {r : Xr} {rs : St} (hX : XlAt h E r rs) {P : Nat → Prop} {o : Nat} {c : Cmp} (hO : Hv h E 0 = .ref o) (hC : CpAt P G h o c)  : Con l G yX3_restart wsX3_restart 1 21 0 0 [.ref E] h (pV (fun h2 => XlAt h2 E (rst c r) rs ∧ Fr (XS E) h h2 ∧ Hv h2 E 0 = .ref o)) := by
  refine Con.of (cc := cX3_restart) (nL := 1) (ret := none) (by decide) rfl rfl rfl rfl (fun Γ hG hl X Y9 => ?_)
  subst hG
  subst hl
  refine V.wf (fun w => ?_)
  obtain ⟨⟨a0, a1, a2⟩, n, pq, -⟩ := id hX
  obtain ⟨xx, y, z, hp, hx, k0, k1, k2, k3, k4, -⟩ := id hC
  obtain ⟨q1, q2, q3⟩ := pq 0 (by omega)
  refine V.aload_n X dX3_restart_0 rfl ?_
  refine V.getf  X fX3_restart_30 dX3_restart_1 a0.1 a0.2.2.1 ?_
  refine V.iconst (v := nI 0) X dX3_restart_4 (by decide) ?_
  refine V.aald (j := _)  X dX3_restart_5 a1.2.1 rfl rfl (by omega) (by omega) (a2.1 0 (by omega)).2 ?_
  refine V.aload_n X dX3_restart_6 rfl ?_
  refine V.getf  X fX3_restart_12 dX3_restart_7 a0.1 hO ?_
  refine V.getf  X fX3_restart_53 dX3_restart_10 k0 k1 ?_
  refine V.callVv (n := 1) X dX3_restart_13 gX3_restart_X10_copyFrom (c_X10_copyFrom _ _ q2 k4) rfl (by decide +kernel) rfl rfl rfl q2.1 rfl rfl ⟨Nat.le_of_ble_eq_true rfl, Nat.le_of_ble_eq_true rfl⟩ (fun h13 hp13 => ?_)
  have f13 : Fr (fun q => q = E + 13 + 3 * 0) h h13 := by rw [hp13]; exact ((Fr.put (S := fun q => q = E + 13 + 3 * 0) (Or.inl rfl)).thenPut (Or.inl rfl)).thenPut (Or.inl rfl)
  have s13 : StAt h13 (E + 13 + 3 * 0) c.1 := by rw [hp13]; exact ⟨q2.1, by simp [Hv_put], by simp [Hv_put], by simp [Hv_put]⟩
  refine V.wf (fun w13 => ?_)
  have A13 := hX.1.kept w f13 (by omega) (by omega) (by omega) (by omega)
  refine V.aload_n X dX3_restart_16 rfl ?_
  refine V.getf  X fX3_restart_34 dX3_restart_17 A13.1.1 A13.1.2.2.2.1 ?_
  refine V.iconst (v := nI 0) X dX3_restart_20 (by decide) ?_
  refine V.iconst (v := nI 0) X dX3_restart_21 (by decide) ?_
  refine V.iast (j := _) X dX3_restart_22 A13.2.1.2.2.1 rfl (by omega) (by omega) ?_
  have f22 : Fr (fun q => q = E + 13 + 3 * 0 ∨ q = E + 7) h (Hput h13 (E + 7) 0 (.int (nI 0))) := (f13.mono (fun q _ e => Or.inl e)).thenPut (Or.inl (Or.inr rfl))
  have X22 : XlAt (Hput h13 (E + 7) 0 (.int (nI 0))) E (r.1, xsq r, fup (xss r) 0 c.1, fup (xpr r) 0 0, xfs r, xvd r) rs := hX.setQ w f22 (i := 0) (by omega) (fun q e => by omega) (fun j hj => by rw [Hv_put_k _ _ _ _ hj, f13.v w a1.2.2.1 (by omega)]) rfl (fun j hj => ⟨rfl, fup_ne hj, fup_ne hj⟩) rfl rfl ⟨(q1.kept w f22 (by omega) (by omega)), by
      show StAt _ _ (fup (xss r) 0 c.1 0)
      rw [fup_at]
      exact s13.kept w13 (Fr.put (S := fun q => q = E + 7) (Or.inl rfl)) (by omega), by
      show Hv _ _ _ = .int (nI (fup (xpr r) 0 0 0))
      rw [fup_at, Hv_put_at]⟩
  have F22 : Fr (XS E) h (Hput h13 (E + 7) 0 (.int (nI 0))) := f22.mono (fun q _ e => Or.inr (by omega))
  have K22 : Hk (Hput h13 (E + 7) 0 (.int (nI 0))) E = some (.inl 5) := A13.1.1
  have O22 : Hv (Hput h13 (E + 7) 0 (.int (nI 0))) E 0 = .ref o := by rw [Hv_put_a _ _ _ _ (by omega), f13.v w a0.1 (by omega)]; exact hO
  refine V.aload_n X dX3_restart_23 rfl ?_
  refine V.iconst (v := nI 1) X dX3_restart_24 (by decide) ?_
  refine V.putf X fX3_restart_50 dX3_restart_25 K22 rfl rfl ?_
  refine V.aload_n X dX3_restart_28 rfl ?_
  refine V.iconst (v := nI 0) X dX3_restart_29 (by decide) ?_
  refine V.putf X fX3_restart_60 dX3_restart_30 K22 rfl rfl ?_
  refine V.aload_n X dX3_restart_33 rfl ?_
  refine V.iconst (v := nI 0) X dX3_restart_34 (by decide) ?_
  refine V.putf X fX3_restart_63 dX3_restart_35 K22 rfl rfl ?_
  refine V.aload_n X dX3_restart_38 rfl ?_
  refine V.iconst (v := nI 0) X dX3_restart_39 (by decide) ?_
  refine V.putf X fX3_restart_66 dX3_restart_40 K22 rfl rfl ?_
  refine V.aload_n X dX3_restart_43 rfl ?_
  refine V.iconst (v := nI 0) X dX3_restart_44 (by decide) ?_
  refine V.putf X fX3_restart_69 dX3_restart_45 K22 rfl rfl ?_
  exact V.vret X Y9 dX3_restart_48 ⟨rfl, ((((X22.put5 w13 (v := 1)).put8 w13 (v := 0)).put9 w13 (v := 0)).put10 w13 (v := 0)).put11 w13 (v := 0), ((((F22.thenPut (Or.inl (Or.inl rfl))).thenPut (Or.inl (Or.inl rfl))).thenPut (Or.inl (Or.inl rfl))).thenPut (Or.inl (Or.inl rfl))).thenPut (Or.inl (Or.inl rfl)), by rw [Hv_put_k _ _ _ _ (by decide), Hv_put_k _ _ _ _ (by decide), Hv_put_k _ _ _ _ (by decide), Hv_put_k _ _ _ _ (by decide), Hv_put_k _ _ _ _ (by decide)]; exact O22⟩ (Nat.le_of_ble_eq_true rfl) (Nat.le_of_ble_eq_true rfl)
theorem fX3_addFailure_60 : FL wsX3_addFailure RX3 60 5 8 .int false := ⟨_, rfl, by decide, Or.inl ⟨"ContractTester$Exploration", by decide +kernel, Or.inl rfl⟩, by decide +kernel, by decide +kernel, rfl⟩
theorem fX3_addFailure_38 : FL wsX3_addFailure RX3 38 5 6 (.array (.object "ContractTester$Sequence")) true := ⟨_, rfl, by decide, Or.inl ⟨"ContractTester$Exploration", by decide +kernel, Or.inl rfl⟩, by decide +kernel, by decide +kernel, rfl⟩
theorem fX3_addFailure_41 : FL wsX3_addFailure RX3 41 5 7 (.array .int) true := ⟨_, rfl, by decide, Or.inl ⟨"ContractTester$Exploration", by decide +kernel, Or.inl rfl⟩, by decide +kernel, by decide +kernel, rfl⟩
theorem fX3_addFailure_69 : FL wsX3_addFailure RX3 69 5 11 .int false := ⟨_, rfl, by decide, Or.inl ⟨"ContractTester$Exploration", by decide +kernel, Or.inl rfl⟩, by decide +kernel, by decide +kernel, rfl⟩
set_option maxHeartbeats 4000000 in
set_option maxRecDepth 100000 in
theorem c_X3_addFailure (l : Launch) (G : GG) {h : Hp} {E : Nat} {r : Xr} {rs : St} (hX : XlAt h E r rs) {i m : Nat} (hi : i < 40) (hl : (xsq r i).length < 8) {v : Nat} (hf : xfl r ≤ 20) : Con l G yX3_addFailure wsX3_addFailure 3 65 0 0 [.ref E, .ref (E + 11 + 3 * i), .int (nI m), .int (nI v)] h (pV (fun h2 => XlAt h2 E (addF r (xsq r i) m v) rs ∧ Fr (XS E) h h2 ∧ Hv h2 E 0 = Hv h E 0)) := by
  refine Con.of (cc := cX3_addFailure) (nL := 4) (ret := none) (by decide) rfl rfl rfl rfl (fun Γ hG hl X Y9 => ?_)
  subst hG
  subst hl
  refine V.wf (fun w => ?_)
  obtain ⟨⟨a0, a1, a2, a3⟩, n, pq, pg, -⟩ := id hX
  obtain ⟨q1, q2, q3⟩ := pq i hi
  have vf : Hv h E 8 = .int (nI (xfl r)) := n.2.2.1
  have vd : Hv h E 11 = .int (nI (xdr r)) := n.2.2.2.2.2
  refine V.aload_n X dX3_addFailure_0 rfl ?_
  refine V.getf  X fX3_addFailure_60 dX3_addFailure_1 a0.1 vf ?_
  refine V.bipush (v := nI 20) X dX3_addFailure_4 (by decide) ?_
  refine V.icmp_lt 22 X dX3_addFailure_6 (by decide) (fun c6 => ?_) (fun c6 => ?_)
  · rw [nI_ltI (by omega) (by omega)] at c6
    have ea : addF r (xsq r i) m v = ((xmx r, xpc r, xfl r + 1, xsk r, xrd r, xdr r), xsq r, xss r, xpr r, fup (xfs r) (xfl r) (xsq r i ++ [m]), fup (xvd r) (xfl r) v) := if_pos c6
    obtain ⟨g1, g2⟩ := pg (xfl r) c6
    refine V.aload_n X dX3_addFailure_22 rfl ?_
    refine V.getf  X fX3_addFailure_38 dX3_addFailure_23 a0.1 a0.2.2.2.2.1 ?_
    refine V.aload_n X dX3_addFailure_26 rfl ?_
    refine V.getf  X fX3_addFailure_60 dX3_addFailure_27 a0.1 vf ?_
    refine V.aald (j := _)  X dX3_addFailure_30 a1.2.2.2.1 rfl rfl (by omega) (by omega) (a3 _ c6) ?_
    refine V.aload_n X dX3_addFailure_31 rfl ?_
    refine V.callVv (n := 1) X dX3_addFailure_32 gX3_addFailure_X9_copyFrom (c_X9_copyFrom _ _ g1 q1 (by omega)) rfl (by decide +kernel) rfl rfl rfl g1.1 rfl rfl ⟨Nat.le_of_ble_eq_true rfl, Nat.le_of_ble_eq_true rfl⟩ (fun h32 hp32 => ?_)
    obtain ⟨s32, f32⟩ := hp32
    refine V.wf (fun w32 => ?_)
    have A32 := hX.1.kept w f32 (by omega) (by omega) (by omega) (by omega)
    have N32 := hX.2.1.kept hX.1 w f32 (by omega)
    have v32 : Hv h32 E 8 = .int (nI (xfl r)) := N32.2.2.1
    refine V.aload_n X dX3_addFailure_35 rfl ?_
    refine V.getf  X fX3_addFailure_38 dX3_addFailure_36 A32.1.1 A32.1.2.2.2.2.1 ?_
    refine V.aload_n X dX3_addFailure_39 rfl ?_
    refine V.getf  X fX3_addFailure_60 dX3_addFailure_40 A32.1.1 v32 ?_
    refine V.aald (j := _)  X dX3_addFailure_43 A32.2.1.2.2.2.1 rfl rfl (by omega) (by omega) (A32.2.2.2 _ c6) ?_
    refine V.iload_n X dX3_addFailure_44 rfl ?_
    refine V.callVv (n := 1) X dX3_addFailure_45 gX3_addFailure_X9_append (c_X9_append _ _ s32 hl) rfl (by decide +kernel) rfl rfl rfl s32.1 rfl rfl ⟨Nat.le_of_ble_eq_true rfl, Nat.le_of_ble_eq_true rfl⟩ (fun h45 hp45 => ?_)
    obtain ⟨s45, f45⟩ := hp45
    refine V.wf (fun w45 => ?_)
    have A45 := A32.kept w32 f45 (by omega) (by omega) (by omega) (by omega)
    have N45 := N32.kept A32 w32 f45 (by omega)
    have v45 : Hv h45 E 8 = .int (nI (xfl r)) := N45.2.2.1
    have F45 := f32.tr f45
    refine V.aload_n X dX3_addFailure_48 rfl ?_
    refine V.getf  X fX3_addFailure_41 dX3_addFailure_49 A45.1.1 A45.1.2.2.2.2.2.1 ?_
    refine V.aload_n X dX3_addFailure_52 rfl ?_
    refine V.getf  X fX3_addFailure_60 dX3_addFailure_53 A45.1.1 v45 ?_
    refine V.iload_n X dX3_addFailure_56 rfl ?_
    refine V.iast (j := _) X dX3_addFailure_57 A45.2.1.2.2.2.2 rfl (by omega) (by omega) ?_
    have F57 : Fr (fun q => q = E + 131 + 2 * xfl r ∨ q = E + 131 + 2 * xfl r + 1 ∨ q = E + 9) h (Hput h45 (E + 9) (xfl r) (.int (nI v))) := (F45.mono (fun q _ e => e.imp (fun z => z) (fun z => Or.inl z))).thenPut (Or.inl (Or.inr (Or.inr rfl)))
    have X57 : XlAt (Hput h45 (E + 9) (xfl r) (.int (nI v))) E (r.1, xsq r, xss r, xpr r, fup (xfs r) (xfl r) (xsq r i ++ [m]), fup (xvd r) (xfl r) v) rs := hX.setF w F57 c6 (fun q e => e) (fun j hj => by rw [Hv_put_k _ _ _ _ hj, F45.v w a1.2.2.2.2 (by omega)]) rfl rfl rfl rfl (fun j hj => ⟨fup_ne hj, fup_ne hj⟩) ⟨by
        show SqAt _ _ (fup (xfs r) (xfl r) (xsq r i ++ [m]) (xfl r))
        rw [fup_at]
        exact s45.kept w45 (Fr.put (S := fun q => q = E + 9) (Or.inl rfl)) (by omega) (by omega), by
        show Hv _ _ _ = .int (nI (fup (xvd r) (xfl r) v (xfl r)))
        rw [fup_at, Hv_put_at]⟩
    have K57 : Hk (Hput h45 (E + 9) (xfl r) (.int (nI v))) E = some (.inl 5) := A45.1.1
    have v57 : Hv (Hput h45 (E + 9) (xfl r) (.int (nI v))) E 8 = .int (nI (xfl r)) := X57.2.1.2.2.1
    refine V.aload_n X dX3_addFailure_58 rfl ?_
    refine V.dup X dX3_addFailure_59 rfl ?_
    refine V.getf  X fX3_addFailure_60 dX3_addFailure_60 K57 v57 ?_
    refine V.iconst (v := nI 1) X dX3_addFailure_63 (by decide) ?_
    refine V.iadd X dX3_addFailure_64 ?_
    rw [nI_add]
    refine V.putf X fX3_addFailure_60 dX3_addFailure_65 K57 rfl rfl ?_
    first
      | exact V.vret X Y9 dX3_addFailure_68 ⟨rfl, by rw [ea]; exact hX.put11 w, (Fr.put (Or.inl (Or.inl rfl))), Hv_put_k _ _ _ _ (by decide)⟩ (Nat.le_of_ble_eq_true rfl) (Nat.le_of_ble_eq_true rfl)
      | exact V.vret X Y9 dX3_addFailure_68 ⟨rfl, by rw [ea]; exact X57.put8 w45, (F57.mono (fun q _ e => Or.inr (by omega))).thenPut (Or.inl (Or.inl rfl)), by rw [Hv_put_k _ _ _ _ (by decide), Hv_put_a _ _ _ _ (by omega), F45.v w a0.1 (by omega)]⟩ (Nat.le_of_ble_eq_true rfl) (Nat.le_of_ble_eq_true rfl)
  · rw [nI_ltI (by omega) (by omega)] at c6
    have ea : addF r (xsq r i) m v = ((xmx r, xpc r, xfl r, xsk r, xrd r, xdr r + 1), r.2) := if_neg c6
    refine V.aload_n X dX3_addFailure_9 rfl ?_
    refine V.dup X dX3_addFailure_10 rfl ?_
    refine V.getf  X fX3_addFailure_69 dX3_addFailure_11 a0.1 vd ?_
    refine V.iconst (v := nI 1) X dX3_addFailure_14 (by decide) ?_
    refine V.iadd X dX3_addFailure_15 ?_
    rw [nI_add]
    refine V.putf X fX3_addFailure_69 dX3_addFailure_16 a0.1 rfl rfl ?_
    refine V.goto 68 X dX3_addFailure_19 (by decide) ?_
    first
      | exact V.vret X Y9 dX3_addFailure_68 ⟨rfl, by rw [ea]; exact hX.put11 w, (Fr.put (Or.inl (Or.inl rfl))), Hv_put_k _ _ _ _ (by decide)⟩ (Nat.le_of_ble_eq_true rfl) (Nat.le_of_ble_eq_true rfl)
      | exact V.vret X Y9 dX3_addFailure_68 ⟨rfl, by rw [ea]; exact X57.put8 w45, (F57.mono (fun q _ e => Or.inr (by omega))).thenPut (Or.inl (Or.inl rfl)), by rw [Hv_put_k _ _ _ _ (by decide), Hv_put_a _ _ _ _ (by omega), F45.v w a0.1 (by omega)]⟩ (Nat.le_of_ble_eq_true rfl) (Nat.le_of_ble_eq_true rfl)
theorem fX3_addReached_45 : FL wsX3_addReached RX3 45 5 12 (.object "ContractTester$State") true := ⟨_, rfl, by decide, Or.inl ⟨"ContractTester$Exploration", by decide +kernel, Or.inl rfl⟩, by decide +kernel, by decide +kernel, rfl⟩
theorem fX3_addReached_115 : FL wsX3_addReached RX3 115 12 0 .int false := ⟨_, rfl, by decide, Or.inr ⟨"ContractTester", by decide +kernel⟩, by decide +kernel, by decide +kernel, rfl⟩
theorem fX3_addReached_118 : FL wsX3_addReached RX3 118 12 1 .int false := ⟨_, rfl, by decide, Or.inr ⟨"ContractTester", by decide +kernel⟩, by decide +kernel, by decide +kernel, rfl⟩
theorem fX3_addReached_121 : FL wsX3_addReached RX3 121 12 2 .int false := ⟨_, rfl, by decide, Or.inr ⟨"ContractTester", by decide +kernel⟩, by decide +kernel, by decide +kernel, rfl⟩
theorem fX3_addReached_50 : FL wsX3_addReached RX3 50 5 5 .int false := ⟨_, rfl, by decide, Or.inl ⟨"ContractTester$Exploration", by decide +kernel, Or.inl rfl⟩, by decide +kernel, by decide +kernel, rfl⟩
theorem fX3_addReached_24 : FL wsX3_addReached RX3 24 5 2 (.array (.object "ContractTester$Sequence")) true := ⟨_, rfl, by decide, Or.inl ⟨"ContractTester$Exploration", by decide +kernel, Or.inl rfl⟩, by decide +kernel, by decide +kernel, rfl⟩
theorem fX3_addReached_30 : FL wsX3_addReached RX3 30 5 3 (.array (.object "ContractTester$State")) true := ⟨_, rfl, by decide, Or.inl ⟨"ContractTester$Exploration", by decide +kernel, Or.inl rfl⟩, by decide +kernel, by decide +kernel, rfl⟩
theorem fX3_addReached_34 : FL wsX3_addReached RX3 34 5 4 (.array .int) true := ⟨_, rfl, by decide, Or.inl ⟨"ContractTester$Exploration", by decide +kernel, Or.inl rfl⟩, by decide +kernel, by decide +kernel, rfl⟩
theorem fX3_addReached_69 : FL wsX3_addReached RX3 69 5 11 .int false := ⟨_, rfl, by decide, Or.inl ⟨"ContractTester$Exploration", by decide +kernel, Or.inl rfl⟩, by decide +kernel, by decide +kernel, rfl⟩
theorem fX3_addReached_66 : FL wsX3_addReached RX3 66 5 10 .int false := ⟨_, rfl, by decide, Or.inl ⟨"ContractTester$Exploration", by decide +kernel, Or.inl rfl⟩, by decide +kernel, by decide +kernel, rfl⟩
set_option maxHeartbeats 4000000 in
set_option maxRecDepth 100000 in
theorem c_X3_addReached (l : Launch) (G : GG) {h : Hp} {E : Nat} {r : Xr} {rs : St} (hX : XlAt h E r rs) {i m : Nat} (hi : i < 40) (hl : (xsq r i).length < 8) (hpc : i < xpc r ∧ xpc r ≤ 40) : Con l G yX3_addReached wsX3_addReached 3 65 0 0 [.ref E, .ref (E + 11 + 3 * i), .int (nI m)] h (pV (fun h2 => XlAt h2 E (addR r (xsq r i) m rs) rs ∧ Fr (XS E) h h2 ∧ Hv h2 E 0 = Hv h E 0)) := by
  refine Con.of (cc := cX3_addReached) (nL := 3) (ret := none) (by decide) rfl rfl rfl rfl (fun Γ hG hl X Y9 => ?_)
  subst hG
  subst hl
  refine V.wf (fun w => ?_)
  obtain ⟨⟨a0, a1, a2, a3⟩, n, pq, pg, sr⟩ := id hX
  obtain ⟨q1, q2, q3⟩ := pq i hi
  have vp : Hv h E 5 = .int (nI (xpc r)) := n.2.1
  have vr : Hv h E 10 = .int (nI (xrd r)) := n.2.2.2.2.1
  have vd : Hv h E 11 = .int (nI (xdr r)) := n.2.2.2.2.2
  refine V.aload_n X dX3_addReached_0 rfl ?_
  refine V.aload_n X dX3_addReached_1 rfl ?_
  refine V.getf  X fX3_addReached_45 dX3_addReached_2 a0.1 a0.2.2.2.2.2.2 ?_
  refine V.getf  X fX3_addReached_115 dX3_addReached_5 sr.1 sr.2.1 ?_
  refine V.aload_n X dX3_addReached_8 rfl ?_
  refine V.getf  X fX3_addReached_45 dX3_addReached_9 a0.1 a0.2.2.2.2.2.2 ?_
  refine V.getf  X fX3_addReached_118 dX3_addReached_12 sr.1 sr.2.2.1 ?_
  refine V.aload_n X dX3_addReached_15 rfl ?_
  refine V.getf  X fX3_addReached_45 dX3_addReached_16 a0.1 a0.2.2.2.2.2.2 ?_
  refine V.getf  X fX3_addReached_121 dX3_addReached_19 sr.1 sr.2.2.2 ?_
  refine V.callVi (n := 3) X dX3_addReached_22 gX3_addReached_X3_sequenceWithState (c_X3_sequenceWithState _ _ (t := rs) hX hpc.2) rfl (by decide +kernel) rfl rfl rfl a0.1 rfl rfl ⟨Nat.le_of_ble_eq_true rfl, Nat.le_of_ble_eq_true rfl⟩ (fun r22 h22 hp22 => ?_)
  obtain ⟨rfl, e9⟩ := hp22; obtain rfl := e9.symm
  refine V.sipush (v := -1000) X dX3_addReached_25 (by decide) ?_
  refine V.icmp_eq 44 X dX3_addReached_28 (by decide) (fun c28 => ?_) (fun c28 => ?_)
  · have hk9 : sws r rs 40 0 = none := oI_none (fun j hj => by have := sws_lt _ _ _ hj; omega) c28
    refine V.aload_n X dX3_addReached_44 rfl ?_
    refine V.getf  X fX3_addReached_50 dX3_addReached_45 a0.1 vp ?_
    refine V.bipush (v := nI 40) X dX3_addReached_48 (by decide) ?_
    refine V.icmp_lt 66 X dX3_addReached_50 (by decide) (fun c50 => ?_) (fun c50 => ?_)
    · rw [nI_ltI (by omega) (by omega)] at c50
      have ea : addR r (xsq r i) m rs = ((xmx r, xpc r + 1, xfl r, xsk r, xrd r, xdr r), fup (xsq r) (xpc r) (xsq r i ++ [m]), fup (xss r) (xpc r) rs, fup (xpr r) (xpc r) 0, xfs r, xvd r) := by
        unfold addR
        rw [hk9]
        exact if_pos c50
      obtain ⟨g1, g2, g3⟩ := pq (xpc r) c50
      refine V.aload_n X dX3_addReached_66 rfl ?_
      refine V.getf  X fX3_addReached_24 dX3_addReached_67 a0.1 a0.2.1 ?_
      refine V.aload_n X dX3_addReached_70 rfl ?_
      refine V.getf  X fX3_addReached_50 dX3_addReached_71 a0.1 vp ?_
      refine V.aald (j := _)  X dX3_addReached_74 a1.1 rfl rfl (by omega) (by omega) (a2 _ c50).1 ?_
      refine V.aload_n X dX3_addReached_75 rfl ?_
      refine V.callVv (n := 1) X dX3_addReached_76 gX3_addReached_X9_copyFrom (c_X9_copyFrom _ _ g1 q1 (by omega)) rfl (by decide +kernel) rfl rfl rfl g1.1 rfl rfl ⟨Nat.le_of_ble_eq_true rfl, Nat.le_of_ble_eq_true rfl⟩ (fun h76 hp76 => ?_)
      obtain ⟨s76, f76⟩ := hp76
      refine V.wf (fun w76 => ?_)
      have A76 := hX.1.kept w f76 (by omega) (by omega) (by omega) (by omega)
      have N76 := hX.2.1.kept hX.1 w f76 (by omega)
      have v76 : Hv h76 E 5 = .int (nI (xpc r)) := N76.2.1
      refine V.aload_n X dX3_addReached_79 rfl ?_
      refine V.getf  X fX3_addReached_24 dX3_addReached_80 A76.1.1 A76.1.2.1 ?_
      refine V.aload_n X dX3_addReached_83 rfl ?_
      refine V.getf  X fX3_addReached_50 dX3_addReached_84 A76.1.1 v76 ?_
      refine V.aald (j := _)  X dX3_addReached_87 A76.2.1.1 rfl rfl (by omega) (by omega) (A76.2.2.1 _ c50).1 ?_
      refine V.iload_n X dX3_addReached_88 rfl ?_
      refine V.callVv (n := 1) X dX3_addReached_89 gX3_addReached_X9_append (c_X9_append _ _ s76 hl) rfl (by decide +kernel) rfl rfl rfl s76.1 rfl rfl ⟨Nat.le_of_ble_eq_true rfl, Nat.le_of_ble_eq_true rfl⟩ (fun h89 hp89 => ?_)
      obtain ⟨s89, f89⟩ := hp89
      refine V.wf (fun w89 => ?_)
      have A89 := A76.kept w76 f89 (by omega) (by omega) (by omega) (by omega)
      have N89 := N76.kept A76 w76 f89 (by omega)
      have v89 : Hv h89 E 5 = .int (nI (xpc r)) := N89.2.1
      have F89 := f76.tr f89
      have t89 := g2.kept w F89 (by omega)
      have r89 := sr.kept w F89 (by omega)
      refine V.aload_n X dX3_addReached_92 rfl ?_
      refine V.getf  X fX3_addReached_30 dX3_addReached_93 A89.1.1 A89.1.2.2.1 ?_
      refine V.aload_n X dX3_addReached_96 rfl ?_
      refine V.getf  X fX3_addReached_50 dX3_addReached_97 A89.1.1 v89 ?_
      refine V.aald (j := _)  X dX3_addReached_100 A89.2.1.2.1 rfl rfl (by omega) (by omega) (A89.2.2.1 _ c50).2 ?_
      refine V.aload_n X dX3_addReached_101 rfl ?_
      refine V.getf  X fX3_addReached_45 dX3_addReached_102 A89.1.1 A89.1.2.2.2.2.2.2 ?_
      refine V.callVv (n := 1) X dX3_addReached_105 gX3_addReached_X10_copyFrom (c_X10_copyFrom _ _ t89 r89) rfl (by decide +kernel) rfl rfl rfl t89.1 rfl rfl ⟨Nat.le_of_ble_eq_true rfl, Nat.le_of_ble_eq_true rfl⟩ (fun h105 hp105 => ?_)
      have f105 : Fr (fun q => q = E + 13 + 3 * xpc r) h89 h105 := by rw [hp105]; exact ((Fr.put (S := fun q => q = E + 13 + 3 * xpc r) (Or.inl rfl)).thenPut (Or.inl rfl)).thenPut (Or.inl rfl)
      have s105 : StAt h105 (E + 13 + 3 * xpc r) rs := by rw [hp105]; exact ⟨t89.1, by simp [Hv_put], by simp [Hv_put], by simp [Hv_put]⟩
      refine V.wf (fun w105 => ?_)
      have A105 := A89.kept w89 f105 (by omega) (by omega) (by omega) (by omega)
      have N105 := N89.kept A89 w89 f105 (by omega)
      have v105 : Hv h105 E 5 = .int (nI (xpc r)) := N105.2.1
      have c105 := s89.kept w89 f105 (by omega) (by omega)
      have F105 : Fr (fun q => q = E + 11 + 3 * xpc r ∨ q = E + 11 + 3 * xpc r + 1 ∨ q = E + 13 + 3 * xpc r ∨ q = E + 7) h h105 := (F89.mono (fun q _ e => e.imp (fun z => z) (fun z => Or.inl z))).then f105 (fun q _ e => Or.inr (Or.inr (Or.inl e)))
      have G105 : ∀ j, Hv h105 (E + 7) j = Hv h (E + 7) j := fun j => by rw [f105.v w89 A89.2.1.2.2.1 (by omega), F89.v w a1.2.2.1 (by omega)]
      refine V.aload_n X dX3_addReached_108 rfl ?_
      refine V.getf  X fX3_addReached_34 dX3_addReached_109 A105.1.1 A105.1.2.2.2.1 ?_
      refine V.aload_n X dX3_addReached_112 rfl ?_
      refine V.getf  X fX3_addReached_50 dX3_addReached_113 A105.1.1 v105 ?_
      refine V.iconst (v := nI 0) X dX3_addReached_116 (by decide) ?_
      refine V.iast (j := _) X dX3_addReached_117 A105.2.1.2.2.1 rfl (by omega) (by omega) ?_
      have F117 : Fr (fun q => q = E + 11 + 3 * xpc r ∨ q = E + 11 + 3 * xpc r + 1 ∨ q = E + 13 + 3 * xpc r ∨ q = E + 7) h (Hput h105 (E + 7) (xpc r) (.int (nI 0))) := F105.thenPut (Or.inl (Or.inr (Or.inr (Or.inr rfl))))
      have X117 : XlAt (Hput h105 (E + 7) (xpc r) (.int (nI 0))) E (r.1, fup (xsq r) (xpc r) (xsq r i ++ [m]), fup (xss r) (xpc r) rs, fup (xpr r) (xpc r) 0, xfs r, xvd r) rs := hX.setQ w F117 c50 (fun q e => e) (fun j hj => by rw [Hv_put_k _ _ _ _ hj, G105]) rfl (fun j hj => ⟨fup_ne hj, fup_ne hj, fup_ne hj⟩) rfl rfl ⟨by
          show SqAt _ _ (fup (xsq r) (xpc r) (xsq r i ++ [m]) (xpc r))
          rw [fup_at]
          exact c105.kept w105 (Fr.put (S := fun q => q = E + 7) (Or.inl rfl)) (by omega) (by omega), by
          show StAt _ _ (fup (xss r) (xpc r) rs (xpc r))
          rw [fup_at]
          exact s105.kept w105 (Fr.put (S := fun q => q = E + 7) (Or.inl rfl)) (by omega), by
          show Hv _ _ _ = .int (nI (fup (xpr r) (xpc r) 0 (xpc r)))
          rw [fup_at, Hv_put_at]⟩
      have K117 : Hk (Hput h105 (E + 7) (xpc r) (.int (nI 0))) E = some (.inl 5) := A105.1.1
      have v117 : Hv (Hput h105 (E + 7) (xpc r) (.int (nI 0))) E 5 = .int (nI (xpc r)) := X117.2.1.2.1
      have o117 : Hv (Hput h105 (E + 7) (xpc r) (.int (nI 0))) E 0 = Hv h E 0 := by rw [Hv_put_a _ _ _ _ (by omega), F105.v w a0.1 (by omega)]
      refine V.aload_n X dX3_addReached_118 rfl ?_
      refine V.dup X dX3_addReached_119 rfl ?_
      refine V.getf  X fX3_addReached_50 dX3_addReached_120 K117 v117 ?_
      refine V.iconst (v := nI 1) X dX3_addReached_123 (by decide) ?_
      refine V.iadd X dX3_addReached_124 ?_
      rw [nI_add]
      refine V.putf X fX3_addReached_50 dX3_addReached_125 K117 rfl rfl ?_
      first
        | exact V.vret X Y9 dX3_addReached_128 ⟨rfl, by rw [ea]; exact hX.put10 w, (Fr.put (Or.inl (Or.inl rfl))), Hv_put_k _ _ _ _ (by decide)⟩ (Nat.le_of_ble_eq_true rfl) (Nat.le_of_ble_eq_true rfl)
        | exact V.vret X Y9 dX3_addReached_128 ⟨rfl, by rw [ea]; exact hX.put11 w, (Fr.put (Or.inl (Or.inl rfl))), Hv_put_k _ _ _ _ (by decide)⟩ (Nat.le_of_ble_eq_true rfl) (Nat.le_of_ble_eq_true rfl)
        | exact V.vret X Y9 dX3_addReached_128 ⟨rfl, by rw [ea]; exact X117.put5 w105, (F117.mono (fun q _ e => Or.inr (by omega))).thenPut (Or.inl (Or.inl rfl)), by rw [Hv_put_k _ _ _ _ (by decide)]; exact o117⟩ (Nat.le_of_ble_eq_true rfl) (Nat.le_of_ble_eq_true rfl)
    · rw [nI_ltI (by omega) (by omega)] at c50
      have ea : addR r (xsq r i) m rs = ((xmx r, xpc r, xfl r, xsk r, xrd r, xdr r + 1), r.2) := by
        unfold addR
        rw [hk9]
        exact if_neg c50
      refine V.aload_n X dX3_addReached_53 rfl ?_
      refine V.dup X dX3_addReached_54 rfl ?_
      refine V.getf  X fX3_addReached_69 dX3_addReached_55 a0.1 vd ?_
      refine V.iconst (v := nI 1) X dX3_addReached_58 (by decide) ?_
      refine V.iadd X dX3_addReached_59 ?_
      rw [nI_add]
      refine V.putf X fX3_addReached_69 dX3_addReached_60 a0.1 rfl rfl ?_
      refine V.goto 128 X dX3_addReached_63 (by decide) ?_
      first
        | exact V.vret X Y9 dX3_addReached_128 ⟨rfl, by rw [ea]; exact hX.put10 w, (Fr.put (Or.inl (Or.inl rfl))), Hv_put_k _ _ _ _ (by decide)⟩ (Nat.le_of_ble_eq_true rfl) (Nat.le_of_ble_eq_true rfl)
        | exact V.vret X Y9 dX3_addReached_128 ⟨rfl, by rw [ea]; exact hX.put11 w, (Fr.put (Or.inl (Or.inl rfl))), Hv_put_k _ _ _ _ (by decide)⟩ (Nat.le_of_ble_eq_true rfl) (Nat.le_of_ble_eq_true rfl)
        | exact V.vret X Y9 dX3_addReached_128 ⟨rfl, by rw [ea]; exact X117.put5 w105, (F117.mono (fun q _ e => Or.inr (by omega))).thenPut (Or.inl (Or.inl rfl)), by rw [Hv_put_k _ _ _ _ (by decide)]; exact o117⟩ (Nat.le_of_ble_eq_true rfl) (Nat.le_of_ble_eq_true rfl)
  · obtain ⟨k9, hk9⟩ := oI_some c28
    have ea : addR r (xsq r i) m rs = ((xmx r, xpc r, xfl r, xsk r, xrd r + 1, xdr r), r.2) := by
      unfold addR
      rw [hk9]
    refine V.aload_n X dX3_addReached_31 rfl ?_
    refine V.dup X dX3_addReached_32 rfl ?_
    refine V.getf  X fX3_addReached_66 dX3_addReached_33 a0.1 vr ?_
    refine V.iconst (v := nI 1) X dX3_addReached_36 (by decide) ?_
    refine V.iadd X dX3_addReached_37 ?_
    rw [nI_add]
    refine V.putf X fX3_addReached_66 dX3_addReached_38 a0.1 rfl rfl ?_
    refine V.goto 128 X dX3_addReached_41 (by decide) ?_
    first
      | exact V.vret X Y9 dX3_addReached_128 ⟨rfl, by rw [ea]; exact hX.put10 w, (Fr.put (Or.inl (Or.inl rfl))), Hv_put_k _ _ _ _ (by decide)⟩ (Nat.le_of_ble_eq_true rfl) (Nat.le_of_ble_eq_true rfl)
      | exact V.vret X Y9 dX3_addReached_128 ⟨rfl, by rw [ea]; exact hX.put11 w, (Fr.put (Or.inl (Or.inl rfl))), Hv_put_k _ _ _ _ (by decide)⟩ (Nat.le_of_ble_eq_true rfl) (Nat.le_of_ble_eq_true rfl)
      | exact V.vret X Y9 dX3_addReached_128 ⟨rfl, by rw [ea]; exact X117.put5 w105, (F117.mono (fun q _ e => Or.inr (by omega))).thenPut (Or.inl (Or.inl rfl)), by rw [Hv_put_k _ _ _ _ (by decide)]; exact o117⟩ (Nat.le_of_ble_eq_true rfl) (Nat.le_of_ble_eq_true rfl)
