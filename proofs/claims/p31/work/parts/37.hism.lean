theorem fX4_isEmpty_18 : FL wsX4_isEmpty RX4 18 6 2 .int false := ⟨_, rfl, by decide, Or.inl ⟨"ContractTester$History", by decide +kernel, Or.inl rfl⟩, by decide +kernel, by decide +kernel, rfl⟩
set_option maxHeartbeats 4000000 in
set_option maxRecDepth 100000 in
theorem c_X4_isEmpty (l : Launch) (G : GG) {P : Nat → Prop} {h : Hp} {H la k : Nat} {sx : Nat → Cmp × Xr} (hH : HsAt P G h H la k sx)  : Con l G yX4_isEmpty wsX4_isEmpty 0 0 0 0 [.ref H] h (pI (fun y h2 => y = bI (decide (k = 0)) ∧ h2 = h)) := by
  refine Con.of (cc := cX4_isEmpty) (nL := 1) (ret := (some .boolean)) (by decide) rfl rfl rfl rfl (fun Γ hG hl X Y9 => ?_)
  subst hG
  subst hl
  obtain ⟨a, b, c, -⟩ := id hH
  have hk6 := c.2
  refine V.aload_n X dX4_isEmpty_0 rfl ?_
  refine V.getf  X fX4_isEmpty_18 dX4_isEmpty_1 a.1 b.2 ?_
  refine V.if_ne 11 X dX4_isEmpty_4 (by decide) (fun c4 => ?_) (fun c4 => ?_)
  · have e0 : decide (k = 0) = false := by
      have hz : ¬ k = 0 := fun z => c4 (by rw [z]; rfl)
      simp [hz]
    refine V.iconst (v := nI 0) X dX4_isEmpty_11 (by decide) ?_
    exact V.bret X Y9 dX4_isEmpty_12 (decide (k = 0)) (by rw [e0]; rfl) ⟨rfl, rfl⟩ (Nat.le_of_ble_eq_true rfl) (Nat.le_of_ble_eq_true rfl)
  · have e0 : decide (k = 0) = true := by
      rcases Nat.eq_zero_or_pos k with z | z
      · simp [z]
      · exact absurd c4 (nI_ne0 z (by omega))
    refine V.iconst (v := nI 1) X dX4_isEmpty_7 (by decide) ?_
    refine V.goto 12 X dX4_isEmpty_8 (by decide) ?_
    exact V.bret X Y9 dX4_isEmpty_12 (decide (k = 0)) (by rw [e0]; rfl) ⟨rfl, rfl⟩ (Nat.le_of_ble_eq_true rfl) (Nat.le_of_ble_eq_true rfl)
theorem fX4_remember_22 : FL wsX4_remember RX4 22 6 1 .int false := ⟨_, rfl, by decide, Or.inl ⟨"ContractTester$History", by decide +kernel, Or.inl rfl⟩, by decide +kernel, by decide +kernel, rfl⟩
theorem fX4_remember_11 : FL wsX4_remember RX4 11 6 0 (.array (.object "ContractTester$Exploration")) true := ⟨_, rfl, by decide, Or.inl ⟨"ContractTester$History", by decide +kernel, Or.inl rfl⟩, by decide +kernel, by decide +kernel, rfl⟩
theorem fX4_remember_18 : FL wsX4_remember RX4 18 6 2 .int false := ⟨_, rfl, by decide, Or.inl ⟨"ContractTester$History", by decide +kernel, Or.inl rfl⟩, by decide +kernel, by decide +kernel, rfl⟩
set_option maxHeartbeats 4000000 in
set_option maxRecDepth 100000 in
theorem c_X4_remember (l : Launch) (G : GG) {P : Nat → Prop} {h : Hp} {H la k : Nat} {sx : Nat → Cmp × Xr} (hH : HsAt P G h H la k sx) {E : Nat} {c0 : Cmp} {r : Xr} (hE : XcAt P G h E c0 r) (hd : E + 171 ≤ H ∨ H + 1028 ≤ E) (hPx : ∀ q, P q → ¬ HsS H q) : Con l G yX4_remember wsX4_remember 4 87 0 0 [.ref H, .ref E] h (pV (fun h2 => HsAt P G h2 H (nxL la) (nxK k) (fup sx (nxL la) (c0, r)) ∧ Fr (HsS H) h h2)) := by
  refine Con.of (cc := cX4_remember) (nL := 2) (ret := none) (by decide) rfl rfl rfl rfl (fun Γ hG hl X Y9 => ?_)
  subst hG
  subst hl
  refine V.wf (fun w => ?_)
  obtain ⟨a, b, c, d⟩ := id hH
  have hl6 := c.1
  have hk6 := c.2
  have tail : ∀ l2, l2 < 6 → l2 = nxL la → V Γ 0 0 19 [(0, .ref H), (1, .ref E)] [.int (nI l2), .ref H] h := by
    intro l2 hl2 el2
    subst el2
    refine V.putf X fX4_remember_22 dX4_remember_19 a.1 rfl rfl ?_
    have R19 : HsR (Hput h H 1 (.int (nI (nxL la)))) H := a.put (by decide)
    have f19 : Fr (fun q => q = H) h (Hput h H 1 (.int (nI (nxL la)))) := Fr.put (Or.inl rfl)
    have w19 : WF (Hput h H 1 (.int (nI (nxL la)))) := fun q t z => w q t z
    obtain ⟨⟨rsD, xD⟩, -⟩ := (d _ hl2).kept w f19 (fun q e z => by unfold XS at z; omega) (fun q z e => hPx q z (Or.inl e))
    obtain ⟨⟨rs9, x9⟩, o9, v9, p9⟩ := hE.kept w f19 (fun q e z => by unfold XS at z; omega) (fun q z e => hPx q z (Or.inl e))
    refine V.aload_n X dX4_remember_22 rfl ?_
    refine V.getf  X fX4_remember_11 dX4_remember_23 R19.1 R19.2.1 ?_
    refine V.aload_n X dX4_remember_26 rfl ?_
    refine V.getf  X fX4_remember_22 dX4_remember_27 R19.1 (Hv_put_at _ _ _ _) ?_
    refine V.aald (j := _)  X dX4_remember_30 R19.2.2.1 rfl rfl (by omega) (by omega) (R19.2.2.2 _ hl2) ?_
    refine V.aload_n X dX4_remember_31 rfl ?_
    refine V.callVv (n := 1) X dX4_remember_32 gX4_remember_X3_copyFrom (c_X3_copyFrom _ _ xD x9 v9 (by omega)) rfl (by decide +kernel) rfl rfl rfl xD.1.1.1 rfl rfl ⟨Nat.le_of_ble_eq_true rfl, Nat.le_of_ble_eq_true rfl⟩ (fun h32 hp32 => ?_)
    obtain ⟨x32, f32, o32⟩ := hp32
    refine V.wf (fun w32 => ?_)
    have nH : ¬ XS (H + 2 + 171 * nxL la) H := fun e => by unfold XS at e; omega
    have R32 := R19.kept w19 f32 nH (fun e => by unfold XS at e; omega)
    have k32 : Hv h32 H 2 = .int (nI k) := by rw [f32.v w19 R19.1 nH, Hv_put_k _ _ _ _ (by decide)]; exact b.2
    have l32 : Hv h32 H 1 = .int (nI (nxL la)) := by rw [f32.v w19 R19.1 nH, Hv_put_at]
    have F32 : Fr (HsS H) h h32 := (f19.mono (fun q _ e => Or.inl e)).then f32 (fun q _ e => Or.inr ⟨_, hl2, e⟩)
    have X32 : ∀ i, i < 6 → XcAt P (cxG Γ) h32 (H + 2 + 171 * i) (fup sx (nxL la) (c0, r) i).1 (fup sx (nxL la) (c0, r) i).2 := by
      intro i hi
      by_cases hil : i = nxL la
      · rw [hil, fup_at]
        exact ⟨⟨_, x32⟩, o9, o32, p9.un (f32.un w19 (fun q z e => hPx q z (Or.inr ⟨_, hl2, e⟩)))⟩
      · rw [fup_ne hil]
        exact ((d i hi).kept w f19 (fun q e z => by unfold XS at z; omega) (fun q z e => hPx q z (Or.inl e))).kept w19 f32 (fun q e z => by unfold XS at e z; omega) (fun q z e => hPx q z (Or.inr ⟨_, hl2, e⟩))
    refine V.aload_n X dX4_remember_35 rfl ?_
    refine V.getf  X fX4_remember_18 dX4_remember_36 R32.1 k32 ?_
    refine V.bipush (v := nI 6) X dX4_remember_39 (by decide) ?_
    refine V.icmp_ge 54 X dX4_remember_41 (by decide) (fun c41 => ?_) (fun c41 => ?_)
    · rw [nI_leI (by omega) (by omega)] at c41
      have ek : nxK k = k := if_neg (by omega)
      have hfin : HsAt P (cxG Γ) h32 H (nxL la) (nxK k) (fup sx (nxL la) (c0, r)) ∧ Fr (HsS H) h h32 := ⟨⟨R32, ⟨l32, by rw [ek]; exact k32⟩, ⟨hl2, by omega⟩, X32⟩, F32⟩
      exact V.vret X Y9 dX4_remember_54 ⟨rfl, hfin⟩ (Nat.le_of_ble_eq_true rfl) (Nat.le_of_ble_eq_true rfl)
    · rw [nI_leI (by omega) (by omega)] at c41
      have ek : nxK k = k + 1 := if_pos (by omega)
      refine V.aload_n X dX4_remember_44 rfl ?_
      refine V.dup X dX4_remember_45 rfl ?_
      refine V.getf  X fX4_remember_18 dX4_remember_46 R32.1 k32 ?_
      refine V.iconst (v := nI 1) X dX4_remember_49 (by decide) ?_
      refine V.iadd X dX4_remember_50 ?_
      rw [nI_add]
      refine V.putf X fX4_remember_18 dX4_remember_51 R32.1 rfl rfl ?_
      have hfin : HsAt P (cxG Γ) (Hput h32 H 2 (.int (nI (k + 1)))) H (nxL la) (nxK k) (fup sx (nxL la) (c0, r)) ∧ Fr (HsS H) h (Hput h32 H 2 (.int (nI (k + 1)))) := ⟨⟨R32.put (by decide), ⟨by rw [Hv_put_k _ _ _ _ (by decide)]; exact l32, by rw [ek, Hv_put_at]⟩, ⟨hl2, by omega⟩, fun i hi => (X32 i hi).kept w32 (Fr.put (S := fun q => q = H) (Or.inl rfl)) (fun q e z => by unfold XS at z; omega) (fun q z e => hPx q z (Or.inl e))⟩, F32.thenPut (Or.inl (Or.inl rfl))⟩
      exact V.vret X Y9 dX4_remember_54 ⟨rfl, hfin⟩ (Nat.le_of_ble_eq_true rfl) (Nat.le_of_ble_eq_true rfl)
  refine V.aload_n X dX4_remember_0 rfl ?_
  refine V.aload_n X dX4_remember_1 rfl ?_
  refine V.getf  X fX4_remember_22 dX4_remember_2 a.1 b.1 ?_
  refine V.iconst (v := nI 5) X dX4_remember_5 (by decide) ?_
  refine V.icmp_ge 18 X dX4_remember_6 (by decide) (fun c6 => ?_) (fun c6 => ?_)
  · rw [nI_leI (by omega) (by omega)] at c6
    refine V.iconst (v := nI 0) X dX4_remember_18 (by decide) ?_
    first
      | exact tail 0 (by omega) (by unfold nxL; rw [if_neg (by omega)])
      | exact tail (la + 1) (by omega) (by unfold nxL; rw [if_pos (by omega)])
  · rw [nI_leI (by omega) (by omega)] at c6
    refine V.aload_n X dX4_remember_9 rfl ?_
    refine V.getf  X fX4_remember_22 dX4_remember_10 a.1 b.1 ?_
    refine V.iconst (v := nI 1) X dX4_remember_13 (by decide) ?_
    refine V.iadd X dX4_remember_14 ?_
    rw [nI_add]
    refine V.goto 19 X dX4_remember_15 (by decide) ?_
    first
      | exact tail 0 (by omega) (by unfold nxL; rw [if_neg (by omega)])
      | exact tail (la + 1) (by omega) (by unfold nxL; rw [if_pos (by omega)])
theorem fX4_restoreLatest_11 : FL wsX4_restoreLatest RX4 11 6 0 (.array (.object "ContractTester$Exploration")) true := ⟨_, rfl, by decide, Or.inl ⟨"ContractTester$History", by decide +kernel, Or.inl rfl⟩, by decide +kernel, by decide +kernel, rfl⟩
theorem fX4_restoreLatest_22 : FL wsX4_restoreLatest RX4 22 6 1 .int false := ⟨_, rfl, by decide, Or.inl ⟨"ContractTester$History", by decide +kernel, Or.inl rfl⟩, by decide +kernel, by decide +kernel, rfl⟩
theorem fX4_restoreLatest_18 : FL wsX4_restoreLatest RX4 18 6 2 .int false := ⟨_, rfl, by decide, Or.inl ⟨"ContractTester$History", by decide +kernel, Or.inl rfl⟩, by decide +kernel, by decide +kernel, rfl⟩
set_option maxHeartbeats 4000000 in
set_option maxRecDepth 100000 in
theorem c_X4_restoreLatest (l : Launch) (G : GG) {P : Nat → Prop} {h : Hp} {H la k : Nat} {sx : Nat → Cmp × Xr} (hH : HsAt P G h H la k sx) {E : Nat} {c0 : Cmp} {r : Xr} (hE : XcAt P G h E c0 r) (hd : E + 171 ≤ H ∨ H + 1028 ≤ E) (hk0 : 0 < k) (hPx : ∀ q, P q → ¬ XS E q) (hPH : ¬ P H) : Con l G yX4_restoreLatest wsX4_restoreLatest 4 87 0 0 [.ref H, .ref E] h (pI (fun y h2 => y = nI (k - 1) ∧ HsAt P G h2 H (pvL la) (k - 1) sx ∧ XcAt P G h2 E (sx la).1 (sx la).2 ∧ Fr (fun q => q = H ∨ XS E q) h h2)) := by
  refine Con.of (cc := cX4_restoreLatest) (nL := 2) (ret := (some .int)) (by decide) rfl rfl rfl rfl (fun Γ hG hl X Y9 => ?_)
  subst hG
  subst hl
  refine V.wf (fun w => ?_)
  obtain ⟨a, b, c, d⟩ := id hH
  have hl6 := c.1
  have hk6 := c.2
  have hpl := pvL_lt hl6
  obtain ⟨⟨rsE, xE⟩, -⟩ := id hE
  obtain ⟨⟨rsS, xS⟩, oS, vS, pS⟩ := d la hl6
  refine V.aload_n X dX4_restoreLatest_0 rfl ?_
  refine V.aload_n X dX4_restoreLatest_1 rfl ?_
  refine V.getf  X fX4_restoreLatest_11 dX4_restoreLatest_2 a.1 a.2.1 ?_
  refine V.aload_n X dX4_restoreLatest_5 rfl ?_
  refine V.getf  X fX4_restoreLatest_22 dX4_restoreLatest_6 a.1 b.1 ?_
  refine V.aald (j := _)  X dX4_restoreLatest_9 a.2.2.1 rfl rfl (by omega) (by omega) (a.2.2.2 _ hl6) ?_
  refine V.callVv (n := 1) X dX4_restoreLatest_10 gX4_restoreLatest_X3_copyFrom (c_X3_copyFrom _ _ xE xS vS (by omega)) rfl (by decide +kernel) rfl rfl rfl xE.1.1.1 rfl rfl ⟨Nat.le_of_ble_eq_true rfl, Nat.le_of_ble_eq_true rfl⟩ (fun h10 hp10 => ?_)
  obtain ⟨x10, f10, o10⟩ := hp10
  refine V.wf (fun w10 => ?_)
  have nH : ¬ XS E H := fun e => by unfold XS at e; omega
  have R10 := a.kept w f10 nH (fun e => by unfold XS at e; omega)
  have k10 : Hv h10 H 2 = .int (nI k) := by rw [f10.v w a.1 nH]; exact b.2
  have l10 : Hv h10 H 1 = .int (nI la) := by rw [f10.v w a.1 nH]; exact b.1
  have X10 : ∀ i, i < 6 → XcAt P (cxG Γ) h10 (H + 2 + 171 * i) (sx i).1 (sx i).2 := fun i hi => (d i hi).kept w f10 (fun q e z => by unfold XS at e z; omega) hPx
  have E10 : XcAt P (cxG Γ) h10 E (sx la).1 (sx la).2 := ⟨⟨_, x10⟩, oS, o10, pS.un (f10.un w hPx)⟩
  have tail : ∀ l2, l2 = pvL la → V Γ 0 0 31 [(0, .ref H), (1, .ref E)] [.int (nI l2), .ref H] h10 := by
    intro l2 el2
    subst el2
    refine V.putf X fX4_restoreLatest_22 dX4_restoreLatest_31 R10.1 rfl rfl ?_
    have R31 : HsR (Hput h10 H 1 (.int (nI (pvL la)))) H := R10.put (by decide)
    refine V.aload_n X dX4_restoreLatest_34 rfl ?_
    refine V.dup X dX4_restoreLatest_35 rfl ?_
    refine V.getf  X fX4_restoreLatest_18 dX4_restoreLatest_36 R31.1 ((Hv_put_k _ _ _ _ (by decide)).trans k10) ?_
    refine V.iconst (v := nI 1) X dX4_restoreLatest_39 (by decide) ?_
    refine V.isub X dX4_restoreLatest_40 ?_
    rw [nI_sub9 hk0]
    refine V.putf X fX4_restoreLatest_18 dX4_restoreLatest_41 R31.1 rfl rfl ?_
    have R41 : HsR (Hput (Hput h10 H 1 (.int (nI (pvL la)))) H 2 (.int (nI (k - 1)))) H := R31.put (by decide)
    have f41 : Fr (fun q => q = H) h10 (Hput (Hput h10 H 1 (.int (nI (pvL la)))) H 2 (.int (nI (k - 1)))) := (Fr.put (S := fun q => q = H) (Or.inl rfl)).thenPut (Or.inl rfl)
    have hfin : HsAt P (cxG Γ) (Hput (Hput h10 H 1 (.int (nI (pvL la)))) H 2 (.int (nI (k - 1)))) H (pvL la) (k - 1) sx := ⟨R41, ⟨by rw [Hv_put_k _ _ _ _ (by decide), Hv_put_at], by rw [Hv_put_at]⟩, ⟨hpl, by omega⟩, fun i hi => (X10 i hi).kept w10 f41 (fun q e z => by unfold XS at z; omega) (fun q z e => hPH (by rw [← e]; exact z))⟩
    have hfin2 : XcAt P (cxG Γ) (Hput (Hput h10 H 1 (.int (nI (pvL la)))) H 2 (.int (nI (k - 1)))) E (sx la).1 (sx la).2 := E10.kept w10 f41 (fun q e z => by unfold XS at z; omega) (fun q z e => hPH (by rw [← e]; exact z))
    refine V.aload_n X dX4_restoreLatest_44 rfl ?_
    refine V.getf  X fX4_restoreLatest_18 dX4_restoreLatest_45 R41.1 (Hv_put_at _ _ _ _) ?_
    exact V.iret X Y9 dX4_restoreLatest_48 ⟨rfl, hfin, hfin2, (f10.mono (fun q _ e => Or.inr e)).then f41 (fun q _ e => Or.inl e)⟩ (Nat.le_of_ble_eq_true rfl) (Nat.le_of_ble_eq_true rfl)
  refine V.aload_n X dX4_restoreLatest_13 rfl ?_
  refine V.aload_n X dX4_restoreLatest_14 rfl ?_
  refine V.getf  X fX4_restoreLatest_22 dX4_restoreLatest_15 R10.1 l10 ?_
  refine V.if_le 30 X dX4_restoreLatest_18 (by decide) (fun c18 => ?_) (fun c18 => ?_)
  · have hz : ¬ 0 < la := fun z => absurd c18 (nI_nle z (by omega))
    refine V.iconst (v := nI 5) X dX4_restoreLatest_30 (by decide) ?_
    first
      | exact tail (la - 1) (by unfold pvL; rw [if_pos hz])
      | exact tail 5 (by unfold pvL; rw [if_neg hz])
  · have hz : 0 < la := by
      rcases Nat.eq_zero_or_pos la with z | z
      · rw [z] at c18; exact absurd (by decide) c18
      · exact z
    refine V.aload_n X dX4_restoreLatest_21 rfl ?_
    refine V.getf  X fX4_restoreLatest_22 dX4_restoreLatest_22 R10.1 l10 ?_
    refine V.iconst (v := nI 1) X dX4_restoreLatest_25 (by decide) ?_
    refine V.isub X dX4_restoreLatest_26 ?_
    rw [nI_sub9 hz]
    refine V.goto 31 X dX4_restoreLatest_27 (by decide) ?_
    first
      | exact tail (la - 1) (by unfold pvL; rw [if_pos hz])
      | exact tail 5 (by unfold pvL; rw [if_neg hz])
theorem fX4_init_11 : FL wsX4_init RX4 11 6 0 (.array (.object "ContractTester$Exploration")) true := ⟨_, rfl, by decide, Or.inl ⟨"ContractTester$History", by decide +kernel, Or.inl rfl⟩, by decide +kernel, by decide +kernel, rfl⟩
set_option maxHeartbeats 4000000 in
set_option maxRecDepth 100000 in
theorem c_X4_init (l : Launch) (G : GG) {h : Hp} {H : Nat} (k0 : Hk h H = some (.inl 6)) (k1 : Hv h H 1 = .int 0) (k2 : Hv h H 2 = .int 0) (hz : Hz h = H + 1) : Con l G yX4_init wsX4_init 6 121 1027 5454 [.ref H] h (pV (fun h2 => HsAt (fun q => ∃ i, i < 6 ∧ H + 2 + 171 * i + 1 ≤ q ∧ q ≤ H + 2 + 171 * i + 4) G h2 H 0 0 (fun _ => (cmp0, x0)) ∧ Fr (fun q => q = H) h h2 ∧ Hz h2 = H + 1028)) := by
  refine Con.of (cc := cX4_init) (nL := 2) (ret := none) (by decide) rfl rfl rfl rfl (fun Γ hG hl X Y9 => ?_)
  subst hG
  subst hl
  refine V.wf (fun w => ?_)
  have hH := w _ _ k0
  have loop : ∀ (m j : Nat) (h1 : Hp), j + m = 6 → Hk h1 H = some (.inl 6) → Hv h1 H 0 = .ref (H + 1) → Hk h1 (H + 1) = some (.inr (5, 6)) → (∀ i, i < j → Hv h1 (H + 1) i = .ref (H + 2 + 171 * i) ∧ XcAt (fun q => ∃ i, i < 6 ∧ H + 2 + 171 * i + 1 ≤ q ∧ q ≤ H + 2 + 171 * i + 4) (cxG Γ) h1 (H + 2 + 171 * i) cmp0 x0) → Fr (fun q => q = H) h h1 → Hv h1 H 1 = .int 0 → Hv h1 H 2 = .int 0 → Hz h1 = H + 2 + 171 * j → V Γ (1 + 171 * j) (6 + 908 * j) 15 [(0, .ref H), (1, .int (nI j))] [] h1 := by
    intro m
    induction m with
    | zero =>
      intro j h1 g1 p0 p1 p2 pQ pF p3 p4 hz1
      have ej : j = 6 := by omega
      subst ej
      refine V.wf (fun w1 => ?_)
      refine V.iload_n X dX4_init_15 rfl ?_
      refine V.bipush (v := nI 6) X dX4_init_16 (by decide) ?_
      refine V.icmp_ge 40 X dX4_init_18 (by decide) (fun c18 => ?_) (fun c18 => absurd (by decide) c18)
      exact V.vret X Y9 dX4_init_40 ⟨rfl, ⟨⟨p0, p1, p2, fun i hi => (pQ i hi).1⟩, ⟨p3, p4⟩, ⟨by decide, by decide⟩, fun i hi => (pQ i hi).2⟩, pF, hz1⟩ (Nat.le_of_ble_eq_true rfl) (Nat.le_of_ble_eq_true rfl)
    | succ m ih =>
      intro j h1 g1 p0 p1 p2 pQ pF p3 p4 hz1
      refine V.wf (fun w1 => ?_)
      have hj : j < 6 := by omega
      refine V.iload_n X dX4_init_15 rfl ?_
      refine V.bipush (v := nI 6) X dX4_init_16 (by decide) ?_
      refine V.icmp_ge 40 X dX4_init_18 (by decide) (fun c18 => absurd c18 (nI_nle9 hj (by omega))) (fun c18 => ?_)
      refine V.aload_n X dX4_init_21 rfl ?_
      refine V.getf  X fX4_init_11 dX4_init_22 p0 p1 ?_
      refine V.iload_n X dX4_init_25 rfl ?_
      refine V.new (ci := 5) X dX4_init_26 rfl (by decide +kernel) (by decide +kernel) (by decide +kernel) (by decide +kernel) tyX3 tyX3_ok (Nat.ble_eq_true_of_le (show 1 + 171 * j + 1 ≤ 1027 by omega)) (Nat.ble_eq_true_of_le (show 6 + 908 * j + 13 ≤ 5454 by omega)) ?_
      refine V.widen (1 + 171 * j + 1) (6 + 908 * j + 13) (Nat.le_refl _) (Nat.le_refl _) ?_
      refine V.dup X dX4_init_29 rfl ?_
      refine V.callIv (n := 0) X dX4_init_30 gX4_init_X3_init (c_X3_init _ _ (E := Hz h1) (by rw [Hk_new, if_pos rfl]) (fun k hk => by rw [Hv_new, if_pos rfl]; rcases (show k = 8 ∨ k = 9 ∨ k = 10 ∨ k = 11 by omega) with rfl | rfl | rfl | rfl <;> rfl) (Hz_new _ _ _)) rfl (by decide +kernel) (by decide +kernel) (by decide +kernel) rfl (by decide +kernel) rfl rfl rfl ⟨by omega, by omega⟩ (fun h30 hp30 => ?_)
      obtain ⟨x30, o30, c30, f30, z30⟩ := hp30
      have G30 : Fr (fun _ => False) h1 h30 := (Fr.new (S := fun _ => False)).then f30 (fun q hq e => by omega)
      refine V.wf (fun w30 => ?_)
      refine V.aast (j := _) X dX4_init_33 (G30.k w1 p2) rfl (by omega) (by omega) x30.1.1.1 rfl rfl ?_
      have P33 : Fr (fun q => q = H + 1) h30 (Hput h30 (H + 1) j (.ref (Hz h1))) := Fr.put (Or.inl rfl)
      have F33 : Fr (fun q => q = H + 1) h1 (Hput h30 (H + 1) j (.ref (Hz h1))) := (G30.mono (fun q _ e => e.elim)).thenPut (Or.inl rfl)
      have Q33 : ∀ i, i < j + 1 → Hv (Hput h30 (H + 1) j (.ref (Hz h1))) (H + 1) i = .ref (H + 2 + 171 * i) ∧ XcAt (fun q => ∃ i, i < 6 ∧ H + 2 + 171 * i + 1 ≤ q ∧ q ≤ H + 2 + 171 * i + 4) (cxG Γ) (Hput h30 (H + 1) j (.ref (Hz h1))) (H + 2 + 171 * i) cmp0 x0 := by
        intro i hi
        by_cases hij : i = j
        · rw [hij, ← hz1]
          refine ⟨by rw [Hv_put_at], ?_⟩
          have X30 : XcAt (fun q => ∃ i, i < 6 ∧ H + 2 + 171 * i + 1 ≤ q ∧ q ≤ H + 2 + 171 * i + 4) (cxG Γ) h30 (Hz h1) cmp0 x0 := ⟨⟨_, x30⟩, _, o30, c30.tr (fun a t pa hk => ⟨⟨j, hj, by rw [← hz1]; exact pa⟩, hk, fun _ => rfl⟩)⟩
          exact X30.kept w30 P33 (fun q e z => by unfold XS at z; omega) (fun q z e => by obtain ⟨i2, z1, z2, z3⟩ := z; omega)
        · obtain ⟨r1, r2⟩ := pQ i (by omega)
          exact ⟨by rw [Hv_put_k _ _ _ _ hij, G30.v w1 p2 (fun z => z)]; exact r1, r2.kept w1 F33 (fun q e z => by unfold XS at z; omega) (fun q z e => by obtain ⟨i2, z1, z2, z3⟩ := z; omega)⟩
      refine V.iinc (v := nI (j + 1)) X dX4_init_34 [(0, _), (1, _)] rfl (nI_1 j) rfl rfl rfl ?_
      refine V.goto 15 X dX4_init_37 (by decide) ?_
      refine V.widen (1 + 171 * (j + 1)) (6 + 908 * (j + 1)) (by omega) (by omega) ?_
      exact ih (j + 1) _ (by omega) (F33.k w1 p0) (by rw [F33.v w1 p0 (by omega)]; exact p1) (F33.k w1 p2) Q33 (pF.then F33 (fun q hq e => by omega)) (by rw [F33.v w1 p0 (by omega)]; exact p3) (by rw [F33.v w1 p0 (by omega)]; exact p4) (by rw [Hz_put, z30]; omega)
  refine V.aload_n X dX4_init_0 rfl ?_
  refine V.objInit X dX4_init_1 (by decide +kernel) (by decide +kernel) (by decide +kernel) rfl ?_
  refine V.aload_n X dX4_init_4 rfl ?_
  refine V.bipush (v := nI 6) X dX4_init_5 (by decide) ?_
  refine V.newA (t := 5) (C := "ContractTester$Exploration") (N := 6) X dX4_init_7 (by decide +kernel) rfl rfl rfl rfl rfl rfl ?_
  refine V.putF X Y9 rfl fX4_init_11 (fun q hq => by cases hq; rfl) (nest_no (by decide +kernel)) dX4_init_10 (by rw [Hk_new, if_neg (by omega)]; exact k0) rfl rfl ?_
  refine V.iconst (v := nI 0) X dX4_init_13 (by decide) ?_
  refine V.istore_n X dX4_init_14 [(0, _), (1, _)] rfl rfl rfl ?_
  refine V.widen (1 + 171 * 0) (6 + 908 * 0) (Nat.le_of_ble_eq_true rfl) (Nat.le_of_ble_eq_true rfl) ?_
  exact loop 6 0 _ rfl (by rw [Hk_put, Hk_new, if_neg (by omega)]; exact k0) (by rw [Hv_put_at, hz]) (by rw [Hk_put, Hk_new, if_pos hz.symm]) (fun i hi => absurd hi (Nat.not_lt_zero i)) ((Fr.rf.thenNew).thenPut (Or.inl rfl)) (by rw [Hv_put_k _ _ _ _ (by decide), Hv_new, if_neg (by omega)]; exact k1) (by rw [Hv_put_k _ _ _ _ (by decide), Hv_new, if_neg (by omega)]; exact k2) (by rw [Hz_put, Hz_new, hz])
