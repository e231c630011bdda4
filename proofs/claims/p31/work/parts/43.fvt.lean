/-- the calls of a text, one after the other: 0, or where and how one fails -/
def runT (c : Cmp) : List Nat → Nat → St → Int32
  | [], _, _ => 0
  | x :: r, k, s => if verd c (x - 48) s = 0 then runT c r (k + 1) (nxt c (x - 48) s) else nI (10 * k + verd c (x - 48) s)
theorem runT_drop {c : Cmp} {t : List Nat} {s : St} {j : Nat} (h : j < t.length) : runT c (t.drop j) j s = if verd c (t.getD j 0 - 48) s = 0 then runT c (t.drop (j + 1)) (j + 1) (nxt c (t.getD j 0 - 48) s) else nI (10 * j + verd c (t.getD j 0 - 48) s) := by
  rw [List.drop_eq_getElem_cons h, List.getD_eq_getElem?_getD, List.getElem?_eq_getElem h]
  rfl
theorem fX11_firstVerdictInText_10 : FL wsX11_firstVerdictInText RX11 10 13 0 (.object "java/lang/StringBuilder") true := ⟨_, rfl, by decide, Or.inl ⟨"ContractTester", by decide +kernel, Or.inl rfl⟩, by decide +kernel, by decide +kernel, rfl⟩
theorem fX11_firstVerdictInText_40 : FL wsX11_firstVerdictInText RX11 40 13 4 (.object "ContractTester$State") true := ⟨_, rfl, by decide, Or.inl ⟨"ContractTester", by decide +kernel, Or.inl rfl⟩, by decide +kernel, by decide +kernel, rfl⟩
theorem fX11_firstVerdictInText_44 : FL wsX11_firstVerdictInText RX11 44 13 5 (.object "ContractTester$State") true := ⟨_, rfl, by decide, Or.inl ⟨"ContractTester", by decide +kernel, Or.inl rfl⟩, by decide +kernel, by decide +kernel, rfl⟩
theorem fX11_firstVerdictInText_95 : FL wsX11_firstVerdictInText RX11 95 3 0 (.object "ContractTester$State") true := ⟨_, rfl, by decide, Or.inr ⟨"ContractTester", by decide +kernel⟩, by decide +kernel, by decide +kernel, rfl⟩
set_option maxHeartbeats 4000000 in
set_option maxRecDepth 100000 in
theorem c_X11_firstVerdictInText (l : Launch) (G : GG) {h : Hp} {T Z sb d : Nat} {t : List Nat} (hT : WkZ h T Z) (hT0 : Hv h T 0 = .ref sb) (hS : SbAt h sb d t) (hn : T < Z ∧ sb < Z ∧ (d < Z ∨ Z + 6 ≤ d)) (ht : t.length ≤ 200) {P : Nat → Prop} {o : Nat} {c : Cmp} (hC : CpAt P G h o c) (hP : ∀ q, P q → ¬ ZS Z q) {ys zs : List Nat} (hW : ScZ h Z ys zs) (hb : ∀ i, i < t.length → 48 ≤ t.getD i 0) : Con l G yX11_firstVerdictInText wsX11_firstVerdictInText 5 114 0 0 [.ref T, .ref o] h (pI (fun y h2 => y = runT c t 0 c.1 ∧ Fr (fun q => q = Z ∨ q = Z + 1) h h2 ∧ ScZ h2 Z ys zs)) := by
  refine Con.of (cc := cX11_firstVerdictInText) (nL := 4) (ret := (some .int)) (by decide) rfl rfl rfl rfl (fun Γ hG hl X Y9 => ?_)
  subst hG
  subst hl
  refine V.wf (fun w => ?_)
  obtain ⟨xx, yy, zz, hp, hxx, k0, k1, k2, k3, k4, k5⟩ := id hC
  obtain ⟨⟨sB, hB⟩, ⟨sA, hA⟩, hY, hZ⟩ := id hW
  have loop : ∀ (m j : Nat) (s s1 : St) (h1 : Hp), j + m = t.length → Fr (fun q => q = Z ∨ q = Z + 1) h h1 → StAt h1 Z s → StAt h1 (Z + 1) s1 → runT c (t.drop j) j s = runT c t 0 c.1 → V Γ 0 0 13 [(0, .ref T), (1, .ref o), (2, .int (nI j))] [] h1 := by
    intro m
    induction m with
    | zero =>
      intro j s s1 h1 g1 pF pB pA g3
      refine V.wf (fun w1 => ?_)
      have pT := hT.kept w pF (by omega)
      have pT0 : Hv h1 T 0 = .ref sb := by rw [pF.v w hT.1 (by omega)]; exact hT0
      have pS := hS.kept w pF (by omega) (by omega)
      have pC := hC.un (pF.un w (fun q z e => hP q z (by unfold ZS; omega)))
      rw [List.drop_eq_nil_of_le (by omega)] at g3
      have e0 : runT c t 0 c.1 = 0 := g3.symm
      refine V.iload_n X dX11_firstVerdictInText_13 rfl ?_
      refine V.aload_n X dX11_firstVerdictInText_14 rfl ?_
      refine V.getf  X fX11_firstVerdictInText_10 dX11_firstVerdictInText_15 pT.1 pT0 ?_
      refine V.callVi (n := 0) X dX11_firstVerdictInText_18 gX11_firstVerdictInText_J4_length_8abf5 (c_J4_length_8abf5 _ _ pS) rfl (by decide +kernel) rfl rfl rfl pS.ob rfl rfl ⟨Nat.le_of_ble_eq_true rfl, Nat.le_of_ble_eq_true rfl⟩ (fun r18 h18 hp18 => ?_)
      obtain ⟨rfl, e9⟩ := hp18; obtain rfl := e9.symm
      refine V.icmp_ge 76 X dX11_firstVerdictInText_21 (by decide) (fun c21 => ?_) (fun c21 => absurd (nI_le (show t.length ≤ j by omega) (by omega)) c21)
      refine V.iconst (v := nI 0) X dX11_firstVerdictInText_76 (by decide) ?_
      exact V.iret X Y9 dX11_firstVerdictInText_77 ⟨by rw [e0]; rfl, pF, ⟨_, pB⟩, ⟨_, pA⟩, hY.kept w pF (by omega) (by omega), hZ.kept w pF (by omega) (by omega)⟩ (Nat.le_of_ble_eq_true rfl) (Nat.le_of_ble_eq_true rfl)
    | succ m ih =>
      intro j s s1 h1 g1 pF pB pA g3
      refine V.wf (fun w1 => ?_)
      have pT := hT.kept w pF (by omega)
      have pT0 : Hv h1 T 0 = .ref sb := by rw [pF.v w hT.1 (by omega)]; exact hT0
      have pS := hS.kept w pF (by omega) (by omega)
      have pC := hC.un (pF.un w (fun q z e => hP q z (by unfold ZS; omega)))
      have hj : j < t.length := by omega
      have hbj := hb j hj
      have hcl := pS.lt j hj
      have hv4 : verd c (t.getD j 0 - 48) s ≤ 4 := verd_le
      rw [runT_drop hj] at g3
      refine V.iload_n X dX11_firstVerdictInText_13 rfl ?_
      refine V.aload_n X dX11_firstVerdictInText_14 rfl ?_
      refine V.getf  X fX11_firstVerdictInText_10 dX11_firstVerdictInText_15 pT.1 pT0 ?_
      refine V.callVi (n := 0) X dX11_firstVerdictInText_18 gX11_firstVerdictInText_J4_length_8abf5 (c_J4_length_8abf5 _ _ pS) rfl (by decide +kernel) rfl rfl rfl pS.ob rfl rfl ⟨Nat.le_of_ble_eq_true rfl, Nat.le_of_ble_eq_true rfl⟩ (fun r18 h18 hp18 => ?_)
      obtain ⟨rfl, e9⟩ := hp18; obtain rfl := e9.symm
      refine V.icmp_ge 76 X dX11_firstVerdictInText_21 (by decide) (fun c21 => absurd c21 (nI_nle9 (show j < t.length by omega) (by omega))) (fun c21 => ?_)
      refine V.aload_n X dX11_firstVerdictInText_24 rfl ?_
      refine V.aload_n X dX11_firstVerdictInText_25 rfl ?_
      refine V.getf  X fX11_firstVerdictInText_10 dX11_firstVerdictInText_26 pT.1 pT0 ?_
      refine V.iload_n X dX11_firstVerdictInText_29 rfl ?_
      refine V.callV (n := 1) X dX11_firstVerdictInText_30 gX11_firstVerdictInText_J4_charAt_5068e (c_J4_charAt_5068e _ _ pS (i := j) hj) rfl (by decide +kernel) rfl rfl rfl pS.ob rfl rfl ⟨Nat.le_of_ble_eq_true rfl, Nat.le_of_ble_eq_true rfl⟩ (fun v30 h30 hp30 => ?_)
      obtain ⟨rfl, e9⟩ := hp30; obtain rfl := e9.symm
      refine V.bipush (v := nI 48) X dX11_firstVerdictInText_33 (by decide) ?_
      refine V.isub X dX11_firstVerdictInText_35 ?_
      rw [nI_sub9 hbj]
      refine V.aload_n X dX11_firstVerdictInText_36 rfl ?_
      refine V.getf  X fX11_firstVerdictInText_40 dX11_firstVerdictInText_37 pT.1 pT.2.1 ?_
      refine V.aload_n X dX11_firstVerdictInText_40 rfl ?_
      refine V.getf  X fX11_firstVerdictInText_44 dX11_firstVerdictInText_41 pT.1 pT.2.2.1 ?_
      refine V.callVi (n := 3) X dX11_firstVerdictInText_44 gX11_firstVerdictInText_X1_verdictOfCall (c_X1_verdictOfCall _ _ pC pB pA (fun z => hP _ z (by unfold ZS; omega)) (by omega) (by omega)) rfl (by decide +kernel) rfl rfl rfl pC.k rfl rfl ⟨Nat.le_of_ble_eq_true rfl, Nat.le_of_ble_eq_true rfl⟩ (fun r44 h44 hp44 => ?_)
      obtain ⟨rfl, f44, s9, st44, hn44⟩ := hp44
      have F44 := pF.then f44 (fun q _ e => Or.inr e)
      have b44 := pB.kept w1 f44 (by omega)
      have t44 := pT.kept w1 f44 (by omega)
      refine V.wf (fun w44 => ?_)
      refine V.istore_n X dX11_firstVerdictInText_47 [(0, _), (1, _), (2, _), (3, _)] rfl rfl rfl ?_
      refine V.iload_n X dX11_firstVerdictInText_48 rfl ?_
      refine V.if_eq 59 X dX11_firstVerdictInText_49 (by decide) (fun c49 => ?_) (fun c49 => ?_)
      · have hz : verd c (t.getD j 0 - 48) s = 0 := by
          rcases Nat.eq_zero_or_pos (verd c (t.getD j 0 - 48) s) with z | z
          · exact z
          · exact absurd c49 (nI_ne0 z (by omega))
        rw [if_pos hz] at g3
        obtain rfl := hn44 hz
        refine V.aload_n X dX11_firstVerdictInText_59 rfl ?_
        refine V.getf  X fX11_firstVerdictInText_40 dX11_firstVerdictInText_60 t44.1 t44.2.1 ?_
        refine V.aload_n X dX11_firstVerdictInText_63 rfl ?_
        refine V.getf  X fX11_firstVerdictInText_44 dX11_firstVerdictInText_64 t44.1 t44.2.2.1 ?_
        refine V.callVv (n := 1) X dX11_firstVerdictInText_67 gX11_firstVerdictInText_X10_copyFrom (c_X10_copyFrom _ _ b44 st44) rfl (by decide +kernel) rfl rfl rfl b44.1 rfl rfl ⟨Nat.le_of_ble_eq_true rfl, Nat.le_of_ble_eq_true rfl⟩ (fun h67 hp67 => ?_)
        have f67 : Fr (fun q => q = Z) h44 h67 := by rw [hp67]; exact ((Fr.put (S := fun q => q = Z) (Or.inl rfl)).thenPut (Or.inl rfl)).thenPut (Or.inl rfl)
        have s67 : StAt h67 Z (nxt c (t.getD j 0 - 48) s) := by rw [hp67]; exact ⟨b44.1, by simp [Hv_put], by simp [Hv_put], by simp [Hv_put]⟩
        have a67 := st44.kept w44 f67 (by omega)
        refine V.iinc (v := nI (j + 1)) X dX11_firstVerdictInText_70 [(0, _), (1, _), (2, _), (3, _)] rfl (nI_1 j) rfl rfl rfl ?_
        refine V.goto 13 X dX11_firstVerdictInText_73 (by decide) ?_
        refine V.drop [(0, _), (1, _), (2, _)] [0, 1, 2] rfl ?_
        exact ih (j + 1) _ _ _ (by omega) (F44.then f67 (fun q _ e => Or.inl e)) s67 a67 g3
      · have hz : ¬ verd c (t.getD j 0 - 48) s = 0 := fun z => c49 (by rw [z]; rfl)
        rw [if_neg hz] at g3
        have e0 : runT c t 0 c.1 = nI (10 * j + verd c (t.getD j 0 - 48) s) := g3.symm
        refine V.bipush (v := nI 10) X dX11_firstVerdictInText_52 (by decide) ?_
        refine V.iload_n X dX11_firstVerdictInText_54 rfl ?_
        refine V.imul X dX11_firstVerdictInText_55 ?_
        rw [nI_mul]
        refine V.iload_n X dX11_firstVerdictInText_56 rfl ?_
        refine V.iadd X dX11_firstVerdictInText_57 ?_
        rw [nI_add]
        exact V.iret X Y9 dX11_firstVerdictInText_58 ⟨e0.symm, F44, ⟨_, b44⟩, ⟨_, st44⟩, hY.kept w F44 (by omega) (by omega), hZ.kept w F44 (by omega) (by omega)⟩ (Nat.le_of_ble_eq_true rfl) (Nat.le_of_ble_eq_true rfl)
  refine V.aload_n X dX11_firstVerdictInText_0 rfl ?_
  refine V.getf  X fX11_firstVerdictInText_40 dX11_firstVerdictInText_1 hT.1 hT.2.1 ?_
  refine V.aload_n X dX11_firstVerdictInText_4 rfl ?_
  refine V.getf  X fX11_firstVerdictInText_95 dX11_firstVerdictInText_5 k0 k1 ?_
  refine V.callVv (n := 1) X dX11_firstVerdictInText_8 gX11_firstVerdictInText_X10_copyFrom (c_X10_copyFrom _ _ hB k4) rfl (by decide +kernel) rfl rfl rfl hB.1 rfl rfl ⟨Nat.le_of_ble_eq_true rfl, Nat.le_of_ble_eq_true rfl⟩ (fun h8 hp8 => ?_)
  have f8 : Fr (fun q => q = Z) h h8 := by rw [hp8]; exact ((Fr.put (S := fun q => q = Z) (Or.inl rfl)).thenPut (Or.inl rfl)).thenPut (Or.inl rfl)
  have s8 : StAt h8 Z c.1 := by rw [hp8]; exact ⟨hB.1, by simp [Hv_put], by simp [Hv_put], by simp [Hv_put]⟩
  have a8 := hA.kept w f8 (by omega)
  refine V.iconst (v := nI 0) X dX11_firstVerdictInText_11 (by decide) ?_
  refine V.istore_n X dX11_firstVerdictInText_12 [(0, _), (1, _), (2, _)] rfl rfl rfl ?_
  exact loop t.length 0 _ _ _ (Nat.zero_add _) (f8.mono (fun q _ e => Or.inl e)) s8 a8 rfl
