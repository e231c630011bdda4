/-! FAILURES MADE SHORT -/
def runE (c : Cmp) : List Nat → St → Nat → Bool
  | [], _, _ => false
  | m :: r, s, v => if r.isEmpty = true then decide (verd c m s = v) else if verd c m s = 0 then runE c r (nxt c m s) v else false
theorem runE_last {c : Cmp} {xs : List Nat} {s : St} {j v : Nat} (h : j + 1 = xs.length) : runE c (xs.drop j) s v = decide (verd c (xs.getD j 0) s = v) := by
  have hj : j < xs.length := by omega
  rw [List.drop_eq_getElem_cons hj, List.drop_eq_nil_of_le (by omega), List.getD_eq_getElem?_getD, List.getElem?_eq_getElem hj]
  rfl
theorem runE_step {c : Cmp} {xs : List Nat} {s : St} {j v : Nat} (h : j + 1 < xs.length) : runE c (xs.drop j) s v = if verd c (xs.getD j 0) s = 0 then runE c (xs.drop (j + 1)) (nxt c (xs.getD j 0) s) v else false := by
  have hj : j < xs.length := by omega
  have hn : (xs.drop (j + 1)).isEmpty = false := by
    rw [List.drop_eq_getElem_cons h]
    rfl
  rw [List.drop_eq_getElem_cons hj, List.getD_eq_getElem?_getD, List.getElem?_eq_getElem hj]
  show (if (xs.drop (j + 1)).isEmpty = true then _ else _) = _
  rw [hn]
  rfl
theorem sqV_at {xs : List Nat} {j : Nat} (h : j < xs.length) (hl : xs.length ≤ 8) : sqV xs (nI j) = nI (xs.getD j 0) := by
  unfold sqV
  rw [isIx_nI (by omega), nI_clamp (by omega)]
  simp [h]
/-- the cells where calls are tried -/
def WkT (h : Hp) (T B A : Nat) : Prop := Hk h T = some (.inl 13) ∧ Hv h T 4 = .ref B ∧ Hv h T 5 = .ref A
theorem WkT.kept {S : Nat → Prop} {h h1 : Hp} {T B A : Nat} (q : WkT h T B A) (w : WF h) (f : Fr S h h1) (n : ¬ S T) : WkT h1 T B A :=
  ⟨f.k w q.1, by rw [f.v w q.1 n]; exact q.2.1, by rw [f.v w q.1 n]; exact q.2.2⟩
theorem fX11_endsWithVerdict_40 : FL wsX11_endsWithVerdict RX11 40 13 4 (.object "ContractTester$State") true := ⟨_, rfl, by decide, Or.inl ⟨"ContractTester", by decide +kernel, Or.inl rfl⟩, by decide +kernel, by decide +kernel, rfl⟩
theorem fX11_endsWithVerdict_44 : FL wsX11_endsWithVerdict RX11 44 13 5 (.object "ContractTester$State") true := ⟨_, rfl, by decide, Or.inl ⟨"ContractTester", by decide +kernel, Or.inl rfl⟩, by decide +kernel, by decide +kernel, rfl⟩
theorem fX11_endsWithVerdict_26 : FL wsX11_endsWithVerdict RX11 26 13 2 (.object "ContractTester$Exploration") true := ⟨_, rfl, by decide, Or.inl ⟨"ContractTester", by decide +kernel, Or.inl rfl⟩, by decide +kernel, by decide +kernel, rfl⟩
theorem fX11_endsWithVerdict_91 : FL wsX11_endsWithVerdict RX11 91 5 0 (.object "ContractTester$Component") false := ⟨_, rfl, by decide, Or.inr ⟨"ContractTester", by decide +kernel⟩, by decide +kernel, by decide +kernel, rfl⟩
theorem fX11_endsWithVerdict_95 : FL wsX11_endsWithVerdict RX11 95 3 0 (.object "ContractTester$State") true := ⟨_, rfl, by decide, Or.inr ⟨"ContractTester", by decide +kernel⟩, by decide +kernel, by decide +kernel, rfl⟩
theorem fX11_endsWithVerdict_181 : FL wsX11_endsWithVerdict RX11 181 11 1 .int false := ⟨_, rfl, by decide, Or.inr ⟨"ContractTester", by decide +kernel⟩, by decide +kernel, by decide +kernel, rfl⟩
set_option maxHeartbeats 4000000 in
set_option maxRecDepth 100000 in
theorem c_X11_endsWithVerdict (l : Launch) (G : GG) {h : Hp} {T E B A : Nat} (hT : WkT h T B A) (hT2 : Hv h T 2 = .ref E) (hE : Hk h E = some (.inl 5)) {P : Nat → Prop} {o : Nat} {c : Cmp} (hO : Hv h E 0 = .ref o) (hC : CpAt P G h o c) (hP : ¬ P B ∧ ¬ P A) {sB sA : St} (hB : StAt h B sB) (hA : StAt h A sA) (hAB : ¬ B = A ∧ ¬ T = B ∧ ¬ T = A) {K v : Nat} {xs : List Nat} (hK : SqAt h K xs) (hx : 0 < xs.length) (hb : ∀ i, i < xs.length → xs.getD i 0 < 1000) (hv : v < 1000) (hKn : ¬ K = A ∧ ¬ K = B ∧ ¬ K + 1 = A ∧ ¬ K + 1 = B) : Con l G yX11_endsWithVerdict wsX11_endsWithVerdict 5 114 0 0 [.ref T, .ref K, .int (nI v)] h (pI (fun y h2 => y = bI (runE c xs c.1 v) ∧ Fr (fun q => q = B ∨ q = A) h h2 ∧ (∃ s, StAt h2 B s) ∧ ∃ s, StAt h2 A s)) := by
  refine Con.of (cc := cX11_endsWithVerdict) (nL := 6) (ret := (some .boolean)) (by decide) rfl rfl rfl rfl (fun Γ hG hl X Y9 => ?_)
  subst hG
  subst hl
  refine V.wf (fun w => ?_)
  obtain ⟨xx, yy, zz, hp, hxx, k0, k1, k2, k3, k4, k5⟩ := id hC
  have h8 := hK.2.2.2.1
  have loop : ∀ (m j : Nat) (s t : St) (h1 : Hp), j + 1 + m = xs.length → Fr (fun q => q = B ∨ q = A) h h1 → StAt h1 B s → StAt h1 A t → runE c (xs.drop j) s v = runE c xs c.1 v → V Γ 0 0 30 [(0, .ref T), (1, .ref K), (2, .int (nI v)), (3, .ref o), (4, .int (nI (xs.length - 1))), (5, .int (nI j))] [] h1 := by
    intro m
    induction m with
    | zero =>
      intro j s t h1 g1 pF pB pA g3
      refine V.wf (fun w1 => ?_)
      have pT := hT.kept w pF (fun e => by rcases e with e | e; exact hAB.2.1 e; exact hAB.2.2 e)
      have pK := hK.kept w pF (fun e => by rcases e with e | e; exact hKn.2.1 e; exact hKn.1 e) (fun e => by rcases e with e | e; exact hKn.2.2.2 e; exact hKn.2.2.1 e)
      have pC := hC.un (pF.un w (fun q z e => by rcases e with e | e; exact hP.1 (by rw [← e]; exact z); exact hP.2 (by rw [← e]; exact z)))
      have hj : j < xs.length := by omega
      have hbj := hb j hj
      have hv4 : verd c (xs.getD j 0) s ≤ 4 := verd_le
      rw [runE_last (by omega)] at g3
      rw [show xs.length - 1 = j by omega]
      refine V.iload X dX11_endsWithVerdict_30 rfl ?_
      refine V.iload X dX11_endsWithVerdict_32 rfl ?_
      refine V.icmp_ge 77 X dX11_endsWithVerdict_34 (by decide) (fun c34 => ?_) (fun c34 => absurd (nI_le (Nat.le_refl j) (by omega)) c34)
      refine V.aload_n X dX11_endsWithVerdict_77 rfl ?_
      refine V.aload_n X dX11_endsWithVerdict_78 rfl ?_
      refine V.iload X dX11_endsWithVerdict_79 rfl ?_
      refine V.callVi (n := 1) X dX11_endsWithVerdict_81 gX11_endsWithVerdict_X9_callAt (c_X9_callAt _ _ pK) rfl (by decide +kernel) rfl rfl rfl pK.1 rfl rfl ⟨Nat.le_of_ble_eq_true rfl, Nat.le_of_ble_eq_true rfl⟩ (fun r81 h81 hp81 => ?_)
      obtain ⟨rfl, e9⟩ := hp81; obtain rfl := e9.symm
      rw [sqV_at hj h8]
      refine V.aload_n X dX11_endsWithVerdict_84 rfl ?_
      refine V.getf  X fX11_endsWithVerdict_40 dX11_endsWithVerdict_85 pT.1 pT.2.1 ?_
      refine V.aload_n X dX11_endsWithVerdict_88 rfl ?_
      refine V.getf  X fX11_endsWithVerdict_44 dX11_endsWithVerdict_89 pT.1 pT.2.2 ?_
      refine V.callVi (n := 3) X dX11_endsWithVerdict_92 gX11_endsWithVerdict_X1_verdictOfCall (c_X1_verdictOfCall _ _ pC pB pA hP.2 hAB.1 (by omega)) rfl (by decide +kernel) rfl rfl rfl pC.k rfl rfl ⟨Nat.le_of_ble_eq_true rfl, Nat.le_of_ble_eq_true rfl⟩ (fun r92 h92 hp92 => ?_)
      obtain ⟨rfl, f92, s9, st92, hn92⟩ := hp92
      have F92 := pF.then f92 (fun q _ e => Or.inr e)
      have b92 := pB.kept w1 f92 hAB.1
      refine V.iload_n X dX11_endsWithVerdict_95 rfl ?_
      refine V.icmp_ne 103 X dX11_endsWithVerdict_96 (by decide) (fun c96 => ?_) (fun c96 => ?_)
      · rw [nI_eq (by omega) (by omega)] at c96
        have e0 : runE c xs c.1 v = false := by
          rw [← g3]
          exact decide_eq_false c96
        refine V.iconst (v := nI 0) X dX11_endsWithVerdict_103 (by decide) ?_
        exact V.bret X Y9 dX11_endsWithVerdict_104 (runE c xs c.1 v) (by rw [e0]; rfl) ⟨rfl, F92, ⟨_, b92⟩, _, st92⟩ (Nat.le_of_ble_eq_true rfl) (Nat.le_of_ble_eq_true rfl)
      · rw [nI_eq (by omega) (by omega)] at c96
        have e0 : runE c xs c.1 v = true := by
          rw [← g3]
          simpa using c96
        refine V.iconst (v := nI 1) X dX11_endsWithVerdict_99 (by decide) ?_
        refine V.goto 104 X dX11_endsWithVerdict_100 (by decide) ?_
        exact V.bret X Y9 dX11_endsWithVerdict_104 (runE c xs c.1 v) (by rw [e0]; rfl) ⟨rfl, F92, ⟨_, b92⟩, _, st92⟩ (Nat.le_of_ble_eq_true rfl) (Nat.le_of_ble_eq_true rfl)
    | succ m ih =>
      intro j s t h1 g1 pF pB pA g3
      refine V.wf (fun w1 => ?_)
      have pT := hT.kept w pF (fun e => by rcases e with e | e; exact hAB.2.1 e; exact hAB.2.2 e)
      have pK := hK.kept w pF (fun e => by rcases e with e | e; exact hKn.2.1 e; exact hKn.1 e) (fun e => by rcases e with e | e; exact hKn.2.2.2 e; exact hKn.2.2.1 e)
      have pC := hC.un (pF.un w (fun q z e => by rcases e with e | e; exact hP.1 (by rw [← e]; exact z); exact hP.2 (by rw [← e]; exact z)))
      have hj : j < xs.length := by omega
      have hbj := hb j hj
      have hv4 : verd c (xs.getD j 0) s ≤ 4 := verd_le
      rw [runE_step (by omega)] at g3
      refine V.iload X dX11_endsWithVerdict_30 rfl ?_
      refine V.iload X dX11_endsWithVerdict_32 rfl ?_
      refine V.icmp_ge 77 X dX11_endsWithVerdict_34 (by decide) (fun c34 => absurd c34 (nI_nle9 (show j < xs.length - 1 by omega) (by omega))) (fun c34 => ?_)
      refine V.aload_n X dX11_endsWithVerdict_37 rfl ?_
      refine V.aload_n X dX11_endsWithVerdict_38 rfl ?_
      refine V.iload X dX11_endsWithVerdict_39 rfl ?_
      refine V.callVi (n := 1) X dX11_endsWithVerdict_41 gX11_endsWithVerdict_X9_callAt (c_X9_callAt _ _ pK) rfl (by decide +kernel) rfl rfl rfl pK.1 rfl rfl ⟨Nat.le_of_ble_eq_true rfl, Nat.le_of_ble_eq_true rfl⟩ (fun r41 h41 hp41 => ?_)
      obtain ⟨rfl, e9⟩ := hp41; obtain rfl := e9.symm
      rw [sqV_at hj h8]
      refine V.aload_n X dX11_endsWithVerdict_44 rfl ?_
      refine V.getf  X fX11_endsWithVerdict_40 dX11_endsWithVerdict_45 pT.1 pT.2.1 ?_
      refine V.aload_n X dX11_endsWithVerdict_48 rfl ?_
      refine V.getf  X fX11_endsWithVerdict_44 dX11_endsWithVerdict_49 pT.1 pT.2.2 ?_
      refine V.callVi (n := 3) X dX11_endsWithVerdict_52 gX11_endsWithVerdict_X1_verdictOfCall (c_X1_verdictOfCall _ _ pC pB pA hP.2 hAB.1 (by omega)) rfl (by decide +kernel) rfl rfl rfl pC.k rfl rfl ⟨Nat.le_of_ble_eq_true rfl, Nat.le_of_ble_eq_true rfl⟩ (fun r52 h52 hp52 => ?_)
      obtain ⟨rfl, f52, s9, st52, hn52⟩ := hp52
      have F52 := pF.then f52 (fun q _ e => Or.inr e)
      have b52 := pB.kept w1 f52 hAB.1
      have t52 := pT.kept w1 f52 hAB.2.2
      refine V.wf (fun w52 => ?_)
      refine V.if_eq 60 X dX11_endsWithVerdict_55 (by decide) (fun c55 => ?_) (fun c55 => ?_)
      · have hz : verd c (xs.getD j 0) s = 0 := by
          rcases Nat.eq_zero_or_pos (verd c (xs.getD j 0) s) with z | z
          · exact z
          · exact absurd c55 (nI_ne0 z (by omega))
        rw [if_pos hz] at g3
        obtain rfl := hn52 hz
        refine V.aload_n X dX11_endsWithVerdict_60 rfl ?_
        refine V.getf  X fX11_endsWithVerdict_40 dX11_endsWithVerdict_61 t52.1 t52.2.1 ?_
        refine V.aload_n X dX11_endsWithVerdict_64 rfl ?_
        refine V.getf  X fX11_endsWithVerdict_44 dX11_endsWithVerdict_65 t52.1 t52.2.2 ?_
        refine V.callVv (n := 1) X dX11_endsWithVerdict_68 gX11_endsWithVerdict_X10_copyFrom (c_X10_copyFrom _ _ b52 st52) rfl (by decide +kernel) rfl rfl rfl b52.1 rfl rfl ⟨Nat.le_of_ble_eq_true rfl, Nat.le_of_ble_eq_true rfl⟩ (fun h68 hp68 => ?_)
        have f68 : Fr (fun q => q = B) h52 h68 := by rw [hp68]; exact ((Fr.put (S := fun q => q = B) (Or.inl rfl)).thenPut (Or.inl rfl)).thenPut (Or.inl rfl)
        have s68 : StAt h68 B (nxt c (xs.getD j 0) s) := by rw [hp68]; exact ⟨b52.1, by simp [Hv_put], by simp [Hv_put], by simp [Hv_put]⟩
        have a68 := st52.kept w52 f68 (fun e => hAB.1 e.symm)
        refine V.iinc (v := nI (j + 1)) X dX11_endsWithVerdict_71 [(0, _), (1, _), (2, _), (3, _), (4, _), (5, _)] rfl (nI_1 j) rfl rfl rfl ?_
        refine V.goto 30 X dX11_endsWithVerdict_74 (by decide) ?_
        exact ih (j + 1) _ _ _ (by omega) (F52.then f68 (fun q _ e => Or.inl e)) s68 a68 g3
      · have hz : ¬ verd c (xs.getD j 0) s = 0 := fun z => c55 (by rw [z]; rfl)
        rw [if_neg hz] at g3
        have e0 : runE c xs c.1 v = false := g3.symm
        refine V.iconst (v := nI 0) X dX11_endsWithVerdict_58 (by decide) ?_
        exact V.bret X Y9 dX11_endsWithVerdict_59 (runE c xs c.1 v) (by rw [e0]; rfl) ⟨rfl, F52, ⟨_, b52⟩, _, st52⟩ (Nat.le_of_ble_eq_true rfl) (Nat.le_of_ble_eq_true rfl)
  refine V.aload_n X dX11_endsWithVerdict_0 rfl ?_
  refine V.getf  X fX11_endsWithVerdict_26 dX11_endsWithVerdict_1 hT.1 hT2 ?_
  refine V.getf  X fX11_endsWithVerdict_91 dX11_endsWithVerdict_4 hE hO ?_
  refine V.astore_n X dX11_endsWithVerdict_7 [(0, _), (1, _), (2, _), (3, _)] rfl rfl rfl ?_
  refine V.aload_n X dX11_endsWithVerdict_8 rfl ?_
  refine V.getf  X fX11_endsWithVerdict_40 dX11_endsWithVerdict_9 hT.1 hT.2.1 ?_
  refine V.aload_n X dX11_endsWithVerdict_12 rfl ?_
  refine V.getf  X fX11_endsWithVerdict_95 dX11_endsWithVerdict_13 k0 k1 ?_
  refine V.callVv (n := 1) X dX11_endsWithVerdict_16 gX11_endsWithVerdict_X10_copyFrom (c_X10_copyFrom _ _ hB k4) rfl (by decide +kernel) rfl rfl rfl hB.1 rfl rfl ⟨Nat.le_of_ble_eq_true rfl, Nat.le_of_ble_eq_true rfl⟩ (fun h16 hp16 => ?_)
  have f16 : Fr (fun q => q = B) h h16 := by rw [hp16]; exact ((Fr.put (S := fun q => q = B) (Or.inl rfl)).thenPut (Or.inl rfl)).thenPut (Or.inl rfl)
  have s16 : StAt h16 B c.1 := by rw [hp16]; exact ⟨hB.1, by simp [Hv_put], by simp [Hv_put], by simp [Hv_put]⟩
  have K16 := hK.kept w f16 hKn.2.1 hKn.2.2.2
  have a16 := hA.kept w f16 (fun e => hAB.1 e.symm)
  refine V.aload_n X dX11_endsWithVerdict_19 rfl ?_
  refine V.getf  X fX11_endsWithVerdict_181 dX11_endsWithVerdict_20 K16.1 K16.2.2.1 ?_
  refine V.iconst (v := nI 1) X dX11_endsWithVerdict_23 (by decide) ?_
  refine V.isub X dX11_endsWithVerdict_24 ?_
  rw [nI_sub9 (show 1 ≤ xs.length by omega)]
  refine V.istore X dX11_endsWithVerdict_25 [(0, _), (1, _), (2, _), (3, _), (4, _)] rfl rfl rfl ?_
  refine V.iconst (v := nI 0) X dX11_endsWithVerdict_27 (by decide) ?_
  refine V.istore X dX11_endsWithVerdict_28 [(0, _), (1, _), (2, _), (3, _), (4, _), (5, _)] rfl rfl rfl ?_
  exact loop (xs.length - 1) 0 _ _ _ (by omega) (f16.mono (fun q _ e => Or.inl e)) s16 a16 rfl
