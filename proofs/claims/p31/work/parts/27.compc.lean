def cntA : List Asg → Nat
  | [] => 0
  | x :: r => (if x.2.2.1 = 0 then 0 else 1) + cntA r
def wgt (q : Mth) : Nat := q.1.length + q.2.1.length + q.2.2.length + cntA q.2.1
theorem cntA_drop {cs : List Asg} {j : Nat} {q : Asg} (h : cs[j]? = some q) : cntA (cs.drop j) = (if q.2.2.1 = 0 then 0 else 1) + cntA (cs.drop (j + 1)) := by
  obtain ⟨hj, e⟩ := List.getElem?_eq_some_iff.mp h
  rw [List.drop_eq_getElem_cons hj, e]
  rfl
theorem cntA_le : ∀ (cs : List Asg), cntA cs ≤ cs.length := by
  intro cs
  induction cs with
  | nil => exact Nat.le_refl _
  | cons x r ih =>
    unfold cntA
    simp
    split <;> omega
theorem fX6_weight_16 : FL wsX6_weight RX6 16 8 1 (.object "java/util/ArrayList") true := ⟨_, rfl, by decide, Or.inl ⟨"ContractTester$Method", by decide +kernel, Or.inl rfl⟩, by decide +kernel, by decide +kernel, rfl⟩
theorem fX6_weight_32 : FL wsX6_weight RX6 32 2 2 .int true := ⟨_, rfl, by decide, Or.inr ⟨"ContractTester", by decide +kernel⟩, by decide +kernel, by decide +kernel, rfl⟩
theorem fX6_weight_10 : FL wsX6_weight RX6 10 8 0 (.object "java/util/ArrayList") true := ⟨_, rfl, by decide, Or.inl ⟨"ContractTester$Method", by decide +kernel, Or.inl rfl⟩, by decide +kernel, by decide +kernel, rfl⟩
theorem fX6_weight_19 : FL wsX6_weight RX6 19 8 2 (.object "java/util/ArrayList") true := ⟨_, rfl, by decide, Or.inl ⟨"ContractTester$Method", by decide +kernel, Or.inl rfl⟩, by decide +kernel, by decide +kernel, rfl⟩
set_option maxHeartbeats 4000000 in
set_option maxRecDepth 100000 in
theorem c_X6_weight (l : Launch) (G : GG) {P : Nat → Prop} {h : Hp} {a : Nat} {q : Mth} (hM : MtAt P G h a q) : Con l G yX6_weight wsX6_weight 3 64 0 0 [.ref a] h (pI (fun r h2 => r = nI (wgt q) ∧ h2 = h)) := by
  refine Con.of (cc := cX6_weight) (nL := 3) (ret := (some .int)) (by decide) rfl rfl rfl rfl (fun Γ hG hl X Y9 => ?_)
  subst hG
  subst hl
  obtain ⟨mx, my, mz, n0, n1, n2, n3, n4, ⟨n5, es5, l5, e5, m5⟩, ⟨n6, es6, l6, e6, m6⟩, n7, es7, l7, e7, m7⟩ := id hM
  have b5 := l5.len
  have b6 := l6.len
  have b7 := l7.len
  have bA := cntA_le q.2.1
  have loop : ∀ (n j acc : Nat), j ≤ q.2.1.length → q.2.1.length - j < n → acc + cntA (q.2.1.drop j) = wgt q → V Γ 0 0 26 [(0, .ref a), (1, .int (nI acc)), (2, .int (nI j))] [] h := by
    intro n
    induction n with
    | zero => intro j acc g1 g2; omega
    | succ n ih =>
      intro j acc g1 g2 g3
      refine V.iload_n X dX6_weight_26 rfl ?_
      refine V.aload_n X dX6_weight_27 rfl ?_
      refine V.getf  X fX6_weight_16 dX6_weight_28 (by assumption) (by assumption) ?_
      refine V.callVi (n := 0) X dX6_weight_31 gX6_weight_Jx4a65c_size_8abf5 (c_Jx4a65c_size_8abf5 _ _ l6) rfl (by decide +kernel) rfl rfl rfl l6.1 rfl rfl ⟨Nat.le_of_ble_eq_true rfl, Nat.le_of_ble_eq_true rfl⟩ (fun r31 h31 hp31 => ?_)
      obtain ⟨rfl, e9⟩ := hp31; obtain rfl := e9.symm
      rw [e6]
      refine V.icmp_ge 63 X dX6_weight_34 (by decide) (fun c34 => ?_) (fun c34 => ?_)
      · rw [nI_leI (by omega) (by omega)] at c34
        have hj : j = q.2.1.length := by omega
        rw [hj, List.drop_length] at g3
        have e0 : acc = wgt q := g3
        refine V.iload_n X dX6_weight_63 rfl ?_
        exact V.iret X Y9 dX6_weight_64 ⟨by rw [e0], rfl⟩ (Nat.le_of_ble_eq_true rfl) (Nat.le_of_ble_eq_true rfl)
      · rw [nI_leI (by omega) (by omega)] at c34
        obtain ⟨x, hx⟩ := get_some (show j < q.2.1.length by omega)
        have hc := m6 j x hx
        obtain ⟨u1, u2, u3, u4, u5, u6, u7, u8, -⟩ := id hc
        refine V.aload_n X dX6_weight_37 rfl ?_
        refine V.getf  X fX6_weight_16 dX6_weight_38 (by assumption) (by assumption) ?_
        refine V.iload_n X dX6_weight_41 rfl ?_
        refine V.callVr (n := 1) X dX6_weight_42 gX6_weight_Jx4a65c_get_915e3 (c_Jx4a65c_get_915e3 _ _ l6 (show j < es6.length by omega)) rfl (by decide +kernel) rfl rfl rfl l6.1 rfl rfl ⟨Nat.le_of_ble_eq_true rfl, Nat.le_of_ble_eq_true rfl⟩ (fun r42 h42 hp42 => ?_)
        obtain ⟨-, rfl, e9⟩ := hp42; obtain rfl := e9.symm
        refine V.cast (ci := 2) X dX6_weight_45 (by decide +kernel) hc.k rfl ?_
        refine V.getf  X fX6_weight_32 dX6_weight_48 u4 u7 ?_
        refine V.if_eq 57 X dX6_weight_51 (by decide) (fun c51 => ?_) (fun c51 => ?_)
        · have e0 : acc + cntA (q.2.1.drop (j + 1)) = wgt q := by
            rw [cntA_drop hx, if_pos c51] at g3
            omega
          refine V.iinc (v := nI (j + 1)) X dX6_weight_57 [(0, _), (1, _), (2, _)] rfl (nI_1 j) rfl rfl rfl ?_
          refine V.goto 26 X dX6_weight_60 (by decide) ?_
          exact ih (j + 1) _ (by omega) (by omega) e0
        · have e0 : acc + 1 + cntA (q.2.1.drop (j + 1)) = wgt q := by
            rw [cntA_drop hx, if_neg c51] at g3
            omega
          refine V.iinc (v := nI (acc + 1)) X dX6_weight_54 [(0, _), (1, _), (2, _)] rfl (nI_1 acc) rfl rfl rfl ?_
          refine V.iinc (v := nI (j + 1)) X dX6_weight_57 [(0, _), (1, _), (2, _)] rfl (nI_1 j) rfl rfl rfl ?_
          refine V.goto 26 X dX6_weight_60 (by decide) ?_
          exact ih (j + 1) _ (by omega) (by omega) e0
  refine V.aload_n X dX6_weight_0 rfl ?_
  refine V.getf  X fX6_weight_10 dX6_weight_1 (by assumption) (by assumption) ?_
  refine V.callVi (n := 0) X dX6_weight_4 gX6_weight_Jx4a65c_size_8abf5 (c_Jx4a65c_size_8abf5 _ _ l5) rfl (by decide +kernel) rfl rfl rfl l5.1 rfl rfl ⟨Nat.le_of_ble_eq_true rfl, Nat.le_of_ble_eq_true rfl⟩ (fun r4 h4 hp4 => ?_)
  obtain ⟨rfl, e9⟩ := hp4; obtain rfl := e9.symm
  rw [e5]
  refine V.aload_n X dX6_weight_7 rfl ?_
  refine V.getf  X fX6_weight_16 dX6_weight_8 (by assumption) (by assumption) ?_
  refine V.callVi (n := 0) X dX6_weight_11 gX6_weight_Jx4a65c_size_8abf5 (c_Jx4a65c_size_8abf5 _ _ l6) rfl (by decide +kernel) rfl rfl rfl l6.1 rfl rfl ⟨Nat.le_of_ble_eq_true rfl, Nat.le_of_ble_eq_true rfl⟩ (fun r11 h11 hp11 => ?_)
  obtain ⟨rfl, e9⟩ := hp11; obtain rfl := e9.symm
  rw [e6]
  refine V.iadd X dX6_weight_14 ?_
  rw [nI_add]
  refine V.aload_n X dX6_weight_15 rfl ?_
  refine V.getf  X fX6_weight_19 dX6_weight_16 (by assumption) (by assumption) ?_
  refine V.callVi (n := 0) X dX6_weight_19 gX6_weight_Jx4a65c_size_8abf5 (c_Jx4a65c_size_8abf5 _ _ l7) rfl (by decide +kernel) rfl rfl rfl l7.1 rfl rfl ⟨Nat.le_of_ble_eq_true rfl, Nat.le_of_ble_eq_true rfl⟩ (fun r19 h19 hp19 => ?_)
  obtain ⟨rfl, e9⟩ := hp19; obtain rfl := e9.symm
  rw [e7]
  refine V.iadd X dX6_weight_22 ?_
  rw [nI_add]
  refine V.istore_n X dX6_weight_23 [(0, _), (1, _)] rfl rfl rfl ?_
  refine V.iconst (v := nI 0) X dX6_weight_24 (by decide) ?_
  refine V.istore_n X dX6_weight_25 [(0, _), (1, _), (2, _)] rfl rfl rfl ?_
  exact loop (q.2.1.length + 1) 0 _ (Nat.zero_le _) (by omega) rfl
theorem fX1_withoutMethod_25 : FL wsX1_withoutMethod RX1 25 3 2 (.object "java/util/ArrayList") true := ⟨_, rfl, by decide, Or.inl ⟨"ContractTester$Component", by decide +kernel, Or.inl rfl⟩, by decide +kernel, by decide +kernel, rfl⟩
theorem fX1_withoutMethod_21 : FL wsX1_withoutMethod RX1 21 3 1 (.object "java/util/ArrayList") true := ⟨_, rfl, by decide, Or.inl ⟨"ContractTester$Component", by decide +kernel, Or.inl rfl⟩, by decide +kernel, by decide +kernel, rfl⟩
theorem fX1_withoutMethod_12 : FL wsX1_withoutMethod RX1 12 3 0 (.object "ContractTester$State") true := ⟨_, rfl, by decide, Or.inl ⟨"ContractTester$Component", by decide +kernel, Or.inl rfl⟩, by decide +kernel, by decide +kernel, rfl⟩
set_option maxHeartbeats 4000000 in
set_option maxRecDepth 100000 in
theorem c_X1_withoutMethod (l : Launch) (G : GG) {P : Nat → Prop} {h : Hp} {a : Nat} {c : Cmp} {k : Int32} (hC : CpAt P G h a c) : Con l G yX1_withoutMethod wsX1_withoutMethod 5 107 24 212 [.ref a, .int k] h (pR (fun v h2 => v = .ref (Hz h) ∧ Fr (fun _ => False) h h2 ∧ ∃ ei em, CwP G h2 (Hz h) c.1 ei em ∧ EL (CnAt P h) ei c.2.1 ∧ EL (MtAt P G h) em (wom c.2.2 0 k))) := by
  refine Con.of (cc := cX1_withoutMethod) (nL := 4) (ret := (some (.object "ContractTester$Component"))) (by decide) rfl rfl rfl rfl (fun Γ hG hl X Y9 => ?_)
  subst hG
  subst hl
  refine V.wf (fun w => ?_)
  obtain ⟨x, y, z, hp, hx, k0, k1, k2, k3, k4, ⟨p5, es5, l5, e5, m5⟩, p6, es6, l6, e6, m6⟩ := id hC
  have b5 := l5.len
  have b6 := l6.len
  have loop2 : ∀ (n j : Nat) (h1 : Hp) (ei em : List Nat) (ms1 : List Mth), j ≤ c.2.2.length → c.2.2.length - j < n → em.length ≤ j → Fr (fun _ => False) h h1 → CwP (cxG Γ) h1 (Hz h) c.1 ei em → EL (CnAt P h) ei c.2.1 → EL (MtAt P (cxG Γ) h) em ms1 → ms1 ++ wom (c.2.2.drop j) j k = wom c.2.2 0 k → V Γ (14 + j) (112 + 10 * j) 59 [(0, .ref a), (1, .int k), (2, .ref (Hz h)), (3, .int (nI j))] [] h1 := by
    intro n
    induction n with
    | zero => intro j h1 ei em ms1 g1 g2; omega
    | succ n ih =>
      intro j h1 ei em ms1 g1 g2 g3 pF pC pi pm g4
      refine V.wf (fun w1 => ?_)
      refine V.wfE X (fun hE => ?_)
      have hb1 := l5.len
      have hb2 := l6.len
      have g6 := pF.k w k0
      have g7 := fun k => pF.v w k0 (fun e => e) k
      have q5 := l5.kept w pF (fun e => e) (fun d _ _ e => e)
      have q6 := l6.kept w pF (fun e => e) (fun d _ _ e => e)
      refine V.iload_n X dX1_withoutMethod_59 rfl ?_
      refine V.aload_n X dX1_withoutMethod_60 rfl ?_
      refine V.getf  X fX1_withoutMethod_25 dX1_withoutMethod_61 g6 ((g7 2).trans k3) ?_
      refine V.callVi (n := 0) X dX1_withoutMethod_64 gX1_withoutMethod_Jx4a65c_size_8abf5 (c_Jx4a65c_size_8abf5 _ _ q6) rfl (by decide +kernel) rfl rfl rfl q6.1 rfl rfl ⟨by omega, by omega⟩ (fun r64 h64 hp64 => ?_)
      obtain ⟨rfl, e9⟩ := hp64; obtain rfl := e9.symm
      rw [e6]
      refine V.icmp_ge 100 X dX1_withoutMethod_67 (by decide) (fun c67 => ?_) (fun c67 => ?_)
      · rw [nI_leI (by omega) (by omega)] at c67
        have e0 : EL (MtAt P (cxG Γ) h) em (wom c.2.2 0 k) := by
          rw [wom_drop0 (by omega), List.append_nil] at g4
          rw [← g4]
          exact pm
        refine V.aload_n X dX1_withoutMethod_100 rfl ?_
        exact V.aret X Y9 (Or.inl ⟨_, rfl⟩) dX1_withoutMethod_101 (Or.inr ⟨_, rfl⟩) ⟨rfl, pF, _, _, pC, pi, e0⟩ (by omega) (by omega)
      · rw [nI_leI (by omega) (by omega)] at c67
        obtain ⟨mq, hq⟩ := get_some (show j < c.2.2.length by omega)
        have hc := m6 j mq hq
        have hck := pF.k w hc.k
        rw [wom_drop hq] at g4
        refine V.iload_n X dX1_withoutMethod_70 rfl ?_
        refine V.iload_n X dX1_withoutMethod_71 rfl ?_
        refine V.icmp_eq 94 X dX1_withoutMethod_72 (by decide) (fun c72 => ?_) (fun c72 => ?_)
        · rw [if_pos c72] at g4
          have ez : em.length ≤ j + 1 := by omega
          have G1 := pF
          have G2 := pC
          have G3 := pm
          have G4 := g4
          refine V.iinc (v := nI (j + 1)) X dX1_withoutMethod_94 [(0, _), (1, _), (2, _), (3, _)] rfl (nI_1 j) rfl rfl rfl ?_
          refine V.goto 59 X dX1_withoutMethod_97 (by decide) ?_
          refine V.widen (14 + (j + 1)) (112 + 10 * (j + 1)) (by omega) (by omega) ?_
          exact ih (j + 1) _ _ _ _ (by omega) (by omega) ez G1 G2 pi G3 G4
        · rw [if_neg c72] at g4
          refine V.aload_n X dX1_withoutMethod_75 rfl ?_
          refine V.getf  X fX1_withoutMethod_25 dX1_withoutMethod_76 pC.2.1.1 pC.2.1.2.2.2 ?_
          refine V.aload_n X dX1_withoutMethod_79 rfl ?_
          refine V.getf  X fX1_withoutMethod_25 dX1_withoutMethod_80 g6 ((g7 2).trans k3) ?_
          refine V.iload_n X dX1_withoutMethod_83 rfl ?_
          refine V.callVr (n := 1) X dX1_withoutMethod_84 gX1_withoutMethod_Jx4a65c_get_915e3 (c_Jx4a65c_get_915e3 _ _ q6 (show j < es6.length by omega)) rfl (by decide +kernel) rfl rfl rfl q6.1 rfl rfl ⟨by omega, by omega⟩ (fun r84 h84 hp84 => ?_)
          obtain ⟨-, rfl, e9⟩ := hp84; obtain rfl := e9.symm
          refine V.cast (ci := 8) X dX1_withoutMethod_87 (by decide +kernel) hck rfl ?_
          refine V.callVi (n := 1) X dX1_withoutMethod_90 gX1_withoutMethod_Jx4a65c_add_9ea2d (c_Jx4a65c_add_9ea2d _ _ pC.lm (pC.fm w1 hE) (by omega) hck (Or.inr (Or.inr rfl))) rfl (by decide +kernel) rfl rfl rfl pC.lm.1 rfl rfl ⟨by omega, by omega⟩ (fun r90 h90 hp90 => ?_)
          obtain ⟨rfl, L90, f90⟩ := hp90
          have ez : (em ++ [es6.getD j 0]).length ≤ j + 1 := by simp; omega
          have G1 := pF.then f90 (fun q hq e => by
            rcases e with e | ⟨e, -⟩
            · omega
            · have := e.1; omega)
          have G2 := pC.addM w1 f90 L90
          have G3 := pm.snoc hc
          have G4 : (ms1 ++ [mq]) ++ wom (c.2.2.drop (j + 1)) (j + 1) k = wom c.2.2 0 k := by rw [List.append_assoc]; exact g4
          refine V.pop X dX1_withoutMethod_93 rfl ?_
          refine V.iinc (v := nI (j + 1)) X dX1_withoutMethod_94 [(0, _), (1, _), (2, _), (3, _)] rfl (nI_1 j) rfl rfl rfl ?_
          refine V.goto 59 X dX1_withoutMethod_97 (by decide) ?_
          refine V.widen (14 + (j + 1)) (112 + 10 * (j + 1)) (by omega) (by omega) ?_
          exact ih (j + 1) _ _ _ _ (by omega) (by omega) ez G1 G2 pi G3 G4
  have loop1 : ∀ (n j : Nat) (h1 : Hp) (ei : List Nat), j ≤ c.2.1.length → c.2.1.length - j < n → Fr (fun _ => False) h h1 → CwP (cxG Γ) h1 (Hz h) c.1 ei [] → EL (CnAt P h) ei (c.2.1.take j) → V Γ (4 + j) (12 + 10 * j) 21 [(0, .ref a), (1, .int k), (2, .ref (Hz h)), (3, .int (nI j))] [] h1 := by
    intro n
    induction n with
    | zero => intro j h1 ei g1 g2; omega
    | succ n ih =>
      intro j h1 ei g1 g2 pF pC pi
      have lj : ei.length = j := by rw [pi.1, List.length_take]; omega
      refine V.wf (fun w1 => ?_)
      refine V.wfE X (fun hE => ?_)
      have hb1 := l5.len
      have hb2 := l6.len
      have g6 := pF.k w k0
      have g7 := fun k => pF.v w k0 (fun e => e) k
      have q5 := l5.kept w pF (fun e => e) (fun d _ _ e => e)
      have q6 := l6.kept w pF (fun e => e) (fun d _ _ e => e)
      refine V.iload_n X dX1_withoutMethod_21 rfl ?_
      refine V.aload_n X dX1_withoutMethod_22 rfl ?_
      refine V.getf  X fX1_withoutMethod_21 dX1_withoutMethod_23 g6 ((g7 1).trans k2) ?_
      refine V.callVi (n := 0) X dX1_withoutMethod_26 gX1_withoutMethod_Jx4a65c_size_8abf5 (c_Jx4a65c_size_8abf5 _ _ q5) rfl (by decide +kernel) rfl rfl rfl q5.1 rfl rfl ⟨by omega, by omega⟩ (fun r26 h26 hp26 => ?_)
      obtain ⟨rfl, e9⟩ := hp26; obtain rfl := e9.symm
      rw [e5]
      refine V.icmp_ge 57 X dX1_withoutMethod_29 (by decide) (fun c29 => ?_) (fun c29 => ?_)
      · rw [nI_leI (by omega) (by omega)] at c29
        have hj : j = c.2.1.length := by omega
        rw [hj, List.take_length] at pi
        refine V.widen (14 + 0) (112 + 10 * 0) (by omega) (by omega) ?_
        refine V.iconst (v := nI 0) X dX1_withoutMethod_57 (by decide) ?_
        refine V.istore_n X dX1_withoutMethod_58 [(0, _), (1, _), (2, _), (3, _)] rfl rfl rfl ?_
        exact loop2 (c.2.2.length + 1) 0 _ _ [] [] (Nat.zero_le _) (by omega) (Nat.le_refl _) pF pC pi EL.nil rfl
      · rw [nI_leI (by omega) (by omega)] at c29
        obtain ⟨cq, hq⟩ := get_some (show j < c.2.1.length by omega)
        have hc := m5 j cq hq
        have hck := pF.k w hc.k
        refine V.aload_n X dX1_withoutMethod_32 rfl ?_
        refine V.getf  X fX1_withoutMethod_21 dX1_withoutMethod_33 pC.2.1.1 pC.2.1.2.2.1 ?_
        refine V.aload_n X dX1_withoutMethod_36 rfl ?_
        refine V.getf  X fX1_withoutMethod_21 dX1_withoutMethod_37 g6 ((g7 1).trans k2) ?_
        refine V.iload_n X dX1_withoutMethod_40 rfl ?_
        refine V.callVr (n := 1) X dX1_withoutMethod_41 gX1_withoutMethod_Jx4a65c_get_915e3 (c_Jx4a65c_get_915e3 _ _ q5 (show j < es5.length by omega)) rfl (by decide +kernel) rfl rfl rfl q5.1 rfl rfl ⟨by omega, by omega⟩ (fun r41 h41 hp41 => ?_)
        obtain ⟨-, rfl, e9⟩ := hp41; obtain rfl := e9.symm
        refine V.cast (ci := 4) X dX1_withoutMethod_44 (by decide +kernel) hck rfl ?_
        refine V.callVi (n := 1) X dX1_withoutMethod_47 gX1_withoutMethod_Jx4a65c_add_9ea2d (c_Jx4a65c_add_9ea2d _ _ pC.li (pC.fi w1 hE) (by omega) hck (Or.inr (Or.inl rfl))) rfl (by decide +kernel) rfl rfl rfl pC.li.1 rfl rfl ⟨by omega, by omega⟩ (fun r47 h47 hp47 => ?_)
        obtain ⟨rfl, L47, f47⟩ := hp47
        have G1 := pF.then f47 (fun q hq e => by
          rcases e with e | ⟨e, -⟩
          · omega
          · have := e.1; omega)
        have G2 := pC.addI w1 f47 L47
        have G3 : EL (CnAt P h) (ei ++ [es5.getD j 0]) (c.2.1.take (j + 1)) := by
          rw [take_snoc hq]
          exact pi.snoc hc
        refine V.pop X dX1_withoutMethod_50 rfl ?_
        refine V.iinc (v := nI (j + 1)) X dX1_withoutMethod_51 [(0, _), (1, _), (2, _), (3, _)] rfl (nI_1 j) rfl rfl rfl ?_
        refine V.goto 21 X dX1_withoutMethod_54 (by decide) ?_
        refine V.widen (4 + (j + 1)) (12 + 10 * (j + 1)) (by omega) (by omega) ?_
        exact ih (j + 1) _ _ (by omega) (by omega) G1 G2 G3
  refine V.new (ci := 3) X dX1_withoutMethod_0 rfl (by decide +kernel) (by decide +kernel) (by decide +kernel) (by decide +kernel) tyX1 tyX1_ok rfl rfl ?_
  refine V.dup X dX1_withoutMethod_3 rfl ?_
  refine V.callIv (n := 0) X dX1_withoutMethod_4 gX1_withoutMethod_X1_init (c_X1_init _ _ (by rw [Hk_new, if_pos rfl])) rfl (by decide +kernel) (by decide +kernel) (by decide +kernel) rfl (by decide +kernel) rfl rfl rfl ⟨Nat.le_of_ble_eq_true rfl, Nat.le_of_ble_eq_true rfl⟩ (fun h4 hp4 => ?_)
  obtain ⟨⟨m0, m1, m2, m3⟩, ⟨q1, q2, q3⟩, f4, z4⟩ := hp4
  rw [Hz_new] at m1 m2 m3 q1 q2 q3 z4
  have F4 : Fr (fun _ => False) h h4 := (Fr.new (S := fun _ => False)).then f4 (fun q hq e => by omega)
  have pC4 : CwP (cxG Γ) h4 (Hz h) (nI 0, nI 0, nI 0) [] [] := ⟨by omega, ⟨m0, m1, m2, m3⟩, q1, q2.nil, q3.nil⟩
  have g6 := F4.k w k0
  have g7 := fun k => F4.v w k0 (fun e => e) k
  have g8 := k4.kept w F4 (fun e => e)
  refine V.wf (fun w4 => ?_)
  refine V.astore_n X dX1_withoutMethod_7 [(0, _), (1, _), (2, _)] rfl rfl rfl ?_
  refine V.aload_n X dX1_withoutMethod_8 rfl ?_
  refine V.getf  X fX1_withoutMethod_12 dX1_withoutMethod_9 pC4.2.1.1 pC4.2.1.2.1 ?_
  refine V.aload_n X dX1_withoutMethod_12 rfl ?_
  refine V.getf  X fX1_withoutMethod_12 dX1_withoutMethod_13 g6 ((g7 0).trans k1) ?_
  refine V.callVv (n := 1) X dX1_withoutMethod_16 gX1_withoutMethod_X10_copyFrom (c_X10_copyFrom _ _ q1 g8) rfl (by decide +kernel) rfl rfl rfl q1.1 rfl rfl ⟨Nat.le_of_ble_eq_true rfl, Nat.le_of_ble_eq_true rfl⟩ (fun h16 hp16 => ?_)
  have f16 : Fr (fun q => q = Hz h + 1) h4 h16 := by rw [hp16]; exact ((Fr.put (S := fun q => q = Hz h + 1) (Or.inl rfl)).thenPut (Or.inl rfl)).thenPut (Or.inl rfl)
  have a16 : StAt h16 (Hz h + 1) c.1 := by rw [hp16]; exact ⟨q1.1, by simp [Hv_put], by simp [Hv_put], by simp [Hv_put]⟩
  have F16 := F4.then f16 (fun q hq e => by omega)
  have pC16 := pC4.st w4 f16 (fun q e => Or.inr e) a16
  refine V.iconst (v := nI 0) X dX1_withoutMethod_19 (by decide) ?_
  refine V.istore_n X dX1_withoutMethod_20 [(0, _), (1, _), (2, _), (3, _)] rfl rfl rfl ?_
  exact loop1 (c.2.1.length + 1) 0 _ [] (Nat.zero_le _) (by omega) F16 pC16 EL.nil
theorem fX1_withInitialValue_12 : FL wsX1_withInitialValue RX1 12 3 0 (.object "ContractTester$State") true := ⟨_, rfl, by decide, Or.inl ⟨"ContractTester$Component", by decide +kernel, Or.inl rfl⟩, by decide +kernel, by decide +kernel, rfl⟩
set_option maxHeartbeats 4000000 in
set_option maxRecDepth 100000 in
theorem c_X1_withInitialValue (l : Launch) (G : GG) {P : Nat → Prop} {h : Hp} {a : Nat} {c : Cmp} {f v : Int32} (hC : CpAt P G h a c) : Con l G yX1_withInitialValue wsX1_withInitialValue 6 130 24 212 [.ref a, .int f, .int v] h (pR (fun r h2 => r = .ref (Hz h) ∧ Fr (fun _ => False) h h2 ∧ CpAt (fun q => P q ∨ Hz h ≤ q) G h2 (Hz h) (setF c.1 f v, c.2.1, c.2.2))) := by
  refine Con.of (cc := cX1_withInitialValue) (nL := 4) (ret := (some (.object "ContractTester$Component"))) (by decide) rfl rfl rfl rfl (fun Γ hG hl X Y9 => ?_)
  subst hG
  subst hl
  refine V.wf (fun w => ?_)
  have hlen := hC.len
  refine V.aload_n X dX1_withInitialValue_0 rfl ?_
  refine V.sipush (v := -1000) X dX1_withInitialValue_1 (by decide) ?_
  refine V.callVr (n := 1) X dX1_withInitialValue_4 gX1_withInitialValue_X1_withoutMethod (c_X1_withoutMethod _ _ hC) rfl (by decide +kernel) rfl rfl rfl hC.k rfl rfl ⟨Nat.le_of_ble_eq_true rfl, Nat.le_of_ble_eq_true rfl⟩ (fun r4 h4 hp4 => ?_)
  obtain ⟨-, rfl, f4, ei, em, pC, pi, pm⟩ := hp4
  rw [wom_none _ _ (by omega)] at pm
  refine V.wf (fun w4 => ?_)
  refine V.astore_n X dX1_withInitialValue_7 [(0, _), (1, _), (2, _), (3, _)] rfl rfl rfl ?_
  refine V.aload_n X dX1_withInitialValue_8 rfl ?_
  refine V.getf  X fX1_withInitialValue_12 dX1_withInitialValue_9 pC.2.1.1 pC.2.1.2.1 ?_
  refine V.iload_n X dX1_withInitialValue_12 rfl ?_
  refine V.iload_n X dX1_withInitialValue_13 rfl ?_
  refine V.callVv (n := 2) X dX1_withInitialValue_14 gX1_withInitialValue_X10_assign (c_X10_assign _ _ pC.2.2.1) rfl (by decide +kernel) rfl rfl rfl pC.2.2.1.1 rfl rfl ⟨Nat.le_of_ble_eq_true rfl, Nat.le_of_ble_eq_true rfl⟩ (fun h14 hp14 => ?_)
  obtain ⟨kf, hkf, hq14, hS3⟩ := hp14
  have f14 : Fr (fun q => q = Hz h + 1) h4 h14 := by rw [hq14]; exact Fr.put (Or.inl rfl)
  have pC2 := pC.st w4 f14 (fun q e => Or.inr e) hS3
  have F14 := f4.then f14 (fun q hq e => by omega)
  refine V.aload_n X dX1_withInitialValue_17 rfl ?_
  exact V.aret X Y9 (Or.inl ⟨_, rfl⟩) dX1_withInitialValue_18 (Or.inr ⟨_, rfl⟩) ⟨rfl, F14, pC2.cp w F14 pi pm⟩ (Nat.le_of_ble_eq_true rfl) (Nat.le_of_ble_eq_true rfl)
