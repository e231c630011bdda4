theorem fX5_hasMore_25 : FL wsX5_hasMore RX5 25 7 5 .int false := ⟨_, rfl, by decide, Or.inl ⟨"ContractTester$Lexemes", by decide +kernel, Or.inl rfl⟩, by decide +kernel, by decide +kernel, rfl⟩
theorem fX5_hasMore_21 : FL wsX5_hasMore RX5 21 7 3 .int false := ⟨_, rfl, by decide, Or.inl ⟨"ContractTester$Lexemes", by decide +kernel, Or.inl rfl⟩, by decide +kernel, by decide +kernel, rfl⟩
set_option maxHeartbeats 4000000 in
set_option maxRecDepth 100000 in
theorem c_X5_hasMore (l : Launch) (G : GG) {h : Hp} {a n : Nat} {ts r : List Tok} (hA : LxR h a n ts r)  : Con l G yX5_hasMore wsX5_hasMore 0 0 0 0 [.ref a] h (pI (fun x h2 => x = bI (!r.isEmpty) ∧ h2 = h)) := by
  refine Con.of (cc := cX5_hasMore) (nL := 1) (ret := (some .boolean)) (by decide) rfl rfl rfl rfl (fun Γ hG hl X Y9 => ?_)
  subst hG
  subst hl
  obtain ⟨p, hp, hr, hA0⟩ := id hA
  obtain ⟨k0, k1, k2, k3, k4, k5, k6, k7, k8, k9, k10, k11, k12⟩ := id hA0
  refine V.aload_n X dX5_hasMore_0 rfl ?_
  refine V.getf  X fX5_hasMore_25 dX5_hasMore_1 (by assumption) (by assumption) ?_
  refine V.aload_n X dX5_hasMore_4 rfl ?_
  refine V.getf  X fX5_hasMore_21 dX5_hasMore_5 (by assumption) (by assumption) ?_
  refine V.icmp_ge 15 X dX5_hasMore_8 (by decide) (fun c8 => ?_) (fun c8 => ?_)
  · rw [nI_leI (by omega) (by omega)] at c8
    have e0 : (!r.isEmpty) = false := by rw [← hr, List.drop_eq_nil_of_le c8]; rfl
    refine V.iconst (v := nI 0) X dX5_hasMore_15 (by decide) ?_
    exact V.bret X Y9 dX5_hasMore_16 (!r.isEmpty) (by rw [e0]; rfl) ⟨rfl, rfl⟩ (Nat.le_of_ble_eq_true rfl) (Nat.le_of_ble_eq_true rfl)
  · rw [nI_leI (by omega) (by omega)] at c8
    have e0 : (!r.isEmpty) = true := by rw [← hr, List.drop_eq_getElem_cons (show p < ts.length by omega)]; rfl
    refine V.iconst (v := nI 1) X dX5_hasMore_11 (by decide) ?_
    refine V.goto 16 X dX5_hasMore_12 (by decide) ?_
    exact V.bret X Y9 dX5_hasMore_16 (!r.isEmpty) (by rw [e0]; rfl) ⟨rfl, rfl⟩ (Nat.le_of_ble_eq_true rfl) (Nat.le_of_ble_eq_true rfl)
theorem fX5_offset_25 : FL wsX5_offset RX5 25 7 5 .int false := ⟨_, rfl, by decide, Or.inl ⟨"ContractTester$Lexemes", by decide +kernel, Or.inl rfl⟩, by decide +kernel, by decide +kernel, rfl⟩
theorem fX5_offset_21 : FL wsX5_offset RX5 21 7 3 .int false := ⟨_, rfl, by decide, Or.inl ⟨"ContractTester$Lexemes", by decide +kernel, Or.inl rfl⟩, by decide +kernel, by decide +kernel, rfl⟩
theorem fX5_offset_34 : FL wsX5_offset RX5 34 7 4 .int false := ⟨_, rfl, by decide, Or.inl ⟨"ContractTester$Lexemes", by decide +kernel, Or.inl rfl⟩, by decide +kernel, by decide +kernel, rfl⟩
theorem fX5_offset_15 : FL wsX5_offset RX5 15 7 1 (.array .int) true := ⟨_, rfl, by decide, Or.inl ⟨"ContractTester$Lexemes", by decide +kernel, Or.inl rfl⟩, by decide +kernel, by decide +kernel, rfl⟩
set_option maxHeartbeats 4000000 in
set_option maxRecDepth 100000 in
theorem c_X5_offset (l : Launch) (G : GG) {h : Hp} {a n : Nat} {ts r : List Tok} (hA : LxR h a n ts r)  : Con l G yX5_offset wsX5_offset 0 0 0 0 [.ref a] h (pI (fun x h2 => x = nI (offR n r) ∧ h2 = h)) := by
  refine Con.of (cc := cX5_offset) (nL := 1) (ret := (some .int)) (by decide) rfl rfl rfl rfl (fun Γ hG hl X Y9 => ?_)
  subst hG
  subst hl
  obtain ⟨p, hp, hr, hA0⟩ := id hA
  obtain ⟨k0, k1, k2, k3, k4, k5, k6, k7, k8, k9, k10, k11, k12⟩ := id hA0
  refine V.aload_n X dX5_offset_0 rfl ?_
  refine V.getf  X fX5_offset_25 dX5_offset_1 (by assumption) (by assumption) ?_
  refine V.aload_n X dX5_offset_4 rfl ?_
  refine V.getf  X fX5_offset_21 dX5_offset_5 (by assumption) (by assumption) ?_
  refine V.icmp_ge 23 X dX5_offset_8 (by decide) (fun c8 => ?_) (fun c8 => ?_)
  · rw [nI_leI (by omega) (by omega)] at c8
    have e0 : offR n r = n := by rw [← hr, List.drop_eq_nil_of_le c8]; rfl
    refine V.aload_n X dX5_offset_23 rfl ?_
    refine V.getf  X fX5_offset_34 dX5_offset_24 (by assumption) (by assumption) ?_
    exact V.iret X Y9 dX5_offset_27 ⟨by rw [e0], rfl⟩ (Nat.le_of_ble_eq_true rfl) (Nat.le_of_ble_eq_true rfl)
  · rw [nI_leI (by omega) (by omega)] at c8
    obtain ⟨k, hk⟩ := get_some (show p < ts.length by omega)
    obtain ⟨g0, g1, g2, g3⟩ := k12 p k hk
    have e0 : offR n r = k.1 := by rw [← hr, drop_hd hk]; rfl
    refine V.aload_n X dX5_offset_11 rfl ?_
    refine V.getf  X fX5_offset_15 dX5_offset_12 (by assumption) (by assumption) ?_
    refine V.aload_n X dX5_offset_15 rfl ?_
    refine V.getf  X fX5_offset_25 dX5_offset_16 (by assumption) (by assumption) ?_
    refine V.iald (j := p)  X dX5_offset_19 k8 rfl (by omega) (by omega) g2 ?_
    refine V.goto 27 X dX5_offset_20 (by decide) ?_
    exact V.iret X Y9 dX5_offset_27 ⟨by rw [e0], rfl⟩ (Nat.le_of_ble_eq_true rfl) (Nat.le_of_ble_eq_true rfl)
theorem fX5_accept_25 : FL wsX5_accept RX5 25 7 5 .int false := ⟨_, rfl, by decide, Or.inl ⟨"ContractTester$Lexemes", by decide +kernel, Or.inl rfl⟩, by decide +kernel, by decide +kernel, rfl⟩
theorem fX5_accept_21 : FL wsX5_accept RX5 21 7 3 .int false := ⟨_, rfl, by decide, Or.inl ⟨"ContractTester$Lexemes", by decide +kernel, Or.inl rfl⟩, by decide +kernel, by decide +kernel, rfl⟩
theorem fX5_accept_9 : FL wsX5_accept RX5 9 7 0 (.array .int) true := ⟨_, rfl, by decide, Or.inl ⟨"ContractTester$Lexemes", by decide +kernel, Or.inl rfl⟩, by decide +kernel, by decide +kernel, rfl⟩
set_option maxHeartbeats 4000000 in
set_option maxRecDepth 100000 in
theorem c_X5_accept (l : Launch) (G : GG) {h : Hp} {a n : Nat} {ts r : List Tok} (hA : LxR h a n ts r) {c : Nat} (hc : c < 2 ^ 31) : Con l G yX5_accept wsX5_accept 0 0 0 0 [.ref a, .int (nI c)] h (pI (fun x h2 => (∃ r', acc c r = some r' ∧ x = 1 ∧ LxR h2 a n ts r' ∧ Fr (fun q => q = a) h h2) ∨ (acc c r = none ∧ x = 0 ∧ h2 = h))) := by
  refine Con.of (cc := cX5_accept) (nL := 2) (ret := (some .boolean)) (by decide) rfl rfl rfl rfl (fun Γ hG hl X Y9 => ?_)
  subst hG
  subst hl
  obtain ⟨p, hp, hr, hA0⟩ := id hA
  obtain ⟨k0, k1, k2, k3, k4, k5, k6, k7, k8, k9, k10, k11, k12⟩ := id hA0
  refine V.aload_n X dX5_accept_0 rfl ?_
  refine V.getf  X fX5_accept_25 dX5_accept_1 (by assumption) (by assumption) ?_
  refine V.aload_n X dX5_accept_4 rfl ?_
  refine V.getf  X fX5_accept_21 dX5_accept_5 (by assumption) (by assumption) ?_
  refine V.icmp_ge 24 X dX5_accept_8 (by decide) (fun c8 => ?_) (fun c8 => ?_)
  · rw [nI_leI (by omega) (by omega)] at c8
    have e0 : acc c r = none := by rw [← hr, List.drop_eq_nil_of_le c8]; rfl
    refine V.iconst (v := nI 0) X dX5_accept_24 (by decide) ?_
    exact V.bret X Y9 dX5_accept_25 false (by decide) (Or.inr ⟨e0, rfl, rfl⟩) (Nat.le_of_ble_eq_true rfl) (Nat.le_of_ble_eq_true rfl)
  · rw [nI_leI (by omega) (by omega)] at c8
    obtain ⟨k, hk⟩ := get_some (show p < ts.length by omega)
    obtain ⟨g0, g1, g2, g3⟩ := k12 p k hk
    have g4 := g0.2.1
    have er : r = k :: ts.drop (p + 1) := by rw [← hr, drop_hd hk]
    refine V.aload_n X dX5_accept_11 rfl ?_
    refine V.getf  X fX5_accept_9 dX5_accept_12 (by assumption) (by assumption) ?_
    refine V.aload_n X dX5_accept_15 rfl ?_
    refine V.getf  X fX5_accept_25 dX5_accept_16 (by assumption) (by assumption) ?_
    refine V.iald (j := p)  X dX5_accept_19 k7 rfl (by omega) (by omega) g1 ?_
    refine V.iload_n X dX5_accept_20 rfl ?_
    refine V.icmp_eq 26 X dX5_accept_21 (by decide) (fun c21 => ?_) (fun c21 => ?_)
    · rw [nI_eq (by omega) (by omega)] at c21
      have e0 : acc c r = some (ts.drop (p + 1)) := by rw [er, acc_cons, if_pos c21]
      refine V.aload_n X dX5_accept_26 rfl ?_
      refine V.dup X dX5_accept_27 rfl ?_
      refine V.getf  X fX5_accept_25 dX5_accept_28 (by assumption) (by assumption) ?_
      refine V.iconst (v := nI 1) X dX5_accept_31 (by decide) ?_
      refine V.iadd X dX5_accept_32 ?_
      rw [nI_add]
      refine V.putf X fX5_accept_25 dX5_accept_33 (by assumption) rfl rfl ?_
      refine V.iconst (v := nI 1) X dX5_accept_36 (by decide) ?_
      exact V.bret X Y9 dX5_accept_37 true (by decide) (Or.inl ⟨_, e0, rfl, ⟨p + 1, by omega, rfl, hA0.pos (p + 1)⟩, (Fr.rf (S := fun q => q = a)).thenPut (Or.inl rfl)⟩) (Nat.le_of_ble_eq_true rfl) (Nat.le_of_ble_eq_true rfl)
    · rw [nI_eq (by omega) (by omega)] at c21
      have e0 : acc c r = none := by rw [er, acc_cons, if_neg c21]
      refine V.iconst (v := nI 0) X dX5_accept_24 (by decide) ?_
      exact V.bret X Y9 dX5_accept_25 false (by decide) (Or.inr ⟨e0, rfl, rfl⟩) (Nat.le_of_ble_eq_true rfl) (Nat.le_of_ble_eq_true rfl)
set_option maxHeartbeats 4000000 in
set_option maxRecDepth 100000 in
theorem c_X5_acceptField (l : Launch) (G : GG) {h : Hp} {a n : Nat} {ts r : List Tok} (hA : LxR h a n ts r)  : Con l G yX5_acceptField wsX5_acceptField 1 21 0 0 [.ref a] h (pI (fun x h2 => (∃ f r', pFld r = some (f, r') ∧ f < 3 ∧ x = nI f ∧ LxR h2 a n ts r' ∧ Fr (fun q => q = a) h h2) ∨ (pFld r = none ∧ x = -1000 ∧ h2 = h))) := by
  refine Con.of (cc := cX5_acceptField) (nL := 2) (ret := (some .int)) (by decide) rfl rfl rfl rfl (fun Γ hG hl X Y9 => ?_)
  subst hG
  subst hl
  have loop : ∀ (m j : Nat), j ≤ 3 → 3 - j < m → (∀ f, f < j → acc (120 + f) r = none) → V Γ 0 0 2 [(0, .ref a), (1, .int (nI j))] [] h := by
    intro m
    induction m with
    | zero => intro j g1 g2; omega
    | succ m ih =>
      intro j g1 g2 g3
      refine V.iload_n X dX5_acceptField_2 rfl ?_
      refine V.iconst (v := nI 3) X dX5_acceptField_3 (by decide) ?_
      refine V.icmp_ge 26 X dX5_acceptField_4 (by decide) (fun c4 => ?_) (fun c4 => ?_)
      · rw [nI_leI (by omega) (by omega)] at c4
        have ej : j = 3 := by omega
        subst ej
        have e0 : pFld r = none := by unfold pFld; rw [g3 0 (by decide), g3 1 (by decide), g3 2 (by decide)]
        refine V.sipush (v := -1000) X dX5_acceptField_26 (by decide) ?_
        exact V.iret X Y9 dX5_acceptField_29 (Or.inr ⟨e0, rfl, rfl⟩) (Nat.le_of_ble_eq_true rfl) (Nat.le_of_ble_eq_true rfl)
      · rw [nI_leI (by omega) (by omega)] at c4
        refine V.aload_n X dX5_acceptField_7 rfl ?_
        refine V.bipush (v := nI 120) X dX5_acceptField_8 (by decide) ?_
        refine V.iload_n X dX5_acceptField_10 rfl ?_
        refine V.iadd X dX5_acceptField_11 ?_
        rw [nI_add]
        refine V.callVi (n := 1) X dX5_acceptField_12 gX5_acceptField_X5_accept (c_X5_accept _ _ hA (c := 120 + j) (by omega)) rfl (by decide +kernel) rfl rfl rfl hA.ob rfl rfl ⟨Nat.le_of_ble_eq_true rfl, Nat.le_of_ble_eq_true rfl⟩ (fun r12 h12 hp12 => ?_)
        rcases hp12 with ⟨r12, e12, rfl, hA12, f12⟩ | ⟨e12, rfl, e9⟩
        rotate_left
        · obtain rfl := e9.symm
          refine V.if_eq 20 X dX5_acceptField_15 (by decide) (fun c15 => ?_) (fun c15 => absurd rfl c15)
          refine V.iinc (v := nI (j + 1)) X dX5_acceptField_20 [(0, _), (1, _)] rfl (nI_1 j) rfl rfl rfl ?_
          refine V.goto 2 X dX5_acceptField_23 (by decide) ?_
          exact ih (j + 1) (by omega) (by omega) (fun f hf => by
            by_cases e : f = j
            · rw [e]; exact e12
            · exact g3 f (by omega))
        refine V.if_eq 20 X dX5_acceptField_15 (by decide) (fun c15 => absurd c15 (by decide)) (fun c15 => ?_)
        have e0 : pFld r = some (j, r12) := by
          unfold pFld
          rcases (show j = 0 ∨ j = 1 ∨ j = 2 by omega) with rfl | rfl | rfl
          · rw [show acc 120 r = some r12 from e12]
          · rw [g3 0 (by decide), show acc 121 r = some r12 from e12]
          · rw [g3 0 (by decide), g3 1 (by decide), show acc 122 r = some r12 from e12]
        refine V.iload_n X dX5_acceptField_18 rfl ?_
        exact V.iret X Y9 dX5_acceptField_19 (Or.inl ⟨j, r12, e0, by omega, rfl, hA12, f12⟩) (Nat.le_of_ble_eq_true rfl) (Nat.le_of_ble_eq_true rfl)
  refine V.iconst (v := nI 0) X dX5_acceptField_0 (by decide) ?_
  refine V.istore_n X dX5_acceptField_1 [(0, _), (1, _)] rfl rfl rfl ?_
  exact loop 4 0 (by decide) (by decide) (fun f hf => absurd hf (Nat.not_lt_zero f))
theorem fX5_acceptNumber_25 : FL wsX5_acceptNumber RX5 25 7 5 .int false := ⟨_, rfl, by decide, Or.inl ⟨"ContractTester$Lexemes", by decide +kernel, Or.inl rfl⟩, by decide +kernel, by decide +kernel, rfl⟩
theorem fX5_acceptNumber_21 : FL wsX5_acceptNumber RX5 21 7 3 .int false := ⟨_, rfl, by decide, Or.inl ⟨"ContractTester$Lexemes", by decide +kernel, Or.inl rfl⟩, by decide +kernel, by decide +kernel, rfl⟩
theorem fX5_acceptNumber_18 : FL wsX5_acceptNumber RX5 18 7 2 (.array .int) true := ⟨_, rfl, by decide, Or.inl ⟨"ContractTester$Lexemes", by decide +kernel, Or.inl rfl⟩, by decide +kernel, by decide +kernel, rfl⟩
set_option maxHeartbeats 4000000 in
set_option maxRecDepth 100000 in
theorem c_X5_acceptNumber (l : Launch) (G : GG) {h : Hp} {a n : Nat} {ts r : List Tok} (hA : LxR h a n ts r)  : Con l G yX5_acceptNumber wsX5_acceptNumber 1 21 0 0 [.ref a] h (pI (fun x h2 => (∃ v r', pNum r = (some v, r') ∧ x = v ∧ ¬ v = -1000 ∧ LxR h2 a n ts r' ∧ Fr (fun q => q = a) h h2) ∨ (∃ r', pNum r = (none, r') ∧ x = -1000 ∧ LxR h2 a n ts r' ∧ Fr (fun q => q = a) h h2))) := by
  refine Con.of (cc := cX5_acceptNumber) (nL := 3) (ret := (some .int)) (by decide) rfl rfl rfl rfl (fun Γ hG hl X Y9 => ?_)
  subst hG
  subst hl
  have fin : ∀ (sg : Int32) (r1 : List Tok) (h1 : Hp), (sg = -1 ∨ sg = nI 1) → LxR h1 a n ts r1 → Fr (fun q => q = a) h h1 → (∀ r2, acc 307 r1 = some r2 → pNum r = (some (sg * nI (numR r1)), r2)) → (acc 307 r1 = none → pNum r = (none, r1)) → V Γ 0 0 15 [(0, .ref a), (1, .int sg)] [] h1 := by
    intro sg r1 h1 hsg qA qF q1 q2
    have hn := qA.num
    obtain ⟨p, hp, hr, hA0⟩ := id qA
    obtain ⟨k0, k1, k2, k3, k4, k5, k6, k7, k8, k9, k10, k11, k12⟩ := id hA0
    refine V.aload_n X dX5_acceptNumber_15 rfl ?_
    refine V.getf  X fX5_acceptNumber_25 dX5_acceptNumber_16 (by assumption) (by assumption) ?_
    refine V.aload_n X dX5_acceptNumber_19 rfl ?_
    refine V.getf  X fX5_acceptNumber_21 dX5_acceptNumber_20 (by assumption) (by assumption) ?_
    refine V.icmp_ge 38 X dX5_acceptNumber_23 (by decide) (fun c23 => ?_) (fun c23 => ?_)
    · rw [nI_leI (by omega) (by omega)] at c23
      have en : numR r1 = 0 := by rw [← hr, List.drop_eq_nil_of_le c23]; rfl
      refine V.iconst (v := nI 0) X dX5_acceptNumber_38 (by decide) ?_
      first
        | rw [show nI 0 = nI (numR r1) by rw [en]]
        | rw [show nI k.2.2 = nI (numR r1) by rw [en]]
      refine V.istore_n X dX5_acceptNumber_39 [(0, _), (1, _), (2, _)] rfl rfl rfl ?_
      refine V.aload_n X dX5_acceptNumber_40 rfl ?_
      refine V.sipush (v := nI 307) X dX5_acceptNumber_41 (by decide) ?_
      refine V.callVi (n := 1) X dX5_acceptNumber_44 gX5_acceptNumber_X5_accept (c_X5_accept _ _ qA (c := 307) (by decide)) rfl (by decide +kernel) rfl rfl rfl qA.ob rfl rfl ⟨Nat.le_of_ble_eq_true rfl, Nat.le_of_ble_eq_true rfl⟩ (fun r44 h44 hp44 => ?_)
      rcases hp44 with ⟨r12, e12, rfl, hA12, f12⟩ | ⟨e12, rfl, e9⟩
      rotate_left
      · obtain rfl := e9.symm
        refine V.if_eq 56 X dX5_acceptNumber_47 (by decide) (fun c15 => ?_) (fun c15 => absurd rfl c15)
        refine V.sipush (v := -1000) X dX5_acceptNumber_56 (by decide) ?_
        exact V.iret X Y9 dX5_acceptNumber_59 (by first | exact Or.inr ⟨_, q2 e12, rfl, qA, qF⟩ | exact Or.inl ⟨_, _, q1 _ e12, rfl, num_ne hsg hn, hA12, qF.tr f12⟩) (Nat.le_of_ble_eq_true rfl) (Nat.le_of_ble_eq_true rfl)
      refine V.if_eq 56 X dX5_acceptNumber_47 (by decide) (fun c15 => absurd c15 (by decide)) (fun c15 => ?_)
      refine V.iload_n X dX5_acceptNumber_50 rfl ?_
      refine V.iload_n X dX5_acceptNumber_51 rfl ?_
      refine V.imul X dX5_acceptNumber_52 ?_
      refine V.goto 59 X dX5_acceptNumber_53 (by decide) ?_
      exact V.iret X Y9 dX5_acceptNumber_59 (by first | exact Or.inr ⟨_, q2 e12, rfl, qA, qF⟩ | exact Or.inl ⟨_, _, q1 _ e12, rfl, num_ne hsg hn, hA12, qF.tr f12⟩) (Nat.le_of_ble_eq_true rfl) (Nat.le_of_ble_eq_true rfl)
    · rw [nI_leI (by omega) (by omega)] at c23
      obtain ⟨k, hk⟩ := get_some (show p < ts.length by omega)
      obtain ⟨g0, g1, g2, g3⟩ := k12 p k hk
      have en : numR r1 = k.2.2 := by rw [← hr, drop_hd hk]; rfl
      refine V.aload_n X dX5_acceptNumber_26 rfl ?_
      refine V.getf  X fX5_acceptNumber_18 dX5_acceptNumber_27 (by assumption) (by assumption) ?_
      refine V.aload_n X dX5_acceptNumber_30 rfl ?_
      refine V.getf  X fX5_acceptNumber_25 dX5_acceptNumber_31 (by assumption) (by assumption) ?_
      refine V.iald (j := p)  X dX5_acceptNumber_34 k9 rfl (by omega) (by omega) g3 ?_
      refine V.goto 39 X dX5_acceptNumber_35 (by decide) ?_
      first
        | rw [show nI 0 = nI (numR r1) by rw [en]]
        | rw [show nI k.2.2 = nI (numR r1) by rw [en]]
      refine V.istore_n X dX5_acceptNumber_39 [(0, _), (1, _), (2, _)] rfl rfl rfl ?_
      refine V.aload_n X dX5_acceptNumber_40 rfl ?_
      refine V.sipush (v := nI 307) X dX5_acceptNumber_41 (by decide) ?_
      refine V.callVi (n := 1) X dX5_acceptNumber_44 gX5_acceptNumber_X5_accept (c_X5_accept _ _ qA (c := 307) (by decide)) rfl (by decide +kernel) rfl rfl rfl qA.ob rfl rfl ⟨Nat.le_of_ble_eq_true rfl, Nat.le_of_ble_eq_true rfl⟩ (fun r44 h44 hp44 => ?_)
      rcases hp44 with ⟨r12, e12, rfl, hA12, f12⟩ | ⟨e12, rfl, e9⟩
      rotate_left
      · obtain rfl := e9.symm
        refine V.if_eq 56 X dX5_acceptNumber_47 (by decide) (fun c15 => ?_) (fun c15 => absurd rfl c15)
        refine V.sipush (v := -1000) X dX5_acceptNumber_56 (by decide) ?_
        exact V.iret X Y9 dX5_acceptNumber_59 (by first | exact Or.inr ⟨_, q2 e12, rfl, qA, qF⟩ | exact Or.inl ⟨_, _, q1 _ e12, rfl, num_ne hsg hn, hA12, qF.tr f12⟩) (Nat.le_of_ble_eq_true rfl) (Nat.le_of_ble_eq_true rfl)
      refine V.if_eq 56 X dX5_acceptNumber_47 (by decide) (fun c15 => absurd c15 (by decide)) (fun c15 => ?_)
      refine V.iload_n X dX5_acceptNumber_50 rfl ?_
      refine V.iload_n X dX5_acceptNumber_51 rfl ?_
      refine V.imul X dX5_acceptNumber_52 ?_
      refine V.goto 59 X dX5_acceptNumber_53 (by decide) ?_
      exact V.iret X Y9 dX5_acceptNumber_59 (by first | exact Or.inr ⟨_, q2 e12, rfl, qA, qF⟩ | exact Or.inl ⟨_, _, q1 _ e12, rfl, num_ne hsg hn, hA12, qF.tr f12⟩) (Nat.le_of_ble_eq_true rfl) (Nat.le_of_ble_eq_true rfl)
  refine V.aload_n X dX5_acceptNumber_0 rfl ?_
  refine V.bipush (v := nI 45) X dX5_acceptNumber_1 (by decide) ?_
  refine V.callVi (n := 1) X dX5_acceptNumber_3 gX5_acceptNumber_X5_accept (c_X5_accept _ _ hA (c := 45) (by decide)) rfl (by decide +kernel) rfl rfl rfl hA.ob rfl rfl ⟨Nat.le_of_ble_eq_true rfl, Nat.le_of_ble_eq_true rfl⟩ (fun r3 h3 hp3 => ?_)
  rcases hp3 with ⟨r1, e12, rfl, hA12, f12⟩ | ⟨e12, rfl, e9⟩
  rotate_left
  · obtain rfl := e9.symm
    refine V.if_eq 13 X dX5_acceptNumber_6 (by decide) (fun c15 => ?_) (fun c15 => absurd rfl c15)
    refine V.iconst (v := nI 1) X dX5_acceptNumber_13 (by decide) ?_
    refine V.istore_n X dX5_acceptNumber_14 [(0, _), (1, _)] rfl rfl rfl ?_
    first
      | exact fin _ r1 _ (Or.inl rfl) hA12 f12 (fun r2 q => by unfold pNum; rw [e12]; simp only [q]) (fun q => by unfold pNum; rw [e12]; simp only [q])
      | exact fin _ r _ (Or.inr rfl) hA Fr.rf (fun r2 q => by unfold pNum; rw [e12]; simp only [q]) (fun q => by unfold pNum; rw [e12]; simp only [q])
  refine V.if_eq 13 X dX5_acceptNumber_6 (by decide) (fun c15 => absurd c15 (by decide)) (fun c15 => ?_)
  refine V.iconst (v := -1) X dX5_acceptNumber_9 (by decide) ?_
  refine V.goto 14 X dX5_acceptNumber_10 (by decide) ?_
  refine V.istore_n X dX5_acceptNumber_14 [(0, _), (1, _)] rfl rfl rfl ?_
  first
    | exact fin _ r1 _ (Or.inl rfl) hA12 f12 (fun r2 q => by unfold pNum; rw [e12]; simp only [q]) (fun q => by unfold pNum; rw [e12]; simp only [q])
    | exact fin _ r _ (Or.inr rfl) hA Fr.rf (fun r2 q => by unfold pNum; rw [e12]; simp only [q]) (fun q => by unfold pNum; rw [e12]; simp only [q])
theorem fX5_scan_34 : FL wsX5_scan RX5 34 7 4 .int false := ⟨_, rfl, by decide, Or.inl ⟨"ContractTester$Lexemes", by decide +kernel, Or.inl rfl⟩, by decide +kernel, by decide +kernel, rfl⟩
theorem fX5_scan_21 : FL wsX5_scan RX5 21 7 3 .int false := ⟨_, rfl, by decide, Or.inl ⟨"ContractTester$Lexemes", by decide +kernel, Or.inl rfl⟩, by decide +kernel, by decide +kernel, rfl⟩
theorem fX5_scan_15 : FL wsX5_scan RX5 15 7 1 (.array .int) true := ⟨_, rfl, by decide, Or.inl ⟨"ContractTester$Lexemes", by decide +kernel, Or.inl rfl⟩, by decide +kernel, by decide +kernel, rfl⟩
theorem fX5_scan_9 : FL wsX5_scan RX5 9 7 0 (.array .int) true := ⟨_, rfl, by decide, Or.inl ⟨"ContractTester$Lexemes", by decide +kernel, Or.inl rfl⟩, by decide +kernel, by decide +kernel, rfl⟩
theorem fX5_scan_18 : FL wsX5_scan RX5 18 7 2 (.array .int) true := ⟨_, rfl, by decide, Or.inl ⟨"ContractTester$Lexemes", by decide +kernel, Or.inl rfl⟩, by decide +kernel, by decide +kernel, rfl⟩
theorem fX5_scan_25 : FL wsX5_scan RX5 25 7 5 .int false := ⟨_, rfl, by decide, Or.inl ⟨"ContractTester$Lexemes", by decide +kernel, Or.inl rfl⟩, by decide +kernel, by decide +kernel, rfl⟩
set_option maxHeartbeats 4000000 in
set_option maxRecDepth 100000 in
theorem c_X5_scan (l : Launch) (G : GG) {h : Hp} {a n p : Nat} {ts : List Tok} (hA : LxAt h a n ts p) {sb d : Nat} {t : List Nat} (hL : t.length ≤ 200) (hS : SbAt h sb d t) (hd1 : ¬ lexS a sb) (hd2 : ¬ lexS a d) : Con l G yX5_scan wsX5_scan 7 156 0 0 [.ref a, .ref sb] h (pV (fun h2 => LxR h2 a t.length (toks t) (toks t) ∧ Fr (lexS a) h h2)) := by
  refine Con.of (cc := cX5_scan) (nL := 4) (ret := none) (by decide) rfl rfl rfl rfl (fun Γ hG hl X Y9 => ?_)
  subst hG
  subst hl
  have hb := hS.lt
  refine V.wf (fun w => ?_)
  obtain ⟨k0, k1, k2, k3, k4, k5, k6, k7, k8, k9, k10, k11, k12⟩ := id hA
  have loop : ∀ (m o : Nat) (ac : List Tok) (h1 : Hp), o + m = t.length → ac.length ≤ o → (∀ k ∈ ac, TokOk t.length k) → ac ++ tkF t m o = toks t → LxAt h1 a t.length ac 0 → Fr (lexS a) h h1 → V Γ 0 0 20 [(0, .ref a), (1, .ref sb), (2, .int (nI o))] [] h1 := by
    intro m
    induction m with
    | zero =>
      intro o ac h1 g1 g2 g3 g4 q qF
      have eo : o = t.length := by omega
      have e0 : ac = toks t := by rw [← g4]; simp [tkF]
      refine V.iload_n X dX5_scan_20 rfl ?_
      refine V.aload_n X dX5_scan_21 rfl ?_
      refine V.getf  X fX5_scan_34 dX5_scan_22 q.1 q.2.2.2.2.2.1 ?_
      refine V.icmp_ge 127 X dX5_scan_25 (by decide) (fun c25 => ?_) (fun c25 => absurd (nI_le (by omega) (by omega)) c25)
      exact V.vret X Y9 dX5_scan_127 ⟨rfl, ⟨0, Nat.zero_le _, rfl, by rw [← e0]; exact q⟩, qF⟩ (Nat.le_of_ble_eq_true rfl) (Nat.le_of_ble_eq_true rfl)
    | succ m ih =>
      intro o ac h1 g1 g2 g3 g4 q qF
      refine V.wf (fun w1 => ?_)
      have ho : o < t.length := by omega
      have hS1 := hS.kept w qF hd1 hd2
      obtain ⟨l0, l1, l2, l3, l4, l5, l6, l7, l8, l9, l10, l11, l12⟩ := id q
      refine V.iload_n X dX5_scan_20 rfl ?_
      refine V.aload_n X dX5_scan_21 rfl ?_
      refine V.getf  X fX5_scan_34 dX5_scan_22 l0 l5 ?_
      refine V.icmp_ge 127 X dX5_scan_25 (by decide) (fun c25 => absurd c25 (nI_nle9 ho (by omega))) (fun c25 => ?_)
      refine V.aload_n X dX5_scan_28 rfl ?_
      refine V.iload_n X dX5_scan_29 rfl ?_
      refine V.callSi (n := 2) X dX5_scan_30 gX5_scan_X5_startsLexeme (c_X5_startsLexeme _ _ hL hS1 ho) rfl (by decide +kernel) rfl rfl rfl ⟨Nat.le_of_ble_eq_true rfl, Nat.le_of_ble_eq_true rfl⟩ (fun r30 h30 hp30 => ?_)
      obtain ⟨rfl, e9⟩ := hp30; obtain rfl := e9.symm
      refine V.if_eq 121 X dX5_scan_33 (by decide) (fun c33 => ?_) (fun c33 => ?_)
      · have e1 := bI_eq c33
        unfold tkF at g4
        rw [if_neg (by rw [e1]; decide)] at g4
        refine V.iinc (v := nI (o + 1)) X dX5_scan_121 [(0, _), (1, _), (2, _)] rfl (nI_1 o) rfl rfl rfl ?_
        refine V.goto 20 X dX5_scan_124 (by decide) ?_
        exact ih (o + 1) ac h1 (by omega) (by omega) g3 g4 q qF
      · have e1 := bI_ne c33
        unfold tkF at g4
        rw [if_pos e1] at g4
        have hg := enO_gt t o
        have hl := enO_le t o ho
        refine V.aload_n X dX5_scan_36 rfl ?_
        refine V.getf  X fX5_scan_21 dX5_scan_37 l0 l4 ?_
        refine V.sipush (v := nI 200) X dX5_scan_40 (by decide) ?_
        refine V.icmp_ge 121 X dX5_scan_43 (by decide) (fun c43 => absurd c43 (nI_nle9 (show ac.length < 200 by omega) (by omega))) (fun c43 => ?_)
        refine V.aload_n X dX5_scan_46 rfl ?_
        refine V.iload_n X dX5_scan_47 rfl ?_
        refine V.callSi (n := 2) X dX5_scan_48 gX5_scan_X5_endOfLexeme (c_X5_endOfLexeme _ _ hL hS1 ho) rfl (by decide +kernel) rfl rfl rfl ⟨Nat.le_of_ble_eq_true rfl, Nat.le_of_ble_eq_true rfl⟩ (fun r48 h48 hp48 => ?_)
        obtain ⟨rfl, e9⟩ := hp48; obtain rfl := e9.symm
        refine V.istore_n X dX5_scan_51 [(0, _), (1, _), (2, _), (3, _)] rfl rfl rfl ?_
        refine V.aload_n X dX5_scan_52 rfl ?_
        refine V.getf  X fX5_scan_15 dX5_scan_53 l0 l2 ?_
        refine V.aload_n X dX5_scan_56 rfl ?_
        refine V.getf  X fX5_scan_21 dX5_scan_57 l0 l4 ?_
        refine V.iload_n X dX5_scan_60 rfl ?_
        refine V.iast (j := ac.length) X dX5_scan_61 l8 rfl (by omega) (by omega) ?_
        have hS2 := hS1.kept w1 (Fr.put (S := fun q => q = a + 2) (h := h1) (a := a + 2) (k := ac.length) (x := .int (nI o)) (Or.inl rfl)) (fun z => hd1 (Or.inr (Or.inr (Or.inl z)))) (fun z => hd2 (Or.inr (Or.inr (Or.inl z))))
        refine V.aload_n X dX5_scan_62 rfl ?_
        refine V.getf (v := .ref (a + 1)) X fX5_scan_9 dX5_scan_63 l0 (by rw [Hv_put_a _ _ _ _ (by omega)]; exact l1) ?_
        refine V.aload_n X dX5_scan_66 rfl ?_
        refine V.getf (v := .int (nI ac.length)) X fX5_scan_21 dX5_scan_67 l0 (by rw [Hv_put_a _ _ _ _ (by omega)]; exact l4) ?_
        refine V.aload_n X dX5_scan_70 rfl ?_
        refine V.iload_n X dX5_scan_71 rfl ?_
        refine V.iload_n X dX5_scan_72 rfl ?_
        refine V.callSi (n := 3) X dX5_scan_73 gX5_scan_X5_codeOf (c_X5_codeOf _ _ hL hS2 hg hl) rfl (by decide +kernel) rfl rfl rfl ⟨Nat.le_of_ble_eq_true rfl, Nat.le_of_ble_eq_true rfl⟩ (fun r73 h73 hp73 => ?_)
        obtain ⟨rfl, e9⟩ := hp73; obtain rfl := e9.symm
        refine V.iast (j := ac.length) X dX5_scan_76 l7 rfl (by omega) (by omega) ?_
        have hS3 := hS2.kept (fun q t z => w1 q t z) (Fr.put (S := fun q => q = a + 1) (a := a + 1) (k := ac.length) (x := .int (nI (cdO t o (enO t o)))) (Or.inl rfl)) (fun z => hd1 (Or.inr (Or.inl z))) (fun z => hd2 (Or.inr (Or.inl z)))
        refine V.aload_n X dX5_scan_77 rfl ?_
        refine V.getf (v := .ref (a + 3)) X fX5_scan_18 dX5_scan_78 l0 (by simp [Hv_put, l3]) ?_
        refine V.aload_n X dX5_scan_81 rfl ?_
        refine V.getf (v := .int (nI ac.length)) X fX5_scan_21 dX5_scan_82 l0 (by simp [Hv_put, l4]) ?_
        refine V.aload_n X dX5_scan_85 rfl ?_
        refine V.getf (v := .ref (a + 1)) X fX5_scan_9 dX5_scan_86 l0 (by simp [Hv_put, l1]) ?_
        refine V.aload_n X dX5_scan_89 rfl ?_
        refine V.getf (v := .int (nI ac.length)) X fX5_scan_21 dX5_scan_90 l0 (by simp [Hv_put, l4]) ?_
        refine V.iald (j := ac.length) (v := .int (nI (cdO t o (enO t o)))) X dX5_scan_93 l7 rfl (by omega) (by omega) (by simp [Hv_put]) ?_
        have ht := tkO_ok (t := t) (fun i hi => hb i hi) ho
        have hcl : cdO t o (enO t o) < 309 := ht.2.1
        refine V.sipush (v := nI 307) X dX5_scan_94 (by decide) ?_
        refine V.icmp_ne 109 X dX5_scan_97 (by decide) (fun c97 => ?_) (fun c97 => ?_)
        · rw [nI_eq (by omega) (by omega)] at c97
          have en : (tkO t o).2.2 = 0 := by unfold tkO; dsimp only; rw [if_neg c97]
          refine V.iconst (v := nI 0) X dX5_scan_109 (by decide) ?_
          first
            | rw [show nI 0 = nI (tkO t o).2.2 by rw [en]]
            | rw [show nI (nmO t o (enO t o - o)) = nI (tkO t o).2.2 by rw [en]]
          refine V.iast (j := ac.length) X dX5_scan_110 l9 rfl (by omega) (by omega) ?_
          refine V.aload_n X dX5_scan_111 rfl ?_
          refine V.dup X dX5_scan_112 rfl ?_
          refine V.getf (v := .int (nI ac.length)) X fX5_scan_21 dX5_scan_113 l0 (by simp [Hv_put, l4]) ?_
          refine V.iconst (v := nI 1) X dX5_scan_116 (by decide) ?_
          refine V.iadd X dX5_scan_117 ?_
          rw [nI_add]
          refine V.putf X fX5_scan_21 dX5_scan_118 l0 rfl rfl ?_
          refine V.iinc (v := nI (o + 1)) X dX5_scan_121 [(0, _), (1, _), (2, _), (3, _)] rfl (nI_1 o) rfl rfl rfl ?_
          refine V.goto 20 X dX5_scan_124 (by decide) ?_
          refine V.drop [(0, _), (1, _), (2, _)] [0, 1, 2] rfl ?_
          exact ih (o + 1) (ac ++ [tkO t o]) _ (by omega) (by simp; omega) (fun k hk => by
            rcases List.mem_append.mp hk with hk | hk
            · exact g3 k hk
            · rw [List.mem_singleton.mp hk]; exact ht) (by simpa using g4) (q.push (by omega) ht) ((((qF.thenPut (Or.inl (Or.inr (Or.inr (Or.inl rfl))))).thenPut (Or.inl (Or.inr (Or.inl rfl)))).thenPut (Or.inl (Or.inr (Or.inr (Or.inr rfl))))).thenPut (Or.inl (Or.inl rfl)))
        · rw [nI_eq (by omega) (by omega)] at c97
          have hk7 : kd (ch t o) = 2 ∧ enO t o - o ≤ 2 := cdO_307 (hb o ho) c97
          have hdg : ∀ j, j < enO t o - o → 48 ≤ ch t (o + j) ∧ ch t (o + j) ≤ 57 := fun j hj => by
            by_cases e : j = 0
            · subst e; exact kd_digit hk7.1
            · have := enL_kd t (kd (ch t o)) t.length (o + 1) (o + j) (by omega) (by have h9 : enL t (kd (ch t o)) t.length (o + 1) = enO t o := rfl; omega)
              rw [hk7.1] at this
              exact kd_digit this
          have en : (tkO t o).2.2 = nmO t o (enO t o - o) := by unfold tkO; dsimp only; rw [if_pos c97]
          refine V.aload_n X dX5_scan_100 rfl ?_
          refine V.iload_n X dX5_scan_101 rfl ?_
          refine V.iload_n X dX5_scan_102 rfl ?_
          refine V.callSi (n := 3) X dX5_scan_103 gX5_scan_X5_numberOf (c_X5_numberOf _ _ hL hS3 (by omega) hl (fun j hj => (hdg j hj).1) (nmO_bd hdg hk7.2)) rfl (by decide +kernel) rfl rfl rfl ⟨Nat.le_of_ble_eq_true rfl, Nat.le_of_ble_eq_true rfl⟩ (fun r103 h103 hp103 => ?_)
          obtain ⟨rfl, e9⟩ := hp103; obtain rfl := e9.symm
          refine V.goto 110 X dX5_scan_106 (by decide) ?_
          first
            | rw [show nI 0 = nI (tkO t o).2.2 by rw [en]]
            | rw [show nI (nmO t o (enO t o - o)) = nI (tkO t o).2.2 by rw [en]]
          refine V.iast (j := ac.length) X dX5_scan_110 l9 rfl (by omega) (by omega) ?_
          refine V.aload_n X dX5_scan_111 rfl ?_
          refine V.dup X dX5_scan_112 rfl ?_
          refine V.getf (v := .int (nI ac.length)) X fX5_scan_21 dX5_scan_113 l0 (by simp [Hv_put, l4]) ?_
          refine V.iconst (v := nI 1) X dX5_scan_116 (by decide) ?_
          refine V.iadd X dX5_scan_117 ?_
          rw [nI_add]
          refine V.putf X fX5_scan_21 dX5_scan_118 l0 rfl rfl ?_
          refine V.iinc (v := nI (o + 1)) X dX5_scan_121 [(0, _), (1, _), (2, _), (3, _)] rfl (nI_1 o) rfl rfl rfl ?_
          refine V.goto 20 X dX5_scan_124 (by decide) ?_
          refine V.drop [(0, _), (1, _), (2, _)] [0, 1, 2] rfl ?_
          exact ih (o + 1) (ac ++ [tkO t o]) _ (by omega) (by simp; omega) (fun k hk => by
            rcases List.mem_append.mp hk with hk | hk
            · exact g3 k hk
            · rw [List.mem_singleton.mp hk]; exact ht) (by simpa using g4) (q.push (by omega) ht) ((((qF.thenPut (Or.inl (Or.inr (Or.inr (Or.inl rfl))))).thenPut (Or.inl (Or.inr (Or.inl rfl)))).thenPut (Or.inl (Or.inr (Or.inr (Or.inr rfl))))).thenPut (Or.inl (Or.inl rfl)))
  refine V.aload_n X dX5_scan_0 rfl ?_
  refine V.iconst (v := nI 0) X dX5_scan_1 (by decide) ?_
  refine V.putf X fX5_scan_21 dX5_scan_2 k0 rfl rfl ?_
  refine V.aload_n X dX5_scan_5 rfl ?_
  refine V.iconst (v := nI 0) X dX5_scan_6 (by decide) ?_
  refine V.putf X fX5_scan_25 dX5_scan_7 k0 rfl rfl ?_
  have hS0 := hS.kept w ((Fr.put (S := fun q => q = a) (h := h) (a := a) (k := 3) (x := .int (nI 0)) (Or.inl rfl)).thenPut (a := a) (k := 5) (x := .int (nI 0)) (Or.inl rfl)) (fun z => hd1 (Or.inl z)) (fun z => hd2 (Or.inl z))
  refine V.aload_n X dX5_scan_10 rfl ?_
  refine V.aload_n X dX5_scan_11 rfl ?_
  refine V.callVi (n := 0) X dX5_scan_12 gX5_scan_J4_length_8abf5 (c_J4_length_8abf5 _ _ hS0) rfl (by decide +kernel) rfl rfl rfl hS.ob rfl rfl ⟨Nat.le_of_ble_eq_true rfl, Nat.le_of_ble_eq_true rfl⟩ (fun r12 h12 hp12 => ?_)
  obtain ⟨rfl, e9⟩ := hp12; obtain rfl := e9.symm
  refine V.putf X fX5_scan_34 dX5_scan_15 k0 rfl rfl ?_
  refine V.iconst (v := nI 0) X dX5_scan_18 (by decide) ?_
  refine V.istore_n X dX5_scan_19 [(0, _), (1, _), (2, _)] rfl rfl rfl ?_
  exact loop t.length 0 [] _ (Nat.zero_add _) (Nat.le_refl _) (fun k hk => by cases hk) rfl ⟨k0, by simp [Hv_put, k1], by simp [Hv_put, k2], by simp [Hv_put, k3], by simp [Hv_put], by simp [Hv_put], by simp [Hv_put], k7, k8, k9, by simp, hL, fun i k hk => by simp at hk⟩ (((Fr.put (S := lexS a) (Or.inl (Or.inl rfl))).thenPut (Or.inl (Or.inl rfl))).thenPut (Or.inl (Or.inl rfl)))
