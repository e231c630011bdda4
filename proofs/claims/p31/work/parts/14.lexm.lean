set_option maxHeartbeats 4000000 in
set_option maxRecDepth 100000 in
theorem c_X5_kindOf (l : Launch) (G : GG) {h : Hp} {c : Nat} (hc : c < 256) : Con l G yX5_kindOf wsX5_kindOf 0 0 0 0 [.int (nI c)] h (pI (fun r h2 => r = nI (kd c) ∧ h2 = h)) := by
  refine Con.of (cc := cX5_kindOf) (nL := 1) (ret := (some .int)) (by decide) rfl rfl rfl rfl (fun Γ hG hl X Y9 => ?_)
  subst hG
  subst hl
  refine V.iload_n X dX5_kindOf_0 rfl ?_
  refine V.bipush (v := nI 32) X dX5_kindOf_1 (by decide) ?_
  refine V.icmp_ne 8 X dX5_kindOf_3 (by decide) (fun c3 => ?_) (fun c3 => ?_)
  · rw [nI_eq (by omega) (by omega)] at c3
    refine V.iload_n X dX5_kindOf_8 rfl ?_
    refine V.bipush (v := nI 97) X dX5_kindOf_9 (by decide) ?_
    refine V.icmp_lt 22 X dX5_kindOf_11 (by decide) (fun c11 => ?_) (fun c11 => ?_)
    · rw [nI_ltI (by omega) (by omega)] at c11
      refine V.iload_n X dX5_kindOf_22 rfl ?_
      refine V.bipush (v := nI 48) X dX5_kindOf_23 (by decide) ?_
      refine V.icmp_lt 38 X dX5_kindOf_25 (by decide) (fun c25 => ?_) (fun c25 => ?_)
      · rw [nI_ltI (by omega) (by omega)] at c25
        have e1 : kd c = 3 := by
          unfold kd
          rw [if_neg (by omega), if_neg (by omega), if_neg (by omega)]
        refine V.iconst (v := nI 3) X dX5_kindOf_38 (by decide) ?_
        exact V.iret X Y9 dX5_kindOf_39 ⟨by rw [e1], rfl⟩ (Nat.le_of_ble_eq_true rfl) (Nat.le_of_ble_eq_true rfl)
      · rw [nI_ltI (by omega) (by omega)] at c25
        refine V.iload_n X dX5_kindOf_28 rfl ?_
        refine V.bipush (v := nI 57) X dX5_kindOf_29 (by decide) ?_
        refine V.icmp_gt 38 X dX5_kindOf_31 (by decide) (fun c31 => ?_) (fun c31 => ?_)
        · rw [nI_ltI (by omega) (by omega)] at c31
          have e1 : kd c = 3 := by
            unfold kd
            rw [if_neg (by omega), if_neg (by omega), if_neg (by omega)]
          refine V.iconst (v := nI 3) X dX5_kindOf_38 (by decide) ?_
          exact V.iret X Y9 dX5_kindOf_39 ⟨by rw [e1], rfl⟩ (Nat.le_of_ble_eq_true rfl) (Nat.le_of_ble_eq_true rfl)
        · rw [nI_ltI (by omega) (by omega)] at c31
          have e1 : kd c = 2 := by
            unfold kd
            rw [if_neg (by omega), if_neg (by omega), if_pos (by omega)]
          refine V.iconst (v := nI 2) X dX5_kindOf_34 (by decide) ?_
          refine V.goto 39 X dX5_kindOf_35 (by decide) ?_
          exact V.iret X Y9 dX5_kindOf_39 ⟨by rw [e1], rfl⟩ (Nat.le_of_ble_eq_true rfl) (Nat.le_of_ble_eq_true rfl)
    · rw [nI_ltI (by omega) (by omega)] at c11
      refine V.iload_n X dX5_kindOf_14 rfl ?_
      refine V.bipush (v := nI 122) X dX5_kindOf_15 (by decide) ?_
      refine V.icmp_gt 22 X dX5_kindOf_17 (by decide) (fun c17 => ?_) (fun c17 => ?_)
      · rw [nI_ltI (by omega) (by omega)] at c17
        refine V.iload_n X dX5_kindOf_22 rfl ?_
        refine V.bipush (v := nI 48) X dX5_kindOf_23 (by decide) ?_
        refine V.icmp_lt 38 X dX5_kindOf_25 (by decide) (fun c25 => ?_) (fun c25 => ?_)
        · rw [nI_ltI (by omega) (by omega)] at c25
          have e1 : kd c = 3 := by
            unfold kd
            rw [if_neg (by omega), if_neg (by omega), if_neg (by omega)]
          refine V.iconst (v := nI 3) X dX5_kindOf_38 (by decide) ?_
          exact V.iret X Y9 dX5_kindOf_39 ⟨by rw [e1], rfl⟩ (Nat.le_of_ble_eq_true rfl) (Nat.le_of_ble_eq_true rfl)
        · rw [nI_ltI (by omega) (by omega)] at c25
          refine V.iload_n X dX5_kindOf_28 rfl ?_
          refine V.bipush (v := nI 57) X dX5_kindOf_29 (by decide) ?_
          refine V.icmp_gt 38 X dX5_kindOf_31 (by decide) (fun c31 => ?_) (fun c31 => ?_)
          · rw [nI_ltI (by omega) (by omega)] at c31
            have e1 : kd c = 3 := by
              unfold kd
              rw [if_neg (by omega), if_neg (by omega), if_neg (by omega)]
            refine V.iconst (v := nI 3) X dX5_kindOf_38 (by decide) ?_
            exact V.iret X Y9 dX5_kindOf_39 ⟨by rw [e1], rfl⟩ (Nat.le_of_ble_eq_true rfl) (Nat.le_of_ble_eq_true rfl)
          · rw [nI_ltI (by omega) (by omega)] at c31
            have e1 : kd c = 2 := by
              unfold kd
              rw [if_neg (by omega), if_neg (by omega), if_pos (by omega)]
            refine V.iconst (v := nI 2) X dX5_kindOf_34 (by decide) ?_
            refine V.goto 39 X dX5_kindOf_35 (by decide) ?_
            exact V.iret X Y9 dX5_kindOf_39 ⟨by rw [e1], rfl⟩ (Nat.le_of_ble_eq_true rfl) (Nat.le_of_ble_eq_true rfl)
      · rw [nI_ltI (by omega) (by omega)] at c17
        have e1 : kd c = 1 := by
          unfold kd
          rw [if_neg c3, if_pos (by omega)]
        refine V.iconst (v := nI 1) X dX5_kindOf_20 (by decide) ?_
        exact V.iret X Y9 dX5_kindOf_21 ⟨by rw [e1], rfl⟩ (Nat.le_of_ble_eq_true rfl) (Nat.le_of_ble_eq_true rfl)
  · rw [nI_eq (by omega) (by omega)] at c3
    refine V.iconst (v := nI 0) X dX5_kindOf_6 (by decide) ?_
    exact V.iret X Y9 dX5_kindOf_7 ⟨by simp [kd, *], rfl⟩ (Nat.le_of_ble_eq_true rfl) (Nat.le_of_ble_eq_true rfl)
set_option maxHeartbeats 4000000 in
set_option maxRecDepth 100000 in
theorem c_X5_startsLexeme (l : Launch) (G : GG) {h : Hp} {sb d : Nat} {t : List Nat} (hL : t.length ≤ 200) (hS : SbAt h sb d t) {o : Nat} (ho : o < t.length) : Con l G yX5_startsLexeme wsX5_startsLexeme 4 88 0 0 [.ref sb, .int (nI o)] h (pI (fun r h2 => r = bI (stx t o) ∧ h2 = h)) := by
  refine Con.of (cc := cX5_startsLexeme) (nL := 3) (ret := (some .boolean)) (by decide) rfl rfl rfl rfl (fun Γ hG hl X Y9 => ?_)
  subst hG
  subst hl
  have hb := hS.lt
  refine V.aload_n X dX5_startsLexeme_0 rfl ?_
  refine V.iload_n X dX5_startsLexeme_1 rfl ?_
  refine V.callV (n := 1) X dX5_startsLexeme_2 gX5_startsLexeme_J4_charAt_5068e (c_J4_charAt_5068e _ _ hS (i := o) ho) rfl (by decide +kernel) rfl rfl rfl hS.ob rfl rfl ⟨Nat.le_of_ble_eq_true rfl, Nat.le_of_ble_eq_true rfl⟩ (fun v2 h2 hp2 => ?_)
  obtain ⟨rfl, e9⟩ := hp2; obtain rfl := e9.symm
  rw [show t.getD (o) 0 = ch t (o) from rfl]
  refine V.callSi (n := 1) X dX5_startsLexeme_5 gX5_startsLexeme_X5_kindOf (c_X5_kindOf _ _ (hb o ho)) rfl (by decide +kernel) rfl rfl rfl ⟨Nat.le_of_ble_eq_true rfl, Nat.le_of_ble_eq_true rfl⟩ (fun r5 h5 hp5 => ?_)
  obtain ⟨rfl, e9⟩ := hp5; obtain rfl := e9.symm
  have kl := kd_lt (ch t o)
  have e5 : kd (t.getD o 0) = kd (ch t o) := rfl
  rw [e5]
  refine V.istore_n X dX5_startsLexeme_8 [(0, _), (1, _), (2, _)] rfl rfl rfl ?_
  refine V.iload_n X dX5_startsLexeme_9 rfl ?_
  refine V.if_ne 15 X dX5_startsLexeme_10 (by decide) (fun c10 => ?_) (fun c10 => ?_)
  · have k0 : ¬ kd (ch t o) = 0 := fun z => c10 (by rw [z]; rfl)
    refine V.iload_n X dX5_startsLexeme_15 rfl ?_
    refine V.iconst (v := nI 3) X dX5_startsLexeme_16 (by decide) ?_
    refine V.icmp_eq 38 X dX5_startsLexeme_17 (by decide) (fun c17 => ?_) (fun c17 => ?_)
    · rw [nI_eq (by omega) (by omega)] at c17
      have e0 : stx t o = true := by simp [stx, c17]
      refine V.iconst (v := nI 1) X dX5_startsLexeme_38 (by decide) ?_
      refine V.goto 43 X dX5_startsLexeme_39 (by decide) ?_
      exact V.bret X Y9 dX5_startsLexeme_43 (stx t o) (by rw [e0]; rfl) ⟨rfl, rfl⟩ (Nat.le_of_ble_eq_true rfl) (Nat.le_of_ble_eq_true rfl)
    · rw [nI_eq (by omega) (by omega)] at c17
      refine V.iload_n X dX5_startsLexeme_20 rfl ?_
      refine V.if_eq 38 X dX5_startsLexeme_21 (by decide) (fun c21 => ?_) (fun c21 => ?_)
      · have o0 : o = 0 := (nI_eq (by omega) (by decide)).mp c21
        have e0 : stx t o = true := by simp [stx, o0] at k0 ⊢; exact k0
        refine V.iconst (v := nI 1) X dX5_startsLexeme_38 (by decide) ?_
        refine V.goto 43 X dX5_startsLexeme_39 (by decide) ?_
        exact V.bret X Y9 dX5_startsLexeme_43 (stx t o) (by rw [e0]; rfl) ⟨rfl, rfl⟩ (Nat.le_of_ble_eq_true rfl) (Nat.le_of_ble_eq_true rfl)
      · have o0 : ¬ o = 0 := fun z => c21 (by rw [z]; rfl)
        refine V.iload_n X dX5_startsLexeme_24 rfl ?_
        refine V.aload_n X dX5_startsLexeme_25 rfl ?_
        refine V.iload_n X dX5_startsLexeme_26 rfl ?_
        refine V.iconst (v := nI 1) X dX5_startsLexeme_27 (by decide) ?_
        refine V.isub X dX5_startsLexeme_28 ?_
        rw [nI_sub9 (show 1 ≤ o by omega)]
        refine V.callV (n := 1) X dX5_startsLexeme_29 gX5_startsLexeme_J4_charAt_5068e (c_J4_charAt_5068e _ _ hS (i := o - 1) (by omega)) rfl (by decide +kernel) rfl rfl rfl hS.ob rfl rfl ⟨Nat.le_of_ble_eq_true rfl, Nat.le_of_ble_eq_true rfl⟩ (fun v29 h29 hp29 => ?_)
        obtain ⟨rfl, e9⟩ := hp29; obtain rfl := e9.symm
        rw [show t.getD (o - 1) 0 = ch t (o - 1) from rfl]
        refine V.callSi (n := 1) X dX5_startsLexeme_32 gX5_startsLexeme_X5_kindOf (c_X5_kindOf _ _ (hb (o - 1) (by omega))) rfl (by decide +kernel) rfl rfl rfl ⟨Nat.le_of_ble_eq_true rfl, Nat.le_of_ble_eq_true rfl⟩ (fun r32 h32 hp32 => ?_)
        obtain ⟨rfl, e9⟩ := hp32; obtain rfl := e9.symm
        have kl2 := kd_lt (ch t (o - 1))
        have e6 : kd (t.getD (o - 1) 0) = kd (ch t (o - 1)) := rfl
        rw [e6]
        refine V.icmp_eq 42 X dX5_startsLexeme_35 (by decide) (fun c35 => ?_) (fun c35 => ?_)
        · rw [nI_eq (by omega) (by omega)] at c35
          have e0 : stx t o = false := by
            unfold stx
            rw [← c35]
            simp [k0, c17, o0]
          refine V.iconst (v := nI 0) X dX5_startsLexeme_42 (by decide) ?_
          exact V.bret X Y9 dX5_startsLexeme_43 (stx t o) (by rw [e0]; rfl) ⟨rfl, rfl⟩ (Nat.le_of_ble_eq_true rfl) (Nat.le_of_ble_eq_true rfl)
        · rw [nI_eq (by omega) (by omega)] at c35
          have e0 : stx t o = true := by simp [stx, k0, c35]
          refine V.iconst (v := nI 1) X dX5_startsLexeme_38 (by decide) ?_
          refine V.goto 43 X dX5_startsLexeme_39 (by decide) ?_
          exact V.bret X Y9 dX5_startsLexeme_43 (stx t o) (by rw [e0]; rfl) ⟨rfl, rfl⟩ (Nat.le_of_ble_eq_true rfl) (Nat.le_of_ble_eq_true rfl)
  · have k0 : kd (ch t o) = 0 := (nI_eq (by omega) (by decide)).mp (show nI (kd (ch t o)) = nI 0 from c10)
    refine V.iconst (v := nI 0) X dX5_startsLexeme_13 (by decide) ?_
    exact V.bret X Y9 dX5_startsLexeme_14 (stx t o) (by simp [stx, k0, bI, nI_0]) ⟨rfl, rfl⟩ (Nat.le_of_ble_eq_true rfl) (Nat.le_of_ble_eq_true rfl)
set_option maxHeartbeats 4000000 in
set_option maxRecDepth 100000 in
theorem c_X5_endOfLexeme (l : Launch) (G : GG) {h : Hp} {sb d : Nat} {t : List Nat} (hL : t.length ≤ 200) (hS : SbAt h sb d t) {o : Nat} (ho : o < t.length) : Con l G yX5_endOfLexeme wsX5_endOfLexeme 4 88 0 0 [.ref sb, .int (nI o)] h (pI (fun r h2 => r = nI (enO t o) ∧ h2 = h)) := by
  refine Con.of (cc := cX5_endOfLexeme) (nL := 4) (ret := (some .int)) (by decide) rfl rfl rfl rfl (fun Γ hG hl X Y9 => ?_)
  subst hG
  subst hl
  have hb := hS.lt
  have kl := kd_lt (ch t o)
  have loop : ∀ (n e : Nat), e ≤ t.length → t.length - e ≤ n → enL t (kd (ch t o)) n e = enO t o → V Γ 0 0 13 [(0, .ref sb), (1, .int (nI o)), (2, .int (nI (kd (ch t o)))), (3, .int (nI e))] [] h := by
    intro n
    induction n with
    | zero =>
      intro e g1 g2 g3
      have he : e = t.length := by omega
      have g4 : e = enO t o := g3
      refine V.iload_n X dX5_endOfLexeme_13 rfl ?_
      refine V.aload_n X dX5_endOfLexeme_14 rfl ?_
      refine V.callVi (n := 0) X dX5_endOfLexeme_15 gX5_endOfLexeme_J4_length_8abf5 (c_J4_length_8abf5 _ _ hS) rfl (by decide +kernel) rfl rfl rfl hS.ob rfl rfl ⟨Nat.le_of_ble_eq_true rfl, Nat.le_of_ble_eq_true rfl⟩ (fun r15 h15 hp15 => ?_)
      obtain ⟨rfl, e9⟩ := hp15; obtain rfl := e9.symm
      refine V.icmp_ge 44 X dX5_endOfLexeme_18 (by decide) (fun c => ?_) (fun c => absurd (nI_le (by omega) (by omega)) c)
      refine V.iload_n X dX5_endOfLexeme_44 rfl ?_
      exact V.iret X Y9 dX5_endOfLexeme_45 ⟨by rw [g4], rfl⟩ (by omega) (by omega)
    | succ n ih =>
      intro e g1 g2 g3
      unfold enL at g3
      refine V.iload_n X dX5_endOfLexeme_13 rfl ?_
      refine V.aload_n X dX5_endOfLexeme_14 rfl ?_
      refine V.callVi (n := 0) X dX5_endOfLexeme_15 gX5_endOfLexeme_J4_length_8abf5 (c_J4_length_8abf5 _ _ hS) rfl (by decide +kernel) rfl rfl rfl hS.ob rfl rfl ⟨Nat.le_of_ble_eq_true rfl, Nat.le_of_ble_eq_true rfl⟩ (fun r15 h15 hp15 => ?_)
      obtain ⟨rfl, e9⟩ := hp15; obtain rfl := e9.symm
      refine V.icmp_ge 44 X dX5_endOfLexeme_18 (by decide) (fun c18 => ?_) (fun c18 => ?_)
      · rw [nI_leI (by omega) (by omega)] at c18
        rw [if_neg (fun z => by omega)] at g3
        refine V.iload_n X dX5_endOfLexeme_44 rfl ?_
        exact V.iret X Y9 dX5_endOfLexeme_45 ⟨by rw [g3], rfl⟩ (Nat.le_of_ble_eq_true rfl) (Nat.le_of_ble_eq_true rfl)
      · rw [nI_leI (by omega) (by omega)] at c18
        have hlt : e < t.length := by omega
        refine V.iload_n X dX5_endOfLexeme_21 rfl ?_
        refine V.iconst (v := nI 3) X dX5_endOfLexeme_22 (by decide) ?_
        refine V.icmp_eq 44 X dX5_endOfLexeme_23 (by decide) (fun c23 => ?_) (fun c23 => ?_)
        · rw [nI_eq (by omega) (by omega)] at c23
          rw [if_neg (fun z => z.2.1 c23)] at g3
          refine V.iload_n X dX5_endOfLexeme_44 rfl ?_
          exact V.iret X Y9 dX5_endOfLexeme_45 ⟨by rw [g3], rfl⟩ (Nat.le_of_ble_eq_true rfl) (Nat.le_of_ble_eq_true rfl)
        · rw [nI_eq (by omega) (by omega)] at c23
          refine V.aload_n X dX5_endOfLexeme_26 rfl ?_
          refine V.iload_n X dX5_endOfLexeme_27 rfl ?_
          refine V.callV (n := 1) X dX5_endOfLexeme_28 gX5_endOfLexeme_J4_charAt_5068e (c_J4_charAt_5068e _ _ hS (i := e) hlt) rfl (by decide +kernel) rfl rfl rfl hS.ob rfl rfl ⟨Nat.le_of_ble_eq_true rfl, Nat.le_of_ble_eq_true rfl⟩ (fun v28 h28 hp28 => ?_)
          obtain ⟨rfl, e9⟩ := hp28; obtain rfl := e9.symm
          rw [show t.getD (e) 0 = ch t (e) from rfl]
          refine V.callSi (n := 1) X dX5_endOfLexeme_31 gX5_endOfLexeme_X5_kindOf (c_X5_kindOf _ _ (hb e hlt)) rfl (by decide +kernel) rfl rfl rfl ⟨Nat.le_of_ble_eq_true rfl, Nat.le_of_ble_eq_true rfl⟩ (fun r31 h31 hp31 => ?_)
          obtain ⟨rfl, e9⟩ := hp31; obtain rfl := e9.symm
          have kl2 := kd_lt (ch t e)
          have e6 : kd (t.getD e 0) = kd (ch t e) := rfl
          rw [e6]
          refine V.iload_n X dX5_endOfLexeme_34 rfl ?_
          refine V.icmp_ne 44 X dX5_endOfLexeme_35 (by decide) (fun c35 => ?_) (fun c35 => ?_)
          · rw [nI_eq (by omega) (by omega)] at c35
            rw [if_neg (fun z => c35 z.2.2)] at g3
            refine V.iload_n X dX5_endOfLexeme_44 rfl ?_
            exact V.iret X Y9 dX5_endOfLexeme_45 ⟨by rw [g3], rfl⟩ (Nat.le_of_ble_eq_true rfl) (Nat.le_of_ble_eq_true rfl)
          · rw [nI_eq (by omega) (by omega)] at c35
            refine V.iinc (v := nI (e + 1)) X dX5_endOfLexeme_38 [(0, _), (1, _), (2, _), (3, _)] rfl (nI_1 e) rfl rfl rfl ?_
            refine V.goto 13 X dX5_endOfLexeme_41 (by decide) ?_
            rw [if_pos ⟨by omega, c23, c35⟩] at g3
            exact ih (e + 1) (by omega) (by omega) g3
  refine V.aload_n X dX5_endOfLexeme_0 rfl ?_
  refine V.iload_n X dX5_endOfLexeme_1 rfl ?_
  refine V.callV (n := 1) X dX5_endOfLexeme_2 gX5_endOfLexeme_J4_charAt_5068e (c_J4_charAt_5068e _ _ hS (i := o) ho) rfl (by decide +kernel) rfl rfl rfl hS.ob rfl rfl ⟨Nat.le_of_ble_eq_true rfl, Nat.le_of_ble_eq_true rfl⟩ (fun v2 h2 hp2 => ?_)
  obtain ⟨rfl, e9⟩ := hp2; obtain rfl := e9.symm
  rw [show t.getD (o) 0 = ch t (o) from rfl]
  refine V.callSi (n := 1) X dX5_endOfLexeme_5 gX5_endOfLexeme_X5_kindOf (c_X5_kindOf _ _ (hb o ho)) rfl (by decide +kernel) rfl rfl rfl ⟨Nat.le_of_ble_eq_true rfl, Nat.le_of_ble_eq_true rfl⟩ (fun r5 h5 hp5 => ?_)
  obtain ⟨rfl, e9⟩ := hp5; obtain rfl := e9.symm
  have e5 : kd (t.getD o 0) = kd (ch t o) := rfl
  rw [e5]
  refine V.istore_n X dX5_endOfLexeme_8 [(0, _), (1, _), (2, _)] rfl rfl rfl ?_
  refine V.iload_n X dX5_endOfLexeme_9 rfl ?_
  refine V.iconst (v := nI 1) X dX5_endOfLexeme_10 (by decide) ?_
  refine V.iadd X dX5_endOfLexeme_11 ?_
  rw [nI_add]
  refine V.istore_n X dX5_endOfLexeme_12 [(0, _), (1, _), (2, _), (3, _)] rfl rfl rfl ?_
  exact loop t.length (o + 1) ho (by omega) rfl
set_option maxHeartbeats 4000000 in
set_option maxRecDepth 100000 in
theorem c_X5_isWord (l : Launch) (G : GG) {h : Hp} {sb d : Nat} {t : List Nat} (hL : t.length ≤ 200) (hS : SbAt h sb d t) {s e i : Nat} (hi : i < 7) (hse : s ≤ e) (he : e ≤ t.length) : Con l G yX5_isWord wsX5_isWord 4 88 0 0 [.ref (gK G i), .ref sb, .int (nI s), .int (nI e)] h (pI (fun r h2 => r = bI (wdA t s e i) ∧ h2 = h)) := by
  refine Con.of (cc := cX5_isWord) (nL := 5) (ret := (some .boolean)) (by decide) rfl rfl rfl rfl (fun Γ hG hl X Y9 => ?_)
  subst hG
  subst hl
  have hb := hS.lt
  have hlen := lenS_lt i hi
  have loop : ∀ (n k : Nat), k ≤ lenS.getD i 0 → lenS.getD i 0 - k < n → e - s = lenS.getD i 0 → wdL t s i k = true → V Γ 0 0 15 [(0, .ref (gK (cxG Γ) i)), (1, .ref sb), (2, .int (nI s)), (3, .int (nI e)), (4, .int (nI k))] [] h := by
    intro n
    induction n with
    | zero => intro k g1 g2; omega
    | succ n ih =>
      intro k g1 g2 g3 g4
      refine V.iload X dX5_isWord_15 rfl ?_
      refine V.aload_n X dX5_isWord_17 rfl ?_
      refine V.callVK (n := 0) X dX5_isWord_18 gX5_isWord_J0_length_8abf5 (c_J0_length_8abf5 _ _ hi) hi rfl (by decide +kernel) rfl rfl rfl ⟨Nat.le_of_ble_eq_true rfl, Nat.le_of_ble_eq_true rfl⟩ (fun r18 h18 hp18 => ?_)
      obtain ⟨rfl, e9⟩ := hp18; obtain rfl := e9.symm
      refine V.icmp_ge 49 X dX5_isWord_21 (by decide) (fun c21 => ?_) (fun c21 => ?_)
      · rw [nI_leI (by omega) (by omega)] at c21
        have ek : k = lenS.getD i 0 := by omega
        have e0 : wdA t s e i = true := by simp only [wdA, g3, beq_self_eq_true, Bool.true_and]; rw [← ek]; exact g4
        refine V.iconst (v := nI 1) X dX5_isWord_49 (by decide) ?_
        exact V.bret X Y9 dX5_isWord_50 (wdA t s e i) (by rw [e0]; rfl) ⟨rfl, rfl⟩ (Nat.le_of_ble_eq_true rfl) (Nat.le_of_ble_eq_true rfl)
      · rw [nI_leI (by omega) (by omega)] at c21
        refine V.aload_n X dX5_isWord_24 rfl ?_
        refine V.iload_n X dX5_isWord_25 rfl ?_
        refine V.iload X dX5_isWord_26 rfl ?_
        refine V.iadd X dX5_isWord_28 ?_
        rw [nI_add]
        refine V.callV (n := 1) X dX5_isWord_29 gX5_isWord_J4_charAt_5068e (c_J4_charAt_5068e _ _ hS (i := s + k) (by omega)) rfl (by decide +kernel) rfl rfl rfl hS.ob rfl rfl ⟨Nat.le_of_ble_eq_true rfl, Nat.le_of_ble_eq_true rfl⟩ (fun v29 h29 hp29 => ?_)
        obtain ⟨rfl, e9⟩ := hp29; obtain rfl := e9.symm
        rw [show t.getD (s + k) 0 = ch t (s + k) from rfl]
        refine V.aload_n X dX5_isWord_32 rfl ?_
        refine V.iload X dX5_isWord_33 rfl ?_
        refine V.callVKg (n := 1) X dX5_isWord_35 gX5_isWord_J0_charAt_5068e (c_J0_charAt_5068e _ _ hi (show k < lenS.getD i 0 by omega)) hi rfl (by decide +kernel) rfl rfl rfl ⟨Nat.le_of_ble_eq_true rfl, Nat.le_of_ble_eq_true rfl⟩ (fun v35 h35 hp35 => ?_)
        obtain ⟨rfl, e9⟩ := hp35; obtain rfl := e9.symm
        have b1 : ch t (s + k) < 256 := hb (s + k) (by omega)
        have b2 := chS_lt i k hi (by omega)
        refine V.icmp_eq 43 X dX5_isWord_38 (by decide) (fun c38 => ?_) (fun c38 => ?_)
        · rw [nI_eq (by omega) (by omega)] at c38
          refine V.iinc (v := nI (k + 1)) X dX5_isWord_43 [(0, _), (1, _), (2, _), (3, _), (4, _)] rfl (nI_1 k) rfl rfl rfl ?_
          refine V.goto 15 X dX5_isWord_46 (by decide) ?_
          exact ih (k + 1) (by omega) (by omega) g3 (by simp only [wdL, g4, Bool.true_and, beq_iff_eq]; exact c38)
        · rw [nI_eq (by omega) (by omega)] at c38
          have e0 : wdA t s e i = false := by
            have h9 : ∀ m, k < m → wdL t s i m = false := by
              intro m
              induction m with
              | zero => intro z; omega
              | succ m ihm =>
                intro z
                by_cases hm : k < m
                · simp only [wdL, ihm hm, Bool.false_and]
                · have : m = k := by omega
                  subst this
                  simp only [wdL, beq_eq_false_iff_ne.mpr c38, Bool.and_false]
            simp only [wdA, h9 _ (show k < lenS.getD i 0 by omega), Bool.and_false]
          refine V.iconst (v := nI 0) X dX5_isWord_41 (by decide) ?_
          exact V.bret X Y9 dX5_isWord_42 (wdA t s e i) (by rw [e0]; rfl) ⟨rfl, rfl⟩ (Nat.le_of_ble_eq_true rfl) (Nat.le_of_ble_eq_true rfl)
  refine V.iload_n X dX5_isWord_0 rfl ?_
  refine V.iload_n X dX5_isWord_1 rfl ?_
  refine V.isub X dX5_isWord_2 ?_
  rw [nI_sub9 hse]
  refine V.aload_n X dX5_isWord_3 rfl ?_
  refine V.callVK (n := 0) X dX5_isWord_4 gX5_isWord_J0_length_8abf5 (c_J0_length_8abf5 _ _ hi) hi rfl (by decide +kernel) rfl rfl rfl ⟨Nat.le_of_ble_eq_true rfl, Nat.le_of_ble_eq_true rfl⟩ (fun r4 h4 hp4 => ?_)
  obtain ⟨rfl, e9⟩ := hp4; obtain rfl := e9.symm
  refine V.icmp_eq 12 X dX5_isWord_7 (by decide) (fun c7 => ?_) (fun c7 => ?_)
  · rw [nI_eq (by omega) (by omega)] at c7
    refine V.iconst (v := nI 0) X dX5_isWord_12 (by decide) ?_
    refine V.istore X dX5_isWord_13 [(0, _), (1, _), (2, _), (3, _), (4, _)] rfl rfl rfl ?_
    exact loop (lenS.getD i 0 + 1) 0 (Nat.zero_le _) (by omega) c7 rfl
  · rw [nI_eq (by omega) (by omega)] at c7
    have e0 : wdA t s e i = false := by simp only [wdA, beq_eq_false_iff_ne.mpr c7, Bool.false_and]
    refine V.iconst (v := nI 0) X dX5_isWord_10 (by decide) ?_
    exact V.bret X Y9 dX5_isWord_11 (wdA t s e i) (by rw [e0]; rfl) ⟨rfl, rfl⟩ (Nat.le_of_ble_eq_true rfl) (Nat.le_of_ble_eq_true rfl)
set_option maxHeartbeats 4000000 in
set_option maxRecDepth 100000 in
theorem c_X5_codeOfWord (l : Launch) (G : GG) {h : Hp} {sb d : Nat} {t : List Nat} (hL : t.length ≤ 200) (hS : SbAt h sb d t) {s e : Nat} (hse : s ≤ e) (he : e ≤ t.length) : Con l G yX5_codeOfWord wsX5_codeOfWord 5 112 0 0 [.ref sb, .int (nI s), .int (nI e)] h (pI (fun r h2 => r = nI (cdW t s e) ∧ h2 = h)) := by
  refine Con.of (cc := cX5_codeOfWord) (nL := 3) (ret := (some .int)) (by decide) rfl rfl rfl rfl (fun Γ hG hl X Y9 => ?_)
  subst hG
  subst hl
  refine V.ldcS (i := 0) X dX5_codeOfWord_0 (by decide) rfl ?_
  refine V.aload_n X dX5_codeOfWord_2 rfl ?_
  refine V.iload_n X dX5_codeOfWord_3 rfl ?_
  refine V.iload_n X dX5_codeOfWord_4 rfl ?_
  refine V.callSi (n := 4) X dX5_codeOfWord_5 gX5_codeOfWord_X5_isWord (c_X5_isWord _ _ hL hS (by decide) hse he) rfl (by decide +kernel) rfl rfl rfl ⟨Nat.le_of_ble_eq_true rfl, Nat.le_of_ble_eq_true rfl⟩ (fun r5 h5 hp5 => ?_)
  obtain ⟨rfl, e9⟩ := hp5; obtain rfl := e9.symm
  refine V.if_eq 15 X dX5_codeOfWord_8 (by decide) (fun c8 => ?_) (fun c8 => ?_)
  · have w0 := bI_eq c8
    refine V.ldcS (i := 1) X dX5_codeOfWord_15 (by decide) rfl ?_
    refine V.aload_n X dX5_codeOfWord_17 rfl ?_
    refine V.iload_n X dX5_codeOfWord_18 rfl ?_
    refine V.iload_n X dX5_codeOfWord_19 rfl ?_
    refine V.callSi (n := 4) X dX5_codeOfWord_20 gX5_codeOfWord_X5_isWord (c_X5_isWord _ _ hL hS (by decide) hse he) rfl (by decide +kernel) rfl rfl rfl ⟨Nat.le_of_ble_eq_true rfl, Nat.le_of_ble_eq_true rfl⟩ (fun r20 h20 hp20 => ?_)
    obtain ⟨rfl, e9⟩ := hp20; obtain rfl := e9.symm
    refine V.if_eq 30 X dX5_codeOfWord_23 (by decide) (fun c23 => ?_) (fun c23 => ?_)
    · have w1 := bI_eq c23
      refine V.ldcS (i := 2) X dX5_codeOfWord_30 (by decide) rfl ?_
      refine V.aload_n X dX5_codeOfWord_32 rfl ?_
      refine V.iload_n X dX5_codeOfWord_33 rfl ?_
      refine V.iload_n X dX5_codeOfWord_34 rfl ?_
      refine V.callSi (n := 4) X dX5_codeOfWord_35 gX5_codeOfWord_X5_isWord (c_X5_isWord _ _ hL hS (by decide) hse he) rfl (by decide +kernel) rfl rfl rfl ⟨Nat.le_of_ble_eq_true rfl, Nat.le_of_ble_eq_true rfl⟩ (fun r35 h35 hp35 => ?_)
      obtain ⟨rfl, e9⟩ := hp35; obtain rfl := e9.symm
      refine V.if_eq 45 X dX5_codeOfWord_38 (by decide) (fun c38 => ?_) (fun c38 => ?_)
      · have w2 := bI_eq c38
        refine V.ldcS (i := 3) X dX5_codeOfWord_45 (by decide) rfl ?_
        refine V.aload_n X dX5_codeOfWord_47 rfl ?_
        refine V.iload_n X dX5_codeOfWord_48 rfl ?_
        refine V.iload_n X dX5_codeOfWord_49 rfl ?_
        refine V.callSi (n := 4) X dX5_codeOfWord_50 gX5_codeOfWord_X5_isWord (c_X5_isWord _ _ hL hS (by decide) hse he) rfl (by decide +kernel) rfl rfl rfl ⟨Nat.le_of_ble_eq_true rfl, Nat.le_of_ble_eq_true rfl⟩ (fun r50 h50 hp50 => ?_)
        obtain ⟨rfl, e9⟩ := hp50; obtain rfl := e9.symm
        refine V.if_eq 60 X dX5_codeOfWord_53 (by decide) (fun c53 => ?_) (fun c53 => ?_)
        · have w3 := bI_eq c53
          refine V.ldcS (i := 4) X dX5_codeOfWord_60 (by decide) rfl ?_
          refine V.aload_n X dX5_codeOfWord_62 rfl ?_
          refine V.iload_n X dX5_codeOfWord_63 rfl ?_
          refine V.iload_n X dX5_codeOfWord_64 rfl ?_
          refine V.callSi (n := 4) X dX5_codeOfWord_65 gX5_codeOfWord_X5_isWord (c_X5_isWord _ _ hL hS (by decide) hse he) rfl (by decide +kernel) rfl rfl rfl ⟨Nat.le_of_ble_eq_true rfl, Nat.le_of_ble_eq_true rfl⟩ (fun r65 h65 hp65 => ?_)
          obtain ⟨rfl, e9⟩ := hp65; obtain rfl := e9.symm
          refine V.if_eq 75 X dX5_codeOfWord_68 (by decide) (fun c68 => ?_) (fun c68 => ?_)
          · have w4 := bI_eq c68
            refine V.ldcS (i := 5) X dX5_codeOfWord_75 (by decide) rfl ?_
            refine V.aload_n X dX5_codeOfWord_77 rfl ?_
            refine V.iload_n X dX5_codeOfWord_78 rfl ?_
            refine V.iload_n X dX5_codeOfWord_79 rfl ?_
            refine V.callSi (n := 4) X dX5_codeOfWord_80 gX5_codeOfWord_X5_isWord (c_X5_isWord _ _ hL hS (by decide) hse he) rfl (by decide +kernel) rfl rfl rfl ⟨Nat.le_of_ble_eq_true rfl, Nat.le_of_ble_eq_true rfl⟩ (fun r80 h80 hp80 => ?_)
            obtain ⟨rfl, e9⟩ := hp80; obtain rfl := e9.symm
            refine V.if_eq 90 X dX5_codeOfWord_83 (by decide) (fun c83 => ?_) (fun c83 => ?_)
            · have w5 := bI_eq c83
              refine V.ldcS (i := 6) X dX5_codeOfWord_90 (by decide) rfl ?_
              refine V.aload_n X dX5_codeOfWord_92 rfl ?_
              refine V.iload_n X dX5_codeOfWord_93 rfl ?_
              refine V.iload_n X dX5_codeOfWord_94 rfl ?_
              refine V.callSi (n := 4) X dX5_codeOfWord_95 gX5_codeOfWord_X5_isWord (c_X5_isWord _ _ hL hS (by decide) hse he) rfl (by decide +kernel) rfl rfl rfl ⟨Nat.le_of_ble_eq_true rfl, Nat.le_of_ble_eq_true rfl⟩ (fun r95 h95 hp95 => ?_)
              obtain ⟨rfl, e9⟩ := hp95; obtain rfl := e9.symm
              refine V.if_eq 107 X dX5_codeOfWord_98 (by decide) (fun c98 => ?_) (fun c98 => ?_)
              · have w6 := bI_eq c98
                refine V.sipush (v := nI 308) X dX5_codeOfWord_107 (by decide) ?_
                exact V.iret X Y9 dX5_codeOfWord_110 ⟨by simp [cdW, *], rfl⟩ (Nat.le_of_ble_eq_true rfl) (Nat.le_of_ble_eq_true rfl)
              · have w6 := bI_ne c98
                refine V.sipush (v := nI 306) X dX5_codeOfWord_101 (by decide) ?_
                refine V.goto 110 X dX5_codeOfWord_104 (by decide) ?_
                exact V.iret X Y9 dX5_codeOfWord_110 ⟨by simp [cdW, *], rfl⟩ (Nat.le_of_ble_eq_true rfl) (Nat.le_of_ble_eq_true rfl)
            · have w5 := bI_ne c83
              refine V.sipush (v := nI 305) X dX5_codeOfWord_86 (by decide) ?_
              exact V.iret X Y9 dX5_codeOfWord_89 ⟨by simp [cdW, *], rfl⟩ (Nat.le_of_ble_eq_true rfl) (Nat.le_of_ble_eq_true rfl)
          · have w4 := bI_ne c68
            refine V.sipush (v := nI 304) X dX5_codeOfWord_71 (by decide) ?_
            exact V.iret X Y9 dX5_codeOfWord_74 ⟨by simp [cdW, *], rfl⟩ (Nat.le_of_ble_eq_true rfl) (Nat.le_of_ble_eq_true rfl)
        · have w3 := bI_ne c53
          refine V.sipush (v := nI 303) X dX5_codeOfWord_56 (by decide) ?_
          exact V.iret X Y9 dX5_codeOfWord_59 ⟨by simp [cdW, *], rfl⟩ (Nat.le_of_ble_eq_true rfl) (Nat.le_of_ble_eq_true rfl)
      · have w2 := bI_ne c38
        refine V.sipush (v := nI 302) X dX5_codeOfWord_41 (by decide) ?_
        exact V.iret X Y9 dX5_codeOfWord_44 ⟨by simp [cdW, *], rfl⟩ (Nat.le_of_ble_eq_true rfl) (Nat.le_of_ble_eq_true rfl)
    · have w1 := bI_ne c23
      refine V.sipush (v := nI 301) X dX5_codeOfWord_26 (by decide) ?_
      exact V.iret X Y9 dX5_codeOfWord_29 ⟨by simp [cdW, *], rfl⟩ (Nat.le_of_ble_eq_true rfl) (Nat.le_of_ble_eq_true rfl)
  · have w0 := bI_ne c8
    refine V.sipush (v := nI 300) X dX5_codeOfWord_11 (by decide) ?_
    exact V.iret X Y9 dX5_codeOfWord_14 ⟨by simp [cdW, *], rfl⟩ (Nat.le_of_ble_eq_true rfl) (Nat.le_of_ble_eq_true rfl)
set_option maxHeartbeats 4000000 in
set_option maxRecDepth 100000 in
theorem c_X5_codeOf (l : Launch) (G : GG) {h : Hp} {sb d : Nat} {t : List Nat} (hL : t.length ≤ 200) (hS : SbAt h sb d t) {s e : Nat} (hse : s < e) (he : e ≤ t.length) : Con l G yX5_codeOf wsX5_codeOf 6 134 0 0 [.ref sb, .int (nI s), .int (nI e)] h (pI (fun r h2 => r = nI (cdO t s e) ∧ h2 = h)) := by
  refine Con.of (cc := cX5_codeOf) (nL := 3) (ret := (some .int)) (by decide) rfl rfl rfl rfl (fun Γ hG hl X Y9 => ?_)
  subst hG
  subst hl
  have hb := hS.lt
  have kl := kd_lt (ch t s)
  refine V.aload_n X dX5_codeOf_0 rfl ?_
  refine V.iload_n X dX5_codeOf_1 rfl ?_
  refine V.callV (n := 1) X dX5_codeOf_2 gX5_codeOf_J4_charAt_5068e (c_J4_charAt_5068e _ _ hS (i := s) (by omega)) rfl (by decide +kernel) rfl rfl rfl hS.ob rfl rfl ⟨Nat.le_of_ble_eq_true rfl, Nat.le_of_ble_eq_true rfl⟩ (fun v2 h2 hp2 => ?_)
  obtain ⟨rfl, e9⟩ := hp2; obtain rfl := e9.symm
  rw [show t.getD (s) 0 = ch t (s) from rfl]
  refine V.callSi (n := 1) X dX5_codeOf_5 gX5_codeOf_X5_kindOf (c_X5_kindOf _ _ (hb s (by omega))) rfl (by decide +kernel) rfl rfl rfl ⟨Nat.le_of_ble_eq_true rfl, Nat.le_of_ble_eq_true rfl⟩ (fun r5 h5 hp5 => ?_)
  obtain ⟨rfl, e9⟩ := hp5; obtain rfl := e9.symm
  have e5 : kd (t.getD s 0) = kd (ch t s) := rfl
  rw [e5]
  refine V.iconst (v := nI 2) X dX5_codeOf_8 (by decide) ?_
  refine V.icmp_ne 29 X dX5_codeOf_9 (by decide) (fun c9 => ?_) (fun c9 => ?_)
  · rw [nI_eq (by omega) (by omega)] at c9
    refine V.iload_n X dX5_codeOf_29 rfl ?_
    refine V.iload_n X dX5_codeOf_30 rfl ?_
    refine V.isub X dX5_codeOf_31 ?_
    rw [nI_sub9 (show s ≤ e by omega)]
    refine V.iconst (v := nI 1) X dX5_codeOf_32 (by decide) ?_
    refine V.icmp_ne 42 X dX5_codeOf_33 (by decide) (fun c33 => ?_) (fun c33 => ?_)
    · rw [nI_eq (by omega) (by omega)] at c33
      refine V.aload_n X dX5_codeOf_42 rfl ?_
      refine V.iload_n X dX5_codeOf_43 rfl ?_
      refine V.iload_n X dX5_codeOf_44 rfl ?_
      refine V.callSi (n := 3) X dX5_codeOf_45 gX5_codeOf_X5_codeOfWord (c_X5_codeOfWord _ _ hL hS (by omega) he) rfl (by decide +kernel) rfl rfl rfl ⟨Nat.le_of_ble_eq_true rfl, Nat.le_of_ble_eq_true rfl⟩ (fun r45 h45 hp45 => ?_)
      obtain ⟨rfl, e9⟩ := hp45; obtain rfl := e9.symm
      exact V.iret X Y9 dX5_codeOf_48 ⟨by unfold cdO; rw [if_neg c9, if_neg c33], rfl⟩ (Nat.le_of_ble_eq_true rfl) (Nat.le_of_ble_eq_true rfl)
    · rw [nI_eq (by omega) (by omega)] at c33
      refine V.aload_n X dX5_codeOf_36 rfl ?_
      refine V.iload_n X dX5_codeOf_37 rfl ?_
      refine V.callV (n := 1) X dX5_codeOf_38 gX5_codeOf_J4_charAt_5068e (c_J4_charAt_5068e _ _ hS (i := s) (by omega)) rfl (by decide +kernel) rfl rfl rfl hS.ob rfl rfl ⟨Nat.le_of_ble_eq_true rfl, Nat.le_of_ble_eq_true rfl⟩ (fun v38 h38 hp38 => ?_)
      obtain ⟨rfl, e9⟩ := hp38; obtain rfl := e9.symm
      rw [show t.getD (s) 0 = ch t (s) from rfl]
      exact V.iret X Y9 dX5_codeOf_41 ⟨by unfold cdO; rw [if_neg c9, if_pos c33], rfl⟩ (Nat.le_of_ble_eq_true rfl) (Nat.le_of_ble_eq_true rfl)
  · rw [nI_eq (by omega) (by omega)] at c9
    refine V.iload_n X dX5_codeOf_12 rfl ?_
    refine V.iload_n X dX5_codeOf_13 rfl ?_
    refine V.isub X dX5_codeOf_14 ?_
    rw [nI_sub9 (show s ≤ e by omega)]
    refine V.iconst (v := nI 2) X dX5_codeOf_15 (by decide) ?_
    refine V.icmp_gt 25 X dX5_codeOf_16 (by decide) (fun c16 => ?_) (fun c16 => ?_)
    · rw [nI_ltI (by omega) (by omega)] at c16
      have e0 : cdO t s e = 308 := by unfold cdO; rw [if_pos c9, if_neg (by omega)]
      refine V.sipush (v := nI 308) X dX5_codeOf_25 (by decide) ?_
      exact V.iret X Y9 dX5_codeOf_28 ⟨by rw [e0], rfl⟩ (Nat.le_of_ble_eq_true rfl) (Nat.le_of_ble_eq_true rfl)
    · rw [nI_ltI (by omega) (by omega)] at c16
      have e0 : cdO t s e = 307 := by unfold cdO; rw [if_pos c9, if_pos (by omega)]
      refine V.sipush (v := nI 307) X dX5_codeOf_19 (by decide) ?_
      refine V.goto 28 X dX5_codeOf_22 (by decide) ?_
      exact V.iret X Y9 dX5_codeOf_28 ⟨by rw [e0], rfl⟩ (Nat.le_of_ble_eq_true rfl) (Nat.le_of_ble_eq_true rfl)
set_option maxHeartbeats 4000000 in
set_option maxRecDepth 100000 in
theorem c_X5_numberOf (l : Launch) (G : GG) {h : Hp} {sb d : Nat} {t : List Nat} (hL : t.length ≤ 200) (hS : SbAt h sb d t) {s e : Nat} (hse : s ≤ e) (he : e ≤ t.length) (hd : ∀ j, j < e - s → 48 ≤ ch t (s + j)) (hbd : ∀ j, j ≤ e - s → nmO t s j ≤ 99) : Con l G yX5_numberOf wsX5_numberOf 4 88 0 0 [.ref sb, .int (nI s), .int (nI e)] h (pI (fun r h2 => r = nI (nmO t s (e - s)) ∧ h2 = h)) := by
  refine Con.of (cc := cX5_numberOf) (nL := 5) (ret := (some .int)) (by decide) rfl rfl rfl rfl (fun Γ hG hl X Y9 => ?_)
  subst hG
  subst hl
  have hb := hS.lt
  have loop : ∀ (n j : Nat), s + j ≤ e → e - (s + j) < n → V Γ 0 0 5 [(0, .ref sb), (1, .int (nI s)), (2, .int (nI e)), (3, .int (nI (nmO t s j))), (4, .int (nI (s + j)))] [] h := by
    intro n
    induction n with
    | zero => intro j g1 g2; omega
    | succ n ih =>
      intro j g1 g2
      refine V.iload X dX5_numberOf_5 rfl ?_
      refine V.iload_n X dX5_numberOf_7 rfl ?_
      refine V.icmp_ge 32 X dX5_numberOf_8 (by decide) (fun c8 => ?_) (fun c8 => ?_)
      · rw [nI_leI (by omega) (by omega)] at c8
        have ej : j = e - s := by omega
        refine V.iload_n X dX5_numberOf_32 rfl ?_
        exact V.iret X Y9 dX5_numberOf_33 ⟨by rw [ej], rfl⟩ (Nat.le_of_ble_eq_true rfl) (Nat.le_of_ble_eq_true rfl)
      · rw [nI_leI (by omega) (by omega)] at c8
        have hj : j < e - s := by omega
        have h48 := hd j hj
        have b1 : ch t (s + j) < 256 := hb (s + j) (by omega)
        have b2 := hbd j (by omega)
        refine V.bipush (v := nI 10) X dX5_numberOf_11 (by decide) ?_
        refine V.iload_n X dX5_numberOf_13 rfl ?_
        refine V.imul X dX5_numberOf_14 ?_
        rw [nI_mul]
        refine V.aload_n X dX5_numberOf_15 rfl ?_
        refine V.iload X dX5_numberOf_16 rfl ?_
        refine V.callV (n := 1) X dX5_numberOf_18 gX5_numberOf_J4_charAt_5068e (c_J4_charAt_5068e _ _ hS (i := s + j) (by omega)) rfl (by decide +kernel) rfl rfl rfl hS.ob rfl rfl ⟨Nat.le_of_ble_eq_true rfl, Nat.le_of_ble_eq_true rfl⟩ (fun v18 h18 hp18 => ?_)
        obtain ⟨rfl, e9⟩ := hp18; obtain rfl := e9.symm
        rw [show t.getD (s + j) 0 = ch t (s + j) from rfl]
        refine V.iadd X dX5_numberOf_21 ?_
        rw [nI_add]
        refine V.bipush (v := nI 48) X dX5_numberOf_22 (by decide) ?_
        refine V.isub X dX5_numberOf_24 ?_
        rw [nI_sub9 (show 48 ≤ 10 * nmO t s j + ch t (s + j) by omega), show 10 * nmO t s j + ch t (s + j) - 48 = nmO t s (j + 1) from rfl]
        refine V.istore_n X dX5_numberOf_25 [(0, _), (1, _), (2, _), (3, _), (4, _)] rfl rfl rfl ?_
        refine V.iinc (v := nI (s + (j + 1))) X dX5_numberOf_26 [(0, _), (1, _), (2, _), (3, _), (4, _)] rfl (nI_1 (s + j)) rfl rfl rfl ?_
        refine V.goto 5 X dX5_numberOf_29 (by decide) ?_
        exact ih (j + 1) (by omega) (by omega)
  refine V.iconst (v := nI 0) X dX5_numberOf_0 (by decide) ?_
  refine V.istore_n X dX5_numberOf_1 [(0, _), (1, _), (2, _), (3, _)] rfl rfl rfl ?_
  refine V.iload_n X dX5_numberOf_2 rfl ?_
  refine V.istore X dX5_numberOf_3 [(0, _), (1, _), (2, _), (3, _), (4, _)] rfl rfl rfl ?_
  exact loop (e - s + 1) 0 hse (by omega)
