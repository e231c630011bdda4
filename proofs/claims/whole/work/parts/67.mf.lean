theorem fX12_takeAssignment_13 : FL wsX12_takeAssignment RX12 13 14 1 (.array .int) true := ⟨_, rfl, by decide, Or.inl ⟨"ContractTesterModel", by decide +kernel, Or.inl rfl⟩, by decide +kernel, by decide +kernel, rfl⟩
theorem fX12_takeAssignment_72 : FL wsX12_takeAssignment RX12 72 14 10 .boolean false := ⟨_, rfl, by decide, Or.inl ⟨"ContractTesterModel", by decide +kernel, Or.inl rfl⟩, by decide +kernel, by decide +kernel, rfl⟩
set_option maxHeartbeats 4000000 in
set_option maxRecDepth 100000 in
theorem c_X12_takeAssignment (l : Launch) (G : GG) {h : Hp} {M : Nat} {m : Md} (K : MdK h M) {t : List Nat} {w : Bool} {r : List Tok} (hP : PS m t w r) {p : Nat} (hp : p + 4 ≤ 272) : Con l G yX12_takeAssignment wsX12_takeAssignment 5 106 0 0 [.ref M, .int (nI p)] (Hm h M m) (pV (fun h2 => ∃ m2, h2 = Hm h M m2 ∧ MFr (dP p (p + 4)) m m2 ∧ PS m2 t (w || (pAsg r).1.isNone) (if w = true then r else (pAsg r).2) ∧ (w = false → ∀ c, (pAsg r).1 = some c → AsR (m2 2) p c ∧ asOk c))) := by
  refine Con.of (cc := cX12_takeAssignment) (nL := 2) (ret := none) (by decide) rfl rfl rfl rfl (fun Γ hG hl X Y9 => ?_)
  subst hG
  subst hl
  have st33 : ∀ (m1 : Md) (r1 : List Tok), MFr (dP p (p + 4)) m m1 → PS m1 t true r1 → (w || (pAsg r).1.isNone) = true → (if w = true then r else (pAsg r).2) = r1 → V Γ 0 0 33 [(0, .ref M), (1, .int (nI p))] [] (Hm h M m1) := by
    intro m1 r1 F1 P1 hW hR
    obtain ⟨q9, e9v, so9, hV⟩ := P1.2.1.v
    have F8 := fun x => F1.put (a := 2) (k := p + 2) (x := x) (Or.inr ⟨rfl, by omega, by omega⟩)
    have P8 := fun x => P1.dr (p + 2) x
    refine V.aload_n X dX12_takeAssignment_33 rfl ?_
    refine V.mgr (k := 1) (a := 2) X K fX12_takeAssignment_13 dX12_takeAssignment_34 (by decide) ?_
    refine V.iload_n X dX12_takeAssignment_37 rfl ?_
    refine V.iconst (v := nI 2) X dX12_takeAssignment_38 (by decide) ?_
    refine V.iaddN X dX12_takeAssignment_39 ?_
    refine V.aload_n X dX12_takeAssignment_40 rfl ?_
    refine V.bipush (v := nI 43) X dX12_takeAssignment_41 (by decide) ?_
    refine V.callVi (n := 1) X dX12_takeAssignment_43 gX12_takeAssignment_X12_isSign (c_X12_isSign _ _ K P1.1 hV (c := 43) (by decide) (by decide) (by decide)) rfl (by decide +kernel) rfl rfl rfl K.1 rfl rfl ⟨Nat.le_of_ble_eq_true rfl, Nat.le_of_ble_eq_true rfl⟩ (fun r43 h43 hp43 => ?_)
    obtain ⟨rfl, e9⟩ := hp43; obtain rfl := e9.symm
    refine V.if_eq 53 X dX12_takeAssignment_46 (by decide) (fun c46 => ?_) (fun c46 => ?_)
    · have c46 := bI_eq c46
      refine V.aload_n X dX12_takeAssignment_53 rfl ?_
      refine V.bipush (v := nI 45) X dX12_takeAssignment_54 (by decide) ?_
      refine V.callVi (n := 1) X dX12_takeAssignment_56 gX12_takeAssignment_X12_isSign (c_X12_isSign _ _ K P1.1 hV (c := 45) (by decide) (by decide) (by decide)) rfl (by decide +kernel) rfl rfl rfl K.1 rfl rfl ⟨Nat.le_of_ble_eq_true rfl, Nat.le_of_ble_eq_true rfl⟩ (fun r56 h56 hp56 => ?_)
      obtain ⟨rfl, e9⟩ := hp56; obtain rfl := e9.symm
      refine V.if_eq 66 X dX12_takeAssignment_59 (by decide) (fun c59 => ?_) (fun c59 => ?_)
      · have c59 := bI_eq c59
        refine V.iconst (v := nI 0) X dX12_takeAssignment_66 (by decide) ?_
        refine V.mst X K 2 272  dX12_takeAssignment_67 rfl rfl (by omega) ?_
        refine V.aload_n X dX12_takeAssignment_68 rfl ?_
        refine V.mgr (k := 1) (a := 2) X K fX12_takeAssignment_13 dX12_takeAssignment_69 (by decide) ?_
        refine V.iload_n X dX12_takeAssignment_72 rfl ?_
        refine V.iconst (v := nI 3) X dX12_takeAssignment_73 (by decide) ?_
        refine V.iaddN X dX12_takeAssignment_74 ?_
        refine V.iconst (v := nI 0) X dX12_takeAssignment_75 (by decide) ?_
        refine V.mst X K 2 272  dX12_takeAssignment_76 rfl rfl (by omega) ?_
        refine V.aload_n X dX12_takeAssignment_77 rfl ?_
        refine V.mgf  X K fX12_takeAssignment_72 dX12_takeAssignment_78 rfl ((P8 _).dr (p + 3) (nI 0)).2.2 ?_
        refine V.if_ne 113 X dX12_takeAssignment_81 (by decide) (fun c81 => ?_) (fun c81 => False.elim (by revert c81; decide))
        exact V.vret X Y9 dX12_takeAssignment_113 ⟨rfl, _, rfl, (F8 _).put (k := p + 3) (Or.inr ⟨rfl, by omega, by omega⟩), ((P8 _).dr (p + 3) (nI 0)).c hW.symm hR.symm, fun hw c hc => by rw [hw, hc] at hW; cases hW⟩ (Nat.le_of_ble_eq_true rfl) (Nat.le_of_ble_eq_true rfl)
      · have c59 := bI_ne c59
        refine V.iconst (v := -1) X dX12_takeAssignment_62 (by decide) ?_
        refine V.goto 67 X dX12_takeAssignment_63 (by decide) ?_
        refine V.mst X K 2 272  dX12_takeAssignment_67 rfl rfl (by omega) ?_
        refine V.aload_n X dX12_takeAssignment_68 rfl ?_
        refine V.mgr (k := 1) (a := 2) X K fX12_takeAssignment_13 dX12_takeAssignment_69 (by decide) ?_
        refine V.iload_n X dX12_takeAssignment_72 rfl ?_
        refine V.iconst (v := nI 3) X dX12_takeAssignment_73 (by decide) ?_
        refine V.iaddN X dX12_takeAssignment_74 ?_
        refine V.iconst (v := nI 0) X dX12_takeAssignment_75 (by decide) ?_
        refine V.mst X K 2 272  dX12_takeAssignment_76 rfl rfl (by omega) ?_
        refine V.aload_n X dX12_takeAssignment_77 rfl ?_
        refine V.mgf  X K fX12_takeAssignment_72 dX12_takeAssignment_78 rfl ((P8 _).dr (p + 3) (nI 0)).2.2 ?_
        refine V.if_ne 113 X dX12_takeAssignment_81 (by decide) (fun c81 => ?_) (fun c81 => False.elim (by revert c81; decide))
        exact V.vret X Y9 dX12_takeAssignment_113 ⟨rfl, _, rfl, (F8 _).put (k := p + 3) (Or.inr ⟨rfl, by omega, by omega⟩), ((P8 _).dr (p + 3) (nI 0)).c hW.symm hR.symm, fun hw c hc => by rw [hw, hc] at hW; cases hW⟩ (Nat.le_of_ble_eq_true rfl) (Nat.le_of_ble_eq_true rfl)
    · have c46 := bI_ne c46
      refine V.iconst (v := nI 1) X dX12_takeAssignment_49 (by decide) ?_
      refine V.goto 67 X dX12_takeAssignment_50 (by decide) ?_
      refine V.mst X K 2 272  dX12_takeAssignment_67 rfl rfl (by omega) ?_
      refine V.aload_n X dX12_takeAssignment_68 rfl ?_
      refine V.mgr (k := 1) (a := 2) X K fX12_takeAssignment_13 dX12_takeAssignment_69 (by decide) ?_
      refine V.iload_n X dX12_takeAssignment_72 rfl ?_
      refine V.iconst (v := nI 3) X dX12_takeAssignment_73 (by decide) ?_
      refine V.iaddN X dX12_takeAssignment_74 ?_
      refine V.iconst (v := nI 0) X dX12_takeAssignment_75 (by decide) ?_
      refine V.mst X K 2 272  dX12_takeAssignment_76 rfl rfl (by omega) ?_
      refine V.aload_n X dX12_takeAssignment_77 rfl ?_
      refine V.mgf  X K fX12_takeAssignment_72 dX12_takeAssignment_78 rfl ((P8 _).dr (p + 3) (nI 0)).2.2 ?_
      refine V.if_ne 113 X dX12_takeAssignment_81 (by decide) (fun c81 => ?_) (fun c81 => False.elim (by revert c81; decide))
      exact V.vret X Y9 dX12_takeAssignment_113 ⟨rfl, _, rfl, (F8 _).put (k := p + 3) (Or.inr ⟨rfl, by omega, by omega⟩), ((P8 _).dr (p + 3) (nI 0)).c hW.symm hR.symm, fun hw c hc => by rw [hw, hc] at hW; cases hW⟩ (Nat.le_of_ble_eq_true rfl) (Nat.le_of_ble_eq_true rfl)
  have st32 : ∀ (m1 : Md) (r1 : List Tok) (x : Int32), MFr (dP p (p + 4)) m m1 → PS m1 t true r1 → (w || (pAsg r).1.isNone) = true → (if w = true then r else (pAsg r).2) = r1 → V Γ 0 0 32 [(0, .ref M), (1, .int (nI p))] [.int x, .int (nI (p + 1)), .ref (M + 2)] (Hm h M m1) := by
    intro m1 r1 x F1 P1 hW hR
    refine V.mst X K 2 272  dX12_takeAssignment_32 rfl rfl (by omega) ?_
    exact st33 _ r1 (F1.put (a := 2) (k := p + 1) (x := x) (Or.inr ⟨rfl, by omega, by omega⟩)) (P1.dr (p + 1) x) hW hR
  have st20 : ∀ (m1 : Md) (r1 : List Tok), MFr (dP p (p + 4)) m m1 → PS m1 t true r1 → (w || (pAsg r).1.isNone) = true → (if w = true then r else (pAsg r).2) = r1 → V Γ 0 0 20 [(0, .ref M), (1, .int (nI p))] [] (Hm h M m1) := by
    intro m1 r1 F1 P1 hW hR
    refine V.aload_n X dX12_takeAssignment_20 rfl ?_
    refine V.mgr (k := 1) (a := 2) X K fX12_takeAssignment_13 dX12_takeAssignment_21 (by decide) ?_
    refine V.iload_n X dX12_takeAssignment_24 rfl ?_
    refine V.iconst (v := nI 1) X dX12_takeAssignment_25 (by decide) ?_
    refine V.iaddN X dX12_takeAssignment_26 ?_
    refine V.aload_n X dX12_takeAssignment_27 rfl ?_
    refine V.iconst (v := (bI false)) X dX12_takeAssignment_28 (by decide) ?_
    refine V.callVi (n := 1) X dX12_takeAssignment_29 gX12_takeAssignment_X12_takeOperand (c_X12_takeOperand _ _ K P1) rfl (by decide +kernel) rfl rfl rfl K.1 rfl rfl ⟨Nat.le_of_ble_eq_true rfl, Nat.le_of_ble_eq_true rfl⟩ (fun r29 h29 hp29 => ?_)
    obtain ⟨m2, rfl, F2, P2, -⟩ := hp29
    exact st32 m2 r1 _ (F1.tr (F2.mono (fun _ _ z => Or.inl z))) P2 hW hR
  have st9 : ∀ (m1 : Md) (r1 : List Tok) (x : Int32), MFr (dP p (p + 4)) m m1 → PS m1 t true r1 → (w || (pAsg r).1.isNone) = true → (if w = true then r else (pAsg r).2) = r1 → V Γ 0 0 9 [(0, .ref M), (1, .int (nI p))] [.int x, .int (nI p), .ref (M + 2)] (Hm h M m1) := by
    intro m1 r1 x F1 P1 hW hR
    refine V.mst X K 2 272  dX12_takeAssignment_9 rfl rfl (by omega) ?_
    have F9 := F1.put (a := 2) (k := p) (x := x) (Or.inr ⟨rfl, by omega, by omega⟩)
    have P9 := P1.dr p x
    obtain ⟨q9, e9v, so9, hV⟩ := P9.2.1.v
    refine V.aload_n X dX12_takeAssignment_10 rfl ?_
    refine V.aload_n X dX12_takeAssignment_11 rfl ?_
    refine V.bipush (v := nI 61) X dX12_takeAssignment_12 (by decide) ?_
    refine V.callVi (n := 1) X dX12_takeAssignment_14 gX12_takeAssignment_X12_isSign (c_X12_isSign _ _ K P9.1 hV (c := 61) (by decide) (by decide) (by decide)) rfl (by decide +kernel) rfl rfl rfl K.1 rfl rfl ⟨Nat.le_of_ble_eq_true rfl, Nat.le_of_ble_eq_true rfl⟩ (fun r14 h14 hp14 => ?_)
    obtain ⟨rfl, e9⟩ := hp14; obtain rfl := e9.symm
    refine V.callVv (n := 1) X dX12_takeAssignment_17 gX12_takeAssignment_X12_take (c_X12_take _ _ K P9 (may := decide (hdC r1 = 61)) (fun z => by cases z)) rfl (by decide +kernel) rfl rfl rfl K.1 rfl rfl ⟨Nat.le_of_ble_eq_true rfl, Nat.le_of_ble_eq_true rfl⟩ (fun h17 hp17 => ?_)
    obtain ⟨m2, rfl, F2, P2⟩ := hp17
    exact st20 m2 r1 (F9.tr (F2.mono (fun _ _ z => Or.inl z))) P2 hW hR
  refine V.aload_n X dX12_takeAssignment_0 rfl ?_
  refine V.mgr (k := 1) (a := 2) X K fX12_takeAssignment_13 dX12_takeAssignment_1 (by decide) ?_
  refine V.iload_n X dX12_takeAssignment_4 rfl ?_
  refine V.aload_n X dX12_takeAssignment_5 rfl ?_
  refine V.callVi (n := 0) X dX12_takeAssignment_6 gX12_takeAssignment_X12_takeField (c_X12_takeField _ _ K hP) rfl (by decide +kernel) rfl rfl rfl K.1 rfl rfl ⟨Nat.le_of_ble_eq_true rfl, Nat.le_of_ble_eq_true rfl⟩ (fun r6 h6 hp6 => ?_)
  obtain ⟨m2, rfl, G2, P2, X2⟩ := hp6
  have F2 : MFr (dP p (p + 4)) m m2 := G2.mono (fun _ _ z => Or.inl z)
  cases w with
  | true => exact st9 m2 r _ F2 P2 rfl rfl
  | false =>
    by_cases hf : fd r = true
    · rw [hf] at P2
      have P2 : PS m2 t false r.tail := P2
      have hf9 := pFld_t hf
      have hf2 := of_decide_eq_true hf
      refine V.mst X K 2 272  dX12_takeAssignment_9 rfl rfl (by omega) ?_
      have F3 : MFr (dP p (p + 4)) m (mput m2 2 p r6) := F2.put (Or.inr ⟨rfl, by omega, by omega⟩)
      have P3 := P2.dr p r6
      have v3 := mput_at (m := m2) (a := 2) (k := p) (x := r6)
      generalize mput m2 2 p r6 = m3 at F3 P3 v3 ⊢
      obtain ⟨q, e, so, hV⟩ := P3.2.1.v
      refine V.aload_n X dX12_takeAssignment_10 rfl ?_
      refine V.aload_n X dX12_takeAssignment_11 rfl ?_
      refine V.bipush (v := nI 61) X dX12_takeAssignment_12 (by decide) ?_
      refine V.callVi (n := 1) X dX12_takeAssignment_14 gX12_takeAssignment_X12_isSign (c_X12_isSign _ _ K P3.1 hV (c := 61) (by decide) (by decide) (by decide)) rfl (by decide +kernel) rfl rfl rfl K.1 rfl rfl ⟨Nat.le_of_ble_eq_true rfl, Nat.le_of_ble_eq_true rfl⟩ (fun r14 h14 hp14 => ?_)
      obtain ⟨rfl, e9⟩ := hp14; obtain rfl := e9.symm
      refine V.callVv (n := 1) X dX12_takeAssignment_17 gX12_takeAssignment_X12_take (c_X12_take _ _ K P3 (may := decide (hdC r.tail = 61)) (fun _ z => hdC_ne (by decide) (of_decide_eq_true z))) rfl (by decide +kernel) rfl rfl rfl K.1 rfl rfl ⟨Nat.le_of_ble_eq_true rfl, Nat.le_of_ble_eq_true rfl⟩ (fun h17 hp17 => ?_)
      obtain ⟨m4, rfl, G4, P4⟩ := hp17
      have F4 := F3.tr (G4.mono (fun _ _ z => Or.inl z))
      have v4 := (G4 2 _ psP_2).trans v3
      by_cases h61 : hdC r.tail = 61
      · rw [decide_eq_true h61] at P4
        have P4 : PS m4 t false r.tail.tail := P4
        have a61 : acc 61 r.tail = some r.tail.tail := by rw [acc_h (by decide), if_pos h61]
        refine V.aload_n X dX12_takeAssignment_20 rfl ?_
        refine V.mgr (k := 1) (a := 2) X K fX12_takeAssignment_13 dX12_takeAssignment_21 (by decide) ?_
        refine V.iload_n X dX12_takeAssignment_24 rfl ?_
        refine V.iconst (v := nI 1) X dX12_takeAssignment_25 (by decide) ?_
        refine V.iaddN X dX12_takeAssignment_26 ?_
        refine V.aload_n X dX12_takeAssignment_27 rfl ?_
        refine V.iconst (v := (bI false)) X dX12_takeAssignment_28 (by decide) ?_
        refine V.callVi (n := 1) X dX12_takeAssignment_29 gX12_takeAssignment_X12_takeOperand (c_X12_takeOperand _ _ K P4) rfl (by decide +kernel) rfl rfl rfl K.1 rfl rfl ⟨Nat.le_of_ble_eq_true rfl, Nat.le_of_ble_eq_true rfl⟩ (fun r29 h29 hp29 => ?_)
        obtain ⟨m6, rfl, G6, P6, X6⟩ := hp29
        have F6 : MFr (dP p (p + 4)) m m6 := F4.tr (G6.mono (fun _ _ z => Or.inl z))
        have v6 := (G6 2 _ psP_2).trans v4
        rcases ho : pOpd false r.tail.tail with ⟨_ | o, r3⟩
        · rw [ho] at P6
          exact st32 m6 r3 _ F6 P6 (by rw [pAsg_x3 hf9 a61 ho]; rfl) (by rw [pAsg_x3 hf9 a61 ho]; rfl)
        · rw [ho] at P6 X6
          obtain ⟨x1, x2⟩ := X6 rfl o rfl
          have P6 : PS m6 t false r3 := P6
          refine V.mst X K 2 272  dX12_takeAssignment_32 rfl rfl (by omega) ?_
          have F7 : MFr (dP p (p + 4)) m (mput m6 2 (p + 1) r29) := F6.put (Or.inr ⟨rfl, by omega, by omega⟩)
          have P7 := P6.dr (p + 1) r29
          have v7 := (mput_k (m := m6) (a := 2) (k := p + 1) (x := r29) (by omega)).trans v6
          have u7 := mput_at (m := m6) (a := 2) (k := p + 1) (x := r29)
          generalize mput m6 2 (p + 1) r29 = m7 at F7 P7 v7 u7 ⊢
          obtain ⟨q7, e7, so7, hV⟩ := P7.2.1.v
          rcases (show hdC r3 = 43 ∨ hdC r3 = 45 ∨ (¬ hdC r3 = 43 ∧ ¬ hdC r3 = 45) by omega) with z | z | z
          · have D43 : decide (hdC r3 = 43) = true := decide_eq_true (by omega)
            have D45 : decide (hdC r3 = 45) = false := decide_eq_false (by omega)
            have ne9 : ¬ (nI 1 : Int32) = 0 := by decide
            have hs : pSgn r3 = (nI 1, r3.tail) := by rw [pSgn_h, if_pos z]
            refine V.aload_n X dX12_takeAssignment_33 rfl ?_
            refine V.mgr (k := 1) (a := 2) X K fX12_takeAssignment_13 dX12_takeAssignment_34 (by decide) ?_
            refine V.iload_n X dX12_takeAssignment_37 rfl ?_
            refine V.iconst (v := nI 2) X dX12_takeAssignment_38 (by decide) ?_
            refine V.iaddN X dX12_takeAssignment_39 ?_
            refine V.aload_n X dX12_takeAssignment_40 rfl ?_
            refine V.bipush (v := nI 43) X dX12_takeAssignment_41 (by decide) ?_
            refine V.callVi (n := 1) X dX12_takeAssignment_43 gX12_takeAssignment_X12_isSign (c_X12_isSign _ _ K P7.1 hV (c := 43) (by decide) (by decide) (by decide)) rfl (by decide +kernel) rfl rfl rfl K.1 rfl rfl ⟨Nat.le_of_ble_eq_true rfl, Nat.le_of_ble_eq_true rfl⟩ (fun r43 h43 hp43 => ?_)
            obtain ⟨rfl, e9⟩ := hp43; obtain rfl := e9.symm
            rw [D43]
            refine V.if_eq 53 X dX12_takeAssignment_46 (by decide) (fun c46 => False.elim (by revert c46; decide)) (fun c46 => ?_)
            refine V.iconst (v := nI 1) X dX12_takeAssignment_49 (by decide) ?_
            refine V.goto 67 X dX12_takeAssignment_50 (by decide) ?_
            refine V.mst X K 2 272  dX12_takeAssignment_67 rfl rfl (by omega) ?_
            have F8 : MFr (dP p (p + 4)) m (mput m7 2 (p + 2) (nI 1)) := F7.put (Or.inr ⟨rfl, by omega, by omega⟩)
            have P8 := P7.dr (p + 2) (nI 1)
            have v8 := (mput_k (m := m7) (a := 2) (k := p + 2) (x := (nI 1)) (by omega)).trans v7
            have u8 := (mput_k (m := m7) (a := 2) (k := p + 2) (x := (nI 1)) (by omega)).trans u7
            have w8 := mput_at (m := m7) (a := 2) (k := p + 2) (x := (nI 1))
            generalize mput m7 2 (p + 2) (nI 1) = m8 at F8 P8 v8 u8 w8 ⊢
            refine V.aload_n X dX12_takeAssignment_68 rfl ?_
            refine V.mgr (k := 1) (a := 2) X K fX12_takeAssignment_13 dX12_takeAssignment_69 (by decide) ?_
            refine V.iload_n X dX12_takeAssignment_72 rfl ?_
            refine V.iconst (v := nI 3) X dX12_takeAssignment_73 (by decide) ?_
            refine V.iaddN X dX12_takeAssignment_74 ?_
            refine V.iconst (v := nI 0) X dX12_takeAssignment_75 (by decide) ?_
            refine V.mst X K 2 272  dX12_takeAssignment_76 rfl rfl (by omega) ?_
            have F9 : MFr (dP p (p + 4)) m (mput m8 2 (p + 3) (nI 0)) := F8.put (Or.inr ⟨rfl, by omega, by omega⟩)
            have P9 := P8.dr (p + 3) (nI 0)
            have v9 := (mput_k (m := m8) (a := 2) (k := p + 3) (x := (nI 0)) (by omega)).trans v8
            have u9 := (mput_k (m := m8) (a := 2) (k := p + 3) (x := (nI 0)) (by omega)).trans u8
            have w9 := (mput_k (m := m8) (a := 2) (k := p + 3) (x := (nI 0)) (by omega)).trans w8
            generalize mput m8 2 (p + 3) (nI 0) = m9 at F9 P9 v9 u9 w9 ⊢
            refine V.aload_n X dX12_takeAssignment_77 rfl ?_
            refine V.mgf  X K fX12_takeAssignment_72 dX12_takeAssignment_78 rfl P9.2.2 ?_
            refine V.if_ne 113 X dX12_takeAssignment_81 (by decide) (fun c81 => False.elim (by revert c81; decide)) (fun c81 => ?_)
            refine V.aload_n X dX12_takeAssignment_84 rfl ?_
            refine V.mgr (k := 1) (a := 2) X K fX12_takeAssignment_13 dX12_takeAssignment_85 (by decide) ?_
            refine V.iload_n X dX12_takeAssignment_88 rfl ?_
            refine V.iconst (v := nI 2) X dX12_takeAssignment_89 (by decide) ?_
            refine V.iaddN X dX12_takeAssignment_90 ?_
            refine V.mld  X K 2 272  dX12_takeAssignment_91 rfl rfl (by omega) w9 ?_
            refine V.if_eq 113 X dX12_takeAssignment_92 (by decide) (fun c92 => False.elim (by revert c92; decide)) (fun c92 => ?_)
            refine V.aload_n X dX12_takeAssignment_95 rfl ?_
            refine V.iconst (v := (bI true)) X dX12_takeAssignment_96 (by decide) ?_
            refine V.callVv (n := 1) X dX12_takeAssignment_97 gX12_takeAssignment_X12_take (c_X12_take _ _ K P9 (may := true) (fun _ _ => hdC_ne (by decide) z)) rfl (by decide +kernel) rfl rfl rfl K.1 rfl rfl ⟨Nat.le_of_ble_eq_true rfl, Nat.le_of_ble_eq_true rfl⟩ (fun h97 hp97 => ?_)
            obtain ⟨m10, rfl, G10, P10⟩ := hp97
            have P10 : PS m10 t false r3.tail := P10
            have F10 := F9.tr (G10.mono (fun _ _ z => Or.inl z))
            have v10 := (G10 2 _ psP_2).trans v9
            have u10 := (G10 2 _ psP_2).trans u9
            have w10 := (G10 2 _ psP_2).trans w9
            refine V.aload_n X dX12_takeAssignment_100 rfl ?_
            refine V.mgr (k := 1) (a := 2) X K fX12_takeAssignment_13 dX12_takeAssignment_101 (by decide) ?_
            refine V.iload_n X dX12_takeAssignment_104 rfl ?_
            refine V.iconst (v := nI 3) X dX12_takeAssignment_105 (by decide) ?_
            refine V.iaddN X dX12_takeAssignment_106 ?_
            refine V.aload_n X dX12_takeAssignment_107 rfl ?_
            refine V.iconst (v := (bI false)) X dX12_takeAssignment_108 (by decide) ?_
            refine V.callVi (n := 1) X dX12_takeAssignment_109 gX12_takeAssignment_X12_takeOperand (c_X12_takeOperand _ _ K P10) rfl (by decide +kernel) rfl rfl rfl K.1 rfl rfl ⟨Nat.le_of_ble_eq_true rfl, Nat.le_of_ble_eq_true rfl⟩ (fun r109 h109 hp109 => ?_)
            obtain ⟨m11, rfl, G11, P11, X11⟩ := hp109
            have F11 : MFr (dP p (p + 4)) m m11 := F10.tr (G11.mono (fun _ _ z => Or.inl z))
            have v11 := (G11 2 _ psP_2).trans v10
            have u11 := (G11 2 _ psP_2).trans u10
            have w11 := (G11 2 _ psP_2).trans w10
            rcases ho2 : pOpd false r3.tail with ⟨_ | o2, r5⟩
            · rw [ho2] at P11
              have P11 : PS m11 t true r5 := P11
              have ho3 : pOpd false (pSgn r3).2 = (none, r5) := by rw [hs]; exact ho2
              refine V.mst X K 2 272  dX12_takeAssignment_112 rfl rfl (by omega) ?_
              have F12 : MFr (dP p (p + 4)) m (mput m11 2 (p + 3) r109) := F11.put (Or.inr ⟨rfl, by omega, by omega⟩)
              have P12 := P11.dr (p + 3) r109
              have v12 := (mput_k (m := m11) (a := 2) (k := p + 3) (x := r109) (by omega)).trans v11
              have u12 := (mput_k (m := m11) (a := 2) (k := p + 3) (x := r109) (by omega)).trans u11
              have w12 := (mput_k (m := m11) (a := 2) (k := p + 3) (x := r109) (by omega)).trans w11
              exact V.vret X Y9 dX12_takeAssignment_113 ⟨rfl, _, rfl, F12, by rw [pAsg_x4 hf9 a61 ho (by rw [hs]; exact ne9) ho3]; exact P12, fun _ c hc => by rw [pAsg_x4 hf9 a61 ho (by rw [hs]; exact ne9) ho3] at hc; cases hc⟩ (Nat.le_of_ble_eq_true rfl) (Nat.le_of_ble_eq_true rfl)
            · rw [ho2] at P11 X11
              obtain ⟨y1, y2⟩ := X11 rfl o2 rfl
              have P11 : PS m11 t false r5 := P11
              have ho3 : pOpd false (pSgn r3).2 = (some o2, r5) := by rw [hs]; exact ho2
              refine V.mst X K 2 272  dX12_takeAssignment_112 rfl rfl (by omega) ?_
              have F12 : MFr (dP p (p + 4)) m (mput m11 2 (p + 3) r109) := F11.put (Or.inr ⟨rfl, by omega, by omega⟩)
              have P12 := P11.dr (p + 3) r109
              have v12 := (mput_k (m := m11) (a := 2) (k := p + 3) (x := r109) (by omega)).trans v11
              have u12 := (mput_k (m := m11) (a := 2) (k := p + 3) (x := r109) (by omega)).trans u11
              have w12 := (mput_k (m := m11) (a := 2) (k := p + 3) (x := r109) (by omega)).trans w11
              exact V.vret X Y9 dX12_takeAssignment_113 ⟨rfl, _, rfl, F12, by rw [pAsg_ok2 hf9 a61 ho (by rw [hs]; exact ne9) ho3]; exact P12, fun _ c hc => by
                rw [pAsg_ok2 hf9 a61 ho (by rw [hs]; exact ne9) ho3, hs] at hc
                cases hc
                exact ⟨⟨v12.trans (X2 hf), u12.trans x1, w12, fun _ => mput_at.trans y1⟩, ⟨_, by omega, rfl⟩, x2, Or.inr (Or.inl rfl), fun z => absurd z ne9, y2⟩⟩ (Nat.le_of_ble_eq_true rfl) (Nat.le_of_ble_eq_true rfl)
          · have D43 : decide (hdC r3 = 43) = false := decide_eq_false (by omega)
            have D45 : decide (hdC r3 = 45) = true := decide_eq_true (by omega)
            have ne9 : ¬ (-1 : Int32) = 0 := by decide
            have hs : pSgn r3 = (-1, r3.tail) := by rw [pSgn_h, if_neg (by omega), if_pos z]
            refine V.aload_n X dX12_takeAssignment_33 rfl ?_
            refine V.mgr (k := 1) (a := 2) X K fX12_takeAssignment_13 dX12_takeAssignment_34 (by decide) ?_
            refine V.iload_n X dX12_takeAssignment_37 rfl ?_
            refine V.iconst (v := nI 2) X dX12_takeAssignment_38 (by decide) ?_
            refine V.iaddN X dX12_takeAssignment_39 ?_
            refine V.aload_n X dX12_takeAssignment_40 rfl ?_
            refine V.bipush (v := nI 43) X dX12_takeAssignment_41 (by decide) ?_
            refine V.callVi (n := 1) X dX12_takeAssignment_43 gX12_takeAssignment_X12_isSign (c_X12_isSign _ _ K P7.1 hV (c := 43) (by decide) (by decide) (by decide)) rfl (by decide +kernel) rfl rfl rfl K.1 rfl rfl ⟨Nat.le_of_ble_eq_true rfl, Nat.le_of_ble_eq_true rfl⟩ (fun r43 h43 hp43 => ?_)
            obtain ⟨rfl, e9⟩ := hp43; obtain rfl := e9.symm
            rw [D43]
            refine V.if_eq 53 X dX12_takeAssignment_46 (by decide) (fun c46 => ?_) (fun c46 => False.elim (by revert c46; decide))
            refine V.aload_n X dX12_takeAssignment_53 rfl ?_
            refine V.bipush (v := nI 45) X dX12_takeAssignment_54 (by decide) ?_
            refine V.callVi (n := 1) X dX12_takeAssignment_56 gX12_takeAssignment_X12_isSign (c_X12_isSign _ _ K P7.1 hV (c := 45) (by decide) (by decide) (by decide)) rfl (by decide +kernel) rfl rfl rfl K.1 rfl rfl ⟨Nat.le_of_ble_eq_true rfl, Nat.le_of_ble_eq_true rfl⟩ (fun r56 h56 hp56 => ?_)
            obtain ⟨rfl, e9⟩ := hp56; obtain rfl := e9.symm
            rw [D45]
            refine V.if_eq 66 X dX12_takeAssignment_59 (by decide) (fun c59 => False.elim (by revert c59; decide)) (fun c59 => ?_)
            refine V.iconst (v := -1) X dX12_takeAssignment_62 (by decide) ?_
            refine V.goto 67 X dX12_takeAssignment_63 (by decide) ?_
            refine V.mst X K 2 272  dX12_takeAssignment_67 rfl rfl (by omega) ?_
            have F8 : MFr (dP p (p + 4)) m (mput m7 2 (p + 2) (-1)) := F7.put (Or.inr ⟨rfl, by omega, by omega⟩)
            have P8 := P7.dr (p + 2) (-1)
            have v8 := (mput_k (m := m7) (a := 2) (k := p + 2) (x := (-1)) (by omega)).trans v7
            have u8 := (mput_k (m := m7) (a := 2) (k := p + 2) (x := (-1)) (by omega)).trans u7
            have w8 := mput_at (m := m7) (a := 2) (k := p + 2) (x := (-1))
            generalize mput m7 2 (p + 2) (-1) = m8 at F8 P8 v8 u8 w8 ⊢
            refine V.aload_n X dX12_takeAssignment_68 rfl ?_
            refine V.mgr (k := 1) (a := 2) X K fX12_takeAssignment_13 dX12_takeAssignment_69 (by decide) ?_
            refine V.iload_n X dX12_takeAssignment_72 rfl ?_
            refine V.iconst (v := nI 3) X dX12_takeAssignment_73 (by decide) ?_
            refine V.iaddN X dX12_takeAssignment_74 ?_
            refine V.iconst (v := nI 0) X dX12_takeAssignment_75 (by decide) ?_
            refine V.mst X K 2 272  dX12_takeAssignment_76 rfl rfl (by omega) ?_
            have F9 : MFr (dP p (p + 4)) m (mput m8 2 (p + 3) (nI 0)) := F8.put (Or.inr ⟨rfl, by omega, by omega⟩)
            have P9 := P8.dr (p + 3) (nI 0)
            have v9 := (mput_k (m := m8) (a := 2) (k := p + 3) (x := (nI 0)) (by omega)).trans v8
            have u9 := (mput_k (m := m8) (a := 2) (k := p + 3) (x := (nI 0)) (by omega)).trans u8
            have w9 := (mput_k (m := m8) (a := 2) (k := p + 3) (x := (nI 0)) (by omega)).trans w8
            generalize mput m8 2 (p + 3) (nI 0) = m9 at F9 P9 v9 u9 w9 ⊢
            refine V.aload_n X dX12_takeAssignment_77 rfl ?_
            refine V.mgf  X K fX12_takeAssignment_72 dX12_takeAssignment_78 rfl P9.2.2 ?_
            refine V.if_ne 113 X dX12_takeAssignment_81 (by decide) (fun c81 => False.elim (by revert c81; decide)) (fun c81 => ?_)
            refine V.aload_n X dX12_takeAssignment_84 rfl ?_
            refine V.mgr (k := 1) (a := 2) X K fX12_takeAssignment_13 dX12_takeAssignment_85 (by decide) ?_
            refine V.iload_n X dX12_takeAssignment_88 rfl ?_
            refine V.iconst (v := nI 2) X dX12_takeAssignment_89 (by decide) ?_
            refine V.iaddN X dX12_takeAssignment_90 ?_
            refine V.mld  X K 2 272  dX12_takeAssignment_91 rfl rfl (by omega) w9 ?_
            refine V.if_eq 113 X dX12_takeAssignment_92 (by decide) (fun c92 => False.elim (by revert c92; decide)) (fun c92 => ?_)
            refine V.aload_n X dX12_takeAssignment_95 rfl ?_
            refine V.iconst (v := (bI true)) X dX12_takeAssignment_96 (by decide) ?_
            refine V.callVv (n := 1) X dX12_takeAssignment_97 gX12_takeAssignment_X12_take (c_X12_take _ _ K P9 (may := true) (fun _ _ => hdC_ne (by decide) z)) rfl (by decide +kernel) rfl rfl rfl K.1 rfl rfl ⟨Nat.le_of_ble_eq_true rfl, Nat.le_of_ble_eq_true rfl⟩ (fun h97 hp97 => ?_)
            obtain ⟨m10, rfl, G10, P10⟩ := hp97
            have P10 : PS m10 t false r3.tail := P10
            have F10 := F9.tr (G10.mono (fun _ _ z => Or.inl z))
            have v10 := (G10 2 _ psP_2).trans v9
            have u10 := (G10 2 _ psP_2).trans u9
            have w10 := (G10 2 _ psP_2).trans w9
            refine V.aload_n X dX12_takeAssignment_100 rfl ?_
            refine V.mgr (k := 1) (a := 2) X K fX12_takeAssignment_13 dX12_takeAssignment_101 (by decide) ?_
            refine V.iload_n X dX12_takeAssignment_104 rfl ?_
            refine V.iconst (v := nI 3) X dX12_takeAssignment_105 (by decide) ?_
            refine V.iaddN X dX12_takeAssignment_106 ?_
            refine V.aload_n X dX12_takeAssignment_107 rfl ?_
            refine V.iconst (v := (bI false)) X dX12_takeAssignment_108 (by decide) ?_
            refine V.callVi (n := 1) X dX12_takeAssignment_109 gX12_takeAssignment_X12_takeOperand (c_X12_takeOperand _ _ K P10) rfl (by decide +kernel) rfl rfl rfl K.1 rfl rfl ⟨Nat.le_of_ble_eq_true rfl, Nat.le_of_ble_eq_true rfl⟩ (fun r109 h109 hp109 => ?_)
            obtain ⟨m11, rfl, G11, P11, X11⟩ := hp109
            have F11 : MFr (dP p (p + 4)) m m11 := F10.tr (G11.mono (fun _ _ z => Or.inl z))
            have v11 := (G11 2 _ psP_2).trans v10
            have u11 := (G11 2 _ psP_2).trans u10
            have w11 := (G11 2 _ psP_2).trans w10
            rcases ho2 : pOpd false r3.tail with ⟨_ | o2, r5⟩
            · rw [ho2] at P11
              have P11 : PS m11 t true r5 := P11
              have ho3 : pOpd false (pSgn r3).2 = (none, r5) := by rw [hs]; exact ho2
              refine V.mst X K 2 272  dX12_takeAssignment_112 rfl rfl (by omega) ?_
              have F12 : MFr (dP p (p + 4)) m (mput m11 2 (p + 3) r109) := F11.put (Or.inr ⟨rfl, by omega, by omega⟩)
              have P12 := P11.dr (p + 3) r109
              have v12 := (mput_k (m := m11) (a := 2) (k := p + 3) (x := r109) (by omega)).trans v11
              have u12 := (mput_k (m := m11) (a := 2) (k := p + 3) (x := r109) (by omega)).trans u11
              have w12 := (mput_k (m := m11) (a := 2) (k := p + 3) (x := r109) (by omega)).trans w11
              exact V.vret X Y9 dX12_takeAssignment_113 ⟨rfl, _, rfl, F12, by rw [pAsg_x4 hf9 a61 ho (by rw [hs]; exact ne9) ho3]; exact P12, fun _ c hc => by rw [pAsg_x4 hf9 a61 ho (by rw [hs]; exact ne9) ho3] at hc; cases hc⟩ (Nat.le_of_ble_eq_true rfl) (Nat.le_of_ble_eq_true rfl)
            · rw [ho2] at P11 X11
              obtain ⟨y1, y2⟩ := X11 rfl o2 rfl
              have P11 : PS m11 t false r5 := P11
              have ho3 : pOpd false (pSgn r3).2 = (some o2, r5) := by rw [hs]; exact ho2
              refine V.mst X K 2 272  dX12_takeAssignment_112 rfl rfl (by omega) ?_
              have F12 : MFr (dP p (p + 4)) m (mput m11 2 (p + 3) r109) := F11.put (Or.inr ⟨rfl, by omega, by omega⟩)
              have P12 := P11.dr (p + 3) r109
              have v12 := (mput_k (m := m11) (a := 2) (k := p + 3) (x := r109) (by omega)).trans v11
              have u12 := (mput_k (m := m11) (a := 2) (k := p + 3) (x := r109) (by omega)).trans u11
              have w12 := (mput_k (m := m11) (a := 2) (k := p + 3) (x := r109) (by omega)).trans w11
              exact V.vret X Y9 dX12_takeAssignment_113 ⟨rfl, _, rfl, F12, by rw [pAsg_ok2 hf9 a61 ho (by rw [hs]; exact ne9) ho3]; exact P12, fun _ c hc => by
                rw [pAsg_ok2 hf9 a61 ho (by rw [hs]; exact ne9) ho3, hs] at hc
                cases hc
                exact ⟨⟨v12.trans (X2 hf), u12.trans x1, w12, fun _ => mput_at.trans y1⟩, ⟨_, by omega, rfl⟩, x2, Or.inr (Or.inr rfl), fun z => absurd z ne9, y2⟩⟩ (Nat.le_of_ble_eq_true rfl) (Nat.le_of_ble_eq_true rfl)
          · have D43 : decide (hdC r3 = 43) = false := decide_eq_false (by omega)
            have D45 : decide (hdC r3 = 45) = false := decide_eq_false (by omega)
            have hs : pSgn r3 = (nI 0, r3) := by rw [pSgn_h, if_neg z.1, if_neg z.2]
            refine V.aload_n X dX12_takeAssignment_33 rfl ?_
            refine V.mgr (k := 1) (a := 2) X K fX12_takeAssignment_13 dX12_takeAssignment_34 (by decide) ?_
            refine V.iload_n X dX12_takeAssignment_37 rfl ?_
            refine V.iconst (v := nI 2) X dX12_takeAssignment_38 (by decide) ?_
            refine V.iaddN X dX12_takeAssignment_39 ?_
            refine V.aload_n X dX12_takeAssignment_40 rfl ?_
            refine V.bipush (v := nI 43) X dX12_takeAssignment_41 (by decide) ?_
            refine V.callVi (n := 1) X dX12_takeAssignment_43 gX12_takeAssignment_X12_isSign (c_X12_isSign _ _ K P7.1 hV (c := 43) (by decide) (by decide) (by decide)) rfl (by decide +kernel) rfl rfl rfl K.1 rfl rfl ⟨Nat.le_of_ble_eq_true rfl, Nat.le_of_ble_eq_true rfl⟩ (fun r43 h43 hp43 => ?_)
            obtain ⟨rfl, e9⟩ := hp43; obtain rfl := e9.symm
            rw [D43]
            refine V.if_eq 53 X dX12_takeAssignment_46 (by decide) (fun c46 => ?_) (fun c46 => False.elim (by revert c46; decide))
            refine V.aload_n X dX12_takeAssignment_53 rfl ?_
            refine V.bipush (v := nI 45) X dX12_takeAssignment_54 (by decide) ?_
            refine V.callVi (n := 1) X dX12_takeAssignment_56 gX12_takeAssignment_X12_isSign (c_X12_isSign _ _ K P7.1 hV (c := 45) (by decide) (by decide) (by decide)) rfl (by decide +kernel) rfl rfl rfl K.1 rfl rfl ⟨Nat.le_of_ble_eq_true rfl, Nat.le_of_ble_eq_true rfl⟩ (fun r56 h56 hp56 => ?_)
            obtain ⟨rfl, e9⟩ := hp56; obtain rfl := e9.symm
            rw [D45]
            refine V.if_eq 66 X dX12_takeAssignment_59 (by decide) (fun c59 => ?_) (fun c59 => False.elim (by revert c59; decide))
            refine V.iconst (v := nI 0) X dX12_takeAssignment_66 (by decide) ?_
            refine V.mst X K 2 272  dX12_takeAssignment_67 rfl rfl (by omega) ?_
            have F8 : MFr (dP p (p + 4)) m (mput m7 2 (p + 2) (nI 0)) := F7.put (Or.inr ⟨rfl, by omega, by omega⟩)
            have P8 := P7.dr (p + 2) (nI 0)
            have v8 := (mput_k (m := m7) (a := 2) (k := p + 2) (x := (nI 0)) (by omega)).trans v7
            have u8 := (mput_k (m := m7) (a := 2) (k := p + 2) (x := (nI 0)) (by omega)).trans u7
            have w8 := mput_at (m := m7) (a := 2) (k := p + 2) (x := (nI 0))
            generalize mput m7 2 (p + 2) (nI 0) = m8 at F8 P8 v8 u8 w8 ⊢
            refine V.aload_n X dX12_takeAssignment_68 rfl ?_
            refine V.mgr (k := 1) (a := 2) X K fX12_takeAssignment_13 dX12_takeAssignment_69 (by decide) ?_
            refine V.iload_n X dX12_takeAssignment_72 rfl ?_
            refine V.iconst (v := nI 3) X dX12_takeAssignment_73 (by decide) ?_
            refine V.iaddN X dX12_takeAssignment_74 ?_
            refine V.iconst (v := nI 0) X dX12_takeAssignment_75 (by decide) ?_
            refine V.mst X K 2 272  dX12_takeAssignment_76 rfl rfl (by omega) ?_
            have F9 : MFr (dP p (p + 4)) m (mput m8 2 (p + 3) (nI 0)) := F8.put (Or.inr ⟨rfl, by omega, by omega⟩)
            have P9 := P8.dr (p + 3) (nI 0)
            have v9 := (mput_k (m := m8) (a := 2) (k := p + 3) (x := (nI 0)) (by omega)).trans v8
            have u9 := (mput_k (m := m8) (a := 2) (k := p + 3) (x := (nI 0)) (by omega)).trans u8
            have w9 := (mput_k (m := m8) (a := 2) (k := p + 3) (x := (nI 0)) (by omega)).trans w8
            generalize mput m8 2 (p + 3) (nI 0) = m9 at F9 P9 v9 u9 w9 ⊢
            refine V.aload_n X dX12_takeAssignment_77 rfl ?_
            refine V.mgf  X K fX12_takeAssignment_72 dX12_takeAssignment_78 rfl P9.2.2 ?_
            refine V.if_ne 113 X dX12_takeAssignment_81 (by decide) (fun c81 => False.elim (by revert c81; decide)) (fun c81 => ?_)
            refine V.aload_n X dX12_takeAssignment_84 rfl ?_
            refine V.mgr (k := 1) (a := 2) X K fX12_takeAssignment_13 dX12_takeAssignment_85 (by decide) ?_
            refine V.iload_n X dX12_takeAssignment_88 rfl ?_
            refine V.iconst (v := nI 2) X dX12_takeAssignment_89 (by decide) ?_
            refine V.iaddN X dX12_takeAssignment_90 ?_
            refine V.mld  X K 2 272  dX12_takeAssignment_91 rfl rfl (by omega) w9 ?_
            refine V.if_eq 113 X dX12_takeAssignment_92 (by decide) (fun c92 => ?_) (fun c92 => False.elim (by exact c92 rfl))
            exact V.vret X Y9 dX12_takeAssignment_113 ⟨rfl, _, rfl, F9, by rw [pAsg_ok1 hf9 a61 ho (by rw [hs]; rfl), hs]; exact P9, fun _ c hc => by
              rw [pAsg_ok1 hf9 a61 ho (by rw [hs]; rfl), hs] at hc
              cases hc
              exact ⟨⟨v9.trans (X2 hf), u9.trans x1, w9, fun z => absurd rfl z⟩, ⟨_, by omega, rfl⟩, x2, Or.inl rfl, fun _ => rfl, x2⟩⟩ (Nat.le_of_ble_eq_true rfl) (Nat.le_of_ble_eq_true rfl)
      · rw [decide_eq_false h61] at P4
        have a61 : acc 61 r.tail = none := by rw [acc_h (by decide), if_neg h61]
        exact st20 m4 r.tail F4 P4 (by rw [pAsg_x2 hf9 a61]; rfl) (by rw [pAsg_x2 hf9 a61]; rfl)
    · have hf := Bool.eq_false_iff.mpr hf
      rw [hf] at P2
      exact st9 m2 r _ F2 P2 (by rw [pAsg_x1 (pFld_n hf)]; rfl) (by rw [pAsg_x1 (pFld_n hf)]; rfl)
