theorem fX12_letter_57 : FL wsX12_letter RX12 57 14 8 .int false := ⟨_, rfl, by decide, Or.inl ⟨"ContractTesterModel", by decide +kernel, Or.inl rfl⟩, by decide +kernel, by decide +kernel, rfl⟩
theorem fX12_letter_51 : FL wsX12_letter RX12 51 14 7 .int false := ⟨_, rfl, by decide, Or.inl ⟨"ContractTesterModel", by decide +kernel, Or.inl rfl⟩, by decide +kernel, by decide +kernel, rfl⟩
theorem fX12_letter_41 : FL wsX12_letter RX12 41 14 6 .int false := ⟨_, rfl, by decide, Or.inl ⟨"ContractTesterModel", by decide +kernel, Or.inl rfl⟩, by decide +kernel, by decide +kernel, rfl⟩
theorem fX12_letter_19 : FL wsX12_letter RX12 19 14 4 (.array .int) true := ⟨_, rfl, by decide, Or.inl ⟨"ContractTesterModel", by decide +kernel, Or.inl rfl⟩, by decide +kernel, by decide +kernel, rfl⟩
set_option maxHeartbeats 4000000 in
set_option maxRecDepth 100000 in
theorem c_X12_letter (l : Launch) (G : GG) {h : Hp} {M : Nat} {m : Md} (K : MdK h M) {t : List Nat} (hT : TxM m t) {r : List Tok} {q e so : Nat} (hV : LxV m t r q e so) {k : Nat} (hk : k < 100) : Con l G yX12_letter wsX12_letter 0 0 0 0 [.ref M, .int (nI k)] (Hm h M m) (pI (fun x h2 => x = (if so = 1 ∧ q + k < e then nI (ch t (q + k)) else nI 0) ∧ h2 = Hm h M m)) := by
  refine Con.of (cc := cX12_letter) (nL := 2) (ret := (some .int)) (by decide) rfl rfl rfl rfl (fun Γ hG hl X Y9 => ?_)
  subst hG
  subst hl
  obtain ⟨v1, v2, v3, v4, v5, v6, v7, v8, v9, v10, v11, v12, v13⟩ := id hV
  have hl := hT.2.1
  refine V.aload_n X dX12_letter_0 rfl ?_
  refine V.mgf  X K fX12_letter_57 dX12_letter_1 rfl v5 ?_
  refine V.iconst (v := nI 1) X dX12_letter_4 (by decide) ?_
  refine V.icmp_ne 35 X dX12_letter_5 (by decide) (fun c5 => ?_) (fun c5 => ?_)
  · rw [nI_eq (by omega) (by omega)] at c5
    have e0 : nI 0 = (if so = 1 ∧ q + k < e then nI (ch t (q + k)) else nI 0) := by rw [if_neg (by omega)]
    refine V.iconst (v := nI 0) X dX12_letter_35 (by decide) ?_
    exact V.iret X Y9 dX12_letter_36 ⟨e0, rfl⟩ (Nat.le_of_ble_eq_true rfl) (Nat.le_of_ble_eq_true rfl)
  · rw [nI_eq (by omega) (by omega)] at c5
    refine V.aload_n X dX12_letter_8 rfl ?_
    refine V.mgf  X K fX12_letter_51 dX12_letter_9 rfl v4 ?_
    refine V.iload_n X dX12_letter_12 rfl ?_
    refine V.iaddN X dX12_letter_13 ?_
    refine V.aload_n X dX12_letter_14 rfl ?_
    refine V.mgf  X K fX12_letter_41 dX12_letter_15 rfl v3 ?_
    refine V.icmp_ge 35 X dX12_letter_18 (by decide) (fun c18 => ?_) (fun c18 => ?_)
    · rw [nI_leI (by omega) (by omega)] at c18
      have e0 : nI 0 = (if so = 1 ∧ q + k < e then nI (ch t (q + k)) else nI 0) := by rw [if_neg (by omega)]
      refine V.iconst (v := nI 0) X dX12_letter_35 (by decide) ?_
      exact V.iret X Y9 dX12_letter_36 ⟨e0, rfl⟩ (Nat.le_of_ble_eq_true rfl) (Nat.le_of_ble_eq_true rfl)
    · rw [nI_leI (by omega) (by omega)] at c18
      have e0 : nI (ch t (q + k)) = (if so = 1 ∧ q + k < e then nI (ch t (q + k)) else nI 0) := by rw [if_pos ⟨by omega, by omega⟩]
      refine V.aload_n X dX12_letter_21 rfl ?_
      refine V.mgr (k := 4) (a := 4) X K fX12_letter_19 dX12_letter_22 (by decide) ?_
      refine V.aload_n X dX12_letter_25 rfl ?_
      refine V.mgf  X K fX12_letter_51 dX12_letter_26 rfl v4 ?_
      refine V.iload_n X dX12_letter_29 rfl ?_
      refine V.iaddN X dX12_letter_30 ?_
      refine V.mld  X K 4 200  dX12_letter_31 rfl rfl (by omega) (hT.2.2 (q + k) (by omega)).1 ?_
      refine V.goto 36 X dX12_letter_32 (by decide) ?_
      exact V.iret X Y9 dX12_letter_36 ⟨e0, rfl⟩ (Nat.le_of_ble_eq_true rfl) (Nat.le_of_ble_eq_true rfl)
theorem fX12_isSize_57 : FL wsX12_isSize RX12 57 14 8 .int false := ⟨_, rfl, by decide, Or.inl ⟨"ContractTesterModel", by decide +kernel, Or.inl rfl⟩, by decide +kernel, by decide +kernel, rfl⟩
theorem fX12_isSize_41 : FL wsX12_isSize RX12 41 14 6 .int false := ⟨_, rfl, by decide, Or.inl ⟨"ContractTesterModel", by decide +kernel, Or.inl rfl⟩, by decide +kernel, by decide +kernel, rfl⟩
theorem fX12_isSize_51 : FL wsX12_isSize RX12 51 14 7 .int false := ⟨_, rfl, by decide, Or.inl ⟨"ContractTesterModel", by decide +kernel, Or.inl rfl⟩, by decide +kernel, by decide +kernel, rfl⟩
set_option maxHeartbeats 4000000 in
set_option maxRecDepth 100000 in
theorem c_X12_isSize (l : Launch) (G : GG) {h : Hp} {M : Nat} {m : Md} (K : MdK h M) {t : List Nat} (hT : TxM m t) {r : List Tok} {q e so : Nat} (hV : LxV m t r q e so) {k : Nat} (hk : k < 100) : Con l G yX12_isSize wsX12_isSize 0 0 0 0 [.ref M, .int (nI k)] (Hm h M m) (pI (fun x h2 => x = bI (decide (so = 1 ∧ e - q = k)) ∧ h2 = Hm h M m)) := by
  refine Con.of (cc := cX12_isSize) (nL := 2) (ret := (some .boolean)) (by decide) rfl rfl rfl rfl (fun Γ hG hl X Y9 => ?_)
  subst hG
  subst hl
  obtain ⟨v1, v2, v3, v4, v5, v6, v7, v8, v9, v10, v11, v12, v13⟩ := id hV
  have hl := hT.2.1
  refine V.aload_n X dX12_isSize_0 rfl ?_
  refine V.mgf  X K fX12_isSize_57 dX12_isSize_1 rfl v5 ?_
  refine V.iconst (v := nI 1) X dX12_isSize_4 (by decide) ?_
  refine V.icmp_ne 25 X dX12_isSize_5 (by decide) (fun c5 => ?_) (fun c5 => ?_)
  · rw [nI_eq (by omega) (by omega)] at c5
    have e0 : decide (so = 1 ∧ e - q = k) = false := decide_eq_false (by omega)
    refine V.iconst (v := nI 0) X dX12_isSize_25 (by decide) ?_
    exact V.bret X Y9 dX12_isSize_26 (decide (so = 1 ∧ e - q = k)) (by rw [e0]; rfl) ⟨rfl, rfl⟩ (Nat.le_of_ble_eq_true rfl) (Nat.le_of_ble_eq_true rfl)
  · rw [nI_eq (by omega) (by omega)] at c5
    refine V.aload_n X dX12_isSize_8 rfl ?_
    refine V.mgf  X K fX12_isSize_41 dX12_isSize_9 rfl v3 ?_
    refine V.aload_n X dX12_isSize_12 rfl ?_
    refine V.mgf  X K fX12_isSize_51 dX12_isSize_13 rfl v4 ?_
    refine V.isubN X dX12_isSize_16 (by omega) ?_
    refine V.iload_n X dX12_isSize_17 rfl ?_
    refine V.icmp_ne 25 X dX12_isSize_18 (by decide) (fun c18 => ?_) (fun c18 => ?_)
    · rw [nI_eq (by omega) (by omega)] at c18
      have e0 : decide (so = 1 ∧ e - q = k) = false := decide_eq_false (by omega)
      refine V.iconst (v := nI 0) X dX12_isSize_25 (by decide) ?_
      exact V.bret X Y9 dX12_isSize_26 (decide (so = 1 ∧ e - q = k)) (by rw [e0]; rfl) ⟨rfl, rfl⟩ (Nat.le_of_ble_eq_true rfl) (Nat.le_of_ble_eq_true rfl)
    · rw [nI_eq (by omega) (by omega)] at c18
      have e0 : decide (so = 1 ∧ e - q = k) = true := decide_eq_true (by omega)
      refine V.iconst (v := nI 1) X dX12_isSize_21 (by decide) ?_
      refine V.goto 26 X dX12_isSize_22 (by decide) ?_
      exact V.bret X Y9 dX12_isSize_26 (decide (so = 1 ∧ e - q = k)) (by rw [e0]; rfl) ⟨rfl, rfl⟩ (Nat.le_of_ble_eq_true rfl) (Nat.le_of_ble_eq_true rfl)
theorem fX12_isSign_57 : FL wsX12_isSign RX12 57 14 8 .int false := ⟨_, rfl, by decide, Or.inl ⟨"ContractTesterModel", by decide +kernel, Or.inl rfl⟩, by decide +kernel, by decide +kernel, rfl⟩
theorem fX12_isSign_54 : FL wsX12_isSign RX12 54 14 9 .int false := ⟨_, rfl, by decide, Or.inl ⟨"ContractTesterModel", by decide +kernel, Or.inl rfl⟩, by decide +kernel, by decide +kernel, rfl⟩
set_option maxHeartbeats 4000000 in
set_option maxRecDepth 100000 in
theorem c_X12_isSign (l : Launch) (G : GG) {h : Hp} {M : Nat} {m : Md} (K : MdK h M) {t : List Nat} (hT : TxM m t) {r : List Tok} {q e so : Nat} (hV : LxV m t r q e so) {c : Nat} (h1 : 0 < c) (h2 : c < 256) (h3 : kd c = 3) : Con l G yX12_isSign wsX12_isSign 0 0 0 0 [.ref M, .int (nI c)] (Hm h M m) (pI (fun x h2 => x = bI (decide (hdC r = c)) ∧ h2 = Hm h M m)) := by
  refine Con.of (cc := cX12_isSign) (nL := 2) (ret := (some .boolean)) (by decide) rfl rfl rfl rfl (fun Γ hG hl X Y9 => ?_)
  subst hG
  subst hl
  obtain ⟨v1, v2, v3, v4, v5, v6, v7, v8, v9, v10, v11, v12, v13⟩ := id hV
  have hl := hT.2.1
  refine V.aload_n X dX12_isSign_0 rfl ?_
  refine V.mgf  X K fX12_isSign_57 dX12_isSign_1 rfl v5 ?_
  refine V.iconst (v := nI 3) X dX12_isSign_4 (by decide) ?_
  refine V.icmp_ne 20 X dX12_isSign_5 (by decide) (fun c5 => ?_) (fun c5 => ?_)
  · rw [nI_eq (by omega) (by omega)] at c5
    have e0 : decide (hdC r = c) = false := decide_eq_false (fun z => c5 ((v10 c h1 h2 h3).mp z).1)
    refine V.iconst (v := nI 0) X dX12_isSign_20 (by decide) ?_
    exact V.bret X Y9 dX12_isSign_21 (decide (hdC r = c)) (by rw [e0]; rfl) ⟨rfl, rfl⟩ (Nat.le_of_ble_eq_true rfl) (Nat.le_of_ble_eq_true rfl)
  · rw [nI_eq (by omega) (by omega)] at c5
    refine V.aload_n X dX12_isSign_8 rfl ?_
    refine V.mgf  X K fX12_isSign_54 dX12_isSign_9 rfl rfl ?_
    refine V.iload_n X dX12_isSign_12 rfl ?_
    refine V.icmp_ne 20 X dX12_isSign_13 (by decide) (fun c13 => ?_) (fun c13 => ?_)
    · have e0 : decide (hdC r = c) = false := decide_eq_false (fun z => c13 ((v10 c h1 h2 h3).mp z).2)
      refine V.iconst (v := nI 0) X dX12_isSign_20 (by decide) ?_
      exact V.bret X Y9 dX12_isSign_21 (decide (hdC r = c)) (by rw [e0]; rfl) ⟨rfl, rfl⟩ (Nat.le_of_ble_eq_true rfl) (Nat.le_of_ble_eq_true rfl)
    · have e0 : decide (hdC r = c) = true := decide_eq_true ((v10 c h1 h2 h3).mpr ⟨by omega, c13⟩)
      refine V.iconst (v := nI 1) X dX12_isSign_16 (by decide) ?_
      refine V.goto 21 X dX12_isSign_17 (by decide) ?_
      exact V.bret X Y9 dX12_isSign_21 (decide (hdC r = c)) (by rw [e0]; rfl) ⟨rfl, rfl⟩ (Nat.le_of_ble_eq_true rfl) (Nat.le_of_ble_eq_true rfl)
set_option maxHeartbeats 4000000 in
set_option maxRecDepth 100000 in
theorem c_X12_isInit (l : Launch) (G : GG) {h : Hp} {M : Nat} {m : Md} (K : MdK h M) {t : List Nat} (hT : TxM m t) {r : List Tok} {q e so : Nat} (hV : LxV m t r q e so)  : Con l G yX12_isInit wsX12_isInit 1 21 0 0 [.ref M] (Hm h M m) (pI (fun x h2 => x = bI (decide (hdC r = 300)) ∧ h2 = Hm h M m)) := by
  refine Con.of (cc := cX12_isInit) (nL := 1) (ret := (some .boolean)) (by decide) rfl rfl rfl rfl (fun Γ hG hl X Y9 => ?_)
  subst hG
  subst hl
  obtain ⟨v1, v2, v3, v4, v5, v6, v7, v8, v9, v10, v11, v12, v13⟩ := id hV
  have hl := hT.2.1
  refine V.aload_n X dX12_isInit_0 rfl ?_
  refine V.iconst (v := nI 4) X dX12_isInit_1 (by decide) ?_
  refine V.callVi (n := 1) X dX12_isInit_2 gX12_isInit_X12_isSize (c_X12_isSize _ _ K hT hV (by decide)) rfl (by decide +kernel) rfl rfl rfl K.1 rfl rfl ⟨Nat.le_of_ble_eq_true rfl, Nat.le_of_ble_eq_true rfl⟩ (fun r2 h2 hp2 => ?_)
  obtain ⟨rfl, e9⟩ := hp2; obtain rfl := e9.symm
  refine V.if_eq 52 X dX12_isInit_5 (by decide) (fun c5 => ?_) (fun c5 => ?_)
  · have c5 := bI_eq c5
    have c5 := of_decide_eq_false c5
    have e0 : decide (hdC r = 300) = false := decide_eq_false (fun z => by
      have z2 := (v8 0 (by decide)).mp z
      rw [wd_0] at z2
      unfold wdP0 at z2
      omega)
    refine V.iconst (v := nI 0) X dX12_isInit_52 (by decide) ?_
    exact V.bret X Y9 dX12_isInit_53 (decide (hdC r = 300)) (by rw [e0]; rfl) ⟨rfl, rfl⟩ (Nat.le_of_ble_eq_true rfl) (Nat.le_of_ble_eq_true rfl)
  · have c5 := bI_ne c5
    have c5 := of_decide_eq_true c5
    refine V.aload_n X dX12_isInit_8 rfl ?_
    refine V.iconst (v := nI 0) X dX12_isInit_9 (by decide) ?_
    refine V.callVi (n := 1) X dX12_isInit_10 gX12_isInit_X12_letter (c_X12_letter _ _ K hT hV (by decide)) rfl (by decide +kernel) rfl rfl rfl K.1 rfl rfl ⟨Nat.le_of_ble_eq_true rfl, Nat.le_of_ble_eq_true rfl⟩ (fun r10 h10 hp10 => ?_)
    obtain ⟨rfl, e9⟩ := hp10; obtain rfl := e9.symm
    rw [if_pos ⟨by omega, by omega⟩]
    have b1 := (hT.2.2 (q + 0) (by omega)).2
    refine V.bipush (v := nI 105) X dX12_isInit_13 (by decide) ?_
    refine V.icmp_ne 52 X dX12_isInit_15 (by decide) (fun c15 => ?_) (fun c15 => ?_)
    · rw [nI_eq (by omega) (by omega)] at c15
      have e0 : decide (hdC r = 300) = false := decide_eq_false (fun z => by
        have z2 := (v8 0 (by decide)).mp z
        rw [wd_0] at z2
        unfold wdP0 at z2
        omega)
      refine V.iconst (v := nI 0) X dX12_isInit_52 (by decide) ?_
      exact V.bret X Y9 dX12_isInit_53 (decide (hdC r = 300)) (by rw [e0]; rfl) ⟨rfl, rfl⟩ (Nat.le_of_ble_eq_true rfl) (Nat.le_of_ble_eq_true rfl)
    · rw [nI_eq (by omega) (by omega)] at c15
      refine V.aload_n X dX12_isInit_18 rfl ?_
      refine V.iconst (v := nI 1) X dX12_isInit_19 (by decide) ?_
      refine V.callVi (n := 1) X dX12_isInit_20 gX12_isInit_X12_letter (c_X12_letter _ _ K hT hV (by decide)) rfl (by decide +kernel) rfl rfl rfl K.1 rfl rfl ⟨Nat.le_of_ble_eq_true rfl, Nat.le_of_ble_eq_true rfl⟩ (fun r20 h20 hp20 => ?_)
      obtain ⟨rfl, e9⟩ := hp20; obtain rfl := e9.symm
      rw [if_pos ⟨by omega, by omega⟩]
      have b2 := (hT.2.2 (q + 1) (by omega)).2
      refine V.bipush (v := nI 110) X dX12_isInit_23 (by decide) ?_
      refine V.icmp_ne 52 X dX12_isInit_25 (by decide) (fun c25 => ?_) (fun c25 => ?_)
      · rw [nI_eq (by omega) (by omega)] at c25
        have e0 : decide (hdC r = 300) = false := decide_eq_false (fun z => by
          have z2 := (v8 0 (by decide)).mp z
          rw [wd_0] at z2
          unfold wdP0 at z2
          omega)
        refine V.iconst (v := nI 0) X dX12_isInit_52 (by decide) ?_
        exact V.bret X Y9 dX12_isInit_53 (decide (hdC r = 300)) (by rw [e0]; rfl) ⟨rfl, rfl⟩ (Nat.le_of_ble_eq_true rfl) (Nat.le_of_ble_eq_true rfl)
      · rw [nI_eq (by omega) (by omega)] at c25
        refine V.aload_n X dX12_isInit_28 rfl ?_
        refine V.iconst (v := nI 2) X dX12_isInit_29 (by decide) ?_
        refine V.callVi (n := 1) X dX12_isInit_30 gX12_isInit_X12_letter (c_X12_letter _ _ K hT hV (by decide)) rfl (by decide +kernel) rfl rfl rfl K.1 rfl rfl ⟨Nat.le_of_ble_eq_true rfl, Nat.le_of_ble_eq_true rfl⟩ (fun r30 h30 hp30 => ?_)
        obtain ⟨rfl, e9⟩ := hp30; obtain rfl := e9.symm
        rw [if_pos ⟨by omega, by omega⟩]
        have b3 := (hT.2.2 (q + 2) (by omega)).2
        refine V.bipush (v := nI 105) X dX12_isInit_33 (by decide) ?_
        refine V.icmp_ne 52 X dX12_isInit_35 (by decide) (fun c35 => ?_) (fun c35 => ?_)
        · rw [nI_eq (by omega) (by omega)] at c35
          have e0 : decide (hdC r = 300) = false := decide_eq_false (fun z => by
            have z2 := (v8 0 (by decide)).mp z
            rw [wd_0] at z2
            unfold wdP0 at z2
            omega)
          refine V.iconst (v := nI 0) X dX12_isInit_52 (by decide) ?_
          exact V.bret X Y9 dX12_isInit_53 (decide (hdC r = 300)) (by rw [e0]; rfl) ⟨rfl, rfl⟩ (Nat.le_of_ble_eq_true rfl) (Nat.le_of_ble_eq_true rfl)
        · rw [nI_eq (by omega) (by omega)] at c35
          refine V.aload_n X dX12_isInit_38 rfl ?_
          refine V.iconst (v := nI 3) X dX12_isInit_39 (by decide) ?_
          refine V.callVi (n := 1) X dX12_isInit_40 gX12_isInit_X12_letter (c_X12_letter _ _ K hT hV (by decide)) rfl (by decide +kernel) rfl rfl rfl K.1 rfl rfl ⟨Nat.le_of_ble_eq_true rfl, Nat.le_of_ble_eq_true rfl⟩ (fun r40 h40 hp40 => ?_)
          obtain ⟨rfl, e9⟩ := hp40; obtain rfl := e9.symm
          rw [if_pos ⟨by omega, by omega⟩]
          have b4 := (hT.2.2 (q + 3) (by omega)).2
          refine V.bipush (v := nI 116) X dX12_isInit_43 (by decide) ?_
          refine V.icmp_ne 52 X dX12_isInit_45 (by decide) (fun c45 => ?_) (fun c45 => ?_)
          · rw [nI_eq (by omega) (by omega)] at c45
            have e0 : decide (hdC r = 300) = false := decide_eq_false (fun z => by
              have z2 := (v8 0 (by decide)).mp z
              rw [wd_0] at z2
              unfold wdP0 at z2
              omega)
            refine V.iconst (v := nI 0) X dX12_isInit_52 (by decide) ?_
            exact V.bret X Y9 dX12_isInit_53 (decide (hdC r = 300)) (by rw [e0]; rfl) ⟨rfl, rfl⟩ (Nat.le_of_ble_eq_true rfl) (Nat.le_of_ble_eq_true rfl)
          · rw [nI_eq (by omega) (by omega)] at c45
            have e0 : decide (hdC r = 300) = true := decide_eq_true ((v8 0 (by decide)).mpr ⟨by omega, (wd_0 t q e).mpr (by unfold wdP0; omega)⟩)
            refine V.iconst (v := nI 1) X dX12_isInit_48 (by decide) ?_
            refine V.goto 53 X dX12_isInit_49 (by decide) ?_
            exact V.bret X Y9 dX12_isInit_53 (decide (hdC r = 300)) (by rw [e0]; rfl) ⟨rfl, rfl⟩ (Nat.le_of_ble_eq_true rfl) (Nat.le_of_ble_eq_true rfl)
set_option maxHeartbeats 4000000 in
set_option maxRecDepth 100000 in
theorem c_X12_isInvariant (l : Launch) (G : GG) {h : Hp} {M : Nat} {m : Md} (K : MdK h M) {t : List Nat} (hT : TxM m t) {r : List Tok} {q e so : Nat} (hV : LxV m t r q e so)  : Con l G yX12_isInvariant wsX12_isInvariant 1 21 0 0 [.ref M] (Hm h M m) (pI (fun x h2 => x = bI (decide (hdC r = 301)) ∧ h2 = Hm h M m)) := by
  refine Con.of (cc := cX12_isInvariant) (nL := 2) (ret := (some .boolean)) (by decide) rfl rfl rfl rfl (fun Γ hG hl X Y9 => ?_)
  subst hG
  subst hl
  obtain ⟨v1, v2, v3, v4, v5, v6, v7, v8, v9, v10, v11, v12, v13⟩ := id hV
  have hl := hT.2.1
  refine V.aload_n X dX12_isInvariant_0 rfl ?_
  refine V.bipush (v := nI 9) X dX12_isInvariant_1 (by decide) ?_
  refine V.callVi (n := 1) X dX12_isInvariant_3 gX12_isInvariant_X12_isSize (c_X12_isSize _ _ K hT hV (by decide)) rfl (by decide +kernel) rfl rfl rfl K.1 rfl rfl ⟨Nat.le_of_ble_eq_true rfl, Nat.le_of_ble_eq_true rfl⟩ (fun r3 h3 hp3 => ?_)
  obtain ⟨rfl, e9⟩ := hp3; obtain rfl := e9.symm
  refine V.if_eq 63 X dX12_isInvariant_6 (by decide) (fun c6 => ?_) (fun c6 => ?_)
  · have c6 := bI_eq c6
    have c6 := of_decide_eq_false c6
    have e0 : decide (hdC r = 301) = false := decide_eq_false (fun z => by
      have z2 := (v8 1 (by decide)).mp z
      rw [wd_1] at z2
      unfold wdP1 at z2
      omega)
    refine V.iconst (v := nI 0) X dX12_isInvariant_63 (by decide) ?_
    refine V.istore_n X dX12_isInvariant_64 [(0, _), (1, _)] rfl rfl rfl ?_
    refine V.iload_n X dX12_isInvariant_65 rfl ?_
    refine V.if_eq 116 X dX12_isInvariant_66 (by decide) (fun c66 => ?_) (fun c66 => False.elim (by revert c66; decide))
    refine V.iconst (v := nI 0) X dX12_isInvariant_116 (by decide) ?_
    exact V.bret X Y9 dX12_isInvariant_117 (decide (hdC r = 301)) (by rw [e0]; rfl) ⟨rfl, rfl⟩ (Nat.le_of_ble_eq_true rfl) (Nat.le_of_ble_eq_true rfl)
  · have c6 := bI_ne c6
    have c6 := of_decide_eq_true c6
    refine V.aload_n X dX12_isInvariant_9 rfl ?_
    refine V.iconst (v := nI 0) X dX12_isInvariant_10 (by decide) ?_
    refine V.callVi (n := 1) X dX12_isInvariant_11 gX12_isInvariant_X12_letter (c_X12_letter _ _ K hT hV (by decide)) rfl (by decide +kernel) rfl rfl rfl K.1 rfl rfl ⟨Nat.le_of_ble_eq_true rfl, Nat.le_of_ble_eq_true rfl⟩ (fun r11 h11 hp11 => ?_)
    obtain ⟨rfl, e9⟩ := hp11; obtain rfl := e9.symm
    rw [if_pos ⟨by omega, by omega⟩]
    have b1 := (hT.2.2 (q + 0) (by omega)).2
    refine V.bipush (v := nI 105) X dX12_isInvariant_14 (by decide) ?_
    refine V.icmp_ne 63 X dX12_isInvariant_16 (by decide) (fun c16 => ?_) (fun c16 => ?_)
    · rw [nI_eq (by omega) (by omega)] at c16
      have e0 : decide (hdC r = 301) = false := decide_eq_false (fun z => by
        have z2 := (v8 1 (by decide)).mp z
        rw [wd_1] at z2
        unfold wdP1 at z2
        omega)
      refine V.iconst (v := nI 0) X dX12_isInvariant_63 (by decide) ?_
      refine V.istore_n X dX12_isInvariant_64 [(0, _), (1, _)] rfl rfl rfl ?_
      refine V.iload_n X dX12_isInvariant_65 rfl ?_
      refine V.if_eq 116 X dX12_isInvariant_66 (by decide) (fun c66 => ?_) (fun c66 => False.elim (by revert c66; decide))
      refine V.iconst (v := nI 0) X dX12_isInvariant_116 (by decide) ?_
      exact V.bret X Y9 dX12_isInvariant_117 (decide (hdC r = 301)) (by rw [e0]; rfl) ⟨rfl, rfl⟩ (Nat.le_of_ble_eq_true rfl) (Nat.le_of_ble_eq_true rfl)
    · rw [nI_eq (by omega) (by omega)] at c16
      refine V.aload_n X dX12_isInvariant_19 rfl ?_
      refine V.iconst (v := nI 1) X dX12_isInvariant_20 (by decide) ?_
      refine V.callVi (n := 1) X dX12_isInvariant_21 gX12_isInvariant_X12_letter (c_X12_letter _ _ K hT hV (by decide)) rfl (by decide +kernel) rfl rfl rfl K.1 rfl rfl ⟨Nat.le_of_ble_eq_true rfl, Nat.le_of_ble_eq_true rfl⟩ (fun r21 h21 hp21 => ?_)
      obtain ⟨rfl, e9⟩ := hp21; obtain rfl := e9.symm
      rw [if_pos ⟨by omega, by omega⟩]
      have b2 := (hT.2.2 (q + 1) (by omega)).2
      refine V.bipush (v := nI 110) X dX12_isInvariant_24 (by decide) ?_
      refine V.icmp_ne 63 X dX12_isInvariant_26 (by decide) (fun c26 => ?_) (fun c26 => ?_)
      · rw [nI_eq (by omega) (by omega)] at c26
        have e0 : decide (hdC r = 301) = false := decide_eq_false (fun z => by
          have z2 := (v8 1 (by decide)).mp z
          rw [wd_1] at z2
          unfold wdP1 at z2
          omega)
        refine V.iconst (v := nI 0) X dX12_isInvariant_63 (by decide) ?_
        refine V.istore_n X dX12_isInvariant_64 [(0, _), (1, _)] rfl rfl rfl ?_
        refine V.iload_n X dX12_isInvariant_65 rfl ?_
        refine V.if_eq 116 X dX12_isInvariant_66 (by decide) (fun c66 => ?_) (fun c66 => False.elim (by revert c66; decide))
        refine V.iconst (v := nI 0) X dX12_isInvariant_116 (by decide) ?_
        exact V.bret X Y9 dX12_isInvariant_117 (decide (hdC r = 301)) (by rw [e0]; rfl) ⟨rfl, rfl⟩ (Nat.le_of_ble_eq_true rfl) (Nat.le_of_ble_eq_true rfl)
      · rw [nI_eq (by omega) (by omega)] at c26
        refine V.aload_n X dX12_isInvariant_29 rfl ?_
        refine V.iconst (v := nI 2) X dX12_isInvariant_30 (by decide) ?_
        refine V.callVi (n := 1) X dX12_isInvariant_31 gX12_isInvariant_X12_letter (c_X12_letter _ _ K hT hV (by decide)) rfl (by decide +kernel) rfl rfl rfl K.1 rfl rfl ⟨Nat.le_of_ble_eq_true rfl, Nat.le_of_ble_eq_true rfl⟩ (fun r31 h31 hp31 => ?_)
        obtain ⟨rfl, e9⟩ := hp31; obtain rfl := e9.symm
        rw [if_pos ⟨by omega, by omega⟩]
        have b3 := (hT.2.2 (q + 2) (by omega)).2
        refine V.bipush (v := nI 118) X dX12_isInvariant_34 (by decide) ?_
        refine V.icmp_ne 63 X dX12_isInvariant_36 (by decide) (fun c36 => ?_) (fun c36 => ?_)
        · rw [nI_eq (by omega) (by omega)] at c36
          have e0 : decide (hdC r = 301) = false := decide_eq_false (fun z => by
            have z2 := (v8 1 (by decide)).mp z
            rw [wd_1] at z2
            unfold wdP1 at z2
            omega)
          refine V.iconst (v := nI 0) X dX12_isInvariant_63 (by decide) ?_
          refine V.istore_n X dX12_isInvariant_64 [(0, _), (1, _)] rfl rfl rfl ?_
          refine V.iload_n X dX12_isInvariant_65 rfl ?_
          refine V.if_eq 116 X dX12_isInvariant_66 (by decide) (fun c66 => ?_) (fun c66 => False.elim (by revert c66; decide))
          refine V.iconst (v := nI 0) X dX12_isInvariant_116 (by decide) ?_
          exact V.bret X Y9 dX12_isInvariant_117 (decide (hdC r = 301)) (by rw [e0]; rfl) ⟨rfl, rfl⟩ (Nat.le_of_ble_eq_true rfl) (Nat.le_of_ble_eq_true rfl)
        · rw [nI_eq (by omega) (by omega)] at c36
          refine V.aload_n X dX12_isInvariant_39 rfl ?_
          refine V.iconst (v := nI 3) X dX12_isInvariant_40 (by decide) ?_
          refine V.callVi (n := 1) X dX12_isInvariant_41 gX12_isInvariant_X12_letter (c_X12_letter _ _ K hT hV (by decide)) rfl (by decide +kernel) rfl rfl rfl K.1 rfl rfl ⟨Nat.le_of_ble_eq_true rfl, Nat.le_of_ble_eq_true rfl⟩ (fun r41 h41 hp41 => ?_)
          obtain ⟨rfl, e9⟩ := hp41; obtain rfl := e9.symm
          rw [if_pos ⟨by omega, by omega⟩]
          have b4 := (hT.2.2 (q + 3) (by omega)).2
          refine V.bipush (v := nI 97) X dX12_isInvariant_44 (by decide) ?_
          refine V.icmp_ne 63 X dX12_isInvariant_46 (by decide) (fun c46 => ?_) (fun c46 => ?_)
          · rw [nI_eq (by omega) (by omega)] at c46
            have e0 : decide (hdC r = 301) = false := decide_eq_false (fun z => by
              have z2 := (v8 1 (by decide)).mp z
              rw [wd_1] at z2
              unfold wdP1 at z2
              omega)
            refine V.iconst (v := nI 0) X dX12_isInvariant_63 (by decide) ?_
            refine V.istore_n X dX12_isInvariant_64 [(0, _), (1, _)] rfl rfl rfl ?_
            refine V.iload_n X dX12_isInvariant_65 rfl ?_
            refine V.if_eq 116 X dX12_isInvariant_66 (by decide) (fun c66 => ?_) (fun c66 => False.elim (by revert c66; decide))
            refine V.iconst (v := nI 0) X dX12_isInvariant_116 (by decide) ?_
            exact V.bret X Y9 dX12_isInvariant_117 (decide (hdC r = 301)) (by rw [e0]; rfl) ⟨rfl, rfl⟩ (Nat.le_of_ble_eq_true rfl) (Nat.le_of_ble_eq_true rfl)
          · rw [nI_eq (by omega) (by omega)] at c46
            refine V.aload_n X dX12_isInvariant_49 rfl ?_
            refine V.iconst (v := nI 4) X dX12_isInvariant_50 (by decide) ?_
            refine V.callVi (n := 1) X dX12_isInvariant_51 gX12_isInvariant_X12_letter (c_X12_letter _ _ K hT hV (by decide)) rfl (by decide +kernel) rfl rfl rfl K.1 rfl rfl ⟨Nat.le_of_ble_eq_true rfl, Nat.le_of_ble_eq_true rfl⟩ (fun r51 h51 hp51 => ?_)
            obtain ⟨rfl, e9⟩ := hp51; obtain rfl := e9.symm
            rw [if_pos ⟨by omega, by omega⟩]
            have b5 := (hT.2.2 (q + 4) (by omega)).2
            refine V.bipush (v := nI 114) X dX12_isInvariant_54 (by decide) ?_
            refine V.icmp_ne 63 X dX12_isInvariant_56 (by decide) (fun c56 => ?_) (fun c56 => ?_)
            · rw [nI_eq (by omega) (by omega)] at c56
              have e0 : decide (hdC r = 301) = false := decide_eq_false (fun z => by
                have z2 := (v8 1 (by decide)).mp z
                rw [wd_1] at z2
                unfold wdP1 at z2
                omega)
              refine V.iconst (v := nI 0) X dX12_isInvariant_63 (by decide) ?_
              refine V.istore_n X dX12_isInvariant_64 [(0, _), (1, _)] rfl rfl rfl ?_
              refine V.iload_n X dX12_isInvariant_65 rfl ?_
              refine V.if_eq 116 X dX12_isInvariant_66 (by decide) (fun c66 => ?_) (fun c66 => False.elim (by revert c66; decide))
              refine V.iconst (v := nI 0) X dX12_isInvariant_116 (by decide) ?_
              exact V.bret X Y9 dX12_isInvariant_117 (decide (hdC r = 301)) (by rw [e0]; rfl) ⟨rfl, rfl⟩ (Nat.le_of_ble_eq_true rfl) (Nat.le_of_ble_eq_true rfl)
            · rw [nI_eq (by omega) (by omega)] at c56
              refine V.iconst (v := nI 1) X dX12_isInvariant_59 (by decide) ?_
              refine V.goto 64 X dX12_isInvariant_60 (by decide) ?_
              refine V.istore_n X dX12_isInvariant_64 [(0, _), (1, _)] rfl rfl rfl ?_
              refine V.iload_n X dX12_isInvariant_65 rfl ?_
              refine V.if_eq 116 X dX12_isInvariant_66 (by decide) (fun c66 => False.elim (by revert c66; decide)) (fun c66 => ?_)
              refine V.aload_n X dX12_isInvariant_69 rfl ?_
              refine V.iconst (v := nI 5) X dX12_isInvariant_70 (by decide) ?_
              refine V.callVi (n := 1) X dX12_isInvariant_71 gX12_isInvariant_X12_letter (c_X12_letter _ _ K hT hV (by decide)) rfl (by decide +kernel) rfl rfl rfl K.1 rfl rfl ⟨Nat.le_of_ble_eq_true rfl, Nat.le_of_ble_eq_true rfl⟩ (fun r71 h71 hp71 => ?_)
              obtain ⟨rfl, e9⟩ := hp71; obtain rfl := e9.symm
              rw [if_pos ⟨by omega, by omega⟩]
              have b6 := (hT.2.2 (q + 5) (by omega)).2
              refine V.bipush (v := nI 105) X dX12_isInvariant_74 (by decide) ?_
              refine V.icmp_ne 116 X dX12_isInvariant_76 (by decide) (fun c76 => ?_) (fun c76 => ?_)
              · rw [nI_eq (by omega) (by omega)] at c76
                have e0 : decide (hdC r = 301) = false := decide_eq_false (fun z => by
                  have z2 := (v8 1 (by decide)).mp z
                  rw [wd_1] at z2
                  unfold wdP1 at z2
                  omega)
                refine V.iconst (v := nI 0) X dX12_isInvariant_116 (by decide) ?_
                exact V.bret X Y9 dX12_isInvariant_117 (decide (hdC r = 301)) (by rw [e0]; rfl) ⟨rfl, rfl⟩ (Nat.le_of_ble_eq_true rfl) (Nat.le_of_ble_eq_true rfl)
              · rw [nI_eq (by omega) (by omega)] at c76
                refine V.aload_n X dX12_isInvariant_79 rfl ?_
                refine V.bipush (v := nI 6) X dX12_isInvariant_80 (by decide) ?_
                refine V.callVi (n := 1) X dX12_isInvariant_82 gX12_isInvariant_X12_letter (c_X12_letter _ _ K hT hV (by decide)) rfl (by decide +kernel) rfl rfl rfl K.1 rfl rfl ⟨Nat.le_of_ble_eq_true rfl, Nat.le_of_ble_eq_true rfl⟩ (fun r82 h82 hp82 => ?_)
                obtain ⟨rfl, e9⟩ := hp82; obtain rfl := e9.symm
                rw [if_pos ⟨by omega, by omega⟩]
                have b7 := (hT.2.2 (q + 6) (by omega)).2
                refine V.bipush (v := nI 97) X dX12_isInvariant_85 (by decide) ?_
                refine V.icmp_ne 116 X dX12_isInvariant_87 (by decide) (fun c87 => ?_) (fun c87 => ?_)
                · rw [nI_eq (by omega) (by omega)] at c87
                  have e0 : decide (hdC r = 301) = false := decide_eq_false (fun z => by
                    have z2 := (v8 1 (by decide)).mp z
                    rw [wd_1] at z2
                    unfold wdP1 at z2
                    omega)
                  refine V.iconst (v := nI 0) X dX12_isInvariant_116 (by decide) ?_
                  exact V.bret X Y9 dX12_isInvariant_117 (decide (hdC r = 301)) (by rw [e0]; rfl) ⟨rfl, rfl⟩ (Nat.le_of_ble_eq_true rfl) (Nat.le_of_ble_eq_true rfl)
                · rw [nI_eq (by omega) (by omega)] at c87
                  refine V.aload_n X dX12_isInvariant_90 rfl ?_
                  refine V.bipush (v := nI 7) X dX12_isInvariant_91 (by decide) ?_
                  refine V.callVi (n := 1) X dX12_isInvariant_93 gX12_isInvariant_X12_letter (c_X12_letter _ _ K hT hV (by decide)) rfl (by decide +kernel) rfl rfl rfl K.1 rfl rfl ⟨Nat.le_of_ble_eq_true rfl, Nat.le_of_ble_eq_true rfl⟩ (fun r93 h93 hp93 => ?_)
                  obtain ⟨rfl, e9⟩ := hp93; obtain rfl := e9.symm
                  rw [if_pos ⟨by omega, by omega⟩]
                  have b8 := (hT.2.2 (q + 7) (by omega)).2
                  refine V.bipush (v := nI 110) X dX12_isInvariant_96 (by decide) ?_
                  refine V.icmp_ne 116 X dX12_isInvariant_98 (by decide) (fun c98 => ?_) (fun c98 => ?_)
                  · rw [nI_eq (by omega) (by omega)] at c98
                    have e0 : decide (hdC r = 301) = false := decide_eq_false (fun z => by
                      have z2 := (v8 1 (by decide)).mp z
                      rw [wd_1] at z2
                      unfold wdP1 at z2
                      omega)
                    refine V.iconst (v := nI 0) X dX12_isInvariant_116 (by decide) ?_
                    exact V.bret X Y9 dX12_isInvariant_117 (decide (hdC r = 301)) (by rw [e0]; rfl) ⟨rfl, rfl⟩ (Nat.le_of_ble_eq_true rfl) (Nat.le_of_ble_eq_true rfl)
                  · rw [nI_eq (by omega) (by omega)] at c98
                    refine V.aload_n X dX12_isInvariant_101 rfl ?_
                    refine V.bipush (v := nI 8) X dX12_isInvariant_102 (by decide) ?_
                    refine V.callVi (n := 1) X dX12_isInvariant_104 gX12_isInvariant_X12_letter (c_X12_letter _ _ K hT hV (by decide)) rfl (by decide +kernel) rfl rfl rfl K.1 rfl rfl ⟨Nat.le_of_ble_eq_true rfl, Nat.le_of_ble_eq_true rfl⟩ (fun r104 h104 hp104 => ?_)
                    obtain ⟨rfl, e9⟩ := hp104; obtain rfl := e9.symm
                    rw [if_pos ⟨by omega, by omega⟩]
                    have b9 := (hT.2.2 (q + 8) (by omega)).2
                    refine V.bipush (v := nI 116) X dX12_isInvariant_107 (by decide) ?_
                    refine V.icmp_ne 116 X dX12_isInvariant_109 (by decide) (fun c109 => ?_) (fun c109 => ?_)
                    · rw [nI_eq (by omega) (by omega)] at c109
                      have e0 : decide (hdC r = 301) = false := decide_eq_false (fun z => by
                        have z2 := (v8 1 (by decide)).mp z
                        rw [wd_1] at z2
                        unfold wdP1 at z2
                        omega)
                      refine V.iconst (v := nI 0) X dX12_isInvariant_116 (by decide) ?_
                      exact V.bret X Y9 dX12_isInvariant_117 (decide (hdC r = 301)) (by rw [e0]; rfl) ⟨rfl, rfl⟩ (Nat.le_of_ble_eq_true rfl) (Nat.le_of_ble_eq_true rfl)
                    · rw [nI_eq (by omega) (by omega)] at c109
                      have e0 : decide (hdC r = 301) = true := decide_eq_true ((v8 1 (by decide)).mpr ⟨by omega, (wd_1 t q e).mpr (by unfold wdP1; omega)⟩)
                      refine V.iconst (v := nI 1) X dX12_isInvariant_112 (by decide) ?_
                      refine V.goto 117 X dX12_isInvariant_113 (by decide) ?_
                      exact V.bret X Y9 dX12_isInvariant_117 (decide (hdC r = 301)) (by rw [e0]; rfl) ⟨rfl, rfl⟩ (Nat.le_of_ble_eq_true rfl) (Nat.le_of_ble_eq_true rfl)
set_option maxHeartbeats 4000000 in
set_option maxRecDepth 100000 in
theorem c_X12_isMethod (l : Launch) (G : GG) {h : Hp} {M : Nat} {m : Md} (K : MdK h M) {t : List Nat} (hT : TxM m t) {r : List Tok} {q e so : Nat} (hV : LxV m t r q e so)  : Con l G yX12_isMethod wsX12_isMethod 1 21 0 0 [.ref M] (Hm h M m) (pI (fun x h2 => x = bI (decide (hdC r = 302)) ∧ h2 = Hm h M m)) := by
  refine Con.of (cc := cX12_isMethod) (nL := 1) (ret := (some .boolean)) (by decide) rfl rfl rfl rfl (fun Γ hG hl X Y9 => ?_)
  subst hG
  subst hl
  obtain ⟨v1, v2, v3, v4, v5, v6, v7, v8, v9, v10, v11, v12, v13⟩ := id hV
  have hl := hT.2.1
  refine V.aload_n X dX12_isMethod_0 rfl ?_
  refine V.bipush (v := nI 6) X dX12_isMethod_1 (by decide) ?_
  refine V.callVi (n := 1) X dX12_isMethod_3 gX12_isMethod_X12_isSize (c_X12_isSize _ _ K hT hV (by decide)) rfl (by decide +kernel) rfl rfl rfl K.1 rfl rfl ⟨Nat.le_of_ble_eq_true rfl, Nat.le_of_ble_eq_true rfl⟩ (fun r3 h3 hp3 => ?_)
  obtain ⟨rfl, e9⟩ := hp3; obtain rfl := e9.symm
  refine V.if_eq 73 X dX12_isMethod_6 (by decide) (fun c6 => ?_) (fun c6 => ?_)
  · have c6 := bI_eq c6
    have c6 := of_decide_eq_false c6
    have e0 : decide (hdC r = 302) = false := decide_eq_false (fun z => by
      have z2 := (v8 2 (by decide)).mp z
      rw [wd_2] at z2
      unfold wdP2 at z2
      omega)
    refine V.iconst (v := nI 0) X dX12_isMethod_73 (by decide) ?_
    exact V.bret X Y9 dX12_isMethod_74 (decide (hdC r = 302)) (by rw [e0]; rfl) ⟨rfl, rfl⟩ (Nat.le_of_ble_eq_true rfl) (Nat.le_of_ble_eq_true rfl)
  · have c6 := bI_ne c6
    have c6 := of_decide_eq_true c6
    refine V.aload_n X dX12_isMethod_9 rfl ?_
    refine V.iconst (v := nI 0) X dX12_isMethod_10 (by decide) ?_
    refine V.callVi (n := 1) X dX12_isMethod_11 gX12_isMethod_X12_letter (c_X12_letter _ _ K hT hV (by decide)) rfl (by decide +kernel) rfl rfl rfl K.1 rfl rfl ⟨Nat.le_of_ble_eq_true rfl, Nat.le_of_ble_eq_true rfl⟩ (fun r11 h11 hp11 => ?_)
    obtain ⟨rfl, e9⟩ := hp11; obtain rfl := e9.symm
    rw [if_pos ⟨by omega, by omega⟩]
    have b1 := (hT.2.2 (q + 0) (by omega)).2
    refine V.bipush (v := nI 109) X dX12_isMethod_14 (by decide) ?_
    refine V.icmp_ne 73 X dX12_isMethod_16 (by decide) (fun c16 => ?_) (fun c16 => ?_)
    · rw [nI_eq (by omega) (by omega)] at c16
      have e0 : decide (hdC r = 302) = false := decide_eq_false (fun z => by
        have z2 := (v8 2 (by decide)).mp z
        rw [wd_2] at z2
        unfold wdP2 at z2
        omega)
      refine V.iconst (v := nI 0) X dX12_isMethod_73 (by decide) ?_
      exact V.bret X Y9 dX12_isMethod_74 (decide (hdC r = 302)) (by rw [e0]; rfl) ⟨rfl, rfl⟩ (Nat.le_of_ble_eq_true rfl) (Nat.le_of_ble_eq_true rfl)
    · rw [nI_eq (by omega) (by omega)] at c16
      refine V.aload_n X dX12_isMethod_19 rfl ?_
      refine V.iconst (v := nI 1) X dX12_isMethod_20 (by decide) ?_
      refine V.callVi (n := 1) X dX12_isMethod_21 gX12_isMethod_X12_letter (c_X12_letter _ _ K hT hV (by decide)) rfl (by decide +kernel) rfl rfl rfl K.1 rfl rfl ⟨Nat.le_of_ble_eq_true rfl, Nat.le_of_ble_eq_true rfl⟩ (fun r21 h21 hp21 => ?_)
      obtain ⟨rfl, e9⟩ := hp21; obtain rfl := e9.symm
      rw [if_pos ⟨by omega, by omega⟩]
      have b2 := (hT.2.2 (q + 1) (by omega)).2
      refine V.bipush (v := nI 101) X dX12_isMethod_24 (by decide) ?_
      refine V.icmp_ne 73 X dX12_isMethod_26 (by decide) (fun c26 => ?_) (fun c26 => ?_)
      · rw [nI_eq (by omega) (by omega)] at c26
        have e0 : decide (hdC r = 302) = false := decide_eq_false (fun z => by
          have z2 := (v8 2 (by decide)).mp z
          rw [wd_2] at z2
          unfold wdP2 at z2
          omega)
        refine V.iconst (v := nI 0) X dX12_isMethod_73 (by decide) ?_
        exact V.bret X Y9 dX12_isMethod_74 (decide (hdC r = 302)) (by rw [e0]; rfl) ⟨rfl, rfl⟩ (Nat.le_of_ble_eq_true rfl) (Nat.le_of_ble_eq_true rfl)
      · rw [nI_eq (by omega) (by omega)] at c26
        refine V.aload_n X dX12_isMethod_29 rfl ?_
        refine V.iconst (v := nI 2) X dX12_isMethod_30 (by decide) ?_
        refine V.callVi (n := 1) X dX12_isMethod_31 gX12_isMethod_X12_letter (c_X12_letter _ _ K hT hV (by decide)) rfl (by decide +kernel) rfl rfl rfl K.1 rfl rfl ⟨Nat.le_of_ble_eq_true rfl, Nat.le_of_ble_eq_true rfl⟩ (fun r31 h31 hp31 => ?_)
        obtain ⟨rfl, e9⟩ := hp31; obtain rfl := e9.symm
        rw [if_pos ⟨by omega, by omega⟩]
        have b3 := (hT.2.2 (q + 2) (by omega)).2
        refine V.bipush (v := nI 116) X dX12_isMethod_34 (by decide) ?_
        refine V.icmp_ne 73 X dX12_isMethod_36 (by decide) (fun c36 => ?_) (fun c36 => ?_)
        · rw [nI_eq (by omega) (by omega)] at c36
          have e0 : decide (hdC r = 302) = false := decide_eq_false (fun z => by
            have z2 := (v8 2 (by decide)).mp z
            rw [wd_2] at z2
            unfold wdP2 at z2
            omega)
          refine V.iconst (v := nI 0) X dX12_isMethod_73 (by decide) ?_
          exact V.bret X Y9 dX12_isMethod_74 (decide (hdC r = 302)) (by rw [e0]; rfl) ⟨rfl, rfl⟩ (Nat.le_of_ble_eq_true rfl) (Nat.le_of_ble_eq_true rfl)
        · rw [nI_eq (by omega) (by omega)] at c36
          refine V.aload_n X dX12_isMethod_39 rfl ?_
          refine V.iconst (v := nI 3) X dX12_isMethod_40 (by decide) ?_
          refine V.callVi (n := 1) X dX12_isMethod_41 gX12_isMethod_X12_letter (c_X12_letter _ _ K hT hV (by decide)) rfl (by decide +kernel) rfl rfl rfl K.1 rfl rfl ⟨Nat.le_of_ble_eq_true rfl, Nat.le_of_ble_eq_true rfl⟩ (fun r41 h41 hp41 => ?_)
          obtain ⟨rfl, e9⟩ := hp41; obtain rfl := e9.symm
          rw [if_pos ⟨by omega, by omega⟩]
          have b4 := (hT.2.2 (q + 3) (by omega)).2
          refine V.bipush (v := nI 104) X dX12_isMethod_44 (by decide) ?_
          refine V.icmp_ne 73 X dX12_isMethod_46 (by decide) (fun c46 => ?_) (fun c46 => ?_)
          · rw [nI_eq (by omega) (by omega)] at c46
            have e0 : decide (hdC r = 302) = false := decide_eq_false (fun z => by
              have z2 := (v8 2 (by decide)).mp z
              rw [wd_2] at z2
              unfold wdP2 at z2
              omega)
            refine V.iconst (v := nI 0) X dX12_isMethod_73 (by decide) ?_
            exact V.bret X Y9 dX12_isMethod_74 (decide (hdC r = 302)) (by rw [e0]; rfl) ⟨rfl, rfl⟩ (Nat.le_of_ble_eq_true rfl) (Nat.le_of_ble_eq_true rfl)
          · rw [nI_eq (by omega) (by omega)] at c46
            refine V.aload_n X dX12_isMethod_49 rfl ?_
            refine V.iconst (v := nI 4) X dX12_isMethod_50 (by decide) ?_
            refine V.callVi (n := 1) X dX12_isMethod_51 gX12_isMethod_X12_letter (c_X12_letter _ _ K hT hV (by decide)) rfl (by decide +kernel) rfl rfl rfl K.1 rfl rfl ⟨Nat.le_of_ble_eq_true rfl, Nat.le_of_ble_eq_true rfl⟩ (fun r51 h51 hp51 => ?_)
            obtain ⟨rfl, e9⟩ := hp51; obtain rfl := e9.symm
            rw [if_pos ⟨by omega, by omega⟩]
            have b5 := (hT.2.2 (q + 4) (by omega)).2
            refine V.bipush (v := nI 111) X dX12_isMethod_54 (by decide) ?_
            refine V.icmp_ne 73 X dX12_isMethod_56 (by decide) (fun c56 => ?_) (fun c56 => ?_)
            · rw [nI_eq (by omega) (by omega)] at c56
              have e0 : decide (hdC r = 302) = false := decide_eq_false (fun z => by
                have z2 := (v8 2 (by decide)).mp z
                rw [wd_2] at z2
                unfold wdP2 at z2
                omega)
              refine V.iconst (v := nI 0) X dX12_isMethod_73 (by decide) ?_
              exact V.bret X Y9 dX12_isMethod_74 (decide (hdC r = 302)) (by rw [e0]; rfl) ⟨rfl, rfl⟩ (Nat.le_of_ble_eq_true rfl) (Nat.le_of_ble_eq_true rfl)
            · rw [nI_eq (by omega) (by omega)] at c56
              refine V.aload_n X dX12_isMethod_59 rfl ?_
              refine V.iconst (v := nI 5) X dX12_isMethod_60 (by decide) ?_
              refine V.callVi (n := 1) X dX12_isMethod_61 gX12_isMethod_X12_letter (c_X12_letter _ _ K hT hV (by decide)) rfl (by decide +kernel) rfl rfl rfl K.1 rfl rfl ⟨Nat.le_of_ble_eq_true rfl, Nat.le_of_ble_eq_true rfl⟩ (fun r61 h61 hp61 => ?_)
              obtain ⟨rfl, e9⟩ := hp61; obtain rfl := e9.symm
              rw [if_pos ⟨by omega, by omega⟩]
              have b6 := (hT.2.2 (q + 5) (by omega)).2
              refine V.bipush (v := nI 100) X dX12_isMethod_64 (by decide) ?_
              refine V.icmp_ne 73 X dX12_isMethod_66 (by decide) (fun c66 => ?_) (fun c66 => ?_)
              · rw [nI_eq (by omega) (by omega)] at c66
                have e0 : decide (hdC r = 302) = false := decide_eq_false (fun z => by
                  have z2 := (v8 2 (by decide)).mp z
                  rw [wd_2] at z2
                  unfold wdP2 at z2
                  omega)
                refine V.iconst (v := nI 0) X dX12_isMethod_73 (by decide) ?_
                exact V.bret X Y9 dX12_isMethod_74 (decide (hdC r = 302)) (by rw [e0]; rfl) ⟨rfl, rfl⟩ (Nat.le_of_ble_eq_true rfl) (Nat.le_of_ble_eq_true rfl)
              · rw [nI_eq (by omega) (by omega)] at c66
                have e0 : decide (hdC r = 302) = true := decide_eq_true ((v8 2 (by decide)).mpr ⟨by omega, (wd_2 t q e).mpr (by unfold wdP2; omega)⟩)
                refine V.iconst (v := nI 1) X dX12_isMethod_69 (by decide) ?_
                refine V.goto 74 X dX12_isMethod_70 (by decide) ?_
                exact V.bret X Y9 dX12_isMethod_74 (decide (hdC r = 302)) (by rw [e0]; rfl) ⟨rfl, rfl⟩ (Nat.le_of_ble_eq_true rfl) (Nat.le_of_ble_eq_true rfl)
set_option maxHeartbeats 4000000 in
set_option maxRecDepth 100000 in
theorem c_X12_isRequire (l : Launch) (G : GG) {h : Hp} {M : Nat} {m : Md} (K : MdK h M) {t : List Nat} (hT : TxM m t) {r : List Tok} {q e so : Nat} (hV : LxV m t r q e so)  : Con l G yX12_isRequire wsX12_isRequire 1 21 0 0 [.ref M] (Hm h M m) (pI (fun x h2 => x = bI (decide (hdC r = 303)) ∧ h2 = Hm h M m)) := by
  refine Con.of (cc := cX12_isRequire) (nL := 2) (ret := (some .boolean)) (by decide) rfl rfl rfl rfl (fun Γ hG hl X Y9 => ?_)
  subst hG
  subst hl
  obtain ⟨v1, v2, v3, v4, v5, v6, v7, v8, v9, v10, v11, v12, v13⟩ := id hV
  have hl := hT.2.1
  refine V.aload_n X dX12_isRequire_0 rfl ?_
  refine V.bipush (v := nI 7) X dX12_isRequire_1 (by decide) ?_
  refine V.callVi (n := 1) X dX12_isRequire_3 gX12_isRequire_X12_isSize (c_X12_isSize _ _ K hT hV (by decide)) rfl (by decide +kernel) rfl rfl rfl K.1 rfl rfl ⟨Nat.le_of_ble_eq_true rfl, Nat.le_of_ble_eq_true rfl⟩ (fun r3 h3 hp3 => ?_)
  obtain ⟨rfl, e9⟩ := hp3; obtain rfl := e9.symm
  refine V.if_eq 53 X dX12_isRequire_6 (by decide) (fun c6 => ?_) (fun c6 => ?_)
  · have c6 := bI_eq c6
    have c6 := of_decide_eq_false c6
    have e0 : decide (hdC r = 303) = false := decide_eq_false (fun z => by
      have z2 := (v8 3 (by decide)).mp z
      rw [wd_3] at z2
      unfold wdP3 at z2
      omega)
    refine V.iconst (v := nI 0) X dX12_isRequire_53 (by decide) ?_
    refine V.istore_n X dX12_isRequire_54 [(0, _), (1, _)] rfl rfl rfl ?_
    refine V.iload_n X dX12_isRequire_55 rfl ?_
    refine V.if_eq 94 X dX12_isRequire_56 (by decide) (fun c56 => ?_) (fun c56 => False.elim (by revert c56; decide))
    refine V.iconst (v := nI 0) X dX12_isRequire_94 (by decide) ?_
    exact V.bret X Y9 dX12_isRequire_95 (decide (hdC r = 303)) (by rw [e0]; rfl) ⟨rfl, rfl⟩ (Nat.le_of_ble_eq_true rfl) (Nat.le_of_ble_eq_true rfl)
  · have c6 := bI_ne c6
    have c6 := of_decide_eq_true c6
    refine V.aload_n X dX12_isRequire_9 rfl ?_
    refine V.iconst (v := nI 0) X dX12_isRequire_10 (by decide) ?_
    refine V.callVi (n := 1) X dX12_isRequire_11 gX12_isRequire_X12_letter (c_X12_letter _ _ K hT hV (by decide)) rfl (by decide +kernel) rfl rfl rfl K.1 rfl rfl ⟨Nat.le_of_ble_eq_true rfl, Nat.le_of_ble_eq_true rfl⟩ (fun r11 h11 hp11 => ?_)
    obtain ⟨rfl, e9⟩ := hp11; obtain rfl := e9.symm
    rw [if_pos ⟨by omega, by omega⟩]
    have b1 := (hT.2.2 (q + 0) (by omega)).2
    refine V.bipush (v := nI 114) X dX12_isRequire_14 (by decide) ?_
    refine V.icmp_ne 53 X dX12_isRequire_16 (by decide) (fun c16 => ?_) (fun c16 => ?_)
    · rw [nI_eq (by omega) (by omega)] at c16
      have e0 : decide (hdC r = 303) = false := decide_eq_false (fun z => by
        have z2 := (v8 3 (by decide)).mp z
        rw [wd_3] at z2
        unfold wdP3 at z2
        omega)
      refine V.iconst (v := nI 0) X dX12_isRequire_53 (by decide) ?_
      refine V.istore_n X dX12_isRequire_54 [(0, _), (1, _)] rfl rfl rfl ?_
      refine V.iload_n X dX12_isRequire_55 rfl ?_
      refine V.if_eq 94 X dX12_isRequire_56 (by decide) (fun c56 => ?_) (fun c56 => False.elim (by revert c56; decide))
      refine V.iconst (v := nI 0) X dX12_isRequire_94 (by decide) ?_
      exact V.bret X Y9 dX12_isRequire_95 (decide (hdC r = 303)) (by rw [e0]; rfl) ⟨rfl, rfl⟩ (Nat.le_of_ble_eq_true rfl) (Nat.le_of_ble_eq_true rfl)
    · rw [nI_eq (by omega) (by omega)] at c16
      refine V.aload_n X dX12_isRequire_19 rfl ?_
      refine V.iconst (v := nI 1) X dX12_isRequire_20 (by decide) ?_
      refine V.callVi (n := 1) X dX12_isRequire_21 gX12_isRequire_X12_letter (c_X12_letter _ _ K hT hV (by decide)) rfl (by decide +kernel) rfl rfl rfl K.1 rfl rfl ⟨Nat.le_of_ble_eq_true rfl, Nat.le_of_ble_eq_true rfl⟩ (fun r21 h21 hp21 => ?_)
      obtain ⟨rfl, e9⟩ := hp21; obtain rfl := e9.symm
      rw [if_pos ⟨by omega, by omega⟩]
      have b2 := (hT.2.2 (q + 1) (by omega)).2
      refine V.bipush (v := nI 101) X dX12_isRequire_24 (by decide) ?_
      refine V.icmp_ne 53 X dX12_isRequire_26 (by decide) (fun c26 => ?_) (fun c26 => ?_)
      · rw [nI_eq (by omega) (by omega)] at c26
        have e0 : decide (hdC r = 303) = false := decide_eq_false (fun z => by
          have z2 := (v8 3 (by decide)).mp z
          rw [wd_3] at z2
          unfold wdP3 at z2
          omega)
        refine V.iconst (v := nI 0) X dX12_isRequire_53 (by decide) ?_
        refine V.istore_n X dX12_isRequire_54 [(0, _), (1, _)] rfl rfl rfl ?_
        refine V.iload_n X dX12_isRequire_55 rfl ?_
        refine V.if_eq 94 X dX12_isRequire_56 (by decide) (fun c56 => ?_) (fun c56 => False.elim (by revert c56; decide))
        refine V.iconst (v := nI 0) X dX12_isRequire_94 (by decide) ?_
        exact V.bret X Y9 dX12_isRequire_95 (decide (hdC r = 303)) (by rw [e0]; rfl) ⟨rfl, rfl⟩ (Nat.le_of_ble_eq_true rfl) (Nat.le_of_ble_eq_true rfl)
      · rw [nI_eq (by omega) (by omega)] at c26
        refine V.aload_n X dX12_isRequire_29 rfl ?_
        refine V.iconst (v := nI 2) X dX12_isRequire_30 (by decide) ?_
        refine V.callVi (n := 1) X dX12_isRequire_31 gX12_isRequire_X12_letter (c_X12_letter _ _ K hT hV (by decide)) rfl (by decide +kernel) rfl rfl rfl K.1 rfl rfl ⟨Nat.le_of_ble_eq_true rfl, Nat.le_of_ble_eq_true rfl⟩ (fun r31 h31 hp31 => ?_)
        obtain ⟨rfl, e9⟩ := hp31; obtain rfl := e9.symm
        rw [if_pos ⟨by omega, by omega⟩]
        have b3 := (hT.2.2 (q + 2) (by omega)).2
        refine V.bipush (v := nI 113) X dX12_isRequire_34 (by decide) ?_
        refine V.icmp_ne 53 X dX12_isRequire_36 (by decide) (fun c36 => ?_) (fun c36 => ?_)
        · rw [nI_eq (by omega) (by omega)] at c36
          have e0 : decide (hdC r = 303) = false := decide_eq_false (fun z => by
            have z2 := (v8 3 (by decide)).mp z
            rw [wd_3] at z2
            unfold wdP3 at z2
            omega)
          refine V.iconst (v := nI 0) X dX12_isRequire_53 (by decide) ?_
          refine V.istore_n X dX12_isRequire_54 [(0, _), (1, _)] rfl rfl rfl ?_
          refine V.iload_n X dX12_isRequire_55 rfl ?_
          refine V.if_eq 94 X dX12_isRequire_56 (by decide) (fun c56 => ?_) (fun c56 => False.elim (by revert c56; decide))
          refine V.iconst (v := nI 0) X dX12_isRequire_94 (by decide) ?_
          exact V.bret X Y9 dX12_isRequire_95 (decide (hdC r = 303)) (by rw [e0]; rfl) ⟨rfl, rfl⟩ (Nat.le_of_ble_eq_true rfl) (Nat.le_of_ble_eq_true rfl)
        · rw [nI_eq (by omega) (by omega)] at c36
          refine V.aload_n X dX12_isRequire_39 rfl ?_
          refine V.iconst (v := nI 3) X dX12_isRequire_40 (by decide) ?_
          refine V.callVi (n := 1) X dX12_isRequire_41 gX12_isRequire_X12_letter (c_X12_letter _ _ K hT hV (by decide)) rfl (by decide +kernel) rfl rfl rfl K.1 rfl rfl ⟨Nat.le_of_ble_eq_true rfl, Nat.le_of_ble_eq_true rfl⟩ (fun r41 h41 hp41 => ?_)
          obtain ⟨rfl, e9⟩ := hp41; obtain rfl := e9.symm
          rw [if_pos ⟨by omega, by omega⟩]
          have b4 := (hT.2.2 (q + 3) (by omega)).2
          refine V.bipush (v := nI 117) X dX12_isRequire_44 (by decide) ?_
          refine V.icmp_ne 53 X dX12_isRequire_46 (by decide) (fun c46 => ?_) (fun c46 => ?_)
          · rw [nI_eq (by omega) (by omega)] at c46
            have e0 : decide (hdC r = 303) = false := decide_eq_false (fun z => by
              have z2 := (v8 3 (by decide)).mp z
              rw [wd_3] at z2
              unfold wdP3 at z2
              omega)
            refine V.iconst (v := nI 0) X dX12_isRequire_53 (by decide) ?_
            refine V.istore_n X dX12_isRequire_54 [(0, _), (1, _)] rfl rfl rfl ?_
            refine V.iload_n X dX12_isRequire_55 rfl ?_
            refine V.if_eq 94 X dX12_isRequire_56 (by decide) (fun c56 => ?_) (fun c56 => False.elim (by revert c56; decide))
            refine V.iconst (v := nI 0) X dX12_isRequire_94 (by decide) ?_
            exact V.bret X Y9 dX12_isRequire_95 (decide (hdC r = 303)) (by rw [e0]; rfl) ⟨rfl, rfl⟩ (Nat.le_of_ble_eq_true rfl) (Nat.le_of_ble_eq_true rfl)
          · rw [nI_eq (by omega) (by omega)] at c46
            refine V.iconst (v := nI 1) X dX12_isRequire_49 (by decide) ?_
            refine V.goto 54 X dX12_isRequire_50 (by decide) ?_
            refine V.istore_n X dX12_isRequire_54 [(0, _), (1, _)] rfl rfl rfl ?_
            refine V.iload_n X dX12_isRequire_55 rfl ?_
            refine V.if_eq 94 X dX12_isRequire_56 (by decide) (fun c56 => False.elim (by revert c56; decide)) (fun c56 => ?_)
            refine V.aload_n X dX12_isRequire_59 rfl ?_
            refine V.iconst (v := nI 4) X dX12_isRequire_60 (by decide) ?_
            refine V.callVi (n := 1) X dX12_isRequire_61 gX12_isRequire_X12_letter (c_X12_letter _ _ K hT hV (by decide)) rfl (by decide +kernel) rfl rfl rfl K.1 rfl rfl ⟨Nat.le_of_ble_eq_true rfl, Nat.le_of_ble_eq_true rfl⟩ (fun r61 h61 hp61 => ?_)
            obtain ⟨rfl, e9⟩ := hp61; obtain rfl := e9.symm
            rw [if_pos ⟨by omega, by omega⟩]
            have b5 := (hT.2.2 (q + 4) (by omega)).2
            refine V.bipush (v := nI 105) X dX12_isRequire_64 (by decide) ?_
            refine V.icmp_ne 94 X dX12_isRequire_66 (by decide) (fun c66 => ?_) (fun c66 => ?_)
            · rw [nI_eq (by omega) (by omega)] at c66
              have e0 : decide (hdC r = 303) = false := decide_eq_false (fun z => by
                have z2 := (v8 3 (by decide)).mp z
                rw [wd_3] at z2
                unfold wdP3 at z2
                omega)
              refine V.iconst (v := nI 0) X dX12_isRequire_94 (by decide) ?_
              exact V.bret X Y9 dX12_isRequire_95 (decide (hdC r = 303)) (by rw [e0]; rfl) ⟨rfl, rfl⟩ (Nat.le_of_ble_eq_true rfl) (Nat.le_of_ble_eq_true rfl)
            · rw [nI_eq (by omega) (by omega)] at c66
              refine V.aload_n X dX12_isRequire_69 rfl ?_
              refine V.iconst (v := nI 5) X dX12_isRequire_70 (by decide) ?_
              refine V.callVi (n := 1) X dX12_isRequire_71 gX12_isRequire_X12_letter (c_X12_letter _ _ K hT hV (by decide)) rfl (by decide +kernel) rfl rfl rfl K.1 rfl rfl ⟨Nat.le_of_ble_eq_true rfl, Nat.le_of_ble_eq_true rfl⟩ (fun r71 h71 hp71 => ?_)
              obtain ⟨rfl, e9⟩ := hp71; obtain rfl := e9.symm
              rw [if_pos ⟨by omega, by omega⟩]
              have b6 := (hT.2.2 (q + 5) (by omega)).2
              refine V.bipush (v := nI 114) X dX12_isRequire_74 (by decide) ?_
              refine V.icmp_ne 94 X dX12_isRequire_76 (by decide) (fun c76 => ?_) (fun c76 => ?_)
              · rw [nI_eq (by omega) (by omega)] at c76
                have e0 : decide (hdC r = 303) = false := decide_eq_false (fun z => by
                  have z2 := (v8 3 (by decide)).mp z
                  rw [wd_3] at z2
                  unfold wdP3 at z2
                  omega)
                refine V.iconst (v := nI 0) X dX12_isRequire_94 (by decide) ?_
                exact V.bret X Y9 dX12_isRequire_95 (decide (hdC r = 303)) (by rw [e0]; rfl) ⟨rfl, rfl⟩ (Nat.le_of_ble_eq_true rfl) (Nat.le_of_ble_eq_true rfl)
              · rw [nI_eq (by omega) (by omega)] at c76
                refine V.aload_n X dX12_isRequire_79 rfl ?_
                refine V.bipush (v := nI 6) X dX12_isRequire_80 (by decide) ?_
                refine V.callVi (n := 1) X dX12_isRequire_82 gX12_isRequire_X12_letter (c_X12_letter _ _ K hT hV (by decide)) rfl (by decide +kernel) rfl rfl rfl K.1 rfl rfl ⟨Nat.le_of_ble_eq_true rfl, Nat.le_of_ble_eq_true rfl⟩ (fun r82 h82 hp82 => ?_)
                obtain ⟨rfl, e9⟩ := hp82; obtain rfl := e9.symm
                rw [if_pos ⟨by omega, by omega⟩]
                have b7 := (hT.2.2 (q + 6) (by omega)).2
                refine V.bipush (v := nI 101) X dX12_isRequire_85 (by decide) ?_
                refine V.icmp_ne 94 X dX12_isRequire_87 (by decide) (fun c87 => ?_) (fun c87 => ?_)
                · rw [nI_eq (by omega) (by omega)] at c87
                  have e0 : decide (hdC r = 303) = false := decide_eq_false (fun z => by
                    have z2 := (v8 3 (by decide)).mp z
                    rw [wd_3] at z2
                    unfold wdP3 at z2
                    omega)
                  refine V.iconst (v := nI 0) X dX12_isRequire_94 (by decide) ?_
                  exact V.bret X Y9 dX12_isRequire_95 (decide (hdC r = 303)) (by rw [e0]; rfl) ⟨rfl, rfl⟩ (Nat.le_of_ble_eq_true rfl) (Nat.le_of_ble_eq_true rfl)
                · rw [nI_eq (by omega) (by omega)] at c87
                  have e0 : decide (hdC r = 303) = true := decide_eq_true ((v8 3 (by decide)).mpr ⟨by omega, (wd_3 t q e).mpr (by unfold wdP3; omega)⟩)
                  refine V.iconst (v := nI 1) X dX12_isRequire_90 (by decide) ?_
                  refine V.goto 95 X dX12_isRequire_91 (by decide) ?_
                  exact V.bret X Y9 dX12_isRequire_95 (decide (hdC r = 303)) (by rw [e0]; rfl) ⟨rfl, rfl⟩ (Nat.le_of_ble_eq_true rfl) (Nat.le_of_ble_eq_true rfl)
set_option maxHeartbeats 4000000 in
set_option maxRecDepth 100000 in
theorem c_X12_isDo (l : Launch) (G : GG) {h : Hp} {M : Nat} {m : Md} (K : MdK h M) {t : List Nat} (hT : TxM m t) {r : List Tok} {q e so : Nat} (hV : LxV m t r q e so)  : Con l G yX12_isDo wsX12_isDo 1 21 0 0 [.ref M] (Hm h M m) (pI (fun x h2 => x = bI (decide (hdC r = 304)) ∧ h2 = Hm h M m)) := by
  refine Con.of (cc := cX12_isDo) (nL := 1) (ret := (some .boolean)) (by decide) rfl rfl rfl rfl (fun Γ hG hl X Y9 => ?_)
  subst hG
  subst hl
  obtain ⟨v1, v2, v3, v4, v5, v6, v7, v8, v9, v10, v11, v12, v13⟩ := id hV
  have hl := hT.2.1
  refine V.aload_n X dX12_isDo_0 rfl ?_
  refine V.iconst (v := nI 2) X dX12_isDo_1 (by decide) ?_
  refine V.callVi (n := 1) X dX12_isDo_2 gX12_isDo_X12_isSize (c_X12_isSize _ _ K hT hV (by decide)) rfl (by decide +kernel) rfl rfl rfl K.1 rfl rfl ⟨Nat.le_of_ble_eq_true rfl, Nat.le_of_ble_eq_true rfl⟩ (fun r2 h2 hp2 => ?_)
  obtain ⟨rfl, e9⟩ := hp2; obtain rfl := e9.symm
  refine V.if_eq 32 X dX12_isDo_5 (by decide) (fun c5 => ?_) (fun c5 => ?_)
  · have c5 := bI_eq c5
    have c5 := of_decide_eq_false c5
    have e0 : decide (hdC r = 304) = false := decide_eq_false (fun z => by
      have z2 := (v8 4 (by decide)).mp z
      rw [wd_4] at z2
      unfold wdP4 at z2
      omega)
    refine V.iconst (v := nI 0) X dX12_isDo_32 (by decide) ?_
    exact V.bret X Y9 dX12_isDo_33 (decide (hdC r = 304)) (by rw [e0]; rfl) ⟨rfl, rfl⟩ (Nat.le_of_ble_eq_true rfl) (Nat.le_of_ble_eq_true rfl)
  · have c5 := bI_ne c5
    have c5 := of_decide_eq_true c5
    refine V.aload_n X dX12_isDo_8 rfl ?_
    refine V.iconst (v := nI 0) X dX12_isDo_9 (by decide) ?_
    refine V.callVi (n := 1) X dX12_isDo_10 gX12_isDo_X12_letter (c_X12_letter _ _ K hT hV (by decide)) rfl (by decide +kernel) rfl rfl rfl K.1 rfl rfl ⟨Nat.le_of_ble_eq_true rfl, Nat.le_of_ble_eq_true rfl⟩ (fun r10 h10 hp10 => ?_)
    obtain ⟨rfl, e9⟩ := hp10; obtain rfl := e9.symm
    rw [if_pos ⟨by omega, by omega⟩]
    have b1 := (hT.2.2 (q + 0) (by omega)).2
    refine V.bipush (v := nI 100) X dX12_isDo_13 (by decide) ?_
    refine V.icmp_ne 32 X dX12_isDo_15 (by decide) (fun c15 => ?_) (fun c15 => ?_)
    · rw [nI_eq (by omega) (by omega)] at c15
      have e0 : decide (hdC r = 304) = false := decide_eq_false (fun z => by
        have z2 := (v8 4 (by decide)).mp z
        rw [wd_4] at z2
        unfold wdP4 at z2
        omega)
      refine V.iconst (v := nI 0) X dX12_isDo_32 (by decide) ?_
      exact V.bret X Y9 dX12_isDo_33 (decide (hdC r = 304)) (by rw [e0]; rfl) ⟨rfl, rfl⟩ (Nat.le_of_ble_eq_true rfl) (Nat.le_of_ble_eq_true rfl)
    · rw [nI_eq (by omega) (by omega)] at c15
      refine V.aload_n X dX12_isDo_18 rfl ?_
      refine V.iconst (v := nI 1) X dX12_isDo_19 (by decide) ?_
      refine V.callVi (n := 1) X dX12_isDo_20 gX12_isDo_X12_letter (c_X12_letter _ _ K hT hV (by decide)) rfl (by decide +kernel) rfl rfl rfl K.1 rfl rfl ⟨Nat.le_of_ble_eq_true rfl, Nat.le_of_ble_eq_true rfl⟩ (fun r20 h20 hp20 => ?_)
      obtain ⟨rfl, e9⟩ := hp20; obtain rfl := e9.symm
      rw [if_pos ⟨by omega, by omega⟩]
      have b2 := (hT.2.2 (q + 1) (by omega)).2
      refine V.bipush (v := nI 111) X dX12_isDo_23 (by decide) ?_
      refine V.icmp_ne 32 X dX12_isDo_25 (by decide) (fun c25 => ?_) (fun c25 => ?_)
      · rw [nI_eq (by omega) (by omega)] at c25
        have e0 : decide (hdC r = 304) = false := decide_eq_false (fun z => by
          have z2 := (v8 4 (by decide)).mp z
          rw [wd_4] at z2
          unfold wdP4 at z2
          omega)
        refine V.iconst (v := nI 0) X dX12_isDo_32 (by decide) ?_
        exact V.bret X Y9 dX12_isDo_33 (decide (hdC r = 304)) (by rw [e0]; rfl) ⟨rfl, rfl⟩ (Nat.le_of_ble_eq_true rfl) (Nat.le_of_ble_eq_true rfl)
      · rw [nI_eq (by omega) (by omega)] at c25
        have e0 : decide (hdC r = 304) = true := decide_eq_true ((v8 4 (by decide)).mpr ⟨by omega, (wd_4 t q e).mpr (by unfold wdP4; omega)⟩)
        refine V.iconst (v := nI 1) X dX12_isDo_28 (by decide) ?_
        refine V.goto 33 X dX12_isDo_29 (by decide) ?_
        exact V.bret X Y9 dX12_isDo_33 (decide (hdC r = 304)) (by rw [e0]; rfl) ⟨rfl, rfl⟩ (Nat.le_of_ble_eq_true rfl) (Nat.le_of_ble_eq_true rfl)
set_option maxHeartbeats 4000000 in
set_option maxRecDepth 100000 in
theorem c_X12_isEnsure (l : Launch) (G : GG) {h : Hp} {M : Nat} {m : Md} (K : MdK h M) {t : List Nat} (hT : TxM m t) {r : List Tok} {q e so : Nat} (hV : LxV m t r q e so)  : Con l G yX12_isEnsure wsX12_isEnsure 1 21 0 0 [.ref M] (Hm h M m) (pI (fun x h2 => x = bI (decide (hdC r = 305)) ∧ h2 = Hm h M m)) := by
  refine Con.of (cc := cX12_isEnsure) (nL := 1) (ret := (some .boolean)) (by decide) rfl rfl rfl rfl (fun Γ hG hl X Y9 => ?_)
  subst hG
  subst hl
  obtain ⟨v1, v2, v3, v4, v5, v6, v7, v8, v9, v10, v11, v12, v13⟩ := id hV
  have hl := hT.2.1
  refine V.aload_n X dX12_isEnsure_0 rfl ?_
  refine V.bipush (v := nI 6) X dX12_isEnsure_1 (by decide) ?_
  refine V.callVi (n := 1) X dX12_isEnsure_3 gX12_isEnsure_X12_isSize (c_X12_isSize _ _ K hT hV (by decide)) rfl (by decide +kernel) rfl rfl rfl K.1 rfl rfl ⟨Nat.le_of_ble_eq_true rfl, Nat.le_of_ble_eq_true rfl⟩ (fun r3 h3 hp3 => ?_)
  obtain ⟨rfl, e9⟩ := hp3; obtain rfl := e9.symm
  refine V.if_eq 73 X dX12_isEnsure_6 (by decide) (fun c6 => ?_) (fun c6 => ?_)
  · have c6 := bI_eq c6
    have c6 := of_decide_eq_false c6
    have e0 : decide (hdC r = 305) = false := decide_eq_false (fun z => by
      have z2 := (v8 5 (by decide)).mp z
      rw [wd_5] at z2
      unfold wdP5 at z2
      omega)
    refine V.iconst (v := nI 0) X dX12_isEnsure_73 (by decide) ?_
    exact V.bret X Y9 dX12_isEnsure_74 (decide (hdC r = 305)) (by rw [e0]; rfl) ⟨rfl, rfl⟩ (Nat.le_of_ble_eq_true rfl) (Nat.le_of_ble_eq_true rfl)
  · have c6 := bI_ne c6
    have c6 := of_decide_eq_true c6
    refine V.aload_n X dX12_isEnsure_9 rfl ?_
    refine V.iconst (v := nI 0) X dX12_isEnsure_10 (by decide) ?_
    refine V.callVi (n := 1) X dX12_isEnsure_11 gX12_isEnsure_X12_letter (c_X12_letter _ _ K hT hV (by decide)) rfl (by decide +kernel) rfl rfl rfl K.1 rfl rfl ⟨Nat.le_of_ble_eq_true rfl, Nat.le_of_ble_eq_true rfl⟩ (fun r11 h11 hp11 => ?_)
    obtain ⟨rfl, e9⟩ := hp11; obtain rfl := e9.symm
    rw [if_pos ⟨by omega, by omega⟩]
    have b1 := (hT.2.2 (q + 0) (by omega)).2
    refine V.bipush (v := nI 101) X dX12_isEnsure_14 (by decide) ?_
    refine V.icmp_ne 73 X dX12_isEnsure_16 (by decide) (fun c16 => ?_) (fun c16 => ?_)
    · rw [nI_eq (by omega) (by omega)] at c16
      have e0 : decide (hdC r = 305) = false := decide_eq_false (fun z => by
        have z2 := (v8 5 (by decide)).mp z
        rw [wd_5] at z2
        unfold wdP5 at z2
        omega)
      refine V.iconst (v := nI 0) X dX12_isEnsure_73 (by decide) ?_
      exact V.bret X Y9 dX12_isEnsure_74 (decide (hdC r = 305)) (by rw [e0]; rfl) ⟨rfl, rfl⟩ (Nat.le_of_ble_eq_true rfl) (Nat.le_of_ble_eq_true rfl)
    · rw [nI_eq (by omega) (by omega)] at c16
      refine V.aload_n X dX12_isEnsure_19 rfl ?_
      refine V.iconst (v := nI 1) X dX12_isEnsure_20 (by decide) ?_
      refine V.callVi (n := 1) X dX12_isEnsure_21 gX12_isEnsure_X12_letter (c_X12_letter _ _ K hT hV (by decide)) rfl (by decide +kernel) rfl rfl rfl K.1 rfl rfl ⟨Nat.le_of_ble_eq_true rfl, Nat.le_of_ble_eq_true rfl⟩ (fun r21 h21 hp21 => ?_)
      obtain ⟨rfl, e9⟩ := hp21; obtain rfl := e9.symm
      rw [if_pos ⟨by omega, by omega⟩]
      have b2 := (hT.2.2 (q + 1) (by omega)).2
      refine V.bipush (v := nI 110) X dX12_isEnsure_24 (by decide) ?_
      refine V.icmp_ne 73 X dX12_isEnsure_26 (by decide) (fun c26 => ?_) (fun c26 => ?_)
      · rw [nI_eq (by omega) (by omega)] at c26
        have e0 : decide (hdC r = 305) = false := decide_eq_false (fun z => by
          have z2 := (v8 5 (by decide)).mp z
          rw [wd_5] at z2
          unfold wdP5 at z2
          omega)
        refine V.iconst (v := nI 0) X dX12_isEnsure_73 (by decide) ?_
        exact V.bret X Y9 dX12_isEnsure_74 (decide (hdC r = 305)) (by rw [e0]; rfl) ⟨rfl, rfl⟩ (Nat.le_of_ble_eq_true rfl) (Nat.le_of_ble_eq_true rfl)
      · rw [nI_eq (by omega) (by omega)] at c26
        refine V.aload_n X dX12_isEnsure_29 rfl ?_
        refine V.iconst (v := nI 2) X dX12_isEnsure_30 (by decide) ?_
        refine V.callVi (n := 1) X dX12_isEnsure_31 gX12_isEnsure_X12_letter (c_X12_letter _ _ K hT hV (by decide)) rfl (by decide +kernel) rfl rfl rfl K.1 rfl rfl ⟨Nat.le_of_ble_eq_true rfl, Nat.le_of_ble_eq_true rfl⟩ (fun r31 h31 hp31 => ?_)
        obtain ⟨rfl, e9⟩ := hp31; obtain rfl := e9.symm
        rw [if_pos ⟨by omega, by omega⟩]
        have b3 := (hT.2.2 (q + 2) (by omega)).2
        refine V.bipush (v := nI 115) X dX12_isEnsure_34 (by decide) ?_
        refine V.icmp_ne 73 X dX12_isEnsure_36 (by decide) (fun c36 => ?_) (fun c36 => ?_)
        · rw [nI_eq (by omega) (by omega)] at c36
          have e0 : decide (hdC r = 305) = false := decide_eq_false (fun z => by
            have z2 := (v8 5 (by decide)).mp z
            rw [wd_5] at z2
            unfold wdP5 at z2
            omega)
          refine V.iconst (v := nI 0) X dX12_isEnsure_73 (by decide) ?_
          exact V.bret X Y9 dX12_isEnsure_74 (decide (hdC r = 305)) (by rw [e0]; rfl) ⟨rfl, rfl⟩ (Nat.le_of_ble_eq_true rfl) (Nat.le_of_ble_eq_true rfl)
        · rw [nI_eq (by omega) (by omega)] at c36
          refine V.aload_n X dX12_isEnsure_39 rfl ?_
          refine V.iconst (v := nI 3) X dX12_isEnsure_40 (by decide) ?_
          refine V.callVi (n := 1) X dX12_isEnsure_41 gX12_isEnsure_X12_letter (c_X12_letter _ _ K hT hV (by decide)) rfl (by decide +kernel) rfl rfl rfl K.1 rfl rfl ⟨Nat.le_of_ble_eq_true rfl, Nat.le_of_ble_eq_true rfl⟩ (fun r41 h41 hp41 => ?_)
          obtain ⟨rfl, e9⟩ := hp41; obtain rfl := e9.symm
          rw [if_pos ⟨by omega, by omega⟩]
          have b4 := (hT.2.2 (q + 3) (by omega)).2
          refine V.bipush (v := nI 117) X dX12_isEnsure_44 (by decide) ?_
          refine V.icmp_ne 73 X dX12_isEnsure_46 (by decide) (fun c46 => ?_) (fun c46 => ?_)
          · rw [nI_eq (by omega) (by omega)] at c46
            have e0 : decide (hdC r = 305) = false := decide_eq_false (fun z => by
              have z2 := (v8 5 (by decide)).mp z
              rw [wd_5] at z2
              unfold wdP5 at z2
              omega)
            refine V.iconst (v := nI 0) X dX12_isEnsure_73 (by decide) ?_
            exact V.bret X Y9 dX12_isEnsure_74 (decide (hdC r = 305)) (by rw [e0]; rfl) ⟨rfl, rfl⟩ (Nat.le_of_ble_eq_true rfl) (Nat.le_of_ble_eq_true rfl)
          · rw [nI_eq (by omega) (by omega)] at c46
            refine V.aload_n X dX12_isEnsure_49 rfl ?_
            refine V.iconst (v := nI 4) X dX12_isEnsure_50 (by decide) ?_
            refine V.callVi (n := 1) X dX12_isEnsure_51 gX12_isEnsure_X12_letter (c_X12_letter _ _ K hT hV (by decide)) rfl (by decide +kernel) rfl rfl rfl K.1 rfl rfl ⟨Nat.le_of_ble_eq_true rfl, Nat.le_of_ble_eq_true rfl⟩ (fun r51 h51 hp51 => ?_)
            obtain ⟨rfl, e9⟩ := hp51; obtain rfl := e9.symm
            rw [if_pos ⟨by omega, by omega⟩]
            have b5 := (hT.2.2 (q + 4) (by omega)).2
            refine V.bipush (v := nI 114) X dX12_isEnsure_54 (by decide) ?_
            refine V.icmp_ne 73 X dX12_isEnsure_56 (by decide) (fun c56 => ?_) (fun c56 => ?_)
            · rw [nI_eq (by omega) (by omega)] at c56
              have e0 : decide (hdC r = 305) = false := decide_eq_false (fun z => by
                have z2 := (v8 5 (by decide)).mp z
                rw [wd_5] at z2
                unfold wdP5 at z2
                omega)
              refine V.iconst (v := nI 0) X dX12_isEnsure_73 (by decide) ?_
              exact V.bret X Y9 dX12_isEnsure_74 (decide (hdC r = 305)) (by rw [e0]; rfl) ⟨rfl, rfl⟩ (Nat.le_of_ble_eq_true rfl) (Nat.le_of_ble_eq_true rfl)
            · rw [nI_eq (by omega) (by omega)] at c56
              refine V.aload_n X dX12_isEnsure_59 rfl ?_
              refine V.iconst (v := nI 5) X dX12_isEnsure_60 (by decide) ?_
              refine V.callVi (n := 1) X dX12_isEnsure_61 gX12_isEnsure_X12_letter (c_X12_letter _ _ K hT hV (by decide)) rfl (by decide +kernel) rfl rfl rfl K.1 rfl rfl ⟨Nat.le_of_ble_eq_true rfl, Nat.le_of_ble_eq_true rfl⟩ (fun r61 h61 hp61 => ?_)
              obtain ⟨rfl, e9⟩ := hp61; obtain rfl := e9.symm
              rw [if_pos ⟨by omega, by omega⟩]
              have b6 := (hT.2.2 (q + 5) (by omega)).2
              refine V.bipush (v := nI 101) X dX12_isEnsure_64 (by decide) ?_
              refine V.icmp_ne 73 X dX12_isEnsure_66 (by decide) (fun c66 => ?_) (fun c66 => ?_)
              · rw [nI_eq (by omega) (by omega)] at c66
                have e0 : decide (hdC r = 305) = false := decide_eq_false (fun z => by
                  have z2 := (v8 5 (by decide)).mp z
                  rw [wd_5] at z2
                  unfold wdP5 at z2
                  omega)
                refine V.iconst (v := nI 0) X dX12_isEnsure_73 (by decide) ?_
                exact V.bret X Y9 dX12_isEnsure_74 (decide (hdC r = 305)) (by rw [e0]; rfl) ⟨rfl, rfl⟩ (Nat.le_of_ble_eq_true rfl) (Nat.le_of_ble_eq_true rfl)
              · rw [nI_eq (by omega) (by omega)] at c66
                have e0 : decide (hdC r = 305) = true := decide_eq_true ((v8 5 (by decide)).mpr ⟨by omega, (wd_5 t q e).mpr (by unfold wdP5; omega)⟩)
                refine V.iconst (v := nI 1) X dX12_isEnsure_69 (by decide) ?_
                refine V.goto 74 X dX12_isEnsure_70 (by decide) ?_
                exact V.bret X Y9 dX12_isEnsure_74 (decide (hdC r = 305)) (by rw [e0]; rfl) ⟨rfl, rfl⟩ (Nat.le_of_ble_eq_true rfl) (Nat.le_of_ble_eq_true rfl)
set_option maxHeartbeats 4000000 in
set_option maxRecDepth 100000 in
theorem c_X12_isOld (l : Launch) (G : GG) {h : Hp} {M : Nat} {m : Md} (K : MdK h M) {t : List Nat} (hT : TxM m t) {r : List Tok} {q e so : Nat} (hV : LxV m t r q e so)  : Con l G yX12_isOld wsX12_isOld 1 21 0 0 [.ref M] (Hm h M m) (pI (fun x h2 => x = bI (decide (hdC r = 306)) ∧ h2 = Hm h M m)) := by
  refine Con.of (cc := cX12_isOld) (nL := 1) (ret := (some .boolean)) (by decide) rfl rfl rfl rfl (fun Γ hG hl X Y9 => ?_)
  subst hG
  subst hl
  obtain ⟨v1, v2, v3, v4, v5, v6, v7, v8, v9, v10, v11, v12, v13⟩ := id hV
  have hl := hT.2.1
  refine V.aload_n X dX12_isOld_0 rfl ?_
  refine V.iconst (v := nI 3) X dX12_isOld_1 (by decide) ?_
  refine V.callVi (n := 1) X dX12_isOld_2 gX12_isOld_X12_isSize (c_X12_isSize _ _ K hT hV (by decide)) rfl (by decide +kernel) rfl rfl rfl K.1 rfl rfl ⟨Nat.le_of_ble_eq_true rfl, Nat.le_of_ble_eq_true rfl⟩ (fun r2 h2 hp2 => ?_)
  obtain ⟨rfl, e9⟩ := hp2; obtain rfl := e9.symm
  refine V.if_eq 42 X dX12_isOld_5 (by decide) (fun c5 => ?_) (fun c5 => ?_)
  · have c5 := bI_eq c5
    have c5 := of_decide_eq_false c5
    have e0 : decide (hdC r = 306) = false := decide_eq_false (fun z => by
      have z2 := (v8 6 (by decide)).mp z
      rw [wd_6] at z2
      unfold wdP6 at z2
      omega)
    refine V.iconst (v := nI 0) X dX12_isOld_42 (by decide) ?_
    exact V.bret X Y9 dX12_isOld_43 (decide (hdC r = 306)) (by rw [e0]; rfl) ⟨rfl, rfl⟩ (Nat.le_of_ble_eq_true rfl) (Nat.le_of_ble_eq_true rfl)
  · have c5 := bI_ne c5
    have c5 := of_decide_eq_true c5
    refine V.aload_n X dX12_isOld_8 rfl ?_
    refine V.iconst (v := nI 0) X dX12_isOld_9 (by decide) ?_
    refine V.callVi (n := 1) X dX12_isOld_10 gX12_isOld_X12_letter (c_X12_letter _ _ K hT hV (by decide)) rfl (by decide +kernel) rfl rfl rfl K.1 rfl rfl ⟨Nat.le_of_ble_eq_true rfl, Nat.le_of_ble_eq_true rfl⟩ (fun r10 h10 hp10 => ?_)
    obtain ⟨rfl, e9⟩ := hp10; obtain rfl := e9.symm
    rw [if_pos ⟨by omega, by omega⟩]
    have b1 := (hT.2.2 (q + 0) (by omega)).2
    refine V.bipush (v := nI 111) X dX12_isOld_13 (by decide) ?_
    refine V.icmp_ne 42 X dX12_isOld_15 (by decide) (fun c15 => ?_) (fun c15 => ?_)
    · rw [nI_eq (by omega) (by omega)] at c15
      have e0 : decide (hdC r = 306) = false := decide_eq_false (fun z => by
        have z2 := (v8 6 (by decide)).mp z
        rw [wd_6] at z2
        unfold wdP6 at z2
        omega)
      refine V.iconst (v := nI 0) X dX12_isOld_42 (by decide) ?_
      exact V.bret X Y9 dX12_isOld_43 (decide (hdC r = 306)) (by rw [e0]; rfl) ⟨rfl, rfl⟩ (Nat.le_of_ble_eq_true rfl) (Nat.le_of_ble_eq_true rfl)
    · rw [nI_eq (by omega) (by omega)] at c15
      refine V.aload_n X dX12_isOld_18 rfl ?_
      refine V.iconst (v := nI 1) X dX12_isOld_19 (by decide) ?_
      refine V.callVi (n := 1) X dX12_isOld_20 gX12_isOld_X12_letter (c_X12_letter _ _ K hT hV (by decide)) rfl (by decide +kernel) rfl rfl rfl K.1 rfl rfl ⟨Nat.le_of_ble_eq_true rfl, Nat.le_of_ble_eq_true rfl⟩ (fun r20 h20 hp20 => ?_)
      obtain ⟨rfl, e9⟩ := hp20; obtain rfl := e9.symm
      rw [if_pos ⟨by omega, by omega⟩]
      have b2 := (hT.2.2 (q + 1) (by omega)).2
      refine V.bipush (v := nI 108) X dX12_isOld_23 (by decide) ?_
      refine V.icmp_ne 42 X dX12_isOld_25 (by decide) (fun c25 => ?_) (fun c25 => ?_)
      · rw [nI_eq (by omega) (by omega)] at c25
        have e0 : decide (hdC r = 306) = false := decide_eq_false (fun z => by
          have z2 := (v8 6 (by decide)).mp z
          rw [wd_6] at z2
          unfold wdP6 at z2
          omega)
        refine V.iconst (v := nI 0) X dX12_isOld_42 (by decide) ?_
        exact V.bret X Y9 dX12_isOld_43 (decide (hdC r = 306)) (by rw [e0]; rfl) ⟨rfl, rfl⟩ (Nat.le_of_ble_eq_true rfl) (Nat.le_of_ble_eq_true rfl)
      · rw [nI_eq (by omega) (by omega)] at c25
        refine V.aload_n X dX12_isOld_28 rfl ?_
        refine V.iconst (v := nI 2) X dX12_isOld_29 (by decide) ?_
        refine V.callVi (n := 1) X dX12_isOld_30 gX12_isOld_X12_letter (c_X12_letter _ _ K hT hV (by decide)) rfl (by decide +kernel) rfl rfl rfl K.1 rfl rfl ⟨Nat.le_of_ble_eq_true rfl, Nat.le_of_ble_eq_true rfl⟩ (fun r30 h30 hp30 => ?_)
        obtain ⟨rfl, e9⟩ := hp30; obtain rfl := e9.symm
        rw [if_pos ⟨by omega, by omega⟩]
        have b3 := (hT.2.2 (q + 2) (by omega)).2
        refine V.bipush (v := nI 100) X dX12_isOld_33 (by decide) ?_
        refine V.icmp_ne 42 X dX12_isOld_35 (by decide) (fun c35 => ?_) (fun c35 => ?_)
        · rw [nI_eq (by omega) (by omega)] at c35
          have e0 : decide (hdC r = 306) = false := decide_eq_false (fun z => by
            have z2 := (v8 6 (by decide)).mp z
            rw [wd_6] at z2
            unfold wdP6 at z2
            omega)
          refine V.iconst (v := nI 0) X dX12_isOld_42 (by decide) ?_
          exact V.bret X Y9 dX12_isOld_43 (decide (hdC r = 306)) (by rw [e0]; rfl) ⟨rfl, rfl⟩ (Nat.le_of_ble_eq_true rfl) (Nat.le_of_ble_eq_true rfl)
        · rw [nI_eq (by omega) (by omega)] at c35
          have e0 : decide (hdC r = 306) = true := decide_eq_true ((v8 6 (by decide)).mpr ⟨by omega, (wd_6 t q e).mpr (by unfold wdP6; omega)⟩)
          refine V.iconst (v := nI 1) X dX12_isOld_38 (by decide) ?_
          refine V.goto 43 X dX12_isOld_39 (by decide) ?_
          exact V.bret X Y9 dX12_isOld_43 (decide (hdC r = 306)) (by rw [e0]; rfl) ⟨rfl, rfl⟩ (Nat.le_of_ble_eq_true rfl) (Nat.le_of_ble_eq_true rfl)
set_option maxHeartbeats 4000000 in
set_option maxRecDepth 100000 in
theorem c_X12_isField (l : Launch) (G : GG) {h : Hp} {M : Nat} {m : Md} (K : MdK h M) {t : List Nat} (hT : TxM m t) {r : List Tok} {q e so : Nat} (hV : LxV m t r q e so)  : Con l G yX12_isField wsX12_isField 1 22 0 0 [.ref M] (Hm h M m) (pI (fun x h2 => x = bI (decide (120 ≤ hdC r ∧ hdC r ≤ 122)) ∧ h2 = Hm h M m)) := by
  refine Con.of (cc := cX12_isField) (nL := 1) (ret := (some .boolean)) (by decide) rfl rfl rfl rfl (fun Γ hG hl X Y9 => ?_)
  subst hG
  subst hl
  obtain ⟨v1, v2, v3, v4, v5, v6, v7, v8, v9, v10, v11, v12, v13⟩ := id hV
  have hl := hT.2.1
  refine V.aload_n X dX12_isField_0 rfl ?_
  refine V.iconst (v := nI 1) X dX12_isField_1 (by decide) ?_
  refine V.callVi (n := 1) X dX12_isField_2 gX12_isField_X12_isSize (c_X12_isSize _ _ K hT hV (by decide)) rfl (by decide +kernel) rfl rfl rfl K.1 rfl rfl ⟨Nat.le_of_ble_eq_true rfl, Nat.le_of_ble_eq_true rfl⟩ (fun r2 h2 hp2 => ?_)
  obtain ⟨rfl, e9⟩ := hp2; obtain rfl := e9.symm
  refine V.if_eq 27 X dX12_isField_5 (by decide) (fun c5 => ?_) (fun c5 => ?_)
  · have c5 := bI_eq c5
    have c5 := of_decide_eq_false c5
    have e0 : decide (120 ≤ hdC r ∧ hdC r ≤ 122) = false := decide_eq_false (fun z => by
      have z2 := (v9 (hdC r) (by omega) (by omega)).mp rfl
      omega)
    refine V.iconst (v := nI 0) X dX12_isField_27 (by decide) ?_
    exact V.bret X Y9 dX12_isField_28 (decide (120 ≤ hdC r ∧ hdC r ≤ 122)) (by rw [e0]; rfl) ⟨rfl, rfl⟩ (Nat.le_of_ble_eq_true rfl) (Nat.le_of_ble_eq_true rfl)
  · have c5 := bI_ne c5
    have c5 := of_decide_eq_true c5
    refine V.aload_n X dX12_isField_8 rfl ?_
    refine V.iconst (v := nI 0) X dX12_isField_9 (by decide) ?_
    refine V.callVi (n := 1) X dX12_isField_10 gX12_isField_X12_letter (c_X12_letter _ _ K hT hV (by decide)) rfl (by decide +kernel) rfl rfl rfl K.1 rfl rfl ⟨Nat.le_of_ble_eq_true rfl, Nat.le_of_ble_eq_true rfl⟩ (fun r10 h10 hp10 => ?_)
    obtain ⟨rfl, e9⟩ := hp10; obtain rfl := e9.symm
    rw [if_pos ⟨by omega, by omega⟩]
    have b0 := (hT.2.2 (q + 0) (by omega)).2
    have z0 : ch t (q + 0) = ch t q := rfl
    refine V.bipush (v := nI 120) X dX12_isField_13 (by decide) ?_
    refine V.bipush (v := nI 122) X dX12_isField_15 (by decide) ?_
    refine V.callSi (n := 3) X dX12_isField_17 gX12_isField_X12_in (c_X12_in _ _) rfl (by decide +kernel) rfl rfl rfl ⟨Nat.le_of_ble_eq_true rfl, Nat.le_of_ble_eq_true rfl⟩ (fun r17 h17 hp17 => ?_)
    obtain ⟨rfl, e9⟩ := hp17; obtain rfl := e9.symm
    refine V.if_eq 27 X dX12_isField_20 (by decide) (fun c20 => ?_) (fun c20 => ?_)
    · have c20 := bI_eq c20
      rw [inB_ch (by omega) (by decide) (by decide)] at c20
      have c20 : ¬ (120 ≤ ch t (q + 0) ∧ ch t (q + 0) ≤ 122) := fun z => by
        rw [decide_eq_true z.1, decide_eq_true z.2] at c20
        cases c20
      have e0 : decide (120 ≤ hdC r ∧ hdC r ≤ 122) = false := decide_eq_false (fun z => by
        have z2 := (v9 (hdC r) (by omega) (by omega)).mp rfl
        omega)
      refine V.iconst (v := nI 0) X dX12_isField_27 (by decide) ?_
      exact V.bret X Y9 dX12_isField_28 (decide (120 ≤ hdC r ∧ hdC r ≤ 122)) (by rw [e0]; rfl) ⟨rfl, rfl⟩ (Nat.le_of_ble_eq_true rfl) (Nat.le_of_ble_eq_true rfl)
    · have c20 := bI_ne c20
      rw [inB_ch (by omega) (by decide) (by decide), Bool.and_eq_true] at c20
      have c21 := of_decide_eq_true c20.1
      have c22 := of_decide_eq_true c20.2
      have e0 : decide (120 ≤ hdC r ∧ hdC r ≤ 122) = true := decide_eq_true (by
        have z2 := (v9 (ch t (q + 0)) (by omega) (by omega)).mpr ⟨by omega, by omega, rfl⟩
        omega)
      refine V.iconst (v := nI 1) X dX12_isField_23 (by decide) ?_
      refine V.goto 28 X dX12_isField_24 (by decide) ?_
      exact V.bret X Y9 dX12_isField_28 (decide (120 ≤ hdC r ∧ hdC r ≤ 122)) (by rw [e0]; rfl) ⟨rfl, rfl⟩ (Nat.le_of_ble_eq_true rfl) (Nat.le_of_ble_eq_true rfl)
