/-! THE REFERENCE'S PARSER: w tells that a wrong lexeme is found, r what is left -/
def PS (m : Md) (t : List Nat) (w : Bool) (r : List Tok) : Prop := TxM m t ∧ LxM m t r ∧ m 0 10 = bI w
theorem PS.fr {P : Nat → Nat → Prop} {m m2 : Md} {t : List Nat} {w : Bool} {r : List Tok} (q : PS m t w r) (f : MFr P m m2) (h : ∀ k, 5 ≤ k → k ≤ 10 → ¬ P 0 k) (h4 : ∀ k, ¬ P 4 k) : PS m2 t w r :=
  ⟨q.1.fr f (h 5 (by decide) (by decide)) h4, q.2.1.fr f (fun k a b => h k (by omega) (by omega)), (f 0 10 (h 10 (by decide) (by decide))).trans q.2.2⟩
theorem PS.wr {m : Md} {t : List Nat} {w b : Bool} {r : List Tok} (q : PS m t w r) : PS (mput m 0 10 (bI b)) t b r := by
  have f : MFr (fun a k => a = 0 ∧ k = 10) m (mput m 0 10 (bI b)) := MFr.rf.put ⟨rfl, rfl⟩
  exact ⟨q.1.fr f (by omega) (fun k => by omega), q.2.1.fr f (fun k a b => by omega), rfl⟩
theorem PS.dr {m : Md} {t : List Nat} {w : Bool} {r : List Tok} (q : PS m t w r) (k : Nat) (x : Int32) : PS (mput m 2 k x) t w r := by
  have f : MFr (fun a _ => a = 2) m (mput m 2 k x) := MFr.rf.put rfl
  exact q.fr f (fun k _ _ => by omega) (fun k => by omega)
theorem LxM.nx {m : Md} {t : List Nat} {r : List Tok} (h : LxM m t r) (hr : ¬ r = []) : ∃ e, m 0 6 = nI e ∧ Bd t e ∧ r.tail = tkF t (t.length - e) e := by
  rcases h with ⟨rfl, -⟩ | ⟨q, hq, h0, hb, rfl, a, b, c, d, d2⟩
  · exact absurd rfl hr
  · exact ⟨enO t q, a, Bd_en hq, rfl⟩
theorem LxM.num {m : Md} {t : List Nat} {r : List Tok} (h : LxM m t r) : numR r ≤ 99 := by
  rcases h with ⟨rfl, -⟩ | ⟨q, hq, h0, hb, rfl, a, b, c, d, d2⟩
  · exact Nat.zero_le _
  · exact tkO_num t q hb
def tk (w may : Bool) (r : List Tok) : Bool × List Tok := if w = true then (true, r) else if may = true then (false, r.tail) else (true, r)
def fd (r : List Tok) : Bool := decide (120 ≤ hdC r ∧ hdC r ≤ 122)
theorem hdC_ne {c : Nat} {r : List Tok} (hc : 0 < c) (h : hdC r = c) : ¬ r = [] := fun z => by
  rw [z] at h
  have h : 0 = c := h
  omega
theorem fd_ne {r : List Tok} (h : fd r = true) : ¬ r = [] := fun z => by
  have h := of_decide_eq_true h
  rw [z] at h
  have h : 120 ≤ 0 ∧ 0 ≤ 122 := h
  omega
theorem pFld_h (r : List Tok) : pFld r = if fd r = true then some (hdC r - 120, r.tail) else none := by
  unfold pFld
  rw [acc_h (by decide), acc_h (by decide), acc_h (by decide)]
  by_cases a : hdC r = 120
  · have f : fd r = true := decide_eq_true (by omega)
    rw [if_pos a, if_pos f, a]
  rw [if_neg a]
  by_cases b : hdC r = 121
  · have f : fd r = true := decide_eq_true (by omega)
    rw [if_pos b, if_pos f, b]
  rw [if_neg b]
  by_cases c : hdC r = 122
  · have f : fd r = true := decide_eq_true (by omega)
    rw [if_pos c, if_pos f, c]
  have f : ¬ fd r = true := fun z => by have := of_decide_eq_true z; omega
  rw [if_neg c, if_neg f]
theorem pFld_t {r : List Tok} (h : fd r = true) : pFld r = some (hdC r - 120, r.tail) := by rw [pFld_h, if_pos h]
theorem pFld_n {r : List Tok} (h : fd r = false) : pFld r = none := by rw [pFld_h, h]; rfl
theorem pNum_h (r : List Tok) : pNum r = if hdC r = 45 then (if hdC r.tail = 307 then (some (-1 * nI (numR r.tail)), r.tail.tail) else (none, r.tail)) else (if hdC r = 307 then (some (nI 1 * nI (numR r)), r.tail) else (none, r)) := by
  unfold pNum
  rw [acc_h (by decide), acc_h (by decide)]
  by_cases a : hdC r = 45
  · rw [if_pos a, if_pos a]
    show (match acc 307 r.tail with
      | some r2 => (some (-1 * nI (numR r.tail)), r2)
      | none => (none, r.tail)) = _
    rw [acc_h (by decide)]
    by_cases b : hdC r.tail = 307
    · rw [if_pos b, if_pos b]
    · rw [if_neg b, if_neg b]
  · rw [if_neg a, if_neg a]
    by_cases b : hdC r = 307
    · rw [if_pos b, if_pos b]
    · rw [if_neg b, if_neg b]
theorem neg_n : ∀ n, n < 100 → -(nI n) = -1 * nI n := by decide +kernel
theorem one_n : ∀ n, n < 100 → nI n = nI 1 * nI n := by decide +kernel
def opE (o : Opd) : Int32 := if o.1 = -1 then nI 1100 + o.2 else o.1
def opOk (b : Bool) (o : Opd) : Prop := (o.1 = -1 ∧ ∃ n, n ≤ 99 ∧ (o.2 = nI n ∨ o.2 = -1 * nI n)) ∨ ∃ f, f < (if b = true then 6 else 3) ∧ o.1 = nI f
theorem nI_nm1 : ∀ f, f < 6 → ¬ nI f = -1 := by decide +kernel
theorem psP_lx {x k : Nat} (h : lxP x k) : psP x k := ⟨h.1, h.2.1, by have := h.2.2; omega⟩
theorem fX12_take_72 : FL wsX12_take RX12 72 14 10 .boolean false := ⟨_, rfl, by decide, Or.inl ⟨"ContractTesterModel", by decide +kernel, Or.inl rfl⟩, by decide +kernel, by decide +kernel, rfl⟩
set_option maxHeartbeats 4000000 in
set_option maxRecDepth 100000 in
theorem c_X12_take (l : Launch) (G : GG) {h : Hp} {M : Nat} {m : Md} (K : MdK h M) {t : List Nat} {w may : Bool} {r : List Tok} (hP : PS m t w r) (hm : w = false → may = true → ¬ r = []) : Con l G yX12_take wsX12_take 2 42 0 0 [.ref M, .int (bI may)] (Hm h M m) (pV (fun h2 => ∃ m2, h2 = Hm h M m2 ∧ MFr psP m m2 ∧ PS m2 t (tk w may r).1 (tk w may r).2)) := by
  refine Con.of (cc := cX12_take) (nL := 2) (ret := none) (by decide) rfl rfl rfl rfl (fun Γ hG hl X Y9 => ?_)
  subst hG
  subst hl
  refine V.aload_n X dX12_take_0 rfl ?_
  refine V.mgf  X K fX12_take_72 dX12_take_1 rfl hP.2.2 ?_
  refine V.if_ne 23 X dX12_take_4 (by decide) (fun c4 => ?_) (fun c4 => ?_)
  · have c4 := bI_ne c4
    obtain rfl := c4
    have F0 : MFr psP m m := MFr.rf
    have P0 : PS m t (tk true may r).1 (tk true may r).2 := hP
    exact V.vret X Y9 dX12_take_23 ⟨rfl, _, rfl, F0, P0⟩ (Nat.le_of_ble_eq_true rfl) (Nat.le_of_ble_eq_true rfl)
  · have c4 := bI_eq c4
    obtain rfl := c4
    refine V.iload_n X dX12_take_7 rfl ?_
    refine V.if_eq 18 X dX12_take_8 (by decide) (fun c8 => ?_) (fun c8 => ?_)
    · have c8 := bI_eq c8
      obtain rfl := c8
      refine V.aload_n X dX12_take_18 rfl ?_
      refine V.iconst (v := bI true) X dX12_take_19 (by decide) ?_
      refine V.mpf X K fX12_take_72 dX12_take_20 rfl rfl rfl ?_
      have F0 : MFr psP m (mput m 0 10 (bI true)) := MFr.rf.put ⟨rfl, by decide, by decide⟩
      have P0 : PS (mput m 0 10 (bI true)) t (tk false false r).1 (tk false false r).2 := hP.wr
      exact V.vret X Y9 dX12_take_23 ⟨rfl, _, rfl, F0, P0⟩ (Nat.le_of_ble_eq_true rfl) (Nat.le_of_ble_eq_true rfl)
    · have c8 := bI_ne c8
      obtain rfl := c8
      obtain ⟨e, g1, g2, g3⟩ := hP.2.1.nx (hm rfl rfl)
      refine V.aload_n X dX12_take_11 rfl ?_
      refine V.callVv (n := 0) X dX12_take_12 gX12_take_X12_next (c_X12_next _ _ K hP.1 g1 g2) rfl (by decide +kernel) rfl rfl rfl K.1 rfl rfl ⟨Nat.le_of_ble_eq_true rfl, Nat.le_of_ble_eq_true rfl⟩ (fun h12 hp12 => ?_)
      obtain ⟨m2, rfl, f2, l2⟩ := hp12
      have F0 : MFr psP m m2 := f2.mono (fun _ _ => psP_lx)
      have P0 : PS m2 t (tk false true r).1 (tk false true r).2 := ⟨hP.1.lx f2, by rw [show (tk false true r).2 = tkF t (t.length - e) e from g3]; exact l2, (f2 0 10 (by unfold lxP; omega)).trans hP.2.2⟩
      refine V.goto 23 X dX12_take_15 (by decide) ?_
      exact V.vret X Y9 dX12_take_23 ⟨rfl, _, rfl, F0, P0⟩ (Nat.le_of_ble_eq_true rfl) (Nat.le_of_ble_eq_true rfl)
set_option maxHeartbeats 4000000 in
set_option maxRecDepth 100000 in
theorem c_X12_takeField (l : Launch) (G : GG) {h : Hp} {M : Nat} {m : Md} (K : MdK h M) {t : List Nat} {w : Bool} {r : List Tok} (hP : PS m t w r)  : Con l G yX12_takeField wsX12_takeField 3 63 0 0 [.ref M] (Hm h M m) (pI (fun x h2 => ∃ m2, h2 = Hm h M m2 ∧ MFr psP m m2 ∧ PS m2 t (tk w (fd r) r).1 (tk w (fd r) r).2 ∧ (fd r = true → x = nI (hdC r - 120)))) := by
  refine Con.of (cc := cX12_takeField) (nL := 2) (ret := (some .int)) (by decide) rfl rfl rfl rfl (fun Γ hG hl X Y9 => ?_)
  subst hG
  subst hl
  obtain ⟨q, e, so, hV⟩ := hP.2.1.v
  obtain ⟨v1, v2, v3, v4, v5, v6, v7, v8, v9, v10, v11, v12, v13⟩ := id hV
  have hl := hP.1.2.1
  refine V.aload_n X dX12_takeField_0 rfl ?_
  refine V.iconst (v := nI 0) X dX12_takeField_1 (by decide) ?_
  refine V.callVi (n := 1) X dX12_takeField_2 gX12_takeField_X12_letter (c_X12_letter _ _ K hP.1 hV (k := 0) (by decide)) rfl (by decide +kernel) rfl rfl rfl K.1 rfl rfl ⟨Nat.le_of_ble_eq_true rfl, Nat.le_of_ble_eq_true rfl⟩ (fun r2 h2 hp2 => ?_)
  obtain ⟨rfl, e9⟩ := hp2; obtain rfl := e9.symm
  refine V.bipush (v := nI 120) X dX12_takeField_5 (by decide) ?_
  refine V.isub X dX12_takeField_7 ?_
  refine V.istore_n X dX12_takeField_8 [(0, _), (1, _)] rfl rfl rfl ?_
  refine V.aload_n X dX12_takeField_9 rfl ?_
  refine V.aload_n X dX12_takeField_10 rfl ?_
  refine V.callVi (n := 0) X dX12_takeField_11 gX12_takeField_X12_isField (c_X12_isField _ _ K hP.1 hV) rfl (by decide +kernel) rfl rfl rfl K.1 rfl rfl ⟨Nat.le_of_ble_eq_true rfl, Nat.le_of_ble_eq_true rfl⟩ (fun r11 h11 hp11 => ?_)
  obtain ⟨rfl, e9⟩ := hp11; obtain rfl := e9.symm
  refine V.callVv (n := 1) X dX12_takeField_14 gX12_takeField_X12_take (c_X12_take _ _ K hP (may := fd r) (fun _ z => fd_ne z)) rfl (by decide +kernel) rfl rfl rfl K.1 rfl rfl ⟨Nat.le_of_ble_eq_true rfl, Nat.le_of_ble_eq_true rfl⟩ (fun h14 hp14 => ?_)
  obtain ⟨m2, rfl, F2, P2⟩ := hp14
  refine V.iload_n X dX12_takeField_17 rfl ?_
  exact V.iret X Y9 dX12_takeField_18 ⟨m2, rfl, F2, P2, fun z => by
    have z1 := of_decide_eq_true z
    have z2 := (v9 (hdC r) (by omega) (by omega)).mp rfl
    rw [if_pos ⟨z2.1, by omega⟩, show ch t (q + 0) = hdC r from z2.2.2, nI_sub9 (by omega)]⟩ (Nat.le_of_ble_eq_true rfl) (Nat.le_of_ble_eq_true rfl)
theorem fX12_takeNumber_54 : FL wsX12_takeNumber RX12 54 14 9 .int false := ⟨_, rfl, by decide, Or.inl ⟨"ContractTesterModel", by decide +kernel, Or.inl rfl⟩, by decide +kernel, by decide +kernel, rfl⟩
theorem fX12_takeNumber_57 : FL wsX12_takeNumber RX12 57 14 8 .int false := ⟨_, rfl, by decide, Or.inl ⟨"ContractTesterModel", by decide +kernel, Or.inl rfl⟩, by decide +kernel, by decide +kernel, rfl⟩
theorem fX12_takeNumber_41 : FL wsX12_takeNumber RX12 41 14 6 .int false := ⟨_, rfl, by decide, Or.inl ⟨"ContractTesterModel", by decide +kernel, Or.inl rfl⟩, by decide +kernel, by decide +kernel, rfl⟩
theorem fX12_takeNumber_51 : FL wsX12_takeNumber RX12 51 14 7 .int false := ⟨_, rfl, by decide, Or.inl ⟨"ContractTesterModel", by decide +kernel, Or.inl rfl⟩, by decide +kernel, by decide +kernel, rfl⟩
set_option maxHeartbeats 4000000 in
set_option maxRecDepth 100000 in
theorem c_X12_takeNumber (l : Launch) (G : GG) {h : Hp} {M : Nat} {m : Md} (K : MdK h M) {t : List Nat} {w : Bool} {r : List Tok} (hP : PS m t w r)  : Con l G yX12_takeNumber wsX12_takeNumber 3 63 0 0 [.ref M] (Hm h M m) (pI (fun x h2 => ∃ m2, h2 = Hm h M m2 ∧ MFr psP m m2 ∧ PS m2 t (w || (pNum r).1.isNone) (if w = true then r else (pNum r).2) ∧ (w = false → ∀ v, (pNum r).1 = some v → x = v ∧ ∃ n, n ≤ 99 ∧ (v = nI n ∨ v = -1 * nI n)))) := by
  refine Con.of (cc := cX12_takeNumber) (nL := 3) (ret := (some .int)) (by decide) rfl rfl rfl rfl (fun Γ hG hl X Y9 => ?_)
  subst hG
  subst hl
  obtain ⟨q, e, so, hV⟩ := hP.2.1.v
  obtain ⟨v1, v2, v3, v4, v5, v6, v7, v8, v9, v10, v11, v12, v13⟩ := id hV
  have hl := hP.1.2.1
  have tail : ∀ (b : Bool) (m1 : Md) (r1 : List Tok), MFr psP m m1 → PS m1 t w r1 → (w = true → r1 = r) → (w = false → r1 = (if b = true then r.tail else r)) → (b = true ↔ hdC r = 45) → V Γ 0 0 16 [(0, .ref M), (1, .int (bI b))] [] (Hm h M m1) := by
    intro b m1 r1 F1 P1 hw1 hw2 hb
    obtain ⟨q, e, so, hV⟩ := P1.2.1.v
    obtain ⟨v1, v2, v3, v4, v5, v6, v7, v8, v9, v10, v11, v12, v13⟩ := id hV
    have hl := P1.1.2.1
    have hn := P1.2.1.num
    have fin : ∀ (m2 : Md), MFr psP m1 m2 → PS m2 t (tk w (decide (hdC r1 = 307)) r1).1 (tk w (decide (hdC r1 = 307)) r1).2 → ∀ x : Int32, (hdC r1 = 307 → b = true → x = -(nI (numR r1))) → (hdC r1 = 307 → b = false → x = nI (numR r1)) → ∃ m3, Hm h M m2 = Hm h M m3 ∧ MFr psP m m3 ∧ PS m3 t (w || (pNum r).1.isNone) (if w = true then r else (pNum r).2) ∧ (w = false → ∀ v, (pNum r).1 = some v → x = v ∧ ∃ n, n ≤ 99 ∧ (v = nI n ∨ v = -1 * nI n)) := by
      intro m2 F2 P2 x hx1 hx2
      refine ⟨m2, rfl, F1.tr F2, ?_⟩
      cases w with
      | true =>
        obtain rfl := hw1 rfl
        exact ⟨P2, fun z => by cases z⟩
      | false =>
        have e1 := hw2 rfl
        rw [pNum_h]
        cases b with
        | true =>
          rw [if_pos (hb.mp rfl)]
          rw [if_pos rfl] at e1
          rw [← e1]
          by_cases h7 : hdC r1 = 307
          · rw [decide_eq_true h7] at P2
            rw [if_pos h7]
            exact ⟨P2, fun _ v hv => by cases hv; exact ⟨(hx1 h7 rfl).trans (neg_n _ (by omega)), _, hn, Or.inr rfl⟩⟩
          · rw [decide_eq_false h7] at P2
            rw [if_neg h7]
            exact ⟨P2, fun _ v hv => by cases hv⟩
        | false =>
          rw [if_neg (fun z => by have := hb.mpr z; cases this)]
          rw [if_neg (by decide)] at e1
          rw [← e1]
          by_cases h7 : hdC r1 = 307
          · rw [decide_eq_true h7] at P2
            rw [if_pos h7]
            exact ⟨P2, fun _ v hv => by cases hv; exact ⟨(hx2 h7 rfl).trans (one_n _ (by omega)), _, hn, Or.inl (one_n _ (by omega)).symm⟩⟩
          · rw [decide_eq_false h7] at P2
            rw [if_neg h7]
            exact ⟨P2, fun _ v hv => by cases hv⟩
    refine V.aload_n X dX12_takeNumber_16 rfl ?_
    refine V.mgf  X K fX12_takeNumber_54 dX12_takeNumber_17 rfl rfl ?_
    refine V.istore_n X dX12_takeNumber_20 [(0, _), (1, _), (2, _)] rfl rfl rfl ?_
    refine V.aload_n X dX12_takeNumber_21 rfl ?_
    refine V.aload_n X dX12_takeNumber_22 rfl ?_
    refine V.mgf  X K fX12_takeNumber_57 dX12_takeNumber_23 rfl v5 ?_
    refine V.iconst (v := nI 2) X dX12_takeNumber_26 (by decide) ?_
    refine V.icmp_ne 47 X dX12_takeNumber_27 (by decide) (fun c27 => ?_) (fun c27 => ?_)
    · rw [nI_eq (by omega) (by omega)] at c27
      have d7 : decide (hdC r1 = 307) = false := decide_eq_false (fun z => c27 (v11.mp z).1)
      refine V.iconst (v := (bI false)) X dX12_takeNumber_47 (by decide) ?_
      first | rw [show bI true = bI (decide (hdC r1 = 307)) from by rw [d7]] | rw [show bI false = bI (decide (hdC r1 = 307)) from by rw [d7]]
      refine V.callVv (n := 1) X dX12_takeNumber_48 gX12_takeNumber_X12_take (c_X12_take _ _ K P1 (may := decide (hdC r1 = 307)) (fun _ z => hdC_ne (by decide) (of_decide_eq_true z))) rfl (by decide +kernel) rfl rfl rfl K.1 rfl rfl ⟨Nat.le_of_ble_eq_true rfl, Nat.le_of_ble_eq_true rfl⟩ (fun h48 hp48 => ?_)
      obtain ⟨m2, rfl, F2, P2⟩ := hp48
      refine V.iload_n X dX12_takeNumber_51 rfl ?_
      refine V.if_eq 60 X dX12_takeNumber_52 (by decide) (fun c52 => ?_) (fun c52 => ?_)
      · have c52 := bI_eq c52
        subst c52
        refine V.iload_n X dX12_takeNumber_60 rfl ?_
        exact V.iret X Y9 dX12_takeNumber_61 (fin m2 F2 P2 _ (fun z z2 => by first | (cases z2; done) | (rw [v12 z])) (fun z z2 => by first | (cases z2; done) | (exact v12 z))) (Nat.le_of_ble_eq_true rfl) (Nat.le_of_ble_eq_true rfl)
      · have c52 := bI_ne c52
        subst c52
        refine V.iload_n X dX12_takeNumber_55 rfl ?_
        refine V.ineg X dX12_takeNumber_56 ?_
        refine V.goto 61 X dX12_takeNumber_57 (by decide) ?_
        exact V.iret X Y9 dX12_takeNumber_61 (fin m2 F2 P2 _ (fun z z2 => by first | (cases z2; done) | (rw [v12 z])) (fun z z2 => by first | (cases z2; done) | (exact v12 z))) (Nat.le_of_ble_eq_true rfl) (Nat.le_of_ble_eq_true rfl)
    · rw [nI_eq (by omega) (by omega)] at c27
      refine V.aload_n X dX12_takeNumber_30 rfl ?_
      refine V.mgf  X K fX12_takeNumber_41 dX12_takeNumber_31 rfl v3 ?_
      refine V.aload_n X dX12_takeNumber_34 rfl ?_
      refine V.mgf  X K fX12_takeNumber_51 dX12_takeNumber_35 rfl v4 ?_
      refine V.isubN X dX12_takeNumber_38 (by omega) ?_
      refine V.iconst (v := nI 3) X dX12_takeNumber_39 (by decide) ?_
      refine V.icmp_ge 47 X dX12_takeNumber_40 (by decide) (fun c40 => ?_) (fun c40 => ?_)
      · rw [nI_leI (by omega) (by omega)] at c40
        have d7 : decide (hdC r1 = 307) = false := decide_eq_false (fun z => by have := (v11.mp z).2; omega)
        refine V.iconst (v := (bI false)) X dX12_takeNumber_47 (by decide) ?_
        first | rw [show bI true = bI (decide (hdC r1 = 307)) from by rw [d7]] | rw [show bI false = bI (decide (hdC r1 = 307)) from by rw [d7]]
        refine V.callVv (n := 1) X dX12_takeNumber_48 gX12_takeNumber_X12_take (c_X12_take _ _ K P1 (may := decide (hdC r1 = 307)) (fun _ z => hdC_ne (by decide) (of_decide_eq_true z))) rfl (by decide +kernel) rfl rfl rfl K.1 rfl rfl ⟨Nat.le_of_ble_eq_true rfl, Nat.le_of_ble_eq_true rfl⟩ (fun h48 hp48 => ?_)
        obtain ⟨m2, rfl, F2, P2⟩ := hp48
        refine V.iload_n X dX12_takeNumber_51 rfl ?_
        refine V.if_eq 60 X dX12_takeNumber_52 (by decide) (fun c52 => ?_) (fun c52 => ?_)
        · have c52 := bI_eq c52
          subst c52
          refine V.iload_n X dX12_takeNumber_60 rfl ?_
          exact V.iret X Y9 dX12_takeNumber_61 (fin m2 F2 P2 _ (fun z z2 => by first | (cases z2; done) | (rw [v12 z])) (fun z z2 => by first | (cases z2; done) | (exact v12 z))) (Nat.le_of_ble_eq_true rfl) (Nat.le_of_ble_eq_true rfl)
        · have c52 := bI_ne c52
          subst c52
          refine V.iload_n X dX12_takeNumber_55 rfl ?_
          refine V.ineg X dX12_takeNumber_56 ?_
          refine V.goto 61 X dX12_takeNumber_57 (by decide) ?_
          exact V.iret X Y9 dX12_takeNumber_61 (fin m2 F2 P2 _ (fun z z2 => by first | (cases z2; done) | (rw [v12 z])) (fun z z2 => by first | (cases z2; done) | (exact v12 z))) (Nat.le_of_ble_eq_true rfl) (Nat.le_of_ble_eq_true rfl)
      · rw [nI_leI (by omega) (by omega)] at c40
        have d7 : decide (hdC r1 = 307) = true := decide_eq_true (v11.mpr ⟨c27, by omega⟩)
        refine V.iconst (v := (bI true)) X dX12_takeNumber_43 (by decide) ?_
        refine V.goto 48 X dX12_takeNumber_44 (by decide) ?_
        first | rw [show bI true = bI (decide (hdC r1 = 307)) from by rw [d7]] | rw [show bI false = bI (decide (hdC r1 = 307)) from by rw [d7]]
        refine V.callVv (n := 1) X dX12_takeNumber_48 gX12_takeNumber_X12_take (c_X12_take _ _ K P1 (may := decide (hdC r1 = 307)) (fun _ z => hdC_ne (by decide) (of_decide_eq_true z))) rfl (by decide +kernel) rfl rfl rfl K.1 rfl rfl ⟨Nat.le_of_ble_eq_true rfl, Nat.le_of_ble_eq_true rfl⟩ (fun h48 hp48 => ?_)
        obtain ⟨m2, rfl, F2, P2⟩ := hp48
        refine V.iload_n X dX12_takeNumber_51 rfl ?_
        refine V.if_eq 60 X dX12_takeNumber_52 (by decide) (fun c52 => ?_) (fun c52 => ?_)
        · have c52 := bI_eq c52
          subst c52
          refine V.iload_n X dX12_takeNumber_60 rfl ?_
          exact V.iret X Y9 dX12_takeNumber_61 (fin m2 F2 P2 _ (fun z z2 => by first | (cases z2; done) | (rw [v12 z])) (fun z z2 => by first | (cases z2; done) | (exact v12 z))) (Nat.le_of_ble_eq_true rfl) (Nat.le_of_ble_eq_true rfl)
        · have c52 := bI_ne c52
          subst c52
          refine V.iload_n X dX12_takeNumber_55 rfl ?_
          refine V.ineg X dX12_takeNumber_56 ?_
          refine V.goto 61 X dX12_takeNumber_57 (by decide) ?_
          exact V.iret X Y9 dX12_takeNumber_61 (fin m2 F2 P2 _ (fun z z2 => by first | (cases z2; done) | (rw [v12 z])) (fun z z2 => by first | (cases z2; done) | (exact v12 z))) (Nat.le_of_ble_eq_true rfl) (Nat.le_of_ble_eq_true rfl)
  refine V.aload_n X dX12_takeNumber_0 rfl ?_
  refine V.bipush (v := nI 45) X dX12_takeNumber_1 (by decide) ?_
  refine V.callVi (n := 1) X dX12_takeNumber_3 gX12_takeNumber_X12_isSign (c_X12_isSign _ _ K hP.1 hV (c := 45) (by decide) (by decide) (by decide)) rfl (by decide +kernel) rfl rfl rfl K.1 rfl rfl ⟨Nat.le_of_ble_eq_true rfl, Nat.le_of_ble_eq_true rfl⟩ (fun r3 h3 hp3 => ?_)
  obtain ⟨rfl, e9⟩ := hp3; obtain rfl := e9.symm
  refine V.istore_n X dX12_takeNumber_6 [(0, _), (1, _)] rfl rfl rfl ?_
  refine V.iload_n X dX12_takeNumber_7 rfl ?_
  refine V.if_eq 16 X dX12_takeNumber_8 (by decide) (fun c8 => ?_) (fun c8 => ?_)
  · have c8 := bI_eq c8
    rw [c8]
    exact tail false m r MFr.rf hP (fun _ => rfl) (fun _ => rfl) ⟨fun z => (by cases z), fun z => absurd z (of_decide_eq_false c8)⟩
  · have c8 := bI_ne c8
    refine V.aload_n X dX12_takeNumber_11 rfl ?_
    refine V.iconst (v := bI true) X dX12_takeNumber_12 (by decide) ?_
    refine V.callVv (n := 1) X dX12_takeNumber_13 gX12_takeNumber_X12_take (c_X12_take _ _ K hP (may := true) (fun _ _ => hdC_ne (by decide) (of_decide_eq_true c8))) rfl (by decide +kernel) rfl rfl rfl K.1 rfl rfl ⟨Nat.le_of_ble_eq_true rfl, Nat.le_of_ble_eq_true rfl⟩ (fun h13 hp13 => ?_)
    obtain ⟨m2, rfl, F2, P2⟩ := hp13
    rw [c8]
    cases w with
    | true => exact tail true m2 r F2 P2 (fun _ => rfl) (fun z => by cases z) ⟨fun _ => of_decide_eq_true c8, fun _ => rfl⟩
    | false => exact tail true m2 r.tail F2 P2 (fun z => by cases z) (fun _ => rfl) ⟨fun _ => of_decide_eq_true c8, fun _ => rfl⟩
