theorem pRel_h (r : List Tok) : pRel r = if hdC r = 60 then some (nI 60, r.tail) else if hdC r = 61 then some (nI 61, r.tail) else if hdC r = 62 then some (nI 62, r.tail) else none := by
  unfold pRel
  rw [acc_h (by decide), acc_h (by decide), acc_h (by decide)]
  by_cases a : hdC r = 60
  · rw [if_pos a, if_pos a]
  rw [if_neg a, if_neg a]
  by_cases b : hdC r = 61
  · rw [if_pos b, if_pos b]
  rw [if_neg b, if_neg b]
  by_cases c : hdC r = 62
  · rw [if_pos c, if_pos c]
  rw [if_neg c, if_neg c]
theorem pSgn_h (r : List Tok) : pSgn r = if hdC r = 43 then (nI 1, r.tail) else if hdC r = 45 then (-1, r.tail) else (nI 0, r) := by
  unfold pSgn
  rw [acc_h (by decide), acc_h (by decide)]
  by_cases a : hdC r = 43
  · rw [if_pos a, if_pos a]
  rw [if_neg a, if_neg a]
  by_cases b : hdC r = 45
  · rw [if_pos b, if_pos b]
  rw [if_neg b, if_neg b]
def rl (r : List Tok) : Bool := decide (hdC r = 60) || decide (hdC r = 61) || decide (hdC r = 62)
def rlV (r : List Tok) : Int32 := if hdC r = 60 then nI 0 else if hdC r = 61 then nI 1 else nI 2
def rlE (k : Int32) : Int32 := if k = nI 60 then nI 0 else if k = nI 61 then nI 1 else nI 2
theorem rl_ne {r : List Tok} (h : rl r = true) : ¬ r = [] := fun z => by
  rw [z] at h
  exact absurd h (by decide)
theorem rl_f {r : List Tok} (h : rl r = false) : pRel r = none := by
  unfold rl at h
  rw [Bool.or_eq_false_iff, Bool.or_eq_false_iff] at h
  rw [pRel_h, if_neg (of_decide_eq_false h.1.1), if_neg (of_decide_eq_false h.1.2), if_neg (of_decide_eq_false h.2)]
theorem rl_t {r : List Tok} (h : rl r = true) : ∃ k, pRel r = some (k, r.tail) ∧ rlV r = rlE k ∧ (k = nI 60 ∨ k = nI 61 ∨ k = nI 62) := by
  rw [pRel_h]
  unfold rlV
  by_cases a : hdC r = 60
  · rw [if_pos a, if_pos a]; exact ⟨_, rfl, by decide, Or.inl rfl⟩
  rw [if_neg a, if_neg a]
  by_cases b : hdC r = 61
  · rw [if_pos b, if_pos b]; exact ⟨_, rfl, by decide, Or.inr (Or.inl rfl)⟩
  rw [if_neg b, if_neg b]
  have c : hdC r = 62 := by
    unfold rl at h
    rw [decide_eq_false a, decide_eq_false b] at h
    exact of_decide_eq_true h
  rw [if_pos c]
  exact ⟨_, rfl, by decide, Or.inr (Or.inr rfl)⟩
def CnR (f : Nat → Int32) (p : Nat) (c : Cnd) : Prop := f p = opE c.1 ∧ f (p + 1) = rlE c.2.1 ∧ f (p + 2) = opE c.2.2
def cnOk (b : Bool) (c : Cnd) : Prop := opOk b c.1 ∧ opOk b c.2.2 ∧ (c.2.1 = nI 60 ∨ c.2.1 = nI 61 ∨ c.2.1 = nI 62)
def AsR (f : Nat → Int32) (p : Nat) (a : Asg) : Prop := f p = a.1 ∧ f (p + 1) = opE a.2.1 ∧ f (p + 2) = a.2.2.1 ∧ (¬ a.2.2.1 = 0 → f (p + 3) = opE a.2.2.2)
def asOk (a : Asg) : Prop := (∃ f, f < 3 ∧ a.1 = nI f) ∧ opOk false a.2.1 ∧ (a.2.2.1 = nI 0 ∨ a.2.2.1 = nI 1 ∨ a.2.2.1 = -1) ∧ (a.2.2.1 = 0 → a.2.2.2 = a.2.1) ∧ opOk false a.2.2.2
theorem psP_2 {k : Nat} : ¬ psP 2 k := fun z => absurd z.1 (by decide)
def dP (a b : Nat) : Nat → Nat → Prop := fun x k => psP x k ∨ (x = 2 ∧ a ≤ k ∧ k < b)
theorem PS.c {m : Md} {t : List Nat} {w w2 : Bool} {r r2 : List Tok} (q : PS m t w r) (a : w = w2) (b : r = r2) : PS m t w2 r2 := by
  subst a
  subst b
  exact q
set_option maxHeartbeats 4000000 in
set_option maxRecDepth 100000 in
theorem c_X12_takeOperand (l : Launch) (G : GG) {h : Hp} {M : Nat} {m : Md} (K : MdK h M) {t : List Nat} {w : Bool} {r : List Tok} (hP : PS m t w r) {old : Bool} : Con l G yX12_takeOperand wsX12_takeOperand 4 85 0 0 [.ref M, .int (bI old)] (Hm h M m) (pI (fun x h2 => ∃ m2, h2 = Hm h M m2 ∧ MFr psP m m2 ∧ PS m2 t (w || (pOpd old r).1.isNone) (if w = true then r else (pOpd old r).2) ∧ (w = false → ∀ o, (pOpd old r).1 = some o → x = opE o ∧ opOk old o))) := by
  refine Con.of (cc := cX12_takeOperand) (nL := 2) (ret := (some .int)) (by decide) rfl rfl rfl rfl (fun Γ hG hl X Y9 => ?_)
  subst hG
  subst hl
  obtain ⟨q, e, so, hV⟩ := hP.2.1.v
  cases w with
  | true =>
    refine V.iload_n X dX12_takeOperand_0 rfl ?_
    refine V.if_eq 23 X dX12_takeOperand_1 (by decide) (fun c1 => ?_) (fun c1 => ?_)
    · have c1 := bI_eq c1
      refine V.aload_n X dX12_takeOperand_23 rfl ?_
      refine V.callVi (n := 0) X dX12_takeOperand_24 gX12_takeOperand_X12_isField (c_X12_isField _ _ K hP.1 hV) rfl (by decide +kernel) rfl rfl rfl K.1 rfl rfl ⟨Nat.le_of_ble_eq_true rfl, Nat.le_of_ble_eq_true rfl⟩ (fun r24 h24 hp24 => ?_)
      obtain ⟨rfl, e9⟩ := hp24; obtain rfl := e9.symm
      refine V.if_eq 37 X dX12_takeOperand_27 (by decide) (fun c27 => ?_) (fun c27 => ?_)
      · have c27 := bI_eq c27
        refine V.sipush (v := nI 1100) X dX12_takeOperand_37 (by decide) ?_
        refine V.aload_n X dX12_takeOperand_40 rfl ?_
        refine V.callVi (n := 0) X dX12_takeOperand_41 gX12_takeOperand_X12_takeNumber (c_X12_takeNumber _ _ K hP) rfl (by decide +kernel) rfl rfl rfl K.1 rfl rfl ⟨Nat.le_of_ble_eq_true rfl, Nat.le_of_ble_eq_true rfl⟩ (fun r41 h41 hp41 => ?_)
        obtain ⟨m2, rfl, F2, P2, -⟩ := hp41
        refine V.iadd X dX12_takeOperand_44 ?_
        exact V.iret X Y9 dX12_takeOperand_45 ⟨m2, rfl, F2, P2, fun z => by cases z⟩ (Nat.le_of_ble_eq_true rfl) (Nat.le_of_ble_eq_true rfl)
      · have c27 := bI_ne c27
        refine V.aload_n X dX12_takeOperand_30 rfl ?_
        refine V.callVi (n := 0) X dX12_takeOperand_31 gX12_takeOperand_X12_takeField (c_X12_takeField _ _ K hP) rfl (by decide +kernel) rfl rfl rfl K.1 rfl rfl ⟨Nat.le_of_ble_eq_true rfl, Nat.le_of_ble_eq_true rfl⟩ (fun r31 h31 hp31 => ?_)
        obtain ⟨m2, rfl, F2, P2, -⟩ := hp31
        refine V.goto 45 X dX12_takeOperand_34 (by decide) ?_
        exact V.iret X Y9 dX12_takeOperand_45 ⟨m2, rfl, F2, P2, fun z => by cases z⟩ (Nat.le_of_ble_eq_true rfl) (Nat.le_of_ble_eq_true rfl)
    · have c1 := bI_ne c1
      refine V.aload_n X dX12_takeOperand_4 rfl ?_
      refine V.callVi (n := 0) X dX12_takeOperand_5 gX12_takeOperand_X12_isOld (c_X12_isOld _ _ K hP.1 hV) rfl (by decide +kernel) rfl rfl rfl K.1 rfl rfl ⟨Nat.le_of_ble_eq_true rfl, Nat.le_of_ble_eq_true rfl⟩ (fun r5 h5 hp5 => ?_)
      obtain ⟨rfl, e9⟩ := hp5; obtain rfl := e9.symm
      refine V.if_eq 23 X dX12_takeOperand_8 (by decide) (fun c8 => ?_) (fun c8 => ?_)
      · have c8 := bI_eq c8
        refine V.aload_n X dX12_takeOperand_23 rfl ?_
        refine V.callVi (n := 0) X dX12_takeOperand_24 gX12_takeOperand_X12_isField (c_X12_isField _ _ K hP.1 hV) rfl (by decide +kernel) rfl rfl rfl K.1 rfl rfl ⟨Nat.le_of_ble_eq_true rfl, Nat.le_of_ble_eq_true rfl⟩ (fun r24 h24 hp24 => ?_)
        obtain ⟨rfl, e9⟩ := hp24; obtain rfl := e9.symm
        refine V.if_eq 37 X dX12_takeOperand_27 (by decide) (fun c27 => ?_) (fun c27 => ?_)
        · have c27 := bI_eq c27
          refine V.sipush (v := nI 1100) X dX12_takeOperand_37 (by decide) ?_
          refine V.aload_n X dX12_takeOperand_40 rfl ?_
          refine V.callVi (n := 0) X dX12_takeOperand_41 gX12_takeOperand_X12_takeNumber (c_X12_takeNumber _ _ K hP) rfl (by decide +kernel) rfl rfl rfl K.1 rfl rfl ⟨Nat.le_of_ble_eq_true rfl, Nat.le_of_ble_eq_true rfl⟩ (fun r41 h41 hp41 => ?_)
          obtain ⟨m2, rfl, F2, P2, -⟩ := hp41
          refine V.iadd X dX12_takeOperand_44 ?_
          exact V.iret X Y9 dX12_takeOperand_45 ⟨m2, rfl, F2, P2, fun z => by cases z⟩ (Nat.le_of_ble_eq_true rfl) (Nat.le_of_ble_eq_true rfl)
        · have c27 := bI_ne c27
          refine V.aload_n X dX12_takeOperand_30 rfl ?_
          refine V.callVi (n := 0) X dX12_takeOperand_31 gX12_takeOperand_X12_takeField (c_X12_takeField _ _ K hP) rfl (by decide +kernel) rfl rfl rfl K.1 rfl rfl ⟨Nat.le_of_ble_eq_true rfl, Nat.le_of_ble_eq_true rfl⟩ (fun r31 h31 hp31 => ?_)
          obtain ⟨m2, rfl, F2, P2, -⟩ := hp31
          refine V.goto 45 X dX12_takeOperand_34 (by decide) ?_
          exact V.iret X Y9 dX12_takeOperand_45 ⟨m2, rfl, F2, P2, fun z => by cases z⟩ (Nat.le_of_ble_eq_true rfl) (Nat.le_of_ble_eq_true rfl)
      · have c8 := bI_ne c8
        refine V.aload_n X dX12_takeOperand_11 rfl ?_
        refine V.iconst (v := (bI true)) X dX12_takeOperand_12 (by decide) ?_
        refine V.callVv (n := 1) X dX12_takeOperand_13 gX12_takeOperand_X12_take (c_X12_take _ _ K hP (may := true) (fun z => by cases z)) rfl (by decide +kernel) rfl rfl rfl K.1 rfl rfl ⟨Nat.le_of_ble_eq_true rfl, Nat.le_of_ble_eq_true rfl⟩ (fun h13 hp13 => ?_)
        obtain ⟨m3, rfl, F3, P3⟩ := hp13
        refine V.iconst (v := nI 3) X dX12_takeOperand_16 (by decide) ?_
        refine V.aload_n X dX12_takeOperand_17 rfl ?_
        refine V.callVi (n := 0) X dX12_takeOperand_18 gX12_takeOperand_X12_takeField (c_X12_takeField _ _ K (show PS m3 t true r from P3)) rfl (by decide +kernel) rfl rfl rfl K.1 rfl rfl ⟨Nat.le_of_ble_eq_true rfl, Nat.le_of_ble_eq_true rfl⟩ (fun r18 h18 hp18 => ?_)
        obtain ⟨m2, rfl, F2, P2, -⟩ := hp18
        refine V.iadd X dX12_takeOperand_21 ?_
        exact V.iret X Y9 dX12_takeOperand_22 ⟨m2, rfl, F3.tr F2, P2, fun z => by cases z⟩ (Nat.le_of_ble_eq_true rfl) (Nat.le_of_ble_eq_true rfl)
  | false =>
    refine V.iload_n X dX12_takeOperand_0 rfl ?_
    refine V.if_eq 23 X dX12_takeOperand_1 (by decide) (fun c1 => ?_) (fun c1 => ?_)
    · have c1 := bI_eq c1
      have e0 : (if old = true then acc 306 r else none) = none := by rw [c1]; rfl
      refine V.aload_n X dX12_takeOperand_23 rfl ?_
      refine V.callVi (n := 0) X dX12_takeOperand_24 gX12_takeOperand_X12_isField (c_X12_isField _ _ K hP.1 hV) rfl (by decide +kernel) rfl rfl rfl K.1 rfl rfl ⟨Nat.le_of_ble_eq_true rfl, Nat.le_of_ble_eq_true rfl⟩ (fun r24 h24 hp24 => ?_)
      obtain ⟨rfl, e9⟩ := hp24; obtain rfl := e9.symm
      refine V.if_eq 37 X dX12_takeOperand_27 (by decide) (fun c27 => ?_) (fun c27 => ?_)
      · have c27 := bI_eq c27
        have hf : fd r = false := c27
        refine V.sipush (v := nI 1100) X dX12_takeOperand_37 (by decide) ?_
        refine V.aload_n X dX12_takeOperand_40 rfl ?_
        refine V.callVi (n := 0) X dX12_takeOperand_41 gX12_takeOperand_X12_takeNumber (c_X12_takeNumber _ _ K hP) rfl (by decide +kernel) rfl rfl rfl K.1 rfl rfl ⟨Nat.le_of_ble_eq_true rfl, Nat.le_of_ble_eq_true rfl⟩ (fun r41 h41 hp41 => ?_)
        obtain ⟨m2, rfl, F2, P2, X2⟩ := hp41
        have R0 : PS m2 t (false || (pOpd old r).1.isNone) (if false = true then r else (pOpd old r).2) ∧ ∀ o, (pOpd old r).1 = some o → nI 1100 + r41 = opE o ∧ opOk old o := by
          rcases hn : pNum r with ⟨_ | v, r1⟩
          · rw [pOpd_x e0 (pFld_n hf) hn]
            rw [hn] at P2
            exact ⟨P2, fun o ho => by cases ho⟩
          · rw [pOpd_n e0 (pFld_n hf) hn]
            rw [hn] at P2 X2
            obtain ⟨x1, x2⟩ := X2 rfl v rfl
            refine ⟨P2, fun o ho => ?_⟩
            cases ho
            refine ⟨?_, Or.inl ⟨rfl, x2⟩⟩
            rw [x1]
            exact (if_pos rfl).symm
        refine V.iadd X dX12_takeOperand_44 ?_
        exact V.iret X Y9 dX12_takeOperand_45 ⟨m2, rfl, F2, R0.1, fun _ => R0.2⟩ (Nat.le_of_ble_eq_true rfl) (Nat.le_of_ble_eq_true rfl)
      · have c27 := bI_ne c27
        have hf : fd r = true := c27
        refine V.aload_n X dX12_takeOperand_30 rfl ?_
        refine V.callVi (n := 0) X dX12_takeOperand_31 gX12_takeOperand_X12_takeField (c_X12_takeField _ _ K hP) rfl (by decide +kernel) rfl rfl rfl K.1 rfl rfl ⟨Nat.le_of_ble_eq_true rfl, Nat.le_of_ble_eq_true rfl⟩ (fun r31 h31 hp31 => ?_)
        obtain ⟨m2, rfl, F2, P2, X2⟩ := hp31
        rw [hf] at P2
        have R0 : PS m2 t (false || (pOpd old r).1.isNone) (if false = true then r else (pOpd old r).2) ∧ ∀ o, (pOpd old r).1 = some o → r31 = opE o ∧ opOk old o := by
          rw [pOpd_f e0 (pFld_t hf)]
          have hf2 := of_decide_eq_true hf
          refine ⟨P2, fun o ho => ?_⟩
          cases ho
          refine ⟨?_, Or.inr ⟨hdC r - 120, by split <;> omega, rfl⟩⟩
          rw [X2 hf]
          exact (if_neg (nI_nm1 _ (by omega))).symm
        refine V.goto 45 X dX12_takeOperand_34 (by decide) ?_
        exact V.iret X Y9 dX12_takeOperand_45 ⟨m2, rfl, F2, R0.1, fun _ => R0.2⟩ (Nat.le_of_ble_eq_true rfl) (Nat.le_of_ble_eq_true rfl)
    · have c1 := bI_ne c1
      refine V.aload_n X dX12_takeOperand_4 rfl ?_
      refine V.callVi (n := 0) X dX12_takeOperand_5 gX12_takeOperand_X12_isOld (c_X12_isOld _ _ K hP.1 hV) rfl (by decide +kernel) rfl rfl rfl K.1 rfl rfl ⟨Nat.le_of_ble_eq_true rfl, Nat.le_of_ble_eq_true rfl⟩ (fun r5 h5 hp5 => ?_)
      obtain ⟨rfl, e9⟩ := hp5; obtain rfl := e9.symm
      refine V.if_eq 23 X dX12_takeOperand_8 (by decide) (fun c8 => ?_) (fun c8 => ?_)
      · have c8 := bI_eq c8
        have e0 : (if old = true then acc 306 r else none) = none := by rw [c1, if_pos rfl, acc_h (by decide), if_neg (of_decide_eq_false c8)]
        refine V.aload_n X dX12_takeOperand_23 rfl ?_
        refine V.callVi (n := 0) X dX12_takeOperand_24 gX12_takeOperand_X12_isField (c_X12_isField _ _ K hP.1 hV) rfl (by decide +kernel) rfl rfl rfl K.1 rfl rfl ⟨Nat.le_of_ble_eq_true rfl, Nat.le_of_ble_eq_true rfl⟩ (fun r24 h24 hp24 => ?_)
        obtain ⟨rfl, e9⟩ := hp24; obtain rfl := e9.symm
        refine V.if_eq 37 X dX12_takeOperand_27 (by decide) (fun c27 => ?_) (fun c27 => ?_)
        · have c27 := bI_eq c27
          have hf : fd r = false := c27
          refine V.sipush (v := nI 1100) X dX12_takeOperand_37 (by decide) ?_
          refine V.aload_n X dX12_takeOperand_40 rfl ?_
          refine V.callVi (n := 0) X dX12_takeOperand_41 gX12_takeOperand_X12_takeNumber (c_X12_takeNumber _ _ K hP) rfl (by decide +kernel) rfl rfl rfl K.1 rfl rfl ⟨Nat.le_of_ble_eq_true rfl, Nat.le_of_ble_eq_true rfl⟩ (fun r41 h41 hp41 => ?_)
          obtain ⟨m2, rfl, F2, P2, X2⟩ := hp41
          have R0 : PS m2 t (false || (pOpd old r).1.isNone) (if false = true then r else (pOpd old r).2) ∧ ∀ o, (pOpd old r).1 = some o → nI 1100 + r41 = opE o ∧ opOk old o := by
            rcases hn : pNum r with ⟨_ | v, r1⟩
            · rw [pOpd_x e0 (pFld_n hf) hn]
              rw [hn] at P2
              exact ⟨P2, fun o ho => by cases ho⟩
            · rw [pOpd_n e0 (pFld_n hf) hn]
              rw [hn] at P2 X2
              obtain ⟨x1, x2⟩ := X2 rfl v rfl
              refine ⟨P2, fun o ho => ?_⟩
              cases ho
              refine ⟨?_, Or.inl ⟨rfl, x2⟩⟩
              rw [x1]
              exact (if_pos rfl).symm
          refine V.iadd X dX12_takeOperand_44 ?_
          exact V.iret X Y9 dX12_takeOperand_45 ⟨m2, rfl, F2, R0.1, fun _ => R0.2⟩ (Nat.le_of_ble_eq_true rfl) (Nat.le_of_ble_eq_true rfl)
        · have c27 := bI_ne c27
          have hf : fd r = true := c27
          refine V.aload_n X dX12_takeOperand_30 rfl ?_
          refine V.callVi (n := 0) X dX12_takeOperand_31 gX12_takeOperand_X12_takeField (c_X12_takeField _ _ K hP) rfl (by decide +kernel) rfl rfl rfl K.1 rfl rfl ⟨Nat.le_of_ble_eq_true rfl, Nat.le_of_ble_eq_true rfl⟩ (fun r31 h31 hp31 => ?_)
          obtain ⟨m2, rfl, F2, P2, X2⟩ := hp31
          rw [hf] at P2
          have R0 : PS m2 t (false || (pOpd old r).1.isNone) (if false = true then r else (pOpd old r).2) ∧ ∀ o, (pOpd old r).1 = some o → r31 = opE o ∧ opOk old o := by
            rw [pOpd_f e0 (pFld_t hf)]
            have hf2 := of_decide_eq_true hf
            refine ⟨P2, fun o ho => ?_⟩
            cases ho
            refine ⟨?_, Or.inr ⟨hdC r - 120, by split <;> omega, rfl⟩⟩
            rw [X2 hf]
            exact (if_neg (nI_nm1 _ (by omega))).symm
          refine V.goto 45 X dX12_takeOperand_34 (by decide) ?_
          exact V.iret X Y9 dX12_takeOperand_45 ⟨m2, rfl, F2, R0.1, fun _ => R0.2⟩ (Nat.le_of_ble_eq_true rfl) (Nat.le_of_ble_eq_true rfl)
      · have c8 := bI_ne c8
        have a0 : acc 306 r = some r.tail := by rw [acc_h (by decide), if_pos (of_decide_eq_true c8)]
        refine V.aload_n X dX12_takeOperand_11 rfl ?_
        refine V.iconst (v := (bI true)) X dX12_takeOperand_12 (by decide) ?_
        refine V.callVv (n := 1) X dX12_takeOperand_13 gX12_takeOperand_X12_take (c_X12_take _ _ K hP (may := true) (fun _ _ => hdC_ne (by decide) (of_decide_eq_true c8))) rfl (by decide +kernel) rfl rfl rfl K.1 rfl rfl ⟨Nat.le_of_ble_eq_true rfl, Nat.le_of_ble_eq_true rfl⟩ (fun h13 hp13 => ?_)
        obtain ⟨m3, rfl, F3, P3⟩ := hp13
        have P3 : PS m3 t false r.tail := P3
        refine V.iconst (v := nI 3) X dX12_takeOperand_16 (by decide) ?_
        refine V.aload_n X dX12_takeOperand_17 rfl ?_
        refine V.callVi (n := 0) X dX12_takeOperand_18 gX12_takeOperand_X12_takeField (c_X12_takeField _ _ K P3) rfl (by decide +kernel) rfl rfl rfl K.1 rfl rfl ⟨Nat.le_of_ble_eq_true rfl, Nat.le_of_ble_eq_true rfl⟩ (fun r18 h18 hp18 => ?_)
        obtain ⟨m2, rfl, F2, P2, X2⟩ := hp18
        have R0 : PS m2 t (false || (pOpd old r).1.isNone) (if false = true then r else (pOpd old r).2) ∧ ∀ o, (pOpd old r).1 = some o → nI 3 + r18 = opE o ∧ opOk old o := by
          rw [c1]
          by_cases hf : fd r.tail = true
          · rw [pOpd_o a0 (pFld_t hf)]
            rw [hf] at P2
            have hf2 := of_decide_eq_true hf
            refine ⟨P2, fun o ho => ?_⟩
            cases ho
            refine ⟨?_, Or.inr ⟨3 + (hdC r.tail - 120), by rw [if_pos rfl]; omega, nI_add _ _⟩⟩
            rw [X2 hf]
            exact (if_neg (by show ¬ nI 3 + nI _ = -1; rw [nI_add]; exact nI_nm1 _ (by omega))).symm
          · have hf := Bool.eq_false_iff.mpr hf
            rw [pOpd_ox a0 (pFld_n hf)]
            rw [hf] at P2
            exact ⟨P2, fun o ho => by cases ho⟩
        refine V.iadd X dX12_takeOperand_21 ?_
        exact V.iret X Y9 dX12_takeOperand_22 ⟨m2, rfl, F3.tr F2, R0.1, fun _ => R0.2⟩ (Nat.le_of_ble_eq_true rfl) (Nat.le_of_ble_eq_true rfl)
set_option maxHeartbeats 4000000 in
set_option maxRecDepth 100000 in
theorem c_X12_takeRelation (l : Launch) (G : GG) {h : Hp} {M : Nat} {m : Md} (K : MdK h M) {t : List Nat} {w : Bool} {r : List Tok} (hP : PS m t w r)  : Con l G yX12_takeRelation wsX12_takeRelation 3 63 0 0 [.ref M] (Hm h M m) (pI (fun x h2 => ∃ m2, h2 = Hm h M m2 ∧ MFr psP m m2 ∧ PS m2 t (tk w (rl r) r).1 (tk w (rl r) r).2 ∧ x = rlV r)) := by
  refine Con.of (cc := cX12_takeRelation) (nL := 2) (ret := (some .int)) (by decide) rfl rfl rfl rfl (fun Γ hG hl X Y9 => ?_)
  subst hG
  subst hl
  obtain ⟨q, e, so, hV⟩ := hP.2.1.v
  rcases (show hdC r = 60 ∨ hdC r = 61 ∨ hdC r = 62 ∨ (¬ hdC r = 60 ∧ ¬ hdC r = 61 ∧ ¬ hdC r = 62) by omega) with z | z | z | z
  · have D60 : decide (hdC r = 60) = true := decide_eq_true (by omega)
    have D61 : decide (hdC r = 61) = false := decide_eq_false (by omega)
    have D62 : decide (hdC r = 62) = false := decide_eq_false (by omega)
    have R1 : rl r = true := by unfold rl; rw [D60, D61, D62]; rfl
    have R2 : nI 0 = rlV r := (if_pos z).symm
    refine V.aload_n X dX12_takeRelation_0 rfl ?_
    refine V.bipush (v := nI 60) X dX12_takeRelation_1 (by decide) ?_
    refine V.callVi (n := 1) X dX12_takeRelation_3 gX12_takeRelation_X12_isSign (c_X12_isSign _ _ K hP.1 hV (c := 60) (by decide) (by decide) (by decide)) rfl (by decide +kernel) rfl rfl rfl K.1 rfl rfl ⟨Nat.le_of_ble_eq_true rfl, Nat.le_of_ble_eq_true rfl⟩ (fun r3 h3 hp3 => ?_)
    obtain ⟨rfl, e9⟩ := hp3; obtain rfl := e9.symm
    rw [D60]
    refine V.if_eq 13 X dX12_takeRelation_6 (by decide) (fun c6 => False.elim (by revert c6; decide)) (fun c6 => ?_)
    refine V.iconst (v := nI 0) X dX12_takeRelation_9 (by decide) ?_
    refine V.goto 27 X dX12_takeRelation_10 (by decide) ?_
    refine V.istore_n X dX12_takeRelation_27 [(0, _), (1, _)] rfl rfl rfl ?_
    refine V.aload_n X dX12_takeRelation_28 rfl ?_
    refine V.aload_n X dX12_takeRelation_29 rfl ?_
    refine V.bipush (v := nI 60) X dX12_takeRelation_30 (by decide) ?_
    refine V.callVi (n := 1) X dX12_takeRelation_32 gX12_takeRelation_X12_isSign (c_X12_isSign _ _ K hP.1 hV (c := 60) (by decide) (by decide) (by decide)) rfl (by decide +kernel) rfl rfl rfl K.1 rfl rfl ⟨Nat.le_of_ble_eq_true rfl, Nat.le_of_ble_eq_true rfl⟩ (fun r32 h32 hp32 => ?_)
    obtain ⟨rfl, e9⟩ := hp32; obtain rfl := e9.symm
    rw [D60]
    refine V.if_ne 56 X dX12_takeRelation_35 (by decide) (fun c35 => ?_) (fun c35 => False.elim (by revert c35; decide))
    refine V.iconst (v := (bI (rl r))) X dX12_takeRelation_56 (by rw [R1]; decide) ?_
    refine V.goto 61 X dX12_takeRelation_57 (by decide) ?_
    refine V.callVv (n := 1) X dX12_takeRelation_61 gX12_takeRelation_X12_take (c_X12_take _ _ K hP (may := rl r) (fun _ z => rl_ne z)) rfl (by decide +kernel) rfl rfl rfl K.1 rfl rfl ⟨Nat.le_of_ble_eq_true rfl, Nat.le_of_ble_eq_true rfl⟩ (fun h61 hp61 => ?_)
    obtain ⟨m2, rfl, F2, P2⟩ := hp61
    refine V.iload_n X dX12_takeRelation_64 rfl ?_
    exact V.iret X Y9 dX12_takeRelation_65 ⟨m2, rfl, F2, P2, R2⟩ (Nat.le_of_ble_eq_true rfl) (Nat.le_of_ble_eq_true rfl)
  · have D60 : decide (hdC r = 60) = false := decide_eq_false (by omega)
    have D61 : decide (hdC r = 61) = true := decide_eq_true (by omega)
    have D62 : decide (hdC r = 62) = false := decide_eq_false (by omega)
    have R1 : rl r = true := by unfold rl; rw [D60, D61, D62]; rfl
    have R2 : nI 1 = rlV r := ((if_neg (by omega)).trans (if_pos z)).symm
    refine V.aload_n X dX12_takeRelation_0 rfl ?_
    refine V.bipush (v := nI 60) X dX12_takeRelation_1 (by decide) ?_
    refine V.callVi (n := 1) X dX12_takeRelation_3 gX12_takeRelation_X12_isSign (c_X12_isSign _ _ K hP.1 hV (c := 60) (by decide) (by decide) (by decide)) rfl (by decide +kernel) rfl rfl rfl K.1 rfl rfl ⟨Nat.le_of_ble_eq_true rfl, Nat.le_of_ble_eq_true rfl⟩ (fun r3 h3 hp3 => ?_)
    obtain ⟨rfl, e9⟩ := hp3; obtain rfl := e9.symm
    rw [D60]
    refine V.if_eq 13 X dX12_takeRelation_6 (by decide) (fun c6 => ?_) (fun c6 => False.elim (by revert c6; decide))
    refine V.aload_n X dX12_takeRelation_13 rfl ?_
    refine V.bipush (v := nI 61) X dX12_takeRelation_14 (by decide) ?_
    refine V.callVi (n := 1) X dX12_takeRelation_16 gX12_takeRelation_X12_isSign (c_X12_isSign _ _ K hP.1 hV (c := 61) (by decide) (by decide) (by decide)) rfl (by decide +kernel) rfl rfl rfl K.1 rfl rfl ⟨Nat.le_of_ble_eq_true rfl, Nat.le_of_ble_eq_true rfl⟩ (fun r16 h16 hp16 => ?_)
    obtain ⟨rfl, e9⟩ := hp16; obtain rfl := e9.symm
    rw [D61]
    refine V.if_eq 26 X dX12_takeRelation_19 (by decide) (fun c19 => False.elim (by revert c19; decide)) (fun c19 => ?_)
    refine V.iconst (v := nI 1) X dX12_takeRelation_22 (by decide) ?_
    refine V.goto 27 X dX12_takeRelation_23 (by decide) ?_
    refine V.istore_n X dX12_takeRelation_27 [(0, _), (1, _)] rfl rfl rfl ?_
    refine V.aload_n X dX12_takeRelation_28 rfl ?_
    refine V.aload_n X dX12_takeRelation_29 rfl ?_
    refine V.bipush (v := nI 60) X dX12_takeRelation_30 (by decide) ?_
    refine V.callVi (n := 1) X dX12_takeRelation_32 gX12_takeRelation_X12_isSign (c_X12_isSign _ _ K hP.1 hV (c := 60) (by decide) (by decide) (by decide)) rfl (by decide +kernel) rfl rfl rfl K.1 rfl rfl ⟨Nat.le_of_ble_eq_true rfl, Nat.le_of_ble_eq_true rfl⟩ (fun r32 h32 hp32 => ?_)
    obtain ⟨rfl, e9⟩ := hp32; obtain rfl := e9.symm
    rw [D60]
    refine V.if_ne 56 X dX12_takeRelation_35 (by decide) (fun c35 => False.elim (by revert c35; decide)) (fun c35 => ?_)
    refine V.aload_n X dX12_takeRelation_38 rfl ?_
    refine V.bipush (v := nI 61) X dX12_takeRelation_39 (by decide) ?_
    refine V.callVi (n := 1) X dX12_takeRelation_41 gX12_takeRelation_X12_isSign (c_X12_isSign _ _ K hP.1 hV (c := 61) (by decide) (by decide) (by decide)) rfl (by decide +kernel) rfl rfl rfl K.1 rfl rfl ⟨Nat.le_of_ble_eq_true rfl, Nat.le_of_ble_eq_true rfl⟩ (fun r41 h41 hp41 => ?_)
    obtain ⟨rfl, e9⟩ := hp41; obtain rfl := e9.symm
    rw [D61]
    refine V.if_ne 56 X dX12_takeRelation_44 (by decide) (fun c44 => ?_) (fun c44 => False.elim (by revert c44; decide))
    refine V.iconst (v := (bI (rl r))) X dX12_takeRelation_56 (by rw [R1]; decide) ?_
    refine V.goto 61 X dX12_takeRelation_57 (by decide) ?_
    refine V.callVv (n := 1) X dX12_takeRelation_61 gX12_takeRelation_X12_take (c_X12_take _ _ K hP (may := rl r) (fun _ z => rl_ne z)) rfl (by decide +kernel) rfl rfl rfl K.1 rfl rfl ⟨Nat.le_of_ble_eq_true rfl, Nat.le_of_ble_eq_true rfl⟩ (fun h61 hp61 => ?_)
    obtain ⟨m2, rfl, F2, P2⟩ := hp61
    refine V.iload_n X dX12_takeRelation_64 rfl ?_
    exact V.iret X Y9 dX12_takeRelation_65 ⟨m2, rfl, F2, P2, R2⟩ (Nat.le_of_ble_eq_true rfl) (Nat.le_of_ble_eq_true rfl)
  · have D60 : decide (hdC r = 60) = false := decide_eq_false (by omega)
    have D61 : decide (hdC r = 61) = false := decide_eq_false (by omega)
    have D62 : decide (hdC r = 62) = true := decide_eq_true (by omega)
    have R1 : rl r = true := by unfold rl; rw [D60, D61, D62]; rfl
    have R2 : nI 2 = rlV r := ((if_neg (by omega)).trans (if_neg (by omega))).symm
    refine V.aload_n X dX12_takeRelation_0 rfl ?_
    refine V.bipush (v := nI 60) X dX12_takeRelation_1 (by decide) ?_
    refine V.callVi (n := 1) X dX12_takeRelation_3 gX12_takeRelation_X12_isSign (c_X12_isSign _ _ K hP.1 hV (c := 60) (by decide) (by decide) (by decide)) rfl (by decide +kernel) rfl rfl rfl K.1 rfl rfl ⟨Nat.le_of_ble_eq_true rfl, Nat.le_of_ble_eq_true rfl⟩ (fun r3 h3 hp3 => ?_)
    obtain ⟨rfl, e9⟩ := hp3; obtain rfl := e9.symm
    rw [D60]
    refine V.if_eq 13 X dX12_takeRelation_6 (by decide) (fun c6 => ?_) (fun c6 => False.elim (by revert c6; decide))
    refine V.aload_n X dX12_takeRelation_13 rfl ?_
    refine V.bipush (v := nI 61) X dX12_takeRelation_14 (by decide) ?_
    refine V.callVi (n := 1) X dX12_takeRelation_16 gX12_takeRelation_X12_isSign (c_X12_isSign _ _ K hP.1 hV (c := 61) (by decide) (by decide) (by decide)) rfl (by decide +kernel) rfl rfl rfl K.1 rfl rfl ⟨Nat.le_of_ble_eq_true rfl, Nat.le_of_ble_eq_true rfl⟩ (fun r16 h16 hp16 => ?_)
    obtain ⟨rfl, e9⟩ := hp16; obtain rfl := e9.symm
    rw [D61]
    refine V.if_eq 26 X dX12_takeRelation_19 (by decide) (fun c19 => ?_) (fun c19 => False.elim (by revert c19; decide))
    refine V.iconst (v := nI 2) X dX12_takeRelation_26 (by decide) ?_
    refine V.istore_n X dX12_takeRelation_27 [(0, _), (1, _)] rfl rfl rfl ?_
    refine V.aload_n X dX12_takeRelation_28 rfl ?_
    refine V.aload_n X dX12_takeRelation_29 rfl ?_
    refine V.bipush (v := nI 60) X dX12_takeRelation_30 (by decide) ?_
    refine V.callVi (n := 1) X dX12_takeRelation_32 gX12_takeRelation_X12_isSign (c_X12_isSign _ _ K hP.1 hV (c := 60) (by decide) (by decide) (by decide)) rfl (by decide +kernel) rfl rfl rfl K.1 rfl rfl ⟨Nat.le_of_ble_eq_true rfl, Nat.le_of_ble_eq_true rfl⟩ (fun r32 h32 hp32 => ?_)
    obtain ⟨rfl, e9⟩ := hp32; obtain rfl := e9.symm
    rw [D60]
    refine V.if_ne 56 X dX12_takeRelation_35 (by decide) (fun c35 => False.elim (by revert c35; decide)) (fun c35 => ?_)
    refine V.aload_n X dX12_takeRelation_38 rfl ?_
    refine V.bipush (v := nI 61) X dX12_takeRelation_39 (by decide) ?_
    refine V.callVi (n := 1) X dX12_takeRelation_41 gX12_takeRelation_X12_isSign (c_X12_isSign _ _ K hP.1 hV (c := 61) (by decide) (by decide) (by decide)) rfl (by decide +kernel) rfl rfl rfl K.1 rfl rfl ⟨Nat.le_of_ble_eq_true rfl, Nat.le_of_ble_eq_true rfl⟩ (fun r41 h41 hp41 => ?_)
    obtain ⟨rfl, e9⟩ := hp41; obtain rfl := e9.symm
    rw [D61]
    refine V.if_ne 56 X dX12_takeRelation_44 (by decide) (fun c44 => False.elim (by revert c44; decide)) (fun c44 => ?_)
    refine V.aload_n X dX12_takeRelation_47 rfl ?_
    refine V.bipush (v := nI 62) X dX12_takeRelation_48 (by decide) ?_
    refine V.callVi (n := 1) X dX12_takeRelation_50 gX12_takeRelation_X12_isSign (c_X12_isSign _ _ K hP.1 hV (c := 62) (by decide) (by decide) (by decide)) rfl (by decide +kernel) rfl rfl rfl K.1 rfl rfl ⟨Nat.le_of_ble_eq_true rfl, Nat.le_of_ble_eq_true rfl⟩ (fun r50 h50 hp50 => ?_)
    obtain ⟨rfl, e9⟩ := hp50; obtain rfl := e9.symm
    rw [D62]
    refine V.if_eq 60 X dX12_takeRelation_53 (by decide) (fun c53 => False.elim (by revert c53; decide)) (fun c53 => ?_)
    refine V.iconst (v := (bI (rl r))) X dX12_takeRelation_56 (by rw [R1]; decide) ?_
    refine V.goto 61 X dX12_takeRelation_57 (by decide) ?_
    refine V.callVv (n := 1) X dX12_takeRelation_61 gX12_takeRelation_X12_take (c_X12_take _ _ K hP (may := rl r) (fun _ z => rl_ne z)) rfl (by decide +kernel) rfl rfl rfl K.1 rfl rfl ⟨Nat.le_of_ble_eq_true rfl, Nat.le_of_ble_eq_true rfl⟩ (fun h61 hp61 => ?_)
    obtain ⟨m2, rfl, F2, P2⟩ := hp61
    refine V.iload_n X dX12_takeRelation_64 rfl ?_
    exact V.iret X Y9 dX12_takeRelation_65 ⟨m2, rfl, F2, P2, R2⟩ (Nat.le_of_ble_eq_true rfl) (Nat.le_of_ble_eq_true rfl)
  · have D60 : decide (hdC r = 60) = false := decide_eq_false (by omega)
    have D61 : decide (hdC r = 61) = false := decide_eq_false (by omega)
    have D62 : decide (hdC r = 62) = false := decide_eq_false (by omega)
    have R1 : rl r = false := by unfold rl; rw [D60, D61, D62]; rfl
    have R2 : nI 2 = rlV r := ((if_neg (by omega)).trans (if_neg (by omega))).symm
    refine V.aload_n X dX12_takeRelation_0 rfl ?_
    refine V.bipush (v := nI 60) X dX12_takeRelation_1 (by decide) ?_
    refine V.callVi (n := 1) X dX12_takeRelation_3 gX12_takeRelation_X12_isSign (c_X12_isSign _ _ K hP.1 hV (c := 60) (by decide) (by decide) (by decide)) rfl (by decide +kernel) rfl rfl rfl K.1 rfl rfl ⟨Nat.le_of_ble_eq_true rfl, Nat.le_of_ble_eq_true rfl⟩ (fun r3 h3 hp3 => ?_)
    obtain ⟨rfl, e9⟩ := hp3; obtain rfl := e9.symm
    rw [D60]
    refine V.if_eq 13 X dX12_takeRelation_6 (by decide) (fun c6 => ?_) (fun c6 => False.elim (by revert c6; decide))
    refine V.aload_n X dX12_takeRelation_13 rfl ?_
    refine V.bipush (v := nI 61) X dX12_takeRelation_14 (by decide) ?_
    refine V.callVi (n := 1) X dX12_takeRelation_16 gX12_takeRelation_X12_isSign (c_X12_isSign _ _ K hP.1 hV (c := 61) (by decide) (by decide) (by decide)) rfl (by decide +kernel) rfl rfl rfl K.1 rfl rfl ⟨Nat.le_of_ble_eq_true rfl, Nat.le_of_ble_eq_true rfl⟩ (fun r16 h16 hp16 => ?_)
    obtain ⟨rfl, e9⟩ := hp16; obtain rfl := e9.symm
    rw [D61]
    refine V.if_eq 26 X dX12_takeRelation_19 (by decide) (fun c19 => ?_) (fun c19 => False.elim (by revert c19; decide))
    refine V.iconst (v := nI 2) X dX12_takeRelation_26 (by decide) ?_
    refine V.istore_n X dX12_takeRelation_27 [(0, _), (1, _)] rfl rfl rfl ?_
    refine V.aload_n X dX12_takeRelation_28 rfl ?_
    refine V.aload_n X dX12_takeRelation_29 rfl ?_
    refine V.bipush (v := nI 60) X dX12_takeRelation_30 (by decide) ?_
    refine V.callVi (n := 1) X dX12_takeRelation_32 gX12_takeRelation_X12_isSign (c_X12_isSign _ _ K hP.1 hV (c := 60) (by decide) (by decide) (by decide)) rfl (by decide +kernel) rfl rfl rfl K.1 rfl rfl ⟨Nat.le_of_ble_eq_true rfl, Nat.le_of_ble_eq_true rfl⟩ (fun r32 h32 hp32 => ?_)
    obtain ⟨rfl, e9⟩ := hp32; obtain rfl := e9.symm
    rw [D60]
    refine V.if_ne 56 X dX12_takeRelation_35 (by decide) (fun c35 => False.elim (by revert c35; decide)) (fun c35 => ?_)
    refine V.aload_n X dX12_takeRelation_38 rfl ?_
    refine V.bipush (v := nI 61) X dX12_takeRelation_39 (by decide) ?_
    refine V.callVi (n := 1) X dX12_takeRelation_41 gX12_takeRelation_X12_isSign (c_X12_isSign _ _ K hP.1 hV (c := 61) (by decide) (by decide) (by decide)) rfl (by decide +kernel) rfl rfl rfl K.1 rfl rfl ⟨Nat.le_of_ble_eq_true rfl, Nat.le_of_ble_eq_true rfl⟩ (fun r41 h41 hp41 => ?_)
    obtain ⟨rfl, e9⟩ := hp41; obtain rfl := e9.symm
    rw [D61]
    refine V.if_ne 56 X dX12_takeRelation_44 (by decide) (fun c44 => False.elim (by revert c44; decide)) (fun c44 => ?_)
    refine V.aload_n X dX12_takeRelation_47 rfl ?_
    refine V.bipush (v := nI 62) X dX12_takeRelation_48 (by decide) ?_
    refine V.callVi (n := 1) X dX12_takeRelation_50 gX12_takeRelation_X12_isSign (c_X12_isSign _ _ K hP.1 hV (c := 62) (by decide) (by decide) (by decide)) rfl (by decide +kernel) rfl rfl rfl K.1 rfl rfl ⟨Nat.le_of_ble_eq_true rfl, Nat.le_of_ble_eq_true rfl⟩ (fun r50 h50 hp50 => ?_)
    obtain ⟨rfl, e9⟩ := hp50; obtain rfl := e9.symm
    rw [D62]
    refine V.if_eq 60 X dX12_takeRelation_53 (by decide) (fun c53 => ?_) (fun c53 => False.elim (by revert c53; decide))
    refine V.iconst (v := (bI (rl r))) X dX12_takeRelation_60 (by rw [R1]; decide) ?_
    refine V.callVv (n := 1) X dX12_takeRelation_61 gX12_takeRelation_X12_take (c_X12_take _ _ K hP (may := rl r) (fun _ z => rl_ne z)) rfl (by decide +kernel) rfl rfl rfl K.1 rfl rfl ⟨Nat.le_of_ble_eq_true rfl, Nat.le_of_ble_eq_true rfl⟩ (fun h61 hp61 => ?_)
    obtain ⟨m2, rfl, F2, P2⟩ := hp61
    refine V.iload_n X dX12_takeRelation_64 rfl ?_
    exact V.iret X Y9 dX12_takeRelation_65 ⟨m2, rfl, F2, P2, R2⟩ (Nat.le_of_ble_eq_true rfl) (Nat.le_of_ble_eq_true rfl)
theorem fX12_takeCondition_13 : FL wsX12_takeCondition RX12 13 14 1 (.array .int) true := ⟨_, rfl, by decide, Or.inl ⟨"ContractTesterModel", by decide +kernel, Or.inl rfl⟩, by decide +kernel, by decide +kernel, rfl⟩
set_option maxHeartbeats 4000000 in
set_option maxRecDepth 100000 in
theorem c_X12_takeCondition (l : Launch) (G : GG) {h : Hp} {M : Nat} {m : Md} (K : MdK h M) {t : List Nat} {w : Bool} {r : List Tok} (hP : PS m t w r) {old : Bool} {p : Nat} (hp : p + 3 ≤ 272) : Con l G yX12_takeCondition wsX12_takeCondition 5 106 0 0 [.ref M, .int (nI p), .int (bI old)] (Hm h M m) (pV (fun h2 => ∃ m2, h2 = Hm h M m2 ∧ MFr (dP p (p + 3)) m m2 ∧ PS m2 t (w || (pCnd old r).1.isNone) (if w = true then r else (pCnd old r).2) ∧ (w = false → ∀ c, (pCnd old r).1 = some c → CnR (m2 2) p c ∧ cnOk old c))) := by
  refine Con.of (cc := cX12_takeCondition) (nL := 3) (ret := none) (by decide) rfl rfl rfl rfl (fun Γ hG hl X Y9 => ?_)
  subst hG
  subst hl
  have st35 : ∀ (m1 : Md) (r1 : List Tok) (x : Int32), MFr (dP p (p + 3)) m m1 → PS m1 t true r1 → (w || (pCnd old r).1.isNone) = true → (if w = true then r else (pCnd old r).2) = r1 → V Γ 0 0 35 [(0, .ref M), (1, .int (nI p)), (2, .int (bI old))] [.int x, .int (nI (p + 2)), .ref (M + 2)] (Hm h M m1) := by
    intro m1 r1 x F1 P1 hW hR
    refine V.mst X K 2 272  dX12_takeCondition_35 rfl rfl (by omega) ?_
    have F9 : MFr (dP p (p + 3)) m _ := F1.put (a := 2) (k := p + 2) (x := x) (Or.inr ⟨rfl, by omega, by omega⟩)
    have P9 := P1.dr (p + 2) x
    exact V.vret X Y9 dX12_takeCondition_36 ⟨rfl, _, rfl, F9, P9.c hW.symm hR.symm, fun hw c hc => by rw [hw, hc] at hW; cases hW⟩ (Nat.le_of_ble_eq_true rfl) (Nat.le_of_ble_eq_true rfl)
  have st22 : ∀ (m1 : Md) (r1 : List Tok) (x : Int32), MFr (dP p (p + 3)) m m1 → PS m1 t true r1 → (w || (pCnd old r).1.isNone) = true → (if w = true then r else (pCnd old r).2) = r1 → V Γ 0 0 22 [(0, .ref M), (1, .int (nI p)), (2, .int (bI old))] [.int x, .int (nI (p + 1)), .ref (M + 2)] (Hm h M m1) := by
    intro m1 r1 x F1 P1 hW hR
    refine V.mst X K 2 272  dX12_takeCondition_22 rfl rfl (by omega) ?_
    have F9 : MFr (dP p (p + 3)) m _ := F1.put (a := 2) (k := p + 1) (x := x) (Or.inr ⟨rfl, by omega, by omega⟩)
    have P9 := P1.dr (p + 1) x
    refine V.aload_n X dX12_takeCondition_23 rfl ?_
    refine V.mgr (k := 1) (a := 2) X K fX12_takeCondition_13 dX12_takeCondition_24 (by decide) ?_
    refine V.iload_n X dX12_takeCondition_27 rfl ?_
    refine V.iconst (v := nI 2) X dX12_takeCondition_28 (by decide) ?_
    refine V.iaddN X dX12_takeCondition_29 ?_
    refine V.aload_n X dX12_takeCondition_30 rfl ?_
    refine V.iload_n X dX12_takeCondition_31 rfl ?_
    refine V.callVi (n := 1) X dX12_takeCondition_32 gX12_takeCondition_X12_takeOperand (c_X12_takeOperand _ _ K P9) rfl (by decide +kernel) rfl rfl rfl K.1 rfl rfl ⟨Nat.le_of_ble_eq_true rfl, Nat.le_of_ble_eq_true rfl⟩ (fun r32 h32 hp32 => ?_)
    obtain ⟨m2, rfl, F2, P2, -⟩ := hp32
    exact st35 m2 r1 _ (F9.tr (F2.mono (fun _ _ z => Or.inl z))) P2 hW hR
  have st10 : ∀ (m1 : Md) (r1 : List Tok) (x : Int32), MFr (dP p (p + 3)) m m1 → PS m1 t true r1 → (w || (pCnd old r).1.isNone) = true → (if w = true then r else (pCnd old r).2) = r1 → V Γ 0 0 10 [(0, .ref M), (1, .int (nI p)), (2, .int (bI old))] [.int x, .int (nI p), .ref (M + 2)] (Hm h M m1) := by
    intro m1 r1 x F1 P1 hW hR
    refine V.mst X K 2 272  dX12_takeCondition_10 rfl rfl (by omega) ?_
    have F9 : MFr (dP p (p + 3)) m _ := F1.put (a := 2) (k := p) (x := x) (Or.inr ⟨rfl, by omega, by omega⟩)
    have P9 := P1.dr (p) x
    refine V.aload_n X dX12_takeCondition_11 rfl ?_
    refine V.mgr (k := 1) (a := 2) X K fX12_takeCondition_13 dX12_takeCondition_12 (by decide) ?_
    refine V.iload_n X dX12_takeCondition_15 rfl ?_
    refine V.iconst (v := nI 1) X dX12_takeCondition_16 (by decide) ?_
    refine V.iaddN X dX12_takeCondition_17 ?_
    refine V.aload_n X dX12_takeCondition_18 rfl ?_
    refine V.callVi (n := 0) X dX12_takeCondition_19 gX12_takeCondition_X12_takeRelation (c_X12_takeRelation _ _ K P9) rfl (by decide +kernel) rfl rfl rfl K.1 rfl rfl ⟨Nat.le_of_ble_eq_true rfl, Nat.le_of_ble_eq_true rfl⟩ (fun r19 h19 hp19 => ?_)
    obtain ⟨m2, rfl, F2, P2, -⟩ := hp19
    exact st22 m2 r1 _ (F9.tr (F2.mono (fun _ _ z => Or.inl z))) P2 hW hR
  refine V.aload_n X dX12_takeCondition_0 rfl ?_
  refine V.mgr (k := 1) (a := 2) X K fX12_takeCondition_13 dX12_takeCondition_1 (by decide) ?_
  refine V.iload_n X dX12_takeCondition_4 rfl ?_
  refine V.aload_n X dX12_takeCondition_5 rfl ?_
  refine V.iload_n X dX12_takeCondition_6 rfl ?_
  refine V.callVi (n := 1) X dX12_takeCondition_7 gX12_takeCondition_X12_takeOperand (c_X12_takeOperand _ _ K hP) rfl (by decide +kernel) rfl rfl rfl K.1 rfl rfl ⟨Nat.le_of_ble_eq_true rfl, Nat.le_of_ble_eq_true rfl⟩ (fun r7 h7 hp7 => ?_)
  obtain ⟨m2, rfl, F2, P2, X2⟩ := hp7
  have F2 : MFr (dP p (p + 3)) m m2 := F2.mono (fun _ _ z => Or.inl z)
  cases w with
  | true => exact st10 m2 r _ F2 P2 rfl rfl
  | false =>
    rcases ho : pOpd old r with ⟨_ | o, r1⟩
    · rw [ho] at P2
      exact st10 m2 r1 _ F2 P2 (by rw [pCnd_x1 ho]; rfl) (by rw [pCnd_x1 ho]; rfl)
    · rw [ho] at P2 X2
      obtain ⟨x1, x2⟩ := X2 rfl o rfl
      have P2 : PS m2 t false r1 := P2
      refine V.mst X K 2 272  dX12_takeCondition_10 rfl rfl (by omega) ?_
      have F3 : MFr (dP p (p + 3)) m (mput m2 2 p r7) := F2.put (Or.inr ⟨rfl, by omega, by omega⟩)
      have P3 := P2.dr p r7
      refine V.aload_n X dX12_takeCondition_11 rfl ?_
      refine V.mgr (k := 1) (a := 2) X K fX12_takeCondition_13 dX12_takeCondition_12 (by decide) ?_
      refine V.iload_n X dX12_takeCondition_15 rfl ?_
      refine V.iconst (v := nI 1) X dX12_takeCondition_16 (by decide) ?_
      refine V.iaddN X dX12_takeCondition_17 ?_
      refine V.aload_n X dX12_takeCondition_18 rfl ?_
      refine V.callVi (n := 0) X dX12_takeCondition_19 gX12_takeCondition_X12_takeRelation (c_X12_takeRelation _ _ K P3) rfl (by decide +kernel) rfl rfl rfl K.1 rfl rfl ⟨Nat.le_of_ble_eq_true rfl, Nat.le_of_ble_eq_true rfl⟩ (fun r19 h19 hp19 => ?_)
      obtain ⟨m4, rfl, G4, P4, X4⟩ := hp19
      have F4 : MFr (dP p (p + 3)) m m4 := F3.tr (G4.mono (fun _ _ z => Or.inl z))
      have v4 : m4 2 p = r7 := (G4 2 p psP_2).trans mput_at
      by_cases hr : rl r1 = true
      · rw [hr] at P4
        obtain ⟨k, g1, g2, g3⟩ := rl_t hr
        have P4 : PS m4 t false r1.tail := P4
        refine V.mst X K 2 272  dX12_takeCondition_22 rfl rfl (by omega) ?_
        have F5 : MFr (dP p (p + 3)) m (mput m4 2 (p + 1) r19) := F4.put (Or.inr ⟨rfl, by omega, by omega⟩)
        have P5 := P4.dr (p + 1) r19
        refine V.aload_n X dX12_takeCondition_23 rfl ?_
        refine V.mgr (k := 1) (a := 2) X K fX12_takeCondition_13 dX12_takeCondition_24 (by decide) ?_
        refine V.iload_n X dX12_takeCondition_27 rfl ?_
        refine V.iconst (v := nI 2) X dX12_takeCondition_28 (by decide) ?_
        refine V.iaddN X dX12_takeCondition_29 ?_
        refine V.aload_n X dX12_takeCondition_30 rfl ?_
        refine V.iload_n X dX12_takeCondition_31 rfl ?_
        refine V.callVi (n := 1) X dX12_takeCondition_32 gX12_takeCondition_X12_takeOperand (c_X12_takeOperand _ _ K P5) rfl (by decide +kernel) rfl rfl rfl K.1 rfl rfl ⟨Nat.le_of_ble_eq_true rfl, Nat.le_of_ble_eq_true rfl⟩ (fun r32 h32 hp32 => ?_)
        obtain ⟨m6, rfl, G6, P6, X6⟩ := hp32
        have F6 : MFr (dP p (p + 3)) m m6 := F5.tr (G6.mono (fun _ _ z => Or.inl z))
        rcases ho2 : pOpd old r1.tail with ⟨_ | o2, r3⟩
        · rw [ho2] at P6
          exact st35 m6 r3 _ F6 P6 (by rw [pCnd_x3 ho g1 ho2]; rfl) (by rw [pCnd_x3 ho g1 ho2]; rfl)
        · rw [ho2] at P6 X6
          obtain ⟨y1, y2⟩ := X6 rfl o2 rfl
          have P6 : PS m6 t false r3 := P6
          refine V.mst X K 2 272  dX12_takeCondition_35 rfl rfl (by omega) ?_
          have F7 : MFr (dP p (p + 3)) m (mput m6 2 (p + 2) r32) := F6.put (Or.inr ⟨rfl, by omega, by omega⟩)
          have P7 := P6.dr (p + 2) r32
          exact V.vret X Y9 dX12_takeCondition_36 ⟨rfl, _, rfl, F7, by rw [pCnd_ok ho g1 ho2]; exact P7, fun _ c hc => by
            rw [pCnd_ok ho g1 ho2] at hc
            cases hc
            refine ⟨⟨?_, ?_, ?_⟩, x2, y2, g3⟩
            · exact (mput_k (by omega)).trans ((G6 2 p psP_2).trans ((mput_k (by omega)).trans (v4.trans x1)))
            · exact (mput_k (by omega)).trans ((G6 2 (p + 1) psP_2).trans (mput_at.trans (X4.trans g2)))
            · exact mput_at.trans y1⟩ (Nat.le_of_ble_eq_true rfl) (Nat.le_of_ble_eq_true rfl)
      · have hr := Bool.eq_false_iff.mpr hr
        rw [hr] at P4
        exact st22 m4 r1 _ F4 P4 (by rw [pCnd_x2 ho (rl_f hr)]; rfl) (by rw [pCnd_x2 ho (rl_f hr)]; rfl)
