/-! CALLS OF METHODS: row 5 is the state, row 6 what it was -/
def stM (m : Md) (a : Nat) : St := (m a 0, m a 1, m a 2)
def gS3 (s : St) (k : Nat) : Int32 := if k = 0 then s.1 else if k = 1 then s.2.1 else s.2.2
theorem gS3_m {m : Md} {a k : Nat} (hk : k < 3) : gS3 (stM m a) k = m a k := by
  rcases (show k = 0 ∨ k = 1 ∨ k = 2 by omega) with rfl | rfl | rfl <;> rfl
theorem opv_lo {o : Opd} {b a : St} {f : Nat} (h : o.1 = nI f) (hf : f < 3) : opv o b a = gS3 a f := by
  unfold opv
  rw [h]
  rcases (show f = 0 ∨ f = 1 ∨ f = 2 by omega) with rfl | rfl | rfl
  · exact if_pos (by decide)
  · exact (if_neg (by decide)).trans (if_pos (by decide))
  · exact (if_neg (by decide)).trans ((if_neg (by decide)).trans (if_pos (by decide)))
theorem opv_hi {o : Opd} {b a : St} {f : Nat} (h : o.1 = nI (f + 3)) (hf : f < 3) : opv o b a = gS3 b f := by
  unfold opv
  rw [h]
  rcases (show f = 0 ∨ f = 1 ∨ f = 2 by omega) with rfl | rfl | rfl
  · exact (if_neg (by decide)).trans ((if_neg (by decide)).trans ((if_neg (by decide)).trans (if_pos (by decide))))
  · exact (if_neg (by decide)).trans ((if_neg (by decide)).trans ((if_neg (by decide)).trans ((if_neg (by decide)).trans (if_pos (by decide)))))
  · exact (if_neg (by decide)).trans ((if_neg (by decide)).trans ((if_neg (by decide)).trans ((if_neg (by decide)).trans ((if_neg (by decide)).trans (if_pos (by decide))))))
theorem opv_n {o : Opd} {b a : St} (h : o.1 = -1) : opv o b a = o.2 := by
  unfold opv
  rw [h]
  exact (if_neg (by decide)).trans ((if_neg (by decide)).trans ((if_neg (by decide)).trans ((if_neg (by decide)).trans ((if_neg (by decide)).trans (if_neg (by decide))))))
theorem big_p : ∀ n, n < 100 → ¬ (nI 1100 + nI n ≤ nI 500) ∧ nI 1100 + nI n - nI 1100 = nI n := by decide +kernel
theorem big_m : ∀ n, n < 100 → ¬ (nI 1100 + -1 * nI n ≤ nI 500) ∧ nI 1100 + -1 * nI n - nI 1100 = -1 * nI n := by decide +kernel
theorem opE_n {o : Opd} (h : o.1 = -1) : opE o = nI 1100 + o.2 := if_pos h
theorem opE_f {o : Opd} {f : Nat} (h : o.1 = nI f) (hf : f < 6) : opE o = nI f := by
  unfold opE
  rw [h, if_neg (nI_nm1 f hf)]
theorem opE_big {o : Opd} {n : Nat} (h : o.1 = -1) (hn : n ≤ 99) (h2 : o.2 = nI n ∨ o.2 = -1 * nI n) : ¬ (opE o ≤ nI 500) ∧ opE o - nI 1100 = o.2 := by
  rw [opE_n h]
  rcases h2 with h2 | h2 <;> rw [h2]
  · exact big_p n (by omega)
  · exact big_m n (by omega)
theorem opOk_t {o : Opd} (h : opOk false o) : opOk true o := h.imp (fun z => z) (fun ⟨f, a, b⟩ => ⟨f, by have a : f < 3 := a; show f < 6; omega, b⟩)
theorem cnOk_t {c : Cnd} (h : cnOk false c) : cnOk true c := ⟨opOk_t h.1, opOk_t h.2.1, h.2.2⟩
theorem opv_now {o : Opd} (h : opOk false o) (b b' a : St) : opv o b a = opv o b' a := by
  rcases h with ⟨h, -⟩ | ⟨f, hf, h⟩
  · rw [opv_n h, opv_n h]
  · have hf : f < 3 := hf
    rw [opv_lo h hf, opv_lo h hf]
theorem i32_nle {x y : Int32} (h : ¬ y ≤ x) : x < y := by
  rw [Int32.lt_iff_toInt_lt]
  rw [Int32.le_iff_toInt_le] at h
  omega
theorem i32_nlt {x y : Int32} (h : y ≤ x) : ¬ x < y := by
  rw [Int32.lt_iff_toInt_lt]
  rw [Int32.le_iff_toInt_le] at h
  omega
def zOk (x : Clz) : Prop := match x.2 with
  | .inl c => (x.1 = 1 ∨ x.1 = 3) ∧ cnOk true c
  | .inr a => x.1 = 2 ∧ asOk a
def hld (k : Nat) (b a : St) (x : Clz) : Bool := if x.1 = k then (match x.2 with
  | .inl c => chk c b a
  | .inr _ => true) else true
def runZ : List Clz → St → Option St
  | [], s => some s
  | x :: r, s => match x.2 with
    | .inl _ => runZ r s
    | .inr a => if badV (asgV a s) = true then none else runZ r (setF s a.1 (asgV a s))
theorem drop_x {α : Type} {xs : List α} {i : Nat} {x : α} (h : xs[i]? = some x) : xs.drop i = x :: xs.drop (i + 1) := by
  obtain ⟨hj, e⟩ := List.getElem?_eq_some_iff.mp h
  rw [List.drop_eq_getElem_cons hj, e]
def nowP : Nat → Nat → Prop := fun a k => a = 5 ∧ k < 3
def scP : Nat → Nat → Prop := fun a k => (a = 5 ∨ a = 6) ∧ k < 3
theorem setF_m {m : Md} {s : St} {f : Nat} {v : Int32} (hs : stM m 5 = s) (hf : f < 3) : stM (mput m 5 f v) 5 = setF s (nI f) v := by
  subst hs
  rcases (show f = 0 ∨ f = 1 ∨ f = 2 by omega) with rfl | rfl | rfl <;> rfl
theorem badV_in (v : Int32) : inB v (-99) (nI 99) = !badV v := by
  have h9 : nI 99 = 99 := by decide
  have a : (99 : Int32).toInt = 99 := by decide
  have b : (-99 : Int32).toInt = -99 := by decide
  unfold inB badV
  rw [h9, Bool.not_or]
  congr 1
  · rw [← decide_not, decide_eq_decide, Int32.le_iff_toInt_le, Int32.lt_iff_toInt_lt]
    omega
  · rw [← decide_not, decide_eq_decide, Int32.le_iff_toInt_le, Int32.lt_iff_toInt_lt]
    omega
theorem i32_z (x : Int32) : (0 : Int32) * x = nI 0 := Int32.zero_mul
theorem fX12_valueOf_22 : FL wsX12_valueOf RX12 22 14 11 (.array .int) true := ⟨_, rfl, by decide, Or.inl ⟨"ContractTesterModel", by decide +kernel, Or.inl rfl⟩, by decide +kernel, by decide +kernel, rfl⟩
theorem fX12_valueOf_25 : FL wsX12_valueOf RX12 25 14 12 (.array .int) true := ⟨_, rfl, by decide, Or.inl ⟨"ContractTesterModel", by decide +kernel, Or.inl rfl⟩, by decide +kernel, by decide +kernel, rfl⟩
set_option maxHeartbeats 4000000 in
set_option maxRecDepth 100000 in
theorem c_X12_valueOf (l : Launch) (G : GG) {h : Hp} {M : Nat} {m : Md} (K : MdK h M) {o : Opd} (hO : opOk true o) : Con l G yX12_valueOf wsX12_valueOf 0 0 0 0 [.ref M, .int (opE o)] (Hm h M m) (pI (fun x h2 => x = opv o (stM m 6) (stM m 5) ∧ h2 = Hm h M m)) := by
  refine Con.of (cc := cX12_valueOf) (nL := 2) (ret := (some .int)) (by decide) rfl rfl rfl rfl (fun Γ hG hl X Y9 => ?_)
  subst hG
  subst hl
  rcases hO with ⟨h1, n, hn, h2⟩ | ⟨f, hf, h1⟩
  · obtain ⟨e1, e2⟩ := opE_big h1 hn h2
    refine V.iload_n X dX12_valueOf_0 rfl ?_
    refine V.sipush (v := nI 500) X dX12_valueOf_1 (by decide) ?_
    refine V.icmp_le 15 X dX12_valueOf_4 (by decide) (fun c4 => False.elim (by exact e1 c4)) (fun c4 => ?_)
    refine V.iload_n X dX12_valueOf_7 rfl ?_
    refine V.sipush (v := nI 1100) X dX12_valueOf_8 (by decide) ?_
    refine V.isub X dX12_valueOf_11 ?_
    refine V.goto 37 X dX12_valueOf_12 (by decide) ?_
    exact V.iret X Y9 dX12_valueOf_37 ⟨by rw [e2, opv_n h1], rfl⟩ (Nat.le_of_ble_eq_true rfl) (Nat.le_of_ble_eq_true rfl)
  · have hf : f < 6 := hf
    rw [opE_f h1 hf]
    refine V.iload_n X dX12_valueOf_0 rfl ?_
    refine V.sipush (v := nI 500) X dX12_valueOf_1 (by decide) ?_
    refine V.icmp_le 15 X dX12_valueOf_4 (by decide) (fun c4 => ?_) (fun c4 => False.elim (by rw [nI_leI (by omega) (by omega)] at c4; omega))
    rw [nI_leI (by omega) (by omega)] at c4
    refine V.iload_n X dX12_valueOf_15 rfl ?_
    refine V.iconst (v := nI 2) X dX12_valueOf_16 (by decide) ?_
    refine V.icmp_le 31 X dX12_valueOf_17 (by decide) (fun c17 => ?_) (fun c17 => ?_)
    · rw [nI_leI (by omega) (by omega)] at c17
      have e9 : m 5 f = opv o (stM m 6) (stM m 5) := by rw [opv_lo h1 (by omega), gS3_m (by omega)]
      refine V.aload_n X dX12_valueOf_31 rfl ?_
      refine V.mgr (k := 11) (a := 5) X K fX12_valueOf_22 dX12_valueOf_32 (by decide) ?_
      refine V.iload_n X dX12_valueOf_35 rfl ?_
      refine V.mld  X K 5 3  dX12_valueOf_36 rfl rfl (by omega) rfl ?_
      exact V.iret X Y9 dX12_valueOf_37 ⟨e9, rfl⟩ (Nat.le_of_ble_eq_true rfl) (Nat.le_of_ble_eq_true rfl)
    · rw [nI_leI (by omega) (by omega)] at c17
      have e9 : m 6 (f - 3) = opv o (stM m 6) (stM m 5) := by rw [opv_hi (f := f - 3) (by rw [h1]; congr 1; omega) (by omega), gS3_m (by omega)]
      refine V.aload_n X dX12_valueOf_20 rfl ?_
      refine V.mgr (k := 12) (a := 6) X K fX12_valueOf_25 dX12_valueOf_21 (by decide) ?_
      refine V.iload_n X dX12_valueOf_24 rfl ?_
      refine V.iconst (v := nI 3) X dX12_valueOf_25 (by decide) ?_
      refine V.isubN X dX12_valueOf_26 (by omega) ?_
      refine V.mld  X K 6 3  dX12_valueOf_27 rfl rfl (by omega) rfl ?_
      refine V.goto 37 X dX12_valueOf_28 (by decide) ?_
      exact V.iret X Y9 dX12_valueOf_37 ⟨e9, rfl⟩ (Nat.le_of_ble_eq_true rfl) (Nat.le_of_ble_eq_true rfl)
theorem fX12_holds_7 : FL wsX12_holds RX12 7 14 0 (.array .int) true := ⟨_, rfl, by decide, Or.inl ⟨"ContractTesterModel", by decide +kernel, Or.inl rfl⟩, by decide +kernel, by decide +kernel, rfl⟩
set_option maxHeartbeats 4000000 in
set_option maxRecDepth 100000 in
theorem c_X12_holds (l : Launch) (G : GG) {h : Hp} {M : Nat} {m : Md} (K : MdK h M) {p : Nat} {c : Cnd} (hC : CnR (m 1) p c) (ok : cnOk true c) (hp : p + 3 ≤ 1178) : Con l G yX12_holds wsX12_holds 1 21 0 0 [.ref M, .int (nI p)] (Hm h M m) (pI (fun x h2 => x = bI (chk c (stM m 6) (stM m 5)) ∧ h2 = Hm h M m)) := by
  refine Con.of (cc := cX12_holds) (nL := 4) (ret := (some .boolean)) (by decide) rfl rfl rfl rfl (fun Γ hG hl X Y9 => ?_)
  subst hG
  subst hl
  rcases ok.2.2 with hk | hk | hk
  · have ha := hk
    refine V.aload_n X dX12_holds_0 rfl ?_
    refine V.aload_n X dX12_holds_1 rfl ?_
    refine V.mgr (k := 0) (a := 1) X K fX12_holds_7 dX12_holds_2 (by decide) ?_
    refine V.iload_n X dX12_holds_5 rfl ?_
    refine V.mld  X K 1 1178  dX12_holds_6 rfl rfl (by omega) hC.1 ?_
    refine V.callVi (n := 1) X dX12_holds_7 gX12_holds_X12_valueOf (c_X12_valueOf _ _ K ok.1) rfl (by decide +kernel) rfl rfl rfl K.1 rfl rfl ⟨Nat.le_of_ble_eq_true rfl, Nat.le_of_ble_eq_true rfl⟩ (fun r7 h7 hp7 => ?_)
    obtain ⟨rfl, e9⟩ := hp7; obtain rfl := e9.symm
    refine V.istore_n X dX12_holds_10 [(0, _), (1, _), (2, _)] rfl rfl rfl ?_
    refine V.aload_n X dX12_holds_11 rfl ?_
    refine V.aload_n X dX12_holds_12 rfl ?_
    refine V.mgr (k := 0) (a := 1) X K fX12_holds_7 dX12_holds_13 (by decide) ?_
    refine V.iload_n X dX12_holds_16 rfl ?_
    refine V.iconst (v := nI 2) X dX12_holds_17 (by decide) ?_
    refine V.iaddN X dX12_holds_18 ?_
    refine V.mld  X K 1 1178  dX12_holds_19 rfl rfl (by omega) hC.2.2 ?_
    refine V.callVi (n := 1) X dX12_holds_20 gX12_holds_X12_valueOf (c_X12_valueOf _ _ K ok.2.1) rfl (by decide +kernel) rfl rfl rfl K.1 rfl rfl ⟨Nat.le_of_ble_eq_true rfl, Nat.le_of_ble_eq_true rfl⟩ (fun r20 h20 hp20 => ?_)
    obtain ⟨rfl, e9⟩ := hp20; obtain rfl := e9.symm
    refine V.istore_n X dX12_holds_23 [(0, _), (1, _), (2, _), (3, _)] rfl rfl rfl ?_
    refine V.aload_n X dX12_holds_24 rfl ?_
    refine V.mgr (k := 0) (a := 1) X K fX12_holds_7 dX12_holds_25 (by decide) ?_
    refine V.iload_n X dX12_holds_28 rfl ?_
    refine V.iconst (v := nI 1) X dX12_holds_29 (by decide) ?_
    refine V.iaddN X dX12_holds_30 ?_
    refine V.mld (x := nI 0) X K 1 1178  dX12_holds_31 rfl rfl (by omega) (hC.2.1.trans (by rw [hk]; decide)) ?_
    refine V.if_ne 48 X dX12_holds_32 (by decide) (fun c32 => False.elim (by revert c32; decide)) (fun c32 => ?_)
    refine V.iload_n X dX12_holds_35 rfl ?_
    refine V.iload_n X dX12_holds_36 rfl ?_
    refine V.icmp_ge 44 X dX12_holds_37 (by decide) (fun c37 => ?_) (fun c37 => ?_)
    · have e0 : chk c (stM m 6) (stM m 5) = false := (if_pos hk).trans (decide_eq_false (i32_nlt c37))
      refine V.iconst (v := nI 0) X dX12_holds_44 (by decide) ?_
      refine V.goto 83 X dX12_holds_45 (by decide) ?_
      exact V.bret X Y9 dX12_holds_83 (chk c (stM m 6) (stM m 5)) (by rw [e0]; rfl) ⟨rfl, rfl⟩ (Nat.le_of_ble_eq_true rfl) (Nat.le_of_ble_eq_true rfl)
    · have e0 : chk c (stM m 6) (stM m 5) = true := (if_pos hk).trans (decide_eq_true (i32_nle c37))
      refine V.iconst (v := nI 1) X dX12_holds_40 (by decide) ?_
      refine V.goto 83 X dX12_holds_41 (by decide) ?_
      exact V.bret X Y9 dX12_holds_83 (chk c (stM m 6) (stM m 5)) (by rw [e0]; rfl) ⟨rfl, rfl⟩ (Nat.le_of_ble_eq_true rfl) (Nat.le_of_ble_eq_true rfl)
  · have ha := hk
    refine V.aload_n X dX12_holds_0 rfl ?_
    refine V.aload_n X dX12_holds_1 rfl ?_
    refine V.mgr (k := 0) (a := 1) X K fX12_holds_7 dX12_holds_2 (by decide) ?_
    refine V.iload_n X dX12_holds_5 rfl ?_
    refine V.mld  X K 1 1178  dX12_holds_6 rfl rfl (by omega) hC.1 ?_
    refine V.callVi (n := 1) X dX12_holds_7 gX12_holds_X12_valueOf (c_X12_valueOf _ _ K ok.1) rfl (by decide +kernel) rfl rfl rfl K.1 rfl rfl ⟨Nat.le_of_ble_eq_true rfl, Nat.le_of_ble_eq_true rfl⟩ (fun r7 h7 hp7 => ?_)
    obtain ⟨rfl, e9⟩ := hp7; obtain rfl := e9.symm
    refine V.istore_n X dX12_holds_10 [(0, _), (1, _), (2, _)] rfl rfl rfl ?_
    refine V.aload_n X dX12_holds_11 rfl ?_
    refine V.aload_n X dX12_holds_12 rfl ?_
    refine V.mgr (k := 0) (a := 1) X K fX12_holds_7 dX12_holds_13 (by decide) ?_
    refine V.iload_n X dX12_holds_16 rfl ?_
    refine V.iconst (v := nI 2) X dX12_holds_17 (by decide) ?_
    refine V.iaddN X dX12_holds_18 ?_
    refine V.mld  X K 1 1178  dX12_holds_19 rfl rfl (by omega) hC.2.2 ?_
    refine V.callVi (n := 1) X dX12_holds_20 gX12_holds_X12_valueOf (c_X12_valueOf _ _ K ok.2.1) rfl (by decide +kernel) rfl rfl rfl K.1 rfl rfl ⟨Nat.le_of_ble_eq_true rfl, Nat.le_of_ble_eq_true rfl⟩ (fun r20 h20 hp20 => ?_)
    obtain ⟨rfl, e9⟩ := hp20; obtain rfl := e9.symm
    refine V.istore_n X dX12_holds_23 [(0, _), (1, _), (2, _), (3, _)] rfl rfl rfl ?_
    refine V.aload_n X dX12_holds_24 rfl ?_
    refine V.mgr (k := 0) (a := 1) X K fX12_holds_7 dX12_holds_25 (by decide) ?_
    refine V.iload_n X dX12_holds_28 rfl ?_
    refine V.iconst (v := nI 1) X dX12_holds_29 (by decide) ?_
    refine V.iaddN X dX12_holds_30 ?_
    refine V.mld (x := nI 1) X K 1 1178  dX12_holds_31 rfl rfl (by omega) (hC.2.1.trans (by rw [hk]; decide)) ?_
    refine V.if_ne 48 X dX12_holds_32 (by decide) (fun c32 => ?_) (fun c32 => False.elim (by revert c32; decide))
    refine V.aload_n X dX12_holds_48 rfl ?_
    refine V.mgr (k := 0) (a := 1) X K fX12_holds_7 dX12_holds_49 (by decide) ?_
    refine V.iload_n X dX12_holds_52 rfl ?_
    refine V.iconst (v := nI 1) X dX12_holds_53 (by decide) ?_
    refine V.iaddN X dX12_holds_54 ?_
    refine V.mld (x := nI 1) X K 1 1178  dX12_holds_55 rfl rfl (by omega) (hC.2.1.trans (by rw [hk]; decide)) ?_
    refine V.iconst (v := nI 1) X dX12_holds_56 (by decide) ?_
    refine V.icmp_ne 73 X dX12_holds_57 (by decide) (fun c57 => False.elim (by rw [nI_eq (by omega) (by omega)] at c57; omega)) (fun c57 => ?_)
    rw [nI_eq (by omega) (by omega)] at c57
    refine V.iload_n X dX12_holds_60 rfl ?_
    refine V.iload_n X dX12_holds_61 rfl ?_
    refine V.icmp_ne 69 X dX12_holds_62 (by decide) (fun c62 => ?_) (fun c62 => ?_)
    · have e0 : chk c (stM m 6) (stM m 5) = false := (if_neg (by rw [hk]; decide)).trans ((if_pos hk).trans (decide_eq_false c62))
      refine V.iconst (v := nI 0) X dX12_holds_69 (by decide) ?_
      refine V.goto 83 X dX12_holds_70 (by decide) ?_
      exact V.bret X Y9 dX12_holds_83 (chk c (stM m 6) (stM m 5)) (by rw [e0]; rfl) ⟨rfl, rfl⟩ (Nat.le_of_ble_eq_true rfl) (Nat.le_of_ble_eq_true rfl)
    · have e0 : chk c (stM m 6) (stM m 5) = true := (if_neg (by rw [hk]; decide)).trans ((if_pos hk).trans (decide_eq_true c62))
      refine V.iconst (v := nI 1) X dX12_holds_65 (by decide) ?_
      refine V.goto 83 X dX12_holds_66 (by decide) ?_
      exact V.bret X Y9 dX12_holds_83 (chk c (stM m 6) (stM m 5)) (by rw [e0]; rfl) ⟨rfl, rfl⟩ (Nat.le_of_ble_eq_true rfl) (Nat.le_of_ble_eq_true rfl)
  · have ha := hk
    refine V.aload_n X dX12_holds_0 rfl ?_
    refine V.aload_n X dX12_holds_1 rfl ?_
    refine V.mgr (k := 0) (a := 1) X K fX12_holds_7 dX12_holds_2 (by decide) ?_
    refine V.iload_n X dX12_holds_5 rfl ?_
    refine V.mld  X K 1 1178  dX12_holds_6 rfl rfl (by omega) hC.1 ?_
    refine V.callVi (n := 1) X dX12_holds_7 gX12_holds_X12_valueOf (c_X12_valueOf _ _ K ok.1) rfl (by decide +kernel) rfl rfl rfl K.1 rfl rfl ⟨Nat.le_of_ble_eq_true rfl, Nat.le_of_ble_eq_true rfl⟩ (fun r7 h7 hp7 => ?_)
    obtain ⟨rfl, e9⟩ := hp7; obtain rfl := e9.symm
    refine V.istore_n X dX12_holds_10 [(0, _), (1, _), (2, _)] rfl rfl rfl ?_
    refine V.aload_n X dX12_holds_11 rfl ?_
    refine V.aload_n X dX12_holds_12 rfl ?_
    refine V.mgr (k := 0) (a := 1) X K fX12_holds_7 dX12_holds_13 (by decide) ?_
    refine V.iload_n X dX12_holds_16 rfl ?_
    refine V.iconst (v := nI 2) X dX12_holds_17 (by decide) ?_
    refine V.iaddN X dX12_holds_18 ?_
    refine V.mld  X K 1 1178  dX12_holds_19 rfl rfl (by omega) hC.2.2 ?_
    refine V.callVi (n := 1) X dX12_holds_20 gX12_holds_X12_valueOf (c_X12_valueOf _ _ K ok.2.1) rfl (by decide +kernel) rfl rfl rfl K.1 rfl rfl ⟨Nat.le_of_ble_eq_true rfl, Nat.le_of_ble_eq_true rfl⟩ (fun r20 h20 hp20 => ?_)
    obtain ⟨rfl, e9⟩ := hp20; obtain rfl := e9.symm
    refine V.istore_n X dX12_holds_23 [(0, _), (1, _), (2, _), (3, _)] rfl rfl rfl ?_
    refine V.aload_n X dX12_holds_24 rfl ?_
    refine V.mgr (k := 0) (a := 1) X K fX12_holds_7 dX12_holds_25 (by decide) ?_
    refine V.iload_n X dX12_holds_28 rfl ?_
    refine V.iconst (v := nI 1) X dX12_holds_29 (by decide) ?_
    refine V.iaddN X dX12_holds_30 ?_
    refine V.mld (x := nI 2) X K 1 1178  dX12_holds_31 rfl rfl (by omega) (hC.2.1.trans (by rw [hk]; decide)) ?_
    refine V.if_ne 48 X dX12_holds_32 (by decide) (fun c32 => ?_) (fun c32 => False.elim (by revert c32; decide))
    refine V.aload_n X dX12_holds_48 rfl ?_
    refine V.mgr (k := 0) (a := 1) X K fX12_holds_7 dX12_holds_49 (by decide) ?_
    refine V.iload_n X dX12_holds_52 rfl ?_
    refine V.iconst (v := nI 1) X dX12_holds_53 (by decide) ?_
    refine V.iaddN X dX12_holds_54 ?_
    refine V.mld (x := nI 2) X K 1 1178  dX12_holds_55 rfl rfl (by omega) (hC.2.1.trans (by rw [hk]; decide)) ?_
    refine V.iconst (v := nI 1) X dX12_holds_56 (by decide) ?_
    refine V.icmp_ne 73 X dX12_holds_57 (by decide) (fun c57 => ?_) (fun c57 => False.elim (by rw [nI_eq (by omega) (by omega)] at c57; omega))
    rw [nI_eq (by omega) (by omega)] at c57
    refine V.iload_n X dX12_holds_73 rfl ?_
    refine V.iload_n X dX12_holds_74 rfl ?_
    refine V.icmp_le 82 X dX12_holds_75 (by decide) (fun c75 => ?_) (fun c75 => ?_)
    · have e0 : chk c (stM m 6) (stM m 5) = false := (if_neg (by rw [hk]; decide)).trans ((if_neg (by rw [hk]; decide)).trans (decide_eq_false (i32_nlt c75)))
      refine V.iconst (v := nI 0) X dX12_holds_82 (by decide) ?_
      exact V.bret X Y9 dX12_holds_83 (chk c (stM m 6) (stM m 5)) (by rw [e0]; rfl) ⟨rfl, rfl⟩ (Nat.le_of_ble_eq_true rfl) (Nat.le_of_ble_eq_true rfl)
    · have e0 : chk c (stM m 6) (stM m 5) = true := (if_neg (by rw [hk]; decide)).trans ((if_neg (by rw [hk]; decide)).trans (decide_eq_true (i32_nle c75)))
      refine V.iconst (v := nI 1) X dX12_holds_78 (by decide) ?_
      refine V.goto 83 X dX12_holds_79 (by decide) ?_
      exact V.bret X Y9 dX12_holds_83 (chk c (stM m 6) (stM m 5)) (by rw [e0]; rfl) ⟨rfl, rfl⟩ (Nat.le_of_ble_eq_true rfl) (Nat.le_of_ble_eq_true rfl)
theorem fX12_areHeld_7 : FL wsX12_areHeld RX12 7 14 0 (.array .int) true := ⟨_, rfl, by decide, Or.inl ⟨"ContractTesterModel", by decide +kernel, Or.inl rfl⟩, by decide +kernel, by decide +kernel, rfl⟩
set_option maxHeartbeats 4000000 in
set_option maxRecDepth 100000 in
theorem c_X12_areHeld (l : Launch) (G : GG) {h : Hp} {M : Nat} {m : Md} (K : MdK h M) {j : Nat} {xs : List Clz} (hj : j < 6) (hl : xs.length ≤ 7) (hC : ClL (m 1) j xs) (ok : ∀ x ∈ xs, zOk x) {kd : Nat} (hk : kd = 1 ∨ kd = 3) : Con l G yX12_areHeld wsX12_areHeld 2 44 0 0 [.ref M, .int (nI j), .int (nI kd)] (Hm h M m) (pI (fun x h2 => x = bI (xs.all (hld kd (stM m 6) (stM m 5))) ∧ h2 = Hm h M m)) := by
  refine Con.of (cc := cX12_areHeld) (nL := 6) (ret := (some .boolean)) (by decide) rfl rfl rfl rfl (fun Γ hG hl X Y9 => ?_)
  subst hG
  subst hl
  have loop : ∀ (n i : Nat) (b : Bool), i + n = xs.length → (b && (xs.drop i).all (hld kd (stM m 6) (stM m 5))) = xs.all (hld kd (stM m 6) (stM m 5)) → V Γ 0 0 5 [(0, .ref M), (1, .int (nI j)), (2, .int (nI kd)), (3, .int (bI b)), (4, .int (nI i))] [] (Hm h M m) := by
    intro n
    induction n with
    | zero =>
      intro i b g1 g2
      rw [List.drop_eq_nil_of_le (by omega)] at g2
      have e0 : b = xs.all (hld kd (stM m 6) (stM m 5)) := by rw [← g2]; cases b <;> rfl
      refine V.iload X dX12_areHeld_5 rfl ?_
      refine V.aload_n X dX12_areHeld_7 rfl ?_
      refine V.iload_n X dX12_areHeld_8 rfl ?_
      refine V.callVi (n := 1) X dX12_areHeld_9 gX12_areHeld_X12_clauses (c_X12_clauses _ _ K hj) rfl (by decide +kernel) rfl rfl rfl K.1 rfl rfl ⟨Nat.le_of_ble_eq_true rfl, Nat.le_of_ble_eq_true rfl⟩ (fun r9 h9 hp9 => ?_)
      obtain ⟨rfl, e9⟩ := hp9; obtain rfl := e9.symm
      rw [hC.1]
      refine V.icmp_ge 62 X dX12_areHeld_12 (by decide) (fun c12 => ?_) (fun c12 => False.elim (by rw [nI_leI (by omega) (by omega)] at c12; omega))
      rw [nI_leI (by omega) (by omega)] at c12
      refine V.iload_n X dX12_areHeld_62 rfl ?_
      exact V.bret X Y9 dX12_areHeld_63 b rfl ⟨congrArg bI e0, rfl⟩ (Nat.le_of_ble_eq_true rfl) (Nat.le_of_ble_eq_true rfl)
    | succ n ih =>
      intro i b g1 g2
      obtain ⟨x, hx⟩ := get_some (show i < xs.length by omega)
      rw [drop_x hx, List.all_cons] at g2
      have hz := ok x (List.mem_of_getElem? hx)
      have hR := hC.2 i x hx
      have b1 : x.1 < 4 := by
        obtain ⟨k9, y⟩ := x
        cases y with
        | inl c => have := hz.1; show k9 < 4; have : k9 = 1 ∨ k9 = 3 := this; omega
        | inr a => have := hz.1; show k9 < 4; have : k9 = 2 := this; omega
      refine V.iload X dX12_areHeld_5 rfl ?_
      refine V.aload_n X dX12_areHeld_7 rfl ?_
      refine V.iload_n X dX12_areHeld_8 rfl ?_
      refine V.callVi (n := 1) X dX12_areHeld_9 gX12_areHeld_X12_clauses (c_X12_clauses _ _ K hj) rfl (by decide +kernel) rfl rfl rfl K.1 rfl rfl ⟨Nat.le_of_ble_eq_true rfl, Nat.le_of_ble_eq_true rfl⟩ (fun r9 h9 hp9 => ?_)
      obtain ⟨rfl, e9⟩ := hp9; obtain rfl := e9.symm
      rw [hC.1]
      refine V.icmp_ge 62 X dX12_areHeld_12 (by decide) (fun c12 => False.elim (by rw [nI_leI (by omega) (by omega)] at c12; omega)) (fun c12 => ?_)
      rw [nI_leI (by omega) (by omega)] at c12
      refine V.aload_n X dX12_areHeld_15 rfl ?_
      refine V.iload_n X dX12_areHeld_16 rfl ?_
      refine V.iload X dX12_areHeld_17 rfl ?_
      refine V.callVi (n := 2) X dX12_areHeld_19 gX12_areHeld_X12_clauseAt (c_X12_clauseAt (M := M) _ _) rfl (by decide +kernel) rfl rfl rfl K.1 rfl rfl ⟨Nat.le_of_ble_eq_true rfl, Nat.le_of_ble_eq_true rfl⟩ (fun r19 h19 hp19 => ?_)
      obtain ⟨rfl, e9⟩ := hp19; obtain rfl := e9.symm
      refine V.istore X dX12_areHeld_22 [(0, _), (1, _), (2, _), (3, _), (4, _), (5, _)] rfl rfl rfl ?_
      refine V.iload_n X dX12_areHeld_24 rfl ?_
      refine V.if_eq 54 X dX12_areHeld_25 (by decide) (fun c25 => ?_) (fun c25 => ?_)
      · have c25 := bI_eq c25
        obtain rfl := c25
        refine V.iconst (v := (bI false)) X dX12_areHeld_54 (by decide) ?_
        refine V.istore_n X dX12_areHeld_55 [(0, _), (1, _), (2, _), (3, _), (4, _), (5, _)] rfl rfl rfl ?_
        refine V.iinc  X dX12_areHeld_56 [(0, _), (1, _), (2, _), (3, _), (4, _), (5, _)] rfl (nI_1 _) rfl rfl rfl ?_
        refine V.goto 5 X dX12_areHeld_59 (by decide) ?_
        refine V.drop [(0, _), (1, _), (2, _), (3, _), (4, _)] [0, 1, 2, 3, 4] rfl ?_
        first
          | exact ih (i + 1) false (by omega) g2
          | exact ih (i + 1) true (by omega) g2
      · have c25 := bI_ne c25
        obtain rfl := c25
        refine V.aload_n X dX12_areHeld_28 rfl ?_
        refine V.mgr (k := 0) (a := 1) X K fX12_areHeld_7 dX12_areHeld_29 (by decide) ?_
        refine V.iload X dX12_areHeld_32 rfl ?_
        refine V.mld  X K 1 1178  dX12_areHeld_34 rfl rfl (by omega) hR.1 ?_
        refine V.iload_n X dX12_areHeld_35 rfl ?_
        refine V.icmp_ne 50 X dX12_areHeld_36 (by decide) (fun c36 => ?_) (fun c36 => ?_)
        · rw [nI_eq (by omega) (by omega)] at c36
          have e9 : hld kd (stM m 6) (stM m 5) x = true := if_neg c36
          rw [e9] at g2
          refine V.iconst (v := (bI true)) X dX12_areHeld_50 (by decide) ?_
          refine V.goto 55 X dX12_areHeld_51 (by decide) ?_
          refine V.istore_n X dX12_areHeld_55 [(0, _), (1, _), (2, _), (3, _), (4, _), (5, _)] rfl rfl rfl ?_
          refine V.iinc  X dX12_areHeld_56 [(0, _), (1, _), (2, _), (3, _), (4, _), (5, _)] rfl (nI_1 _) rfl rfl rfl ?_
          refine V.goto 5 X dX12_areHeld_59 (by decide) ?_
          refine V.drop [(0, _), (1, _), (2, _), (3, _), (4, _)] [0, 1, 2, 3, 4] rfl ?_
          first
            | exact ih (i + 1) false (by omega) g2
            | exact ih (i + 1) true (by omega) g2
        · rw [nI_eq (by omega) (by omega)] at c36
          obtain ⟨k9, y⟩ := x
          have c36 : k9 = kd := c36
          cases y with
          | inr a => exact absurd hz.1 (by show ¬ k9 = 2; omega)
          | inl c =>
            have e8 : hld kd (stM m 6) (stM m 5) (k9, Sum.inl c) = chk c (stM m 6) (stM m 5) := if_pos c36
            refine V.aload_n X dX12_areHeld_39 rfl ?_
            refine V.iload X dX12_areHeld_40 rfl ?_
            refine V.iconst (v := nI 1) X dX12_areHeld_42 (by decide) ?_
            refine V.iaddN X dX12_areHeld_43 ?_
            refine V.callVi (n := 1) X dX12_areHeld_44 gX12_areHeld_X12_holds (c_X12_holds _ _ K hR.2 hz.2 (by omega)) rfl (by decide +kernel) rfl rfl rfl K.1 rfl rfl ⟨Nat.le_of_ble_eq_true rfl, Nat.le_of_ble_eq_true rfl⟩ (fun r44 h44 hp44 => ?_)
            obtain ⟨rfl, e9⟩ := hp44; obtain rfl := e9.symm
            refine V.if_eq 54 X dX12_areHeld_47 (by decide) (fun c47 => ?_) (fun c47 => ?_)
            · have c47 := bI_eq c47
              have e9 := e8.trans c47
              rw [e9] at g2
              refine V.iconst (v := (bI false)) X dX12_areHeld_54 (by decide) ?_
              refine V.istore_n X dX12_areHeld_55 [(0, _), (1, _), (2, _), (3, _), (4, _), (5, _)] rfl rfl rfl ?_
              refine V.iinc  X dX12_areHeld_56 [(0, _), (1, _), (2, _), (3, _), (4, _), (5, _)] rfl (nI_1 _) rfl rfl rfl ?_
              refine V.goto 5 X dX12_areHeld_59 (by decide) ?_
              refine V.drop [(0, _), (1, _), (2, _), (3, _), (4, _)] [0, 1, 2, 3, 4] rfl ?_
              first
                | exact ih (i + 1) false (by omega) g2
                | exact ih (i + 1) true (by omega) g2
            · have c47 := bI_ne c47
              have e9 := e8.trans c47
              rw [e9] at g2
              refine V.iconst (v := (bI true)) X dX12_areHeld_50 (by decide) ?_
              refine V.goto 55 X dX12_areHeld_51 (by decide) ?_
              refine V.istore_n X dX12_areHeld_55 [(0, _), (1, _), (2, _), (3, _), (4, _), (5, _)] rfl rfl rfl ?_
              refine V.iinc  X dX12_areHeld_56 [(0, _), (1, _), (2, _), (3, _), (4, _), (5, _)] rfl (nI_1 _) rfl rfl rfl ?_
              refine V.goto 5 X dX12_areHeld_59 (by decide) ?_
              refine V.drop [(0, _), (1, _), (2, _), (3, _), (4, _)] [0, 1, 2, 3, 4] rfl ?_
              first
                | exact ih (i + 1) false (by omega) g2
                | exact ih (i + 1) true (by omega) g2
  refine V.iconst (v := (bI true)) X dX12_areHeld_0 (by decide) ?_
  refine V.istore_n X dX12_areHeld_1 [(0, _), (1, _), (2, _), (3, _)] rfl rfl rfl ?_
  refine V.iconst (v := nI 0) X dX12_areHeld_2 (by decide) ?_
  refine V.istore X dX12_areHeld_3 [(0, _), (1, _), (2, _), (3, _), (4, _)] rfl rfl rfl ?_
  exact loop xs.length 0 true (by omega) rfl
theorem fX12_assigns_7 : FL wsX12_assigns RX12 7 14 0 (.array .int) true := ⟨_, rfl, by decide, Or.inl ⟨"ContractTesterModel", by decide +kernel, Or.inl rfl⟩, by decide +kernel, by decide +kernel, rfl⟩
theorem fX12_assigns_22 : FL wsX12_assigns RX12 22 14 11 (.array .int) true := ⟨_, rfl, by decide, Or.inl ⟨"ContractTesterModel", by decide +kernel, Or.inl rfl⟩, by decide +kernel, by decide +kernel, rfl⟩
set_option maxHeartbeats 4000000 in
set_option maxRecDepth 100000 in
theorem c_X12_assigns (l : Launch) (G : GG) {h : Hp} {M : Nat} {m : Md} (K : MdK h M) {j : Nat} {xs : List Clz} (hj : j < 6) (hl : xs.length ≤ 7) (hC : ClL (m 1) j xs) (ok : ∀ x ∈ xs, zOk x)  : Con l G yX12_assigns wsX12_assigns 1 22 0 0 [.ref M, .int (nI j)] (Hm h M m) (pI (fun x h2 => x = bI (runZ xs (stM m 5)).isSome ∧ ∃ m2, h2 = Hm h M m2 ∧ MFr nowP m m2 ∧ ∀ s, runZ xs (stM m 5) = some s → stM m2 5 = s)) := by
  refine Con.of (cc := cX12_assigns) (nL := 6) (ret := (some .boolean)) (by decide) rfl rfl rfl rfl (fun Γ hG hl X Y9 => ?_)
  subst hG
  subst hl
  have loop : ∀ (n i : Nat) (b : Bool) (m1 : Md) (s : St), i + n = xs.length → MFr nowP m m1 → stM m1 5 = s → (b = true → runZ (xs.drop i) s = runZ xs (stM m 5)) → (b = false → runZ xs (stM m 5) = none) → V Γ 0 0 4 [(0, .ref M), (1, .int (nI j)), (2, .int (bI b)), (3, .int (nI i))] [] (Hm h M m1) := by
    have stop : ∀ (i : Nat) (m1 : Md), MFr nowP m m1 → runZ xs (stM m 5) = none → V Γ 0 0 127 [(0, .ref M), (1, .int (nI j)), (2, .int (bI false)), (3, .int (nI i))] [] (Hm h M m1) := by
      intro i m1 F1 hn
      refine V.iload_n X dX12_assigns_127 rfl ?_
      exact V.bret X Y9 dX12_assigns_128 false rfl ⟨by rw [hn]; rfl, m1, rfl, F1, fun s z => by rw [hn] at z; cases z⟩ (Nat.le_of_ble_eq_true rfl) (Nat.le_of_ble_eq_true rfl)
    intro n
    induction n with
    | zero =>
      intro i b m1 s g1 F1 hs g2 g3
      have C1 : ClL (m1 1) j xs := ⟨(F1 1 _ (fun z => absurd z.1 (by decide))).trans hC.1, fun k9 x9 h9 => (hC.2 k9 x9 h9).same (fun k8 _ _ => F1 1 k8 (fun z => absurd z.1 (by decide)))⟩
      cases b with
      | false =>
        have hn := g3 rfl
        refine V.iload_n X dX12_assigns_4 rfl ?_
        refine V.aload_n X dX12_assigns_5 rfl ?_
        refine V.iload_n X dX12_assigns_6 rfl ?_
        refine V.callVi (n := 1) X dX12_assigns_7 gX12_assigns_X12_clauses (c_X12_clauses _ _ K hj) rfl (by decide +kernel) rfl rfl rfl K.1 rfl rfl ⟨Nat.le_of_ble_eq_true rfl, Nat.le_of_ble_eq_true rfl⟩ (fun r7 h7 hp7 => ?_)
        obtain ⟨rfl, e9⟩ := hp7; obtain rfl := e9.symm
        rw [C1.1]
        refine V.icmp_ge 127 X dX12_assigns_10 (by decide) (fun c10 => ?_) (fun c10 => False.elim (by rw [nI_leI (by omega) (by omega)] at c10; omega))
        rw [nI_leI (by omega) (by omega)] at c10
        exact stop i m1 F1 hn
      | true =>
        have g2 := g2 rfl
        rw [List.drop_eq_nil_of_le (by omega)] at g2
        have g2 : some s = runZ xs (stM m 5) := g2
        refine V.iload_n X dX12_assigns_4 rfl ?_
        refine V.aload_n X dX12_assigns_5 rfl ?_
        refine V.iload_n X dX12_assigns_6 rfl ?_
        refine V.callVi (n := 1) X dX12_assigns_7 gX12_assigns_X12_clauses (c_X12_clauses _ _ K hj) rfl (by decide +kernel) rfl rfl rfl K.1 rfl rfl ⟨Nat.le_of_ble_eq_true rfl, Nat.le_of_ble_eq_true rfl⟩ (fun r7 h7 hp7 => ?_)
        obtain ⟨rfl, e9⟩ := hp7; obtain rfl := e9.symm
        rw [C1.1]
        refine V.icmp_ge 127 X dX12_assigns_10 (by decide) (fun c10 => ?_) (fun c10 => False.elim (by rw [nI_leI (by omega) (by omega)] at c10; omega))
        rw [nI_leI (by omega) (by omega)] at c10
        refine V.iload_n X dX12_assigns_127 rfl ?_
        exact V.bret X Y9 dX12_assigns_128 true rfl ⟨by rw [← g2]; rfl, m1, rfl, F1, fun s9 z => by rw [← g2] at z; cases z; exact hs⟩ (Nat.le_of_ble_eq_true rfl) (Nat.le_of_ble_eq_true rfl)
    | succ n ih =>
      intro i b m1 s g1 F1 hs g2 g3
      have C1 : ClL (m1 1) j xs := ⟨(F1 1 _ (fun z => absurd z.1 (by decide))).trans hC.1, fun k9 x9 h9 => (hC.2 k9 x9 h9).same (fun k8 _ _ => F1 1 k8 (fun z => absurd z.1 (by decide)))⟩
      cases b with
      | false =>
        have hn := g3 rfl
        refine V.iload_n X dX12_assigns_4 rfl ?_
        refine V.aload_n X dX12_assigns_5 rfl ?_
        refine V.iload_n X dX12_assigns_6 rfl ?_
        refine V.callVi (n := 1) X dX12_assigns_7 gX12_assigns_X12_clauses (c_X12_clauses _ _ K hj) rfl (by decide +kernel) rfl rfl rfl K.1 rfl rfl ⟨Nat.le_of_ble_eq_true rfl, Nat.le_of_ble_eq_true rfl⟩ (fun r7 h7 hp7 => ?_)
        obtain ⟨rfl, e9⟩ := hp7; obtain rfl := e9.symm
        rw [C1.1]
        refine V.icmp_ge 127 X dX12_assigns_10 (by decide) (fun c10 => False.elim (by rw [nI_leI (by omega) (by omega)] at c10; omega)) (fun c10 => ?_)
        rw [nI_leI (by omega) (by omega)] at c10
        refine V.iload_n X dX12_assigns_13 rfl ?_
        refine V.if_eq 127 X dX12_assigns_14 (by decide) (fun c14 => ?_) (fun c14 => False.elim (by revert c14; decide))
        exact stop i m1 F1 hn
      | true =>
        have g2 := g2 rfl
        obtain ⟨x, hx⟩ := get_some (show i < xs.length by omega)
        have hz := ok x (List.mem_of_getElem? hx)
        have hR := C1.2 i x hx
        obtain ⟨k9, y⟩ := x
        cases y with
        | inl c =>
          have h1 := hz.1
          have h1 : k9 = 1 ∨ k9 = 3 := h1
          refine V.iload_n X dX12_assigns_4 rfl ?_
          refine V.aload_n X dX12_assigns_5 rfl ?_
          refine V.iload_n X dX12_assigns_6 rfl ?_
          refine V.callVi (n := 1) X dX12_assigns_7 gX12_assigns_X12_clauses (c_X12_clauses _ _ K hj) rfl (by decide +kernel) rfl rfl rfl K.1 rfl rfl ⟨Nat.le_of_ble_eq_true rfl, Nat.le_of_ble_eq_true rfl⟩ (fun r7 h7 hp7 => ?_)
          obtain ⟨rfl, e9⟩ := hp7; obtain rfl := e9.symm
          rw [C1.1]
          refine V.icmp_ge 127 X dX12_assigns_10 (by decide) (fun c10 => False.elim (by rw [nI_leI (by omega) (by omega)] at c10; omega)) (fun c10 => ?_)
          rw [nI_leI (by omega) (by omega)] at c10
          refine V.iload_n X dX12_assigns_13 rfl ?_
          refine V.if_eq 127 X dX12_assigns_14 (by decide) (fun c14 => False.elim (by revert c14; decide)) (fun c14 => ?_)
          refine V.aload_n X dX12_assigns_17 rfl ?_
          refine V.iload_n X dX12_assigns_18 rfl ?_
          refine V.iload_n X dX12_assigns_19 rfl ?_
          refine V.callVi (n := 2) X dX12_assigns_20 gX12_assigns_X12_clauseAt (c_X12_clauseAt (M := M) _ _) rfl (by decide +kernel) rfl rfl rfl K.1 rfl rfl ⟨Nat.le_of_ble_eq_true rfl, Nat.le_of_ble_eq_true rfl⟩ (fun r20 h20 hp20 => ?_)
          obtain ⟨rfl, e9⟩ := hp20; obtain rfl := e9.symm
          refine V.istore X dX12_assigns_23 [(0, _), (1, _), (2, _), (3, _), (4, _)] rfl rfl rfl ?_
          refine V.aload_n X dX12_assigns_25 rfl ?_
          refine V.mgr (k := 0) (a := 1) X K fX12_assigns_7 dX12_assigns_26 (by decide) ?_
          refine V.iload X dX12_assigns_29 rfl ?_
          refine V.mld  X K 1 1178  dX12_assigns_31 rfl rfl (by omega) hR.1 ?_
          refine V.iconst (v := nI 2) X dX12_assigns_32 (by decide) ?_
          refine V.icmp_ne 121 X dX12_assigns_33 (by decide) (fun c33 => ?_) (fun c33 => False.elim (by rw [nI_eq (by omega) (by omega)] at c33; omega))
          rw [nI_eq (by omega) (by omega)] at c33
          refine V.iinc  X dX12_assigns_121 [(0, _), (1, _), (2, _), (3, _), (4, _)] rfl (nI_1 _) rfl rfl rfl ?_
          refine V.goto 4 X dX12_assigns_124 (by decide) ?_
          refine V.drop [(0, _), (1, _), (2, _), (3, _)] [0, 1, 2, 3] rfl ?_
          exact ih (i + 1) true m1 s (by omega) F1 hs (fun _ => by rw [← g2, drop_x hx]; rfl) (fun z => by cases z)
        | inr a =>
          obtain ⟨h1, ⟨f, hf, ef⟩, ok2, ok3, ok4, ok5⟩ := hz
          have h1 : k9 = 2 := h1
          refine V.iload_n X dX12_assigns_4 rfl ?_
          refine V.aload_n X dX12_assigns_5 rfl ?_
          refine V.iload_n X dX12_assigns_6 rfl ?_
          refine V.callVi (n := 1) X dX12_assigns_7 gX12_assigns_X12_clauses (c_X12_clauses _ _ K hj) rfl (by decide +kernel) rfl rfl rfl K.1 rfl rfl ⟨Nat.le_of_ble_eq_true rfl, Nat.le_of_ble_eq_true rfl⟩ (fun r7 h7 hp7 => ?_)
          obtain ⟨rfl, e9⟩ := hp7; obtain rfl := e9.symm
          rw [C1.1]
          refine V.icmp_ge 127 X dX12_assigns_10 (by decide) (fun c10 => False.elim (by rw [nI_leI (by omega) (by omega)] at c10; omega)) (fun c10 => ?_)
          rw [nI_leI (by omega) (by omega)] at c10
          refine V.iload_n X dX12_assigns_13 rfl ?_
          refine V.if_eq 127 X dX12_assigns_14 (by decide) (fun c14 => False.elim (by revert c14; decide)) (fun c14 => ?_)
          refine V.aload_n X dX12_assigns_17 rfl ?_
          refine V.iload_n X dX12_assigns_18 rfl ?_
          refine V.iload_n X dX12_assigns_19 rfl ?_
          refine V.callVi (n := 2) X dX12_assigns_20 gX12_assigns_X12_clauseAt (c_X12_clauseAt (M := M) _ _) rfl (by decide +kernel) rfl rfl rfl K.1 rfl rfl ⟨Nat.le_of_ble_eq_true rfl, Nat.le_of_ble_eq_true rfl⟩ (fun r20 h20 hp20 => ?_)
          obtain ⟨rfl, e9⟩ := hp20; obtain rfl := e9.symm
          refine V.istore X dX12_assigns_23 [(0, _), (1, _), (2, _), (3, _), (4, _)] rfl rfl rfl ?_
          refine V.aload_n X dX12_assigns_25 rfl ?_
          refine V.mgr (k := 0) (a := 1) X K fX12_assigns_7 dX12_assigns_26 (by decide) ?_
          refine V.iload X dX12_assigns_29 rfl ?_
          refine V.mld  X K 1 1178  dX12_assigns_31 rfl rfl (by omega) hR.1 ?_
          refine V.iconst (v := nI 2) X dX12_assigns_32 (by decide) ?_
          refine V.icmp_ne 121 X dX12_assigns_33 (by decide) (fun c33 => False.elim (by rw [nI_eq (by omega) (by omega)] at c33; omega)) (fun c33 => ?_)
          rw [nI_eq (by omega) (by omega)] at c33
          refine V.aload_n X dX12_assigns_36 rfl ?_
          refine V.aload_n X dX12_assigns_37 rfl ?_
          refine V.mgr (k := 0) (a := 1) X K fX12_assigns_7 dX12_assigns_38 (by decide) ?_
          refine V.iload X dX12_assigns_41 rfl ?_
          refine V.iconst (v := nI 2) X dX12_assigns_43 (by decide) ?_
          refine V.iaddN X dX12_assigns_44 ?_
          refine V.mld  X K 1 1178  dX12_assigns_45 rfl rfl (by omega) hR.2.2.1 ?_
          refine V.callVi (n := 1) X dX12_assigns_46 gX12_assigns_X12_valueOf (c_X12_valueOf _ _ K (opOk_t ok2)) rfl (by decide +kernel) rfl rfl rfl K.1 rfl rfl ⟨Nat.le_of_ble_eq_true rfl, Nat.le_of_ble_eq_true rfl⟩ (fun r46 h46 hp46 => ?_)
          obtain ⟨rfl, e9⟩ := hp46; obtain rfl := e9.symm
          refine V.istore X dX12_assigns_49 [(0, _), (1, _), (2, _), (3, _), (4, _), (5, _)] rfl rfl rfl ?_
          refine V.iload X dX12_assigns_51 rfl ?_
          refine V.aload_n X dX12_assigns_53 rfl ?_
          refine V.mgr (k := 0) (a := 1) X K fX12_assigns_7 dX12_assigns_54 (by decide) ?_
          refine V.iload X dX12_assigns_57 rfl ?_
          refine V.iconst (v := nI 3) X dX12_assigns_59 (by decide) ?_
          refine V.iaddN X dX12_assigns_60 ?_
          refine V.mld (x := a.2.2.1) X K 1 1178  dX12_assigns_61 rfl rfl (by omega) hR.2.2.2.1 ?_
          refine V.if_ne 69 X dX12_assigns_62 (by decide) (fun c62 => ?_) (fun c62 => ?_)
          · refine V.aload_n X dX12_assigns_69 rfl ?_
            refine V.mgr (k := 0) (a := 1) X K fX12_assigns_7 dX12_assigns_70 (by decide) ?_
            refine V.iload X dX12_assigns_73 rfl ?_
            refine V.iconst (v := nI 3) X dX12_assigns_75 (by decide) ?_
            refine V.iaddN X dX12_assigns_76 ?_
            refine V.mld (x := a.2.2.1) X K 1 1178  dX12_assigns_77 rfl rfl (by omega) hR.2.2.2.1 ?_
            refine V.aload_n X dX12_assigns_78 rfl ?_
            refine V.aload_n X dX12_assigns_79 rfl ?_
            refine V.mgr (k := 0) (a := 1) X K fX12_assigns_7 dX12_assigns_80 (by decide) ?_
            refine V.iload X dX12_assigns_83 rfl ?_
            refine V.iconst (v := nI 4) X dX12_assigns_85 (by decide) ?_
            refine V.iaddN X dX12_assigns_86 ?_
            refine V.mld (x := opE a.2.2.2) X K 1 1178  dX12_assigns_87 rfl rfl (by omega) (hR.2.2.2.2 c62) ?_
            refine V.callVi (n := 1) X dX12_assigns_88 gX12_assigns_X12_valueOf (c_X12_valueOf _ _ K (opOk_t ok5)) rfl (by decide +kernel) rfl rfl rfl K.1 rfl rfl ⟨Nat.le_of_ble_eq_true rfl, Nat.le_of_ble_eq_true rfl⟩ (fun r88 h88 hp88 => ?_)
            obtain ⟨rfl, e9⟩ := hp88; obtain rfl := e9.symm
            refine V.imul X dX12_assigns_91 ?_
            refine V.iadd X dX12_assigns_92 ?_
            first
              | rw [show opv a.2.1 (stM m1 6) (stM m1 5) + nI 0 = asgV a s from by
                  unfold asgV
                  rw [c62, i32_z, ← hs, opv_now ok2 (stM m1 6) (stM m1 5)]]
              | rw [show opv a.2.1 (stM m1 6) (stM m1 5) + a.2.2.1 * opv a.2.2.2 (stM m1 6) (stM m1 5) = asgV a s from by
                  unfold asgV
                  rw [← hs, opv_now ok2 (stM m1 6) (stM m1 5), opv_now ok5 (stM m1 6) (stM m1 5)]]
            refine V.istore X dX12_assigns_93 [(0, _), (1, _), (2, _), (3, _), (4, _), (5, _)] rfl rfl rfl ?_
            refine V.iload X dX12_assigns_95 rfl ?_
            refine V.bipush (v := -99) X dX12_assigns_97 (by decide) ?_
            refine V.bipush (v := nI 99) X dX12_assigns_99 (by decide) ?_
            refine V.callSi (n := 3) X dX12_assigns_101 gX12_assigns_X12_in (c_X12_in _ _) rfl (by decide +kernel) rfl rfl rfl ⟨Nat.le_of_ble_eq_true rfl, Nat.le_of_ble_eq_true rfl⟩ (fun r101 h101 hp101 => ?_)
            obtain ⟨rfl, e9⟩ := hp101; obtain rfl := e9.symm
            rw [badV_in]
            refine V.istore_n X dX12_assigns_104 [(0, _), (1, _), (2, _), (3, _), (4, _), (5, _)] rfl rfl rfl ?_
            refine V.aload_n X dX12_assigns_105 rfl ?_
            refine V.mgr (k := 11) (a := 5) X K fX12_assigns_22 dX12_assigns_106 (by decide) ?_
            refine V.aload_n X dX12_assigns_109 rfl ?_
            refine V.mgr (k := 0) (a := 1) X K fX12_assigns_7 dX12_assigns_110 (by decide) ?_
            refine V.iload X dX12_assigns_113 rfl ?_
            refine V.iconst (v := nI 1) X dX12_assigns_115 (by decide) ?_
            refine V.iaddN X dX12_assigns_116 ?_
            refine V.mld (x := nI f) X K 1 1178  dX12_assigns_117 rfl rfl (by omega) (hR.2.1.trans ef) ?_
            refine V.iload X dX12_assigns_118 rfl ?_
            refine V.mst X K 5 3  dX12_assigns_120 rfl rfl (by omega) ?_
            have F2 : MFr nowP m (mput m1 5 f (asgV a s)) := F1.put ⟨rfl, hf⟩
            have s2 := setF_m (v := asgV a s) hs hf
            rw [← ef] at s2
            refine V.iinc  X dX12_assigns_121 [(0, _), (1, _), (2, _), (3, _), (4, _), (5, _)] rfl (nI_1 _) rfl rfl rfl ?_
            refine V.goto 4 X dX12_assigns_124 (by decide) ?_
            refine V.drop [(0, _), (1, _), (2, _), (3, _)] [0, 1, 2, 3] rfl ?_
            cases hb : badV (asgV a s) with
            | true => exact ih (i + 1) false _ _ (by omega) F2 s2 (fun z => by cases z) (fun _ => by rw [← g2, drop_x hx]; show (if badV (asgV a s) = true then none else _) = none; rw [hb]; rfl)
            | false => exact ih (i + 1) true _ _ (by omega) F2 s2 (fun _ => by rw [← g2, drop_x hx]; show _ = (if badV (asgV a s) = true then none else _); rw [hb]; rfl) (fun z => by cases z)
          · refine V.iconst (v := nI 0) X dX12_assigns_65 (by decide) ?_
            refine V.goto 92 X dX12_assigns_66 (by decide) ?_
            refine V.iadd X dX12_assigns_92 ?_
            first
              | rw [show opv a.2.1 (stM m1 6) (stM m1 5) + nI 0 = asgV a s from by
                  unfold asgV
                  rw [c62, i32_z, ← hs, opv_now ok2 (stM m1 6) (stM m1 5)]]
              | rw [show opv a.2.1 (stM m1 6) (stM m1 5) + a.2.2.1 * opv a.2.2.2 (stM m1 6) (stM m1 5) = asgV a s from by
                  unfold asgV
                  rw [← hs, opv_now ok2 (stM m1 6) (stM m1 5), opv_now ok5 (stM m1 6) (stM m1 5)]]
            refine V.istore X dX12_assigns_93 [(0, _), (1, _), (2, _), (3, _), (4, _), (5, _)] rfl rfl rfl ?_
            refine V.iload X dX12_assigns_95 rfl ?_
            refine V.bipush (v := -99) X dX12_assigns_97 (by decide) ?_
            refine V.bipush (v := nI 99) X dX12_assigns_99 (by decide) ?_
            refine V.callSi (n := 3) X dX12_assigns_101 gX12_assigns_X12_in (c_X12_in _ _) rfl (by decide +kernel) rfl rfl rfl ⟨Nat.le_of_ble_eq_true rfl, Nat.le_of_ble_eq_true rfl⟩ (fun r101 h101 hp101 => ?_)
            obtain ⟨rfl, e9⟩ := hp101; obtain rfl := e9.symm
            rw [badV_in]
            refine V.istore_n X dX12_assigns_104 [(0, _), (1, _), (2, _), (3, _), (4, _), (5, _)] rfl rfl rfl ?_
            refine V.aload_n X dX12_assigns_105 rfl ?_
            refine V.mgr (k := 11) (a := 5) X K fX12_assigns_22 dX12_assigns_106 (by decide) ?_
            refine V.aload_n X dX12_assigns_109 rfl ?_
            refine V.mgr (k := 0) (a := 1) X K fX12_assigns_7 dX12_assigns_110 (by decide) ?_
            refine V.iload X dX12_assigns_113 rfl ?_
            refine V.iconst (v := nI 1) X dX12_assigns_115 (by decide) ?_
            refine V.iaddN X dX12_assigns_116 ?_
            refine V.mld (x := nI f) X K 1 1178  dX12_assigns_117 rfl rfl (by omega) (hR.2.1.trans ef) ?_
            refine V.iload X dX12_assigns_118 rfl ?_
            refine V.mst X K 5 3  dX12_assigns_120 rfl rfl (by omega) ?_
            have F2 : MFr nowP m (mput m1 5 f (asgV a s)) := F1.put ⟨rfl, hf⟩
            have s2 := setF_m (v := asgV a s) hs hf
            rw [← ef] at s2
            refine V.iinc  X dX12_assigns_121 [(0, _), (1, _), (2, _), (3, _), (4, _), (5, _)] rfl (nI_1 _) rfl rfl rfl ?_
            refine V.goto 4 X dX12_assigns_124 (by decide) ?_
            refine V.drop [(0, _), (1, _), (2, _), (3, _)] [0, 1, 2, 3] rfl ?_
            cases hb : badV (asgV a s) with
            | true => exact ih (i + 1) false _ _ (by omega) F2 s2 (fun z => by cases z) (fun _ => by rw [← g2, drop_x hx]; show (if badV (asgV a s) = true then none else _) = none; rw [hb]; rfl)
            | false => exact ih (i + 1) true _ _ (by omega) F2 s2 (fun _ => by rw [← g2, drop_x hx]; show _ = (if badV (asgV a s) = true then none else _); rw [hb]; rfl) (fun z => by cases z)
  refine V.iconst (v := (bI true)) X dX12_assigns_0 (by decide) ?_
  refine V.istore_n X dX12_assigns_1 [(0, _), (1, _), (2, _)] rfl rfl rfl ?_
  refine V.iconst (v := nI 0) X dX12_assigns_2 (by decide) ?_
  refine V.istore_n X dX12_assigns_3 [(0, _), (1, _), (2, _), (3, _)] rfl rfl rfl ?_
  exact loop xs.length 0 true m _ (by omega) MFr.rf rfl (fun _ => rfl) (fun z => by cases z)
