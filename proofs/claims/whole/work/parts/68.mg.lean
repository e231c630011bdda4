/-! CLAUSES: a method's row is its number of clauses, then six places each -/
abbrev Clz : Type := Nat × (Cnd ⊕ Asg)
def ClzR (f : Nat → Int32) (p : Nat) (x : Clz) : Prop := f p = nI x.1 ∧ (match x.2 with
  | .inl c => CnR f (p + 1) c
  | .inr a => AsR f (p + 1) a)
def cl1 (c : Cnd) : Clz := (1, .inl c)
def cl2 (a : Asg) : Clz := (2, .inr a)
def cl3 (c : Cnd) : Clz := (3, .inl c)
def ClL (f : Nat → Int32) (j : Nat) (xs : List Clz) : Prop := f (14 + 43 * j) = nI xs.length ∧ ∀ (i : Nat) (x : Clz), xs[i]? = some x → ClzR f (14 + 43 * j + 1 + 6 * i) x
def MtL (q : Mth) : List Clz := q.1.map cl1 ++ q.2.1.map cl2 ++ q.2.2.map cl3
def mtOk (q : Mth) : Prop := q.1.length ≤ 2 ∧ q.2.1.length ≤ 3 ∧ q.2.2.length ≤ 2 ∧ (∀ c ∈ q.1, cnOk false c) ∧ (∀ a ∈ q.2.1, asOk a) ∧ ∀ c ∈ q.2.2, cnOk true c
theorem ClzR.same {f g : Nat → Int32} {p : Nat} {x : Clz} (h : ClzR f p x) (e : ∀ k, p ≤ k → k < p + 6 → g k = f k) : ClzR g p x := by
  obtain ⟨n, x⟩ := x
  cases x with
  | inl c =>
    obtain ⟨a, b, c1, d⟩ := h
    exact ⟨(e _ (by omega) (by omega)).trans a, (e _ (by omega) (by omega)).trans b, (e _ (by omega) (by omega)).trans c1, (e _ (by omega) (by omega)).trans d⟩
  | inr c =>
    obtain ⟨a, b, c1, d, d2⟩ := h
    exact ⟨(e _ (by omega) (by omega)).trans a, (e _ (by omega) (by omega)).trans b, (e _ (by omega) (by omega)).trans c1, (e _ (by omega) (by omega)).trans d, fun z => (e _ (by omega) (by omega)).trans (d2 z)⟩
theorem ClL.snoc {f g : Nat → Int32} {j : Nat} {xs : List Clz} {x : Clz} (h : ClL f j xs) (e : ∀ k, 14 + 43 * j < k → k < 14 + 43 * j + 1 + 6 * xs.length → g k = f k) (hn : g (14 + 43 * j) = nI (xs.length + 1)) (hx : ClzR g (14 + 43 * j + 1 + 6 * xs.length) x) : ClL g j (xs ++ [x]) := by
  refine ⟨by rw [List.length_append]; exact hn, fun i y hy => ?_⟩
  by_cases hi : i < xs.length
  · rw [List.getElem?_append_left hi] at hy
    exact (h.2 i y hy).same (fun k h1 h2 => e k (by omega) (by omega))
  · have hb := (List.getElem?_eq_some_iff.mp hy).1
    rw [List.length_append] at hb
    have hi2 : i = xs.length := by simp at hb; omega
    subst hi2
    rw [List.getElem?_concat_length] at hy
    cases hy
    exact hx
def cP (j n : Nat) : Nat → Nat → Prop := fun x k => psP x k ∨ (x = 2 ∧ (k = 14 + 43 * j ∨ (14 + 43 * j + 1 + 6 * n ≤ k ∧ k < 14 + 43 * j + 1 + 6 * n + 6)))
def dM (n : Nat) : Nat → Nat → Prop := fun x k => psP x k ∨ (x = 2 ∧ (k = 4 ∨ (14 + 43 * n ≤ k ∧ k < 14 + 43 * n + 43)))
theorem pCnds_0 {w : Nat} {o : Bool} {cs : List Cnd} {r : List Tok} : pCnds w o 0 cs r = (some cs, r) := rfl
theorem pCnds_e {w n : Nat} {o : Bool} {cs : List Cnd} {r : List Tok} (hw : 0 < w) (h : ¬ hdC r = w) : pCnds w o n cs r = (some cs, r) := by
  cases n with
  | zero => rfl
  | succ n => simp [pCnds, acc_h hw, h]
theorem pCnds_n {w n : Nat} {o : Bool} {cs : List Cnd} {r r2 : List Tok} (hw : 0 < w) (h : hdC r = w) (e : pCnd o r.tail = (none, r2)) : pCnds w o (n + 1) cs r = (none, r2) := by
  simp [pCnds, acc_h hw, h, e]
theorem pCnds_s {w n : Nat} {o : Bool} {cs : List Cnd} {r r2 : List Tok} {c : Cnd} (hw : 0 < w) (h : hdC r = w) (e : pCnd o r.tail = (some c, r2)) : pCnds w o (n + 1) cs r = pCnds w o n (cs ++ [c]) r2 := by
  simp [pCnds, acc_h hw, h, e]
theorem pAsgs_e {n : Nat} {cs : List Asg} {r : List Tok} (h : ¬ hdC r = 304) : pAsgs n cs r = (some cs, r) := by
  cases n with
  | zero => rfl
  | succ n => simp [pAsgs, acc_h (c := 304) (by decide), h]
theorem pAsgs_n {n : Nat} {cs : List Asg} {r r2 : List Tok} (h : hdC r = 304) (e : pAsg r.tail = (none, r2)) : pAsgs (n + 1) cs r = (none, r2) := by
  simp [pAsgs, acc_h (c := 304) (by decide), h, e]
theorem pAsgs_s {n : Nat} {cs : List Asg} {r r2 : List Tok} {c : Asg} (h : hdC r = 304) (e : pAsg r.tail = (some c, r2)) : pAsgs (n + 1) cs r = pAsgs n (cs ++ [c]) r2 := by
  simp [pAsgs, acc_h (c := 304) (by decide), h, e]
theorem fX12_takeClause_13 : FL wsX12_takeClause RX12 13 14 1 (.array .int) true := ⟨_, rfl, by decide, Or.inl ⟨"ContractTesterModel", by decide +kernel, Or.inl rfl⟩, by decide +kernel, by decide +kernel, rfl⟩
set_option maxHeartbeats 4000000 in
set_option maxRecDepth 100000 in
theorem c_X12_takeClause1 (l : Launch) (G : GG) {h : Hp} {M : Nat} {m : Md} (K : MdK h M) {t : List Nat} {r : List Tok} (hP : PS m t false r) (hr : ¬ r = []) {j n : Nat} (hj : j < 6) (hn : m 2 (14 + 43 * j) = nI n) (hn6 : n ≤ 6) : Con l G yX12_takeClause wsX12_takeClause 6 128 0 0 [.ref M, .int (nI j), .int (nI 1)] (Hm h M m) (pV (fun h2 => ∃ m2, h2 = Hm h M m2 ∧ MFr (cP j n) m m2 ∧ PS m2 t (pCnd false r.tail).1.isNone (pCnd false r.tail).2 ∧ m2 2 (14 + 43 * j) = nI (n + 1) ∧ ∀ c, (pCnd false r.tail).1 = some c → ClzR (m2 2) (14 + 43 * j + 1 + 6 * n) (cl1 c) ∧ cnOk false c)) := by
  refine Con.of (cc := cX12_takeClause) (nL := 4) (ret := none) (by decide) rfl rfl rfl rfl (fun Γ hG hl X Y9 => ?_)
  subst hG
  subst hl
  refine V.bipush (v := nI 14) X dX12_takeClause_0 (by decide) ?_
  refine V.bipush (v := nI 43) X dX12_takeClause_2 (by decide) ?_
  refine V.iload_n X dX12_takeClause_4 rfl ?_
  refine V.imulN X dX12_takeClause_5 ?_
  refine V.iaddN X dX12_takeClause_6 ?_
  refine V.iconst (v := nI 1) X dX12_takeClause_7 (by decide) ?_
  refine V.iaddN X dX12_takeClause_8 ?_
  refine V.bipush (v := nI 6) X dX12_takeClause_9 (by decide) ?_
  refine V.aload_n X dX12_takeClause_11 rfl ?_
  refine V.mgr (k := 1) (a := 2) X K fX12_takeClause_13 dX12_takeClause_12 (by decide) ?_
  refine V.bipush (v := nI 14) X dX12_takeClause_15 (by decide) ?_
  refine V.bipush (v := nI 43) X dX12_takeClause_17 (by decide) ?_
  refine V.iload_n X dX12_takeClause_19 rfl ?_
  refine V.imulN X dX12_takeClause_20 ?_
  refine V.iaddN X dX12_takeClause_21 ?_
  refine V.mld  X K 2 272  dX12_takeClause_22 rfl rfl (by omega) hn ?_
  refine V.imulN X dX12_takeClause_23 ?_
  refine V.iaddN X dX12_takeClause_24 ?_
  refine V.istore_n X dX12_takeClause_25 [(0, _), (1, _), (2, _), (3, _)] rfl rfl rfl ?_
  refine V.aload_n X dX12_takeClause_26 rfl ?_
  refine V.mgr (k := 1) (a := 2) X K fX12_takeClause_13 dX12_takeClause_27 (by decide) ?_
  refine V.iload_n X dX12_takeClause_30 rfl ?_
  refine V.iload_n X dX12_takeClause_31 rfl ?_
  refine V.mst X K 2 272  dX12_takeClause_32 rfl rfl (by omega) ?_
  have F3 : MFr (cP j n) m (mput m 2 (14 + 43 * j + 1 + 6 * n) (nI 1)) := MFr.rf.put (Or.inr ⟨rfl, Or.inr ⟨by omega, by omega⟩⟩)
  have P3 := hP.dr (14 + 43 * j + 1 + 6 * n) (nI 1)
  have v3 := mput_at (m := m) (a := 2) (k := (14 + 43 * j + 1 + 6 * n)) (x := nI 1)
  have u3 := (mput_k (m := m) (a := 2) (k := (14 + 43 * j + 1 + 6 * n)) (b := 2) (j := 14 + 43 * j) (x := nI 1) (by omega)).trans hn
  generalize mput m 2 (14 + 43 * j + 1 + 6 * n) (nI 1) = m3 at F3 P3 v3 u3 ⊢
  refine V.aload_n X dX12_takeClause_33 rfl ?_
  refine V.iconst (v := (bI true)) X dX12_takeClause_34 (by decide) ?_
  refine V.callVv (n := 1) X dX12_takeClause_35 gX12_takeClause_X12_take (c_X12_take _ _ K P3 (may := true) (fun _ _ => hr)) rfl (by decide +kernel) rfl rfl rfl K.1 rfl rfl ⟨Nat.le_of_ble_eq_true rfl, Nat.le_of_ble_eq_true rfl⟩ (fun h35 hp35 => ?_)
  obtain ⟨m4, rfl, G4, P4⟩ := hp35
  have P4 : PS m4 t false r.tail := P4
  have F4 := F3.tr (G4.mono (fun _ _ z => Or.inl z))
  have v4 := (G4 2 _ psP_2).trans v3
  have u4 := (G4 2 _ psP_2).trans u3
  refine V.iload_n X dX12_takeClause_38 rfl ?_
  refine V.iconst (v := nI 2) X dX12_takeClause_39 (by decide) ?_
  refine V.icmp_ne 53 X dX12_takeClause_40 (by decide) (fun c40 => ?_) (fun c40 => False.elim (by rw [nI_eq (by omega) (by omega)] at c40; omega))
  rw [nI_eq (by omega) (by omega)] at c40
  refine V.aload_n X dX12_takeClause_53 rfl ?_
  refine V.iload_n X dX12_takeClause_54 rfl ?_
  refine V.iconst (v := nI 1) X dX12_takeClause_55 (by decide) ?_
  refine V.iaddN X dX12_takeClause_56 ?_
  refine V.iload_n X dX12_takeClause_57 rfl ?_
  refine V.iconst (v := nI 3) X dX12_takeClause_58 (by decide) ?_
  refine V.icmp_ne 66 X dX12_takeClause_59 (by decide) (fun c59 => ?_) (fun c59 => False.elim (by rw [nI_eq (by omega) (by omega)] at c59; omega))
  rw [nI_eq (by omega) (by omega)] at c59
  refine V.iconst (v := (bI false)) X dX12_takeClause_66 (by decide) ?_
  refine V.callVv (n := 2) X dX12_takeClause_67 gX12_takeClause_X12_takeCondition (c_X12_takeCondition _ _ K P4 (p := (14 + 43 * j + 1 + 6 * n) + 1) (by omega)) rfl (by decide +kernel) rfl rfl rfl K.1 rfl rfl ⟨Nat.le_of_ble_eq_true rfl, Nat.le_of_ble_eq_true rfl⟩ (fun h67 hp67 => ?_)
  obtain ⟨m5, rfl, G5, P5, X5⟩ := hp67
  have F5 : MFr (cP j n) m m5 := F4.tr (G5.mono (fun _ _ z => z.elim Or.inl (fun z => Or.inr ⟨z.1, Or.inr ⟨by omega, by omega⟩⟩)))
  have np : ∀ k, (k = 14 + 43 * j ∨ k = (14 + 43 * j + 1 + 6 * n)) → ¬ dP ((14 + 43 * j + 1 + 6 * n) + 1) ((14 + 43 * j + 1 + 6 * n) + 4) 2 k := fun k hk z => z.elim psP_2 (fun z => by omega)
  have v5 := (G5 2 _ (np _ (Or.inr rfl))).trans v4
  have u5 := (G5 2 _ (np _ (Or.inl rfl))).trans u4
  refine V.aload_n X dX12_takeClause_70 rfl ?_
  refine V.mgr (k := 1) (a := 2) X K fX12_takeClause_13 dX12_takeClause_71 (by decide) ?_
  refine V.bipush (v := nI 14) X dX12_takeClause_74 (by decide) ?_
  refine V.bipush (v := nI 43) X dX12_takeClause_76 (by decide) ?_
  refine V.iload_n X dX12_takeClause_78 rfl ?_
  refine V.imulN X dX12_takeClause_79 ?_
  refine V.iaddN X dX12_takeClause_80 ?_
  refine V.dup2 X dX12_takeClause_81 rfl rfl ?_
  refine V.mld  X K 2 272  dX12_takeClause_82 rfl rfl (by omega) u5 ?_
  refine V.iconst (v := nI 1) X dX12_takeClause_83 (by decide) ?_
  refine V.iaddN X dX12_takeClause_84 ?_
  refine V.mst X K 2 272  dX12_takeClause_85 rfl rfl (by omega) ?_
  have F6 : MFr (cP j n) m (mput m5 2 (14 + 43 * j) (nI (n + 1))) := F5.put (Or.inr ⟨rfl, Or.inl rfl⟩)
  have P6 := P5.dr (14 + 43 * j) (nI (n + 1))
  exact V.vret X Y9 dX12_takeClause_86 ⟨rfl, _, rfl, F6, P6, mput_at, fun c hc => by
    obtain ⟨x1, x2⟩ := X5 rfl c hc
    refine ⟨ClzR.same (f := m5 2) ?_ (fun k h1 h2 => mput_k (by omega)), x2⟩
    exact ⟨v5, x1⟩⟩ (Nat.le_of_ble_eq_true rfl) (Nat.le_of_ble_eq_true rfl)
set_option maxHeartbeats 4000000 in
set_option maxRecDepth 100000 in
theorem c_X12_takeClause2 (l : Launch) (G : GG) {h : Hp} {M : Nat} {m : Md} (K : MdK h M) {t : List Nat} {r : List Tok} (hP : PS m t false r) (hr : ¬ r = []) {j n : Nat} (hj : j < 6) (hn : m 2 (14 + 43 * j) = nI n) (hn6 : n ≤ 6) : Con l G yX12_takeClause wsX12_takeClause 6 127 0 0 [.ref M, .int (nI j), .int (nI 2)] (Hm h M m) (pV (fun h2 => ∃ m2, h2 = Hm h M m2 ∧ MFr (cP j n) m m2 ∧ PS m2 t (pAsg r.tail).1.isNone (pAsg r.tail).2 ∧ m2 2 (14 + 43 * j) = nI (n + 1) ∧ ∀ c, (pAsg r.tail).1 = some c → ClzR (m2 2) (14 + 43 * j + 1 + 6 * n) (cl2 c) ∧ asOk c)) := by
  refine Con.of (cc := cX12_takeClause) (nL := 4) (ret := none) (by decide) rfl rfl rfl rfl (fun Γ hG hl X Y9 => ?_)
  subst hG
  subst hl
  refine V.bipush (v := nI 14) X dX12_takeClause_0 (by decide) ?_
  refine V.bipush (v := nI 43) X dX12_takeClause_2 (by decide) ?_
  refine V.iload_n X dX12_takeClause_4 rfl ?_
  refine V.imulN X dX12_takeClause_5 ?_
  refine V.iaddN X dX12_takeClause_6 ?_
  refine V.iconst (v := nI 1) X dX12_takeClause_7 (by decide) ?_
  refine V.iaddN X dX12_takeClause_8 ?_
  refine V.bipush (v := nI 6) X dX12_takeClause_9 (by decide) ?_
  refine V.aload_n X dX12_takeClause_11 rfl ?_
  refine V.mgr (k := 1) (a := 2) X K fX12_takeClause_13 dX12_takeClause_12 (by decide) ?_
  refine V.bipush (v := nI 14) X dX12_takeClause_15 (by decide) ?_
  refine V.bipush (v := nI 43) X dX12_takeClause_17 (by decide) ?_
  refine V.iload_n X dX12_takeClause_19 rfl ?_
  refine V.imulN X dX12_takeClause_20 ?_
  refine V.iaddN X dX12_takeClause_21 ?_
  refine V.mld  X K 2 272  dX12_takeClause_22 rfl rfl (by omega) hn ?_
  refine V.imulN X dX12_takeClause_23 ?_
  refine V.iaddN X dX12_takeClause_24 ?_
  refine V.istore_n X dX12_takeClause_25 [(0, _), (1, _), (2, _), (3, _)] rfl rfl rfl ?_
  refine V.aload_n X dX12_takeClause_26 rfl ?_
  refine V.mgr (k := 1) (a := 2) X K fX12_takeClause_13 dX12_takeClause_27 (by decide) ?_
  refine V.iload_n X dX12_takeClause_30 rfl ?_
  refine V.iload_n X dX12_takeClause_31 rfl ?_
  refine V.mst X K 2 272  dX12_takeClause_32 rfl rfl (by omega) ?_
  have F3 : MFr (cP j n) m (mput m 2 (14 + 43 * j + 1 + 6 * n) (nI 2)) := MFr.rf.put (Or.inr ⟨rfl, Or.inr ⟨by omega, by omega⟩⟩)
  have P3 := hP.dr (14 + 43 * j + 1 + 6 * n) (nI 2)
  have v3 := mput_at (m := m) (a := 2) (k := (14 + 43 * j + 1 + 6 * n)) (x := nI 2)
  have u3 := (mput_k (m := m) (a := 2) (k := (14 + 43 * j + 1 + 6 * n)) (b := 2) (j := 14 + 43 * j) (x := nI 2) (by omega)).trans hn
  generalize mput m 2 (14 + 43 * j + 1 + 6 * n) (nI 2) = m3 at F3 P3 v3 u3 ⊢
  refine V.aload_n X dX12_takeClause_33 rfl ?_
  refine V.iconst (v := (bI true)) X dX12_takeClause_34 (by decide) ?_
  refine V.callVv (n := 1) X dX12_takeClause_35 gX12_takeClause_X12_take (c_X12_take _ _ K P3 (may := true) (fun _ _ => hr)) rfl (by decide +kernel) rfl rfl rfl K.1 rfl rfl ⟨Nat.le_of_ble_eq_true rfl, Nat.le_of_ble_eq_true rfl⟩ (fun h35 hp35 => ?_)
  obtain ⟨m4, rfl, G4, P4⟩ := hp35
  have P4 : PS m4 t false r.tail := P4
  have F4 := F3.tr (G4.mono (fun _ _ z => Or.inl z))
  have v4 := (G4 2 _ psP_2).trans v3
  have u4 := (G4 2 _ psP_2).trans u3
  refine V.iload_n X dX12_takeClause_38 rfl ?_
  refine V.iconst (v := nI 2) X dX12_takeClause_39 (by decide) ?_
  refine V.icmp_ne 53 X dX12_takeClause_40 (by decide) (fun c40 => False.elim (by rw [nI_eq (by omega) (by omega)] at c40; omega)) (fun c40 => ?_)
  rw [nI_eq (by omega) (by omega)] at c40
  refine V.aload_n X dX12_takeClause_43 rfl ?_
  refine V.iload_n X dX12_takeClause_44 rfl ?_
  refine V.iconst (v := nI 1) X dX12_takeClause_45 (by decide) ?_
  refine V.iaddN X dX12_takeClause_46 ?_
  refine V.callVv (n := 1) X dX12_takeClause_47 gX12_takeClause_X12_takeAssignment (c_X12_takeAssignment _ _ K P4 (p := (14 + 43 * j + 1 + 6 * n) + 1) (by omega)) rfl (by decide +kernel) rfl rfl rfl K.1 rfl rfl ⟨Nat.le_of_ble_eq_true rfl, Nat.le_of_ble_eq_true rfl⟩ (fun h47 hp47 => ?_)
  obtain ⟨m5, rfl, G5, P5, X5⟩ := hp47
  have F5 : MFr (cP j n) m m5 := F4.tr (G5.mono (fun _ _ z => z.elim Or.inl (fun z => Or.inr ⟨z.1, Or.inr ⟨by omega, by omega⟩⟩)))
  have np : ∀ k, (k = 14 + 43 * j ∨ k = (14 + 43 * j + 1 + 6 * n)) → ¬ dP ((14 + 43 * j + 1 + 6 * n) + 1) ((14 + 43 * j + 1 + 6 * n) + 5) 2 k := fun k hk z => z.elim psP_2 (fun z => by omega)
  have v5 := (G5 2 _ (np _ (Or.inr rfl))).trans v4
  have u5 := (G5 2 _ (np _ (Or.inl rfl))).trans u4
  refine V.goto 70 X dX12_takeClause_50 (by decide) ?_
  refine V.aload_n X dX12_takeClause_70 rfl ?_
  refine V.mgr (k := 1) (a := 2) X K fX12_takeClause_13 dX12_takeClause_71 (by decide) ?_
  refine V.bipush (v := nI 14) X dX12_takeClause_74 (by decide) ?_
  refine V.bipush (v := nI 43) X dX12_takeClause_76 (by decide) ?_
  refine V.iload_n X dX12_takeClause_78 rfl ?_
  refine V.imulN X dX12_takeClause_79 ?_
  refine V.iaddN X dX12_takeClause_80 ?_
  refine V.dup2 X dX12_takeClause_81 rfl rfl ?_
  refine V.mld  X K 2 272  dX12_takeClause_82 rfl rfl (by omega) u5 ?_
  refine V.iconst (v := nI 1) X dX12_takeClause_83 (by decide) ?_
  refine V.iaddN X dX12_takeClause_84 ?_
  refine V.mst X K 2 272  dX12_takeClause_85 rfl rfl (by omega) ?_
  have F6 : MFr (cP j n) m (mput m5 2 (14 + 43 * j) (nI (n + 1))) := F5.put (Or.inr ⟨rfl, Or.inl rfl⟩)
  have P6 := P5.dr (14 + 43 * j) (nI (n + 1))
  exact V.vret X Y9 dX12_takeClause_86 ⟨rfl, _, rfl, F6, P6, mput_at, fun c hc => by
    obtain ⟨x1, x2⟩ := X5 rfl c hc
    refine ⟨ClzR.same (f := m5 2) ?_ (fun k h1 h2 => mput_k (by omega)), x2⟩
    exact ⟨v5, x1⟩⟩ (Nat.le_of_ble_eq_true rfl) (Nat.le_of_ble_eq_true rfl)
set_option maxHeartbeats 4000000 in
set_option maxRecDepth 100000 in
theorem c_X12_takeClause3 (l : Launch) (G : GG) {h : Hp} {M : Nat} {m : Md} (K : MdK h M) {t : List Nat} {r : List Tok} (hP : PS m t false r) (hr : ¬ r = []) {j n : Nat} (hj : j < 6) (hn : m 2 (14 + 43 * j) = nI n) (hn6 : n ≤ 6) : Con l G yX12_takeClause wsX12_takeClause 6 128 0 0 [.ref M, .int (nI j), .int (nI 3)] (Hm h M m) (pV (fun h2 => ∃ m2, h2 = Hm h M m2 ∧ MFr (cP j n) m m2 ∧ PS m2 t (pCnd true r.tail).1.isNone (pCnd true r.tail).2 ∧ m2 2 (14 + 43 * j) = nI (n + 1) ∧ ∀ c, (pCnd true r.tail).1 = some c → ClzR (m2 2) (14 + 43 * j + 1 + 6 * n) (cl3 c) ∧ cnOk true c)) := by
  refine Con.of (cc := cX12_takeClause) (nL := 4) (ret := none) (by decide) rfl rfl rfl rfl (fun Γ hG hl X Y9 => ?_)
  subst hG
  subst hl
  refine V.bipush (v := nI 14) X dX12_takeClause_0 (by decide) ?_
  refine V.bipush (v := nI 43) X dX12_takeClause_2 (by decide) ?_
  refine V.iload_n X dX12_takeClause_4 rfl ?_
  refine V.imulN X dX12_takeClause_5 ?_
  refine V.iaddN X dX12_takeClause_6 ?_
  refine V.iconst (v := nI 1) X dX12_takeClause_7 (by decide) ?_
  refine V.iaddN X dX12_takeClause_8 ?_
  refine V.bipush (v := nI 6) X dX12_takeClause_9 (by decide) ?_
  refine V.aload_n X dX12_takeClause_11 rfl ?_
  refine V.mgr (k := 1) (a := 2) X K fX12_takeClause_13 dX12_takeClause_12 (by decide) ?_
  refine V.bipush (v := nI 14) X dX12_takeClause_15 (by decide) ?_
  refine V.bipush (v := nI 43) X dX12_takeClause_17 (by decide) ?_
  refine V.iload_n X dX12_takeClause_19 rfl ?_
  refine V.imulN X dX12_takeClause_20 ?_
  refine V.iaddN X dX12_takeClause_21 ?_
  refine V.mld  X K 2 272  dX12_takeClause_22 rfl rfl (by omega) hn ?_
  refine V.imulN X dX12_takeClause_23 ?_
  refine V.iaddN X dX12_takeClause_24 ?_
  refine V.istore_n X dX12_takeClause_25 [(0, _), (1, _), (2, _), (3, _)] rfl rfl rfl ?_
  refine V.aload_n X dX12_takeClause_26 rfl ?_
  refine V.mgr (k := 1) (a := 2) X K fX12_takeClause_13 dX12_takeClause_27 (by decide) ?_
  refine V.iload_n X dX12_takeClause_30 rfl ?_
  refine V.iload_n X dX12_takeClause_31 rfl ?_
  refine V.mst X K 2 272  dX12_takeClause_32 rfl rfl (by omega) ?_
  have F3 : MFr (cP j n) m (mput m 2 (14 + 43 * j + 1 + 6 * n) (nI 3)) := MFr.rf.put (Or.inr ⟨rfl, Or.inr ⟨by omega, by omega⟩⟩)
  have P3 := hP.dr (14 + 43 * j + 1 + 6 * n) (nI 3)
  have v3 := mput_at (m := m) (a := 2) (k := (14 + 43 * j + 1 + 6 * n)) (x := nI 3)
  have u3 := (mput_k (m := m) (a := 2) (k := (14 + 43 * j + 1 + 6 * n)) (b := 2) (j := 14 + 43 * j) (x := nI 3) (by omega)).trans hn
  generalize mput m 2 (14 + 43 * j + 1 + 6 * n) (nI 3) = m3 at F3 P3 v3 u3 ⊢
  refine V.aload_n X dX12_takeClause_33 rfl ?_
  refine V.iconst (v := (bI true)) X dX12_takeClause_34 (by decide) ?_
  refine V.callVv (n := 1) X dX12_takeClause_35 gX12_takeClause_X12_take (c_X12_take _ _ K P3 (may := true) (fun _ _ => hr)) rfl (by decide +kernel) rfl rfl rfl K.1 rfl rfl ⟨Nat.le_of_ble_eq_true rfl, Nat.le_of_ble_eq_true rfl⟩ (fun h35 hp35 => ?_)
  obtain ⟨m4, rfl, G4, P4⟩ := hp35
  have P4 : PS m4 t false r.tail := P4
  have F4 := F3.tr (G4.mono (fun _ _ z => Or.inl z))
  have v4 := (G4 2 _ psP_2).trans v3
  have u4 := (G4 2 _ psP_2).trans u3
  refine V.iload_n X dX12_takeClause_38 rfl ?_
  refine V.iconst (v := nI 2) X dX12_takeClause_39 (by decide) ?_
  refine V.icmp_ne 53 X dX12_takeClause_40 (by decide) (fun c40 => ?_) (fun c40 => False.elim (by rw [nI_eq (by omega) (by omega)] at c40; omega))
  rw [nI_eq (by omega) (by omega)] at c40
  refine V.aload_n X dX12_takeClause_53 rfl ?_
  refine V.iload_n X dX12_takeClause_54 rfl ?_
  refine V.iconst (v := nI 1) X dX12_takeClause_55 (by decide) ?_
  refine V.iaddN X dX12_takeClause_56 ?_
  refine V.iload_n X dX12_takeClause_57 rfl ?_
  refine V.iconst (v := nI 3) X dX12_takeClause_58 (by decide) ?_
  refine V.icmp_ne 66 X dX12_takeClause_59 (by decide) (fun c59 => False.elim (by rw [nI_eq (by omega) (by omega)] at c59; omega)) (fun c59 => ?_)
  rw [nI_eq (by omega) (by omega)] at c59
  refine V.iconst (v := (bI true)) X dX12_takeClause_62 (by decide) ?_
  refine V.goto 67 X dX12_takeClause_63 (by decide) ?_
  refine V.callVv (n := 2) X dX12_takeClause_67 gX12_takeClause_X12_takeCondition (c_X12_takeCondition _ _ K P4 (p := (14 + 43 * j + 1 + 6 * n) + 1) (by omega)) rfl (by decide +kernel) rfl rfl rfl K.1 rfl rfl ⟨Nat.le_of_ble_eq_true rfl, Nat.le_of_ble_eq_true rfl⟩ (fun h67 hp67 => ?_)
  obtain ⟨m5, rfl, G5, P5, X5⟩ := hp67
  have F5 : MFr (cP j n) m m5 := F4.tr (G5.mono (fun _ _ z => z.elim Or.inl (fun z => Or.inr ⟨z.1, Or.inr ⟨by omega, by omega⟩⟩)))
  have np : ∀ k, (k = 14 + 43 * j ∨ k = (14 + 43 * j + 1 + 6 * n)) → ¬ dP ((14 + 43 * j + 1 + 6 * n) + 1) ((14 + 43 * j + 1 + 6 * n) + 4) 2 k := fun k hk z => z.elim psP_2 (fun z => by omega)
  have v5 := (G5 2 _ (np _ (Or.inr rfl))).trans v4
  have u5 := (G5 2 _ (np _ (Or.inl rfl))).trans u4
  refine V.aload_n X dX12_takeClause_70 rfl ?_
  refine V.mgr (k := 1) (a := 2) X K fX12_takeClause_13 dX12_takeClause_71 (by decide) ?_
  refine V.bipush (v := nI 14) X dX12_takeClause_74 (by decide) ?_
  refine V.bipush (v := nI 43) X dX12_takeClause_76 (by decide) ?_
  refine V.iload_n X dX12_takeClause_78 rfl ?_
  refine V.imulN X dX12_takeClause_79 ?_
  refine V.iaddN X dX12_takeClause_80 ?_
  refine V.dup2 X dX12_takeClause_81 rfl rfl ?_
  refine V.mld  X K 2 272  dX12_takeClause_82 rfl rfl (by omega) u5 ?_
  refine V.iconst (v := nI 1) X dX12_takeClause_83 (by decide) ?_
  refine V.iaddN X dX12_takeClause_84 ?_
  refine V.mst X K 2 272  dX12_takeClause_85 rfl rfl (by omega) ?_
  have F6 : MFr (cP j n) m (mput m5 2 (14 + 43 * j) (nI (n + 1))) := F5.put (Or.inr ⟨rfl, Or.inl rfl⟩)
  have P6 := P5.dr (14 + 43 * j) (nI (n + 1))
  exact V.vret X Y9 dX12_takeClause_86 ⟨rfl, _, rfl, F6, P6, mput_at, fun c hc => by
    obtain ⟨x1, x2⟩ := X5 rfl c hc
    refine ⟨ClzR.same (f := m5 2) ?_ (fun k h1 h2 => mput_k (by omega)), x2⟩
    exact ⟨v5, x1⟩⟩ (Nat.le_of_ble_eq_true rfl) (Nat.le_of_ble_eq_true rfl)
theorem fX12_takeMethod_13 : FL wsX12_takeMethod RX12 13 14 1 (.array .int) true := ⟨_, rfl, by decide, Or.inl ⟨"ContractTesterModel", by decide +kernel, Or.inl rfl⟩, by decide +kernel, by decide +kernel, rfl⟩
theorem fX12_takeMethod_72 : FL wsX12_takeMethod RX12 72 14 10 .boolean false := ⟨_, rfl, by decide, Or.inl ⟨"ContractTesterModel", by decide +kernel, Or.inl rfl⟩, by decide +kernel, by decide +kernel, rfl⟩
set_option maxHeartbeats 4000000 in
set_option maxRecDepth 100000 in
theorem c_X12_takeMethod6 (l : Launch) (G : GG) {h : Hp} {M : Nat} {m : Md} (K : MdK h M) {t : List Nat} {r : List Tok} (hP : PS m t false r) (hm : m 2 4 = nI 6) : Con l G yX12_takeMethod wsX12_takeMethod 3 63 0 0 [.ref M] (Hm h M m) (pV (fun h2 => ∃ m2, h2 = Hm h M m2 ∧ MFr psP m m2 ∧ PS m2 t true r)) := by
  refine Con.of (cc := cX12_takeMethod) (nL := 3) (ret := none) (by decide) rfl rfl rfl rfl (fun Γ hG hl X Y9 => ?_)
  subst hG
  subst hl
  refine V.aload_n X dX12_takeMethod_0 rfl ?_
  refine V.aload_n X dX12_takeMethod_1 rfl ?_
  refine V.mgr (k := 1) (a := 2) X K fX12_takeMethod_13 dX12_takeMethod_2 (by decide) ?_
  refine V.iconst (v := nI 4) X dX12_takeMethod_5 (by decide) ?_
  refine V.mld  X K 2 272  dX12_takeMethod_6 rfl rfl (by omega) hm ?_
  refine V.bipush (v := nI 6) X dX12_takeMethod_7 (by decide) ?_
  refine V.icmp_ge 16 X dX12_takeMethod_9 (by decide) (fun c9 => ?_) (fun c9 => False.elim (by rw [nI_leI (by omega) (by omega)] at c9; omega))
  rw [nI_leI (by omega) (by omega)] at c9
  refine V.iconst (v := (bI false)) X dX12_takeMethod_16 (by decide) ?_
  refine V.callVv (n := 1) X dX12_takeMethod_17 gX12_takeMethod_X12_take (c_X12_take _ _ K hP (may := false) (fun _ z => by cases z)) rfl (by decide +kernel) rfl rfl rfl K.1 rfl rfl ⟨Nat.le_of_ble_eq_true rfl, Nat.le_of_ble_eq_true rfl⟩ (fun h17 hp17 => ?_)
  obtain ⟨m2, rfl, F2, P2⟩ := hp17
  have P2 : PS m2 t true r := P2
  refine V.aload_n X dX12_takeMethod_20 rfl ?_
  refine V.mgf  X K fX12_takeMethod_72 dX12_takeMethod_21 rfl P2.2.2 ?_
  refine V.if_eq 28 X dX12_takeMethod_24 (by decide) (fun c24 => False.elim (by revert c24; decide)) (fun c24 => ?_)
  exact V.vret X Y9 dX12_takeMethod_27 ⟨rfl, m2, rfl, F2, P2⟩ (Nat.le_of_ble_eq_true rfl) (Nat.le_of_ble_eq_true rfl)
set_option maxHeartbeats 4000000 in
set_option maxRecDepth 100000 in
theorem c_X12_takeMethod (l : Launch) (G : GG) {h : Hp} {M : Nat} {m : Md} (K : MdK h M) {t : List Nat} {r : List Tok} (hP : PS m t false r) (hr : ¬ r = []) {n : Nat} (hm : m 2 4 = nI n) (hn : n < 6) : Con l G yX12_takeMethod wsX12_takeMethod 7 151 0 0 [.ref M] (Hm h M m) (pV (fun h2 => ∃ m2, h2 = Hm h M m2 ∧ MFr (dM n) m m2 ∧ PS m2 t (pMth r.tail).1.isNone (pMth r.tail).2 ∧ m2 2 4 = nI (n + 1) ∧ ∀ q, (pMth r.tail).1 = some q → ClL (m2 2) n (MtL q) ∧ mtOk q)) := by
  refine Con.of (cc := cX12_takeMethod) (nL := 3) (ret := none) (by decide) rfl rfl rfl rfl (fun Γ hG hl X Y9 => ?_)
  subst hG
  subst hl
  have st166 : ∀ (m1 : Md) (r1 : List Tok) (i : Nat), MFr (dM n) m m1 → PS m1 t true r1 → m1 2 4 = nI n → pMth r.tail = (none, r1) → V Γ 0 0 166 [(0, .ref M), (1, .int (nI n)), (2, .int (nI i))] [] (Hm h M m1) := by
    intro m1 r1 i F1 P1 u1 hQ
    refine V.aload_n X dX12_takeMethod_166 rfl ?_
    refine V.mgr (k := 1) (a := 2) X K fX12_takeMethod_13 dX12_takeMethod_167 (by decide) ?_
    refine V.iconst (v := nI 4) X dX12_takeMethod_170 (by decide) ?_
    refine V.dup2 X dX12_takeMethod_171 rfl rfl ?_
    refine V.mld  X K 2 272  dX12_takeMethod_172 rfl rfl (by omega) u1 ?_
    refine V.iconst (v := nI 1) X dX12_takeMethod_173 (by decide) ?_
    refine V.iaddN X dX12_takeMethod_174 ?_
    refine V.mst X K 2 272  dX12_takeMethod_175 rfl rfl (by omega) ?_
    exact V.vret X Y9 dX12_takeMethod_176 ⟨rfl, _, rfl, F1.put (Or.inr ⟨rfl, Or.inl rfl⟩), by rw [hQ]; exact P1.dr _ _, mput_at, fun q hq => by rw [hQ] at hq; cases hq⟩ (Nat.le_of_ble_eq_true rfl) (Nat.le_of_ble_eq_true rfl)
  have st135 : ∀ (m1 : Md) (r1 : List Tok) (i : Nat), MFr (dM n) m m1 → PS m1 t true r1 → m1 2 4 = nI n → pMth r.tail = (none, r1) → V Γ 0 0 135 [(0, .ref M), (1, .int (nI n)), (2, .int (nI i))] [] (Hm h M m1) := by
    intro m1 r1 i F1 P1 u1 hQ
    refine V.aload_n X dX12_takeMethod_135 rfl ?_
    refine V.mgf  X K fX12_takeMethod_72 dX12_takeMethod_136 rfl P1.2.2 ?_
    refine V.if_ne 166 X dX12_takeMethod_139 (by decide) (fun c139 => ?_) (fun c139 => False.elim (by revert c139; decide))
    exact st166 m1 r1 i F1 P1 u1 hQ
  have st102 : ∀ (m1 : Md) (r1 : List Tok) (i : Nat), MFr (dM n) m m1 → PS m1 t true r1 → m1 2 4 = nI n → pMth r.tail = (none, r1) → V Γ 0 0 102 [(0, .ref M), (1, .int (nI n)), (2, .int (nI i))] [] (Hm h M m1) := by
    intro m1 r1 i F1 P1 u1 hQ
    refine V.aload_n X dX12_takeMethod_102 rfl ?_
    refine V.mgf  X K fX12_takeMethod_72 dX12_takeMethod_103 rfl P1.2.2 ?_
    refine V.if_ne 133 X dX12_takeMethod_106 (by decide) (fun c106 => ?_) (fun c106 => False.elim (by revert c106; decide))
    refine V.iconst (v := nI 0) X dX12_takeMethod_133 (by decide) ?_
    refine V.istore_n X dX12_takeMethod_134 [(0, _), (1, _), (2, _)] rfl rfl rfl ?_
    exact st135 m1 r1 0 F1 P1 u1 hQ
  have st100 : ∀ (m1 : Md) (r1 : List Tok) (i : Nat), MFr (dM n) m m1 → PS m1 t true r1 → m1 2 4 = nI n → pMth r.tail = (none, r1) → V Γ 0 0 100 [(0, .ref M), (1, .int (nI n)), (2, .int (nI i))] [] (Hm h M m1) := by
    intro m1 r1 i F1 P1 u1 hQ
    refine V.iconst (v := nI 0) X dX12_takeMethod_100 (by decide) ?_
    refine V.istore_n X dX12_takeMethod_101 [(0, _), (1, _), (2, _)] rfl rfl rfl ?_
    exact st102 m1 r1 0 F1 P1 u1 hQ
  have st50 : ∀ (m1 : Md) (r1 : List Tok) (i : Nat), MFr (dM n) m m1 → PS m1 t true r1 → m1 2 4 = nI n → pMth r.tail = (none, r1) → V Γ 0 0 50 [(0, .ref M), (1, .int (nI n)), (2, .int (nI i))] [] (Hm h M m1) := by
    intro m1 r1 i F1 P1 u1 hQ
    refine V.aload_n X dX12_takeMethod_50 rfl ?_
    refine V.mgf  X K fX12_takeMethod_72 dX12_takeMethod_51 rfl P1.2.2 ?_
    refine V.if_ne 81 X dX12_takeMethod_54 (by decide) (fun c54 => ?_) (fun c54 => False.elim (by revert c54; decide))
    refine V.aload_n X dX12_takeMethod_81 rfl ?_
    refine V.mgf  X K fX12_takeMethod_72 dX12_takeMethod_82 rfl P1.2.2 ?_
    refine V.if_ne 100 X dX12_takeMethod_85 (by decide) (fun c85 => ?_) (fun c85 => False.elim (by revert c85; decide))
    exact st100 m1 r1 i F1 P1 u1 hQ
  have x166 : ∀ (ps : List Cnd) (as : List Asg) (r1a r2a : List Tok), ps.length ≤ 2 → as.length ≤ 3 → as.isEmpty = false → (∀ c ∈ ps, cnOk false c) → (∀ c ∈ as, asOk c) → pCnds 303 false 2 [] r.tail = (some ps, r1a) → pAsgs 3 [] r1a = (some as, r2a) → ∀ (cs : List Cnd) (m1 : Md) (r1 : List Tok) (i : Nat), MFr (dM n) m m1 → PS m1 t false r1 → m1 2 4 = nI n → ClL (m1 2) n (ps.map cl1 ++ as.map cl2 ++ cs.map cl3) → (∀ c ∈ cs, cnOk true c) → cs.length ≤ 2 → pCnds 305 true 2 [] r2a = (some cs, r1) → V Γ 0 0 166 [(0, .ref M), (1, .int (nI n)), (2, .int (nI i))] [] (Hm h M m1) := by
    intro ps as r1a r2a z1 z2 z3 z4 z5 e1 e2 cs m1 r1 i F1 P1 u1 C1 ok1 z6 e3
    have hQ := pMth_ok e1 e2 z3 e3
    refine V.aload_n X dX12_takeMethod_166 rfl ?_
    refine V.mgr (k := 1) (a := 2) X K fX12_takeMethod_13 dX12_takeMethod_167 (by decide) ?_
    refine V.iconst (v := nI 4) X dX12_takeMethod_170 (by decide) ?_
    refine V.dup2 X dX12_takeMethod_171 rfl rfl ?_
    refine V.mld  X K 2 272  dX12_takeMethod_172 rfl rfl (by omega) u1 ?_
    refine V.iconst (v := nI 1) X dX12_takeMethod_173 (by decide) ?_
    refine V.iaddN X dX12_takeMethod_174 ?_
    refine V.mst X K 2 272  dX12_takeMethod_175 rfl rfl (by omega) ?_
    exact V.vret X Y9 dX12_takeMethod_176 ⟨rfl, _, rfl, F1.put (Or.inr ⟨rfl, Or.inl rfl⟩), by rw [hQ]; exact P1.dr _ _, mput_at, fun q hq => by
      rw [hQ] at hq
      cases hq
      exact ⟨⟨(mput_k (by omega)).trans C1.1, fun k9 x9 hx => (C1.2 k9 x9 hx).same (fun k8 h1 h2 => mput_k (by omega))⟩, z1, z2, z6, z4, z5, ok1⟩⟩ (Nat.le_of_ble_eq_true rfl) (Nat.le_of_ble_eq_true rfl)
  have le : ∀ (ps : List Cnd) (as : List Asg) (r1a r2a : List Tok), ps.length ≤ 2 → as.length ≤ 3 → as.isEmpty = false → (∀ c ∈ ps, cnOk false c) → (∀ c ∈ as, asOk c) → pCnds 303 false 2 [] r.tail = (some ps, r1a) → pAsgs 3 [] r1a = (some as, r2a) → ∀ (k i : Nat) (m1 : Md) (r1 : List Tok) (cs : List Cnd), i + k = 2 → cs.length = i → MFr (dM n) m m1 → PS m1 t false r1 → m1 2 4 = nI n → ClL (m1 2) n (ps.map cl1 ++ as.map cl2 ++ cs.map cl3) → (∀ c ∈ cs, cnOk true c) → pCnds 305 true k cs r1 = pCnds 305 true 2 [] r2a → V Γ 0 0 135 [(0, .ref M), (1, .int (nI n)), (2, .int (nI i))] [] (Hm h M m1) := by
    intro ps as r1a r2a z1 z2 z3 z4 z5 e1 e2 k
    induction k with
    | zero =>
      intro i m1 r1 cs g1 g2 F1 P1 u1 C1 ok1 g3
      obtain ⟨q, e, so, hV⟩ := P1.2.1.v
      have ge : pCnds 305 true 2 [] r2a = (some cs, r1) := g3.symm
      have gi : i = 2 := by omega
      refine V.aload_n X dX12_takeMethod_135 rfl ?_
      refine V.mgf  X K fX12_takeMethod_72 dX12_takeMethod_136 rfl P1.2.2 ?_
      refine V.if_ne 166 X dX12_takeMethod_139 (by decide) (fun c139 => False.elim (by revert c139; decide)) (fun c139 => ?_)
      refine V.aload_n X dX12_takeMethod_142 rfl ?_
      refine V.callVi (n := 0) X dX12_takeMethod_143 gX12_takeMethod_X12_isEnsure (c_X12_isEnsure _ _ K P1.1 hV) rfl (by decide +kernel) rfl rfl rfl K.1 rfl rfl ⟨Nat.le_of_ble_eq_true rfl, Nat.le_of_ble_eq_true rfl⟩ (fun r143 h143 hp143 => ?_)
      obtain ⟨rfl, e9⟩ := hp143; obtain rfl := e9.symm
      refine V.if_eq 166 X dX12_takeMethod_146 (by decide) (fun c146 => ?_) (fun c146 => ?_)
      · have c146 := bI_eq c146
        exact x166 ps as r1a r2a z1 z2 z3 z4 z5 e1 e2 cs m1 r1 i F1 P1 u1 C1 ok1 (by omega) ge
      · have c146 := bI_ne c146
        refine V.iload_n X dX12_takeMethod_149 rfl ?_
        refine V.iconst (v := nI 2) X dX12_takeMethod_150 (by decide) ?_
        refine V.icmp_ge 166 X dX12_takeMethod_151 (by decide) (fun c151 => ?_) (fun c151 => False.elim (by rw [nI_leI (by omega) (by omega)] at c151; omega))
        rw [nI_leI (by omega) (by omega)] at c151
        exact x166 ps as r1a r2a z1 z2 z3 z4 z5 e1 e2 cs m1 r1 i F1 P1 u1 C1 ok1 (by omega) ge
    | succ k ih =>
      intro i m1 r1 cs g1 g2 F1 P1 u1 C1 ok1 g3
      obtain ⟨q, e, so, hV⟩ := P1.2.1.v
      refine V.aload_n X dX12_takeMethod_135 rfl ?_
      refine V.mgf  X K fX12_takeMethod_72 dX12_takeMethod_136 rfl P1.2.2 ?_
      refine V.if_ne 166 X dX12_takeMethod_139 (by decide) (fun c139 => False.elim (by revert c139; decide)) (fun c139 => ?_)
      refine V.aload_n X dX12_takeMethod_142 rfl ?_
      refine V.callVi (n := 0) X dX12_takeMethod_143 gX12_takeMethod_X12_isEnsure (c_X12_isEnsure _ _ K P1.1 hV) rfl (by decide +kernel) rfl rfl rfl K.1 rfl rfl ⟨Nat.le_of_ble_eq_true rfl, Nat.le_of_ble_eq_true rfl⟩ (fun r143 h143 hp143 => ?_)
      obtain ⟨rfl, e9⟩ := hp143; obtain rfl := e9.symm
      refine V.if_eq 166 X dX12_takeMethod_146 (by decide) (fun c146 => ?_) (fun c146 => ?_)
      · have c146 := bI_eq c146
        have ge : pCnds 305 true 2 [] r2a = (some cs, r1) := by rw [← g3]; exact pCnds_e (by decide) (of_decide_eq_false c146)
        exact x166 ps as r1a r2a z1 z2 z3 z4 z5 e1 e2 cs m1 r1 i F1 P1 u1 C1 ok1 (by omega) ge
      · have c146 := bI_ne c146
        have hd9 := of_decide_eq_true c146
        refine V.iload_n X dX12_takeMethod_149 rfl ?_
        refine V.iconst (v := nI 2) X dX12_takeMethod_150 (by decide) ?_
        refine V.icmp_ge 166 X dX12_takeMethod_151 (by decide) (fun c151 => False.elim (by rw [nI_leI (by omega) (by omega)] at c151; omega)) (fun c151 => ?_)
        rw [nI_leI (by omega) (by omega)] at c151
        refine V.aload_n X dX12_takeMethod_154 rfl ?_
        refine V.iload_n X dX12_takeMethod_155 rfl ?_
        refine V.iconst (v := nI 3) X dX12_takeMethod_156 (by decide) ?_
        refine V.callVv (n := 2) X dX12_takeMethod_157 gX12_takeMethod_X12_takeClause (c_X12_takeClause3 _ _ K P1 (hdC_ne (by decide) hd9) (by omega) C1.1 (by simp; omega)) rfl (by decide +kernel) rfl rfl rfl K.1 rfl rfl ⟨Nat.le_of_ble_eq_true rfl, Nat.le_of_ble_eq_true rfl⟩ (fun h157 hp157 => ?_)
        obtain ⟨m2, rfl, G2, P2, u2, X2⟩ := hp157
        have v2 : m2 2 4 = nI n := (G2 2 4 (fun z => z.elim psP_2 (fun z => by omega))).trans u1
        have hll : (ps.map cl1 ++ as.map cl2 ++ cs.map cl3).length = ps.length + as.length + cs.length := by simp <;> omega
        have F2 : MFr (dM n) m m2 := F1.tr (G2.mono (fun x k9 z => z.elim Or.inl (fun z => Or.inr ⟨z.1, Or.inr (by omega)⟩)))
        refine V.iinc  X dX12_takeMethod_160 [(0, _), (1, _), (2, _)] rfl (nI_1 _) rfl rfl rfl ?_
        refine V.goto 135 X dX12_takeMethod_163 (by decide) ?_
        rcases hx : pCnd true r1.tail with ⟨_ | c, r2⟩
        · rw [hx] at P2
          have g4 : pCnds 305 true 2 [] r2a = (none, r2) := by rw [← g3, pCnds_n (by decide) hd9 hx]
          exact st135 m2 r2 (i + 1) F2 P2 v2 (pMth_x3 e1 e2 z3 g4)
        · rw [hx] at P2 X2
          obtain ⟨x1, x2⟩ := X2 c rfl
          have C2 : ClL (m2 2) n (ps.map cl1 ++ as.map cl2 ++ (cs ++ [c]).map cl3) := by
            rw [List.map_append, List.map_singleton, ← List.append_assoc]
            exact C1.snoc (fun k9 h1 h2 => G2 2 k9 (fun z => z.elim psP_2 (fun z => by omega))) u2 x1
          exact ih (i + 1) m2 r2 (cs ++ [c]) (by omega) (by simp; omega) F2 P2 v2 C2 (fun c9 h9 => (List.mem_append.mp h9).elim (ok1 c9) (fun z => by rw [List.mem_singleton.mp z]; exact x2)) (by rw [← g3, pCnds_s (by decide) hd9 hx])
  have x133 : ∀ (ps : List Cnd) (r1a : List Tok), ps.length ≤ 2 → (∀ c ∈ ps, cnOk false c) → pCnds 303 false 2 [] r.tail = (some ps, r1a) → ∀ (cs : List Asg) (m1 : Md) (r1 : List Tok) (i : Nat), MFr (dM n) m m1 → PS m1 t false r1 → m1 2 4 = nI n → ClL (m1 2) n (ps.map cl1 ++ cs.map cl2) → (∀ c ∈ cs, asOk c) → cs.length ≤ 3 → pAsgs 3 [] r1a = (some cs, r1) → (cs = [] → False) → V Γ 0 0 133 [(0, .ref M), (1, .int (nI n)), (2, .int (nI i))] [] (Hm h M m1) := by
    intro ps r1a z1 z4 e1 cs m1 r1 i F1 P1 u1 C1 ok1 z2 e2 z3
    refine V.iconst (v := nI 0) X dX12_takeMethod_133 (by decide) ?_
    refine V.istore_n X dX12_takeMethod_134 [(0, _), (1, _), (2, _)] rfl rfl rfl ?_
    exact le ps cs r1a r1 z1 z2 (by cases cs with | nil => exact (z3 rfl).elim | cons _ _ => rfl) z4 ok1 e1 e2 2 0 m1 r1 [] rfl rfl F1 P1 u1 (by rw [List.map_nil, List.append_nil]; exact C1) (fun c hc => by cases hc) rfl
  have ld : ∀ (ps : List Cnd) (r1a : List Tok), ps.length ≤ 2 → (∀ c ∈ ps, cnOk false c) → pCnds 303 false 2 [] r.tail = (some ps, r1a) → ∀ (k i : Nat) (m1 : Md) (r1 : List Tok) (cs : List Asg), i + k = 3 → cs.length = i → MFr (dM n) m m1 → PS m1 t false r1 → m1 2 4 = nI n → ClL (m1 2) n (ps.map cl1 ++ cs.map cl2) → (∀ c ∈ cs, asOk c) → pAsgs k cs r1 = pAsgs 3 [] r1a → (i = 0 → hdC r1 = 304) → V Γ 0 0 102 [(0, .ref M), (1, .int (nI n)), (2, .int (nI i))] [] (Hm h M m1) := by
    intro ps r1a z1 z4 e1 k
    induction k with
    | zero =>
      intro i m1 r1 cs g1 g2 F1 P1 u1 C1 ok1 g3 g9
      obtain ⟨q, e, so, hV⟩ := P1.2.1.v
      have ge : pAsgs 3 [] r1a = (some cs, r1) := g3.symm
      have gi : i = 3 := by omega
      refine V.aload_n X dX12_takeMethod_102 rfl ?_
      refine V.mgf  X K fX12_takeMethod_72 dX12_takeMethod_103 rfl P1.2.2 ?_
      refine V.if_ne 133 X dX12_takeMethod_106 (by decide) (fun c106 => False.elim (by revert c106; decide)) (fun c106 => ?_)
      refine V.aload_n X dX12_takeMethod_109 rfl ?_
      refine V.callVi (n := 0) X dX12_takeMethod_110 gX12_takeMethod_X12_isDo (c_X12_isDo _ _ K P1.1 hV) rfl (by decide +kernel) rfl rfl rfl K.1 rfl rfl ⟨Nat.le_of_ble_eq_true rfl, Nat.le_of_ble_eq_true rfl⟩ (fun r110 h110 hp110 => ?_)
      obtain ⟨rfl, e9⟩ := hp110; obtain rfl := e9.symm
      refine V.if_eq 133 X dX12_takeMethod_113 (by decide) (fun c113 => ?_) (fun c113 => ?_)
      · have c113 := bI_eq c113
        exact x133 ps r1a z1 z4 e1 cs m1 r1 i F1 P1 u1 C1 ok1 (by omega) ge (by intro z; rw [z] at g2; have g2 : 0 = i := g2; omega)
      · have c113 := bI_ne c113
        refine V.iload_n X dX12_takeMethod_116 rfl ?_
        refine V.iconst (v := nI 3) X dX12_takeMethod_117 (by decide) ?_
        refine V.icmp_ge 133 X dX12_takeMethod_118 (by decide) (fun c118 => ?_) (fun c118 => False.elim (by rw [nI_leI (by omega) (by omega)] at c118; omega))
        rw [nI_leI (by omega) (by omega)] at c118
        exact x133 ps r1a z1 z4 e1 cs m1 r1 i F1 P1 u1 C1 ok1 (by omega) ge (by intro z; rw [z] at g2; have g2 : 0 = i := g2; omega)
    | succ k ih =>
      intro i m1 r1 cs g1 g2 F1 P1 u1 C1 ok1 g3 g9
      obtain ⟨q, e, so, hV⟩ := P1.2.1.v
      refine V.aload_n X dX12_takeMethod_102 rfl ?_
      refine V.mgf  X K fX12_takeMethod_72 dX12_takeMethod_103 rfl P1.2.2 ?_
      refine V.if_ne 133 X dX12_takeMethod_106 (by decide) (fun c106 => False.elim (by revert c106; decide)) (fun c106 => ?_)
      refine V.aload_n X dX12_takeMethod_109 rfl ?_
      refine V.callVi (n := 0) X dX12_takeMethod_110 gX12_takeMethod_X12_isDo (c_X12_isDo _ _ K P1.1 hV) rfl (by decide +kernel) rfl rfl rfl K.1 rfl rfl ⟨Nat.le_of_ble_eq_true rfl, Nat.le_of_ble_eq_true rfl⟩ (fun r110 h110 hp110 => ?_)
      obtain ⟨rfl, e9⟩ := hp110; obtain rfl := e9.symm
      refine V.if_eq 133 X dX12_takeMethod_113 (by decide) (fun c113 => ?_) (fun c113 => ?_)
      · have c113 := bI_eq c113
        have ge : pAsgs 3 [] r1a = (some cs, r1) := by rw [← g3]; exact pAsgs_e (of_decide_eq_false c113)
        exact x133 ps r1a z1 z4 e1 cs m1 r1 i F1 P1 u1 C1 ok1 (by omega) ge (by intro z; rw [z] at g2; have g2 : 0 = i := g2; have := of_decide_eq_false c113; have := g9 (by omega); omega)
      · have c113 := bI_ne c113
        have hd9 := of_decide_eq_true c113
        refine V.iload_n X dX12_takeMethod_116 rfl ?_
        refine V.iconst (v := nI 3) X dX12_takeMethod_117 (by decide) ?_
        refine V.icmp_ge 133 X dX12_takeMethod_118 (by decide) (fun c118 => False.elim (by rw [nI_leI (by omega) (by omega)] at c118; omega)) (fun c118 => ?_)
        rw [nI_leI (by omega) (by omega)] at c118
        refine V.aload_n X dX12_takeMethod_121 rfl ?_
        refine V.iload_n X dX12_takeMethod_122 rfl ?_
        refine V.iconst (v := nI 2) X dX12_takeMethod_123 (by decide) ?_
        refine V.callVv (n := 2) X dX12_takeMethod_124 gX12_takeMethod_X12_takeClause (c_X12_takeClause2 _ _ K P1 (hdC_ne (by decide) hd9) (by omega) C1.1 (by simp; omega)) rfl (by decide +kernel) rfl rfl rfl K.1 rfl rfl ⟨Nat.le_of_ble_eq_true rfl, Nat.le_of_ble_eq_true rfl⟩ (fun h124 hp124 => ?_)
        obtain ⟨m2, rfl, G2, P2, u2, X2⟩ := hp124
        have v2 : m2 2 4 = nI n := (G2 2 4 (fun z => z.elim psP_2 (fun z => by omega))).trans u1
        have hll : (ps.map cl1 ++ cs.map cl2).length = ps.length + cs.length := by simp <;> omega
        have F2 : MFr (dM n) m m2 := F1.tr (G2.mono (fun x k9 z => z.elim Or.inl (fun z => Or.inr ⟨z.1, Or.inr (by omega)⟩)))
        refine V.iinc  X dX12_takeMethod_127 [(0, _), (1, _), (2, _)] rfl (nI_1 _) rfl rfl rfl ?_
        refine V.goto 102 X dX12_takeMethod_130 (by decide) ?_
        rcases hx : pAsg r1.tail with ⟨_ | c, r2⟩
        · rw [hx] at P2
          have g4 : pAsgs 3 [] r1a = (none, r2) := by rw [← g3, pAsgs_n hd9 hx]
          exact st102 m2 r2 (i + 1) F2 P2 v2 (pMth_x2 e1 (Or.inl g4))
        · rw [hx] at P2 X2
          obtain ⟨x1, x2⟩ := X2 c rfl
          have C2 : ClL (m2 2) n (ps.map cl1 ++ (cs ++ [c]).map cl2) := by
            rw [List.map_append, List.map_singleton, ← List.append_assoc]
            exact C1.snoc (fun k9 h1 h2 => G2 2 k9 (fun z => z.elim psP_2 (fun z => by omega))) u2 x1
          exact ih (i + 1) m2 r2 (cs ++ [c]) (by omega) (by simp; omega) F2 P2 v2 C2 (fun c9 h9 => (List.mem_append.mp h9).elim (ok1 c9) (fun z => by rw [List.mem_singleton.mp z]; exact x2)) (by rw [← g3, pAsgs_s hd9 hx]) (by omega)
  have x81 : ∀ (cs : List Cnd) (m1 : Md) (r1 : List Tok) (i : Nat), MFr (dM n) m m1 → PS m1 t false r1 → m1 2 4 = nI n → ClL (m1 2) n (cs.map cl1) → (∀ c ∈ cs, cnOk false c) → cs.length ≤ 2 → pCnds 303 false 2 [] r.tail = (some cs, r1) → V Γ 0 0 81 [(0, .ref M), (1, .int (nI n)), (2, .int (nI i))] [] (Hm h M m1) := by
    intro cs m1 r1 i F1 P1 u1 C1 ok1 z1 e1
    obtain ⟨q, e, so, hV⟩ := P1.2.1.v
    refine V.aload_n X dX12_takeMethod_81 rfl ?_
    refine V.mgf  X K fX12_takeMethod_72 dX12_takeMethod_82 rfl P1.2.2 ?_
    refine V.if_ne 100 X dX12_takeMethod_85 (by decide) (fun c85 => False.elim (by revert c85; decide)) (fun c85 => ?_)
    refine V.aload_n X dX12_takeMethod_88 rfl ?_
    refine V.callVi (n := 0) X dX12_takeMethod_89 gX12_takeMethod_X12_isDo (c_X12_isDo _ _ K P1.1 hV) rfl (by decide +kernel) rfl rfl rfl K.1 rfl rfl ⟨Nat.le_of_ble_eq_true rfl, Nat.le_of_ble_eq_true rfl⟩ (fun r89 h89 hp89 => ?_)
    obtain ⟨rfl, e9⟩ := hp89; obtain rfl := e9.symm
    refine V.if_ne 100 X dX12_takeMethod_92 (by decide) (fun c92 => ?_) (fun c92 => ?_)
    · have c92 := bI_ne c92
      refine V.iconst (v := nI 0) X dX12_takeMethod_100 (by decide) ?_
      refine V.istore_n X dX12_takeMethod_101 [(0, _), (1, _), (2, _)] rfl rfl rfl ?_
      exact ld cs r1 z1 ok1 e1 3 0 m1 r1 [] rfl rfl F1 P1 u1 (by rw [List.map_nil, List.append_nil]; exact C1) (fun c hc => by cases hc) rfl (fun _ => of_decide_eq_true c92)
    · have c92 := bI_eq c92
      refine V.aload_n X dX12_takeMethod_95 rfl ?_
      refine V.iconst (v := (bI false)) X dX12_takeMethod_96 (by decide) ?_
      refine V.callVv (n := 1) X dX12_takeMethod_97 gX12_takeMethod_X12_take (c_X12_take _ _ K P1 (may := false) (fun _ z => by cases z)) rfl (by decide +kernel) rfl rfl rfl K.1 rfl rfl ⟨Nat.le_of_ble_eq_true rfl, Nat.le_of_ble_eq_true rfl⟩ (fun h97 hp97 => ?_)
      obtain ⟨m2, rfl, G2, P2⟩ := hp97
      have P2 : PS m2 t true r1 := P2
      exact st100 m2 r1 i (F1.tr (G2.mono (fun _ _ z => Or.inl z))) P2 ((G2 2 4 psP_2).trans u1) (pMth_x2 e1 (Or.inr (pAsgs_e (of_decide_eq_false c92))))
  have lq : ∀ (k i : Nat) (m1 : Md) (r1 : List Tok) (cs : List Cnd), i + k = 2 → cs.length = i → MFr (dM n) m m1 → PS m1 t false r1 → m1 2 4 = nI n → ClL (m1 2) n (cs.map cl1) → (∀ c ∈ cs, cnOk false c) → pCnds 303 false k cs r1 = pCnds 303 false 2 [] r.tail → V Γ 0 0 50 [(0, .ref M), (1, .int (nI n)), (2, .int (nI i))] [] (Hm h M m1) := by
    intro k
    induction k with
    | zero =>
      intro i m1 r1 cs g1 g2 F1 P1 u1 C1 ok1 g3
      obtain ⟨q, e, so, hV⟩ := P1.2.1.v
      have ge : pCnds 303 false 2 [] r.tail = (some cs, r1) := g3.symm
      have gi : i = 2 := by omega
      refine V.aload_n X dX12_takeMethod_50 rfl ?_
      refine V.mgf  X K fX12_takeMethod_72 dX12_takeMethod_51 rfl P1.2.2 ?_
      refine V.if_ne 81 X dX12_takeMethod_54 (by decide) (fun c54 => False.elim (by revert c54; decide)) (fun c54 => ?_)
      refine V.aload_n X dX12_takeMethod_57 rfl ?_
      refine V.callVi (n := 0) X dX12_takeMethod_58 gX12_takeMethod_X12_isRequire (c_X12_isRequire _ _ K P1.1 hV) rfl (by decide +kernel) rfl rfl rfl K.1 rfl rfl ⟨Nat.le_of_ble_eq_true rfl, Nat.le_of_ble_eq_true rfl⟩ (fun r58 h58 hp58 => ?_)
      obtain ⟨rfl, e9⟩ := hp58; obtain rfl := e9.symm
      refine V.if_eq 81 X dX12_takeMethod_61 (by decide) (fun c61 => ?_) (fun c61 => ?_)
      · have c61 := bI_eq c61
        exact x81 cs m1 r1 i F1 P1 u1 C1 ok1 (by omega) ge
      · have c61 := bI_ne c61
        refine V.iload_n X dX12_takeMethod_64 rfl ?_
        refine V.iconst (v := nI 2) X dX12_takeMethod_65 (by decide) ?_
        refine V.icmp_ge 81 X dX12_takeMethod_66 (by decide) (fun c66 => ?_) (fun c66 => False.elim (by rw [nI_leI (by omega) (by omega)] at c66; omega))
        rw [nI_leI (by omega) (by omega)] at c66
        exact x81 cs m1 r1 i F1 P1 u1 C1 ok1 (by omega) ge
    | succ k ih =>
      intro i m1 r1 cs g1 g2 F1 P1 u1 C1 ok1 g3
      obtain ⟨q, e, so, hV⟩ := P1.2.1.v
      refine V.aload_n X dX12_takeMethod_50 rfl ?_
      refine V.mgf  X K fX12_takeMethod_72 dX12_takeMethod_51 rfl P1.2.2 ?_
      refine V.if_ne 81 X dX12_takeMethod_54 (by decide) (fun c54 => False.elim (by revert c54; decide)) (fun c54 => ?_)
      refine V.aload_n X dX12_takeMethod_57 rfl ?_
      refine V.callVi (n := 0) X dX12_takeMethod_58 gX12_takeMethod_X12_isRequire (c_X12_isRequire _ _ K P1.1 hV) rfl (by decide +kernel) rfl rfl rfl K.1 rfl rfl ⟨Nat.le_of_ble_eq_true rfl, Nat.le_of_ble_eq_true rfl⟩ (fun r58 h58 hp58 => ?_)
      obtain ⟨rfl, e9⟩ := hp58; obtain rfl := e9.symm
      refine V.if_eq 81 X dX12_takeMethod_61 (by decide) (fun c61 => ?_) (fun c61 => ?_)
      · have c61 := bI_eq c61
        have ge : pCnds 303 false 2 [] r.tail = (some cs, r1) := by rw [← g3]; exact pCnds_e (by decide) (of_decide_eq_false c61)
        exact x81 cs m1 r1 i F1 P1 u1 C1 ok1 (by omega) ge
      · have c61 := bI_ne c61
        have hd9 := of_decide_eq_true c61
        refine V.iload_n X dX12_takeMethod_64 rfl ?_
        refine V.iconst (v := nI 2) X dX12_takeMethod_65 (by decide) ?_
        refine V.icmp_ge 81 X dX12_takeMethod_66 (by decide) (fun c66 => False.elim (by rw [nI_leI (by omega) (by omega)] at c66; omega)) (fun c66 => ?_)
        rw [nI_leI (by omega) (by omega)] at c66
        refine V.aload_n X dX12_takeMethod_69 rfl ?_
        refine V.iload_n X dX12_takeMethod_70 rfl ?_
        refine V.iconst (v := nI 1) X dX12_takeMethod_71 (by decide) ?_
        refine V.callVv (n := 2) X dX12_takeMethod_72 gX12_takeMethod_X12_takeClause (c_X12_takeClause1 _ _ K P1 (hdC_ne (by decide) hd9) (by omega) C1.1 (by simp; omega)) rfl (by decide +kernel) rfl rfl rfl K.1 rfl rfl ⟨Nat.le_of_ble_eq_true rfl, Nat.le_of_ble_eq_true rfl⟩ (fun h72 hp72 => ?_)
        obtain ⟨m2, rfl, G2, P2, u2, X2⟩ := hp72
        have v2 : m2 2 4 = nI n := (G2 2 4 (fun z => z.elim psP_2 (fun z => by omega))).trans u1
        have hll : (cs.map cl1).length = cs.length := by simp <;> omega
        have F2 : MFr (dM n) m m2 := F1.tr (G2.mono (fun x k9 z => z.elim Or.inl (fun z => Or.inr ⟨z.1, Or.inr (by omega)⟩)))
        refine V.iinc  X dX12_takeMethod_75 [(0, _), (1, _), (2, _)] rfl (nI_1 _) rfl rfl rfl ?_
        refine V.goto 50 X dX12_takeMethod_78 (by decide) ?_
        rcases hx : pCnd false r1.tail with ⟨_ | c, r2⟩
        · rw [hx] at P2
          have g4 : pCnds 303 false 2 [] r.tail = (none, r2) := by rw [← g3, pCnds_n (by decide) hd9 hx]
          exact st50 m2 r2 (i + 1) F2 P2 v2 (pMth_x1 g4)
        · rw [hx] at P2 X2
          obtain ⟨x1, x2⟩ := X2 c rfl
          have C2 : ClL (m2 2) n ((cs ++ [c]).map cl1) := by
            rw [List.map_append, List.map_singleton]
            exact C1.snoc (fun k9 h1 h2 => G2 2 k9 (fun z => z.elim psP_2 (fun z => by omega))) u2 x1
          exact ih (i + 1) m2 r2 (cs ++ [c]) (by omega) (by simp; omega) F2 P2 v2 C2 (fun c9 h9 => (List.mem_append.mp h9).elim (ok1 c9) (fun z => by rw [List.mem_singleton.mp z]; exact x2)) (by rw [← g3, pCnds_s (by decide) hd9 hx])
  refine V.aload_n X dX12_takeMethod_0 rfl ?_
  refine V.aload_n X dX12_takeMethod_1 rfl ?_
  refine V.mgr (k := 1) (a := 2) X K fX12_takeMethod_13 dX12_takeMethod_2 (by decide) ?_
  refine V.iconst (v := nI 4) X dX12_takeMethod_5 (by decide) ?_
  refine V.mld  X K 2 272  dX12_takeMethod_6 rfl rfl (by omega) hm ?_
  refine V.bipush (v := nI 6) X dX12_takeMethod_7 (by decide) ?_
  refine V.icmp_ge 16 X dX12_takeMethod_9 (by decide) (fun c9 => False.elim (by rw [nI_leI (by omega) (by omega)] at c9; omega)) (fun c9 => ?_)
  rw [nI_leI (by omega) (by omega)] at c9
  refine V.iconst (v := (bI true)) X dX12_takeMethod_12 (by decide) ?_
  refine V.goto 17 X dX12_takeMethod_13 (by decide) ?_
  refine V.callVv (n := 1) X dX12_takeMethod_17 gX12_takeMethod_X12_take (c_X12_take _ _ K hP (may := true) (fun _ _ => hr)) rfl (by decide +kernel) rfl rfl rfl K.1 rfl rfl ⟨Nat.le_of_ble_eq_true rfl, Nat.le_of_ble_eq_true rfl⟩ (fun h17 hp17 => ?_)
  obtain ⟨m1, rfl, G1, P1⟩ := hp17
  have P1 : PS m1 t false r.tail := P1
  have u1 := (G1 2 4 psP_2).trans hm
  have F1 : MFr (dM n) m m1 := G1.mono (fun _ _ z => Or.inl z)
  refine V.aload_n X dX12_takeMethod_20 rfl ?_
  refine V.mgf  X K fX12_takeMethod_72 dX12_takeMethod_21 rfl P1.2.2 ?_
  refine V.if_eq 28 X dX12_takeMethod_24 (by decide) (fun c24 => ?_) (fun c24 => False.elim (by revert c24; decide))
  refine V.aload_n X dX12_takeMethod_28 rfl ?_
  refine V.mgr (k := 1) (a := 2) X K fX12_takeMethod_13 dX12_takeMethod_29 (by decide) ?_
  refine V.iconst (v := nI 4) X dX12_takeMethod_32 (by decide) ?_
  refine V.mld  X K 2 272  dX12_takeMethod_33 rfl rfl (by omega) u1 ?_
  refine V.istore_n X dX12_takeMethod_34 [(0, _), (1, _)] rfl rfl rfl ?_
  refine V.aload_n X dX12_takeMethod_35 rfl ?_
  refine V.mgr (k := 1) (a := 2) X K fX12_takeMethod_13 dX12_takeMethod_36 (by decide) ?_
  refine V.bipush (v := nI 14) X dX12_takeMethod_39 (by decide) ?_
  refine V.bipush (v := nI 43) X dX12_takeMethod_41 (by decide) ?_
  refine V.iload_n X dX12_takeMethod_43 rfl ?_
  refine V.imulN X dX12_takeMethod_44 ?_
  refine V.iaddN X dX12_takeMethod_45 ?_
  refine V.iconst (v := nI 0) X dX12_takeMethod_46 (by decide) ?_
  refine V.mst X K 2 272  dX12_takeMethod_47 rfl rfl (by omega) ?_
  refine V.iconst (v := nI 0) X dX12_takeMethod_48 (by decide) ?_
  refine V.istore_n X dX12_takeMethod_49 [(0, _), (1, _), (2, _)] rfl rfl rfl ?_
  exact lq 2 0 _ r.tail [] rfl rfl (F1.put (Or.inr ⟨rfl, Or.inr ⟨by omega, by omega⟩⟩)) (P1.dr _ _) ((mput_k (by omega)).trans u1) ⟨mput_at, fun i x hx => by simp at hx⟩ (fun c hc => by cases hc) rfl
