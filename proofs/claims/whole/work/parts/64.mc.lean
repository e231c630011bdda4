theorem mput_s {m : Md} {a k : Nat} {x y : Int32} : mput (mput m a k x) a k y = mput m a k y := by
  funext b j
  unfold mput
  by_cases c : b = a ∧ j = k
  · rw [if_pos c, if_pos c]
  · rw [if_neg c, if_neg c, if_neg c]
theorem mput_c {m : Md} {k l : Nat} {x y : Int32} (h : ¬ k = l) : mput (mput m 0 k x) 0 l y = mput (mput m 0 l y) 0 k x := by
  funext b j
  unfold mput
  by_cases c : b = 0 ∧ j = l
  · rw [if_pos c, if_neg (fun z => h (z.2.symm.trans c.2)), if_pos c]
  · rw [if_neg c]
    by_cases d : b = 0 ∧ j = k
    · rw [if_pos d, if_pos d]
    · rw [if_neg d, if_neg d, if_neg c]
theorem mput_e {m : Md} {a k : Nat} {x : Int32} (h : m a k = x) : mput m a k x = m := by
  funext b j
  unfold mput
  by_cases c : b = a ∧ j = k
  · rw [if_pos c, c.1, c.2, h]
  · rw [if_neg c]
def stL (m : Md) (a b : Nat) (v : Int32) : Md := mput (mput (mput m 0 6 (nI a)) 0 7 (nI b)) 0 9 v
theorem stL_6 {m : Md} {a b c : Nat} {v : Int32} : mput (stL m a b v) 0 6 (nI c) = stL m c b v := by
  unfold stL
  rw [mput_c (by decide), mput_c (k := 7) (by decide), mput_s]
theorem stL_9 {m : Md} {a b : Nat} {v w : Int32} : mput (stL m a b v) 0 9 w = stL m a b w := mput_s
theorem lxP_i {k : Nat} (h : 6 ≤ k) (h2 : k ≤ 9) : lxP 0 k := ⟨rfl, h, h2⟩
theorem stL_f {m : Md} {a b : Nat} {v : Int32} : MFr lxP m (stL m a b v) := ((MFr.rf.put (lxP_i (by decide) (by decide))).put (lxP_i (by decide) (by decide))).put (lxP_i (by decide) (by decide))
theorem TxM.lx {m m2 : Md} {t : List Nat} (q : TxM m t) (f : MFr lxP m m2) : TxM m2 t := q.fr f (by unfold lxP; omega) (fun k => by unfold lxP; omega)
theorem hrT_e (t : List Nat) : hrT t t.length = -1 := if_neg (by omega)
theorem hrT_i {t : List Nat} {p : Nat} (h : p < t.length) : hrT t p = nI (ch t p) := if_pos h
theorem LxM.mk {m : Md} {t : List Nat} {q e : Nat} {v : Int32} (hq : q < t.length) (h0 : ¬ kd (ch t q) = 0) (hb : ch t q < 256) (he : enO t q = e) (h2 : kd (ch t q) = 2 → e - q ≤ 2 → v = nI (nmO t q (e - q))) (h3 : ¬ kd (ch t q) = 2 → v = nI (ch t q)) : LxM (mput (stL m e q v) 0 8 (nI (kd (ch t q)))) t (tkO t q :: tkF t (t.length - enO t q) (enO t q)) := by
  subst he
  exact Or.inr ⟨q, hq, h0, hb, rfl, rfl, rfl, rfl, h2, h3⟩
theorem fX12_next_41 : FL wsX12_next RX12 41 14 6 .int false := ⟨_, rfl, by decide, Or.inl ⟨"ContractTesterModel", by decide +kernel, Or.inl rfl⟩, by decide +kernel, by decide +kernel, rfl⟩
theorem fX12_next_51 : FL wsX12_next RX12 51 14 7 .int false := ⟨_, rfl, by decide, Or.inl ⟨"ContractTesterModel", by decide +kernel, Or.inl rfl⟩, by decide +kernel, by decide +kernel, rfl⟩
theorem fX12_next_54 : FL wsX12_next RX12 54 14 9 .int false := ⟨_, rfl, by decide, Or.inl ⟨"ContractTesterModel", by decide +kernel, Or.inl rfl⟩, by decide +kernel, by decide +kernel, rfl⟩
theorem fX12_next_57 : FL wsX12_next RX12 57 14 8 .int false := ⟨_, rfl, by decide, Or.inl ⟨"ContractTesterModel", by decide +kernel, Or.inl rfl⟩, by decide +kernel, by decide +kernel, rfl⟩
set_option maxHeartbeats 4000000 in
set_option maxRecDepth 100000 in
theorem c_X12_next (l : Launch) (G : GG) {h : Hp} {M : Nat} {m : Md} (K : MdK h M) {t : List Nat} (hT : TxM m t) {p0 : Nat} (hp : m 0 6 = nI p0) (hB : Bd t p0) : Con l G yX12_next wsX12_next 1 22 0 0 [.ref M] (Hm h M m) (pV (fun h2 => ∃ m2, h2 = Hm h M m2 ∧ MFr lxP m m2 ∧ LxM m2 t (tkF t (t.length - p0) p0))) := by
  refine Con.of (cc := cX12_next) (nL := 1) (ret := none) (by decide) rfl rfl rfl rfl (fun Γ hG hl X Y9 => ?_)
  subst hG
  subst hl
  have hl := hT.2.1
  have restE : ∀ q, q = t.length → tkF t (t.length - p0) p0 = tkF t (t.length - q) q → V Γ 0 0 22 [(0, .ref M)] [] (Hm h M (mput m 0 6 (nI q))) := by
    intro q hq hR
    subst hq
    refine V.aload_n X dX12_next_22 rfl ?_
    refine V.aload_n X dX12_next_23 rfl ?_
    refine V.mgf (x := nI t.length) X K fX12_next_41 dX12_next_24 rfl rfl ?_
    refine V.mpf X K fX12_next_51 dX12_next_27 rfl rfl rfl ?_
    refine V.aload_n X dX12_next_30 rfl ?_
    refine V.aload_n X dX12_next_31 rfl ?_
    refine V.callVi (n := 0) X dX12_next_32 gX12_next_X12_here (c_X12_here _ _ K ((hT.lx (MFr.rf.put (lxP_i (k := 6) (by decide) (by decide)))).lx (MFr.rf.put (lxP_i (k := 7) (by decide) (by decide)))) (p := t.length) rfl (by omega)) rfl (by decide +kernel) rfl rfl rfl K.1 rfl rfl ⟨Nat.le_of_ble_eq_true rfl, Nat.le_of_ble_eq_true rfl⟩ (fun r32 h32 hp32 => ?_)
    obtain ⟨rfl, e9⟩ := hp32; obtain rfl := e9.symm
    rw [hrT_e]
    refine V.mpf X K fX12_next_54 dX12_next_35 rfl rfl rfl ?_
    refine V.aload_n X dX12_next_38 rfl ?_
    refine V.mgf (x := -1) X K fX12_next_54 dX12_next_39 rfl rfl ?_
    refine V.if_ge 53 X dX12_next_42 (by decide) (fun c42 => False.elim (by revert c42; decide)) (fun c42 => ?_)
    refine V.aload_n X dX12_next_45 rfl ?_
    refine V.iconst (v := nI 0) X dX12_next_46 (by decide) ?_
    refine V.mpf X K fX12_next_57 dX12_next_47 rfl rfl rfl ?_
    refine V.goto 206 X dX12_next_50 (by decide) ?_
    exact V.vret X Y9 dX12_next_206 ⟨rfl, _, rfl, (stL_f (a := t.length) (b := t.length) (v := -1)).put (lxP_i (by decide) (by decide)), Or.inl ⟨by rw [hR, Nat.sub_self]; rfl, rfl, rfl, rfl, rfl⟩⟩ (Nat.le_of_ble_eq_true rfl) (Nat.le_of_ble_eq_true rfl)
  have restS : ∀ q, q < t.length → kd (ch t q) = 3 → tkF t (t.length - p0) p0 = tkF t (t.length - q) q → stx t q = true → V Γ 0 0 22 [(0, .ref M)] [] (Hm h M (mput m 0 6 (nI q))) := by
    intro q hq hk hR hs
    have hb := (hT.2.2 q hq).2
    have k1 := kd_1 (c := ch t q)
    have k2 := kd_2 (c := ch t q)
    have i1 : (decide (97 ≤ ch t q) && decide (ch t q ≤ 122)) = false := by
      rw [← Bool.decide_and]
      exact decide_eq_false (by omega)
    have i2 : (decide (48 ≤ ch t q) && decide (ch t q ≤ 57)) = false := by
      rw [← Bool.decide_and]
      exact decide_eq_false (by omega)
    refine V.aload_n X dX12_next_22 rfl ?_
    refine V.aload_n X dX12_next_23 rfl ?_
    refine V.mgf (x := nI q) X K fX12_next_41 dX12_next_24 rfl rfl ?_
    refine V.mpf X K fX12_next_51 dX12_next_27 rfl rfl rfl ?_
    refine V.aload_n X dX12_next_30 rfl ?_
    refine V.aload_n X dX12_next_31 rfl ?_
    refine V.callVi (n := 0) X dX12_next_32 gX12_next_X12_here (c_X12_here _ _ K ((hT.lx (MFr.rf.put (lxP_i (k := 6) (by decide) (by decide)))).lx (MFr.rf.put (lxP_i (k := 7) (by decide) (by decide)))) (p := q) rfl (by omega)) rfl (by decide +kernel) rfl rfl rfl K.1 rfl rfl ⟨Nat.le_of_ble_eq_true rfl, Nat.le_of_ble_eq_true rfl⟩ (fun r32 h32 hp32 => ?_)
    obtain ⟨rfl, e9⟩ := hp32; obtain rfl := e9.symm
    rw [hrT_i hq]
    refine V.mpf X K fX12_next_54 dX12_next_35 rfl rfl rfl ?_
    refine V.aload_n X dX12_next_38 rfl ?_
    refine V.mgf (x := nI (ch t q)) X K fX12_next_54 dX12_next_39 rfl rfl ?_
    refine V.if_ge 53 X dX12_next_42 (by decide) (fun c42 => ?_) (fun c42 => False.elim (by rw [show (0 : Int32) = nI 0 from rfl, nI_leI (by omega) (by omega)] at c42; omega))
    rw [show (0 : Int32) = nI 0 from rfl, nI_leI (by omega) (by omega)] at c42
    refine V.aload_n X dX12_next_53 rfl ?_
    refine V.mgf (x := nI (ch t q)) X K fX12_next_54 dX12_next_54 rfl rfl ?_
    refine V.bipush (v := nI 97) X dX12_next_57 (by decide) ?_
    refine V.bipush (v := nI 122) X dX12_next_59 (by decide) ?_
    refine V.callSi (n := 3) X dX12_next_61 gX12_next_X12_in (c_X12_in _ _) rfl (by decide +kernel) rfl rfl rfl ⟨Nat.le_of_ble_eq_true rfl, Nat.le_of_ble_eq_true rfl⟩ (fun r61 h61 hp61 => ?_)
    obtain ⟨rfl, e9⟩ := hp61; obtain rfl := e9.symm
    rw [inB_ch (by omega) (by decide) (by decide), i1]
    refine V.if_eq 102 X dX12_next_64 (by decide) (fun c64 => ?_) (fun c64 => False.elim (by have c64 := bI_ne c64; cases c64))
    have c64 := bI_eq c64
    refine V.aload_n X dX12_next_102 rfl ?_
    refine V.mgf (x := nI (ch t q)) X K fX12_next_54 dX12_next_103 rfl rfl ?_
    refine V.bipush (v := nI 48) X dX12_next_106 (by decide) ?_
    refine V.bipush (v := nI 57) X dX12_next_108 (by decide) ?_
    refine V.callSi (n := 3) X dX12_next_110 gX12_next_X12_in (c_X12_in _ _) rfl (by decide +kernel) rfl rfl rfl ⟨Nat.le_of_ble_eq_true rfl, Nat.le_of_ble_eq_true rfl⟩ (fun r110 h110 hp110 => ?_)
    obtain ⟨rfl, e9⟩ := hp110; obtain rfl := e9.symm
    rw [inB_ch (by omega) (by decide) (by decide), i2]
    refine V.if_eq 191 X dX12_next_113 (by decide) (fun c113 => ?_) (fun c113 => False.elim (by have c113 := bI_ne c113; cases c113))
    have c113 := bI_eq c113
    refine V.aload_n X dX12_next_191 rfl ?_
    refine V.dup X dX12_next_192 rfl ?_
    refine V.mgf (x := nI q) X K fX12_next_41 dX12_next_193 rfl rfl ?_
    refine V.iconst (v := nI 1) X dX12_next_196 (by decide) ?_
    refine V.iaddN X dX12_next_197 ?_
    refine V.mpf X K fX12_next_41 dX12_next_198 rfl rfl rfl ?_
    refine V.aload_n X dX12_next_201 rfl ?_
    refine V.iconst (v := nI 3) X dX12_next_202 (by decide) ?_
    refine V.mpf X K fX12_next_57 dX12_next_203 rfl rfl rfl ?_
    exact V.vret X Y9 dX12_next_206 ⟨rfl, _, rfl, (stL_f.put (lxP_i (k := 6) (by decide) (by decide))).put (lxP_i (by decide) (by decide)), by
      rw [hR, tkF_hd hq hs]
      have e9 := LxM.mk (m := m) (v := nI (ch t q)) hq (by omega) hb (enO_3 hk) (fun z => absurd z (by omega)) (fun _ => rfl)
      rw [hk] at e9
      have e8 : mput (mput (mput (mput (mput m 0 6 (nI q)) 0 7 (nI q)) 0 9 (nI (ch t q))) 0 6 (nI (q + 1))) 0 8 (nI 3) = mput (stL m (q + 1) q (nI (ch t q))) 0 8 (nI 3) := congrArg (fun x => mput x 0 8 (nI 3)) (stL_6 (m := m))
      exact e8 ▸ e9⟩ (Nat.le_of_ble_eq_true rfl) (Nat.le_of_ble_eq_true rfl)
  have loopW : ∀ q, q < t.length → kd (ch t q) = 1 → tkF t (t.length - p0) p0 = tkF t (t.length - q) q → stx t q = true → ∀ (n e : Nat), e + n = t.length → q ≤ e → (∀ j, q ≤ j → j < e → kd (ch t j) = kd (ch t q)) → V Γ 0 0 67 [(0, .ref M)] [] (Hm h M (stL m e q (nI (ch t q)))) := by
    intro q hq hk hR hs n
    have hb := (hT.2.2 q hq).2
    induction n with
    | zero =>
      intro e g1 g2 g3
      have he : e = t.length := by omega
      have hex : enO t q = e := enO_u (by omega) (by omega) (fun j z1 z2 => g3 j (by omega) z2) (Or.inl he) (by omega)
      have ir : inB (hrT t e) (nI 97) (nI 122) = false := by rw [he, hrT_e]; decide
      refine V.aload_n X dX12_next_67 rfl ?_
      refine V.callVi (n := 0) X dX12_next_68 gX12_next_X12_here (c_X12_here _ _ K (hT.lx stL_f) (p := e) rfl (by omega)) rfl (by decide +kernel) rfl rfl rfl K.1 rfl rfl ⟨Nat.le_of_ble_eq_true rfl, Nat.le_of_ble_eq_true rfl⟩ (fun r68 h68 hp68 => ?_)
      obtain ⟨rfl, e9⟩ := hp68; obtain rfl := e9.symm
      refine V.bipush (v := nI 97) X dX12_next_71 (by decide) ?_
      refine V.bipush (v := nI 122) X dX12_next_73 (by decide) ?_
      refine V.callSi (n := 3) X dX12_next_75 gX12_next_X12_in (c_X12_in _ _) rfl (by decide +kernel) rfl rfl rfl ⟨Nat.le_of_ble_eq_true rfl, Nat.le_of_ble_eq_true rfl⟩ (fun r75 h75 hp75 => ?_)
      obtain ⟨rfl, e9⟩ := hp75; obtain rfl := e9.symm
      rw [ir]
      refine V.if_eq 94 X dX12_next_78 (by decide) (fun c78 => ?_) (fun c78 => False.elim (by have c78 := bI_ne c78; cases c78))
      have c78 := bI_eq c78
      refine V.aload_n X dX12_next_94 rfl ?_
      refine V.iconst (v := nI 1) X dX12_next_95 (by decide) ?_
      refine V.mpf X K fX12_next_57 dX12_next_96 rfl rfl rfl ?_
      refine V.goto 206 X dX12_next_99 (by decide) ?_
      exact V.vret X Y9 dX12_next_206 ⟨rfl, _, rfl, stL_f.put (lxP_i (by decide) (by decide)), by
        rw [hR, tkF_hd hq hs]
        have e9 := LxM.mk (m := m) (v := nI (ch t q)) hq (by omega) hb hex (fun z => absurd z (by omega)) (fun _ => rfl)
        rw [hk] at e9
        exact e9⟩ (Nat.le_of_ble_eq_true rfl) (Nat.le_of_ble_eq_true rfl)
    | succ n ih =>
      intro e g1 g2 g3
      have k1 := kd_1 (c := ch t e)
      have hbe := (hT.2.2 e (by omega)).2
      have ie : inB (hrT t e) (nI 97) (nI 122) = (decide (97 ≤ ch t e) && decide (ch t e ≤ 122)) := by rw [hrT_i (by omega), inB_ch (by omega) (by decide) (by decide)]
      by_cases hke : kd (ch t e) = 1
      · have ir : inB (hrT t e) (nI 97) (nI 122) = true := by
          rw [ie, ← Bool.decide_and]
          exact decide_eq_true (by omega)
        refine V.aload_n X dX12_next_67 rfl ?_
        refine V.callVi (n := 0) X dX12_next_68 gX12_next_X12_here (c_X12_here _ _ K (hT.lx stL_f) (p := e) rfl (by omega)) rfl (by decide +kernel) rfl rfl rfl K.1 rfl rfl ⟨Nat.le_of_ble_eq_true rfl, Nat.le_of_ble_eq_true rfl⟩ (fun r68 h68 hp68 => ?_)
        obtain ⟨rfl, e9⟩ := hp68; obtain rfl := e9.symm
        refine V.bipush (v := nI 97) X dX12_next_71 (by decide) ?_
        refine V.bipush (v := nI 122) X dX12_next_73 (by decide) ?_
        refine V.callSi (n := 3) X dX12_next_75 gX12_next_X12_in (c_X12_in _ _) rfl (by decide +kernel) rfl rfl rfl ⟨Nat.le_of_ble_eq_true rfl, Nat.le_of_ble_eq_true rfl⟩ (fun r75 h75 hp75 => ?_)
        obtain ⟨rfl, e9⟩ := hp75; obtain rfl := e9.symm
        rw [ir]
        refine V.if_eq 94 X dX12_next_78 (by decide) (fun c78 => False.elim (by have c78 := bI_eq c78; cases c78)) (fun c78 => ?_)
        have c78 := bI_ne c78
        refine V.aload_n X dX12_next_81 rfl ?_
        refine V.dup X dX12_next_82 rfl ?_
        refine V.mgf (x := nI e) X K fX12_next_41 dX12_next_83 rfl rfl ?_
        refine V.iconst (v := nI 1) X dX12_next_86 (by decide) ?_
        refine V.iaddN X dX12_next_87 ?_
        refine V.mpf X K fX12_next_41 dX12_next_88 rfl rfl rfl ?_
        rw [stL_6]
        refine V.goto 67 X dX12_next_91 (by decide) ?_
        exact ih (e + 1) (by omega) (by omega) (fun j z1 z2 => by
          by_cases hj : j = e
          · rw [hj, hke, hk]
          · exact g3 j z1 (by omega))
      · have ir : inB (hrT t e) (nI 97) (nI 122) = false := by
          rw [ie, ← Bool.decide_and]
          exact decide_eq_false (by omega)
        have hqe : ¬ q = e := fun z => hke (by rw [← z]; exact hk)
        have hex : enO t q = e := enO_u (by omega) (by omega) (fun j z1 z2 => g3 j (by omega) z2) (Or.inr (by rw [hk]; exact hke)) (by omega)
        refine V.aload_n X dX12_next_67 rfl ?_
        refine V.callVi (n := 0) X dX12_next_68 gX12_next_X12_here (c_X12_here _ _ K (hT.lx stL_f) (p := e) rfl (by omega)) rfl (by decide +kernel) rfl rfl rfl K.1 rfl rfl ⟨Nat.le_of_ble_eq_true rfl, Nat.le_of_ble_eq_true rfl⟩ (fun r68 h68 hp68 => ?_)
        obtain ⟨rfl, e9⟩ := hp68; obtain rfl := e9.symm
        refine V.bipush (v := nI 97) X dX12_next_71 (by decide) ?_
        refine V.bipush (v := nI 122) X dX12_next_73 (by decide) ?_
        refine V.callSi (n := 3) X dX12_next_75 gX12_next_X12_in (c_X12_in _ _) rfl (by decide +kernel) rfl rfl rfl ⟨Nat.le_of_ble_eq_true rfl, Nat.le_of_ble_eq_true rfl⟩ (fun r75 h75 hp75 => ?_)
        obtain ⟨rfl, e9⟩ := hp75; obtain rfl := e9.symm
        rw [ir]
        refine V.if_eq 94 X dX12_next_78 (by decide) (fun c78 => ?_) (fun c78 => False.elim (by have c78 := bI_ne c78; cases c78))
        have c78 := bI_eq c78
        refine V.aload_n X dX12_next_94 rfl ?_
        refine V.iconst (v := nI 1) X dX12_next_95 (by decide) ?_
        refine V.mpf X K fX12_next_57 dX12_next_96 rfl rfl rfl ?_
        refine V.goto 206 X dX12_next_99 (by decide) ?_
        exact V.vret X Y9 dX12_next_206 ⟨rfl, _, rfl, stL_f.put (lxP_i (by decide) (by decide)), by
          rw [hR, tkF_hd hq hs]
          have e9 := LxM.mk (m := m) (v := nI (ch t q)) hq (by omega) hb hex (fun z => absurd z (by omega)) (fun _ => rfl)
          rw [hk] at e9
          exact e9⟩ (Nat.le_of_ble_eq_true rfl) (Nat.le_of_ble_eq_true rfl)
  have restW : ∀ q, q < t.length → kd (ch t q) = 1 → tkF t (t.length - p0) p0 = tkF t (t.length - q) q → stx t q = true → V Γ 0 0 22 [(0, .ref M)] [] (Hm h M (mput m 0 6 (nI q))) := by
    intro q hq hk hR hs
    have hb := (hT.2.2 q hq).2
    have k1 := kd_1 (c := ch t q)
    have k2 := kd_2 (c := ch t q)
    have i1 : (decide (97 ≤ ch t q) && decide (ch t q ≤ 122)) = true := by
      rw [← Bool.decide_and]
      exact decide_eq_true (by omega)
    have i2 : (decide (48 ≤ ch t q) && decide (ch t q ≤ 57)) = false := by
      rw [← Bool.decide_and]
      exact decide_eq_false (by omega)
    refine V.aload_n X dX12_next_22 rfl ?_
    refine V.aload_n X dX12_next_23 rfl ?_
    refine V.mgf (x := nI q) X K fX12_next_41 dX12_next_24 rfl rfl ?_
    refine V.mpf X K fX12_next_51 dX12_next_27 rfl rfl rfl ?_
    refine V.aload_n X dX12_next_30 rfl ?_
    refine V.aload_n X dX12_next_31 rfl ?_
    refine V.callVi (n := 0) X dX12_next_32 gX12_next_X12_here (c_X12_here _ _ K ((hT.lx (MFr.rf.put (lxP_i (k := 6) (by decide) (by decide)))).lx (MFr.rf.put (lxP_i (k := 7) (by decide) (by decide)))) (p := q) rfl (by omega)) rfl (by decide +kernel) rfl rfl rfl K.1 rfl rfl ⟨Nat.le_of_ble_eq_true rfl, Nat.le_of_ble_eq_true rfl⟩ (fun r32 h32 hp32 => ?_)
    obtain ⟨rfl, e9⟩ := hp32; obtain rfl := e9.symm
    rw [hrT_i hq]
    refine V.mpf X K fX12_next_54 dX12_next_35 rfl rfl rfl ?_
    refine V.aload_n X dX12_next_38 rfl ?_
    refine V.mgf (x := nI (ch t q)) X K fX12_next_54 dX12_next_39 rfl rfl ?_
    refine V.if_ge 53 X dX12_next_42 (by decide) (fun c42 => ?_) (fun c42 => False.elim (by rw [show (0 : Int32) = nI 0 from rfl, nI_leI (by omega) (by omega)] at c42; omega))
    rw [show (0 : Int32) = nI 0 from rfl, nI_leI (by omega) (by omega)] at c42
    refine V.aload_n X dX12_next_53 rfl ?_
    refine V.mgf (x := nI (ch t q)) X K fX12_next_54 dX12_next_54 rfl rfl ?_
    refine V.bipush (v := nI 97) X dX12_next_57 (by decide) ?_
    refine V.bipush (v := nI 122) X dX12_next_59 (by decide) ?_
    refine V.callSi (n := 3) X dX12_next_61 gX12_next_X12_in (c_X12_in _ _) rfl (by decide +kernel) rfl rfl rfl ⟨Nat.le_of_ble_eq_true rfl, Nat.le_of_ble_eq_true rfl⟩ (fun r61 h61 hp61 => ?_)
    obtain ⟨rfl, e9⟩ := hp61; obtain rfl := e9.symm
    rw [inB_ch (by omega) (by decide) (by decide), i1]
    refine V.if_eq 102 X dX12_next_64 (by decide) (fun c64 => False.elim (by have c64 := bI_eq c64; cases c64)) (fun c64 => ?_)
    have c64 := bI_ne c64
    exact loopW q hq hk hR hs (t.length - q) q (by omega) (Nat.le_refl _) (fun j z1 z2 => absurd z1 (by omega))
  have loopD : ∀ q, q < t.length → kd (ch t q) = 2 → tkF t (t.length - p0) p0 = tkF t (t.length - q) q → stx t q = true → ∀ (n e v : Nat), e + n = t.length → q ≤ e → (∀ j, q ≤ j → j < e → kd (ch t j) = kd (ch t q)) → v ≤ 999 → (e - q ≤ 2 → v = nmO t q (e - q)) → V Γ 0 0 121 [(0, .ref M)] [] (Hm h M (stL m e q (nI v))) := by
    intro q hq hk hR hs n
    have hb := (hT.2.2 q hq).2
    induction n with
    | zero =>
      intro e v g1 g2 g3 g4 g5
      have he : e = t.length := by omega
      have hex : enO t q = e := enO_u (by omega) (by omega) (fun j z1 z2 => g3 j (by omega) z2) (Or.inl he) (by omega)
      have ir : inB (hrT t e) (nI 48) (nI 57) = false := by rw [he, hrT_e]; decide
      refine V.aload_n X dX12_next_121 rfl ?_
      refine V.callVi (n := 0) X dX12_next_122 gX12_next_X12_here (c_X12_here _ _ K (hT.lx stL_f) (p := e) rfl (by omega)) rfl (by decide +kernel) rfl rfl rfl K.1 rfl rfl ⟨Nat.le_of_ble_eq_true rfl, Nat.le_of_ble_eq_true rfl⟩ (fun r122 h122 hp122 => ?_)
      obtain ⟨rfl, e9⟩ := hp122; obtain rfl := e9.symm
      refine V.bipush (v := nI 48) X dX12_next_125 (by decide) ?_
      refine V.bipush (v := nI 57) X dX12_next_127 (by decide) ?_
      refine V.callSi (n := 3) X dX12_next_129 gX12_next_X12_in (c_X12_in _ _) rfl (by decide +kernel) rfl rfl rfl ⟨Nat.le_of_ble_eq_true rfl, Nat.le_of_ble_eq_true rfl⟩ (fun r129 h129 hp129 => ?_)
      obtain ⟨rfl, e9⟩ := hp129; obtain rfl := e9.symm
      rw [ir]
      refine V.if_eq 183 X dX12_next_132 (by decide) (fun c132 => ?_) (fun c132 => False.elim (by have c132 := bI_ne c132; cases c132))
      have c132 := bI_eq c132
      refine V.aload_n X dX12_next_183 rfl ?_
      refine V.iconst (v := nI 2) X dX12_next_184 (by decide) ?_
      refine V.mpf X K fX12_next_57 dX12_next_185 rfl rfl rfl ?_
      refine V.goto 206 X dX12_next_188 (by decide) ?_
      exact V.vret X Y9 dX12_next_206 ⟨rfl, _, rfl, stL_f.put (lxP_i (by decide) (by decide)), by
        rw [hR, tkF_hd hq hs]
        have e9 := LxM.mk (m := m) (v := nI v) hq (by omega) hb hex (fun _ z => by rw [g5 z]) (fun z => absurd hk z)
        rw [hk] at e9
        exact e9⟩ (Nat.le_of_ble_eq_true rfl) (Nat.le_of_ble_eq_true rfl)
    | succ n ih =>
      intro e v g1 g2 g3 g4 g5
      have k1 := kd_2 (c := ch t e)
      have hbe := (hT.2.2 e (by omega)).2
      have ie : inB (hrT t e) (nI 48) (nI 57) = (decide (48 ≤ ch t e) && decide (ch t e ≤ 57)) := by rw [hrT_i (by omega), inB_ch (by omega) (by decide) (by decide)]
      by_cases hke : kd (ch t e) = 2
      · have ir : inB (hrT t e) (nI 48) (nI 57) = true := by
          rw [ie, ← Bool.decide_and]
          exact decide_eq_true (by omega)
        have g3e : ∀ j, q ≤ j → j < e + 1 → kd (ch t j) = kd (ch t q) := fun j z1 z2 => by
          by_cases hj : j = e
          · rw [hj, hke, hk]
          · exact g3 j z1 (by omega)
        refine V.aload_n X dX12_next_121 rfl ?_
        refine V.callVi (n := 0) X dX12_next_122 gX12_next_X12_here (c_X12_here _ _ K (hT.lx stL_f) (p := e) rfl (by omega)) rfl (by decide +kernel) rfl rfl rfl K.1 rfl rfl ⟨Nat.le_of_ble_eq_true rfl, Nat.le_of_ble_eq_true rfl⟩ (fun r122 h122 hp122 => ?_)
        obtain ⟨rfl, e9⟩ := hp122; obtain rfl := e9.symm
        refine V.bipush (v := nI 48) X dX12_next_125 (by decide) ?_
        refine V.bipush (v := nI 57) X dX12_next_127 (by decide) ?_
        refine V.callSi (n := 3) X dX12_next_129 gX12_next_X12_in (c_X12_in _ _) rfl (by decide +kernel) rfl rfl rfl ⟨Nat.le_of_ble_eq_true rfl, Nat.le_of_ble_eq_true rfl⟩ (fun r129 h129 hp129 => ?_)
        obtain ⟨rfl, e9⟩ := hp129; obtain rfl := e9.symm
        rw [ir]
        refine V.if_eq 183 X dX12_next_132 (by decide) (fun c132 => False.elim (by have c132 := bI_eq c132; cases c132)) (fun c132 => ?_)
        have c132 := bI_ne c132
        refine V.aload_n X dX12_next_135 rfl ?_
        refine V.aload_n X dX12_next_136 rfl ?_
        refine V.mgf (x := nI v) X K fX12_next_54 dX12_next_137 rfl rfl ?_
        refine V.bipush (v := nI 99) X dX12_next_140 (by decide) ?_
        refine V.icmp_le 152 X dX12_next_142 (by decide) (fun c142 => ?_) (fun c142 => ?_)
        · rw [nI_leI (by omega) (by omega)] at c142
          refine V.bipush (v := nI 10) X dX12_next_152 (by decide) ?_
          refine V.aload_n X dX12_next_154 rfl ?_
          refine V.mgf (x := nI v) X K fX12_next_54 dX12_next_155 rfl rfl ?_
          refine V.imulN X dX12_next_158 ?_
          refine V.aload_n X dX12_next_159 rfl ?_
          refine V.callVi (n := 0) X dX12_next_160 gX12_next_X12_here (c_X12_here _ _ K (hT.lx stL_f) (p := e) rfl (by omega)) rfl (by decide +kernel) rfl rfl rfl K.1 rfl rfl ⟨Nat.le_of_ble_eq_true rfl, Nat.le_of_ble_eq_true rfl⟩ (fun r160 h160 hp160 => ?_)
          obtain ⟨rfl, e9⟩ := hp160; obtain rfl := e9.symm
          rw [hrT_i (by omega)]
          refine V.iaddN X dX12_next_163 ?_
          refine V.bipush (v := nI 48) X dX12_next_164 (by decide) ?_
          refine V.isubN X dX12_next_166 (by omega) ?_
          refine V.mpf X K fX12_next_54 dX12_next_167 rfl rfl rfl ?_
          rw [stL_9]
          refine V.aload_n X dX12_next_170 rfl ?_
          refine V.dup X dX12_next_171 rfl ?_
          refine V.mgf (x := nI e) X K fX12_next_41 dX12_next_172 rfl rfl ?_
          refine V.iconst (v := nI 1) X dX12_next_175 (by decide) ?_
          refine V.iaddN X dX12_next_176 ?_
          refine V.mpf X K fX12_next_41 dX12_next_177 rfl rfl rfl ?_
          rw [stL_6]
          refine V.goto 121 X dX12_next_180 (by decide) ?_
          first
            | exact ih (e + 1) v (by omega) (by omega) g3e g4 hv
            | exact ih (e + 1) (10 * v + ch t e - 48) (by omega) (by omega) g3e (by omega) (fun z => by
              have z2 := g5 (by omega)
              rw [show e + 1 - q = (e - q) + 1 by omega]
              show _ = 10 * nmO t q (e - q) + ch t (q + (e - q)) - 48
              rw [← z2, show q + (e - q) = e by omega])
        · rw [nI_leI (by omega) (by omega)] at c142
          have hv : e + 1 - q ≤ 2 → v = nmO t q (e + 1 - q) := fun z => by
            have z2 := g5 (by omega)
            have z3 := nmO_bd (t := t) (o := q) (n := e - q) (fun j hj => kd_2.mp ((g3 (q + j) (by omega) (by omega)).trans hk)) (by omega) (e - q) (Nat.le_refl _)
            omega
          refine V.aload_n X dX12_next_145 rfl ?_
          refine V.mgf (x := nI v) X K fX12_next_54 dX12_next_146 rfl rfl ?_
          refine V.goto 167 X dX12_next_149 (by decide) ?_
          refine V.mpf X K fX12_next_54 dX12_next_167 rfl rfl rfl ?_
          rw [stL_9]
          refine V.aload_n X dX12_next_170 rfl ?_
          refine V.dup X dX12_next_171 rfl ?_
          refine V.mgf (x := nI e) X K fX12_next_41 dX12_next_172 rfl rfl ?_
          refine V.iconst (v := nI 1) X dX12_next_175 (by decide) ?_
          refine V.iaddN X dX12_next_176 ?_
          refine V.mpf X K fX12_next_41 dX12_next_177 rfl rfl rfl ?_
          rw [stL_6]
          refine V.goto 121 X dX12_next_180 (by decide) ?_
          first
            | exact ih (e + 1) v (by omega) (by omega) g3e g4 hv
            | exact ih (e + 1) (10 * v + ch t e - 48) (by omega) (by omega) g3e (by omega) (fun z => by
              have z2 := g5 (by omega)
              rw [show e + 1 - q = (e - q) + 1 by omega]
              show _ = 10 * nmO t q (e - q) + ch t (q + (e - q)) - 48
              rw [← z2, show q + (e - q) = e by omega])
      · have ir : inB (hrT t e) (nI 48) (nI 57) = false := by
          rw [ie, ← Bool.decide_and]
          exact decide_eq_false (by omega)
        have hqe : ¬ q = e := fun z => hke (by rw [← z]; exact hk)
        have hex : enO t q = e := enO_u (by omega) (by omega) (fun j z1 z2 => g3 j (by omega) z2) (Or.inr (by rw [hk]; exact hke)) (by omega)
        refine V.aload_n X dX12_next_121 rfl ?_
        refine V.callVi (n := 0) X dX12_next_122 gX12_next_X12_here (c_X12_here _ _ K (hT.lx stL_f) (p := e) rfl (by omega)) rfl (by decide +kernel) rfl rfl rfl K.1 rfl rfl ⟨Nat.le_of_ble_eq_true rfl, Nat.le_of_ble_eq_true rfl⟩ (fun r122 h122 hp122 => ?_)
        obtain ⟨rfl, e9⟩ := hp122; obtain rfl := e9.symm
        refine V.bipush (v := nI 48) X dX12_next_125 (by decide) ?_
        refine V.bipush (v := nI 57) X dX12_next_127 (by decide) ?_
        refine V.callSi (n := 3) X dX12_next_129 gX12_next_X12_in (c_X12_in _ _) rfl (by decide +kernel) rfl rfl rfl ⟨Nat.le_of_ble_eq_true rfl, Nat.le_of_ble_eq_true rfl⟩ (fun r129 h129 hp129 => ?_)
        obtain ⟨rfl, e9⟩ := hp129; obtain rfl := e9.symm
        rw [ir]
        refine V.if_eq 183 X dX12_next_132 (by decide) (fun c132 => ?_) (fun c132 => False.elim (by have c132 := bI_ne c132; cases c132))
        have c132 := bI_eq c132
        refine V.aload_n X dX12_next_183 rfl ?_
        refine V.iconst (v := nI 2) X dX12_next_184 (by decide) ?_
        refine V.mpf X K fX12_next_57 dX12_next_185 rfl rfl rfl ?_
        refine V.goto 206 X dX12_next_188 (by decide) ?_
        exact V.vret X Y9 dX12_next_206 ⟨rfl, _, rfl, stL_f.put (lxP_i (by decide) (by decide)), by
          rw [hR, tkF_hd hq hs]
          have e9 := LxM.mk (m := m) (v := nI v) hq (by omega) hb hex (fun _ z => by rw [g5 z]) (fun z => absurd hk z)
          rw [hk] at e9
          exact e9⟩ (Nat.le_of_ble_eq_true rfl) (Nat.le_of_ble_eq_true rfl)
  have restD : ∀ q, q < t.length → kd (ch t q) = 2 → tkF t (t.length - p0) p0 = tkF t (t.length - q) q → stx t q = true → V Γ 0 0 22 [(0, .ref M)] [] (Hm h M (mput m 0 6 (nI q))) := by
    intro q hq hk hR hs
    have hb := (hT.2.2 q hq).2
    have k1 := kd_1 (c := ch t q)
    have k2 := kd_2 (c := ch t q)
    have i1 : (decide (97 ≤ ch t q) && decide (ch t q ≤ 122)) = false := by
      rw [← Bool.decide_and]
      exact decide_eq_false (by omega)
    have i2 : (decide (48 ≤ ch t q) && decide (ch t q ≤ 57)) = true := by
      rw [← Bool.decide_and]
      exact decide_eq_true (by omega)
    refine V.aload_n X dX12_next_22 rfl ?_
    refine V.aload_n X dX12_next_23 rfl ?_
    refine V.mgf (x := nI q) X K fX12_next_41 dX12_next_24 rfl rfl ?_
    refine V.mpf X K fX12_next_51 dX12_next_27 rfl rfl rfl ?_
    refine V.aload_n X dX12_next_30 rfl ?_
    refine V.aload_n X dX12_next_31 rfl ?_
    refine V.callVi (n := 0) X dX12_next_32 gX12_next_X12_here (c_X12_here _ _ K ((hT.lx (MFr.rf.put (lxP_i (k := 6) (by decide) (by decide)))).lx (MFr.rf.put (lxP_i (k := 7) (by decide) (by decide)))) (p := q) rfl (by omega)) rfl (by decide +kernel) rfl rfl rfl K.1 rfl rfl ⟨Nat.le_of_ble_eq_true rfl, Nat.le_of_ble_eq_true rfl⟩ (fun r32 h32 hp32 => ?_)
    obtain ⟨rfl, e9⟩ := hp32; obtain rfl := e9.symm
    rw [hrT_i hq]
    refine V.mpf X K fX12_next_54 dX12_next_35 rfl rfl rfl ?_
    refine V.aload_n X dX12_next_38 rfl ?_
    refine V.mgf (x := nI (ch t q)) X K fX12_next_54 dX12_next_39 rfl rfl ?_
    refine V.if_ge 53 X dX12_next_42 (by decide) (fun c42 => ?_) (fun c42 => False.elim (by rw [show (0 : Int32) = nI 0 from rfl, nI_leI (by omega) (by omega)] at c42; omega))
    rw [show (0 : Int32) = nI 0 from rfl, nI_leI (by omega) (by omega)] at c42
    refine V.aload_n X dX12_next_53 rfl ?_
    refine V.mgf (x := nI (ch t q)) X K fX12_next_54 dX12_next_54 rfl rfl ?_
    refine V.bipush (v := nI 97) X dX12_next_57 (by decide) ?_
    refine V.bipush (v := nI 122) X dX12_next_59 (by decide) ?_
    refine V.callSi (n := 3) X dX12_next_61 gX12_next_X12_in (c_X12_in _ _) rfl (by decide +kernel) rfl rfl rfl ⟨Nat.le_of_ble_eq_true rfl, Nat.le_of_ble_eq_true rfl⟩ (fun r61 h61 hp61 => ?_)
    obtain ⟨rfl, e9⟩ := hp61; obtain rfl := e9.symm
    rw [inB_ch (by omega) (by decide) (by decide), i1]
    refine V.if_eq 102 X dX12_next_64 (by decide) (fun c64 => ?_) (fun c64 => False.elim (by have c64 := bI_ne c64; cases c64))
    have c64 := bI_eq c64
    refine V.aload_n X dX12_next_102 rfl ?_
    refine V.mgf (x := nI (ch t q)) X K fX12_next_54 dX12_next_103 rfl rfl ?_
    refine V.bipush (v := nI 48) X dX12_next_106 (by decide) ?_
    refine V.bipush (v := nI 57) X dX12_next_108 (by decide) ?_
    refine V.callSi (n := 3) X dX12_next_110 gX12_next_X12_in (c_X12_in _ _) rfl (by decide +kernel) rfl rfl rfl ⟨Nat.le_of_ble_eq_true rfl, Nat.le_of_ble_eq_true rfl⟩ (fun r110 h110 hp110 => ?_)
    obtain ⟨rfl, e9⟩ := hp110; obtain rfl := e9.symm
    rw [inB_ch (by omega) (by decide) (by decide), i2]
    refine V.if_eq 191 X dX12_next_113 (by decide) (fun c113 => False.elim (by have c113 := bI_eq c113; cases c113)) (fun c113 => ?_)
    have c113 := bI_ne c113
    refine V.aload_n X dX12_next_116 rfl ?_
    refine V.iconst (v := nI 0) X dX12_next_117 (by decide) ?_
    refine V.mpf X K fX12_next_54 dX12_next_118 rfl rfl rfl ?_
    rw [show mput (mput (mput (mput m 0 6 (nI q)) 0 7 (nI q)) 0 9 (nI (ch t q))) 0 9 (nI 0) = stL m q q (nI 0) from stL_9]
    exact loopD q hq hk hR hs (t.length - q) q 0 (by omega) (Nat.le_refl _) (fun j z1 z2 => absurd z1 (by omega)) (by omega) (fun _ => by rw [Nat.sub_self]; rfl)
  have skip : ∀ (n p : Nat), p + n = t.length → Bd t p → tkF t (t.length - p0) p0 = tkF t (t.length - p) p → V Γ 0 0 0 [(0, .ref M)] [] (Hm h M (mput m 0 6 (nI p))) := by
    intro n
    induction n with
    | zero =>
      intro p g1 g2 g3
      obtain rfl : p = t.length := by omega
      refine V.aload_n X dX12_next_0 rfl ?_
      refine V.callVi (n := 0) X dX12_next_1 gX12_next_X12_here (c_X12_here _ _ K (hT.lx (MFr.rf.put (lxP_i (k := 6) (by decide) (by decide)))) (p := _) rfl (by omega)) rfl (by decide +kernel) rfl rfl rfl K.1 rfl rfl ⟨Nat.le_of_ble_eq_true rfl, Nat.le_of_ble_eq_true rfl⟩ (fun r1 h1 hp1 => ?_)
      obtain ⟨rfl, e9⟩ := hp1; obtain rfl := e9.symm
      rw [hrT_e]
      refine V.bipush (v := nI 32) X dX12_next_4 (by decide) ?_
      refine V.icmp_ne 22 X dX12_next_6 (by decide) (fun c6 => ?_) (fun c6 => False.elim (by revert c6; decide))
      exact restE _ rfl g3
    | succ n ih =>
      intro p g1 g2 g3
      have hbp := (hT.2.2 p (by omega)).2
      by_cases h0 : kd (ch t p) = 0
      · have h32 := kd_0.mp h0
        refine V.aload_n X dX12_next_0 rfl ?_
        refine V.callVi (n := 0) X dX12_next_1 gX12_next_X12_here (c_X12_here _ _ K (hT.lx (MFr.rf.put (lxP_i (k := 6) (by decide) (by decide)))) (p := _) rfl (by omega)) rfl (by decide +kernel) rfl rfl rfl K.1 rfl rfl ⟨Nat.le_of_ble_eq_true rfl, Nat.le_of_ble_eq_true rfl⟩ (fun r1 h1 hp1 => ?_)
        obtain ⟨rfl, e9⟩ := hp1; obtain rfl := e9.symm
        rw [hrT_i (by omega)]
        refine V.bipush (v := nI 32) X dX12_next_4 (by decide) ?_
        refine V.icmp_ne 22 X dX12_next_6 (by decide) (fun c6 => False.elim (by rw [nI_eq (by omega) (by omega)] at c6; omega)) (fun c6 => ?_)
        rw [nI_eq (by omega) (by omega)] at c6
        refine V.aload_n X dX12_next_9 rfl ?_
        refine V.dup X dX12_next_10 rfl ?_
        refine V.mgf (x := nI p) X K fX12_next_41 dX12_next_11 rfl rfl ?_
        refine V.iconst (v := nI 1) X dX12_next_14 (by decide) ?_
        refine V.iaddN X dX12_next_15 ?_
        refine V.mpf X K fX12_next_41 dX12_next_16 rfl rfl rfl ?_
        rw [mput_s]
        refine V.goto 0 X dX12_next_19 (by decide) ?_
        exact ih (p + 1) (by omega) (Bd_sp (by omega) h0) (by rw [g3, tkF_sp (by omega) h0])
      · have h32 : ¬ ch t p = 32 := fun z => h0 (kd_0.mpr z)
        have hst : stx t p = true := by
          rcases g2.2 with z | z | z
          · omega
          · exact absurd z h0
          · exact z
        refine V.aload_n X dX12_next_0 rfl ?_
        refine V.callVi (n := 0) X dX12_next_1 gX12_next_X12_here (c_X12_here _ _ K (hT.lx (MFr.rf.put (lxP_i (k := 6) (by decide) (by decide)))) (p := _) rfl (by omega)) rfl (by decide +kernel) rfl rfl rfl K.1 rfl rfl ⟨Nat.le_of_ble_eq_true rfl, Nat.le_of_ble_eq_true rfl⟩ (fun r1 h1 hp1 => ?_)
        obtain ⟨rfl, e9⟩ := hp1; obtain rfl := e9.symm
        rw [hrT_i (by omega)]
        refine V.bipush (v := nI 32) X dX12_next_4 (by decide) ?_
        refine V.icmp_ne 22 X dX12_next_6 (by decide) (fun c6 => ?_) (fun c6 => False.elim (by rw [nI_eq (by omega) (by omega)] at c6; omega))
        rw [nI_eq (by omega) (by omega)] at c6
        have k4 := kd_lt (ch t p)
        rcases (show kd (ch t p) = 1 ∨ kd (ch t p) = 2 ∨ kd (ch t p) = 3 by omega) with z | z | z
        · exact restW p (by omega) z g3 hst
        · exact restD p (by omega) z g3 hst
        · exact restS p (by omega) z g3 hst
  have l9 := skip (t.length - p0) p0 (by have := hB.1; omega) hB rfl
  rw [mput_e hp] at l9
  exact l9
