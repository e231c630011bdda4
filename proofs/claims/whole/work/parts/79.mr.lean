/-! MINIMIZED FAILURES, AS THE REFERENCE FINDS THEM -/
def fwL (c : Cmp) (w v : Nat) : List Nat → Nat → St → Nat → Bool
  | [], _, _, last => decide (last = v)
  | y :: r, k, s, last => if k = w then fwL c w v r (k + 1) s last else if last = 0 then fwL c w v r (k + 1) (nxt c y s) (verd c y s) else false
theorem fwL_a {c : Cmp} {w v : Nat} : ∀ (r : List Nat) (k y : Nat) (s : St), w < k → fwL c w v r k (nxt c y s) (verd c y s) = runE c (y :: r) s v := by
  intro r
  induction r with
  | nil => intro k y s _; rfl
  | cons z r ih =>
    intro k y s hk
    show (if k = w then _ else if verd c y s = 0 then fwL c w v r (k + 1) (nxt c z (nxt c y s)) (verd c z (nxt c y s)) else false) = (if (z :: r).isEmpty = true then decide (verd c y s = v) else if verd c y s = 0 then runE c (z :: r) (nxt c y s) v else false)
    rw [if_neg (by omega), if_neg (show ¬ (z :: r).isEmpty = true from Bool.false_ne_true), ih (k + 1) z (nxt c y s) (by omega)]
theorem fwL_b {c : Cmp} {w v : Nat} : ∀ (r : List Nat) (k y : Nat) (s : St), k ≤ w → fwL c w v r k (nxt c y s) (verd c y s) = runE c (y :: r.eraseIdx (w - k)) s v := by
  intro r
  induction r with
  | nil => intro k y s _; rfl
  | cons z r ih =>
    intro k y s hk
    by_cases h : k = w
    · subst h
      rw [Nat.sub_self]
      show (if k = k then fwL c k v r (k + 1) (nxt c y s) (verd c y s) else _) = runE c (y :: r) s v
      rw [if_pos rfl, fwL_a r (k + 1) y s (by omega)]
    · obtain ⟨n, hn⟩ : ∃ n, w - k = n + 1 := ⟨w - k - 1, by omega⟩
      rw [hn, List.eraseIdx_cons_succ]
      show (if k = w then _ else if verd c y s = 0 then fwL c w v r (k + 1) (nxt c z (nxt c y s)) (verd c z (nxt c y s)) else false) = (if (z :: r.eraseIdx n).isEmpty = true then decide (verd c y s = v) else if verd c y s = 0 then runE c (z :: r.eraseIdx n) (nxt c y s) v else false)
      rw [if_neg h, if_neg (show ¬ (z :: r.eraseIdx n).isEmpty = true from Bool.false_ne_true), ih (k + 1) z (nxt c y s) (by omega), show w - (k + 1) = n by omega]
theorem fwL_c {c : Cmp} {w v : Nat} (hv : 0 < v) (ys : List Nat) (s : St) : fwL c w v ys 0 s 0 = runE c (ys.eraseIdx w) s v := by
  have nil : ∀ k s, fwL c w v [] k s 0 = runE c [] s v := fun k s => decide_eq_false (by omega)
  cases ys with
  | nil => exact nil 0 s
  | cons y r =>
    by_cases h : 0 = w
    · subst h
      show (if 0 = 0 then fwL c 0 v r 1 s 0 else _) = runE c r s v
      rw [if_pos rfl]
      cases r with
      | nil => exact nil 1 s
      | cons z r =>
        show (if 1 = 0 then _ else if 0 = 0 then fwL c 0 v r 2 (nxt c z s) (verd c z s) else false) = _
        rw [if_neg (by decide), if_pos rfl, fwL_a r 2 z s (by decide)]
    · obtain ⟨n, rfl⟩ : ∃ n, w = n + 1 := ⟨w - 1, by omega⟩
      rw [List.eraseIdx_cons_succ]
      show (if 0 = n + 1 then _ else if 0 = 0 then fwL c (n + 1) v r 1 (nxt c y s) (verd c y s) else false) = _
      rw [if_neg h, if_pos rfl, fwL_b r 1 y s (by omega)]
      rfl
theorem fwL_drop {c : Cmp} {w v k last : Nat} {ys : List Nat} {s : St} (h : k < ys.length) : fwL c w v (ys.drop k) k s last = if k = w then fwL c w v (ys.drop (k + 1)) (k + 1) s last else if last = 0 then fwL c w v (ys.drop (k + 1)) (k + 1) (nxt c (ys.getD k 0) s) (verd c (ys.getD k 0) s) else false := by
  rw [drop_x (getD_some h)]
  rfl
def LeR (m : Md) (ys : List Nat) : Prop := m 0 15 = nI ys.length ∧ ys.length ≤ 8 ∧ ∀ j, j < ys.length → m 8 j = nI (ys.getD j 0)
def mnP : Nat → Nat → Prop := fun a k => scP a k ∨ (a = 0 ∧ k = 15) ∨ a = 8
theorem LeR.sc {m m2 : Md} {ys : List Nat} (h : LeR m ys) (f : MFr scP m m2) : LeR m2 ys := ⟨(f _ _ (fun z => by unfold scP at z; omega)).trans h.1, h.2.1, fun j hj => (f _ _ (fun z => by unfold scP at z; omega)).trans (h.2.2 j hj)⟩
theorem getD_er {ys : List Nat} {k j : Nat} : (ys.eraseIdx k).getD j 0 = if j < k then ys.getD j 0 else ys.getD (j + 1) 0 := by
  rw [List.getD_eq_getElem?_getD, List.getElem?_eraseIdx, List.getD_eq_getElem?_getD, List.getD_eq_getElem?_getD]
  split <;> rfl
theorem fX12_failsWithout_218 : FL wsX12_failsWithout RX12 218 14 15 .int false := ⟨_, rfl, by decide, Or.inl ⟨"ContractTesterModel", by decide +kernel, Or.inl rfl⟩, by decide +kernel, by decide +kernel, rfl⟩
theorem fX12_failsWithout_31 : FL wsX12_failsWithout RX12 31 14 14 (.array .int) true := ⟨_, rfl, by decide, Or.inl ⟨"ContractTesterModel", by decide +kernel, Or.inl rfl⟩, by decide +kernel, by decide +kernel, rfl⟩
set_option maxHeartbeats 4000000 in
set_option maxRecDepth 100000 in
theorem c_X12_failsWithout (l : Launch) (G : GG) {h : Hp} {M : Nat} {m : Md} (K : MdK h M) {c : Cmp} (hC : CmR (m 1) c) (ok : cmOk c) {w v : Nat} {ys : List Nat} (hL : LeR m ys) (hy : ∀ x ∈ ys, x < c.2.2.length) (hw : w < 100) (hv : 0 < v) (hv4 : v < 100) : Con l G yX12_failsWithout wsX12_failsWithout 4 92 0 0 [.ref M, .int (nI w), .int (nI v)] (Hm h M m) (pI (fun x h2 => x = bI (runE c (ys.eraseIdx w) c.1 v) ∧ ∃ m2, h2 = Hm h M m2 ∧ MFr scP m m2)) := by
  refine Con.of (cc := cX12_failsWithout) (nL := 5) (ret := (some .boolean)) (by decide) rfl rfl rfl rfl (fun Γ hG hl X Y9 => ?_)
  subst hG
  subst hl
  have l8 := hL.2.1
  have loop : ∀ (n k last : Nat) (m1 : Md) (s : St), k + n = ys.length → last ≤ 4 → MFr scP m m1 → (last = 0 → stM m1 5 = s) → fwL c w v (ys.drop k) k s last = fwL c w v ys 0 c.1 0 → V Γ 0 0 9 [(0, .ref M), (1, .int (nI w)), (2, .int (nI v)), (3, .int (nI last)), (4, .int (nI k))] [] (Hm h M m1) := by
    intro n
    induction n with
    | zero =>
      intro k last m1 s g1 g4 F1 h5 g2
      rw [List.drop_eq_nil_of_le (by omega), fwL_c hv] at g2
      have g2 : decide (last = v) = runE c (ys.eraseIdx w) c.1 v := g2
      have L1 := hL.sc F1
      refine V.iload X dX12_failsWithout_9 rfl ?_
      refine V.aload_n X dX12_failsWithout_11 rfl ?_
      refine V.mgf  X K fX12_failsWithout_218 dX12_failsWithout_12 rfl L1.1 ?_
      refine V.icmp_ge 48 X dX12_failsWithout_15 (by decide) (fun c15 => ?_) (fun c15 => False.elim (by rw [nI_leI (by omega) (by omega)] at c15; omega))
      rw [nI_leI (by omega) (by omega)] at c15
      refine V.iload_n X dX12_failsWithout_48 rfl ?_
      refine V.iload_n X dX12_failsWithout_49 rfl ?_
      refine V.icmp_ne 57 X dX12_failsWithout_50 (by decide) (fun c50 => ?_) (fun c50 => ?_)
      · rw [nI_eq (by omega) (by omega)] at c50
        rw [decide_eq_false (by omega)] at g2
        refine V.iconst (v := nI 0) X dX12_failsWithout_57 (by decide) ?_
        exact V.bret X Y9 dX12_failsWithout_58 (runE c (ys.eraseIdx w) c.1 v) (by rw [← g2]; rfl) ⟨rfl, m1, rfl, F1⟩ (Nat.le_of_ble_eq_true rfl) (Nat.le_of_ble_eq_true rfl)
      · rw [nI_eq (by omega) (by omega)] at c50
        rw [decide_eq_true (by omega)] at g2
        refine V.iconst (v := nI 1) X dX12_failsWithout_53 (by decide) ?_
        refine V.goto 58 X dX12_failsWithout_54 (by decide) ?_
        exact V.bret X Y9 dX12_failsWithout_58 (runE c (ys.eraseIdx w) c.1 v) (by rw [← g2]; rfl) ⟨rfl, m1, rfl, F1⟩ (Nat.le_of_ble_eq_true rfl) (Nat.le_of_ble_eq_true rfl)
    | succ n ih =>
      intro k last m1 s g1 g4 F1 h5 g2
      have hk : k < ys.length := by omega
      rw [fwL_drop hk] at g2
      have L1 := hL.sc F1
      have C1 := hC.fr ok F1 scP1
      obtain ⟨q, hq⟩ := get_some (hy _ (List.mem_of_getElem? (getD_some hk)))
      have v4 : verd c (ys.getD k 0) s ≤ 4 := verd_le
      refine V.iload X dX12_failsWithout_9 rfl ?_
      refine V.aload_n X dX12_failsWithout_11 rfl ?_
      refine V.mgf  X K fX12_failsWithout_218 dX12_failsWithout_12 rfl L1.1 ?_
      refine V.icmp_ge 48 X dX12_failsWithout_15 (by decide) (fun c15 => False.elim (by rw [nI_leI (by omega) (by omega)] at c15; omega)) (fun c15 => ?_)
      rw [nI_leI (by omega) (by omega)] at c15
      refine V.iload X dX12_failsWithout_18 rfl ?_
      refine V.iload_n X dX12_failsWithout_20 rfl ?_
      refine V.icmp_eq 42 X dX12_failsWithout_21 (by decide) (fun c21 => ?_) (fun c21 => ?_)
      · rw [nI_eq (by omega) (by omega)] at c21
        rw [if_pos c21] at g2
        refine V.iinc  X dX12_failsWithout_42 [(0, _), (1, _), (2, _), (3, _), (4, _)] rfl (nI_1 _) rfl rfl rfl ?_
        refine V.goto 9 X dX12_failsWithout_45 (by decide) ?_
        first
          | exact ih (k + 1) last m1 s (by omega) g4 F1 h5 g2
          | exact ih (k + 1) _ m2 _ (by omega) v4 (F1.tr G2) X2 g2
      · rw [nI_eq (by omega) (by omega)] at c21
        rw [if_neg c21] at g2
        refine V.iload_n X dX12_failsWithout_24 rfl ?_
        refine V.if_eq 30 X dX12_failsWithout_25 (by decide) (fun c25 => ?_) (fun c25 => ?_)
        · rw [show (0 : Int32) = nI 0 from rfl, nI_eq (by omega) (by omega)] at c25
          rw [if_pos c25] at g2
          have h6 := h5 c25
          refine V.aload_n X dX12_failsWithout_30 rfl ?_
          refine V.aload_n X dX12_failsWithout_31 rfl ?_
          refine V.mgr (k := 14) (a := 8) X K fX12_failsWithout_31 dX12_failsWithout_32 (by decide) ?_
          refine V.iload X dX12_failsWithout_35 rfl ?_
          refine V.mld  X K 8 9  dX12_failsWithout_37 rfl rfl (by omega) (L1.2.2 k hk) ?_
          refine V.callVi (n := 1) X dX12_failsWithout_38 gX12_failsWithout_X12_calls (c_X12_calls _ _ K C1 ok hq) rfl (by decide +kernel) rfl rfl rfl K.1 rfl rfl ⟨Nat.le_of_ble_eq_true rfl, Nat.le_of_ble_eq_true rfl⟩ (fun r38 h38 hp38 => ?_)
          obtain ⟨rfl, m2, rfl, G2, X2⟩ := hp38
          rw [h6] at X2 ⊢
          refine V.istore_n X dX12_failsWithout_41 [(0, _), (1, _), (2, _), (3, _), (4, _)] rfl rfl rfl ?_
          refine V.iinc  X dX12_failsWithout_42 [(0, _), (1, _), (2, _), (3, _), (4, _)] rfl (nI_1 _) rfl rfl rfl ?_
          refine V.goto 9 X dX12_failsWithout_45 (by decide) ?_
          first
            | exact ih (k + 1) last m1 s (by omega) g4 F1 h5 g2
            | exact ih (k + 1) _ m2 _ (by omega) v4 (F1.tr G2) X2 g2
        · rw [show (0 : Int32) = nI 0 from rfl, nI_eq (by omega) (by omega)] at c25
          rw [if_neg c25, fwL_c hv] at g2
          refine V.iconst (v := nI 0) X dX12_failsWithout_28 (by decide) ?_
          exact V.bret X Y9 dX12_failsWithout_29 (runE c (ys.eraseIdx w) c.1 v) (by rw [← g2]; rfl) ⟨rfl, m1, rfl, F1⟩ (Nat.le_of_ble_eq_true rfl) (Nat.le_of_ble_eq_true rfl)
  refine V.aload_n X dX12_failsWithout_0 rfl ?_
  refine V.callVv (n := 0) X dX12_failsWithout_1 gX12_failsWithout_X12_begin (c_X12_begin _ _ K) rfl (by decide +kernel) rfl rfl rfl K.1 rfl rfl ⟨Nat.le_of_ble_eq_true rfl, Nat.le_of_ble_eq_true rfl⟩ (fun h1 hp1 => ?_)
  obtain rfl := hp1.symm
  refine V.iconst (v := (nI 0)) X dX12_failsWithout_4 (by decide) ?_
  refine V.istore_n X dX12_failsWithout_5 [(0, _), (1, _), (2, _), (3, _)] rfl rfl rfl ?_
  refine V.iconst (v := nI 0) X dX12_failsWithout_6 (by decide) ?_
  refine V.istore X dX12_failsWithout_7 [(0, _), (1, _), (2, _), (3, _), (4, _)] rfl rfl rfl ?_
  have F1 : MFr scP m (cpy m 5 1 0 0 3) := fun a x hk => if_neg (fun z => hk ⟨Or.inl z.1, by omega⟩)
  have h5 : stM (cpy m 5 1 0 0 3) 5 = c.1 := by
    show (m 1 0, m 1 1, m 1 2) = _
    rw [hC.1.1, hC.1.2.1, hC.1.2.2]
  exact loop ys.length 0 0 _ c.1 (Nat.zero_add _) (by decide) F1 (fun _ => h5) rfl
theorem fX12_minimize_218 : FL wsX12_minimize RX12 218 14 15 .int false := ⟨_, rfl, by decide, Or.inl ⟨"ContractTesterModel", by decide +kernel, Or.inl rfl⟩, by decide +kernel, by decide +kernel, rfl⟩
theorem fX12_minimize_31 : FL wsX12_minimize RX12 31 14 14 (.array .int) true := ⟨_, rfl, by decide, Or.inl ⟨"ContractTesterModel", by decide +kernel, Or.inl rfl⟩, by decide +kernel, by decide +kernel, rfl⟩
set_option maxHeartbeats 4000000 in
set_option maxRecDepth 100000 in
theorem c_X12_minimize (l : Launch) (G : GG) {h : Hp} {M : Nat} {m : Md} (K : MdK h M) {c : Cmp} (hC : CmR (m 1) c) (ok : cmOk c) {f v : Nat} {xs : List Nat} (hf : f < 20) (hS : SqM (m 1) 718 f xs) (hv : m 1 (718 + 11 * f + 10) = nI v) (hx : ∀ x ∈ xs, x < c.2.2.length) (h0 : 0 < xs.length) (h8 : xs.length ≤ 8) (v0 : 0 < v) (v9 : v < 100) : Con l G yX12_minimize wsX12_minimize 5 116 0 0 [.ref M, .int (nI f)] (Hm h M m) (pV (fun h2 => ∃ m2, h2 = Hm h M m2 ∧ MFr mnP m m2 ∧ LeR m2 (minC c v 8 xs))) := by
  refine Con.of (cc := cX12_minimize) (nL := 4) (ret := none) (by decide) rfl rfl rfl rfl (fun Γ hG hl X Y9 => ?_)
  subst hG
  subst hl
  have main : ∀ (sz : Nat) (ys : List Nat), ys.length = sz + 1 → (∀ x ∈ ys, x < c.2.2.length) → (∃ n, ys.length ≤ n ∧ minC c v n ys = minC c v 8 xs) → ∀ (d k : Nat) (m1 : Md), k + d = sz → MFr mnP m m1 → LeR m1 ys → dropC c v ys d k = dropC c v ys sz 0 → V Γ 0 0 45 [(0, .ref M), (1, .int (nI f)), (2, .int (nI k))] [] (Hm h M m1) := by
    intro sz
    induction sz with
    | zero =>
      intro ys hl hy ⟨n, hn, hm⟩ d k m1 g1 F1 L1 g2
      have hres : minC c v 8 xs = ys := by
        rw [← hm]
        obtain ⟨n2, rfl⟩ : ∃ n2, n = n2 + 1 := ⟨n - 1, by omega⟩
        show (match dropC c v ys (ys.length - 1) 0 with
          | none => ys
          | some zs => minC c v n2 zs) = ys
        rw [hl]
        rfl
      obtain rfl : k = 0 := by omega
      have L8 := L1.2.1
      refine V.iload_n X dX12_minimize_45 rfl ?_
      refine V.aload_n X dX12_minimize_46 rfl ?_
      refine V.mgf  X K fX12_minimize_218 dX12_minimize_47 rfl L1.1 ?_
      refine V.iconst (v := nI 1) X dX12_minimize_50 (by decide) ?_
      refine V.isubN X dX12_minimize_51 (by omega) ?_
      refine V.icmp_ge 119 X dX12_minimize_52 (by decide) (fun c52 => ?_) (fun c52 => False.elim (by rw [nI_leI (by omega) (by omega)] at c52; omega))
      rw [nI_leI (by omega) (by omega)] at c52
      exact V.vret X Y9 dX12_minimize_119 ⟨rfl, m1, rfl, F1, by rw [hres]; exact L1⟩ (Nat.le_of_ble_eq_true rfl) (Nat.le_of_ble_eq_true rfl)
    | succ sz ihs =>
      intro ys hl hy ⟨n, hn, hm⟩ d
      induction d with
      | zero =>
        intro k m1 g1 F1 L1 g2
        have g2 : none = dropC c v ys (sz + 1) 0 := g2
        have hres : minC c v 8 xs = ys := by
          rw [← hm]
          obtain ⟨n2, rfl⟩ : ∃ n2, n = n2 + 1 := ⟨n - 1, by omega⟩
          show (match dropC c v ys (ys.length - 1) 0 with
            | none => ys
            | some zs => minC c v n2 zs) = ys
          rw [hl, show sz + 1 + 1 - 1 = sz + 1 by omega, ← g2]
        have L8 := L1.2.1
        refine V.iload_n X dX12_minimize_45 rfl ?_
        refine V.aload_n X dX12_minimize_46 rfl ?_
        refine V.mgf  X K fX12_minimize_218 dX12_minimize_47 rfl L1.1 ?_
        refine V.iconst (v := nI 1) X dX12_minimize_50 (by decide) ?_
        refine V.isubN X dX12_minimize_51 (by omega) ?_
        refine V.icmp_ge 119 X dX12_minimize_52 (by decide) (fun c52 => ?_) (fun c52 => False.elim (by rw [nI_leI (by omega) (by omega)] at c52; omega))
        rw [nI_leI (by omega) (by omega)] at c52
        exact V.vret X Y9 dX12_minimize_119 ⟨rfl, m1, rfl, F1, by rw [hres]; exact L1⟩ (Nat.le_of_ble_eq_true rfl) (Nat.le_of_ble_eq_true rfl)
      | succ d ihd =>
        intro k m1 g1 F1 L1 g2
        have C1 : CmR (m1 1) c := hC.same ok (fun x _ => F1 1 x (fun z => by unfold mnP scP at z; omega))
        have L8 := L1.2.1
        have hv1 : m1 1 (718 + 11 * f + 10) = nI v := (F1 _ _ (fun z => by unfold mnP scP at z; omega)).trans hv
        have g2 : (if runE c (ys.eraseIdx k) c.1 v = true then some (ys.eraseIdx k) else dropC c v ys d (k + 1)) = dropC c v ys (sz + 1) 0 := g2
        refine V.iload_n X dX12_minimize_45 rfl ?_
        refine V.aload_n X dX12_minimize_46 rfl ?_
        refine V.mgf  X K fX12_minimize_218 dX12_minimize_47 rfl L1.1 ?_
        refine V.iconst (v := nI 1) X dX12_minimize_50 (by decide) ?_
        refine V.isubN X dX12_minimize_51 (by omega) ?_
        refine V.icmp_ge 119 X dX12_minimize_52 (by decide) (fun c52 => False.elim (by rw [nI_leI (by omega) (by omega)] at c52; omega)) (fun c52 => ?_)
        rw [nI_leI (by omega) (by omega)] at c52
        refine V.aload_n X dX12_minimize_55 rfl ?_
        refine V.iload_n X dX12_minimize_56 rfl ?_
        refine V.aload_n X dX12_minimize_57 rfl ?_
        refine V.iload_n X dX12_minimize_58 rfl ?_
        refine V.callVi (n := 1) X dX12_minimize_59 gX12_minimize_X12_verdictOf (c_X12_verdictOf _ _ K hf) rfl (by decide +kernel) rfl rfl rfl K.1 rfl rfl ⟨Nat.le_of_ble_eq_true rfl, Nat.le_of_ble_eq_true rfl⟩ (fun r59 h59 hp59 => ?_)
        obtain ⟨rfl, e9⟩ := hp59; obtain rfl := e9.symm
        rw [hv1]
        refine V.callVi (n := 2) X dX12_minimize_62 gX12_minimize_X12_failsWithout (c_X12_failsWithout _ _ K C1 ok L1 hy (by omega) v0 v9) rfl (by decide +kernel) rfl rfl rfl K.1 rfl rfl ⟨Nat.le_of_ble_eq_true rfl, Nat.le_of_ble_eq_true rfl⟩ (fun r62 h62 hp62 => ?_)
        obtain ⟨rfl, m2, rfl, G2⟩ := hp62
        have F2 : MFr mnP m m2 := F1.tr (G2.mono (fun _ _ z => Or.inl z))
        have L2 := L1.sc G2
        refine V.if_eq 113 X dX12_minimize_65 (by decide) (fun c65 => ?_) (fun c65 => ?_)
        · have c65 := bI_eq c65
          rw [if_neg (by rw [c65]; decide)] at g2
          refine V.iinc X dX12_minimize_113 [(0, _), (1, _), (2, _)] rfl (nI_1 _) rfl rfl rfl ?_
          refine V.goto 45 X dX12_minimize_116 (by decide) ?_
          exact ihd (k + 1) m2 (by omega) F2 L2 g2
        · have c65 := bI_ne c65
          rw [if_pos c65] at g2
          refine V.aload_n X dX12_minimize_68 rfl ?_
          refine V.dup X dX12_minimize_69 rfl ?_
          refine V.mgf  X K fX12_minimize_218 dX12_minimize_70 rfl L2.1 ?_
          refine V.iconst (v := nI 1) X dX12_minimize_73 (by decide) ?_
          refine V.isubN X dX12_minimize_74 (by omega) ?_
          refine V.mpf X K fX12_minimize_218 dX12_minimize_75 rfl rfl rfl ?_
          refine V.iload_n X dX12_minimize_78 rfl ?_
          refine V.istore_n X dX12_minimize_79 [(0, _), (1, _), (2, _), (3, _)] rfl rfl rfl ?_
          have hlz : (ys.eraseIdx k).length = sz + 1 := by rw [List.length_eraseIdx, if_pos (by omega)]; omega
          have e15 : mput m2 0 15 (nI (ys.length - 1)) 0 15 = nI (sz + 1) := by rw [mput_at, hl]; rfl
          have sh : ∀ (n3 a : Nat), k + a + n3 = sz + 1 → V Γ 0 0 80 [(0, .ref M), (1, .int (nI f)), (2, .int (nI k)), (3, .int (nI (k + a)))] [] (Hm h M (cpy (mput m2 0 15 (nI (ys.length - 1))) 8 8 k (k + 1) a)) := by
            intro n3
            induction n3 with
            | zero =>
              intro a g5
              have L3 : LeR (cpy (mput m2 0 15 (nI (ys.length - 1))) 8 8 k (k + 1) a) (ys.eraseIdx k) := by
                refine ⟨(cpy_o (by decide)).trans (by rw [hlz]; exact e15), by omega, fun j hj => ?_⟩
                rw [getD_er]
                by_cases hjk : j < k
                · rw [cpy_n (Or.inl hjk), if_pos hjk, mput_a (by decide)]
                  exact L2.2.2 j (by omega)
                · rw [cpy_i (by omega) (by omega), if_neg hjk, mput_a (by decide), show j - k + (k + 1) = j + 1 by omega]
                  exact L2.2.2 (j + 1) (by omega)
              have F3 : MFr mnP m (cpy (mput m2 0 15 (nI (ys.length - 1))) 8 8 k (k + 1) a) := (F2.put (Or.inr (Or.inl ⟨rfl, rfl⟩))).tr (fun x y z => if_neg (fun z2 => z (Or.inr (Or.inr z2.1))))
              have hyz : ∀ x ∈ ys.eraseIdx k, x < c.2.2.length := fun x hx2 => hy x (List.mem_of_mem_eraseIdx hx2)
              have hmz : ∃ n, (ys.eraseIdx k).length ≤ n ∧ minC c v n (ys.eraseIdx k) = minC c v 8 xs := by
                obtain ⟨n2, rfl⟩ : ∃ n2, n = n2 + 1 := ⟨n - 1, by omega⟩
                refine ⟨n2, by omega, ?_⟩
                rw [← hm]
                show _ = (match dropC c v ys (ys.length - 1) 0 with
                  | none => ys
                  | some zs => minC c v n2 zs)
                rw [hl, show sz + 1 + 1 - 1 = sz + 1 by omega, ← g2]
              refine V.iload_n X dX12_minimize_80 rfl ?_
              refine V.aload_n X dX12_minimize_81 rfl ?_
              refine V.mgf  X K fX12_minimize_218 dX12_minimize_82 rfl ((cpy_o (by decide)).trans e15) ?_
              refine V.icmp_ge 108 X dX12_minimize_85 (by decide) (fun c85 => ?_) (fun c85 => False.elim (by rw [nI_leI (by omega) (by omega)] at c85; omega))
              rw [nI_leI (by omega) (by omega)] at c85
              refine V.iconst (v := nI 0) X dX12_minimize_108 (by decide) ?_
              refine V.istore_n X dX12_minimize_109 [(0, _), (1, _), (2, _), (3, _)] rfl rfl rfl ?_
              refine V.goto 45 X dX12_minimize_110 (by decide) ?_
              refine V.drop [(0, _), (1, _), (2, _)] [0, 1, 2] rfl ?_
              exact ihs (ys.eraseIdx k) hlz hyz hmz sz 0 _ (Nat.zero_add _) F3 L3 rfl
            | succ n3 ih3 =>
              intro a g5
              refine V.iload_n X dX12_minimize_80 rfl ?_
              refine V.aload_n X dX12_minimize_81 rfl ?_
              refine V.mgf  X K fX12_minimize_218 dX12_minimize_82 rfl ((cpy_o (by decide)).trans e15) ?_
              refine V.icmp_ge 108 X dX12_minimize_85 (by decide) (fun c85 => False.elim (by rw [nI_leI (by omega) (by omega)] at c85; omega)) (fun c85 => ?_)
              rw [nI_leI (by omega) (by omega)] at c85
              refine V.aload_n X dX12_minimize_88 rfl ?_
              refine V.mgr (k := 14) (a := 8) X K fX12_minimize_31 dX12_minimize_89 (by decide) ?_
              refine V.iload_n X dX12_minimize_92 rfl ?_
              refine V.aload_n X dX12_minimize_93 rfl ?_
              refine V.mgr (k := 14) (a := 8) X K fX12_minimize_31 dX12_minimize_94 (by decide) ?_
              refine V.iload_n X dX12_minimize_97 rfl ?_
              refine V.iconst (v := nI 1) X dX12_minimize_98 (by decide) ?_
              refine V.iaddN X dX12_minimize_99 ?_
              refine V.mld  X K 8 9  dX12_minimize_100 rfl rfl (by omega) rfl ?_
              refine V.mst X K 8 9  dX12_minimize_101 rfl rfl (by omega) ?_
              rw [cpy_q (by omega) (cpy_r (by omega) (by omega))]
              refine V.iinc  X dX12_minimize_102 [(0, _), (1, _), (2, _), (3, _)] rfl (nI_1 _) rfl rfl rfl ?_
              refine V.goto 80 X dX12_minimize_105 (by decide) ?_
              exact ih3 (a + 1) (by omega)
          have l9 := sh (sz + 1 - k) 0 (by omega)
          rw [cpy_0] at l9
          exact l9
  have cp : ∀ (n k : Nat), k + n = xs.length → V Γ 0 0 14 [(0, .ref M), (1, .int (nI f)), (2, .int (nI k))] [] (Hm h M (cpy (mput m 0 15 (nI xs.length)) 8 1 0 (718 + 11 * f + 1) k)) := by
    intro n
    induction n with
    | zero =>
      intro k g1
      obtain rfl : k = xs.length := by omega
      have L1 : LeR (cpy (mput m 0 15 (nI xs.length)) 8 1 0 (718 + 11 * f + 1) xs.length) xs := ⟨(cpy_o (by decide)).trans mput_at, h8, fun j hj => by
        rw [cpy_i (by omega) (by omega), mput_a (by decide), ← hS.2.2 j hj]
        exact congrArg (m 1) (by omega)⟩
      have F1 : MFr mnP m (cpy (mput m 0 15 (nI xs.length)) 8 1 0 (718 + 11 * f + 1) xs.length) := (MFr.rf.put (Or.inr (Or.inl ⟨rfl, rfl⟩))).tr (fun x y z => if_neg (fun z2 => z (Or.inr (Or.inr z2.1))))
      refine V.iload_n X dX12_minimize_14 rfl ?_
      refine V.aload_n X dX12_minimize_15 rfl ?_
      refine V.mgf  X K fX12_minimize_218 dX12_minimize_16 rfl L1.1 ?_
      refine V.icmp_ge 43 X dX12_minimize_19 (by decide) (fun c19 => ?_) (fun c19 => False.elim (by rw [nI_leI (by omega) (by omega)] at c19; omega))
      rw [nI_leI (by omega) (by omega)] at c19
      refine V.iconst (v := nI 0) X dX12_minimize_43 (by decide) ?_
      refine V.istore_n X dX12_minimize_44 [(0, _), (1, _), (2, _)] rfl rfl rfl ?_
      exact main (xs.length - 1) xs (by omega) hx ⟨8, h8, rfl⟩ (xs.length - 1) 0 _ (Nat.zero_add _) F1 L1 rfl
    | succ n ih =>
      intro k g1
      refine V.iload_n X dX12_minimize_14 rfl ?_
      refine V.aload_n X dX12_minimize_15 rfl ?_
      refine V.mgf (x := nI xs.length) X K fX12_minimize_218 dX12_minimize_16 rfl ((cpy_o (by decide)).trans mput_at) ?_
      refine V.icmp_ge 43 X dX12_minimize_19 (by decide) (fun c19 => False.elim (by rw [nI_leI (by omega) (by omega)] at c19; omega)) (fun c19 => ?_)
      rw [nI_leI (by omega) (by omega)] at c19
      refine V.aload_n X dX12_minimize_22 rfl ?_
      refine V.mgr (k := 14) (a := 8) X K fX12_minimize_31 dX12_minimize_23 (by decide) ?_
      refine V.iload_n X dX12_minimize_26 rfl ?_
      refine V.aload_n X dX12_minimize_27 rfl ?_
      refine V.sipush (v := nI 718) X dX12_minimize_28 (by decide) ?_
      refine V.iload_n X dX12_minimize_31 rfl ?_
      refine V.iload_n X dX12_minimize_32 rfl ?_
      refine V.callVi (n := 3) X dX12_minimize_33 gX12_minimize_X12_callOf (c_X12_callOf _ _ K (by omega)) rfl (by decide +kernel) rfl rfl rfl K.1 rfl rfl ⟨Nat.le_of_ble_eq_true rfl, Nat.le_of_ble_eq_true rfl⟩ (fun r33 h33 hp33 => ?_)
      obtain ⟨rfl, e9⟩ := hp33; obtain rfl := e9.symm
      refine V.mst X K 8 9  dX12_minimize_36 rfl rfl (by omega) ?_
      rw [cpy_q (by omega) (cpy_r (by omega) (by omega))]
      refine V.iinc  X dX12_minimize_37 [(0, _), (1, _), (2, _)] rfl (nI_1 _) rfl rfl rfl ?_
      refine V.goto 14 X dX12_minimize_40 (by decide) ?_
      exact ih (k + 1) (by omega)
  refine V.aload_n X dX12_minimize_0 rfl ?_
  refine V.aload_n X dX12_minimize_1 rfl ?_
  refine V.sipush (v := nI 718) X dX12_minimize_2 (by decide) ?_
  refine V.iload_n X dX12_minimize_5 rfl ?_
  refine V.callVi (n := 2) X dX12_minimize_6 gX12_minimize_X12_lengthOf (c_X12_lengthOf _ _ K (by omega)) rfl (by decide +kernel) rfl rfl rfl K.1 rfl rfl ⟨Nat.le_of_ble_eq_true rfl, Nat.le_of_ble_eq_true rfl⟩ (fun r6 h6 hp6 => ?_)
  obtain ⟨rfl, e9⟩ := hp6; obtain rfl := e9.symm
  rw [hS.1]
  refine V.mpf X K fX12_minimize_218 dX12_minimize_9 rfl rfl rfl ?_
  refine V.iconst (v := nI 0) X dX12_minimize_12 (by decide) ?_
  refine V.istore_n X dX12_minimize_13 [(0, _), (1, _), (2, _)] rfl rfl rfl ?_
  have l9 := cp xs.length 0 (Nat.zero_add _)
  rw [cpy_0] at l9
  exact l9
theorem MSt.mn {m m2 : Md} {t : List Nat} {c : Cmp} {r : Xr} {k : Nat} {ps : Nat → Cmp × Xr} (q : MSt m t c r k ps) (f : MFr mnP m m2) : MSt m2 t c r k ps :=
  q.keep (fun x => f _ _ (fun z => by unfold mnP scP at z; omega)) (f _ _ (fun z => by unfold mnP scP at z; omega)) (fun x => f _ _ (fun z => by unfold mnP scP at z; omega)) (q.1.fr f (fun z => by unfold mnP scP at z; omega) (fun k z => by unfold mnP scP at z; omega))
theorem fX12_minimizedLength_218 : FL wsX12_minimizedLength RX12 218 14 15 .int false := ⟨_, rfl, by decide, Or.inl ⟨"ContractTesterModel", by decide +kernel, Or.inl rfl⟩, by decide +kernel, by decide +kernel, rfl⟩
set_option maxHeartbeats 4000000 in
set_option maxRecDepth 100000 in
theorem c_X12_minimizedLength (l : Launch) (G : GG) {h : Hp} {M : Nat} {m : Md} (K : MdK h M) {t : List Nat} {c : Cmp} {r : Xr} {k : Nat} {ps : Nat → Cmp × Xr} (hS : MSt m t c r k ps) {x : Int32} : Con l G yX12_minimizedLength wsX12_minimizedLength 6 139 0 0 [.ref M, .int x] (Hm h M m) (pI (fun y h2 => y = atI x (xfl r) (fun j => nI (minC c (xvd r j) 8 (xfs r j)).length) (-1) ∧ ∃ m2, h2 = Hm h M m2 ∧ MSt m2 t c r k ps)) := by
  refine Con.of (cc := cX12_minimizedLength) (nL := 2) (ret := (some .int)) (by decide) rfl rfl rfl rfl (fun Γ hG hl X Y9 => ?_)
  subst hG
  subst hl
  obtain ⟨hT, hC, hX, ok, hp, hp6, hP⟩ := id hS
  obtain ⟨⟨⟨x1, x2⟩, ⟨x3, x4⟩, x5, x6, x7⟩, ok2, x8, x9⟩ := id ok
  have ok21 := ok2.2.1
  refine V.aload_n X dX12_minimizedLength_0 rfl ?_
  refine V.iload_n X dX12_minimizedLength_1 rfl ?_
  refine V.callVi (n := 1) X dX12_minimizedLength_2 gX12_minimizedLength_X12_isFailure (c_X12_isFailure _ _ K hX.1.2.2.2.2.2 (by omega)) rfl (by decide +kernel) rfl rfl rfl K.1 rfl rfl ⟨Nat.le_of_ble_eq_true rfl, Nat.le_of_ble_eq_true rfl⟩ (fun r2 h2 hp2 => ?_)
  obtain ⟨rfl, e9⟩ := hp2; obtain rfl := e9.symm
  refine V.if_ne 10 X dX12_minimizedLength_5 (by decide) (fun c5 => ?_) (fun c5 => ?_)
  · have c5 := bI_ne c5
    obtain ⟨j, hj, rfl⟩ := ix_of c5 (show xfl r < 2 ^ 31 by omega)
    have e8 : atI (nI j) (xfl r) (fun j => nI (minC c (xvd r j) 8 (xfs r j)).length) (-1) = (fun j => nI (minC c (xvd r j) 8 (xfs r j)).length) j := atI_yes hj (show xfl r < 2 ^ 31 by omega)
    refine V.aload_n X dX12_minimizedLength_10 rfl ?_
    refine V.iload_n X dX12_minimizedLength_11 rfl ?_
    refine V.callVv (n := 1) X dX12_minimizedLength_12 gX12_minimizedLength_X12_minimize (c_X12_minimize _ _ K hC ok2 (by omega) (hX.2.2.1 j hj).1 (hX.2.2.1 j hj).2 (x9 j hj).2.1 (x9 j hj).1.1 (x9 j hj).1.2 (by have := (x9 j hj).2.2; omega) (by have := (x9 j hj).2.2; omega)) rfl (by decide +kernel) rfl rfl rfl K.1 rfl rfl ⟨Nat.le_of_ble_eq_true rfl, Nat.le_of_ble_eq_true rfl⟩ (fun h12 hp12 => ?_)
    obtain ⟨m2, rfl, G2, L2⟩ := hp12
    have L8 := L2.2.1
    refine V.aload_n X dX12_minimizedLength_15 rfl ?_
    refine V.mgf  X K fX12_minimizedLength_218 dX12_minimizedLength_16 rfl L2.1 ?_
    exact V.iret X Y9 dX12_minimizedLength_19 ⟨e8.symm, m2, rfl, hS.mn G2⟩ (Nat.le_of_ble_eq_true rfl) (Nat.le_of_ble_eq_true rfl)
  · have c5 := bI_eq c5
    have e8 : (-1 : Int32) = atI x (xfl r) (fun j => nI (minC c (xvd r j) 8 (xfs r j)).length) (-1) := (atI_no c5).symm
    refine V.iconst (v := -1) X dX12_minimizedLength_8 (by decide) ?_
    exact V.iret X Y9 dX12_minimizedLength_9 ⟨e8, m, rfl, hS⟩ (Nat.le_of_ble_eq_true rfl) (Nat.le_of_ble_eq_true rfl)
theorem fX12_minimizedCall_218 : FL wsX12_minimizedCall RX12 218 14 15 .int false := ⟨_, rfl, by decide, Or.inl ⟨"ContractTesterModel", by decide +kernel, Or.inl rfl⟩, by decide +kernel, by decide +kernel, rfl⟩
theorem fX12_minimizedCall_31 : FL wsX12_minimizedCall RX12 31 14 14 (.array .int) true := ⟨_, rfl, by decide, Or.inl ⟨"ContractTesterModel", by decide +kernel, Or.inl rfl⟩, by decide +kernel, by decide +kernel, rfl⟩
set_option maxHeartbeats 4000000 in
set_option maxRecDepth 100000 in
theorem c_X12_minimizedCall (l : Launch) (G : GG) {h : Hp} {M : Nat} {m : Md} (K : MdK h M) {t : List Nat} {c : Cmp} {r : Xr} {k : Nat} {ps : Nat → Cmp × Xr} (hS : MSt m t c r k ps) {x z : Int32} : Con l G yX12_minimizedCall wsX12_minimizedCall 6 139 0 0 [.ref M, .int x, .int z] (Hm h M m) (pI (fun y h2 => y = (if z < 0 then -1 else atI x (xfl r) (fun j => sqV (minC c (xvd r j) 8 (xfs r j)) z) (-1)) ∧ ∃ m2, h2 = Hm h M m2 ∧ MSt m2 t c r k ps)) := by
  refine Con.of (cc := cX12_minimizedCall) (nL := 3) (ret := (some .int)) (by decide) rfl rfl rfl rfl (fun Γ hG hl X Y9 => ?_)
  subst hG
  subst hl
  obtain ⟨hT, hC, hX, ok, hp, hp6, hP⟩ := id hS
  obtain ⟨⟨⟨x1, x2⟩, ⟨x3, x4⟩, x5, x6, x7⟩, ok2, x8, x9⟩ := id ok
  have ok21 := ok2.2.1
  refine V.aload_n X dX12_minimizedCall_0 rfl ?_
  refine V.iload_n X dX12_minimizedCall_1 rfl ?_
  refine V.callVi (n := 1) X dX12_minimizedCall_2 gX12_minimizedCall_X12_isFailure (c_X12_isFailure _ _ K hX.1.2.2.2.2.2 (by omega)) rfl (by decide +kernel) rfl rfl rfl K.1 rfl rfl ⟨Nat.le_of_ble_eq_true rfl, Nat.le_of_ble_eq_true rfl⟩ (fun r2 h2 hp2 => ?_)
  obtain ⟨rfl, e9⟩ := hp2; obtain rfl := e9.symm
  refine V.if_eq 12 X dX12_minimizedCall_5 (by decide) (fun c5 => ?_) (fun c5 => ?_)
  · have c5 := bI_eq c5
    have e8 : (-1 : Int32) = (if z < 0 then -1 else atI x (xfl r) (fun j => sqV (minC c (xvd r j) 8 (xfs r j)) z) (-1)) := by
      by_cases hz : z < 0
      · rw [if_pos hz]
      · rw [if_neg hz]; exact (atI_no c5).symm
    refine V.iconst (v := -1) X dX12_minimizedCall_12 (by decide) ?_
    exact V.iret X Y9 dX12_minimizedCall_13 ⟨e8, m, rfl, hS⟩ (Nat.le_of_ble_eq_true rfl) (Nat.le_of_ble_eq_true rfl)
  · have c5 := bI_ne c5
    obtain ⟨j, hj, rfl⟩ := ix_of c5 (show xfl r < 2 ^ 31 by omega)
    have e8 : atI (nI j) (xfl r) (fun j => sqV (minC c (xvd r j) 8 (xfs r j)) z) (-1) = (fun j => sqV (minC c (xvd r j) 8 (xfs r j)) z) j := atI_yes hj (show xfl r < 2 ^ 31 by omega)
    refine V.iload_n X dX12_minimizedCall_8 rfl ?_
    refine V.if_ge 14 X dX12_minimizedCall_9 (by decide) (fun c9 => ?_) (fun c9 => ?_)
    · have hz : ¬ z < 0 := i32_nlt c9
      obtain ⟨a, ha, rfl⟩ := nI_of hz
      have e7 : (if nI a < 0 then -1 else atI (nI j) (xfl r) (fun j => sqV (minC c (xvd r j) 8 (xfs r j)) (nI a)) (-1)) = sqV (minC c (xvd r j) 8 (xfs r j)) (nI a) := (if_neg hz).trans e8
      refine V.aload_n X dX12_minimizedCall_14 rfl ?_
      refine V.iload_n X dX12_minimizedCall_15 rfl ?_
      refine V.callVv (n := 1) X dX12_minimizedCall_16 gX12_minimizedCall_X12_minimize (c_X12_minimize _ _ K hC ok2 (by omega) (hX.2.2.1 j hj).1 (hX.2.2.1 j hj).2 (x9 j hj).2.1 (x9 j hj).1.1 (x9 j hj).1.2 (by have := (x9 j hj).2.2; omega) (by have := (x9 j hj).2.2; omega)) rfl (by decide +kernel) rfl rfl rfl K.1 rfl rfl ⟨Nat.le_of_ble_eq_true rfl, Nat.le_of_ble_eq_true rfl⟩ (fun h16 hp16 => ?_)
      obtain ⟨m2, rfl, G2, L2⟩ := hp16
      have L8 := L2.2.1
      refine V.iload_n X dX12_minimizedCall_19 rfl ?_
      refine V.aload_n X dX12_minimizedCall_20 rfl ?_
      refine V.mgf  X K fX12_minimizedCall_218 dX12_minimizedCall_21 rfl L2.1 ?_
      refine V.icmp_ge 36 X dX12_minimizedCall_24 (by decide) (fun c24 => ?_) (fun c24 => ?_)
      · rw [nI_leI (by omega) (by omega)] at c24
        have e6 : (-1000 : Int32) = sqV (minC c (xvd r j) 8 (xfs r j)) (nI a) := by
          unfold sqV
          rw [isIx_nI ha, decide_eq_false (by omega)]
          rfl
        refine V.sipush (v := -1000) X dX12_minimizedCall_36 (by decide) ?_
        exact V.iret X Y9 dX12_minimizedCall_39 ⟨e6.trans e7.symm, m2, rfl, hS.mn G2⟩ (Nat.le_of_ble_eq_true rfl) (Nat.le_of_ble_eq_true rfl)
      · rw [nI_leI (by omega) (by omega)] at c24
        have e6 : nI ((minC c (xvd r j) 8 (xfs r j)).getD a 0) = sqV (minC c (xvd r j) 8 (xfs r j)) (nI a) := by
          unfold sqV
          rw [isIx_nI ha, decide_eq_true (by omega), if_pos rfl, nI_clamp ha]
        refine V.aload_n X dX12_minimizedCall_27 rfl ?_
        refine V.mgr (k := 14) (a := 8) X K fX12_minimizedCall_31 dX12_minimizedCall_28 (by decide) ?_
        refine V.iload_n X dX12_minimizedCall_31 rfl ?_
        refine V.mld  X K 8 9  dX12_minimizedCall_32 rfl rfl (by omega) (L2.2.2 a (by omega)) ?_
        refine V.goto 39 X dX12_minimizedCall_33 (by decide) ?_
        exact V.iret X Y9 dX12_minimizedCall_39 ⟨e6.trans e7.symm, m2, rfl, hS.mn G2⟩ (Nat.le_of_ble_eq_true rfl) (Nat.le_of_ble_eq_true rfl)
    · have hz : z < 0 := i32_nle c9
      have e7 : (-1 : Int32) = (if z < 0 then -1 else atI (nI j) (xfl r) (fun j => sqV (minC c (xvd r j) 8 (xfs r j)) z) (-1)) := (if_pos hz).symm
      refine V.iconst (v := -1) X dX12_minimizedCall_12 (by decide) ?_
      exact V.iret X Y9 dX12_minimizedCall_13 ⟨e7, m, rfl, hS⟩ (Nat.le_of_ble_eq_true rfl) (Nat.le_of_ble_eq_true rfl)
