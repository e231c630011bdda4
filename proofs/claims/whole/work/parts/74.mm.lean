theorem XmR.num {f g : Nat → Int32} {r : Xr} (h : XmR f r) (hp : xpc r ≤ 40) (hf : xfl r ≤ 20) {n : Nat × Nat × Nat × Nat × Nat × Nat} (n1 : n.2.1 = xpc r) (n2 : n.2.2.1 = xfl r) (e : ∀ k, 276 ≤ k → k < 1178 → g k = f k) (a0 : g 272 = nI n.1) (a1 : g 273 = nI n.2.2.2.1) (a2 : g 274 = nI n.2.2.2.2.1) (a3 : g 275 = nI n.2.2.2.2.2) : XmR g (n, r.2) := by
  obtain ⟨⟨a, b, c, d, d2, d3⟩, s, t, u⟩ := h
  refine ⟨⟨a0, a1, a2, a3, ?_, ?_⟩, fun i hi => ?_, fun j hj => ?_, fun i k hi hk => ?_⟩
  · show g 276 = nI n.2.1
    rw [n1, e _ (by omega) (by omega)]; exact d2
  · show g 277 = nI n.2.2.1
    rw [n2, e _ (by omega) (by omega)]; exact d3
  · have hi : i < n.2.1 := hi
    exact (s i (by omega)).same (fun k h1 h2 => e k (by omega) (by omega))
  · have hj : j < n.2.2.1 := hj
    exact ⟨(t j (by omega)).1.same (fun k h1 h2 => e k (by omega) (by omega)), (e _ (by omega) (by omega)).trans (t j (by omega)).2⟩
  · show g _ = if i < n.2.1 ∧ k < xpr r i then nI 1 else nI 0
    rw [n1, e _ (by omega) (by omega)]
    exact u i k hi hk
theorem XmR.st {f g : Nat → Int32} {c : Cmp} {r : Xr} {i : Nat} (h : XmR f r) (hp : xpc r ≤ 40) (hf : xfl r ≤ 20) (hi : i < xpc r) (hk : xpr r i < 6) (e : ∀ k, 272 ≤ k → k < 1178 → ¬ k = 938 + 6 * i + xpr r i → g k = f k) (e1 : g (938 + 6 * i + xpr r i) = nI 1) : XmR g (stpA c r i) := by
  obtain ⟨⟨a, b, c1, d, d2, d3⟩, s, t, u⟩ := h
  refine ⟨⟨(e _ (by omega) (by omega) (by omega)).trans a, (e _ (by omega) (by omega) (by omega)).trans b, (e _ (by omega) (by omega) (by omega)).trans c1, (e _ (by omega) (by omega) (by omega)).trans d, (e _ (by omega) (by omega) (by omega)).trans d2, (e _ (by omega) (by omega) (by omega)).trans d3⟩, fun j hj => ?_, fun j hj => ?_, fun j k hj hk2 => ?_⟩
  · have hj : j < xpc r := hj
    exact (s j hj).same (fun k h1 h2 => e k (by omega) (by omega) (by omega))
  · have hj : j < xfl r := hj
    exact ⟨(t j hj).1.same (fun k h1 h2 => e k (by omega) (by omega) (by omega)), (e _ (by omega) (by omega) (by omega)).trans (t j hj).2⟩
  · show g _ = if j < xpc r ∧ k < fup (xpr r) i (xpr r i + 1) j then nI 1 else nI 0
    by_cases hji : j = i
    · subst hji
      rw [fup_at]
      by_cases hkk : k = xpr r j
      · rw [hkk, e1, if_pos ⟨hi, by omega⟩]
      · rw [e _ (by omega) (by omega) (by omega), u j k hj hk2]
        by_cases hlt : k < xpr r j
        · rw [if_pos ⟨hi, hlt⟩, if_pos ⟨hi, by omega⟩]
        · rw [if_neg (fun z => hlt z.2), if_neg (by omega)]
    · rw [fup_ne hji, e _ (by omega) (by omega) (by omega)]
      exact u j k hj hk2
theorem XmR.addP {f g : Nat → Int32} {r : Xr} {xs : List Nat} {m : Nat} {t : St} (h : XmR f r) (hp : xpc r < 40) (hf : xfl r ≤ 20) (hS : SqM g 278 (xpc r) (xs ++ [m])) (e : ∀ k, 272 ≤ k → k < 1178 → ¬ k = 276 → (k < 278 + 11 * xpc r ∨ 278 + 11 * xpc r + 11 ≤ k) → g k = f k) (e1 : g 276 = nI (xpc r + 1)) : XmR g ((xmx r, xpc r + 1, xfl r, xsk r, xrd r, xdr r), fup (xsq r) (xpc r) (xs ++ [m]), fup (xss r) (xpc r) t, fup (xpr r) (xpc r) 0, xfs r, xvd r) := by
  obtain ⟨⟨a, b, c1, d, d2, d3⟩, s, tt, u⟩ := h
  refine ⟨⟨(e _ (by omega) (by omega) (by omega) (by omega)).trans a, (e _ (by omega) (by omega) (by omega) (by omega)).trans b, (e _ (by omega) (by omega) (by omega) (by omega)).trans c1, (e _ (by omega) (by omega) (by omega) (by omega)).trans d, e1, (e _ (by omega) (by omega) (by omega) (by omega)).trans d3⟩, fun j hj => ?_, fun j hj => ?_, fun j k hj hk2 => ?_⟩
  · have hj : j < xpc r + 1 := hj
    show SqM g 278 j (fup (xsq r) (xpc r) (xs ++ [m]) j)
    by_cases hji : j = xpc r
    · rw [hji, fup_at]; exact hS
    · rw [fup_ne hji]
      exact (s j (by omega)).same (fun k h1 h2 => e k (by omega) (by omega) (by omega) (by omega))
  · have hj : j < xfl r := hj
    exact ⟨(tt j hj).1.same (fun k h1 h2 => e k (by omega) (by omega) (by omega) (by omega)), (e _ (by omega) (by omega) (by omega) (by omega)).trans (tt j hj).2⟩
  · show g _ = if j < xpc r + 1 ∧ k < fup (xpr r) (xpc r) 0 j then nI 1 else nI 0
    rw [e _ (by omega) (by omega) (by omega) (by omega), u j k hj hk2]
    by_cases hji : j = xpc r
    · rw [hji, fup_at, if_neg (by omega), if_neg (by omega)]
    · rw [fup_ne hji]
      by_cases hlt : j < xpc r ∧ k < xpr r j
      · rw [if_pos hlt, if_pos ⟨by omega, hlt.2⟩]
      · rw [if_neg hlt, if_neg (by omega)]
theorem XmR.addV {f g : Nat → Int32} {r : Xr} {xs : List Nat} {m v : Nat} (h : XmR f r) (hp : xpc r ≤ 40) (hf : xfl r < 20) (hS : SqM g 718 (xfl r) (xs ++ [m])) (hv : g (718 + 11 * xfl r + 10) = nI v) (e : ∀ k, 272 ≤ k → k < 1178 → ¬ k = 277 → (k < 718 + 11 * xfl r ∨ 718 + 11 * xfl r + 11 ≤ k) → g k = f k) (e1 : g 277 = nI (xfl r + 1)) : XmR g ((xmx r, xpc r, xfl r + 1, xsk r, xrd r, xdr r), xsq r, xss r, xpr r, fup (xfs r) (xfl r) (xs ++ [m]), fup (xvd r) (xfl r) v) := by
  obtain ⟨⟨a, b, c1, d, d2, d3⟩, s, tt, u⟩ := h
  refine ⟨⟨(e _ (by omega) (by omega) (by omega) (by omega)).trans a, (e _ (by omega) (by omega) (by omega) (by omega)).trans b, (e _ (by omega) (by omega) (by omega) (by omega)).trans c1, (e _ (by omega) (by omega) (by omega) (by omega)).trans d, (e _ (by omega) (by omega) (by omega) (by omega)).trans d2, e1⟩, fun j hj => ?_, fun j hj => ?_, fun j k hj hk2 => ?_⟩
  · have hj : j < xpc r := hj
    exact (s j hj).same (fun k h1 h2 => e k (by omega) (by omega) (by omega) (by omega))
  · have hj : j < xfl r + 1 := hj
    show SqM g 718 j (fup (xfs r) (xfl r) (xs ++ [m]) j) ∧ g _ = nI (fup (xvd r) (xfl r) v j)
    by_cases hji : j = xfl r
    · rw [hji, fup_at, fup_at]; exact ⟨hS, hv⟩
    · rw [fup_ne hji, fup_ne hji]
      exact ⟨(tt j (by omega)).1.same (fun k h1 h2 => e k (by omega) (by omega) (by omega) (by omega)), (e _ (by omega) (by omega) (by omega) (by omega)).trans (tt j (by omega)).2⟩
  · show g _ = if j < xpc r ∧ k < xpr r j then nI 1 else nI 0
    rw [e _ (by omega) (by omega) (by omega) (by omega)]
    exact u j k hj hk2
theorem exS_snoc {c : Cmp} {x : Nat} : ∀ (xs : List Nat) (s s1 : St), exS c xs s = some s1 → verd c x s1 = 0 → exS c (xs ++ [x]) s = some (nxt c x s1) := by
  intro xs
  induction xs with
  | nil =>
    intro s s1 h hv
    cases h
    show (if verd c x s = 0 then some (nxt c x s) else none) = _
    rw [if_pos hv]
  | cons y xs ih =>
    intro s s1 h hv
    have h : (if verd c y s = 0 then exS c xs (nxt c y s) else none) = some s1 := h
    show (if verd c y s = 0 then exS c (xs ++ [x]) (nxt c y s) else none) = _
    split at h
    · next hy => rw [if_pos hy]; exact ih _ _ h hv
    · cases h
theorem xmOk.stA {c : Cmp} {r : Xr} {i : Nat} (q : xmOk c r) (ho : 0 < opn c r i) : xmOk c (stpA c r i) := ⟨q.1.st_A ho, q.2.1, q.2.2.1, q.2.2.2⟩
theorem xmOk.st {c : Cmp} {r : Xr} {i : Nat} (q : xmOk c r) (ho : 0 < opn c r i) : xmOk c (stp c r i) := by
  have hp := opn_pos ho
  have hk : xpr r i < c.2.2.length := by
    unfold opn at ho
    split at ho <;> omega
  have hx : (xsq r i).length < xmx r := by
    unfold opn at ho
    split at ho
    · next z => exact z.2
    · omega
  have hi : i < xpc r := by
    unfold opn at ho
    split at ho
    · next z => exact z.1
    · omega
  have h8 := q.1.1.2
  refine ⟨q.1.st_p ho, q.2.1, ?_, ?_⟩
  · have q8 := q.2.2.1
    obtain ⟨l8, e8, m8⟩ := q8 i hi
    unfold stp
    split
    · exact q8
    · split
      · next h0 =>
        unfold addR
        split
        · exact q8
        · split
          · intro j hj
            have hj : j < xpc r + 1 := hj
            show (fup (xsq r) (xpc r) (xsq r i ++ [xpr r i]) j).length ≤ 8 ∧ exS c (fup (xsq r) (xpc r) (xsq r i ++ [xpr r i]) j) c.1 = some (fup (xss r) (xpc r) (nxt c (xpr r i) (xss r i)) j) ∧ ∀ x ∈ fup (xsq r) (xpc r) (xsq r i ++ [xpr r i]) j, x < c.2.2.length
            by_cases hji : j = xpc r
            · rw [hji, fup_at, fup_at]
              exact ⟨by simp; omega, exS_snoc _ _ _ e8 h0, fun x hx => (List.mem_append.mp hx).elim (m8 x) (fun z => by rw [List.mem_singleton.mp z]; exact hk)⟩
            · rw [fup_ne hji, fup_ne hji]
              exact q8 j (by omega)
          · exact q8
      · unfold addF
        split
        · exact q8
        · exact q8
  · have q9 := q.2.2.2
    obtain ⟨l8, e8, m8⟩ := q.2.2.1 i hi
    unfold stp
    split
    · exact q9
    · next h1 =>
      split
      · unfold addR
        split
        · exact q9
        · split
          · exact q9
          · exact q9
      · next h0 =>
        have hv : verd c (xpr r i) (xss r i) ≤ 4 := verd_le
        unfold addF
        split
        · intro j hj
          have hj : j < xfl r + 1 := hj
          show (0 < (fup (xfs r) (xfl r) (xsq r i ++ [xpr r i]) j).length ∧ (fup (xfs r) (xfl r) (xsq r i ++ [xpr r i]) j).length ≤ 8) ∧ (∀ x ∈ fup (xfs r) (xfl r) (xsq r i ++ [xpr r i]) j, x < c.2.2.length) ∧ 2 ≤ fup (xvd r) (xfl r) (verd c (xpr r i) (xss r i)) j ∧ fup (xvd r) (xfl r) (verd c (xpr r i) (xss r i)) j ≤ 4
          by_cases hji : j = xfl r
          · rw [hji, fup_at, fup_at]
            exact ⟨⟨by simp, by simp; omega⟩, fun x hx => (List.mem_append.mp hx).elim (m8 x) (fun z => by rw [List.mem_singleton.mp z]; exact hk), by omega, hv⟩
          · rw [fup_ne hji, fup_ne hji]
            exact q9 j (by omega)
        · exact q9
def kpP : Nat → Nat → Prop := fun a k => (a = 1 ∧ 272 ≤ k) ∨ ((a = 5 ∨ a = 6 ∨ a = 7) ∧ k < 3)
theorem scP_kp {a k : Nat} (h : scP a k) : kpP a k := Or.inr ⟨by have := h.1; omega, h.2⟩
theorem CmR.kp {m m2 : Md} {c : Cmp} (h : CmR (m 1) c) (o : cmOk c) (f : MFr kpP m m2) : CmR (m2 1) c := h.same o (fun k hk => f 1 k (fun z => by unfold kpP at z; omega))
theorem XmR.sc {m m2 : Md} {r : Xr} (h : XmR (m 1) r) (hp : xpc r ≤ 40) (hf : xfl r ≤ 20) (f : MFr scP m m2) : XmR (m2 1) r := h.same hp hf (fun k _ _ => f 1 k (scP1 k))
theorem fX12_keeps_7 : FL wsX12_keeps RX12 7 14 0 (.array .int) true := ⟨_, rfl, by decide, Or.inl ⟨"ContractTesterModel", by decide +kernel, Or.inl rfl⟩, by decide +kernel, by decide +kernel, rfl⟩
theorem fX12_keeps_28 : FL wsX12_keeps RX12 28 14 13 (.array .int) true := ⟨_, rfl, by decide, Or.inl ⟨"ContractTesterModel", by decide +kernel, Or.inl rfl⟩, by decide +kernel, by decide +kernel, rfl⟩
theorem fX12_keeps_22 : FL wsX12_keeps RX12 22 14 11 (.array .int) true := ⟨_, rfl, by decide, Or.inl ⟨"ContractTesterModel", by decide +kernel, Or.inl rfl⟩, by decide +kernel, by decide +kernel, rfl⟩
set_option maxHeartbeats 4000000 in
set_option maxRecDepth 100000 in
theorem c_X12_keeps (l : Launch) (G : GG) {h : Hp} {M : Nat} {m : Md} (K : MdK h M) {c : Cmp} {r : Xr} (hC : CmR (m 1) c) (hX : XmR (m 1) r) (ok : xmOk c r) {i k : Nat} {t : St} (hi : i < xpc r) (hl : (xsq r i).length < 8) (ht : stM m 5 = t) : Con l G yX12_keeps wsX12_keeps 6 135 0 0 [.ref M, .int (nI i), .int (nI k)] (Hm h M m) (pV (fun h2 => ∃ m2, h2 = Hm h M m2 ∧ MFr kpP m m2 ∧ XmR (m2 1) (addR r (xsq r i) k t))) := by
  refine Con.of (cc := cX12_keeps) (nL := 4) (ret := none) (by decide) rfl rfl rfl rfl (fun Γ hG hl X Y9 => ?_)
  subst hG
  subst hl
  obtain ⟨⟨⟨x1, x2⟩, ⟨x3, x4⟩, x5, x6, x7⟩, ok2, x8, x9⟩ := id ok
  have ok21 := ok2.2.1
  have cp : ∀ (n a : Nat), a + n = 3 → V Γ 0 0 2 [(0, .ref M), (1, .int (nI i)), (2, .int (nI k)), (3, .int (nI a))] [] (Hm h M (cpy m 7 5 0 0 a)) := by
    intro n
    induction n with
    | zero =>
      intro a g1
      obtain rfl : a = 3 := by omega
      have F1 : MFr kpP m (cpy m 7 5 0 0 3) := fun x y hk => if_neg (fun z => hk (Or.inr ⟨Or.inr (Or.inr z.1), by omega⟩))
      have h7 : stM (cpy m 7 5 0 0 3) 7 = t := ht
      have C1 := hC.kp ok2 F1
      have X1 : XmR ((cpy m 7 5 0 0 3) 1) r := hX
      generalize cpy m 7 5 0 0 3 = m1 at F1 h7 C1 X1 ⊢
      refine V.iload_n X dX12_keeps_2 rfl ?_
      refine V.iconst (v := nI 3) X dX12_keeps_3 (by decide) ?_
      refine V.icmp_ge 25 X dX12_keeps_4 (by decide) (fun c4 => ?_) (fun c4 => False.elim (by rw [nI_leI (by omega) (by omega)] at c4; omega))
      rw [nI_leI (by omega) (by omega)] at c4
      refine V.aload_n X dX12_keeps_25 rfl ?_
      refine V.callVi (n := 0) X dX12_keeps_26 gX12_keeps_X12_findTarget (c_X12_findTarget _ _ K C1 X1 ok h7) rfl (by decide +kernel) rfl rfl rfl K.1 rfl rfl ⟨Nat.le_of_ble_eq_true rfl, Nat.le_of_ble_eq_true rfl⟩ (fun r26 h26 hp26 => ?_)
      obtain ⟨rfl, m2, rfl, G2⟩ := hp26
      have F2 : MFr kpP m m2 := F1.tr (G2.mono (fun _ _ => scP_kp))
      have X2 := X1.sc x4 x5 G2
      rcases hs : sws r t 40 0 with _ | j
      · have ea : addR r (xsq r i) k t = if xpc r < 40 then ((xmx r, xpc r + 1, xfl r, xsk r, xrd r, xdr r), fup (xsq r) (xpc r) (xsq r i ++ [k]), fup (xss r) (xpc r) t, fup (xpr r) (xpc r) 0, xfs r, xvd r) else ((xmx r, xpc r, xfl r, xsk r, xrd r, xdr r + 1), r.2) := by
          unfold addR
          rw [hs]
        refine V.sipush (v := -1000) X dX12_keeps_29 (by decide) ?_
        refine V.icmp_eq 50 X dX12_keeps_32 (by decide) (fun c32 => ?_) (fun c32 => False.elim (by exact c32 rfl))
        refine V.aload_n X dX12_keeps_50 rfl ?_
        refine V.mgr (k := 0) (a := 1) X K fX12_keeps_7 dX12_keeps_51 (by decide) ?_
        refine V.sipush (v := nI 276) X dX12_keeps_54 (by decide) ?_
        refine V.mld  X K 1 1178  dX12_keeps_57 rfl rfl (by omega) X2.1.2.2.2.2.1 ?_
        refine V.bipush (v := nI 40) X dX12_keeps_58 (by decide) ?_
        refine V.icmp_ne 78 X dX12_keeps_60 (by decide) (fun c60 => ?_) (fun c60 => ?_)
        · rw [nI_eq (by omega) (by omega)] at c60
          have hp40 : xpc r < 40 := by omega
          rw [if_pos hp40] at ea
          refine V.aload_n X dX12_keeps_78 rfl ?_
          refine V.iload_n X dX12_keeps_79 rfl ?_
          refine V.iload_n X dX12_keeps_80 rfl ?_
          refine V.sipush (v := nI 278) X dX12_keeps_81 (by decide) ?_
          refine V.bipush (v := nI 11) X dX12_keeps_84 (by decide) ?_
          refine V.aload_n X dX12_keeps_86 rfl ?_
          refine V.mgr (k := 0) (a := 1) X K fX12_keeps_7 dX12_keeps_87 (by decide) ?_
          refine V.sipush (v := nI 276) X dX12_keeps_90 (by decide) ?_
          refine V.mld  X K 1 1178  dX12_keeps_93 rfl rfl (by omega) X2.1.2.2.2.2.1 ?_
          refine V.imulN X dX12_keeps_94 ?_
          refine V.iaddN X dX12_keeps_95 ?_
          refine V.callVv (n := 3) X dX12_keeps_96 gX12_keeps_X12_extend (c_X12_extend _ _ K (by omega) (X2.2.1 i hi) (by omega) (by omega) (by omega)) rfl (by decide +kernel) rfl rfl rfl K.1 rfl rfl ⟨Nat.le_of_ble_eq_true rfl, Nat.le_of_ble_eq_true rfl⟩ (fun h96 hp96 => ?_)
          obtain rfl := hp96.symm
          refine V.aload_n X dX12_keeps_99 rfl ?_
          refine V.mgr (k := 0) (a := 1) X K fX12_keeps_7 dX12_keeps_100 (by decide) ?_
          refine V.sipush (v := nI 276) X dX12_keeps_103 (by decide) ?_
          refine V.dup2 X dX12_keeps_106 rfl rfl ?_
          refine V.mld (x := nI (xpc r)) X K 1 1178  dX12_keeps_107 rfl rfl (by omega) ((extM_o (fun _ => Or.inl (by omega))).trans X2.1.2.2.2.2.1) ?_
          refine V.iconst (v := nI 1) X dX12_keeps_108 (by decide) ?_
          refine V.iaddN X dX12_keeps_109 ?_
          refine V.mst X K 1 1178  dX12_keeps_110 rfl rfl (by omega) ?_
          exact V.vret X Y9 dX12_keeps_111 (by first | exact ⟨rfl, _, rfl, F2.put (Or.inl ⟨rfl, by omega⟩), by rw [ea]; exact X2.num x4 x5 rfl rfl (fun k9 h1 h2 => mput_k (by omega)) ((mput_k (by omega)).trans X2.1.1) ((mput_k (by omega)).trans X2.1.2.1) ((mput_k (by omega)).trans X2.1.2.2.1) mput_at⟩ | exact ⟨rfl, _, rfl, (F2.tr (fun a9 k9 z => extM_o (fun z2 => by subst z2; unfold kpP at z; omega))).put (Or.inl ⟨rfl, by omega⟩), by rw [ea]; exact X2.addP hp40 x5 ((extM_s (X2.2.1 i hi) (by omega) rfl (by omega)).same (fun k9 h1 h2 => mput_k (by omega))) (fun k9 h1 h2 h3 h4 => (mput_k (by omega)).trans (extM_o (fun _ => by omega))) mput_at⟩) (Nat.le_of_ble_eq_true rfl) (Nat.le_of_ble_eq_true rfl)
        · rw [nI_eq (by omega) (by omega)] at c60
          rw [if_neg (by omega)] at ea
          refine V.aload_n X dX12_keeps_63 rfl ?_
          refine V.mgr (k := 0) (a := 1) X K fX12_keeps_7 dX12_keeps_64 (by decide) ?_
          refine V.sipush (v := nI 275) X dX12_keeps_67 (by decide) ?_
          refine V.dup2 X dX12_keeps_70 rfl rfl ?_
          refine V.mld (x := nI (xdr r)) X K 1 1178  dX12_keeps_71 rfl rfl (by omega) X2.1.2.2.2.1 ?_
          refine V.iconst (v := nI 1) X dX12_keeps_72 (by decide) ?_
          refine V.iaddN X dX12_keeps_73 ?_
          refine V.mst X K 1 1178  dX12_keeps_74 rfl rfl (by omega) ?_
          refine V.goto 111 X dX12_keeps_75 (by decide) ?_
          exact V.vret X Y9 dX12_keeps_111 (by first | exact ⟨rfl, _, rfl, F2.put (Or.inl ⟨rfl, by omega⟩), by rw [ea]; exact X2.num x4 x5 rfl rfl (fun k9 h1 h2 => mput_k (by omega)) ((mput_k (by omega)).trans X2.1.1) ((mput_k (by omega)).trans X2.1.2.1) ((mput_k (by omega)).trans X2.1.2.2.1) mput_at⟩ | exact ⟨rfl, _, rfl, (F2.tr (fun a9 k9 z => extM_o (fun z2 => by subst z2; unfold kpP at z; omega))).put (Or.inl ⟨rfl, by omega⟩), by rw [ea]; exact X2.addP hp40 x5 ((extM_s (X2.2.1 i hi) (by omega) rfl (by omega)).same (fun k9 h1 h2 => mput_k (by omega))) (fun k9 h1 h2 h3 h4 => (mput_k (by omega)).trans (extM_o (fun _ => by omega))) mput_at⟩) (Nat.le_of_ble_eq_true rfl) (Nat.le_of_ble_eq_true rfl)
      · have ea : addR r (xsq r i) k t = ((xmx r, xpc r, xfl r, xsk r, xrd r + 1, xdr r), r.2) := by
          unfold addR
          rw [hs]
        have hj : ¬ nI j = -1000 := nI_m1000 (by have := sws_lt _ _ _ hs; omega)
        refine V.sipush (v := -1000) X dX12_keeps_29 (by decide) ?_
        refine V.icmp_eq 50 X dX12_keeps_32 (by decide) (fun c32 => False.elim (by exact hj c32)) (fun c32 => ?_)
        refine V.aload_n X dX12_keeps_35 rfl ?_
        refine V.mgr (k := 0) (a := 1) X K fX12_keeps_7 dX12_keeps_36 (by decide) ?_
        refine V.sipush (v := nI 274) X dX12_keeps_39 (by decide) ?_
        refine V.dup2 X dX12_keeps_42 rfl rfl ?_
        refine V.mld (x := nI (xrd r)) X K 1 1178  dX12_keeps_43 rfl rfl (by omega) X2.1.2.2.1 ?_
        refine V.iconst (v := nI 1) X dX12_keeps_44 (by decide) ?_
        refine V.iaddN X dX12_keeps_45 ?_
        refine V.mst X K 1 1178  dX12_keeps_46 rfl rfl (by omega) ?_
        refine V.goto 111 X dX12_keeps_47 (by decide) ?_
        exact V.vret X Y9 dX12_keeps_111 ⟨rfl, _, rfl, F2.put (Or.inl ⟨rfl, by omega⟩), by rw [ea]; exact X2.num x4 x5 rfl rfl (fun k9 h1 h2 => mput_k (by omega)) ((mput_k (by omega)).trans X2.1.1) ((mput_k (by omega)).trans X2.1.2.1) mput_at ((mput_k (by omega)).trans X2.1.2.2.2.1)⟩ (Nat.le_of_ble_eq_true rfl) (Nat.le_of_ble_eq_true rfl)
    | succ n ih =>
      intro a g1
      refine V.iload_n X dX12_keeps_2 rfl ?_
      refine V.iconst (v := nI 3) X dX12_keeps_3 (by decide) ?_
      refine V.icmp_ge 25 X dX12_keeps_4 (by decide) (fun c4 => False.elim (by rw [nI_leI (by omega) (by omega)] at c4; omega)) (fun c4 => ?_)
      rw [nI_leI (by omega) (by omega)] at c4
      refine V.aload_n X dX12_keeps_7 rfl ?_
      refine V.mgr (k := 13) (a := 7) X K fX12_keeps_28 dX12_keeps_8 (by decide) ?_
      refine V.iload_n X dX12_keeps_11 rfl ?_
      refine V.aload_n X dX12_keeps_12 rfl ?_
      refine V.mgr (k := 11) (a := 5) X K fX12_keeps_22 dX12_keeps_13 (by decide) ?_
      refine V.iload_n X dX12_keeps_16 rfl ?_
      refine V.mld  X K 5 3  dX12_keeps_17 rfl rfl (by omega) rfl ?_
      refine V.mst X K 7 3  dX12_keeps_18 rfl rfl (by omega) ?_
      rw [cpy_q (by omega) (cpy_r (by omega) (by omega))]
      refine V.iinc  X dX12_keeps_19 [(0, _), (1, _), (2, _), (3, _)] rfl (nI_1 _) rfl rfl rfl ?_
      refine V.goto 2 X dX12_keeps_22 (by decide) ?_
      exact ih (a + 1) (by omega)
  refine V.iconst (v := nI 0) X dX12_keeps_0 (by decide) ?_
  refine V.istore_n X dX12_keeps_1 [(0, _), (1, _), (2, _), (3, _)] rfl rfl rfl ?_
  have l9 := cp 3 0 rfl
  rw [cpy_0] at l9
  exact l9
