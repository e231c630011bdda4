def preC (c : Cmp) (j : Nat) : List Cnd := (c.2.2.getD j ([], [], [])).1
def enb (c : Cmp) (s : St) : Nat → Nat → Int32 → Int32
  | 0, _, a => a
  | n + 1, j, a => enb c s n (j + 1) (if allC (preC c j) s s = true then a ||| (nI 1 <<< (nI j &&& 31)) else a)
theorem enb_t {c : Cmp} {s : St} {n j : Nat} {a : Int32} (h : allC (preC c j) s s = true) : enb c s (n + 1) j a = enb c s n (j + 1) (a ||| (nI 1 <<< (nI j &&& 31))) := by
  show enb c s n (j + 1) (if allC (preC c j) s s = true then a ||| (nI 1 <<< (nI j &&& 31)) else a) = _
  rw [if_pos h]
theorem enb_f {c : Cmp} {s : St} {n j : Nat} {a : Int32} (h : allC (preC c j) s s = false) : enb c s (n + 1) j a = enb c s n (j + 1) a := by
  show enb c s n (j + 1) (if allC (preC c j) s s = true then a ||| (nI 1 <<< (nI j &&& 31)) else a) = _
  rw [h]
  rfl
theorem fX11_enabledMethods_26 : FL wsX11_enabledMethods RX11 26 13 2 (.object "ContractTester$Exploration") true := ⟨_, rfl, by decide, Or.inl ⟨"ContractTester", by decide +kernel, Or.inl rfl⟩, by decide +kernel, by decide +kernel, rfl⟩
theorem fX11_enabledMethods_91 : FL wsX11_enabledMethods RX11 91 5 0 (.object "ContractTester$Component") false := ⟨_, rfl, by decide, Or.inr ⟨"ContractTester", by decide +kernel⟩, by decide +kernel, by decide +kernel, rfl⟩
theorem fX11_enabledMethods_80 : FL wsX11_enabledMethods RX11 80 3 2 (.object "java/util/ArrayList") true := ⟨_, rfl, by decide, Or.inr ⟨"ContractTester", by decide +kernel⟩, by decide +kernel, by decide +kernel, rfl⟩
theorem fX11_enabledMethods_186 : FL wsX11_enabledMethods RX11 186 5 3 (.array (.object "ContractTester$State")) true := ⟨_, rfl, by decide, Or.inr ⟨"ContractTester", by decide +kernel⟩, by decide +kernel, by decide +kernel, rfl⟩
set_option maxHeartbeats 4000000 in
set_option maxRecDepth 100000 in
theorem c_X11_enabledMethods (l : Launch) (G : GG) {h : Hp} {T E : Nat} (hT : Hk h T = some (.inl 13)) (hT2 : Hv h T 2 = .ref E) {r : Xr} {rs : St} (hX : XlAt h E r rs) {P : Nat → Prop} {o : Nat} {c : Cmp} (hO : Hv h E 0 = .ref o) (hC : CpAt P G h o c) (hpc : xpc r ≤ 40) {x : Int32} : Con l G yX11_enabledMethods wsX11_enabledMethods 5 109 0 0 [.ref T, .int x] h (pI (fun y h2 => y = atI x (xpc r) (fun j => enb c (xss r j) c.2.2.length 0 (nI 0)) (-1) ∧ h2 = h)) := by
  refine Con.of (cc := cX11_enabledMethods) (nL := 4) (ret := (some .int)) (by decide) rfl rfl rfl rfl (fun Γ hG hl X Y9 => ?_)
  subst hG
  subst hl
  obtain ⟨⟨a0, a1, a2, a3⟩, n, pq, pg, sr⟩ := id hX
  obtain ⟨xx, yy, zz, hp, hx, k0, k1, k2, k3, k4, k5, p6, es, l6, e6, m6⟩ := id hC
  have hlen := hC.len
  have loop : ∀ (i : Nat), x = nI i → i < xpc r → i < 40 → ∀ (m j : Nat) (acc : Int32), j + m = c.2.2.length → enb c (xss r i) m j acc = enb c (xss r i) c.2.2.length 0 (nI 0) → V Γ 0 0 17 [(0, .ref T), (1, .int (nI i)), (2, .int acc), (3, .int (nI j))] [] h := by
    intro i hxi hi hi40
    subst hxi
    obtain ⟨q1, q2, q3⟩ := pq i hi40
    intro m
    induction m with
    | zero =>
      intro j acc g1 g3
      have e0 : acc = enb c (xss r i) c.2.2.length 0 (nI 0) := g3
      refine V.iload_n X dX11_enabledMethods_17 rfl ?_
      refine V.aload_n X dX11_enabledMethods_18 rfl ?_
      refine V.getf  X fX11_enabledMethods_26 dX11_enabledMethods_19 hT hT2 ?_
      refine V.getf  X fX11_enabledMethods_91 dX11_enabledMethods_22 a0.1 hO ?_
      refine V.getf  X fX11_enabledMethods_80 dX11_enabledMethods_25 k0 k3 ?_
      refine V.callVi (n := 0) X dX11_enabledMethods_28 gX11_enabledMethods_Jx4a65c_size_8abf5 (c_Jx4a65c_size_8abf5 _ _ l6) rfl (by decide +kernel) rfl rfl rfl l6.1 rfl rfl ⟨Nat.le_of_ble_eq_true rfl, Nat.le_of_ble_eq_true rfl⟩ (fun r28 h28 hp28 => ?_)
      obtain ⟨rfl, e9⟩ := hp28; obtain rfl := e9.symm
      rw [e6]
      refine V.icmp_ge 69 X dX11_enabledMethods_31 (by decide) (fun c31 => ?_) (fun c31 => absurd (nI_le (show c.2.2.length ≤ j by omega) (by omega)) c31)
      refine V.iload_n X dX11_enabledMethods_69 rfl ?_
      exact V.iret X Y9 dX11_enabledMethods_70 ⟨by rw [atI_yes hi (by omega), e0], rfl⟩ (Nat.le_of_ble_eq_true rfl) (Nat.le_of_ble_eq_true rfl)
    | succ m ih =>
      intro j acc g1 g3
      obtain ⟨q, hq⟩ := get_some (show j < c.2.2.length by omega)
      have hg : preC c j = q.1 := by
        unfold preC
        rw [List.getD_eq_getElem?_getD, hq]
        rfl
      refine V.iload_n X dX11_enabledMethods_17 rfl ?_
      refine V.aload_n X dX11_enabledMethods_18 rfl ?_
      refine V.getf  X fX11_enabledMethods_26 dX11_enabledMethods_19 hT hT2 ?_
      refine V.getf  X fX11_enabledMethods_91 dX11_enabledMethods_22 a0.1 hO ?_
      refine V.getf  X fX11_enabledMethods_80 dX11_enabledMethods_25 k0 k3 ?_
      refine V.callVi (n := 0) X dX11_enabledMethods_28 gX11_enabledMethods_Jx4a65c_size_8abf5 (c_Jx4a65c_size_8abf5 _ _ l6) rfl (by decide +kernel) rfl rfl rfl l6.1 rfl rfl ⟨Nat.le_of_ble_eq_true rfl, Nat.le_of_ble_eq_true rfl⟩ (fun r28 h28 hp28 => ?_)
      obtain ⟨rfl, e9⟩ := hp28; obtain rfl := e9.symm
      rw [e6]
      refine V.icmp_ge 69 X dX11_enabledMethods_31 (by decide) (fun c31 => absurd c31 (nI_nle9 (show j < c.2.2.length by omega) (by omega))) (fun c31 => ?_)
      refine V.aload_n X dX11_enabledMethods_34 rfl ?_
      refine V.getf  X fX11_enabledMethods_26 dX11_enabledMethods_35 hT hT2 ?_
      refine V.getf  X fX11_enabledMethods_91 dX11_enabledMethods_38 a0.1 hO ?_
      refine V.iload_n X dX11_enabledMethods_41 rfl ?_
      refine V.aload_n X dX11_enabledMethods_42 rfl ?_
      refine V.getf  X fX11_enabledMethods_26 dX11_enabledMethods_43 hT hT2 ?_
      refine V.getf  X fX11_enabledMethods_186 dX11_enabledMethods_46 a0.1 a0.2.2.1 ?_
      refine V.iload_n X dX11_enabledMethods_49 rfl ?_
      refine V.aald (j := _)  X dX11_enabledMethods_50 a1.2.1 rfl rfl (by omega) (by omega) (a2 i hi40).2 ?_
      refine V.callVi (n := 2) X dX11_enabledMethods_51 gX11_enabledMethods_X1_isEnabled (c_X1_isEnabled _ _ hC q2 hq) rfl (by decide +kernel) rfl rfl rfl k0 rfl rfl ⟨Nat.le_of_ble_eq_true rfl, Nat.le_of_ble_eq_true rfl⟩ (fun r51 h51 hp51 => ?_)
      obtain ⟨rfl, e9⟩ := hp51; obtain rfl := e9.symm
      refine V.if_eq 63 X dX11_enabledMethods_54 (by decide) (fun c54 => ?_) (fun c54 => ?_)
      · have he : allC (preC c j) (xss r i) (xss r i) = false := by
          rw [hg]
          exact bI_eq c54
        have g4 := (enb_f he).symm.trans g3
        refine V.iinc (v := nI (j + 1)) X dX11_enabledMethods_63 [(0, _), (1, _), (2, _), (3, _)] rfl (nI_1 j) rfl rfl rfl ?_
        refine V.goto 17 X dX11_enabledMethods_66 (by decide) ?_
        exact ih (j + 1) _ (by omega) g4
      · have he : allC (preC c j) (xss r i) (xss r i) = true := by
          rw [hg]
          exact bI_ne c54
        have g4 := (enb_t he).symm.trans g3
        refine V.iload_n X dX11_enabledMethods_57 rfl ?_
        refine V.iconst (v := nI 1) X dX11_enabledMethods_58 (by decide) ?_
        refine V.iload_n X dX11_enabledMethods_59 rfl ?_
        refine V.ishl X dX11_enabledMethods_60 ?_
        refine V.ior X dX11_enabledMethods_61 ?_
        refine V.istore_n X dX11_enabledMethods_62 [(0, _), (1, _), (2, _), (3, _)] rfl rfl rfl ?_
        refine V.iinc (v := nI (j + 1)) X dX11_enabledMethods_63 [(0, _), (1, _), (2, _), (3, _)] rfl (nI_1 j) rfl rfl rfl ?_
        refine V.goto 17 X dX11_enabledMethods_66 (by decide) ?_
        exact ih (j + 1) _ (by omega) g4
  refine V.aload_n X dX11_enabledMethods_0 rfl ?_
  refine V.getf  X fX11_enabledMethods_26 dX11_enabledMethods_1 hT hT2 ?_
  refine V.iload_n X dX11_enabledMethods_4 rfl ?_
  refine V.callVi (n := 1) X dX11_enabledMethods_5 gX11_enabledMethods_X3_hasSequence (c_X3_hasSequence _ _ hX hpc) rfl (by decide +kernel) rfl rfl rfl a0.1 rfl rfl ⟨Nat.le_of_ble_eq_true rfl, Nat.le_of_ble_eq_true rfl⟩ (fun r5 h5 hp5 => ?_)
  obtain ⟨rfl, e9⟩ := hp5; obtain rfl := e9.symm
  refine V.if_ne 13 X dX11_enabledMethods_8 (by decide) (fun c8 => ?_) (fun c8 => ?_)
  · obtain ⟨i, hi, rfl⟩ := isIx_ex (by omega) (bI_ne c8)
    refine V.iconst (v := nI 0) X dX11_enabledMethods_13 (by decide) ?_
    refine V.istore_n X dX11_enabledMethods_14 [(0, _), (1, _), (2, _)] rfl rfl rfl ?_
    refine V.iconst (v := nI 0) X dX11_enabledMethods_15 (by decide) ?_
    refine V.istore_n X dX11_enabledMethods_16 [(0, _), (1, _), (2, _), (3, _)] rfl rfl rfl ?_
    exact loop i rfl hi (by omega) c.2.2.length 0 (nI 0) (by omega) rfl
  · have hi : isIx x (xpc r) = false := bI_eq (by simpa using c8)
    refine V.iconst (v := -1) X dX11_enabledMethods_11 (by decide) ?_
    exact V.iret X Y9 dX11_enabledMethods_12 ⟨by rw [atI_no hi], rfl⟩ (Nat.le_of_ble_eq_true rfl) (Nat.le_of_ble_eq_true rfl)
