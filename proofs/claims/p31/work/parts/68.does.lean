/-! THE EDITS: what each answers, and that the invariant stays -/
theorem IvS.get {s : St} {f : Int32} (q : IvS s) : IvI (getF s f) := by
  unfold getF
  split
  · exact q.1
  · split
    · exact q.2.1
    · exact q.2.2
theorem IvS.set {s : St} {f v : Int32} (q : IvS s) (hv : IvI v) : IvS (setF s f v) := by
  unfold setF
  split
  · exact ⟨hv, q.2.1, q.2.2⟩
  · split
    · exact ⟨q.1, hv, q.2.2⟩
    · exact ⟨q.1, q.2.1, hv⟩
theorem IvI.pos {x : Int32} (q : IvI x) : 0 ≤ nI 100 + x := by
  have h1 : (nI 100).toInt = 100 := by decide
  unfold IvI at q
  rw [Int32.le_iff_toInt_le, Int32.toInt_add, h1, Int.bmod_eq_of_le (by omega) (by omega)]
  show 0 ≤ _
  omega
theorem iv_15 : ∀ j, j < 30 → -99 ≤ (nI j - nI 15).toInt ∧ (nI j - nI 15).toInt ≤ 99 := by decide +kernel
def pDo (G : GG) (h : Hp) (T : Nat) (t : List Nat) (z : Zt) : Int32 → Hp → Prop := fun y h2 => (y < 0 ∧ h2 = h) ∨ (0 ≤ y ∧ ∃ c2 r2, Inv c2 r2 ∧ TX G h2 T t (c2, r2, nxL z.2.2.1, nxK z.2.2.2.1, fup z.2.2.2.2 (nxL z.2.2.1) (z.1, z.2.1)))
theorem do_set (l : Launch) (G : GG) {h : Hp} {T : Nat} {t : List Nat} {z : Zt} (q0 : TX G h T t z) (q : Inv z.1 z.2.1) {f v : Int32} (hv : IvI v) : Con l G yX11_setInitialValue wsX11_setInitialValue 7 153 24 212 [.ref T, .int f, .int v] h (pI (pDo G h T t z)) := by
  obtain ⟨c, r, la, k, sx⟩ := z
  obtain ⟨d, C⟩ := q0
  have C : CtAt G h T d t c r la k sx := C
  have q : Inv c r := q
  refine (c_X11_setInitialValue l G C).mono (pI_mono (fun y h' hp => ?_))
  rcases hp with ⟨-, rfl, rfl⟩ | ⟨-, rfl, C2, -⟩
  · exact Or.inl ⟨by decide, rfl⟩
  · exact Or.inr ⟨q.2.1.1.get.pos, _, _, q.rst (c2 := (setF c.1 f v, c.2.1, c.2.2)) (q.2.1.1.set hv) q.2.1.2, d, C2⟩
theorem do_rem (l : Launch) (G : GG) {h : Hp} {T : Nat} {t : List Nat} {z : Zt} (q0 : TX G h T t z) (q : Inv z.1 z.2.1) {x : Int32} : Con l G yX11_removeMethod wsX11_removeMethod 6 130 24 212 [.ref T, .int x] h (pI (pDo G h T t z)) := by
  obtain ⟨c, r, la, k, sx⟩ := z
  obtain ⟨d, C⟩ := q0
  have C : CtAt G h T d t c r la k sx := C
  have q : Inv c r := q
  refine (c_X11_removeMethod l G C).mono (pI_mono (fun y h' hp => ?_))
  rcases hp with ⟨-, rfl, rfl⟩ | ⟨j, hj, -, rfl, C2, -⟩
  · exact Or.inl ⟨by decide, rfl⟩
  · have h6 := q.2.1.2
    have hl : (c.2.2.eraseIdx j).length ≤ 6 := by rw [List.length_eraseIdx]; split <;> omega
    exact Or.inr ⟨nI_pos' (by omega), _, _, q.rst (c2 := (c.1, c.2.1, c.2.2.eraseIdx j)) q.2.1.1 hl, d, C2⟩
theorem do_max (l : Launch) (G : GG) {h : Hp} {T : Nat} {t : List Nat} {z : Zt} (q0 : TX G h T t z) (q : Inv z.1 z.2.1) {x : Int32} : Con l G yX11_setMaximumLength wsX11_setMaximumLength 5 108 0 0 [.ref T, .int x] h (pI (pDo G h T t z)) := by
  obtain ⟨c, r, la, k, sx⟩ := z
  obtain ⟨d, C⟩ := q0
  have C : CtAt G h T d t c r la k sx := C
  have q : Inv c r := q
  refine (c_X11_setMaximumLength l G C).mono (pI_mono (fun y h' hp => ?_))
  rcases hp with ⟨-, rfl, rfl⟩ | ⟨n, h1, h2, -, rfl, C2, -⟩
  · exact Or.inl ⟨by decide, rfl⟩
  · exact Or.inr ⟨nI_pos' (by have := q.1.1; omega), _, _, q.mx h1 h2, d, C2⟩
theorem do_res (l : Launch) (G : GG) {h : Hp} {T : Nat} {t : List Nat} {z : Zt} (q0 : TX G h T t z) (q : Inv z.1 z.2.1) : Con l G yX11_reset wsX11_reset 5 108 0 0 [.ref T] h (pI (pDo G h T t z)) := by
  obtain ⟨c, r, la, k, sx⟩ := z
  obtain ⟨d, C⟩ := q0
  have C : CtAt G h T d t c r la k sx := C
  have q : Inv c r := q
  refine (c_X11_reset l G C q.1).mono (pI_mono (fun y h' hp => ?_))
  rcases hp with ⟨-, rfl, rfl⟩ | ⟨-, rfl, C2, -⟩
  · exact Or.inl ⟨by decide, rfl⟩
  · exact Or.inr ⟨nI_pos' (by have := q.1.2.1; omega), _, _, q.rst q.2.1.1 q.2.1.2, d, C2⟩
theorem do_exp (l : Launch) (G : GG) {h : Hp} {T : Nat} {t : List Nat} {z : Zt} (q0 : TX G h T t z) (q : Inv z.1 z.2.1) {x : Int32} : Con l G yX11_explore wsX11_explore 6 137 0 0 [.ref T, .int x] h (pI (pDo G h T t z)) := by
  obtain ⟨c, r, la, k, sx⟩ := z
  obtain ⟨d, C⟩ := q0
  have C : CtAt G h T d t c r la k sx := C
  have q : Inv c r := q
  refine (c_X11_explore l G C q.1).mono (pI_mono (fun y h' hp => ?_))
  rcases hp with ⟨-, rfl, rfl⟩ | ⟨n, h1, h2, -, ⟨-, rfl, rfl⟩ | ⟨-, rfl, -, C2, -⟩⟩
  · exact Or.inl ⟨by decide, rfl⟩
  · exact Or.inl ⟨by decide, rfl⟩
  · exact Or.inr ⟨nI_pos' (by have := stps_le (c := c) n 0 r; omega), _, _, Inv.st_s n 0 r q, d, C2⟩
set_option maxHeartbeats 4000000 in
set_option maxRecDepth 100000 in
theorem c_L_does (l : Launch) (G : GG) {h : Hp} {T : Nat} {t : List Nat} {z : Zt} (q0 : TX G h T t z) (q : Inv z.1 z.2.1) {x : Int32} : Con l G yL_does wsL_does 8 176 24 212 [.ref T, .int x] h (pI (pDo G h T t z)) := by
  refine Con.of (cc := cL_does) (nL := 2) (ret := (some .int)) (by decide) rfl rfl rfl rfl (fun Γ hG hl X Y9 => ?_)
  subst hG
  subst hl
  refine V.iload_n X dL_does_0 rfl ?_
  refine V.bipush (v := nI 8) X dL_does_1 (by decide) ?_
  refine V.callSi (n := 2) X dL_does_3 gL_does_L_low (c_L_low _ _ (n := 8) (by decide) (by decide)) rfl (by decide +kernel) rfl rfl rfl ⟨Nat.le_of_ble_eq_true rfl, Nat.le_of_ble_eq_true rfl⟩ (fun r3 h3 hp3 => ?_)
  obtain ⟨⟨j3, k3, rfl⟩, e9⟩ := hp3; obtain rfl := e9.symm
  rcases (show j3 = 0 ∨ j3 = 1 ∨ j3 = 2 ∨ j3 = 3 ∨ 4 ≤ j3 by omega) with rfl | rfl | rfl | rfl | h4
  · refine V.tableIn (off := 30) 36 X dL_does_6 (by decide) (by decide) (by rfl) (by decide) ?_
    refine V.aload_n X dL_does_36 rfl ?_
    refine V.iload_n X dL_does_37 rfl ?_
    refine V.iconst (v := nI 3) X dL_does_38 (by decide) ?_
    refine V.ishr X dL_does_39 ?_
    refine V.iconst (v := nI 4) X dL_does_40 (by decide) ?_
    refine V.callSi (n := 2) X dL_does_41 gL_does_L_low (c_L_low _ _ (n := 4) (by decide) (by decide)) rfl (by decide +kernel) rfl rfl rfl ⟨Nat.le_of_ble_eq_true rfl, Nat.le_of_ble_eq_true rfl⟩ (fun r41 h41 hp41 => ?_)
    obtain ⟨⟨j41, k41, rfl⟩, e9⟩ := hp41; obtain rfl := e9.symm
    refine V.iload_n X dL_does_44 rfl ?_
    refine V.iconst (v := nI 5) X dL_does_45 (by decide) ?_
    refine V.ishr X dL_does_46 ?_
    refine V.bipush (v := nI 30) X dL_does_47 (by decide) ?_
    refine V.callSi (n := 2) X dL_does_49 gL_does_L_low (c_L_low _ _ (n := 30) (by decide) (by decide)) rfl (by decide +kernel) rfl rfl rfl ⟨Nat.le_of_ble_eq_true rfl, Nat.le_of_ble_eq_true rfl⟩ (fun r49 h49 hp49 => ?_)
    obtain ⟨⟨j49, k49, rfl⟩, e9⟩ := hp49; obtain rfl := e9.symm
    refine V.bipush (v := nI 15) X dL_does_52 (by decide) ?_
    refine V.isub X dL_does_54 ?_
    refine V.callVi (n := 2) X dL_does_55 gL_does_X11_setInitialValue (do_set _ _ q0 q (iv_15 j49 k49)) rfl (by decide +kernel) rfl rfl rfl q0.k rfl rfl ⟨Nat.le_of_ble_eq_true rfl, Nat.le_of_ble_eq_true rfl⟩ (fun r55 h55 hp55 => ?_)
    exact V.iret X Y9 dL_does_58 hp55 (Nat.le_of_ble_eq_true rfl) (Nat.le_of_ble_eq_true rfl)
  · refine V.tableIn (off := 53) 59 X dL_does_6 (by decide) (by decide) (by rfl) (by decide) ?_
    refine V.aload_n X dL_does_59 rfl ?_
    refine V.iload_n X dL_does_60 rfl ?_
    refine V.iconst (v := nI 3) X dL_does_61 (by decide) ?_
    refine V.ishr X dL_does_62 ?_
    refine V.iconst (v := nI 5) X dL_does_63 (by decide) ?_
    refine V.callSi (n := 2) X dL_does_64 gL_does_L_low (c_L_low _ _ (n := 5) (by decide) (by decide)) rfl (by decide +kernel) rfl rfl rfl ⟨Nat.le_of_ble_eq_true rfl, Nat.le_of_ble_eq_true rfl⟩ (fun r64 h64 hp64 => ?_)
    obtain ⟨⟨j64, k64, rfl⟩, e9⟩ := hp64; obtain rfl := e9.symm
    refine V.callVi (n := 1) X dL_does_67 gL_does_X11_removeMethod (do_rem _ _ q0 q) rfl (by decide +kernel) rfl rfl rfl q0.k rfl rfl ⟨Nat.le_of_ble_eq_true rfl, Nat.le_of_ble_eq_true rfl⟩ (fun r67 h67 hp67 => ?_)
    exact V.iret X Y9 dL_does_70 hp67 (Nat.le_of_ble_eq_true rfl) (Nat.le_of_ble_eq_true rfl)
  · refine V.tableIn (off := 65) 71 X dL_does_6 (by decide) (by decide) (by rfl) (by decide) ?_
    refine V.aload_n X dL_does_71 rfl ?_
    refine V.iload_n X dL_does_72 rfl ?_
    refine V.iconst (v := nI 3) X dL_does_73 (by decide) ?_
    refine V.ishr X dL_does_74 ?_
    refine V.bipush (v := nI 9) X dL_does_75 (by decide) ?_
    refine V.callSi (n := 2) X dL_does_77 gL_does_L_low (c_L_low _ _ (n := 9) (by decide) (by decide)) rfl (by decide +kernel) rfl rfl rfl ⟨Nat.le_of_ble_eq_true rfl, Nat.le_of_ble_eq_true rfl⟩ (fun r77 h77 hp77 => ?_)
    obtain ⟨⟨j77, k77, rfl⟩, e9⟩ := hp77; obtain rfl := e9.symm
    refine V.callVi (n := 1) X dL_does_80 gL_does_X11_setMaximumLength (do_max _ _ q0 q) rfl (by decide +kernel) rfl rfl rfl q0.k rfl rfl ⟨Nat.le_of_ble_eq_true rfl, Nat.le_of_ble_eq_true rfl⟩ (fun r80 h80 hp80 => ?_)
    exact V.iret X Y9 dL_does_83 hp80 (Nat.le_of_ble_eq_true rfl) (Nat.le_of_ble_eq_true rfl)
  · refine V.tableIn (off := 78) 84 X dL_does_6 (by decide) (by decide) (by rfl) (by decide) ?_
    refine V.aload_n X dL_does_84 rfl ?_
    refine V.callVi (n := 0) X dL_does_85 gL_does_X11_reset (do_res _ _ q0 q) rfl (by decide +kernel) rfl rfl rfl q0.k rfl rfl ⟨Nat.le_of_ble_eq_true rfl, Nat.le_of_ble_eq_true rfl⟩ (fun r85 h85 hp85 => ?_)
    exact V.iret X Y9 dL_does_88 hp85 (Nat.le_of_ble_eq_true rfl) (Nat.le_of_ble_eq_true rfl)
  refine V.tableOut 89 X dL_does_6 (Or.inr (by rw [nI_toInt (by omega)]; omega)) (by decide) ?_
  refine V.aload_n X dL_does_89 rfl ?_
  refine V.iload_n X dL_does_90 rfl ?_
  refine V.iconst (v := nI 3) X dL_does_91 (by decide) ?_
  refine V.ishr X dL_does_92 ?_
  refine V.bipush (v := nI 25) X dL_does_93 (by decide) ?_
  refine V.callSi (n := 2) X dL_does_95 gL_does_L_low (c_L_low _ _ (n := 25) (by decide) (by decide)) rfl (by decide +kernel) rfl rfl rfl ⟨Nat.le_of_ble_eq_true rfl, Nat.le_of_ble_eq_true rfl⟩ (fun r95 h95 hp95 => ?_)
  obtain ⟨⟨j95, k95, rfl⟩, e9⟩ := hp95; obtain rfl := e9.symm
  refine V.callVi (n := 1) X dL_does_98 gL_does_X11_explore (do_exp _ _ q0 q) rfl (by decide +kernel) rfl rfl rfl q0.k rfl rfl ⟨Nat.le_of_ble_eq_true rfl, Nat.le_of_ble_eq_true rfl⟩ (fun r98 h98 hp98 => ?_)
  exact V.iret X Y9 dL_does_101 hp98 (Nat.le_of_ble_eq_true rfl) (Nat.le_of_ble_eq_true rfl)
theorem fnv_at {r : Xr} {j : Nat} (hj : j < xpc r) (hb : xpc r < 2 ^ 31) {f : Nat} (hf : f < 3) : fnv r (nI j) (nI f) = getF (xss r j) (nI f) := by
  unfold fnv
  rw [isIx_nI (by omega), if_pos (by simp; exact hf), atI_yes hj hb]
set_option maxHeartbeats 4000000 in
set_option maxRecDepth 100000 in
theorem c_L_isCounted (l : Launch) (G : GG) {h : Hp} {T : Nat} {t : List Nat} {z : Zt} (q0 : TX G h T t z) (q : Inv z.1 z.2.1) : Con l G yL_isCounted wsL_isCounted 4 84 0 0 [.ref T] h (pI (fun y h2 => y = bI true ∧ h2 = h)) := by
  refine Con.of (cc := cL_isCounted) (nL := 4) (ret := (some .boolean)) (by decide) rfl rfl rfl rfl (fun Γ hG hl X Y9 => ?_)
  subst hG
  subst hl
  obtain ⟨c, r, la, k, sx⟩ := z
  obtain ⟨d, C1⟩ := q0
  have C1 : CtAt (cxG Γ) h T d t c r la k sx := C1
  have q : Inv c r := q
  have hx := q.1.2.1
  have hf20 := q.1.2.2.1
  have h6 := q.2.1.2
  have hcnt := q.cnt
  have hpr : xpc r * c.2.2.length ≤ 40 * 6 := Nat.mul_le_mul hx.2 h6
  obtain ⟨a1, b1, -, -, ⟨⟨rs1, l1⟩, o1, v1, p1⟩, -, ys1, zs1, z1⟩ := id C1
  have lp : ∀ (n j : Nat), j + n = xpc r → V Γ 0 0 44 [(0, .ref T), (1, .int (nI (xpc r))), (2, .int (nI (xpc r * c.2.2.length))), (3, .int (nI j))] [] h := by
    intro n
    induction n with
    | zero =>
      intro j g1
      refine V.iload_n X dL_isCounted_44 rfl ?_
      refine V.iload_n X dL_isCounted_45 rfl ?_
      refine V.icmp_ge 93 X dL_isCounted_46 (by decide) (fun c46 => ?_) (fun c46 => absurd (nI_le (show xpc r ≤ j by omega) (by omega)) c46)
      refine V.aload_n X dL_isCounted_93 rfl ?_
      refine V.callVi (n := 0) X dL_isCounted_94 gL_isCounted_X11_skippedPairs (c_X11_skippedPairs _ _ a1.1 a1.2.2.2.1 l1) rfl (by decide +kernel) rfl rfl rfl a1.1 rfl rfl ⟨Nat.le_of_ble_eq_true rfl, Nat.le_of_ble_eq_true rfl⟩ (fun r94 h94 hp94 => ?_)
      obtain ⟨rfl, e9⟩ := hp94; obtain rfl := e9.symm
      refine V.aload_n X dL_isCounted_97 rfl ?_
      refine V.callVi (n := 0) X dL_isCounted_98 gL_isCounted_X11_redundantPairs (c_X11_redundantPairs _ _ a1.1 a1.2.2.2.1 l1) rfl (by decide +kernel) rfl rfl rfl a1.1 rfl rfl ⟨Nat.le_of_ble_eq_true rfl, Nat.le_of_ble_eq_true rfl⟩ (fun r98 h98 hp98 => ?_)
      obtain ⟨rfl, e9⟩ := hp98; obtain rfl := e9.symm
      refine V.iadd X dL_isCounted_101 ?_
      refine V.aload_n X dL_isCounted_102 rfl ?_
      refine V.callVi (n := 0) X dL_isCounted_103 gL_isCounted_X11_droppedPairs (c_X11_droppedPairs _ _ a1.1 a1.2.2.2.1 l1) rfl (by decide +kernel) rfl rfl rfl a1.1 rfl rfl ⟨Nat.le_of_ble_eq_true rfl, Nat.le_of_ble_eq_true rfl⟩ (fun r103 h103 hp103 => ?_)
      obtain ⟨rfl, e9⟩ := hp103; obtain rfl := e9.symm
      refine V.iadd X dL_isCounted_106 ?_
      refine V.aload_n X dL_isCounted_107 rfl ?_
      refine V.callVi (n := 0) X dL_isCounted_108 gL_isCounted_X11_failureCount (c_X11_failureCount _ _ a1.1 a1.2.2.2.1 l1) rfl (by decide +kernel) rfl rfl rfl a1.1 rfl rfl ⟨Nat.le_of_ble_eq_true rfl, Nat.le_of_ble_eq_true rfl⟩ (fun r108 h108 hp108 => ?_)
      obtain ⟨rfl, e9⟩ := hp108; obtain rfl := e9.symm
      refine V.iadd X dL_isCounted_111 ?_
      refine V.iload_n X dL_isCounted_112 rfl ?_
      refine V.iadd X dL_isCounted_113 ?_
      refine V.iconst (v := nI 1) X dL_isCounted_114 (by decide) ?_
      refine V.isub X dL_isCounted_115 ?_
      rw [nI_add, nI_add, nI_add, nI_add, nI_sub9 (by omega)]
      refine V.istore_n X dL_isCounted_116 [(0, _), (1, _), (2, _), (3, _)] rfl rfl rfl ?_
      refine V.iload_n X dL_isCounted_117 rfl ?_
      refine V.aload_n X dL_isCounted_118 rfl ?_
      refine V.callVi (n := 0) X dL_isCounted_119 gL_isCounted_X11_openPairs (c_X11_openPairs _ _ a1.1 a1.2.2.2.1 l1 v1 p1 q.1) rfl (by decide +kernel) rfl rfl rfl a1.1 rfl rfl ⟨Nat.le_of_ble_eq_true rfl, Nat.le_of_ble_eq_true rfl⟩ (fun r119 h119 hp119 => ?_)
      obtain ⟨rfl, e9⟩ := hp119; obtain rfl := e9.symm
      refine V.iadd X dL_isCounted_122 ?_
      rw [nI_add]
      refine V.iload_n X dL_isCounted_123 rfl ?_
      refine V.icmp_gt 131 X dL_isCounted_124 (by decide) (fun c124 => absurd c124 (nI_nlt (by omega) (by omega))) (fun c124 => ?_)
      refine V.iconst (v := nI 1) X dL_isCounted_127 (by decide) ?_
      refine V.goto 132 X dL_isCounted_128 (by decide) ?_
      exact V.bret X Y9 dL_isCounted_132 true rfl ⟨rfl, rfl⟩ (Nat.le_of_ble_eq_true rfl) (Nat.le_of_ble_eq_true rfl)
    | succ n ih =>
      intro j g1
      have hj : j < xpc r := by omega
      refine V.iload_n X dL_isCounted_44 rfl ?_
      refine V.iload_n X dL_isCounted_45 rfl ?_
      refine V.icmp_ge 93 X dL_isCounted_46 (by decide) (fun c46 => absurd c46 (nI_nle9 (show j < xpc r by omega) (by omega))) (fun c46 => ?_)
      refine V.aload_n X dL_isCounted_49 rfl ?_
      refine V.aload_n X dL_isCounted_50 rfl ?_
      refine V.iload_n X dL_isCounted_51 rfl ?_
      refine V.iconst (v := nI 0) X dL_isCounted_52 (by decide) ?_
      refine V.callVi (n := 2) X dL_isCounted_53 gL_isCounted_X11_finalValue (c_X11_finalValue _ _ a1.1 a1.2.2.2.1 l1 hx.2) rfl (by decide +kernel) rfl rfl rfl a1.1 rfl rfl ⟨Nat.le_of_ble_eq_true rfl, Nat.le_of_ble_eq_true rfl⟩ (fun r53 h53 hp53 => ?_)
      obtain ⟨rfl, e9⟩ := hp53; obtain rfl := e9.symm
      refine V.aload_n X dL_isCounted_56 rfl ?_
      refine V.iload_n X dL_isCounted_57 rfl ?_
      refine V.iconst (v := nI 1) X dL_isCounted_58 (by decide) ?_
      refine V.callVi (n := 2) X dL_isCounted_59 gL_isCounted_X11_finalValue (c_X11_finalValue _ _ a1.1 a1.2.2.2.1 l1 hx.2) rfl (by decide +kernel) rfl rfl rfl a1.1 rfl rfl ⟨Nat.le_of_ble_eq_true rfl, Nat.le_of_ble_eq_true rfl⟩ (fun r59 h59 hp59 => ?_)
      obtain ⟨rfl, e9⟩ := hp59; obtain rfl := e9.symm
      refine V.aload_n X dL_isCounted_62 rfl ?_
      refine V.iload_n X dL_isCounted_63 rfl ?_
      refine V.iconst (v := nI 2) X dL_isCounted_64 (by decide) ?_
      refine V.callVi (n := 2) X dL_isCounted_65 gL_isCounted_X11_finalValue (c_X11_finalValue _ _ a1.1 a1.2.2.2.1 l1 hx.2) rfl (by decide +kernel) rfl rfl rfl a1.1 rfl rfl ⟨Nat.le_of_ble_eq_true rfl, Nat.le_of_ble_eq_true rfl⟩ (fun r65 h65 hp65 => ?_)
      obtain ⟨rfl, e9⟩ := hp65; obtain rfl := e9.symm
      rw [fnv_at hj (by omega) (by decide), fnv_at hj (by omega) (by decide), fnv_at hj (by omega) (by decide)]
      have e0 : getF (xss r j) (nI 0) = (xss r j).1 := rfl
      have e1 : getF (xss r j) (nI 1) = (xss r j).2.1 := rfl
      have e2 : getF (xss r j) (nI 2) = (xss r j).2.2 := rfl
      rw [e0, e1, e2]
      refine V.callVi (n := 3) X dL_isCounted_68 gL_isCounted_X11_findState (c_X11_findState _ _ a1.1 a1.2.2.2.1 l1 hx.2 (t := xss r j)) rfl (by decide +kernel) rfl rfl rfl a1.1 rfl rfl ⟨Nat.le_of_ble_eq_true rfl, Nat.le_of_ble_eq_true rfl⟩ (fun r68 h68 hp68 => ?_)
      obtain ⟨rfl, e9⟩ := hp68; obtain rfl := e9.symm
      rw [q.fnd hj]
      refine V.iload_n X dL_isCounted_71 rfl ?_
      refine V.icmp_ne 85 X dL_isCounted_72 (by decide) (fun c72 => absurd rfl c72) (fun c72 => ?_)
      refine V.aload_n X dL_isCounted_75 rfl ?_
      refine V.iload_n X dL_isCounted_76 rfl ?_
      refine V.callVi (n := 1) X dL_isCounted_77 gL_isCounted_X11_sequenceLength (c_X11_sequenceLength _ _ a1.1 a1.2.2.2.1 l1 hx.2) rfl (by decide +kernel) rfl rfl rfl a1.1 rfl rfl ⟨Nat.le_of_ble_eq_true rfl, Nat.le_of_ble_eq_true rfl⟩ (fun r77 h77 hp77 => ?_)
      obtain ⟨rfl, e9⟩ := hp77; obtain rfl := e9.symm
      rw [atI_yes hj (by omega)]
      have hl8 := (q.2.2.2.1 j hj).1
      refine V.bipush (v := nI 8) X dL_isCounted_80 (by decide) ?_
      refine V.icmp_le 87 X dL_isCounted_82 (by decide) (fun c82 => ?_) (fun c82 => absurd (nI_le hl8 (by decide)) c82)
      refine V.iinc (v := nI (j + 1)) X dL_isCounted_87 [(0, _), (1, _), (2, _), (3, _)] rfl (nI_1 j) rfl rfl rfl ?_
      refine V.goto 44 X dL_isCounted_90 (by decide) ?_
      exact ih (j + 1) (by omega)
  refine V.aload_n X dL_isCounted_0 rfl ?_
  refine V.callVi (n := 0) X dL_isCounted_1 gL_isCounted_X11_poolSize (c_X11_poolSize _ _ a1.1 a1.2.2.2.1 l1) rfl (by decide +kernel) rfl rfl rfl a1.1 rfl rfl ⟨Nat.le_of_ble_eq_true rfl, Nat.le_of_ble_eq_true rfl⟩ (fun r1 h1 hp1 => ?_)
  obtain ⟨rfl, e9⟩ := hp1; obtain rfl := e9.symm
  refine V.istore_n X dL_isCounted_4 [(0, _), (1, _)] rfl rfl rfl ?_
  refine V.iload_n X dL_isCounted_5 rfl ?_
  refine V.aload_n X dL_isCounted_6 rfl ?_
  refine V.callVi (n := 0) X dL_isCounted_7 gL_isCounted_X11_methodCount (c_X11_methodCount _ _ a1.1 a1.2.2.2.1 l1 v1 p1) rfl (by decide +kernel) rfl rfl rfl a1.1 rfl rfl ⟨Nat.le_of_ble_eq_true rfl, Nat.le_of_ble_eq_true rfl⟩ (fun r7 h7 hp7 => ?_)
  obtain ⟨rfl, e9⟩ := hp7; obtain rfl := e9.symm
  refine V.imul X dL_isCounted_10 ?_
  rw [nI_mul]
  refine V.istore_n X dL_isCounted_11 [(0, _), (1, _), (2, _)] rfl rfl rfl ?_
  refine V.iload_n X dL_isCounted_12 rfl ?_
  refine V.iconst (v := nI 1) X dL_isCounted_13 (by decide) ?_
  refine V.icmp_lt 40 X dL_isCounted_14 (by decide) (fun c14 => absurd c14 (nI_nlt hx.1 (by omega))) (fun c14 => ?_)
  refine V.iload_n X dL_isCounted_17 rfl ?_
  refine V.bipush (v := nI 40) X dL_isCounted_18 (by decide) ?_
  refine V.icmp_gt 40 X dL_isCounted_20 (by decide) (fun c20 => absurd c20 (nI_nlt hx.2 (by decide))) (fun c20 => ?_)
  refine V.aload_n X dL_isCounted_23 rfl ?_
  refine V.callVi (n := 0) X dL_isCounted_24 gL_isCounted_X11_failureCount (c_X11_failureCount _ _ a1.1 a1.2.2.2.1 l1) rfl (by decide +kernel) rfl rfl rfl a1.1 rfl rfl ⟨Nat.le_of_ble_eq_true rfl, Nat.le_of_ble_eq_true rfl⟩ (fun r24 h24 hp24 => ?_)
  obtain ⟨rfl, e9⟩ := hp24; obtain rfl := e9.symm
  refine V.bipush (v := nI 20) X dL_isCounted_27 (by decide) ?_
  refine V.icmp_gt 40 X dL_isCounted_29 (by decide) (fun c29 => absurd c29 (nI_nlt hf20 (by decide))) (fun c29 => ?_)
  refine V.aload_n X dL_isCounted_32 rfl ?_
  refine V.iconst (v := nI 0) X dL_isCounted_33 (by decide) ?_
  refine V.callVi (n := 1) X dL_isCounted_34 gL_isCounted_X11_sequenceLength (c_X11_sequenceLength _ _ a1.1 a1.2.2.2.1 l1 hx.2) rfl (by decide +kernel) rfl rfl rfl a1.1 rfl rfl ⟨Nat.le_of_ble_eq_true rfl, Nat.le_of_ble_eq_true rfl⟩ (fun r34 h34 hp34 => ?_)
  obtain ⟨rfl, e9⟩ := hp34; obtain rfl := e9.symm
  have es : atI (nI 0) (xpc r) (fun j => nI (xsq r j).length) (-1) = 0 := by
    rw [atI_yes (by omega) (by omega)]
    show nI (xsq r 0).length = 0
    rw [q.1.2.2.2.1]
    rfl
  refine V.if_eq 42 X dL_isCounted_37 (by decide) (fun c37 => ?_) (fun c37 => absurd es c37)
  refine V.iconst (v := nI 0) X dL_isCounted_42 (by decide) ?_
  refine V.istore_n X dL_isCounted_43 [(0, _), (1, _), (2, _), (3, _)] rfl rfl rfl ?_
  exact lp (xpc r) 0 (Nat.zero_add _)
theorem cop_rst {c : Cmp} {r : Xr} (hx : 1 ≤ xmx r) (h0 : xsq r 0 = []) : cop c (rst c r) 40 0 = c.2.2.length := by
  have h : ∀ n i, 1 ≤ i → cop c (rst c r) n i = 0 := by
    intro n
    induction n with
    | zero => intro i _; rfl
    | succ n ih =>
      intro i hi
      show opn c (rst c r) i + cop c (rst c r) n (i + 1) = 0
      rw [ih (i + 1) (by omega)]
      unfold opn
      rw [if_neg (fun z => by
        have z1 : i < 1 := z.1
        omega)]
  show opn c (rst c r) 0 + cop c (rst c r) 39 1 = _
  rw [h 39 1 (Nat.le_refl _)]
  unfold opn
  rw [if_pos ⟨(by show 0 < 1; decide), (by show (xsq r 0).length < xmx r; rw [h0]; exact hx)⟩]
  show c.2.2.length - fup (xpr r) 0 0 0 + 0 = _
  rw [fup_at]
  rfl
theorem hpp_no {r : Xr} (h : ∀ i, i < xpc r → xpr r i = 0) : ∀ n i, hpp r n i = false := by
  intro n
  induction n with
  | zero => intro i; rfl
  | succ n ih =>
    intro i
    unfold hpp
    rw [if_neg (fun z => by have := h i z.1; omega)]
    exact ih (i + 1)
set_option maxHeartbeats 4000000 in
set_option maxRecDepth 100000 in
theorem c_L_nothingYet (l : Launch) (G : GG) {h : Hp} {T : Nat} {t : List Nat} {c : Cmp} {r : Xr} {la k : Nat} {sx : Nat → Cmp × Xr} (q0 : TX G h T t (c, rst c r, la, k, sx)) (q : Inv c (rst c r)) {m : Nat} (hm : c.2.2.length = m) : Con l G yL_nothingYet wsL_nothingYet 6 129 0 0 [.ref T, .int (nI m)] h (pI (fun y h2 => y = bI true ∧ h2 = h)) := by
  refine Con.of (cc := cL_nothingYet) (nL := 2) (ret := (some .boolean)) (by decide) rfl rfl rfl rfl (fun Γ hG hl X Y9 => ?_)
  subst hG
  subst hl
  obtain ⟨d, C1⟩ := q0
  have C1 : CtAt (cxG Γ) h T d t c (rst c r) la k sx := C1
  have hc : cop c (rst c r) 40 0 = m := (cop_rst (r := r) q.1.1.1 q.1.2.2.2.1).trans hm
  have hh : hpp (rst c r) 40 0 = false := hpp_no (fun i hi => by
    have hi : i < 1 := hi
    show fup (xpr r) 0 0 i = 0
    rw [show i = 0 by omega, fup_at]) 40 0
  obtain ⟨a1, b1, -, -, ⟨⟨rs1, l1⟩, o1, v1, p1⟩, -, ys1, zs1, z1⟩ := id C1
  refine V.aload_n X dL_nothingYet_0 rfl ?_
  refine V.callVi (n := 0) X dL_nothingYet_1 gL_nothingYet_X11_poolSize (c_X11_poolSize _ _ a1.1 a1.2.2.2.1 l1) rfl (by decide +kernel) rfl rfl rfl a1.1 rfl rfl ⟨Nat.le_of_ble_eq_true rfl, Nat.le_of_ble_eq_true rfl⟩ (fun r1 h1 hp1 => ?_)
  obtain ⟨rfl, e9⟩ := hp1; obtain rfl := e9.symm
  refine V.iconst (v := nI 1) X dL_nothingYet_4 (by decide) ?_
  refine V.icmp_ne 53 X dL_nothingYet_5 (by decide) (fun c5 => absurd rfl c5) (fun c5 => ?_)
  refine V.aload_n X dL_nothingYet_8 rfl ?_
  refine V.callVi (n := 0) X dL_nothingYet_9 gL_nothingYet_X11_openPairs (c_X11_openPairs _ _ a1.1 a1.2.2.2.1 l1 v1 p1 q.1) rfl (by decide +kernel) rfl rfl rfl a1.1 rfl rfl ⟨Nat.le_of_ble_eq_true rfl, Nat.le_of_ble_eq_true rfl⟩ (fun r9 h9 hp9 => ?_)
  obtain ⟨rfl, e9⟩ := hp9; obtain rfl := e9.symm
  rw [hc]
  refine V.iload_n X dL_nothingYet_12 rfl ?_
  refine V.icmp_ne 53 X dL_nothingYet_13 (by decide) (fun c13 => absurd rfl c13) (fun c13 => ?_)
  refine V.aload_n X dL_nothingYet_16 rfl ?_
  refine V.callVi (n := 0) X dL_nothingYet_17 gL_nothingYet_X11_failureCount (c_X11_failureCount _ _ a1.1 a1.2.2.2.1 l1) rfl (by decide +kernel) rfl rfl rfl a1.1 rfl rfl ⟨Nat.le_of_ble_eq_true rfl, Nat.le_of_ble_eq_true rfl⟩ (fun r17 h17 hp17 => ?_)
  obtain ⟨rfl, e9⟩ := hp17; obtain rfl := e9.symm
  refine V.if_ne 53 X dL_nothingYet_20 (by decide) (fun c20 => absurd rfl c20) (fun c20 => ?_)
  refine V.aload_n X dL_nothingYet_23 rfl ?_
  refine V.callVi (n := 0) X dL_nothingYet_24 gL_nothingYet_X11_skippedPairs (c_X11_skippedPairs _ _ a1.1 a1.2.2.2.1 l1) rfl (by decide +kernel) rfl rfl rfl a1.1 rfl rfl ⟨Nat.le_of_ble_eq_true rfl, Nat.le_of_ble_eq_true rfl⟩ (fun r24 h24 hp24 => ?_)
  obtain ⟨rfl, e9⟩ := hp24; obtain rfl := e9.symm
  refine V.aload_n X dL_nothingYet_27 rfl ?_
  refine V.callVi (n := 0) X dL_nothingYet_28 gL_nothingYet_X11_redundantPairs (c_X11_redundantPairs _ _ a1.1 a1.2.2.2.1 l1) rfl (by decide +kernel) rfl rfl rfl a1.1 rfl rfl ⟨Nat.le_of_ble_eq_true rfl, Nat.le_of_ble_eq_true rfl⟩ (fun r28 h28 hp28 => ?_)
  obtain ⟨rfl, e9⟩ := hp28; obtain rfl := e9.symm
  refine V.iadd X dL_nothingYet_31 ?_
  refine V.aload_n X dL_nothingYet_32 rfl ?_
  refine V.callVi (n := 0) X dL_nothingYet_33 gL_nothingYet_X11_droppedPairs (c_X11_droppedPairs _ _ a1.1 a1.2.2.2.1 l1) rfl (by decide +kernel) rfl rfl rfl a1.1 rfl rfl ⟨Nat.le_of_ble_eq_true rfl, Nat.le_of_ble_eq_true rfl⟩ (fun r33 h33 hp33 => ?_)
  obtain ⟨rfl, e9⟩ := hp33; obtain rfl := e9.symm
  refine V.iadd X dL_nothingYet_36 ?_
  refine V.if_ne 53 X dL_nothingYet_37 (by decide) (fun c37 => absurd rfl c37) (fun c37 => ?_)
  refine V.aload_n X dL_nothingYet_40 rfl ?_
  refine V.callVi (n := 0) X dL_nothingYet_41 gL_nothingYet_X11_reset (c_X11_reset _ _ C1 q.1) rfl (by decide +kernel) rfl rfl rfl a1.1 rfl rfl ⟨Nat.le_of_ble_eq_true rfl, Nat.le_of_ble_eq_true rfl⟩ (fun r41 h41 hp41 => ?_)
  obtain ⟨rfl, rfl⟩ : r41 = -2 ∧ h = h41 := by
    rcases hp41 with ⟨-, e8, e9⟩ | ⟨e9, -⟩
    · exact ⟨e8, e9.symm⟩
    · rw [hh] at e9
      cases e9
  refine V.bipush (v := -2) X dL_nothingYet_44 (by decide) ?_
  refine V.icmp_ne 53 X dL_nothingYet_46 (by decide) (fun c46 => absurd rfl c46) (fun c46 => ?_)
  refine V.iconst (v := nI 1) X dL_nothingYet_49 (by decide) ?_
  refine V.goto 54 X dL_nothingYet_50 (by decide) ?_
  exact V.bret X Y9 dL_nothingYet_54 true rfl ⟨rfl, rfl⟩ (Nat.le_of_ble_eq_true rfl) (Nat.le_of_ble_eq_true rfl)
