/-! THE TALE: what all the tester's answers tell, in one long -/
def aC (c : Cmp) (i : Nat) : Int32 := atI (nI i) c.2.2.length (fun j => nI (wgt (c.2.2.getD j ([], [], [])))) (-1)
def aL (r : Xr) (i : Nat) : Int32 := atI (nI i) (xpc r) (fun j => nI (xsq r j).length) (-1)
def aS (r : Xr) (i : Nat) (z : Int32) : Int32 := if z < 0 then -1 else atI (nI i) (xpc r) (fun j => sqV (xsq r j) z) (-1)
def aE (c : Cmp) (r : Xr) (i : Nat) : Int32 := atI (nI i) (xpc r) (fun j => enb c (xss r j) c.2.2.length 0 (nI 0)) (-1)
def aF (r : Xr) (i : Nat) : Int32 := atI (nI i) (xfl r) (fun j => nI (xfs r j).length) (-1)
def aV (r : Xr) (i : Nat) : Int32 := atI (nI i) (xfl r) (fun j => nI (xvd r j)) (-1)
def aM (c : Cmp) (r : Xr) (i : Nat) : Int32 := atI (nI i) (xfl r) (fun j => nI (minC c (xvd r j) 8 (xfs r j)).length) (-1)
def tl0 (c : Cmp) (r : Xr) : Int64 := (nI c.2.2.length).toInt64 * 31 + (nI (cop c r 40 0)).toInt64 * 7 + (nI (xsk r)).toInt64 * 5 + (nI (xrd r)).toInt64 * 3 + (nI (xdr r)).toInt64
def tlP (c : Cmp) (r : Xr) (i : Nat) (a : Int64) : Int64 := a * 41 + (aL r i).toInt64 * 13 + (aS r i (aL r i)).toInt64 + (aE c r i).toInt64
def tlQ (r : Xr) (i : Nat) (a : Int64) : Int64 := a * 43 + (fnv r (nI i) (nI 0)).toInt64 * 7 + (fnv r (nI i) (nI 1)).toInt64 * 5 + (fnv r (nI i) (nI 2)).toInt64
def tlR (c : Cmp) (r : Xr) (i : Nat) (a : Int64) : Int64 := a * 47 + (aF r i).toInt64 * 11 + (aV r i).toInt64 * 3 + (aM c r i).toInt64
def tl1 (c : Cmp) : Nat → Nat → Int64 → Int64
  | 0, _, a => a
  | n + 1, i, a => tl1 c n (i + 1) (a * 37 + (aC c i).toInt64)
def tl2 (c : Cmp) (r : Xr) : Nat → Nat → Int64 → Int64
  | 0, _, a => a
  | n + 1, i, a => tl2 c r n (i + 1) (tlQ r i (tlP c r i a))
def tl3 (c : Cmp) (r : Xr) : Nat → Nat → Int64 → Int64
  | 0, _, a => a
  | n + 1, i, a => tl3 c r n (i + 1) (tlR c r i a)
def taleF (c : Cmp) (r : Xr) : Int64 := tl3 c r (xfl r) 0 (tl2 c r (xpc r) 0 (tl1 c 6 0 (tl0 c r)))
set_option maxHeartbeats 4000000 in
set_option maxRecDepth 100000 in
theorem c_L_tale (l : Launch) (G : GG) {h : Hp} {T : Nat} {t : List Nat} {z : Zt} (q0 : TX G h T t z) (q : Inv z.1 z.2.1) : Con l G yL_tale wsL_tale 9 206 0 0 [.ref T] h (pL (fun y h2 => y = taleF z.1 z.2.1 ∧ TX G h2 T t z)) := by
  refine Con.of (cc := cL_tale) (nL := 4) (ret := (some .long)) (by decide) rfl rfl rfl rfl (fun Γ hG hl X Y9 => ?_)
  subst hG
  subst hl
  obtain ⟨c, r, la, k, sx⟩ := z
  obtain ⟨d, C1⟩ := q0
  have C1 : CtAt (cxG Γ) h T d t c r la k sx := C1
  have q : Inv c r := q
  have hx40 := q.1.2.1
  have hf20 := q.1.2.2.1
  obtain ⟨a1, b1, -, -, ⟨⟨rs1, l1⟩, o1, v1, p1⟩, -, ys1, zs1, z1⟩ := id C1
  have l3 : ∀ (n j : Nat) (a : Int64) (h1 : Hp), j + n = xfl r → tl3 c r n j a = taleF c r → CtAt (cxG Γ) h1 T d t c r la k sx → V Γ 0 0 165 [(0, .ref T), (1, .long a), (3, .int (nI j))] [] h1 := by
    intro n
    induction n with
    | zero =>
      intro j a h1 g1 g2 C1
      have g2 : a = taleF c r := g2
      obtain ⟨a1, b1, -, -, ⟨⟨rs1, l1⟩, o1, v1, p1⟩, -, ys1, zs1, z1⟩ := id C1
      refine V.iload_n X dL_tale_165 rfl ?_
      refine V.aload_n X dL_tale_166 rfl ?_
      refine V.callVi (n := 0) X dL_tale_167 gL_tale_X11_failureCount (c_X11_failureCount _ _ a1.1 a1.2.2.2.1 l1) rfl (by decide +kernel) rfl rfl rfl a1.1 rfl rfl ⟨Nat.le_of_ble_eq_true rfl, Nat.le_of_ble_eq_true rfl⟩ (fun r167 h167 hp167 => ?_)
      obtain ⟨rfl, e9⟩ := hp167; obtain rfl := e9.symm
      refine V.icmp_ge 214 X dL_tale_170 (by decide) (fun c170 => ?_) (fun c170 => absurd (nI_le (show xfl r ≤ j by omega) (by omega)) c170)
      refine V.lload_n X dL_tale_214 rfl ?_
      exact V.lret X Y9 dL_tale_215 ⟨g2, d, C1⟩ (Nat.le_of_ble_eq_true rfl) (Nat.le_of_ble_eq_true rfl)
    | succ n ih =>
      intro j a h1 g1 g2 C1
      refine V.wf (fun w1 => ?_)
      obtain ⟨a1, b1, -, -, ⟨⟨rs1, l1⟩, o1, v1, p1⟩, -, ys1, zs1, z1⟩ := id C1
      refine V.iload_n X dL_tale_165 rfl ?_
      refine V.aload_n X dL_tale_166 rfl ?_
      refine V.callVi (n := 0) X dL_tale_167 gL_tale_X11_failureCount (c_X11_failureCount _ _ a1.1 a1.2.2.2.1 l1) rfl (by decide +kernel) rfl rfl rfl a1.1 rfl rfl ⟨Nat.le_of_ble_eq_true rfl, Nat.le_of_ble_eq_true rfl⟩ (fun r167 h167 hp167 => ?_)
      obtain ⟨rfl, e9⟩ := hp167; obtain rfl := e9.symm
      refine V.icmp_ge 214 X dL_tale_170 (by decide) (fun c170 => absurd c170 (nI_nle9 (show j < xfl r by omega) (by omega))) (fun c170 => ?_)
      refine V.lload_n X dL_tale_173 rfl ?_
      refine V.ldc2 (v := 47) X dL_tale_174 (by decide +kernel) ?_
      refine V.lmul X dL_tale_177 ?_
      refine V.aload_n X dL_tale_178 rfl ?_
      refine V.iload_n X dL_tale_179 rfl ?_
      refine V.callVi (n := 1) X dL_tale_180 gL_tale_X11_failureLength (c_X11_failureLength _ _ a1.1 a1.2.2.2.1 l1 q.1.2.2.1) rfl (by decide +kernel) rfl rfl rfl a1.1 rfl rfl ⟨Nat.le_of_ble_eq_true rfl, Nat.le_of_ble_eq_true rfl⟩ (fun r180 h180 hp180 => ?_)
      obtain ⟨rfl, e9⟩ := hp180; obtain rfl := e9.symm
      refine V.i2l X dL_tale_183 ?_
      refine V.ldc2 (v := 11) X dL_tale_184 (by decide +kernel) ?_
      refine V.lmul X dL_tale_187 ?_
      refine V.ladd X dL_tale_188 ?_
      refine V.aload_n X dL_tale_189 rfl ?_
      refine V.iload_n X dL_tale_190 rfl ?_
      refine V.callVi (n := 1) X dL_tale_191 gL_tale_X11_failureVerdict (c_X11_failureVerdict _ _ a1.1 a1.2.2.2.1 l1 q.1.2.2.1) rfl (by decide +kernel) rfl rfl rfl a1.1 rfl rfl ⟨Nat.le_of_ble_eq_true rfl, Nat.le_of_ble_eq_true rfl⟩ (fun r191 h191 hp191 => ?_)
      obtain ⟨rfl, e9⟩ := hp191; obtain rfl := e9.symm
      refine V.i2l X dL_tale_194 ?_
      refine V.ldc2 (v := 3) X dL_tale_195 (by decide +kernel) ?_
      refine V.lmul X dL_tale_198 ?_
      refine V.ladd X dL_tale_199 ?_
      refine V.aload_n X dL_tale_200 rfl ?_
      refine V.iload_n X dL_tale_201 rfl ?_
      refine V.callVi (n := 1) X dL_tale_202 gL_tale_X11_minimizedLength (c_X11_minimizedLength _ _ a1.1 a1.2.2.2.1 l1 v1 p1 b1 ⟨by omega, by omega⟩ (fun q z => CtP_z z) z1 q.1.2.2.1 q.2.2.2.2.1) rfl (by decide +kernel) rfl rfl rfl a1.1 rfl rfl ⟨Nat.le_of_ble_eq_true rfl, Nat.le_of_ble_eq_true rfl⟩ (fun r202 h202 hp202 => ?_)
      obtain ⟨rfl, f202, ys2, zs2, z202⟩ := hp202
      refine V.i2l X dL_tale_205 ?_
      refine V.ladd X dL_tale_206 ?_
      refine V.lstore_n X dL_tale_207 [(0, _), (1, _), (3, _)] rfl rfl rfl ?_
      refine V.iinc (v := nI (j + 1)) X dL_tale_208 [(0, _), (1, _), (3, _)] rfl (nI_1 j) rfl rfl rfl ?_
      refine V.goto 165 X dL_tale_211 (by decide) ?_
      exact ih (j + 1) _ _ (by omega) g2 (C1.scr w1 f202 z202)
  have l2 : ∀ (n j : Nat) (a : Int64), j + n = xpc r → tl3 c r (xfl r) 0 (tl2 c r n j a) = taleF c r → V Γ 0 0 75 [(0, .ref T), (1, .long a), (3, .int (nI j))] [] h := by
    intro n
    induction n with
    | zero =>
      intro j a g1 g2
      refine V.iload_n X dL_tale_75 rfl ?_
      refine V.aload_n X dL_tale_76 rfl ?_
      refine V.callVi (n := 0) X dL_tale_77 gL_tale_X11_poolSize (c_X11_poolSize _ _ a1.1 a1.2.2.2.1 l1) rfl (by decide +kernel) rfl rfl rfl a1.1 rfl rfl ⟨Nat.le_of_ble_eq_true rfl, Nat.le_of_ble_eq_true rfl⟩ (fun r77 h77 hp77 => ?_)
      obtain ⟨rfl, e9⟩ := hp77; obtain rfl := e9.symm
      refine V.icmp_ge 163 X dL_tale_80 (by decide) (fun c80 => ?_) (fun c80 => absurd (nI_le (show xpc r ≤ j by omega) (by omega)) c80)
      refine V.iconst (v := nI 0) X dL_tale_163 (by decide) ?_
      refine V.istore_n X dL_tale_164 [(0, _), (1, _), (3, _)] rfl rfl rfl ?_
      exact l3 (xfl r) 0 a h (Nat.zero_add _) g2 C1
    | succ n ih =>
      intro j a g1 g2
      refine V.iload_n X dL_tale_75 rfl ?_
      refine V.aload_n X dL_tale_76 rfl ?_
      refine V.callVi (n := 0) X dL_tale_77 gL_tale_X11_poolSize (c_X11_poolSize _ _ a1.1 a1.2.2.2.1 l1) rfl (by decide +kernel) rfl rfl rfl a1.1 rfl rfl ⟨Nat.le_of_ble_eq_true rfl, Nat.le_of_ble_eq_true rfl⟩ (fun r77 h77 hp77 => ?_)
      obtain ⟨rfl, e9⟩ := hp77; obtain rfl := e9.symm
      refine V.icmp_ge 163 X dL_tale_80 (by decide) (fun c80 => absurd c80 (nI_nle9 (show j < xpc r by omega) (by omega))) (fun c80 => ?_)
      refine V.lload_n X dL_tale_83 rfl ?_
      refine V.ldc2 (v := 41) X dL_tale_84 (by decide +kernel) ?_
      refine V.lmul X dL_tale_87 ?_
      refine V.aload_n X dL_tale_88 rfl ?_
      refine V.iload_n X dL_tale_89 rfl ?_
      refine V.callVi (n := 1) X dL_tale_90 gL_tale_X11_sequenceLength (c_X11_sequenceLength _ _ a1.1 a1.2.2.2.1 l1 q.1.2.1.2) rfl (by decide +kernel) rfl rfl rfl a1.1 rfl rfl ⟨Nat.le_of_ble_eq_true rfl, Nat.le_of_ble_eq_true rfl⟩ (fun r90 h90 hp90 => ?_)
      obtain ⟨rfl, e9⟩ := hp90; obtain rfl := e9.symm
      refine V.i2l X dL_tale_93 ?_
      refine V.ldc2 (v := 13) X dL_tale_94 (by decide +kernel) ?_
      refine V.lmul X dL_tale_97 ?_
      refine V.ladd X dL_tale_98 ?_
      refine V.aload_n X dL_tale_99 rfl ?_
      refine V.iload_n X dL_tale_100 rfl ?_
      refine V.aload_n X dL_tale_101 rfl ?_
      refine V.iload_n X dL_tale_102 rfl ?_
      refine V.callVi (n := 1) X dL_tale_103 gL_tale_X11_sequenceLength (c_X11_sequenceLength _ _ a1.1 a1.2.2.2.1 l1 q.1.2.1.2) rfl (by decide +kernel) rfl rfl rfl a1.1 rfl rfl ⟨Nat.le_of_ble_eq_true rfl, Nat.le_of_ble_eq_true rfl⟩ (fun r103 h103 hp103 => ?_)
      obtain ⟨rfl, e9⟩ := hp103; obtain rfl := e9.symm
      refine V.callVi (n := 2) X dL_tale_106 gL_tale_X11_sequenceCall (c_X11_sequenceCall _ _ a1.1 a1.2.2.2.1 l1 q.1.2.1.2) rfl (by decide +kernel) rfl rfl rfl a1.1 rfl rfl ⟨Nat.le_of_ble_eq_true rfl, Nat.le_of_ble_eq_true rfl⟩ (fun r106 h106 hp106 => ?_)
      obtain ⟨rfl, e9⟩ := hp106; obtain rfl := e9.symm
      refine V.i2l X dL_tale_109 ?_
      refine V.ladd X dL_tale_110 ?_
      refine V.aload_n X dL_tale_111 rfl ?_
      refine V.iload_n X dL_tale_112 rfl ?_
      refine V.callVi (n := 1) X dL_tale_113 gL_tale_X11_enabledMethods (c_X11_enabledMethods _ _ a1.1 a1.2.2.2.1 l1 v1 p1 q.1.2.1.2) rfl (by decide +kernel) rfl rfl rfl a1.1 rfl rfl ⟨Nat.le_of_ble_eq_true rfl, Nat.le_of_ble_eq_true rfl⟩ (fun r113 h113 hp113 => ?_)
      obtain ⟨rfl, e9⟩ := hp113; obtain rfl := e9.symm
      refine V.i2l X dL_tale_116 ?_
      refine V.ladd X dL_tale_117 ?_
      refine V.lstore_n X dL_tale_118 [(0, _), (1, _), (3, _)] rfl rfl rfl ?_
      refine V.lload_n X dL_tale_119 rfl ?_
      refine V.ldc2 (v := 43) X dL_tale_120 (by decide +kernel) ?_
      refine V.lmul X dL_tale_123 ?_
      refine V.aload_n X dL_tale_124 rfl ?_
      refine V.iload_n X dL_tale_125 rfl ?_
      refine V.iconst (v := nI 0) X dL_tale_126 (by decide) ?_
      refine V.callVi (n := 2) X dL_tale_127 gL_tale_X11_finalValue (c_X11_finalValue _ _ a1.1 a1.2.2.2.1 l1 q.1.2.1.2) rfl (by decide +kernel) rfl rfl rfl a1.1 rfl rfl ⟨Nat.le_of_ble_eq_true rfl, Nat.le_of_ble_eq_true rfl⟩ (fun r127 h127 hp127 => ?_)
      obtain ⟨rfl, e9⟩ := hp127; obtain rfl := e9.symm
      refine V.i2l X dL_tale_130 ?_
      refine V.ldc2 (v := 7) X dL_tale_131 (by decide +kernel) ?_
      refine V.lmul X dL_tale_134 ?_
      refine V.ladd X dL_tale_135 ?_
      refine V.aload_n X dL_tale_136 rfl ?_
      refine V.iload_n X dL_tale_137 rfl ?_
      refine V.iconst (v := nI 1) X dL_tale_138 (by decide) ?_
      refine V.callVi (n := 2) X dL_tale_139 gL_tale_X11_finalValue (c_X11_finalValue _ _ a1.1 a1.2.2.2.1 l1 q.1.2.1.2) rfl (by decide +kernel) rfl rfl rfl a1.1 rfl rfl ⟨Nat.le_of_ble_eq_true rfl, Nat.le_of_ble_eq_true rfl⟩ (fun r139 h139 hp139 => ?_)
      obtain ⟨rfl, e9⟩ := hp139; obtain rfl := e9.symm
      refine V.i2l X dL_tale_142 ?_
      refine V.ldc2 (v := 5) X dL_tale_143 (by decide +kernel) ?_
      refine V.lmul X dL_tale_146 ?_
      refine V.ladd X dL_tale_147 ?_
      refine V.aload_n X dL_tale_148 rfl ?_
      refine V.iload_n X dL_tale_149 rfl ?_
      refine V.iconst (v := nI 2) X dL_tale_150 (by decide) ?_
      refine V.callVi (n := 2) X dL_tale_151 gL_tale_X11_finalValue (c_X11_finalValue _ _ a1.1 a1.2.2.2.1 l1 q.1.2.1.2) rfl (by decide +kernel) rfl rfl rfl a1.1 rfl rfl ⟨Nat.le_of_ble_eq_true rfl, Nat.le_of_ble_eq_true rfl⟩ (fun r151 h151 hp151 => ?_)
      obtain ⟨rfl, e9⟩ := hp151; obtain rfl := e9.symm
      refine V.i2l X dL_tale_154 ?_
      refine V.ladd X dL_tale_155 ?_
      refine V.lstore_n X dL_tale_156 [(0, _), (1, _), (3, _)] rfl rfl rfl ?_
      refine V.iinc (v := nI (j + 1)) X dL_tale_157 [(0, _), (1, _), (3, _)] rfl (nI_1 j) rfl rfl rfl ?_
      refine V.goto 75 X dL_tale_160 (by decide) ?_
      exact ih (j + 1) _ (by omega) g2
  have l1x : ∀ (n j : Nat) (a : Int64), j + n = 6 → tl3 c r (xfl r) 0 (tl2 c r (xpc r) 0 (tl1 c n j a)) = taleF c r → V Γ 0 0 48 [(0, .ref T), (1, .long a), (3, .int (nI j))] [] h := by
    intro n
    induction n with
    | zero =>
      intro j a g1 g2
      refine V.iload_n X dL_tale_48 rfl ?_
      refine V.bipush (v := nI 6) X dL_tale_49 (by decide) ?_
      refine V.icmp_ge 73 X dL_tale_51 (by decide) (fun c51 => ?_) (fun c51 => absurd (nI_le (show 6 ≤ j by omega) (by omega)) c51)
      refine V.iconst (v := nI 0) X dL_tale_73 (by decide) ?_
      refine V.istore_n X dL_tale_74 [(0, _), (1, _), (3, _)] rfl rfl rfl ?_
      exact l2 (xpc r) 0 a (Nat.zero_add _) g2
    | succ n ih =>
      intro j a g1 g2
      refine V.iload_n X dL_tale_48 rfl ?_
      refine V.bipush (v := nI 6) X dL_tale_49 (by decide) ?_
      refine V.icmp_ge 73 X dL_tale_51 (by decide) (fun c51 => absurd c51 (nI_nle9 (show j < 6 by omega) (by omega))) (fun c51 => ?_)
      refine V.lload_n X dL_tale_54 rfl ?_
      refine V.ldc2 (v := 37) X dL_tale_55 (by decide +kernel) ?_
      refine V.lmul X dL_tale_58 ?_
      refine V.aload_n X dL_tale_59 rfl ?_
      refine V.iload_n X dL_tale_60 rfl ?_
      refine V.callVi (n := 1) X dL_tale_61 gL_tale_X11_complexity (c_X11_complexity _ _ a1.1 a1.2.2.2.1 l1 v1 p1) rfl (by decide +kernel) rfl rfl rfl a1.1 rfl rfl ⟨Nat.le_of_ble_eq_true rfl, Nat.le_of_ble_eq_true rfl⟩ (fun r61 h61 hp61 => ?_)
      obtain ⟨rfl, e9⟩ := hp61; obtain rfl := e9.symm
      refine V.i2l X dL_tale_64 ?_
      refine V.ladd X dL_tale_65 ?_
      refine V.lstore_n X dL_tale_66 [(0, _), (1, _), (3, _)] rfl rfl rfl ?_
      refine V.iinc (v := nI (j + 1)) X dL_tale_67 [(0, _), (1, _), (3, _)] rfl (nI_1 j) rfl rfl rfl ?_
      refine V.goto 48 X dL_tale_70 (by decide) ?_
      exact ih (j + 1) _ (by omega) g2
  refine V.aload_n X dL_tale_0 rfl ?_
  refine V.callVi (n := 0) X dL_tale_1 gL_tale_X11_methodCount (c_X11_methodCount _ _ a1.1 a1.2.2.2.1 l1 v1 p1) rfl (by decide +kernel) rfl rfl rfl a1.1 rfl rfl ⟨Nat.le_of_ble_eq_true rfl, Nat.le_of_ble_eq_true rfl⟩ (fun r1 h1 hp1 => ?_)
  obtain ⟨rfl, e9⟩ := hp1; obtain rfl := e9.symm
  refine V.i2l X dL_tale_4 ?_
  refine V.ldc2 (v := 31) X dL_tale_5 (by decide +kernel) ?_
  refine V.lmul X dL_tale_8 ?_
  refine V.aload_n X dL_tale_9 rfl ?_
  refine V.callVi (n := 0) X dL_tale_10 gL_tale_X11_openPairs (c_X11_openPairs _ _ a1.1 a1.2.2.2.1 l1 v1 p1 q.1) rfl (by decide +kernel) rfl rfl rfl a1.1 rfl rfl ⟨Nat.le_of_ble_eq_true rfl, Nat.le_of_ble_eq_true rfl⟩ (fun r10 h10 hp10 => ?_)
  obtain ⟨rfl, e9⟩ := hp10; obtain rfl := e9.symm
  refine V.i2l X dL_tale_13 ?_
  refine V.ldc2 (v := 7) X dL_tale_14 (by decide +kernel) ?_
  refine V.lmul X dL_tale_17 ?_
  refine V.ladd X dL_tale_18 ?_
  refine V.aload_n X dL_tale_19 rfl ?_
  refine V.callVi (n := 0) X dL_tale_20 gL_tale_X11_skippedPairs (c_X11_skippedPairs _ _ a1.1 a1.2.2.2.1 l1) rfl (by decide +kernel) rfl rfl rfl a1.1 rfl rfl ⟨Nat.le_of_ble_eq_true rfl, Nat.le_of_ble_eq_true rfl⟩ (fun r20 h20 hp20 => ?_)
  obtain ⟨rfl, e9⟩ := hp20; obtain rfl := e9.symm
  refine V.i2l X dL_tale_23 ?_
  refine V.ldc2 (v := 5) X dL_tale_24 (by decide +kernel) ?_
  refine V.lmul X dL_tale_27 ?_
  refine V.ladd X dL_tale_28 ?_
  refine V.aload_n X dL_tale_29 rfl ?_
  refine V.callVi (n := 0) X dL_tale_30 gL_tale_X11_redundantPairs (c_X11_redundantPairs _ _ a1.1 a1.2.2.2.1 l1) rfl (by decide +kernel) rfl rfl rfl a1.1 rfl rfl ⟨Nat.le_of_ble_eq_true rfl, Nat.le_of_ble_eq_true rfl⟩ (fun r30 h30 hp30 => ?_)
  obtain ⟨rfl, e9⟩ := hp30; obtain rfl := e9.symm
  refine V.i2l X dL_tale_33 ?_
  refine V.ldc2 (v := 3) X dL_tale_34 (by decide +kernel) ?_
  refine V.lmul X dL_tale_37 ?_
  refine V.ladd X dL_tale_38 ?_
  refine V.aload_n X dL_tale_39 rfl ?_
  refine V.callVi (n := 0) X dL_tale_40 gL_tale_X11_droppedPairs (c_X11_droppedPairs _ _ a1.1 a1.2.2.2.1 l1) rfl (by decide +kernel) rfl rfl rfl a1.1 rfl rfl ⟨Nat.le_of_ble_eq_true rfl, Nat.le_of_ble_eq_true rfl⟩ (fun r40 h40 hp40 => ?_)
  obtain ⟨rfl, e9⟩ := hp40; obtain rfl := e9.symm
  refine V.i2l X dL_tale_43 ?_
  refine V.ladd X dL_tale_44 ?_
  refine V.lstore_n X dL_tale_45 [(0, _), (1, _)] rfl rfl rfl ?_
  refine V.iconst (v := nI 0) X dL_tale_46 (by decide) ?_
  refine V.istore_n X dL_tale_47 [(0, _), (1, _), (3, _)] rfl rfl rfl ?_
  exact l1x 6 0 _ (Nat.zero_add _) rfl
