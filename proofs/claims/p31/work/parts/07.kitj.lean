/-! ROWS FOR THE JDK'S OWN METHODS -/
def Hset (h : Hp) (a : Nat) (w : Nat → Value) : Hp := (h.1, h.2.1, fun b j => if b = a then w j else h.2.2 b j)
theorem Hz_set (h : Hp) (a : Nat) (w : Nat → Value) : Hz (Hset h a w) = Hz h := rfl
theorem Hk_set (h : Hp) (a : Nat) (w : Nat → Value) (b : Nat) : Hk (Hset h a w) b = Hk h b := rfl
theorem Hv_set (h : Hp) (a : Nat) (w : Nat → Value) (b j : Nat) : Hv (Hset h a w) b j = if b = a then w j else Hv h b j := rfl
theorem Rep.setA {G : GG} {h : Hp} {H H1 : Heap} (R : Rep G h H) {a t n : Nat} {w : Nat → Value} (z : H1.size = H.size) (o : ∀ q : Nat, q ≠ a → H1[q]? = H[q]?) (hk : Hk h a = some (.inr (t, n))) (har : H1[a]? = some (arrV (gA G t) n w)) : Rep G (Hset h a w) H1 := by
  have eV : ∀ b, Hv (Hset h a w) b = if b = a then w else Hv h b := by
    intro b
    funext j
    rw [Hv_set]
    by_cases hb : b = a <;> simp [hb]
  refine ⟨z.trans R.1, fun b ci hb => ?_, fun b t' n' hb => ?_⟩
  · rw [Hk_set] at hb
    obtain ⟨h1, r, h2, h3⟩ := R.2.1 b ci hb
    refine ⟨h1, r, h2, ?_⟩
    rw [eV]
    have hba : ¬ b = a := fun e => by rw [e, hk] at hb; cases hb
    rw [if_neg hba]
    exact h3.kept (o b hba)
  · rw [Hk_set] at hb
    obtain ⟨h1, h2, h3⟩ := R.2.2 b t' n' hb
    refine ⟨h1, h2, ?_⟩
    rw [eV]
    by_cases hba : b = a
    · subst hba
      rw [if_pos rfl]
      rw [hk] at hb
      cases hb
      exact har
    · rw [if_neg hba, o b hba]
      exact h3
section VJ
variable {Γ : Cx} {cc : ByteArray} {nL : Nat} {own : String} {Ts : List Cond} {F lo mc ms kc ks pc : Nat} {L : List (Nat × Value)} {st : List Value} {h : Hp}
theorem Bx.gS (X : Bx Γ cc nL own Ts F lo mc ms) : gS (cxG Γ) = .null ∨ ∃ t : Nat, gS (cxG Γ) = .ref t := by
  obtain ⟨p, l, e, R, s, m, args, below, meth, c, G, Q⟩ := Γ
  exact X.2.2.1.2.2.2.2.1
theorem V.i2b (X : Bx Γ cc nL own Ts F lo mc ms) (hd : decode cc pc = .ok (.i2b, 1)) {x v : Int32} (hv : x.toInt8.toInt32 = v) (kk : V Γ kc ks (pc + 1) L (.int v :: st) h) : V Γ kc ks pc L (.int x :: st) h := by
  obtain ⟨p, l, e, R, s, m, args, below, meth, c, G, Q⟩ := Γ
  intro H locs ls hR hS hl hc
  exact lv_i2b X.1.1 X.1.2.1 hd hv (kk H locs ls hR hS hl hc)
theorem V.ldcI (X : Bx Γ cc nL own Ts F lo mc ms) {idx : Nat} {v : Int32} (hd : decode cc pc = .ok (.ldc idx, 2)) (hco : Cond.constant own idx v ∈ Ts) (kk : V Γ kc ks (pc + 2) L (.int v :: st) h) : V Γ kc ks pc L st h := by
  obtain ⟨p, l, e, R, s, m, args, below, meth, c, G, Q⟩ := Γ
  intro H locs ls hR hS hl hc
  exact lv_ldc X.1.1 X.1.2.1 X.1.2.2.2.1 (X.1.2.2.2.2 _ hco) hd (kk H locs ls hR hS hl hc)
theorem V.gets (X : Bx Γ cc nL own Ts F lo mc ms) {idx : Nat} {C n d : String} {v : GG → Value} (hd : decode cc pc = .ok (.getstatic idx, 3)) (hZ : ∀ (G : GG) (s : State), Glob G s s.heap → va_Z C n d (v G) (arena G) s s.heap) (hlk : Cond.fieldLink own idx C n d ∈ Ts) (kk : V Γ kc ks (pc + 3) L (v (cxG Γ) :: st) h) : V Γ kc ks pc L st h := by
  obtain ⟨p, l, e, R, s, m, args, below, meth, c, G, Q⟩ := Γ
  obtain ⟨⟨hexec, hb, hml, hown, hts⟩, hK, hG, hRm, hB⟩ := X
  intro H locs ls hR hS hl hc
  exact va_gets hexec hb (hZ G s hG) hS hown (hts _ hlk) (fun _ h => h) hd (kk H locs ls hR hS hl hc)
theorem V.max (X : Bx Γ cc nL own Ts F lo mc ms) {idx : Nat} {x y : Int32} (hd : decode cc pc = .ok (.invokestatic idx, 3)) (h1 : Cond.methodLink own idx Lib.Math.max.name ∈ Ts) (h2 : Cond.static Lib.Math.max.name ∈ Ts) (h3 : Cond.initialized "java/lang/Math" ∈ Ts) (h4 : Cond.code Lib.Math.max.name Lib.Math.max.code 2 (some .int) ∈ Ts) (hrm : (Nat.ble 1 F && Nat.ble ((st.map fun v => v.category).sum + 13) lo) = true) (hc : kc ≤ mc ∧ ks ≤ ms) (kk : V Γ kc ks (pc + 3) L (.int (if x < y then y else x) :: st) h) : V Γ kc ks pc L (.int y :: .int x :: st) h := by
  obtain ⟨p, l, e, R, s, m, args, below, meth, c, G, Q⟩ := Γ
  obtain ⟨⟨hexec, hb, hml, hown, hts⟩, hK, hG, hRm, hB⟩ := X
  intro H locs ls hR hS hl hcat
  subst hRm
  rw [Bool.and_eq_true] at hrm
  exact va_mmax hexec hb hl.1.symm hown (hts _ h1) (hts _ h2) (hts _ h3) (hts _ h4) (Nat.le_of_ble_eq_true hrm.1) (Nat.le_of_ble_eq_true hrm.2) hc.1 hc.2 hd (kk H locs ls hR hS hl hcat)
theorem V.min (X : Bx Γ cc nL own Ts F lo mc ms) {idx : Nat} {x y : Int32} (hd : decode cc pc = .ok (.invokestatic idx, 3)) (h1 : Cond.methodLink own idx Lib.Math.min.name ∈ Ts) (h2 : Cond.static Lib.Math.min.name ∈ Ts) (h3 : Cond.initialized "java/lang/Math" ∈ Ts) (h4 : Cond.code Lib.Math.min.name Lib.Math.min.code 2 (some .int) ∈ Ts) (hrm : (Nat.ble 1 F && Nat.ble ((st.map fun v => v.category).sum + 13) lo) = true) (hc : kc ≤ mc ∧ ks ≤ ms) (kk : V Γ kc ks (pc + 3) L (.int (if y < x then y else x) :: st) h) : V Γ kc ks pc L (.int y :: .int x :: st) h := by
  obtain ⟨p, l, e, R, s, m, args, below, meth, c, G, Q⟩ := Γ
  obtain ⟨⟨hexec, hb, hml, hown, hts⟩, hK, hG, hRm, hB⟩ := X
  intro H locs ls hR hS hl hcat
  subst hRm
  rw [Bool.and_eq_true] at hrm
  exact va_mmin hexec hb hl.1.symm hown (hts _ h1) (hts _ h2) (hts _ h3) (hts _ h4) (Nat.le_of_ble_eq_true hrm.1) (Nat.le_of_ble_eq_true hrm.2) hc.1 hc.2 hd (kk H locs ls hR hS hl hcat)
theorem V.acmp_eq (X : Bx Γ cc nL own Ts F lo mc ms) {a b : Nat} {off : Int} (tgt : Nat) (hd : decode cc pc = .ok (.if_acmp .eq off, 3)) (ht : (pc : Int) + off = (tgt : Int)) (kt : a = b → V Γ kc ks tgt L st h) (kf : ¬ a = b → V Γ kc ks (pc + 3) L st h) : V Γ kc ks pc L (.ref b :: .ref a :: st) h := by
  obtain ⟨p, l, e, R, s, m, args, below, meth, c, G, Q⟩ := Γ
  intro H locs ls hR hS hl hc
  exact lv_acmp_eq (rx := some a) (ry := some b) X.1.1 X.1.2.1 hd ht (fun q => kt (Option.some.inj q) H locs ls hR hS hl hc) (fun q => kf (fun z => q (by rw [z])) H locs ls hR hS hl hc)
/-- bytes copied from a row's begin to another row's begin -/
theorem V.copyB (X : Bx Γ cc nL own Ts F lo mc ms) {idx a0 a n0 n1 m9 : Nat} {n : Int32} (hd : decode cc pc = .ok (.invokestatic idx, 3)) (g1 : Cond.methodLink own idx arraycopyName ∈ Ts) (g2 : Cond.native arraycopyName ∈ Ts) (g3 : Cond.static arraycopyName ∈ Ts) (g4 : Cond.initialized "java/lang/System" ∈ Ts) (hk0 : Hk h a0 = some (.inr (1, n0))) (hk1 : Hk h a = some (.inr (1, n1))) (hn : n = nI m9) (hb0 : m9 ≤ n0) (hb1 : m9 ≤ n1) (hb2 : m9 < 2 ^ 31) (hf : ∀ i, i < m9 → ∃ z : Int32, Hv h a0 i = .int z ∧ fits .byte (.int z) = true) (hrm : (Nat.ble 1 F && Nat.ble ((st.map fun v => v.category).sum + (nativeFrameWords "java/lang/System" "arraycopy" 5 + 11)) lo) = true)
    (kk : V Γ kc ks (pc + 3) L st (Hset h a (va_cpy (Hv h a0) (Hv h a) 0 0 m9))) : V Γ kc ks pc L (.int n :: .int (nI 0) :: .ref a :: .int (nI 0) :: .ref a0 :: st) h := by
  obtain ⟨p, l, e, R, s, m, args, below, meth, c, G, Q⟩ := Γ
  obtain ⟨⟨hexec, hb, hml, hown, hts⟩, hK, hG, hRm, hB⟩ := X
  intro H locs ls hR hS hl hcat
  subst hRm
  subst hn
  rw [Bool.and_eq_true] at hrm
  obtain ⟨r1, r2, hc0⟩ := hR.2.2 a0 1 n0 hk0
  obtain ⟨r3, r4, hc1⟩ := hR.2.2 a 1 n1 hk1
  obtain ⟨-, k0, hkk0, cm0, hq0⟩ := (hK.2 1 _ (tysG_at G (by decide))).1 n0 (Hv h a0)
  obtain ⟨-, k1, hkk1, cm1, hq1⟩ := (hK.2 1 _ (tysG_at G (by decide))).1 n1 (Hv h a)
  have e0 : (nI 0).toNatClampNeg = 0 := nI_clamp (by decide)
  have em : (nI m9).toNatClampNeg = m9 := nI_clamp hb2
  intro T hT X
  obtain ⟨vm', X', step⟩ := X.arraycopy hexec hown (hts _ g1) (hts _ g2) (hts _ g3) (hts _ g4) (src := a0) (dst := a) (cs := arrV (gA G 1) n0 (Hv h a0)) (cd := arrV (gA G 1) n1 (Hv h a)) (srcPos := nI 0) (destPos := nI 0) (n := nI m9) (by rw [hT]; exact hc0) (by rw [hT]; exact hc1)
    (fun _ h => by cases h) (fun _ h => by cases h) (fun h => by cases h) (fun h => by cases h) hkk0 hkk1 hq0 hq1 (by simp [refKind]) (nI_pos (by decide)) (nI_pos (by decide)) (nI_pos hb2)
    (by rw [nI_toInt (by decide), nI_toInt hb2, arrV_size]; omega)
    (by rw [nI_toInt (by decide), nI_toInt hb2, arrV_size]; omega)
    (fun vm₁ _ i hi => by
      rw [em] at hi
      obtain ⟨z, hz, hfz⟩ := hf i hi
      have e9 : (arrV (gA G 1) n0 (Hv h a0)).slots.getD ((nI 0).toNatClampNeg + i) .null = .int z := by
        rw [e0, Nat.zero_add, Array.getD_eq_getD_getElem?, arrV_read _ _ (by omega), hz]
        rfl
      refine ⟨?_, ?_⟩
      · rw [e9]
        exact hfz
      · rw [e9]
        exact trivial)
    (g := F0 m pc ls (.int (nI m9) :: .int (nI 0) :: .ref a :: .int (nI 0) :: .ref a0 :: st)) rfl hl.1 (rest := st) rfl (by rw [hb]; exact hd) (Nat.le_of_ble_eq_true hrm.1) (by have := Nat.le_of_ble_eq_true hrm.2; show 2 * 0 + _ + _ ≤ lo; omega)
  have e1 : copied (arrV (gA G 1) n0 (Hv h a0)) (arrV (gA G 1) n1 (Hv h a)) (nI 0) (nI 0) (nI m9) = arrV (gA G 1) n1 (va_cpy (Hv h a0) (Hv h a) 0 0 m9) := by
    have e2 := va_copiedX (fun z => z) (arrV (gA G 1) n0 (Hv h a0)) (gA G 1) (n0 := n0) (n1 := n1) (sp := 0) (dp := 0) (n := m9) (Hv h a0) (Hv h a) (fun j hj => arrV_read _ _ hj) (by omega)
    show (arrV (gA G 1) n1 (Hv h a)).storeRun (nI 0).toNatClampNeg ((arrV (gA G 1) n0 (Hv h a0)).stretch (nI 0).toNatClampNeg (nI m9).toNatClampNeg) = _
    rw [e0, em]
    exact e2
  rw [e1] at X' step
  have hlt : a < H.size := (Array.getElem?_eq_some_iff.mp hc1).1
  have hheap : ((T.setVm vm').setCell a (arrV (gA G 1) n1 (va_cpy (Hv h a0) (Hv h a) 0 0 m9))).heap = H.setIfInBounds a (arrV (gA G 1) n1 (va_cpy (Hv h a0) (Hv h a) 0 0 m9)) := by rw [← hT]; rfl
  have oq : ∀ q : Nat, q ≠ a → (H.setIfInBounds a (arrV (gA G 1) n1 (va_cpy (Hv h a0) (Hv h a) 0 0 m9)))[q]? = H[q]? := fun q hq => by simp [Array.getElem?_setIfInBounds, Ne.symm hq]
  obtain ⟨t, a1, b1⟩ := kk _ _ ls (hR.setA (H1 := H.setIfInBounds a (arrV (gA G 1) n1 (va_cpy (Hv h a0) (Hv h a) 0 0 m9))) (by simp) oq hk1 (by simp [Array.getElem?_setIfInBounds, hlt])) ⟨by simp; exact hS.1, fun q g1 g2 => by
      rw [oq q (fun e => g2 (by rw [e]; exact r3))]
      exact hS.2.1 q g1 g2, fun q hq => by
      rcases List.mem_append.mp hq with h | h
      · exact hS.2.2 q h
      · obtain ⟨z, -, hz⟩ := List.mem_map.mp h
        rw [← hz]
        exact r3⟩ hl hcat _ hheap X'
  exact ⟨t, step t a1, b1⟩
/-! string constants -/
theorem V.ldcS (X : Bx Γ cc nL RX5 Ts F lo mc ms) {idx i : Nat} (hd : decode cc pc = .ok (.ldc idx, 2)) (hi : i < 7) (hx : idxS.getD i 0 = idx) (kk : V Γ kc ks (pc + 2) L (.ref (gK (cxG Γ) i) :: st) h) : V Γ kc ks pc L st h := by
  obtain ⟨p, l, e, R, s, m, args, below, meth, c, G, Q⟩ := Γ
  obtain ⟨⟨hexec, hb, hml, hown, hts⟩, hK, hG, hRm, hB⟩ := X
  intro H locs ls hR hS hl hc
  subst hx
  exact va_ldcS hexec hb hown (hG.2.2.2.2.2.2.1 i hi) hd (kk H locs ls hR hS hl hc)
theorem V.getK (X : Bx Γ cc nL own Ts F lo mc ms) {idx i : Nat} {n d : String} {v : GG → Value} (hd : decode cc pc = .ok (.getfield idx, 3)) (hO : ∀ (G : GG) (s : State), Glob G s s.heap → va_OF "java/lang/String" n d (v G) (gK G i) (arena G) s s.heap) (hlk : Cond.fieldLink own idx "java/lang/String" n d ∈ Ts) (kk : V Γ kc ks (pc + 3) L (v (cxG Γ) :: st) h) : V Γ kc ks pc L (.ref (gK (cxG Γ) i) :: st) h := by
  obtain ⟨p, l, e, R, s, m, args, below, meth, c, G, Q⟩ := Γ
  obtain ⟨⟨hexec, hb, hml, hown, hts⟩, hK, hG, hRm, hB⟩ := X
  intro H locs ls hR hS hl hc
  obtain ⟨cf, k, fi, f, cell, q1, q2, q3, q4, q5, q6⟩ := hO G s hG
  have hlt := (Array.getElem?_eq_some_iff.mp q3).1
  exact W.getf hexec hb hown (hts _ hlk) q1 q2 (a := gK G i) (by rw [hS.2.1 _ hlt q6]; exact q3) q4 (v := v G) q5 rfl rfl hd (kk H locs ls hR hS hl hc)
theorem V.alenT (X : Bx Γ cc nL own Ts F lo mc ms) {ty : FieldType} {t : GG → Nat} {N : Nat} {f : Nat → Value} (hd : decode cc pc = .ok (.arraylength, 1)) (hT : ∀ (G : GG) (s : State), Glob G s s.heap → va_T ty (t G) N f (arena G) s s.heap) (kk : V Γ kc ks (pc + 1) L (.int (nI N) :: st) h) : V Γ kc ks pc L (.ref (t (cxG Γ)) :: st) h := by
  obtain ⟨p, l, e, R, s, m, args, below, meth, c, G, Q⟩ := Γ
  obtain ⟨⟨hexec, hb, hml, hown, hts⟩, hK, hG, hRm, hB⟩ := X
  intro H locs ls hR hS hl hc
  exact va_tlen hexec hb (hT G s hG) hS (v := nI N) rfl hd (kk H locs ls hR hS hl hc)
theorem V.baldT (X : Bx Γ cc nL own Ts F lo mc ms) {t : GG → Nat} {N j : Nat} {f : Nat → Value} {i : Int32} (hd : decode cc pc = .ok (.baload, 1)) (hT : ∀ (G : GG) (s : State), Glob G s s.heap → va_T .byte (t G) N f (arena G) s s.heap) (hi : i = nI j) (hj : j < N) (hN : N < 2 ^ 31) (kk : V Γ kc ks (pc + 1) L (f j :: st) h) : V Γ kc ks pc L (.int i :: .ref (t (cxG Γ)) :: st) h := by
  obtain ⟨p, l, e, R, s, m, args, below, meth, c, G, Q⟩ := Γ
  obtain ⟨⟨hexec, hb, hml, hown, hts⟩, hK, hG, hRm, hB⟩ := X
  intro H locs ls hR hS hl hc
  subst hi
  obtain ⟨cell, q1, q2, q3, q4, q5, q6, q7⟩ := hT G s hG
  have hlt := (Array.getElem?_eq_some_iff.mp q1).1
  have ej : (nI j).toNatClampNeg = j := nI_clamp (by omega)
  exact W.bald (v := f j) (a := t G) hexec hb (by rw [hS.2.1 _ hlt q7]; exact q1) q2 q3 (fun z => z.elim (fun z => nI_pos (by omega) z) (fun z => by rw [ej] at z; omega)) (by rw [ej]; exact q6 j hj) rfl rfl hd (kk H locs ls hR hS hl hc)
theorem V.callVK (X : Bx Γ cc nL own Ts F lo mc ms) {idx i n : Nat} {y : MethodName} {bytes : ByteArray} {maxL F' lo' mc' ms' : Nat} {ret : Option FieldType} {ws ws' : List Cond} {As st0 rest : List Value} {post : Int32 → Hp → Prop} (hd : decode cc pc = .ok (.invokevirtual idx, 3)) (hT : GoodIn Ts (wsV own idx "java/lang/String" y ws)) (hM : Con (cxL Γ) (cxG Γ) y ws F' lo' mc' ms' (.ref (gK (cxG Γ) i) :: As) h (pI post)) (hi : i < 7) (hw : ws = Cond.code y bytes maxL ret :: ws') (hy : y.cls = "java/lang/String" ∧ y.cls ≠ "java/lang/invoke/MethodHandle" ∧ y.cls ≠ "java/lang/invoke/VarHandle" ∧ (parseMethodDescriptor y.desc).map (fun d => d.parameters.length) = some n) (hst : st0 = As.reverse ++ .ref (gK (cxG Γ) i) :: rest) (hn : Nat.beq As.length n = true) (hrm : (Nat.ble (F' + 1) F && Nat.ble (8 + (maxL + 11) + lo') lo && Nat.ble (2 * 0 + (rest.map fun v => v.category).sum) 8) = true) (hf : kc + mc' ≤ mc ∧ ks + ms' ≤ ms)
    (kk : ∀ (r9 : Int32) (h' : Hp), post r9 h' → V Γ (kc + mc') (ks + ms') (pc + 3) L (.int r9 :: rest) h') : V Γ kc ks pc L st0 h := by
  obtain ⟨p, l, e, R, s, m, args, below, meth, c, G, Q⟩ := Γ
  obtain ⟨hfix, hK, hG, hRm, hB⟩ := X
  intro H locs ls hR hS hl hcat
  subst hRm
  rw [Bool.and_eq_true, Bool.and_eq_true] at hrm
  obtain ⟨cell, g1, g2, g3, g4⟩ := (hG.2.2.2.2.2.1.1 i hi).1
  have hlt := (Array.getElem?_eq_some_iff.mp g1).1
  refine run_W (rest := rest) (G := G) (post := pI post) (va_runV (C := "java/lang/String") hfix hM (cwV n hfix.2.2.2.2 hT hw rfl rfl hy ⟨Nat.le_of_ble_eq_true hrm.1.1, Nat.le_of_ble_eq_true hrm.1.2⟩) ⟨pc_blind, ⟨cell, by rw [← g1]; exact hS.2.1 _ hlt g4, g2, g3⟩, fun U hU hW => pc_at hR hK hG hB hS hU hW⟩ rfl (Nat.eq_of_beq_eq_true hn) (by rw [← hfix.2.2.1]; exact hl.1) hst (Nat.le_of_ble_eq_true hrm.2) hd hf) hS (fun v h' H1 locs1 hp hR1 hS1 => ?_)
  obtain ⟨r9, rfl, hp⟩ := hp
  exact kk r9 h' hp H1 locs1 ls hR1 hS1 hl hcat
theorem V.callVKg (X : Bx Γ cc nL own Ts F lo mc ms) {idx i n : Nat} {y : MethodName} {bytes : ByteArray} {maxL F' lo' mc' ms' : Nat} {ret : Option FieldType} {ws ws' : List Cond} {As st0 rest : List Value} {post : Option Value → Hp → Prop} (hd : decode cc pc = .ok (.invokevirtual idx, 3)) (hT : GoodIn Ts (wsV own idx "java/lang/String" y ws)) (hM : Con (cxL Γ) (cxG Γ) y ws F' lo' mc' ms' (.ref (gK (cxG Γ) i) :: As) h post) (hi : i < 7) (hw : ws = Cond.code y bytes maxL ret :: ws') (hy : y.cls = "java/lang/String" ∧ y.cls ≠ "java/lang/invoke/MethodHandle" ∧ y.cls ≠ "java/lang/invoke/VarHandle" ∧ (parseMethodDescriptor y.desc).map (fun d => d.parameters.length) = some n) (hst : st0 = As.reverse ++ .ref (gK (cxG Γ) i) :: rest) (hn : Nat.beq As.length n = true) (hrm : (Nat.ble (F' + 1) F && Nat.ble (8 + (maxL + 11) + lo') lo && Nat.ble (2 * 0 + (rest.map fun v => v.category).sum) 8) = true) (hf : kc + mc' ≤ mc ∧ ks + ms' ≤ ms)
    (kk : ∀ (v9 : Option Value) (h' : Hp), post v9 h' → V Γ (kc + mc') (ks + ms') (pc + 3) L (v9.toList ++ rest) h') : V Γ kc ks pc L st0 h := by
  obtain ⟨p, l, e, R, s, m, args, below, meth, c, G, Q⟩ := Γ
  obtain ⟨hfix, hK, hG, hRm, hB⟩ := X
  intro H locs ls hR hS hl hcat
  subst hRm
  rw [Bool.and_eq_true, Bool.and_eq_true] at hrm
  obtain ⟨cell, g1, g2, g3, g4⟩ := (hG.2.2.2.2.2.1.1 i hi).1
  have hlt := (Array.getElem?_eq_some_iff.mp g1).1
  refine run_W (rest := rest) (G := G) (post := post) (va_runV (C := "java/lang/String") hfix hM (cwV n hfix.2.2.2.2 hT hw rfl rfl hy ⟨Nat.le_of_ble_eq_true hrm.1.1, Nat.le_of_ble_eq_true hrm.1.2⟩) ⟨pc_blind, ⟨cell, by rw [← g1]; exact hS.2.1 _ hlt g4, g2, g3⟩, fun U hU hW => pc_at hR hK hG hB hS hU hW⟩ rfl (Nat.eq_of_beq_eq_true hn) (by rw [← hfix.2.2.1]; exact hl.1) hst (Nat.le_of_ble_eq_true hrm.2) hd hf) hS (fun v h' H1 locs1 hp hR1 hS1 => ?_)
  exact kk v h' hp H1 locs1 ls hR1 hS1 hl hcat
end VJ
theorem nI_sub9 {a b : Nat} (h : b ≤ a) : nI a - nI b = nI (a - b) := by
  have e : nI a = nI (a - b) + nI b := by rw [nI_add, Nat.sub_add_cancel h]
  rw [e, Int32.add_sub_cancel]
theorem nI_nle9 {a b : Nat} (h : b < a) (ha : a < 2 ^ 31) : ¬ nI a ≤ nI b := nI_ge h ha
theorem nI_subn {a b : Nat} (h : a ≤ b) (hb : b < 2 ^ 31) : nI a - nI b ≤ 0 := by
  rw [Int32.le_iff_toInt_le, Int32.toInt_sub, nI_toInt (by omega), nI_toInt hb]
  have e : (((a : Int) - (b : Int)).bmod (2 ^ 32)) = (a : Int) - (b : Int) := by
    rw [Int.bmod_eq_of_le] <;> omega
  rw [e]
  show (a : Int) - b ≤ 0
  omega
/-! StringBuilder: the object at a, its bytes at d, its text t -/
def SbAt (h : Hp) (a d : Nat) (t : List Nat) : Prop := ∃ N : Nat, Hk h a = some (.inl 0) ∧ Hv h a 0 = .ref d ∧ Hv h a 1 = .int (nI 0) ∧ Hv h a 3 = .int (nI t.length) ∧ Hk h d = some (.inr (1, N)) ∧ t.length ≤ N ∧ (16 ≤ N ∧ N ≤ 402) ∧ (∀ i, i < t.length → Hv h d i = .int (sb_b (t.getD i 0))) ∧ (∀ i, i < t.length → t.getD i 0 < 256) ∧ (∀ j, j < N → ∃ z : Int32, Hv h d j = .int z ∧ fits .byte (.int z) = true)
theorem SbAt.ob {h : Hp} {a d : Nat} {t : List Nat} (h1 : SbAt h a d t) : Hk h a = some (.inl 0) := by
  obtain ⟨N, k0, -⟩ := h1
  exact k0
theorem SbAt.lt {h : Hp} {a d : Nat} {t : List Nat} (h1 : SbAt h a d t) : ∀ i, i < t.length → t.getD i 0 < 256 := by
  obtain ⟨N, k0, k1, k2, k3, k4, k5, k6, k7, k8, k9⟩ := h1
  exact k8
theorem shr0 (N : Nat) : nI N >>> (nI 0 &&& 31) = nI N := by
  have e : (nI 0 &&& 31 : Int32) = 0 := by decide
  rw [e]
  exact Int32.shiftRight_zero
theorem shl0 (N : Nat) : nI N <<< (nI 0 &&& 31) = nI N := by
  have e : (nI 0 &&& 31 : Int32) = 0 := by decide
  rw [e]
  exact Int32.shiftLeft_zero
theorem sb_c2 {c : Nat} (h : c < 256) : (((sb_b c) &&& nI 255).toUInt32 % 65536).toInt32 = nI c := by
  have k : ∀ c, c < 256 → (((sb_b c) &&& nI 255).toUInt32 % 65536).toInt32 = nI c := by decide +kernel
  exact k c h
theorem nar_ch {c : Nat} (h : c < 256) : narrow .char (.int (nI c)) = .int (nI c) := by
  have k : ∀ c, c < 256 → vp_nar .char (nI c) = nI c := by decide +kernel
  have k2 := k c h
  unfold vp_nar at k2
  have k3 : ∃ y, narrow .char (.int (nI c)) = .int y := ⟨_, rfl⟩
  obtain ⟨y, hy⟩ := k3
  rw [hy] at k2 ⊢
  rw [show y = nI c from k2]
theorem fit_b {c : Nat} (h : c < 256) : fits .byte (.int (sb_b c)) = true := by
  have k : ∀ c, c < 256 → fits .byte (.int (sb_b c)) = true := by decide +kernel
  exact k c h
theorem fit_b0 : fits .byte (.int 0) = true := by decide +kernel
/-- a well made heap: what is known lies below its size -/
def WF (h : Hp) : Prop := ∀ a t, Hk h a = some t → a < Hz h
theorem Rep.wf {G : GG} {h : Hp} {H : Heap} (R : Rep G h H) : WF h := fun a t q => by rw [← R.1]; exact R.lt q
theorem V.wf {Γ : Cx} {kc ks pc : Nat} {L : List (Nat × Value)} {st : List Value} {h : Hp} (kk : WF h → V Γ kc ks pc L st h) : V Γ kc ks pc L st h := by
  obtain ⟨p, l, e, R, s, m, args, below, meth, c, G, Q⟩ := Γ
  intro H locs ls hR hS hl hc
  exact kk hR.wf H locs ls hR hS hl hc
theorem V.wfE {Γ : Cx} {cc : ByteArray} {nL : Nat} {own : String} {Ts : List Cond} {F lo mc ms : Nat} (X : Bx Γ cc nL own Ts F lo mc ms) {kc ks pc : Nat} {L : List (Nat × Value)} {st : List Value} {h : Hp} (kk : gE (cxG Γ) < Hz h → V Γ kc ks pc L st h) : V Γ kc ks pc L st h := by
  obtain ⟨p, l, e, R, s, m, args, below, meth, c, G, Q⟩ := Γ
  obtain ⟨hfix, hK, hG, hRm, hB⟩ := X
  intro H locs ls hR hS hl hc
  refine kk ?_ H locs ls hR hS hl hc
  obtain ⟨cell, -, -, -, -, -, -, h7⟩ := hG.2.2.1
  have h8 : ¬ gB G ≤ gE G := h7
  have h9 : s.heap.size ≤ H.size := hS.1
  have h10 := hR.1
  show gE G < Hz h
  omega
/-- what a method leaves alone: all cells that were there but those of S; kinds never change -/
def Fr (S : Nat → Prop) (h h' : Hp) : Prop := Hz h ≤ Hz h' ∧ (∀ a, a < Hz h → Hk h' a = Hk h a) ∧ ∀ a, a < Hz h → ¬ S a → ∀ k, Hv h' a k = Hv h a k
theorem Fr.rf {S : Nat → Prop} {h : Hp} : Fr S h h := ⟨Nat.le_refl _, fun _ _ => rfl, fun _ _ _ _ => rfl⟩
theorem Fr.tr {S : Nat → Prop} {h h1 h2 : Hp} (a : Fr S h h1) (b : Fr S h1 h2) : Fr S h h2 :=
  ⟨Nat.le_trans a.1 b.1, fun q hq => (b.2.1 q (Nat.lt_of_lt_of_le hq a.1)).trans (a.2.1 q hq), fun q hq hs k => (b.2.2 q (Nat.lt_of_lt_of_le hq a.1) hs k).trans (a.2.2 q hq hs k)⟩
theorem Fr.mono {S S' : Nat → Prop} {h h1 : Hp} (a : Fr S h h1) (m : ∀ q, q < Hz h → S q → S' q) : Fr S' h h1 := ⟨a.1, a.2.1, fun q hq hs k => a.2.2 q hq (fun z => hs (m q hq z)) k⟩
theorem Fr.put {S : Nat → Prop} {h : Hp} {a k : Nat} {x : Value} (ha : S a ∨ Hz h ≤ a) : Fr S h (Hput h a k x) :=
  ⟨Nat.le_refl _, fun _ _ => rfl, fun q hq hs j => by rw [Hv_put_a]; intro e; subst e; rcases ha with ha | ha; exact hs ha; omega⟩
theorem Fr.set {S : Nat → Prop} {h : Hp} {a : Nat} {w : Nat → Value} (ha : S a ∨ Hz h ≤ a) : Fr S h (Hset h a w) :=
  ⟨Nat.le_refl _, fun _ _ => rfl, fun q hq hs j => by rw [Hv_set, if_neg]; intro e; subst e; rcases ha with ha | ha; exact hs ha; omega⟩
theorem Fr.new {S : Nat → Prop} {h : Hp} {t : Nat ⊕ (Nat × Nat)} {d : Nat → Value} : Fr S h (Hnew h t d) :=
  ⟨Nat.le_succ _, fun q hq => by rw [Hk_new, if_neg (by omega)], fun q hq hs j => by rw [Hv_new, if_neg (by omega)]⟩
theorem Fr.thenPut {S : Nat → Prop} {h h1 : Hp} {a k : Nat} {x : Value} (f : Fr S h h1) (ha : S a ∨ Hz h ≤ a) : Fr S h (Hput h1 a k x) :=
  ⟨f.1, f.2.1, fun q hq hs j => by rw [Hv_put_a]; exact f.2.2 q hq hs j; intro e; subst e; rcases ha with ha | ha; exact hs ha; omega⟩
theorem Fr.thenSet {S : Nat → Prop} {h h1 : Hp} {a : Nat} {w : Nat → Value} (f : Fr S h h1) (ha : S a ∨ Hz h ≤ a) : Fr S h (Hset h1 a w) :=
  ⟨f.1, f.2.1, fun q hq hs j => by rw [Hv_set, if_neg]; exact f.2.2 q hq hs j; intro e; subst e; rcases ha with ha | ha; exact hs ha; omega⟩
theorem Fr.thenNew {S : Nat → Prop} {h h1 : Hp} {t : Nat ⊕ (Nat × Nat)} {d : Nat → Value} (f : Fr S h h1) : Fr S h (Hnew h1 t d) := f.tr Fr.new
theorem Fr.then {S S' : Nat → Prop} {h h1 h2 : Hp} (f : Fr S h h1) (g : Fr S' h1 h2) (m : ∀ q, q < Hz h → S' q → S q) : Fr S h h2 :=
  ⟨Nat.le_trans f.1 g.1, fun q hq => (g.2.1 q (Nat.lt_of_lt_of_le hq f.1)).trans (f.2.1 q hq), fun q hq hs k => (g.2.2 q (Nat.lt_of_lt_of_le hq f.1) (fun z => hs (m q hq z)) k).trans (f.2.2 q hq hs k)⟩
theorem Fr.k {S : Nat → Prop} {h h1 : Hp} (a : Fr S h h1) (w : WF h) {q : Nat} {t} (hq : Hk h q = some t) : Hk h1 q = some t := (a.2.1 q (w q t hq)).trans hq
theorem Fr.v {S : Nat → Prop} {h h1 : Hp} (a : Fr S h h1) (w : WF h) {q : Nat} {t} (hq : Hk h q = some t) (hs : ¬ S q) (k : Nat) : Hv h1 q k = Hv h q k := a.2.2 q (w q t hq) hs k
theorem SbAt.kept {S : Nat → Prop} {h h1 : Hp} {a d : Nat} {t : List Nat} (h0 : SbAt h a d t) (w : WF h) (f : Fr S h h1) (ha : ¬ S a) (hd : ¬ S d) : SbAt h1 a d t := by
  obtain ⟨N, k0, k1, k2, k3, k4, k5, k6, k7, k8, k9⟩ := h0
  refine ⟨N, f.k w k0, by rw [f.v w k0 ha]; exact k1, by rw [f.v w k0 ha]; exact k2, by rw [f.v w k0 ha]; exact k3, f.k w k4, k5, k6, fun i hi => by rw [f.v w k4 hd]; exact k7 i hi, k8, fun j hj => ?_⟩
  rw [f.v w k4 hd]
  exact k9 j hj
theorem Con.mono {l : Launch} {G : GG} {y : MethodName} {ws : List Cond} {F lo mc ms : Nat} {av : List Value} {h : Hp} {post post' : Option Value → Hp → Prop} (hM : Con l G y ws F lo mc ms av h post) (w : ∀ v h', post v h' → post' v h') : Con l G y ws F lo mc ms av h post' := by
  intro p e a1 a2 a3 s m args below hf ha hp hk
  obtain ⟨n, o, h1, h2, h3, ⟨⟨v, h', e1, e2, e3⟩, e4⟩, e5⟩ := hM p e a1 a2 a3 s m args below hf ha hp hk
  exact ⟨n, o, h1, h2, h3, ⟨⟨v, h', e1, w v h' e2, e3⟩, e4⟩, e5⟩
theorem Con.wf {l : Launch} {G : GG} {y : MethodName} {ws : List Cond} {F lo mc ms : Nat} {av : List Value} {h : Hp} {post : Option Value → Hp → Prop} (k : WF h → Con l G y ws F lo mc ms av h post) : Con l G y ws F lo mc ms av h post :=
  fun p e a1 a2 a3 s m args below hf ha hp hk => k hp.2.1.wf p e a1 a2 a3 s m args below hf ha hp hk
theorem pI_mono {post post' : Int32 → Hp → Prop} (w : ∀ r h', post r h' → post' r h') : ∀ v h', pI post v h' → pI post' v h' := by
  rintro v h' ⟨r, rfl, hp⟩
  exact ⟨r, rfl, w r h' hp⟩
theorem pV_mono {post post' : Hp → Prop} (w : ∀ h', post h' → post' h') : ∀ v h', pV post v h' → pV post' v h' := by
  rintro v h' ⟨rfl, hp⟩
  exact ⟨rfl, w h' hp⟩
theorem pR_mono {post post' : Value → Hp → Prop} (w : ∀ r h', post r h' → post' r h') : ∀ v h', pR post v h' → pR post' v h' := by
  rintro v h' ⟨r, rfl, hr, hp⟩
  exact ⟨r, rfl, hr, w r h' hp⟩
theorem sb_b2 {c : Nat} (h : c < 256) : (sb_b c).toInt8.toInt32 = sb_b c := by
  have k : ∀ c, c < 256 → (sb_b c).toInt8.toInt32 = sb_b c := by decide +kernel
  exact k c h
theorem SbAt.coder {h : Hp} {a d : Nat} {t : List Nat} (h1 : SbAt h a d t) : Hv h a 1 = .int (nI 0) := by
  obtain ⟨N, k0, k1, k2, -⟩ := h1
  exact k2
theorem SbAt.val {h : Hp} {a d : Nat} {t : List Nat} (h1 : SbAt h a d t) : Hv h a 0 = .ref d := by
  obtain ⟨N, k0, k1, k2, -⟩ := h1
  exact k1
theorem SbAt.cnt {h : Hp} {a d : Nat} {t : List Nat} (h1 : SbAt h a d t) : Hv h a 3 = .int (nI t.length) := by
  obtain ⟨N, k0, k1, k2, k3, -⟩ := h1
  exact k3
theorem sb_push {h : Hp} {a d c N : Nat} {t : List Nat} (h0 : SbAt h a d t) (hN : Hk h d = some (.inr (1, N))) (hl : t.length < N) (hc : c < 256) : SbAt (Hput (Hput h a 3 (.int (nI (t.length + 1)))) d t.length (.int (sb_b c).toInt8.toInt32)) a d (t ++ [c]) := by
  obtain ⟨N', k0, k1, k2, k3, k4, k5, k6, k7, k8, k9⟩ := h0
  have eN : N' = N := by rw [k4] at hN; cases hN; rfl
  subst eN
  have had : ¬ a = d := fun e => by rw [e, k4] at k0; cases k0
  have hda : ¬ d = a := fun e => had e.symm
  refine ⟨N', k0, ?_, ?_, ?_, k4, by simp; omega, k6, fun i hi => ?_, fun i hi => ?_, fun j hj => ?_⟩
  · rw [Hv_put_a _ _ _ _ had, Hv_put_k _ _ _ _ (by decide)]; exact k1
  · rw [Hv_put_a _ _ _ _ had, Hv_put_k _ _ _ _ (by decide)]; exact k2
  · rw [Hv_put_a _ _ _ _ had, Hv_put_at]; simp
  · simp at hi
    by_cases e : i = t.length
    · subst e
      rw [Hv_put_at, sb_b2 hc]
      simp
    · rw [Hv_put_k _ _ _ _ e, Hv_put_a _ _ _ _ hda, k7 i (by omega)]
      have : (t ++ [c])[i]?.getD 0 = t[i]?.getD 0 := by rw [List.getElem?_append_left (by omega)]
      simp [List.getD_eq_getElem?_getD, this]
  · simp at hi
    by_cases e : i = t.length
    · subst e
      simpa using hc
    · have : (t ++ [c])[i]?.getD 0 = t[i]?.getD 0 := by rw [List.getElem?_append_left (by omega)]
      rw [List.getD_eq_getElem?_getD, this, ← List.getD_eq_getElem?_getD]
      exact k8 i (by omega)
  · by_cases e : j = t.length
    · subst e
      rw [Hv_put_at, sb_b2 hc]
      exact ⟨_, rfl, fit_b hc⟩
    · rw [Hv_put_k _ _ _ _ e, Hv_put_a _ _ _ _ hda]
      exact k9 j hj
/-! ArrayList: the object at a, its elements; its row's address satisfies P -/
def LsAt (P : Nat → Prop) (G : GG) (h : Hp) (a : Nat) (es : List Nat) : Prop := Hk h a = some (.inl 1) ∧ (∃ x : Int32, Hv h a 0 = .int x) ∧ Hv h a 2 = .int (nI es.length) ∧ ((es = [] ∧ Hv h a 1 = .ref (gE G)) ∨ ∃ d : Nat, P d ∧ Hv h a 1 = .ref d ∧ Hk h d = some (.inr (2, 10)) ∧ es.length ≤ 10 ∧ ∀ i, i < es.length → Hv h d i = .ref (es.getD i 0))
theorem LsAt.ob {P : Nat → Prop} {G : GG} {h : Hp} {a : Nat} {es : List Nat} (q : LsAt P G h a es) : Hk h a = some (.inl 1) := q.1
theorem LsAt.len {P : Nat → Prop} {G : GG} {h : Hp} {a : Nat} {es : List Nat} (q : LsAt P G h a es) : es.length ≤ 10 := by
  rcases q.2.2.2 with ⟨rfl, -⟩ | ⟨d, -, -, -, q, -⟩
  · simp
  · exact q
theorem getD_snoc_lt {es : List Nat} {e i : Nat} (h : i < es.length) : (es ++ [e]).getD i 0 = es.getD i 0 := by
  rw [List.getD_eq_getElem?_getD, List.getElem?_append_left h, ← List.getD_eq_getElem?_getD]
theorem getD_snoc_at {es : List Nat} {e : Nat} : (es ++ [e]).getD es.length 0 = e := by
  simp
theorem SbAt.cut {h h2 : Hp} {a d : Nat} {t : List Nat} (hA : SbAt h a d t) (w : WF h) (f : Fr (fun q => q = a) h h2) (e0 : Hv h2 a 0 = .ref d) (e1 : Hv h2 a 1 = .int (nI 0)) (e3 : Hv h2 a 3 = .int (nI 0)) : SbAt h2 a d [] := by
  obtain ⟨N, k0, k1, k2, k3, k4, k5, k6, k7, k8, k9⟩ := hA
  have had : ¬ d = a := fun e => by rw [e, k0] at k4; cases k4
  refine ⟨N, f.k w k0, e0, e1, e3, f.k w k4, Nat.zero_le _, k6, fun i hi => by simp at hi, fun i hi => by simp at hi, fun j hj => ?_⟩
  rw [f.v w k4 had]
  exact k9 j hj
/-- the character k of constant i -/
def chS (i k : Nat) : Nat := ((bytS.getD i []).getD k 0).toNatClampNeg
theorem lenS_lt : ∀ i, i < 7 → lenS.getD i 0 < 10 := by decide +kernel
theorem chS_all : ∀ i, i < 7 → ∀ k, k < lenS.getD i 0 → chS i k < 256 ∧ ((((bytS.getD i []).getD k 0) &&& nI 255).toUInt32 % 65536).toInt32 = nI (chS i k) := by decide +kernel
theorem chS_lt (i k : Nat) (hi : i < 7) (hk : k < lenS.getD i 0) : chS i k < 256 := (chS_all i hi k hk).1
theorem chS_c (i k : Nat) (hi : i < 7) (hk : k < lenS.getD i 0) : ((((bytS.getD i []).getD k 0) &&& nI 255).toUInt32 % 65536).toInt32 = nI (chS i k) := (chS_all i hi k hk).2
