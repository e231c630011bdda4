/-! LONGS, AND THE SCRIPT -/
section
variable {Γ : Cx} {kc ks pc : Nat} {L : List (Nat × Value)} {st : List Value} {h : Hp} {cc : ByteArray} {nL : Nat} {own : String} {Ts : List Cond} {F lo mc ms : Nat}
theorem V.ldc2 (X : Bx Γ cc nL own Ts F lo mc ms) {idx : Nat} {v : Int64} (hd : decode cc pc = .ok (.ldc2_w idx, 3)) (hco : Cond.constantLong own idx v ∈ Ts) (kk : V Γ kc ks (pc + 3) L (.long v :: st) h) : V Γ kc ks pc L st h := by
  obtain ⟨p, l, e, R, s, m, args, below, meth, c, G, Q⟩ := Γ
  intro H locs ls hR hS hl hc
  exact lv_ldc2 X.1.1 X.1.2.1 X.1.2.2.2.1 (X.1.2.2.2.2 _ hco) hd (kk H locs ls hR hS hl hc)
theorem V.lload_n (X : Bx Γ cc nL own Ts F lo mc ms) {k : Fin 4} {x : Int64} (hd : decode cc pc = .ok (.lload_n k, 1)) (hl0 : lk L (k : Nat) = some (.long x)) (kk : V Γ kc ks (pc + 1) L (.long x :: st) h) : V Γ kc ks pc L st h := by
  obtain ⟨p, l, e, R, s, m, args, below, meth, c, G, Q⟩ := Γ
  intro H locs ls hR hS hl hc
  exact lv_lload_n X.1.1 X.1.2.1 hd rfl (lk_at hl hl0) (kk H locs ls hR hS hl hc)
theorem V.lload (X : Bx Γ cc nL own Ts F lo mc ms) {i : Nat} {x : Int64} (hd : decode cc pc = .ok (.lload i, 2)) (hl0 : lk L i = some (.long x)) (kk : V Γ kc ks (pc + 2) L (.long x :: st) h) : V Γ kc ks pc L st h := by
  obtain ⟨p, l, e, R, s, m, args, below, meth, c, G, Q⟩ := Γ
  intro H locs ls hR hS hl hc
  exact lv_lload X.1.1 X.1.2.1 hd (lk_at hl hl0) (kk H locs ls hR hS hl hc)
theorem V.lstore_n (X : Bx Γ cc nL own Ts F lo mc ms) {k : Fin 4} {x : Int64} (hd : decode cc pc = .ok (.lstore_n k, 1)) (L' : List (Nat × Value)) (hs : srt L = true) (hi : (Nat.blt ((k : Nat) + 1) nL && srt (sto L (k : Nat) (.long x))) = true) (hL : sto L (k : Nat) (.long x) = L') (kk : V Γ kc ks (pc + 1) L' st h) : V Γ kc ks pc L (.long x :: st) h := by
  obtain ⟨p, l, e, R, s, m, args, below, meth, c, G, Q⟩ := Γ
  intro H locs ls hR hS hl hc
  exact lv_lstore_n X.1.1 X.1.2.1 hd rfl hl (by rw [X.1.2.2.1]; exact Nat.le_of_ble_eq_true (and1 hi)) rfl (fun ls' hl' => kk H locs ls' hR hS (by rw [← hL]; exact sto_hasL hs (and2 hi) hl') trivial)
theorem V.lstore (X : Bx Γ cc nL own Ts F lo mc ms) {i : Nat} {x : Int64} (hd : decode cc pc = .ok (.lstore i, 2)) (L' : List (Nat × Value)) (hs : srt L = true) (hi : (Nat.blt (i + 1) nL && srt (sto L i (.long x))) = true) (hL : sto L i (.long x) = L') (kk : V Γ kc ks (pc + 2) L' st h) : V Γ kc ks pc L (.long x :: st) h := by
  obtain ⟨p, l, e, R, s, m, args, below, meth, c, G, Q⟩ := Γ
  intro H locs ls hR hS hl hc
  exact lv_lstore X.1.1 X.1.2.1 hd hl (by rw [X.1.2.2.1]; exact Nat.le_of_ble_eq_true (and1 hi)) rfl (fun ls' hl' => kk H locs ls' hR hS (by rw [← hL]; exact sto_hasL hs (and2 hi) hl') trivial)
theorem V.ladd (X : Bx Γ cc nL own Ts F lo mc ms) {x y : Int64} (hd : decode cc pc = .ok (.ladd, 1)) (kk : V Γ kc ks (pc + 1) L (.long (x + y) :: st) h) : V Γ kc ks pc L (.long y :: .long x :: st) h := by
  obtain ⟨p, l, e, R, s, m, args, below, meth, c, G, Q⟩ := Γ
  intro H locs ls hR hS hl hc
  exact lv_ladd X.1.1 X.1.2.1 hd (kk H locs ls hR hS hl hc)
theorem V.lmul (X : Bx Γ cc nL own Ts F lo mc ms) {x y : Int64} (hd : decode cc pc = .ok (.lmul, 1)) (kk : V Γ kc ks (pc + 1) L (.long (x * y) :: st) h) : V Γ kc ks pc L (.long y :: .long x :: st) h := by
  obtain ⟨p, l, e, R, s, m, args, below, meth, c, G, Q⟩ := Γ
  intro H locs ls hR hS hl hc
  exact lv_lmul X.1.1 X.1.2.1 hd (kk H locs ls hR hS hl hc)
theorem V.land (X : Bx Γ cc nL own Ts F lo mc ms) {x y : Int64} (hd : decode cc pc = .ok (.land, 1)) (kk : V Γ kc ks (pc + 1) L (.long (x &&& y) :: st) h) : V Γ kc ks pc L (.long y :: .long x :: st) h := by
  obtain ⟨p, l, e, R, s, m, args, below, meth, c, G, Q⟩ := Γ
  intro H locs ls hR hS hl hc
  exact lv_land X.1.1 X.1.2.1 hd (kk H locs ls hR hS hl hc)
theorem V.i2l (X : Bx Γ cc nL own Ts F lo mc ms) {x : Int32} (hd : decode cc pc = .ok (.i2l, 1)) (kk : V Γ kc ks (pc + 1) L (.long x.toInt64 :: st) h) : V Γ kc ks pc L (.int x :: st) h := by
  obtain ⟨p, l, e, R, s, m, args, below, meth, c, G, Q⟩ := Γ
  intro H locs ls hR hS hl hc
  exact lv_i2l X.1.1 X.1.2.1 hd rfl (kk H locs ls hR hS hl hc)
theorem V.l2i (X : Bx Γ cc nL own Ts F lo mc ms) {x : Int64} (hd : decode cc pc = .ok (.l2i, 1)) (kk : V Γ kc ks (pc + 1) L (.int x.toInt32 :: st) h) : V Γ kc ks pc L (.long x :: st) h := by
  obtain ⟨p, l, e, R, s, m, args, below, meth, c, G, Q⟩ := Γ
  intro H locs ls hR hS hl hc
  exact lv_l2i X.1.1 X.1.2.1 hd rfl (kk H locs ls hR hS hl hc)
theorem V.lshr (X : Bx Γ cc nL own Ts F lo mc ms) {x : Int64} {y : Int32} (hd : decode cc pc = .ok (.lshr, 1)) (kk : V Γ kc ks (pc + 1) L (.long (x >>> (y.toInt64 &&& 63)) :: st) h) : V Γ kc ks pc L (.int y :: .long x :: st) h := by
  obtain ⟨p, l, e, R, s, m, args, below, meth, c, G, Q⟩ := Γ
  intro H locs ls hR hS hl hc
  exact lv_lshr X.1.1 X.1.2.1 hd rfl (kk H locs ls hR hS hl hc)
theorem V.lcmp (X : Bx Γ cc nL own Ts F lo mc ms) {x y : Int64} (hd : decode cc pc = .ok (.lcmp, 1)) (kk : V Γ kc ks (pc + 1) L (.int (lg_cmp x y) :: st) h) : V Γ kc ks pc L (.long y :: .long x :: st) h := by
  obtain ⟨p, l, e, R, s, m, args, below, meth, c, G, Q⟩ := Γ
  intro H locs ls hR hS hl hc
  exact W.lcmp X.1.1 X.1.2.1 hd (kk H locs ls hR hS hl hc)
theorem lcmp_0 {x y : Int64} (e : x = y) : lg_cmp x y = 0 := by
  subst e
  simp [lg_cmp]
def pL (post : Int64 → Hp → Prop) : Option Value → Hp → Prop := fun v h' => ∃ r : Int64, v = some (.long r) ∧ post r h'
theorem V.lret (X : Bx Γ cc nL own Ts F lo mc ms) {nm : String} {post : Int64 → Hp → Prop} (Y : Rx Γ nm (some .long) (pL post) mc ms) (hd : decode cc pc = .ok (.lreturn, 1)) {v : Int64} (hp : post v h) (h1 : kc ≤ mc) (h2 : ks ≤ ms) : V Γ kc ks pc L [.long v] h := by
  obtain ⟨p, l, e, R, s, m, args, below, meth, c, G, Q⟩ := Γ
  obtain ⟨⟨hexec, hb, hml, hown, hts⟩, hK, hG, hRm, hB⟩ := X
  obtain ⟨hr, hlocks, hnm, rfl⟩ := Y
  intro H locs ls hR hS hl hcat
  refine W.widen h1 h2 ?_
  exact W.lret hexec hb hr (fun t ht hW => ⟨⟨some (.long v), h, rfl, ⟨v, rfl, hp⟩, by rw [ht]; exact hR⟩, hS.F ht⟩) hS.2.2 hd hlocks
theorem V.callSl (X : Bx Γ cc nL own Ts F lo mc ms) {idx n : Nat} {y : MethodName} {bytes : ByteArray} {maxL F' lo' mc' ms' : Nat} {ret : Option FieldType} {ws ws' : List Cond} {As st0 rest : List Value} {post : Int64 → Hp → Prop} (hd : decode cc pc = .ok (.invokestatic idx, 3)) (hT : GoodIn Ts (va_wsS own idx y ws)) (hM : Con (cxL Γ) (cxG Γ) y ws F' lo' mc' ms' As h (pL post)) (hw : ws = Cond.code y bytes maxL ret :: ws') (hy : y.cls ≠ "java/lang/invoke/MethodHandle" ∧ y.cls ≠ "java/lang/invoke/VarHandle" ∧ (parseMethodDescriptor y.desc).map (fun d => d.parameters.length) = some n) (hst : st0 = As.reverse ++ rest) (hn : Nat.beq As.length n = true) (hrm : (Nat.ble (F' + 1) F && Nat.ble (8 + (maxL + 11) + lo') lo && Nat.ble (2 * 0 + (rest.map fun v => v.category).sum) 8) = true) (hf : kc + mc' ≤ mc ∧ ks + ms' ≤ ms)
    (kk : ∀ (r9 : Int64) (h' : Hp), post r9 h' → V Γ (kc + mc') (ks + ms') (pc + 3) L (.long r9 :: rest) h') : V Γ kc ks pc L st0 h :=
  V.callS X hd hT hM hw hy hst hn hrm hf (fun v h9 hp => by obtain ⟨r9, rfl, hp⟩ := hp; exact kk r9 h9 hp)
/-- the script -/
theorem V.slen (X : Bx Γ cc nL own Ts F lo mc ms) (hd : decode cc pc = .ok (.arraylength, 1))
    (kk : V Γ kc ks (pc + 1) L (.int (nI (gX (cxG Γ)).2.1) :: st) h) : V Γ kc ks pc L (.ref (gX (cxG Γ)).1 :: st) h := by
  obtain ⟨p, l, e, R, s, m, args, below, meth, c, G, Q⟩ := Γ
  obtain ⟨⟨hexec, hb, hml, hown, hts⟩, hK, hG, hRm, hB⟩ := X
  intro H locs ls hR hS hl hcat
  obtain ⟨Y1, Y2, Y3⟩ := hG.2.2.2.2.2.2.2.2.2.2.2.2.2.2.2
  exact va_slen hexec hb Y1 (Nat.lt_of_lt_of_le Y2 hB) (Nat.not_le.mpr Y2) hS hd (kk H locs ls hR hS hl hcat)
theorem V.sld (X : Bx Γ cc nL own Ts F lo mc ms) {j : Nat} {i : Int32} (hd : decode cc pc = .ok (.iaload, 1)) (hi : i = nI j) (hj : j < (gX (cxG Γ)).2.1)
    (kk : V Γ kc ks (pc + 1) L (.int ((gX (cxG Γ)).2.2 j) :: st) h) : V Γ kc ks pc L (.int i :: .ref (gX (cxG Γ)).1 :: st) h := by
  obtain ⟨p, l, e, R, s, m, args, below, meth, c, G, Q⟩ := Γ
  obtain ⟨⟨hexec, hb, hml, hown, hts⟩, hK, hG, hRm, hB⟩ := X
  intro H locs ls hR hS hl hcat
  obtain ⟨Y1, Y2, Y3⟩ := hG.2.2.2.2.2.2.2.2.2.2.2.2.2.2.2
  subst hi
  refine va_sld hexec hb Y1 (Nat.lt_of_lt_of_le Y2 hB) (Nat.not_le.mpr Y2) hS (vp_in_nI hj Y3) hd ?_
  rw [nI_clamp (by have : (gX G).2.1 < 2 ^ 31 := Y3; have : j < (gX G).2.1 := hj; omega)]
  exact kk H locs ls hR hS hl hcat
end
/-- from the entry of a method with a long among its arguments -/
theorem Con.ofL {l : Launch} {G : GG} {y : MethodName} {ws ws' : List Cond} {F lo mc ms : Nat} {av : List Value} {h : Hp} {post : Option Value → Hp → Prop} {cc : ByteArray} {nL : Nat} {ret : Option FieldType} (hy : plainName y.cls = true) (hw : ws = Cond.code y cc nL ret :: ws') {L : List (Nat × Value)} (hL : lv_args 0 av = L) (hn : Nat.ble (lg_sl av).length nL = true)
    (body : ∀ Γ : Cx, cxG Γ = G → cxL Γ = l → Bx Γ cc nL y.cls ws F lo mc ms → Rx Γ y.name ret post mc ms → V Γ 0 0 0 L [] h) : Con l G y ws F lo mc ms av h post := by
  refine Met.ofW (cc := cc) (maxL := nL) (ret := ret) hy hw ?_
  intro p e s m args below meth c s₁ B hml hv
  obtain ⟨rfl, hR, hK, hG, hB⟩ := hv
  have hts := atoms_spec (ws := ws) B.pre
  have b := body (p, l, e, { frames := F, cells := mc, slots := ms, locals := lo }, s, m, av.toArray, below, meth, c, G, MQ below (fun _ st oc t => Endp G post st oc t) av.toArray s mc ms (arena G)) rfl rfl ⟨⟨B.exec, B.bytes, hml, findClass_of_methodNamed B.named, hts⟩, hK, hG, rfl, hB⟩ ⟨B.returns, B.notSynchronized, (name_of_methodNamed B.named B.method).1, rfl⟩
  have hl := lv_entry av (Nat.le_of_ble_eq_true hn)
  rw [hL, ← hml] at hl
  rw [lg_entry_eq, ← hml]
  exact b s.heap [] _ hR va_S.rf hl trivial
