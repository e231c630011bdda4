theorem nI_i2 {a b : Nat} (ha : a < 2 ^ 31) (hb : b < 2 ^ 31) (h : nI a = nI b) : a = b := Nat.le_antisymm ((nI_leI ha hb).mp (by rw [h]; exact Int32.le_refl _)) ((nI_leI hb ha).mp (by rw [h]; exact Int32.le_refl _))
theorem outR {z : Int32} {a b n : Nat} (h : z < nI a ∨ ¬ z ≤ nI b) (e : z = nI n) (h1 : a ≤ n) (h2 : n ≤ b) (hb : b < 1000) : False := by
  subst e
  rcases h with h | h
  · exact absurd ((nI_ltI (by omega) (by omega)).mp h) (by omega)
  · exact h ((nI_leI (by omega) (by omega)).mpr h2)
theorem st_appendCharacter (l : Launch) (G : GG) {h : Hp} {T M : Nat} (L : BoS G h T M) (w : WF h) {x : Int32} : Con l G yX11_appendCharacter wsX11_appendCharacter 6 132 1 402 [.ref T, .int x] h (pI (fun v0 h1 => Hk h1 M = some (.inl 14) ∧ (WF h1 → Con l G yX12_appendCharacter wsX12_appendCharacter 1 22 0 0 [.ref M, .int x] h1 (pI (fun y2 h2 => y2 = v0 ∧ BoS G h2 T M))))) := by
  obtain ⟨d, m, t, c, r, la, k, sx, ps, C, D, S, q, hM⟩ := L
  have hl := C.hl
  refine (c_X11_appendCharacter (x := x) l G C).mono (fun v h1 p => ?_)
  obtain ⟨y0, e0, p⟩ := p
  rcases p with ⟨a1, hy, e1⟩ | ⟨n, n1, n2, ⟨a1, hy, e1⟩ | ⟨a1, hy, ⟨d2, C1⟩, f⟩⟩
  · subst e1
    have z12 := c_X12_appendCharacter (m := m) (x := x) l G D.1 S
    rw [D.2] at z12
    refine ⟨y0, e0, D.1.1, fun w1 => z12.mono (fun v2 h2 p2 => ?_)⟩
    obtain ⟨y2, e2, p2⟩ := p2
    rcases p2 with ⟨b1, hy2, e3⟩ | ⟨n', n1', n2', _⟩
    · subst e3
      exact ⟨y2, e2, hy2.trans hy.symm, d, m, t, c, r, la, k, sx, ps, C, D, S, q, hM⟩
    · rw [n2', isIx_nI (by omega), decide_eq_true n1'] at a1
      cases a1
  · subst e1
    have z12 := c_X12_appendCharacter (m := m) (x := x) l G D.1 S
    rw [D.2] at z12
    refine ⟨y0, e0, D.1.1, fun w1 => z12.mono (fun v2 h2 p2 => ?_)⟩
    obtain ⟨y2, e2, p2⟩ := p2
    rcases p2 with ⟨b1, hy2, e3⟩ | ⟨n', n1', n2', ⟨b1, hy2, e3⟩ | ⟨b1, _⟩⟩
    · rw [n2, isIx_nI (by omega), decide_eq_true n1] at b1
      cases b1
    · subst e3
      exact ⟨y2, e2, hy2.trans hy.symm, d, m, t, c, r, la, k, sx, ps, C, D, S, q, hM⟩
    · exact absurd b1 a1
  · have D1 := D.ct C w f hM
    have z12 := c_X12_appendCharacter (m := m) (x := x) l G D1.1 S
    rw [D1.2] at z12
    refine ⟨y0, e0, D1.1.1, fun w1 => z12.mono (fun v2 h2 p2 => ?_)⟩
    obtain ⟨y2, e2, p2⟩ := p2
    rcases p2 with ⟨b1, hy2, e3⟩ | ⟨n', n1', n2', ⟨b1, hy2, e3⟩ | ⟨b1, hy2, m2, e3, S2⟩⟩
    · rw [n2, isIx_nI (by omega), decide_eq_true n1] at b1
      cases b1
    · exact absurd a1 b1
    · subst e3
      have en : n' = n := nI_i2 (by omega) (by omega) (n2'.symm.trans n2)
      subst en
      exact ⟨y2, e2, hy2.trans hy.symm, BoS.of C1 D1 w1 S2 q hM⟩
theorem st_clearText (l : Launch) (G : GG) {h : Hp} {T M : Nat} (L : BoS G h T M) (w : WF h)  : Con l G yX11_clearText wsX11_clearText 6 132 1 402 [.ref T] h (pI (fun v0 h1 => Hk h1 M = some (.inl 14) ∧ (WF h1 → Con l G yX12_clearText wsX12_clearText 0 0 0 0 [.ref M] h1 (pI (fun y2 h2 => y2 = v0 ∧ BoS G h2 T M))))) := by
  obtain ⟨d, m, t, c, r, la, k, sx, ps, C, D, S, q, hM⟩ := L
  have hl := C.hl
  refine (c_X11_clearText l G C).mono (fun v h1 p => ?_)
  obtain ⟨y0, e0, p⟩ := p
  obtain ⟨hy, C1, f⟩ := p
  · have D1 := D.ct C w f hM
    have z12 := c_X12_clearText (m := m) l G D1.1 S
    rw [D1.2] at z12
    refine ⟨y0, e0, D1.1.1, fun w1 => z12.mono (fun v2 h2 p2 => ?_)⟩
    obtain ⟨y2, e2, p2⟩ := p2
    obtain ⟨hy2, m2, e3, S2⟩ := p2
    subst e3
    exact ⟨y2, e2, hy2.trans hy.symm, BoS.of C1 D1 w1 S2 q hM⟩
theorem st_loadComponent (l : Launch) (G : GG) {h : Hp} {T M : Nat} (L : BoS G h T M) (w : WF h)  : Con l G yX11_loadComponent wsX11_loadComponent 9 203 215 1329 [.ref T] h (pI (fun v0 h1 => Hk h1 M = some (.inl 14) ∧ (WF h1 → Con l G yX12_loadComponent wsX12_loadComponent 9 194 0 0 [.ref M] h1 (pI (fun y2 h2 => y2 = v0 ∧ BoS G h2 T M))))) := by
  obtain ⟨d, m, t, c, r, la, k, sx, ps, C, D, S, q, hM⟩ := L
  have hl := C.hl
  refine (c_X11_loadComponent l G C).mono (fun v h1 p => ?_)
  obtain ⟨y0, e0, p⟩ := p
  rcases p with ⟨r1, a1, hy, C1, f⟩ | ⟨c2, r1, a1, hy, C1, f⟩
  · have D1 := D.ct C w f hM
    have z12 := c_X12_load (m := m) l G D1.1 S
    rw [D1.2] at z12
    refine ⟨y0, e0, D1.1.1, fun w1 => z12.mono (fun v2 h2 p2 => ?_)⟩
    obtain ⟨y2, e2, p2⟩ := p2
    rcases p2 with ⟨r2, b1, hy2, m2, e3, S2⟩ | ⟨c3, r2, b1, _⟩
    · subst e3
      have er : r2 = r1 := congrArg Prod.snd (b1.symm.trans a1)
      subst er
      exact ⟨y2, e2, hy2.trans hy.symm, BoS.of C1 D1 w1 S2 q hM⟩
    · have en := congrArg Prod.fst (b1.symm.trans a1)
      cases en
  · have D1 := D.ct C w f hM
    have z12 := c_X12_load (m := m) l G D1.1 S
    rw [D1.2] at z12
    refine ⟨y0, e0, D1.1.1, fun w1 => z12.mono (fun v2 h2 p2 => ?_)⟩
    obtain ⟨y2, e2, p2⟩ := p2
    rcases p2 with ⟨r2, b1, _⟩ | ⟨c3, r2, b1, hy2, m2, e3, S2⟩
    · have en := congrArg Prod.fst (b1.symm.trans a1)
      cases en
    · subst e3
      have ec : c3 = c2 := Option.some.inj (congrArg Prod.fst (b1.symm.trans a1))
      subst ec
      exact ⟨y2, e2, hy2.trans hy.symm, BoS.of C1 D1 w1 S2 (q.next hl.2 hl.1 _) hM⟩
theorem st_setInitialValue (l : Launch) (G : GG) {h : Hp} {T M : Nat} (L : BoS G h T M) (w : WF h) {x z : Int32} : Con l G yX11_setInitialValue wsX11_setInitialValue 7 153 24 212 [.ref T, .int x, .int z] h (pI (fun v0 h1 => Hk h1 M = some (.inl 14) ∧ (WF h1 → Con l G yX12_setInitialValue wsX12_setInitialValue 1 22 0 0 [.ref M, .int x, .int z] h1 (pI (fun y2 h2 => y2 = v0 ∧ BoS G h2 T M))))) := by
  obtain ⟨d, m, t, c, r, la, k, sx, ps, C, D, S, q, hM⟩ := L
  have hl := C.hl
  refine (c_X11_setInitialValue (f := x) (v := z) l G C).mono (fun v h1 p => ?_)
  obtain ⟨y0, e0, p⟩ := p
  rcases p with ⟨a1, hy, e1⟩ | ⟨a1, hy, C1, f⟩
  · subst e1
    have z12 := c_X12_setInitialValue (m := m) (f := x) (v := z) l G D.1 S
    rw [D.2] at z12
    refine ⟨y0, e0, D.1.1, fun w1 => z12.mono (fun v2 h2 p2 => ?_)⟩
    obtain ⟨y2, e2, p2⟩ := p2
    rcases p2 with ⟨b1, hy2, e3⟩ | ⟨b1, _⟩
    · subst e3
      exact ⟨y2, e2, hy2.trans hy.symm, d, m, t, c, r, la, k, sx, ps, C, D, S, q, hM⟩
    · rcases a1 with z | z | z
      · rw [b1.1] at z
        cases z
      · exact absurd z b1.2.1
      · exact absurd b1.2.2 z
  · have D1 := D.ct C w f hM
    have z12 := c_X12_setInitialValue (m := m) (f := x) (v := z) l G D1.1 S
    rw [D1.2] at z12
    refine ⟨y0, e0, D1.1.1, fun w1 => z12.mono (fun v2 h2 p2 => ?_)⟩
    obtain ⟨y2, e2, p2⟩ := p2
    rcases p2 with ⟨b1, _⟩ | ⟨b1, hy2, m2, e3, S2⟩
    · rcases b1 with z | z | z
      · rw [a1.1] at z
        cases z
      · exact absurd z a1.2.1
      · exact absurd a1.2.2 z
    · subst e3
      exact ⟨y2, e2, hy2.trans hy.symm, BoS.of C1 D1 w1 S2 (q.next hl.2 hl.1 _) hM⟩
theorem st_removeMethod (l : Launch) (G : GG) {h : Hp} {T M : Nat} (L : BoS G h T M) (w : WF h) {x : Int32} : Con l G yX11_removeMethod wsX11_removeMethod 6 130 24 212 [.ref T, .int x] h (pI (fun v0 h1 => Hk h1 M = some (.inl 14) ∧ (WF h1 → Con l G yX12_removeMethod wsX12_removeMethod 2 43 0 0 [.ref M, .int x] h1 (pI (fun y2 h2 => y2 = v0 ∧ BoS G h2 T M))))) := by
  obtain ⟨d, m, t, c, r, la, k, sx, ps, C, D, S, q, hM⟩ := L
  have hl := C.hl
  refine (c_X11_removeMethod (z := x) l G C).mono (fun v h1 p => ?_)
  obtain ⟨y0, e0, p⟩ := p
  have hn : c.2.2.length ≤ 10 := by
    obtain ⟨_, o, _, hCp⟩ := C.2.2.2.2.1
    exact hCp.len
  rcases p with ⟨a1, hy, e1⟩ | ⟨j, n1, n2, hy, C1, f⟩
  · subst e1
    have z12 := c_X12_removeMethod (m := m) (z := x) l G D.1 S
    rw [D.2] at z12
    refine ⟨y0, e0, D.1.1, fun w1 => z12.mono (fun v2 h2 p2 => ?_)⟩
    obtain ⟨y2, e2, p2⟩ := p2
    rcases p2 with ⟨b1, hy2, e3⟩ | ⟨n', n1', n2', _⟩
    · subst e3
      exact ⟨y2, e2, hy2.trans hy.symm, d, m, t, c, r, la, k, sx, ps, C, D, S, q, hM⟩
    · rw [n2', isIx_nI (by omega), decide_eq_true n1'] at a1
      cases a1
  · have D1 := D.ct C w f hM
    have z12 := c_X12_removeMethod (m := m) (z := x) l G D1.1 S
    rw [D1.2] at z12
    refine ⟨y0, e0, D1.1.1, fun w1 => z12.mono (fun v2 h2 p2 => ?_)⟩
    obtain ⟨y2, e2, p2⟩ := p2
    rcases p2 with ⟨b1, hy2, e3⟩ | ⟨n', n1', n2', hy2, m2, e3, S2⟩
    · rw [n2, isIx_nI (by omega), decide_eq_true n1] at b1
      cases b1
    · subst e3
      have en : n' = j := nI_i2 (by omega) (by omega) (n2'.symm.trans n2)
      subst en
      exact ⟨y2, e2, hy2.trans hy.symm, BoS.of C1 D1 w1 S2 (q.next hl.2 hl.1 _) hM⟩
theorem st_methodCount (l : Launch) (G : GG) {h : Hp} {T M : Nat} (L : BoS G h T M) (w : WF h)  : Con l G yX11_methodCount wsX11_methodCount 1 20 0 0 [.ref T] h (pI (fun v0 h1 => Hk h1 M = some (.inl 14) ∧ (WF h1 → Con l G yX12_methodCount wsX12_methodCount 0 0 0 0 [.ref M] h1 (pI (fun y2 h2 => y2 = v0 ∧ BoS G h2 T M))))) := by
  obtain ⟨d, m, t, c, r, la, k, sx, ps, C, D, S, q, hM⟩ := L
  have hT := C.1.1
  have hT2 := C.1.2.2.2.1
  have hxc := C.2.2.2.2.1
  obtain ⟨⟨rs, hX⟩, o, hO, hC⟩ := hxc
  have hpc : xpc r ≤ 40 := S.2.2.2.1.1.2.1.2
  have hfl : xfl r ≤ 20 := S.2.2.2.1.1.2.2.1
  refine (c_X11_methodCount l G hT hT2 hX hO hC).mono (fun v h1 p => ?_)
  obtain ⟨y0, e0, hy, e1⟩ := p
  subst e1
  refine ⟨y0, e0, D.1.1, fun _ => ?_⟩
  have z12 := c_X12_methodCount (m := m) l G D.1
  rw [D.2] at z12
  refine z12.mono (fun v2 h2 p2 => ?_)
  obtain ⟨y2, e2, hy2, hh⟩ := p2
  subst hh
  exact ⟨y2, e2, (hy2.trans S.2.1.2.2.1).trans hy.symm, d, m, t, c, r, la, k, sx, ps, C, D, S, q, hM⟩
theorem st_complexity (l : Launch) (G : GG) {h : Hp} {T M : Nat} (L : BoS G h T M) (w : WF h) {x : Int32} : Con l G yX11_complexity wsX11_complexity 4 86 0 0 [.ref T, .int x] h (pI (fun v0 h1 => Hk h1 M = some (.inl 14) ∧ (WF h1 → Con l G yX12_complexity wsX12_complexity 2 43 0 0 [.ref M, .int x] h1 (pI (fun y2 h2 => y2 = v0 ∧ BoS G h2 T M))))) := by
  obtain ⟨d, m, t, c, r, la, k, sx, ps, C, D, S, q, hM⟩ := L
  have hT := C.1.1
  have hT2 := C.1.2.2.2.1
  have hxc := C.2.2.2.2.1
  obtain ⟨⟨rs, hX⟩, o, hO, hC⟩ := hxc
  have hpc : xpc r ≤ 40 := S.2.2.2.1.1.2.1.2
  have hfl : xfl r ≤ 20 := S.2.2.2.1.1.2.2.1
  refine (c_X11_complexity (x := x) l G hT hT2 hX hO hC).mono (fun v h1 p => ?_)
  obtain ⟨y0, e0, hy, e1⟩ := p
  subst e1
  refine ⟨y0, e0, D.1.1, fun _ => ?_⟩
  have z12 := c_X12_complexity (m := m) (x := x) l G D.1 S.2.1 S.2.2.2.1.2.1
  rw [D.2] at z12
  refine z12.mono (fun v2 h2 p2 => ?_)
  obtain ⟨y2, e2, hy2, hh⟩ := p2
  subst hh
  exact ⟨y2, e2, hy2.trans hy.symm, d, m, t, c, r, la, k, sx, ps, C, D, S, q, hM⟩
theorem st_runText (l : Launch) (G : GG) {h : Hp} {T M : Nat} (L : BoS G h T M) (w : WF h)  : Con l G yX11_runText wsX11_runText 6 137 1 402 [.ref T] h (pI (fun v0 h1 => Hk h1 M = some (.inl 14) ∧ (WF h1 → Con l G yX12_runText wsX12_runText 4 92 0 0 [.ref M] h1 (pI (fun y2 h2 => y2 = v0 ∧ BoS G h2 T M))))) := by
  obtain ⟨d, m, t, c, r, la, k, sx, ps, C, D, S, q, hM⟩ := L
  have hl := C.hl
  refine (c_X11_runText l G C).mono (fun v h1 p => ?_)
  obtain ⟨y0, e0, p⟩ := p
  rcases p with ⟨j, a1, hy, e1⟩ | ⟨a1, hy, C1, f⟩
  · subst e1
    have z12 := c_X12_runText (m := m) l G D.1 S
    rw [D.2] at z12
    refine ⟨y0, e0, D.1.1, fun w1 => z12.mono (fun v2 h2 p2 => ?_)⟩
    obtain ⟨y2, e2, p2⟩ := p2
    rcases p2 with ⟨j2, b1, hy2, e3⟩ | ⟨b1, _⟩
    · subst e3
      have ej : j2 = j := Option.some.inj (b1.symm.trans a1)
      subst ej
      exact ⟨y2, e2, hy2.trans hy.symm, d, m, t, c, r, la, k, sx, ps, C, D, S, q, hM⟩
    · rw [a1] at b1
      cases b1
  · have D1 := D.ct C w f hM
    have z12 := c_X12_runText (m := m) l G D1.1 S
    rw [D1.2] at z12
    refine ⟨y0, e0, D1.1.1, fun w1 => z12.mono (fun v2 h2 p2 => ?_)⟩
    obtain ⟨y2, e2, p2⟩ := p2
    rcases p2 with ⟨j2, b1, _⟩ | ⟨b1, hy2, m2, e3, S2⟩
    · rw [a1] at b1
      cases b1
    · subst e3
      exact ⟨y2, e2, hy2.trans hy.symm, BoS.of C1 D1 w1 S2 q hM⟩
theorem st_setMaximumLength (l : Launch) (G : GG) {h : Hp} {T M : Nat} (L : BoS G h T M) (w : WF h) {x : Int32} : Con l G yX11_setMaximumLength wsX11_setMaximumLength 5 108 0 0 [.ref T, .int x] h (pI (fun v0 h1 => Hk h1 M = some (.inl 14) ∧ (WF h1 → Con l G yX12_setMaximumLength wsX12_setMaximumLength 1 22 0 0 [.ref M, .int x] h1 (pI (fun y2 h2 => y2 = v0 ∧ BoS G h2 T M))))) := by
  obtain ⟨d, m, t, c, r, la, k, sx, ps, C, D, S, q, hM⟩ := L
  have hl := C.hl
  refine (c_X11_setMaximumLength (z := x) l G C).mono (fun v h1 p => ?_)
  obtain ⟨y0, e0, p⟩ := p
  rcases p with ⟨a1, hy, e1⟩ | ⟨n, n0, n1, n2, hy, C1, f⟩
  · subst e1
    have z12 := c_X12_setMaximumLength (m := m) (z := x) l G D.1 S
    rw [D.2] at z12
    refine ⟨y0, e0, D.1.1, fun w1 => z12.mono (fun v2 h2 p2 => ?_)⟩
    obtain ⟨y2, e2, p2⟩ := p2
    rcases p2 with ⟨b1, hy2, e3⟩ | ⟨n', n0', n1', n2', _⟩
    · subst e3
      exact ⟨y2, e2, hy2.trans hy.symm, d, m, t, c, r, la, k, sx, ps, C, D, S, q, hM⟩
    · exact (outR (a := 1) (b := 8) a1 n2' n0' n1' (by omega)).elim
  · have D1 := D.ct C w f hM
    have z12 := c_X12_setMaximumLength (m := m) (z := x) l G D1.1 S
    rw [D1.2] at z12
    refine ⟨y0, e0, D1.1.1, fun w1 => z12.mono (fun v2 h2 p2 => ?_)⟩
    obtain ⟨y2, e2, p2⟩ := p2
    rcases p2 with ⟨b1, _⟩ | ⟨n', n0', n1', n2', hy2, m2, e3, S2⟩
    · exact (outR (a := 1) (b := 8) b1 n2 n0 n1 (by omega)).elim
    · subst e3
      have en : n' = n := nI_i2 (by omega) (by omega) (n2'.symm.trans n2)
      subst en
      exact ⟨y2, e2, hy2.trans hy.symm, BoS.of C1 D1 w1 S2 (q.next hl.2 hl.1 _) hM⟩
theorem st_explore (l : Launch) (G : GG) {h : Hp} {T M : Nat} (L : BoS G h T M) (w : WF h) {x : Int32} : Con l G yX11_explore wsX11_explore 6 137 0 0 [.ref T, .int x] h (pI (fun v0 h1 => Hk h1 M = some (.inl 14) ∧ (WF h1 → Con l G yX12_explore wsX12_explore 8 182 0 0 [.ref M, .int x] h1 (pI (fun y2 h2 => y2 = v0 ∧ BoS G h2 T M))))) := by
  obtain ⟨d, m, t, c, r, la, k, sx, ps, C, D, S, q, hM⟩ := L
  have hl := C.hl
  refine (c_X11_explore (z := x) l G C S.2.2.2.1.1).mono (fun v h1 p => ?_)
  obtain ⟨y0, e0, p⟩ := p
  rcases p with ⟨a1, hy, e1⟩ | ⟨n, n0, n1, n2, ⟨a1, hy, e1⟩ | ⟨a1, hy, _, C1, f⟩⟩
  · subst e1
    have z12 := c_X12_expl (m := m) (z := x) l G D.1 S
    rw [D.2] at z12
    refine ⟨y0, e0, D.1.1, fun w1 => z12.mono (fun v2 h2 p2 => ?_)⟩
    obtain ⟨y2, e2, p2⟩ := p2
    rcases p2 with ⟨b1, hy2, e3⟩ | ⟨n', n0', n1', n2', _⟩
    · subst e3
      exact ⟨y2, e2, hy2.trans hy.symm, d, m, t, c, r, la, k, sx, ps, C, D, S, q, hM⟩
    · exact (outR (a := 1) (b := 200) a1 n2' n0' n1' (by omega)).elim
  · subst e1
    have z12 := c_X12_expl (m := m) (z := x) l G D.1 S
    rw [D.2] at z12
    refine ⟨y0, e0, D.1.1, fun w1 => z12.mono (fun v2 h2 p2 => ?_)⟩
    obtain ⟨y2, e2, p2⟩ := p2
    rcases p2 with ⟨b1, _⟩ | ⟨n', n0', n1', n2', ⟨b1, hy2, e3⟩ | ⟨b1, _⟩⟩
    · exact (outR (a := 1) (b := 200) b1 n2 n0 n1 (by omega)).elim
    · subst e3
      exact ⟨y2, e2, hy2.trans hy.symm, d, m, t, c, r, la, k, sx, ps, C, D, S, q, hM⟩
    · exact absurd a1 b1
  · have D1 := D.ct C w f hM
    have z12 := c_X12_expl (m := m) (z := x) l G D1.1 S
    rw [D1.2] at z12
    refine ⟨y0, e0, D1.1.1, fun w1 => z12.mono (fun v2 h2 p2 => ?_)⟩
    obtain ⟨y2, e2, p2⟩ := p2
    rcases p2 with ⟨b1, _⟩ | ⟨n', n0', n1', n2', ⟨b1, _⟩ | ⟨b1, hy2, m2, e3, S2⟩⟩
    · exact (outR (a := 1) (b := 200) b1 n2 n0 n1 (by omega)).elim
    · exact absurd b1 a1
    · subst e3
      have en : n' = n := nI_i2 (by omega) (by omega) (n2'.symm.trans n2)
      subst en
      exact ⟨y2, e2, hy2.trans hy.symm, BoS.of C1 D1 w1 S2 (q.next hl.2 hl.1 _) hM⟩
theorem st_reset (l : Launch) (G : GG) {h : Hp} {T M : Nat} (L : BoS G h T M) (w : WF h)  : Con l G yX11_reset wsX11_reset 5 108 0 0 [.ref T] h (pI (fun v0 h1 => Hk h1 M = some (.inl 14) ∧ (WF h1 → Con l G yX12_reset wsX12_reset 1 21 0 0 [.ref M] h1 (pI (fun y2 h2 => y2 = v0 ∧ BoS G h2 T M))))) := by
  obtain ⟨d, m, t, c, r, la, k, sx, ps, C, D, S, q, hM⟩ := L
  have hl := C.hl
  refine (c_X11_reset l G C S.2.2.2.1.1).mono (fun v h1 p => ?_)
  obtain ⟨y0, e0, p⟩ := p
  rcases p with ⟨a1, hy, e1⟩ | ⟨a1, hy, C1, f⟩
  · subst e1
    have z12 := c_X12_reset (m := m) l G D.1 S
    rw [D.2] at z12
    refine ⟨y0, e0, D.1.1, fun w1 => z12.mono (fun v2 h2 p2 => ?_)⟩
    obtain ⟨y2, e2, p2⟩ := p2
    rcases p2 with ⟨b1, hy2, e3⟩ | ⟨b1, _⟩
    · subst e3
      exact ⟨y2, e2, hy2.trans hy.symm, d, m, t, c, r, la, k, sx, ps, C, D, S, q, hM⟩
    · rw [a1] at b1
      cases b1
  · have D1 := D.ct C w f hM
    have z12 := c_X12_reset (m := m) l G D1.1 S
    rw [D1.2] at z12
    refine ⟨y0, e0, D1.1.1, fun w1 => z12.mono (fun v2 h2 p2 => ?_)⟩
    obtain ⟨y2, e2, p2⟩ := p2
    rcases p2 with ⟨b1, _⟩ | ⟨b1, hy2, m2, e3, S2⟩
    · rw [a1] at b1
      cases b1
    · subst e3
      exact ⟨y2, e2, hy2.trans hy.symm, BoS.of C1 D1 w1 S2 (q.next hl.2 hl.1 _) hM⟩
theorem st_undo (l : Launch) (G : GG) {h : Hp} {T M : Nat} (L : BoS G h T M) (w : WF h)  : Con l G yX11_undo wsX11_undo 5 108 0 0 [.ref T] h (pI (fun v0 h1 => Hk h1 M = some (.inl 14) ∧ (WF h1 → Con l G yX12_undo wsX12_undo 0 0 0 0 [.ref M] h1 (pI (fun y2 h2 => y2 = v0 ∧ BoS G h2 T M))))) := by
  obtain ⟨d, m, t, c, r, la, k, sx, ps, C, D, S, q, hM⟩ := L
  have hl := C.hl
  refine (c_X11_undo l G C).mono (fun v h1 p => ?_)
  obtain ⟨y0, e0, p⟩ := p
  rcases p with ⟨a1, hy, e1⟩ | ⟨a1, hy, C1, f⟩
  · subst e1
    have z12 := c_X12_undo (m := m) l G D.1 S
    rw [D.2] at z12
    refine ⟨y0, e0, D.1.1, fun w1 => z12.mono (fun v2 h2 p2 => ?_)⟩
    obtain ⟨y2, e2, p2⟩ := p2
    rcases p2 with ⟨b1, hy2, e3⟩ | ⟨b1, _⟩
    · subst e3
      exact ⟨y2, e2, hy2.trans hy.symm, d, m, t, c, r, la, k, sx, ps, C, D, S, q, hM⟩
    · omega
  · have D1 := D.ct C w f hM
    have z12 := c_X12_undo (m := m) l G D1.1 S
    rw [D1.2] at z12
    refine ⟨y0, e0, D1.1.1, fun w1 => z12.mono (fun v2 h2 p2 => ?_)⟩
    obtain ⟨y2, e2, p2⟩ := p2
    rcases p2 with ⟨b1, _⟩ | ⟨b1, hy2, m2, e3, S2⟩
    · omega
    · subst e3
      rw [q.top a1] at S2
      exact ⟨y2, e2, hy2.trans hy.symm, BoS.of C1 D1 w1 S2 (q.back hl.2 hl.1) hM⟩
theorem st_openPairs (l : Launch) (G : GG) {h : Hp} {T M : Nat} (L : BoS G h T M) (w : WF h)  : Con l G yX11_openPairs wsX11_openPairs 3 64 0 0 [.ref T] h (pI (fun v0 h1 => Hk h1 M = some (.inl 14) ∧ (WF h1 → Con l G yX12_openPairs wsX12_openPairs 2 44 0 0 [.ref M] h1 (pI (fun y2 h2 => y2 = v0 ∧ BoS G h2 T M))))) := by
  obtain ⟨d, m, t, c, r, la, k, sx, ps, C, D, S, q, hM⟩ := L
  have hT := C.1.1
  have hT2 := C.1.2.2.2.1
  have hxc := C.2.2.2.2.1
  obtain ⟨⟨rs, hX⟩, o, hO, hC⟩ := hxc
  have hpc : xpc r ≤ 40 := S.2.2.2.1.1.2.1.2
  have hfl : xfl r ≤ 20 := S.2.2.2.1.1.2.2.1
  refine (c_X11_openPairs l G hT hT2 hX hO hC S.2.2.2.1.1).mono (fun v h1 p => ?_)
  obtain ⟨y0, e0, hy, e1⟩ := p
  subst e1
  refine ⟨y0, e0, D.1.1, fun _ => ?_⟩
  have z12 := c_X12_openPairs (m := m) l G D.1 S.2.1 S.2.2.1 S.2.2.2.1
  rw [D.2] at z12
  refine z12.mono (fun v2 h2 p2 => ?_)
  obtain ⟨y2, e2, hy2, hh⟩ := p2
  subst hh
  exact ⟨y2, e2, hy2.trans hy.symm, d, m, t, c, r, la, k, sx, ps, C, D, S, q, hM⟩
theorem st_skippedPairs (l : Launch) (G : GG) {h : Hp} {T M : Nat} (L : BoS G h T M) (w : WF h)  : Con l G yX11_skippedPairs wsX11_skippedPairs 0 0 0 0 [.ref T] h (pI (fun v0 h1 => Hk h1 M = some (.inl 14) ∧ (WF h1 → Con l G yX12_skippedPairs wsX12_skippedPairs 0 0 0 0 [.ref M] h1 (pI (fun y2 h2 => y2 = v0 ∧ BoS G h2 T M))))) := by
  obtain ⟨d, m, t, c, r, la, k, sx, ps, C, D, S, q, hM⟩ := L
  have hT := C.1.1
  have hT2 := C.1.2.2.2.1
  have hxc := C.2.2.2.2.1
  obtain ⟨⟨rs, hX⟩, o, hO, hC⟩ := hxc
  have hpc : xpc r ≤ 40 := S.2.2.2.1.1.2.1.2
  have hfl : xfl r ≤ 20 := S.2.2.2.1.1.2.2.1
  refine (c_X11_skippedPairs l G hT hT2 hX ).mono (fun v h1 p => ?_)
  obtain ⟨y0, e0, hy, e1⟩ := p
  subst e1
  refine ⟨y0, e0, D.1.1, fun _ => ?_⟩
  have z12 := c_X12_skippedPairs (m := m) l G D.1
  rw [D.2] at z12
  refine z12.mono (fun v2 h2 p2 => ?_)
  obtain ⟨y2, e2, hy2, hh⟩ := p2
  subst hh
  exact ⟨y2, e2, (hy2.trans S.2.2.1.1.2.1).trans hy.symm, d, m, t, c, r, la, k, sx, ps, C, D, S, q, hM⟩
theorem st_redundantPairs (l : Launch) (G : GG) {h : Hp} {T M : Nat} (L : BoS G h T M) (w : WF h)  : Con l G yX11_redundantPairs wsX11_redundantPairs 0 0 0 0 [.ref T] h (pI (fun v0 h1 => Hk h1 M = some (.inl 14) ∧ (WF h1 → Con l G yX12_redundantPairs wsX12_redundantPairs 0 0 0 0 [.ref M] h1 (pI (fun y2 h2 => y2 = v0 ∧ BoS G h2 T M))))) := by
  obtain ⟨d, m, t, c, r, la, k, sx, ps, C, D, S, q, hM⟩ := L
  have hT := C.1.1
  have hT2 := C.1.2.2.2.1
  have hxc := C.2.2.2.2.1
  obtain ⟨⟨rs, hX⟩, o, hO, hC⟩ := hxc
  have hpc : xpc r ≤ 40 := S.2.2.2.1.1.2.1.2
  have hfl : xfl r ≤ 20 := S.2.2.2.1.1.2.2.1
  refine (c_X11_redundantPairs l G hT hT2 hX ).mono (fun v h1 p => ?_)
  obtain ⟨y0, e0, hy, e1⟩ := p
  subst e1
  refine ⟨y0, e0, D.1.1, fun _ => ?_⟩
  have z12 := c_X12_redundantPairs (m := m) l G D.1
  rw [D.2] at z12
  refine z12.mono (fun v2 h2 p2 => ?_)
  obtain ⟨y2, e2, hy2, hh⟩ := p2
  subst hh
  exact ⟨y2, e2, (hy2.trans S.2.2.1.1.2.2.1).trans hy.symm, d, m, t, c, r, la, k, sx, ps, C, D, S, q, hM⟩
theorem st_droppedPairs (l : Launch) (G : GG) {h : Hp} {T M : Nat} (L : BoS G h T M) (w : WF h)  : Con l G yX11_droppedPairs wsX11_droppedPairs 0 0 0 0 [.ref T] h (pI (fun v0 h1 => Hk h1 M = some (.inl 14) ∧ (WF h1 → Con l G yX12_droppedPairs wsX12_droppedPairs 0 0 0 0 [.ref M] h1 (pI (fun y2 h2 => y2 = v0 ∧ BoS G h2 T M))))) := by
  obtain ⟨d, m, t, c, r, la, k, sx, ps, C, D, S, q, hM⟩ := L
  have hT := C.1.1
  have hT2 := C.1.2.2.2.1
  have hxc := C.2.2.2.2.1
  obtain ⟨⟨rs, hX⟩, o, hO, hC⟩ := hxc
  have hpc : xpc r ≤ 40 := S.2.2.2.1.1.2.1.2
  have hfl : xfl r ≤ 20 := S.2.2.2.1.1.2.2.1
  refine (c_X11_droppedPairs l G hT hT2 hX ).mono (fun v h1 p => ?_)
  obtain ⟨y0, e0, hy, e1⟩ := p
  subst e1
  refine ⟨y0, e0, D.1.1, fun _ => ?_⟩
  have z12 := c_X12_droppedPairs (m := m) l G D.1
  rw [D.2] at z12
  refine z12.mono (fun v2 h2 p2 => ?_)
  obtain ⟨y2, e2, hy2, hh⟩ := p2
  subst hh
  exact ⟨y2, e2, (hy2.trans S.2.2.1.1.2.2.2.1).trans hy.symm, d, m, t, c, r, la, k, sx, ps, C, D, S, q, hM⟩
theorem st_poolSize (l : Launch) (G : GG) {h : Hp} {T M : Nat} (L : BoS G h T M) (w : WF h)  : Con l G yX11_poolSize wsX11_poolSize 0 0 0 0 [.ref T] h (pI (fun v0 h1 => Hk h1 M = some (.inl 14) ∧ (WF h1 → Con l G yX12_poolSize wsX12_poolSize 0 0 0 0 [.ref M] h1 (pI (fun y2 h2 => y2 = v0 ∧ BoS G h2 T M))))) := by
  obtain ⟨d, m, t, c, r, la, k, sx, ps, C, D, S, q, hM⟩ := L
  have hT := C.1.1
  have hT2 := C.1.2.2.2.1
  have hxc := C.2.2.2.2.1
  obtain ⟨⟨rs, hX⟩, o, hO, hC⟩ := hxc
  have hpc : xpc r ≤ 40 := S.2.2.2.1.1.2.1.2
  have hfl : xfl r ≤ 20 := S.2.2.2.1.1.2.2.1
  refine (c_X11_poolSize l G hT hT2 hX ).mono (fun v h1 p => ?_)
  obtain ⟨y0, e0, hy, e1⟩ := p
  subst e1
  refine ⟨y0, e0, D.1.1, fun _ => ?_⟩
  have z12 := c_X12_poolSize (m := m) l G D.1
  rw [D.2] at z12
  refine z12.mono (fun v2 h2 p2 => ?_)
  obtain ⟨y2, e2, hy2, hh⟩ := p2
  subst hh
  exact ⟨y2, e2, (hy2.trans S.2.2.1.1.2.2.2.2.1).trans hy.symm, d, m, t, c, r, la, k, sx, ps, C, D, S, q, hM⟩
theorem st_sequenceLength (l : Launch) (G : GG) {h : Hp} {T M : Nat} (L : BoS G h T M) (w : WF h) {x : Int32} : Con l G yX11_sequenceLength wsX11_sequenceLength 1 21 0 0 [.ref T, .int x] h (pI (fun v0 h1 => Hk h1 M = some (.inl 14) ∧ (WF h1 → Con l G yX12_sequenceLength wsX12_sequenceLength 2 43 0 0 [.ref M, .int x] h1 (pI (fun y2 h2 => y2 = v0 ∧ BoS G h2 T M))))) := by
  obtain ⟨d, m, t, c, r, la, k, sx, ps, C, D, S, q, hM⟩ := L
  have hT := C.1.1
  have hT2 := C.1.2.2.2.1
  have hxc := C.2.2.2.2.1
  obtain ⟨⟨rs, hX⟩, o, hO, hC⟩ := hxc
  have hpc : xpc r ≤ 40 := S.2.2.2.1.1.2.1.2
  have hfl : xfl r ≤ 20 := S.2.2.2.1.1.2.2.1
  refine (c_X11_sequenceLength (x := x) l G hT hT2 hX hpc).mono (fun v h1 p => ?_)
  obtain ⟨y0, e0, hy, e1⟩ := p
  subst e1
  refine ⟨y0, e0, D.1.1, fun _ => ?_⟩
  have z12 := c_X12_sequenceLength (m := m) (x := x) l G D.1 S
  rw [D.2] at z12
  refine z12.mono (fun v2 h2 p2 => ?_)
  obtain ⟨y2, e2, hy2, hh⟩ := p2
  subst hh
  exact ⟨y2, e2, hy2.trans hy.symm, d, m, t, c, r, la, k, sx, ps, C, D, S, q, hM⟩
theorem st_sequenceCall (l : Launch) (G : GG) {h : Hp} {T M : Nat} (L : BoS G h T M) (w : WF h) {x z : Int32} : Con l G yX11_sequenceCall wsX11_sequenceCall 1 21 0 0 [.ref T, .int x, .int z] h (pI (fun v0 h1 => Hk h1 M = some (.inl 14) ∧ (WF h1 → Con l G yX12_sequenceCall wsX12_sequenceCall 2 43 0 0 [.ref M, .int x, .int z] h1 (pI (fun y2 h2 => y2 = v0 ∧ BoS G h2 T M))))) := by
  obtain ⟨d, m, t, c, r, la, k, sx, ps, C, D, S, q, hM⟩ := L
  have hT := C.1.1
  have hT2 := C.1.2.2.2.1
  have hxc := C.2.2.2.2.1
  obtain ⟨⟨rs, hX⟩, o, hO, hC⟩ := hxc
  have hpc : xpc r ≤ 40 := S.2.2.2.1.1.2.1.2
  have hfl : xfl r ≤ 20 := S.2.2.2.1.1.2.2.1
  refine (c_X11_sequenceCall (x := x) (z := z) l G hT hT2 hX hpc).mono (fun v h1 p => ?_)
  obtain ⟨y0, e0, hy, e1⟩ := p
  subst e1
  refine ⟨y0, e0, D.1.1, fun _ => ?_⟩
  have z12 := c_X12_sequenceCall (m := m) (x := x) (z := z) l G D.1 S
  rw [D.2] at z12
  refine z12.mono (fun v2 h2 p2 => ?_)
  obtain ⟨y2, e2, hy2, hh⟩ := p2
  subst hh
  exact ⟨y2, e2, hy2.trans hy.symm, d, m, t, c, r, la, k, sx, ps, C, D, S, q, hM⟩
theorem st_finalValue (l : Launch) (G : GG) {h : Hp} {T M : Nat} (L : BoS G h T M) (w : WF h) {x z : Int32} : Con l G yX11_finalValue wsX11_finalValue 1 21 0 0 [.ref T, .int x, .int z] h (pI (fun v0 h1 => Hk h1 M = some (.inl 14) ∧ (WF h1 → Con l G yX12_finalValue wsX12_finalValue 5 114 0 0 [.ref M, .int x, .int z] h1 (pI (fun y2 h2 => y2 = v0 ∧ BoS G h2 T M))))) := by
  obtain ⟨d, m, t, c, r, la, k, sx, ps, C, D, S, q, hM⟩ := L
  have hT := C.1.1
  have hT2 := C.1.2.2.2.1
  have hxc := C.2.2.2.2.1
  obtain ⟨⟨rs, hX⟩, o, hO, hC⟩ := hxc
  have hpc : xpc r ≤ 40 := S.2.2.2.1.1.2.1.2
  have hfl : xfl r ≤ 20 := S.2.2.2.1.1.2.2.1
  refine (c_X11_finalValue (x := x) (f := z) l G hT hT2 hX hpc).mono (fun v h1 p => ?_)
  obtain ⟨y0, e0, hy, e1⟩ := p
  subst e1
  refine ⟨y0, e0, D.1.1, fun _ => ?_⟩
  have z12 := c_X12_finalValue (m := m) (x := x) (f := z) l G D.1 S
  rw [D.2] at z12
  refine z12.mono (fun v2 h2 p2 => ?_)
  obtain ⟨y2, e2, hy2, hh⟩ := p2
  obtain ⟨m2, e3, S2⟩ := hh
  subst e3
  exact ⟨y2, e2, hy2.trans hy.symm, BoS.of C D w S2 q hM⟩
theorem st_enabledMethods (l : Launch) (G : GG) {h : Hp} {T M : Nat} (L : BoS G h T M) (w : WF h) {x : Int32} : Con l G yX11_enabledMethods wsX11_enabledMethods 5 109 0 0 [.ref T, .int x] h (pI (fun v0 h1 => Hk h1 M = some (.inl 14) ∧ (WF h1 → Con l G yX12_enabledMethods wsX12_enabledMethods 5 114 0 0 [.ref M, .int x] h1 (pI (fun y2 h2 => y2 = v0 ∧ BoS G h2 T M))))) := by
  obtain ⟨d, m, t, c, r, la, k, sx, ps, C, D, S, q, hM⟩ := L
  have hT := C.1.1
  have hT2 := C.1.2.2.2.1
  have hxc := C.2.2.2.2.1
  obtain ⟨⟨rs, hX⟩, o, hO, hC⟩ := hxc
  have hpc : xpc r ≤ 40 := S.2.2.2.1.1.2.1.2
  have hfl : xfl r ≤ 20 := S.2.2.2.1.1.2.2.1
  refine (c_X11_enabledMethods (x := x) l G hT hT2 hX hO hC hpc).mono (fun v h1 p => ?_)
  obtain ⟨y0, e0, hy, e1⟩ := p
  subst e1
  refine ⟨y0, e0, D.1.1, fun _ => ?_⟩
  have z12 := c_X12_enabledMethods (m := m) (x := x) l G D.1 S
  rw [D.2] at z12
  refine z12.mono (fun v2 h2 p2 => ?_)
  obtain ⟨y2, e2, hy2, hh⟩ := p2
  obtain ⟨m2, e3, S2⟩ := hh
  subst e3
  exact ⟨y2, e2, hy2.trans hy.symm, BoS.of C D w S2 q hM⟩
theorem st_findState (l : Launch) (G : GG) {h : Hp} {T M : Nat} (L : BoS G h T M) (w : WF h) {x y z : Int32} : Con l G yX11_findState wsX11_findState 2 47 0 0 [.ref T, .int x, .int y, .int z] h (pI (fun v0 h1 => Hk h1 M = some (.inl 14) ∧ (WF h1 → Con l G yX12_findState wsX12_findState 6 135 0 0 [.ref M, .int x, .int y, .int z] h1 (pI (fun y2 h2 => y2 = v0 ∧ BoS G h2 T M))))) := by
  obtain ⟨d, m, t, c, r, la, k, sx, ps, C, D, S, q, hM⟩ := L
  have hT := C.1.1
  have hT2 := C.1.2.2.2.1
  have hxc := C.2.2.2.2.1
  obtain ⟨⟨rs, hX⟩, o, hO, hC⟩ := hxc
  have hpc : xpc r ≤ 40 := S.2.2.2.1.1.2.1.2
  have hfl : xfl r ≤ 20 := S.2.2.2.1.1.2.2.1
  refine (c_X11_findState (t := (x, y, z)) l G hT hT2 hX hpc).mono (fun v h1 p => ?_)
  obtain ⟨y0, e0, hy, e1⟩ := p
  subst e1
  refine ⟨y0, e0, D.1.1, fun _ => ?_⟩
  have z12 := c_X12_findState (m := m) (x := x) (y := y) (z := z) l G D.1 S
  rw [D.2] at z12
  refine z12.mono (fun v2 h2 p2 => ?_)
  obtain ⟨y2, e2, hy2, hh⟩ := p2
  obtain ⟨m2, e3, S2⟩ := hh
  subst e3
  exact ⟨y2, e2, hy2.trans hy.symm, BoS.of C D w S2 q hM⟩
theorem st_failureCount (l : Launch) (G : GG) {h : Hp} {T M : Nat} (L : BoS G h T M) (w : WF h)  : Con l G yX11_failureCount wsX11_failureCount 0 0 0 0 [.ref T] h (pI (fun v0 h1 => Hk h1 M = some (.inl 14) ∧ (WF h1 → Con l G yX12_failureCount wsX12_failureCount 0 0 0 0 [.ref M] h1 (pI (fun y2 h2 => y2 = v0 ∧ BoS G h2 T M))))) := by
  obtain ⟨d, m, t, c, r, la, k, sx, ps, C, D, S, q, hM⟩ := L
  have hT := C.1.1
  have hT2 := C.1.2.2.2.1
  have hxc := C.2.2.2.2.1
  obtain ⟨⟨rs, hX⟩, o, hO, hC⟩ := hxc
  have hpc : xpc r ≤ 40 := S.2.2.2.1.1.2.1.2
  have hfl : xfl r ≤ 20 := S.2.2.2.1.1.2.2.1
  refine (c_X11_failureCount l G hT hT2 hX ).mono (fun v h1 p => ?_)
  obtain ⟨y0, e0, hy, e1⟩ := p
  subst e1
  refine ⟨y0, e0, D.1.1, fun _ => ?_⟩
  have z12 := c_X12_failureCount (m := m) l G D.1
  rw [D.2] at z12
  refine z12.mono (fun v2 h2 p2 => ?_)
  obtain ⟨y2, e2, hy2, hh⟩ := p2
  subst hh
  exact ⟨y2, e2, (hy2.trans S.2.2.1.1.2.2.2.2.2).trans hy.symm, d, m, t, c, r, la, k, sx, ps, C, D, S, q, hM⟩
theorem st_failureLength (l : Launch) (G : GG) {h : Hp} {T M : Nat} (L : BoS G h T M) (w : WF h) {x : Int32} : Con l G yX11_failureLength wsX11_failureLength 1 21 0 0 [.ref T, .int x] h (pI (fun v0 h1 => Hk h1 M = some (.inl 14) ∧ (WF h1 → Con l G yX12_failureLength wsX12_failureLength 2 43 0 0 [.ref M, .int x] h1 (pI (fun y2 h2 => y2 = v0 ∧ BoS G h2 T M))))) := by
  obtain ⟨d, m, t, c, r, la, k, sx, ps, C, D, S, q, hM⟩ := L
  have hT := C.1.1
  have hT2 := C.1.2.2.2.1
  have hxc := C.2.2.2.2.1
  obtain ⟨⟨rs, hX⟩, o, hO, hC⟩ := hxc
  have hpc : xpc r ≤ 40 := S.2.2.2.1.1.2.1.2
  have hfl : xfl r ≤ 20 := S.2.2.2.1.1.2.2.1
  refine (c_X11_failureLength (x := x) l G hT hT2 hX hfl).mono (fun v h1 p => ?_)
  obtain ⟨y0, e0, hy, e1⟩ := p
  subst e1
  refine ⟨y0, e0, D.1.1, fun _ => ?_⟩
  have z12 := c_X12_failureLength (m := m) (x := x) l G D.1 S
  rw [D.2] at z12
  refine z12.mono (fun v2 h2 p2 => ?_)
  obtain ⟨y2, e2, hy2, hh⟩ := p2
  subst hh
  exact ⟨y2, e2, hy2.trans hy.symm, d, m, t, c, r, la, k, sx, ps, C, D, S, q, hM⟩
theorem st_failureCall (l : Launch) (G : GG) {h : Hp} {T M : Nat} (L : BoS G h T M) (w : WF h) {x z : Int32} : Con l G yX11_failureCall wsX11_failureCall 1 21 0 0 [.ref T, .int x, .int z] h (pI (fun v0 h1 => Hk h1 M = some (.inl 14) ∧ (WF h1 → Con l G yX12_failureCall wsX12_failureCall 2 43 0 0 [.ref M, .int x, .int z] h1 (pI (fun y2 h2 => y2 = v0 ∧ BoS G h2 T M))))) := by
  obtain ⟨d, m, t, c, r, la, k, sx, ps, C, D, S, q, hM⟩ := L
  have hT := C.1.1
  have hT2 := C.1.2.2.2.1
  have hxc := C.2.2.2.2.1
  obtain ⟨⟨rs, hX⟩, o, hO, hC⟩ := hxc
  have hpc : xpc r ≤ 40 := S.2.2.2.1.1.2.1.2
  have hfl : xfl r ≤ 20 := S.2.2.2.1.1.2.2.1
  refine (c_X11_failureCall (x := x) (z := z) l G hT hT2 hX hfl).mono (fun v h1 p => ?_)
  obtain ⟨y0, e0, hy, e1⟩ := p
  subst e1
  refine ⟨y0, e0, D.1.1, fun _ => ?_⟩
  have z12 := c_X12_failureCall (m := m) (x := x) (z := z) l G D.1 S
  rw [D.2] at z12
  refine z12.mono (fun v2 h2 p2 => ?_)
  obtain ⟨y2, e2, hy2, hh⟩ := p2
  subst hh
  exact ⟨y2, e2, hy2.trans hy.symm, d, m, t, c, r, la, k, sx, ps, C, D, S, q, hM⟩
theorem st_failureVerdict (l : Launch) (G : GG) {h : Hp} {T M : Nat} (L : BoS G h T M) (w : WF h) {x : Int32} : Con l G yX11_failureVerdict wsX11_failureVerdict 1 21 0 0 [.ref T, .int x] h (pI (fun v0 h1 => Hk h1 M = some (.inl 14) ∧ (WF h1 → Con l G yX12_failureVerdict wsX12_failureVerdict 2 43 0 0 [.ref M, .int x] h1 (pI (fun y2 h2 => y2 = v0 ∧ BoS G h2 T M))))) := by
  obtain ⟨d, m, t, c, r, la, k, sx, ps, C, D, S, q, hM⟩ := L
  have hT := C.1.1
  have hT2 := C.1.2.2.2.1
  have hxc := C.2.2.2.2.1
  obtain ⟨⟨rs, hX⟩, o, hO, hC⟩ := hxc
  have hpc : xpc r ≤ 40 := S.2.2.2.1.1.2.1.2
  have hfl : xfl r ≤ 20 := S.2.2.2.1.1.2.2.1
  refine (c_X11_failureVerdict (x := x) l G hT hT2 hX hfl).mono (fun v h1 p => ?_)
  obtain ⟨y0, e0, hy, e1⟩ := p
  subst e1
  refine ⟨y0, e0, D.1.1, fun _ => ?_⟩
  have z12 := c_X12_failureVerdict (m := m) (x := x) l G D.1 S
  rw [D.2] at z12
  refine z12.mono (fun v2 h2 p2 => ?_)
  obtain ⟨y2, e2, hy2, hh⟩ := p2
  subst hh
  exact ⟨y2, e2, hy2.trans hy.symm, d, m, t, c, r, la, k, sx, ps, C, D, S, q, hM⟩
theorem st_minimizedLength (l : Launch) (G : GG) {h : Hp} {T M : Nat} (L : BoS G h T M) (w : WF h) {x : Int32} : Con l G yX11_minimizedLength wsX11_minimizedLength 8 185 0 0 [.ref T, .int x] h (pI (fun v0 h1 => Hk h1 M = some (.inl 14) ∧ (WF h1 → Con l G yX12_minimizedLength wsX12_minimizedLength 6 139 0 0 [.ref M, .int x] h1 (pI (fun y2 h2 => y2 = v0 ∧ BoS G h2 T M))))) := by
  obtain ⟨d, m, t, c, r, la, k, sx, ps, C, D, S, q, hM⟩ := L
  have hT := C.1.1
  have hT2 := C.1.2.2.2.1
  have hxc := C.2.2.2.2.1
  obtain ⟨⟨rs, hX⟩, o, hO, hC⟩ := hxc
  have hpc : xpc r ≤ 40 := S.2.2.2.1.1.2.1.2
  have hfl : xfl r ≤ 20 := S.2.2.2.1.1.2.2.1
  have hW := C.2.1
  have hsc := C.2.2.2.2.2.2
  obtain ⟨ys, zs, hS⟩ := hsc
  have hff : ∀ j, j < xfl r → 0 < (xfs r j).length ∧ (∀ m ∈ xfs r j, m < 1000) ∧ xvd r j < 1000 := fun j hj => by
    have f := S.2.2.2.1.2.2.2 j hj
    have hn := hC.len
    exact ⟨f.1.1, fun m hm => by have := f.2.1 m hm; omega, by omega⟩
  refine (c_X11_minimizedLength (x := x) l G hT hT2 hX hO hC hW ⟨by omega, by omega⟩ (fun q z => CtP_z z) hS hfl hff).mono (fun v h1 p => ?_)
  obtain ⟨y0, e0, hy, f, ys1, zs1, hs1⟩ := p
  have C1 := C.scr w f hs1
  have D1 := D.ct C w (fr_lo f (fun q e => Or.inr e)) hM
  refine ⟨y0, e0, D1.1.1, fun w1 => ?_⟩
  have z12 := c_X12_minimizedLength (m := m) (x := x) l G D1.1 S
  rw [D1.2] at z12
  refine z12.mono (fun v2 h2 p2 => ?_)
  obtain ⟨y2, e2, hy2, m2, e3, S2⟩ := p2
  subst e3
  exact ⟨y2, e2, hy2.trans hy.symm, BoS.of C1 D1 w1 S2 q hM⟩
theorem st_minimizedCall (l : Launch) (G : GG) {h : Hp} {T M : Nat} (L : BoS G h T M) (w : WF h) {x z : Int32} : Con l G yX11_minimizedCall wsX11_minimizedCall 8 185 0 0 [.ref T, .int x, .int z] h (pI (fun v0 h1 => Hk h1 M = some (.inl 14) ∧ (WF h1 → Con l G yX12_minimizedCall wsX12_minimizedCall 6 139 0 0 [.ref M, .int x, .int z] h1 (pI (fun y2 h2 => y2 = v0 ∧ BoS G h2 T M))))) := by
  obtain ⟨d, m, t, c, r, la, k, sx, ps, C, D, S, q, hM⟩ := L
  have hT := C.1.1
  have hT2 := C.1.2.2.2.1
  have hxc := C.2.2.2.2.1
  obtain ⟨⟨rs, hX⟩, o, hO, hC⟩ := hxc
  have hpc : xpc r ≤ 40 := S.2.2.2.1.1.2.1.2
  have hfl : xfl r ≤ 20 := S.2.2.2.1.1.2.2.1
  have hW := C.2.1
  have hsc := C.2.2.2.2.2.2
  obtain ⟨ys, zs, hS⟩ := hsc
  have hff : ∀ j, j < xfl r → 0 < (xfs r j).length ∧ (∀ m ∈ xfs r j, m < 1000) ∧ xvd r j < 1000 := fun j hj => by
    have f := S.2.2.2.1.2.2.2 j hj
    have hn := hC.len
    exact ⟨f.1.1, fun m hm => by have := f.2.1 m hm; omega, by omega⟩
  refine (c_X11_minimizedCall (x := x) (z := z) l G hT hT2 hX hO hC hW ⟨by omega, by omega⟩ (fun q z => CtP_z z) hS hfl hff).mono (fun v h1 p => ?_)
  obtain ⟨y0, e0, hy, f, ys1, zs1, hs1⟩ := p
  have C1 := C.scr w f hs1
  have D1 := D.ct C w (fr_lo f (fun q e => Or.inr e)) hM
  refine ⟨y0, e0, D1.1.1, fun w1 => ?_⟩
  have z12 := c_X12_minimizedCall (m := m) (x := x) (z := z) l G D1.1 S
  rw [D1.2] at z12
  refine z12.mono (fun v2 h2 p2 => ?_)
  obtain ⟨y2, e2, hy2, m2, e3, S2⟩ := p2
  subst e3
  exact ⟨y2, e2, hy2.trans hy.symm, BoS.of C1 D1 w1 S2 q hM⟩
