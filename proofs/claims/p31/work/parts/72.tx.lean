/-! WHAT THE LAW CALLS ITSELF, over the tester's picture -/
theorem tx_pool (l : Launch) (G : GG) {h : Hp} {T : Nat} {t : List Nat} {z : Zt} (q0 : TX G h T t z) : Con l G yX11_poolSize wsX11_poolSize 0 0 0 0 [.ref T] h (pI (fun y h2 => y = nI (xpc z.2.1) ∧ h2 = h)) := by
  obtain ⟨d, C⟩ := q0
  obtain ⟨a1, b1, -, -, ⟨⟨rs1, l1⟩, o1, v1, p1⟩, -⟩ := id C
  exact c_X11_poolSize l G a1.1 a1.2.2.2.1 l1
theorem tx_open (l : Launch) (G : GG) {h : Hp} {T : Nat} {t : List Nat} {z : Zt} (q0 : TX G h T t z) (q : Inv z.1 z.2.1) : Con l G yX11_openPairs wsX11_openPairs 3 64 0 0 [.ref T] h (pI (fun y h2 => y = nI (cop z.1 z.2.1 40 0) ∧ h2 = h)) := by
  obtain ⟨d, C⟩ := q0
  obtain ⟨a1, b1, -, -, ⟨⟨rs1, l1⟩, o1, v1, p1⟩, -⟩ := id C
  exact c_X11_openPairs l G a1.1 a1.2.2.2.1 l1 v1 p1 q.1
theorem tx_cplx (l : Launch) (G : GG) {h : Hp} {T : Nat} {t : List Nat} {z : Zt} (q0 : TX G h T t z) {x : Int32} (hx : isIx x z.1.2.2.length = false) : Con l G yX11_complexity wsX11_complexity 4 86 0 0 [.ref T, .int x] h (pI (fun y h2 => y = -1 ∧ h2 = h)) := by
  obtain ⟨d, C⟩ := q0
  obtain ⟨a1, b1, -, -, ⟨⟨rs1, l1⟩, o1, v1, p1⟩, -⟩ := id C
  exact (c_X11_complexity l G a1.1 a1.2.2.2.1 l1 v1 p1).mono (pI_mono (fun y h' hp => ⟨by rw [hp.1, atI_no hx], hp.2⟩))
theorem tx_undo0 (l : Launch) (G : GG) {h : Hp} {T : Nat} {t : List Nat} {c : Cmp} {r : Xr} {la : Nat} {sx : Nat → Cmp × Xr} (q0 : TX G h T t (c, r, la, 0, sx)) : Con l G yX11_undo wsX11_undo 5 108 0 0 [.ref T] h (pI (fun y h2 => y = -2 ∧ h2 = h)) := by
  obtain ⟨d, C⟩ := q0
  refine (c_X11_undo l G C).mono (pI_mono (fun y h' hp => ?_))
  rcases hp with ⟨-, h1, h2⟩ | ⟨h1, -⟩
  · exact ⟨h1, h2⟩
  · exact absurd h1 (Nat.lt_irrefl 0)
/-- the edit that came last is taken back -/
theorem tx_undo (l : Launch) (G : GG) {h : Hp} {T : Nat} {t : List Nat} {c : Cmp} {r : Xr} {la k : Nat} {sx : Nat → Cmp × Xr} {x : Cmp × Xr} (q0 : TX G h T t (c, r, la, k, sx)) (hk : 0 < k) (hx : sx la = x) : Con l G yX11_undo wsX11_undo 5 108 0 0 [.ref T] h (pI (fun y h2 => y = nI (k - 1) ∧ TX G h2 T t (x.1, x.2, pvL la, k - 1, sx) ∧ Kp T h h2)) := by
  refine Con.wf (fun w => ?_)
  obtain ⟨d, C⟩ := q0
  have C : CtAt G h T d t c r la k sx := C
  refine (c_X11_undo l G C).mono (pI_mono (fun y h' hp => ?_))
  rcases hp with ⟨h1, -⟩ | ⟨-, h1, C2, f2⟩
  · omega
  · rw [hx] at C2
    exact ⟨h1, ⟨d, C2⟩, C.kp w f2⟩
theorem tx_reset0 (l : Launch) (G : GG) {h : Hp} {T : Nat} {t : List Nat} {z : Zt} (q0 : TX G h T t z) (q : Inv z.1 z.2.1) (hh : hpp z.2.1 40 0 = false) : Con l G yX11_reset wsX11_reset 5 108 0 0 [.ref T] h (pI (fun y h2 => y = -2 ∧ h2 = h)) := by
  obtain ⟨d, C⟩ := q0
  refine (c_X11_reset l G C q.1).mono (pI_mono (fun y h' hp => ?_))
  rcases hp with ⟨-, h1, h2⟩ | ⟨h1, -⟩
  · exact ⟨h1, h2⟩
  · rw [hh] at h1
    cases h1
theorem tx_max (l : Launch) (G : GG) {h : Hp} {T : Nat} {t : List Nat} {c : Cmp} {r : Xr} {la k : Nat} {sx : Nat → Cmp × Xr} (q0 : TX G h T t (c, r, la, k, sx)) {n : Nat} (h1 : 1 ≤ n) (h8 : n ≤ 8) : Con l G yX11_setMaximumLength wsX11_setMaximumLength 5 108 0 0 [.ref T, .int (nI n)] h (pI (fun y h2 => y = nI (xmx r) ∧ TX G h2 T t (c, ((n, xpc r, xfl r, xsk r, xrd r, xdr r), r.2), nxL la, nxK k, fup sx (nxL la) (c, r)) ∧ Kp T h h2)) := by
  refine Con.wf (fun w => ?_)
  obtain ⟨d, C⟩ := q0
  have C : CtAt G h T d t c r la k sx := C
  refine (c_X11_setMaximumLength l G C).mono (pI_mono (fun y h' hp => ?_))
  rcases hp with ⟨h0 | h0, -⟩ | ⟨m, m1, m8, e, hy, C2, f2⟩
  · exact absurd h0 (nI_nlt h1 (by omega))
  · exact absurd (nI_le h8 (by decide)) h0
  · have e2 : n = m := (nI_eq (by omega) (by omega)).mp e
    subst e2
    exact ⟨hy, ⟨d, C2⟩, C.kp w f2⟩
theorem tx_max0 (l : Launch) (G : GG) {h : Hp} {T : Nat} {t : List Nat} {z : Zt} (q0 : TX G h T t z) : Con l G yX11_setMaximumLength wsX11_setMaximumLength 5 108 0 0 [.ref T, .int (nI 0)] h (pI (fun y h2 => y = -1 ∧ h2 = h)) := by
  obtain ⟨d, C⟩ := q0
  refine (c_X11_setMaximumLength l G C).mono (pI_mono (fun y h' hp => ?_))
  rcases hp with ⟨-, h1, h2⟩ | ⟨m, m1, m8, e, -⟩
  · exact ⟨h1, h2⟩
  · have e2 : 0 = m := (nI_eq (by omega) (by omega)).mp e
    omega
theorem tx_set0 (l : Launch) (G : GG) {h : Hp} {T : Nat} {t : List Nat} {z : Zt} (q0 : TX G h T t z) {f v : Int32} (hb : isIx f 3 = false ∨ ¬ v ≤ nI 99) : Con l G yX11_setInitialValue wsX11_setInitialValue 7 153 24 212 [.ref T, .int f, .int v] h (pI (fun y h2 => y = -1 ∧ h2 = h)) := by
  obtain ⟨d, C⟩ := q0
  refine (c_X11_setInitialValue l G C).mono (pI_mono (fun y h' hp => ?_))
  rcases hp with ⟨-, h1, h2⟩ | ⟨⟨g1, -, g3⟩, -⟩
  · exact ⟨h1, h2⟩
  · rcases hb with hb | hb
    · rw [hb] at g1
      cases g1
    · exact absurd g3 hb
theorem tx_rem0 (l : Launch) (G : GG) {h : Hp} {T : Nat} {t : List Nat} {z : Zt} (q0 : TX G h T t z) {x : Int32} (hb : isIx x z.1.2.2.length = false) : Con l G yX11_removeMethod wsX11_removeMethod 6 130 24 212 [.ref T, .int x] h (pI (fun y h2 => y = -1 ∧ h2 = h)) := by
  obtain ⟨d, C⟩ := q0
  obtain ⟨a1, b1, -, -, ⟨⟨rs1, l1⟩, o1, v1, p1⟩, -⟩ := id C
  have hl := p1.len
  refine (c_X11_removeMethod l G C).mono (pI_mono (fun y h' hp => ?_))
  rcases hp with ⟨-, h1, h2⟩ | ⟨j, hj, e, -⟩
  · exact ⟨h1, h2⟩
  · subst e
    rw [isIx_nI (by omega)] at hb
    simp at hb
    omega
theorem tx_exp (l : Launch) (G : GG) {h : Hp} {T : Nat} {t : List Nat} {c : Cmp} {r : Xr} {la k : Nat} {sx : Nat → Cmp × Xr} (q0 : TX G h T t (c, r, la, k, sx)) (q : Inv c r) (hf : ¬ fos c r 40 0 = none) {n : Nat} (h1 : 1 ≤ n) (h2 : n ≤ 200) : Con l G yX11_explore wsX11_explore 6 137 0 0 [.ref T, .int (nI n)] h (pI (fun y h2 => y = nI (stps c n 0 r).1 ∧ TX G h2 T t (c, (stps c n 0 r).2, nxL la, nxK k, fup sx (nxL la) (c, r)))) := by
  obtain ⟨d, C⟩ := q0
  have C : CtAt G h T d t c r la k sx := C
  refine (c_X11_explore l G C q.1).mono (pI_mono (fun y h' hp => ?_))
  rcases hp with ⟨h0 | h0, -⟩ | ⟨m, m1, m8, e, hp⟩
  · exact absurd h0 (nI_nlt h1 (by omega))
  · exact absurd (nI_le h2 (by decide)) h0
  · have e2 : n = m := (nI_eq (by omega) (by omega)).mp e
    subst e2
    rcases hp with ⟨h0, -⟩ | ⟨-, hy, -, C2, -⟩
    · exact absurd h0 hf
    · exact ⟨hy, d, C2⟩
theorem tx_exp0 (l : Launch) (G : GG) {h : Hp} {T : Nat} {t : List Nat} {z : Zt} (q0 : TX G h T t z) (q : Inv z.1 z.2.1) (hf : fos z.1 z.2.1 40 0 = none) {n : Nat} (h1 : 1 ≤ n) (h2 : n ≤ 200) : Con l G yX11_explore wsX11_explore 6 137 0 0 [.ref T, .int (nI n)] h (pI (fun y h2 => y = -2 ∧ h2 = h)) := by
  obtain ⟨d, C⟩ := q0
  refine (c_X11_explore l G C q.1).mono (pI_mono (fun y h' hp => ?_))
  rcases hp with ⟨h0 | h0, -⟩ | ⟨m, m1, m8, e, hp⟩
  · exact absurd h0 (nI_nlt h1 (by omega))
  · exact absurd (nI_le h2 (by decide)) h0
  · rcases hp with ⟨-, hy, h2⟩ | ⟨h0, -⟩
    · exact ⟨hy, h2⟩
    · exact absurd hf h0
theorem tx_clear (l : Launch) (G : GG) {h : Hp} {T : Nat} {t : List Nat} {z : Zt} (q0 : TX G h T t z) : Con l G yX11_clearText wsX11_clearText 6 132 1 402 [.ref T] h (pI (fun y h2 => y = nI t.length ∧ TX G h2 T [] z)) := by
  obtain ⟨d, C⟩ := q0
  exact (c_X11_clearText l G C).mono (pI_mono (fun y h' hp => ⟨hp.1, d, hp.2.1⟩))
theorem tx_load (l : Launch) (G : GG) {h : Hp} {T : Nat} {t : List Nat} {c : Cmp} {r : Xr} {la k : Nat} {sx : Nat → Cmp × Xr} (q0 : TX G h T t (c, r, la, k, sx)) {c2 : Cmp} {r1 : List Tok} (hp : pCmp 200 cmp0 (toks t) = (some c2, r1)) : Con l G yX11_loadComponent wsX11_loadComponent 9 203 215 1329 [.ref T] h (pI (fun y h2 => y = nI c2.2.2.length ∧ TX G h2 T [] (c2, rst c2 r, nxL la, nxK k, fup sx (nxL la) (c, r)))) := by
  obtain ⟨d, C⟩ := q0
  have C : CtAt G h T d t c r la k sx := C
  refine (c_X11_loadComponent l G C).mono (pI_mono (fun y h' hq => ?_))
  rcases hq with ⟨r2, e, -⟩ | ⟨c3, r2, e, hy, C2, -⟩
  · rw [hp] at e
    cases e
  · rw [hp] at e
    cases e
    exact ⟨hy, d, C2⟩
theorem tx_load0 (l : Launch) (G : GG) {h : Hp} {T : Nat} {z : Zt} (q0 : TX G h T [120, 109, 101, 116, 104, 111, 100] z) : Con l G yX11_loadComponent wsX11_loadComponent 9 203 215 1329 [.ref T] h (pI (fun y h2 => y = -10 ∧ TX G h2 T [120, 109, 101, 116, 104, 111, 100] z)) := by
  obtain ⟨d, C⟩ := q0
  refine (c_X11_loadComponent l G C).mono (pI_mono (fun y h' hq => ?_))
  have e0 := xmethod_no
  rcases hq with ⟨r2, e, hy, C2, -⟩ | ⟨c3, r2, e, -⟩
  · rw [e] at e0
    have e1 : offR 7 r2 = 0 := e0.2
    have hy : y = -10 - nI (offR 7 r2) := hy
    rw [e1] at hy
    exact ⟨hy, d, C2⟩
  · rw [e] at e0
    cases e0.1
theorem dgB_x : ∀ n, n < 11 → dgB n [120, 109, 101, 116, 104, 111, 100] 0 = some 0 := by decide +kernel
theorem tx_run0 (l : Launch) (G : GG) {h : Hp} {T : Nat} {z : Zt} (q0 : TX G h T [120, 109, 101, 116, 104, 111, 100] z) : Con l G yX11_runText wsX11_runText 6 137 1 402 [.ref T] h (pI (fun y h2 => y = -10 ∧ h2 = h)) := by
  obtain ⟨d, C⟩ := q0
  obtain ⟨a1, b1, -, -, ⟨⟨rs1, l1⟩, o1, v1, p1⟩, -⟩ := id C
  have hl := p1.len
  refine (c_X11_runText l G C).mono (pI_mono (fun y h' hq => ?_))
  have e0 := dgB_x z.1.2.2.length (by omega)
  rcases hq with ⟨j, e, hy, h2⟩ | ⟨e, -⟩
  · rw [e0] at e
    cases e
    exact ⟨hy, h2⟩
  · rw [e0] at e
    cases e
theorem pvL_nxL {la : Nat} (h : la < 6) : pvL (nxL la) = la := by
  unfold pvL nxL
  repeat' split
  all_goals omega
theorem nxL_ne {la : Nat} (h : la < 6) : ¬ la = nxL la := by
  unfold nxL
  split <;> omega
theorem TX.hl {G : GG} {h : Hp} {T : Nat} {t : List Nat} {z : Zt} (q : TX G h T t z) : z.2.2.1 < 6 ∧ z.2.2.2.1 ≤ 6 := by
  obtain ⟨d, q⟩ := q
  exact q.2.2.2.2.2.1.2.2.1
theorem nxK_val (k : Nat) : nxK k = if k < 6 then k + 1 else k := rfl
theorem wd_xm : wOk 33897279717404516 ∧ wdB 33897279717404516 8 = [120, 109, 101, 116, 104, 111, 100] := by
  unfold wOk
  decide +kernel
theorem AI.kp {T A : Nat} {h h2 : Hp} {hv : Nat → Int32} (q : AI h A hv) (p : Kp T h h2) (hA : T + 1213 ≤ A) : AI h2 A hv := by
  obtain ⟨k1, k2⟩ := p A 64 hA q.1
  exact ⟨k1, fun j => (k2 j).trans (q.2 j)⟩
theorem neg_nge {x : Int32} (h : x < 0) : ¬ 0 ≤ x := fun z => by
  have h1 := Int32.lt_iff_toInt_lt.mp h
  have h2 := Int32.le_iff_toInt_le.mp z
  omega
theorem pos_nlt {x : Int32} (h : 0 ≤ x) : ¬ x < 0 := fun z => neg_nge z h
theorem dec_nI {a : Nat} (h : 1 ≤ a) : nI a + Int32.ofInt (-1) = nI (a - 1) := by
  obtain ⟨b, rfl⟩ : ∃ b, a = b + 1 := ⟨a - 1, by omega⟩
  rw [Nat.add_sub_cancel, ← nI_pred b, Int32.sub_eq_add_neg]
  rfl
