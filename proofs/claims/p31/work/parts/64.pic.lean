/-! A ROW OF INTS BESIDE THE TESTER: written, it leaves the tester; the tester leaves it -/
def gk (t : Nat ⊕ (Nat × Nat)) : Prop := t ≠ .inl 14 ∧ ∀ n, t ≠ .inr (0, n)
theorem gk_l {n : Nat} (h : n ≠ 14) : gk (.inl n) := ⟨fun e => h (Sum.inl.inj e), fun _ e => by cases e⟩
theorem gk_r {t n : Nat} (h : t ≠ 0) : gk (.inr (t, n)) := by
  refine ⟨fun e => (by cases e), fun k e => h ?_⟩
  have e2 : (t, n) = (0, k) := Sum.inr.inj e
  exact congrArg Prod.fst e2
def TrG (P P' : Nat → Prop) (h h' : Hp) : Prop := ∀ a t, gk t → P a → Hk h a = some t → P' a ∧ Hk h' a = some t ∧ ∀ k, Hv h' a k = Hv h a k
theorem TrG.e {P P' : Nat → Prop} {h h' : Hp} (u : TrG P P' h h') : TrE P P' h h' := fun a t ht => u a t (by rcases ht with rfl | rfl | rfl <;> exact gk_l (by omega))
theorem LsAt.trg {P P' : Nat → Prop} {G : GG} {h h1 : Hp} {a : Nat} {es : List Nat} (q : LsAt P G h a es) (u : TrG P P' h h1) (hp : P a) : LsAt P' G h1 a es := by
  obtain ⟨k0, ⟨x, k1⟩, k2, k3⟩ := q
  obtain ⟨-, g, v⟩ := u a _ (gk_l (by omega)) hp k0
  refine ⟨g, ⟨x, by rw [v]; exact k1⟩, by rw [v]; exact k2, ?_⟩
  rcases k3 with ⟨e, k3⟩ | ⟨d, pd, k3, k4, k5, k6⟩
  · exact Or.inl ⟨e, by rw [v]; exact k3⟩
  · obtain ⟨pd', g', v'⟩ := u d _ (gk_r (by omega)) pd k4
    exact Or.inr ⟨d, pd', by rw [v]; exact k3, g', k5, fun i hi => by rw [v']; exact k6 i hi⟩
theorem LstAt.trg {α : Type} {P P' : Nat → Prop} {G : GG} {h h1 : Hp} {E E1 : Nat → α → Prop} {a : Nat} {xs : List α} (q : LstAt P G h E a xs) (u : TrG P P' h h1) (hE : ∀ b x, E b x → E1 b x) : LstAt P' G h1 E1 a xs := by
  obtain ⟨hp, es, q, hl, he⟩ := q
  exact ⟨(u a _ (gk_l (by omega)) hp q.1).1, es, q.trg u hp, hl, fun i x hx => hE _ _ (he i x hx)⟩
theorem MtAt.trg {P P' : Nat → Prop} {G : GG} {h h1 : Hp} {a : Nat} {s : Mth} (q : MtAt P G h a s) (u : TrG P P' h h1) : MtAt P' G h1 a s := by
  obtain ⟨x, y, z, hp, k0, k1, k2, k3, k4, k5, k6⟩ := q
  obtain ⟨hp', g, v⟩ := u a _ (gk_l (by omega)) hp k0
  exact ⟨x, y, z, hp', g, by rw [v]; exact k1, by rw [v]; exact k2, by rw [v]; exact k3, k4.trg u (fun _ _ q => q.tr u.e), k5.trg u (fun _ _ q => q.tr u.e), k6.trg u (fun _ _ q => q.tr u.e)⟩
theorem CpAt.trg {P P' : Nat → Prop} {G : GG} {h h1 : Hp} {a : Nat} {s : Cmp} (q : CpAt P G h a s) (u : TrG P P' h h1) : CpAt P' G h1 a s := by
  obtain ⟨x, y, z, hp, hx, k0, k1, k2, k3, k4, k5, k6⟩ := q
  obtain ⟨hp', g, v⟩ := u a _ (gk_l (by omega)) hp k0
  obtain ⟨s0, s1, s2, s3⟩ := k4
  obtain ⟨hx', g', v'⟩ := u x _ (gk_l (by omega)) hx s0
  exact ⟨x, y, z, hp', hx', g, by rw [v]; exact k1, by rw [v]; exact k2, by rw [v]; exact k3, ⟨g', by rw [v']; exact s1, by rw [v']; exact s2, by rw [v']; exact s3⟩, k5.trg u (fun _ _ q => q.tr u.e), k6.trg u (fun _ _ q => q.trg u)⟩
theorem XcAt.trg {P P' S : Nat → Prop} {G : GG} {h h1 : Hp} {E : Nat} {c : Cmp} {r : Xr} (q : XcAt P G h E c r) (w : WF h) (f : Fr S h h1) (hs : ∀ q, S q → ¬ XS E q) (u : TrG P P' h h1) : XcAt P' G h1 E c r := by
  obtain ⟨⟨rs, x⟩, o, v, p⟩ := q
  exact ⟨⟨rs, x.kept w f hs⟩, o, by rw [f.v w x.1.1.1 (fun e => hs _ e (Or.inl rfl))]; exact v, p.trg u⟩
theorem HsAt.trg {P P' S : Nat → Prop} {G : GG} {h h1 : Hp} {H l k : Nat} {sx : Nat → Cmp × Xr} (q : HsAt P G h H l k sx) (w : WF h) (f : Fr S h h1) (hs : ∀ q, S q → q < H ∨ H + 1028 ≤ q) (u : TrG P P' h h1) : HsAt P' G h1 H l k sx := by
  obtain ⟨a, b, c, d⟩ := q
  have ns : ∀ q, H ≤ q → q < H + 1028 → ¬ S q := fun q h1 h2 e => by have := hs q e; omega
  refine ⟨a.kept w f (ns _ (by omega) (by omega)) (ns _ (by omega) (by omega)), ?_, c, fun i hi => (d i hi).trg w f (fun q e z => by have := hs q e; unfold XS at z; omega) u⟩
  rw [f.v w a.1 (ns _ (by omega) (by omega)), f.v w a.1 (ns _ (by omega) (by omega))]
  exact b
theorem SbAt.bk {h : Hp} {a d : Nat} {t : List Nat} (q : SbAt h a d t) : ∃ N, Hk h d = some (.inr (1, N)) := by
  obtain ⟨N, _, _, _, _, k, _⟩ := q
  exact ⟨N, k⟩
theorem CtAt.nar {G : GG} {h : Hp} {T d A n : Nat} {t : List Nat} {c : Cmp} {r : Xr} {l k : Nat} {sx : Nat → Cmp × Xr} (q : CtAt G h T d t c r l k sx) (hA : T + 1213 ≤ A) (kA : Hk h A = some (.inr (0, n))) : ¬ CtW T d A := by
  obtain ⟨N, hd⟩ := q.2.2.1.1.bk
  intro e
  unfold CtW at e
  rcases e with e | e | e | e | e | e
  · omega
  · have := XS_rng e; omega
  · have := HsS_rng e; omega
  · omega
  · unfold ZS at e; omega
  · subst e
    rw [kA] at hd
    have e2 : (0, n) = (1, N) := Sum.inr.inj (Option.some.inj hd)
    have e3 := congrArg Prod.fst e2
    cases e3
/-- rows of ints beside the tester stay as they are -/
def Kp (T : Nat) (h h2 : Hp) : Prop := ∀ A n, T + 1213 ≤ A → Hk h A = some (.inr (0, n)) → Hk h2 A = some (.inr (0, n)) ∧ ∀ k, Hv h2 A k = Hv h A k
theorem Kp.rf {T : Nat} {h : Hp} : Kp T h h := fun _ _ _ k => ⟨k, fun _ => rfl⟩
theorem Kp.tr {T : Nat} {h h1 h2 : Hp} (a : Kp T h h1) (b : Kp T h1 h2) : Kp T h h2 := fun A n hA k => by
  obtain ⟨a1, a2⟩ := a A n hA k
  obtain ⟨b1, b2⟩ := b A n hA a1
  exact ⟨b1, fun j => (b2 j).trans (a2 j)⟩
theorem CtAt.kp {G : GG} {h h1 : Hp} {T d : Nat} {t : List Nat} {c : Cmp} {r : Xr} {l k : Nat} {sx : Nat → Cmp × Xr} (q : CtAt G h T d t c r l k sx) (w : WF h) (f : Fr (CtW T d) h h1) : Kp T h h1 :=
  fun _ _ hA kA => ⟨f.k w kA, f.v w kA (q.nar hA kA)⟩
theorem CtAt.arr {G : GG} {h : Hp} {T d A n j : Nat} {x : Value} {t : List Nat} {c : Cmp} {r : Xr} {l k : Nat} {sx : Nat → Cmp × Xr} (q : CtAt G h T d t c r l k sx) (w : WF h) (hA : T + 1213 ≤ A) (kA : Hk h A = some (.inr (0, n))) : CtAt G (Hput h A j x) T d t c r l k sx := by
  have hn := q.nar hA kA
  obtain ⟨a, b, ⟨c1, c3, c4⟩, e, x', y, ys, zs, z⟩ := q
  have f : Fr (fun q => q = A) h (Hput h A j x) := Fr.put (Or.inl rfl)
  have u : TrG (CtP T d) (CtP T d) h (Hput h A j x) := fun a t g pa hk => ⟨pa, f.k w hk, f.v w hk (fun e => by
    subst e
    rw [kA] at hk
    exact g.2 n (Option.some.inj hk).symm)⟩
  have nd : ¬ d = A := fun e => hn (Or.inr (Or.inr (Or.inr (Or.inr (Or.inr e.symm)))))
  exact ⟨a.kept w f (by omega), b.kept w f (by omega), ⟨c1.kept w f (by omega) nd, c3, c4⟩, e.kept w f (by omega) (fun q e z => by unfold lexS at z; omega), x'.trg w f (fun q e z => by have := XS_rng z; omega) u, y.trg w f (fun q e => by omega) u, ys, zs, z.kept w f (fun q e z => by unfold ZS at z; omega)⟩
/-! THE TESTER, ITS TEXT'S PLACE LEFT OPEN -/
abbrev Zt : Type := Cmp × Xr × Nat × Nat × (Nat → Cmp × Xr)
def TX (G : GG) (h : Hp) (T : Nat) (t : List Nat) (z : Zt) : Prop := ∃ d, CtAt G h T d t z.1 z.2.1 z.2.2.1 z.2.2.2.1 z.2.2.2.2
theorem TX.k {G : GG} {h : Hp} {T : Nat} {t : List Nat} {z : Zt} (q : TX G h T t z) : Hk h T = some (.inl 13) := by
  obtain ⟨d, q⟩ := q
  exact q.1.1
theorem TX.txt {G : GG} {h : Hp} {T : Nat} {t t2 : List Nat} {z : Zt} (q : TX G h T t z) (e : t = t2) : TX G h T t2 z := e ▸ q
theorem TX.arr {G : GG} {h : Hp} {T A n j : Nat} {x : Value} {t : List Nat} {z : Zt} (q : TX G h T t z) (w : WF h) (hA : T + 1213 ≤ A) (kA : Hk h A = some (.inr (0, n))) : TX G (Hput h A j x) T t z := by
  obtain ⟨d, q⟩ := q
  exact ⟨d, q.arr w hA kA⟩
/-- a character more -/
def pApp (G : GG) (h : Hp) (T : Nat) (t : List Nat) (n : Nat) (z : Zt) : Int32 → Hp → Prop := fun _ h2 => TX G h2 T (t ++ [n]) z ∧ Kp T h h2
theorem c_app (l : Launch) (G : GG) {h : Hp} {T : Nat} {t : List Nat} {z : Zt} {n : Nat} (q : TX G h T t z) (hn : n < 256) (ht : t.length < 200) : Con l G yX11_appendCharacter wsX11_appendCharacter 6 132 1 402 [.ref T, .int (nI n)] h (pI (pApp G h T t n z)) := by
  refine Con.wf (fun w => ?_)
  obtain ⟨d, C⟩ := q
  refine (c_X11_appendCharacter l G C (x := nI n)).mono (fun v h' hp => ?_)
  obtain ⟨y, rfl, hp⟩ := hp
  refine ⟨y, rfl, ?_⟩
  rcases hp with ⟨h0, -, -⟩ | ⟨m, hm, e, hp⟩
  · rw [isIx_nI (by omega)] at h0
    simp at h0
    omega
  · have e2 : n = m := (nI_eq (by omega) (by omega)).mp e
    subst e2
    rcases hp with ⟨h0, -, -⟩ | ⟨-, -, ⟨d2, C2⟩, f⟩
    · exact absurd ht h0
    · exact ⟨⟨d2, C2⟩, C.kp w f⟩
