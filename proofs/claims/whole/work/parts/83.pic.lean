/-! THE TWO SIDE BY SIDE: the tester's picture when the reference's cells are written, and the other way -/
def gk (t : Nat ⊕ (Nat × Nat)) : Prop := t ≠ .inl 14 ∧ ∀ n, t ≠ .inr (0, n)
theorem gk_l {n : Nat} (h : n ≠ 14) : gk (.inl n) := ⟨fun e => h (Sum.inl.inj e), fun _ e => by cases e⟩
theorem gk_r {t n : Nat} (h : t ≠ 0) : gk (.inr (t, n)) := by
  refine ⟨fun e => (by cases e), fun k e => h ?_⟩
  have e2 : (t, n) = (0, k) := Sum.inr.inj e
  exact congrArg Prod.fst e2
def TrG (P P' : Nat → Prop) (h h' : Hp) : Prop := ∀ a t, gk t → P a → Hk h a = some t → P' a ∧ Hk h' a = some t ∧ ∀ k, Hv h' a k = Hv h a k
theorem TrG.e {P P' : Nat → Prop} {h h' : Hp} (u : TrG P P' h h') : TrE P P' h h' := fun a t ht => u a t (by rcases ht with rfl | rfl | rfl <;> exact gk_l (by omega))
theorem LsAt.trg {P P' : Nat → Prop} {G : GG} {h h1 : Hp} {a : Nat} {es : List Nat} (q : LsAt P G h a es) (u : TrG P P' h h1) (hp : P a) : LsAt P' G h1 a es := by
  obtain ⟨k0, ⟨x, k1⟩, k2, k3⟩ := q
  obtain ⟨-, g, v⟩ := u a _ (gk_l (by omega)) hp k0
  refine ⟨g, ⟨x, by rw [v]; exact k1⟩, by rw [v]; exact k2, ?_⟩
  rcases k3 with ⟨e, k3⟩ | ⟨d, pd, k3, k4, k5, k6⟩
  · exact Or.inl ⟨e, by rw [v]; exact k3⟩
  · obtain ⟨pd', g', v'⟩ := u d _ (gk_r (by omega)) pd k4
    exact Or.inr ⟨d, pd', by rw [v]; exact k3, g', k5, fun i hi => by rw [v']; exact k6 i hi⟩
theorem LstAt.trg {α : Type} {P P' : Nat → Prop} {G : GG} {h h1 : Hp} {E E1 : Nat → α → Prop} {a : Nat} {xs : List α} (q : LstAt P G h E a xs) (u : TrG P P' h h1) (hE : ∀ b x, E b x → E1 b x) : LstAt P' G h1 E1 a xs := by
  obtain ⟨hp, es, q, hl, he⟩ := q
  exact ⟨(u a _ (gk_l (by omega)) hp q.1).1, es, q.trg u hp, hl, fun i x hx => hE _ _ (he i x hx)⟩
theorem MtAt.trg {P P' : Nat → Prop} {G : GG} {h h1 : Hp} {a : Nat} {s : Mth} (q : MtAt P G h a s) (u : TrG P P' h h1) : MtAt P' G h1 a s := by
  obtain ⟨x, y, z, hp, k0, k1, k2, k3, k4, k5, k6⟩ := q
  obtain ⟨hp', g, v⟩ := u a _ (gk_l (by omega)) hp k0
  exact ⟨x, y, z, hp', g, by rw [v]; exact k1, by rw [v]; exact k2, by rw [v]; exact k3, k4.trg u (fun _ _ q => q.tr u.e), k5.trg u (fun _ _ q => q.tr u.e), k6.trg u (fun _ _ q => q.tr u.e)⟩
theorem CpAt.trg {P P' : Nat → Prop} {G : GG} {h h1 : Hp} {a : Nat} {s : Cmp} (q : CpAt P G h a s) (u : TrG P P' h h1) : CpAt P' G h1 a s := by
  obtain ⟨x, y, z, hp, hx, k0, k1, k2, k3, k4, k5, k6⟩ := q
  obtain ⟨hp', g, v⟩ := u a _ (gk_l (by omega)) hp k0
  obtain ⟨s0, s1, s2, s3⟩ := k4
  obtain ⟨hx', g', v'⟩ := u x _ (gk_l (by omega)) hx s0
  exact ⟨x, y, z, hp', hx', g, by rw [v]; exact k1, by rw [v]; exact k2, by rw [v]; exact k3, ⟨g', by rw [v']; exact s1, by rw [v']; exact s2, by rw [v']; exact s3⟩, k5.trg u (fun _ _ q => q.tr u.e), k6.trg u (fun _ _ q => q.trg u)⟩
theorem XcAt.trg {P P' S : Nat → Prop} {G : GG} {h h1 : Hp} {E : Nat} {c : Cmp} {r : Xr} (q : XcAt P G h E c r) (w : WF h) (f : Fr S h h1) (hs : ∀ q, S q → ¬ XS E q) (u : TrG P P' h h1) : XcAt P' G h1 E c r := by
  obtain ⟨⟨rs, x⟩, o, v, p⟩ := q
  exact ⟨⟨rs, x.kept w f hs⟩, o, by rw [f.v w x.1.1.1 (fun e => hs _ e (Or.inl rfl))]; exact v, p.trg u⟩
theorem HsAt.trg {P P' S : Nat → Prop} {G : GG} {h h1 : Hp} {H l k : Nat} {sx : Nat → Cmp × Xr} (q : HsAt P G h H l k sx) (w : WF h) (f : Fr S h h1) (hs : ∀ q, S q → q < H ∨ H + 1028 ≤ q) (u : TrG P P' h h1) : HsAt P' G h1 H l k sx := by
  obtain ⟨a, b, c, d⟩ := q
  have ns : ∀ q, H ≤ q → q < H + 1028 → ¬ S q := fun q h1 h2 e => by have := hs q e; omega
  refine ⟨a.kept w f (ns _ (by omega) (by omega)) (ns _ (by omega) (by omega)), ?_, c, fun i hi => (d i hi).trg w f (fun q e z => by have := hs q e; unfold XS at z; omega) u⟩
  rw [f.v w a.1 (ns _ (by omega) (by omega)), f.v w a.1 (ns _ (by omega) (by omega))]
  exact b
theorem MdK.gk {h : Hp} {M a : Nat} {t} (K : MdK h M) (g : gk t) (hk : Hk h a = some t) : ¬ (M ≤ a ∧ a < M + 9) := by
  intro ⟨h1, h2⟩
  rcases Nat.eq_or_lt_of_le h1 with e | e
  · subst e
    exact g.1 (Option.some.inj (hk.symm.trans K.1))
  · have q := K.2.2 (a - M) (by omega) (by omega)
    rw [show M + (a - M) = a by omega, hk] at q
    exact g.2 _ (Option.some.inj q)
theorem SbAt.bk {h : Hp} {a d : Nat} {t : List Nat} (q : SbAt h a d t) : ∃ N, Hk h d = some (.inr (1, N)) := by
  obtain ⟨N, _, _, _, _, k, _⟩ := q
  exact ⟨N, k⟩
/-- the reference's cells are written: the tester stands -/
theorem CtAt.ref {G : GG} {h h1 : Hp} {T d M : Nat} {t : List Nat} {c : Cmp} {r : Xr} {l k : Nat} {sx : Nat → Cmp × Xr} (q : CtAt G h T d t c r l k sx) (w : WF h) (f : Fr (fun q => M ≤ q ∧ q < M + 9) h h1) (K : MdK h M) (hM : M = T + 1213) : CtAt G h1 T d t c r l k sx := by
  obtain ⟨a, b, ⟨c1, c3, c4⟩, e, x, y, ys, zs, z⟩ := q
  have u : TrG (CtP T d) (CtP T d) h h1 := fun a t g pa hk => ⟨pa, f.k w hk, f.v w hk (K.gk g hk)⟩
  obtain ⟨N, hd⟩ := c1.bk
  have nd := K.gk (gk_r (by omega)) hd
  exact ⟨a.kept w f (by omega), b.kept w f (by omega), ⟨c1.kept w f (by omega) nd, c3, c4⟩, e.kept w f (by omega) (fun q e z => by unfold lexS at z; omega), x.trg w f (fun q e z => by have := XS_rng z; omega) u, y.trg w f (fun q e => by omega) u, ys, zs, z.kept w f (fun q e z => by unfold ZS at z; omega)⟩
/-- the tester's cells are written: the reference stands -/
theorem MdAt.ct {G : GG} {h h1 : Hp} {T d M : Nat} {m : Md} {t : List Nat} {c : Cmp} {r : Xr} {l k : Nat} {sx : Nat → Cmp × Xr} (q : MdAt h M m) (C : CtAt G h T d t c r l k sx) (w : WF h) (f : Fr (CtW T d) h h1) (hM : M = T + 1213) : MdAt h1 M m := by
  obtain ⟨N, hd⟩ := C.2.2.1.1.bk
  refine q.kept w f (fun a h1 h2 e => ?_)
  unfold CtW at e
  rcases e with e | e | e | e | e | e
  · omega
  · have := XS_rng e; omega
  · unfold HsS at e
    rcases e with e | ⟨i, hi, e⟩
    · omega
    · have := XS_rng e; omega
  · omega
  · unfold ZS at e; omega
  · subst e
    exact q.1.gk (gk_r (by omega)) hd ⟨h1, h2⟩
/-! THE PAST: what the tester keeps in a ring, the reference keeps in rows -/
def pvN (j l : Nat) : Nat := if j ≤ l then l - j else l + 6 - j
def HR (k la : Nat) (sx ps : Nat → Cmp × Xr) : Prop := ∀ j, j < k → ps (k - 1 - j) = sx (pvN j la)
theorem HR.top {k la : Nat} {sx ps : Nat → Cmp × Xr} (q : HR k la sx ps) (hk : 0 < k) : ps (k - 1) = sx la := by
  have e := q 0 hk
  have e2 : pvN 0 la = la := by unfold pvN; rw [if_pos (Nat.zero_le _)]; rfl
  rw [e2] at e
  exact e
theorem HR.back {k la : Nat} {sx ps : Nat → Cmp × Xr} (q : HR k la sx ps) (hk : k ≤ 6) (hl : la < 6) : HR (k - 1) (pvL la) sx ps := by
  intro j hj
  have e := q (j + 1) (by omega)
  have e2 : pvN (j + 1) la = pvN j (pvL la) := by unfold pvN pvL; repeat' split
                                                  all_goals omega
  rw [e2] at e
  rw [← e]
  congr 1
  omega
theorem HR.next {k la : Nat} {sx ps : Nat → Cmp × Xr} (q : HR k la sx ps) (hk : k ≤ 6) (hl : la < 6) (x : Cmp × Xr) : HR (nxK k) (nxL la) (fup sx (nxL la) x) (noteP ps k x) := by
  have hk2 : nxK k = if k < 6 then k + 1 else k := rfl
  intro j hj
  cases j with
  | zero =>
    have e2 : pvN 0 (nxL la) = nxL la := by unfold pvN; rw [if_pos (Nat.zero_le _)]; rfl
    rw [e2]
    have e3 : fup sx (nxL la) x (nxL la) = x := by unfold fup; rw [if_pos rfl]
    rw [e3]
    by_cases h6 : k = 6
    · subst h6
      rfl
    · have e4 : nxK k - 1 - 0 = k := by rw [hk2]; split <;> omega
      rw [e4]
      unfold noteP
      rw [if_neg h6]
      unfold fup
      rw [if_pos rfl]
  | succ j =>
    have hj2 : j < k ∧ j < 5 := by rw [hk2] at hj; split at hj <;> omega
    have e2 : pvN (j + 1) (nxL la) = pvN j la := by unfold pvN nxL; repeat' split
                                                    all_goals omega
    have e3 : pvN j la ≠ nxL la := by unfold pvN nxL; repeat' split
                                      all_goals omega
    have e4 : fup sx (nxL la) x (pvN j la) = sx (pvN j la) := by unfold fup; rw [if_neg e3]
    rw [e2, e4, ← q j hj2.1]
    by_cases h6 : k = 6
    · subst h6
      have e5 : nxK 6 - 1 - (j + 1) = 4 - j := by rw [hk2]; split <;> omega
      rw [e5]
      show (if 4 - j = 5 then x else ps (4 - j + 1)) = ps (6 - 1 - j)
      rw [if_neg (by omega)]
      congr 1
      omega
    · have e5 : nxK k - 1 - (j + 1) = k - 1 - j := by rw [hk2]; split <;> omega
      rw [e5]
      unfold noteP
      rw [if_neg h6]
      unfold fup
      rw [if_neg (by omega)]
/-! BOTH TOGETHER -/
def BoS (G : GG) (h : Hp) (T M : Nat) : Prop := ∃ (d : Nat) (m : Md) (t : List Nat) (c : Cmp) (r : Xr) (la k : Nat) (sx ps : Nat → Cmp × Xr), CtAt G h T d t c r la k sx ∧ MdAt h M m ∧ MSt m t c r k ps ∧ HR k la sx ps ∧ M = T + 1213
theorem CtAt.hl {G : GG} {h : Hp} {T d : Nat} {t : List Nat} {c : Cmp} {r : Xr} {la k : Nat} {sx : Nat → Cmp × Xr} (q : CtAt G h T d t c r la k sx) : la < 6 ∧ k ≤ 6 := q.2.2.2.2.2.1.2.2.1
/-- the reference's answer after the tester's: the two stand as before -/
theorem BoS.of {G : GG} {h : Hp} {T M d : Nat} {m m2 : Md} {t : List Nat} {c : Cmp} {r : Xr} {la k : Nat} {sx ps : Nat → Cmp × Xr} (C : CtAt G h T d t c r la k sx) (D : MdAt h M m) (w : WF h) (S : MSt m2 t c r k ps) (q : HR k la sx ps) (hM : M = T + 1213) : BoS G (Hm h M m2) T M := by
  have f : Fr (fun q => M ≤ q ∧ q < M + 9) h (Hm h M m2) := by
    have := Hm_fr (h := h) (M := M) (m := m) (m2 := m2)
    rw [D.2] at this
    exact this
  exact ⟨d, m2, t, c, r, la, k, sx, ps, C.ref w f D.1 hM, D.of, S, q, hM⟩
theorem BoS.same {G : GG} {h : Hp} {T M d : Nat} {m : Md} {t : List Nat} {c : Cmp} {r : Xr} {la k : Nat} {sx ps : Nat → Cmp × Xr} (C : CtAt G h T d t c r la k sx) (D : MdAt h M m) (S : MSt m t c r k ps) (q : HR k la sx ps) (hM : M = T + 1213) : BoS G (Hm h M m) T M := by
  rw [D.2]
  exact ⟨d, m, t, c, r, la, k, sx, ps, C, D, S, q, hM⟩
