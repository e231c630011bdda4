/-! THE TESTER: T itself, T + 1 its text, T + 3 the parser, T + 4 .. T + 7 the lexemes, T + 8 the exploration, T + 179 the history, T + 1207 .. T + 1212 the cells where calls are tried; d where the text's bytes stand -/
theorem XcAt.kept2 {P P' S : Nat → Prop} {G : GG} {h h1 : Hp} {E : Nat} {c : Cmp} {r : Xr} (q : XcAt P G h E c r) (w : WF h) (f : Fr S h h1) (hs : ∀ q, S q → ¬ XS E q) (hp : ∀ q, P q → ¬ S q) (m : ∀ q, P q → q < Hz h → P' q) : XcAt P' G h1 E c r := by
  obtain ⟨⟨rs, x⟩, o, v, p⟩ := q
  exact ⟨⟨rs, x.kept w f hs⟩, o, by rw [f.v w x.1.1.1 (fun e => hs _ e (Or.inl rfl))]; exact v, p.tr (fun a t pa hk => ⟨m a pa (w _ _ hk), f.k w hk, f.v w hk (hp a pa)⟩)⟩
theorem HsAt.kept2 {P P' S : Nat → Prop} {G : GG} {h h1 : Hp} {H l k : Nat} {sx : Nat → Cmp × Xr} (q : HsAt P G h H l k sx) (w : WF h) (f : Fr S h h1) (hs : ∀ q, S q → q < H ∨ H + 1028 ≤ q) (hp : ∀ q, P q → ¬ S q) (m : ∀ q, P q → q < Hz h → P' q) : HsAt P' G h1 H l k sx := by
  obtain ⟨a, b, c, d⟩ := q
  have ns : ∀ q, H ≤ q → q < H + 1028 → ¬ S q := fun q h1 h2 e => by have := hs q e; omega
  refine ⟨a.kept w f (ns _ (by omega) (by omega)) (ns _ (by omega) (by omega)), ?_, c, fun i hi => (d i hi).kept2 w f (fun q e z => by have := hs q e; unfold XS at z; omega) hp m⟩
  rw [f.v w a.1 (ns _ (by omega) (by omega)), f.v w a.1 (ns _ (by omega) (by omega))]
  exact b
def CtW (T d : Nat) : Nat → Prop := fun q => (T ≤ q ∧ q < T + 8) ∨ XS (T + 8) q ∨ HsS (T + 179) q ∨ q = T + 180 ∨ ZS (T + 1207) q ∨ q = d
def CtP (T d : Nat) : Nat → Prop := fun q => ¬ CtW T d q
def CtH (h : Hp) (T : Nat) : Prop := Hk h T = some (.inl 13) ∧ Hv h T 0 = .ref (T + 1) ∧ Hv h T 1 = .ref (T + 3) ∧ Hv h T 2 = .ref (T + 8) ∧ Hv h T 3 = .ref (T + 179)
def CtL (h : Hp) (T : Nat) : Prop := Hk h (T + 3) = some (.inl 10) ∧ Hv h (T + 3) 0 = .ref (T + 4) ∧ ∃ n ts p, LxAt h (T + 4) n ts p
def CtAt (G : GG) (h : Hp) (T d : Nat) (t : List Nat) (c : Cmp) (r : Xr) (l k : Nat) (sx : Nat → Cmp × Xr) : Prop := CtH h T ∧ WkZ h T (T + 1207) ∧ (SbAt h (T + 1) d t ∧ t.length ≤ 200 ∧ (d = T + 2 ∨ T + 1213 ≤ d)) ∧ CtL h T ∧ XcAt (CtP T d) G h (T + 8) c r ∧ HsAt (CtP T d) G h (T + 179) l k sx ∧ ∃ ys zs, ScZ h (T + 1207) ys zs
theorem CtH.kept {S : Nat → Prop} {h h1 : Hp} {T : Nat} (q : CtH h T) (w : WF h) (f : Fr S h h1) (n : ¬ S T) : CtH h1 T :=
  ⟨f.k w q.1, by rw [f.v w q.1 n]; exact q.2.1, by rw [f.v w q.1 n]; exact q.2.2.1, by rw [f.v w q.1 n]; exact q.2.2.2.1, by rw [f.v w q.1 n]; exact q.2.2.2.2⟩
theorem CtL.kept {S : Nat → Prop} {h h1 : Hp} {T : Nat} (q : CtL h T) (w : WF h) (f : Fr S h h1) (n : ¬ S (T + 3)) (hl : ∀ q, S q → ¬ lexS (T + 4) q) : CtL h1 T := by
  obtain ⟨a, b, m, ts, p, z⟩ := q
  exact ⟨f.k w a, by rw [f.v w a n]; exact b, m, ts, p, z.kept w f hl⟩
theorem ScZ.kept {S : Nat → Prop} {h h1 : Hp} {Z : Nat} {ys zs : List Nat} (q : ScZ h Z ys zs) (w : WF h) (f : Fr S h h1) (n : ∀ q, S q → ¬ ZS Z q) : ScZ h1 Z ys zs := by
  obtain ⟨⟨s, a⟩, ⟨s2, b⟩, c, d⟩ := q
  have ns : ∀ q, Z ≤ q → q < Z + 6 → ¬ S q := fun q h1 h2 e => n q e ⟨h1, h2⟩
  exact ⟨⟨s, a.kept w f (ns _ (by omega) (by omega))⟩, ⟨s2, b.kept w f (ns _ (by omega) (by omega))⟩, c.kept w f (ns _ (by omega) (by omega)) (ns _ (by omega) (by omega)), d.kept w f (ns _ (by omega) (by omega)) (ns _ (by omega) (by omega))⟩
/-- the text is changed, and may move -/
theorem CtAt.txt {G : GG} {h h1 : Hp} {T d d2 : Nat} {t t2 : List Nat} {c : Cmp} {r : Xr} {l k : Nat} {sx : Nat → Cmp × Xr} (q : CtAt G h T d t c r l k sx) (w : WF h) (f : Fr (fun q => q = T + 1 ∨ q = d) h h1) (s : SbAt h1 (T + 1) d2 t2) (hl : t2.length ≤ 200) (hd : d2 = d ∨ Hz h ≤ d2) : CtAt G h1 T d2 t2 c r l k sx := by
  obtain ⟨a, b, ⟨c1, c2, c3⟩, e, x, y, ys, zs, z⟩ := q
  have hz := w _ _ z.2.2.2.2.2.2.2.1
  have hp : ∀ q, CtP T d q → ¬ (q = T + 1 ∨ q = d) := fun q p e => p (by
    unfold CtW
    rcases e with e | e
    · exact Or.inl (by omega)
    · exact Or.inr (Or.inr (Or.inr (Or.inr (Or.inr e)))))
  have m : ∀ q, CtP T d q → q < Hz h → CtP T d2 q := fun q p hq e => p (by
    unfold CtW at e ⊢
    rcases e with e | e | e | e | e | e
    · exact Or.inl e
    · exact Or.inr (Or.inl e)
    · exact Or.inr (Or.inr (Or.inl e))
    · exact Or.inr (Or.inr (Or.inr (Or.inl e)))
    · exact Or.inr (Or.inr (Or.inr (Or.inr (Or.inl e))))
    · exact Or.inr (Or.inr (Or.inr (Or.inr (Or.inr (by omega))))))
  exact ⟨a.kept w f (by omega), b.kept w f (by omega), ⟨s, hl, by omega⟩, e.kept w f (by omega) (fun q e z => by unfold lexS at z; omega), x.kept2 w f (fun q e z => by unfold XS at z; omega) hp m, y.kept2 w f (fun q e => by omega) hp m, ys, zs, z.kept w f (fun q e z => by unfold ZS at z; omega)⟩
/-- what the tester's calls may write -/
theorem fr_xh {h h1 : Hp} {T d : Nat} (f : Fr (fun q => XS (T + 8) q ∨ HsS (T + 179) q) h h1) : Fr (CtW T d) h h1 := f.mono (fun q _ e => e.elim (fun z => Or.inr (Or.inl z)) (fun z => Or.inr (Or.inr (Or.inl z))))
theorem fr_no {h h1 : Hp} {T d : Nat} (f : Fr (fun _ => False) h h1) : Fr (CtW T d) h h1 := f.mono (fun q _ e => e.elim)
theorem fr_lo {S : Nat → Prop} {h h1 : Hp} {T d : Nat} (f : Fr S h h1) (m : ∀ q, S q → (T ≤ q ∧ q < T + 8) ∨ ZS (T + 1207) q) : Fr (CtW T d) h h1 := f.mono (fun q _ e => (m q e).elim Or.inl (fun z => Or.inr (Or.inr (Or.inr (Or.inr (Or.inl z))))))
