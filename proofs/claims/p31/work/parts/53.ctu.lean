/-- the cells where calls are tried are changed -/
theorem CtAt.scr {G : GG} {h h1 : Hp} {T d : Nat} {t : List Nat} {c : Cmp} {r : Xr} {l k : Nat} {sx : Nat → Cmp × Xr} {ys zs : List Nat} (q : CtAt G h T d t c r l k sx) (w : WF h) (f : Fr (ZS (T + 1207)) h h1) (s : ScZ h1 (T + 1207) ys zs) : CtAt G h1 T d t c r l k sx := by
  obtain ⟨a, b, ⟨c1, c3, c4⟩, e, x, y, -⟩ := q
  have ns : ∀ q, (q < T + 1207 ∨ T + 1213 ≤ q) → ¬ ZS (T + 1207) q := fun q hq e => by unfold ZS at e; omega
  have hp : ∀ q, CtP T d q → ¬ ZS (T + 1207) q := fun q z => CtP_z z
  exact ⟨a.kept w f (ns _ (by omega)), b.kept w f (ns _ (by omega)), ⟨c1.kept w f (ns _ (by omega)) (ns _ (by omega)), c3, c4⟩, e.kept w f (ns _ (by omega)) (fun q e z => ns q (by unfold lexS at z; omega) e), x.kept w f (fun q e z => ns q (by have := XS_rng z; omega) e) hp, y.kept w f (fun q e => by unfold ZS at e; omega) hp, ys, zs, s⟩
