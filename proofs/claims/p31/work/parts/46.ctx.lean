theorem HsS_rng {H q : Nat} (h : HsS H q) : q = H ∨ (H + 2 ≤ q ∧ q < H + 1028) := by
  rcases h with h | ⟨i, hi, h⟩
  · exact Or.inl h
  · unfold XS at h
    exact Or.inr (by omega)
theorem XS_rng {E q : Nat} (h : XS E q) : E ≤ q ∧ q < E + 171 := by
  unfold XS at h
  omega
/-- the exploration and the history are changed -/
theorem CtAt.xh {G : GG} {h h1 : Hp} {T d : Nat} {t : List Nat} {c c2 : Cmp} {r r2 : Xr} {l k l2 k2 : Nat} {sx sx2 : Nat → Cmp × Xr} (q : CtAt G h T d t c r l k sx) (w : WF h) (f : Fr (fun q => XS (T + 8) q ∨ HsS (T + 179) q) h h1) (x : XcAt (CtP T d) G h1 (T + 8) c2 r2) (y : HsAt (CtP T d) G h1 (T + 179) l2 k2 sx2) : CtAt G h1 T d t c2 r2 l2 k2 sx2 := by
  obtain ⟨a, b, ⟨c1, c3, c4⟩, e, -, -, ys, zs, z⟩ := q
  have ns : ∀ q, (q < T + 8 ∨ T + 1207 ≤ q) → ¬ (XS (T + 8) q ∨ HsS (T + 179) q) := fun q hq e => by
    rcases e with e | e
    · have := XS_rng e; omega
    · have := HsS_rng e; omega
  exact ⟨a.kept w f (ns _ (by omega)), b.kept w f (ns _ (by omega)), ⟨c1.kept w f (ns _ (by omega)) (ns _ (by omega)), c3, c4⟩, e.kept w f (ns _ (by omega)) (fun q e z => ns q (by unfold lexS at z; omega) e), x, y, ys, zs, z.kept w f (fun q e z => ns q (by unfold ZS at z; omega) e)⟩
theorem CtP_x {T d q : Nat} (h : CtP T d q) : ¬ XS (T + 8) q := fun e => h (Or.inr (Or.inl e))
theorem CtP_h {T d q : Nat} (h : CtP T d q) : ¬ HsS (T + 179) q := fun e => h (Or.inr (Or.inr (Or.inl e)))
theorem CtP_z {T d q : Nat} (h : CtP T d q) : ¬ ZS (T + 1207) q := fun e => h (Or.inr (Or.inr (Or.inr (Or.inr (Or.inl e)))))
