/-! THE POOL'S INVARIANT -/
def psum (f : Nat → Nat) : Nat → Nat
  | 0 => 0
  | n + 1 => psum f n + f n
theorem psum_out {f : Nat → Nat} {i v : Nat} : ∀ n, n ≤ i → psum (fup f i v) n = psum f n := by
  intro n
  induction n with
  | zero => intro _; rfl
  | succ n ih =>
    intro h
    show psum (fup f i v) n + fup f i v n = psum f n + f n
    rw [ih (by omega), fup_ne (by omega)]
theorem psum_in {f : Nat → Nat} {i v : Nat} : ∀ n, i < n → psum (fup f i v) n + f i = psum f n + v := by
  intro n
  induction n with
  | zero => intro h; omega
  | succ n ih =>
    intro h
    show psum (fup f i v) n + fup f i v n + f i = psum f n + f n + v
    by_cases e : i = n
    · subst e
      rw [psum_out _ (Nat.le_refl _), fup_at]
      omega
    · rw [fup_ne (fun z => e z.symm)]
      have := ih (by omega)
      omega
theorem psum_lim {f : Nat → Nat} {pc : Nat} : ∀ n, psum (fun i => if i < pc then f i else 0) n = psum f (min n pc) := by
  intro n
  induction n with
  | zero => rw [Nat.zero_min]; rfl
  | succ n ih =>
    show psum _ n + (if n < pc then f n else 0) = _
    rw [ih]
    by_cases h : n < pc
    · rw [if_pos h, show min n pc = n by omega, show min (n + 1) pc = n + 1 by omega]
      rfl
    · rw [if_neg h, show min (n + 1) pc = min n pc by omega]
      rfl
theorem psum_con (k : Nat) : ∀ n, psum (fun _ => k) n = n * k := by
  intro n
  induction n with
  | zero => rw [Nat.zero_mul]; rfl
  | succ n ih =>
    show psum _ n + k = _
    rw [ih, Nat.succ_mul]
def frm (f : Nat → Nat) : Nat → Nat → Nat
  | 0, _ => 0
  | n + 1, i => f i + frm f n (i + 1)
theorem frm_psum {f : Nat → Nat} : ∀ n i, psum f i + frm f n i = psum f (i + n) := by
  intro n
  induction n with
  | zero => intro i; rfl
  | succ n ih =>
    intro i
    show psum f i + (f i + frm f n (i + 1)) = psum f (i + (n + 1))
    have e := ih (i + 1)
    rw [show i + 1 + n = i + (n + 1) by omega] at e
    rw [← e]
    show _ = psum f i + f i + _
    omega
def FlOk (r : Xr) : Prop := ∀ j, j < xfl r → 0 < (xfs r j).length ∧ (∀ m ∈ xfs r j, m < 1000) ∧ xvd r j < 1000
/-- d: how many pairs are processed and not yet counted -/
def IvD (c : Cmp) (r : Xr) (d : Nat) : Prop := XOk c r ∧ (IvS c.1 ∧ c.2.2.length ≤ 6) ∧ (∀ i j, i < j → j < xpc r → ¬ xss r i = xss r j) ∧ (∀ i, i < xpc r → (xsq r i).length ≤ 8 ∧ ∀ m ∈ xsq r i, m < 1000) ∧ FlOk r ∧ xsk r + xrd r + xdr r + xfl r + xpc r + d = 1 + psum (xpr r) (xpc r)
def Inv (c : Cmp) (r : Xr) : Prop := IvD c r 0
theorem sws_no {r : Xr} {t : St} : ∀ n i, sws r t n i = none → ∀ j, i ≤ j → j < i + n → j < xpc r → ¬ xss r j = t := by
  intro n
  induction n with
  | zero => intro i _ j h1 h2; omega
  | succ n ih =>
    intro i h j h1 h2 h3 h4
    unfold sws at h
    split at h
    · cases h
    next hc =>
      by_cases e : j = i
      · subst e; exact hc ⟨h3, h4⟩
      · exact ih (i + 1) h j (by omega) (by omega) h3 h4
theorem sws_at {r : Xr} {t : St} {i : Nat} (hi : i < xpc r) (ht : xss r i = t) : ∀ n j, j ≤ i → i < j + n → (∀ k, j ≤ k → k < i → ¬ xss r k = t) → sws r t n j = some i := by
  intro n
  induction n with
  | zero => intro j h1 h2; omega
  | succ n ih =>
    intro j h1 h2 h3
    unfold sws
    by_cases e : j = i
    · subst e
      rw [if_pos ⟨hi, ht⟩]
    · rw [if_neg (fun z => h3 j (Nat.le_refl _) (by omega) z.2)]
      exact ih (j + 1) (by omega) (by omega) (fun k g1 g2 => h3 k (by omega) g2)
theorem IvD.st_A {c : Cmp} {r : Xr} {i : Nat} (q : IvD c r 0) (ho : 0 < opn c r i) : IvD c (stpA c r i) 1 := by
  obtain ⟨a, b, d, e, g, s⟩ := q
  have hp := opn_pos ho
  refine ⟨a.st_A ho, b, d, e, g, ?_⟩
  show xsk r + xrd r + xdr r + xfl r + xpc r + 1 = 1 + psum (fup (xpr r) i (xpr r i + 1)) (xpc r)
  have := psum_in (f := xpr r) (v := xpr r i + 1) (xpc r) hp.1
  omega
theorem app_lt {xs : List Nat} {m : Nat} (hx : ∀ k ∈ xs, k < 1000) (hm : m < 1000) : ∀ k ∈ xs ++ [m], k < 1000 := by
  intro k hk
  rcases List.mem_append.mp hk with h | h
  · exact hx k h
  · rw [List.mem_singleton.mp h]; exact hm
theorem IvD.ad_R {c : Cmp} {r : Xr} {xs : List Nat} {m : Nat} {t : St} (q : IvD c r 1) (hl : xs.length < 8) (hx : ∀ k ∈ xs, k < 1000) (hm : m < 1000) : IvD c (addR r xs m t) 0 := by
  have a2 := q.1.ad_R (xs := xs) (m := m) (t := t)
  obtain ⟨a, b, d, e, g, s⟩ := q
  rcases hs : sws r t 40 0 with _ | k
  · by_cases hp : xpc r < 40
    · have er : addR r xs m t = ((xmx r, xpc r + 1, xfl r, xsk r, xrd r, xdr r), fup (xsq r) (xpc r) (xs ++ [m]), fup (xss r) (xpc r) t, fup (xpr r) (xpc r) 0, xfs r, xvd r) := by
        unfold addR
        rw [hs]
        exact if_pos hp
      rw [er] at a2 ⊢
      refine ⟨a2, b, ?_, ?_, g, ?_⟩
      · intro i j hij hj
        have hj : j < xpc r + 1 := hj
        show ¬ fup (xss r) (xpc r) t i = fup (xss r) (xpc r) t j
        rw [fup_ne (show ¬ i = xpc r by omega)]
        by_cases ej : j = xpc r
        · rw [ej, fup_at]
          exact sws_no _ _ hs i (Nat.zero_le _) (by omega) (by omega)
        · rw [fup_ne ej]
          exact d i j hij (by omega)
      · intro i hi
        have hi : i < xpc r + 1 := hi
        show (fup (xsq r) (xpc r) (xs ++ [m]) i).length ≤ 8 ∧ ∀ k ∈ fup (xsq r) (xpc r) (xs ++ [m]) i, k < 1000
        by_cases ei : i = xpc r
        · rw [ei, fup_at, List.length_append, List.length_singleton]
          exact ⟨by omega, app_lt hx hm⟩
        · rw [fup_ne ei]
          exact e i (by omega)
      · show xsk r + xrd r + xdr r + xfl r + (xpc r + 1) + 0 = 1 + (psum (fup (xpr r) (xpc r) 0) (xpc r) + fup (xpr r) (xpc r) 0 (xpc r))
        rw [psum_out _ (Nat.le_refl _), fup_at]
        omega
    · have er : addR r xs m t = ((xmx r, xpc r, xfl r, xsk r, xrd r, xdr r + 1), r.2) := by
        unfold addR
        rw [hs]
        exact if_neg hp
      rw [er] at a2 ⊢
      refine ⟨a2, b, d, e, g, ?_⟩
      show xsk r + xrd r + (xdr r + 1) + xfl r + xpc r + 0 = 1 + psum (xpr r) (xpc r)
      omega
  · have er : addR r xs m t = ((xmx r, xpc r, xfl r, xsk r, xrd r + 1, xdr r), r.2) := by
      unfold addR
      rw [hs]
    rw [er] at a2 ⊢
    refine ⟨a2, b, d, e, g, ?_⟩
    show xsk r + (xrd r + 1) + xdr r + xfl r + xpc r + 0 = 1 + psum (xpr r) (xpc r)
    omega
theorem IvD.ad_F {c : Cmp} {r : Xr} {xs : List Nat} {m v : Nat} (q : IvD c r 1) (hx : ∀ k ∈ xs, k < 1000) (hm : m < 1000) (hv : v < 1000) : IvD c (addF r xs m v) 0 := by
  have a2 := q.1.ad_F (xs := xs) (m := m) (v := v)
  obtain ⟨a, b, d, e, g, s⟩ := q
  by_cases hp : xfl r < 20
  · have er : addF r xs m v = ((xmx r, xpc r, xfl r + 1, xsk r, xrd r, xdr r), xsq r, xss r, xpr r, fup (xfs r) (xfl r) (xs ++ [m]), fup (xvd r) (xfl r) v) := if_pos hp
    rw [er] at a2 ⊢
    refine ⟨a2, b, d, e, ?_, ?_⟩
    · intro j hj
      have hj : j < xfl r + 1 := hj
      show 0 < (fup (xfs r) (xfl r) (xs ++ [m]) j).length ∧ (∀ k ∈ fup (xfs r) (xfl r) (xs ++ [m]) j, k < 1000) ∧ fup (xvd r) (xfl r) v j < 1000
      by_cases ej : j = xfl r
      · rw [ej, fup_at, fup_at, List.length_append, List.length_singleton]
        exact ⟨by omega, app_lt hx hm, hv⟩
      · rw [fup_ne ej, fup_ne ej]
        exact g j (by omega)
    · show xsk r + xrd r + xdr r + (xfl r + 1) + xpc r + 0 = 1 + psum (xpr r) (xpc r)
      omega
  · have er : addF r xs m v = ((xmx r, xpc r, xfl r, xsk r, xrd r, xdr r + 1), r.2) := if_neg hp
    rw [er] at a2 ⊢
    refine ⟨a2, b, d, e, g, ?_⟩
    show xsk r + xrd r + (xdr r + 1) + xfl r + xpc r + 0 = 1 + psum (xpr r) (xpc r)
    omega
theorem Inv.st_p {c : Cmp} {r : Xr} {i : Nat} (q : Inv c r) (ho : 0 < opn c r i) : Inv c (stp c r i) := by
  have hp := opn_pos ho
  have hA := IvD.st_A q ho
  have hsq := q.2.2.2.1 i hp.1
  have hmx := q.1.1
  have hlen := q.2.1.2
  have hx : (xsq r i).length < 8 := by omega
  unfold stp
  split
  · obtain ⟨a, b, d, e, g, s⟩ := hA
    refine ⟨⟨a.1, a.2.1, a.2.2.1, a.2.2.2.1, a.2.2.2.2⟩, b, d, e, g, ?_⟩
    have s : xsk r + xrd r + xdr r + xfl r + xpc r + 1 = 1 + psum (fup (xpr r) i (xpr r i + 1)) (xpc r) := s
    show xsk r + 1 + xrd r + xdr r + xfl r + xpc r + 0 = 1 + psum (fup (xpr r) i (xpr r i + 1)) (xpc r)
    omega
  · split
    · exact hA.ad_R hx hsq.2 (by omega)
    · exact hA.ad_F hsq.2 (by omega) (by have := @verd_le c (xpr r i) (xss r i); omega)
theorem Inv.st_s {c : Cmp} : ∀ (n k : Nat) (r : Xr), Inv c r → Inv c (stps c n k r).2 := by
  intro n
  induction n with
  | zero => intro k r q; exact q
  | succ n ih =>
    intro k r q
    rcases hf : fos c r 40 0 with _ | i
    · rw [stps_n hf]; exact q
    · rw [stps_s hf]
      exact ih _ _ (q.st_p (fos_lt _ _ _ hf).2)
theorem Inv.rst {c c2 : Cmp} {r : Xr} (q : Inv c r) (h1 : IvS c2.1) (h2 : c2.2.2.length ≤ 6) : Inv c2 (rst c2 r) := by
  obtain ⟨a, b, d, e, g, s⟩ := q
  refine ⟨⟨a.1, ⟨Nat.le_refl _, (by show (1 : Nat) ≤ 40; decide)⟩, Nat.zero_le _, a.2.2.2.1, fun i hi => ?_⟩, ⟨h1, h2⟩, fun i j hij hj => ?_, fun i hi => ?_, fun j hj => absurd hj (Nat.not_lt_zero _), ?_⟩
  · have hi : i < 1 := hi
    show fup (xpr r) 0 0 i ≤ _
    rw [show i = 0 by omega, fup_at]
    exact Nat.zero_le _
  · have hj : j < 1 := hj
    omega
  · have hi : i < 1 := hi
    show (xsq r i).length ≤ 8 ∧ ∀ m ∈ xsq r i, m < 1000
    exact e i (by have := a.2.1; omega)
  · show 0 + 0 + 0 + 0 + 1 + 0 = 1 + (0 + fup (xpr r) 0 0 0)
    rw [fup_at]
theorem Inv.mx {c : Cmp} {r : Xr} {n : Nat} (q : Inv c r) (h1 : 1 ≤ n) (h2 : n ≤ 8) : Inv c ((n, xpc r, xfl r, xsk r, xrd r, xdr r), r.2) := by
  obtain ⟨a, b, d, e, g, s⟩ := q
  exact ⟨⟨⟨h1, h2⟩, a.2.1, a.2.2.1, a.2.2.2.1, a.2.2.2.2⟩, b, d, e, g, s⟩
theorem Inv.new : Inv cmp0 x0 := by
  have z : IvI (nI 0) := by unfold IvI; decide
  refine ⟨⟨by decide, by decide, by decide, rfl, fun i _ => Nat.le_refl _⟩, ⟨⟨z, z, z⟩, by decide⟩, fun i j hij hj => ?_, fun i _ => ⟨Nat.zero_le 8, fun m hm => (by cases hm)⟩, fun j hj => absurd hj (Nat.not_lt_zero _), rfl⟩
  have hj : j < 1 := hj
  omega
theorem Inv.ok {c : Cmp} {r : Xr} (q : Inv c r) : XOk c r := q.1
/-! what the law counts -/
theorem Inv.cnt {c : Cmp} {r : Xr} (q : Inv c r) : xsk r + xrd r + xdr r + xfl r + xpc r + cop c r 40 0 ≤ 1 + xpc r * c.2.2.length := by
  obtain ⟨a, b, d, e, g, s⟩ := q
  have h : ∀ n i, cop c r n i + frm (fun i => if i < xpc r then xpr r i else 0) n i ≤ frm (fun i => if i < xpc r then c.2.2.length else 0) n i := by
    intro n
    induction n with
    | zero => intro i; exact Nat.le_refl _
    | succ n ih =>
      intro i
      show opn c r i + cop c r n (i + 1) + ((if i < xpc r then xpr r i else 0) + frm _ n (i + 1)) ≤ (if i < xpc r then c.2.2.length else 0) + frm _ n (i + 1)
      have h0 := ih (i + 1)
      have h1 : opn c r i + (if i < xpc r then xpr r i else 0) ≤ (if i < xpc r then c.2.2.length else 0) := by
        unfold opn
        by_cases hi : i < xpc r
        · have := a.2.2.2.2 i hi
          rw [if_pos hi, if_pos hi]
          split
          · omega
          · omega
        · rw [if_neg hi, if_neg hi, if_neg (fun z => hi z.1)]
          exact Nat.le_refl _
      omega
  have h0 := h 40 0
  have e1 := frm_psum (f := fun i => if i < xpc r then xpr r i else 0) 40 0
  have e2 := frm_psum (f := fun i => if i < xpc r then c.2.2.length else 0) 40 0
  have p0 : ∀ f, psum f 0 = 0 := fun _ => rfl
  rw [p0, psum_lim, Nat.zero_add, Nat.zero_add, show min 40 (xpc r) = xpc r by have := a.2.1; omega] at e1 e2
  rw [psum_con] at e2
  omega
theorem Inv.fnd {c : Cmp} {r : Xr} (q : Inv c r) {i : Nat} (hi : i < xpc r) : sws r (xss r i) 40 0 = some i := by
  have h40 := q.1.2.1
  exact sws_at hi rfl 40 0 (Nat.zero_le _) (by omega) (fun k _ hk => q.2.2.1 k i hk hi)
theorem cop_0 {c : Cmp} {r : Xr} : ∀ n i, cop c r n i = 0 → fos c r n i = none := by
  intro n
  induction n with
  | zero => intro i _; rfl
  | succ n ih =>
    intro i h
    have h : opn c r i + cop c r n (i + 1) = 0 := h
    unfold fos
    rw [if_neg (by omega)]
    exact ih (i + 1) (by omega)
theorem fos_0 {c : Cmp} {r : Xr} : ∀ n i, fos c r n i = none → cop c r n i = 0 := by
  intro n
  induction n with
  | zero => intro i _; rfl
  | succ n ih =>
    intro i h
    unfold fos at h
    split at h
    · cases h
    next hc =>
      show opn c r i + cop c r n (i + 1) = 0
      rw [ih (i + 1) h]
      omega
theorem cop_le {c : Cmp} {r : Xr} (h : c.2.2.length ≤ 6) : ∀ n i, cop c r n i ≤ n * 6 := by
  intro n
  induction n with
  | zero => intro i; exact Nat.zero_le _
  | succ n ih =>
    intro i
    show opn c r i + cop c r n (i + 1) ≤ (n + 1) * 6
    have h0 := ih (i + 1)
    have h1 : opn c r i ≤ 6 := by
      unfold opn
      split <;> omega
    omega
theorem stps_off {c : Cmp} {a : Nat} : ∀ n k r, stps c n (a + k) r = (a + (stps c n k r).1, (stps c n k r).2) := by
  intro n
  induction n with
  | zero => intro k r; rfl
  | succ n ih =>
    intro k r
    rcases hf : fos c r 40 0 with _ | i
    · rw [stps_n hf, stps_n hf]
    · rw [stps_s hf, stps_s hf, Nat.add_assoc]
      exact ih _ _
theorem stps_add {c : Cmp} {m : Nat} : ∀ n k r, stps c (n + m) k r = stps c m (stps c n k r).1 (stps c n k r).2 := by
  intro n
  induction n with
  | zero => intro k r; rw [Nat.zero_add]; rfl
  | succ n ih =>
    intro k r
    rw [show n + 1 + m = (n + m) + 1 by omega]
    rcases hf : fos c r 40 0 with _ | i
    · rw [stps_n hf, stps_n hf]
      cases m with
      | zero => rfl
      | succ m => rw [stps_n hf]
    · rw [stps_s hf, stps_s hf]
      exact ih _ _
theorem stps_le {c : Cmp} : ∀ n k r, k ≤ (stps c n k r).1 ∧ (stps c n k r).1 ≤ k + n := by
  intro n
  induction n with
  | zero => intro k r; exact ⟨Nat.le_refl _, Nat.le_refl _⟩
  | succ n ih =>
    intro k r
    rcases hf : fos c r 40 0 with _ | i
    · rw [stps_n hf]; exact ⟨Nat.le_refl _, Nat.le_add_right _ _⟩
    · rw [stps_s hf]
      have := ih (k + 1) (stp c r i)
      omega
theorem stps_pos {c : Cmp} {n : Nat} {r : Xr} (hf : ¬ fos c r 40 0 = none) : 1 ≤ (stps c (n + 1) 0 r).1 := by
  rcases h : fos c r 40 0 with _ | i
  · exact absurd h hf
  · rw [stps_s h]
    exact (stps_le _ _ _).1
