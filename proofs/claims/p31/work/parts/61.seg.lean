/-! A TEXT OUT OF PIECES: each a run of one kind; what lexemes it has -/
def catL : List (List Nat) → List Nat
  | [] => []
  | x :: r => x ++ catL r
theorem catL_app (a b : List (List Nat)) : catL (a ++ b) = catL a ++ catL b := by
  induction a with
  | nil => rfl
  | cons x r ih => simp [catL, ih, List.append_assoc]
def sgB (x : List Nat) : Bool := Nat.blt 0 x.length && (x.all (fun c => Nat.beq (kd c) (kd (ch x 0))) && (!(Nat.beq (kd (ch x 0)) 3) || Nat.beq x.length 1))
/-- pieces one behind another: no two of letters, no two of digits meet -/
def chB : Nat → List (List Nat) → Bool
  | _, [] => true
  | p, x :: r => sgB x && ((Nat.beq (kd (ch x 0)) 3 || (Nat.beq (kd (ch x 0)) 0 || !(Nat.beq (kd (ch x 0)) p))) && chB (kd (ch x 0)) r)
def sgC (x : List Nat) : Nat × Nat := (cdO x 0 x.length, if cdO x 0 x.length = 307 then nmO x 0 x.length else 0)
def sgs : List (List Nat) → List (Nat × Nat)
  | [] => []
  | x :: r => if kd (ch x 0) = 0 then sgs r else sgC x :: sgs r
theorem sgs_app (a b : List (List Nat)) : sgs (a ++ b) = sgs a ++ sgs b := by
  induction a with
  | nil => rfl
  | cons x r ih =>
    simp only [List.cons_append, sgs, ih]
    split <;> rfl
theorem ch_l {a b : List Nat} {i : Nat} (h : i < a.length) : ch (a ++ b) i = ch a i := by
  unfold ch
  rw [List.getD_eq_getElem?_getD, List.getD_eq_getElem?_getD, List.getElem?_append_left h]
theorem ch_r {a b : List Nat} {i : Nat} : ch (a ++ b) (a.length + i) = ch b i := by
  unfold ch
  rw [List.getD_eq_getElem?_getD, List.getD_eq_getElem?_getD, List.getElem?_append_right (Nat.le_add_right _ _), Nat.add_sub_cancel_left]
theorem sgB_kd {x : List Nat} (h : sgB x = true) : 0 < x.length ∧ (∀ i, i < x.length → kd (ch x i) = kd (ch x 0)) ∧ (kd (ch x 0) = 3 → x.length = 1) := by
  unfold sgB at h
  rw [Bool.and_eq_true, Bool.and_eq_true, Bool.or_eq_true] at h
  refine ⟨Nat.le_of_ble_eq_true h.1, fun i hi => ?_, fun e => ?_⟩
  · have h1 := List.all_eq_true.mp h.2.1 (ch x i) (getD_mem hi)
    exact Nat.eq_of_beq_eq_true h1
  · rcases h.2.2 with h1 | h1
    · rw [e] at h1; cases h1
    · exact Nat.eq_of_beq_eq_true h1
theorem tkF_add (t : List Nat) : ∀ n m o, tkF t (n + m) o = tkF t n o ++ tkF t m (o + n) := by
  intro n
  induction n with
  | zero => intro m o; simp [tkF]
  | succ n ih =>
    intro m o
    have e : n + 1 + m = (n + m) + 1 := by omega
    have e2 : o + (n + 1) = o + 1 + n := by omega
    rw [e, e2]
    simp only [tkF]
    split
    · rw [ih, List.cons_append]
    · rw [ih]
theorem tkF_no (t : List Nat) : ∀ n o, (∀ i, i < n → stx t (o + i) = false) → tkF t n o = [] := by
  intro n
  induction n with
  | zero => intro o _; rfl
  | succ n ih =>
    intro o h
    have h0 := h 0 (by omega)
    rw [Nat.add_zero] at h0
    simp only [tkF, h0]
    rw [if_neg (by decide)]
    exact ih (o + 1) (fun i hi => by rw [show o + 1 + i = o + (i + 1) by omega]; exact h (i + 1) (by omega))
theorem enL_run (t : List Nat) (k : Nat) (hk3 : ¬ k = 3) : ∀ j n e, (∀ i, i < j → kd (ch t (e + i)) = k) → e + j ≤ t.length → j ≤ n → (e + j = t.length ∨ ¬ kd (ch t (e + j)) = k) → enL t k n e = e + j := by
  intro j
  induction j with
  | zero =>
    intro n e _ _ _ hx
    cases n with
    | zero => rfl
    | succ n =>
      unfold enL
      rw [if_neg (fun z => by
        rcases hx with hx | hx
        · have := z.1; omega
        · exact hx z.2.2)]
      rfl
  | succ j ih =>
    intro n e h1 h2 h3 h4
    cases n with
    | zero => omega
    | succ n =>
      unfold enL
      have h0 := h1 0 (by omega)
      rw [Nat.add_zero] at h0
      rw [if_pos ⟨by omega, hk3, h0⟩, ih n (e + 1) (fun i hi => by rw [show e + 1 + i = e + (i + 1) by omega]; exact h1 (i + 1) (by omega)) (by omega) (by omega) (by rw [show e + 1 + j = e + (j + 1) by omega]; exact h4)]
      omega
theorem enL_3 (t : List Nat) : ∀ n e, enL t 3 n e = e := by
  intro n e
  cases n with
  | zero => rfl
  | succ n =>
    unfold enL
    rw [if_neg (fun z => z.2.1 rfl)]
theorem wdL_eq {t x : List Nat} {a i : Nat} : ∀ n, (∀ j, j < n → ch t (a + j) = ch x j) → wdL t a i n = wdL x 0 i n := by
  intro n
  induction n with
  | zero => intro _; rfl
  | succ n ih =>
    intro h
    unfold wdL
    rw [ih (fun j hj => h j (by omega)), h n (by omega), Nat.zero_add]
theorem wdA_eq {t x : List Nat} {a i : Nat} (h : ∀ j, j < x.length → ch t (a + j) = ch x j) : wdA t a (a + x.length) i = wdA x 0 x.length i := by
  unfold wdA
  rw [Nat.add_sub_cancel_left, Nat.sub_zero]
  by_cases e : x.length = lenS.getD i 0
  · rw [← e, wdL_eq _ h]
  · have e1 : (x.length == lenS.getD i 0) = false := by simpa using e
    rw [e1]
    rfl
theorem cdO_eq {t x : List Nat} {a : Nat} (h : ∀ j, j < x.length → ch t (a + j) = ch x j) (hx : 0 < x.length) : cdO t a (a + x.length) = cdO x 0 x.length := by
  have h0 := h 0 hx
  rw [Nat.add_zero] at h0
  unfold cdO cdW
  rw [h0, Nat.add_sub_cancel_left, Nat.sub_zero, wdA_eq h, wdA_eq h, wdA_eq h, wdA_eq h, wdA_eq h, wdA_eq h, wdA_eq h]
theorem nmO_eq {t x : List Nat} {a : Nat} : ∀ n, (∀ j, j < n → ch t (a + j) = ch x j) → nmO t a n = nmO x 0 n := by
  intro n
  induction n with
  | zero => intro _; rfl
  | succ n ih =>
    intro h
    unfold nmO
    rw [ih (fun j hj => h j (by omega)), h n (by omega), Nat.zero_add]
/-- one piece, wherever it stands -/
theorem tk_seg {t x : List Nat} {a : Nat} (hx : sgB x = true) (h : ∀ j, j < x.length → ch t (a + j) = ch x j) (hl : a + x.length ≤ t.length) (hp : a = 0 ∨ kd (ch x 0) = 3 ∨ kd (ch x 0) = 0 ∨ ¬ kd (ch x 0) = kd (ch t (a - 1))) (hn : kd (ch x 0) = 3 ∨ kd (ch x 0) = 0 ∨ a + x.length = t.length ∨ ¬ kd (ch t (a + x.length)) = kd (ch x 0)) : (tkF t x.length a).map (fun k => k.2) = if kd (ch x 0) = 0 then [] else [sgC x] := by
  obtain ⟨h1, h2, h3⟩ := sgB_kd hx
  have hk : ∀ i, i < x.length → kd (ch t (a + i)) = kd (ch x 0) := fun i hi => by rw [h i hi]; exact h2 i hi
  have hk0 := hk 0 h1
  rw [Nat.add_zero] at hk0
  by_cases k0 : kd (ch x 0) = 0
  · rw [if_pos k0, tkF_no]
    · rfl
    · intro i hi
      unfold stx
      rw [hk i hi, k0]
      rfl
  · rw [if_neg k0]
    have e : x.length = 1 + (x.length - 1) := by omega
    rw [e, tkF_add, tkF_no t (x.length - 1) (a + 1) (fun i hi => ?_), List.append_nil]
    · have s : stx t a = true := by
        unfold stx
        rw [hk0]
        rcases hp with hp | hp | hp | hp
        · simp [hp, k0]
        · simp [hp]
        · exact absurd hp k0
        · simp [hp, k0]
      have en : enO t a = a + x.length := by
        unfold enO
        rw [hk0]
        by_cases k3 : kd (ch x 0) = 3
        · rw [k3, enL_3, h3 k3]
        · rw [enL_run t _ k3 (x.length - 1) t.length (a + 1) (fun i hi => by rw [show a + 1 + i = a + (i + 1) by omega]; exact hk (i + 1) (by omega)) (by omega) (by omega) ?_]
          · omega
          · rcases hn with hn | hn | hn | hn
            · exact absurd hn k3
            · exact absurd hn k0
            · exact Or.inl (by omega)
            · exact Or.inr (by rw [show a + 1 + (x.length - 1) = a + x.length by omega]; exact hn)
      simp only [tkF, s]
      rw [if_pos trivial]
      show [(tkO t a).2] = [sgC x]
      unfold tkO sgC
      rw [en, cdO_eq h h1, Nat.add_sub_cancel_left, nmO_eq _ h]
    · have k3 : ¬ kd (ch x 0) = 3 := fun z => by have := h3 z; omega
      unfold stx
      rw [show a + 1 + i = a + (i + 1) by omega, hk (i + 1) (by omega), show a + (i + 1) - 1 = a + i by omega, hk i (by omega)]
      simp [k3]
theorem chB_hd {p : Nat} {x : List Nat} {r : List (List Nat)} (h : chB p (x :: r) = true) : sgB x = true ∧ (kd (ch x 0) = 3 ∨ kd (ch x 0) = 0 ∨ ¬ kd (ch x 0) = p) ∧ chB (kd (ch x 0)) r = true := by
  unfold chB at h
  rw [Bool.and_eq_true, Bool.and_eq_true, Bool.or_eq_true, Bool.or_eq_true] at h
  refine ⟨h.1, ?_, h.2.2⟩
  rcases h.2.1 with h1 | h1 | h1
  · exact Or.inl (Nat.eq_of_beq_eq_true h1)
  · exact Or.inr (Or.inl (Nat.eq_of_beq_eq_true h1))
  · refine Or.inr (Or.inr (fun e => ?_))
    rw [e, Nat.beq_refl] at h1
    cases h1
theorem toks_from : ∀ (ss : List (List Nat)) (p : Nat) (pre : List Nat), chB p ss = true → (pre = [] ∨ kd (ch pre (pre.length - 1)) = p) → (tkF (pre ++ catL ss) (catL ss).length pre.length).map (fun k => k.2) = sgs ss := by
  intro ss
  induction ss with
  | nil => intro p pre _ _; rfl
  | cons x r ih =>
    intro p pre hc hp
    obtain ⟨hx, hkp, hr⟩ := chB_hd hc
    obtain ⟨h1, h2, h3⟩ := sgB_kd hx
    have el : (catL (x :: r)).length = x.length + (catL r).length := by simp [catL]
    have et : pre ++ catL (x :: r) = (pre ++ x) ++ catL r := by simp [catL]
    have hlen : (pre ++ x).length = pre.length + x.length := by simp
    have i2 := ih (kd (ch x 0)) (pre ++ x) hr (Or.inr (by
      rw [hlen, show pre.length + x.length - 1 = pre.length + (x.length - 1) by omega, ch_r]
      exact h2 _ (by omega)))
    rw [hlen] at i2
    rw [el, tkF_add, List.map_append, et, i2]
    have hat : ∀ j, j < x.length → ch (pre ++ x ++ catL r) (pre.length + j) = ch x j := fun j hj => by
      rw [ch_l (by rw [hlen]; omega), ch_r]
    have s := tk_seg (t := pre ++ x ++ catL r) (a := pre.length) hx hat (by simp) ?_ ?_
    · rw [s, show sgs (x :: r) = if kd (ch x 0) = 0 then sgs r else sgC x :: sgs r from rfl]
      split <;> rfl
    · rcases hp with hp | hp
      · exact Or.inl (by rw [hp]; rfl)
      · rcases hkp with e | e | e
        · exact Or.inr (Or.inl e)
        · exact Or.inr (Or.inr (Or.inl e))
        · by_cases h0 : pre.length = 0
          · exact Or.inl h0
          · refine Or.inr (Or.inr (Or.inr ?_))
            rw [List.append_assoc, ch_l (by omega), hp]
            exact e
    · cases r with
      | nil => exact Or.inr (Or.inr (Or.inl (by simp [catL])))
      | cons y r' =>
        obtain ⟨hy, hky, -⟩ := chB_hd hr
        obtain ⟨g1, -, -⟩ := sgB_kd hy
        have e1 : ch (pre ++ x ++ catL (y :: r')) (pre.length + x.length) = ch y 0 := by
          have e2 := ch_r (a := pre ++ x) (b := catL (y :: r')) (i := 0)
          rw [hlen, Nat.add_zero] at e2
          rw [e2]
          exact ch_l g1
        rw [e1]
        omega
theorem toks_cat {ss : List (List Nat)} (h : chB 3 ss = true) : (toks (catL ss)).map (fun k => k.2) = sgs ss := by
  have e := toks_from ss 3 [] h (Or.inl rfl)
  exact e
