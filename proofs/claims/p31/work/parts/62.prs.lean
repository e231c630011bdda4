/-! THE TYPED TEXT: its pieces, and that it is read -/
def dgS (n : Nat) : List Nat := (if 9 < n then [48 + n / 10] else []) ++ [48 + n % 10]
/-- an operand: 0 to 2 a field, 3 to 5 an old one, from 6 on a number and 100 -/
def odS (v : Nat) : List (List Nat) := if v ≤ 2 then [[120 + v]] else if v ≤ 5 then [[111, 108, 100], [32], [120 + v % 3]] else if v < 100 then [[45], dgS (100 - v)] else [dgS (v - 100)]
def odC (v : Nat) : List (Nat × Nat) := if v ≤ 2 then [(120 + v, 0)] else if v ≤ 5 then [(306, 0), (120 + v % 3, 0)] else if v < 100 then [(45, 0), (307, 100 - v)] else [(307, v - 100)]
def lsK : Nat → List (List Nat) → Nat
  | p, [] => p
  | _, x :: r => lsK (kd (ch x 0)) r
theorem lsK_lt : ∀ (a : List (List Nat)) (p : Nat), p < 4 → lsK p a < 4 := by
  intro a
  induction a with
  | nil => intro p h; exact h
  | cons x r ih => intro p _; exact ih _ (kd_lt _)
theorem chB_app : ∀ (a b : List (List Nat)) (p : Nat), chB p a = true → chB (lsK p a) b = true → chB p (a ++ b) = true := by
  intro a
  induction a with
  | nil => intro b p _ h; exact h
  | cons x r ih =>
    intro b p h1 h2
    unfold chB at h1
    rw [List.cons_append]
    unfold chB
    rw [Bool.and_eq_true, Bool.and_eq_true] at h1 ⊢
    exact ⟨h1.1, h1.2.1, ih b _ h1.2.2 h2⟩
/-- may stand behind anything -/
def OkA (s : List (List Nat)) : Prop := ∀ p, p < 4 → chB p s = true
theorem od_c : ∀ v, v < 200 → sgs (odS v) = odC v := by decide +kernel
theorem od_k : ∀ v, v < 200 → ∀ p, p < 4 → (p = 0 ∨ p = 3 ∨ (p = 1 ∧ 6 ≤ v)) → chB p (odS v) = true := by decide +kernel
theorem od_l : ∀ v, v < 200 → (catL (odS v)).length ≤ 5 ∧ ((v ≤ 2 ∨ 6 ≤ v) → (catL (odS v)).length ≤ 3) ∧ (v ≤ 2 → (catL (odS v)).length ≤ 1) := by decide +kernel
theorem od_ok {v p : Nat} {s : List (List Nat)} (hv : v < 200) (hp : p = 0 ∨ p = 3 ∨ (p = 1 ∧ 6 ≤ v)) (hs : OkA s) : chB p (odS v ++ s) = true :=
  chB_app _ _ _ (od_k v hv p (by omega) hp) (hs _ (lsK_lt _ _ (by omega)))
theorem sgB_1 (c : Nat) : sgB [c] = true := by simp [sgB, ch]
theorem chB_sy {c p : Nat} {s : List (List Nat)} (h : kd c = 3 ∨ kd c = 0) (hs : chB (kd c) s = true) : chB p ([c] :: s) = true := by
  have e : ch [c] 0 = c := rfl
  unfold chB
  rw [sgB_1, e, hs]
  rcases h with h | h <;> rw [h] <;> simp
theorem chB_wd {x : List Nat} {p : Nat} {s : List (List Nat)} (hx : sgB x = true) (hk : kd (ch x 0) = 1) (hp : p = 0 ∨ p = 3) (hs : chB 1 s = true) : chB p (x :: s) = true := by
  unfold chB
  rw [hx, hk, hs]
  rcases hp with h | h <;> rw [h] <;> rfl
theorem fld_kd : ∀ f, f < 3 → kd (ch [120 + f] 0) = 1 := by decide +kernel
theorem chB_fl {f p : Nat} {s : List (List Nat)} (hf : f < 3) (hp : p = 0 ∨ p = 3) (hs : chB 1 s = true) : chB p ([120 + f] :: s) = true := chB_wd (sgB_1 _) (fld_kd f hf) hp hs
theorem rel_kd : ∀ l, l < 3 → kd (60 + l) = 3 := by decide +kernel
/-- a condition -/
def cnS (a l b : Nat) : List (List Nat) := odS a ++ ([60 + l] :: odS b)
def cnC (a l b : Nat) : List (Nat × Nat) := odC a ++ ((60 + l, 0) :: odC b)
theorem rel_c : ∀ l, l < 3 → sgC [60 + l] = (60 + l, 0) := by decide +kernel
theorem fld_c : ∀ f, f < 3 → sgC [120 + f] = (120 + f, 0) := by decide +kernel
theorem sgs_1 {x : List Nat} {r : List (List Nat)} (h : ¬ kd (ch x 0) = 0) : sgs (x :: r) = sgC x :: sgs r := by
  rw [show sgs (x :: r) = if kd (ch x 0) = 0 then sgs r else sgC x :: sgs r from rfl, if_neg h]
theorem sgs_0 {r : List (List Nat)} : sgs ([32] :: r) = sgs r := rfl
theorem cn_c {a l b : Nat} (ha : a < 200) (hl : l < 3) (hb : b < 200) : sgs (cnS a l b) = cnC a l b := by
  unfold cnS cnC
  rw [sgs_app, od_c a ha, sgs_1 (by show ¬ kd (60 + l) = 0; rw [rel_kd l hl]; decide), rel_c l hl, od_c b hb]
theorem cn_ok {a l b p : Nat} {s : List (List Nat)} (ha : a < 200) (hl : l < 3) (hb : b < 200) (hp : p = 0 ∨ p = 3) (hs : OkA s) : chB p (cnS a l b ++ s) = true := by
  unfold cnS
  rw [List.append_assoc, List.cons_append]
  refine od_ok ha (hp.imp id Or.inl) (fun q _ => chB_sy (Or.inl (rel_kd l hl)) ?_)
  rw [rel_kd l hl]
  exact od_ok hb (Or.inr (Or.inl rfl)) hs
/-! reading, by codes -/
def Cd (r : List Tok) (L : List (Nat × Nat)) : Prop := r.map (fun k => k.2) = L
theorem Cd.hd {r : List Tok} {k : Nat × Nat} {L : List (Nat × Nat)} (h : Cd r (k :: L)) : ∃ x r', r = x :: r' ∧ x.2 = k ∧ Cd r' L := by
  unfold Cd at h
  cases r with
  | nil => cases h
  | cons x r' =>
    rw [List.map_cons] at h
    injection h with h1 h2
    exact ⟨x, r', rfl, h1, h2⟩
theorem acc_y {c n : Nat} {r : List Tok} {L : List (Nat × Nat)} (h : Cd r ((c, n) :: L)) : ∃ r', acc c r = some r' ∧ Cd r' L ∧ numR r = n := by
  obtain ⟨x, r', rfl, e, h2⟩ := h.hd
  refine ⟨r', ?_, h2, ?_⟩
  · rw [acc_cons, if_pos (by rw [e])]
  · show x.2.2 = n
    rw [e]
theorem acc_n {c : Nat} {k : Nat × Nat} {r : List Tok} {L : List (Nat × Nat)} (h : Cd r (k :: L)) (hne : ¬ k.1 = c) : acc c r = none := by
  obtain ⟨x, r', rfl, e, h2⟩ := h.hd
  rw [acc_cons, if_neg (by rw [e]; exact hne)]
theorem pFld_y {f : Nat} {r : List Tok} {L : List (Nat × Nat)} (hf : f < 3) (h : Cd r ((120 + f, 0) :: L)) : ∃ r', pFld r = some (f, r') ∧ Cd r' L := by
  obtain ⟨r', h1, h2, -⟩ := acc_y h
  refine ⟨r', ?_, h2⟩
  unfold pFld
  rcases (show f = 0 ∨ f = 1 ∨ f = 2 by omega) with rfl | rfl | rfl
  · have h1 : acc 120 r = some r' := h1
    rw [h1]
  · have h1 : acc 121 r = some r' := h1
    rw [acc_n (c := 120) h (by simp), h1]
  · have h1 : acc 122 r = some r' := h1
    rw [acc_n (c := 120) h (by simp), acc_n (c := 121) h (by simp), h1]
theorem pFld_n {k : Nat × Nat} {r : List Tok} {L : List (Nat × Nat)} (h : Cd r (k :: L)) (hk : k.1 < 120 ∨ 122 < k.1) : pFld r = none := by
  unfold pFld
  rw [acc_n (c := 120) h (by omega), acc_n (c := 121) h (by omega), acc_n (c := 122) h (by omega)]
def IvI (x : Int32) : Prop := -99 ≤ x.toInt ∧ x.toInt ≤ 99
theorem num_m : ∀ n, n < 100 → -99 ≤ (-1 * nI n).toInt ∧ (-1 * nI n).toInt ≤ 99 := by decide +kernel
theorem num_p : ∀ n, n < 100 → -99 ≤ (nI 1 * nI n).toInt ∧ (nI 1 * nI n).toInt ≤ 99 := by decide +kernel
theorem pNum_ok {v : Nat} {r : List Tok} {L : List (Nat × Nat)} (h6 : 6 ≤ v) (hv : v < 200) (h : Cd r (odC v ++ L)) : ∃ x r', pNum r = (some x, r') ∧ Cd r' L ∧ IvI x := by
  unfold odC at h
  rw [if_neg (by omega), if_neg (by omega)] at h
  by_cases h1 : v < 100
  · rw [if_pos h1] at h
    obtain ⟨r1, a1, a2, -⟩ := acc_y h
    obtain ⟨r2, b1, b2, b3⟩ := acc_y a2
    refine ⟨-1 * nI (100 - v), r2, ?_, b2, num_m _ (by omega)⟩
    unfold pNum
    rw [a1]
    simp only [b1, b3]
  · rw [if_neg h1] at h
    obtain ⟨r2, b1, b2, b3⟩ := acc_y h
    refine ⟨nI 1 * nI (v - 100), r2, ?_, b2, num_p _ (by omega)⟩
    unfold pNum
    rw [acc_n (c := 45) h (by simp), b1]
    simp only [b3]
theorem pOpd_ok {v : Nat} {b : Bool} {r : List Tok} {L : List (Nat × Nat)} (hv : v < 200) (hb : 3 ≤ v → v ≤ 5 → b = true) (h : Cd r (odC v ++ L)) : ∃ o r', pOpd b r = (some o, r') ∧ Cd r' L := by
  by_cases h1 : v ≤ 2
  · unfold odC at h
    rw [if_pos h1] at h
    obtain ⟨r', a1, a2⟩ := pFld_y (by omega) h
    refine ⟨_, r', pOpd_f ?_ a1, a2⟩
    cases b
    · rfl
    · exact acc_n (c := 306) h (by simp; omega)
  · by_cases h2 : v ≤ 5
    · unfold odC at h
      rw [if_neg h1, if_pos h2] at h
      obtain ⟨r1, a1, a2, -⟩ := acc_y h
      obtain ⟨r', b1, b2⟩ := pFld_y (Nat.mod_lt _ (by decide)) a2
      have e := hb (by omega) h2
      subst e
      exact ⟨_, r', pOpd_o a1 b1, b2⟩
    · obtain ⟨x, r', a1, a2, -⟩ := pNum_ok (by omega) hv h
      have hk : ∃ k L', Cd r (k :: L') ∧ (k.1 = 45 ∨ k.1 = 307) := by
        unfold odC at h
        rw [if_neg h1, if_neg h2] at h
        by_cases h3 : v < 100
        · rw [if_pos h3] at h; exact ⟨_, _, h, Or.inl rfl⟩
        · rw [if_neg h3] at h; exact ⟨_, _, h, Or.inr rfl⟩
      obtain ⟨k, L', hk, hk2⟩ := hk
      refine ⟨_, r', pOpd_n ?_ (pFld_n hk (by omega)) a1, a2⟩
      cases b
      · rfl
      · exact acc_n (c := 306) hk (by omega)
theorem pRel_ok {l : Nat} {r : List Tok} {L : List (Nat × Nat)} (hl : l < 3) (h : Cd r ((60 + l, 0) :: L)) : ∃ k r', pRel r = some (k, r') ∧ Cd r' L := by
  obtain ⟨r', h1, h2, -⟩ := acc_y h
  unfold pRel
  rcases (show l = 0 ∨ l = 1 ∨ l = 2 by omega) with rfl | rfl | rfl
  · have h1 : acc 60 r = some r' := h1
    rw [h1]
    exact ⟨_, r', rfl, h2⟩
  · have h1 : acc 61 r = some r' := h1
    rw [acc_n (c := 60) h (by simp), h1]
    exact ⟨_, r', rfl, h2⟩
  · have h1 : acc 62 r = some r' := h1
    rw [acc_n (c := 60) h (by simp), acc_n (c := 61) h (by simp), h1]
    exact ⟨_, r', rfl, h2⟩
theorem pCnd_ty {a l b : Nat} {old : Bool} {r : List Tok} {L : List (Nat × Nat)} (ha : a < 200) (hl : l < 3) (hb : b < 200) (oa : 3 ≤ a → a ≤ 5 → old = true) (ob : 3 ≤ b → b ≤ 5 → old = true) (h : Cd r (cnC a l b ++ L)) : ∃ q r', pCnd old r = (some q, r') ∧ Cd r' L := by
  unfold cnC at h
  rw [List.append_assoc, List.cons_append] at h
  obtain ⟨x, r1, a1, a2⟩ := pOpd_ok ha oa h
  obtain ⟨k, r2, b1, b2⟩ := pRel_ok hl a2
  obtain ⟨y, r3, c1, c2⟩ := pOpd_ok hb ob b2
  refine ⟨(x, k, y), r3, ?_, c2⟩
  unfold pCnd
  simp only [a1, b1, c1]
/-! clauses -/
def rqS (w : List Nat) (q : Option (Nat × Nat × Nat)) : List (List Nat) := match q with
  | none => []
  | some (a, l, b) => w :: [32] :: cnS a l b
def rqC (w : Nat) (q : Option (Nat × Nat × Nat)) : List (Nat × Nat) := match q with
  | none => []
  | some (a, l, b) => (w, 0) :: cnC a l b
def okq (old : Bool) (q : Option (Nat × Nat × Nat)) : Prop := match q with
  | none => True
  | some (a, l, b) => a < 200 ∧ l < 3 ∧ b < 200 ∧ (3 ≤ a → a ≤ 5 → old = true) ∧ (3 ≤ b → b ≤ 5 → old = true)
theorem pCnds_ok {w : Nat} {old : Bool} {q : Option (Nat × Nat × Nat)} {k : Nat × Nat} {r : List Tok} {L : List (Nat × Nat)} (hq : okq old q) (hk : ¬ k.1 = w) (h : Cd r (rqC w q ++ k :: L)) : ∃ cs r', pCnds w old 2 [] r = (some cs, r') ∧ Cd r' (k :: L) := by
  cases q with
  | none =>
    refine ⟨[], r, ?_, h⟩
    simp only [pCnds, acc_n h hk]
  | some q =>
    obtain ⟨a, l, b⟩ := q
    obtain ⟨ha, hl, hb, oa, ob⟩ := hq
    obtain ⟨r1, a1, a2, -⟩ := acc_y h
    obtain ⟨x, r2, b1, b2⟩ := pCnd_ty ha hl hb oa ob a2
    refine ⟨[x], r2, ?_, b2⟩
    simp only [pCnds, a1, b1, acc_n b2 hk, List.nil_append]
def sgS (g : Option (Nat × Nat)) : List (List Nat) := match g with
  | none => []
  | some (s, b) => [s] :: odS b
def sgK (g : Option (Nat × Nat)) : List (Nat × Nat) := match g with
  | none => []
  | some (s, b) => (s, 0) :: odC b
def okg (g : Option (Nat × Nat)) : Prop := match g with
  | none => True
  | some (s, b) => (s = 43 ∨ s = 45) ∧ b < 200 ∧ ¬ (3 ≤ b ∧ b ≤ 5)
def asS (f a : Nat) (g : Option (Nat × Nat)) : List (List Nat) := [100, 111] :: [32] :: [120 + f] :: [61] :: (odS a ++ sgS g)
def asC (f a : Nat) (g : Option (Nat × Nat)) : List (Nat × Nat) := (304, 0) :: (120 + f, 0) :: (61, 0) :: (odC a ++ sgK g)
theorem pAsgs_ok {f a : Nat} {g : Option (Nat × Nat)} {k : Nat × Nat} {r : List Tok} {L : List (Nat × Nat)} (hf : f < 3) (ha : a < 200) (oa : ¬ (3 ≤ a ∧ a ≤ 5)) (hg : okg g) (hk : ¬ k.1 = 304 ∧ ¬ k.1 = 43 ∧ ¬ k.1 = 45) (h : Cd r (asC f a g ++ k :: L)) : ∃ x r', pAsgs 3 [] r = (some [x], r') ∧ Cd r' (k :: L) := by
  have h : Cd r ((304, 0) :: (120 + f, 0) :: (61, 0) :: ((odC a ++ sgK g) ++ k :: L)) := h
  obtain ⟨r1, a1, a2, -⟩ := acc_y h
  obtain ⟨r2, b1, b2⟩ := pFld_y hf a2
  obtain ⟨r3, c1, c2, -⟩ := acc_y b2
  rw [List.append_assoc] at c2
  obtain ⟨x, r4, d1, d2⟩ := pOpd_ok (b := false) ha (fun h1 h2 => absurd ⟨h1, h2⟩ oa) c2
  have main : ∃ y r5, pAsg r1 = (some y, r5) ∧ Cd r5 (k :: L) := by
    cases g with
    | none =>
      have d2 : Cd r4 (k :: L) := d2
      have e : pSgn r4 = (nI 0, r4) := by
        unfold pSgn
        rw [acc_n (c := 43) d2 hk.2.1, acc_n (c := 45) d2 hk.2.2]
      refine ⟨(nI f, x, nI 0, x), r4, ?_, d2⟩
      unfold pAsg
      simp only [b1, c1, d1, e]
      rw [if_pos (by decide)]
    | some q =>
      obtain ⟨s, b⟩ := q
      obtain ⟨hs, hb, ob⟩ := hg
      have d2 : Cd r4 ((s, 0) :: (odC b ++ k :: L)) := d2
      obtain ⟨r5, e1, e2, -⟩ := acc_y d2
      obtain ⟨y, r6, f1, f2⟩ := pOpd_ok (b := false) hb (fun h1 h2 => absurd ⟨h1, h2⟩ ob) e2
      have e : ∃ v : Int32, ¬ v = 0 ∧ pSgn r4 = (v, r5) := by
        unfold pSgn
        rcases hs with rfl | rfl
        · exact ⟨nI 1, by decide, by rw [e1]⟩
        · exact ⟨-1, by decide, by rw [acc_n (c := 43) d2 (by simp), e1]⟩
      obtain ⟨v, v0, e⟩ := e
      refine ⟨(nI f, x, v, y), r6, ?_, f2⟩
      unfold pAsg
      simp only [b1, c1, d1, e, f1]
      rw [if_neg v0]
  obtain ⟨y, r5, m1, m2⟩ := main
  refine ⟨y, r5, ?_, m2⟩
  simp only [pAsgs, a1, m1, acc_n m2 hk.1, List.nil_append]
/-! a method, without its semicolon -/
def wMeth : List Nat := [109, 101, 116, 104, 111, 100]
def wReq : List Nat := [114, 101, 113, 117, 105, 114, 101]
def wEns : List Nat := [101, 110, 115, 117, 114, 101]
def wInit : List Nat := [105, 110, 105, 116]
def wInv : List Nat := [105, 110, 118, 97, 114, 105, 97, 110, 116]
def rqT (q : Option (Nat × Nat × Nat)) : List (List Nat) := match q with
  | none => []
  | some q => rqS wReq (some q) ++ [[32]]
def enT (e : Option (Nat × Nat × Nat)) : List (List Nat) := match e with
  | none => []
  | some q => [32] :: rqS wEns (some q)
def mtA (q : Option (Nat × Nat × Nat)) : List (List Nat) := wMeth :: [32] :: rqT q
def mtB (q : Option (Nat × Nat × Nat)) (f a : Nat) (g : Option (Nat × Nat)) : List (List Nat) := mtA q ++ asS f a g
def mtC (q : Option (Nat × Nat × Nat)) (f a : Nat) (g : Option (Nat × Nat)) (e : Option (Nat × Nat × Nat)) : List (List Nat) := mtB q f a g ++ enT e
def okm (q : Option (Nat × Nat × Nat)) (f a : Nat) (g : Option (Nat × Nat)) (e : Option (Nat × Nat × Nat)) : Prop := okq false q ∧ f < 3 ∧ a < 200 ∧ ¬ (3 ≤ a ∧ a ≤ 5) ∧ okg g ∧ okq true e
theorem rq_c {w : List Nat} {c : Nat} {old : Bool} {q : Option (Nat × Nat × Nat)} (hw : sgC w = (c, 0) ∧ ¬ kd (ch w 0) = 0) (hq : okq old q) : sgs (rqS w q) = rqC c q := by
  cases q with
  | none => rfl
  | some q =>
    obtain ⟨a, l, b⟩ := q
    obtain ⟨ha, hl, hb, -, -⟩ := hq
    show sgs (w :: [32] :: cnS a l b) = _
    rw [sgs_1 hw.2, hw.1, sgs_0, cn_c ha hl hb]
    rfl
theorem rqT_c {q : Option (Nat × Nat × Nat)} (hq : okq false q) : sgs (rqT q) = rqC 303 q := by
  cases q with
  | none => rfl
  | some q =>
    show sgs (rqS wReq (some q) ++ [[32]]) = _
    rw [sgs_app, rq_c (c := 303) (by decide +kernel) hq]
    exact List.append_nil _
theorem enT_c {q : Option (Nat × Nat × Nat)} (hq : okq true q) : sgs (enT q) = rqC 305 q := by
  cases q with
  | none => rfl
  | some q =>
    show sgs ([32] :: rqS wEns (some q)) = _
    rw [sgs_0, rq_c (c := 305) (by decide +kernel) hq]
theorem sg_c {g : Option (Nat × Nat)} (hg : okg g) : sgs (sgS g) = sgK g := by
  cases g with
  | none => rfl
  | some q =>
    obtain ⟨s, b⟩ := q
    obtain ⟨hs, hb, -⟩ := hg
    show sgs ([s] :: odS b) = (s, 0) :: odC b
    rcases hs with rfl | rfl
    · rw [sgs_1 (by decide), od_c b hb]; rfl
    · rw [sgs_1 (by decide), od_c b hb]; rfl
theorem as_c {f a : Nat} {g : Option (Nat × Nat)} (hf : f < 3) (ha : a < 200) (hg : okg g) : sgs (asS f a g) = asC f a g := by
  unfold asS asC
  rw [sgs_1 (by decide), sgs_0, sgs_1 (by rw [fld_kd f hf]; decide), fld_c f hf, sgs_1 (by decide), sgs_app, od_c a ha, sg_c hg]
  rfl
theorem mt_c {q : Option (Nat × Nat × Nat)} {f a : Nat} {g : Option (Nat × Nat)} {e : Option (Nat × Nat × Nat)} (h : okm q f a g e) : sgs (mtC q f a g e ++ [[59]]) = (302, 0) :: (rqC 303 q ++ (asC f a g ++ (rqC 305 e ++ [(59, 0)]))) := by
  obtain ⟨h1, h2, h3, h4, h5, h6⟩ := h
  unfold mtC mtB mtA
  rw [List.cons_append, List.cons_append, List.cons_append, List.cons_append, List.cons_append, List.cons_append, sgs_1 (by decide), sgs_0, sgs_app, sgs_app, sgs_app, rqT_c h1, as_c h2 h3 h5, enT_c h6, List.append_assoc, List.append_assoc]
  rfl
theorem pMth_ty {q : Option (Nat × Nat × Nat)} {f a : Nat} {g : Option (Nat × Nat)} {e : Option (Nat × Nat × Nat)} (h : okm q f a g e) {r : List Tok} {L : List (Nat × Nat)} (hc : Cd r (rqC 303 q ++ (asC f a g ++ (rqC 305 e ++ (59, 0) :: L)))) : ∃ m r', pMth r = (some m, r') ∧ Cd r' ((59, 0) :: L) := by
  obtain ⟨h1, h2, h3, h4, h5, h6⟩ := h
  obtain ⟨cs, r1, a1, a2⟩ := pCnds_ok (w := 303) (k := (304, 0)) h1 (by decide) hc
  have hd : ∃ k L', rqC 305 e ++ (59, 0) :: L = k :: L' ∧ (k.1 = 305 ∨ k.1 = 59) := by
    cases e with
    | none => exact ⟨_, _, rfl, Or.inr rfl⟩
    | some q => exact ⟨_, _, rfl, Or.inl rfl⟩
  obtain ⟨k, L', e1, e2⟩ := hd
  have a3 : Cd r1 (asC f a g ++ k :: L') := by rw [← e1]; exact a2
  obtain ⟨x, r2, b1, b2⟩ := pAsgs_ok h2 h3 h4 h5 (by omega) a3
  rw [← e1] at b2
  obtain ⟨cs2, r3, c1, c2⟩ := pCnds_ok (w := 305) (k := (59, 0)) h6 (by decide) b2
  refine ⟨(cs, [x], cs2), r3, ?_, c2⟩
  unfold pMth
  simp only [a1, b1, c1]
  rfl
/-! declarations -/
def IvS (s : St) : Prop := IvI s.1 ∧ IvI s.2.1 ∧ IvI s.2.2
theorem pCmp_1 {n : Nat} {c c' : Cmp} {r r1 r2 : List Tok} (h0 : r.isEmpty = false) (h1 : pDcl c r = (some c', r1)) (h2 : acc 59 r1 = some r2) : pCmp (n + 1) c r = pCmp n c' r2 := by
  simp only [pCmp, h0, h1, h2]
  rfl
theorem Cd.ne {r : List Tok} {k : Nat × Nat} {L : List (Nat × Nat)} (h : Cd r (k :: L)) : r.isEmpty = false := by
  obtain ⟨x, r', rfl, -, -⟩ := h.hd
  rfl
/-- what is typed so far: it is read in j declarations, m of them methods -/
def Pg (j m : Nat) (S : List (List Nat)) : Prop := (∀ s, chB 3 s = true → chB 3 (S ++ s) = true) ∧ ∀ (r : List Tok) (L : List (Nat × Nat)), Cd r (sgs S ++ L) → ∃ (c' : Cmp) (r' : List Tok), (∀ n, pCmp (n + j) cmp0 r = pCmp n c' r') ∧ Cd r' L ∧ IvS c'.1 ∧ c'.2.1.length + 2 ≤ j + 1 ∧ c'.2.2.length = m
def inS (f v : Nat) : List (List Nat) := wInit :: [32] :: [120 + f] :: (odS v ++ [[59]])
theorem Pg.ini {f v : Nat} (hf : f < 3) (h6 : 6 ≤ v) (hv : v < 200) : Pg 1 0 (inS f v) := by
  refine ⟨fun s hs => ?_, fun r L h => ?_⟩
  · unfold inS
    rw [List.cons_append, List.cons_append, List.cons_append, List.append_assoc]
    refine chB_wd (by decide) (by decide) (Or.inr rfl) (chB_sy (Or.inr (by decide)) (chB_fl hf (Or.inl (by decide)) (od_ok hv (Or.inr (Or.inr ⟨rfl, h6⟩)) (fun p _ => ?_))))
    exact chB_sy (Or.inl (by decide)) hs
  · have e : sgs (inS f v) = (300, 0) :: (120 + f, 0) :: (odC v ++ [(59, 0)]) := by
      unfold inS
      rw [sgs_1 (by decide), sgs_0, sgs_1 (by rw [fld_kd f hf]; decide), fld_c f hf, sgs_app, od_c v hv]
      rfl
    rw [e] at h
    have h : Cd r ((300, 0) :: (120 + f, 0) :: (odC v ++ [(59, 0)] ++ L)) := h
    rw [List.append_assoc] at h
    obtain ⟨r1, a1, a2, -⟩ := acc_y h
    obtain ⟨r2, b1, b2⟩ := pFld_y hf a2
    obtain ⟨x, r3, c1, c2, c3⟩ := pNum_ok h6 hv b2
    obtain ⟨r4, d1, d2, -⟩ := acc_y (show Cd r3 ((59, 0) :: L) from c2)
    have z : IvI (nI 0) := by unfold IvI; decide
    refine ⟨(setF cmp0.1 (nI f) x, cmp0.2.1, cmp0.2.2), r4, fun n => pCmp_1 h.ne ?_ d1, d2, ?_, ?_, rfl⟩
    · unfold pDcl pIni
      simp only [a1, b1, c1]
    · unfold setF
      split
      · exact ⟨c3, z, z⟩
      · split
        · exact ⟨z, c3, z⟩
        · exact ⟨z, z, c3⟩
    · show 0 + 2 ≤ 1 + 1
      omega
def ivS (a l b : Nat) : List (List Nat) := wInv :: [32] :: (cnS a l b ++ [[59]])
theorem Pg.inv {j m a l b : Nat} {S : List (List Nat)} (P : Pg j m S) (hj : j ≤ 2) (ha : a < 200) (hl : l < 3) (hb : b < 200) (oa : ¬ (3 ≤ a ∧ a ≤ 5)) (ob : ¬ (3 ≤ b ∧ b ≤ 5)) : Pg (j + 1) m (S ++ ivS a l b) := by
  obtain ⟨P1, P2⟩ := P
  refine ⟨fun s hs => ?_, fun r L h => ?_⟩
  · rw [List.append_assoc]
    refine P1 _ ?_
    unfold ivS
    rw [List.cons_append, List.cons_append, List.append_assoc]
    exact chB_wd (by decide) (by decide) (Or.inr rfl) (chB_sy (Or.inr (by decide)) (cn_ok ha hl hb (Or.inl (by decide)) (fun p _ => chB_sy (Or.inl (by decide)) hs)))
  · have e : sgs (ivS a l b) = (301, 0) :: (cnC a l b ++ [(59, 0)]) := by
      unfold ivS
      rw [sgs_1 (by decide), sgs_0, sgs_app, cn_c ha hl hb]
      rfl
    rw [sgs_app, e, List.append_assoc, List.cons_append, List.append_assoc] at h
    obtain ⟨c', r', a1, a2, a3, a4, a5⟩ := P2 r _ h
    obtain ⟨r1, b1, b2, -⟩ := acc_y a2
    obtain ⟨q, r2, d1, d2⟩ := pCnd_ty (old := false) ha hl hb (fun h1 h2 => absurd ⟨h1, h2⟩ oa) (fun h1 h2 => absurd ⟨h1, h2⟩ ob) b2
    obtain ⟨r4, e1, e2, -⟩ := acc_y (show Cd r2 ((59, 0) :: L) from d2)
    refine ⟨(c'.1, c'.2.1 ++ [q], c'.2.2), r4, fun n => ?_, e2, a3, ?_, a5⟩
    · rw [show n + (j + 1) = (n + 1) + j by omega, a1 (n + 1)]
      refine pCmp_1 a2.ne ?_ e1
      unfold pDcl
      simp only [acc_n (c := 300) a2 (by simp)]
      rw [if_pos (by omega)]
      simp only [b1, d1]
    · show (c'.2.1 ++ [q]).length + 2 ≤ j + 1 + 1
      rw [List.length_append, List.length_singleton]
      omega
theorem rqT_ok {q : Option (Nat × Nat × Nat)} {s : List (List Nat)} (hq : okq false q) (hs : chB 0 s = true) : chB 0 (rqT q ++ s) = true := by
  cases q with
  | none => exact hs
  | some q =>
    obtain ⟨a, l, b⟩ := q
    obtain ⟨ha, hl, hb, -, -⟩ := hq
    show chB 0 (wReq :: [32] :: (cnS a l b ++ [[32]]) ++ s) = true
    rw [List.cons_append, List.cons_append, List.append_assoc]
    exact chB_wd (by decide) (by decide) (Or.inl rfl) (chB_sy (Or.inr (by decide)) (cn_ok ha hl hb (Or.inl (by decide)) (fun p _ => chB_sy (Or.inr (by decide)) hs)))
theorem enT_ok {q : Option (Nat × Nat × Nat)} {s : List (List Nat)} (hq : okq true q) (hs : OkA s) : OkA (enT q ++ s) := by
  cases q with
  | none => exact hs
  | some q =>
    obtain ⟨a, l, b⟩ := q
    obtain ⟨ha, hl, hb, -, -⟩ := hq
    intro p hp
    show chB p ([32] :: wEns :: [32] :: cnS a l b ++ s) = true
    rw [List.cons_append, List.cons_append, List.cons_append]
    exact chB_sy (Or.inr (by decide)) (chB_wd (by decide) (by decide) (Or.inl (by decide)) (chB_sy (Or.inr (by decide)) (cn_ok ha hl hb (Or.inl (by decide)) hs)))
theorem sg_ok {g : Option (Nat × Nat)} {s : List (List Nat)} (hg : okg g) (hs : OkA s) : OkA (sgS g ++ s) := by
  cases g with
  | none => exact hs
  | some q =>
    obtain ⟨c, b⟩ := q
    obtain ⟨hc, hb, -⟩ := hg
    intro p hp
    show chB p ([c] :: (odS b ++ s)) = true
    rcases hc with rfl | rfl
    · exact chB_sy (Or.inl (by decide)) (od_ok hb (Or.inr (Or.inl (by decide))) hs)
    · exact chB_sy (Or.inl (by decide)) (od_ok hb (Or.inr (Or.inl (by decide))) hs)
theorem as_ok {f a : Nat} {g : Option (Nat × Nat)} {s : List (List Nat)} (hf : f < 3) (ha : a < 200) (hg : okg g) (hs : OkA s) : chB 0 (asS f a g ++ s) = true := by
  unfold asS
  rw [List.cons_append, List.cons_append, List.cons_append, List.cons_append, List.append_assoc]
  exact chB_wd (by decide) (by decide) (Or.inl rfl) (chB_sy (Or.inr (by decide)) (chB_fl hf (Or.inl (by decide)) (chB_sy (Or.inl (by decide)) (od_ok ha (Or.inr (Or.inl (by decide))) (sg_ok hg hs)))))
theorem Pg.mth {j m : Nat} {S : List (List Nat)} (P : Pg j m S) (hm : m < 6) {q : Option (Nat × Nat × Nat)} {f a : Nat} {g : Option (Nat × Nat)} {e : Option (Nat × Nat × Nat)} (h : okm q f a g e) : Pg (j + 1) (m + 1) (S ++ (mtC q f a g e ++ [[59]])) := by
  obtain ⟨P1, P2⟩ := P
  refine ⟨fun s hs => ?_, fun r L hc => ?_⟩
  · obtain ⟨h1, h2, h3, h4, h5, h6⟩ := h
    rw [List.append_assoc]
    refine P1 _ ?_
    unfold mtC mtB mtA
    rw [List.append_assoc, List.append_assoc, List.append_assoc, List.cons_append, List.cons_append]
    exact chB_wd (by decide) (by decide) (Or.inr rfl) (chB_sy (Or.inr (by decide)) (rqT_ok h1 (as_ok h2 h3 h5 (enT_ok h6 (fun p _ => chB_sy (Or.inl (by decide)) hs)))))
  · rw [sgs_app, mt_c h, List.append_assoc, List.cons_append] at hc
    obtain ⟨c', r', a1, a2, a3, a4, a5⟩ := P2 r _ hc
    obtain ⟨r1, b1, b2, -⟩ := acc_y a2
    have b2 : Cd r1 (rqC 303 q ++ (asC f a g ++ (rqC 305 e ++ (59, 0) :: L))) := by
      have e0 : rqC 303 q ++ (asC f a g ++ (rqC 305 e ++ [(59, 0)])) ++ L = rqC 303 q ++ (asC f a g ++ (rqC 305 e ++ (59, 0) :: L)) := by simp [List.append_assoc]
      rw [← e0]
      exact b2
    obtain ⟨x, r2, d1, d2⟩ := pMth_ty h b2
    obtain ⟨r4, e1, e2, -⟩ := acc_y d2
    refine ⟨(c'.1, c'.2.1, c'.2.2 ++ [x]), r4, fun n => ?_, e2, a3, ?_, ?_⟩
    · rw [show n + (j + 1) = (n + 1) + j by omega, a1 (n + 1)]
      refine pCmp_1 a2.ne ?_ e1
      have hn : (if c'.2.1.length < 3 then acc 301 r' else none) = none := by
        split
        · exact acc_n a2 (by simp)
        · rfl
      unfold pDcl
      simp only [acc_n (c := 300) a2 (by simp), hn]
      rw [if_pos (by omega)]
      simp only [b1, d1]
    · show c'.2.1.length + 2 ≤ j + 1 + 1
      omega
    · show (c'.2.2 ++ [x]).length = m + 1
      rw [List.length_append, a5]
      rfl
theorem Pg.read {j m : Nat} {S : List (List Nat)} (P : Pg j m S) (hj : j ≤ 200) : ∃ c' r', pCmp 200 cmp0 (toks (catL S)) = (some c', r') ∧ IvS c'.1 ∧ c'.2.2.length = m := by
  obtain ⟨P1, P2⟩ := P
  have h0 := P1 [] rfl
  rw [List.append_nil] at h0
  have h1 : Cd (toks (catL S)) (sgs S ++ []) := by rw [List.append_nil]; exact toks_cat h0
  obtain ⟨c', r', a1, a2, a3, a4, a5⟩ := P2 _ _ h1
  have e := a1 (200 - j)
  rw [show 200 - j + j = 200 by omega] at e
  have er : r' = [] := by
    unfold Cd at a2
    exact List.map_eq_nil_iff.mp a2
  refine ⟨c', r', ?_, a3, a5⟩
  rw [e, er]
  cases 200 - j with
  | zero => rfl
  | succ n => rfl
theorem xmethod_no : (pCmp 200 cmp0 (toks [120, 109, 101, 116, 104, 111, 100])).1 = none ∧ offR 7 (pCmp 200 cmp0 (toks [120, 109, 101, 116, 104, 111, 100])).2 = 0 := by decide +kernel
