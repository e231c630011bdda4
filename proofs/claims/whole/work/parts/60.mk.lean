/-! THE REFERENCE: M itself, its rows at M + 1 .. M + 8; what it holds is a table of numbers -/
abbrev Md : Type := Nat → Nat → Int32
def msz (a : Nat) : Nat := match a with
  | 1 => 1178
  | 2 => 272
  | 3 => 7068
  | 4 => 200
  | 5 => 3
  | 6 => 3
  | 7 => 3
  | 8 => 9
  | _ => 0
def mfi (k : Nat) : Bool := k == 3 || k == 5 || k == 6 || k == 7 || k == 8 || k == 9 || k == 10 || k == 15
def mvl (a k : Nat) : Bool := if a = 0 then mfi k else decide (k < msz a)
def mrl : List (Nat × Nat) := [(0, 1), (1, 2), (2, 3), (4, 4), (11, 5), (12, 6), (13, 7), (14, 8)]
def Hm (h : Hp) (M : Nat) (m : Md) : Hp := (h.1, h.2.1, fun b k => if M ≤ b ∧ b < M + 9 ∧ mvl (b - M) k = true then .int (m (b - M) k) else h.2.2 b k)
def mput (m : Md) (a k : Nat) (x : Int32) : Md := fun b j => if b = a ∧ j = k then x else m b j
def MdK (h : Hp) (M : Nat) : Prop := Hk h M = some (.inl 14) ∧ (∀ q ∈ mrl, Hv h M q.1 = .ref (M + q.2)) ∧ ∀ a, 1 ≤ a → a < 9 → Hk h (M + a) = some (.inr (0, msz a))
theorem Hm_v {h : Hp} {M : Nat} {m : Md} {a k : Nat} (ha : a < 9) (hk : mvl a k = true) : Hv (Hm h M m) (M + a) k = .int (m a k) := by
  show (if M ≤ M + a ∧ M + a < M + 9 ∧ mvl (M + a - M) k = true then Value.int (m (M + a - M) k) else h.2.2 (M + a) k) = _
  rw [show M + a - M = a by omega, if_pos ⟨by omega, by omega, hk⟩]
theorem Hm_f {h : Hp} {M : Nat} {m : Md} {k : Nat} (hk : mfi k = true) : Hv (Hm h M m) M k = .int (m 0 k) := Hm_v (a := 0) (by omega) hk
theorem Hm_r {h : Hp} {M : Nat} {m : Md} (K : MdK h M) {q : Nat × Nat} (hq : q ∈ mrl) : Hv (Hm h M m) M q.1 = .ref (M + q.2) := by
  show (if M ≤ M ∧ M < M + 9 ∧ mvl (M - M) q.1 = true then Value.int (m (M - M) q.1) else h.2.2 M q.1) = _
  have h0 : mvl (M - M) q.1 = false := by
    rw [show M - M = 0 by omega]
    have k : ∀ q ∈ mrl, mvl 0 q.1 = false := by decide
    exact k q hq
  rw [h0, if_neg (by simp)]
  exact K.2.1 q hq
theorem Hm_put {h : Hp} {M : Nat} {m : Md} {a k : Nat} {x : Int32} (ha : a < 9) (hk : mvl a k = true) : Hput (Hm h M m) (M + a) k (.int x) = Hm h M (mput m a k x) := by
  have e : (fun b j => if b = M + a ∧ j = k then Value.int x else if M ≤ b ∧ b < M + 9 ∧ mvl (b - M) j = true then Value.int (m (b - M) j) else h.2.2 b j) = fun b j => if M ≤ b ∧ b < M + 9 ∧ mvl (b - M) j = true then Value.int (mput m a k x (b - M) j) else h.2.2 b j := by
    funext b j
    by_cases c : b = M + a ∧ j = k
    · obtain ⟨rfl, rfl⟩ := c
      rw [if_pos ⟨rfl, rfl⟩, show M + a - M = a by omega, if_pos ⟨by omega, by omega, hk⟩]
      unfold mput
      rw [if_pos ⟨rfl, rfl⟩]
    · rw [if_neg c]
      by_cases d : M ≤ b ∧ b < M + 9 ∧ mvl (b - M) j = true
      · rw [if_pos d, if_pos d]
        unfold mput
        rw [if_neg (fun z => c ⟨by omega, z.2⟩)]
      · rw [if_neg d, if_neg d]
  show (h.1, h.2.1, _) = (h.1, h.2.1, _)
  exact congrArg (fun f => (h.1, h.2.1, f)) e
theorem mput_at {m : Md} {a k : Nat} {x : Int32} : mput m a k x a k = x := if_pos ⟨rfl, rfl⟩
theorem mput_k {m : Md} {a k b j : Nat} {x : Int32} (h : ¬ j = k) : mput m a k x b j = m b j := if_neg (fun z => h z.2)
theorem mput_a {m : Md} {a k b j : Nat} {x : Int32} (h : ¬ b = a) : mput m a k x b j = m b j := if_neg (fun z => h z.1)
theorem mput_ap {m : Md} {a k b j : Nat} {x : Int32} : mput m a k x b j = if b = a ∧ j = k then x else m b j := rfl
/-- n places of row b from o2 on come to row a from o1 on -/
def cpy (m : Md) (a b o1 o2 n : Nat) : Md := fun x j => if x = a ∧ o1 ≤ j ∧ j < o1 + n then m b (j - o1 + o2) else m x j
def fil (m : Md) (a o n : Nat) (y : Int32) : Md := fun x j => if x = a ∧ o ≤ j ∧ j < o + n then y else m x j
theorem cpy_0 {m : Md} {a b o1 o2 : Nat} : cpy m a b o1 o2 0 = m := by
  funext x j
  unfold cpy
  rw [if_neg (by omega)]
theorem fil_0 {m : Md} {a o : Nat} {y : Int32} : fil m a o 0 y = m := by
  funext x j
  unfold fil
  rw [if_neg (by omega)]
theorem cpy_src {m : Md} {a b o1 o2 n : Nat} (hd : ¬ a = b ∨ o1 ≤ o2 ∨ o2 + n < o1) : cpy m a b o1 o2 n b (o2 + n) = m b (o2 + n) := by
  unfold cpy
  rw [if_neg (by omega)]
theorem cpy_s {m : Md} {a b o1 o2 n : Nat} : mput (cpy m a b o1 o2 n) a (o1 + n) (m b (o2 + n)) = cpy m a b o1 o2 (n + 1) := by
  funext x j
  unfold mput cpy
  by_cases c : x = a ∧ j = o1 + n
  · obtain ⟨rfl, rfl⟩ := c
    rw [if_pos ⟨rfl, rfl⟩, if_pos ⟨rfl, by omega, by omega⟩, show o1 + n - o1 + o2 = o2 + n by omega]
  · rw [if_neg c]
    by_cases d : x = a ∧ o1 ≤ j ∧ j < o1 + n
    · rw [if_pos d, if_pos ⟨d.1, d.2.1, by omega⟩]
    · rw [if_neg d, if_neg (fun z => by omega)]
theorem fil_s {m : Md} {a o n : Nat} {y : Int32} : mput (fil m a o n y) a (o + n) y = fil m a o (n + 1) y := by
  funext x j
  unfold mput fil
  by_cases c : x = a ∧ j = o + n
  · obtain ⟨rfl, rfl⟩ := c
    rw [if_pos ⟨rfl, rfl⟩, if_pos ⟨rfl, by omega, by omega⟩]
  · rw [if_neg c]
    by_cases d : x = a ∧ o ≤ j ∧ j < o + n
    · rw [if_pos d, if_pos ⟨d.1, d.2.1, by omega⟩]
    · rw [if_neg d, if_neg (fun z => by omega)]
theorem cpy_o {m : Md} {a b o1 o2 n x j : Nat} (h : ¬ x = a) : cpy m a b o1 o2 n x j = m x j := if_neg (fun z => h z.1)
theorem cpy_n {m : Md} {a b o1 o2 n x j : Nat} (h : j < o1 ∨ o1 + n ≤ j) : cpy m a b o1 o2 n x j = m x j := if_neg (fun z => by omega)
theorem cpy_i {m : Md} {a b o1 o2 n j : Nat} (h : o1 ≤ j) (h2 : j < o1 + n) : cpy m a b o1 o2 n a j = m b (j - o1 + o2) := if_pos ⟨rfl, h, h2⟩
theorem fil_o {m : Md} {a o n x j : Nat} {y : Int32} (h : ¬ x = a) : fil m a o n y x j = m x j := if_neg (fun z => h z.1)
theorem fil_n {m : Md} {a o n x j : Nat} {y : Int32} (h : j < o ∨ o + n ≤ j) : fil m a o n y x j = m x j := if_neg (fun z => by omega)
theorem fil_i {m : Md} {a o n j : Nat} {y : Int32} (h : o ≤ j) (h2 : j < o + n) : fil m a o n y a j = y := if_pos ⟨rfl, h, h2⟩
section VM
variable {Γ : Cx} {cc : ByteArray} {nL : Nat} {own : String} {Ts : List Cond} {F lo mc ms kc ks pc : Nat} {L : List (Nat × Value)} {st : List Value} {h : Hp} {M : Nat} {m : Md}
theorem V.mgr (X : Bx Γ cc nL own Ts F lo mc ms) (K : MdK h M) {idx k a : Nat} {ty : FieldType} {fin : Bool} (f : FL Ts own idx 14 k ty fin) (hd : decode cc pc = .ok (.getfield idx, 3)) (hq : (k, a) ∈ mrl)
    (kk : V Γ kc ks (pc + 3) L (.ref (M + a) :: st) (Hm h M m)) : V Γ kc ks pc L (.ref M :: st) (Hm h M m) := V.getf X f hd K.1 (Hm_r K hq) kk
theorem V.mgf (X : Bx Γ cc nL own Ts F lo mc ms) (K : MdK h M) {idx k : Nat} {ty : FieldType} {fin : Bool} {x : Int32} (f : FL Ts own idx 14 k ty fin) (hd : decode cc pc = .ok (.getfield idx, 3)) (hk : mfi k = true) (e : m 0 k = x)
    (kk : V Γ kc ks (pc + 3) L (.int x :: st) (Hm h M m)) : V Γ kc ks pc L (.ref M :: st) (Hm h M m) := V.getf X f hd K.1 ((Hm_f hk).trans (congrArg Value.int e)) kk
theorem V.mpf (X : Bx Γ cc nL own Ts F lo mc ms) (K : MdK h M) {idx k : Nat} {ty : FieldType} {x : Int32} (f : FL Ts own idx 14 k ty false) (hd : decode cc pc = .ok (.putfield idx, 3)) (hk : mfi k = true) (hn : narrow ty (.int x) = .int x) (hfit : fits ty (.int x) = true)
    (kk : V Γ kc ks (pc + 3) L st (Hm h M (mput m 0 k x))) : V Γ kc ks pc L (.int x :: .ref M :: st) (Hm h M m) :=
  V.putf X f hd K.1 hn hfit (by rw [show Hput (Hm h M m) M k (.int x) = Hm h M (mput m 0 k x) from Hm_put (a := 0) (by omega) hk]; exact kk)
theorem V.mld (X : Bx Γ cc nL own Ts F lo mc ms) (K : MdK h M) (a N : Nat) {j : Nat} {x : Int32} (hd : decode cc pc = .ok (.iaload, 1)) (ha : (Nat.ble 1 a && Nat.blt a 9) = true) (hN : msz a = N) (hj : j < N) (e : m a j = x)
    (kk : V Γ kc ks (pc + 1) L (.int x :: st) (Hm h M m)) : V Γ kc ks pc L (.int (nI j) :: .ref (M + a) :: st) (Hm h M m) := by
  rw [Bool.and_eq_true] at ha
  have h1 := Nat.le_of_ble_eq_true ha.1
  have h2 : a < 9 := Nat.le_of_ble_eq_true ha.2
  subst hN
  have hb : msz a < 2 ^ 31 := by
    rcases (show a = 1 ∨ a = 2 ∨ a = 3 ∨ a = 4 ∨ a = 5 ∨ a = 6 ∨ a = 7 ∨ a = 8 by omega) with rfl | rfl | rfl | rfl | rfl | rfl | rfl | rfl <;> decide
  exact V.iald X hd (K.2.2 a h1 h2) rfl hj hb ((Hm_v h2 (by unfold mvl; rw [if_neg (by omega)]; exact decide_eq_true hj)).trans (congrArg Value.int e)) kk
theorem V.mst (X : Bx Γ cc nL own Ts F lo mc ms) (K : MdK h M) (a N : Nat) {j : Nat} {x : Int32} (hd : decode cc pc = .ok (.iastore, 1)) (ha : (Nat.ble 1 a && Nat.blt a 9) = true) (hN : msz a = N) (hj : j < N)
    (kk : V Γ kc ks (pc + 1) L st (Hm h M (mput m a j x))) : V Γ kc ks pc L (.int x :: .int (nI j) :: .ref (M + a) :: st) (Hm h M m) := by
  rw [Bool.and_eq_true] at ha
  have h1 := Nat.le_of_ble_eq_true ha.1
  have h2 : a < 9 := Nat.le_of_ble_eq_true ha.2
  subst hN
  have hb : msz a < 2 ^ 31 := by
    rcases (show a = 1 ∨ a = 2 ∨ a = 3 ∨ a = 4 ∨ a = 5 ∨ a = 6 ∨ a = 7 ∨ a = 8 by omega) with rfl | rfl | rfl | rfl | rfl | rfl | rfl | rfl <;> decide
  refine V.iast X hd (K.2.2 a h1 h2) rfl hj hb ?_
  rw [Hm_put h2 (by unfold mvl; rw [if_neg (by omega)]; exact decide_eq_true hj)]
  exact kk
theorem V.iaddN (X : Bx Γ cc nL own Ts F lo mc ms) {a b : Nat} (hd : decode cc pc = .ok (.iadd, 1)) (kk : V Γ kc ks (pc + 1) L (.int (nI (a + b)) :: st) h) : V Γ kc ks pc L (.int (nI b) :: .int (nI a) :: st) h :=
  V.iadd X hd (by rw [nI_add]; exact kk)
theorem V.imulN (X : Bx Γ cc nL own Ts F lo mc ms) {a b : Nat} (hd : decode cc pc = .ok (.imul, 1)) (kk : V Γ kc ks (pc + 1) L (.int (nI (a * b)) :: st) h) : V Γ kc ks pc L (.int (nI b) :: .int (nI a) :: st) h :=
  V.imul X hd (by rw [nI_mul]; exact kk)
theorem V.isubN (X : Bx Γ cc nL own Ts F lo mc ms) {a b : Nat} (hd : decode cc pc = .ok (.isub, 1)) (hb : b ≤ a) (kk : V Γ kc ks (pc + 1) L (.int (nI (a - b)) :: st) h) : V Γ kc ks pc L (.int (nI b) :: .int (nI a) :: st) h :=
  V.isub X hd (by rw [nI_sub9 hb]; exact kk)
end VM
/-- between two bounds -/
def inB (v lo hi : Int32) : Bool := decide (lo ≤ v) && decide (v ≤ hi)
theorem inB_ix {x : Int32} {n : Nat} (hn : n < 2 ^ 31) : inB x (nI 0) (nI n - nI 1) = isIx x n := by
  have h0 : (nI 0).toInt = 0 := by decide
  unfold inB isIx
  congr 1
  · rw [decide_eq_decide, Int32.le_iff_toInt_le, h0]
  · rw [decide_eq_decide, Int32.le_iff_toInt_le]
    have e : (nI n - nI 1).toInt = (n : Int) - 1 := by
      rcases Nat.eq_zero_or_pos n with z | z
      · subst z; decide
      · rw [nI_sub9 (by omega), nI_toInt (by omega)]; omega
    rw [e]
    omega
theorem inB_nI {x : Int32} {n : Nat} (hn : n + 1 < 2 ^ 31) : inB x (nI 0) (nI n) = isIx x (n + 1) := by
  rw [← inB_ix hn, nI_sub9 (by omega), Nat.add_sub_cancel]
theorem inB_ch {x a b : Nat} (hx : x < 2 ^ 31) (ha : a < 2 ^ 31) (hb : b < 2 ^ 31) : inB (nI x) (nI a) (nI b) = (decide (a ≤ x) && decide (x ≤ b)) := by
  unfold inB
  congr 1
  · rw [decide_eq_decide, nI_leI ha hx]
  · rw [decide_eq_decide, nI_leI hx hb]
theorem V.iretb {Γ : Cx} {cc : ByteArray} {nL : Nat} {own : String} {Ts : List Cond} {F lo mc ms kc ks pc : Nat} {L : List (Nat × Value)} {h : Hp} (X : Bx Γ cc nL own Ts F lo mc ms) {nm : String} {post : Int32 → Hp → Prop} (Y : Rx Γ nm (some .boolean) (pI post) mc ms) (hd : decode cc pc = .ok (.ireturn, 1)) {b : Bool} (hp : post (bI b) h) (h1 : kc ≤ mc) (h2 : ks ≤ ms) : V Γ kc ks pc L [.int (bI b)] h := V.bret X Y hd b rfl hp h1 h2
theorem cpy_q {m : Md} {a b o1 o2 n j : Nat} {x : Int32} (hj : j = o1 + n) (hx : x = m b (o2 + n)) : mput (cpy m a b o1 o2 n) a j x = cpy m a b o1 o2 (n + 1) := by
  rw [hj, hx]
  exact cpy_s
theorem cpy_r {m : Md} {a b o1 o2 n j : Nat} (hj : j = o2 + n) (hd : ¬ a = b ∨ o1 ≤ o2 ∨ o2 + n < o1) : cpy m a b o1 o2 n b j = m b (o2 + n) := by
  rw [hj]
  exact cpy_src hd
theorem fil_q {m : Md} {a o n j : Nat} {y : Int32} (hj : j = o + n) : mput (fil m a o n y) a j y = fil m a o (n + 1) y := by
  rw [hj]
  exact fil_s
/-- the edits' row takes what is now -/
def noteB (m : Md) (p : Nat) : Md := mput (cpy m 3 1 (1178 * p) 0 1178) 0 3 (nI (p + 1))
def noteM (m : Md) (p : Nat) : Md := if p = 6 then noteB (mput (cpy m 3 3 0 1178 5890) 0 3 (nI 5)) 5 else noteB m p
def bareM (m : Md) : Md := mput (fil m 1 273 905 (nI 0)) 1 276 (nI 1)
/-- the text that is typed -/
def TxM (m : Md) (t : List Nat) : Prop := m 0 5 = nI t.length ∧ t.length ≤ 200 ∧ ∀ i, i < t.length → m 4 i = nI (ch t i) ∧ ch t i < 256
def hrT (t : List Nat) (p : Nat) : Int32 := if p < t.length then nI (ch t p) else -1
