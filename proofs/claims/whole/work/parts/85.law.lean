/-! THE LAW: its script, its loop -/
section
variable {Γ : Cx} {kc ks pc : Nat} {L : List (Nat × Value)} {st : List Value} {h : Hp} {cc : ByteArray} {nL : Nat} {own : String} {Ts : List Cond} {F lo mc ms : Nat}
def LX (Γ : Cx) (b N : Nat) (xs : Nat → Int32) : Prop :=
  match Γ with
  | (p, l, e, R, s, m, args, below, meth, c, G, Q) => va_X b N xs s s.heap ∧ b < s.heap.size ∧ ¬ arena G b
theorem V.slen (X : Bx Γ cc nL own Ts F lo mc ms) {b N : Nat} {xs : Nat → Int32} (hd : decode cc pc = .ok (.arraylength, 1)) (Y : LX Γ b N xs)
    (kk : V Γ kc ks (pc + 1) L (.int (nI N) :: st) h) : V Γ kc ks pc L (.ref b :: st) h := by
  obtain ⟨p, l, e, R, s, m, args, below, meth, c, G, Q⟩ := Γ
  obtain ⟨⟨hexec, hb, hml, hown, hts⟩, hK, hG, hRm, hB⟩ := X
  intro H locs ls hR hS hl hcat
  exact va_slen hexec hb Y.1 Y.2.1 Y.2.2 hS hd (kk H locs ls hR hS hl hcat)
theorem V.sld (X : Bx Γ cc nL own Ts F lo mc ms) {b N j : Nat} {i : Int32} {xs : Nat → Int32} (hd : decode cc pc = .ok (.iaload, 1)) (Y : LX Γ b N xs) (hi : i = nI j) (hj : j < N) (hN : N < 2 ^ 31)
    (kk : V Γ kc ks (pc + 1) L (.int (xs j) :: st) h) : V Γ kc ks pc L (.int i :: .ref b :: st) h := by
  obtain ⟨p, l, e, R, s, m, args, below, meth, c, G, Q⟩ := Γ
  obtain ⟨⟨hexec, hb, hml, hown, hts⟩, hK, hG, hRm, hB⟩ := X
  intro H locs ls hR hS hl hcat
  subst hi
  refine va_sld hexec hb Y.1 Y.2.1 Y.2.2 hS (vp_in_nI hj hN) hd ?_
  rw [nI_clamp (by omega)]
  exact kk H locs ls hR hS hl hcat
end
theorem lp_cond {j N : Nat} (hN : N ≤ 2048) (hj : j ≤ 4096) : nI N - nI 4 < nI j ↔ N < j + 4 := by
  have a1 := nI_toInt (n := N) (by omega)
  have a2 := nI_toInt (n := 4) (by omega)
  have a3 := nI_toInt (n := j) (by omega)
  rw [Int32.lt_iff_toInt_lt, Int32.toInt_sub, a1, a2, a3]
  rw [Int.bmod_eq_of_le (by omega) (by omega)]
  omega
theorem and31 (x : Int32) : 0 ≤ (x &&& 31).toInt ∧ (x &&& 31).toInt < 32 := by
  have e : (x &&& 31).toInt = ((x.toBitVec &&& 31#32).toInt) := rfl
  rw [e]
  have h : (x.toBitVec &&& 31#32).toNat = x.toBitVec.toNat % 32 := by
    rw [BitVec.toNat_and]
    exact Nat.and_two_pow_sub_one_eq_mod x.toBitVec.toNat 5
  have h2 : (x.toBitVec &&& 31#32).toInt = ((x.toBitVec &&& 31#32).toNat : Int) := by
    rw [BitVec.toInt_eq_toNat_of_lt]
    rw [h]
    omega
  rw [h2, h]
  omega
theorem cs_appendCharacter {Γ : Cx} (X : Bx Γ cL_law 4 RL wsL_law 14 542 702150 6995798) {b N : Nat} {xs : Nat → Int32} (Y : LX Γ b N xs) (hN : N ≤ 2048) {T M j kc ks : Nat} {h : Hp} (B : BoS (cxG Γ) h T M) (w : WF h) (kT : Hk h T = some (.inl 13)) (hj : j + 4 ≤ N) (hc : kc + 300 ≤ 702150) (hs : ks + 1500 ≤ 6995798) (kk : ∀ h2, BoS (cxG Γ) h2 T M → V Γ (kc + 300) (ks + 1500) 754 [(0, .ref b), (1, .ref T), (2, .ref M), (3, .int (nI j))] [] h2) : V Γ kc ks 160 [(0, .ref b), (1, .ref T), (2, .ref M), (3, .int (nI j))] [] h := by
  refine V.aload_n X dL_law_160 rfl ?_
  refine V.aload_n X dL_law_161 rfl ?_
  refine V.iload_n X dL_law_162 rfl ?_
  refine V.iconst (v := nI 1) X dL_law_163 rfl ?_
  refine V.iaddN X dL_law_164 ?_
  refine V.sld X dL_law_165 Y rfl (by omega) (by omega) ?_
  refine V.callVi (n := 1) X dL_law_166 gL_law_X11_appendCharacter (st_appendCharacter (x := xs (j + 1)) _ _ B w) rfl (by decide +kernel) rfl rfl rfl kT rfl rfl ⟨by omega, by omega⟩ (fun r1 h1 hp1 => ?_)
  refine V.wf (fun w1 => ?_)
  refine V.aload_n X dL_law_169 rfl ?_
  refine V.aload_n X dL_law_170 rfl ?_
  refine V.iload_n X dL_law_171 rfl ?_
  refine V.iconst (v := nI 1) X dL_law_172 rfl ?_
  refine V.iaddN X dL_law_173 ?_
  refine V.sld X dL_law_174 Y rfl (by omega) (by omega) ?_
  refine V.callVi (n := 1) X dL_law_175 gL_law_X12_appendCharacter (hp1.2 w1) rfl (by decide +kernel) rfl rfl rfl hp1.1 rfl rfl ⟨by omega, by omega⟩ (fun r2 h2 hp2 => ?_)
  refine V.icmp_eq 754 X dL_law_178 (by decide) (fun _ => ?_) (fun z => absurd hp2.1.symm z)
  exact V.widen _ _ (by omega) (by omega) (kk _ hp2.2)
theorem cs_clearText {Γ : Cx} (X : Bx Γ cL_law 4 RL wsL_law 14 542 702150 6995798) {b N : Nat} {xs : Nat → Int32} (Y : LX Γ b N xs) (hN : N ≤ 2048) {T M j kc ks : Nat} {h : Hp} (B : BoS (cxG Γ) h T M) (w : WF h) (kT : Hk h T = some (.inl 13)) (hj : j + 4 ≤ N) (hc : kc + 300 ≤ 702150) (hs : ks + 1500 ≤ 6995798) (kk : ∀ h2, BoS (cxG Γ) h2 T M → V Γ (kc + 300) (ks + 1500) 754 [(0, .ref b), (1, .ref T), (2, .ref M), (3, .int (nI j))] [] h2) : V Γ kc ks 183 [(0, .ref b), (1, .ref T), (2, .ref M), (3, .int (nI j))] [] h := by
  refine V.aload_n X dL_law_183 rfl ?_
  refine V.callVi (n := 0) X dL_law_184 gL_law_X11_clearText (st_clearText _ _ B w) rfl (by decide +kernel) rfl rfl rfl kT rfl rfl ⟨by omega, by omega⟩ (fun r1 h1 hp1 => ?_)
  refine V.wf (fun w1 => ?_)
  refine V.aload_n X dL_law_187 rfl ?_
  refine V.callVi (n := 0) X dL_law_188 gL_law_X12_clearText (hp1.2 w1) rfl (by decide +kernel) rfl rfl rfl hp1.1 rfl rfl ⟨by omega, by omega⟩ (fun r2 h2 hp2 => ?_)
  refine V.icmp_eq 754 X dL_law_191 (by decide) (fun _ => ?_) (fun z => absurd hp2.1.symm z)
  exact V.widen _ _ (by omega) (by omega) (kk _ hp2.2)
theorem cs_loadComponent {Γ : Cx} (X : Bx Γ cL_law 4 RL wsL_law 14 542 702150 6995798) {b N : Nat} {xs : Nat → Int32} (Y : LX Γ b N xs) (hN : N ≤ 2048) {T M j kc ks : Nat} {h : Hp} (B : BoS (cxG Γ) h T M) (w : WF h) (kT : Hk h T = some (.inl 13)) (hj : j + 4 ≤ N) (hc : kc + 300 ≤ 702150) (hs : ks + 1500 ≤ 6995798) (kk : ∀ h2, BoS (cxG Γ) h2 T M → V Γ (kc + 300) (ks + 1500) 754 [(0, .ref b), (1, .ref T), (2, .ref M), (3, .int (nI j))] [] h2) : V Γ kc ks 196 [(0, .ref b), (1, .ref T), (2, .ref M), (3, .int (nI j))] [] h := by
  refine V.aload_n X dL_law_196 rfl ?_
  refine V.callVi (n := 0) X dL_law_197 gL_law_X11_loadComponent (st_loadComponent _ _ B w) rfl (by decide +kernel) rfl rfl rfl kT rfl rfl ⟨by omega, by omega⟩ (fun r1 h1 hp1 => ?_)
  refine V.wf (fun w1 => ?_)
  refine V.aload_n X dL_law_200 rfl ?_
  refine V.callVi (n := 0) X dL_law_201 gL_law_X12_loadComponent (hp1.2 w1) rfl (by decide +kernel) rfl rfl rfl hp1.1 rfl rfl ⟨by omega, by omega⟩ (fun r2 h2 hp2 => ?_)
  refine V.icmp_eq 754 X dL_law_204 (by decide) (fun _ => ?_) (fun z => absurd hp2.1.symm z)
  exact V.widen _ _ (by omega) (by omega) (kk _ hp2.2)
theorem cs_setInitialValue {Γ : Cx} (X : Bx Γ cL_law 4 RL wsL_law 14 542 702150 6995798) {b N : Nat} {xs : Nat → Int32} (Y : LX Γ b N xs) (hN : N ≤ 2048) {T M j kc ks : Nat} {h : Hp} (B : BoS (cxG Γ) h T M) (w : WF h) (kT : Hk h T = some (.inl 13)) (hj : j + 4 ≤ N) (hc : kc + 300 ≤ 702150) (hs : ks + 1500 ≤ 6995798) (kk : ∀ h2, BoS (cxG Γ) h2 T M → V Γ (kc + 300) (ks + 1500) 754 [(0, .ref b), (1, .ref T), (2, .ref M), (3, .int (nI j))] [] h2) : V Γ kc ks 209 [(0, .ref b), (1, .ref T), (2, .ref M), (3, .int (nI j))] [] h := by
  refine V.aload_n X dL_law_209 rfl ?_
  refine V.aload_n X dL_law_210 rfl ?_
  refine V.iload_n X dL_law_211 rfl ?_
  refine V.iconst (v := nI 1) X dL_law_212 rfl ?_
  refine V.iaddN X dL_law_213 ?_
  refine V.sld X dL_law_214 Y rfl (by omega) (by omega) ?_
  refine V.aload_n X dL_law_215 rfl ?_
  refine V.iload_n X dL_law_216 rfl ?_
  refine V.iconst (v := nI 2) X dL_law_217 rfl ?_
  refine V.iaddN X dL_law_218 ?_
  refine V.sld X dL_law_219 Y rfl (by omega) (by omega) ?_
  refine V.callVi (n := 2) X dL_law_220 gL_law_X11_setInitialValue (st_setInitialValue (x := xs (j + 1)) (z := xs (j + 2)) _ _ B w) rfl (by decide +kernel) rfl rfl rfl kT rfl rfl ⟨by omega, by omega⟩ (fun r1 h1 hp1 => ?_)
  refine V.wf (fun w1 => ?_)
  refine V.aload_n X dL_law_223 rfl ?_
  refine V.aload_n X dL_law_224 rfl ?_
  refine V.iload_n X dL_law_225 rfl ?_
  refine V.iconst (v := nI 1) X dL_law_226 rfl ?_
  refine V.iaddN X dL_law_227 ?_
  refine V.sld X dL_law_228 Y rfl (by omega) (by omega) ?_
  refine V.aload_n X dL_law_229 rfl ?_
  refine V.iload_n X dL_law_230 rfl ?_
  refine V.iconst (v := nI 2) X dL_law_231 rfl ?_
  refine V.iaddN X dL_law_232 ?_
  refine V.sld X dL_law_233 Y rfl (by omega) (by omega) ?_
  refine V.callVi (n := 2) X dL_law_234 gL_law_X12_setInitialValue (hp1.2 w1) rfl (by decide +kernel) rfl rfl rfl hp1.1 rfl rfl ⟨by omega, by omega⟩ (fun r2 h2 hp2 => ?_)
  refine V.icmp_eq 754 X dL_law_237 (by decide) (fun _ => ?_) (fun z => absurd hp2.1.symm z)
  exact V.widen _ _ (by omega) (by omega) (kk _ hp2.2)
theorem cs_removeMethod {Γ : Cx} (X : Bx Γ cL_law 4 RL wsL_law 14 542 702150 6995798) {b N : Nat} {xs : Nat → Int32} (Y : LX Γ b N xs) (hN : N ≤ 2048) {T M j kc ks : Nat} {h : Hp} (B : BoS (cxG Γ) h T M) (w : WF h) (kT : Hk h T = some (.inl 13)) (hj : j + 4 ≤ N) (hc : kc + 300 ≤ 702150) (hs : ks + 1500 ≤ 6995798) (kk : ∀ h2, BoS (cxG Γ) h2 T M → V Γ (kc + 300) (ks + 1500) 754 [(0, .ref b), (1, .ref T), (2, .ref M), (3, .int (nI j))] [] h2) : V Γ kc ks 242 [(0, .ref b), (1, .ref T), (2, .ref M), (3, .int (nI j))] [] h := by
  refine V.aload_n X dL_law_242 rfl ?_
  refine V.aload_n X dL_law_243 rfl ?_
  refine V.iload_n X dL_law_244 rfl ?_
  refine V.iconst (v := nI 1) X dL_law_245 rfl ?_
  refine V.iaddN X dL_law_246 ?_
  refine V.sld X dL_law_247 Y rfl (by omega) (by omega) ?_
  refine V.callVi (n := 1) X dL_law_248 gL_law_X11_removeMethod (st_removeMethod (x := xs (j + 1)) _ _ B w) rfl (by decide +kernel) rfl rfl rfl kT rfl rfl ⟨by omega, by omega⟩ (fun r1 h1 hp1 => ?_)
  refine V.wf (fun w1 => ?_)
  refine V.aload_n X dL_law_251 rfl ?_
  refine V.aload_n X dL_law_252 rfl ?_
  refine V.iload_n X dL_law_253 rfl ?_
  refine V.iconst (v := nI 1) X dL_law_254 rfl ?_
  refine V.iaddN X dL_law_255 ?_
  refine V.sld X dL_law_256 Y rfl (by omega) (by omega) ?_
  refine V.callVi (n := 1) X dL_law_257 gL_law_X12_removeMethod (hp1.2 w1) rfl (by decide +kernel) rfl rfl rfl hp1.1 rfl rfl ⟨by omega, by omega⟩ (fun r2 h2 hp2 => ?_)
  refine V.icmp_eq 754 X dL_law_260 (by decide) (fun _ => ?_) (fun z => absurd hp2.1.symm z)
  exact V.widen _ _ (by omega) (by omega) (kk _ hp2.2)
theorem cs_methodCount {Γ : Cx} (X : Bx Γ cL_law 4 RL wsL_law 14 542 702150 6995798) {b N : Nat} {xs : Nat → Int32} (Y : LX Γ b N xs) (hN : N ≤ 2048) {T M j kc ks : Nat} {h : Hp} (B : BoS (cxG Γ) h T M) (w : WF h) (kT : Hk h T = some (.inl 13)) (hj : j + 4 ≤ N) (hc : kc + 300 ≤ 702150) (hs : ks + 1500 ≤ 6995798) (kk : ∀ h2, BoS (cxG Γ) h2 T M → V Γ (kc + 300) (ks + 1500) 754 [(0, .ref b), (1, .ref T), (2, .ref M), (3, .int (nI j))] [] h2) : V Γ kc ks 265 [(0, .ref b), (1, .ref T), (2, .ref M), (3, .int (nI j))] [] h := by
  refine V.aload_n X dL_law_265 rfl ?_
  refine V.callVi (n := 0) X dL_law_266 gL_law_X11_methodCount (st_methodCount _ _ B w) rfl (by decide +kernel) rfl rfl rfl kT rfl rfl ⟨by omega, by omega⟩ (fun r1 h1 hp1 => ?_)
  refine V.wf (fun w1 => ?_)
  refine V.aload_n X dL_law_269 rfl ?_
  refine V.callVi (n := 0) X dL_law_270 gL_law_X12_methodCount (hp1.2 w1) rfl (by decide +kernel) rfl rfl rfl hp1.1 rfl rfl ⟨by omega, by omega⟩ (fun r2 h2 hp2 => ?_)
  refine V.icmp_eq 754 X dL_law_273 (by decide) (fun _ => ?_) (fun z => absurd hp2.1.symm z)
  exact V.widen _ _ (by omega) (by omega) (kk _ hp2.2)
theorem cs_complexity {Γ : Cx} (X : Bx Γ cL_law 4 RL wsL_law 14 542 702150 6995798) {b N : Nat} {xs : Nat → Int32} (Y : LX Γ b N xs) (hN : N ≤ 2048) {T M j kc ks : Nat} {h : Hp} (B : BoS (cxG Γ) h T M) (w : WF h) (kT : Hk h T = some (.inl 13)) (hj : j + 4 ≤ N) (hc : kc + 300 ≤ 702150) (hs : ks + 1500 ≤ 6995798) (kk : ∀ h2, BoS (cxG Γ) h2 T M → V Γ (kc + 300) (ks + 1500) 754 [(0, .ref b), (1, .ref T), (2, .ref M), (3, .int (nI j))] [] h2) : V Γ kc ks 278 [(0, .ref b), (1, .ref T), (2, .ref M), (3, .int (nI j))] [] h := by
  refine V.aload_n X dL_law_278 rfl ?_
  refine V.aload_n X dL_law_279 rfl ?_
  refine V.iload_n X dL_law_280 rfl ?_
  refine V.iconst (v := nI 1) X dL_law_281 rfl ?_
  refine V.iaddN X dL_law_282 ?_
  refine V.sld X dL_law_283 Y rfl (by omega) (by omega) ?_
  refine V.callVi (n := 1) X dL_law_284 gL_law_X11_complexity (st_complexity (x := xs (j + 1)) _ _ B w) rfl (by decide +kernel) rfl rfl rfl kT rfl rfl ⟨by omega, by omega⟩ (fun r1 h1 hp1 => ?_)
  refine V.wf (fun w1 => ?_)
  refine V.aload_n X dL_law_287 rfl ?_
  refine V.aload_n X dL_law_288 rfl ?_
  refine V.iload_n X dL_law_289 rfl ?_
  refine V.iconst (v := nI 1) X dL_law_290 rfl ?_
  refine V.iaddN X dL_law_291 ?_
  refine V.sld X dL_law_292 Y rfl (by omega) (by omega) ?_
  refine V.callVi (n := 1) X dL_law_293 gL_law_X12_complexity (hp1.2 w1) rfl (by decide +kernel) rfl rfl rfl hp1.1 rfl rfl ⟨by omega, by omega⟩ (fun r2 h2 hp2 => ?_)
  refine V.icmp_eq 754 X dL_law_296 (by decide) (fun _ => ?_) (fun z => absurd hp2.1.symm z)
  exact V.widen _ _ (by omega) (by omega) (kk _ hp2.2)
theorem cs_runText {Γ : Cx} (X : Bx Γ cL_law 4 RL wsL_law 14 542 702150 6995798) {b N : Nat} {xs : Nat → Int32} (Y : LX Γ b N xs) (hN : N ≤ 2048) {T M j kc ks : Nat} {h : Hp} (B : BoS (cxG Γ) h T M) (w : WF h) (kT : Hk h T = some (.inl 13)) (hj : j + 4 ≤ N) (hc : kc + 300 ≤ 702150) (hs : ks + 1500 ≤ 6995798) (kk : ∀ h2, BoS (cxG Γ) h2 T M → V Γ (kc + 300) (ks + 1500) 754 [(0, .ref b), (1, .ref T), (2, .ref M), (3, .int (nI j))] [] h2) : V Γ kc ks 301 [(0, .ref b), (1, .ref T), (2, .ref M), (3, .int (nI j))] [] h := by
  refine V.aload_n X dL_law_301 rfl ?_
  refine V.callVi (n := 0) X dL_law_302 gL_law_X11_runText (st_runText _ _ B w) rfl (by decide +kernel) rfl rfl rfl kT rfl rfl ⟨by omega, by omega⟩ (fun r1 h1 hp1 => ?_)
  refine V.wf (fun w1 => ?_)
  refine V.aload_n X dL_law_305 rfl ?_
  refine V.callVi (n := 0) X dL_law_306 gL_law_X12_runText (hp1.2 w1) rfl (by decide +kernel) rfl rfl rfl hp1.1 rfl rfl ⟨by omega, by omega⟩ (fun r2 h2 hp2 => ?_)
  refine V.icmp_eq 754 X dL_law_309 (by decide) (fun _ => ?_) (fun z => absurd hp2.1.symm z)
  exact V.widen _ _ (by omega) (by omega) (kk _ hp2.2)
theorem cs_setMaximumLength {Γ : Cx} (X : Bx Γ cL_law 4 RL wsL_law 14 542 702150 6995798) {b N : Nat} {xs : Nat → Int32} (Y : LX Γ b N xs) (hN : N ≤ 2048) {T M j kc ks : Nat} {h : Hp} (B : BoS (cxG Γ) h T M) (w : WF h) (kT : Hk h T = some (.inl 13)) (hj : j + 4 ≤ N) (hc : kc + 300 ≤ 702150) (hs : ks + 1500 ≤ 6995798) (kk : ∀ h2, BoS (cxG Γ) h2 T M → V Γ (kc + 300) (ks + 1500) 754 [(0, .ref b), (1, .ref T), (2, .ref M), (3, .int (nI j))] [] h2) : V Γ kc ks 314 [(0, .ref b), (1, .ref T), (2, .ref M), (3, .int (nI j))] [] h := by
  refine V.aload_n X dL_law_314 rfl ?_
  refine V.aload_n X dL_law_315 rfl ?_
  refine V.iload_n X dL_law_316 rfl ?_
  refine V.iconst (v := nI 1) X dL_law_317 rfl ?_
  refine V.iaddN X dL_law_318 ?_
  refine V.sld X dL_law_319 Y rfl (by omega) (by omega) ?_
  refine V.callVi (n := 1) X dL_law_320 gL_law_X11_setMaximumLength (st_setMaximumLength (x := xs (j + 1)) _ _ B w) rfl (by decide +kernel) rfl rfl rfl kT rfl rfl ⟨by omega, by omega⟩ (fun r1 h1 hp1 => ?_)
  refine V.wf (fun w1 => ?_)
  refine V.aload_n X dL_law_323 rfl ?_
  refine V.aload_n X dL_law_324 rfl ?_
  refine V.iload_n X dL_law_325 rfl ?_
  refine V.iconst (v := nI 1) X dL_law_326 rfl ?_
  refine V.iaddN X dL_law_327 ?_
  refine V.sld X dL_law_328 Y rfl (by omega) (by omega) ?_
  refine V.callVi (n := 1) X dL_law_329 gL_law_X12_setMaximumLength (hp1.2 w1) rfl (by decide +kernel) rfl rfl rfl hp1.1 rfl rfl ⟨by omega, by omega⟩ (fun r2 h2 hp2 => ?_)
  refine V.icmp_eq 754 X dL_law_332 (by decide) (fun _ => ?_) (fun z => absurd hp2.1.symm z)
  exact V.widen _ _ (by omega) (by omega) (kk _ hp2.2)
theorem cs_explore {Γ : Cx} (X : Bx Γ cL_law 4 RL wsL_law 14 542 702150 6995798) {b N : Nat} {xs : Nat → Int32} (Y : LX Γ b N xs) (hN : N ≤ 2048) {T M j kc ks : Nat} {h : Hp} (B : BoS (cxG Γ) h T M) (w : WF h) (kT : Hk h T = some (.inl 13)) (hj : j + 4 ≤ N) (hc : kc + 300 ≤ 702150) (hs : ks + 1500 ≤ 6995798) (kk : ∀ h2, BoS (cxG Γ) h2 T M → V Γ (kc + 300) (ks + 1500) 754 [(0, .ref b), (1, .ref T), (2, .ref M), (3, .int (nI j))] [] h2) : V Γ kc ks 337 [(0, .ref b), (1, .ref T), (2, .ref M), (3, .int (nI j))] [] h := by
  refine V.aload_n X dL_law_337 rfl ?_
  refine V.aload_n X dL_law_338 rfl ?_
  refine V.iload_n X dL_law_339 rfl ?_
  refine V.iconst (v := nI 1) X dL_law_340 rfl ?_
  refine V.iaddN X dL_law_341 ?_
  refine V.sld X dL_law_342 Y rfl (by omega) (by omega) ?_
  refine V.callVi (n := 1) X dL_law_343 gL_law_X11_explore (st_explore (x := xs (j + 1)) _ _ B w) rfl (by decide +kernel) rfl rfl rfl kT rfl rfl ⟨by omega, by omega⟩ (fun r1 h1 hp1 => ?_)
  refine V.wf (fun w1 => ?_)
  refine V.aload_n X dL_law_346 rfl ?_
  refine V.aload_n X dL_law_347 rfl ?_
  refine V.iload_n X dL_law_348 rfl ?_
  refine V.iconst (v := nI 1) X dL_law_349 rfl ?_
  refine V.iaddN X dL_law_350 ?_
  refine V.sld X dL_law_351 Y rfl (by omega) (by omega) ?_
  refine V.callVi (n := 1) X dL_law_352 gL_law_X12_explore (hp1.2 w1) rfl (by decide +kernel) rfl rfl rfl hp1.1 rfl rfl ⟨by omega, by omega⟩ (fun r2 h2 hp2 => ?_)
  refine V.icmp_eq 754 X dL_law_355 (by decide) (fun _ => ?_) (fun z => absurd hp2.1.symm z)
  exact V.widen _ _ (by omega) (by omega) (kk _ hp2.2)
theorem cs_reset {Γ : Cx} (X : Bx Γ cL_law 4 RL wsL_law 14 542 702150 6995798) {b N : Nat} {xs : Nat → Int32} (Y : LX Γ b N xs) (hN : N ≤ 2048) {T M j kc ks : Nat} {h : Hp} (B : BoS (cxG Γ) h T M) (w : WF h) (kT : Hk h T = some (.inl 13)) (hj : j + 4 ≤ N) (hc : kc + 300 ≤ 702150) (hs : ks + 1500 ≤ 6995798) (kk : ∀ h2, BoS (cxG Γ) h2 T M → V Γ (kc + 300) (ks + 1500) 754 [(0, .ref b), (1, .ref T), (2, .ref M), (3, .int (nI j))] [] h2) : V Γ kc ks 360 [(0, .ref b), (1, .ref T), (2, .ref M), (3, .int (nI j))] [] h := by
  refine V.aload_n X dL_law_360 rfl ?_
  refine V.callVi (n := 0) X dL_law_361 gL_law_X11_reset (st_reset _ _ B w) rfl (by decide +kernel) rfl rfl rfl kT rfl rfl ⟨by omega, by omega⟩ (fun r1 h1 hp1 => ?_)
  refine V.wf (fun w1 => ?_)
  refine V.aload_n X dL_law_364 rfl ?_
  refine V.callVi (n := 0) X dL_law_365 gL_law_X12_reset (hp1.2 w1) rfl (by decide +kernel) rfl rfl rfl hp1.1 rfl rfl ⟨by omega, by omega⟩ (fun r2 h2 hp2 => ?_)
  refine V.icmp_eq 754 X dL_law_368 (by decide) (fun _ => ?_) (fun z => absurd hp2.1.symm z)
  exact V.widen _ _ (by omega) (by omega) (kk _ hp2.2)
theorem cs_undo {Γ : Cx} (X : Bx Γ cL_law 4 RL wsL_law 14 542 702150 6995798) {b N : Nat} {xs : Nat → Int32} (Y : LX Γ b N xs) (hN : N ≤ 2048) {T M j kc ks : Nat} {h : Hp} (B : BoS (cxG Γ) h T M) (w : WF h) (kT : Hk h T = some (.inl 13)) (hj : j + 4 ≤ N) (hc : kc + 300 ≤ 702150) (hs : ks + 1500 ≤ 6995798) (kk : ∀ h2, BoS (cxG Γ) h2 T M → V Γ (kc + 300) (ks + 1500) 754 [(0, .ref b), (1, .ref T), (2, .ref M), (3, .int (nI j))] [] h2) : V Γ kc ks 373 [(0, .ref b), (1, .ref T), (2, .ref M), (3, .int (nI j))] [] h := by
  refine V.aload_n X dL_law_373 rfl ?_
  refine V.callVi (n := 0) X dL_law_374 gL_law_X11_undo (st_undo _ _ B w) rfl (by decide +kernel) rfl rfl rfl kT rfl rfl ⟨by omega, by omega⟩ (fun r1 h1 hp1 => ?_)
  refine V.wf (fun w1 => ?_)
  refine V.aload_n X dL_law_377 rfl ?_
  refine V.callVi (n := 0) X dL_law_378 gL_law_X12_undo (hp1.2 w1) rfl (by decide +kernel) rfl rfl rfl hp1.1 rfl rfl ⟨by omega, by omega⟩ (fun r2 h2 hp2 => ?_)
  refine V.icmp_eq 754 X dL_law_381 (by decide) (fun _ => ?_) (fun z => absurd hp2.1.symm z)
  exact V.widen _ _ (by omega) (by omega) (kk _ hp2.2)
theorem cs_openPairs {Γ : Cx} (X : Bx Γ cL_law 4 RL wsL_law 14 542 702150 6995798) {b N : Nat} {xs : Nat → Int32} (Y : LX Γ b N xs) (hN : N ≤ 2048) {T M j kc ks : Nat} {h : Hp} (B : BoS (cxG Γ) h T M) (w : WF h) (kT : Hk h T = some (.inl 13)) (hj : j + 4 ≤ N) (hc : kc + 300 ≤ 702150) (hs : ks + 1500 ≤ 6995798) (kk : ∀ h2, BoS (cxG Γ) h2 T M → V Γ (kc + 300) (ks + 1500) 754 [(0, .ref b), (1, .ref T), (2, .ref M), (3, .int (nI j))] [] h2) : V Γ kc ks 386 [(0, .ref b), (1, .ref T), (2, .ref M), (3, .int (nI j))] [] h := by
  refine V.aload_n X dL_law_386 rfl ?_
  refine V.callVi (n := 0) X dL_law_387 gL_law_X11_openPairs (st_openPairs _ _ B w) rfl (by decide +kernel) rfl rfl rfl kT rfl rfl ⟨by omega, by omega⟩ (fun r1 h1 hp1 => ?_)
  refine V.wf (fun w1 => ?_)
  refine V.aload_n X dL_law_390 rfl ?_
  refine V.callVi (n := 0) X dL_law_391 gL_law_X12_openPairs (hp1.2 w1) rfl (by decide +kernel) rfl rfl rfl hp1.1 rfl rfl ⟨by omega, by omega⟩ (fun r2 h2 hp2 => ?_)
  refine V.icmp_eq 754 X dL_law_394 (by decide) (fun _ => ?_) (fun z => absurd hp2.1.symm z)
  exact V.widen _ _ (by omega) (by omega) (kk _ hp2.2)
theorem cs_skippedPairs {Γ : Cx} (X : Bx Γ cL_law 4 RL wsL_law 14 542 702150 6995798) {b N : Nat} {xs : Nat → Int32} (Y : LX Γ b N xs) (hN : N ≤ 2048) {T M j kc ks : Nat} {h : Hp} (B : BoS (cxG Γ) h T M) (w : WF h) (kT : Hk h T = some (.inl 13)) (hj : j + 4 ≤ N) (hc : kc + 300 ≤ 702150) (hs : ks + 1500 ≤ 6995798) (kk : ∀ h2, BoS (cxG Γ) h2 T M → V Γ (kc + 300) (ks + 1500) 754 [(0, .ref b), (1, .ref T), (2, .ref M), (3, .int (nI j))] [] h2) : V Γ kc ks 399 [(0, .ref b), (1, .ref T), (2, .ref M), (3, .int (nI j))] [] h := by
  refine V.aload_n X dL_law_399 rfl ?_
  refine V.callVi (n := 0) X dL_law_400 gL_law_X11_skippedPairs (st_skippedPairs _ _ B w) rfl (by decide +kernel) rfl rfl rfl kT rfl rfl ⟨by omega, by omega⟩ (fun r1 h1 hp1 => ?_)
  refine V.wf (fun w1 => ?_)
  refine V.aload_n X dL_law_403 rfl ?_
  refine V.callVi (n := 0) X dL_law_404 gL_law_X12_skippedPairs (hp1.2 w1) rfl (by decide +kernel) rfl rfl rfl hp1.1 rfl rfl ⟨by omega, by omega⟩ (fun r2 h2 hp2 => ?_)
  refine V.icmp_eq 754 X dL_law_407 (by decide) (fun _ => ?_) (fun z => absurd hp2.1.symm z)
  exact V.widen _ _ (by omega) (by omega) (kk _ hp2.2)
theorem cs_redundantPairs {Γ : Cx} (X : Bx Γ cL_law 4 RL wsL_law 14 542 702150 6995798) {b N : Nat} {xs : Nat → Int32} (Y : LX Γ b N xs) (hN : N ≤ 2048) {T M j kc ks : Nat} {h : Hp} (B : BoS (cxG Γ) h T M) (w : WF h) (kT : Hk h T = some (.inl 13)) (hj : j + 4 ≤ N) (hc : kc + 300 ≤ 702150) (hs : ks + 1500 ≤ 6995798) (kk : ∀ h2, BoS (cxG Γ) h2 T M → V Γ (kc + 300) (ks + 1500) 754 [(0, .ref b), (1, .ref T), (2, .ref M), (3, .int (nI j))] [] h2) : V Γ kc ks 412 [(0, .ref b), (1, .ref T), (2, .ref M), (3, .int (nI j))] [] h := by
  refine V.aload_n X dL_law_412 rfl ?_
  refine V.callVi (n := 0) X dL_law_413 gL_law_X11_redundantPairs (st_redundantPairs _ _ B w) rfl (by decide +kernel) rfl rfl rfl kT rfl rfl ⟨by omega, by omega⟩ (fun r1 h1 hp1 => ?_)
  refine V.wf (fun w1 => ?_)
  refine V.aload_n X dL_law_416 rfl ?_
  refine V.callVi (n := 0) X dL_law_417 gL_law_X12_redundantPairs (hp1.2 w1) rfl (by decide +kernel) rfl rfl rfl hp1.1 rfl rfl ⟨by omega, by omega⟩ (fun r2 h2 hp2 => ?_)
  refine V.icmp_eq 754 X dL_law_420 (by decide) (fun _ => ?_) (fun z => absurd hp2.1.symm z)
  exact V.widen _ _ (by omega) (by omega) (kk _ hp2.2)
theorem cs_droppedPairs {Γ : Cx} (X : Bx Γ cL_law 4 RL wsL_law 14 542 702150 6995798) {b N : Nat} {xs : Nat → Int32} (Y : LX Γ b N xs) (hN : N ≤ 2048) {T M j kc ks : Nat} {h : Hp} (B : BoS (cxG Γ) h T M) (w : WF h) (kT : Hk h T = some (.inl 13)) (hj : j + 4 ≤ N) (hc : kc + 300 ≤ 702150) (hs : ks + 1500 ≤ 6995798) (kk : ∀ h2, BoS (cxG Γ) h2 T M → V Γ (kc + 300) (ks + 1500) 754 [(0, .ref b), (1, .ref T), (2, .ref M), (3, .int (nI j))] [] h2) : V Γ kc ks 425 [(0, .ref b), (1, .ref T), (2, .ref M), (3, .int (nI j))] [] h := by
  refine V.aload_n X dL_law_425 rfl ?_
  refine V.callVi (n := 0) X dL_law_426 gL_law_X11_droppedPairs (st_droppedPairs _ _ B w) rfl (by decide +kernel) rfl rfl rfl kT rfl rfl ⟨by omega, by omega⟩ (fun r1 h1 hp1 => ?_)
  refine V.wf (fun w1 => ?_)
  refine V.aload_n X dL_law_429 rfl ?_
  refine V.callVi (n := 0) X dL_law_430 gL_law_X12_droppedPairs (hp1.2 w1) rfl (by decide +kernel) rfl rfl rfl hp1.1 rfl rfl ⟨by omega, by omega⟩ (fun r2 h2 hp2 => ?_)
  refine V.icmp_eq 754 X dL_law_433 (by decide) (fun _ => ?_) (fun z => absurd hp2.1.symm z)
  exact V.widen _ _ (by omega) (by omega) (kk _ hp2.2)
theorem cs_poolSize {Γ : Cx} (X : Bx Γ cL_law 4 RL wsL_law 14 542 702150 6995798) {b N : Nat} {xs : Nat → Int32} (Y : LX Γ b N xs) (hN : N ≤ 2048) {T M j kc ks : Nat} {h : Hp} (B : BoS (cxG Γ) h T M) (w : WF h) (kT : Hk h T = some (.inl 13)) (hj : j + 4 ≤ N) (hc : kc + 300 ≤ 702150) (hs : ks + 1500 ≤ 6995798) (kk : ∀ h2, BoS (cxG Γ) h2 T M → V Γ (kc + 300) (ks + 1500) 754 [(0, .ref b), (1, .ref T), (2, .ref M), (3, .int (nI j))] [] h2) : V Γ kc ks 438 [(0, .ref b), (1, .ref T), (2, .ref M), (3, .int (nI j))] [] h := by
  refine V.aload_n X dL_law_438 rfl ?_
  refine V.callVi (n := 0) X dL_law_439 gL_law_X11_poolSize (st_poolSize _ _ B w) rfl (by decide +kernel) rfl rfl rfl kT rfl rfl ⟨by omega, by omega⟩ (fun r1 h1 hp1 => ?_)
  refine V.wf (fun w1 => ?_)
  refine V.aload_n X dL_law_442 rfl ?_
  refine V.callVi (n := 0) X dL_law_443 gL_law_X12_poolSize (hp1.2 w1) rfl (by decide +kernel) rfl rfl rfl hp1.1 rfl rfl ⟨by omega, by omega⟩ (fun r2 h2 hp2 => ?_)
  refine V.icmp_eq 754 X dL_law_446 (by decide) (fun _ => ?_) (fun z => absurd hp2.1.symm z)
  exact V.widen _ _ (by omega) (by omega) (kk _ hp2.2)
theorem cs_sequenceLength {Γ : Cx} (X : Bx Γ cL_law 4 RL wsL_law 14 542 702150 6995798) {b N : Nat} {xs : Nat → Int32} (Y : LX Γ b N xs) (hN : N ≤ 2048) {T M j kc ks : Nat} {h : Hp} (B : BoS (cxG Γ) h T M) (w : WF h) (kT : Hk h T = some (.inl 13)) (hj : j + 4 ≤ N) (hc : kc + 300 ≤ 702150) (hs : ks + 1500 ≤ 6995798) (kk : ∀ h2, BoS (cxG Γ) h2 T M → V Γ (kc + 300) (ks + 1500) 754 [(0, .ref b), (1, .ref T), (2, .ref M), (3, .int (nI j))] [] h2) : V Γ kc ks 451 [(0, .ref b), (1, .ref T), (2, .ref M), (3, .int (nI j))] [] h := by
  refine V.aload_n X dL_law_451 rfl ?_
  refine V.aload_n X dL_law_452 rfl ?_
  refine V.iload_n X dL_law_453 rfl ?_
  refine V.iconst (v := nI 1) X dL_law_454 rfl ?_
  refine V.iaddN X dL_law_455 ?_
  refine V.sld X dL_law_456 Y rfl (by omega) (by omega) ?_
  refine V.callVi (n := 1) X dL_law_457 gL_law_X11_sequenceLength (st_sequenceLength (x := xs (j + 1)) _ _ B w) rfl (by decide +kernel) rfl rfl rfl kT rfl rfl ⟨by omega, by omega⟩ (fun r1 h1 hp1 => ?_)
  refine V.wf (fun w1 => ?_)
  refine V.aload_n X dL_law_460 rfl ?_
  refine V.aload_n X dL_law_461 rfl ?_
  refine V.iload_n X dL_law_462 rfl ?_
  refine V.iconst (v := nI 1) X dL_law_463 rfl ?_
  refine V.iaddN X dL_law_464 ?_
  refine V.sld X dL_law_465 Y rfl (by omega) (by omega) ?_
  refine V.callVi (n := 1) X dL_law_466 gL_law_X12_sequenceLength (hp1.2 w1) rfl (by decide +kernel) rfl rfl rfl hp1.1 rfl rfl ⟨by omega, by omega⟩ (fun r2 h2 hp2 => ?_)
  refine V.icmp_eq 754 X dL_law_469 (by decide) (fun _ => ?_) (fun z => absurd hp2.1.symm z)
  exact V.widen _ _ (by omega) (by omega) (kk _ hp2.2)
theorem cs_sequenceCall {Γ : Cx} (X : Bx Γ cL_law 4 RL wsL_law 14 542 702150 6995798) {b N : Nat} {xs : Nat → Int32} (Y : LX Γ b N xs) (hN : N ≤ 2048) {T M j kc ks : Nat} {h : Hp} (B : BoS (cxG Γ) h T M) (w : WF h) (kT : Hk h T = some (.inl 13)) (hj : j + 4 ≤ N) (hc : kc + 300 ≤ 702150) (hs : ks + 1500 ≤ 6995798) (kk : ∀ h2, BoS (cxG Γ) h2 T M → V Γ (kc + 300) (ks + 1500) 754 [(0, .ref b), (1, .ref T), (2, .ref M), (3, .int (nI j))] [] h2) : V Γ kc ks 474 [(0, .ref b), (1, .ref T), (2, .ref M), (3, .int (nI j))] [] h := by
  refine V.aload_n X dL_law_474 rfl ?_
  refine V.aload_n X dL_law_475 rfl ?_
  refine V.iload_n X dL_law_476 rfl ?_
  refine V.iconst (v := nI 1) X dL_law_477 rfl ?_
  refine V.iaddN X dL_law_478 ?_
  refine V.sld X dL_law_479 Y rfl (by omega) (by omega) ?_
  refine V.aload_n X dL_law_480 rfl ?_
  refine V.iload_n X dL_law_481 rfl ?_
  refine V.iconst (v := nI 2) X dL_law_482 rfl ?_
  refine V.iaddN X dL_law_483 ?_
  refine V.sld X dL_law_484 Y rfl (by omega) (by omega) ?_
  refine V.callVi (n := 2) X dL_law_485 gL_law_X11_sequenceCall (st_sequenceCall (x := xs (j + 1)) (z := xs (j + 2)) _ _ B w) rfl (by decide +kernel) rfl rfl rfl kT rfl rfl ⟨by omega, by omega⟩ (fun r1 h1 hp1 => ?_)
  refine V.wf (fun w1 => ?_)
  refine V.aload_n X dL_law_488 rfl ?_
  refine V.aload_n X dL_law_489 rfl ?_
  refine V.iload_n X dL_law_490 rfl ?_
  refine V.iconst (v := nI 1) X dL_law_491 rfl ?_
  refine V.iaddN X dL_law_492 ?_
  refine V.sld X dL_law_493 Y rfl (by omega) (by omega) ?_
  refine V.aload_n X dL_law_494 rfl ?_
  refine V.iload_n X dL_law_495 rfl ?_
  refine V.iconst (v := nI 2) X dL_law_496 rfl ?_
  refine V.iaddN X dL_law_497 ?_
  refine V.sld X dL_law_498 Y rfl (by omega) (by omega) ?_
  refine V.callVi (n := 2) X dL_law_499 gL_law_X12_sequenceCall (hp1.2 w1) rfl (by decide +kernel) rfl rfl rfl hp1.1 rfl rfl ⟨by omega, by omega⟩ (fun r2 h2 hp2 => ?_)
  refine V.icmp_eq 754 X dL_law_502 (by decide) (fun _ => ?_) (fun z => absurd hp2.1.symm z)
  exact V.widen _ _ (by omega) (by omega) (kk _ hp2.2)
theorem cs_finalValue {Γ : Cx} (X : Bx Γ cL_law 4 RL wsL_law 14 542 702150 6995798) {b N : Nat} {xs : Nat → Int32} (Y : LX Γ b N xs) (hN : N ≤ 2048) {T M j kc ks : Nat} {h : Hp} (B : BoS (cxG Γ) h T M) (w : WF h) (kT : Hk h T = some (.inl 13)) (hj : j + 4 ≤ N) (hc : kc + 300 ≤ 702150) (hs : ks + 1500 ≤ 6995798) (kk : ∀ h2, BoS (cxG Γ) h2 T M → V Γ (kc + 300) (ks + 1500) 754 [(0, .ref b), (1, .ref T), (2, .ref M), (3, .int (nI j))] [] h2) : V Γ kc ks 507 [(0, .ref b), (1, .ref T), (2, .ref M), (3, .int (nI j))] [] h := by
  refine V.aload_n X dL_law_507 rfl ?_
  refine V.aload_n X dL_law_508 rfl ?_
  refine V.iload_n X dL_law_509 rfl ?_
  refine V.iconst (v := nI 1) X dL_law_510 rfl ?_
  refine V.iaddN X dL_law_511 ?_
  refine V.sld X dL_law_512 Y rfl (by omega) (by omega) ?_
  refine V.aload_n X dL_law_513 rfl ?_
  refine V.iload_n X dL_law_514 rfl ?_
  refine V.iconst (v := nI 2) X dL_law_515 rfl ?_
  refine V.iaddN X dL_law_516 ?_
  refine V.sld X dL_law_517 Y rfl (by omega) (by omega) ?_
  refine V.callVi (n := 2) X dL_law_518 gL_law_X11_finalValue (st_finalValue (x := xs (j + 1)) (z := xs (j + 2)) _ _ B w) rfl (by decide +kernel) rfl rfl rfl kT rfl rfl ⟨by omega, by omega⟩ (fun r1 h1 hp1 => ?_)
  refine V.wf (fun w1 => ?_)
  refine V.aload_n X dL_law_521 rfl ?_
  refine V.aload_n X dL_law_522 rfl ?_
  refine V.iload_n X dL_law_523 rfl ?_
  refine V.iconst (v := nI 1) X dL_law_524 rfl ?_
  refine V.iaddN X dL_law_525 ?_
  refine V.sld X dL_law_526 Y rfl (by omega) (by omega) ?_
  refine V.aload_n X dL_law_527 rfl ?_
  refine V.iload_n X dL_law_528 rfl ?_
  refine V.iconst (v := nI 2) X dL_law_529 rfl ?_
  refine V.iaddN X dL_law_530 ?_
  refine V.sld X dL_law_531 Y rfl (by omega) (by omega) ?_
  refine V.callVi (n := 2) X dL_law_532 gL_law_X12_finalValue (hp1.2 w1) rfl (by decide +kernel) rfl rfl rfl hp1.1 rfl rfl ⟨by omega, by omega⟩ (fun r2 h2 hp2 => ?_)
  refine V.icmp_eq 754 X dL_law_535 (by decide) (fun _ => ?_) (fun z => absurd hp2.1.symm z)
  exact V.widen _ _ (by omega) (by omega) (kk _ hp2.2)
theorem cs_enabledMethods {Γ : Cx} (X : Bx Γ cL_law 4 RL wsL_law 14 542 702150 6995798) {b N : Nat} {xs : Nat → Int32} (Y : LX Γ b N xs) (hN : N ≤ 2048) {T M j kc ks : Nat} {h : Hp} (B : BoS (cxG Γ) h T M) (w : WF h) (kT : Hk h T = some (.inl 13)) (hj : j + 4 ≤ N) (hc : kc + 300 ≤ 702150) (hs : ks + 1500 ≤ 6995798) (kk : ∀ h2, BoS (cxG Γ) h2 T M → V Γ (kc + 300) (ks + 1500) 754 [(0, .ref b), (1, .ref T), (2, .ref M), (3, .int (nI j))] [] h2) : V Γ kc ks 540 [(0, .ref b), (1, .ref T), (2, .ref M), (3, .int (nI j))] [] h := by
  refine V.aload_n X dL_law_540 rfl ?_
  refine V.aload_n X dL_law_541 rfl ?_
  refine V.iload_n X dL_law_542 rfl ?_
  refine V.iconst (v := nI 1) X dL_law_543 rfl ?_
  refine V.iaddN X dL_law_544 ?_
  refine V.sld X dL_law_545 Y rfl (by omega) (by omega) ?_
  refine V.callVi (n := 1) X dL_law_546 gL_law_X11_enabledMethods (st_enabledMethods (x := xs (j + 1)) _ _ B w) rfl (by decide +kernel) rfl rfl rfl kT rfl rfl ⟨by omega, by omega⟩ (fun r1 h1 hp1 => ?_)
  refine V.wf (fun w1 => ?_)
  refine V.aload_n X dL_law_549 rfl ?_
  refine V.aload_n X dL_law_550 rfl ?_
  refine V.iload_n X dL_law_551 rfl ?_
  refine V.iconst (v := nI 1) X dL_law_552 rfl ?_
  refine V.iaddN X dL_law_553 ?_
  refine V.sld X dL_law_554 Y rfl (by omega) (by omega) ?_
  refine V.callVi (n := 1) X dL_law_555 gL_law_X12_enabledMethods (hp1.2 w1) rfl (by decide +kernel) rfl rfl rfl hp1.1 rfl rfl ⟨by omega, by omega⟩ (fun r2 h2 hp2 => ?_)
  refine V.icmp_eq 754 X dL_law_558 (by decide) (fun _ => ?_) (fun z => absurd hp2.1.symm z)
  exact V.widen _ _ (by omega) (by omega) (kk _ hp2.2)
theorem cs_findState {Γ : Cx} (X : Bx Γ cL_law 4 RL wsL_law 14 542 702150 6995798) {b N : Nat} {xs : Nat → Int32} (Y : LX Γ b N xs) (hN : N ≤ 2048) {T M j kc ks : Nat} {h : Hp} (B : BoS (cxG Γ) h T M) (w : WF h) (kT : Hk h T = some (.inl 13)) (hj : j + 4 ≤ N) (hc : kc + 300 ≤ 702150) (hs : ks + 1500 ≤ 6995798) (kk : ∀ h2, BoS (cxG Γ) h2 T M → V Γ (kc + 300) (ks + 1500) 754 [(0, .ref b), (1, .ref T), (2, .ref M), (3, .int (nI j))] [] h2) : V Γ kc ks 563 [(0, .ref b), (1, .ref T), (2, .ref M), (3, .int (nI j))] [] h := by
  refine V.aload_n X dL_law_563 rfl ?_
  refine V.aload_n X dL_law_564 rfl ?_
  refine V.iload_n X dL_law_565 rfl ?_
  refine V.iconst (v := nI 1) X dL_law_566 rfl ?_
  refine V.iaddN X dL_law_567 ?_
  refine V.sld X dL_law_568 Y rfl (by omega) (by omega) ?_
  refine V.aload_n X dL_law_569 rfl ?_
  refine V.iload_n X dL_law_570 rfl ?_
  refine V.iconst (v := nI 2) X dL_law_571 rfl ?_
  refine V.iaddN X dL_law_572 ?_
  refine V.sld X dL_law_573 Y rfl (by omega) (by omega) ?_
  refine V.aload_n X dL_law_574 rfl ?_
  refine V.iload_n X dL_law_575 rfl ?_
  refine V.iconst (v := nI 3) X dL_law_576 rfl ?_
  refine V.iaddN X dL_law_577 ?_
  refine V.sld X dL_law_578 Y rfl (by omega) (by omega) ?_
  refine V.callVi (n := 3) X dL_law_579 gL_law_X11_findState (st_findState (x := xs (j + 1)) (y := xs (j + 2)) (z := xs (j + 3)) _ _ B w) rfl (by decide +kernel) rfl rfl rfl kT rfl rfl ⟨by omega, by omega⟩ (fun r1 h1 hp1 => ?_)
  refine V.wf (fun w1 => ?_)
  refine V.aload_n X dL_law_582 rfl ?_
  refine V.aload_n X dL_law_583 rfl ?_
  refine V.iload_n X dL_law_584 rfl ?_
  refine V.iconst (v := nI 1) X dL_law_585 rfl ?_
  refine V.iaddN X dL_law_586 ?_
  refine V.sld X dL_law_587 Y rfl (by omega) (by omega) ?_
  refine V.aload_n X dL_law_588 rfl ?_
  refine V.iload_n X dL_law_589 rfl ?_
  refine V.iconst (v := nI 2) X dL_law_590 rfl ?_
  refine V.iaddN X dL_law_591 ?_
  refine V.sld X dL_law_592 Y rfl (by omega) (by omega) ?_
  refine V.aload_n X dL_law_593 rfl ?_
  refine V.iload_n X dL_law_594 rfl ?_
  refine V.iconst (v := nI 3) X dL_law_595 rfl ?_
  refine V.iaddN X dL_law_596 ?_
  refine V.sld X dL_law_597 Y rfl (by omega) (by omega) ?_
  refine V.callVi (n := 3) X dL_law_598 gL_law_X12_findState (hp1.2 w1) rfl (by decide +kernel) rfl rfl rfl hp1.1 rfl rfl ⟨by omega, by omega⟩ (fun r2 h2 hp2 => ?_)
  refine V.icmp_eq 754 X dL_law_601 (by decide) (fun _ => ?_) (fun z => absurd hp2.1.symm z)
  exact V.widen _ _ (by omega) (by omega) (kk _ hp2.2)
theorem cs_failureCount {Γ : Cx} (X : Bx Γ cL_law 4 RL wsL_law 14 542 702150 6995798) {b N : Nat} {xs : Nat → Int32} (Y : LX Γ b N xs) (hN : N ≤ 2048) {T M j kc ks : Nat} {h : Hp} (B : BoS (cxG Γ) h T M) (w : WF h) (kT : Hk h T = some (.inl 13)) (hj : j + 4 ≤ N) (hc : kc + 300 ≤ 702150) (hs : ks + 1500 ≤ 6995798) (kk : ∀ h2, BoS (cxG Γ) h2 T M → V Γ (kc + 300) (ks + 1500) 754 [(0, .ref b), (1, .ref T), (2, .ref M), (3, .int (nI j))] [] h2) : V Γ kc ks 606 [(0, .ref b), (1, .ref T), (2, .ref M), (3, .int (nI j))] [] h := by
  refine V.aload_n X dL_law_606 rfl ?_
  refine V.callVi (n := 0) X dL_law_607 gL_law_X11_failureCount (st_failureCount _ _ B w) rfl (by decide +kernel) rfl rfl rfl kT rfl rfl ⟨by omega, by omega⟩ (fun r1 h1 hp1 => ?_)
  refine V.wf (fun w1 => ?_)
  refine V.aload_n X dL_law_610 rfl ?_
  refine V.callVi (n := 0) X dL_law_611 gL_law_X12_failureCount (hp1.2 w1) rfl (by decide +kernel) rfl rfl rfl hp1.1 rfl rfl ⟨by omega, by omega⟩ (fun r2 h2 hp2 => ?_)
  refine V.icmp_eq 754 X dL_law_614 (by decide) (fun _ => ?_) (fun z => absurd hp2.1.symm z)
  exact V.widen _ _ (by omega) (by omega) (kk _ hp2.2)
theorem cs_failureLength {Γ : Cx} (X : Bx Γ cL_law 4 RL wsL_law 14 542 702150 6995798) {b N : Nat} {xs : Nat → Int32} (Y : LX Γ b N xs) (hN : N ≤ 2048) {T M j kc ks : Nat} {h : Hp} (B : BoS (cxG Γ) h T M) (w : WF h) (kT : Hk h T = some (.inl 13)) (hj : j + 4 ≤ N) (hc : kc + 300 ≤ 702150) (hs : ks + 1500 ≤ 6995798) (kk : ∀ h2, BoS (cxG Γ) h2 T M → V Γ (kc + 300) (ks + 1500) 754 [(0, .ref b), (1, .ref T), (2, .ref M), (3, .int (nI j))] [] h2) : V Γ kc ks 619 [(0, .ref b), (1, .ref T), (2, .ref M), (3, .int (nI j))] [] h := by
  refine V.aload_n X dL_law_619 rfl ?_
  refine V.aload_n X dL_law_620 rfl ?_
  refine V.iload_n X dL_law_621 rfl ?_
  refine V.iconst (v := nI 1) X dL_law_622 rfl ?_
  refine V.iaddN X dL_law_623 ?_
  refine V.sld X dL_law_624 Y rfl (by omega) (by omega) ?_
  refine V.callVi (n := 1) X dL_law_625 gL_law_X11_failureLength (st_failureLength (x := xs (j + 1)) _ _ B w) rfl (by decide +kernel) rfl rfl rfl kT rfl rfl ⟨by omega, by omega⟩ (fun r1 h1 hp1 => ?_)
  refine V.wf (fun w1 => ?_)
  refine V.aload_n X dL_law_628 rfl ?_
  refine V.aload_n X dL_law_629 rfl ?_
  refine V.iload_n X dL_law_630 rfl ?_
  refine V.iconst (v := nI 1) X dL_law_631 rfl ?_
  refine V.iaddN X dL_law_632 ?_
  refine V.sld X dL_law_633 Y rfl (by omega) (by omega) ?_
  refine V.callVi (n := 1) X dL_law_634 gL_law_X12_failureLength (hp1.2 w1) rfl (by decide +kernel) rfl rfl rfl hp1.1 rfl rfl ⟨by omega, by omega⟩ (fun r2 h2 hp2 => ?_)
  refine V.icmp_eq 754 X dL_law_637 (by decide) (fun _ => ?_) (fun z => absurd hp2.1.symm z)
  exact V.widen _ _ (by omega) (by omega) (kk _ hp2.2)
theorem cs_failureCall {Γ : Cx} (X : Bx Γ cL_law 4 RL wsL_law 14 542 702150 6995798) {b N : Nat} {xs : Nat → Int32} (Y : LX Γ b N xs) (hN : N ≤ 2048) {T M j kc ks : Nat} {h : Hp} (B : BoS (cxG Γ) h T M) (w : WF h) (kT : Hk h T = some (.inl 13)) (hj : j + 4 ≤ N) (hc : kc + 300 ≤ 702150) (hs : ks + 1500 ≤ 6995798) (kk : ∀ h2, BoS (cxG Γ) h2 T M → V Γ (kc + 300) (ks + 1500) 754 [(0, .ref b), (1, .ref T), (2, .ref M), (3, .int (nI j))] [] h2) : V Γ kc ks 642 [(0, .ref b), (1, .ref T), (2, .ref M), (3, .int (nI j))] [] h := by
  refine V.aload_n X dL_law_642 rfl ?_
  refine V.aload_n X dL_law_643 rfl ?_
  refine V.iload_n X dL_law_644 rfl ?_
  refine V.iconst (v := nI 1) X dL_law_645 rfl ?_
  refine V.iaddN X dL_law_646 ?_
  refine V.sld X dL_law_647 Y rfl (by omega) (by omega) ?_
  refine V.aload_n X dL_law_648 rfl ?_
  refine V.iload_n X dL_law_649 rfl ?_
  refine V.iconst (v := nI 2) X dL_law_650 rfl ?_
  refine V.iaddN X dL_law_651 ?_
  refine V.sld X dL_law_652 Y rfl (by omega) (by omega) ?_
  refine V.callVi (n := 2) X dL_law_653 gL_law_X11_failureCall (st_failureCall (x := xs (j + 1)) (z := xs (j + 2)) _ _ B w) rfl (by decide +kernel) rfl rfl rfl kT rfl rfl ⟨by omega, by omega⟩ (fun r1 h1 hp1 => ?_)
  refine V.wf (fun w1 => ?_)
  refine V.aload_n X dL_law_656 rfl ?_
  refine V.aload_n X dL_law_657 rfl ?_
  refine V.iload_n X dL_law_658 rfl ?_
  refine V.iconst (v := nI 1) X dL_law_659 rfl ?_
  refine V.iaddN X dL_law_660 ?_
  refine V.sld X dL_law_661 Y rfl (by omega) (by omega) ?_
  refine V.aload_n X dL_law_662 rfl ?_
  refine V.iload_n X dL_law_663 rfl ?_
  refine V.iconst (v := nI 2) X dL_law_664 rfl ?_
  refine V.iaddN X dL_law_665 ?_
  refine V.sld X dL_law_666 Y rfl (by omega) (by omega) ?_
  refine V.callVi (n := 2) X dL_law_667 gL_law_X12_failureCall (hp1.2 w1) rfl (by decide +kernel) rfl rfl rfl hp1.1 rfl rfl ⟨by omega, by omega⟩ (fun r2 h2 hp2 => ?_)
  refine V.icmp_eq 754 X dL_law_670 (by decide) (fun _ => ?_) (fun z => absurd hp2.1.symm z)
  exact V.widen _ _ (by omega) (by omega) (kk _ hp2.2)
theorem cs_failureVerdict {Γ : Cx} (X : Bx Γ cL_law 4 RL wsL_law 14 542 702150 6995798) {b N : Nat} {xs : Nat → Int32} (Y : LX Γ b N xs) (hN : N ≤ 2048) {T M j kc ks : Nat} {h : Hp} (B : BoS (cxG Γ) h T M) (w : WF h) (kT : Hk h T = some (.inl 13)) (hj : j + 4 ≤ N) (hc : kc + 300 ≤ 702150) (hs : ks + 1500 ≤ 6995798) (kk : ∀ h2, BoS (cxG Γ) h2 T M → V Γ (kc + 300) (ks + 1500) 754 [(0, .ref b), (1, .ref T), (2, .ref M), (3, .int (nI j))] [] h2) : V Γ kc ks 675 [(0, .ref b), (1, .ref T), (2, .ref M), (3, .int (nI j))] [] h := by
  refine V.aload_n X dL_law_675 rfl ?_
  refine V.aload_n X dL_law_676 rfl ?_
  refine V.iload_n X dL_law_677 rfl ?_
  refine V.iconst (v := nI 1) X dL_law_678 rfl ?_
  refine V.iaddN X dL_law_679 ?_
  refine V.sld X dL_law_680 Y rfl (by omega) (by omega) ?_
  refine V.callVi (n := 1) X dL_law_681 gL_law_X11_failureVerdict (st_failureVerdict (x := xs (j + 1)) _ _ B w) rfl (by decide +kernel) rfl rfl rfl kT rfl rfl ⟨by omega, by omega⟩ (fun r1 h1 hp1 => ?_)
  refine V.wf (fun w1 => ?_)
  refine V.aload_n X dL_law_684 rfl ?_
  refine V.aload_n X dL_law_685 rfl ?_
  refine V.iload_n X dL_law_686 rfl ?_
  refine V.iconst (v := nI 1) X dL_law_687 rfl ?_
  refine V.iaddN X dL_law_688 ?_
  refine V.sld X dL_law_689 Y rfl (by omega) (by omega) ?_
  refine V.callVi (n := 1) X dL_law_690 gL_law_X12_failureVerdict (hp1.2 w1) rfl (by decide +kernel) rfl rfl rfl hp1.1 rfl rfl ⟨by omega, by omega⟩ (fun r2 h2 hp2 => ?_)
  refine V.icmp_eq 754 X dL_law_693 (by decide) (fun _ => ?_) (fun z => absurd hp2.1.symm z)
  exact V.widen _ _ (by omega) (by omega) (kk _ hp2.2)
theorem cs_minimizedLength {Γ : Cx} (X : Bx Γ cL_law 4 RL wsL_law 14 542 702150 6995798) {b N : Nat} {xs : Nat → Int32} (Y : LX Γ b N xs) (hN : N ≤ 2048) {T M j kc ks : Nat} {h : Hp} (B : BoS (cxG Γ) h T M) (w : WF h) (kT : Hk h T = some (.inl 13)) (hj : j + 4 ≤ N) (hc : kc + 300 ≤ 702150) (hs : ks + 1500 ≤ 6995798) (kk : ∀ h2, BoS (cxG Γ) h2 T M → V Γ (kc + 300) (ks + 1500) 754 [(0, .ref b), (1, .ref T), (2, .ref M), (3, .int (nI j))] [] h2) : V Γ kc ks 698 [(0, .ref b), (1, .ref T), (2, .ref M), (3, .int (nI j))] [] h := by
  refine V.aload_n X dL_law_698 rfl ?_
  refine V.aload_n X dL_law_699 rfl ?_
  refine V.iload_n X dL_law_700 rfl ?_
  refine V.iconst (v := nI 1) X dL_law_701 rfl ?_
  refine V.iaddN X dL_law_702 ?_
  refine V.sld X dL_law_703 Y rfl (by omega) (by omega) ?_
  refine V.callVi (n := 1) X dL_law_704 gL_law_X11_minimizedLength (st_minimizedLength (x := xs (j + 1)) _ _ B w) rfl (by decide +kernel) rfl rfl rfl kT rfl rfl ⟨by omega, by omega⟩ (fun r1 h1 hp1 => ?_)
  refine V.wf (fun w1 => ?_)
  refine V.aload_n X dL_law_707 rfl ?_
  refine V.aload_n X dL_law_708 rfl ?_
  refine V.iload_n X dL_law_709 rfl ?_
  refine V.iconst (v := nI 1) X dL_law_710 rfl ?_
  refine V.iaddN X dL_law_711 ?_
  refine V.sld X dL_law_712 Y rfl (by omega) (by omega) ?_
  refine V.callVi (n := 1) X dL_law_713 gL_law_X12_minimizedLength (hp1.2 w1) rfl (by decide +kernel) rfl rfl rfl hp1.1 rfl rfl ⟨by omega, by omega⟩ (fun r2 h2 hp2 => ?_)
  refine V.icmp_eq 754 X dL_law_716 (by decide) (fun _ => ?_) (fun z => absurd hp2.1.symm z)
  exact V.widen _ _ (by omega) (by omega) (kk _ hp2.2)
theorem cs_minimizedCall {Γ : Cx} (X : Bx Γ cL_law 4 RL wsL_law 14 542 702150 6995798) {b N : Nat} {xs : Nat → Int32} (Y : LX Γ b N xs) (hN : N ≤ 2048) {T M j kc ks : Nat} {h : Hp} (B : BoS (cxG Γ) h T M) (w : WF h) (kT : Hk h T = some (.inl 13)) (hj : j + 4 ≤ N) (hc : kc + 300 ≤ 702150) (hs : ks + 1500 ≤ 6995798) (kk : ∀ h2, BoS (cxG Γ) h2 T M → V Γ (kc + 300) (ks + 1500) 754 [(0, .ref b), (1, .ref T), (2, .ref M), (3, .int (nI j))] [] h2) : V Γ kc ks 721 [(0, .ref b), (1, .ref T), (2, .ref M), (3, .int (nI j))] [] h := by
  refine V.aload_n X dL_law_721 rfl ?_
  refine V.aload_n X dL_law_722 rfl ?_
  refine V.iload_n X dL_law_723 rfl ?_
  refine V.iconst (v := nI 1) X dL_law_724 rfl ?_
  refine V.iaddN X dL_law_725 ?_
  refine V.sld X dL_law_726 Y rfl (by omega) (by omega) ?_
  refine V.aload_n X dL_law_727 rfl ?_
  refine V.iload_n X dL_law_728 rfl ?_
  refine V.iconst (v := nI 2) X dL_law_729 rfl ?_
  refine V.iaddN X dL_law_730 ?_
  refine V.sld X dL_law_731 Y rfl (by omega) (by omega) ?_
  refine V.callVi (n := 2) X dL_law_732 gL_law_X11_minimizedCall (st_minimizedCall (x := xs (j + 1)) (z := xs (j + 2)) _ _ B w) rfl (by decide +kernel) rfl rfl rfl kT rfl rfl ⟨by omega, by omega⟩ (fun r1 h1 hp1 => ?_)
  refine V.wf (fun w1 => ?_)
  refine V.aload_n X dL_law_735 rfl ?_
  refine V.aload_n X dL_law_736 rfl ?_
  refine V.iload_n X dL_law_737 rfl ?_
  refine V.iconst (v := nI 1) X dL_law_738 rfl ?_
  refine V.iaddN X dL_law_739 ?_
  refine V.sld X dL_law_740 Y rfl (by omega) (by omega) ?_
  refine V.aload_n X dL_law_741 rfl ?_
  refine V.iload_n X dL_law_742 rfl ?_
  refine V.iconst (v := nI 2) X dL_law_743 rfl ?_
  refine V.iaddN X dL_law_744 ?_
  refine V.sld X dL_law_745 Y rfl (by omega) (by omega) ?_
  refine V.callVi (n := 2) X dL_law_746 gL_law_X12_minimizedCall (hp1.2 w1) rfl (by decide +kernel) rfl rfl rfl hp1.1 rfl rfl ⟨by omega, by omega⟩ (fun r2 h2 hp2 => ?_)
  refine V.icmp_eq 754 X dL_law_749 (by decide) (fun _ => ?_) (fun z => absurd hp2.1.symm z)
  exact V.widen _ _ (by omega) (by omega) (kk _ hp2.2)
theorem lw_round {Γ : Cx} (X : Bx Γ cL_law 4 RL wsL_law 14 542 702150 6995798) {b N : Nat} {xs : Nat → Int32} (Y : LX Γ b N xs) (hN : N ≤ 2048) {T M j kc ks : Nat} {h : Hp} (B : BoS (cxG Γ) h T M) (w : WF h) (hj : j + 4 ≤ N) (hc2 : kc + 300 ≤ 702150) (hs2 : ks + 1500 ≤ 6995798) (kk : ∀ h2, BoS (cxG Γ) h2 T M → V Γ (kc + 300) (ks + 1500) 754 [(0, .ref b), (1, .ref T), (2, .ref M), (3, .int (nI j))] [] h2) : V Γ kc ks 26 [(0, .ref b), (1, .ref T), (2, .ref M), (3, .int (nI j))] [] h := by
  have kT : Hk h T = some (.inl 13) := by
    obtain ⟨d, m, t, c, r, la, k, sx, ps, C, _⟩ := B
    exact C.1.1
  refine V.aload_n X dL_law_26 rfl ?_
  refine V.iload_n X dL_law_27 rfl ?_
  refine V.sld X dL_law_28 Y rfl (by omega) (by omega) ?_
  refine V.bipush (v := 31) X dL_law_29 rfl ?_
  refine V.iand X dL_law_31 ?_
  have hr := and31 (xs j)
  generalize xs j &&& 31 = x at hr ⊢
  by_cases h27 : 27 < x.toInt
  · exact V.tableOut 754 X dL_law_32 (Or.inr h27) (by decide) (V.widen _ _ (by omega) (by omega) (kk _ B))
  · obtain ⟨n, hn, hx⟩ : ∃ n : Nat, n < 28 ∧ x.toInt = (n : Int) := ⟨x.toInt.toNat, by omega, by omega⟩
    match n, hn, hx with
    | 0, _, hx => exact V.tableIn 160 X dL_law_32 (by rw [hx]; decide) (by rw [hx]; decide) (by rw [hx]; rfl) (by decide) (cs_appendCharacter X Y hN B w kT hj hc2 hs2 kk)
    | 1, _, hx => exact V.tableIn 183 X dL_law_32 (by rw [hx]; decide) (by rw [hx]; decide) (by rw [hx]; rfl) (by decide) (cs_clearText X Y hN B w kT hj hc2 hs2 kk)
    | 2, _, hx => exact V.tableIn 196 X dL_law_32 (by rw [hx]; decide) (by rw [hx]; decide) (by rw [hx]; rfl) (by decide) (cs_loadComponent X Y hN B w kT hj hc2 hs2 kk)
    | 3, _, hx => exact V.tableIn 209 X dL_law_32 (by rw [hx]; decide) (by rw [hx]; decide) (by rw [hx]; rfl) (by decide) (cs_setInitialValue X Y hN B w kT hj hc2 hs2 kk)
    | 4, _, hx => exact V.tableIn 242 X dL_law_32 (by rw [hx]; decide) (by rw [hx]; decide) (by rw [hx]; rfl) (by decide) (cs_removeMethod X Y hN B w kT hj hc2 hs2 kk)
    | 5, _, hx => exact V.tableIn 265 X dL_law_32 (by rw [hx]; decide) (by rw [hx]; decide) (by rw [hx]; rfl) (by decide) (cs_methodCount X Y hN B w kT hj hc2 hs2 kk)
    | 6, _, hx => exact V.tableIn 278 X dL_law_32 (by rw [hx]; decide) (by rw [hx]; decide) (by rw [hx]; rfl) (by decide) (cs_complexity X Y hN B w kT hj hc2 hs2 kk)
    | 7, _, hx => exact V.tableIn 301 X dL_law_32 (by rw [hx]; decide) (by rw [hx]; decide) (by rw [hx]; rfl) (by decide) (cs_runText X Y hN B w kT hj hc2 hs2 kk)
    | 8, _, hx => exact V.tableIn 314 X dL_law_32 (by rw [hx]; decide) (by rw [hx]; decide) (by rw [hx]; rfl) (by decide) (cs_setMaximumLength X Y hN B w kT hj hc2 hs2 kk)
    | 9, _, hx => exact V.tableIn 337 X dL_law_32 (by rw [hx]; decide) (by rw [hx]; decide) (by rw [hx]; rfl) (by decide) (cs_explore X Y hN B w kT hj hc2 hs2 kk)
    | 10, _, hx => exact V.tableIn 360 X dL_law_32 (by rw [hx]; decide) (by rw [hx]; decide) (by rw [hx]; rfl) (by decide) (cs_reset X Y hN B w kT hj hc2 hs2 kk)
    | 11, _, hx => exact V.tableIn 373 X dL_law_32 (by rw [hx]; decide) (by rw [hx]; decide) (by rw [hx]; rfl) (by decide) (cs_undo X Y hN B w kT hj hc2 hs2 kk)
    | 12, _, hx => exact V.tableIn 386 X dL_law_32 (by rw [hx]; decide) (by rw [hx]; decide) (by rw [hx]; rfl) (by decide) (cs_openPairs X Y hN B w kT hj hc2 hs2 kk)
    | 13, _, hx => exact V.tableIn 399 X dL_law_32 (by rw [hx]; decide) (by rw [hx]; decide) (by rw [hx]; rfl) (by decide) (cs_skippedPairs X Y hN B w kT hj hc2 hs2 kk)
    | 14, _, hx => exact V.tableIn 412 X dL_law_32 (by rw [hx]; decide) (by rw [hx]; decide) (by rw [hx]; rfl) (by decide) (cs_redundantPairs X Y hN B w kT hj hc2 hs2 kk)
    | 15, _, hx => exact V.tableIn 425 X dL_law_32 (by rw [hx]; decide) (by rw [hx]; decide) (by rw [hx]; rfl) (by decide) (cs_droppedPairs X Y hN B w kT hj hc2 hs2 kk)
    | 16, _, hx => exact V.tableIn 438 X dL_law_32 (by rw [hx]; decide) (by rw [hx]; decide) (by rw [hx]; rfl) (by decide) (cs_poolSize X Y hN B w kT hj hc2 hs2 kk)
    | 17, _, hx => exact V.tableIn 451 X dL_law_32 (by rw [hx]; decide) (by rw [hx]; decide) (by rw [hx]; rfl) (by decide) (cs_sequenceLength X Y hN B w kT hj hc2 hs2 kk)
    | 18, _, hx => exact V.tableIn 474 X dL_law_32 (by rw [hx]; decide) (by rw [hx]; decide) (by rw [hx]; rfl) (by decide) (cs_sequenceCall X Y hN B w kT hj hc2 hs2 kk)
    | 19, _, hx => exact V.tableIn 507 X dL_law_32 (by rw [hx]; decide) (by rw [hx]; decide) (by rw [hx]; rfl) (by decide) (cs_finalValue X Y hN B w kT hj hc2 hs2 kk)
    | 20, _, hx => exact V.tableIn 540 X dL_law_32 (by rw [hx]; decide) (by rw [hx]; decide) (by rw [hx]; rfl) (by decide) (cs_enabledMethods X Y hN B w kT hj hc2 hs2 kk)
    | 21, _, hx => exact V.tableIn 563 X dL_law_32 (by rw [hx]; decide) (by rw [hx]; decide) (by rw [hx]; rfl) (by decide) (cs_findState X Y hN B w kT hj hc2 hs2 kk)
    | 22, _, hx => exact V.tableIn 606 X dL_law_32 (by rw [hx]; decide) (by rw [hx]; decide) (by rw [hx]; rfl) (by decide) (cs_failureCount X Y hN B w kT hj hc2 hs2 kk)
    | 23, _, hx => exact V.tableIn 619 X dL_law_32 (by rw [hx]; decide) (by rw [hx]; decide) (by rw [hx]; rfl) (by decide) (cs_failureLength X Y hN B w kT hj hc2 hs2 kk)
    | 24, _, hx => exact V.tableIn 642 X dL_law_32 (by rw [hx]; decide) (by rw [hx]; decide) (by rw [hx]; rfl) (by decide) (cs_failureCall X Y hN B w kT hj hc2 hs2 kk)
    | 25, _, hx => exact V.tableIn 675 X dL_law_32 (by rw [hx]; decide) (by rw [hx]; decide) (by rw [hx]; rfl) (by decide) (cs_failureVerdict X Y hN B w kT hj hc2 hs2 kk)
    | 26, _, hx => exact V.tableIn 698 X dL_law_32 (by rw [hx]; decide) (by rw [hx]; decide) (by rw [hx]; rfl) (by decide) (cs_minimizedLength X Y hN B w kT hj hc2 hs2 kk)
    | 27, _, hx => exact V.tableIn 721 X dL_law_32 (by rw [hx]; decide) (by rw [hx]; decide) (by rw [hx]; rfl) (by decide) (cs_minimizedCall X Y hN B w kT hj hc2 hs2 kk)
    | n + 28, hn, _ => omega
set_option maxRecDepth 4000 in
theorem lw_loop {Γ : Cx} (X : Bx Γ cL_law 4 RL wsL_law 14 542 702150 6995798) {b N : Nat} {xs : Nat → Int32} (Y : LX Γ b N xs) (hN : N ≤ 2048) {T M : Nat}
    (hend : ∀ (kc ks j : Nat) (h : Hp), kc ≤ 702150 → ks ≤ 6995798 → V Γ kc ks 760 [(0, .ref b), (1, .ref T), (2, .ref M), (3, .int (nI j))] [] h) : ∀ (n j kc ks : Nat) (h : Hp), BoS (cxG Γ) h T M → j ≤ N → N < j + 4 * n + 4 → kc + 300 * n ≤ 702150 → ks + 1500 * n ≤ 6995798 → V Γ kc ks 18 [(0, .ref b), (1, .ref T), (2, .ref M), (3, .int (nI j))] [] h := by
  intro n
  induction n with
  | zero =>
    intro j kc ks h B h1 h2 h3 h4
    refine V.iload_n X dL_law_18 rfl ?_
    refine V.aload_n X dL_law_19 rfl ?_
    refine V.slen X dL_law_20 Y ?_
    refine V.iconst (v := nI 4) X dL_law_21 rfl ?_
    refine V.isub X dL_law_22 ?_
    refine V.icmp_gt 760 X dL_law_23 (by decide) (fun _ => hend kc ks j h (by omega) (by omega)) (fun z => False.elim (z ((lp_cond hN (by omega)).mpr (by omega))))
  | succ n ih =>
    intro j kc ks h B h1 h2 h3 h4
    refine V.iload_n X dL_law_18 rfl ?_
    refine V.aload_n X dL_law_19 rfl ?_
    refine V.slen X dL_law_20 Y ?_
    refine V.iconst (v := nI 4) X dL_law_21 rfl ?_
    refine V.isub X dL_law_22 ?_
    refine V.icmp_gt 760 X dL_law_23 (by decide) (fun _ => hend kc ks j h (by omega) (by omega)) (fun z => ?_)
    have hj : j + 4 ≤ N := by
      rcases Nat.lt_or_ge N (j + 4) with q | q
      · exact absurd ((lp_cond hN (by omega)).mpr q) z
      · exact q
    have e3 : kc + 300 ≤ 702150 := by omega
    have e4 : ks + 1500 ≤ 6995798 := by omega
    refine V.wf (fun w => lw_round X Y hN B w hj e3 e4 (fun h2 B2 => ?_))
    refine V.iinc (v := nI (j + 4)) X dL_law_754 [(0, _), (1, _), (2, _), (3, _)] rfl (by rw [← nI_add]; rfl) rfl rfl rfl ?_
    refine V.goto 18 X dL_law_757 (by decide) ?_
    exact ih (j + 4) _ _ h2 B2 hj (by omega) (by omega) (by omega)
