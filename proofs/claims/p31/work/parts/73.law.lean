/-! THE LAW -/
set_option maxHeartbeats 4000000 in
set_option maxRecDepth 100000 in
theorem law_all {Γ : Cx} (X : Bx Γ cL_law 11 RL wsL_law 15 594 688304 7037336) {h : Hp} (hend : ∀ (kc ks : Nat) (L : List (Nat × Value)) (h : Hp), kc ≤ 688304 → ks ≤ 7037336 → V Γ kc ks 463 L [.int 1] h) : V Γ 0 0 0 [(0, .ref (gX (cxG Γ)).1)] [] h := by
  refine V.new (ci := 13) X dL_law_0 rfl (by decide +kernel) (by decide +kernel) (by decide +kernel) inlX11 tyX11 tyX11_ok rfl rfl ?_
  refine V.dup X dL_law_3 rfl ?_
  refine V.callIv (n := 0) X dL_law_4 gL_law_X11_init (c_X11_init _ _ (T := Hz h) (by rw [Hk_new, if_pos rfl]) rfl) rfl (by decide +kernel) (by decide +kernel) (by decide +kernel) rfl (by decide +kernel) rfl rfl rfl ⟨Nat.le_of_ble_eq_true rfl, Nat.le_of_ble_eq_true rfl⟩ (fun h4 hp4 => ?_)
  obtain ⟨C4, -, z4⟩ := hp4
  refine V.wf (fun w4 => ?_)
  refine V.astore_n X dL_law_7 [(0, _), (1, _)] rfl rfl rfl ?_
  refine V.bipush (v := nI 64) X dL_law_8 rfl ?_
  refine V.newI (N := 64) X dL_law_10 (by decide +kernel) rfl rfl rfl rfl ?_
  generalize Hz h = T at C4 z4 ⊢
  have hA : T + 1213 ≤ Hz h4 := by omega
  have a0 : AI (Hnew h4 (.inr (0, 64)) (fun _ => .int 0)) (Hz h4) (fun _ => 0) := ⟨by rw [Hk_new, if_pos rfl], fun k => by rw [Hv_new, if_pos rfl]⟩
  have q0 : TX (cxG Γ) (Hnew h4 (.inr (0, 64)) (fun _ => .int 0)) T [] (cmp0, x0, 0, 0, fun _ => (cmp0, x0)) := ⟨_, C4.grow w4 Fr.new⟩
  generalize Hnew h4 (.inr (0, 64)) (fun _ => .int 0) = h10 at a0 q0 ⊢
  generalize Hz h4 = A at a0 hA ⊢
  refine V.widen 1300 8000 (by decide) (by decide) ?_
  have s342 : ∀ (kc ks : Nat) (h1 : Hp) (z : Zt), kc ≤ 5000 → ks ≤ 200000 → TX (cxG Γ) h1 T [] z → Inv z.1 z.2.1 → V Γ kc ks 342 [(0, .ref (gX (cxG Γ)).1), (1, .ref T)] [] h1 := by
    intro kc ks h1 z g1 g2 q1 i1
    have h6 := i1.2.1.2
    refine V.aload_n X dL_law_342 rfl ?_
    refine V.callSl (n := 1) X dL_law_343 gL_law_L_tale (c_L_tale _ _ q1 i1) rfl (by decide +kernel) rfl rfl rfl ⟨by omega, by omega⟩ (fun r343 h343 hp343 => ?_)
    obtain ⟨rfl, q343⟩ := hp343
    refine V.lstore X dL_law_346 [(0, _), (1, _), (7, _)] rfl rfl rfl ?_
    refine V.aload_n X dL_law_348 rfl ?_
    refine V.callVi (n := 0) X dL_law_349 gL_law_X11_clearText (tx_clear _ _ q343) rfl (by decide +kernel) rfl rfl rfl q343.k rfl rfl ⟨by omega, by omega⟩ (fun r349 h349 hp349 => ?_)
    obtain ⟨rfl, q349⟩ := hp349
    refine V.pop X dL_law_352 rfl ?_
    refine V.aload_n X dL_law_353 rfl ?_
    refine V.ldc2 (v := 33897279717404516) X dL_law_354 (by decide +kernel) ?_
    refine V.callSv (n := 2) X dL_law_357 gL_law_L_word (c_L_word _ _ q349 wd_xm.1 (by rw [wd_xm.2]; decide)) rfl (by decide +kernel) rfl rfl rfl ⟨by omega, by omega⟩ (fun h357 hp357 => ?_)
    rw [wd_xm.2] at hp357
    obtain ⟨q357, -⟩ := hp357
    have q357 : TX (cxG Γ) h357 T [120, 109, 101, 116, 104, 111, 100] z := q357
    refine V.aload_n X dL_law_360 rfl ?_
    refine V.callVi (n := 0) X dL_law_361 gL_law_X11_loadComponent (tx_load0 _ _ q357) rfl (by decide +kernel) rfl rfl rfl q357.k rfl rfl ⟨by omega, by omega⟩ (fun r361 h361 hp361 => ?_)
    obtain ⟨rfl, q361⟩ := hp361
    refine V.bipush (v := -10) X dL_law_364 (by decide) ?_
    refine V.icmp_ne 397 X dL_law_366 (by decide) (fun c366 => absurd rfl c366) (fun c366 => ?_)
    refine V.aload_n X dL_law_369 rfl ?_
    refine V.callSl (n := 1) X dL_law_370 gL_law_L_tale (c_L_tale _ _ q361 i1) rfl (by decide +kernel) rfl rfl rfl ⟨by omega, by omega⟩ (fun r370 h370 hp370 => ?_)
    obtain ⟨rfl, q370⟩ := hp370
    refine V.lload X dL_law_373 rfl ?_
    refine V.lcmp X dL_law_375 ?_
    refine V.if_ne 397 X dL_law_376 (by decide) (fun c376 => absurd (lcmp_0 rfl) c376) (fun c376 => ?_)
    refine V.aload_n X dL_law_379 rfl ?_
    refine V.callVi (n := 0) X dL_law_380 gL_law_X11_runText (tx_run0 _ _ q370) rfl (by decide +kernel) rfl rfl rfl q370.k rfl rfl ⟨by omega, by omega⟩ (fun r380 h380 hp380 => ?_)
    obtain ⟨rfl, e9⟩ := hp380; obtain rfl := e9.symm
    refine V.bipush (v := -10) X dL_law_383 (by decide) ?_
    refine V.icmp_ne 397 X dL_law_385 (by decide) (fun c385 => absurd rfl c385) (fun c385 => ?_)
    refine V.aload_n X dL_law_388 rfl ?_
    refine V.callVi (n := 0) X dL_law_389 gL_law_X11_clearText (tx_clear _ _ q370) rfl (by decide +kernel) rfl rfl rfl q370.k rfl rfl ⟨by omega, by omega⟩ (fun r389 h389 hp389 => ?_)
    obtain ⟨rfl, q389⟩ := hp389
    refine V.bipush (v := nI 7) X dL_law_392 (by decide) ?_
    refine V.icmp_eq 399 X dL_law_394 (by decide) (fun c394 => ?_) (fun c394 => absurd rfl c394)
    refine V.aload_n X dL_law_399 rfl ?_
    refine V.iconst (v := nI 3) X dL_law_400 (by decide) ?_
    refine V.iconst (v := nI 0) X dL_law_401 (by decide) ?_
    refine V.callVi (n := 2) X dL_law_402 gL_law_X11_setInitialValue (tx_set0 _ _ q389 (Or.inl (by decide))) rfl (by decide +kernel) rfl rfl rfl q389.k rfl rfl ⟨by omega, by omega⟩ (fun r402 h402 hp402 => ?_)
    obtain ⟨rfl, e9⟩ := hp402; obtain rfl := e9.symm
    refine V.iconst (v := -1) X dL_law_405 (by decide) ?_
    refine V.icmp_ne 462 X dL_law_406 (by decide) (fun c406 => absurd rfl c406) (fun c406 => ?_)
    refine V.aload_n X dL_law_409 rfl ?_
    refine V.iconst (v := nI 0) X dL_law_410 (by decide) ?_
    refine V.bipush (v := nI 100) X dL_law_411 (by decide) ?_
    refine V.callVi (n := 2) X dL_law_413 gL_law_X11_setInitialValue (tx_set0 _ _ q389 (Or.inr (by decide))) rfl (by decide +kernel) rfl rfl rfl q389.k rfl rfl ⟨by omega, by omega⟩ (fun r413 h413 hp413 => ?_)
    obtain ⟨rfl, e9⟩ := hp413; obtain rfl := e9.symm
    refine V.iconst (v := -1) X dL_law_416 (by decide) ?_
    refine V.icmp_ne 462 X dL_law_417 (by decide) (fun c417 => absurd rfl c417) (fun c417 => ?_)
    refine V.aload_n X dL_law_420 rfl ?_
    refine V.bipush (v := nI 6) X dL_law_421 (by decide) ?_
    refine V.callVi (n := 1) X dL_law_423 gL_law_X11_removeMethod (tx_rem0 _ _ q389 (by rw [isIx_nI (by decide)]; simp; omega)) rfl (by decide +kernel) rfl rfl rfl q389.k rfl rfl ⟨by omega, by omega⟩ (fun r423 h423 hp423 => ?_)
    obtain ⟨rfl, e9⟩ := hp423; obtain rfl := e9.symm
    refine V.iconst (v := -1) X dL_law_426 (by decide) ?_
    refine V.icmp_ne 462 X dL_law_427 (by decide) (fun c427 => absurd rfl c427) (fun c427 => ?_)
    refine V.aload_n X dL_law_430 rfl ?_
    refine V.iconst (v := nI 0) X dL_law_431 (by decide) ?_
    refine V.callVi (n := 1) X dL_law_432 gL_law_X11_setMaximumLength (tx_max0 _ _ q389) rfl (by decide +kernel) rfl rfl rfl q389.k rfl rfl ⟨by omega, by omega⟩ (fun r432 h432 hp432 => ?_)
    obtain ⟨rfl, e9⟩ := hp432; obtain rfl := e9.symm
    refine V.iconst (v := -1) X dL_law_435 (by decide) ?_
    refine V.icmp_ne 462 X dL_law_436 (by decide) (fun c436 => absurd rfl c436) (fun c436 => ?_)
    refine V.aload_n X dL_law_439 rfl ?_
    refine V.iconst (v := -1) X dL_law_440 (by decide) ?_
    refine V.callVi (n := 1) X dL_law_441 gL_law_X11_complexity (tx_cplx _ _ q389 (isIx_neg (by decide))) rfl (by decide +kernel) rfl rfl rfl q389.k rfl rfl ⟨by omega, by omega⟩ (fun r441 h441 hp441 => ?_)
    obtain ⟨rfl, e9⟩ := hp441; obtain rfl := e9.symm
    refine V.iconst (v := -1) X dL_law_444 (by decide) ?_
    refine V.icmp_ne 462 X dL_law_445 (by decide) (fun c445 => absurd rfl c445) (fun c445 => ?_)
    refine V.aload_n X dL_law_448 rfl ?_
    refine V.callSl (n := 1) X dL_law_449 gL_law_L_tale (c_L_tale _ _ q389 i1) rfl (by decide +kernel) rfl rfl rfl ⟨by omega, by omega⟩ (fun r449 h449 hp449 => ?_)
    obtain ⟨rfl, q449⟩ := hp449
    refine V.lload X dL_law_452 rfl ?_
    refine V.lcmp X dL_law_454 ?_
    refine V.if_ne 462 X dL_law_455 (by decide) (fun c455 => absurd (lcmp_0 rfl) c455) (fun c455 => ?_)
    refine V.iconst (v := 1) X dL_law_458 (by decide) ?_
    refine V.goto 463 X dL_law_459 (by decide) ?_
    exact hend _ _ _ _ (by omega) (by omega)
  have s218 : ∀ (kc ks k e la : Nat) (v3 : Int32) (h1 : Hp) (c : Cmp) (r : Xr) (sx : Nat → Cmp × Xr), kc ≤ 4900 → ks ≤ 190000 → TX (cxG Γ) h1 T [] (c, r, la, k, sx) → Inv c r → V Γ kc ks 218 [(0, .ref (gX (cxG Γ)).1), (1, .ref T), (2, .ref A), (3, .int v3), (4, .int (nI k)), (5, .int (nI e))] [] h1 := by
    intro kc ks k e la v3 h1 c r sx g1 g2 q1 i1
    have h6 := i1.2.1.2
    have hl := q1.hl
    have hla : la < 6 := hl.1
    have hk6 : k ≤ 6 := hl.2
    have k1 : 1 ≤ nxK k ∧ nxK k ≤ 6 ∧ 2 ≤ nxK (nxK k) ∧ nxK (nxK k) ≤ 6 := by
      rw [nxK_val, nxK_val]
      repeat' split
      all_goals omega
    have hc := cop_le (c := c) (r := r) h6 40 0
    refine V.drop [(0, .ref (gX (cxG Γ)).1), (1, .ref T)] [0, 1] rfl ?_
    refine V.aload_n X dL_law_218 rfl ?_
    refine V.callSl (n := 1) X dL_law_219 gL_law_L_tale (c_L_tale _ _ q1 i1) rfl (by decide +kernel) rfl rfl rfl ⟨by omega, by omega⟩ (fun r219 h219 hp219 => ?_)
    obtain ⟨rfl, q219⟩ := hp219
    refine V.lstore X dL_law_222 [(0, _), (1, _), (5, _)] rfl rfl rfl ?_
    refine V.aload_n X dL_law_224 rfl ?_
    refine V.callVi (n := 0) X dL_law_225 gL_law_X11_openPairs (tx_open _ _ q219 i1) rfl (by decide +kernel) rfl rfl rfl q219.k rfl rfl ⟨by omega, by omega⟩ (fun r225 h225 hp225 => ?_)
    obtain ⟨rfl, e9⟩ := hp225; obtain rfl := e9.symm
    refine V.if_le 320 X dL_law_228 (by decide) (fun c228 => ?_) (fun c228 => ?_)
    · have h0 : cop c r 40 0 = 0 := by
        rcases Nat.eq_zero_or_pos (cop c r 40 0) with z | z
        · exact z
        · exact absurd c228 (nI_nle (n := cop c r 40 0) z (by omega))
      have hf : fos c r 40 0 = none := cop_0 40 0 h0
      refine V.aload_n X dL_law_320 rfl ?_
      refine V.iconst (v := nI 1) X dL_law_321 (by decide) ?_
      refine V.callVi (n := 1) X dL_law_322 gL_law_X11_explore (tx_exp0 _ _ q219 i1 hf (n := 1) (by decide) (by decide)) rfl (by decide +kernel) rfl rfl rfl q219.k rfl rfl ⟨by omega, by omega⟩ (fun r322 h322 hp322 => ?_)
      obtain ⟨rfl, e9⟩ := hp322; obtain rfl := e9.symm
      refine V.bipush (v := -2) X dL_law_325 (by decide) ?_
      refine V.icmp_ne 340 X dL_law_327 (by decide) (fun c327 => absurd rfl c327) (fun c327 => ?_)
      refine V.aload_n X dL_law_330 rfl ?_
      refine V.callSl (n := 1) X dL_law_331 gL_law_L_tale (c_L_tale _ _ q219 i1) rfl (by decide +kernel) rfl rfl rfl ⟨by omega, by omega⟩ (fun r331 h331 hp331 => ?_)
      obtain ⟨rfl, q331⟩ := hp331
      refine V.lload X dL_law_334 rfl ?_
      refine V.lcmp X dL_law_336 ?_
      refine V.if_eq 342 X dL_law_337 (by decide) (fun c337 => ?_) (fun c337 => absurd (lcmp_0 rfl) c337)
      refine V.drop [(0, .ref (gX (cxG Γ)).1), (1, .ref T)] [0, 1] rfl ?_
      exact s342 _ _ _ _ (by omega) (by omega) q331 i1
    · have hf : ¬ fos c r 40 0 = none := fun z => c228 (by rw [fos_0 40 0 z]; decide)
      have i3 := Inv.st_s 3 0 r i1
      have hc3 := cop_le (c := c) (r := (stps c 3 0 r).2) h6 40 0
      refine V.aload_n X dL_law_231 rfl ?_
      refine V.iconst (v := nI 3) X dL_law_232 (by decide) ?_
      refine V.callVi (n := 1) X dL_law_233 gL_law_X11_explore (tx_exp _ _ q219 i1 hf (n := 3) (by decide) (by decide)) rfl (by decide +kernel) rfl rfl rfl q219.k rfl rfl ⟨by omega, by omega⟩ (fun r233 h233 hp233 => ?_)
      obtain ⟨rfl, q233⟩ := hp233
      refine V.istore X dL_law_236 [(0, _), (1, _), (5, _), (7, _)] rfl rfl rfl ?_
      refine V.aload_n X dL_law_238 rfl ?_
      refine V.callVi (n := 0) X dL_law_239 gL_law_X11_openPairs (tx_open _ _ q233 i3) rfl (by decide +kernel) rfl rfl rfl q233.k rfl rfl ⟨by omega, by omega⟩ (fun r239 h239 hp239 => ?_)
      obtain ⟨rfl, e9⟩ := hp239; obtain rfl := e9.symm
      refine V.if_le 253 X dL_law_242 (by decide) (fun c242 => ?_) (fun c242 => ?_)
      · have h0 : cop c (stps c 3 0 r).2 40 0 = 0 := by
          rcases Nat.eq_zero_or_pos (cop c (stps c 3 0 r).2 40 0) with z | z
          · exact z
          · exact absurd c242 (nI_nle (n := cop c (stps c 3 0 r).2 40 0) z (by omega))
        have hf3 : fos c (stps c 3 0 r).2 40 0 = none := cop_0 40 0 h0
        have e7 : stps c 7 0 r = stps c 3 0 r := by
          rw [show (7 : Nat) = 3 + 4 from rfl, stps_add, stps_n hf3]
        refine V.iconst (v := nI 0) X dL_law_253 (by decide) ?_
        refine V.istore X dL_law_254 [(0, _), (1, _), (5, _), (7, _), (8, _)] rfl rfl rfl ?_
        refine V.aload_n X dL_law_256 rfl ?_
        refine V.callSl (n := 1) X dL_law_257 gL_law_L_tale (c_L_tale _ _ q233 i3) rfl (by decide +kernel) rfl rfl rfl ⟨by omega, by omega⟩ (fun r257 h257 hp257 => ?_)
        obtain ⟨rfl, q257⟩ := hp257
        refine V.lstore X dL_law_260 [(0, _), (1, _), (5, _), (7, _), (8, _), (9, _)] rfl rfl rfl ?_
        refine V.iload X dL_law_262 rfl ?_
        refine V.if_le 274 X dL_law_264 (by decide) (fun c264 => ?_) (fun c264 => absurd (by decide) c264)
        refine V.aload_n X dL_law_274 rfl ?_
        refine V.callVi (n := 0) X dL_law_275 gL_law_X11_undo (tx_undo _ _ q257 (x := (c, r)) (by omega) fup_at) rfl (by decide +kernel) rfl rfl rfl q257.k rfl rfl ⟨by omega, by omega⟩ (fun r275 h275 hp275 => ?_)
        obtain ⟨rfl, q275, -⟩ := hp275
        refine V.if_lt 315 X dL_law_278 (by decide) (fun c278 => absurd c278 (nI_pos (by omega))) (fun c278 => ?_)
        refine V.aload_n X dL_law_281 rfl ?_
        refine V.callSl (n := 1) X dL_law_282 gL_law_L_tale (c_L_tale _ _ q275 i1) rfl (by decide +kernel) rfl rfl rfl ⟨by omega, by omega⟩ (fun r282 h282 hp282 => ?_)
        obtain ⟨rfl, q282⟩ := hp282
        refine V.lload X dL_law_285 rfl ?_
        refine V.lcmp X dL_law_287 ?_
        refine V.if_ne 315 X dL_law_288 (by decide) (fun c288 => absurd (lcmp_0 rfl) c288) (fun c288 => ?_)
        refine V.aload_n X dL_law_291 rfl ?_
        refine V.bipush (v := nI 7) X dL_law_292 (by decide) ?_
        refine V.callVi (n := 1) X dL_law_294 gL_law_X11_explore (tx_exp _ _ q282 i1 hf (n := 7) (by decide) (by decide)) rfl (by decide +kernel) rfl rfl rfl q282.k rfl rfl ⟨by omega, by omega⟩ (fun r294 h294 hp294 => ?_)
        obtain ⟨rfl, q294⟩ := hp294
        refine V.iload X dL_law_297 rfl ?_
        refine V.iload X dL_law_299 rfl ?_
        refine V.iadd X dL_law_301 ?_
        rw [nI_add]
        refine V.icmp_ne 315 X dL_law_302 (by decide) (fun c302 => absurd (by rw [e7]; rfl) c302) (fun c302 => ?_)
        refine V.aload_n X dL_law_305 rfl ?_
        refine V.callSl (n := 1) X dL_law_306 gL_law_L_tale (c_L_tale _ _ q294 (Inv.st_s 7 0 r i1)) rfl (by decide +kernel) rfl rfl rfl ⟨by omega, by omega⟩ (fun r306 h306 hp306 => ?_)
        obtain ⟨rfl, q306⟩ := hp306
        refine V.lload X dL_law_309 rfl ?_
        refine V.lcmp X dL_law_311 ?_
        refine V.if_eq 317 X dL_law_312 (by decide) (fun c312 => ?_) (fun c312 => absurd (lcmp_0 (congrArg (fun x : Nat × Xr => taleF c x.2) e7)) c312)
        refine V.goto 342 X dL_law_317 (by decide) ?_
        refine V.drop [(0, .ref (gX (cxG Γ)).1), (1, .ref T)] [0, 1] rfl ?_
        exact s342 _ _ _ _ (by omega) (by omega) q306 (Inv.st_s 7 0 r i1)
      · have hf3 : ¬ fos c (stps c 3 0 r).2 40 0 = none := fun z => c242 (by rw [fos_0 40 0 z]; decide)
        have e7 : stps c 7 0 r = ((stps c 3 0 r).1 + (stps c 4 0 (stps c 3 0 r).2).1, (stps c 4 0 (stps c 3 0 r).2).2) := by
          rw [show (7 : Nat) = 3 + 4 from rfl, stps_add]
          exact stps_off 4 0 _
        have m4 := stps_pos (n := 3) hf3
        have m5 := stps_le (c := c) 4 0 (stps c 3 0 r).2
        have i4 := Inv.st_s 4 0 (stps c 3 0 r).2 i3
        refine V.aload_n X dL_law_245 rfl ?_
        refine V.iconst (v := nI 4) X dL_law_246 (by decide) ?_
        refine V.callVi (n := 1) X dL_law_247 gL_law_X11_explore (tx_exp _ _ q233 i3 hf3 (n := 4) (by decide) (by decide)) rfl (by decide +kernel) rfl rfl rfl q233.k rfl rfl ⟨by omega, by omega⟩ (fun r247 h247 hp247 => ?_)
        obtain ⟨rfl, q247⟩ := hp247
        refine V.goto 254 X dL_law_250 (by decide) ?_
        refine V.istore X dL_law_254 [(0, _), (1, _), (5, _), (7, _), (8, _)] rfl rfl rfl ?_
        refine V.aload_n X dL_law_256 rfl ?_
        refine V.callSl (n := 1) X dL_law_257 gL_law_L_tale (c_L_tale _ _ q247 i4) rfl (by decide +kernel) rfl rfl rfl ⟨by omega, by omega⟩ (fun r257 h257 hp257 => ?_)
        obtain ⟨rfl, q257⟩ := hp257
        refine V.lstore X dL_law_260 [(0, _), (1, _), (5, _), (7, _), (8, _), (9, _)] rfl rfl rfl ?_
        refine V.iload X dL_law_262 rfl ?_
        refine V.if_le 274 X dL_law_264 (by decide) (fun c264 => absurd c264 (nI_nle m4 (by omega))) (fun c264 => ?_)
        refine V.aload_n X dL_law_267 rfl ?_
        refine V.callVi (n := 0) X dL_law_268 gL_law_X11_undo (tx_undo _ _ q257 (x := (c, (stps c 3 0 r).2)) (by omega) fup_at) rfl (by decide +kernel) rfl rfl rfl q257.k rfl rfl ⟨by omega, by omega⟩ (fun r268 h268 hp268 => ?_)
        obtain ⟨rfl, q268, -⟩ := hp268
        refine V.if_lt 315 X dL_law_271 (by decide) (fun c271 => absurd c271 (nI_pos (by omega))) (fun c271 => ?_)
        refine V.aload_n X dL_law_274 rfl ?_
        refine V.callVi (n := 0) X dL_law_275 gL_law_X11_undo (tx_undo _ _ q268 (x := (c, r)) (by omega) (by rw [pvL_nxL (nxL_lt la), fup_ne (nxL_ne (nxL_lt la)), fup_at])) rfl (by decide +kernel) rfl rfl rfl q268.k rfl rfl ⟨by omega, by omega⟩ (fun r275 h275 hp275 => ?_)
        obtain ⟨rfl, q275, -⟩ := hp275
        refine V.if_lt 315 X dL_law_278 (by decide) (fun c278 => absurd c278 (nI_pos (by omega))) (fun c278 => ?_)
        refine V.aload_n X dL_law_281 rfl ?_
        refine V.callSl (n := 1) X dL_law_282 gL_law_L_tale (c_L_tale _ _ q275 i1) rfl (by decide +kernel) rfl rfl rfl ⟨by omega, by omega⟩ (fun r282 h282 hp282 => ?_)
        obtain ⟨rfl, q282⟩ := hp282
        refine V.lload X dL_law_285 rfl ?_
        refine V.lcmp X dL_law_287 ?_
        refine V.if_ne 315 X dL_law_288 (by decide) (fun c288 => absurd (lcmp_0 rfl) c288) (fun c288 => ?_)
        refine V.aload_n X dL_law_291 rfl ?_
        refine V.bipush (v := nI 7) X dL_law_292 (by decide) ?_
        refine V.callVi (n := 1) X dL_law_294 gL_law_X11_explore (tx_exp _ _ q282 i1 hf (n := 7) (by decide) (by decide)) rfl (by decide +kernel) rfl rfl rfl q282.k rfl rfl ⟨by omega, by omega⟩ (fun r294 h294 hp294 => ?_)
        obtain ⟨rfl, q294⟩ := hp294
        refine V.iload X dL_law_297 rfl ?_
        refine V.iload X dL_law_299 rfl ?_
        refine V.iadd X dL_law_301 ?_
        rw [nI_add]
        refine V.icmp_ne 315 X dL_law_302 (by decide) (fun c302 => absurd (by rw [e7]) c302) (fun c302 => ?_)
        refine V.aload_n X dL_law_305 rfl ?_
        refine V.callSl (n := 1) X dL_law_306 gL_law_L_tale (c_L_tale _ _ q294 (Inv.st_s 7 0 r i1)) rfl (by decide +kernel) rfl rfl rfl ⟨by omega, by omega⟩ (fun r306 h306 hp306 => ?_)
        obtain ⟨rfl, q306⟩ := hp306
        refine V.lload X dL_law_309 rfl ?_
        refine V.lcmp X dL_law_311 ?_
        refine V.if_eq 317 X dL_law_312 (by decide) (fun c312 => ?_) (fun c312 => absurd (lcmp_0 (congrArg (fun x : Nat × Xr => taleF c x.2) e7)) c312)
        refine V.goto 342 X dL_law_317 (by decide) ?_
        refine V.drop [(0, .ref (gX (cxG Γ)).1), (1, .ref T)] [0, 1] rfl ?_
        exact s342 _ _ _ _ (by omega) (by omega) q306 (Inv.st_s 7 0 r i1)
  have lp : ∀ (v3 : Int32) (n e kc ks k la : Nat) (h1 : Hp) (c : Cmp) (r : Xr) (sx : Nat → Cmp × Xr), e + n = 40 → kc + 24 * n ≤ 4900 → ks + 212 * n ≤ 190000 → TX (cxG Γ) h1 T [] (c, r, la, k, sx) → Inv c r → V Γ kc ks 90 [(0, .ref (gX (cxG Γ)).1), (1, .ref T), (2, .ref A), (3, .int v3), (4, .int (nI k)), (5, .int (nI e))] [] h1 := by
    intro v3 n
    induction n with
    | zero =>
      intro e kc ks k la h1 c r sx g0 g1 g2 q1 i1
      refine V.iload X dL_law_90 rfl ?_
      refine V.bipush (v := nI 40) X dL_law_92 (by decide) ?_
      refine V.icmp_ge 218 X dL_law_94 (by decide) (fun c94 => ?_) (fun c94 => absurd (nI_le (show 40 ≤ e by omega) (by omega)) c94)
      exact s218 _ _ _ _ _ _ _ _ _ _ (by omega) (by omega) q1 i1
    | succ n ih =>
      intro e kc ks k la h1 c r sx g0 g1 g2 q1 i1
      have hl := q1.hl
      have hk6 : k ≤ 6 := hl.2
      have k1 : 1 ≤ nxK k ∧ nxK k ≤ 6 := by
        rw [nxK_val]
        repeat' split
        all_goals omega
      refine V.iload X dL_law_90 rfl ?_
      refine V.bipush (v := nI 40) X dL_law_92 (by decide) ?_
      refine V.icmp_ge 218 X dL_law_94 (by decide) (fun c94 => absurd c94 (nI_nle9 (show e < 40 by omega) (by omega))) (fun c94 => ?_)
      refine V.aload_n X dL_law_97 rfl ?_
      refine V.iload X dL_law_98 rfl ?_
      refine V.callSi (n := 2) X dL_law_100 gL_law_L_cell (c_L_cell _ _ (by omega)) rfl (by decide +kernel) rfl rfl rfl ⟨by omega, by omega⟩ (fun r100 h100 hp100 => ?_)
      obtain rfl := hp100.symm
      refine V.istore X dL_law_103 [(0, _), (1, _), (2, _), (3, _), (4, _), (5, _), (6, _)] rfl rfl rfl ?_
      refine V.aload_n X dL_law_105 rfl ?_
      refine V.callSl (n := 1) X dL_law_106 gL_law_L_tale (c_L_tale _ _ q1 i1) rfl (by decide +kernel) rfl rfl rfl ⟨by omega, by omega⟩ (fun r106 h106 hp106 => ?_)
      obtain ⟨rfl, q106⟩ := hp106
      refine V.lstore X dL_law_109 [(0, _), (1, _), (2, _), (3, _), (4, _), (5, _), (6, _), (7, _)] rfl rfl rfl ?_
      refine V.aload_n X dL_law_111 rfl ?_
      refine V.iload X dL_law_112 rfl ?_
      refine V.callSi (n := 2) X dL_law_114 gL_law_L_does (c_L_does _ _ q106 i1) rfl (by decide +kernel) rfl rfl rfl ⟨by omega, by omega⟩ (fun r114 h114 hp114 => ?_)
      rcases hp114 with ⟨hn, e9⟩ | ⟨hg, c2, r2, i2, q2⟩
      · obtain rfl := e9.symm
        have hn2 := neg_nge hn
        refine V.istore X dL_law_117 [(0, _), (1, _), (2, _), (3, _), (4, _), (5, _), (6, _), (7, _), (9, _)] rfl rfl rfl ?_
        refine V.iload X dL_law_119 rfl ?_
        refine V.if_ge 134 X dL_law_121 (by decide) (fun c121 => absurd c121 hn2) (fun c121 => ?_)
        refine V.aload_n X dL_law_124 rfl ?_
        refine V.callSl (n := 1) X dL_law_125 gL_law_L_tale (c_L_tale _ _ q106 i1) rfl (by decide +kernel) rfl rfl rfl ⟨by omega, by omega⟩ (fun r125 h125 hp125 => ?_)
        obtain ⟨rfl, q125⟩ := hp125
        refine V.lload X dL_law_128 rfl ?_
        refine V.lcmp X dL_law_130 ?_
        refine V.if_ne 141 X dL_law_131 (by decide) (fun c131 => absurd (lcmp_0 rfl) c131) (fun c131 => ?_)
        refine V.aload_n X dL_law_134 rfl ?_
        refine V.callSi (n := 1) X dL_law_135 gL_law_L_isCounted (c_L_isCounted _ _ q125 i1) rfl (by decide +kernel) rfl rfl rfl ⟨by omega, by omega⟩ (fun r135 h135 hp135 => ?_)
        obtain ⟨rfl, e9⟩ := hp135; obtain rfl := e9.symm
        refine V.if_ne 143 X dL_law_138 (by decide) (fun c138 => ?_) (fun c138 => absurd c138 (by decide))
        refine V.iload X dL_law_143 rfl ?_
        refine V.if_ge 153 X dL_law_145 (by decide) (fun c145 => absurd c145 hn2) (fun c145 => ?_)
        refine V.iload X dL_law_148 rfl ?_
        refine V.goto 169 X dL_law_150 (by decide) ?_
        refine V.istore X dL_law_169 [(0, _), (1, _), (2, _), (3, _), (4, _), (5, _), (6, _), (7, _), (9, _)] rfl rfl rfl ?_
        refine V.iload X dL_law_171 rfl ?_
        refine V.if_lt 212 X dL_law_173 (by decide) (fun c173 => ?_) (fun c173 => absurd hn c173)
        refine V.iinc (v := nI (e + 1)) X dL_law_212 [(0, _), (1, _), (2, _), (3, _), (4, _), (5, _), (6, _), (7, _), (9, _)] rfl (nI_1 e) rfl rfl rfl ?_
        refine V.goto 90 X dL_law_215 (by decide) ?_
        refine V.drop [(0, .ref (gX (cxG Γ)).1), (1, .ref T), (2, .ref A), (3, .int v3), (4, .int (nI (k))), (5, .int (nI (e + 1)))] [0, 1, 2, 3, 4, 5] rfl ?_
        exact ih (e + 1) _ _ _ _ _ _ _ _ (by omega) (by omega) (by omega) q125 i1
      have hg2 := pos_nlt hg
      refine V.istore X dL_law_117 [(0, _), (1, _), (2, _), (3, _), (4, _), (5, _), (6, _), (7, _), (9, _)] rfl rfl rfl ?_
      refine V.iload X dL_law_119 rfl ?_
      refine V.if_ge 134 X dL_law_121 (by decide) (fun c121 => ?_) (fun c121 => absurd hg c121)
      refine V.aload_n X dL_law_134 rfl ?_
      refine V.callSi (n := 1) X dL_law_135 gL_law_L_isCounted (c_L_isCounted _ _ q2 i2) rfl (by decide +kernel) rfl rfl rfl ⟨by omega, by omega⟩ (fun r135 h135 hp135 => ?_)
      obtain ⟨rfl, e9⟩ := hp135; obtain rfl := e9.symm
      refine V.if_ne 143 X dL_law_138 (by decide) (fun c138 => ?_) (fun c138 => absurd c138 (by decide))
      refine V.iload X dL_law_143 rfl ?_
      have s169 : ∀ kc ks : Nat, kc + 24 * n ≤ 4900 → ks + 212 * n ≤ 190000 → V Γ kc ks 169 [(0, .ref (gX (cxG Γ)).1), (1, .ref T), (2, .ref A), (3, .int v3), (4, .int (nI k)), (5, .int (nI e)), (6, .int r100), (7, .long (taleF c r)), (9, .int r114)] [.int (nI (nxK k))] h114 := by
        intro kc ks g1 g2
        refine V.istore X dL_law_169 [(0, _), (1, _), (2, _), (3, _), (4, _), (5, _), (6, _), (7, _), (9, _)] rfl rfl rfl ?_
        refine V.iload X dL_law_171 rfl ?_
        refine V.if_lt 212 X dL_law_173 (by decide) (fun c173 => absurd c173 hg2) (fun c173 => ?_)
        refine V.iload X dL_law_176 rfl ?_
        refine V.bipush (v := nI 20) X dL_law_178 (by decide) ?_
        refine V.ishr X dL_law_180 ?_
        refine V.iconst (v := nI 3) X dL_law_181 (by decide) ?_
        refine V.iand X dL_law_182 ?_
        refine V.if_ne 212 X dL_law_183 (by decide) (fun c183 => ?_) (fun c183 => ?_)
        · refine V.iinc (v := nI (e + 1)) X dL_law_212 [(0, _), (1, _), (2, _), (3, _), (4, _), (5, _), (6, _), (7, _), (9, _)] rfl (nI_1 e) rfl rfl rfl ?_
          refine V.goto 90 X dL_law_215 (by decide) ?_
          refine V.drop [(0, .ref (gX (cxG Γ)).1), (1, .ref T), (2, .ref A), (3, .int v3), (4, .int (nI (nxK k))), (5, .int (nI (e + 1)))] [0, 1, 2, 3, 4, 5] rfl ?_
          exact ih (e + 1) _ _ _ _ _ _ _ _ (by omega) (by omega) (by omega) q2 i2
        · refine V.aload_n X dL_law_186 rfl ?_
          refine V.callVi (n := 0) X dL_law_187 gL_law_X11_undo (tx_undo _ _ q2 (x := (c, r)) (show 0 < nxK k by omega) fup_at) rfl (by decide +kernel) rfl rfl rfl q2.k rfl rfl ⟨by omega, by omega⟩ (fun r187 h187 hp187 => ?_)
          obtain ⟨rfl, q187, -⟩ := hp187
          refine V.iload X dL_law_190 rfl ?_
          refine V.iconst (v := nI 1) X dL_law_192 (by decide) ?_
          refine V.isub X dL_law_193 ?_
          rw [nI_sub9 k1.1]
          refine V.icmp_ne 207 X dL_law_194 (by decide) (fun c194 => absurd rfl c194) (fun c194 => ?_)
          refine V.aload_n X dL_law_197 rfl ?_
          refine V.callSl (n := 1) X dL_law_198 gL_law_L_tale (c_L_tale _ _ q187 i1) rfl (by decide +kernel) rfl rfl rfl ⟨by omega, by omega⟩ (fun r198 h198 hp198 => ?_)
          obtain ⟨rfl, q198⟩ := hp198
          refine V.lload X dL_law_201 rfl ?_
          refine V.lcmp X dL_law_203 ?_
          refine V.if_eq 209 X dL_law_204 (by decide) (fun c204 => ?_) (fun c204 => absurd (lcmp_0 rfl) c204)
          refine V.iinc (v := nI (nxK k - 1)) X dL_law_209 [(0, _), (1, _), (2, _), (3, _), (4, _), (5, _), (6, _), (7, _), (9, _)] rfl (dec_nI k1.1) rfl rfl rfl ?_
          refine V.iinc (v := nI (e + 1)) X dL_law_212 [(0, _), (1, _), (2, _), (3, _), (4, _), (5, _), (6, _), (7, _), (9, _)] rfl (nI_1 e) rfl rfl rfl ?_
          refine V.goto 90 X dL_law_215 (by decide) ?_
          refine V.drop [(0, .ref (gX (cxG Γ)).1), (1, .ref T), (2, .ref A), (3, .int v3), (4, .int (nI (nxK k - 1))), (5, .int (nI (e + 1)))] [0, 1, 2, 3, 4, 5] rfl ?_
          exact ih (e + 1) _ _ _ _ _ _ _ _ (by omega) (by omega) (by omega) q198 i1
      refine V.if_ge 153 X dL_law_145 (by decide) (fun c145 => ?_) (fun c145 => absurd hg c145)
      refine V.iload X dL_law_153 rfl ?_
      refine V.bipush (v := nI 6) X dL_law_155 (by decide) ?_
      refine V.icmp_ge 167 X dL_law_157 (by decide) (fun c157 => ?_) (fun c157 => ?_)
      · have ek : nxK k = 6 := by
          have : ¬ k < 6 := fun z => nI_nle9 z (by omega) c157
          rw [nxK_val]
          split <;> omega
        refine V.bipush (v := nI 6) X dL_law_167 (by decide) ?_
        rw [ek] at s169
        exact s169 _ _ (by omega) (by omega)
      · have ek : nxK k = k + 1 := by
          have : k < 6 := by
            rcases Nat.lt_or_ge k 6 with z | z
            · exact z
            · exact absurd (nI_le z (by omega)) c157
          rw [nxK_val, if_pos this]
        refine V.iload X dL_law_160 rfl ?_
        refine V.iconst (v := nI 1) X dL_law_162 (by decide) ?_
        refine V.iadd X dL_law_163 ?_
        refine V.goto 169 X dL_law_164 (by decide) ?_
        rw [nI_add, ← ek]
        exact s169 _ _ (by omega) (by omega)
  refine V.astore_n X dL_law_12 [(0, _), (1, _), (2, _)] rfl rfl rfl ?_
  refine V.aload_n X dL_law_13 rfl ?_
  refine V.callVi (n := 0) X dL_law_14 gL_law_X11_undo (tx_undo0 _ _ q0) rfl (by decide +kernel) rfl rfl rfl q0.k rfl rfl ⟨by omega, by omega⟩ (fun r14 h14 hp14 => ?_)
  obtain ⟨rfl, e9⟩ := hp14; obtain rfl := e9.symm
  refine V.bipush (v := -2) X dL_law_17 (by decide) ?_
  refine V.icmp_ne 55 X dL_law_19 (by decide) (fun c19 => absurd rfl c19) (fun c19 => ?_)
  refine V.aload_n X dL_law_22 rfl ?_
  refine V.callVi (n := 0) X dL_law_23 gL_law_X11_reset (tx_reset0 _ _ q0 Inv.new (hpp_no (fun i _ => rfl) 40 0)) rfl (by decide +kernel) rfl rfl rfl q0.k rfl rfl ⟨by omega, by omega⟩ (fun r23 h23 hp23 => ?_)
  obtain ⟨rfl, e9⟩ := hp23; obtain rfl := e9.symm
  refine V.bipush (v := -2) X dL_law_26 (by decide) ?_
  refine V.icmp_ne 55 X dL_law_28 (by decide) (fun c28 => absurd rfl c28) (fun c28 => ?_)
  refine V.aload_n X dL_law_31 rfl ?_
  refine V.callVi (n := 0) X dL_law_32 gL_law_X11_poolSize (tx_pool _ _ q0) rfl (by decide +kernel) rfl rfl rfl q0.k rfl rfl ⟨by omega, by omega⟩ (fun r32 h32 hp32 => ?_)
  obtain ⟨rfl, e9⟩ := hp32; obtain rfl := e9.symm
  refine V.iconst (v := nI 1) X dL_law_35 (by decide) ?_
  refine V.icmp_ne 55 X dL_law_36 (by decide) (fun c36 => absurd rfl c36) (fun c36 => ?_)
  refine V.aload_n X dL_law_39 rfl ?_
  refine V.iconst (v := nI 5) X dL_law_40 (by decide) ?_
  refine V.callVi (n := 1) X dL_law_41 gL_law_X11_setMaximumLength (tx_max _ _ q0 (n := 5) (by decide) (by decide)) rfl (by decide +kernel) rfl rfl rfl q0.k rfl rfl ⟨by omega, by omega⟩ (fun r41 h41 hp41 => ?_)
  obtain ⟨rfl, q41, p41⟩ := hp41
  refine V.iconst (v := nI 5) X dL_law_44 (by decide) ?_
  refine V.icmp_ne 55 X dL_law_45 (by decide) (fun c45 => absurd rfl c45) (fun c45 => ?_)
  refine V.aload_n X dL_law_48 rfl ?_
  refine V.callVi (n := 0) X dL_law_49 gL_law_X11_undo (tx_undo _ _ q41 (x := (cmp0, x0)) (by decide) fup_at) rfl (by decide +kernel) rfl rfl rfl q41.k rfl rfl ⟨by omega, by omega⟩ (fun r49 h49 hp49 => ?_)
  obtain ⟨rfl, q49, p49⟩ := hp49
  have a49 := (a0.kp p41 hA).kp p49 hA
  refine V.if_eq 57 X dL_law_52 (by decide) (fun c52 => ?_) (fun c52 => absurd (by decide) c52)
  refine V.aload_n X dL_law_57 rfl ?_
  refine V.aload_n X dL_law_58 rfl ?_
  refine V.bipush (v := nI 46) X dL_law_59 (by decide) ?_
  refine V.aload_n X dL_law_61 rfl ?_
  refine V.callSi (n := 4) X dL_law_62 gL_law_L_typed (c_L_typed _ _ hA q49 a49) rfl (by decide +kernel) rfl rfl rfl ⟨by omega, by omega⟩ (fun r62 h62 hp62 => ?_)
  obtain ⟨jj, m, S, pg, hj, hm1, hm3, rfl, q62⟩ := hp62
  obtain ⟨c2, r2, hpr, hiv, hlen⟩ := pg.read (by omega)
  refine V.istore_n X dL_law_65 [(0, _), (1, _), (2, _), (3, _)] rfl rfl rfl ?_
  refine V.aload_n X dL_law_66 rfl ?_
  refine V.callVi (n := 0) X dL_law_67 gL_law_X11_loadComponent (tx_load _ _ q62 hpr) rfl (by decide +kernel) rfl rfl rfl q62.k rfl rfl ⟨by omega, by omega⟩ (fun r67 h67 hp67 => ?_)
  obtain ⟨rfl, q67⟩ := hp67
  have i67 : Inv c2 (rst c2 x0) := Inv.new.rst hiv (by omega)
  refine V.iload_n X dL_law_70 rfl ?_
  refine V.icmp_ne 82 X dL_law_71 (by decide) (fun c71 => absurd (by rw [hlen]) c71) (fun c71 => ?_)
  refine V.aload_n X dL_law_74 rfl ?_
  refine V.iload_n X dL_law_75 rfl ?_
  refine V.callSi (n := 2) X dL_law_76 gL_law_L_nothingYet (c_L_nothingYet _ _ q67 i67 hlen) rfl (by decide +kernel) rfl rfl rfl ⟨by omega, by omega⟩ (fun r76 h76 hp76 => ?_)
  obtain ⟨rfl, e9⟩ := hp76; obtain rfl := e9.symm
  refine V.if_ne 84 X dL_law_79 (by decide) (fun c79 => ?_) (fun c79 => absurd c79 (by decide))
  refine V.iconst (v := nI 1) X dL_law_84 (by decide) ?_
  refine V.istore X dL_law_85 [(0, _), (1, _), (2, _), (3, _), (4, _)] rfl rfl rfl ?_
  refine V.iconst (v := nI 0) X dL_law_87 (by decide) ?_
  refine V.istore X dL_law_88 [(0, _), (1, _), (2, _), (3, _), (4, _), (5, _)] rfl rfl rfl ?_
  have ek : nxK (nxK 0 - 1) = 1 := rfl
  rw [ek] at q67
  exact lp _ 40 0 _ _ 1 _ _ _ _ _ (Nat.zero_add _) (by omega) (by omega) q67 i67
