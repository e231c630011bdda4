theorem fX12_process_7 : FL wsX12_process RX12 7 14 0 (.array .int) true := ⟨_, rfl, by decide, Or.inl ⟨"ContractTesterModel", by decide +kernel, Or.inl rfl⟩, by decide +kernel, by decide +kernel, rfl⟩
set_option maxHeartbeats 4000000 in
set_option maxRecDepth 100000 in
theorem c_X12_process (l : Launch) (G : GG) {h : Hp} {M : Nat} {m : Md} (K : MdK h M) {c : Cmp} {r : Xr} (hC : CmR (m 1) c) (hX : XmR (m 1) r) (ok : xmOk c r) {i k : Nat} (ho : 0 < opn c r i) (hk : k = xpr r i) : Con l G yX12_process wsX12_process 7 158 0 0 [.ref M, .int (nI i), .int (nI k)] (Hm h M m) (pV (fun h2 => ∃ m2, h2 = Hm h M m2 ∧ MFr kpP m m2 ∧ XmR (m2 1) (stp c r i))) := by
  refine Con.of (cc := cX12_process) (nL := 5) (ret := none) (by decide) rfl rfl rfl rfl (fun Γ hG hl X Y9 => ?_)
  subst hG
  subst hl
  obtain ⟨⟨⟨x1, x2⟩, ⟨x3, x4⟩, x5, x6, x7⟩, ok2, x8, x9⟩ := id ok
  have ok21 := ok2.2.1
  obtain ⟨p1, p2, p3⟩ := opn_pos ho
  refine V.aload_n X dX12_process_0 rfl ?_
  refine V.mgr (k := 0) (a := 1) X K fX12_process_7 dX12_process_1 (by decide) ?_
  refine V.sipush (v := nI 938) X dX12_process_4 (by decide) ?_
  refine V.bipush (v := nI 6) X dX12_process_7 (by decide) ?_
  refine V.iload_n X dX12_process_9 rfl ?_
  refine V.imulN X dX12_process_10 ?_
  refine V.iaddN X dX12_process_11 ?_
  refine V.iload_n X dX12_process_12 rfl ?_
  refine V.iaddN X dX12_process_13 ?_
  refine V.iconst (v := nI 1) X dX12_process_14 (by decide) ?_
  refine V.mst X K 1 1178  dX12_process_15 rfl rfl (by omega) ?_
  have F1 : MFr kpP m (mput m 1 (938 + 6 * i + k) (nI 1)) := MFr.rf.put (Or.inl ⟨rfl, by omega⟩)
  have X1 : XmR ((mput m 1 (938 + 6 * i + k) (nI 1)) 1) (stpA c r i) := hX.st x4 x5 p1 (by omega) (fun k9 h1 h2 h3 => mput_k (by omega)) (by rw [← hk]; exact mput_at)
  have C1 := hC.kp ok2 F1
  generalize mput m 1 (938 + 6 * i + k) (nI 1) = m1 at F1 X1 C1 ⊢
  refine V.aload_n X dX12_process_16 rfl ?_
  refine V.iload_n X dX12_process_17 rfl ?_
  refine V.callVv (n := 1) X dX12_process_18 gX12_process_X12_execute (c_X12_execute _ _ K C1 ok2 (by omega) (X1.2.1 i p1) (x8 i p1).2.2 (x8 i p1).2.1) rfl (by decide +kernel) rfl rfl rfl K.1 rfl rfl ⟨Nat.le_of_ble_eq_true rfl, Nat.le_of_ble_eq_true rfl⟩ (fun h18 hp18 => ?_)
  obtain ⟨m2, rfl, G2, h5⟩ := hp18
  have F2 : MFr kpP m m2 := F1.tr (G2.mono (fun _ _ => scP_kp))
  have C2 := C1.kp ok2 (G2.mono (fun _ _ => scP_kp))
  have X2 := X1.sc x4 x5 G2
  obtain ⟨q, hq⟩ := get_some (show k < c.2.2.length by omega)
  refine V.aload_n X dX12_process_21 rfl ?_
  refine V.iload_n X dX12_process_22 rfl ?_
  refine V.callVi (n := 1) X dX12_process_23 gX12_process_X12_calls (c_X12_calls _ _ K C2 ok2 hq) rfl (by decide +kernel) rfl rfl rfl K.1 rfl rfl ⟨Nat.le_of_ble_eq_true rfl, Nat.le_of_ble_eq_true rfl⟩ (fun r23 h23 hp23 => ?_)
  obtain ⟨rfl, m3, rfl, G3, h6⟩ := hp23
  rw [h5] at h6 ⊢
  have F3 : MFr kpP m m3 := F2.tr (G3.mono (fun _ _ => scP_kp))
  have C3 := C2.kp ok2 (G3.mono (fun _ _ => scP_kp))
  have X3 := X2.sc x4 x5 G3
  have v4 : verd c k (xss r i) ≤ 4 := verd_le
  have okA := ok.stA ho
  have ea : stp c r i = if verd c k (xss r i) = 1 then ((xmx r, xpc r, xfl r, xsk r + 1, xrd r, xdr r), (stpA c r i).2) else if verd c k (xss r i) = 0 then addR (stpA c r i) (xsq r i) k (nxt c k (xss r i)) else addF (stpA c r i) (xsq r i) k (verd c k (xss r i)) := by rw [hk]; rfl
  generalize hv : verd c k (xss r i) = v at *
  refine V.istore_n X dX12_process_26 [(0, _), (1, _), (2, _), (3, _)] rfl rfl rfl ?_
  refine V.iload_n X dX12_process_27 rfl ?_
  refine V.iconst (v := nI 1) X dX12_process_28 (by decide) ?_
  refine V.icmp_ne 47 X dX12_process_29 (by decide) (fun c29 => ?_) (fun c29 => ?_)
  · rw [nI_eq (by omega) (by omega)] at c29
    rw [if_neg c29] at ea
    refine V.iload_n X dX12_process_47 rfl ?_
    refine V.iconst (v := nI 1) X dX12_process_48 (by decide) ?_
    refine V.icmp_le 133 X dX12_process_49 (by decide) (fun c49 => ?_) (fun c49 => ?_)
    · rw [nI_leI (by omega) (by omega)] at c49
      obtain rfl : v = 0 := by omega
      rw [if_pos rfl] at ea
      refine V.aload_n X dX12_process_133 rfl ?_
      refine V.iload_n X dX12_process_134 rfl ?_
      refine V.iload_n X dX12_process_135 rfl ?_
      refine V.callVv (n := 2) X dX12_process_136 gX12_process_X12_keeps (c_X12_keeps _ _ K C3 X3 okA p1 (show (xsq r i).length < 8 by omega) (h6 rfl)) rfl (by decide +kernel) rfl rfl rfl K.1 rfl rfl ⟨Nat.le_of_ble_eq_true rfl, Nat.le_of_ble_eq_true rfl⟩ (fun h136 hp136 => ?_)
      obtain ⟨m4, rfl, G4, X4⟩ := hp136
      exact V.vret X Y9 dX12_process_139 (by first
        | exact ⟨rfl, m4, rfl, F3.tr G4, by rw [ea]; exact X4⟩
        | exact ⟨rfl, _, rfl, F3.put (k := 273) (Or.inl ⟨rfl, by omega⟩), by rw [ea]; exact X3.num (r := stpA c r i) x4 x5 rfl rfl (fun k9 h1 h2 => mput_k (by omega)) ((mput_k (by omega)).trans X3.1.1) mput_at ((mput_k (by omega)).trans X3.1.2.2.1) ((mput_k (by omega)).trans X3.1.2.2.2.1)⟩
        | exact ⟨rfl, _, rfl, F3.put (k := 275) (Or.inl ⟨rfl, by omega⟩), by rw [ea]; exact X3.num (r := stpA c r i) x4 x5 rfl rfl (fun k9 h1 h2 => mput_k (by omega)) ((mput_k (by omega)).trans X3.1.1) ((mput_k (by omega)).trans X3.1.2.1) ((mput_k (by omega)).trans X3.1.2.2.1) mput_at⟩
        | exact ⟨rfl, _, rfl, ((F3.tr (fun a9 k9 z => extM_o (fun z2 => by subst z2; unfold kpP at z; omega))).put (Or.inl ⟨rfl, by omega⟩)).put (Or.inl ⟨rfl, by omega⟩), XF⟩) (Nat.le_of_ble_eq_true rfl) (Nat.le_of_ble_eq_true rfl)
    · rw [nI_leI (by omega) (by omega)] at c49
      rw [if_neg (by omega)] at ea
      unfold addF at ea
      refine V.aload_n X dX12_process_52 rfl ?_
      refine V.mgr (k := 0) (a := 1) X K fX12_process_7 dX12_process_53 (by decide) ?_
      refine V.sipush (v := nI 277) X dX12_process_56 (by decide) ?_
      refine V.mld (x := nI (xfl r)) X K 1 1178  dX12_process_59 rfl rfl (by omega) X3.1.2.2.2.2.2 ?_
      refine V.bipush (v := nI 20) X dX12_process_60 (by decide) ?_
      refine V.icmp_ne 80 X dX12_process_62 (by decide) (fun c62 => ?_) (fun c62 => ?_)
      · rw [nI_eq (by omega) (by omega)] at c62
        have hf20 : xfl r < 20 := by omega
        rw [if_pos (show xfl (stpA c r i) < 20 from hf20)] at ea
        refine V.sipush (v := nI 718) X dX12_process_80 (by decide) ?_
        refine V.bipush (v := nI 11) X dX12_process_83 (by decide) ?_
        refine V.aload_n X dX12_process_85 rfl ?_
        refine V.mgr (k := 0) (a := 1) X K fX12_process_7 dX12_process_86 (by decide) ?_
        refine V.sipush (v := nI 277) X dX12_process_89 (by decide) ?_
        refine V.mld (x := nI (xfl r)) X K 1 1178  dX12_process_92 rfl rfl (by omega) X3.1.2.2.2.2.2 ?_
        refine V.imulN X dX12_process_93 ?_
        refine V.iaddN X dX12_process_94 ?_
        refine V.istore X dX12_process_95 [(0, _), (1, _), (2, _), (3, _), (4, _)] rfl rfl rfl ?_
        refine V.aload_n X dX12_process_97 rfl ?_
        refine V.iload_n X dX12_process_98 rfl ?_
        refine V.iload_n X dX12_process_99 rfl ?_
        refine V.iload X dX12_process_100 rfl ?_
        refine V.callVv (n := 3) X dX12_process_102 gX12_process_X12_extend (c_X12_extend _ _ K (xs := xsq r i) (by omega) (X3.2.1 i p1) (by omega) (by omega) (by omega)) rfl (by decide +kernel) rfl rfl rfl K.1 rfl rfl ⟨Nat.le_of_ble_eq_true rfl, Nat.le_of_ble_eq_true rfl⟩ (fun h102 hp102 => ?_)
        obtain rfl := hp102.symm
        refine V.aload_n X dX12_process_105 rfl ?_
        refine V.mgr (k := 0) (a := 1) X K fX12_process_7 dX12_process_106 (by decide) ?_
        refine V.iload X dX12_process_109 rfl ?_
        refine V.bipush (v := nI 11) X dX12_process_111 (by decide) ?_
        refine V.iaddN X dX12_process_113 ?_
        refine V.iconst (v := nI 1) X dX12_process_114 (by decide) ?_
        refine V.isubN X dX12_process_115 (by omega) ?_
        refine V.iload_n X dX12_process_116 rfl ?_
        refine V.mst X K 1 1178  dX12_process_117 rfl rfl (by omega) ?_
        refine V.aload_n X dX12_process_118 rfl ?_
        refine V.mgr (k := 0) (a := 1) X K fX12_process_7 dX12_process_119 (by decide) ?_
        refine V.sipush (v := nI 277) X dX12_process_122 (by decide) ?_
        refine V.dup2 X dX12_process_125 rfl rfl ?_
        refine V.mld (x := nI (xfl r)) X K 1 1178  dX12_process_126 rfl rfl (by omega) ((mput_k (by omega)).trans ((extM_o (fun _ => Or.inl (by omega))).trans X3.1.2.2.2.2.2)) ?_
        refine V.iconst (v := nI 1) X dX12_process_127 (by decide) ?_
        refine V.iaddN X dX12_process_128 ?_
        refine V.mst X K 1 1178  dX12_process_129 rfl rfl (by omega) ?_
        have XF : XmR ((mput (mput (extM m3 i (xsq r i).length (718 + 11 * xfl r) k) 1 (718 + 11 * xfl r + 11 - 1) (nI v)) 1 277 (nI (xfl r + 1))) 1) (stp c r i) := by
          rw [ea, show 718 + 11 * xfl r + 11 - 1 = 718 + 11 * xfl r + 10 by omega]
          refine X3.addV (r := stpA c r i) x4 hf20 ?_ ?_ ?_ mput_at
          · refine (extM_s (b := 718) (j := xfl r) (X3.2.1 i p1) (by show (xsq r i).length ≤ 8; omega) rfl (by omega)).same (fun k9 h1 h2 => ?_)
            have h1 : 718 + 11 * xfl r ≤ k9 := h1
            have h2 : k9 < 718 + 11 * xfl r + 10 := h2
            rw [mput_k (by omega), mput_k (by omega)]
            rfl
          · exact (mput_k (by omega)).trans mput_at
          · intro k9 h1 h2 h3 h4
            have h4 : k9 < 718 + 11 * xfl r ∨ 718 + 11 * xfl r + 11 ≤ k9 := h4
            exact (mput_k (by omega)).trans ((mput_k (by omega)).trans (extM_o (fun _ => by omega)))
        refine V.goto 139 X dX12_process_130 (by decide) ?_
        exact V.vret X Y9 dX12_process_139 (by first
          | exact ⟨rfl, m4, rfl, F3.tr G4, by rw [ea]; exact X4⟩
          | exact ⟨rfl, _, rfl, F3.put (k := 273) (Or.inl ⟨rfl, by omega⟩), by rw [ea]; exact X3.num (r := stpA c r i) x4 x5 rfl rfl (fun k9 h1 h2 => mput_k (by omega)) ((mput_k (by omega)).trans X3.1.1) mput_at ((mput_k (by omega)).trans X3.1.2.2.1) ((mput_k (by omega)).trans X3.1.2.2.2.1)⟩
          | exact ⟨rfl, _, rfl, F3.put (k := 275) (Or.inl ⟨rfl, by omega⟩), by rw [ea]; exact X3.num (r := stpA c r i) x4 x5 rfl rfl (fun k9 h1 h2 => mput_k (by omega)) ((mput_k (by omega)).trans X3.1.1) ((mput_k (by omega)).trans X3.1.2.1) ((mput_k (by omega)).trans X3.1.2.2.1) mput_at⟩
          | exact ⟨rfl, _, rfl, ((F3.tr (fun a9 k9 z => extM_o (fun z2 => by subst z2; unfold kpP at z; omega))).put (Or.inl ⟨rfl, by omega⟩)).put (Or.inl ⟨rfl, by omega⟩), XF⟩) (Nat.le_of_ble_eq_true rfl) (Nat.le_of_ble_eq_true rfl)
      · rw [nI_eq (by omega) (by omega)] at c62
        rw [if_neg (show ¬ xfl (stpA c r i) < 20 by show ¬ xfl r < 20; omega)] at ea
        refine V.aload_n X dX12_process_65 rfl ?_
        refine V.mgr (k := 0) (a := 1) X K fX12_process_7 dX12_process_66 (by decide) ?_
        refine V.sipush (v := nI 275) X dX12_process_69 (by decide) ?_
        refine V.dup2 X dX12_process_72 rfl rfl ?_
        refine V.mld (x := nI (xdr r)) X K 1 1178  dX12_process_73 rfl rfl (by omega) X3.1.2.2.2.1 ?_
        refine V.iconst (v := nI 1) X dX12_process_74 (by decide) ?_
        refine V.iaddN X dX12_process_75 ?_
        refine V.mst X K 1 1178  dX12_process_76 rfl rfl (by omega) ?_
        refine V.goto 139 X dX12_process_77 (by decide) ?_
        exact V.vret X Y9 dX12_process_139 (by first
          | exact ⟨rfl, m4, rfl, F3.tr G4, by rw [ea]; exact X4⟩
          | exact ⟨rfl, _, rfl, F3.put (k := 273) (Or.inl ⟨rfl, by omega⟩), by rw [ea]; exact X3.num (r := stpA c r i) x4 x5 rfl rfl (fun k9 h1 h2 => mput_k (by omega)) ((mput_k (by omega)).trans X3.1.1) mput_at ((mput_k (by omega)).trans X3.1.2.2.1) ((mput_k (by omega)).trans X3.1.2.2.2.1)⟩
          | exact ⟨rfl, _, rfl, F3.put (k := 275) (Or.inl ⟨rfl, by omega⟩), by rw [ea]; exact X3.num (r := stpA c r i) x4 x5 rfl rfl (fun k9 h1 h2 => mput_k (by omega)) ((mput_k (by omega)).trans X3.1.1) ((mput_k (by omega)).trans X3.1.2.1) ((mput_k (by omega)).trans X3.1.2.2.1) mput_at⟩
          | exact ⟨rfl, _, rfl, ((F3.tr (fun a9 k9 z => extM_o (fun z2 => by subst z2; unfold kpP at z; omega))).put (Or.inl ⟨rfl, by omega⟩)).put (Or.inl ⟨rfl, by omega⟩), XF⟩) (Nat.le_of_ble_eq_true rfl) (Nat.le_of_ble_eq_true rfl)
  · rw [nI_eq (by omega) (by omega)] at c29
    rw [if_pos c29] at ea
    refine V.aload_n X dX12_process_32 rfl ?_
    refine V.mgr (k := 0) (a := 1) X K fX12_process_7 dX12_process_33 (by decide) ?_
    refine V.sipush (v := nI 273) X dX12_process_36 (by decide) ?_
    refine V.dup2 X dX12_process_39 rfl rfl ?_
    refine V.mld (x := nI (xsk r)) X K 1 1178  dX12_process_40 rfl rfl (by omega) X3.1.2.1 ?_
    refine V.iconst (v := nI 1) X dX12_process_41 (by decide) ?_
    refine V.iaddN X dX12_process_42 ?_
    refine V.mst X K 1 1178  dX12_process_43 rfl rfl (by omega) ?_
    refine V.goto 139 X dX12_process_44 (by decide) ?_
    exact V.vret X Y9 dX12_process_139 (by first
      | exact ⟨rfl, m4, rfl, F3.tr G4, by rw [ea]; exact X4⟩
      | exact ⟨rfl, _, rfl, F3.put (k := 273) (Or.inl ⟨rfl, by omega⟩), by rw [ea]; exact X3.num (r := stpA c r i) x4 x5 rfl rfl (fun k9 h1 h2 => mput_k (by omega)) ((mput_k (by omega)).trans X3.1.1) mput_at ((mput_k (by omega)).trans X3.1.2.2.1) ((mput_k (by omega)).trans X3.1.2.2.2.1)⟩
      | exact ⟨rfl, _, rfl, F3.put (k := 275) (Or.inl ⟨rfl, by omega⟩), by rw [ea]; exact X3.num (r := stpA c r i) x4 x5 rfl rfl (fun k9 h1 h2 => mput_k (by omega)) ((mput_k (by omega)).trans X3.1.1) ((mput_k (by omega)).trans X3.1.2.1) ((mput_k (by omega)).trans X3.1.2.2.1) mput_at⟩
      | exact ⟨rfl, _, rfl, ((F3.tr (fun a9 k9 z => extM_o (fun z2 => by subst z2; unfold kpP at z; omega))).put (Or.inl ⟨rfl, by omega⟩)).put (Or.inl ⟨rfl, by omega⟩), XF⟩) (Nat.le_of_ble_eq_true rfl) (Nat.le_of_ble_eq_true rfl)
theorem nI_div : ∀ i, i < 40 → ∀ k, k < 6 → nI (6 * i + k) / nI 6 = nI i ∧ nI (6 * i + k) - nI (6 * i + k) / nI 6 * nI 6 = nI k := by decide +kernel
theorem foI_n {c : Cmp} {r : Xr} (ok : xmOk c r) : foI r (fos c r 40 0) = -1000 ↔ fos c r 40 0 = none := by
  rcases h : fos c r 40 0 with _ | i
  · exact ⟨fun _ => rfl, fun _ => rfl⟩
  · have := (fos_lt _ _ _ h).1
    have p := opn_pos (fos_lt _ _ _ h).2
    have o := ok.2.1.2.1
    exact ⟨fun z => absurd z (nI_m1000 (by omega)), fun z => by cases z⟩
set_option maxHeartbeats 4000000 in
set_option maxRecDepth 100000 in
theorem c_X12_explore (l : Launch) (G : GG) {h : Hp} {M : Nat} {m : Md} (K : MdK h M) {c : Cmp} {r : Xr} (hC : CmR (m 1) c) (hX : XmR (m 1) r) (ok : xmOk c r) {p : Nat} (hp : m 0 3 = nI p) (hp6 : p ≤ 6) {z : Int32} : Con l G yX12_explore wsX12_explore 8 182 0 0 [.ref M, .int z] (Hm h M m) (pI (fun x h2 => ((z < nI 1 ∨ ¬ z ≤ nI 200) ∧ x = -1 ∧ h2 = Hm h M m) ∨ ∃ n, 1 ≤ n ∧ n ≤ 200 ∧ z = nI n ∧ ((fos c r 40 0 = none ∧ x = -2 ∧ h2 = Hm h M m) ∨ (¬ fos c r 40 0 = none ∧ x = nI (stps c n 0 r).1 ∧ xmOk c (stps c n 0 r).2 ∧ ∃ m2, h2 = Hm h M m2 ∧ MFr kpP (noteM m p) m2 ∧ XmR (m2 1) (stps c n 0 r).2)))) := by
  refine Con.of (cc := cX12_explore) (nL := 4) (ret := (some .int)) (by decide) rfl rfl rfl rfl (fun Γ hG hl X Y9 => ?_)
  subst hG
  subst hl
  obtain ⟨⟨⟨x1, x2⟩, ⟨x3, x4⟩, x5, x6, x7⟩, ok2, x8, x9⟩ := id ok
  have ok21 := ok2.2.1
  have loop : ∀ (n : Nat), 1 ≤ n → n ≤ 200 → ¬ fos c r 40 0 = none → ∀ (a j : Nat) (r1 : Xr) (m1 : Md), j + a = n → stps c a j r1 = stps c n 0 r → xmOk c r1 → MFr kpP (noteM m p) m1 → CmR (m1 1) c → XmR (m1 1) r1 → z = nI n → V Γ 0 0 34 [(0, .ref M), (1, .int (nI n)), (2, .int (foI r1 (fos c r1 40 0))), (3, .int (nI j))] [] (Hm h M m1) := by
    intro n n1 n2 hf a
    induction a with
    | zero =>
      intro j r1 m1 g1 g2 o1 F1 C1 X1 hz
      have g2 : (j, r1) = stps c n 0 r := g2
      refine V.iload_n X dX12_explore_34 rfl ?_
      refine V.iload_n X dX12_explore_35 rfl ?_
      refine V.icmp_ge 69 X dX12_explore_36 (by decide) (fun c36 => ?_) (fun c36 => False.elim (by rw [nI_leI (by omega) (by omega)] at c36; omega))
      rw [nI_leI (by omega) (by omega)] at c36
      refine V.iload_n X dX12_explore_69 rfl ?_
      exact V.iret X Y9 dX12_explore_70 (Or.inr ⟨n, n1, n2, hz, Or.inr ⟨hf, by rw [← g2], by rw [← g2]; exact o1, m1, rfl, F1, by rw [← g2]; exact X1⟩⟩) (Nat.le_of_ble_eq_true rfl) (Nat.le_of_ble_eq_true rfl)
    | succ a ih =>
      intro j r1 m1 g1 g2 o1 F1 C1 X1 hz
      rcases hs : fos c r1 40 0 with _ | i
      · have g3 : stps c n 0 r = (j, r1) := by rw [← g2, stps_n hs]
        have g2 := g3.symm
        rw [show foI r1 none = (-1000 : Int32) from rfl]
        refine V.iload_n X dX12_explore_34 rfl ?_
        refine V.iload_n X dX12_explore_35 rfl ?_
        refine V.icmp_ge 69 X dX12_explore_36 (by decide) (fun c36 => False.elim (by rw [nI_leI (by omega) (by omega)] at c36; omega)) (fun c36 => ?_)
        rw [nI_leI (by omega) (by omega)] at c36
        refine V.iload_n X dX12_explore_39 rfl ?_
        refine V.sipush (v := -1000) X dX12_explore_40 (by decide) ?_
        refine V.icmp_eq 69 X dX12_explore_43 (by decide) (fun c43 => ?_) (fun c43 => False.elim (by exact c43 rfl))
        refine V.iload_n X dX12_explore_69 rfl ?_
        exact V.iret X Y9 dX12_explore_70 (Or.inr ⟨n, n1, n2, hz, Or.inr ⟨hf, by rw [← g2], by rw [← g2]; exact o1, m1, rfl, F1, by rw [← g2]; exact X1⟩⟩) (Nat.le_of_ble_eq_true rfl) (Nat.le_of_ble_eq_true rfl)
      · have hb := (fos_lt _ _ _ hs).1
        have ho := (fos_lt _ _ _ hs).2
        have po := opn_pos ho
        have l6 := o1.2.1.2.1
        obtain ⟨d1, d2⟩ := nI_div i (by omega) (xpr r1 i) (by omega)
        rw [show foI r1 (some i) = nI (6 * i + xpr r1 i) from rfl]
        refine V.iload_n X dX12_explore_34 rfl ?_
        refine V.iload_n X dX12_explore_35 rfl ?_
        refine V.icmp_ge 69 X dX12_explore_36 (by decide) (fun c36 => False.elim (by rw [nI_leI (by omega) (by omega)] at c36; omega)) (fun c36 => ?_)
        rw [nI_leI (by omega) (by omega)] at c36
        refine V.iload_n X dX12_explore_39 rfl ?_
        refine V.sipush (v := -1000) X dX12_explore_40 (by decide) ?_
        refine V.icmp_eq 69 X dX12_explore_43 (by decide) (fun c43 => False.elim (by exact absurd c43 (nI_m1000 (by omega)))) (fun c43 => ?_)
        refine V.aload_n X dX12_explore_46 rfl ?_
        refine V.iload_n X dX12_explore_47 rfl ?_
        refine V.bipush (v := nI 6) X dX12_explore_48 (by decide) ?_
        refine V.idiv X dX12_explore_50 (by decide) ?_
        rw [d1]
        refine V.iload_n X dX12_explore_51 rfl ?_
        refine V.bipush (v := nI 6) X dX12_explore_52 (by decide) ?_
        refine V.irem X dX12_explore_54 (by decide) ?_
        rw [d2]
        refine V.callVv (n := 2) X dX12_explore_55 gX12_explore_X12_process (c_X12_process _ _ K C1 X1 o1 ho rfl) rfl (by decide +kernel) rfl rfl rfl K.1 rfl rfl ⟨Nat.le_of_ble_eq_true rfl, Nat.le_of_ble_eq_true rfl⟩ (fun h55 hp55 => ?_)
        obtain ⟨m2, rfl, G2, X2⟩ := hp55
        have C2 := C1.kp ok2 G2
        have o2 := o1.st ho
        refine V.iinc  X dX12_explore_58 [(0, _), (1, _), (2, _), (3, _)] rfl (nI_1 _) rfl rfl rfl ?_
        refine V.aload_n X dX12_explore_61 rfl ?_
        refine V.callVi (n := 0) X dX12_explore_62 gX12_explore_X12_firstOpen (c_X12_firstOpen _ _ K C2 X2 o2) rfl (by decide +kernel) rfl rfl rfl K.1 rfl rfl ⟨Nat.le_of_ble_eq_true rfl, Nat.le_of_ble_eq_true rfl⟩ (fun r62 h62 hp62 => ?_)
        obtain ⟨rfl, e9⟩ := hp62; obtain rfl := e9.symm
        refine V.istore_n X dX12_explore_65 [(0, _), (1, _), (2, _), (3, _)] rfl rfl rfl ?_
        refine V.goto 34 X dX12_explore_66 (by decide) ?_
        exact ih (j + 1) _ m2 (by omega) (by rw [← g2, stps_s hs]) o2 (F1.tr G2) C2 X2 hz
  refine V.iload_n X dX12_explore_0 rfl ?_
  refine V.iconst (v := nI 1) X dX12_explore_1 (by decide) ?_
  refine V.sipush (v := nI 200) X dX12_explore_2 (by decide) ?_
  refine V.callSi (n := 3) X dX12_explore_5 gX12_explore_X12_in (c_X12_in _ _) rfl (by decide +kernel) rfl rfl rfl ⟨Nat.le_of_ble_eq_true rfl, Nat.le_of_ble_eq_true rfl⟩ (fun r5 h5 hp5 => ?_)
  obtain ⟨rfl, e9⟩ := hp5; obtain rfl := e9.symm
  refine V.if_ne 13 X dX12_explore_8 (by decide) (fun c8 => ?_) (fun c8 => ?_)
  · have c8 := bI_ne c8
    unfold inB at c8
    rw [Bool.and_eq_true] at c8
    obtain ⟨n, n1, n2, rfl⟩ := in_200 (i32_nlt (of_decide_eq_true c8.1)) (of_decide_eq_true c8.2)
    refine V.aload_n X dX12_explore_13 rfl ?_
    refine V.callVi (n := 0) X dX12_explore_14 gX12_explore_X12_firstOpen (c_X12_firstOpen _ _ K hC hX ok) rfl (by decide +kernel) rfl rfl rfl K.1 rfl rfl ⟨Nat.le_of_ble_eq_true rfl, Nat.le_of_ble_eq_true rfl⟩ (fun r14 h14 hp14 => ?_)
    obtain ⟨rfl, e9⟩ := hp14; obtain rfl := e9.symm
    refine V.istore_n X dX12_explore_17 [(0, _), (1, _), (2, _)] rfl rfl rfl ?_
    refine V.iload_n X dX12_explore_18 rfl ?_
    refine V.sipush (v := -1000) X dX12_explore_19 (by decide) ?_
    refine V.icmp_ne 28 X dX12_explore_22 (by decide) (fun c22 => ?_) (fun c22 => ?_)
    · have hf : ¬ fos c r 40 0 = none := fun e => c22 ((foI_n ok).mpr e)
      refine V.aload_n X dX12_explore_28 rfl ?_
      refine V.callVv (n := 0) X dX12_explore_29 gX12_explore_X12_note (c_X12_note _ _ K hp hp6) rfl (by decide +kernel) rfl rfl rfl K.1 rfl rfl ⟨Nat.le_of_ble_eq_true rfl, Nat.le_of_ble_eq_true rfl⟩ (fun h29 hp29 => ?_)
      obtain rfl := hp29.symm
      refine V.iconst (v := nI 0) X dX12_explore_32 (by decide) ?_
      refine V.istore_n X dX12_explore_33 [(0, _), (1, _), (2, _), (3, _)] rfl rfl rfl ?_
      have C1 := hC.same ok2 (g := noteM m p 1) (fun k _ => noteM_o (by decide) (fun z => absurd z.1 (by decide)))
      have X1 := hX.same x4 x5 (g := noteM m p 1) (fun k _ _ => noteM_o (by decide) (fun z => absurd z.1 (by decide)))
      exact loop n n1 n2 hf n 0 r _ (by omega) rfl ok MFr.rf C1 X1 rfl
    · have hf : fos c r 40 0 = none := (foI_n ok).mp c22
      refine V.bipush (v := -2) X dX12_explore_25 (by decide) ?_
      exact V.iret X Y9 dX12_explore_27 (Or.inr ⟨n, n1, n2, rfl, Or.inl ⟨hf, rfl, rfl⟩⟩) (Nat.le_of_ble_eq_true rfl) (Nat.le_of_ble_eq_true rfl)
  · have c8 := bI_eq c8
    have e9 : z < nI 1 ∨ ¬ z ≤ nI 200 := by
      unfold inB at c8
      rw [Bool.and_eq_false_iff] at c8
      rcases c8 with c8 | c8
      · exact Or.inl (i32_nle (of_decide_eq_false c8))
      · exact Or.inr (of_decide_eq_false c8)
    refine V.iconst (v := -1) X dX12_explore_11 (by decide) ?_
    exact V.iret X Y9 dX12_explore_12 (Or.inl ⟨e9, rfl, rfl⟩) (Nat.le_of_ble_eq_true rfl) (Nat.le_of_ble_eq_true rfl)
