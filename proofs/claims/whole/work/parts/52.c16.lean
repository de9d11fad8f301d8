theorem lx_neg {a b : Int} (ha : r64 a) (hb : r64 b) : ((lI a ^^^ lI b).toInt < 0) ↔ ¬ (a < 0 ↔ b < 0) := by
  have e1 : (lI a ^^^ lI b).toInt < 0 ↔ ((lI a ^^^ lI b).toBitVec.msb = true) := by
    rw [BitVec.msb_eq_toInt]
    simp [Int64.toInt]
  have e2 : (lI a).toBitVec.msb = decide (a < 0) := by
    rw [BitVec.msb_eq_toInt]
    show decide ((lI a).toInt < 0) = _
    rw [lI_toInt ha]
  have e3 : (lI b).toBitVec.msb = decide (b < 0) := by
    rw [BitVec.msb_eq_toInt]
    show decide ((lI b).toInt < 0) = _
    rw [lI_toInt hb]
  rw [e1, Int64.toBitVec_xor, BitVec.msb_xor, e2, e3]
  by_cases h1 : a < 0 <;> by_cases h2 : b < 0 <;> simp [h1, h2]

/-- a member of the JDK for which the machine has no row of its own -/
theorem mx_of {l : Launch} {y : MethodName} {ws ws' : List Cond} {rm : Room} {Pc : Array Value → State → Prop} {Qc : Array Value → State → Outcome → State → Prop} {XC : String → State → State → Prop} {mc ms : Nat} {free : Addr → Prop} {cc : ByteArray} {maxL : Nat} {ret : Option FieldType}
    (hy : plainFor y = true) (hw : ws = Cond.code y cc maxL ret :: ws')
    (body : ∀ p e s m args below meth c s₁, BodyLoose p l y (headSpec ws rm) cc maxL ret e s m args below meth c s₁ → c.maxLocals = maxL → (∀ x ∈ c.exceptionTable.toList, False) → Pc args s →
      W p l e (headSpec ws rm).room s m args below meth c s.heap [] 0 0 (vx_MQ below Qc XC args s mc ms free) (entryFrame m args maxL)) : vx_Met l y ws rm Pc Qc XC mc ms free := by
  refine MetFree.of_bodySF (code := cc) (maxLocals := maxL) (ret := ret) hy ?_ ?_
  · intro args s m h hn
    obtain ⟨meth, c, h1, h2, h3, h4, h5, h6, -, -⟩ := Cond.code_spec hn (atoms_spec (ws := ws) h _ (by rw [hw]; exact List.mem_cons_self))
    exact ⟨meth, c, h1, h2, h3, h4, h5, h6⟩
  · intro p e s m args below meth c s₁ B hml hP _
    have hh0 : s₁.heap = s.heap := by rw [B.state]; rfl
    have ht : ∀ x ∈ c.exceptionTable.toList, False := by
      obtain ⟨meth9, c9, h1, h2, -, -, -, -, h7, -⟩ := Cond.code_spec B.named (atoms_spec (ws := ws) B.pre _ (by rw [hw]; exact List.mem_cons_self))
      cases Option.some.inj (h1.symm.trans B.method)
      cases Option.some.inj (h2.symm.trans (Stand.of_body B).code)
      intro x hx
      rw [Array.isEmpty_iff.mp h7] at hx
      cases hx
    obtain ⟨t, a1, o, b1, b2, b3⟩ := body p e s m args below meth c s₁ B hml ht hP s₁ hh0 (Stand.of_body B)
    exact ⟨t, o, a1, b1, b2, b3⟩
theorem CF.ofF {l : Launch} {own nm : String} {cc : ByteArray} {nL : Nat} {ret : Option FieldType} {R : Room} {M M' : ME} {v : Option Value} {y : MethodName} {vs : List Value} {L0 : List (Option Value)} (hy : plainFor y = true) (hown : y.cls = own) (hnm : y.name = nm) (hlen : (lg_sl vs).length ≤ nL) (hL0 : entL vs nL = L0) (body : ∀ (G : GG) (A : Nat → Prop) (Q : Option Value → ME → Nat → Prop) (sz : Nat), (∀ v0 M0 z, v0 = v → M0 = M' → Q v0 M0 z) → V l G A R own nm cc nL ret Q nX 0 0 M sz 0 L0 []) : CF l y cc nL ret R vs M v M' := fun sz => by
  refine Cn.ofX fun G A => ?_
  have body1 := body G A (fun v0 M0 _ => v0 = v ∧ M0 = M') sz fun _ _ _ h1 h2 => ⟨h1, h2⟩
  refine mx_of (cc := cc) (maxL := nL) (ret := ret) hy rfl ?_
  intro p e s m args below meth c s₁ B hml htab hv
  obtain ⟨rfl, hR, hK, hZ, hz, hA⟩ := hv
  subst hown; subst hnm
  have hts := atoms_spec (ws := wy y cc nL ret) B.pre
  rw [lg_entry_eq]
  refine body1 p e s m _ below meth c s.heap [] _ ⟨B.exec, B.bytes, hml, B.returns, findClass_of_methodNamed B.named, fun w hw => hts w (List.mem_cons_of_mem _ hw), B.notSynchronized, htab, (name_of_methodNamed B.named B.method).1, hK, hZ, fun q h => hA q (by rw [← hz]; exact h)⟩ hR hz va_S.rf ?_
  refine hasL.of (lv_entry vs hlen) fun i v h => ?_
  subst hL0
  have := entL_in vs 0 (List.replicate (nL - (lg_sl vs).length) none) (fun i v h => by rw [List.getElem?_replicate] at h; split at h <;> simp at h) i v h
  simpa using this

set_option maxRecDepth 100000 in
set_option maxHeartbeats 4000000 in
theorem m_floorDiv (l : Launch) (M : ME) (a b : Int) (ha : -4611686018427387904 < a ∧ a < 4611686018427387904) (hb : -4611686018427387904 < b ∧ b < 4611686018427387904) (h0 : b ≠ 0) : CF l yJ9_floorDiv_f86c9 cJ9_floorDiv_f86c9 6 (some .long) (rmN 1) [.long (lI a), .long (lI b)] M (some (.long (lI (fdv a b)))) M := by
  refine CF.ofF (L0 := [some _, none, some _, none, none, none]) (by decide +kernel) rfl rfl (Nat.le_of_ble_eq_true rfl) rfl (fun G A Q sz hQ => ?_)
  refine V_lload_n dJ9_floorDiv_f86c9_0 rfl ?_
  refine V_lload_n dJ9_floorDiv_f86c9_1 rfl ?_
  refine I_ldiv dJ9_floorDiv_f86c9_2 ha hb h0 ?_
  refine V_lstore (L' := [some _, none, some _, none, some _, none]) dJ9_floorDiv_f86c9_3 (by decide) rfl ?_
  refine V_lload_n dJ9_floorDiv_f86c9_5 rfl ?_
  refine V_lload_n dJ9_floorDiv_f86c9_6 rfl ?_
  refine V_lxor dJ9_floorDiv_f86c9_7 ?_
  rw [lI_of (lI a ^^^ lI b)]
  obtain ⟨z, hz⟩ : ∃ z, z = (lI a ^^^ lI b).toInt := ⟨_, rfl⟩
  have hzr := lI_r (lI a ^^^ lI b)
  have hzn := lx_neg (a := a) (b := b) (by unfold r64; omega) (by unfold r64; omega)
  rw [← hz] at hzr hzn ⊢
  refine V_lconst (v := lI 0) dJ9_floorDiv_f86c9_8 rfl ?_
  refine I_lc_ge (tgt := 27) dJ9_floorDiv_f86c9_9 dJ9_floorDiv_f86c9_10 (by decide) hzr ⟨by omega, by omega⟩ (fun h9 => ?_) (fun h9 => ?_)
  · refine V_lload dJ9_floorDiv_f86c9_27 rfl ?_
    exact V_lret dJ9_floorDiv_f86c9_29 rfl (Nat.le_of_ble_eq_true rfl) (Nat.le_of_ble_eq_true rfl) (hQ _ _ _ (lv' (by unfold fdv; first | exact (if_neg (fun w => by have := hzn.mpr w.2; omega)).symm | (rw [← hm2]; exact (if_neg (fun w => by have := w.1; omega)).symm))) rfl)
  · have hm := tdivm_b (a := a) (b := b)
    have hq := tdiv_b (a := a) (b := b)
    obtain ⟨m, hm2⟩ : ∃ m, m = a.tdiv b * b := ⟨_, rfl⟩
    rw [← hm2] at hm
    rw [show lI (a.tdiv b) = lI (a.tdiv b) from rfl]
    refine V_lload dJ9_floorDiv_f86c9_13 rfl ?_
    refine V_lload_n dJ9_floorDiv_f86c9_15 rfl ?_
    refine I_lmul dJ9_floorDiv_f86c9_16 ?_
    refine V_lload_n dJ9_floorDiv_f86c9_17 rfl ?_
    rw [← hm2]
    refine I_lc_eq (tgt := 27) dJ9_floorDiv_f86c9_18 dJ9_floorDiv_f86c9_19 (by decide) ⟨by omega, by omega⟩ ⟨by omega, by omega⟩ (fun h18 => ?_) (fun h18 => ?_)
    · refine V_lload dJ9_floorDiv_f86c9_27 rfl ?_
      exact V_lret dJ9_floorDiv_f86c9_29 rfl (Nat.le_of_ble_eq_true rfl) (Nat.le_of_ble_eq_true rfl) (hQ _ _ _ (lv' (by unfold fdv; first | exact (if_neg (fun w => by have := hzn.mpr w.2; omega)).symm | (rw [← hm2]; exact (if_neg (fun w => by have := w.1; omega)).symm))) rfl)
    · refine V_lload dJ9_floorDiv_f86c9_22 rfl ?_
      refine V_lconst (v := lI 1) dJ9_floorDiv_f86c9_24 rfl ?_
      refine I_lsub dJ9_floorDiv_f86c9_25 ?_
      exact V_lret dJ9_floorDiv_f86c9_26 rfl (Nat.le_of_ble_eq_true rfl) (Nat.le_of_ble_eq_true rfl) (hQ _ _ _ (lv' (by unfold fdv; rw [← hm2]; exact (if_pos ⟨by omega, hzn.mp (by omega)⟩).symm)) rfl)

set_option maxRecDepth 100000 in
set_option maxHeartbeats 4000000 in
theorem c5_copyFrom (l : Launch) (M : ME) (R R2 : Nat) (hd : R + 80 ≤ R2 ∨ R2 + 80 ≤ R) (ρ1 ρ : Int → Int) (hR1 : RR M R ρ1) (hI1 : RI ρ1) (hR : RR M R2 ρ) (hI : RI ρ) : CP l yX5_copyFrom cX5_copyFrom 3 none (rmN 3) [.ref R, .ref R2] M (fun v M' => v = none ∧ RR M' R ρ ∧ FR M M' R 80) := by
  obtain ⟨lma, cna, apa, ama, aba, ala, a0, a1, a2, a3, a4, a5, a6, -⟩ := id hR1.1
  obtain ⟨lm, cn, ap, am, ab, al, h0, h1, h2, h3, h4, h5, h6, h7, h8, h9⟩ := id hR.1
  refine CP.of (L0 := [some _, some _, none]) (by decide +kernel) rfl rfl (Nat.le_of_ble_eq_true rfl) rfl (fun G A Q sz hQ => ?_)
  refine V_aload_n dX5_copyFrom_0 rfl ?_
  refine V_aload_n dX5_copyFrom_1 rfl ?_
  refine V_getf fX5_9 dX5_copyFrom_2 h0 rfl ?_
  refine V_putf fX5_9 dX5_copyFrom_5 a0 rfl rfl (by simp) ?_
  refine V_aload_n dX5_copyFrom_8 rfl ?_
  refine V_getf fX5_15 dX5_copyFrom_9 ((mu_ne (by omega)).trans h0) rfl ?_
  refine V_iconst (v := iI (0)) dX5_copyFrom_12 rfl ?_
  refine V_aload_n dX5_copyFrom_13 rfl ?_
  refine V_getf fX5_15 dX5_copyFrom_14 mu_eq rfl ?_
  refine V_iconst (v := iI (0)) dX5_copyFrom_17 rfl ?_
  refine V_bipush (v := iI (6)) dX5_copyFrom_18 (by decide +kernel) ?_
  refine I_copy (by decide) mX5_52 dX5_copyFrom_20 ((mu_ne (by omega)).trans h1) ((mu_ne (by omega)).trans a1) (by decide) (by decide) (by decide) (by decide) (by decide) (by decide) fun sz => ?_
  refine V_aload_n dX5_copyFrom_23 rfl ?_
  refine V_getf fX5_19 dX5_copyFrom_24 ((mu_ne (by omega)).trans ((mu_ne (by omega)).trans h0)) rfl ?_
  refine V_iconst (v := iI (0)) dX5_copyFrom_27 rfl ?_
  refine V_aload_n dX5_copyFrom_28 rfl ?_
  refine V_getf fX5_19 dX5_copyFrom_29 ((mu_ne (by omega)).trans mu_eq) rfl ?_
  refine V_iconst (v := iI (0)) dX5_copyFrom_32 rfl ?_
  refine V_bipush (v := iI (15)) dX5_copyFrom_33 (by decide +kernel) ?_
  refine I_copy (by decide) mX5_52 dX5_copyFrom_35 ((mu_ne (by omega)).trans ((mu_ne (by omega)).trans h2)) ((mu_ne (by omega)).trans ((mu_ne (by omega)).trans a2)) (by decide) (by decide) (by decide) (by decide) (by decide) (by decide) fun sz => ?_
  refine V_aload_n dX5_copyFrom_38 rfl ?_
  refine V_getf fX5_22 dX5_copyFrom_39 ((mu_ne (by omega)).trans ((mu_ne (by omega)).trans ((mu_ne (by omega)).trans h0))) rfl ?_
  refine V_iconst (v := iI (0)) dX5_copyFrom_42 rfl ?_
  refine V_aload_n dX5_copyFrom_43 rfl ?_
  refine V_getf fX5_22 dX5_copyFrom_44 ((mu_ne (by omega)).trans ((mu_ne (by omega)).trans mu_eq)) rfl ?_
  refine V_iconst (v := iI (0)) dX5_copyFrom_47 rfl ?_
  refine V_bipush (v := iI (15)) dX5_copyFrom_48 (by decide +kernel) ?_
  refine I_copy (by decide) mX5_52 dX5_copyFrom_50 ((mu_ne (by omega)).trans ((mu_ne (by omega)).trans ((mu_ne (by omega)).trans h3))) ((mu_ne (by omega)).trans ((mu_ne (by omega)).trans ((mu_ne (by omega)).trans a3))) (by decide) (by decide) (by decide) (by decide) (by decide) (by decide) fun sz => ?_
  refine V_aload_n dX5_copyFrom_53 rfl ?_
  refine V_getf fX5_25 dX5_copyFrom_54 ((mu_ne (by omega)).trans ((mu_ne (by omega)).trans ((mu_ne (by omega)).trans ((mu_ne (by omega)).trans h0)))) rfl ?_
  refine V_iconst (v := iI (0)) dX5_copyFrom_57 rfl ?_
  refine V_aload_n dX5_copyFrom_58 rfl ?_
  refine V_getf fX5_25 dX5_copyFrom_59 ((mu_ne (by omega)).trans ((mu_ne (by omega)).trans ((mu_ne (by omega)).trans mu_eq))) rfl ?_
  refine V_iconst (v := iI (0)) dX5_copyFrom_62 rfl ?_
  refine V_bipush (v := iI (15)) dX5_copyFrom_63 (by decide +kernel) ?_
  refine I_copy (by decide) mX5_52 dX5_copyFrom_65 ((mu_ne (by omega)).trans ((mu_ne (by omega)).trans ((mu_ne (by omega)).trans ((mu_ne (by omega)).trans h4)))) ((mu_ne (by omega)).trans ((mu_ne (by omega)).trans ((mu_ne (by omega)).trans ((mu_ne (by omega)).trans a4)))) (by decide) (by decide) (by decide) (by decide) (by decide) (by decide) fun sz => ?_
  refine V_aload_n dX5_copyFrom_68 rfl ?_
  refine V_getf fX5_28 dX5_copyFrom_69 ((mu_ne (by omega)).trans ((mu_ne (by omega)).trans ((mu_ne (by omega)).trans ((mu_ne (by omega)).trans ((mu_ne (by omega)).trans h0))))) rfl ?_
  refine V_iconst (v := iI (0)) dX5_copyFrom_72 rfl ?_
  refine V_aload_n dX5_copyFrom_73 rfl ?_
  refine V_getf fX5_28 dX5_copyFrom_74 ((mu_ne (by omega)).trans ((mu_ne (by omega)).trans ((mu_ne (by omega)).trans ((mu_ne (by omega)).trans mu_eq)))) rfl ?_
  refine V_iconst (v := iI (0)) dX5_copyFrom_77 rfl ?_
  refine V_bipush (v := iI (15)) dX5_copyFrom_78 (by decide +kernel) ?_
  refine I_copy (by decide) mX5_52 dX5_copyFrom_80 ((mu_ne (by omega)).trans ((mu_ne (by omega)).trans ((mu_ne (by omega)).trans ((mu_ne (by omega)).trans ((mu_ne (by omega)).trans h5))))) ((mu_ne (by omega)).trans ((mu_ne (by omega)).trans ((mu_ne (by omega)).trans ((mu_ne (by omega)).trans ((mu_ne (by omega)).trans a5))))) (by decide) (by decide) (by decide) (by decide) (by decide) (by decide) fun sz => ?_
  refine V_iconst (v := iI (0)) dX5_copyFrom_83 rfl ?_
  refine V_istore_n (L' := [some _, some _, some _]) dX5_copyFrom_84 rfl (by decide) rfl ?_
  have key85 : ∀ (d : Nat) (j : Int) (N : ME) (sz : Nat), (0 ≤ j ∧ j ≤ 4) → (RA N R ρ) → (∀ i, 0 ≤ i → i < j → RK N (rkA R i) ρ i) → (∀ i, j ≤ i → i < 4 → RK N (rkA R i) ρ1 i) → (DL N (R + 7) ρ1) → (TR N (R + 69) ρ1) → (FR M N R 80) → (4 - j).toNat = d → V l G A (rmN 3) RX5 "copyFrom" cX5_copyFrom 3 none Q nX 0 0 N sz 85 [some (.ref R), some (.ref R2), some (.int (iI j))] [] := by
    intro d
    induction d using Nat.strongRecOn with
    | ind d ih85 =>
      intro j N  sz hj nA nK nK1 nD nT nF hd85
      obtain ⟨lmu, cnu, apu, amu, abu, alu, u0, u1, u2, u3, u4, u5, u6, -⟩ := id nA
      obtain ⟨kpu, d0, -⟩ := id nD
      obtain ⟨gbu, ggu, t0, -⟩ := id nT
      refine V_iload_n dX5_copyFrom_85 rfl ?_
      refine V_iconst (v := iI (4)) dX5_copyFrom_86 rfl ?_
      refine I_icmp_ge (tgt := 111) dX5_copyFrom_87 (by decide) ⟨by omega, by omega⟩ ⟨by omega, by omega⟩ (fun h87 => ?_) (fun h87 => ?_)
      · refine V_aload_n dX5_copyFrom_111 rfl ?_
        refine V_getf fX5_40 dX5_copyFrom_112 u0 rfl ?_
        refine V_aload_n dX5_copyFrom_115 rfl ?_
        refine V_getf fX5_40 dX5_copyFrom_116 ((nF _ (by omega)).trans h0) rfl ?_
        refine V_cVE0 (vs := [_]) (l_copyFrom l N (R + 7) (R2 + 7) (by omega) ρ1 ρ nD (hR.2.2.1.mv hI.2.2.2.1 (fun q x y => nF q (by omega)) (fun _ _ _ => rfl)) hI.2.2.2.1) mX5_62 coX0_copyFrom dX5_copyFrom_119 d0 rfl rfl rfl (by decide) (Nat.le_of_ble_eq_true rfl) (Nat.le_of_ble_eq_true rfl) (Nat.le_of_ble_eq_true rfl) (fun N1 sz hp => ?_)
        obtain ⟨hD1, hG1⟩ := hp
        refine V_aload_n dX5_copyFrom_122 rfl ?_
        refine V_getf fX5_47 dX5_copyFrom_123 ((hG1 _ (by omega)).trans u0) rfl ?_
        refine V_aload_n dX5_copyFrom_126 rfl ?_
        refine V_getf fX5_47 dX5_copyFrom_127 ((hG1 _ (by omega)).trans ((nF _ (by omega)).trans h0)) rfl ?_
        refine V_cVE0 (vs := [_]) (t_copyFrom l N1 (R + 69) (R2 + 69) (by omega) ρ1 ρ (nT.mv hI1.2.2.2.2.1.2 (fun q x y => hG1 q (by omega)) (fun _ _ _ => rfl)) (hR.2.2.2.mv hI.2.2.2.2.1.2 (fun q x y => (hG1 q (by omega)).trans (nF q (by omega))) (fun _ _ _ => rfl)) hI.2.2.2.2.1.2) mX5_65 coX8_copyFrom dX5_copyFrom_130 ((hG1 _ (by omega)).trans t0) rfl rfl rfl (by decide) (Nat.le_of_ble_eq_true rfl) (Nat.le_of_ble_eq_true rfl) (Nat.le_of_ble_eq_true rfl) (fun N2 sz hp => ?_)
        obtain ⟨hT2, hG2⟩ := hp
        exact V_ret dX5_copyFrom_133 rfl (Nat.le_of_ble_eq_true rfl) (Nat.le_of_ble_eq_true rfl) (hQ _ _ _ ⟨rfl, ⟨nA.mv (fun q x y => (hG2 _ (by omega)).trans (hG1 _ (by omega))) (fun _ _ => rfl), fun i x y => (nK i x (by omega)).mv (by have := (hI.2.2.1 i x (by omega)).1.1; omega) ⟨(hG2 _ (by unfold rkA; omega)).trans (hG1 _ (by unfold rkA; omega)), (hG2 _ (by unfold rkA; omega)).trans (hG1 _ (by unfold rkA; omega))⟩ (fun _ _ => rfl), hD1.mv hI.2.2.2.1 (fun q x y => hG2 q (by omega)) (fun _ _ _ => rfl), hT2⟩, (nF.tr (hG1.up (by omega))).tr (hG2.up (by omega))⟩)
      · have hkA : rkA R j = R + 72 + 2 * j.toNat := rfl
        have hkA2 : rkA R2 j = R2 + 72 + 2 * j.toNat := rfl
        obtain ⟨lcx, gx, x0, -⟩ := id (nK1 j (by omega) (by omega))
        have hb := (hI.2.2.1 j (by omega) (by omega)).1.1
        refine V_aload_n dX5_copyFrom_90 rfl ?_
        refine V_getf fX5_33 dX5_copyFrom_91 u0 rfl ?_
        refine V_iload_n dX5_copyFrom_94 rfl ?_
        refine I_aald ao5 dX5_copyFrom_95 u6 ⟨by omega, by omega⟩ (by decide) ?_
        refine V_aload_n dX5_copyFrom_96 rfl ?_
        refine V_getf fX5_33 dX5_copyFrom_97 ((nF _ (by omega)).trans h0) rfl ?_
        refine V_iload_n dX5_copyFrom_100 rfl ?_
        refine I_aald ao5 dX5_copyFrom_101 ((nF _ (by omega)).trans h6) ⟨by omega, by omega⟩ (by decide) ?_
        refine V_cVE0 (vs := [_]) (k_copyFrom l N (rkA R j) (rkA R2 j) (by omega) ρ1 ρ j j (nK1 j (by omega) (by omega)) ((hR.2.1 j (by omega) (by omega)).mv (by omega) ⟨nF _ (by omega), nF _ (by omega)⟩ (fun _ _ => rfl)) (by omega)) mX5_58 coX4_copyFrom dX5_copyFrom_102 x0 rfl rfl rfl (by decide) (Nat.le_of_ble_eq_true rfl) (Nat.le_of_ble_eq_true rfl) (Nat.le_of_ble_eq_true rfl) (fun N1 sz hp => ?_)
        obtain ⟨hO1, hF1⟩ := hp
        have hS1 : RA N1 R ρ := nA.mv (fun q a b => hF1 q (by omega)) (fun _ _ => rfl)
        have hS2 : ∀ i, 0 ≤ i → i < j + 1 → RK N1 (rkA R i) ρ i := fun i a b => by
          by_cases e : i = j
          · rw [e]; exact hO1
          · have hkB : rkA R i = R + 72 + 2 * i.toNat := rfl
            have := (hI.2.2.1 i a (by omega)).1.1
            exact (nK i a (by omega)).mv (by omega) ⟨hF1 _ (by omega), hF1 _ (by omega)⟩ (fun _ _ => rfl)
        have hS3 : ∀ i, j + 1 ≤ i → i < 4 → RK N1 (rkA R i) ρ1 i := fun i a b => by
          have hkB : rkA R i = R + 72 + 2 * i.toNat := rfl
          have := (hI1.2.2.1 i (by omega) (by omega)).1.1
          exact (nK1 i (by omega) b).mv (by omega) ⟨hF1 _ (by omega), hF1 _ (by omega)⟩ (fun _ _ => rfl)
        have hS4 : DL N1 (R + 7) ρ1 := nD.mv hI1.2.2.2.1 (fun q x y => hF1 q (by omega)) (fun _ _ _ => rfl)
        have hS5 : TR N1 (R + 69) ρ1 := nT.mv hI1.2.2.2.2.1.2 (fun q x y => hF1 q (by omega)) (fun _ _ _ => rfl)
        refine I_iinc (L' := [some _, some _, some _]) dX5_copyFrom_105 rfl (by decide) rfl ?_
        refine V_goto (tgt := 85) dX5_copyFrom_108 (by decide) ?_
        exact V_wk' (ih85 _ (by omega) (j + 1) _ sz ⟨by omega, by omega⟩ hS1 hS2 hS3 hS4 hS5 (nF.tr (hF1.up (by omega))) rfl) ⟨rfl, rfl, rfl, trivial⟩
  obtain ⟨W, hW⟩ : ∃ W : ME, W = (mu (mu (mu (mu (mu (mu M R (rcO R lm)) (R + 1) (aI 6 (cpI cn cna 0 0 6))) (R + 2) (aI 15 (cpI ap apa 0 0 15))) (R + 3) (aI 15 (cpI am ama 0 0 15))) (R + 4) (aI 15 (cpI ab aba 0 0 15))) (R + 5) (aI 15 (cpI al ala 0 0 15))) := ⟨_, rfl⟩
  refine V_eqM hW.symm ?_
  have hWo : ∀ q, R + 6 ≤ q → W q = M q := fun q z => by rw [hW, mu_ne (by omega), mu_ne (by omega), mu_ne (by omega), mu_ne (by omega), mu_ne (by omega), mu_ne (by omega)]
  have hI1a : RA W R ρ := by
    have hcp : ∀ (f g : Int → Int) (n q : Int), 0 ≤ q → q < n → cpI f g 0 0 n q = f q := fun f g n q x y => by unfold cpI; rw [if_pos (by omega), show (0 : Int) + (q - 0) = q by omega]
    refine ⟨lm, _, _, _, _, _, by rw [hW, mu_ne (by omega), mu_ne (by omega), mu_ne (by omega), mu_ne (by omega), mu_ne (by omega)]; exact mu_eq, by rw [hW, mu_ne (by omega), mu_ne (by omega), mu_ne (by omega), mu_ne (by omega)]; exact mu_eq, by rw [hW, mu_ne (by omega), mu_ne (by omega), mu_ne (by omega)]; exact mu_eq, by rw [hW, mu_ne (by omega), mu_ne (by omega)]; exact mu_eq, by rw [hW, mu_ne (by omega)]; exact mu_eq, by rw [hW]; exact mu_eq, by rw [hWo _ (by omega)]; exact a6, h7, fun q x y => ?_, fun q x y => ?_⟩
    · rw [hcp _ _ _ _ x y]; exact h8 q x y
    · rw [hcp _ _ _ _ x y, hcp _ _ _ _ x y, hcp _ _ _ _ x y, hcp _ _ _ _ x y]; exact h9 q x y
  have hI2a : ∀ i, 0 ≤ i → i < 4 → RK W (rkA R i) ρ1 i := fun i x y => by
    have hkA : rkA R i = R + 72 + 2 * i.toNat := rfl
    have := (hI1.2.2.1 i x (by omega)).1.1
    exact (hR1.2.1 i x y).mv (by omega) ⟨hWo _ (by omega), hWo _ (by omega)⟩ (fun _ _ => rfl)
  have hI3a : DL W (R + 7) ρ1 := hR1.2.2.1.mv hI1.2.2.2.1 (fun q x y => hWo q (by omega)) (fun _ _ _ => rfl)
  have hI4a : TR W (R + 69) ρ1 := hR1.2.2.2.mv hI1.2.2.2.2.1.2 (fun q x y => hWo q (by omega)) (fun _ _ _ => rfl)
  have hI5a : FR M W R 80 := fun q hq => by rw [hW, mu_ne (by omega), mu_ne (by omega), mu_ne (by omega), mu_ne (by omega), mu_ne (by omega), mu_ne (by omega)]
  exact V_wk' (key85 _ 0 _ sz ⟨by omega, by omega⟩ hI1a (fun i a b => by omega) hI2a hI3a hI4a hI5a rfl) ⟨rfl, rfl, rfl, trivial⟩
