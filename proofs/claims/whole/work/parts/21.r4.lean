theorem lI_div {a b : Int} (ha : -4611686018427387904 < a ∧ a < 4611686018427387904) (hb : -4611686018427387904 < b ∧ b < 4611686018427387904) : lI a / lI b = lI (a.tdiv b) := by
  have h1 : (a.tdiv b).natAbs ≤ a.natAbs := by
    rw [Int.natAbs_tdiv]
    exact Nat.div_le_self _ _
  have h2 : (lI a / lI b).toInt = a.tdiv b := by
    rw [Int64.toInt_div, lI_toInt ⟨by omega, by omega⟩, lI_toInt ⟨by omega, by omega⟩]
    exact Int.bmod_eq_of_le (by show -((18446744073709551616 : Nat) : Int) / 2 ≤ a.tdiv b; omega) (by show a.tdiv b < ((18446744073709551616 : Nat) + 1 : Int) / 2; omega)
  have h3 := lI_of (lI a / lI b)
  rw [h2] at h3
  exact h3
theorem tdiv_b {a b : Int} : (a.tdiv b).natAbs ≤ a.natAbs := by
  rw [Int.natAbs_tdiv]
  exact Nat.div_le_self _ _
theorem tdivm_b {a b : Int} : (a.tdiv b * b).natAbs ≤ a.natAbs := by
  rw [Int.natAbs_mul, Int.natAbs_tdiv]
  exact Nat.div_mul_le_self _ _
/-- division that rounds down -/
def fdv (a b : Int) : Int := if a.tdiv b * b ≠ a ∧ ¬ (a < 0 ↔ b < 0) then a.tdiv b - 1 else a.tdiv b
section
variable {l : Launch} {G : GG} {A : Nat → Prop} {R : Room} {own nm : String} {cc : ByteArray} {nL : Nat} {ret : Option FieldType} {Q : Option Value → ME → Nat → Prop} {X : String → ME → Prop} {k n : Nat} {M : ME} {sz : Nat} {pc : Nat} {L : List (Option Value)} {st : List Value}
theorem I_ldiv {a b : Int} (hd : decode cc pc = .ok (.ldiv, 1)) (ha : -4611686018427387904 < a ∧ a < 4611686018427387904) (hb : -4611686018427387904 < b ∧ b < 4611686018427387904) (h0 : b ≠ 0) (kk : V l G A R own nm cc nL ret Q X k n M sz (pc + 1) L (.long (lI (a.tdiv b)) :: st)) : V l G A R own nm cc nL ret Q X k n M sz pc L (.long (lI b) :: .long (lI a) :: st) := V_ldiv hd (fun z => absurd ((lI_eq (b := 0) ⟨by omega, by omega⟩ ⟨by omega, by omega⟩).mp z) h0) (by rw [lI_div ha hb]; exact kk)
end

set_option maxRecDepth 100000 in
set_option maxHeartbeats 4000000 in
theorem r_floor (l : Launch) (M : ME) (a b : Int) (ha : -4611686018427387904 < a ∧ a < 4611686018427387904) (hb : -4611686018427387904 < b ∧ b < 4611686018427387904) (h0 : b ≠ 0) : CF l yX11_floor cX11_floor 6 (some .long) (rmN 1) [.long (lI a), .long (lI b)] M (some (.long (lI (fdv a b)))) M := by
  refine CF.of (L0 := [some _, none, some _, none, none, none]) (by decide +kernel) rfl rfl (Nat.le_of_ble_eq_true rfl) rfl (fun G A Q sz hQ => ?_)
  refine V_lload_n dX11_floor_0 rfl ?_
  refine V_lload_n dX11_floor_1 rfl ?_
  refine I_ldiv dX11_floor_2 ha hb h0 ?_
  refine V_lstore (L' := [some _, none, some _, none, some _, none]) dX11_floor_3 (by decide) rfl ?_
  refine V_lload dX11_floor_5 rfl ?_
  refine V_lload_n dX11_floor_7 rfl ?_
  refine I_lmul dX11_floor_8 ?_
  refine V_lload_n dX11_floor_9 rfl ?_
  have t1 := tdiv_b (a := a) (b := b)
  have t2 := tdivm_b (a := a) (b := b)
  obtain ⟨m, hm⟩ : ∃ m, m = a.tdiv b * b := ⟨_, rfl⟩
  rw [← hm] at t2 ⊢
  refine I_lc_eq (tgt := 46) dX11_floor_10 dX11_floor_11 (by decide) ⟨by omega, by omega⟩ ⟨by omega, by omega⟩ (fun h10 => ?_) (fun h10 => ?_)
  · refine V_lload dX11_floor_46 rfl ?_
    exact V_lret dX11_floor_48 rfl (Nat.le_of_ble_eq_true rfl) (Nat.le_of_ble_eq_true rfl) (hQ _ _ _ (lv' (by unfold fdv; rw [← hm]; first | exact (if_pos ⟨by omega, by omega⟩).symm | exact (if_neg (by omega)).symm)) rfl)
  · refine V_tern (J := 25) (v := .int (iI (if a < 0 then 1 else 0))) (fun sz => ?_) (fun j25 => ?_)
    · obtain ⟨x, hx, ex⟩ := ex_if (p := a < 0)
      rw [ex]
      refine V_tern (J := 36) (v := .int (iI (if b < 0 then 1 else 0))) (fun sz => ?_) (fun j36 => ?_)
      · obtain ⟨y, hy, ey⟩ := ex_if (p := b < 0)
        rw [ey]
        refine I_icmp_eq (tgt := 46) dX11_floor_36 (by decide) ⟨by omega, by omega⟩ ⟨by omega, by omega⟩ (fun h36 => ?_) (fun h36 => ?_)
        · refine V_lload dX11_floor_46 rfl ?_
          exact V_lret dX11_floor_48 rfl (Nat.le_of_ble_eq_true rfl) (Nat.le_of_ble_eq_true rfl) (hQ _ _ _ (lv' (by unfold fdv; rw [← hm]; first | exact (if_pos ⟨by omega, by omega⟩).symm | exact (if_neg (by omega)).symm)) rfl)
        · refine V_lload dX11_floor_39 rfl ?_
          refine V_lconst (v := lI 1) dX11_floor_41 rfl ?_
          refine I_lsub dX11_floor_42 ?_
          refine V_goto (tgt := 48) dX11_floor_43 (by decide) ?_
          exact V_lret dX11_floor_48 rfl (Nat.le_of_ble_eq_true rfl) (Nat.le_of_ble_eq_true rfl) (hQ _ _ _ (lv' (by unfold fdv; rw [← hm]; first | exact (if_pos ⟨by omega, by omega⟩).symm | exact (if_neg (by omega)).symm)) rfl)
      · refine V_lload_n dX11_floor_25 rfl ?_
        refine V_lconst (v := lI 0) dX11_floor_26 rfl ?_
        refine I_lc_ge (tgt := 35) dX11_floor_27 dX11_floor_28 (by decide) ⟨by omega, by omega⟩ ⟨by omega, by omega⟩ (fun h27 => ?_) (fun h27 => ?_)
        · refine V_iconst (v := iI (0)) dX11_floor_35 rfl ?_
          exact V_top (vi (by first | exact if1 (by omega) | exact if0 (by omega))) (j36 _)
        · refine V_iconst (v := iI (1)) dX11_floor_31 rfl ?_
          refine V_goto (tgt := 36) dX11_floor_32 (by decide) ?_
          exact V_top (vi (by first | exact if1 (by omega) | exact if0 (by omega))) (j36 _)
    · refine V_lload_n dX11_floor_14 rfl ?_
      refine V_lconst (v := lI 0) dX11_floor_15 rfl ?_
      refine I_lc_ge (tgt := 24) dX11_floor_16 dX11_floor_17 (by decide) ⟨by omega, by omega⟩ ⟨by omega, by omega⟩ (fun h16 => ?_) (fun h16 => ?_)
      · refine V_iconst (v := iI (0)) dX11_floor_24 rfl ?_
        exact V_top (vi (by first | exact if1 (by omega) | exact if0 (by omega))) (j25 _)
      · refine V_iconst (v := iI (1)) dX11_floor_20 rfl ?_
        refine V_goto (tgt := 25) dX11_floor_21 (by decide) ?_
        exact V_top (vi (by first | exact if1 (by omega) | exact if0 (by omega))) (j25 _)

/-- the clock on board -/
def rclk (ρ : Int → Int) : Int := 1000 * ρ 3 + fdv (ρ 3 * ρ 1) 16
theorem mul_b {a b : Int} {m n : Nat} (ha : a.natAbs ≤ m) (hb : b.natAbs ≤ n) : (a * b).natAbs ≤ m * n := by
  rw [Int.natAbs_mul]
  exact Nat.mul_le_mul ha hb

set_option maxRecDepth 100000 in
set_option maxHeartbeats 4000000 in
theorem r_clockNow (l : Launch) (M0 : ME) (r : Nat) (ρ π : Int → Int) (sv rf hs : Int) (h3 : 0 ≤ ρ 3 ∧ ρ 3 ≤ 100000) (h1 : -1000 ≤ ρ 1 ∧ ρ 1 ≤ 1000) : CF l yX11_clockNow cX11_clockNow 1 (some .long) (rmN 2) [.ref r] (rM M0 r ρ π sv rf hs) (some (.long (lI (rclk ρ)))) (rM M0 r ρ π sv rf hs) := by
  have hm := mul_b (a := ρ 3) (b := ρ 1) (m := 100000) (n := 1000) (by omega) (by omega)
  refine CF.of (L0 := [some _]) (by decide +kernel) rfl rfl (Nat.le_of_ble_eq_true rfl) rfl (fun G A Q sz hQ => ?_)
  refine V_ldc2 (v := lI (1000)) dX11_clockNow_0 (kL (by decide +kernel) kX11_61) ?_
  refine V_aload_n dX11_clockNow_3 rfl ?_
  refine V_getf fX11_7 dX11_clockNow_4 rM_0 rfl ?_
  refine V_iconst (v := iI (3)) dX11_clockNow_7 rfl ?_
  refine R_iald dX11_clockNow_8 ⟨by omega, by omega⟩ ?_
  refine I_i2l dX11_clockNow_9 ⟨by omega, by omega⟩ ?_
  refine I_lmul dX11_clockNow_10 ?_
  refine V_aload_n dX11_clockNow_11 rfl ?_
  refine V_getf fX11_7 dX11_clockNow_12 rM_0 rfl ?_
  refine V_iconst (v := iI (3)) dX11_clockNow_15 rfl ?_
  refine R_iald dX11_clockNow_16 ⟨by omega, by omega⟩ ?_
  refine I_i2l dX11_clockNow_17 ⟨by omega, by omega⟩ ?_
  refine V_aload_n dX11_clockNow_18 rfl ?_
  refine V_getf fX11_7 dX11_clockNow_19 rM_0 rfl ?_
  refine V_iconst (v := iI (1)) dX11_clockNow_22 rfl ?_
  refine R_iald dX11_clockNow_23 ⟨by omega, by omega⟩ ?_
  refine I_i2l dX11_clockNow_24 ⟨by omega, by omega⟩ ?_
  refine I_lmul dX11_clockNow_25 ?_
  refine V_ldc2 (v := lI (16)) dX11_clockNow_26 (kL (by decide +kernel) kX11_108) ?_
  refine V_cS (vs := [_, _]) (r_floor l _ (ρ 3 * ρ 1) 16 (by omega) (by omega) (by decide)) mX11_110 coX11_floor dX11_clockNow_29 rfl rfl (by decide) (Nat.le_of_ble_eq_true rfl) (Nat.le_of_ble_eq_true rfl) (Nat.le_of_ble_eq_true rfl) (fun sz => ?_)
  refine I_ladd dX11_clockNow_32 ?_
  exact V_lret dX11_clockNow_33 rfl (Nat.le_of_ble_eq_true rfl) (Nat.le_of_ble_eq_true rfl) (hQ _ _ _ rfl rfl)

/-- the first byte of a queue goes -/
def rtk1 (ρ : Int → Int) (c : Int) : Int → Int := up (up ρ (46 + c) (ρ (46 + c) + (if ρ (62 + 80 * c) = 15 then 1 else 0))) (58 + c) (ρ (58 + c) + 1)
def rtk2 (ρ : Int → Int) (c : Int) : Int → Int := up (up (up (rtk1 ρ c) (50 + c) (if ¬ ρ (62 + 80 * c) = 15 ∧ ρ (50 + c) < ρ 3 - ρ (62 + 80 * c + 4) then ρ 3 - ρ (62 + 80 * c + 4) else ρ (50 + c))) (58 + c) 0) (54 + c) (ρ (54 + c) - 1)
def rtk (ρ : Int → Int) (c : Int) : Int → Int := if ρ (58 + c) + 1 = 3 + ρ (62 + 80 * c + 2) then shl 5 (rtk2 ρ c) (62 + 80 * c) (62 + 80 * c + 5 * (ρ (54 + c) - 1)) else rtk1 ρ c

set_option maxRecDepth 100000 in
set_option maxHeartbeats 4000000 in
theorem r_takes (l : Launch) (M0 : ME) (r : Nat) (ρ π : Int → Int) (sv rf hs : Int) (c : Int) (hc : 0 ≤ c ∧ c ≤ 3) (hm : 1 ≤ ρ (54 + c) ∧ ρ (54 + c) ≤ 13) (ho : 0 ≤ ρ (58 + c) ∧ ρ (58 + c) ≤ 52) (ha : 0 ≤ ρ (62 + 80 * c) ∧ ρ (62 + 80 * c) ≤ 15) (hn : 0 ≤ ρ (62 + 80 * c + 2) ∧ ρ (62 + 80 * c + 2) ≤ 255) (hsd : 0 ≤ ρ (62 + 80 * c + 3) ∧ ρ (62 + 80 * c + 3) ≤ 255) (h4 : 0 ≤ ρ (62 + 80 * c + 4) ∧ ρ (62 + 80 * c + 4) ≤ 100000) (h3 : 0 ≤ ρ 3 ∧ ρ 3 ≤ 100000) (hL : -1 ≤ ρ (50 + c) ∧ ρ (50 + c) ≤ 100000) : CF l yX11_takes cX11_takes 7 (some .int) (rmN 3) [.ref r, .int (iI c)] (rM M0 r ρ π sv rf hs) (some (.int (iI (rbyte ρ c (ρ (58 + c)))))) (rM M0 r (rtk ρ c) π sv rf hs) := by
  refine CF.of (L0 := [some _, some _, none, none, none, none, none]) (by decide +kernel) rfl rfl (Nat.le_of_ble_eq_true rfl) rfl (fun G A Q sz hQ => ?_)
  refine V_aload_n dX11_takes_0 rfl ?_
  refine V_getf fX11_7 dX11_takes_1 rM_0 rfl ?_
  refine V_bipush (v := iI (58)) dX11_takes_4 (by decide +kernel) ?_
  refine V_iload_n dX11_takes_6 rfl ?_
  refine I_iadd dX11_takes_7 ?_
  refine R_iald dX11_takes_8 ⟨by omega, by omega⟩ ?_
  try simp (disch := omega) only [up_s, up_n, shl_o]
  refine V_istore_n (L' := [some _, some _, some _, none, none, none, none]) dX11_takes_9 rfl (by decide) rfl ?_
  refine V_aload_n dX11_takes_10 rfl ?_
  refine V_iload_n dX11_takes_11 rfl ?_
  refine V_iload_n dX11_takes_12 rfl ?_
  refine V_cV (vs := [_, _]) (r_byteOf l _ _ ρ _ _ _ _ c hc (ρ (58 + c)) (by omega) ⟨by omega, by omega⟩ hsd) mX11_38 coX11_byteOf dX11_takes_13 rM_0 rfl rfl rfl (by decide) (Nat.le_of_ble_eq_true rfl) (Nat.le_of_ble_eq_true rfl) (Nat.le_of_ble_eq_true rfl) (fun sz => ?_)
  refine V_istore_n (L' := [some _, some _, some _, some _, none, none, none]) dX11_takes_16 rfl (by decide) rfl ?_
  refine V_tern (J := 37) (v := .int (iI (if ρ (62 + 80 * c) = 15 then 1 else 0))) (fun sz => ?_) (fun j37 => ?_)
  · obtain ⟨b, hb, eb⟩ := ex_if (p := ρ (62 + 80 * c) = 15)
    rw [eb]
    refine V_istore (L' := [some _, some _, some _, some _, some _, none, none]) dX11_takes_37 (by decide) rfl ?_
    refine V_aload_n dX11_takes_39 rfl ?_
    refine V_getf fX11_7 dX11_takes_40 rM_0 rfl ?_
    refine V_bipush (v := iI (46)) dX11_takes_43 (by decide +kernel) ?_
    refine V_iload_n dX11_takes_45 rfl ?_
    refine I_iadd dX11_takes_46 ?_
    refine V_dup2 dX11_takes_47 rfl rfl ?_
    refine R_iald dX11_takes_48 ⟨by omega, by omega⟩ ?_
    try simp (disch := omega) only [up_s, up_n, shl_o]
    refine V_tern (J := 59) (v := .int (iI b)) (fun sz => ?_) (fun j59 => ?_)
    · refine I_iadd dX11_takes_59 ?_
      refine R_iast dX11_takes_60 ⟨by omega, by omega⟩ ?_
      refine V_aload_n dX11_takes_61 rfl ?_
      refine V_getf fX11_7 dX11_takes_62 rM_0 rfl ?_
      refine V_bipush (v := iI (58)) dX11_takes_65 (by decide +kernel) ?_
      refine V_iload_n dX11_takes_67 rfl ?_
      refine I_iadd dX11_takes_68 ?_
      refine V_dup2 dX11_takes_69 rfl rfl ?_
      refine R_iald dX11_takes_70 ⟨by omega, by omega⟩ ?_
      try simp (disch := omega) only [up_s, up_n, shl_o]
      refine V_iconst (v := iI (1)) dX11_takes_71 rfl ?_
      refine I_iadd dX11_takes_72 ?_
      refine R_iast dX11_takes_73 ⟨by omega, by omega⟩ ?_
      refine V_aload_n dX11_takes_74 rfl ?_
      refine V_getf fX11_7 dX11_takes_75 rM_0 rfl ?_
      refine V_bipush (v := iI (58)) dX11_takes_78 (by decide +kernel) ?_
      refine V_iload_n dX11_takes_80 rfl ?_
      refine I_iadd dX11_takes_81 ?_
      refine R_iald dX11_takes_82 ⟨by omega, by omega⟩ ?_
      try simp (disch := omega) only [up_s, up_n, shl_o]
      refine V_iconst (v := iI (3)) dX11_takes_83 rfl ?_
      refine V_aload_n dX11_takes_84 rfl ?_
      refine V_getf fX11_7 dX11_takes_85 rM_0 rfl ?_
      refine V_iload_n dX11_takes_88 rfl ?_
      refine V_iconst (v := iI (0)) dX11_takes_89 rfl ?_
      refine V_cS (vs := [_, _]) (r_at l _ c 0) mX11_34 coX11_at dX11_takes_90 rfl rfl (by decide) (Nat.le_of_ble_eq_true rfl) (Nat.le_of_ble_eq_true rfl) (Nat.le_of_ble_eq_true rfl) (fun sz => ?_)
      simp only [Int.mul_zero, Int.add_zero]
      refine V_iconst (v := iI (2)) dX11_takes_93 rfl ?_
      refine I_iadd dX11_takes_94 ?_
      refine R_iald dX11_takes_95 ⟨by omega, by omega⟩ ?_
      try simp (disch := omega) only [up_s, up_n, shl_o]
      refine I_iadd dX11_takes_96 ?_
      refine I_icmp_ne (tgt := 233) dX11_takes_97 (by decide) ⟨by omega, by omega⟩ ⟨by omega, by omega⟩ (fun h97 => ?_) (fun h97 => ?_)
      · refine V_iload_n dX11_takes_233 rfl ?_
        exact V_ireti dX11_takes_234 rfl (Nat.le_of_ble_eq_true rfl) (Nat.le_of_ble_eq_true rfl) (hQ _ _ _ rfl (by unfold rtk; first | (rw [if_neg (by omega)]; unfold rtk1; rw [eb]; done) | (rw [if_pos (by omega), show j = 62 + 80 * c + 5 * (ρ (54 + c) - 1) by omega]; unfold rtk2 rtk1; rw [eb, ← hlt])))
      · refine V_aload_n dX11_takes_100 rfl ?_
        refine V_getf fX11_7 dX11_takes_101 rM_0 rfl ?_
        refine V_iconst (v := iI (3)) dX11_takes_104 rfl ?_
        refine R_iald dX11_takes_105 ⟨by omega, by omega⟩ ?_
        try simp (disch := omega) only [up_s, up_n, shl_o]
        refine V_aload_n dX11_takes_106 rfl ?_
        refine V_getf fX11_7 dX11_takes_107 rM_0 rfl ?_
        refine V_iload_n dX11_takes_110 rfl ?_
        refine V_iconst (v := iI (0)) dX11_takes_111 rfl ?_
        refine V_cS (vs := [_, _]) (r_at l _ c 0) mX11_34 coX11_at dX11_takes_112 rfl rfl (by decide) (Nat.le_of_ble_eq_true rfl) (Nat.le_of_ble_eq_true rfl) (Nat.le_of_ble_eq_true rfl) (fun sz => ?_)
        simp only [Int.mul_zero, Int.add_zero]
        refine V_iconst (v := iI (4)) dX11_takes_115 rfl ?_
        refine I_iadd dX11_takes_116 ?_
        refine R_iald dX11_takes_117 ⟨by omega, by omega⟩ ?_
        try simp (disch := omega) only [up_s, up_n, shl_o]
        refine I_isub dX11_takes_118 ?_
        refine V_istore (L' := [some _, some _, some _, some _, some _, some _, none]) dX11_takes_119 (by decide) rfl ?_
        refine V_aload_n dX11_takes_121 rfl ?_
        refine V_getf fX11_7 dX11_takes_122 rM_0 rfl ?_
        refine V_bipush (v := iI (50)) dX11_takes_125 (by decide +kernel) ?_
        refine V_iload_n dX11_takes_127 rfl ?_
        refine I_iadd dX11_takes_128 ?_
        refine V_tern (J := 162) (v := .int (iI (if ¬ ρ (62 + 80 * c) = 15 ∧ ρ (50 + c) < ρ 3 - ρ (62 + 80 * c + 4) then ρ 3 - ρ (62 + 80 * c + 4) else ρ (50 + c)))) (fun sz => ?_) (fun j162 => ?_)
        · obtain ⟨lt, hlt⟩ : ∃ lt, lt = (if ¬ ρ (62 + 80 * c) = 15 ∧ ρ (50 + c) < ρ 3 - ρ (62 + 80 * c + 4) then ρ 3 - ρ (62 + 80 * c + 4) else ρ (50 + c)) := ⟨_, rfl⟩
          rw [← hlt]
          refine R_iast dX11_takes_162 ⟨by omega, by omega⟩ ?_
          refine V_aload_n dX11_takes_163 rfl ?_
          refine V_getf fX11_7 dX11_takes_164 rM_0 rfl ?_
          refine V_bipush (v := iI (58)) dX11_takes_167 (by decide +kernel) ?_
          refine V_iload_n dX11_takes_169 rfl ?_
          refine I_iadd dX11_takes_170 ?_
          refine V_iconst (v := iI (0)) dX11_takes_171 rfl ?_
          refine R_iast dX11_takes_172 ⟨by omega, by omega⟩ ?_
          refine V_aload_n dX11_takes_173 rfl ?_
          refine V_getf fX11_7 dX11_takes_174 rM_0 rfl ?_
          refine V_bipush (v := iI (54)) dX11_takes_177 (by decide +kernel) ?_
          refine V_iload_n dX11_takes_179 rfl ?_
          refine I_iadd dX11_takes_180 ?_
          refine V_dup2 dX11_takes_181 rfl rfl ?_
          refine R_iald dX11_takes_182 ⟨by omega, by omega⟩ ?_
          try simp (disch := omega) only [up_s, up_n, shl_o]
          refine V_iconst (v := iI (1)) dX11_takes_183 rfl ?_
          refine I_isub dX11_takes_184 ?_
          refine R_iast dX11_takes_185 ⟨by omega, by omega⟩ ?_
          refine V_iload_n dX11_takes_186 rfl ?_
          refine V_iconst (v := iI (0)) dX11_takes_187 rfl ?_
          refine V_cS (vs := [_, _]) (r_at l _ c 0) mX11_34 coX11_at dX11_takes_188 rfl rfl (by decide) (Nat.le_of_ble_eq_true rfl) (Nat.le_of_ble_eq_true rfl) (Nat.le_of_ble_eq_true rfl) (fun sz => ?_)
          simp only [Int.mul_zero, Int.add_zero]
          refine V_istore (L' := [some _, some _, some _, some _, some _, some _, some _]) dX11_takes_191 (by decide) rfl ?_
          have key193 : ∀ (d : Nat) (j : Int) (sz : Nat), 62 + 80 * c ≤ j ∧ j ≤ 62 + 80 * c + 5 * (ρ (54 + c) - 1) → (62 + 80 * c + 5 * (ρ (54 + c) - 1) - j).toNat = d → V l G A (rmN 3) RX11 "takes" cX11_takes 7 (some .int) Q nX 0 0 (rM M0 r (shl 5 (up (up (up (up (up ρ (46 + c) (ρ (46 + c) + b)) (58 + c) (ρ (58 + c) + 1)) (50 + c) lt) (58 + c) 0) (54 + c) (ρ (54 + c) - 1)) (62 + 80 * c) j) π sv rf hs) sz 193 [some (.ref r), some (.int (iI c)), some (.int (iI (ρ (58 + c)))), some (.int (iI (rbyte ρ c (ρ (58 + c))))), some (.int (iI b)), some (.int (iI (ρ 3 - ρ (62 + 80 * c + 4)))), some (.int (iI j))] [] := by
            intro d
            induction d using Nat.strongRecOn with
            | ind d ih193 =>
              intro j  sz hj hd193
              refine V_iload dX11_takes_193 rfl ?_
              refine V_iload_n dX11_takes_195 rfl ?_
              refine V_aload_n dX11_takes_196 rfl ?_
              refine V_getf fX11_7 dX11_takes_197 rM_0 rfl ?_
              refine V_bipush (v := iI (54)) dX11_takes_200 (by decide +kernel) ?_
              refine V_iload_n dX11_takes_202 rfl ?_
              refine I_iadd dX11_takes_203 ?_
              refine R_iald dX11_takes_204 ⟨by omega, by omega⟩ ?_
              try simp (disch := omega) only [up_s, up_n, shl_o]
              refine V_cS (vs := [_, _]) (r_at l _ c (ρ (54 + c) - 1)) mX11_34 coX11_at dX11_takes_205 rfl rfl (by decide) (Nat.le_of_ble_eq_true rfl) (Nat.le_of_ble_eq_true rfl) (Nat.le_of_ble_eq_true rfl) (fun sz => ?_)
              refine I_icmp_ge (tgt := 233) dX11_takes_208 (by decide) ⟨by omega, by omega⟩ ⟨by omega, by omega⟩ (fun h208 => ?_) (fun h208 => ?_)
              · refine V_iload_n dX11_takes_233 rfl ?_
                exact V_ireti dX11_takes_234 rfl (Nat.le_of_ble_eq_true rfl) (Nat.le_of_ble_eq_true rfl) (hQ _ _ _ rfl (by unfold rtk; first | (rw [if_neg (by omega)]; unfold rtk1; rw [eb]; done) | (rw [if_pos (by omega), show j = 62 + 80 * c + 5 * (ρ (54 + c) - 1) by omega]; unfold rtk2 rtk1; rw [eb, ← hlt])))
              · refine V_aload_n dX11_takes_211 rfl ?_
                refine V_getf fX11_7 dX11_takes_212 rM_0 rfl ?_
                refine V_iload dX11_takes_215 rfl ?_
                refine V_aload_n dX11_takes_217 rfl ?_
                refine V_getf fX11_7 dX11_takes_218 rM_0 rfl ?_
                refine V_iload dX11_takes_221 rfl ?_
                refine V_iconst (v := iI (5)) dX11_takes_223 rfl ?_
                refine I_iadd dX11_takes_224 ?_
                refine R_iald dX11_takes_225 ⟨by omega, by omega⟩ ?_
                rw [shl_o (show j + 5 < 62 + 80 * c ∨ j ≤ j + 5 by omega)]
                refine R_iast dX11_takes_226 ⟨by omega, by omega⟩ ?_
                refine I_iinc (L' := [some _, some _, some _, some _, some _, some _, some _]) dX11_takes_227 rfl (by decide) rfl ?_
                refine V_goto (tgt := 193) dX11_takes_230 (by decide) ?_
                exact V_eqM (by rw [← shl_s hj.1]) (V_wk' (ih193 _ (by omega) (j + 1) sz ⟨by omega, by omega⟩ rfl) ⟨rfl, rfl, rfl, rfl, rfl, rfl, rfl, trivial⟩)
          exact V_eqM (by rw [shl_0]) (V_wk' (key193 _ (62 + 80 * c) sz ⟨by omega, by omega⟩ rfl) ⟨rfl, rfl, rfl, rfl, rfl, rfl, rfl, trivial⟩)
        · refine V_iload dX11_takes_129 rfl ?_
          refine I_if_ne (tgt := 153) dX11_takes_131 (by decide) ⟨by omega, by omega⟩ (fun h131 => ?_) (fun h131 => ?_)
          · refine V_aload_n dX11_takes_153 rfl ?_
            refine V_getf fX11_7 dX11_takes_154 rM_0 rfl ?_
            refine V_bipush (v := iI (50)) dX11_takes_157 (by decide +kernel) ?_
            refine V_iload_n dX11_takes_159 rfl ?_
            refine I_iadd dX11_takes_160 ?_
            refine R_iald dX11_takes_161 ⟨by omega, by omega⟩ ?_
            try simp (disch := omega) only [up_s, up_n, shl_o]
            exact V_top (vi (by first | rw [if_pos (by omega)] | rw [if_neg (by omega)])) (j162 _)
          · refine V_iload dX11_takes_134 rfl ?_
            refine V_aload_n dX11_takes_136 rfl ?_
            refine V_getf fX11_7 dX11_takes_137 rM_0 rfl ?_
            refine V_bipush (v := iI (50)) dX11_takes_140 (by decide +kernel) ?_
            refine V_iload_n dX11_takes_142 rfl ?_
            refine I_iadd dX11_takes_143 ?_
            refine R_iald dX11_takes_144 ⟨by omega, by omega⟩ ?_
            try simp (disch := omega) only [up_s, up_n, shl_o]
            refine I_icmp_le (tgt := 153) dX11_takes_145 (by decide) ⟨by omega, by omega⟩ ⟨by omega, by omega⟩ (fun h145 => ?_) (fun h145 => ?_)
            · refine V_aload_n dX11_takes_153 rfl ?_
              refine V_getf fX11_7 dX11_takes_154 rM_0 rfl ?_
              refine V_bipush (v := iI (50)) dX11_takes_157 (by decide +kernel) ?_
              refine V_iload_n dX11_takes_159 rfl ?_
              refine I_iadd dX11_takes_160 ?_
              refine R_iald dX11_takes_161 ⟨by omega, by omega⟩ ?_
              try simp (disch := omega) only [up_s, up_n, shl_o]
              exact V_top (vi (by first | rw [if_pos (by omega)] | rw [if_neg (by omega)])) (j162 _)
            · refine V_iload dX11_takes_148 rfl ?_
              refine V_goto (tgt := 162) dX11_takes_150 (by decide) ?_
              exact V_top (vi (by first | rw [if_pos (by omega)] | rw [if_neg (by omega)])) (j162 _)
    · refine V_iload dX11_takes_49 rfl ?_
      refine I_if_eq (tgt := 58) dX11_takes_51 (by decide) ⟨by omega, by omega⟩ (fun h51 => ?_) (fun h51 => ?_)
      · refine V_iconst (v := iI (0)) dX11_takes_58 rfl ?_
        exact V_top (vi (by omega)) (j59 _)
      · refine V_iconst (v := iI (1)) dX11_takes_54 rfl ?_
        refine V_goto (tgt := 59) dX11_takes_55 (by decide) ?_
        exact V_top (vi (by omega)) (j59 _)
  · refine V_aload_n dX11_takes_17 rfl ?_
    refine V_getf fX11_7 dX11_takes_18 rM_0 rfl ?_
    refine V_iload_n dX11_takes_21 rfl ?_
    refine V_iconst (v := iI (0)) dX11_takes_22 rfl ?_
    refine V_cS (vs := [_, _]) (r_at l _ c 0) mX11_34 coX11_at dX11_takes_23 rfl rfl (by decide) (Nat.le_of_ble_eq_true rfl) (Nat.le_of_ble_eq_true rfl) (Nat.le_of_ble_eq_true rfl) (fun sz => ?_)
    simp only [Int.mul_zero, Int.add_zero]
    refine R_iald dX11_takes_26 ⟨by omega, by omega⟩ ?_
    try simp (disch := omega) only [up_s, up_n, shl_o]
    refine V_bipush (v := iI (15)) dX11_takes_27 (by decide +kernel) ?_
    refine I_icmp_ne (tgt := 36) dX11_takes_29 (by decide) ⟨by omega, by omega⟩ ⟨by omega, by omega⟩ (fun h29 => ?_) (fun h29 => ?_)
    · refine V_iconst (v := iI (0)) dX11_takes_36 rfl ?_
      exact V_top (vi (by first | exact if1 (by omega) | exact if0 (by omega))) (j37 _)
    · refine V_iconst (v := iI (1)) dX11_takes_32 rfl ?_
      refine V_goto (tgt := 37) dX11_takes_33 (by decide) ?_
      exact V_top (vi (by first | exact if1 (by omega) | exact if0 (by omega))) (j37 _)
