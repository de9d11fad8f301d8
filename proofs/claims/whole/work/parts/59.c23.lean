set_option maxRecDepth 100000 in
set_option maxHeartbeats 4000000 in
theorem p_frameByte (l : Launch) (hfl : l.stackTraces = false) (M : ME) (x : Nat) (ρ π : Int → Int) (sv : Int) (hT : TL M x ρ π sv) (hW : Wr ρ) (i : Int) (hi : -2147483648 ≤ i ∧ i < 2147483648) (k : Int) (hk : -2147483648 ≤ k ∧ k < 2147483648) (e : Int) (he : (¬ ((0 ≤ i ∧ i ≤ ρ 382 - 1) ∧ (0 ≤ k ∧ k ≤ ρ (383 + 50 * i) + 5)) ∧ e = 1) ∨ (((0 ≤ i ∧ i ≤ ρ 382 - 1) ∧ (0 ≤ k ∧ k ≤ ρ (383 + 50 * i) + 5)) ∧ e = 0)) : CX l yX10_frameByte cX10_frameByte 3 (some .int) (rmX 8) [.ref x, .int (iI i), .int (iI k)] M (fun v M' => e = 0 ∧ v = some (.int (iI (ρ (383 + 50 * i + 4 + k)))) ∧ M' = M) (fun E M' => ((e = 1 ∧ E = ioo)) ∧ M' = M) := by
  obtain ⟨a, f, x0, x1, x2, x3, x4, x5⟩ := id hT
  have ba := x2.1.b
  obtain ⟨sq, m1, m2, m3, m4⟩ := id x3.1
  obtain ⟨fr, w1, w2, w3, w4, w5, w6⟩ := id x3.2.2.1
  have hw8 := hW.1
  refine CX.of (L0 := [some _, some _, some _]) (by decide +kernel) rfl rfl (Nat.le_of_ble_eq_true rfl) rfl (fun G A Q X sz hQ hX => ?_)
  refine V_iload_n dX10_frameByte_0 rfl ?_
  refine V_iconst (v := iI (0)) dX10_frameByte_1 rfl ?_
  refine V_aload_n dX10_frameByte_2 rfl ?_
  refine V_getf fX10_10 dX10_frameByte_3 x0 rfl ?_
  refine V_getf fX10_106 dX10_frameByte_6 m1 rfl ?_
  refine V_getf fX10_110 dX10_frameByte_9 w1 rfl ?_
  refine V_iconst (v := iI (1)) dX10_frameByte_12 rfl ?_
  refine I_isub dX10_frameByte_13 ?_
  refine V_cS (vs := [_, _, _]) (x_outside l M (i) (0) (ρ 382 - 1) (by unfold r32; omega)) mX10_24 coX10_outside dX10_frameByte_14 rfl rfl (by decide) (Nat.le_of_ble_eq_true rfl) (Nat.le_of_ble_eq_true rfl) (Nat.le_of_ble_eq_true rfl) (fun sz => ?_)
  obtain ⟨vo0, ho0, eo0⟩ := ex_if (p := i < 0 ∨ ρ 382 - 1 < i)
  rw [eo0]
  refine I_if_ne (tgt := 45) dX10_frameByte_17 (by decide) ⟨by omega, by omega⟩ (fun h17 => ?_) (fun h17 => ?_)
  · exact V_ioo hfl sX10_146 dX10_frameByte_45 dX10_frameByte_48 dX10_frameByte_49 dX10_frameByte_51 dX10_frameByte_54 (by decide) (Nat.le_of_ble_eq_true rfl) (Nat.le_of_ble_eq_true rfl) (Nat.le_of_ble_eq_true rfl) (hX _ _ ⟨⟨by omega, rfl⟩, rfl⟩)
  · obtain ⟨gf, o1, o2, o3, o4⟩ := id (w6 i (by omega) (by omega))
    have hDi := (hW.2 i (by omega) (by omega)).1
    have bfi := w3 i (by omega) (by omega)
    have hsD : sl ρ (383 + 50 * i) 0 = ρ (383 + 50 * i) := by unfold sl; rw [Int.add_zero]
    refine V_iload_n dX10_frameByte_20 rfl ?_
    refine V_iconst (v := iI (0)) dX10_frameByte_21 rfl ?_
    refine V_aload_n dX10_frameByte_22 rfl ?_
    refine V_getf fX10_10 dX10_frameByte_23 x0 rfl ?_
    refine V_getf fX10_106 dX10_frameByte_26 m1 rfl ?_
    refine V_getf fX10_139 dX10_frameByte_29 w1 rfl ?_
    refine V_iload_n dX10_frameByte_32 rfl ?_
    refine I_aald ao3 dX10_frameByte_33 w2 ⟨by omega, by omega⟩ (by decide) ?_
    refine V_cV (vs := []) (f_size l M (fr i) (sl ρ (383 + 50 * i) 0) _ _ _ o1) mX10_142 coX2_size dX10_frameByte_34 o1 rfl rfl rfl (by decide) (Nat.le_of_ble_eq_true rfl) (Nat.le_of_ble_eq_true rfl) (Nat.le_of_ble_eq_true rfl) (fun sz => ?_)
    refine V_iconst (v := iI (1)) dX10_frameByte_37 rfl ?_
    refine I_isub dX10_frameByte_38 ?_
    refine V_cS (vs := [_, _, _]) (x_outside l M (k) (0) (4 + sl ρ (383 + 50 * i) 0 + 2 - 1) (by unfold r32; omega)) mX10_24 coX10_outside dX10_frameByte_39 rfl rfl (by decide) (Nat.le_of_ble_eq_true rfl) (Nat.le_of_ble_eq_true rfl) (Nat.le_of_ble_eq_true rfl) (fun sz => ?_)
    obtain ⟨vo1, ho1, eo1⟩ := ex_if (p := k < 0 ∨ 4 + sl ρ (383 + 50 * i) 0 + 2 - 1 < k)
    rw [eo1]
    refine I_if_eq (tgt := 55) dX10_frameByte_42 (by decide) ⟨by omega, by omega⟩ (fun h42 => ?_) (fun h42 => ?_)
    · refine V_aload_n dX10_frameByte_55 rfl ?_
      refine V_getf fX10_10 dX10_frameByte_56 x0 rfl ?_
      refine V_getf fX10_106 dX10_frameByte_59 m1 rfl ?_
      refine V_getf fX10_139 dX10_frameByte_62 w1 rfl ?_
      refine V_iload_n dX10_frameByte_65 rfl ?_
      refine I_aald ao3 dX10_frameByte_66 w2 ⟨by omega, by omega⟩ (by decide) ?_
      refine V_getf fX10_148 dX10_frameByte_67 o1 rfl ?_
      refine V_iload_n dX10_frameByte_70 rfl ?_
      refine I_iald dX10_frameByte_71 o2 ⟨by omega, by omega⟩ (by decide) ?_
      exact V_ireti dX10_frameByte_72 rfl (Nat.le_of_ble_eq_true rfl) (Nat.le_of_ble_eq_true rfl) (hQ _ _ _ ⟨by omega, iv (by rw [o4 k (by omega) (by omega)]; unfold sl; congr 1; omega), rfl⟩)
    · exact V_ioo hfl sX10_146 dX10_frameByte_45 dX10_frameByte_48 dX10_frameByte_49 dX10_frameByte_51 dX10_frameByte_54 (by decide) (Nat.le_of_ble_eq_true rfl) (Nat.le_of_ble_eq_true rfl) (Nat.le_of_ble_eq_true rfl) (hX _ _ ⟨⟨by omega, rfl⟩, rfl⟩)

set_option maxRecDepth 100000 in
set_option maxHeartbeats 4000000 in
theorem p_corrupt (l : Launch) (hfl : l.stackTraces = false) (M : ME) (x : Nat) (ρ π : Int → Int) (sv : Int) (hT : TL M x ρ π sv) (hv : 0 ≤ sv ∧ sv ≤ 3) (hW : Wr ρ) (hI : RI ρ) (hP : ∀ i, 0 ≤ i → i < sv → Wr (sl π (12309 * i)) ∧ RI (sl π (12309 * i))) (i : Int) (hi : -2147483648 ≤ i ∧ i < 2147483648) (k : Int) (hk : -2147483648 ≤ k ∧ k < 2147483648) (m : Int) (hm : -2147483648 ≤ m ∧ m < 2147483648) (e : Int) (he : (¬ ((0 ≤ i ∧ i ≤ ρ 382 - 1) ∧ (0 ≤ k ∧ k ≤ ρ (383 + 50 * i) + 5)) ∧ e = 1) ∨ (((0 ≤ i ∧ i ≤ ρ 382 - 1) ∧ (0 ≤ k ∧ k ≤ ρ (383 + 50 * i) + 5)) ∧ ¬ (1 ≤ m ∧ m ≤ 255) ∧ e = 2) ∨ (((0 ≤ i ∧ i ≤ ρ 382 - 1) ∧ (0 ≤ k ∧ k ≤ ρ (383 + 50 * i) + 5)) ∧ (1 ≤ m ∧ m ≤ 255) ∧ e = 0)) : CX l yX10_corrupt cX10_corrupt 5 (some .int) (rmX 8) [.ref x, .int (iI i), .int (iI k), .int (iI m)] M (fun v M' => e = 0 ∧ v = some (.int (iI (zx (ρ (383 + 50 * i + 4 + k)) m))) ∧ TL M' x (up ρ (383 + 50 * i + 4 + k) (zx (ρ (383 + 50 * i + 4 + k)) m)) (svP ρ π sv) (svS sv) ∧ FR M M' x 1062) (fun E M' => ((e = 1 ∧ E = ioo) ∨ (e = 2 ∧ E = iae)) ∧ M' = M) := by
  obtain ⟨a, f, x0, x1, x2, x3, x4, x5⟩ := id hT
  have ba := x2.1.b
  obtain ⟨sq, m1, m2, m3, m4⟩ := id x3.1
  obtain ⟨fr, w1, w2, w3, w4, w5, w6⟩ := id x3.2.2.1
  have hw8 := hW.1
  refine CX.of (L0 := [some _, some _, some _, some _, none]) (by decide +kernel) rfl rfl (Nat.le_of_ble_eq_true rfl) rfl (fun G A Q X sz hQ hX => ?_)
  refine V_iload_n dX10_corrupt_0 rfl ?_
  refine V_iconst (v := iI (0)) dX10_corrupt_1 rfl ?_
  refine V_aload_n dX10_corrupt_2 rfl ?_
  refine V_getf fX10_10 dX10_corrupt_3 x0 rfl ?_
  refine V_getf fX10_106 dX10_corrupt_6 m1 rfl ?_
  refine V_getf fX10_110 dX10_corrupt_9 w1 rfl ?_
  refine V_iconst (v := iI (1)) dX10_corrupt_12 rfl ?_
  refine I_isub dX10_corrupt_13 ?_
  refine V_cS (vs := [_, _, _]) (x_outside l M (i) (0) (ρ 382 - 1) (by unfold r32; omega)) mX10_24 coX10_outside dX10_corrupt_14 rfl rfl (by decide) (Nat.le_of_ble_eq_true rfl) (Nat.le_of_ble_eq_true rfl) (Nat.le_of_ble_eq_true rfl) (fun sz => ?_)
  obtain ⟨vo0, ho0, eo0⟩ := ex_if (p := i < 0 ∨ ρ 382 - 1 < i)
  rw [eo0]
  refine I_if_ne (tgt := 45) dX10_corrupt_17 (by decide) ⟨by omega, by omega⟩ (fun h17 => ?_) (fun h17 => ?_)
  · exact V_ioo hfl sX10_146 dX10_corrupt_45 dX10_corrupt_48 dX10_corrupt_49 dX10_corrupt_51 dX10_corrupt_54 (by decide) (Nat.le_of_ble_eq_true rfl) (Nat.le_of_ble_eq_true rfl) (Nat.le_of_ble_eq_true rfl) (hX _ _ ⟨Or.inl ⟨by omega, rfl⟩, rfl⟩)
  · obtain ⟨gf, o1, o2, o3, o4⟩ := id (w6 i (by omega) (by omega))
    have hDi := (hW.2 i (by omega) (by omega)).1
    have bfi := w3 i (by omega) (by omega)
    have hsD : sl ρ (383 + 50 * i) 0 = ρ (383 + 50 * i) := by unfold sl; rw [Int.add_zero]
    refine V_iload_n dX10_corrupt_20 rfl ?_
    refine V_iconst (v := iI (0)) dX10_corrupt_21 rfl ?_
    refine V_aload_n dX10_corrupt_22 rfl ?_
    refine V_getf fX10_10 dX10_corrupt_23 x0 rfl ?_
    refine V_getf fX10_106 dX10_corrupt_26 m1 rfl ?_
    refine V_getf fX10_139 dX10_corrupt_29 w1 rfl ?_
    refine V_iload_n dX10_corrupt_32 rfl ?_
    refine I_aald ao3 dX10_corrupt_33 w2 ⟨by omega, by omega⟩ (by decide) ?_
    refine V_cV (vs := []) (f_size l M (fr i) (sl ρ (383 + 50 * i) 0) _ _ _ o1) mX10_142 coX2_size dX10_corrupt_34 o1 rfl rfl rfl (by decide) (Nat.le_of_ble_eq_true rfl) (Nat.le_of_ble_eq_true rfl) (Nat.le_of_ble_eq_true rfl) (fun sz => ?_)
    refine V_iconst (v := iI (1)) dX10_corrupt_37 rfl ?_
    refine I_isub dX10_corrupt_38 ?_
    refine V_cS (vs := [_, _, _]) (x_outside l M (k) (0) (4 + sl ρ (383 + 50 * i) 0 + 2 - 1) (by unfold r32; omega)) mX10_24 coX10_outside dX10_corrupt_39 rfl rfl (by decide) (Nat.le_of_ble_eq_true rfl) (Nat.le_of_ble_eq_true rfl) (Nat.le_of_ble_eq_true rfl) (fun sz => ?_)
    obtain ⟨vo1, ho1, eo1⟩ := ex_if (p := k < 0 ∨ 4 + sl ρ (383 + 50 * i) 0 + 2 - 1 < k)
    rw [eo1]
    refine I_if_eq (tgt := 55) dX10_corrupt_42 (by decide) ⟨by omega, by omega⟩ (fun h42 => ?_) (fun h42 => ?_)
    · refine V_iload_n dX10_corrupt_55 rfl ?_
      refine V_iconst (v := iI (1)) dX10_corrupt_56 rfl ?_
      refine V_sipush (v := iI (255)) dX10_corrupt_57 (by decide +kernel) ?_
      refine V_cS (vs := [_, _, _]) (x_outside l M (m) (1) (255) (by unfold r32; omega)) mX10_24 coX10_outside dX10_corrupt_60 rfl rfl (by decide) (Nat.le_of_ble_eq_true rfl) (Nat.le_of_ble_eq_true rfl) (Nat.le_of_ble_eq_true rfl) (fun sz => ?_)
      obtain ⟨vo2, ho2, eo2⟩ := ex_if (p := m < 1 ∨ 255 < m)
      rw [eo2]
      refine I_if_eq (tgt := 76) dX10_corrupt_63 (by decide) ⟨by omega, by omega⟩ (fun h63 => ?_) (fun h63 => ?_)
      · refine V_aload_n dX10_corrupt_76 rfl ?_
        refine V_cVE0 (vs := []) (x_saveState l M x ρ π sv hT hv hW hI hP) mX10_44 coX10_saveState dX10_corrupt_77 x0 rfl rfl rfl (by decide) (Nat.le_of_ble_eq_true rfl) (Nat.le_of_ble_eq_true rfl) (Nat.le_of_ble_eq_true rfl) (fun N1 sz hp => ?_)
        obtain ⟨hT1, hF1⟩ := hp
        have hP1 := svP_P hv hW hI hP
        have hsv1 : 0 ≤ svS sv ∧ svS sv ≤ 3 := by unfold svS; split <;> omega
        obtain ⟨b, g, y0, y1, y2, y3, y4, y5⟩ := id hT1
        have bb := y2.1.b
        obtain ⟨sqb, k1, k2, k3, k4⟩ := id y3.1
        have he0 : e = 0 ∧ (0 ≤ i ∧ i < ρ 382) ∧ (0 ≤ k ∧ k ≤ ρ (383 + 50 * i) + 5) ∧ (1 ≤ m ∧ m ≤ 255) := by omega
        clear ho0 ho1 ho2 he w1 w2 w3 w4 w5 w6 o1 o2 o3 o4 bfi hDi
        obtain ⟨gr, w1, w2, w3, w4, w5, w6⟩ := id y3.2.2.1
        obtain ⟨gb, o1, o2, o3, o4⟩ := id (w6 i (by omega) (by omega))
        have hDi := (hW.2 i (by omega) (by omega)).1
        have bfi := w3 i (by omega) (by omega)
        refine V_aload_n dX10_corrupt_80 rfl ?_
        refine V_getf fX10_10 dX10_corrupt_81 y0 rfl ?_
        refine V_getf fX10_106 dX10_corrupt_84 k1 rfl ?_
        refine V_getf fX10_139 dX10_corrupt_87 w1 rfl ?_
        refine V_iload_n dX10_corrupt_90 rfl ?_
        refine I_aald ao3 dX10_corrupt_91 w2 ⟨by omega, by omega⟩ (by decide) ?_
        refine V_getf fX10_148 dX10_corrupt_92 o1 rfl ?_
        refine V_astore (L' := [some _, some _, some _, some _, some _]) dX10_corrupt_95 (by decide) rfl ?_
        refine V_aload dX10_corrupt_97 rfl ?_
        refine V_iload_n dX10_corrupt_99 rfl ?_
        refine V_dup2 dX10_corrupt_100 rfl rfl ?_
        have hgk : gb k = ρ (383 + 50 * i + 4 + k) := by rw [o4 k (by omega) (by omega)]; unfold sl; congr 1; omega
        have hbk := (hW.2 i (by omega) (by omega)).2.2.2.2 k (by omega) (by omega)
        rw [← hgk] at hbk
        refine I_iald dX10_corrupt_101 o2 ⟨by omega, by omega⟩ (by decide) ?_
        refine V_iload_n dX10_corrupt_102 rfl ?_
        refine I_ixor dX10_corrupt_103 (by omega) (by omega) ?_
        refine I_iast dX10_corrupt_104 o2 ⟨by omega, by omega⟩ (by decide) ?_
        refine V_aload dX10_corrupt_105 rfl ?_
        refine V_gen (fun K hK => ?_)
        have gK0 := (congrFun hK (gr i + 1)).trans mu_eq
        have hKo : ∀ q, q ≠ gr i + 1 → K q = N1 q := fun q z => by rw [hK, mu_ne z]
        have hKb : K (gr i + 1) = some (aI 46 (up gb k (zx (gb k) m))) := (congrFun hK _).trans mu_eq
        obtain ⟨ρ1, hρ1⟩ : ∃ ρ1, ρ1 = up ρ (383 + 50 * i + 4 + k) (zx (ρ (383 + 50 * i + 4 + k)) m) := ⟨_, rfl⟩
        have u1 : ρ1 (383 + 50 * i + 4 + k) = zx (ρ (383 + 50 * i + 4 + k)) m := by rw [hρ1, up_s]
        have u3 : ∀ q, q ≠ 383 + 50 * i + 4 + k → ρ1 q = ρ q := fun q v => by rw [hρ1, up_n v]
        have uD := u3 (383 + 50 * i) (by omega)
        have hO : FO K (gr i) (sl ρ1 (383 + 50 * i)) (ρ1 (383 + 50 * i) + 6) := by
          refine ⟨_, ?_, hKb, ?_, fun q u v => ?_⟩
          · rw [hKo _ (by omega), o1]; unfold sl; rw [u3 _ (by omega), u3 _ (by omega), u3 _ (by omega), u3 _ (by omega)]
          · unfold sl; rw [u3 _ (by omega)]; exact o3
          · rw [uD] at v
            by_cases e9 : q = k
            · rw [e9, up_s]; unfold sl; rw [show 383 + 50 * i + (4 + k) = 383 + 50 * i + 4 + k by omega, u1, hgk]
            · rw [up_n e9, o4 q u v]; unfold sl; rw [u3 _ (by omega)]
        rw [← hρ1] at hQ
        have hz := (TL.put y0 y1 y2 y4 y5 hsv1.2 hP1 (y3.wr hI (WR.set w1 w2 w3 w4 w5 w6 hW (i := i) (by omega) (by omega) hO (fun q _ _ u v => hKo q v) (fun q u => u3 q (by omega))) (fun q u => hKo q (by omega)) (fun q u => u3 q (by omega))) (fun q hq => hKo q (by omega)))
        have hzx : zx (gb k) m = zx (ρ (383 + 50 * i + 4 + k)) m := by rw [hgk]
        refine V_iload_n dX10_corrupt_107 rfl ?_
        refine I_iald dX10_corrupt_108 gK0 ⟨by omega, by omega⟩ (by decide) ?_
        exact V_ireti dX10_corrupt_109 rfl (Nat.le_of_ble_eq_true rfl) (Nat.le_of_ble_eq_true rfl) (hQ _ _ _ ⟨by omega, iv (by rw [up_s]; exact hzx), hz.1, hF1.tr hz.2⟩)
      · exact V_iae hfl sX10_152 dX10_corrupt_66 dX10_corrupt_69 dX10_corrupt_70 dX10_corrupt_72 dX10_corrupt_75 (by decide) (Nat.le_of_ble_eq_true rfl) (Nat.le_of_ble_eq_true rfl) (Nat.le_of_ble_eq_true rfl) (hX _ _ ⟨Or.inr (⟨by omega, rfl⟩), rfl⟩)
    · exact V_ioo hfl sX10_146 dX10_corrupt_45 dX10_corrupt_48 dX10_corrupt_49 dX10_corrupt_51 dX10_corrupt_54 (by decide) (Nat.le_of_ble_eq_true rfl) (Nat.le_of_ble_eq_true rfl) (Nat.le_of_ble_eq_true rfl) (hX _ _ ⟨Or.inl ⟨by omega, rfl⟩, rfl⟩)

set_option maxRecDepth 100000 in
set_option maxHeartbeats 4000000 in
theorem p_repair (l : Launch) (hfl : l.stackTraces = false) (M : ME) (x : Nat) (ρ π : Int → Int) (sv : Int) (hT : TL M x ρ π sv) (hv : 0 ≤ sv ∧ sv ≤ 3) (hW : Wr ρ) (hI : RI ρ) (hP : ∀ i, 0 ≤ i → i < sv → Wr (sl π (12309 * i)) ∧ RI (sl π (12309 * i))) (i : Int) (hi : -2147483648 ≤ i ∧ i < 2147483648) (e : Int) (he : (¬ (0 ≤ i ∧ i ≤ ρ 382 - 1) ∧ e = 1) ∨ ((0 ≤ i ∧ i ≤ ρ 382 - 1) ∧ e = 0)) : CX l yX10_repair cX10_repair 2 (some .int) (rmX 8) [.ref x, .int (iI i)] M (fun v M' => e = 0 ∧ v = some (.int (iI (ckv (rlay ρ i) i))) ∧ TL M' x (rlay ρ i) (svP ρ π sv) (svS sv) ∧ FR M M' x 1062) (fun E M' => ((e = 1 ∧ E = ioo)) ∧ M' = M) := by
  obtain ⟨a, f, x0, x1, x2, x3, x4, x5⟩ := id hT
  have ba := x2.1.b
  obtain ⟨sq, m1, m2, m3, m4⟩ := id x3.1
  obtain ⟨fr, w1, w2, w3, w4, w5, w6⟩ := id x3.2.2.1
  have hw8 := hW.1
  refine CX.of (L0 := [some _, some _]) (by decide +kernel) rfl rfl (Nat.le_of_ble_eq_true rfl) rfl (fun G A Q X sz hQ hX => ?_)
  refine V_iload_n dX10_repair_0 rfl ?_
  refine V_iconst (v := iI (0)) dX10_repair_1 rfl ?_
  refine V_aload_n dX10_repair_2 rfl ?_
  refine V_getf fX10_10 dX10_repair_3 x0 rfl ?_
  refine V_getf fX10_106 dX10_repair_6 m1 rfl ?_
  refine V_getf fX10_110 dX10_repair_9 w1 rfl ?_
  refine V_iconst (v := iI (1)) dX10_repair_12 rfl ?_
  refine I_isub dX10_repair_13 ?_
  refine V_cS (vs := [_, _, _]) (x_outside l M (i) (0) (ρ 382 - 1) (by unfold r32; omega)) mX10_24 coX10_outside dX10_repair_14 rfl rfl (by decide) (Nat.le_of_ble_eq_true rfl) (Nat.le_of_ble_eq_true rfl) (Nat.le_of_ble_eq_true rfl) (fun sz => ?_)
  obtain ⟨vo0, ho0, eo0⟩ := ex_if (p := i < 0 ∨ ρ 382 - 1 < i)
  rw [eo0]
  refine I_if_eq (tgt := 30) dX10_repair_17 (by decide) ⟨by omega, by omega⟩ (fun h17 => ?_) (fun h17 => ?_)
  · refine V_aload_n dX10_repair_30 rfl ?_
    refine V_cVE0 (vs := []) (x_saveState l M x ρ π sv hT hv hW hI hP) mX10_44 coX10_saveState dX10_repair_31 x0 rfl rfl rfl (by decide) (Nat.le_of_ble_eq_true rfl) (Nat.le_of_ble_eq_true rfl) (Nat.le_of_ble_eq_true rfl) (fun N1 sz hp => ?_)
    obtain ⟨hT1, hF1⟩ := hp
    have hP1 := svP_P hv hW hI hP
    have hsv1 : 0 ≤ svS sv ∧ svS sv ≤ 3 := by unfold svS; split <;> omega
    obtain ⟨b, g, y0, y1, y2, y3, y4, y5⟩ := id hT1
    have bb := y2.1.b
    obtain ⟨sqb, k1, k2, k3, k4⟩ := id y3.1
    have he0 : e = 0 ∧ (0 ≤ i ∧ i < ρ 382) := by omega
    clear ho0 he w1 w2 w3 w4 w5 w6
    obtain ⟨fr, w1, w2, w3, w4, w5, w6⟩ := id y3.2.2.1
    obtain ⟨gb, o1, o2, o3, o4⟩ := id (w6 i (by omega) (by omega))
    have hFi := hW.2 i (by omega) (by omega)
    have hDi := hFi.1
    have bfi := w3 i (by omega) (by omega)
    have hsD : sl ρ (383 + 50 * i) 0 = ρ (383 + 50 * i) := by unfold sl; rw [Int.add_zero]
    have o1x : N1 (fr i) = some (frO (fr i) (ρ (383 + 50 * i)) (sl ρ (383 + 50 * i) 1) (sl ρ (383 + 50 * i) 2) (sl ρ (383 + 50 * i) 3)) := by rw [o1, hsD]
    have hcr : crcN gb (4 + ρ (383 + 50 * i)).toNat = crcF ρ i := crcN_cg _ (fun k u v => by show gb k = ρ (383 + 50 * i + 4 + k); rw [o4 k u (by omega)]; unfold sl; congr 1; omega)
    refine V_aload_n dX10_repair_34 rfl ?_
    refine V_getf fX10_10 dX10_repair_35 y0 rfl ?_
    refine V_getf fX10_106 dX10_repair_38 k1 rfl ?_
    refine V_getf fX10_139 dX10_repair_41 w1 rfl ?_
    refine V_iload_n dX10_repair_44 rfl ?_
    refine I_aald ao3 dX10_repair_45 w2 ⟨by omega, by omega⟩ (by decide) ?_
    refine V_cV (vs := []) (f_setRightCheck l N1 (fr i) _ _ _ _ o1x gb o2 (by omega) (fun k u v => by rw [o4 k u (by omega)]; unfold sl; have := hFi.2.2.2.2 k u (by omega); rwa [show 383 + 50 * i + (4 + k) = 383 + 50 * i + 4 + k by omega])) mX10_156 coX2_setRightCheck dX10_repair_46 o1 rfl rfl rfl (by decide) (Nat.le_of_ble_eq_true rfl) (Nat.le_of_ble_eq_true rfl) (Nat.le_of_ble_eq_true rfl) (fun sz => ?_)
    rw [hcr]
    refine V_gen (fun K hK => ?_)
    have hKo : ∀ q, q ≠ fr i + 1 → K q = N1 q := fun q z => by rw [hK, mu_ne z]
    have hKb : K (fr i + 1) = some (aI 46 (up (up gb (4 + ρ (383 + 50 * i)) (crcF ρ i / 256)) (4 + ρ (383 + 50 * i) + 1) (crcF ρ i % 256))) := (congrFun hK _).trans mu_eq
    have hcp : ckp ρ i = 383 + 50 * i + 8 + ρ (383 + 50 * i) := by unfold ckp; omega
    obtain ⟨ρ1, hρ1⟩ : ∃ ρ1, ρ1 = rlay ρ i := ⟨_, rfl⟩
    have u1 : ρ1 (ckp ρ i) = crcF ρ i / 256 := by rw [hρ1]; unfold rlay; rw [up_n (by omega), up_s]
    have u2 : ρ1 (ckp ρ i + 1) = crcF ρ i % 256 := by rw [hρ1]; unfold rlay; rw [up_s]
    have u3 : ∀ q, q ≠ ckp ρ i → q ≠ ckp ρ i + 1 → ρ1 q = ρ q := fun q v w => by rw [hρ1]; unfold rlay; rw [up_n w, up_n v]
    have uD := u3 (383 + 50 * i) (by omega) (by omega)
    have hck1 : ckv ρ1 i = crcF ρ i := by
      have e1 : ckp ρ1 i = ckp ρ i := by unfold ckp; rw [uD]
      unfold ckv; rw [e1, u1, u2]; omega
    have hO : FO K (fr i) (sl ρ1 (383 + 50 * i)) (ρ1 (383 + 50 * i) + 6) := by
      refine ⟨_, ?_, hKb, ?_, fun q u v => ?_⟩
      · rw [hKo _ (by omega), o1]; unfold sl; rw [u3 _ (by omega) (by omega), u3 _ (by omega) (by omega), u3 _ (by omega) (by omega), u3 _ (by omega) (by omega)]
      · unfold sl; rw [u3 _ (by omega) (by omega)]; exact o3
      · rw [uD] at v
        unfold sl
        by_cases e8 : q = 4 + ρ (383 + 50 * i) + 1
        · rw [e8, up_s, show 383 + 50 * i + (4 + (4 + ρ (383 + 50 * i) + 1)) = ckp ρ i + 1 by omega, u2]
        · rw [up_n e8]
          by_cases e9 : q = 4 + ρ (383 + 50 * i)
          · rw [e9, up_s, show 383 + 50 * i + (4 + (4 + ρ (383 + 50 * i))) = ckp ρ i by omega, u1]
          · rw [up_n e9, o4 q u v]; unfold sl; rw [u3 _ (by omega) (by omega)]
    rw [← hρ1, hck1] at hQ
    have hz := (TL.put y0 y1 y2 y4 y5 hsv1.2 hP1 (y3.wr hI (WR.set w1 w2 w3 w4 w5 w6 hW (i := i) (by omega) (by omega) hO (fun q _ _ u v => hKo q v) (fun q u => u3 q (by omega) (by omega))) (fun q u => hKo q (by omega)) (fun q u => u3 q (by omega) (by omega))) (fun q hq => hKo q (by omega)))
    exact V_ireti dX10_repair_49 rfl (Nat.le_of_ble_eq_true rfl) (Nat.le_of_ble_eq_true rfl) (hQ _ _ _ ⟨by omega, rfl, hz.1, hF1.tr hz.2⟩)
  · exact V_ioo hfl sX10_154 dX10_repair_20 dX10_repair_23 dX10_repair_24 dX10_repair_26 dX10_repair_29 (by decide) (Nat.le_of_ble_eq_true rfl) (Nat.le_of_ble_eq_true rfl) (Nat.le_of_ble_eq_true rfl) (hX _ _ ⟨⟨by omega, rfl⟩, rfl⟩)

set_option maxRecDepth 100000 in
set_option maxHeartbeats 4000000 in
theorem p_lose (l : Launch) (hfl : l.stackTraces = false) (M : ME) (x : Nat) (ρ π : Int → Int) (sv : Int) (hT : TL M x ρ π sv) (hv : 0 ≤ sv ∧ sv ≤ 3) (hW : Wr ρ) (hI : RI ρ) (hP : ∀ i, 0 ≤ i → i < sv → Wr (sl π (12309 * i)) ∧ RI (sl π (12309 * i))) (i : Int) (hi : -2147483648 ≤ i ∧ i < 2147483648) (e : Int) (he : (¬ (0 ≤ i ∧ i ≤ ρ 382 - 1) ∧ e = 1) ∨ ((0 ≤ i ∧ i ≤ ρ 382 - 1) ∧ e = 0)) : CX l yX10_lose cX10_lose 2 (some .int) (rmX 8) [.ref x, .int (iI i)] M (fun v M' => e = 0 ∧ v = some (.int (iI (lsum (up ρ (383 + 50 * i + 1) 1) (ρ 382).toNat))) ∧ TL M' x (up ρ (383 + 50 * i + 1) 1) (svP ρ π sv) (svS sv) ∧ FR M M' x 1062) (fun E M' => ((e = 1 ∧ E = ioo)) ∧ M' = M) := by
  obtain ⟨a, f, x0, x1, x2, x3, x4, x5⟩ := id hT
  have ba := x2.1.b
  obtain ⟨sq, m1, m2, m3, m4⟩ := id x3.1
  obtain ⟨fr, w1, w2, w3, w4, w5, w6⟩ := id x3.2.2.1
  have hw8 := hW.1
  refine CX.of (L0 := [some _, some _]) (by decide +kernel) rfl rfl (Nat.le_of_ble_eq_true rfl) rfl (fun G A Q X sz hQ hX => ?_)
  refine V_iload_n dX10_lose_0 rfl ?_
  refine V_iconst (v := iI (0)) dX10_lose_1 rfl ?_
  refine V_aload_n dX10_lose_2 rfl ?_
  refine V_getf fX10_10 dX10_lose_3 x0 rfl ?_
  refine V_getf fX10_106 dX10_lose_6 m1 rfl ?_
  refine V_getf fX10_110 dX10_lose_9 w1 rfl ?_
  refine V_iconst (v := iI (1)) dX10_lose_12 rfl ?_
  refine I_isub dX10_lose_13 ?_
  refine V_cS (vs := [_, _, _]) (x_outside l M (i) (0) (ρ 382 - 1) (by unfold r32; omega)) mX10_24 coX10_outside dX10_lose_14 rfl rfl (by decide) (Nat.le_of_ble_eq_true rfl) (Nat.le_of_ble_eq_true rfl) (Nat.le_of_ble_eq_true rfl) (fun sz => ?_)
  obtain ⟨vo0, ho0, eo0⟩ := ex_if (p := i < 0 ∨ ρ 382 - 1 < i)
  rw [eo0]
  refine I_if_eq (tgt := 30) dX10_lose_17 (by decide) ⟨by omega, by omega⟩ (fun h17 => ?_) (fun h17 => ?_)
  · refine V_aload_n dX10_lose_30 rfl ?_
    refine V_cVE0 (vs := []) (x_saveState l M x ρ π sv hT hv hW hI hP) mX10_44 coX10_saveState dX10_lose_31 x0 rfl rfl rfl (by decide) (Nat.le_of_ble_eq_true rfl) (Nat.le_of_ble_eq_true rfl) (Nat.le_of_ble_eq_true rfl) (fun N1 sz hp => ?_)
    obtain ⟨hT1, hF1⟩ := hp
    have hP1 := svP_P hv hW hI hP
    have hsv1 : 0 ≤ svS sv ∧ svS sv ≤ 3 := by unfold svS; split <;> omega
    obtain ⟨b, g, y0, y1, y2, y3, y4, y5⟩ := id hT1
    have bb := y2.1.b
    obtain ⟨sqb, k1, k2, k3, k4⟩ := id y3.1
    have he0 : e = 0 ∧ (0 ≤ i ∧ i < ρ 382) := by omega
    clear ho0 he w1 w2 w3 w4 w5 w6
    obtain ⟨fr, w1, w2, w3, w4, w5, w6⟩ := id y3.2.2.1
    obtain ⟨gb, o1, o2, o3, o4⟩ := id (w6 i (by omega) (by omega))
    have hFi := hW.2 i (by omega) (by omega)
    have hDi := hFi.1
    have bfi := w3 i (by omega) (by omega)
    refine V_aload_n dX10_lose_34 rfl ?_
    refine V_getf fX10_10 dX10_lose_35 y0 rfl ?_
    refine V_getf fX10_106 dX10_lose_38 k1 rfl ?_
    refine V_getf fX10_139 dX10_lose_41 w1 rfl ?_
    refine V_iload_n dX10_lose_44 rfl ?_
    refine I_aald ao3 dX10_lose_45 w2 ⟨by omega, by omega⟩ (by decide) ?_
    refine V_iconst (v := iI (1)) dX10_lose_46 rfl ?_
    refine V_putf fX10_159 dX10_lose_47 o1 rfl rfl (by simp) ?_
    refine V_gen (fun K hK => ?_)
    have gK0 := (congrFun hK x).trans ((mu_ne (by omega)).trans y0)
    have gK1 := (congrFun hK b).trans ((mu_ne (by omega)).trans k1)
    have hKo : ∀ q, q ≠ fr i → K q = N1 q := fun q z => by rw [hK, mu_ne z]
    have hKb : K (fr i) = some (frO (fr i) (sl ρ (383 + 50 * i) 0) 1 (sl ρ (383 + 50 * i) 2) (sl ρ (383 + 50 * i) 3)) := (congrFun hK _).trans mu_eq
    obtain ⟨ρ1, hρ1⟩ : ∃ ρ1, ρ1 = up ρ (383 + 50 * i + 1) 1 := ⟨_, rfl⟩
    have u1 : ρ1 (383 + 50 * i + 1) = 1 := by rw [hρ1, up_s]
    have u3 : ∀ q, q ≠ 383 + 50 * i + 1 → ρ1 q = ρ q := fun q v => by rw [hρ1, up_n v]
    have uD := u3 (383 + 50 * i) (by omega)
    have u382 := u3 382 (by omega)
    have hO : FO K (fr i) (sl ρ1 (383 + 50 * i)) (ρ1 (383 + 50 * i) + 6) := by
      refine ⟨_, ?_, (hKo _ (by omega)).trans o2, ?_, fun q u v => ?_⟩
      · rw [hKb]; unfold sl; rw [u3 _ (by omega), u1, u3 _ (by omega), u3 _ (by omega)]
      · unfold sl; rw [u1]; omega
      · rw [uD] at v
        rw [o4 q u v]; unfold sl; rw [u3 _ (by omega)]
    have hWR := WR.set w1 w2 w3 w4 w5 w6 hW (i := i) (by omega) (by omega) hO (fun q _ _ u v => hKo q u) (fun q u => u3 q (by omega))
    obtain ⟨frk, wk, -⟩ := id hWR
    rw [← hρ1] at hQ
    have hz := (TL.put y0 y1 y2 y4 y5 hsv1.2 hP1 (y3.wr hI hWR (fun q u => hKo q (by omega)) (fun q u => u3 q (by omega))) (fun q hq => hKo q (by omega)))
    refine V_aload_n dX10_lose_50 rfl ?_
    refine V_getf fX10_10 dX10_lose_51 gK0 rfl ?_
    refine V_getf fX10_106 dX10_lose_54 gK1 rfl ?_
    refine V_cV (vs := []) (c9_lostFrames l K (b + 3) ρ1 hWR) mX10_163 coX9_lostFrames dX10_lose_57 wk rfl rfl rfl (by decide) (Nat.le_of_ble_eq_true rfl) (Nat.le_of_ble_eq_true rfl) (Nat.le_of_ble_eq_true rfl) (fun sz => ?_)
    rw [u382]
    exact V_ireti dX10_lose_60 rfl (Nat.le_of_ble_eq_true rfl) (Nat.le_of_ble_eq_true rfl) (hQ _ _ _ ⟨by omega, rfl, hz.1, hF1.tr hz.2⟩)
  · exact V_ioo hfl sX10_154 dX10_lose_20 dX10_lose_23 dX10_lose_24 dX10_lose_26 dX10_lose_29 (by decide) (Nat.le_of_ble_eq_true rfl) (Nat.le_of_ble_eq_true rfl) (Nat.le_of_ble_eq_true rfl) (hX _ _ ⟨⟨by omega, rfl⟩, rfl⟩)
