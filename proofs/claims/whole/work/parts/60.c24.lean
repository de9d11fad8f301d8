theorem rwf_o {ρ : Int → Int} {n q : Int} (hn : 0 ≤ n) (hw : ρ 382 ≤ 60) (h : q < 382 ∨ 3383 ≤ q) : rwf ρ n q = ρ q := by
  unfold rwf
  rw [shl_o (by omega), up_n (by omega)]
theorem CI.v1 {B : Int} {ρ : Int → Int} {k : Int} (hk : 0 ≤ k ∧ k ≤ 59) (hF : Fw ρ k) (h : RI ρ) (hC : CI B ρ) : CI (B + 42) (rv1 ρ k) := by
  unfold rv1
  split
  · exact hC.cg (by omega) h.2.2.2.1 (fun _ _ => rfl)
  · exact CI.rc hk hF h hC
theorem CI.vN {B : Int} {ρ : Int → Int} (hW : Wr ρ) (hR : RI ρ) (hC : CI B ρ) : ∀ n : Nat, (n : Int) ≤ ρ 382 → CI (B + 42 * n) (rvN ρ n)
  | 0, _ => hC.cg (by omega) hR.2.2.2.1 (fun _ _ => rfl)
  | n + 1, hn => by
    have hw := hW.1
    obtain ⟨a, b⟩ := rvN_i hW hR n (by omega)
    have h := CI.v1 (B := B + 42 * n) (by omega) (Fw.cg (hW.2 n (by omega) (by omega)) (by omega) b) a (CI.vN hW hR hC n (by omega))
    have e : B + 42 * (n : Int) + 42 = B + 42 * ((n + 1 : Nat) : Int) := by omega
    rw [← e]
    exact h

set_option maxRecDepth 100000 in
set_option maxHeartbeats 4000000 in
theorem p_receive (l : Launch) (hfl : l.stackTraces = false) (M : ME) (x : Nat) (ρ π : Int → Int) (sv : Int) (hT : TL M x ρ π sv) (hv : 0 ≤ sv ∧ sv ≤ 3) (hW : Wr ρ) (hI : RI ρ) (hP : ∀ i, 0 ≤ i → i < sv → Wr (sl π (12309 * i)) ∧ RI (sl π (12309 * i))) (B : Int) (hC : CI B ρ) (hB : B ≤ 700000000) (n : Int) (hn : -2147483648 ≤ n ∧ n < 2147483648) (e : Int) (he : (¬ (1 ≤ n ∧ n ≤ 60) ∧ e = 1) ∨ ((1 ≤ n ∧ n ≤ 60) ∧ ρ 382 < n ∧ e = 2) ∨ ((1 ≤ n ∧ n ≤ 60) ∧ n ≤ ρ 382 ∧ e = 0)) : CX l yX10_receive cX10_receive 4 (some .int) (rmX 8) [.ref x, .int (iI n)] M (fun v M' => e = 0 ∧ v = some (.int (iI (rvC ρ n.toNat))) ∧ TL M' x (rrv ρ n) (svP ρ π sv) (svS sv) ∧ FR M M' x 1062) (fun E M' => ((e = 1 ∧ E = iae) ∨ (e = 2 ∧ E = ise)) ∧ M' = M) := by
  obtain ⟨a, f, x0, x1, x2, x3, x4, x5⟩ := id hT
  have ba := x2.1.b
  obtain ⟨sq, m1, m2, m3, m4⟩ := id x3.1
  obtain ⟨fr, w1, w2, w3, w4, w5, w6⟩ := id x3.2.2.1
  have hw8 := hW.1
  refine CX.of (L0 := [some _, some _, none, none]) (by decide +kernel) rfl rfl (Nat.le_of_ble_eq_true rfl) rfl (fun G A Q X sz hQ hX => ?_)
  refine V_iload_n dX10_receive_0 rfl ?_
  refine V_iconst (v := iI (1)) dX10_receive_1 rfl ?_
  refine V_bipush (v := iI (60)) dX10_receive_2 (by decide +kernel) ?_
  refine V_cS (vs := [_, _, _]) (x_outside l M (n) (1) (60) (by unfold r32; omega)) mX10_24 coX10_outside dX10_receive_4 rfl rfl (by decide) (Nat.le_of_ble_eq_true rfl) (Nat.le_of_ble_eq_true rfl) (Nat.le_of_ble_eq_true rfl) (fun sz => ?_)
  obtain ⟨vo0, ho0, eo0⟩ := ex_if (p := n < 1 ∨ 60 < n)
  rw [eo0]
  refine I_if_eq (tgt := 20) dX10_receive_7 (by decide) ⟨by omega, by omega⟩ (fun h7 => ?_) (fun h7 => ?_)
  · refine V_iload_n dX10_receive_20 rfl ?_
    refine V_aload_n dX10_receive_21 rfl ?_
    refine V_getf fX10_10 dX10_receive_22 x0 rfl ?_
    refine V_getf fX10_106 dX10_receive_25 m1 rfl ?_
    refine V_getf fX10_110 dX10_receive_28 w1 rfl ?_
    refine I_icmp_le (tgt := 44) dX10_receive_31 (by decide) ⟨by omega, by omega⟩ ⟨by omega, by omega⟩ (fun h31 => ?_) (fun h31 => ?_)
    · refine V_aload_n dX10_receive_44 rfl ?_
      refine V_cVE0 (vs := []) (x_saveState l M x ρ π sv hT hv hW hI hP) mX10_44 coX10_saveState dX10_receive_45 x0 rfl rfl rfl (by decide) (Nat.le_of_ble_eq_true rfl) (Nat.le_of_ble_eq_true rfl) (Nat.le_of_ble_eq_true rfl) (fun N1 sz hp => ?_)
      obtain ⟨hT1, hF1⟩ := hp
      have hP1 := svP_P hv hW hI hP
      have hsv1 : 0 ≤ svS sv ∧ svS sv ≤ 3 := by unfold svS; split <;> omega
      obtain ⟨b, g, y0, y1, y2, y3, y4, y5⟩ := id hT1
      have bb := y2.1.b
      obtain ⟨sqb, k1, k2, k3, k4⟩ := id y3.1
      have he0 : e = 0 ∧ (1 ≤ n ∧ n ≤ 60) ∧ n ≤ ρ 382 := by omega
      clear ho0 he w1 w2 w3 w4 w5 w6
      obtain ⟨fr, w1, w2, w3, w4, w5, w6⟩ := id y3.2.2.1
      obtain ⟨lm, cn, ap, am, ab, al, r0, -⟩ := id y3.2.2.2.1
      refine V_iconst (v := iI (0)) dX10_receive_48 rfl ?_
      refine V_istore_n (L' := [some _, some _, some _, none]) dX10_receive_49 rfl (by decide) rfl ?_
      refine V_iconst (v := iI (0)) dX10_receive_50 rfl ?_
      refine V_istore_n (L' := [some _, some _, some _, some _]) dX10_receive_51 rfl (by decide) rfl ?_
      have key52 : ∀ (d : Nat) (j : Int) (K : ME) (sz : Nat), (0 ≤ j ∧ j ≤ n) → (RR K (b + 125) (rvN ρ j.toNat)) → (FR N1 K (b + 125) 80) → (n - j).toNat = d → V l G A (rmX 8) RX10 "receive" cX10_receive 4 (some .int) Q X 0 0 K sz 52 [some (.ref x), some (.int (iI n)), some (.int (iI (rvC ρ j.toNat))), some (.int (iI j))] [] := by
        intro d
        induction d using Nat.strongRecOn with
        | ind d ih52 =>
          intro j K  sz hj nR nF hd52
          refine V_iload_n dX10_receive_52 rfl ?_
          refine V_iload_n dX10_receive_53 rfl ?_
          refine I_icmp_ge (tgt := 88) dX10_receive_54 (by decide) ⟨by omega, by omega⟩ ⟨by omega, by omega⟩ (fun h54 => ?_) (fun h54 => ?_)
          · have hjn : j = n := by omega
            rw [hjn] at nR ⊢
            have hN := rvN_i hW hI n.toNat (by omega)
            have e382 := hN.2 382 (by omega)
            have hWn : Wr (rvN ρ n.toNat) := by
              refine ⟨by rw [e382]; exact hW.1, fun f u v => ?_⟩
              rw [e382] at v
              exact Fw.cg (hW.2 f u v) (by omega) hN.2
            have hWK : WR K (b + 3) (rvN ρ n.toNat) := y3.2.2.1.mv hW (fun q u v => nF q (by omega)) (fun q u v => hN.2 q (by omega))
            obtain ⟨frk, wk1, -⟩ := id hWK
            refine V_aload_n dX10_receive_88 rfl ?_
            refine V_getf fX10_10 dX10_receive_89 ((nF _ (by omega)).trans y0) rfl ?_
            refine V_getf fX10_106 dX10_receive_92 ((nF _ (by omega)).trans k1) rfl ?_
            refine V_iload_n dX10_receive_95 rfl ?_
            refine V_cVE0 (vs := [_]) (c9_removeFirst l K (b + 3) (rvN ρ n.toNat) hWK n (by omega) hWn) mX10_180 coX9_removeFirst dX10_receive_96 ((nF _ (by omega)).trans w1) rfl rfl rfl (by decide) (Nat.le_of_ble_eq_true rfl) (Nat.le_of_ble_eq_true rfl) (Nat.le_of_ble_eq_true rfl) (fun N2 sz hp => ?_)
            obtain ⟨hW2, hF2⟩ := hp
            have hSK : St K b (rvN ρ n.toNat) := y3.rr hW nR (fun q u => nF q (by omega)) (fun q u => hN.2 q (by omega))
            have hrr : rrv ρ n = rwf (rvN ρ n.toNat) n := by unfold rrv rwf; rw [e382]
            have hSt : St N2 b (rrv ρ n) := by
              rw [hrr]
              exact hSK.wr hN.1 hW2 (fun q u => hF2 q (by omega)) (fun q u => rwf_o (by omega) (by omega) (by omega))
            have hz := (TL.put y0 y1 y2 y4 y5 hsv1.2 hP1 hSt (fun q hq => (hF2 q (by omega)).trans (nF q (by omega))))
            refine V_iload_n dX10_receive_99 rfl ?_
            exact V_ireti dX10_receive_100 rfl (Nat.le_of_ble_eq_true rfl) (Nat.le_of_ble_eq_true rfl) (hQ _ _ _ ⟨by omega, rfl, hz.1, hF1.tr hz.2⟩)
          · obtain ⟨lmk, cnk, apk, amk, abk, alk, rk0, -⟩ := id nR.1
            have hN := rvN_i hW hI j.toNat (by omega)
            have hCj := CI.vN hW hI hC j.toNat (by omega)
            rw [Int.toNat_of_nonneg hj.1] at hCj
            have hFw : Fw (rvN ρ j.toNat) j := Fw.cg (hW.2 j (by omega) (by omega)) (by omega) hN.2
            have bfj := w3 j (by omega) (by omega)
            have hDj := (hW.2 j (by omega) (by omega)).1
            have eDj := hN.2 (383 + 50 * j) (by omega)
            have hO : FO K (fr j) (sl (rvN ρ j.toNat) (383 + 50 * j)) (rvN ρ j.toNat (383 + 50 * j) + 6) := (w6 j (by omega) (by omega)).mv ⟨nF _ (by omega), nF _ (by omega)⟩ (by omega) (fun q u v => by unfold sl; exact hN.2 _ (by omega))
            obtain ⟨gfj, o1, -⟩ := id hO
            refine V_iload_n dX10_receive_57 rfl ?_
            refine V_aload_n dX10_receive_58 rfl ?_
            refine V_getf fX10_10 dX10_receive_59 ((nF _ (by omega)).trans y0) rfl ?_
            refine V_getf fX10_170 dX10_receive_62 ((nF _ (by omega)).trans k1) rfl ?_
            refine V_aload_n dX10_receive_65 rfl ?_
            refine V_getf fX10_10 dX10_receive_66 ((nF _ (by omega)).trans y0) rfl ?_
            refine V_getf fX10_106 dX10_receive_69 ((nF _ (by omega)).trans k1) rfl ?_
            refine V_getf fX10_139 dX10_receive_72 ((nF _ (by omega)).trans w1) rfl ?_
            refine V_iload_n dX10_receive_75 rfl ?_
            refine I_aald ao3 dX10_receive_76 ((nF _ (by omega)).trans w2) ⟨by omega, by omega⟩ (by decide) ?_
            refine V_cVE (vs := [_]) (c5_take l K (b + 125) (rvN ρ j.toNat) nR hN.1 (B + 42 * j) hCj (by omega) j (by omega) hFw (fr j) hO (by omega)) mX10_174 coX5_take dX10_receive_77 rk0 rfl rfl rfl (by decide) (Nat.le_of_ble_eq_true rfl) (Nat.le_of_ble_eq_true rfl) (Nat.le_of_ble_eq_true rfl) (fun N2 sz hp => ?_)
            obtain ⟨hR2, hF2⟩ := hp
            refine I_iadd dX10_receive_80 ?_
            refine V_istore_n (L' := [some _, some _, some _, some _]) dX10_receive_81 rfl (by decide) rfl ?_
            refine I_iinc (L' := [some _, some _, some _, some _]) dX10_receive_82 rfl (by decide) rfl ?_
            refine V_goto (tgt := 52) dX10_receive_85 (by decide) ?_
            exact V_wk' (ih52 _ (by omega) (j + 1) _ sz ⟨by omega, by omega⟩ (by rw [← rvN_s hj.1]; exact hR2) (nF.tr hF2) rfl) ⟨rfl, rfl, (vi (rvC_s hj.1)), rfl, trivial⟩
      exact V_wk' (key52 _ 0 _ sz ⟨by omega, by omega⟩ y3.2.2.2 FR.rf rfl) ⟨rfl, rfl, rfl, rfl, trivial⟩
    · exact V_ise hfl sX10_168 dX10_receive_34 dX10_receive_37 dX10_receive_38 dX10_receive_40 dX10_receive_43 (by decide) (Nat.le_of_ble_eq_true rfl) (Nat.le_of_ble_eq_true rfl) (Nat.le_of_ble_eq_true rfl) (hX _ _ ⟨Or.inr (⟨by omega, rfl⟩), rfl⟩)
  · exact V_iae hfl sX10_166 dX10_receive_10 dX10_receive_13 dX10_receive_14 dX10_receive_16 dX10_receive_19 (by decide) (Nat.le_of_ble_eq_true rfl) (Nat.le_of_ble_eq_true rfl) (Nat.le_of_ble_eq_true rfl) (hX _ _ ⟨Or.inl ⟨by omega, rfl⟩, rfl⟩)

set_option maxRecDepth 100000 in
set_option maxHeartbeats 4000000 in
theorem p_count (l : Launch) (hfl : l.stackTraces = false) (M : ME) (x : Nat) (ρ π : Int → Int) (sv : Int) (hT : TL M x ρ π sv) (w : Int) (hw : -2147483648 ≤ w ∧ w < 2147483648) (e : Int) (he : (¬ (0 ≤ w ∧ w ≤ 5) ∧ e = 1) ∨ ((0 ≤ w ∧ w ≤ 5) ∧ e = 0)) : CX l yX10_count cX10_count 2 (some .int) (rmX 8) [.ref x, .int (iI w)] M (fun v M' => e = 0 ∧ v = some (.int (iI (ρ (3383 + w)))) ∧ M' = M) (fun E M' => ((e = 1 ∧ E = iae)) ∧ M' = M) := by
  obtain ⟨a, f, x0, x1, x2, x3, x4, x5⟩ := id hT
  have ba := x2.1.b
  obtain ⟨sq, m1, m2, m3, m4⟩ := id x3.1
  obtain ⟨lm, cn, ap, am, ab, al, r0, r1, r2, r3, r4, r5, r6, r7, r8, r9⟩ := id x3.2.2.2.1
  refine CX.of (L0 := [some _, some _]) (by decide +kernel) rfl rfl (Nat.le_of_ble_eq_true rfl) rfl (fun G A Q X sz hQ hX => ?_)
  refine V_iload_n dX10_count_0 rfl ?_
  refine V_iconst (v := iI (0)) dX10_count_1 rfl ?_
  refine V_iconst (v := iI (5)) dX10_count_2 rfl ?_
  refine V_cS (vs := [_, _, _]) (x_outside l M (w) (0) (5) (by unfold r32; omega)) mX10_24 coX10_outside dX10_count_3 rfl rfl (by decide) (Nat.le_of_ble_eq_true rfl) (Nat.le_of_ble_eq_true rfl) (Nat.le_of_ble_eq_true rfl) (fun sz => ?_)
  obtain ⟨vo0, ho0, eo0⟩ := ex_if (p := w < 0 ∨ 5 < w)
  rw [eo0]
  refine I_if_eq (tgt := 19) dX10_count_6 (by decide) ⟨by omega, by omega⟩ (fun h6 => ?_) (fun h6 => ?_)
  · refine V_aload_n dX10_count_19 rfl ?_
    refine V_getf fX10_10 dX10_count_20 x0 rfl ?_
    refine V_getf fX10_170 dX10_count_23 m1 rfl ?_
    refine V_getf fX10_184 dX10_count_26 r0 rfl ?_
    refine V_iload_n dX10_count_29 rfl ?_
    refine I_iald dX10_count_30 r1 ⟨by omega, by omega⟩ (by decide) ?_
    exact V_ireti dX10_count_31 rfl (Nat.le_of_ble_eq_true rfl) (Nat.le_of_ble_eq_true rfl) (hQ _ _ _ ⟨by omega, iv (by exact r8 w (by omega) (by omega)), rfl⟩)
  · exact V_iae hfl sX10_99 dX10_count_9 dX10_count_12 dX10_count_13 dX10_count_15 dX10_count_18 (by decide) (Nat.le_of_ble_eq_true rfl) (Nat.le_of_ble_eq_true rfl) (Nat.le_of_ble_eq_true rfl) (hX _ _ ⟨⟨by omega, rfl⟩, rfl⟩)

set_option maxRecDepth 100000 in
set_option maxHeartbeats 4000000 in
theorem p_countV (l : Launch) (M : ME) (x : Nat) (ρ π : Int → Int) (sv : Int) (hT : TL M x ρ π sv) (w : Int) (hw : 0 ≤ w ∧ w ≤ 5) : CF l yX10_count cX10_count 2 (some .int) (rmN 7) [.ref x, .int (iI w)] M (some (.int (iI (ρ (3383 + w))))) M := by
  obtain ⟨a, f, x0, x1, x2, x3, x4, x5⟩ := id hT
  have ba := x2.1.b
  obtain ⟨sq, m1, m2, m3, m4⟩ := id x3.1
  obtain ⟨lm, cn, ap, am, ab, al, r0, r1, r2, r3, r4, r5, r6, r7, r8, r9⟩ := id x3.2.2.2.1
  refine CF.of (L0 := [some _, some _]) (by decide +kernel) rfl rfl (Nat.le_of_ble_eq_true rfl) rfl (fun G A Q sz hQ => ?_)
  refine V_iload_n dX10_count_0 rfl ?_
  refine V_iconst (v := iI (0)) dX10_count_1 rfl ?_
  refine V_iconst (v := iI (5)) dX10_count_2 rfl ?_
  refine V_cS (vs := [_, _, _]) (x_outside l M (w) (0) (5) (by unfold r32; omega)) mX10_24 coX10_outside dX10_count_3 rfl rfl (by decide) (Nat.le_of_ble_eq_true rfl) (Nat.le_of_ble_eq_true rfl) (Nat.le_of_ble_eq_true rfl) (fun sz => ?_)
  obtain ⟨vo0, ho0, eo0⟩ := ex_if (p := w < 0 ∨ 5 < w)
  rw [eo0]
  refine I_if_eq_t (tgt := 19) dX10_count_6 (by decide) ⟨by omega, by omega⟩ (by omega) ?_
  refine V_aload_n dX10_count_19 rfl ?_
  refine V_getf fX10_10 dX10_count_20 x0 rfl ?_
  refine V_getf fX10_170 dX10_count_23 m1 rfl ?_
  refine V_getf fX10_184 dX10_count_26 r0 rfl ?_
  refine V_iload_n dX10_count_29 rfl ?_
  refine I_iald dX10_count_30 r1 ⟨by omega, by omega⟩ (by decide) ?_
  exact V_ireti dX10_count_31 rfl (Nat.le_of_ble_eq_true rfl) (Nat.le_of_ble_eq_true rfl) (hQ _ _ _ (iv (by exact r8 w (by omega) (by omega))) rfl)

set_option maxRecDepth 100000 in
set_option maxHeartbeats 4000000 in
theorem p_received (l : Launch) (hfl : l.stackTraces = false) (M : ME) (x : Nat) (ρ π : Int → Int) (sv : Int) (hT : TL M x ρ π sv) (c : Int) (hc : -2147483648 ≤ c ∧ c < 2147483648) (w : Int) (hw : -2147483648 ≤ w ∧ w < 2147483648) (e : Int) (he : (¬ (0 ≤ c ∧ c ≤ 3) ∧ e = 1) ∨ ((0 ≤ c ∧ c ≤ 3) ∧ ¬ (0 ≤ w ∧ w ≤ 3) ∧ e = 2) ∨ ((0 ≤ c ∧ c ≤ 3) ∧ (0 ≤ w ∧ w ≤ 3) ∧ e = 0)) : CX l yX10_received cX10_received 4 (some .int) (rmX 8) [.ref x, .int (iI c), .int (iI w)] M (fun v M' => e = 0 ∧ v = some (.int (iI (rre ρ c w))) ∧ M' = M) (fun E M' => ((e = 1 ∧ E = ioo) ∨ (e = 2 ∧ E = iae)) ∧ M' = M) := by
  obtain ⟨a, f, x0, x1, x2, x3, x4, x5⟩ := id hT
  have ba := x2.1.b
  obtain ⟨sq, m1, m2, m3, m4⟩ := id x3.1
  obtain ⟨lm, cn, ap, am, ab, al, r0, r1, r2, r3, r4, r5, r6, r7, r8, r9⟩ := id x3.2.2.2.1
  refine CX.of (L0 := [some _, some _, some _, none]) (by decide +kernel) rfl rfl (Nat.le_of_ble_eq_true rfl) rfl (fun G A Q X sz hQ hX => ?_)
  refine V_iload_n dX10_received_0 rfl ?_
  refine V_iconst (v := iI (0)) dX10_received_1 rfl ?_
  refine V_iconst (v := iI (3)) dX10_received_2 rfl ?_
  refine V_cS (vs := [_, _, _]) (x_outside l M (c) (0) (3) (by unfold r32; omega)) mX10_24 coX10_outside dX10_received_3 rfl rfl (by decide) (Nat.le_of_ble_eq_true rfl) (Nat.le_of_ble_eq_true rfl) (Nat.le_of_ble_eq_true rfl) (fun sz => ?_)
  obtain ⟨vo0, ho0, eo0⟩ := ex_if (p := c < 0 ∨ 3 < c)
  rw [eo0]
  refine I_if_eq (tgt := 19) dX10_received_6 (by decide) ⟨by omega, by omega⟩ (fun h6 => ?_) (fun h6 => ?_)
  · obtain ⟨lc, gk, z0, z1, z2, z3, z4⟩ := id (x3.2.2.2.2.1 c (by omega) (by omega))
    refine V_aload_n dX10_received_19 rfl ?_
    refine V_getf fX10_10 dX10_received_20 x0 rfl ?_
    refine V_getf fX10_170 dX10_received_23 m1 rfl ?_
    refine V_getf fX10_187 dX10_received_26 r0 rfl ?_
    refine V_iload_n dX10_received_29 rfl ?_
    refine I_aald ao5 dX10_received_30 r6 ⟨by omega, by omega⟩ (by decide) ?_
    refine V_astore_n (L' := [some _, some _, some _, some _]) dX10_received_31 rfl (by decide) rfl ?_
    refine V_iload_n dX10_received_32 rfl ?_
    rcases (show (w < 0 ∨ 3 < w) ∨ w = 0 ∨ w = 1 ∨ w = 2 ∨ w = 3 by omega) with hw0 | hw0 | hw0 | hw0 | hw0
    · skip
      refine I_tabOut (tgt := 92) dX10_received_33 ⟨by omega, by omega⟩ (by omega) (by decide) ?_
      exact V_iae hfl sX10_99 dX10_received_92 dX10_received_95 dX10_received_96 dX10_received_98 dX10_received_101 (by decide) (Nat.le_of_ble_eq_true rfl) (Nat.le_of_ble_eq_true rfl) (Nat.le_of_ble_eq_true rfl) (hX _ _ ⟨Or.inr (⟨by omega, rfl⟩), rfl⟩)
    · skip
      refine I_tab (tgt := 64) dX10_received_33 ⟨by omega, by omega⟩ (by omega) (by omega) (by rw [hw0]; rfl) (by decide) ?_
      refine V_aload_n dX10_received_64 rfl ?_
      refine V_getf fX10_191 dX10_received_65 z0 rfl ?_
      exact V_ireti dX10_received_68 rfl (Nat.le_of_ble_eq_true rfl) (Nat.le_of_ble_eq_true rfl) (hQ _ _ _ ⟨by omega, iv (by unfold rre; simp [hw0]), rfl⟩)
    · skip
      refine I_tab (tgt := 69) dX10_received_33 ⟨by omega, by omega⟩ (by omega) (by omega) (by rw [hw0]; rfl) (by decide) ?_
      refine V_aload_n dX10_received_69 rfl ?_
      refine V_getf fX10_194 dX10_received_70 z0 rfl ?_
      exact V_ireti dX10_received_73 rfl (Nat.le_of_ble_eq_true rfl) (Nat.le_of_ble_eq_true rfl) (hQ _ _ _ ⟨by omega, iv (by unfold rre; simp [hw0]), rfl⟩)
    · skip
      refine I_tab (tgt := 74) dX10_received_33 ⟨by omega, by omega⟩ (by omega) (by omega) (by rw [hw0]; rfl) (by decide) ?_
      refine V_aload_n dX10_received_74 rfl ?_
      refine V_getf fX10_197 dX10_received_75 z0 rfl ?_
      exact V_ireti dX10_received_78 rfl (Nat.le_of_ble_eq_true rfl) (Nat.le_of_ble_eq_true rfl) (hQ _ _ _ ⟨by omega, iv (by unfold rre; simp [hw0]), rfl⟩)
    · skip
      refine I_tab (tgt := 79) dX10_received_33 ⟨by omega, by omega⟩ (by omega) (by omega) (by rw [hw0]; rfl) (by decide) ?_
      refine V_tern (J := 91) (v := .int (iI (rre ρ c w))) (fun sz => ?_) (fun j91 => ?_)
      · exact V_ireti dX10_received_91 rfl (Nat.le_of_ble_eq_true rfl) (Nat.le_of_ble_eq_true rfl) (hQ _ _ _ ⟨by omega, iv (by rfl), rfl⟩)
      · refine V_aload_n dX10_received_79 rfl ?_
        refine V_getf fX10_200 dX10_received_80 z0 rfl ?_
        refine I_if_eq (tgt := 90) dX10_received_83 (by decide) ⟨by omega, by omega⟩ (fun h83 => ?_) (fun h83 => ?_)
        · refine V_iconst (v := iI (0)) dX10_received_90 rfl ?_
          exact V_top (vi (by unfold rre; simp [hw0]; omega)) (j91 _)
        · refine V_iconst (v := iI (1)) dX10_received_86 rfl ?_
          refine V_goto (tgt := 91) dX10_received_87 (by decide) ?_
          exact V_top (vi (by unfold rre; simp [hw0]; omega)) (j91 _)
  · exact V_ioo hfl sX10_52 dX10_received_9 dX10_received_12 dX10_received_13 dX10_received_15 dX10_received_18 (by decide) (Nat.le_of_ble_eq_true rfl) (Nat.le_of_ble_eq_true rfl) (Nat.le_of_ble_eq_true rfl) (hX _ _ ⟨Or.inl ⟨by omega, rfl⟩, rfl⟩)

set_option maxRecDepth 100000 in
set_option maxHeartbeats 4000000 in
theorem p_receivedV (l : Launch) (M : ME) (x : Nat) (ρ π : Int → Int) (sv : Int) (hT : TL M x ρ π sv) (c w : Int) (hc : 0 ≤ c ∧ c ≤ 3) (hw : 0 ≤ w ∧ w ≤ 3) : CF l yX10_received cX10_received 4 (some .int) (rmN 7) [.ref x, .int (iI c), .int (iI w)] M (some (.int (iI (rre ρ c w)))) M := by
  obtain ⟨a, f, x0, x1, x2, x3, x4, x5⟩ := id hT
  have ba := x2.1.b
  obtain ⟨sq, m1, m2, m3, m4⟩ := id x3.1
  obtain ⟨lm, cn, ap, am, ab, al, r0, r1, r2, r3, r4, r5, r6, r7, r8, r9⟩ := id x3.2.2.2.1
  refine CF.of (L0 := [some _, some _, some _, none]) (by decide +kernel) rfl rfl (Nat.le_of_ble_eq_true rfl) rfl (fun G A Q sz hQ => ?_)
  refine V_iload_n dX10_received_0 rfl ?_
  refine V_iconst (v := iI (0)) dX10_received_1 rfl ?_
  refine V_iconst (v := iI (3)) dX10_received_2 rfl ?_
  refine V_cS (vs := [_, _, _]) (x_outside l M (c) (0) (3) (by unfold r32; omega)) mX10_24 coX10_outside dX10_received_3 rfl rfl (by decide) (Nat.le_of_ble_eq_true rfl) (Nat.le_of_ble_eq_true rfl) (Nat.le_of_ble_eq_true rfl) (fun sz => ?_)
  obtain ⟨vo0, ho0, eo0⟩ := ex_if (p := c < 0 ∨ 3 < c)
  rw [eo0]
  refine I_if_eq_t (tgt := 19) dX10_received_6 (by decide) ⟨by omega, by omega⟩ (by omega) ?_
  obtain ⟨lc, gk, z0, z1, z2, z3, z4⟩ := id (x3.2.2.2.2.1 c (by omega) (by omega))
  refine V_aload_n dX10_received_19 rfl ?_
  refine V_getf fX10_10 dX10_received_20 x0 rfl ?_
  refine V_getf fX10_170 dX10_received_23 m1 rfl ?_
  refine V_getf fX10_187 dX10_received_26 r0 rfl ?_
  refine V_iload_n dX10_received_29 rfl ?_
  refine I_aald ao5 dX10_received_30 r6 ⟨by omega, by omega⟩ (by decide) ?_
  refine V_astore_n (L' := [some _, some _, some _, some _]) dX10_received_31 rfl (by decide) rfl ?_
  refine V_iload_n dX10_received_32 rfl ?_
  rcases (show w = 0 ∨ w = 1 ∨ w = 2 ∨ w = 3 by omega) with hw0 | hw0 | hw0 | hw0
  · skip
    refine I_tab (tgt := 64) dX10_received_33 ⟨by omega, by omega⟩ (by omega) (by omega) (by rw [hw0]; rfl) (by decide) ?_
    refine V_aload_n dX10_received_64 rfl ?_
    refine V_getf fX10_191 dX10_received_65 z0 rfl ?_
    exact V_ireti dX10_received_68 rfl (Nat.le_of_ble_eq_true rfl) (Nat.le_of_ble_eq_true rfl) (hQ _ _ _ (iv (by unfold rre; simp [hw0])) rfl)
  · skip
    refine I_tab (tgt := 69) dX10_received_33 ⟨by omega, by omega⟩ (by omega) (by omega) (by rw [hw0]; rfl) (by decide) ?_
    refine V_aload_n dX10_received_69 rfl ?_
    refine V_getf fX10_194 dX10_received_70 z0 rfl ?_
    exact V_ireti dX10_received_73 rfl (Nat.le_of_ble_eq_true rfl) (Nat.le_of_ble_eq_true rfl) (hQ _ _ _ (iv (by unfold rre; simp [hw0])) rfl)
  · skip
    refine I_tab (tgt := 74) dX10_received_33 ⟨by omega, by omega⟩ (by omega) (by omega) (by rw [hw0]; rfl) (by decide) ?_
    refine V_aload_n dX10_received_74 rfl ?_
    refine V_getf fX10_197 dX10_received_75 z0 rfl ?_
    exact V_ireti dX10_received_78 rfl (Nat.le_of_ble_eq_true rfl) (Nat.le_of_ble_eq_true rfl) (hQ _ _ _ (iv (by unfold rre; simp [hw0])) rfl)
  · skip
    refine I_tab (tgt := 79) dX10_received_33 ⟨by omega, by omega⟩ (by omega) (by omega) (by rw [hw0]; rfl) (by decide) ?_
    refine V_tern (J := 91) (v := .int (iI (rre ρ c w))) (fun sz => ?_) (fun j91 => ?_)
    · exact V_ireti dX10_received_91 rfl (Nat.le_of_ble_eq_true rfl) (Nat.le_of_ble_eq_true rfl) (hQ _ _ _ (iv (by rfl)) rfl)
    · refine V_aload_n dX10_received_79 rfl ?_
      refine V_getf fX10_200 dX10_received_80 z0 rfl ?_
      refine I_if_eq (tgt := 90) dX10_received_83 (by decide) ⟨by omega, by omega⟩ (fun h83 => ?_) (fun h83 => ?_)
      · refine V_iconst (v := iI (0)) dX10_received_90 rfl ?_
        exact V_top (vi (by unfold rre; simp [hw0]; omega)) (j91 _)
      · refine V_iconst (v := iI (1)) dX10_received_86 rfl ?_
        refine V_goto (tgt := 91) dX10_received_87 (by decide) ?_
        exact V_top (vi (by unfold rre; simp [hw0]; omega)) (j91 _)

set_option maxRecDepth 100000 in
set_option maxHeartbeats 4000000 in
theorem p_application (l : Launch) (hfl : l.stackTraces = false) (M : ME) (x : Nat) (ρ π : Int → Int) (sv : Int) (hT : TL M x ρ π sv) (c : Int) (hc : -2147483648 ≤ c ∧ c < 2147483648) (w : Int) (hw : -2147483648 ≤ w ∧ w < 2147483648) (e : Int) (he : (¬ (0 ≤ c ∧ c ≤ 14) ∧ e = 1) ∨ ((0 ≤ c ∧ c ≤ 14) ∧ ¬ (0 ≤ w ∧ w ≤ 2) ∧ e = 2) ∨ ((0 ≤ c ∧ c ≤ 14) ∧ (0 ≤ w ∧ w ≤ 2) ∧ e = 0)) : CX l yX10_application cX10_application 3 (some .int) (rmX 8) [.ref x, .int (iI c), .int (iI w)] M (fun v M' => e = 0 ∧ v = some (.int (iI (ρ (4443 + 4 * c + w)))) ∧ M' = M) (fun E M' => ((e = 1 ∧ E = ioo) ∨ (e = 2 ∧ E = iae)) ∧ M' = M) := by
  obtain ⟨a, f, x0, x1, x2, x3, x4, x5⟩ := id hT
  have ba := x2.1.b
  obtain ⟨sq, m1, m2, m3, m4⟩ := id x3.1
  obtain ⟨lm, cn, ap, am, ab, al, r0, r1, r2, r3, r4, r5, r6, r7, r8, r9⟩ := id x3.2.2.2.1
  refine CX.of (L0 := [some _, some _, some _]) (by decide +kernel) rfl rfl (Nat.le_of_ble_eq_true rfl) rfl (fun G A Q X sz hQ hX => ?_)
  refine V_iload_n dX10_application_0 rfl ?_
  refine V_iconst (v := iI (0)) dX10_application_1 rfl ?_
  refine V_bipush (v := iI (14)) dX10_application_2 (by decide +kernel) ?_
  refine V_cS (vs := [_, _, _]) (x_outside l M (c) (0) (14) (by unfold r32; omega)) mX10_24 coX10_outside dX10_application_4 rfl rfl (by decide) (Nat.le_of_ble_eq_true rfl) (Nat.le_of_ble_eq_true rfl) (Nat.le_of_ble_eq_true rfl) (fun sz => ?_)
  obtain ⟨vo0, ho0, eo0⟩ := ex_if (p := c < 0 ∨ 14 < c)
  rw [eo0]
  refine I_if_eq (tgt := 20) dX10_application_7 (by decide) ⟨by omega, by omega⟩ (fun h7 => ?_) (fun h7 => ?_)
  · refine V_iload_n dX10_application_20 rfl ?_
    rcases (show (w < 0 ∨ 2 < w) ∨ w = 0 ∨ w = 1 ∨ w = 2 by omega) with hw0 | hw0 | hw0 | hw0
    · skip
      refine I_tabOut (tgt := 87) dX10_application_21 ⟨by omega, by omega⟩ (by omega) (by decide) ?_
      exact V_iae hfl sX10_99 dX10_application_87 dX10_application_90 dX10_application_91 dX10_application_93 dX10_application_96 (by decide) (Nat.le_of_ble_eq_true rfl) (Nat.le_of_ble_eq_true rfl) (Nat.le_of_ble_eq_true rfl) (hX _ _ ⟨Or.inr (⟨by omega, rfl⟩), rfl⟩)
    · skip
      refine I_tab (tgt := 48) dX10_application_21 ⟨by omega, by omega⟩ (by omega) (by omega) (by rw [hw0]; rfl) (by decide) ?_
      refine V_aload_n dX10_application_48 rfl ?_
      refine V_getf fX10_10 dX10_application_49 x0 rfl ?_
      refine V_getf fX10_170 dX10_application_52 m1 rfl ?_
      refine V_getf fX10_205 dX10_application_55 r0 rfl ?_
      refine V_iload_n dX10_application_58 rfl ?_
      refine I_iald dX10_application_59 r2 ⟨by omega, by omega⟩ (by decide) ?_
      exact V_ireti dX10_application_60 rfl (Nat.le_of_ble_eq_true rfl) (Nat.le_of_ble_eq_true rfl) (hQ _ _ _ ⟨by omega, iv (by have h9 := r9 c (by omega) (by omega); rw [hw0]; first | (rw [Int.add_zero]; exact h9.1) | exact h9.2.1 | exact h9.2.2.1), rfl⟩)
    · skip
      refine I_tab (tgt := 61) dX10_application_21 ⟨by omega, by omega⟩ (by omega) (by omega) (by rw [hw0]; rfl) (by decide) ?_
      refine V_aload_n dX10_application_61 rfl ?_
      refine V_getf fX10_10 dX10_application_62 x0 rfl ?_
      refine V_getf fX10_170 dX10_application_65 m1 rfl ?_
      refine V_getf fX10_208 dX10_application_68 r0 rfl ?_
      refine V_iload_n dX10_application_71 rfl ?_
      refine I_iald dX10_application_72 r3 ⟨by omega, by omega⟩ (by decide) ?_
      exact V_ireti dX10_application_73 rfl (Nat.le_of_ble_eq_true rfl) (Nat.le_of_ble_eq_true rfl) (hQ _ _ _ ⟨by omega, iv (by have h9 := r9 c (by omega) (by omega); rw [hw0]; first | (rw [Int.add_zero]; exact h9.1) | exact h9.2.1 | exact h9.2.2.1), rfl⟩)
    · skip
      refine I_tab (tgt := 74) dX10_application_21 ⟨by omega, by omega⟩ (by omega) (by omega) (by rw [hw0]; rfl) (by decide) ?_
      refine V_aload_n dX10_application_74 rfl ?_
      refine V_getf fX10_10 dX10_application_75 x0 rfl ?_
      refine V_getf fX10_170 dX10_application_78 m1 rfl ?_
      refine V_getf fX10_211 dX10_application_81 r0 rfl ?_
      refine V_iload_n dX10_application_84 rfl ?_
      refine I_iald dX10_application_85 r4 ⟨by omega, by omega⟩ (by decide) ?_
      exact V_ireti dX10_application_86 rfl (Nat.le_of_ble_eq_true rfl) (Nat.le_of_ble_eq_true rfl) (hQ _ _ _ ⟨by omega, iv (by have h9 := r9 c (by omega) (by omega); rw [hw0]; first | (rw [Int.add_zero]; exact h9.1) | exact h9.2.1 | exact h9.2.2.1), rfl⟩)
  · exact V_ioo hfl sX10_203 dX10_application_10 dX10_application_13 dX10_application_14 dX10_application_16 dX10_application_19 (by decide) (Nat.le_of_ble_eq_true rfl) (Nat.le_of_ble_eq_true rfl) (Nat.le_of_ble_eq_true rfl) (hX _ _ ⟨Or.inl ⟨by omega, rfl⟩, rfl⟩)

set_option maxRecDepth 100000 in
set_option maxHeartbeats 4000000 in
theorem p_applicationV (l : Launch) (M : ME) (x : Nat) (ρ π : Int → Int) (sv : Int) (hT : TL M x ρ π sv) (c w : Int) (hc : 0 ≤ c ∧ c ≤ 14) (hw : 0 ≤ w ∧ w ≤ 2) : CF l yX10_application cX10_application 3 (some .int) (rmN 7) [.ref x, .int (iI c), .int (iI w)] M (some (.int (iI (ρ (4443 + 4 * c + w))))) M := by
  obtain ⟨a, f, x0, x1, x2, x3, x4, x5⟩ := id hT
  have ba := x2.1.b
  obtain ⟨sq, m1, m2, m3, m4⟩ := id x3.1
  obtain ⟨lm, cn, ap, am, ab, al, r0, r1, r2, r3, r4, r5, r6, r7, r8, r9⟩ := id x3.2.2.2.1
  refine CF.of (L0 := [some _, some _, some _]) (by decide +kernel) rfl rfl (Nat.le_of_ble_eq_true rfl) rfl (fun G A Q sz hQ => ?_)
  refine V_iload_n dX10_application_0 rfl ?_
  refine V_iconst (v := iI (0)) dX10_application_1 rfl ?_
  refine V_bipush (v := iI (14)) dX10_application_2 (by decide +kernel) ?_
  refine V_cS (vs := [_, _, _]) (x_outside l M (c) (0) (14) (by unfold r32; omega)) mX10_24 coX10_outside dX10_application_4 rfl rfl (by decide) (Nat.le_of_ble_eq_true rfl) (Nat.le_of_ble_eq_true rfl) (Nat.le_of_ble_eq_true rfl) (fun sz => ?_)
  obtain ⟨vo0, ho0, eo0⟩ := ex_if (p := c < 0 ∨ 14 < c)
  rw [eo0]
  refine I_if_eq_t (tgt := 20) dX10_application_7 (by decide) ⟨by omega, by omega⟩ (by omega) ?_
  refine V_iload_n dX10_application_20 rfl ?_
  rcases (show w = 0 ∨ w = 1 ∨ w = 2 by omega) with hw0 | hw0 | hw0
  · skip
    refine I_tab (tgt := 48) dX10_application_21 ⟨by omega, by omega⟩ (by omega) (by omega) (by rw [hw0]; rfl) (by decide) ?_
    refine V_aload_n dX10_application_48 rfl ?_
    refine V_getf fX10_10 dX10_application_49 x0 rfl ?_
    refine V_getf fX10_170 dX10_application_52 m1 rfl ?_
    refine V_getf fX10_205 dX10_application_55 r0 rfl ?_
    refine V_iload_n dX10_application_58 rfl ?_
    refine I_iald dX10_application_59 r2 ⟨by omega, by omega⟩ (by decide) ?_
    exact V_ireti dX10_application_60 rfl (Nat.le_of_ble_eq_true rfl) (Nat.le_of_ble_eq_true rfl) (hQ _ _ _ (iv (by have h9 := r9 c (by omega) (by omega); rw [hw0]; first | (rw [Int.add_zero]; exact h9.1) | exact h9.2.1 | exact h9.2.2.1)) rfl)
  · skip
    refine I_tab (tgt := 61) dX10_application_21 ⟨by omega, by omega⟩ (by omega) (by omega) (by rw [hw0]; rfl) (by decide) ?_
    refine V_aload_n dX10_application_61 rfl ?_
    refine V_getf fX10_10 dX10_application_62 x0 rfl ?_
    refine V_getf fX10_170 dX10_application_65 m1 rfl ?_
    refine V_getf fX10_208 dX10_application_68 r0 rfl ?_
    refine V_iload_n dX10_application_71 rfl ?_
    refine I_iald dX10_application_72 r3 ⟨by omega, by omega⟩ (by decide) ?_
    exact V_ireti dX10_application_73 rfl (Nat.le_of_ble_eq_true rfl) (Nat.le_of_ble_eq_true rfl) (hQ _ _ _ (iv (by have h9 := r9 c (by omega) (by omega); rw [hw0]; first | (rw [Int.add_zero]; exact h9.1) | exact h9.2.1 | exact h9.2.2.1)) rfl)
  · skip
    refine I_tab (tgt := 74) dX10_application_21 ⟨by omega, by omega⟩ (by omega) (by omega) (by rw [hw0]; rfl) (by decide) ?_
    refine V_aload_n dX10_application_74 rfl ?_
    refine V_getf fX10_10 dX10_application_75 x0 rfl ?_
    refine V_getf fX10_170 dX10_application_78 m1 rfl ?_
    refine V_getf fX10_211 dX10_application_81 r0 rfl ?_
    refine V_iload_n dX10_application_84 rfl ?_
    refine I_iald dX10_application_85 r4 ⟨by omega, by omega⟩ (by decide) ?_
    exact V_ireti dX10_application_86 rfl (Nat.le_of_ble_eq_true rfl) (Nat.le_of_ble_eq_true rfl) (hQ _ _ _ (iv (by have h9 := r9 c (by omega) (by omega); rw [hw0]; first | (rw [Int.add_zero]; exact h9.1) | exact h9.2.1 | exact h9.2.2.1)) rfl)

set_option maxRecDepth 100000 in
set_option maxHeartbeats 4000000 in
theorem p_packets (l : Launch) (M : ME) (x : Nat) (ρ π : Int → Int) (sv : Int) (hT : TL M x ρ π sv) : CF l yX10_packets cX10_packets 1 (some .int) (rmN 7) [.ref x] M (some (.int (iI (ρ 4503)))) M := by
  obtain ⟨a, f, x0, x1, x2, x3, x4, x5⟩ := id hT
  have ba := x2.1.b
  obtain ⟨sq, m1, m2, m3, m4⟩ := id x3.1
  obtain ⟨lm, cn, ap, am, ab, al, r0, r1, r2, r3, r4, r5, r6, r7, r8, r9⟩ := id x3.2.2.2.1
  obtain ⟨kp, d1, d2, d3, d4, d5, d6⟩ := id x3.2.2.2.2.2.1
  refine CF.of (L0 := [some _]) (by decide +kernel) rfl rfl (Nat.le_of_ble_eq_true rfl) rfl (fun G A Q sz hQ => ?_)
  refine V_aload_n dX10_packets_0 rfl ?_
  refine V_getf fX10_10 dX10_packets_1 x0 rfl ?_
  refine V_getf fX10_170 dX10_packets_4 m1 rfl ?_
  refine V_getf fX10_214 dX10_packets_7 r0 rfl ?_
  refine V_getf fX10_218 dX10_packets_10 d1 rfl ?_
  exact V_ireti dX10_packets_13 rfl (Nat.le_of_ble_eq_true rfl) (Nat.le_of_ble_eq_true rfl) (hQ _ _ _ rfl rfl)

set_option maxRecDepth 100000 in
set_option maxHeartbeats 4000000 in
theorem p_packet (l : Launch) (hfl : l.stackTraces = false) (M : ME) (x : Nat) (ρ π : Int → Int) (sv : Int) (hT : TL M x ρ π sv) (hAi : Ai ρ) (B : Int) (hC : CI B ρ) (i : Int) (hi : -2147483648 ≤ i ∧ i < 2147483648) (w : Int) (hw : -2147483648 ≤ w ∧ w < 2147483648) (e : Int) (he : (¬ (0 ≤ i ∧ i ≤ ρ 4503 - 1) ∧ e = 1) ∨ ((0 ≤ i ∧ i ≤ ρ 4503 - 1) ∧ ¬ (0 ≤ w ∧ w ≤ 4) ∧ e = 2) ∨ ((0 ≤ i ∧ i ≤ ρ 4503 - 1) ∧ (0 ≤ w ∧ w ≤ 4) ∧ e = 0)) : CX l yX10_packet cX10_packet 4 (some .int) (rmX 8) [.ref x, .int (iI i), .int (iI w)] M (fun v M' => e = 0 ∧ v = some (.int (iI (ρ (4504 + 260 * i + w)))) ∧ M' = M) (fun E M' => ((e = 1 ∧ E = ioo) ∨ (e = 2 ∧ E = iae)) ∧ M' = M) := by
  obtain ⟨a, f, x0, x1, x2, x3, x4, x5⟩ := id hT
  have ba := x2.1.b
  obtain ⟨sq, m1, m2, m3, m4⟩ := id x3.1
  obtain ⟨lm, cn, ap, am, ab, al, r0, r1, r2, r3, r4, r5, r6, r7, r8, r9⟩ := id x3.2.2.2.1
  obtain ⟨kp, d1, d2, d3, d4, d5, d6⟩ := id x3.2.2.2.2.2.1
  refine CX.of (L0 := [some _, some _, some _, none]) (by decide +kernel) rfl rfl (Nat.le_of_ble_eq_true rfl) rfl (fun G A Q X sz hQ hX => ?_)
  refine V_iload_n dX10_packet_0 rfl ?_
  refine V_iconst (v := iI (0)) dX10_packet_1 rfl ?_
  refine V_aload_n dX10_packet_2 rfl ?_
  refine V_getf fX10_10 dX10_packet_3 x0 rfl ?_
  refine V_getf fX10_170 dX10_packet_6 m1 rfl ?_
  refine V_getf fX10_214 dX10_packet_9 r0 rfl ?_
  refine V_getf fX10_218 dX10_packet_12 d1 rfl ?_
  refine V_iconst (v := iI (1)) dX10_packet_15 rfl ?_
  refine I_isub dX10_packet_16 ?_
  refine V_cS (vs := [_, _, _]) (x_outside l M (i) (0) (ρ 4503 - 1) (by unfold r32; omega)) mX10_24 coX10_outside dX10_packet_17 rfl rfl (by decide) (Nat.le_of_ble_eq_true rfl) (Nat.le_of_ble_eq_true rfl) (Nat.le_of_ble_eq_true rfl) (fun sz => ?_)
  obtain ⟨vo0, ho0, eo0⟩ := ex_if (p := i < 0 ∨ ρ 4503 - 1 < i)
  rw [eo0]
  refine I_if_eq (tgt := 33) dX10_packet_20 (by decide) ⟨by omega, by omega⟩ (fun h20 => ?_) (fun h20 => ?_)
  · obtain ⟨gd, z0, z1, z2⟩ := id (d6 i (by omega) (by omega))
    have hl3 := hAi.2.2 i (by omega) (by omega)
    have e30 : sl ρ (4504 + 260 * i) 3 = ρ (4504 + 260 * i + 3) := rfl
    refine V_aload_n dX10_packet_33 rfl ?_
    refine V_getf fX10_10 dX10_packet_34 x0 rfl ?_
    refine V_getf fX10_170 dX10_packet_37 m1 rfl ?_
    refine V_getf fX10_214 dX10_packet_40 r0 rfl ?_
    refine V_getf fX10_223 dX10_packet_43 d1 rfl ?_
    refine V_iload_n dX10_packet_46 rfl ?_
    refine I_aald ao2 dX10_packet_47 d2 ⟨by omega, by omega⟩ (by decide) ?_
    refine V_astore_n (L' := [some _, some _, some _, some _]) dX10_packet_48 rfl (by decide) rfl ?_
    refine V_iload_n dX10_packet_49 rfl ?_
    rcases (show (w < 0 ∨ 4 < w) ∨ w = 0 ∨ w = 1 ∨ w = 2 ∨ w = 3 ∨ w = 4 by omega) with hw0 | hw0 | hw0 | hw0 | hw0 | hw0
    · skip
      refine I_tabOut (tgt := 109) dX10_packet_50 ⟨by omega, by omega⟩ (by omega) (by decide) ?_
      exact V_iae hfl sX10_99 dX10_packet_109 dX10_packet_112 dX10_packet_113 dX10_packet_115 dX10_packet_118 (by decide) (Nat.le_of_ble_eq_true rfl) (Nat.le_of_ble_eq_true rfl) (Nat.le_of_ble_eq_true rfl) (hX _ _ ⟨Or.inr (⟨by omega, rfl⟩), rfl⟩)
    · skip
      refine I_tab (tgt := 84) dX10_packet_50 ⟨by omega, by omega⟩ (by omega) (by omega) (by rw [hw0]; rfl) (by decide) ?_
      refine V_aload_n dX10_packet_84 rfl ?_
      refine V_getf fX10_227 dX10_packet_85 z0 rfl ?_
      exact V_ireti dX10_packet_88 rfl (Nat.le_of_ble_eq_true rfl) (Nat.le_of_ble_eq_true rfl) (hQ _ _ _ ⟨by omega, iv (by unfold sl; rw [hw0]), rfl⟩)
    · skip
      refine I_tab (tgt := 89) dX10_packet_50 ⟨by omega, by omega⟩ (by omega) (by omega) (by rw [hw0]; rfl) (by decide) ?_
      refine V_aload_n dX10_packet_89 rfl ?_
      refine V_getf fX10_232 dX10_packet_90 z0 rfl ?_
      exact V_ireti dX10_packet_93 rfl (Nat.le_of_ble_eq_true rfl) (Nat.le_of_ble_eq_true rfl) (hQ _ _ _ ⟨by omega, iv (by unfold sl; rw [hw0]), rfl⟩)
    · skip
      refine I_tab (tgt := 94) dX10_packet_50 ⟨by omega, by omega⟩ (by omega) (by omega) (by rw [hw0]; rfl) (by decide) ?_
      refine V_aload_n dX10_packet_94 rfl ?_
      refine V_getf fX10_235 dX10_packet_95 z0 rfl ?_
      exact V_ireti dX10_packet_98 rfl (Nat.le_of_ble_eq_true rfl) (Nat.le_of_ble_eq_true rfl) (hQ _ _ _ ⟨by omega, iv (by unfold sl; rw [hw0]), rfl⟩)
    · skip
      refine I_tab (tgt := 99) dX10_packet_50 ⟨by omega, by omega⟩ (by omega) (by omega) (by rw [hw0]; rfl) (by decide) ?_
      refine V_aload_n dX10_packet_99 rfl ?_
      refine V_getf fX10_238 dX10_packet_100 z0 rfl ?_
      exact V_ireti dX10_packet_103 rfl (Nat.le_of_ble_eq_true rfl) (Nat.le_of_ble_eq_true rfl) (hQ _ _ _ ⟨by omega, iv (by unfold sl; rw [hw0]), rfl⟩)
    · skip
      refine I_tab (tgt := 104) dX10_packet_50 ⟨by omega, by omega⟩ (by omega) (by omega) (by rw [hw0]; rfl) (by decide) ?_
      refine V_aload_n dX10_packet_104 rfl ?_
      refine V_cV (vs := []) (d_sum l M (kp i) _ _ _ _ z0 gd z1 (by omega)) mX10_241 coX1_sum dX10_packet_105 z0 rfl rfl rfl (by decide) (Nat.le_of_ble_eq_true rfl) (Nat.le_of_ble_eq_true rfl) (Nat.le_of_ble_eq_true rfl) (fun sz => ?_)
      exact V_ireti dX10_packet_108 rfl (Nat.le_of_ble_eq_true rfl) (Nat.le_of_ble_eq_true rfl) (hQ _ _ _ ⟨by omega, iv (Eq.symm <| by rw [hw0, hC.2.2.2 i (by omega) (by omega), e30]; exact dsum_cg _ (fun k u v => by symm; show gd k = ρ (4504 + 260 * i + 5 + k); rw [z2 k u (by omega)]; unfold sl; congr 1; omega)), rfl⟩)
  · exact V_ioo hfl sX10_221 dX10_packet_23 dX10_packet_26 dX10_packet_27 dX10_packet_29 dX10_packet_32 (by decide) (Nat.le_of_ble_eq_true rfl) (Nat.le_of_ble_eq_true rfl) (Nat.le_of_ble_eq_true rfl) (hX _ _ ⟨Or.inl ⟨by omega, rfl⟩, rfl⟩)

set_option maxRecDepth 100000 in
set_option maxHeartbeats 4000000 in
theorem p_packetV (l : Launch) (M : ME) (x : Nat) (ρ π : Int → Int) (sv : Int) (hT : TL M x ρ π sv) (hAi : Ai ρ) (B : Int) (hC : CI B ρ) (i w : Int) (hi : 0 ≤ i ∧ i ≤ ρ 4503 - 1) (hw : 0 ≤ w ∧ w ≤ 4) : CF l yX10_packet cX10_packet 4 (some .int) (rmN 7) [.ref x, .int (iI i), .int (iI w)] M (some (.int (iI (ρ (4504 + 260 * i + w))))) M := by
  obtain ⟨a, f, x0, x1, x2, x3, x4, x5⟩ := id hT
  have ba := x2.1.b
  obtain ⟨sq, m1, m2, m3, m4⟩ := id x3.1
  obtain ⟨lm, cn, ap, am, ab, al, r0, r1, r2, r3, r4, r5, r6, r7, r8, r9⟩ := id x3.2.2.2.1
  obtain ⟨kp, d1, d2, d3, d4, d5, d6⟩ := id x3.2.2.2.2.2.1
  refine CF.of (L0 := [some _, some _, some _, none]) (by decide +kernel) rfl rfl (Nat.le_of_ble_eq_true rfl) rfl (fun G A Q sz hQ => ?_)
  refine V_iload_n dX10_packet_0 rfl ?_
  refine V_iconst (v := iI (0)) dX10_packet_1 rfl ?_
  refine V_aload_n dX10_packet_2 rfl ?_
  refine V_getf fX10_10 dX10_packet_3 x0 rfl ?_
  refine V_getf fX10_170 dX10_packet_6 m1 rfl ?_
  refine V_getf fX10_214 dX10_packet_9 r0 rfl ?_
  refine V_getf fX10_218 dX10_packet_12 d1 rfl ?_
  refine V_iconst (v := iI (1)) dX10_packet_15 rfl ?_
  refine I_isub dX10_packet_16 ?_
  refine V_cS (vs := [_, _, _]) (x_outside l M (i) (0) (ρ 4503 - 1) (by unfold r32; omega)) mX10_24 coX10_outside dX10_packet_17 rfl rfl (by decide) (Nat.le_of_ble_eq_true rfl) (Nat.le_of_ble_eq_true rfl) (Nat.le_of_ble_eq_true rfl) (fun sz => ?_)
  obtain ⟨vo0, ho0, eo0⟩ := ex_if (p := i < 0 ∨ ρ 4503 - 1 < i)
  rw [eo0]
  refine I_if_eq_t (tgt := 33) dX10_packet_20 (by decide) ⟨by omega, by omega⟩ (by omega) ?_
  obtain ⟨gd, z0, z1, z2⟩ := id (d6 i (by omega) (by omega))
  have hl3 := hAi.2.2 i (by omega) (by omega)
  have e30 : sl ρ (4504 + 260 * i) 3 = ρ (4504 + 260 * i + 3) := rfl
  refine V_aload_n dX10_packet_33 rfl ?_
  refine V_getf fX10_10 dX10_packet_34 x0 rfl ?_
  refine V_getf fX10_170 dX10_packet_37 m1 rfl ?_
  refine V_getf fX10_214 dX10_packet_40 r0 rfl ?_
  refine V_getf fX10_223 dX10_packet_43 d1 rfl ?_
  refine V_iload_n dX10_packet_46 rfl ?_
  refine I_aald ao2 dX10_packet_47 d2 ⟨by omega, by omega⟩ (by decide) ?_
  refine V_astore_n (L' := [some _, some _, some _, some _]) dX10_packet_48 rfl (by decide) rfl ?_
  refine V_iload_n dX10_packet_49 rfl ?_
  rcases (show w = 0 ∨ w = 1 ∨ w = 2 ∨ w = 3 ∨ w = 4 by omega) with hw0 | hw0 | hw0 | hw0 | hw0
  · skip
    refine I_tab (tgt := 84) dX10_packet_50 ⟨by omega, by omega⟩ (by omega) (by omega) (by rw [hw0]; rfl) (by decide) ?_
    refine V_aload_n dX10_packet_84 rfl ?_
    refine V_getf fX10_227 dX10_packet_85 z0 rfl ?_
    exact V_ireti dX10_packet_88 rfl (Nat.le_of_ble_eq_true rfl) (Nat.le_of_ble_eq_true rfl) (hQ _ _ _ (iv (by unfold sl; rw [hw0])) rfl)
  · skip
    refine I_tab (tgt := 89) dX10_packet_50 ⟨by omega, by omega⟩ (by omega) (by omega) (by rw [hw0]; rfl) (by decide) ?_
    refine V_aload_n dX10_packet_89 rfl ?_
    refine V_getf fX10_232 dX10_packet_90 z0 rfl ?_
    exact V_ireti dX10_packet_93 rfl (Nat.le_of_ble_eq_true rfl) (Nat.le_of_ble_eq_true rfl) (hQ _ _ _ (iv (by unfold sl; rw [hw0])) rfl)
  · skip
    refine I_tab (tgt := 94) dX10_packet_50 ⟨by omega, by omega⟩ (by omega) (by omega) (by rw [hw0]; rfl) (by decide) ?_
    refine V_aload_n dX10_packet_94 rfl ?_
    refine V_getf fX10_235 dX10_packet_95 z0 rfl ?_
    exact V_ireti dX10_packet_98 rfl (Nat.le_of_ble_eq_true rfl) (Nat.le_of_ble_eq_true rfl) (hQ _ _ _ (iv (by unfold sl; rw [hw0])) rfl)
  · skip
    refine I_tab (tgt := 99) dX10_packet_50 ⟨by omega, by omega⟩ (by omega) (by omega) (by rw [hw0]; rfl) (by decide) ?_
    refine V_aload_n dX10_packet_99 rfl ?_
    refine V_getf fX10_238 dX10_packet_100 z0 rfl ?_
    exact V_ireti dX10_packet_103 rfl (Nat.le_of_ble_eq_true rfl) (Nat.le_of_ble_eq_true rfl) (hQ _ _ _ (iv (by unfold sl; rw [hw0])) rfl)
  · skip
    refine I_tab (tgt := 104) dX10_packet_50 ⟨by omega, by omega⟩ (by omega) (by omega) (by rw [hw0]; rfl) (by decide) ?_
    refine V_aload_n dX10_packet_104 rfl ?_
    refine V_cV (vs := []) (d_sum l M (kp i) _ _ _ _ z0 gd z1 (by omega)) mX10_241 coX1_sum dX10_packet_105 z0 rfl rfl rfl (by decide) (Nat.le_of_ble_eq_true rfl) (Nat.le_of_ble_eq_true rfl) (Nat.le_of_ble_eq_true rfl) (fun sz => ?_)
    exact V_ireti dX10_packet_108 rfl (Nat.le_of_ble_eq_true rfl) (Nat.le_of_ble_eq_true rfl) (hQ _ _ _ (iv (Eq.symm <| by rw [hw0, hC.2.2.2 i (by omega) (by omega), e30]; exact dsum_cg _ (fun k u v => by symm; show gd k = ρ (4504 + 260 * i + 5 + k); rw [z2 k u (by omega)]; unfold sl; congr 1; omega))) rfl)

set_option maxRecDepth 100000 in
set_option maxHeartbeats 4000000 in
theorem p_packetByte (l : Launch) (hfl : l.stackTraces = false) (M : ME) (x : Nat) (ρ π : Int → Int) (sv : Int) (hT : TL M x ρ π sv) (hAi : Ai ρ) (i : Int) (hi : -2147483648 ≤ i ∧ i < 2147483648) (w : Int) (hw : -2147483648 ≤ w ∧ w < 2147483648) (e : Int) (he : (¬ ((0 ≤ i ∧ i ≤ ρ 4503 - 1) ∧ (0 ≤ w ∧ w ≤ ρ (4504 + 260 * i + 3) - 1)) ∧ e = 1) ∨ (((0 ≤ i ∧ i ≤ ρ 4503 - 1) ∧ (0 ≤ w ∧ w ≤ ρ (4504 + 260 * i + 3) - 1)) ∧ e = 0)) : CX l yX10_packetByte cX10_packetByte 3 (some .int) (rmX 8) [.ref x, .int (iI i), .int (iI w)] M (fun v M' => e = 0 ∧ v = some (.int (iI (ρ (4504 + 260 * i + 5 + w)))) ∧ M' = M) (fun E M' => ((e = 1 ∧ E = ioo)) ∧ M' = M) := by
  obtain ⟨a, f, x0, x1, x2, x3, x4, x5⟩ := id hT
  have ba := x2.1.b
  obtain ⟨sq, m1, m2, m3, m4⟩ := id x3.1
  obtain ⟨lm, cn, ap, am, ab, al, r0, r1, r2, r3, r4, r5, r6, r7, r8, r9⟩ := id x3.2.2.2.1
  obtain ⟨kp, d1, d2, d3, d4, d5, d6⟩ := id x3.2.2.2.2.2.1
  refine CX.of (L0 := [some _, some _, some _]) (by decide +kernel) rfl rfl (Nat.le_of_ble_eq_true rfl) rfl (fun G A Q X sz hQ hX => ?_)
  refine V_iload_n dX10_packetByte_0 rfl ?_
  refine V_iconst (v := iI (0)) dX10_packetByte_1 rfl ?_
  refine V_aload_n dX10_packetByte_2 rfl ?_
  refine V_getf fX10_10 dX10_packetByte_3 x0 rfl ?_
  refine V_getf fX10_170 dX10_packetByte_6 m1 rfl ?_
  refine V_getf fX10_214 dX10_packetByte_9 r0 rfl ?_
  refine V_getf fX10_218 dX10_packetByte_12 d1 rfl ?_
  refine V_iconst (v := iI (1)) dX10_packetByte_15 rfl ?_
  refine I_isub dX10_packetByte_16 ?_
  refine V_cS (vs := [_, _, _]) (x_outside l M (i) (0) (ρ 4503 - 1) (by unfold r32; omega)) mX10_24 coX10_outside dX10_packetByte_17 rfl rfl (by decide) (Nat.le_of_ble_eq_true rfl) (Nat.le_of_ble_eq_true rfl) (Nat.le_of_ble_eq_true rfl) (fun sz => ?_)
  obtain ⟨vo0, ho0, eo0⟩ := ex_if (p := i < 0 ∨ ρ 4503 - 1 < i)
  rw [eo0]
  refine I_if_ne (tgt := 51) dX10_packetByte_20 (by decide) ⟨by omega, by omega⟩ (fun h20 => ?_) (fun h20 => ?_)
  · exact V_ioo hfl sX10_244 dX10_packetByte_51 dX10_packetByte_54 dX10_packetByte_55 dX10_packetByte_57 dX10_packetByte_60 (by decide) (Nat.le_of_ble_eq_true rfl) (Nat.le_of_ble_eq_true rfl) (Nat.le_of_ble_eq_true rfl) (hX _ _ ⟨⟨by omega, rfl⟩, rfl⟩)
  · obtain ⟨gd, z0, z1, z2⟩ := id (d6 i (by omega) (by omega))
    have hl3 := hAi.2.2 i (by omega) (by omega)
    have e30 : sl ρ (4504 + 260 * i) 3 = ρ (4504 + 260 * i + 3) := rfl
    refine V_iload_n dX10_packetByte_23 rfl ?_
    refine V_iconst (v := iI (0)) dX10_packetByte_24 rfl ?_
    refine V_aload_n dX10_packetByte_25 rfl ?_
    refine V_getf fX10_10 dX10_packetByte_26 x0 rfl ?_
    refine V_getf fX10_170 dX10_packetByte_29 m1 rfl ?_
    refine V_getf fX10_214 dX10_packetByte_32 r0 rfl ?_
    refine V_getf fX10_223 dX10_packetByte_35 d1 rfl ?_
    refine V_iload_n dX10_packetByte_38 rfl ?_
    refine I_aald ao2 dX10_packetByte_39 d2 ⟨by omega, by omega⟩ (by decide) ?_
    refine V_getf fX10_238 dX10_packetByte_40 z0 rfl ?_
    refine V_iconst (v := iI (1)) dX10_packetByte_43 rfl ?_
    refine I_isub dX10_packetByte_44 ?_
    refine V_cS (vs := [_, _, _]) (x_outside l M (w) (0) (sl ρ (4504 + 260 * i) 3 - 1) (by unfold r32; omega)) mX10_24 coX10_outside dX10_packetByte_45 rfl rfl (by decide) (Nat.le_of_ble_eq_true rfl) (Nat.le_of_ble_eq_true rfl) (Nat.le_of_ble_eq_true rfl) (fun sz => ?_)
    obtain ⟨vo1, ho1, eo1⟩ := ex_if (p := w < 0 ∨ sl ρ (4504 + 260 * i) 3 - 1 < w)
    rw [eo1]
    refine I_if_eq (tgt := 61) dX10_packetByte_48 (by decide) ⟨by omega, by omega⟩ (fun h48 => ?_) (fun h48 => ?_)
    · refine V_aload_n dX10_packetByte_61 rfl ?_
      refine V_getf fX10_10 dX10_packetByte_62 x0 rfl ?_
      refine V_getf fX10_170 dX10_packetByte_65 m1 rfl ?_
      refine V_getf fX10_214 dX10_packetByte_68 r0 rfl ?_
      refine V_getf fX10_223 dX10_packetByte_71 d1 rfl ?_
      refine V_iload_n dX10_packetByte_74 rfl ?_
      refine I_aald ao2 dX10_packetByte_75 d2 ⟨by omega, by omega⟩ (by decide) ?_
      refine V_getf fX10_246 dX10_packetByte_76 z0 rfl ?_
      refine V_iload_n dX10_packetByte_79 rfl ?_
      refine I_iald dX10_packetByte_80 z1 ⟨by omega, by omega⟩ (by decide) ?_
      exact V_ireti dX10_packetByte_81 rfl (Nat.le_of_ble_eq_true rfl) (Nat.le_of_ble_eq_true rfl) (hQ _ _ _ ⟨by omega, iv (by rw [z2 w (by omega) (by omega)]; unfold sl; congr 1; omega), rfl⟩)
    · exact V_ioo hfl sX10_244 dX10_packetByte_51 dX10_packetByte_54 dX10_packetByte_55 dX10_packetByte_57 dX10_packetByte_60 (by decide) (Nat.le_of_ble_eq_true rfl) (Nat.le_of_ble_eq_true rfl) (Nat.le_of_ble_eq_true rfl) (hX _ _ ⟨⟨by omega, rfl⟩, rfl⟩)

set_option maxRecDepth 100000 in
set_option maxHeartbeats 4000000 in
theorem p_clock (l : Launch) (M : ME) (x : Nat) (ρ π : Int → Int) (sv : Int) (hT : TL M x ρ π sv) (h3b : 0 ≤ ρ 3 ∧ ρ 3 ≤ 100000) (h1b : -1000 ≤ ρ 1 ∧ ρ 1 ≤ 1000) : CF l yX10_clock cX10_clock 1 (some .long) (rmN 7) [.ref x] M (some (.long (lI (rclk ρ)))) M := by
  obtain ⟨a, f, x0, x1, x2, x3, x4, x5⟩ := id hT
  have ba := x2.1.b
  obtain ⟨sq, m1, m2, m3, m4⟩ := id x3.1
  refine CF.of (L0 := [some _]) (by decide +kernel) rfl rfl (Nat.le_of_ble_eq_true rfl) rfl (fun G A Q sz hQ => ?_)
  refine V_aload_n dX10_clock_0 rfl ?_
  refine V_getf fX10_10 dX10_clock_1 x0 rfl ?_
  refine V_cV (vs := []) (s_boardTime l M a ρ x3.1 h3b h1b) mX10_249 coX7_boardTime dX10_clock_4 m1 rfl rfl rfl (by decide) (Nat.le_of_ble_eq_true rfl) (Nat.le_of_ble_eq_true rfl) (Nat.le_of_ble_eq_true rfl) (fun sz => ?_)
  exact V_lret dX10_clock_7 rfl (Nat.le_of_ble_eq_true rfl) (Nat.le_of_ble_eq_true rfl) (hQ _ _ _ rfl rfl)

set_option maxRecDepth 100000 in
set_option maxHeartbeats 4000000 in
theorem p_timePairs (l : Launch) (M : ME) (x : Nat) (ρ π : Int → Int) (sv : Int) (hT : TL M x ρ π sv) : CF l yX10_timePairs cX10_timePairs 1 (some .int) (rmN 7) [.ref x] M (some (.int (iI (ρ 12304)))) M := by
  obtain ⟨a, f, x0, x1, x2, x3, x4, x5⟩ := id hT
  have ba := x2.1.b
  obtain ⟨sq, m1, m2, m3, m4⟩ := id x3.1
  obtain ⟨lm, cn, ap, am, ab, al, r0, r1, r2, r3, r4, r5, r6, r7, r8, r9⟩ := id x3.2.2.2.1
  obtain ⟨gb, gg, t1, t2, t3, t4⟩ := id x3.2.2.2.2.2.2
  refine CF.of (L0 := [some _]) (by decide +kernel) rfl rfl (Nat.le_of_ble_eq_true rfl) rfl (fun G A Q sz hQ => ?_)
  refine V_aload_n dX10_timePairs_0 rfl ?_
  refine V_getf fX10_10 dX10_timePairs_1 x0 rfl ?_
  refine V_getf fX10_170 dX10_timePairs_4 m1 rfl ?_
  refine V_getf fX10_253 dX10_timePairs_7 r0 rfl ?_
  refine V_getf fX10_257 dX10_timePairs_10 t1 rfl ?_
  exact V_ireti dX10_timePairs_13 rfl (Nat.le_of_ble_eq_true rfl) (Nat.le_of_ble_eq_true rfl) (hQ _ _ _ rfl rfl)
