set_option maxRecDepth 100000 in
set_option maxHeartbeats 4000000 in
theorem p_addPacket (l : Launch) (hfl : l.stackTraces = false) (M : ME) (x : Nat) (ρ π : Int → Int) (sv : Int) (hT : TL M x ρ π sv) (hv : 0 ≤ sv ∧ sv ≤ 3) (hW : Wr ρ) (hI : RI ρ) (hP : ∀ i, 0 ≤ i → i < sv → Wr (sl π (12309 * i)) ∧ RI (sl π (12309 * i))) (hS : SI ρ) (hXq : ∀ a, 0 ≤ a → a ≤ 14 → 0 ≤ ρ (10 + a) ∧ ρ (10 + a) ≤ 255) (c : Int) (hc : -2147483648 ≤ c ∧ c < 2147483648) (p : Int) (hp : -2147483648 ≤ p ∧ p < 2147483648) (n : Int) (hn : -2147483648 ≤ n ∧ n < 2147483648) (s : Int) (hs : -2147483648 ≤ s ∧ s < 2147483648) (hPI : 0 ≤ c → c ≤ 3 → pin ρ c ≤ 12 ∧ ρ (54 + c) ≤ pin ρ c + 1) (pi : Int) (hpi : 0 ≤ c → c ≤ 3 → pi = pin ρ c) (e : Int) (he : (¬ (0 ≤ c ∧ c ≤ 3) ∧ e = 1) ∨ ((0 ≤ c ∧ c ≤ 3) ∧ ¬ ((0 ≤ p ∧ p ≤ 14) ∧ (1 ≤ n ∧ n ≤ 50) ∧ (0 ≤ s ∧ s ≤ 255)) ∧ e = 2) ∨ ((0 ≤ c ∧ c ≤ 3) ∧ ((0 ≤ p ∧ p ≤ 14) ∧ (1 ≤ n ∧ n ≤ 50) ∧ (0 ≤ s ∧ s ≤ 255)) ∧ pi = 12 ∧ e = 3) ∨ ((0 ≤ c ∧ c ≤ 3) ∧ ((0 ≤ p ∧ p ≤ 14) ∧ (1 ≤ n ∧ n ≤ 50) ∧ (0 ≤ s ∧ s ≤ 255)) ∧ ¬ pi = 12 ∧ e = 0)) : CX l yX10_addPacket cX10_addPacket 5 (some .int) (rmX 8) [.ref x, .int (iI c), .int (iI p), .int (iI n), .int (iI s)] M (fun v M' => e = 0 ∧ v = some (.int (iI (ρ (10 + p)))) ∧ TL M' x (rputs (up ρ (10 + p) ((ρ (10 + p) + 1) % 256)) c p (ρ (10 + p)) n s) (svP ρ π sv) (svS sv) ∧ FR M M' x 1062) (fun E M' => ((e = 1 ∧ E = ioo) ∨ (e = 2 ∧ E = iae) ∨ (e = 3 ∧ E = ise)) ∧ M' = M) := by
  obtain ⟨a, f, x0, x1, x2, x3, x4, x5⟩ := id hT
  have ba := x2.1.b
  obtain ⟨sq, m1, m2, m3, m4⟩ := id x3.1
  refine CX.of (L0 := [some _, some _, some _, some _, some _]) (by decide +kernel) rfl rfl (Nat.le_of_ble_eq_true rfl) rfl (fun G A Q X sz hQ hX => ?_)
  refine V_iload_n dX10_addPacket_0 rfl ?_
  refine V_iconst (v := iI (0)) dX10_addPacket_1 rfl ?_
  refine V_iconst (v := iI (3)) dX10_addPacket_2 rfl ?_
  refine V_cS (vs := [_, _, _]) (x_outside l M (c) (0) (3) (by unfold r32; omega)) mX10_24 coX10_outside dX10_addPacket_3 rfl rfl (by decide) (Nat.le_of_ble_eq_true rfl) (Nat.le_of_ble_eq_true rfl) (Nat.le_of_ble_eq_true rfl) (fun sz => ?_)
  obtain ⟨vo0, ho0, eo0⟩ := ex_if (p := c < 0 ∨ 3 < c)
  rw [eo0]
  refine I_if_eq (tgt := 19) dX10_addPacket_6 (by decide) ⟨by omega, by omega⟩ (fun h6 => ?_) (fun h6 => ?_)
  · refine V_iload_n dX10_addPacket_19 rfl ?_
    refine V_iconst (v := iI (0)) dX10_addPacket_20 rfl ?_
    refine V_bipush (v := iI (14)) dX10_addPacket_21 (by decide +kernel) ?_
    refine V_cS (vs := [_, _, _]) (x_outside l M (p) (0) (14) (by unfold r32; omega)) mX10_24 coX10_outside dX10_addPacket_23 rfl rfl (by decide) (Nat.le_of_ble_eq_true rfl) (Nat.le_of_ble_eq_true rfl) (Nat.le_of_ble_eq_true rfl) (fun sz => ?_)
    obtain ⟨vo1, ho1, eo1⟩ := ex_if (p := p < 0 ∨ 14 < p)
    rw [eo1]
    refine I_if_ne (tgt := 51) dX10_addPacket_26 (by decide) ⟨by omega, by omega⟩ (fun h26 => ?_) (fun h26 => ?_)
    · exact V_iae hfl sX10_81 dX10_addPacket_51 dX10_addPacket_54 dX10_addPacket_55 dX10_addPacket_57 dX10_addPacket_60 (by decide) (Nat.le_of_ble_eq_true rfl) (Nat.le_of_ble_eq_true rfl) (Nat.le_of_ble_eq_true rfl) (hX _ _ ⟨Or.inr (Or.inl ⟨by omega, rfl⟩), rfl⟩)
    · refine V_iload_n dX10_addPacket_29 rfl ?_
      refine V_iconst (v := iI (1)) dX10_addPacket_30 rfl ?_
      refine V_bipush (v := iI (50)) dX10_addPacket_31 (by decide +kernel) ?_
      refine V_cS (vs := [_, _, _]) (x_outside l M (n) (1) (50) (by unfold r32; omega)) mX10_24 coX10_outside dX10_addPacket_33 rfl rfl (by decide) (Nat.le_of_ble_eq_true rfl) (Nat.le_of_ble_eq_true rfl) (Nat.le_of_ble_eq_true rfl) (fun sz => ?_)
      obtain ⟨vo2, ho2, eo2⟩ := ex_if (p := n < 1 ∨ 50 < n)
      rw [eo2]
      refine I_if_ne (tgt := 51) dX10_addPacket_36 (by decide) ⟨by omega, by omega⟩ (fun h36 => ?_) (fun h36 => ?_)
      · exact V_iae hfl sX10_81 dX10_addPacket_51 dX10_addPacket_54 dX10_addPacket_55 dX10_addPacket_57 dX10_addPacket_60 (by decide) (Nat.le_of_ble_eq_true rfl) (Nat.le_of_ble_eq_true rfl) (Nat.le_of_ble_eq_true rfl) (hX _ _ ⟨Or.inr (Or.inl ⟨by omega, rfl⟩), rfl⟩)
      · refine V_iload dX10_addPacket_39 rfl ?_
        refine V_iconst (v := iI (0)) dX10_addPacket_41 rfl ?_
        refine V_sipush (v := iI (255)) dX10_addPacket_42 (by decide +kernel) ?_
        refine V_cS (vs := [_, _, _]) (x_outside l M (s) (0) (255) (by unfold r32; omega)) mX10_24 coX10_outside dX10_addPacket_45 rfl rfl (by decide) (Nat.le_of_ble_eq_true rfl) (Nat.le_of_ble_eq_true rfl) (Nat.le_of_ble_eq_true rfl) (fun sz => ?_)
        obtain ⟨vo3, ho3, eo3⟩ := ex_if (p := s < 0 ∨ 255 < s)
        rw [eo3]
        refine I_if_eq (tgt := 61) dX10_addPacket_48 (by decide) ⟨by omega, by omega⟩ (fun h48 => ?_) (fun h48 => ?_)
        · have he1 : (0 ≤ c ∧ c ≤ 3) ∧ (0 ≤ p ∧ p ≤ 14) ∧ (1 ≤ n ∧ n ≤ 50) ∧ (0 ≤ s ∧ s ≤ 255) := by omega
          replace he : (pi = 12 ∧ e = 3) ∨ (¬ pi = 12 ∧ e = 0) := by omega
          clear ho0 ho1 ho2 ho3
          have hpn : 0 ≤ pin ρ c ∧ pin ρ c ≤ (ρ (54 + c)).toNat := pcnt_b _
          have hpi1 := hpi he1.1.1 he1.1.2
          have hPI1 := hPI he1.1.1 he1.1.2
          clear hpi hPI
          obtain ⟨fy, py, z0, -⟩ := id (x3.2.1 c (by omega) (by omega))
          refine V_aload_n dX10_addPacket_61 rfl ?_
          refine V_getf fX10_10 dX10_addPacket_62 x0 rfl ?_
          refine V_getf fX10_57 dX10_addPacket_65 m1 rfl ?_
          refine V_iload_n dX10_addPacket_68 rfl ?_
          refine I_aald ao6 dX10_addPacket_69 m3 ⟨by omega, by omega⟩ (by decide) ?_
          refine V_cV (vs := []) (c6_waitingPackets l M (scA a c) ρ c (x3.2.1 c (by omega) (by omega)) (hS.2.1 c (by omega) (by omega)).1.1) mX10_83 coX6_waitingPackets dX10_addPacket_70 z0 rfl rfl rfl (by decide) (Nat.le_of_ble_eq_true rfl) (Nat.le_of_ble_eq_true rfl) (Nat.le_of_ble_eq_true rfl) (fun sz => ?_)
          refine V_bipush (v := iI (12)) dX10_addPacket_73 (by decide +kernel) ?_
          refine I_icmp_lt (tgt := 88) dX10_addPacket_75 (by decide) ⟨by omega, by omega⟩ ⟨by omega, by omega⟩ (fun h75 => ?_) (fun h75 => ?_)
          · refine V_aload_n dX10_addPacket_88 rfl ?_
            refine V_cVE0 (vs := []) (x_saveState l M x ρ π sv hT hv hW hI hP) mX10_44 coX10_saveState dX10_addPacket_89 x0 rfl rfl rfl (by decide) (Nat.le_of_ble_eq_true rfl) (Nat.le_of_ble_eq_true rfl) (Nat.le_of_ble_eq_true rfl) (fun N1 sz hp => ?_)
            obtain ⟨hT1, hF1⟩ := hp
            have hP1 := svP_P hv hW hI hP
            have hsv1 : 0 ≤ svS sv ∧ svS sv ≤ 3 := by unfold svS; split <;> omega
            obtain ⟨b, g, y0, y1, y2, y3, y4, y5⟩ := id hT1
            have bb := y2.1.b
            obtain ⟨sqb, k1, k2, k3, k4⟩ := id y3.1
            have he0 : e = 0 ∧ (0 ≤ c ∧ c ≤ 3) ∧ (0 ≤ p ∧ p ≤ 14) ∧ (1 ≤ n ∧ n ≤ 50) ∧ (0 ≤ s ∧ s ≤ 255) ∧ ρ (54 + c) ≤ 12 := by omega
            clear he
            refine V_aload_n dX10_addPacket_92 rfl ?_
            refine V_getf fX10_10 dX10_addPacket_93 y0 rfl ?_
            refine V_iload_n dX10_addPacket_96 rfl ?_
            refine V_iload_n dX10_addPacket_97 rfl ?_
            refine V_iload_n dX10_addPacket_98 rfl ?_
            refine V_iload dX10_addPacket_99 rfl ?_
            refine V_cVE (vs := [_, _, _, _]) (s_enqueue l N1 b ρ y3 hS hW hI hXq c p n s (by omega) (by omega) (by omega) (by omega) (by omega)) mX10_89 coX7_enqueue dX10_addPacket_101 k1 rfl rfl rfl (by decide) (Nat.le_of_ble_eq_true rfl) (Nat.le_of_ble_eq_true rfl) (Nat.le_of_ble_eq_true rfl) (fun N2 sz hp => ?_)
            obtain ⟨hO2, hF2⟩ := hp
            have hz := (TL.put y0 y1 y2 y4 y5 hsv1.2 hP1 hO2 hF2)
            exact V_ireti dX10_addPacket_104 rfl (Nat.le_of_ble_eq_true rfl) (Nat.le_of_ble_eq_true rfl) (hQ _ _ _ ⟨by omega, rfl, hz.1, hF1.tr hz.2⟩)
          · exact V_ise hfl sX10_87 dX10_addPacket_78 dX10_addPacket_81 dX10_addPacket_82 dX10_addPacket_84 dX10_addPacket_87 (by decide) (Nat.le_of_ble_eq_true rfl) (Nat.le_of_ble_eq_true rfl) (Nat.le_of_ble_eq_true rfl) (hX _ _ ⟨Or.inr (Or.inr (⟨by omega, rfl⟩)), rfl⟩)
        · exact V_iae hfl sX10_81 dX10_addPacket_51 dX10_addPacket_54 dX10_addPacket_55 dX10_addPacket_57 dX10_addPacket_60 (by decide) (Nat.le_of_ble_eq_true rfl) (Nat.le_of_ble_eq_true rfl) (Nat.le_of_ble_eq_true rfl) (hX _ _ ⟨Or.inr (Or.inl ⟨by omega, rfl⟩), rfl⟩)
  · exact V_ioo hfl sX10_52 dX10_addPacket_9 dX10_addPacket_12 dX10_addPacket_13 dX10_addPacket_15 dX10_addPacket_18 (by decide) (Nat.le_of_ble_eq_true rfl) (Nat.le_of_ble_eq_true rfl) (Nat.le_of_ble_eq_true rfl) (hX _ _ ⟨Or.inl ⟨by omega, rfl⟩, rfl⟩)

set_option maxRecDepth 100000 in
set_option maxHeartbeats 4000000 in
theorem p_queue (l : Launch) (hfl : l.stackTraces = false) (M : ME) (x : Nat) (ρ π : Int → Int) (sv : Int) (hT : TL M x ρ π sv) (hQA : QA ρ) (c : Int) (hc : -2147483648 ≤ c ∧ c < 2147483648) (w : Int) (hw : -2147483648 ≤ w ∧ w < 2147483648) (e : Int) (he : (¬ (0 ≤ c ∧ c ≤ 3) ∧ e = 1) ∨ ((0 ≤ c ∧ c ≤ 3) ∧ ¬ (0 ≤ w ∧ w ≤ 2) ∧ e = 2) ∨ ((0 ≤ c ∧ c ≤ 3) ∧ (0 ≤ w ∧ w ≤ 2) ∧ e = 0)) : CX l yX10_queue cX10_queue 4 (some .int) (rmX 8) [.ref x, .int (iI c), .int (iI w)] M (fun v M' => e = 0 ∧ v = some (.int (iI (rq ρ c w))) ∧ M' = M) (fun E M' => ((e = 1 ∧ E = ioo) ∨ (e = 2 ∧ E = iae)) ∧ M' = M) := by
  obtain ⟨a, f, x0, x1, x2, x3, x4, x5⟩ := id hT
  have ba := x2.1.b
  obtain ⟨sq, m1, m2, m3, m4⟩ := id x3.1
  refine CX.of (L0 := [some _, some _, some _, none]) (by decide +kernel) rfl rfl (Nat.le_of_ble_eq_true rfl) rfl (fun G A Q X sz hQ hX => ?_)
  refine V_iload_n dX10_queue_0 rfl ?_
  refine V_iconst (v := iI (0)) dX10_queue_1 rfl ?_
  refine V_iconst (v := iI (3)) dX10_queue_2 rfl ?_
  refine V_cS (vs := [_, _, _]) (x_outside l M (c) (0) (3) (by unfold r32; omega)) mX10_24 coX10_outside dX10_queue_3 rfl rfl (by decide) (Nat.le_of_ble_eq_true rfl) (Nat.le_of_ble_eq_true rfl) (Nat.le_of_ble_eq_true rfl) (fun sz => ?_)
  obtain ⟨vo0, ho0, eo0⟩ := ex_if (p := c < 0 ∨ 3 < c)
  rw [eo0]
  refine I_if_eq (tgt := 19) dX10_queue_6 (by decide) ⟨by omega, by omega⟩ (fun h6 => ?_) (fun h6 => ?_)
  · obtain ⟨fy, py, z0, -⟩ := id (x3.2.1 c (by omega) (by omega))
    refine V_aload_n dX10_queue_19 rfl ?_
    refine V_getf fX10_10 dX10_queue_20 x0 rfl ?_
    refine V_getf fX10_57 dX10_queue_23 m1 rfl ?_
    refine V_iload_n dX10_queue_26 rfl ?_
    refine I_aald ao6 dX10_queue_27 m3 ⟨by omega, by omega⟩ (by decide) ?_
    refine V_astore_n (L' := [some _, some _, some _, some _]) dX10_queue_28 rfl (by decide) rfl ?_
    refine V_iload_n dX10_queue_29 rfl ?_
    rcases (show (w < 0 ∨ 2 < w) ∨ w = 0 ∨ w = 1 ∨ w = 2 by omega) with hw0 | hw0 | hw0 | hw0
    · skip
      refine I_tabOut (tgt := 71) dX10_queue_30 ⟨by omega, by omega⟩ (by omega) (by decide) ?_
      exact V_iae hfl sX10_99 dX10_queue_71 dX10_queue_74 dX10_queue_75 dX10_queue_77 dX10_queue_80 (by decide) (Nat.le_of_ble_eq_true rfl) (Nat.le_of_ble_eq_true rfl) (Nat.le_of_ble_eq_true rfl) (hX _ _ ⟨Or.inr (⟨by omega, rfl⟩), rfl⟩)
    · skip
      refine I_tab (tgt := 56) dX10_queue_30 ⟨by omega, by omega⟩ (by omega) (by omega) (by rw [hw0]; rfl) (by decide) ?_
      refine V_aload_n dX10_queue_56 rfl ?_
      refine V_cV (vs := []) (c6_waitingPackets l M (scA a c) ρ c (x3.2.1 c (by omega) (by omega)) (hQA.2 c (by omega) (by omega)).1) mX10_83 coX6_waitingPackets dX10_queue_57 z0 rfl rfl rfl (by decide) (Nat.le_of_ble_eq_true rfl) (Nat.le_of_ble_eq_true rfl) (Nat.le_of_ble_eq_true rfl) (fun sz => ?_)
      exact V_ireti dX10_queue_60 rfl (Nat.le_of_ble_eq_true rfl) (Nat.le_of_ble_eq_true rfl) (hQ _ _ _ ⟨by omega, iv (by unfold rq; simp [hw0]), rfl⟩)
    · skip
      refine I_tab (tgt := 61) dX10_queue_30 ⟨by omega, by omega⟩ (by omega) (by omega) (by rw [hw0]; rfl) (by decide) ?_
      refine V_aload_n dX10_queue_61 rfl ?_
      refine V_getf fX10_93 dX10_queue_62 z0 rfl ?_
      exact V_ireti dX10_queue_65 rfl (Nat.le_of_ble_eq_true rfl) (Nat.le_of_ble_eq_true rfl) (hQ _ _ _ ⟨by omega, iv (by unfold rq; simp [hw0]), rfl⟩)
    · skip
      refine I_tab (tgt := 66) dX10_queue_30 ⟨by omega, by omega⟩ (by omega) (by omega) (by rw [hw0]; rfl) (by decide) ?_
      refine V_aload_n dX10_queue_66 rfl ?_
      refine V_getf fX10_96 dX10_queue_67 z0 rfl ?_
      exact V_ireti dX10_queue_70 rfl (Nat.le_of_ble_eq_true rfl) (Nat.le_of_ble_eq_true rfl) (hQ _ _ _ ⟨by omega, iv (by unfold rq; simp [hw0]), rfl⟩)
  · exact V_ioo hfl sX10_52 dX10_queue_9 dX10_queue_12 dX10_queue_13 dX10_queue_15 dX10_queue_18 (by decide) (Nat.le_of_ble_eq_true rfl) (Nat.le_of_ble_eq_true rfl) (Nat.le_of_ble_eq_true rfl) (hX _ _ ⟨Or.inl ⟨by omega, rfl⟩, rfl⟩)

set_option maxRecDepth 100000 in
set_option maxHeartbeats 4000000 in
theorem p_queueV (l : Launch) (M : ME) (x : Nat) (ρ π : Int → Int) (sv : Int) (hT : TL M x ρ π sv) (hQA : QA ρ) (c w : Int) (hc : 0 ≤ c ∧ c ≤ 3) (hw : 0 ≤ w ∧ w ≤ 2) : CF l yX10_queue cX10_queue 4 (some .int) (rmN 7) [.ref x, .int (iI c), .int (iI w)] M (some (.int (iI (rq ρ c w)))) M := by
  obtain ⟨a, f, x0, x1, x2, x3, x4, x5⟩ := id hT
  have ba := x2.1.b
  obtain ⟨sq, m1, m2, m3, m4⟩ := id x3.1
  refine CF.of (L0 := [some _, some _, some _, none]) (by decide +kernel) rfl rfl (Nat.le_of_ble_eq_true rfl) rfl (fun G A Q sz hQ => ?_)
  refine V_iload_n dX10_queue_0 rfl ?_
  refine V_iconst (v := iI (0)) dX10_queue_1 rfl ?_
  refine V_iconst (v := iI (3)) dX10_queue_2 rfl ?_
  refine V_cS (vs := [_, _, _]) (x_outside l M (c) (0) (3) (by unfold r32; omega)) mX10_24 coX10_outside dX10_queue_3 rfl rfl (by decide) (Nat.le_of_ble_eq_true rfl) (Nat.le_of_ble_eq_true rfl) (Nat.le_of_ble_eq_true rfl) (fun sz => ?_)
  obtain ⟨vo0, ho0, eo0⟩ := ex_if (p := c < 0 ∨ 3 < c)
  rw [eo0]
  refine I_if_eq_t (tgt := 19) dX10_queue_6 (by decide) ⟨by omega, by omega⟩ (by omega) ?_
  obtain ⟨fy, py, z0, -⟩ := id (x3.2.1 c (by omega) (by omega))
  refine V_aload_n dX10_queue_19 rfl ?_
  refine V_getf fX10_10 dX10_queue_20 x0 rfl ?_
  refine V_getf fX10_57 dX10_queue_23 m1 rfl ?_
  refine V_iload_n dX10_queue_26 rfl ?_
  refine I_aald ao6 dX10_queue_27 m3 ⟨by omega, by omega⟩ (by decide) ?_
  refine V_astore_n (L' := [some _, some _, some _, some _]) dX10_queue_28 rfl (by decide) rfl ?_
  refine V_iload_n dX10_queue_29 rfl ?_
  rcases (show w = 0 ∨ w = 1 ∨ w = 2 by omega) with hw0 | hw0 | hw0
  · skip
    refine I_tab (tgt := 56) dX10_queue_30 ⟨by omega, by omega⟩ (by omega) (by omega) (by rw [hw0]; rfl) (by decide) ?_
    refine V_aload_n dX10_queue_56 rfl ?_
    refine V_cV (vs := []) (c6_waitingPackets l M (scA a c) ρ c (x3.2.1 c (by omega) (by omega)) (hQA.2 c (by omega) (by omega)).1) mX10_83 coX6_waitingPackets dX10_queue_57 z0 rfl rfl rfl (by decide) (Nat.le_of_ble_eq_true rfl) (Nat.le_of_ble_eq_true rfl) (Nat.le_of_ble_eq_true rfl) (fun sz => ?_)
    exact V_ireti dX10_queue_60 rfl (Nat.le_of_ble_eq_true rfl) (Nat.le_of_ble_eq_true rfl) (hQ _ _ _ (iv (by unfold rq; simp [hw0])) rfl)
  · skip
    refine I_tab (tgt := 61) dX10_queue_30 ⟨by omega, by omega⟩ (by omega) (by omega) (by rw [hw0]; rfl) (by decide) ?_
    refine V_aload_n dX10_queue_61 rfl ?_
    refine V_getf fX10_93 dX10_queue_62 z0 rfl ?_
    exact V_ireti dX10_queue_65 rfl (Nat.le_of_ble_eq_true rfl) (Nat.le_of_ble_eq_true rfl) (hQ _ _ _ (iv (by unfold rq; simp [hw0])) rfl)
  · skip
    refine I_tab (tgt := 66) dX10_queue_30 ⟨by omega, by omega⟩ (by omega) (by omega) (by rw [hw0]; rfl) (by decide) ?_
    refine V_aload_n dX10_queue_66 rfl ?_
    refine V_getf fX10_96 dX10_queue_67 z0 rfl ?_
    exact V_ireti dX10_queue_70 rfl (Nat.le_of_ble_eq_true rfl) (Nat.le_of_ble_eq_true rfl) (hQ _ _ _ (iv (by unfold rq; simp [hw0])) rfl)

set_option maxRecDepth 100000 in
set_option maxHeartbeats 4000000 in
theorem p_nextChannel (l : Launch) (M : ME) (x : Nat) (ρ π : Int → Int) (sv : Int) (hT : TL M x ρ π sv) (hQA : QA ρ) : CF l yX10_nextChannel cX10_nextChannel 1 (some .int) (rmN 7) [.ref x] M (some (.int (iI (rch ρ)))) M := by
  obtain ⟨a, f, x0, x1, x2, x3, x4, x5⟩ := id hT
  have ba := x2.1.b
  obtain ⟨sq, m1, m2, m3, m4⟩ := id x3.1
  refine CF.of (L0 := [some _]) (by decide +kernel) rfl rfl (Nat.le_of_ble_eq_true rfl) rfl (fun G A Q sz hQ => ?_)
  refine V_aload_n dX10_nextChannel_0 rfl ?_
  refine V_getf fX10_10 dX10_nextChannel_1 x0 rfl ?_
  refine V_cV (vs := []) (s_chosenChannel l M a ρ x3 hQA) mX10_101 coX7_chosenChannel dX10_nextChannel_4 m1 rfl rfl rfl (by decide) (Nat.le_of_ble_eq_true rfl) (Nat.le_of_ble_eq_true rfl) (Nat.le_of_ble_eq_true rfl) (fun sz => ?_)
  exact V_ireti dX10_nextChannel_7 rfl (Nat.le_of_ble_eq_true rfl) (Nat.le_of_ble_eq_true rfl) (hQ _ _ _ rfl rfl)

set_option maxRecDepth 100000 in
set_option maxHeartbeats 4000000 in
theorem p_slot (l : Launch) (M : ME) (x : Nat) (ρ π : Int → Int) (sv : Int) (hT : TL M x ρ π sv) : CF l yX10_slot cX10_slot 1 (some .int) (rmN 7) [.ref x] M (some (.int (iI (ρ 3)))) M := by
  obtain ⟨a, f, x0, x1, x2, x3, x4, x5⟩ := id hT
  have ba := x2.1.b
  obtain ⟨sq, m1, m2, m3, m4⟩ := id x3.1
  refine CF.of (L0 := [some _]) (by decide +kernel) rfl rfl (Nat.le_of_ble_eq_true rfl) rfl (fun G A Q sz hQ => ?_)
  refine V_aload_n dX10_slot_0 rfl ?_
  refine V_getf fX10_10 dX10_slot_1 x0 rfl ?_
  refine V_getf fX10_120 dX10_slot_4 m1 rfl ?_
  exact V_ireti dX10_slot_7 rfl (Nat.le_of_ble_eq_true rfl) (Nat.le_of_ble_eq_true rfl) (hQ _ _ _ rfl rfl)

set_option maxRecDepth 100000 in
set_option maxHeartbeats 4000000 in
theorem p_wire (l : Launch) (M : ME) (x : Nat) (ρ π : Int → Int) (sv : Int) (hT : TL M x ρ π sv) : CF l yX10_wire cX10_wire 1 (some .int) (rmN 7) [.ref x] M (some (.int (iI (ρ 382)))) M := by
  obtain ⟨a, f, x0, x1, x2, x3, x4, x5⟩ := id hT
  have ba := x2.1.b
  obtain ⟨sq, m1, m2, m3, m4⟩ := id x3.1
  obtain ⟨fr, w1, w2, w3, w4, w5, w6⟩ := id x3.2.2.1
  refine CF.of (L0 := [some _]) (by decide +kernel) rfl rfl (Nat.le_of_ble_eq_true rfl) rfl (fun G A Q sz hQ => ?_)
  refine V_aload_n dX10_wire_0 rfl ?_
  refine V_getf fX10_10 dX10_wire_1 x0 rfl ?_
  refine V_getf fX10_106 dX10_wire_4 m1 rfl ?_
  refine V_getf fX10_110 dX10_wire_7 w1 rfl ?_
  exact V_ireti dX10_wire_10 rfl (Nat.le_of_ble_eq_true rfl) (Nat.le_of_ble_eq_true rfl) (hQ _ _ _ rfl rfl)

set_option maxRecDepth 100000 in
set_option maxHeartbeats 4000000 in
theorem p_sentIdle (l : Launch) (M : ME) (x : Nat) (ρ π : Int → Int) (sv : Int) (hT : TL M x ρ π sv) (w : Int) (hw : 0 ≤ w ∧ w ≤ 2) : CF l yX10_sentIdle cX10_sentIdle 2 (some .int) (rmN 5) [.ref x, .int (iI w)] M (some (.int (iI (rse ρ 7 w)))) M := by
  obtain ⟨a, f, x0, x1, x2, x3, x4, x5⟩ := id hT
  have ba := x2.1.b
  obtain ⟨sq, m1, m2, m3, m4⟩ := id x3.1
  refine CF.of (L0 := [some _, some _]) (by decide +kernel) rfl rfl (Nat.le_of_ble_eq_true rfl) rfl (fun G A Q sz hQ => ?_)
  refine V_iload_n dX10_sentIdle_0 rfl ?_
  refine I_if_ne (tgt := 12) dX10_sentIdle_1 (by decide) ⟨by omega, by omega⟩ (fun h1 => ?_) (fun h1 => ?_)
  · refine V_tern (J := 22) (v := .int (iI (rse ρ 7 w))) (fun sz => ?_) (fun j22 => ?_)
    · exact V_ireti dX10_sentIdle_22 rfl (Nat.le_of_ble_eq_true rfl) (Nat.le_of_ble_eq_true rfl) (hQ _ _ _ rfl rfl)
    · refine V_iload_n dX10_sentIdle_12 rfl ?_
      refine V_iconst (v := iI (1)) dX10_sentIdle_13 rfl ?_
      refine I_icmp_ne (tgt := 21) dX10_sentIdle_14 (by decide) ⟨by omega, by omega⟩ ⟨by omega, by omega⟩ (fun h14 => ?_) (fun h14 => ?_)
      · refine V_iconst (v := iI (-1)) dX10_sentIdle_21 rfl ?_
        exact V_top (vi (by unfold rse; rw [if_pos rfl]; first | (rw [if_neg (by omega), if_pos (by omega)]) | (rw [if_neg (by omega), if_neg (by omega)]))) (j22 _)
      · refine V_iconst (v := iI (0)) dX10_sentIdle_17 rfl ?_
        refine V_goto (tgt := 22) dX10_sentIdle_18 (by decide) ?_
        exact V_top (vi (by unfold rse; rw [if_pos rfl]; first | (rw [if_neg (by omega), if_pos (by omega)]) | (rw [if_neg (by omega), if_neg (by omega)]))) (j22 _)
  · refine V_aload_n dX10_sentIdle_4 rfl ?_
    refine V_getf fX10_10 dX10_sentIdle_5 x0 rfl ?_
    refine V_getf fX10_136 dX10_sentIdle_8 m1 rfl ?_
    exact V_ireti dX10_sentIdle_11 rfl (Nat.le_of_ble_eq_true rfl) (Nat.le_of_ble_eq_true rfl) (hQ _ _ _ (iv (by unfold rse; rw [if_pos rfl, if_pos (by omega)])) rfl)

set_option maxRecDepth 100000 in
set_option maxHeartbeats 4000000 in
theorem p_sent (l : Launch) (hfl : l.stackTraces = false) (M : ME) (x : Nat) (ρ π : Int → Int) (sv : Int) (hT : TL M x ρ π sv) (c : Int) (hc : -2147483648 ≤ c ∧ c < 2147483648) (w : Int) (hw : -2147483648 ≤ w ∧ w < 2147483648) (e : Int) (he : (¬ ((0 ≤ c ∧ c ≤ 3) ∨ c = 7) ∧ e = 1) ∨ (((0 ≤ c ∧ c ≤ 3) ∨ c = 7) ∧ ¬ (0 ≤ w ∧ w ≤ 2) ∧ e = 2) ∨ (((0 ≤ c ∧ c ≤ 3) ∨ c = 7) ∧ (0 ≤ w ∧ w ≤ 2) ∧ e = 0)) : CX l yX10_sent cX10_sent 4 (some .int) (rmX 8) [.ref x, .int (iI c), .int (iI w)] M (fun v M' => e = 0 ∧ v = some (.int (iI (rse ρ c w))) ∧ M' = M) (fun E M' => ((e = 1 ∧ E = ioo) ∨ (e = 2 ∧ E = iae)) ∧ M' = M) := by
  obtain ⟨a, f, x0, x1, x2, x3, x4, x5⟩ := id hT
  have ba := x2.1.b
  obtain ⟨sq, m1, m2, m3, m4⟩ := id x3.1
  refine CX.of (L0 := [some _, some _, some _, none]) (by decide +kernel) rfl rfl (Nat.le_of_ble_eq_true rfl) rfl (fun G A Q X sz hQ hX => ?_)
  refine V_iload_n dX10_sent_0 rfl ?_
  refine V_iconst (v := iI (0)) dX10_sent_1 rfl ?_
  refine V_iconst (v := iI (3)) dX10_sent_2 rfl ?_
  refine V_cS (vs := [_, _, _]) (x_outside l M (c) (0) (3) (by unfold r32; omega)) mX10_24 coX10_outside dX10_sent_3 rfl rfl (by decide) (Nat.le_of_ble_eq_true rfl) (Nat.le_of_ble_eq_true rfl) (Nat.le_of_ble_eq_true rfl) (fun sz => ?_)
  obtain ⟨vo0, ho0, eo0⟩ := ex_if (p := c < 0 ∨ 3 < c)
  rw [eo0]
  refine I_if_eq (tgt := 25) dX10_sent_6 (by decide) ⟨by omega, by omega⟩ (fun h6 => ?_) (fun h6 => ?_)
  · refine V_iload_n dX10_sent_25 rfl ?_
    refine V_iconst (v := iI (0)) dX10_sent_26 rfl ?_
    refine V_iconst (v := iI (2)) dX10_sent_27 rfl ?_
    refine V_cS (vs := [_, _, _]) (x_outside l M (w) (0) (2) (by unfold r32; omega)) mX10_24 coX10_outside dX10_sent_28 rfl rfl (by decide) (Nat.le_of_ble_eq_true rfl) (Nat.le_of_ble_eq_true rfl) (Nat.le_of_ble_eq_true rfl) (fun sz => ?_)
    obtain ⟨vo1, ho1, eo1⟩ := ex_if (p := w < 0 ∨ 2 < w)
    rw [eo1]
    refine I_if_eq (tgt := 44) dX10_sent_31 (by decide) ⟨by omega, by omega⟩ (fun h31 => ?_) (fun h31 => ?_)
    · refine V_iload_n dX10_sent_44 rfl ?_
      refine V_bipush (v := iI (7)) dX10_sent_45 (by decide +kernel) ?_
      refine I_icmp_ne (tgt := 56) dX10_sent_47 (by decide) ⟨by omega, by omega⟩ ⟨by omega, by omega⟩ (fun h47 => ?_) (fun h47 => ?_)
      · obtain ⟨fy, py, z0, -⟩ := id (x3.2.1 c (by omega) (by omega))
        refine V_aload_n dX10_sent_56 rfl ?_
        refine V_getf fX10_10 dX10_sent_57 x0 rfl ?_
        refine V_getf fX10_57 dX10_sent_60 m1 rfl ?_
        refine V_iload_n dX10_sent_63 rfl ?_
        refine I_aald ao6 dX10_sent_64 m3 ⟨by omega, by omega⟩ (by decide) ?_
        refine V_astore_n (L' := [some _, some _, some _, some _]) dX10_sent_65 rfl (by decide) rfl ?_
        refine V_iload_n dX10_sent_66 rfl ?_
        refine I_if_ne (tgt := 75) dX10_sent_67 (by decide) ⟨by omega, by omega⟩ (fun h67 => ?_) (fun h67 => ?_)
        · refine V_tern (J := 91) (v := .int (iI (rse ρ c w))) (fun sz => ?_) (fun j91 => ?_)
          · exact V_ireti dX10_sent_91 rfl (Nat.le_of_ble_eq_true rfl) (Nat.le_of_ble_eq_true rfl) (hQ _ _ _ ⟨by omega, iv (by rfl), rfl⟩)
          · refine V_iload_n dX10_sent_75 rfl ?_
            refine V_iconst (v := iI (1)) dX10_sent_76 rfl ?_
            refine I_icmp_ne (tgt := 87) dX10_sent_77 (by decide) ⟨by omega, by omega⟩ ⟨by omega, by omega⟩ (fun h77 => ?_) (fun h77 => ?_)
            · refine V_aload_n dX10_sent_87 rfl ?_
              refine V_getf fX10_133 dX10_sent_88 z0 rfl ?_
              exact V_top (vi (by first | (exfalso; omega) | skip; unfold rse; rw [if_neg (by omega)]; first | rw [if_pos (by omega)] | rw [if_neg (by omega), if_pos (by omega)] | rw [if_neg (by omega), if_neg (by omega)])) (j91 _)
            · refine V_aload_n dX10_sent_80 rfl ?_
              refine V_getf fX10_130 dX10_sent_81 z0 rfl ?_
              refine V_goto (tgt := 91) dX10_sent_84 (by decide) ?_
              exact V_top (vi (by first | (exfalso; omega) | skip; unfold rse; rw [if_neg (by omega)]; first | rw [if_pos (by omega)] | rw [if_neg (by omega), if_pos (by omega)] | rw [if_neg (by omega), if_neg (by omega)])) (j91 _)
        · refine V_aload_n dX10_sent_70 rfl ?_
          refine V_getf fX10_127 dX10_sent_71 z0 rfl ?_
          exact V_ireti dX10_sent_74 rfl (Nat.le_of_ble_eq_true rfl) (Nat.le_of_ble_eq_true rfl) (hQ _ _ _ ⟨by omega, iv (by first | (exfalso; omega) | skip; unfold rse; rw [if_neg (by omega)]; first | rw [if_pos (by omega)] | rw [if_neg (by omega), if_pos (by omega)] | rw [if_neg (by omega), if_neg (by omega)]), rfl⟩)
      · refine V_aload_n dX10_sent_50 rfl ?_
        refine V_iload_n dX10_sent_51 rfl ?_
        refine V_cV (vs := [_]) (p_sentIdle l M x ρ π sv hT w (by omega)) mX10_123 coX10_sentIdle dX10_sent_52 x0 rfl rfl rfl (by decide) (Nat.le_of_ble_eq_true rfl) (Nat.le_of_ble_eq_true rfl) (Nat.le_of_ble_eq_true rfl) (fun sz => ?_)
        exact V_ireti dX10_sent_55 rfl (Nat.le_of_ble_eq_true rfl) (Nat.le_of_ble_eq_true rfl) (hQ _ _ _ ⟨by omega, iv (by rw [show c = 7 by omega]), rfl⟩)
    · exact V_iae hfl sX10_99 dX10_sent_34 dX10_sent_37 dX10_sent_38 dX10_sent_40 dX10_sent_43 (by decide) (Nat.le_of_ble_eq_true rfl) (Nat.le_of_ble_eq_true rfl) (Nat.le_of_ble_eq_true rfl) (hX _ _ ⟨Or.inr (⟨by omega, rfl⟩), rfl⟩)
  · refine V_iload_n dX10_sent_9 rfl ?_
    refine V_bipush (v := iI (7)) dX10_sent_10 (by decide +kernel) ?_
    refine I_icmp_eq (tgt := 25) dX10_sent_12 (by decide) ⟨by omega, by omega⟩ ⟨by omega, by omega⟩ (fun h12 => ?_) (fun h12 => ?_)
    · refine V_iload_n dX10_sent_25 rfl ?_
      refine V_iconst (v := iI (0)) dX10_sent_26 rfl ?_
      refine V_iconst (v := iI (2)) dX10_sent_27 rfl ?_
      refine V_cS (vs := [_, _, _]) (x_outside l M (w) (0) (2) (by unfold r32; omega)) mX10_24 coX10_outside dX10_sent_28 rfl rfl (by decide) (Nat.le_of_ble_eq_true rfl) (Nat.le_of_ble_eq_true rfl) (Nat.le_of_ble_eq_true rfl) (fun sz => ?_)
      obtain ⟨vo1, ho1, eo1⟩ := ex_if (p := w < 0 ∨ 2 < w)
      rw [eo1]
      refine I_if_eq (tgt := 44) dX10_sent_31 (by decide) ⟨by omega, by omega⟩ (fun h31 => ?_) (fun h31 => ?_)
      · refine V_iload_n dX10_sent_44 rfl ?_
        refine V_bipush (v := iI (7)) dX10_sent_45 (by decide +kernel) ?_
        refine I_icmp_ne (tgt := 56) dX10_sent_47 (by decide) ⟨by omega, by omega⟩ ⟨by omega, by omega⟩ (fun h47 => ?_) (fun h47 => ?_)
        · obtain ⟨fy, py, z0, -⟩ := id (x3.2.1 c (by omega) (by omega))
          refine V_aload_n dX10_sent_56 rfl ?_
          refine V_getf fX10_10 dX10_sent_57 x0 rfl ?_
          refine V_getf fX10_57 dX10_sent_60 m1 rfl ?_
          refine V_iload_n dX10_sent_63 rfl ?_
          refine I_aald ao6 dX10_sent_64 m3 ⟨by omega, by omega⟩ (by decide) ?_
          refine V_astore_n (L' := [some _, some _, some _, some _]) dX10_sent_65 rfl (by decide) rfl ?_
          refine V_iload_n dX10_sent_66 rfl ?_
          refine I_if_ne (tgt := 75) dX10_sent_67 (by decide) ⟨by omega, by omega⟩ (fun h67 => ?_) (fun h67 => ?_)
          · refine V_tern (J := 91) (v := .int (iI (rse ρ c w))) (fun sz => ?_) (fun j91 => ?_)
            · exact V_ireti dX10_sent_91 rfl (Nat.le_of_ble_eq_true rfl) (Nat.le_of_ble_eq_true rfl) (hQ _ _ _ ⟨by omega, iv (by rfl), rfl⟩)
            · refine V_iload_n dX10_sent_75 rfl ?_
              refine V_iconst (v := iI (1)) dX10_sent_76 rfl ?_
              refine I_icmp_ne (tgt := 87) dX10_sent_77 (by decide) ⟨by omega, by omega⟩ ⟨by omega, by omega⟩ (fun h77 => ?_) (fun h77 => ?_)
              · refine V_aload_n dX10_sent_87 rfl ?_
                refine V_getf fX10_133 dX10_sent_88 z0 rfl ?_
                exact V_top (vi (by first | (exfalso; omega) | skip; unfold rse; rw [if_neg (by omega)]; first | rw [if_pos (by omega)] | rw [if_neg (by omega), if_pos (by omega)] | rw [if_neg (by omega), if_neg (by omega)])) (j91 _)
              · refine V_aload_n dX10_sent_80 rfl ?_
                refine V_getf fX10_130 dX10_sent_81 z0 rfl ?_
                refine V_goto (tgt := 91) dX10_sent_84 (by decide) ?_
                exact V_top (vi (by first | (exfalso; omega) | skip; unfold rse; rw [if_neg (by omega)]; first | rw [if_pos (by omega)] | rw [if_neg (by omega), if_pos (by omega)] | rw [if_neg (by omega), if_neg (by omega)])) (j91 _)
          · refine V_aload_n dX10_sent_70 rfl ?_
            refine V_getf fX10_127 dX10_sent_71 z0 rfl ?_
            exact V_ireti dX10_sent_74 rfl (Nat.le_of_ble_eq_true rfl) (Nat.le_of_ble_eq_true rfl) (hQ _ _ _ ⟨by omega, iv (by first | (exfalso; omega) | skip; unfold rse; rw [if_neg (by omega)]; first | rw [if_pos (by omega)] | rw [if_neg (by omega), if_pos (by omega)] | rw [if_neg (by omega), if_neg (by omega)]), rfl⟩)
        · refine V_aload_n dX10_sent_50 rfl ?_
          refine V_iload_n dX10_sent_51 rfl ?_
          refine V_cV (vs := [_]) (p_sentIdle l M x ρ π sv hT w (by omega)) mX10_123 coX10_sentIdle dX10_sent_52 x0 rfl rfl rfl (by decide) (Nat.le_of_ble_eq_true rfl) (Nat.le_of_ble_eq_true rfl) (Nat.le_of_ble_eq_true rfl) (fun sz => ?_)
          exact V_ireti dX10_sent_55 rfl (Nat.le_of_ble_eq_true rfl) (Nat.le_of_ble_eq_true rfl) (hQ _ _ _ ⟨by omega, iv (by rw [show c = 7 by omega]), rfl⟩)
      · exact V_iae hfl sX10_99 dX10_sent_34 dX10_sent_37 dX10_sent_38 dX10_sent_40 dX10_sent_43 (by decide) (Nat.le_of_ble_eq_true rfl) (Nat.le_of_ble_eq_true rfl) (Nat.le_of_ble_eq_true rfl) (hX _ _ ⟨Or.inr (⟨by omega, rfl⟩), rfl⟩)
    · exact V_ioo hfl sX10_52 dX10_sent_15 dX10_sent_18 dX10_sent_19 dX10_sent_21 dX10_sent_24 (by decide) (Nat.le_of_ble_eq_true rfl) (Nat.le_of_ble_eq_true rfl) (Nat.le_of_ble_eq_true rfl) (hX _ _ ⟨Or.inl ⟨by omega, rfl⟩, rfl⟩)

set_option maxRecDepth 100000 in
set_option maxHeartbeats 4000000 in
theorem p_sentV (l : Launch) (M : ME) (x : Nat) (ρ π : Int → Int) (sv : Int) (hT : TL M x ρ π sv) (c w : Int) (hc : (0 ≤ c ∧ c ≤ 3) ∨ c = 7) (hw : 0 ≤ w ∧ w ≤ 2) : CF l yX10_sent cX10_sent 4 (some .int) (rmN 7) [.ref x, .int (iI c), .int (iI w)] M (some (.int (iI (rse ρ c w)))) M := by
  obtain ⟨a, f, x0, x1, x2, x3, x4, x5⟩ := id hT
  have ba := x2.1.b
  obtain ⟨sq, m1, m2, m3, m4⟩ := id x3.1
  refine CF.of (L0 := [some _, some _, some _, none]) (by decide +kernel) rfl rfl (Nat.le_of_ble_eq_true rfl) rfl (fun G A Q sz hQ => ?_)
  refine V_iload_n dX10_sent_0 rfl ?_
  refine V_iconst (v := iI (0)) dX10_sent_1 rfl ?_
  refine V_iconst (v := iI (3)) dX10_sent_2 rfl ?_
  refine V_cS (vs := [_, _, _]) (x_outside l M (c) (0) (3) (by unfold r32; omega)) mX10_24 coX10_outside dX10_sent_3 rfl rfl (by decide) (Nat.le_of_ble_eq_true rfl) (Nat.le_of_ble_eq_true rfl) (Nat.le_of_ble_eq_true rfl) (fun sz => ?_)
  obtain ⟨vo0, ho0, eo0⟩ := ex_if (p := c < 0 ∨ 3 < c)
  rw [eo0]
  refine I_if_eq (tgt := 25) dX10_sent_6 (by decide) ⟨by omega, by omega⟩ (fun h6 => ?_) (fun h6 => ?_)
  · refine V_iload_n dX10_sent_25 rfl ?_
    refine V_iconst (v := iI (0)) dX10_sent_26 rfl ?_
    refine V_iconst (v := iI (2)) dX10_sent_27 rfl ?_
    refine V_cS (vs := [_, _, _]) (x_outside l M (w) (0) (2) (by unfold r32; omega)) mX10_24 coX10_outside dX10_sent_28 rfl rfl (by decide) (Nat.le_of_ble_eq_true rfl) (Nat.le_of_ble_eq_true rfl) (Nat.le_of_ble_eq_true rfl) (fun sz => ?_)
    obtain ⟨vo1, ho1, eo1⟩ := ex_if (p := w < 0 ∨ 2 < w)
    rw [eo1]
    refine I_if_eq_t (tgt := 44) dX10_sent_31 (by decide) ⟨by omega, by omega⟩ (by omega) ?_
    refine V_iload_n dX10_sent_44 rfl ?_
    refine V_bipush (v := iI (7)) dX10_sent_45 (by decide +kernel) ?_
    refine I_icmp_ne (tgt := 56) dX10_sent_47 (by decide) ⟨by omega, by omega⟩ ⟨by omega, by omega⟩ (fun h47 => ?_) (fun h47 => ?_)
    · obtain ⟨fy, py, z0, -⟩ := id (x3.2.1 c (by omega) (by omega))
      refine V_aload_n dX10_sent_56 rfl ?_
      refine V_getf fX10_10 dX10_sent_57 x0 rfl ?_
      refine V_getf fX10_57 dX10_sent_60 m1 rfl ?_
      refine V_iload_n dX10_sent_63 rfl ?_
      refine I_aald ao6 dX10_sent_64 m3 ⟨by omega, by omega⟩ (by decide) ?_
      refine V_astore_n (L' := [some _, some _, some _, some _]) dX10_sent_65 rfl (by decide) rfl ?_
      refine V_iload_n dX10_sent_66 rfl ?_
      refine I_if_ne (tgt := 75) dX10_sent_67 (by decide) ⟨by omega, by omega⟩ (fun h67 => ?_) (fun h67 => ?_)
      · refine V_tern (J := 91) (v := .int (iI (rse ρ c w))) (fun sz => ?_) (fun j91 => ?_)
        · exact V_ireti dX10_sent_91 rfl (Nat.le_of_ble_eq_true rfl) (Nat.le_of_ble_eq_true rfl) (hQ _ _ _ (iv (by rfl)) rfl)
        · refine V_iload_n dX10_sent_75 rfl ?_
          refine V_iconst (v := iI (1)) dX10_sent_76 rfl ?_
          refine I_icmp_ne (tgt := 87) dX10_sent_77 (by decide) ⟨by omega, by omega⟩ ⟨by omega, by omega⟩ (fun h77 => ?_) (fun h77 => ?_)
          · refine V_aload_n dX10_sent_87 rfl ?_
            refine V_getf fX10_133 dX10_sent_88 z0 rfl ?_
            exact V_top (vi (by first | (exfalso; omega) | skip; unfold rse; rw [if_neg (by omega)]; first | rw [if_pos (by omega)] | rw [if_neg (by omega), if_pos (by omega)] | rw [if_neg (by omega), if_neg (by omega)])) (j91 _)
          · refine V_aload_n dX10_sent_80 rfl ?_
            refine V_getf fX10_130 dX10_sent_81 z0 rfl ?_
            refine V_goto (tgt := 91) dX10_sent_84 (by decide) ?_
            exact V_top (vi (by first | (exfalso; omega) | skip; unfold rse; rw [if_neg (by omega)]; first | rw [if_pos (by omega)] | rw [if_neg (by omega), if_pos (by omega)] | rw [if_neg (by omega), if_neg (by omega)])) (j91 _)
      · refine V_aload_n dX10_sent_70 rfl ?_
        refine V_getf fX10_127 dX10_sent_71 z0 rfl ?_
        exact V_ireti dX10_sent_74 rfl (Nat.le_of_ble_eq_true rfl) (Nat.le_of_ble_eq_true rfl) (hQ _ _ _ (iv (by first | (exfalso; omega) | skip; unfold rse; rw [if_neg (by omega)]; first | rw [if_pos (by omega)] | rw [if_neg (by omega), if_pos (by omega)] | rw [if_neg (by omega), if_neg (by omega)])) rfl)
    · refine V_aload_n dX10_sent_50 rfl ?_
      refine V_iload_n dX10_sent_51 rfl ?_
      refine V_cV (vs := [_]) (p_sentIdle l M x ρ π sv hT w (by omega)) mX10_123 coX10_sentIdle dX10_sent_52 x0 rfl rfl rfl (by decide) (Nat.le_of_ble_eq_true rfl) (Nat.le_of_ble_eq_true rfl) (Nat.le_of_ble_eq_true rfl) (fun sz => ?_)
      exact V_ireti dX10_sent_55 rfl (Nat.le_of_ble_eq_true rfl) (Nat.le_of_ble_eq_true rfl) (hQ _ _ _ (iv (by rw [show c = 7 by omega])) rfl)
  · refine V_iload_n dX10_sent_9 rfl ?_
    refine V_bipush (v := iI (7)) dX10_sent_10 (by decide +kernel) ?_
    refine I_icmp_eq_t (tgt := 25) dX10_sent_12 (by decide) ⟨by omega, by omega⟩ ⟨by omega, by omega⟩ (by omega) ?_
    refine V_iload_n dX10_sent_25 rfl ?_
    refine V_iconst (v := iI (0)) dX10_sent_26 rfl ?_
    refine V_iconst (v := iI (2)) dX10_sent_27 rfl ?_
    refine V_cS (vs := [_, _, _]) (x_outside l M (w) (0) (2) (by unfold r32; omega)) mX10_24 coX10_outside dX10_sent_28 rfl rfl (by decide) (Nat.le_of_ble_eq_true rfl) (Nat.le_of_ble_eq_true rfl) (Nat.le_of_ble_eq_true rfl) (fun sz => ?_)
    obtain ⟨vo1, ho1, eo1⟩ := ex_if (p := w < 0 ∨ 2 < w)
    rw [eo1]
    refine I_if_eq_t (tgt := 44) dX10_sent_31 (by decide) ⟨by omega, by omega⟩ (by omega) ?_
    refine V_iload_n dX10_sent_44 rfl ?_
    refine V_bipush (v := iI (7)) dX10_sent_45 (by decide +kernel) ?_
    refine I_icmp_ne (tgt := 56) dX10_sent_47 (by decide) ⟨by omega, by omega⟩ ⟨by omega, by omega⟩ (fun h47 => ?_) (fun h47 => ?_)
    · obtain ⟨fy, py, z0, -⟩ := id (x3.2.1 c (by omega) (by omega))
      refine V_aload_n dX10_sent_56 rfl ?_
      refine V_getf fX10_10 dX10_sent_57 x0 rfl ?_
      refine V_getf fX10_57 dX10_sent_60 m1 rfl ?_
      refine V_iload_n dX10_sent_63 rfl ?_
      refine I_aald ao6 dX10_sent_64 m3 ⟨by omega, by omega⟩ (by decide) ?_
      refine V_astore_n (L' := [some _, some _, some _, some _]) dX10_sent_65 rfl (by decide) rfl ?_
      refine V_iload_n dX10_sent_66 rfl ?_
      refine I_if_ne (tgt := 75) dX10_sent_67 (by decide) ⟨by omega, by omega⟩ (fun h67 => ?_) (fun h67 => ?_)
      · refine V_tern (J := 91) (v := .int (iI (rse ρ c w))) (fun sz => ?_) (fun j91 => ?_)
        · exact V_ireti dX10_sent_91 rfl (Nat.le_of_ble_eq_true rfl) (Nat.le_of_ble_eq_true rfl) (hQ _ _ _ (iv (by rfl)) rfl)
        · refine V_iload_n dX10_sent_75 rfl ?_
          refine V_iconst (v := iI (1)) dX10_sent_76 rfl ?_
          refine I_icmp_ne (tgt := 87) dX10_sent_77 (by decide) ⟨by omega, by omega⟩ ⟨by omega, by omega⟩ (fun h77 => ?_) (fun h77 => ?_)
          · refine V_aload_n dX10_sent_87 rfl ?_
            refine V_getf fX10_133 dX10_sent_88 z0 rfl ?_
            exact V_top (vi (by first | (exfalso; omega) | skip; unfold rse; rw [if_neg (by omega)]; first | rw [if_pos (by omega)] | rw [if_neg (by omega), if_pos (by omega)] | rw [if_neg (by omega), if_neg (by omega)])) (j91 _)
          · refine V_aload_n dX10_sent_80 rfl ?_
            refine V_getf fX10_130 dX10_sent_81 z0 rfl ?_
            refine V_goto (tgt := 91) dX10_sent_84 (by decide) ?_
            exact V_top (vi (by first | (exfalso; omega) | skip; unfold rse; rw [if_neg (by omega)]; first | rw [if_pos (by omega)] | rw [if_neg (by omega), if_pos (by omega)] | rw [if_neg (by omega), if_neg (by omega)])) (j91 _)
      · refine V_aload_n dX10_sent_70 rfl ?_
        refine V_getf fX10_127 dX10_sent_71 z0 rfl ?_
        exact V_ireti dX10_sent_74 rfl (Nat.le_of_ble_eq_true rfl) (Nat.le_of_ble_eq_true rfl) (hQ _ _ _ (iv (by first | (exfalso; omega) | skip; unfold rse; rw [if_neg (by omega)]; first | rw [if_pos (by omega)] | rw [if_neg (by omega), if_pos (by omega)] | rw [if_neg (by omega), if_neg (by omega)])) rfl)
    · refine V_aload_n dX10_sent_50 rfl ?_
      refine V_iload_n dX10_sent_51 rfl ?_
      refine V_cV (vs := [_]) (p_sentIdle l M x ρ π sv hT w (by omega)) mX10_123 coX10_sentIdle dX10_sent_52 x0 rfl rfl rfl (by decide) (Nat.le_of_ble_eq_true rfl) (Nat.le_of_ble_eq_true rfl) (Nat.le_of_ble_eq_true rfl) (fun sz => ?_)
      exact V_ireti dX10_sent_55 rfl (Nat.le_of_ble_eq_true rfl) (Nat.le_of_ble_eq_true rfl) (hQ _ _ _ (iv (by rw [show c = 7 by omega])) rfl)
