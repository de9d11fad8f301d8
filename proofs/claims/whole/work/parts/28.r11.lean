/-- a frame on the wire -/
def Fw (ρ : Int → Int) (f : Int) : Prop := (8 ≤ ρ (383 + 50 * f) ∧ ρ (383 + 50 * f) ≤ 40) ∧ (0 ≤ ρ (383 + 50 * f + 1) ∧ ρ (383 + 50 * f + 1) ≤ 1) ∧ (-200000000 ≤ ρ (383 + 50 * f + 2) ∧ ρ (383 + 50 * f + 2) ≤ 200000000) ∧ (-200000000 ≤ ρ (383 + 50 * f + 3) ∧ ρ (383 + 50 * f + 3) ≤ 200000000) ∧ ∀ k, 0 ≤ k → k < ρ (383 + 50 * f) + 6 → 0 ≤ ρ (383 + 50 * f + 4 + k) ∧ ρ (383 + 50 * f + 4 + k) ≤ 255
def Wr (ρ : Int → Int) : Prop := (0 ≤ ρ 382 ∧ ρ 382 ≤ 60) ∧ ∀ f, 0 ≤ f → f < ρ 382 → Fw ρ f
theorem Fw.F {ρ : Int → Int} {f : Int} (h : Fw ρ f) : Ff ρ f := ⟨by have := h.1; omega, fun k h0 h1 => h.2.2.2.2 k h0 (by omega)⟩

set_option maxRecDepth 100000 in
set_option maxHeartbeats 4000000 in
theorem r_slot (l : Launch) (M0 : ME) (r : Nat) (ρ π : Int → Int) (sv rf hs : Int)  : CF l yX11_slot cX11_slot 1 (some .int) (rmN 7) [.ref r] (rM M0 r ρ π sv rf hs) (some (.int (iI (ρ 3)))) (rM M0 r ρ π sv 0 hs) := by
  refine CF.of (L0 := [some _]) (by decide +kernel) rfl rfl (Nat.le_of_ble_eq_true rfl) rfl (fun G A Q sz hQ => ?_)
  refine V_aload_n dX11_slot_0 rfl ?_
  refine V_iconst (v := iI (0)) dX11_slot_1 rfl ?_
  refine R_putrf fX11_17 dX11_slot_2 ?_
  refine V_aload_n dX11_slot_5 rfl ?_
  refine V_getf fX11_7 dX11_slot_6 rM_0 rfl ?_
  refine V_iconst (v := iI (3)) dX11_slot_9 rfl ?_
  refine R_iald dX11_slot_10 ⟨by omega, by omega⟩ ?_
  exact V_ireti dX11_slot_11 rfl (Nat.le_of_ble_eq_true rfl) (Nat.le_of_ble_eq_true rfl) (hQ _ _ _ rfl rfl)

set_option maxRecDepth 100000 in
set_option maxHeartbeats 4000000 in
theorem r_wire (l : Launch) (M0 : ME) (r : Nat) (ρ π : Int → Int) (sv rf hs : Int)  : CF l yX11_wire cX11_wire 1 (some .int) (rmN 7) [.ref r] (rM M0 r ρ π sv rf hs) (some (.int (iI (ρ 382)))) (rM M0 r ρ π sv 0 hs) := by
  refine CF.of (L0 := [some _]) (by decide +kernel) rfl rfl (Nat.le_of_ble_eq_true rfl) rfl (fun G A Q sz hQ => ?_)
  refine V_aload_n dX11_wire_0 rfl ?_
  refine V_iconst (v := iI (0)) dX11_wire_1 rfl ?_
  refine R_putrf fX11_17 dX11_wire_2 ?_
  refine V_aload_n dX11_wire_5 rfl ?_
  refine V_getf fX11_7 dX11_wire_6 rM_0 rfl ?_
  refine V_sipush (v := iI (382)) dX11_wire_9 (by decide +kernel) ?_
  refine R_iald dX11_wire_12 ⟨by omega, by omega⟩ ?_
  exact V_ireti dX11_wire_13 rfl (Nat.le_of_ble_eq_true rfl) (Nat.le_of_ble_eq_true rfl) (hQ _ _ _ rfl rfl)

set_option maxRecDepth 100000 in
set_option maxHeartbeats 4000000 in
theorem r_packets (l : Launch) (M0 : ME) (r : Nat) (ρ π : Int → Int) (sv rf hs : Int)  : CF l yX11_packets cX11_packets 1 (some .int) (rmN 7) [.ref r] (rM M0 r ρ π sv rf hs) (some (.int (iI (ρ 4503)))) (rM M0 r ρ π sv 0 hs) := by
  refine CF.of (L0 := [some _]) (by decide +kernel) rfl rfl (Nat.le_of_ble_eq_true rfl) rfl (fun G A Q sz hQ => ?_)
  refine V_aload_n dX11_packets_0 rfl ?_
  refine V_iconst (v := iI (0)) dX11_packets_1 rfl ?_
  refine R_putrf fX11_17 dX11_packets_2 ?_
  refine V_aload_n dX11_packets_5 rfl ?_
  refine V_getf fX11_7 dX11_packets_6 rM_0 rfl ?_
  refine V_sipush (v := iI (4503)) dX11_packets_9 (by decide +kernel) ?_
  refine R_iald dX11_packets_12 ⟨by omega, by omega⟩ ?_
  exact V_ireti dX11_packets_13 rfl (Nat.le_of_ble_eq_true rfl) (Nat.le_of_ble_eq_true rfl) (hQ _ _ _ rfl rfl)

set_option maxRecDepth 100000 in
set_option maxHeartbeats 4000000 in
theorem r_timePairs (l : Launch) (M0 : ME) (r : Nat) (ρ π : Int → Int) (sv rf hs : Int)  : CF l yX11_timePairs cX11_timePairs 1 (some .int) (rmN 7) [.ref r] (rM M0 r ρ π sv rf hs) (some (.int (iI (ρ 12304)))) (rM M0 r ρ π sv 0 hs) := by
  refine CF.of (L0 := [some _]) (by decide +kernel) rfl rfl (Nat.le_of_ble_eq_true rfl) rfl (fun G A Q sz hQ => ?_)
  refine V_aload_n dX11_timePairs_0 rfl ?_
  refine V_iconst (v := iI (0)) dX11_timePairs_1 rfl ?_
  refine R_putrf fX11_17 dX11_timePairs_2 ?_
  refine V_aload_n dX11_timePairs_5 rfl ?_
  refine V_getf fX11_7 dX11_timePairs_6 rM_0 rfl ?_
  refine V_sipush (v := iI (12304)) dX11_timePairs_9 (by decide +kernel) ?_
  refine R_iald dX11_timePairs_12 ⟨by omega, by omega⟩ ?_
  exact V_ireti dX11_timePairs_13 rfl (Nat.le_of_ble_eq_true rfl) (Nat.le_of_ble_eq_true rfl) (hQ _ _ _ rfl rfl)

set_option maxRecDepth 100000 in
set_option maxHeartbeats 4000000 in
theorem r_nextChannel (l : Launch) (M0 : ME) (r : Nat) (ρ π : Int → Int) (sv rf hs : Int) (hQA : QA ρ) : CF l yX11_nextChannel cX11_nextChannel 1 (some .int) (rmN 7) [.ref r] (rM M0 r ρ π sv rf hs) (some (.int (iI (rch ρ)))) (rM M0 r ρ π sv 0 hs) := by
  refine CF.of (L0 := [some _]) (by decide +kernel) rfl rfl (Nat.le_of_ble_eq_true rfl) rfl (fun G A Q sz hQ => ?_)
  refine V_aload_n dX11_nextChannel_0 rfl ?_
  refine V_iconst (v := iI (0)) dX11_nextChannel_1 rfl ?_
  refine R_putrf fX11_17 dX11_nextChannel_2 ?_
  refine V_aload_n dX11_nextChannel_5 rfl ?_
  refine V_cV (vs := []) (r_chosen l _ _ ρ _ _ _ _ hQA) mX11_95 coX11_chosen dX11_nextChannel_6 rM_0 rfl rfl rfl (by decide) (Nat.le_of_ble_eq_true rfl) (Nat.le_of_ble_eq_true rfl) (Nat.le_of_ble_eq_true rfl) (fun sz => ?_)
  exact V_ireti dX11_nextChannel_9 rfl (Nat.le_of_ble_eq_true rfl) (Nat.le_of_ble_eq_true rfl) (hQ _ _ _ rfl rfl)

set_option maxRecDepth 100000 in
set_option maxHeartbeats 4000000 in
theorem r_clock (l : Launch) (M0 : ME) (r : Nat) (ρ π : Int → Int) (sv rf hs : Int) (h3 : 0 ≤ ρ 3 ∧ ρ 3 ≤ 100000) (h1 : -1000 ≤ ρ 1 ∧ ρ 1 ≤ 1000) : CF l yX11_clock cX11_clock 1 (some .long) (rmN 7) [.ref r] (rM M0 r ρ π sv rf hs) (some (.long (lI (rclk ρ)))) (rM M0 r ρ π sv 0 hs) := by
  refine CF.of (L0 := [some _]) (by decide +kernel) rfl rfl (Nat.le_of_ble_eq_true rfl) rfl (fun G A Q sz hQ => ?_)
  refine V_aload_n dX11_clock_0 rfl ?_
  refine V_iconst (v := iI (0)) dX11_clock_1 rfl ?_
  refine R_putrf fX11_17 dX11_clock_2 ?_
  refine V_aload_n dX11_clock_5 rfl ?_
  refine V_cV (vs := []) (r_clockNow l _ _ ρ _ _ _ _ h3 h1) mX11_114 coX11_clockNow dX11_clock_6 rM_0 rfl rfl rfl (by decide) (Nat.le_of_ble_eq_true rfl) (Nat.le_of_ble_eq_true rfl) (Nat.le_of_ble_eq_true rfl) (fun sz => ?_)
  exact V_lret dX11_clock_9 rfl (Nat.le_of_ble_eq_true rfl) (Nat.le_of_ble_eq_true rfl) (hQ _ _ _ rfl rfl)

set_option maxRecDepth 100000 in
set_option maxHeartbeats 4000000 in
theorem r_thrown (l : Launch) (M0 : ME) (r : Nat) (ρ π : Int → Int) (sv rf hs : Int) : CF l yX11_thrown cX11_thrown 1 (some .int) (rmN 7) [.ref r] (rM M0 r ρ π sv rf hs) (some (.int (iI (rf)))) (rM M0 r ρ π sv rf hs) := by
  refine CF.of (L0 := [some _]) (by decide +kernel) rfl rfl (Nat.le_of_ble_eq_true rfl) rfl (fun G A Q sz hQ => ?_)
  refine V_aload_n dX11_thrown_0 rfl ?_
  refine V_getf fX11_17 dX11_thrown_1 rM_0 rfl ?_
  exact V_ireti dX11_thrown_4 rfl (Nat.le_of_ble_eq_true rfl) (Nat.le_of_ble_eq_true rfl) (hQ _ _ _ rfl rfl)

set_option maxRecDepth 100000 in
set_option maxHeartbeats 4000000 in
theorem r_isFrame (l : Launch) (M0 : ME) (r : Nat) (ρ π : Int → Int) (sv rf hs : Int) (f : Int) (hf : -2147483648 ≤ f ∧ f < 2147483648) (hw : 0 ≤ ρ 382 ∧ ρ 382 ≤ 60) : CF l yX11_isFrame cX11_isFrame 2 (some .boolean) (rmN 2) [.ref r, .int (iI f)] (rM M0 r ρ π sv rf hs) (some (.int (iI (if 0 ≤ f ∧ f ≤ ρ 382 - 1 then 1 else 0)))) (rM M0 r ρ π sv rf hs) := by
  refine CF.of (L0 := [some _, some _]) (by decide +kernel) rfl rfl (Nat.le_of_ble_eq_true rfl) rfl (fun G A Q sz hQ => ?_)
  refine V_iload_n dX11_isFrame_0 rfl ?_
  refine I_i2l dX11_isFrame_1 ⟨by omega, by omega⟩ ?_
  refine V_lconst (v := lI 0) dX11_isFrame_2 rfl ?_
  refine V_aload_n dX11_isFrame_3 rfl ?_
  refine V_getf fX11_7 dX11_isFrame_4 rM_0 rfl ?_
  refine V_sipush (v := iI (382)) dX11_isFrame_7 (by decide +kernel) ?_
  refine R_iald dX11_isFrame_10 ⟨by omega, by omega⟩ ?_
  refine V_iconst (v := iI (1)) dX11_isFrame_11 rfl ?_
  refine I_isub dX11_isFrame_12 ?_
  refine I_i2l dX11_isFrame_13 ⟨by omega, by omega⟩ ?_
  refine V_cS (vs := [_, _, _]) (r_within l _ f 0 (ρ 382 - 1) ⟨by omega, by omega⟩ ⟨by omega, by omega⟩ ⟨by omega, by omega⟩) mX11_23 coX11_within dX11_isFrame_14 rfl rfl (by decide) (Nat.le_of_ble_eq_true rfl) (Nat.le_of_ble_eq_true rfl) (Nat.le_of_ble_eq_true rfl) (fun sz => ?_)
  exact V_zret dX11_isFrame_17 rfl (by split <;> rfl) (Nat.le_of_ble_eq_true rfl) (Nat.le_of_ble_eq_true rfl) (hQ _ _ _ rfl rfl)

set_option maxRecDepth 100000 in
set_option maxHeartbeats 4000000 in
theorem r_isPacket (l : Launch) (M0 : ME) (r : Nat) (ρ π : Int → Int) (sv rf hs : Int) (f : Int) (hf : -2147483648 ≤ f ∧ f < 2147483648) (hw : 0 ≤ ρ 4503 ∧ ρ 4503 ≤ 30) : CF l yX11_isPacket cX11_isPacket 2 (some .boolean) (rmN 2) [.ref r, .int (iI f)] (rM M0 r ρ π sv rf hs) (some (.int (iI (if 0 ≤ f ∧ f ≤ ρ 4503 - 1 then 1 else 0)))) (rM M0 r ρ π sv rf hs) := by
  refine CF.of (L0 := [some _, some _]) (by decide +kernel) rfl rfl (Nat.le_of_ble_eq_true rfl) rfl (fun G A Q sz hQ => ?_)
  refine V_iload_n dX11_isPacket_0 rfl ?_
  refine I_i2l dX11_isPacket_1 ⟨by omega, by omega⟩ ?_
  refine V_lconst (v := lI 0) dX11_isPacket_2 rfl ?_
  refine V_aload_n dX11_isPacket_3 rfl ?_
  refine V_getf fX11_7 dX11_isPacket_4 rM_0 rfl ?_
  refine V_sipush (v := iI (4503)) dX11_isPacket_7 (by decide +kernel) ?_
  refine R_iald dX11_isPacket_10 ⟨by omega, by omega⟩ ?_
  refine V_iconst (v := iI (1)) dX11_isPacket_11 rfl ?_
  refine I_isub dX11_isPacket_12 ?_
  refine I_i2l dX11_isPacket_13 ⟨by omega, by omega⟩ ?_
  refine V_cS (vs := [_, _, _]) (r_within l _ f 0 (ρ 4503 - 1) ⟨by omega, by omega⟩ ⟨by omega, by omega⟩ ⟨by omega, by omega⟩) mX11_23 coX11_within dX11_isPacket_14 rfl rfl (by decide) (Nat.le_of_ble_eq_true rfl) (Nat.le_of_ble_eq_true rfl) (Nat.le_of_ble_eq_true rfl) (fun sz => ?_)
  exact V_zret dX11_isPacket_17 rfl (by split <;> rfl) (Nat.le_of_ble_eq_true rfl) (Nat.le_of_ble_eq_true rfl) (hQ _ _ _ rfl rfl)

set_option maxRecDepth 100000 in
set_option maxHeartbeats 4000000 in
theorem r_isByte (l : Launch) (M0 : ME) (r : Nat) (ρ π : Int → Int) (sv rf hs : Int) (f : Int) (hf : -2147483648 ≤ f ∧ f < 2147483648) (i : Int) (hi : -2147483648 ≤ i ∧ i < 2147483648) (hW : Wr ρ) : CF l yX11_isByte cX11_isByte 3 (some .boolean) (rmN 3) [.ref r, .int (iI f), .int (iI i)] (rM M0 r ρ π sv rf hs) (some (.int (iI (if (0 ≤ f ∧ f ≤ ρ 382 - 1) ∧ (0 ≤ i ∧ i ≤ ρ (383 + 50 * f) + 5) then 1 else 0)))) (rM M0 r ρ π sv rf hs) := by
  have hw1 := hW.1
  refine CF.of (L0 := [some _, some _, some _]) (by decide +kernel) rfl rfl (Nat.le_of_ble_eq_true rfl) rfl (fun G A Q sz hQ => ?_)
  refine V_aload_n dX11_isByte_0 rfl ?_
  refine V_iload_n dX11_isByte_1 rfl ?_
  refine V_cV (vs := [_]) (r_isFrame l _ _ ρ _ _ _ _ f (by omega) hW.1) mX11_134 coX11_isFrame dX11_isByte_2 rM_0 rfl rfl rfl (by decide) (Nat.le_of_ble_eq_true rfl) (Nat.le_of_ble_eq_true rfl) (Nat.le_of_ble_eq_true rfl) (fun sz => ?_)
  obtain ⟨bf, hbf, ebf⟩ := ex_if (p := 0 ≤ f ∧ f ≤ ρ 382 - 1)
  rw [ebf]
  refine I_if_eq (tgt := 34) dX11_isByte_5 (by decide) ⟨by omega, by omega⟩ (fun h5 => ?_) (fun h5 => ?_)
  · refine V_iconst (v := iI (0)) dX11_isByte_34 rfl ?_
    exact V_zret dX11_isByte_35 rfl (by first | rfl | decide) (Nat.le_of_ble_eq_true rfl) (Nat.le_of_ble_eq_true rfl) (hQ _ _ _ (iv (by first | exact if1 (by omega) | exact if0 (by omega))) rfl)
  · have hF := (hW.2 f (by omega) (by omega)).1
    have hw0 := hW.1
    refine V_iload_n dX11_isByte_8 rfl ?_
    refine I_i2l dX11_isByte_9 ⟨by omega, by omega⟩ ?_
    refine V_lconst (v := lI 0) dX11_isByte_10 rfl ?_
    refine V_aload_n dX11_isByte_11 rfl ?_
    refine V_getf fX11_7 dX11_isByte_12 rM_0 rfl ?_
    refine V_aload_n dX11_isByte_15 rfl ?_
    refine V_iload_n dX11_isByte_16 rfl ?_
    refine V_cV (vs := [_]) (r_frameAt l _ _ _ _ _ _ _ f) mX11_100 coX11_frameAt dX11_isByte_17 rM_0 rfl rfl rfl (by decide) (Nat.le_of_ble_eq_true rfl) (Nat.le_of_ble_eq_true rfl) (Nat.le_of_ble_eq_true rfl) (fun sz => ?_)
    refine R_iald dX11_isByte_20 ⟨by omega, by omega⟩ ?_
    refine V_iconst (v := iI (5)) dX11_isByte_21 rfl ?_
    refine I_iadd dX11_isByte_22 ?_
    refine I_i2l dX11_isByte_23 ⟨by omega, by omega⟩ ?_
    refine V_cS (vs := [_, _, _]) (r_within l _ i 0 (ρ (383 + 50 * f) + 5) ⟨by omega, by omega⟩ ⟨by omega, by omega⟩ ⟨by omega, by omega⟩) mX11_23 coX11_within dX11_isByte_24 rfl rfl (by decide) (Nat.le_of_ble_eq_true rfl) (Nat.le_of_ble_eq_true rfl) (Nat.le_of_ble_eq_true rfl) (fun sz => ?_)
    obtain ⟨bi, hbi, ebi⟩ := ex_if (p := 0 ≤ i ∧ i ≤ ρ (383 + 50 * f) + 5)
    rw [ebi]
    refine I_if_eq (tgt := 34) dX11_isByte_27 (by decide) ⟨by omega, by omega⟩ (fun h27 => ?_) (fun h27 => ?_)
    · refine V_iconst (v := iI (0)) dX11_isByte_34 rfl ?_
      exact V_zret dX11_isByte_35 rfl (by first | rfl | decide) (Nat.le_of_ble_eq_true rfl) (Nat.le_of_ble_eq_true rfl) (hQ _ _ _ (iv (by first | exact if1 (by omega) | exact if0 (by omega))) rfl)
    · refine V_iconst (v := iI (1)) dX11_isByte_30 rfl ?_
      refine V_goto (tgt := 35) dX11_isByte_31 (by decide) ?_
      exact V_zret dX11_isByte_35 rfl (by first | rfl | decide) (Nat.le_of_ble_eq_true rfl) (Nat.le_of_ble_eq_true rfl) (hQ _ _ _ (iv (by first | exact if1 (by omega) | exact if0 (by omega))) rfl)

set_option maxRecDepth 100000 in
set_option maxHeartbeats 4000000 in
theorem r_frameByte (l : Launch) (M0 : ME) (r : Nat) (ρ π : Int → Int) (sv rf hs : Int) (f : Int) (hf : -2147483648 ≤ f ∧ f < 2147483648) (i : Int) (hi : -2147483648 ≤ i ∧ i < 2147483648) (hW : Wr ρ) (e : Int) (he : (¬ ((0 ≤ f ∧ f ≤ ρ 382 - 1) ∧ (0 ≤ i ∧ i ≤ ρ (383 + 50 * f) + 5)) ∧ e = 1) ∨ (((0 ≤ f ∧ f ≤ ρ 382 - 1) ∧ (0 ≤ i ∧ i ≤ ρ (383 + 50 * f) + 5)) ∧ e = 0)) : CP l yX11_frameByte cX11_frameByte 3 (some .int) (rmN 7) [.ref r, .int (iI f), .int (iI i)] (rM M0 r ρ π sv rf hs) (fun v M' => (0 < e ∧ v = some (.int (iI 0)) ∧ M' = rM M0 r ρ π sv e hs) ∨ (e = 0 ∧ v = some (.int (iI (ρ (383 + 50 * f + 4 + i)))) ∧ M' = rM M0 r ρ π sv e hs)) := by
  have hw1 := hW.1
  refine CP.of (L0 := [some _, some _, some _]) (by decide +kernel) rfl rfl (Nat.le_of_ble_eq_true rfl) rfl (fun G A Q sz hQ => ?_)
  refine V_aload_n dX11_frameByte_0 rfl ?_
  refine V_tern (J := 15) (v := .int (iI e)) (fun sz => ?_) (fun j15 => ?_)
  · refine V_cV (vs := [_]) (r_refused l _ _ _ _ _ _ _ e (by omega)) mX11_30 coX11_refused dX11_frameByte_15 rM_0 rfl rfl rfl (by decide) (Nat.le_of_ble_eq_true rfl) (Nat.le_of_ble_eq_true rfl) (Nat.le_of_ble_eq_true rfl) (fun sz => ?_)
    obtain ⟨be, hbe, ebe⟩ := ex_if (p := 0 < e)
    rw [ebe]
    refine I_if_eq (tgt := 25) dX11_frameByte_18 (by decide) ⟨by omega, by omega⟩ (fun h18 => ?_) (fun h18 => ?_)
    · have hF := (hW.2 f (by omega) (by omega)).1
      refine V_aload_n dX11_frameByte_25 rfl ?_
      refine V_getf fX11_7 dX11_frameByte_26 rM_0 rfl ?_
      refine V_aload_n dX11_frameByte_29 rfl ?_
      refine V_iload_n dX11_frameByte_30 rfl ?_
      refine V_cV (vs := [_]) (r_frameAt l _ _ _ _ _ _ _ f) mX11_100 coX11_frameAt dX11_frameByte_31 rM_0 rfl rfl rfl (by decide) (Nat.le_of_ble_eq_true rfl) (Nat.le_of_ble_eq_true rfl) (Nat.le_of_ble_eq_true rfl) (fun sz => ?_)
      refine V_iconst (v := iI (4)) dX11_frameByte_34 rfl ?_
      refine I_iadd dX11_frameByte_35 ?_
      refine V_iload_n dX11_frameByte_36 rfl ?_
      refine I_iadd dX11_frameByte_37 ?_
      refine R_iald dX11_frameByte_38 ⟨by omega, by omega⟩ ?_
      exact V_ireti dX11_frameByte_39 rfl (Nat.le_of_ble_eq_true rfl) (Nat.le_of_ble_eq_true rfl) (hQ _ _ _ (by first | exact Or.inl ⟨by omega, rfl, rfl⟩ | exact Or.inr ⟨by omega, rfl, rfl⟩))
    · refine V_iconst (v := iI (0)) dX11_frameByte_21 rfl ?_
      refine V_goto (tgt := 39) dX11_frameByte_22 (by decide) ?_
      exact V_ireti dX11_frameByte_39 rfl (Nat.le_of_ble_eq_true rfl) (Nat.le_of_ble_eq_true rfl) (hQ _ _ _ (by first | exact Or.inl ⟨by omega, rfl, rfl⟩ | exact Or.inr ⟨by omega, rfl, rfl⟩))
  · refine V_aload_n dX11_frameByte_1 rfl ?_
    refine V_iload_n dX11_frameByte_2 rfl ?_
    refine V_iload_n dX11_frameByte_3 rfl ?_
    refine V_cV (vs := [_, _]) (r_isByte l _ _ ρ _ _ _ _ f (by omega) i (by omega) hW) mX11_137 coX11_isByte dX11_frameByte_4 rM_0 rfl rfl rfl (by decide) (Nat.le_of_ble_eq_true rfl) (Nat.le_of_ble_eq_true rfl) (Nat.le_of_ble_eq_true rfl) (fun sz => ?_)
    obtain ⟨bi, hbi, ebi⟩ := ex_if (p := (0 ≤ f ∧ f ≤ ρ 382 - 1) ∧ (0 ≤ i ∧ i ≤ ρ (383 + 50 * f) + 5))
    rw [ebi]
    refine I_if_eq (tgt := 14) dX11_frameByte_7 (by decide) ⟨by omega, by omega⟩ (fun h7 => ?_) (fun h7 => ?_)
    · refine V_iconst (v := iI (1)) dX11_frameByte_14 rfl ?_
      exact V_top (vi (by omega)) (j15 _)
    · refine V_iconst (v := iI (0)) dX11_frameByte_10 rfl ?_
      refine V_goto (tgt := 15) dX11_frameByte_11 (by decide) ?_
      exact V_top (vi (by omega)) (j15 _)

set_option maxRecDepth 100000 in
set_option maxHeartbeats 4000000 in
theorem r_corrupt (l : Launch) (M0 : ME) (r : Nat) (ρ π : Int → Int) (sv rf hs : Int) (hv : 0 ≤ sv ∧ sv ≤ 3) (f : Int) (hf : -2147483648 ≤ f ∧ f < 2147483648) (i : Int) (hi : -2147483648 ≤ i ∧ i < 2147483648) (m : Int) (hm : -2147483648 ≤ m ∧ m < 2147483648) (hW : Wr ρ) (e : Int) (he : (¬ ((0 ≤ f ∧ f ≤ ρ 382 - 1) ∧ (0 ≤ i ∧ i ≤ ρ (383 + 50 * f) + 5)) ∧ e = 1) ∨ (((0 ≤ f ∧ f ≤ ρ 382 - 1) ∧ (0 ≤ i ∧ i ≤ ρ (383 + 50 * f) + 5)) ∧ ¬ (1 ≤ m ∧ m ≤ 255) ∧ e = 2) ∨ (((0 ≤ f ∧ f ≤ ρ 382 - 1) ∧ (0 ≤ i ∧ i ≤ ρ (383 + 50 * f) + 5)) ∧ (1 ≤ m ∧ m ≤ 255) ∧ e = 0)) : CP l yX11_corrupt cX11_corrupt 4 (some .int) (rmN 7) [.ref r, .int (iI f), .int (iI i), .int (iI m)] (rM M0 r ρ π sv rf hs) (fun v M' => (0 < e ∧ v = some (.int (iI 0)) ∧ M' = rM M0 r ρ π sv e hs) ∨ (e = 0 ∧ v = some (.int (iI (zx (ρ (383 + 50 * f + 4 + i)) m))) ∧ M' = rM M0 r (up ρ (383 + 50 * f + 4 + i) (zx (ρ (383 + 50 * f + 4 + i)) m)) (svP ρ π sv) (svS sv) e hs)) := by
  have hw1 := hW.1
  refine CP.of (L0 := [some _, some _, some _, some _]) (by decide +kernel) rfl rfl (Nat.le_of_ble_eq_true rfl) rfl (fun G A Q sz hQ => ?_)
  refine V_aload_n dX11_corrupt_0 rfl ?_
  refine V_tern (J := 31) (v := .int (iI e)) (fun sz => ?_) (fun j31 => ?_)
  · refine V_cV (vs := [_]) (r_refused l _ _ _ _ _ _ _ e (by omega)) mX11_30 coX11_refused dX11_corrupt_31 rM_0 rfl rfl rfl (by decide) (Nat.le_of_ble_eq_true rfl) (Nat.le_of_ble_eq_true rfl) (Nat.le_of_ble_eq_true rfl) (fun sz => ?_)
    obtain ⟨be, hbe, ebe⟩ := ex_if (p := 0 < e)
    rw [ebe]
    refine I_if_eq (tgt := 39) dX11_corrupt_34 (by decide) ⟨by omega, by omega⟩ (fun h34 => ?_) (fun h34 => ?_)
    · refine V_aload_n dX11_corrupt_39 rfl ?_
      refine V_cV0 (vs := []) (r_saves l _ _ ρ π sv _ _ hv) mX11_49 coX11_saves dX11_corrupt_40 rM_0 rfl rfl rfl (by decide) (Nat.le_of_ble_eq_true rfl) (Nat.le_of_ble_eq_true rfl) (Nat.le_of_ble_eq_true rfl) (fun sz => ?_)
      have hF := (hW.2 f (by omega) (by omega))
      have hF1 := hF.1
      have hFb := hF.2.2.2.2 i (by omega) (by omega)
      refine V_aload_n dX11_corrupt_43 rfl ?_
      refine V_getf fX11_7 dX11_corrupt_44 rM_0 rfl ?_
      refine V_aload_n dX11_corrupt_47 rfl ?_
      refine V_iload_n dX11_corrupt_48 rfl ?_
      refine V_cV (vs := [_]) (r_frameAt l _ _ _ _ _ _ _ f) mX11_100 coX11_frameAt dX11_corrupt_49 rM_0 rfl rfl rfl (by decide) (Nat.le_of_ble_eq_true rfl) (Nat.le_of_ble_eq_true rfl) (Nat.le_of_ble_eq_true rfl) (fun sz => ?_)
      refine V_iconst (v := iI (4)) dX11_corrupt_52 rfl ?_
      refine I_iadd dX11_corrupt_53 ?_
      refine V_iload_n dX11_corrupt_54 rfl ?_
      refine I_iadd dX11_corrupt_55 ?_
      refine V_dup2 dX11_corrupt_56 rfl rfl ?_
      refine R_iald dX11_corrupt_57 ⟨by omega, by omega⟩ ?_
      try simp (disch := omega) only [up_s, up_n, shl_o]
      refine V_iload_n dX11_corrupt_58 rfl ?_
      refine I_ixor dX11_corrupt_59 (by omega) (by omega) ?_
      refine R_iast dX11_corrupt_60 ⟨by omega, by omega⟩ ?_
      refine V_aload_n dX11_corrupt_61 rfl ?_
      refine V_getf fX11_7 dX11_corrupt_62 rM_0 rfl ?_
      refine V_aload_n dX11_corrupt_65 rfl ?_
      refine V_iload_n dX11_corrupt_66 rfl ?_
      refine V_cV (vs := [_]) (r_frameAt l _ _ _ _ _ _ _ f) mX11_100 coX11_frameAt dX11_corrupt_67 rM_0 rfl rfl rfl (by decide) (Nat.le_of_ble_eq_true rfl) (Nat.le_of_ble_eq_true rfl) (Nat.le_of_ble_eq_true rfl) (fun sz => ?_)
      refine V_iconst (v := iI (4)) dX11_corrupt_70 rfl ?_
      refine I_iadd dX11_corrupt_71 ?_
      refine V_iload_n dX11_corrupt_72 rfl ?_
      refine I_iadd dX11_corrupt_73 ?_
      refine R_iald dX11_corrupt_74 ⟨by omega, by omega⟩ ?_
      try simp (disch := omega) only [up_s, up_n, shl_o]
      exact V_ireti dX11_corrupt_75 rfl (Nat.le_of_ble_eq_true rfl) (Nat.le_of_ble_eq_true rfl) (hQ _ _ _ (Or.inr ⟨by omega, rfl, rfl⟩))
    · refine V_iconst (v := iI (0)) dX11_corrupt_37 rfl ?_
      exact V_ireti dX11_corrupt_38 rfl (Nat.le_of_ble_eq_true rfl) (Nat.le_of_ble_eq_true rfl) (hQ _ _ _ (Or.inl ⟨by omega, rfl, rfl⟩))
  · refine V_aload_n dX11_corrupt_1 rfl ?_
    refine V_iload_n dX11_corrupt_2 rfl ?_
    refine V_iload_n dX11_corrupt_3 rfl ?_
    refine V_cV (vs := [_, _]) (r_isByte l _ _ ρ _ _ _ _ f (by omega) i (by omega) hW) mX11_137 coX11_isByte dX11_corrupt_4 rM_0 rfl rfl rfl (by decide) (Nat.le_of_ble_eq_true rfl) (Nat.le_of_ble_eq_true rfl) (Nat.le_of_ble_eq_true rfl) (fun sz => ?_)
    obtain ⟨bi, hbi, ebi⟩ := ex_if (p := (0 ≤ f ∧ f ≤ ρ 382 - 1) ∧ (0 ≤ i ∧ i ≤ ρ (383 + 50 * f) + 5))
    rw [ebi]
    refine I_if_ne (tgt := 14) dX11_corrupt_7 (by decide) ⟨by omega, by omega⟩ (fun h7 => ?_) (fun h7 => ?_)
    · refine V_iload_n dX11_corrupt_14 rfl ?_
      refine I_i2l dX11_corrupt_15 ⟨by omega, by omega⟩ ?_
      refine V_lconst (v := lI 1) dX11_corrupt_16 rfl ?_
      refine V_ldc2 (v := lI (255)) dX11_corrupt_17 (kL (by decide +kernel) kX11_67) ?_
      refine V_cS (vs := [_, _, _]) (r_within l _ m (1) (255) ⟨by omega, by omega⟩ ⟨by omega, by omega⟩ ⟨by omega, by omega⟩) mX11_23 coX11_within dX11_corrupt_20 rfl rfl (by decide) (Nat.le_of_ble_eq_true rfl) (Nat.le_of_ble_eq_true rfl) (Nat.le_of_ble_eq_true rfl) (fun sz => ?_)
      obtain ⟨bm, hbm, ebm⟩ := ex_if (p := 1 ≤ m ∧ m ≤ 255)
      rw [ebm]
      refine I_if_eq (tgt := 30) dX11_corrupt_23 (by decide) ⟨by omega, by omega⟩ (fun h23 => ?_) (fun h23 => ?_)
      · refine V_iconst (v := iI (2)) dX11_corrupt_30 rfl ?_
        exact V_top (vi (by omega)) (j31 _)
      · refine V_iconst (v := iI (0)) dX11_corrupt_26 rfl ?_
        refine V_goto (tgt := 31) dX11_corrupt_27 (by decide) ?_
        exact V_top (vi (by omega)) (j31 _)
    · refine V_iconst (v := iI (1)) dX11_corrupt_10 rfl ?_
      refine V_goto (tgt := 31) dX11_corrupt_11 (by decide) ?_
      exact V_top (vi (by omega)) (j31 _)

set_option maxRecDepth 100000 in
set_option maxHeartbeats 4000000 in
theorem r_repair (l : Launch) (M0 : ME) (r : Nat) (ρ π : Int → Int) (sv rf hs : Int) (hv : 0 ≤ sv ∧ sv ≤ 3) (f : Int) (hf : -2147483648 ≤ f ∧ f < 2147483648) (hW : Wr ρ) (e : Int) (he : (¬ (0 ≤ f ∧ f ≤ ρ 382 - 1) ∧ e = 1) ∨ ((0 ≤ f ∧ f ≤ ρ 382 - 1) ∧ e = 0)) : CP l yX11_repair cX11_repair 2 (some .int) (rmN 7) [.ref r, .int (iI f)] (rM M0 r ρ π sv rf hs) (fun v M' => (0 < e ∧ v = some (.int (iI 0)) ∧ M' = rM M0 r ρ π sv e hs) ∨ (e = 0 ∧ v = some (.int (iI (ckv (rlay ρ f) f))) ∧ M' = rM M0 r (rlay ρ f) (svP ρ π sv) (svS sv) e hs)) := by
  have hw1 := hW.1
  refine CP.of (L0 := [some _, some _]) (by decide +kernel) rfl rfl (Nat.le_of_ble_eq_true rfl) rfl (fun G A Q sz hQ => ?_)
  refine V_aload_n dX11_repair_0 rfl ?_
  refine V_tern (J := 14) (v := .int (iI e)) (fun sz => ?_) (fun j14 => ?_)
  · refine V_cV (vs := [_]) (r_refused l _ _ _ _ _ _ _ e (by omega)) mX11_30 coX11_refused dX11_repair_14 rM_0 rfl rfl rfl (by decide) (Nat.le_of_ble_eq_true rfl) (Nat.le_of_ble_eq_true rfl) (Nat.le_of_ble_eq_true rfl) (fun sz => ?_)
    obtain ⟨be, hbe, ebe⟩ := ex_if (p := 0 < e)
    rw [ebe]
    refine I_if_eq (tgt := 22) dX11_repair_17 (by decide) ⟨by omega, by omega⟩ (fun h17 => ?_) (fun h17 => ?_)
    · refine V_aload_n dX11_repair_22 rfl ?_
      refine V_cV0 (vs := []) (r_saves l _ _ ρ π sv _ _ hv) mX11_49 coX11_saves dX11_repair_23 rM_0 rfl rfl rfl (by decide) (Nat.le_of_ble_eq_true rfl) (Nat.le_of_ble_eq_true rfl) (Nat.le_of_ble_eq_true rfl) (fun sz => ?_)
      have hF := (hW.2 f (by omega) (by omega))
      have hF1 := hF.1
      refine V_aload_n dX11_repair_26 rfl ?_
      refine V_iload_n dX11_repair_27 rfl ?_
      refine V_cV0 (vs := [_]) (r_laysCheck l _ _ ρ _ _ _ _ f (by omega) hF.F) mX11_121 coX11_laysCheck dX11_repair_28 rM_0 rfl rfl rfl (by decide) (Nat.le_of_ble_eq_true rfl) (Nat.le_of_ble_eq_true rfl) (Nat.le_of_ble_eq_true rfl) (fun sz => ?_)
      refine V_aload_n dX11_repair_31 rfl ?_
      refine V_iload_n dX11_repair_32 rfl ?_
      refine V_cV (vs := [_]) (r_checkAt l _ _ (rlay ρ f) _ _ _ _ f (by omega) (by unfold rlay ckp; rw [up_n (by omega), up_n (by omega)]; omega)) mX11_141 coX11_checkAt dX11_repair_33 rM_0 rfl rfl rfl (by decide) (Nat.le_of_ble_eq_true rfl) (Nat.le_of_ble_eq_true rfl) (Nat.le_of_ble_eq_true rfl) (fun sz => ?_)
      exact V_ireti dX11_repair_36 rfl (Nat.le_of_ble_eq_true rfl) (Nat.le_of_ble_eq_true rfl) (hQ _ _ _ (Or.inr ⟨by omega, rfl, rfl⟩))
    · refine V_iconst (v := iI (0)) dX11_repair_20 rfl ?_
      exact V_ireti dX11_repair_21 rfl (Nat.le_of_ble_eq_true rfl) (Nat.le_of_ble_eq_true rfl) (hQ _ _ _ (Or.inl ⟨by omega, rfl, rfl⟩))
  · refine V_aload_n dX11_repair_1 rfl ?_
    refine V_iload_n dX11_repair_2 rfl ?_
    refine V_cV (vs := [_]) (r_isFrame l _ _ ρ _ _ _ _ f (by omega) hW.1) mX11_134 coX11_isFrame dX11_repair_3 rM_0 rfl rfl rfl (by decide) (Nat.le_of_ble_eq_true rfl) (Nat.le_of_ble_eq_true rfl) (Nat.le_of_ble_eq_true rfl) (fun sz => ?_)
    obtain ⟨bf, hbf, ebf⟩ := ex_if (p := 0 ≤ f ∧ f ≤ ρ 382 - 1)
    rw [ebf]
    refine I_if_eq (tgt := 13) dX11_repair_6 (by decide) ⟨by omega, by omega⟩ (fun h6 => ?_) (fun h6 => ?_)
    · refine V_iconst (v := iI (1)) dX11_repair_13 rfl ?_
      exact V_top (vi (by omega)) (j14 _)
    · refine V_iconst (v := iI (0)) dX11_repair_9 rfl ?_
      refine V_goto (tgt := 14) dX11_repair_10 (by decide) ?_
      exact V_top (vi (by omega)) (j14 _)

/-- lost frames among the first n -/
def lsum (ρ : Int → Int) : Nat → Int
  | 0 => 0
  | n + 1 => lsum ρ n + ρ (383 + 50 * n + 1)
theorem lsum_s {ρ : Int → Int} {i : Int} (h : 0 ≤ i) : lsum ρ (i + 1).toNat = lsum ρ i.toNat + ρ (383 + 50 * i + 1) := by
  rw [show (i + 1).toNat = i.toNat + 1 by omega]
  show lsum ρ i.toNat + ρ (383 + 50 * (i.toNat : Int) + 1) = _
  rw [Int.toNat_of_nonneg h]

set_option maxRecDepth 100000 in
set_option maxHeartbeats 4000000 in
theorem r_lose (l : Launch) (M0 : ME) (r : Nat) (ρ π : Int → Int) (sv rf hs : Int) (hv : 0 ≤ sv ∧ sv ≤ 3) (f : Int) (hf : -2147483648 ≤ f ∧ f < 2147483648) (hW : Wr ρ) (e : Int) (he : (¬ (0 ≤ f ∧ f ≤ ρ 382 - 1) ∧ e = 1) ∨ ((0 ≤ f ∧ f ≤ ρ 382 - 1) ∧ e = 0)) : CP l yX11_lose cX11_lose 4 (some .int) (rmN 7) [.ref r, .int (iI f)] (rM M0 r ρ π sv rf hs) (fun v M' => (0 < e ∧ v = some (.int (iI 0)) ∧ M' = rM M0 r ρ π sv e hs) ∨ (e = 0 ∧ v = some (.int (iI (lsum (up ρ (383 + 50 * f + 1) 1) (ρ 382).toNat))) ∧ M' = rM M0 r (up ρ (383 + 50 * f + 1) 1) (svP ρ π sv) (svS sv) e hs)) := by
  have hw1 := hW.1
  refine CP.of (L0 := [some _, some _, none, none]) (by decide +kernel) rfl rfl (Nat.le_of_ble_eq_true rfl) rfl (fun G A Q sz hQ => ?_)
  refine V_aload_n dX11_lose_0 rfl ?_
  refine V_tern (J := 14) (v := .int (iI e)) (fun sz => ?_) (fun j14 => ?_)
  · refine V_cV (vs := [_]) (r_refused l _ _ _ _ _ _ _ e (by omega)) mX11_30 coX11_refused dX11_lose_14 rM_0 rfl rfl rfl (by decide) (Nat.le_of_ble_eq_true rfl) (Nat.le_of_ble_eq_true rfl) (Nat.le_of_ble_eq_true rfl) (fun sz => ?_)
    obtain ⟨be, hbe, ebe⟩ := ex_if (p := 0 < e)
    rw [ebe]
    refine I_if_eq (tgt := 22) dX11_lose_17 (by decide) ⟨by omega, by omega⟩ (fun h17 => ?_) (fun h17 => ?_)
    · refine V_aload_n dX11_lose_22 rfl ?_
      refine V_cV0 (vs := []) (r_saves l _ _ ρ π sv _ _ hv) mX11_49 coX11_saves dX11_lose_23 rM_0 rfl rfl rfl (by decide) (Nat.le_of_ble_eq_true rfl) (Nat.le_of_ble_eq_true rfl) (Nat.le_of_ble_eq_true rfl) (fun sz => ?_)
      refine V_aload_n dX11_lose_26 rfl ?_
      refine V_getf fX11_7 dX11_lose_27 rM_0 rfl ?_
      refine V_aload_n dX11_lose_30 rfl ?_
      refine V_iload_n dX11_lose_31 rfl ?_
      refine V_cV (vs := [_]) (r_frameAt l _ _ _ _ _ _ _ f) mX11_100 coX11_frameAt dX11_lose_32 rM_0 rfl rfl rfl (by decide) (Nat.le_of_ble_eq_true rfl) (Nat.le_of_ble_eq_true rfl) (Nat.le_of_ble_eq_true rfl) (fun sz => ?_)
      refine V_iconst (v := iI (1)) dX11_lose_35 rfl ?_
      refine I_iadd dX11_lose_36 ?_
      refine V_iconst (v := iI (1)) dX11_lose_37 rfl ?_
      refine R_iast dX11_lose_38 ⟨by omega, by omega⟩ ?_
      refine V_iconst (v := iI (0)) dX11_lose_39 rfl ?_
      refine V_istore_n (L' := [some _, some _, some _, none]) dX11_lose_40 rfl (by decide) rfl ?_
      refine V_iconst (v := iI (0)) dX11_lose_41 rfl ?_
      refine V_istore_n (L' := [some _, some _, some _, some _]) dX11_lose_42 rfl (by decide) rfl ?_
      have key43 : ∀ (d : Nat) (i : Int) (sz : Nat), 0 ≤ i ∧ i ≤ ρ 382 → (ρ 382 - i).toNat = d → V l G A (rmN 7) RX11 "lose" cX11_lose 4 (some .int) Q nX 0 0 (rM M0 r (up ρ (383 + 50 * f + 1) 1) (svP ρ π sv) (svS sv) e hs) sz 43 [some (.ref r), some (.int (iI f)), some (.int (iI (lsum (up ρ (383 + 50 * f + 1) 1) i.toNat))), some (.int (iI i))] [] := by
        intro d
        induction d using Nat.strongRecOn with
        | ind d ih43 =>
          intro i  sz hi hd43
          refine V_iload_n dX11_lose_43 rfl ?_
          refine V_aload_n dX11_lose_44 rfl ?_
          refine V_getf fX11_7 dX11_lose_45 rM_0 rfl ?_
          refine V_sipush (v := iI (382)) dX11_lose_48 (by decide +kernel) ?_
          refine R_iald dX11_lose_51 ⟨by omega, by omega⟩ ?_
          rw [up_n (show (382 : Int) ≠ 383 + 50 * f + 1 by omega)]
          refine I_icmp_ge (tgt := 76) dX11_lose_52 (by decide) ⟨by omega, by omega⟩ ⟨by omega, by omega⟩ (fun h52 => ?_) (fun h52 => ?_)
          · refine V_iload_n dX11_lose_76 rfl ?_
            exact V_ireti dX11_lose_77 rfl (Nat.le_of_ble_eq_true rfl) (Nat.le_of_ble_eq_true rfl) (hQ _ _ _ (Or.inr ⟨by omega, iv (by rw [show i = ρ 382 by omega]), rfl⟩))
          · refine V_iload_n dX11_lose_55 rfl ?_
            refine V_aload_n dX11_lose_56 rfl ?_
            refine V_getf fX11_7 dX11_lose_57 rM_0 rfl ?_
            refine V_aload_n dX11_lose_60 rfl ?_
            refine V_iload_n dX11_lose_61 rfl ?_
            refine V_cV (vs := [_]) (r_frameAt l _ _ _ _ _ _ _ i) mX11_100 coX11_frameAt dX11_lose_62 rM_0 rfl rfl rfl (by decide) (Nat.le_of_ble_eq_true rfl) (Nat.le_of_ble_eq_true rfl) (Nat.le_of_ble_eq_true rfl) (fun sz => ?_)
            refine V_iconst (v := iI (1)) dX11_lose_65 rfl ?_
            refine I_iadd dX11_lose_66 ?_
            refine R_iald dX11_lose_67 ⟨by omega, by omega⟩ ?_
            refine I_iadd dX11_lose_68 ?_
            refine V_istore_n (L' := [some _, some _, some _, some _]) dX11_lose_69 rfl (by decide) rfl ?_
            refine I_iinc (L' := [some _, some _, some _, some _]) dX11_lose_70 rfl (by decide) rfl ?_
            refine V_goto (tgt := 43) dX11_lose_73 (by decide) ?_
            exact V_wk' (ih43 _ (by omega) (i + 1) sz ⟨by omega, by omega⟩ rfl) ⟨rfl, rfl, (vi (lsum_s hi.1)), rfl, trivial⟩
      exact V_wk' (key43 _ 0 sz ⟨by omega, by omega⟩ rfl) ⟨rfl, rfl, rfl, rfl, trivial⟩
    · refine V_iconst (v := iI (0)) dX11_lose_20 rfl ?_
      exact V_ireti dX11_lose_21 rfl (Nat.le_of_ble_eq_true rfl) (Nat.le_of_ble_eq_true rfl) (hQ _ _ _ (Or.inl ⟨by omega, rfl, rfl⟩))
  · refine V_aload_n dX11_lose_1 rfl ?_
    refine V_iload_n dX11_lose_2 rfl ?_
    refine V_cV (vs := [_]) (r_isFrame l _ _ ρ _ _ _ _ f (by omega) hW.1) mX11_134 coX11_isFrame dX11_lose_3 rM_0 rfl rfl rfl (by decide) (Nat.le_of_ble_eq_true rfl) (Nat.le_of_ble_eq_true rfl) (Nat.le_of_ble_eq_true rfl) (fun sz => ?_)
    obtain ⟨bf, hbf, ebf⟩ := ex_if (p := 0 ≤ f ∧ f ≤ ρ 382 - 1)
    rw [ebf]
    refine I_if_eq (tgt := 13) dX11_lose_6 (by decide) ⟨by omega, by omega⟩ (fun h6 => ?_) (fun h6 => ?_)
    · refine V_iconst (v := iI (1)) dX11_lose_13 rfl ?_
      exact V_top (vi (by omega)) (j14 _)
    · refine V_iconst (v := iI (0)) dX11_lose_9 rfl ?_
      refine V_goto (tgt := 14) dX11_lose_10 (by decide) ?_
      exact V_top (vi (by omega)) (j14 _)

/-- a value of what a channel has sent -/
def rse (ρ : Int → Int) (c w : Int) : Int := if c = 7 then (if w = 0 then ρ 45 else if w = 1 then 0 else -1) else if w = 0 then ρ (41 + c) else if w = 1 then ρ (46 + c) else ρ (50 + c)
def rre (ρ : Int → Int) (c w : Int) : Int := if w = 0 then ρ (3395 + c) else if w = 1 then ρ (3399 + c) else if w = 2 then ρ (3407 + c) else ρ (3403 + c)

set_option maxRecDepth 100000 in
set_option maxHeartbeats 4000000 in
theorem r_sentOf (l : Launch) (M0 : ME) (r : Nat) (ρ π : Int → Int) (sv rf hs : Int) (c w : Int) (hc : (0 ≤ c ∧ c ≤ 3) ∨ c = 7) (hw : r32 w) : CF l yX11_sentOf cX11_sentOf 3 (some .int) (rmN 2) [.ref r, .int (iI c), .int (iI w)] (rM M0 r ρ π sv rf hs) (some (.int (iI (rse ρ c w)))) (rM M0 r ρ π sv rf hs) := by
  refine CF.of (L0 := [some _, some _, some _]) (by decide +kernel) rfl rfl (Nat.le_of_ble_eq_true rfl) rfl (fun G A Q sz hQ => ?_)
  refine V_iload_n dX11_sentOf_0 rfl ?_
  refine V_bipush (v := iI (7)) dX11_sentOf_1 (by decide +kernel) ?_
  refine I_icmp_ne (tgt := 31) dX11_sentOf_3 (by decide) ⟨by omega, by omega⟩ ⟨by omega, by omega⟩ (fun h3 => ?_) (fun h3 => ?_)
  · refine V_iload_n dX11_sentOf_31 rfl ?_
    refine I_if_ne (tgt := 47) dX11_sentOf_32 (by decide) hw (fun h32 => ?_) (fun h32 => ?_)
    · refine V_iload_n dX11_sentOf_47 rfl ?_
      refine V_iconst (v := iI (1)) dX11_sentOf_48 rfl ?_
      refine I_icmp_ne (tgt := 64) dX11_sentOf_49 (by decide) hw ⟨by omega, by omega⟩ (fun h49 => ?_) (fun h49 => ?_)
      · refine V_aload_n dX11_sentOf_64 rfl ?_
        refine V_getf fX11_7 dX11_sentOf_65 rM_0 rfl ?_
        refine V_bipush (v := iI (50)) dX11_sentOf_68 (by decide +kernel) ?_
        refine V_iload_n dX11_sentOf_70 rfl ?_
        refine I_iadd dX11_sentOf_71 ?_
        refine R_iald dX11_sentOf_72 ⟨by omega, by omega⟩ ?_
        exact V_ireti dX11_sentOf_73 rfl (Nat.le_of_ble_eq_true rfl) (Nat.le_of_ble_eq_true rfl) (hQ _ _ _ (iv (by unfold rse; (repeat (first | rw [if_pos (by omega)] | rw [if_neg (by omega)])))) rfl)
      · refine V_aload_n dX11_sentOf_52 rfl ?_
        refine V_getf fX11_7 dX11_sentOf_53 rM_0 rfl ?_
        refine V_bipush (v := iI (46)) dX11_sentOf_56 (by decide +kernel) ?_
        refine V_iload_n dX11_sentOf_58 rfl ?_
        refine I_iadd dX11_sentOf_59 ?_
        refine R_iald dX11_sentOf_60 ⟨by omega, by omega⟩ ?_
        refine V_goto (tgt := 73) dX11_sentOf_61 (by decide) ?_
        exact V_ireti dX11_sentOf_73 rfl (Nat.le_of_ble_eq_true rfl) (Nat.le_of_ble_eq_true rfl) (hQ _ _ _ (iv (by unfold rse; (repeat (first | rw [if_pos (by omega)] | rw [if_neg (by omega)])))) rfl)
    · refine V_aload_n dX11_sentOf_35 rfl ?_
      refine V_getf fX11_7 dX11_sentOf_36 rM_0 rfl ?_
      refine V_bipush (v := iI (41)) dX11_sentOf_39 (by decide +kernel) ?_
      refine V_iload_n dX11_sentOf_41 rfl ?_
      refine I_iadd dX11_sentOf_42 ?_
      refine R_iald dX11_sentOf_43 ⟨by omega, by omega⟩ ?_
      refine V_goto (tgt := 73) dX11_sentOf_44 (by decide) ?_
      exact V_ireti dX11_sentOf_73 rfl (Nat.le_of_ble_eq_true rfl) (Nat.le_of_ble_eq_true rfl) (hQ _ _ _ (iv (by unfold rse; (repeat (first | rw [if_pos (by omega)] | rw [if_neg (by omega)])))) rfl)
  · refine V_iload_n dX11_sentOf_6 rfl ?_
    refine I_if_ne (tgt := 20) dX11_sentOf_7 (by decide) hw (fun h7 => ?_) (fun h7 => ?_)
    · refine V_iload_n dX11_sentOf_20 rfl ?_
      refine V_iconst (v := iI (1)) dX11_sentOf_21 rfl ?_
      refine I_icmp_ne (tgt := 29) dX11_sentOf_22 (by decide) hw ⟨by omega, by omega⟩ (fun h22 => ?_) (fun h22 => ?_)
      · refine V_iconst (v := iI (-1)) dX11_sentOf_29 rfl ?_
        exact V_ireti dX11_sentOf_30 rfl (Nat.le_of_ble_eq_true rfl) (Nat.le_of_ble_eq_true rfl) (hQ _ _ _ (iv (by unfold rse; (repeat (first | rw [if_pos (by omega)] | rw [if_neg (by omega)])))) rfl)
      · refine V_iconst (v := iI (0)) dX11_sentOf_25 rfl ?_
        refine V_goto (tgt := 30) dX11_sentOf_26 (by decide) ?_
        exact V_ireti dX11_sentOf_30 rfl (Nat.le_of_ble_eq_true rfl) (Nat.le_of_ble_eq_true rfl) (hQ _ _ _ (iv (by unfold rse; (repeat (first | rw [if_pos (by omega)] | rw [if_neg (by omega)])))) rfl)
    · refine V_aload_n dX11_sentOf_10 rfl ?_
      refine V_getf fX11_7 dX11_sentOf_11 rM_0 rfl ?_
      refine V_bipush (v := iI (45)) dX11_sentOf_14 (by decide +kernel) ?_
      refine R_iald dX11_sentOf_16 ⟨by omega, by omega⟩ ?_
      refine V_goto (tgt := 30) dX11_sentOf_17 (by decide) ?_
      exact V_ireti dX11_sentOf_30 rfl (Nat.le_of_ble_eq_true rfl) (Nat.le_of_ble_eq_true rfl) (hQ _ _ _ (iv (by unfold rse; (repeat (first | rw [if_pos (by omega)] | rw [if_neg (by omega)])))) rfl)

set_option maxRecDepth 100000 in
set_option maxHeartbeats 4000000 in
theorem r_receivedOf (l : Launch) (M0 : ME) (r : Nat) (ρ π : Int → Int) (sv rf hs : Int) (c : Int) (hc : 0 ≤ c ∧ c ≤ 3) (w : Int) (hw : r32 w) : CF l yX11_receivedOf cX11_receivedOf 3 (some .int) (rmN 2) [.ref r, .int (iI c), .int (iI w)] (rM M0 r ρ π sv rf hs) (some (.int (iI (rre ρ c w)))) (rM M0 r ρ π sv rf hs) := by
  refine CF.of (L0 := [some _, some _, some _]) (by decide +kernel) rfl rfl (Nat.le_of_ble_eq_true rfl) rfl (fun G A Q sz hQ => ?_)
  refine V_iload_n dX11_receivedOf_0 rfl ?_
  refine I_if_ne (tgt := 17) dX11_receivedOf_1 (by decide) hw (fun h1 => ?_) (fun h1 => ?_)
  · refine V_iload_n dX11_receivedOf_17 rfl ?_
    refine V_iconst (v := iI (1)) dX11_receivedOf_18 rfl ?_
    refine I_icmp_ne (tgt := 35) dX11_receivedOf_19 (by decide) hw ⟨by omega, by omega⟩ (fun h19 => ?_) (fun h19 => ?_)
    · refine V_iload_n dX11_receivedOf_35 rfl ?_
      refine V_iconst (v := iI (2)) dX11_receivedOf_36 rfl ?_
      refine I_icmp_ne (tgt := 53) dX11_receivedOf_37 (by decide) hw ⟨by omega, by omega⟩ (fun h37 => ?_) (fun h37 => ?_)
      · refine V_aload_n dX11_receivedOf_53 rfl ?_
        refine V_getf fX11_7 dX11_receivedOf_54 rM_0 rfl ?_
        refine V_sipush (v := iI (3403)) dX11_receivedOf_57 (by decide +kernel) ?_
        refine V_iload_n dX11_receivedOf_60 rfl ?_
        refine I_iadd dX11_receivedOf_61 ?_
        refine R_iald dX11_receivedOf_62 ⟨by omega, by omega⟩ ?_
        exact V_ireti dX11_receivedOf_63 rfl (Nat.le_of_ble_eq_true rfl) (Nat.le_of_ble_eq_true rfl) (hQ _ _ _ (iv (by unfold rre; (repeat (first | rw [if_pos (by omega)] | rw [if_neg (by omega)])))) rfl)
      · refine V_aload_n dX11_receivedOf_40 rfl ?_
        refine V_getf fX11_7 dX11_receivedOf_41 rM_0 rfl ?_
        refine V_sipush (v := iI (3407)) dX11_receivedOf_44 (by decide +kernel) ?_
        refine V_iload_n dX11_receivedOf_47 rfl ?_
        refine I_iadd dX11_receivedOf_48 ?_
        refine R_iald dX11_receivedOf_49 ⟨by omega, by omega⟩ ?_
        refine V_goto (tgt := 63) dX11_receivedOf_50 (by decide) ?_
        exact V_ireti dX11_receivedOf_63 rfl (Nat.le_of_ble_eq_true rfl) (Nat.le_of_ble_eq_true rfl) (hQ _ _ _ (iv (by unfold rre; (repeat (first | rw [if_pos (by omega)] | rw [if_neg (by omega)])))) rfl)
    · refine V_aload_n dX11_receivedOf_22 rfl ?_
      refine V_getf fX11_7 dX11_receivedOf_23 rM_0 rfl ?_
      refine V_sipush (v := iI (3399)) dX11_receivedOf_26 (by decide +kernel) ?_
      refine V_iload_n dX11_receivedOf_29 rfl ?_
      refine I_iadd dX11_receivedOf_30 ?_
      refine R_iald dX11_receivedOf_31 ⟨by omega, by omega⟩ ?_
      refine V_goto (tgt := 63) dX11_receivedOf_32 (by decide) ?_
      exact V_ireti dX11_receivedOf_63 rfl (Nat.le_of_ble_eq_true rfl) (Nat.le_of_ble_eq_true rfl) (hQ _ _ _ (iv (by unfold rre; (repeat (first | rw [if_pos (by omega)] | rw [if_neg (by omega)])))) rfl)
  · refine V_aload_n dX11_receivedOf_4 rfl ?_
    refine V_getf fX11_7 dX11_receivedOf_5 rM_0 rfl ?_
    refine V_sipush (v := iI (3395)) dX11_receivedOf_8 (by decide +kernel) ?_
    refine V_iload_n dX11_receivedOf_11 rfl ?_
    refine I_iadd dX11_receivedOf_12 ?_
    refine R_iald dX11_receivedOf_13 ⟨by omega, by omega⟩ ?_
    refine V_goto (tgt := 63) dX11_receivedOf_14 (by decide) ?_
    exact V_ireti dX11_receivedOf_63 rfl (Nat.le_of_ble_eq_true rfl) (Nat.le_of_ble_eq_true rfl) (hQ _ _ _ (iv (by unfold rre; (repeat (first | rw [if_pos (by omega)] | rw [if_neg (by omega)])))) rfl)

set_option maxRecDepth 100000 in
set_option maxHeartbeats 4000000 in
theorem r_sent (l : Launch) (M0 : ME) (r : Nat) (ρ π : Int → Int) (sv rf hs : Int) (c : Int) (hc : -2147483648 ≤ c ∧ c < 2147483648) (w : Int) (hw : -2147483648 ≤ w ∧ w < 2147483648) (e : Int) (he : (¬ ((0 ≤ c ∧ c ≤ 3) ∨ c = 7) ∧ e = 1) ∨ (((0 ≤ c ∧ c ≤ 3) ∨ c = 7) ∧ ¬ (0 ≤ w ∧ w ≤ 2) ∧ e = 2) ∨ (((0 ≤ c ∧ c ≤ 3) ∨ c = 7) ∧ (0 ≤ w ∧ w ≤ 2) ∧ e = 0)) : CP l yX11_sent cX11_sent 3 (some .int) (rmN 7) [.ref r, .int (iI c), .int (iI w)] (rM M0 r ρ π sv rf hs) (fun v M' => (0 < e ∧ v = some (.int (iI 0)) ∧ M' = rM M0 r ρ π sv e hs) ∨ (e = 0 ∧ v = some (.int (iI (rse ρ c w))) ∧ M' = rM M0 r ρ π sv e hs)) := by
  refine CP.of (L0 := [some _, some _, some _]) (by decide +kernel) rfl rfl (Nat.le_of_ble_eq_true rfl) rfl (fun G A Q sz hQ => ?_)
  refine V_aload_n dX11_sent_0 rfl ?_
  refine V_tern (J := 35) (v := .int (iI e)) (fun sz => ?_) (fun j35 => ?_)
  · refine V_cV (vs := [_]) (r_refused l _ _ _ _ _ _ _ e (by omega)) mX11_30 coX11_refused dX11_sent_35 rM_0 rfl rfl rfl (by decide) (Nat.le_of_ble_eq_true rfl) (Nat.le_of_ble_eq_true rfl) (Nat.le_of_ble_eq_true rfl) (fun sz => ?_)
    obtain ⟨be, hbe, ebe⟩ := ex_if (p := 0 < e)
    rw [ebe]
    refine I_if_eq (tgt := 45) dX11_sent_38 (by decide) ⟨by omega, by omega⟩ (fun h38 => ?_) (fun h38 => ?_)
    · refine V_aload_n dX11_sent_45 rfl ?_
      refine V_iload_n dX11_sent_46 rfl ?_
      refine V_iload_n dX11_sent_47 rfl ?_
      refine V_cV (vs := [_, _]) (r_sentOf l _ _ ρ _ _ _ _ c w (by omega) ⟨by omega, by omega⟩) mX11_131 coX11_sentOf dX11_sent_48 rM_0 rfl rfl rfl (by decide) (Nat.le_of_ble_eq_true rfl) (Nat.le_of_ble_eq_true rfl) (Nat.le_of_ble_eq_true rfl) (fun sz => ?_)
      exact V_ireti dX11_sent_51 rfl (Nat.le_of_ble_eq_true rfl) (Nat.le_of_ble_eq_true rfl) (hQ _ _ _ (by first | exact Or.inl ⟨by omega, rfl, rfl⟩ | exact Or.inr ⟨by omega, rfl, rfl⟩))
    · refine V_iconst (v := iI (0)) dX11_sent_41 rfl ?_
      refine V_goto (tgt := 51) dX11_sent_42 (by decide) ?_
      exact V_ireti dX11_sent_51 rfl (Nat.le_of_ble_eq_true rfl) (Nat.le_of_ble_eq_true rfl) (hQ _ _ _ (by first | exact Or.inl ⟨by omega, rfl, rfl⟩ | exact Or.inr ⟨by omega, rfl, rfl⟩))
  · refine V_iload_n dX11_sent_1 rfl ?_
    refine V_cS (vs := [_]) (r_isChannel l _ c ⟨by omega, by omega⟩) mX11_52 coX11_isChannel dX11_sent_2 rfl rfl (by decide) (Nat.le_of_ble_eq_true rfl) (Nat.le_of_ble_eq_true rfl) (Nat.le_of_ble_eq_true rfl) (fun sz => ?_)
    obtain ⟨bc, hbc, ebc⟩ := ex_if (p := 0 ≤ c ∧ c ≤ 3)
    rw [ebc]
    refine I_if_ne (tgt := 18) dX11_sent_5 (by decide) ⟨by omega, by omega⟩ (fun h5 => ?_) (fun h5 => ?_)
    · refine V_iload_n dX11_sent_18 rfl ?_
      refine I_i2l dX11_sent_19 ⟨by omega, by omega⟩ ?_
      refine V_lconst (v := lI 0) dX11_sent_20 rfl ?_
      refine V_ldc2 (v := lI (2)) dX11_sent_21 (kL (by decide +kernel) kX11_76) ?_
      refine V_cS (vs := [_, _, _]) (r_within l _ w (0) (2) ⟨by omega, by omega⟩ ⟨by omega, by omega⟩ ⟨by omega, by omega⟩) mX11_23 coX11_within dX11_sent_24 rfl rfl (by decide) (Nat.le_of_ble_eq_true rfl) (Nat.le_of_ble_eq_true rfl) (Nat.le_of_ble_eq_true rfl) (fun sz => ?_)
      obtain ⟨bw, hbw, ebw⟩ := ex_if (p := 0 ≤ w ∧ w ≤ 2)
      rw [ebw]
      refine I_if_eq (tgt := 34) dX11_sent_27 (by decide) ⟨by omega, by omega⟩ (fun h27 => ?_) (fun h27 => ?_)
      · refine V_iconst (v := iI (2)) dX11_sent_34 rfl ?_
        exact V_top (vi (by omega)) (j35 _)
      · refine V_iconst (v := iI (0)) dX11_sent_30 rfl ?_
        refine V_goto (tgt := 35) dX11_sent_31 (by decide) ?_
        exact V_top (vi (by omega)) (j35 _)
    · refine V_iload_n dX11_sent_8 rfl ?_
      refine V_bipush (v := iI (7)) dX11_sent_9 (by decide +kernel) ?_
      refine I_icmp_eq (tgt := 18) dX11_sent_11 (by decide) ⟨by omega, by omega⟩ ⟨by omega, by omega⟩ (fun h11 => ?_) (fun h11 => ?_)
      · refine V_iload_n dX11_sent_18 rfl ?_
        refine I_i2l dX11_sent_19 ⟨by omega, by omega⟩ ?_
        refine V_lconst (v := lI 0) dX11_sent_20 rfl ?_
        refine V_ldc2 (v := lI (2)) dX11_sent_21 (kL (by decide +kernel) kX11_76) ?_
        refine V_cS (vs := [_, _, _]) (r_within l _ w (0) (2) ⟨by omega, by omega⟩ ⟨by omega, by omega⟩ ⟨by omega, by omega⟩) mX11_23 coX11_within dX11_sent_24 rfl rfl (by decide) (Nat.le_of_ble_eq_true rfl) (Nat.le_of_ble_eq_true rfl) (Nat.le_of_ble_eq_true rfl) (fun sz => ?_)
        obtain ⟨bw, hbw, ebw⟩ := ex_if (p := 0 ≤ w ∧ w ≤ 2)
        rw [ebw]
        refine I_if_eq (tgt := 34) dX11_sent_27 (by decide) ⟨by omega, by omega⟩ (fun h27 => ?_) (fun h27 => ?_)
        · refine V_iconst (v := iI (2)) dX11_sent_34 rfl ?_
          exact V_top (vi (by omega)) (j35 _)
        · refine V_iconst (v := iI (0)) dX11_sent_30 rfl ?_
          refine V_goto (tgt := 35) dX11_sent_31 (by decide) ?_
          exact V_top (vi (by omega)) (j35 _)
      · refine V_iconst (v := iI (1)) dX11_sent_14 rfl ?_
        refine V_goto (tgt := 35) dX11_sent_15 (by decide) ?_
        exact V_top (vi (by omega)) (j35 _)

set_option maxRecDepth 100000 in
set_option maxHeartbeats 4000000 in
theorem r_received (l : Launch) (M0 : ME) (r : Nat) (ρ π : Int → Int) (sv rf hs : Int) (c : Int) (hc : -2147483648 ≤ c ∧ c < 2147483648) (w : Int) (hw : -2147483648 ≤ w ∧ w < 2147483648) (e : Int) (he : (¬ (0 ≤ c ∧ c ≤ 3) ∧ e = 1) ∨ ((0 ≤ c ∧ c ≤ 3) ∧ ¬ (0 ≤ w ∧ w ≤ 3) ∧ e = 2) ∨ ((0 ≤ c ∧ c ≤ 3) ∧ (0 ≤ w ∧ w ≤ 3) ∧ e = 0)) : CP l yX11_received cX11_received 3 (some .int) (rmN 7) [.ref r, .int (iI c), .int (iI w)] (rM M0 r ρ π sv rf hs) (fun v M' => (0 < e ∧ v = some (.int (iI 0)) ∧ M' = rM M0 r ρ π sv e hs) ∨ (e = 0 ∧ v = some (.int (iI (rre ρ c w))) ∧ M' = rM M0 r ρ π sv e hs)) := by
  refine CP.of (L0 := [some _, some _, some _]) (by decide +kernel) rfl rfl (Nat.le_of_ble_eq_true rfl) rfl (fun G A Q sz hQ => ?_)
  refine V_aload_n dX11_received_0 rfl ?_
  refine V_tern (J := 29) (v := .int (iI e)) (fun sz => ?_) (fun j29 => ?_)
  · refine V_cV (vs := [_]) (r_refused l _ _ _ _ _ _ _ e (by omega)) mX11_30 coX11_refused dX11_received_29 rM_0 rfl rfl rfl (by decide) (Nat.le_of_ble_eq_true rfl) (Nat.le_of_ble_eq_true rfl) (Nat.le_of_ble_eq_true rfl) (fun sz => ?_)
    obtain ⟨be, hbe, ebe⟩ := ex_if (p := 0 < e)
    rw [ebe]
    refine I_if_eq (tgt := 39) dX11_received_32 (by decide) ⟨by omega, by omega⟩ (fun h32 => ?_) (fun h32 => ?_)
    · refine V_aload_n dX11_received_39 rfl ?_
      refine V_iload_n dX11_received_40 rfl ?_
      refine V_iload_n dX11_received_41 rfl ?_
      refine V_cV (vs := [_, _]) (r_receivedOf l _ _ ρ _ _ _ _ c (by omega) w ⟨by omega, by omega⟩) mX11_168 coX11_receivedOf dX11_received_42 rM_0 rfl rfl rfl (by decide) (Nat.le_of_ble_eq_true rfl) (Nat.le_of_ble_eq_true rfl) (Nat.le_of_ble_eq_true rfl) (fun sz => ?_)
      exact V_ireti dX11_received_45 rfl (Nat.le_of_ble_eq_true rfl) (Nat.le_of_ble_eq_true rfl) (hQ _ _ _ (by first | exact Or.inl ⟨by omega, rfl, rfl⟩ | exact Or.inr ⟨by omega, rfl, rfl⟩))
    · refine V_iconst (v := iI (0)) dX11_received_35 rfl ?_
      refine V_goto (tgt := 45) dX11_received_36 (by decide) ?_
      exact V_ireti dX11_received_45 rfl (Nat.le_of_ble_eq_true rfl) (Nat.le_of_ble_eq_true rfl) (hQ _ _ _ (by first | exact Or.inl ⟨by omega, rfl, rfl⟩ | exact Or.inr ⟨by omega, rfl, rfl⟩))
  · refine V_iload_n dX11_received_1 rfl ?_
    refine V_cS (vs := [_]) (r_isChannel l _ c ⟨by omega, by omega⟩) mX11_52 coX11_isChannel dX11_received_2 rfl rfl (by decide) (Nat.le_of_ble_eq_true rfl) (Nat.le_of_ble_eq_true rfl) (Nat.le_of_ble_eq_true rfl) (fun sz => ?_)
    obtain ⟨bc, hbc, ebc⟩ := ex_if (p := 0 ≤ c ∧ c ≤ 3)
    rw [ebc]
    refine I_if_ne (tgt := 12) dX11_received_5 (by decide) ⟨by omega, by omega⟩ (fun h5 => ?_) (fun h5 => ?_)
    · refine V_iload_n dX11_received_12 rfl ?_
      refine I_i2l dX11_received_13 ⟨by omega, by omega⟩ ?_
      refine V_lconst (v := lI 0) dX11_received_14 rfl ?_
      refine V_ldc2 (v := lI (3)) dX11_received_15 (kL (by decide +kernel) kX11_21) ?_
      refine V_cS (vs := [_, _, _]) (r_within l _ w (0) (3) ⟨by omega, by omega⟩ ⟨by omega, by omega⟩ ⟨by omega, by omega⟩) mX11_23 coX11_within dX11_received_18 rfl rfl (by decide) (Nat.le_of_ble_eq_true rfl) (Nat.le_of_ble_eq_true rfl) (Nat.le_of_ble_eq_true rfl) (fun sz => ?_)
      obtain ⟨bw, hbw, ebw⟩ := ex_if (p := 0 ≤ w ∧ w ≤ 3)
      rw [ebw]
      refine I_if_eq (tgt := 28) dX11_received_21 (by decide) ⟨by omega, by omega⟩ (fun h21 => ?_) (fun h21 => ?_)
      · refine V_iconst (v := iI (2)) dX11_received_28 rfl ?_
        exact V_top (vi (by omega)) (j29 _)
      · refine V_iconst (v := iI (0)) dX11_received_24 rfl ?_
        refine V_goto (tgt := 29) dX11_received_25 (by decide) ?_
        exact V_top (vi (by omega)) (j29 _)
    · refine V_iconst (v := iI (1)) dX11_received_8 rfl ?_
      refine V_goto (tgt := 29) dX11_received_9 (by decide) ?_
      exact V_top (vi (by omega)) (j29 _)

set_option maxRecDepth 100000 in
set_option maxHeartbeats 4000000 in
theorem r_count (l : Launch) (M0 : ME) (r : Nat) (ρ π : Int → Int) (sv rf hs : Int) (w : Int) (hw : -2147483648 ≤ w ∧ w < 2147483648) (e : Int) (he : (¬ (0 ≤ w ∧ w ≤ 5) ∧ e = 1) ∨ ((0 ≤ w ∧ w ≤ 5) ∧ e = 0)) : CP l yX11_count cX11_count 2 (some .int) (rmN 7) [.ref r, .int (iI w)] (rM M0 r ρ π sv rf hs) (fun v M' => (0 < e ∧ v = some (.int (iI 0)) ∧ M' = rM M0 r ρ π sv e hs) ∨ (e = 0 ∧ v = some (.int (iI (ρ (3383 + w)))) ∧ M' = rM M0 r ρ π sv e hs)) := by
  refine CP.of (L0 := [some _, some _]) (by decide +kernel) rfl rfl (Nat.le_of_ble_eq_true rfl) rfl (fun G A Q sz hQ => ?_)
  refine V_aload_n dX11_count_0 rfl ?_
  refine V_tern (J := 18) (v := .int (iI e)) (fun sz => ?_) (fun j18 => ?_)
  · refine V_cV (vs := [_]) (r_refused l _ _ _ _ _ _ _ e (by omega)) mX11_30 coX11_refused dX11_count_18 rM_0 rfl rfl rfl (by decide) (Nat.le_of_ble_eq_true rfl) (Nat.le_of_ble_eq_true rfl) (Nat.le_of_ble_eq_true rfl) (fun sz => ?_)
    obtain ⟨be, hbe, ebe⟩ := ex_if (p := 0 < e)
    rw [ebe]
    refine I_if_eq (tgt := 28) dX11_count_21 (by decide) ⟨by omega, by omega⟩ (fun h21 => ?_) (fun h21 => ?_)
    · refine V_aload_n dX11_count_28 rfl ?_
      refine V_getf fX11_7 dX11_count_29 rM_0 rfl ?_
      refine V_sipush (v := iI (3383)) dX11_count_32 (by decide +kernel) ?_
      refine V_iload_n dX11_count_35 rfl ?_
      refine I_iadd dX11_count_36 ?_
      refine R_iald dX11_count_37 ⟨by omega, by omega⟩ ?_
      exact V_ireti dX11_count_38 rfl (Nat.le_of_ble_eq_true rfl) (Nat.le_of_ble_eq_true rfl) (hQ _ _ _ (by first | exact Or.inl ⟨by omega, rfl, rfl⟩ | exact Or.inr ⟨by omega, rfl, rfl⟩))
    · refine V_iconst (v := iI (0)) dX11_count_24 rfl ?_
      refine V_goto (tgt := 38) dX11_count_25 (by decide) ?_
      exact V_ireti dX11_count_38 rfl (Nat.le_of_ble_eq_true rfl) (Nat.le_of_ble_eq_true rfl) (hQ _ _ _ (by first | exact Or.inl ⟨by omega, rfl, rfl⟩ | exact Or.inr ⟨by omega, rfl, rfl⟩))
  · refine V_iload_n dX11_count_1 rfl ?_
    refine I_i2l dX11_count_2 ⟨by omega, by omega⟩ ?_
    refine V_lconst (v := lI 0) dX11_count_3 rfl ?_
    refine V_ldc2 (v := lI (5)) dX11_count_4 (kL (by decide +kernel) kX11_166) ?_
    refine V_cS (vs := [_, _, _]) (r_within l _ w (0) (5) ⟨by omega, by omega⟩ ⟨by omega, by omega⟩ ⟨by omega, by omega⟩) mX11_23 coX11_within dX11_count_7 rfl rfl (by decide) (Nat.le_of_ble_eq_true rfl) (Nat.le_of_ble_eq_true rfl) (Nat.le_of_ble_eq_true rfl) (fun sz => ?_)
    obtain ⟨bw, hbw, ebw⟩ := ex_if (p := 0 ≤ w ∧ w ≤ 5)
    rw [ebw]
    refine I_if_eq (tgt := 17) dX11_count_10 (by decide) ⟨by omega, by omega⟩ (fun h10 => ?_) (fun h10 => ?_)
    · refine V_iconst (v := iI (1)) dX11_count_17 rfl ?_
      exact V_top (vi (by omega)) (j18 _)
    · refine V_iconst (v := iI (0)) dX11_count_13 rfl ?_
      refine V_goto (tgt := 18) dX11_count_14 (by decide) ?_
      exact V_top (vi (by omega)) (j18 _)

set_option maxRecDepth 100000 in
set_option maxHeartbeats 4000000 in
theorem r_application (l : Launch) (M0 : ME) (r : Nat) (ρ π : Int → Int) (sv rf hs : Int) (a : Int) (ha : -2147483648 ≤ a ∧ a < 2147483648) (w : Int) (hw : -2147483648 ≤ w ∧ w < 2147483648) (e : Int) (he : (¬ (0 ≤ a ∧ a ≤ 14) ∧ e = 1) ∨ ((0 ≤ a ∧ a ≤ 14) ∧ ¬ (0 ≤ w ∧ w ≤ 2) ∧ e = 2) ∨ ((0 ≤ a ∧ a ≤ 14) ∧ (0 ≤ w ∧ w ≤ 2) ∧ e = 0)) : CP l yX11_application cX11_application 3 (some .int) (rmN 7) [.ref r, .int (iI a), .int (iI w)] (rM M0 r ρ π sv rf hs) (fun v M' => (0 < e ∧ v = some (.int (iI 0)) ∧ M' = rM M0 r ρ π sv e hs) ∨ (e = 0 ∧ v = some (.int (iI (ρ (4443 + 4 * a + w)))) ∧ M' = rM M0 r ρ π sv e hs)) := by
  refine CP.of (L0 := [some _, some _, some _]) (by decide +kernel) rfl rfl (Nat.le_of_ble_eq_true rfl) rfl (fun G A Q sz hQ => ?_)
  refine V_aload_n dX11_application_0 rfl ?_
  refine V_tern (J := 34) (v := .int (iI e)) (fun sz => ?_) (fun j34 => ?_)
  · refine V_cV (vs := [_]) (r_refused l _ _ _ _ _ _ _ e (by omega)) mX11_30 coX11_refused dX11_application_34 rM_0 rfl rfl rfl (by decide) (Nat.le_of_ble_eq_true rfl) (Nat.le_of_ble_eq_true rfl) (Nat.le_of_ble_eq_true rfl) (fun sz => ?_)
    obtain ⟨be, hbe, ebe⟩ := ex_if (p := 0 < e)
    rw [ebe]
    refine I_if_eq (tgt := 44) dX11_application_37 (by decide) ⟨by omega, by omega⟩ (fun h37 => ?_) (fun h37 => ?_)
    · refine V_aload_n dX11_application_44 rfl ?_
      refine V_getf fX11_7 dX11_application_45 rM_0 rfl ?_
      refine V_sipush (v := iI (4443)) dX11_application_48 (by decide +kernel) ?_
      refine V_iconst (v := iI (4)) dX11_application_51 rfl ?_
      refine V_iload_n dX11_application_52 rfl ?_
      refine I_imul dX11_application_53 ?_
      refine I_iadd dX11_application_54 ?_
      refine V_iload_n dX11_application_55 rfl ?_
      refine I_iadd dX11_application_56 ?_
      refine R_iald dX11_application_57 ⟨by omega, by omega⟩ ?_
      exact V_ireti dX11_application_58 rfl (Nat.le_of_ble_eq_true rfl) (Nat.le_of_ble_eq_true rfl) (hQ _ _ _ (by first | exact Or.inl ⟨by omega, rfl, rfl⟩ | exact Or.inr ⟨by omega, rfl, rfl⟩))
    · refine V_iconst (v := iI (0)) dX11_application_40 rfl ?_
      refine V_goto (tgt := 58) dX11_application_41 (by decide) ?_
      exact V_ireti dX11_application_58 rfl (Nat.le_of_ble_eq_true rfl) (Nat.le_of_ble_eq_true rfl) (hQ _ _ _ (by first | exact Or.inl ⟨by omega, rfl, rfl⟩ | exact Or.inr ⟨by omega, rfl, rfl⟩))
  · refine V_iload_n dX11_application_1 rfl ?_
    refine I_i2l dX11_application_2 ⟨by omega, by omega⟩ ?_
    refine V_lconst (v := lI 0) dX11_application_3 rfl ?_
    refine V_ldc2 (v := lI (14)) dX11_application_4 (kL (by decide +kernel) kX11_65) ?_
    refine V_cS (vs := [_, _, _]) (r_within l _ a (0) (14) ⟨by omega, by omega⟩ ⟨by omega, by omega⟩ ⟨by omega, by omega⟩) mX11_23 coX11_within dX11_application_7 rfl rfl (by decide) (Nat.le_of_ble_eq_true rfl) (Nat.le_of_ble_eq_true rfl) (Nat.le_of_ble_eq_true rfl) (fun sz => ?_)
    obtain ⟨ba, hba, eba⟩ := ex_if (p := 0 ≤ a ∧ a ≤ 14)
    rw [eba]
    refine I_if_ne (tgt := 17) dX11_application_10 (by decide) ⟨by omega, by omega⟩ (fun h10 => ?_) (fun h10 => ?_)
    · refine V_iload_n dX11_application_17 rfl ?_
      refine I_i2l dX11_application_18 ⟨by omega, by omega⟩ ?_
      refine V_lconst (v := lI 0) dX11_application_19 rfl ?_
      refine V_ldc2 (v := lI (2)) dX11_application_20 (kL (by decide +kernel) kX11_76) ?_
      refine V_cS (vs := [_, _, _]) (r_within l _ w (0) (2) ⟨by omega, by omega⟩ ⟨by omega, by omega⟩ ⟨by omega, by omega⟩) mX11_23 coX11_within dX11_application_23 rfl rfl (by decide) (Nat.le_of_ble_eq_true rfl) (Nat.le_of_ble_eq_true rfl) (Nat.le_of_ble_eq_true rfl) (fun sz => ?_)
      obtain ⟨bw, hbw, ebw⟩ := ex_if (p := 0 ≤ w ∧ w ≤ 2)
      rw [ebw]
      refine I_if_eq (tgt := 33) dX11_application_26 (by decide) ⟨by omega, by omega⟩ (fun h26 => ?_) (fun h26 => ?_)
      · refine V_iconst (v := iI (2)) dX11_application_33 rfl ?_
        exact V_top (vi (by omega)) (j34 _)
      · refine V_iconst (v := iI (0)) dX11_application_29 rfl ?_
        refine V_goto (tgt := 34) dX11_application_30 (by decide) ?_
        exact V_top (vi (by omega)) (j34 _)
    · refine V_iconst (v := iI (1)) dX11_application_13 rfl ?_
      refine V_goto (tgt := 34) dX11_application_14 (by decide) ?_
      exact V_top (vi (by omega)) (j34 _)

set_option maxRecDepth 100000 in
set_option maxHeartbeats 4000000 in
theorem r_packet (l : Launch) (M0 : ME) (r : Nat) (ρ π : Int → Int) (sv rf hs : Int) (i : Int) (hi : -2147483648 ≤ i ∧ i < 2147483648) (w : Int) (hw : -2147483648 ≤ w ∧ w < 2147483648) (hP : 0 ≤ ρ 4503 ∧ ρ 4503 ≤ 30) (e : Int) (he : (¬ (0 ≤ i ∧ i ≤ ρ 4503 - 1) ∧ e = 1) ∨ ((0 ≤ i ∧ i ≤ ρ 4503 - 1) ∧ ¬ (0 ≤ w ∧ w ≤ 4) ∧ e = 2) ∨ ((0 ≤ i ∧ i ≤ ρ 4503 - 1) ∧ (0 ≤ w ∧ w ≤ 4) ∧ e = 0)) : CP l yX11_packet cX11_packet 3 (some .int) (rmN 7) [.ref r, .int (iI i), .int (iI w)] (rM M0 r ρ π sv rf hs) (fun v M' => (0 < e ∧ v = some (.int (iI 0)) ∧ M' = rM M0 r ρ π sv e hs) ∨ (e = 0 ∧ v = some (.int (iI (ρ (4504 + 260 * i + w)))) ∧ M' = rM M0 r ρ π sv e hs)) := by
  refine CP.of (L0 := [some _, some _, some _]) (by decide +kernel) rfl rfl (Nat.le_of_ble_eq_true rfl) rfl (fun G A Q sz hQ => ?_)
  refine V_aload_n dX11_packet_0 rfl ?_
  refine V_tern (J := 30) (v := .int (iI e)) (fun sz => ?_) (fun j30 => ?_)
  · refine V_cV (vs := [_]) (r_refused l _ _ _ _ _ _ _ e (by omega)) mX11_30 coX11_refused dX11_packet_30 rM_0 rfl rfl rfl (by decide) (Nat.le_of_ble_eq_true rfl) (Nat.le_of_ble_eq_true rfl) (Nat.le_of_ble_eq_true rfl) (fun sz => ?_)
    obtain ⟨be, hbe, ebe⟩ := ex_if (p := 0 < e)
    rw [ebe]
    refine I_if_eq (tgt := 40) dX11_packet_33 (by decide) ⟨by omega, by omega⟩ (fun h33 => ?_) (fun h33 => ?_)
    · refine V_aload_n dX11_packet_40 rfl ?_
      refine V_getf fX11_7 dX11_packet_41 rM_0 rfl ?_
      refine V_sipush (v := iI (4504)) dX11_packet_44 (by decide +kernel) ?_
      refine V_sipush (v := iI (260)) dX11_packet_47 (by decide +kernel) ?_
      refine V_iload_n dX11_packet_50 rfl ?_
      refine I_imul dX11_packet_51 ?_
      refine I_iadd dX11_packet_52 ?_
      refine V_iload_n dX11_packet_53 rfl ?_
      refine I_iadd dX11_packet_54 ?_
      refine R_iald dX11_packet_55 ⟨by omega, by omega⟩ ?_
      exact V_ireti dX11_packet_56 rfl (Nat.le_of_ble_eq_true rfl) (Nat.le_of_ble_eq_true rfl) (hQ _ _ _ (by first | exact Or.inl ⟨by omega, rfl, rfl⟩ | exact Or.inr ⟨by omega, rfl, rfl⟩))
    · refine V_iconst (v := iI (0)) dX11_packet_36 rfl ?_
      refine V_goto (tgt := 56) dX11_packet_37 (by decide) ?_
      exact V_ireti dX11_packet_56 rfl (Nat.le_of_ble_eq_true rfl) (Nat.le_of_ble_eq_true rfl) (hQ _ _ _ (by first | exact Or.inl ⟨by omega, rfl, rfl⟩ | exact Or.inr ⟨by omega, rfl, rfl⟩))
  · refine V_aload_n dX11_packet_1 rfl ?_
    refine V_iload_n dX11_packet_2 rfl ?_
    refine V_cV (vs := [_]) (r_isPacket l _ _ ρ _ _ _ _ i (by omega) hP) mX11_171 coX11_isPacket dX11_packet_3 rM_0 rfl rfl rfl (by decide) (Nat.le_of_ble_eq_true rfl) (Nat.le_of_ble_eq_true rfl) (Nat.le_of_ble_eq_true rfl) (fun sz => ?_)
    obtain ⟨bi, hbi, ebi⟩ := ex_if (p := 0 ≤ i ∧ i ≤ ρ 4503 - 1)
    rw [ebi]
    refine I_if_ne (tgt := 13) dX11_packet_6 (by decide) ⟨by omega, by omega⟩ (fun h6 => ?_) (fun h6 => ?_)
    · refine V_iload_n dX11_packet_13 rfl ?_
      refine I_i2l dX11_packet_14 ⟨by omega, by omega⟩ ?_
      refine V_lconst (v := lI 0) dX11_packet_15 rfl ?_
      refine V_ldc2 (v := lI (4)) dX11_packet_16 (kL (by decide +kernel) kX11_174) ?_
      refine V_cS (vs := [_, _, _]) (r_within l _ w (0) (4) ⟨by omega, by omega⟩ ⟨by omega, by omega⟩ ⟨by omega, by omega⟩) mX11_23 coX11_within dX11_packet_19 rfl rfl (by decide) (Nat.le_of_ble_eq_true rfl) (Nat.le_of_ble_eq_true rfl) (Nat.le_of_ble_eq_true rfl) (fun sz => ?_)
      obtain ⟨bw, hbw, ebw⟩ := ex_if (p := 0 ≤ w ∧ w ≤ 4)
      rw [ebw]
      refine I_if_eq (tgt := 29) dX11_packet_22 (by decide) ⟨by omega, by omega⟩ (fun h22 => ?_) (fun h22 => ?_)
      · refine V_iconst (v := iI (2)) dX11_packet_29 rfl ?_
        exact V_top (vi (by omega)) (j30 _)
      · refine V_iconst (v := iI (0)) dX11_packet_25 rfl ?_
        refine V_goto (tgt := 30) dX11_packet_26 (by decide) ?_
        exact V_top (vi (by omega)) (j30 _)
    · refine V_iconst (v := iI (1)) dX11_packet_9 rfl ?_
      refine V_goto (tgt := 30) dX11_packet_10 (by decide) ?_
      exact V_top (vi (by omega)) (j30 _)

set_option maxRecDepth 100000 in
set_option maxHeartbeats 4000000 in
theorem r_packetByte (l : Launch) (M0 : ME) (r : Nat) (ρ π : Int → Int) (sv rf hs : Int) (i : Int) (hi : -2147483648 ≤ i ∧ i < 2147483648) (w : Int) (hw : -2147483648 ≤ w ∧ w < 2147483648) (hP : 0 ≤ ρ 4503 ∧ ρ 4503 ≤ 30) (hL : ∀ i, 0 ≤ i → i < ρ 4503 → 0 ≤ ρ (4504 + 260 * i + 3) ∧ ρ (4504 + 260 * i + 3) ≤ 255) (e : Int) (he : (¬ ((0 ≤ i ∧ i ≤ ρ 4503 - 1) ∧ (0 ≤ w ∧ w ≤ ρ (4504 + 260 * i + 3) - 1)) ∧ e = 1) ∨ (((0 ≤ i ∧ i ≤ ρ 4503 - 1) ∧ (0 ≤ w ∧ w ≤ ρ (4504 + 260 * i + 3) - 1)) ∧ e = 0)) : CP l yX11_packetByte cX11_packetByte 4 (some .int) (rmN 7) [.ref r, .int (iI i), .int (iI w)] (rM M0 r ρ π sv rf hs) (fun v M' => (0 < e ∧ v = some (.int (iI 0)) ∧ M' = rM M0 r ρ π sv e hs) ∨ (e = 0 ∧ v = some (.int (iI (ρ (4504 + 260 * i + 5 + w)))) ∧ M' = rM M0 r ρ π sv e hs)) := by
  refine CP.of (L0 := [some _, some _, some _, none]) (by decide +kernel) rfl rfl (Nat.le_of_ble_eq_true rfl) rfl (fun G A Q sz hQ => ?_)
  refine V_tern (J := 41) (v := .int (iI (if (0 ≤ i ∧ i ≤ ρ 4503 - 1) ∧ (0 ≤ w ∧ w ≤ ρ (4504 + 260 * i + 3) - 1) then 1 else 0))) (fun sz => ?_) (fun j41 => ?_)
  · obtain ⟨x, hx, ex⟩ := ex_if (p := (0 ≤ i ∧ i ≤ ρ 4503 - 1) ∧ (0 ≤ w ∧ w ≤ ρ (4504 + 260 * i + 3) - 1))
    rw [ex]
    refine V_istore_n (L' := [some _, some _, some _, some _]) dX11_packetByte_41 rfl (by decide) rfl ?_
    refine V_aload_n dX11_packetByte_42 rfl ?_
    refine V_tern (J := 52) (v := .int (iI e)) (fun sz => ?_) (fun j52 => ?_)
    · refine V_cV (vs := [_]) (r_refused l _ _ _ _ _ _ _ e (by omega)) mX11_30 coX11_refused dX11_packetByte_52 rM_0 rfl rfl rfl (by decide) (Nat.le_of_ble_eq_true rfl) (Nat.le_of_ble_eq_true rfl) (Nat.le_of_ble_eq_true rfl) (fun sz => ?_)
      obtain ⟨be, hbe, ebe⟩ := ex_if (p := 0 < e)
      rw [ebe]
      refine I_if_eq (tgt := 62) dX11_packetByte_55 (by decide) ⟨by omega, by omega⟩ (fun h55 => ?_) (fun h55 => ?_)
      · have hLi := hL i (by omega) (by omega)
        refine V_aload_n dX11_packetByte_62 rfl ?_
        refine V_getf fX11_7 dX11_packetByte_63 rM_0 rfl ?_
        refine V_sipush (v := iI (4504)) dX11_packetByte_66 (by decide +kernel) ?_
        refine V_sipush (v := iI (260)) dX11_packetByte_69 (by decide +kernel) ?_
        refine V_iload_n dX11_packetByte_72 rfl ?_
        refine I_imul dX11_packetByte_73 ?_
        refine I_iadd dX11_packetByte_74 ?_
        refine V_iconst (v := iI (5)) dX11_packetByte_75 rfl ?_
        refine I_iadd dX11_packetByte_76 ?_
        refine V_iload_n dX11_packetByte_77 rfl ?_
        refine I_iadd dX11_packetByte_78 ?_
        refine R_iald dX11_packetByte_79 ⟨by omega, by omega⟩ ?_
        exact V_ireti dX11_packetByte_80 rfl (Nat.le_of_ble_eq_true rfl) (Nat.le_of_ble_eq_true rfl) (hQ _ _ _ (by first | exact Or.inl ⟨by omega, rfl, rfl⟩ | exact Or.inr ⟨by omega, rfl, rfl⟩))
      · refine V_iconst (v := iI (0)) dX11_packetByte_58 rfl ?_
        refine V_goto (tgt := 80) dX11_packetByte_59 (by decide) ?_
        exact V_ireti dX11_packetByte_80 rfl (Nat.le_of_ble_eq_true rfl) (Nat.le_of_ble_eq_true rfl) (hQ _ _ _ (by first | exact Or.inl ⟨by omega, rfl, rfl⟩ | exact Or.inr ⟨by omega, rfl, rfl⟩))
    · refine V_iload_n dX11_packetByte_43 rfl ?_
      refine I_if_eq (tgt := 51) dX11_packetByte_44 (by decide) ⟨by omega, by omega⟩ (fun h44 => ?_) (fun h44 => ?_)
      · refine V_iconst (v := iI (1)) dX11_packetByte_51 rfl ?_
        exact V_top (vi (by omega)) (j52 _)
      · refine V_iconst (v := iI (0)) dX11_packetByte_47 rfl ?_
        refine V_goto (tgt := 52) dX11_packetByte_48 (by decide) ?_
        exact V_top (vi (by omega)) (j52 _)
  · refine V_aload_n dX11_packetByte_0 rfl ?_
    refine V_iload_n dX11_packetByte_1 rfl ?_
    refine V_cV (vs := [_]) (r_isPacket l _ _ ρ _ _ _ _ i (by omega) hP) mX11_171 coX11_isPacket dX11_packetByte_2 rM_0 rfl rfl rfl (by decide) (Nat.le_of_ble_eq_true rfl) (Nat.le_of_ble_eq_true rfl) (Nat.le_of_ble_eq_true rfl) (fun sz => ?_)
    obtain ⟨bi, hbi, ebi⟩ := ex_if (p := 0 ≤ i ∧ i ≤ ρ 4503 - 1)
    rw [ebi]
    refine I_if_eq (tgt := 40) dX11_packetByte_5 (by decide) ⟨by omega, by omega⟩ (fun h5 => ?_) (fun h5 => ?_)
    · refine V_iconst (v := iI (0)) dX11_packetByte_40 rfl ?_
      exact V_top (vi (by first | exact if1 (by omega) | exact if0 (by omega))) (j41 _)
    · have hLi := hL i (by omega) (by omega)
      refine V_iload_n dX11_packetByte_8 rfl ?_
      refine I_i2l dX11_packetByte_9 ⟨by omega, by omega⟩ ?_
      refine V_lconst (v := lI 0) dX11_packetByte_10 rfl ?_
      refine V_aload_n dX11_packetByte_11 rfl ?_
      refine V_getf fX11_7 dX11_packetByte_12 rM_0 rfl ?_
      refine V_sipush (v := iI (4504)) dX11_packetByte_15 (by decide +kernel) ?_
      refine V_sipush (v := iI (260)) dX11_packetByte_18 (by decide +kernel) ?_
      refine V_iload_n dX11_packetByte_21 rfl ?_
      refine I_imul dX11_packetByte_22 ?_
      refine I_iadd dX11_packetByte_23 ?_
      refine V_iconst (v := iI (3)) dX11_packetByte_24 rfl ?_
      refine I_iadd dX11_packetByte_25 ?_
      refine R_iald dX11_packetByte_26 ⟨by omega, by omega⟩ ?_
      refine V_iconst (v := iI (1)) dX11_packetByte_27 rfl ?_
      refine I_isub dX11_packetByte_28 ?_
      refine I_i2l dX11_packetByte_29 ⟨by omega, by omega⟩ ?_
      refine V_cS (vs := [_, _, _]) (r_within l _ w 0 (ρ (4504 + 260 * i + 3) - 1) ⟨by omega, by omega⟩ ⟨by omega, by omega⟩ ⟨by omega, by omega⟩) mX11_23 coX11_within dX11_packetByte_30 rfl rfl (by decide) (Nat.le_of_ble_eq_true rfl) (Nat.le_of_ble_eq_true rfl) (Nat.le_of_ble_eq_true rfl) (fun sz => ?_)
      obtain ⟨bw, hbw, ebw⟩ := ex_if (p := 0 ≤ w ∧ w ≤ ρ (4504 + 260 * i + 3) - 1)
      rw [ebw]
      refine I_if_eq (tgt := 40) dX11_packetByte_33 (by decide) ⟨by omega, by omega⟩ (fun h33 => ?_) (fun h33 => ?_)
      · refine V_iconst (v := iI (0)) dX11_packetByte_40 rfl ?_
        exact V_top (vi (by first | exact if1 (by omega) | exact if0 (by omega))) (j41 _)
      · refine V_iconst (v := iI (1)) dX11_packetByte_36 rfl ?_
        refine V_goto (tgt := 41) dX11_packetByte_37 (by decide) ?_
        exact V_top (vi (by first | exact if1 (by omega) | exact if0 (by omega))) (j41 _)

/-- the time on the ground for a clock value -/
def rgt (ρ : Int → Int) (x : Int) : Int := ρ 12308 + fdv ((x - ρ 12307) * (ρ 12308 - ρ 12306)) (ρ 12307 - ρ 12305)
/-- the time pairs -/
def Tp (ρ : Int → Int) : Prop := (0 ≤ ρ 12304 ∧ ρ 12304 ≤ 2) ∧ ∀ k, 12305 ≤ k → k ≤ 12308 → -200000000 ≤ ρ k ∧ ρ k ≤ 200000000

set_option maxRecDepth 100000 in
set_option maxHeartbeats 4000000 in
theorem r_groundTime (l : Launch) (M0 : ME) (r : Nat) (ρ π : Int → Int) (sv rf hs : Int) (x : Int) (hx : r64 x) (hT : Tp ρ) (e : Int) (he : (¬ (-1000000000 ≤ x ∧ x ≤ 1000000000) ∧ e = 1) ∨ ((-1000000000 ≤ x ∧ x ≤ 1000000000) ∧ (ρ 12304 < 2 ∨ ρ 12305 = ρ 12307) ∧ e = 2) ∨ ((-1000000000 ≤ x ∧ x ≤ 1000000000) ∧ ¬ (ρ 12304 < 2 ∨ ρ 12305 = ρ 12307) ∧ e = 0)) : CP l yX11_groundTime cX11_groundTime 5 (some .long) (rmN 7) [.ref r, .long (lI x)] (rM M0 r ρ π sv rf hs) (fun v M' => (0 < e ∧ v = some (.long (lI 0)) ∧ M' = rM M0 r ρ π sv e hs) ∨ (e = 0 ∧ v = some (.long (lI (rgt ρ x))) ∧ M' = rM M0 r ρ π sv e hs)) := by
  obtain ⟨hT0, hT1⟩ := hT
  have t5 := hT1 12305 (by omega) (by omega)
  have t6 := hT1 12306 (by omega) (by omega)
  have t7 := hT1 12307 (by omega) (by omega)
  have t8 := hT1 12308 (by omega) (by omega)
  refine CP.of (L0 := [some _, some _, none, none, none]) (by decide +kernel) rfl rfl (Nat.le_of_ble_eq_true rfl) rfl (fun G A Q sz hQ => ?_)
  refine V_aload_n dX11_groundTime_0 rfl ?_
  refine V_tern (J := 54) (v := .int (iI e)) (fun sz => ?_) (fun j54 => ?_)
  · refine V_cV (vs := [_]) (r_refused l _ _ _ _ _ _ _ e (by omega)) mX11_30 coX11_refused dX11_groundTime_54 rM_0 rfl rfl rfl (by decide) (Nat.le_of_ble_eq_true rfl) (Nat.le_of_ble_eq_true rfl) (Nat.le_of_ble_eq_true rfl) (fun sz => ?_)
    obtain ⟨be, hbe, ebe⟩ := ex_if (p := 0 < e)
    rw [ebe]
    refine I_if_eq (tgt := 62) dX11_groundTime_57 (by decide) ⟨by omega, by omega⟩ (fun h57 => ?_) (fun h57 => ?_)
    · refine V_lload_n dX11_groundTime_62 rfl ?_
      refine V_aload_n dX11_groundTime_63 rfl ?_
      refine V_getf fX11_7 dX11_groundTime_64 rM_0 rfl ?_
      refine V_sipush (v := iI (12307)) dX11_groundTime_67 (by decide +kernel) ?_
      refine R_iald dX11_groundTime_70 ⟨by omega, by omega⟩ ?_
      refine I_i2l dX11_groundTime_71 ⟨by omega, by omega⟩ ?_
      refine I_lsub dX11_groundTime_72 ?_
      refine V_aload_n dX11_groundTime_73 rfl ?_
      refine V_getf fX11_7 dX11_groundTime_74 rM_0 rfl ?_
      refine V_sipush (v := iI (12308)) dX11_groundTime_77 (by decide +kernel) ?_
      refine R_iald dX11_groundTime_80 ⟨by omega, by omega⟩ ?_
      refine V_aload_n dX11_groundTime_81 rfl ?_
      refine V_getf fX11_7 dX11_groundTime_82 rM_0 rfl ?_
      refine V_sipush (v := iI (12306)) dX11_groundTime_85 (by decide +kernel) ?_
      refine R_iald dX11_groundTime_88 ⟨by omega, by omega⟩ ?_
      refine I_isub dX11_groundTime_89 ?_
      refine I_i2l dX11_groundTime_90 ⟨by omega, by omega⟩ ?_
      refine I_lmul dX11_groundTime_91 ?_
      have hm := mul_b (a := x - ρ 12307) (b := ρ 12308 - ρ 12306) (m := 1200000000) (n := 400000000) (by omega) (by omega)
      refine V_lstore_n (L' := [some _, some _, none, some _, none]) dX11_groundTime_92 rfl (by decide) rfl ?_
      refine V_aload_n dX11_groundTime_93 rfl ?_
      refine V_getf fX11_7 dX11_groundTime_94 rM_0 rfl ?_
      refine V_sipush (v := iI (12308)) dX11_groundTime_97 (by decide +kernel) ?_
      refine R_iald dX11_groundTime_100 ⟨by omega, by omega⟩ ?_
      refine I_i2l dX11_groundTime_101 ⟨by omega, by omega⟩ ?_
      refine V_lload_n dX11_groundTime_102 rfl ?_
      refine V_aload_n dX11_groundTime_103 rfl ?_
      refine V_getf fX11_7 dX11_groundTime_104 rM_0 rfl ?_
      refine V_sipush (v := iI (12307)) dX11_groundTime_107 (by decide +kernel) ?_
      refine R_iald dX11_groundTime_110 ⟨by omega, by omega⟩ ?_
      refine V_aload_n dX11_groundTime_111 rfl ?_
      refine V_getf fX11_7 dX11_groundTime_112 rM_0 rfl ?_
      refine V_sipush (v := iI (12305)) dX11_groundTime_115 (by decide +kernel) ?_
      refine R_iald dX11_groundTime_118 ⟨by omega, by omega⟩ ?_
      refine I_isub dX11_groundTime_119 ?_
      refine I_i2l dX11_groundTime_120 ⟨by omega, by omega⟩ ?_
      refine V_cS (vs := [_, _]) (r_floor l _ ((x - ρ 12307) * (ρ 12308 - ρ 12306)) (ρ 12307 - ρ 12305) (by omega) (by omega) (by omega)) mX11_110 coX11_floor dX11_groundTime_121 rfl rfl (by decide) (Nat.le_of_ble_eq_true rfl) (Nat.le_of_ble_eq_true rfl) (Nat.le_of_ble_eq_true rfl) (fun sz => ?_)
      refine I_ladd dX11_groundTime_124 ?_
      exact V_lret dX11_groundTime_125 rfl (Nat.le_of_ble_eq_true rfl) (Nat.le_of_ble_eq_true rfl) (hQ _ _ _ (Or.inr ⟨by omega, rfl, rfl⟩))
    · refine V_lconst (v := lI 0) dX11_groundTime_60 rfl ?_
      exact V_lret dX11_groundTime_61 rfl (Nat.le_of_ble_eq_true rfl) (Nat.le_of_ble_eq_true rfl) (hQ _ _ _ (Or.inl ⟨by omega, rfl, rfl⟩))
  · refine V_lload_n dX11_groundTime_1 rfl ?_
    refine V_ldc2 (v := lI (-1000000000)) dX11_groundTime_2 (kL (by decide +kernel) kX11_176) ?_
    refine V_ldc2 (v := lI (1000000000)) dX11_groundTime_5 (kL (by decide +kernel) kX11_178) ?_
    refine V_cS (vs := [_, _, _]) (r_within l _ x (-1000000000) 1000000000 hx ⟨by omega, by omega⟩ ⟨by omega, by omega⟩) mX11_23 coX11_within dX11_groundTime_8 rfl rfl (by decide) (Nat.le_of_ble_eq_true rfl) (Nat.le_of_ble_eq_true rfl) (Nat.le_of_ble_eq_true rfl) (fun sz => ?_)
    obtain ⟨bx, hbx, ebx⟩ := ex_if (p := -1000000000 ≤ x ∧ x ≤ 1000000000)
    rw [ebx]
    refine I_if_ne (tgt := 18) dX11_groundTime_11 (by decide) ⟨by omega, by omega⟩ (fun h11 => ?_) (fun h11 => ?_)
    · refine V_aload_n dX11_groundTime_18 rfl ?_
      refine V_getf fX11_7 dX11_groundTime_19 rM_0 rfl ?_
      refine V_sipush (v := iI (12304)) dX11_groundTime_22 (by decide +kernel) ?_
      refine R_iald dX11_groundTime_25 ⟨by omega, by omega⟩ ?_
      refine V_iconst (v := iI (2)) dX11_groundTime_26 rfl ?_
      refine I_icmp_lt (tgt := 49) dX11_groundTime_27 (by decide) ⟨by omega, by omega⟩ ⟨by omega, by omega⟩ (fun h27 => ?_) (fun h27 => ?_)
      · refine V_iconst (v := iI (2)) dX11_groundTime_49 rfl ?_
        refine V_goto (tgt := 54) dX11_groundTime_50 (by decide) ?_
        exact V_top (vi (by omega)) (j54 _)
      · refine V_aload_n dX11_groundTime_30 rfl ?_
        refine V_getf fX11_7 dX11_groundTime_31 rM_0 rfl ?_
        refine V_sipush (v := iI (12305)) dX11_groundTime_34 (by decide +kernel) ?_
        refine R_iald dX11_groundTime_37 ⟨by omega, by omega⟩ ?_
        refine V_aload_n dX11_groundTime_38 rfl ?_
        refine V_getf fX11_7 dX11_groundTime_39 rM_0 rfl ?_
        refine V_sipush (v := iI (12307)) dX11_groundTime_42 (by decide +kernel) ?_
        refine R_iald dX11_groundTime_45 ⟨by omega, by omega⟩ ?_
        refine I_icmp_ne (tgt := 53) dX11_groundTime_46 (by decide) ⟨by omega, by omega⟩ ⟨by omega, by omega⟩ (fun h46 => ?_) (fun h46 => ?_)
        · refine V_iconst (v := iI (0)) dX11_groundTime_53 rfl ?_
          exact V_top (vi (by omega)) (j54 _)
        · refine V_iconst (v := iI (2)) dX11_groundTime_49 rfl ?_
          refine V_goto (tgt := 54) dX11_groundTime_50 (by decide) ?_
          exact V_top (vi (by omega)) (j54 _)
    · refine V_iconst (v := iI (1)) dX11_groundTime_14 rfl ?_
      refine V_goto (tgt := 54) dX11_groundTime_15 (by decide) ?_
      exact V_top (vi (by omega)) (j54 _)
