set_option maxRecDepth 100000 in
set_option maxHeartbeats 4000000 in
theorem r_within (l : Launch) (M : ME) (a b c : Int) (ha : r64 a) (hb : r64 b) (hc : r64 c) : CF l yX11_within cX11_within 6 (some .boolean) (rmN 1) [.long (lI a), .long (lI b), .long (lI c)] M (some (.int (iI (if b ≤ a ∧ a ≤ c then 1 else 0)))) M := by
  refine CF.of (L0 := [some _, none, some _, none, some _, none]) (by decide +kernel) rfl rfl (Nat.le_of_ble_eq_true rfl) rfl (fun G A Q sz hQ => ?_)
  refine V_lload_n dX11_within_0 rfl ?_
  refine V_lload_n dX11_within_1 rfl ?_
  refine I_lc_lt (tgt := 17) dX11_within_2 dX11_within_3 (by decide) (by assumption) (by assumption) (fun h2 => ?_) (fun h2 => ?_)
  · refine V_iconst (v := iI (0)) dX11_within_17 rfl ?_
    exact V_zret dX11_within_18 rfl (by first | rfl | decide) (Nat.le_of_ble_eq_true rfl) (Nat.le_of_ble_eq_true rfl) (hQ _ _ _ (iv (by first | exact if1 (by omega) | exact if0 (by omega))) rfl)
  · refine V_lload_n dX11_within_6 rfl ?_
    refine V_lload dX11_within_7 rfl ?_
    refine I_lc_gt (tgt := 17) dX11_within_9 dX11_within_10 (by decide) (by assumption) (by assumption) (fun h9 => ?_) (fun h9 => ?_)
    · refine V_iconst (v := iI (0)) dX11_within_17 rfl ?_
      exact V_zret dX11_within_18 rfl (by first | rfl | decide) (Nat.le_of_ble_eq_true rfl) (Nat.le_of_ble_eq_true rfl) (hQ _ _ _ (iv (by first | exact if1 (by omega) | exact if0 (by omega))) rfl)
    · refine V_iconst (v := iI (1)) dX11_within_13 rfl ?_
      refine V_goto (tgt := 18) dX11_within_14 (by decide) ?_
      exact V_zret dX11_within_18 rfl (by first | rfl | decide) (Nat.le_of_ble_eq_true rfl) (Nat.le_of_ble_eq_true rfl) (hQ _ _ _ (iv (by first | exact if1 (by omega) | exact if0 (by omega))) rfl)

set_option maxRecDepth 100000 in
set_option maxHeartbeats 4000000 in
theorem r_refused (l : Launch) (M0 : ME) (r : Nat) (ρ π : Int → Int) (sv rf hs : Int) (w : Int) (hw : 0 ≤ w ∧ w ≤ 3) : CF l yX11_refused cX11_refused 2 (some .boolean) (rmN 1) [.ref r, .int (iI w)] (rM M0 r ρ π sv rf hs) (some (.int (iI (if 0 < w then 1 else 0)))) (rM M0 r ρ π sv w hs) := by
  refine CF.of (L0 := [some _, some _]) (by decide +kernel) rfl rfl (Nat.le_of_ble_eq_true rfl) rfl (fun G A Q sz hQ => ?_)
  refine V_aload_n dX11_refused_0 rfl ?_
  refine V_iload_n dX11_refused_1 rfl ?_
  refine R_putrf fX11_17 dX11_refused_2 ?_
  refine V_iload_n dX11_refused_5 rfl ?_
  refine I_if_le (tgt := 13) dX11_refused_6 (by decide) ⟨by omega, by omega⟩ (fun h6 => ?_) (fun h6 => ?_)
  · refine V_iconst (v := iI (0)) dX11_refused_13 rfl ?_
    exact V_zret dX11_refused_14 rfl (by first | rfl | decide) (Nat.le_of_ble_eq_true rfl) (Nat.le_of_ble_eq_true rfl) (hQ _ _ _ (iv (by first | exact if1 (by omega) | exact if0 (by omega))) rfl)
  · refine V_iconst (v := iI (1)) dX11_refused_9 rfl ?_
    refine V_goto (tgt := 14) dX11_refused_10 (by decide) ?_
    exact V_zret dX11_refused_14 rfl (by first | rfl | decide) (Nat.le_of_ble_eq_true rfl) (Nat.le_of_ble_eq_true rfl) (hQ _ _ _ (iv (by first | exact if1 (by omega) | exact if0 (by omega))) rfl)

set_option maxRecDepth 100000 in
set_option maxHeartbeats 4000000 in
theorem r_isChannel (l : Launch) (M : ME) (c : Int) (hc : r32 c) : CF l yX11_isChannel cX11_isChannel 1 (some .boolean) (rmN 2) [.int (iI c)] M (some (.int (iI (if 0 ≤ c ∧ c ≤ 3 then 1 else 0)))) M := by
  refine CF.of (L0 := [some _]) (by decide +kernel) rfl rfl (Nat.le_of_ble_eq_true rfl) rfl (fun G A Q sz hQ => ?_)
  refine V_iload_n dX11_isChannel_0 rfl ?_
  refine I_i2l dX11_isChannel_1 (by assumption) ?_
  refine V_lconst (v := lI 0) dX11_isChannel_2 rfl ?_
  refine V_ldc2 (v := lI (3)) dX11_isChannel_3 kX11_21 ?_
  refine V_cS (vs := [_, _, _]) (r_within l _ c 0 3 ⟨by have := hc.1; omega, by have := hc.2; omega⟩ ⟨by omega, by omega⟩ ⟨by omega, by omega⟩) mX11_23 coX11_within dX11_isChannel_6 rfl rfl (by decide) (Nat.le_of_ble_eq_true rfl) (Nat.le_of_ble_eq_true rfl) (Nat.le_of_ble_eq_true rfl) (fun sz => ?_)
  exact V_zret dX11_isChannel_9 rfl (by split <;> rfl) (Nat.le_of_ble_eq_true rfl) (Nat.le_of_ble_eq_true rfl) (hQ _ _ _ rfl rfl)

set_option maxRecDepth 100000 in
set_option maxHeartbeats 4000000 in
theorem r_at (l : Launch) (M : ME) (c k : Int) : CF l yX11_at cX11_at 2 (some .int) (rmN 1) [.int (iI c), .int (iI k)] M (some (.int (iI (62 + 80 * c + 5 * k)))) M := by
  refine CF.of (L0 := [some _, some _]) (by decide +kernel) rfl rfl (Nat.le_of_ble_eq_true rfl) rfl (fun G A Q sz hQ => ?_)
  refine V_bipush (v := iI (62)) dX11_at_0 (by decide +kernel) ?_
  refine V_bipush (v := iI (80)) dX11_at_2 (by decide +kernel) ?_
  refine V_iload_n dX11_at_4 rfl ?_
  refine I_imul dX11_at_5 ?_
  refine I_iadd dX11_at_6 ?_
  refine V_iconst (v := iI (5)) dX11_at_7 rfl ?_
  refine V_iload_n dX11_at_8 rfl ?_
  refine I_imul dX11_at_9 ?_
  refine I_iadd dX11_at_10 ?_
  exact V_ireti dX11_at_11 rfl (Nat.le_of_ble_eq_true rfl) (Nat.le_of_ble_eq_true rfl) (hQ _ _ _ rfl rfl)

def psum (ρ : Int → Int) (c : Int) : Nat → Int
  | 0 => 0
  | n + 1 => psum ρ c n + (3 + ρ (62 + 80 * c + 5 * n + 2))
/-- pending bytes -/
def pend (ρ : Int → Int) (c : Int) : Int := -ρ (58 + c) + psum ρ c (ρ (54 + c)).toNat
theorem psum_s {ρ : Int → Int} {c i : Int} (h : 0 ≤ i) : psum ρ c (i + 1).toNat = psum ρ c i.toNat + (3 + ρ (62 + 80 * c + 5 * i + 2)) := by
  rw [show (i + 1).toNat = i.toNat + 1 by omega]
  show psum ρ c i.toNat + (3 + ρ (62 + 80 * c + 5 * (i.toNat : Int) + 2)) = _
  rw [Int.toNat_of_nonneg h]

set_option maxRecDepth 100000 in
set_option maxHeartbeats 4000000 in
theorem r_pending (l : Launch) (M0 : ME) (r : Nat) (ρ π : Int → Int) (sv rf hs : Int) (c : Int) (hc : 0 ≤ c ∧ c ≤ 3) (hm : 0 ≤ ρ (54 + c) ∧ ρ (54 + c) ≤ 15) : CF l yX11_pending cX11_pending 4 (some .int) (rmN 2) [.ref r, .int (iI c)] (rM M0 r ρ π sv rf hs) (some (.int (iI (pend ρ c)))) (rM M0 r ρ π sv rf hs) := by
  refine CF.of (L0 := [some _, some _, none, none]) (by decide +kernel) rfl rfl (Nat.le_of_ble_eq_true rfl) rfl (fun G A Q sz hQ => ?_)
  refine V_aload_n dX11_pending_0 rfl ?_
  refine V_getf fX11_7 dX11_pending_1 rM_0 rfl ?_
  refine V_bipush (v := iI (58)) dX11_pending_4 (by decide +kernel) ?_
  refine V_iload_n dX11_pending_6 rfl ?_
  refine I_iadd dX11_pending_7 ?_
  refine R_iald dX11_pending_8 ⟨by omega, by omega⟩ ?_
  refine I_ineg dX11_pending_9 ?_
  refine V_istore_n (L' := [some _, some _, some _, none]) dX11_pending_10 rfl (by decide) rfl ?_
  refine V_iconst (v := iI (0)) dX11_pending_11 rfl ?_
  refine V_istore_n (L' := [some _, some _, some _, some _]) dX11_pending_12 rfl (by decide) rfl ?_
  have key13 : ∀ (d : Nat) (i : Int) (sz : Nat), 0 ≤ i ∧ i ≤ ρ (54 + c) → (ρ (54 + c) - i).toNat = d → V l G A (rmN 2) RX11 "pending" cX11_pending 4 (some .int) Q nX 0 0 (rM M0 r ρ π sv rf hs) sz 13 [some (.ref r), some (.int (iI c)), some (.int (iI (-ρ (58 + c) + psum ρ c i.toNat))), some (.int (iI i))] [] := by
    intro d
    induction d using Nat.strongRecOn with
    | ind d ih13 =>
      intro i  sz hi hd13
      refine V_iload_n dX11_pending_13 rfl ?_
      refine V_aload_n dX11_pending_14 rfl ?_
      refine V_getf fX11_7 dX11_pending_15 rM_0 rfl ?_
      refine V_bipush (v := iI (54)) dX11_pending_18 (by decide +kernel) ?_
      refine V_iload_n dX11_pending_20 rfl ?_
      refine I_iadd dX11_pending_21 ?_
      refine R_iald dX11_pending_22 ⟨by omega, by omega⟩ ?_
      refine I_icmp_ge (tgt := 49) dX11_pending_23 (by decide) ⟨by omega, by omega⟩ ⟨by omega, by omega⟩ (fun h23 => ?_) (fun h23 => ?_)
      · refine V_iload_n dX11_pending_49 rfl ?_
        exact V_ireti dX11_pending_50 rfl (Nat.le_of_ble_eq_true rfl) (Nat.le_of_ble_eq_true rfl) (hQ _ _ _ (iv (by show _ = -ρ (58 + c) + psum ρ c (ρ (54 + c)).toNat; rw [show i = ρ (54 + c) by omega])) rfl)
      · refine V_iload_n dX11_pending_26 rfl ?_
        refine V_iconst (v := iI (3)) dX11_pending_27 rfl ?_
        refine V_aload_n dX11_pending_28 rfl ?_
        refine V_getf fX11_7 dX11_pending_29 rM_0 rfl ?_
        refine V_iload_n dX11_pending_32 rfl ?_
        refine V_iload_n dX11_pending_33 rfl ?_
        refine V_cS (vs := [_, _]) (r_at l _ c i) mX11_34 coX11_at dX11_pending_34 rfl rfl (by decide) (Nat.le_of_ble_eq_true rfl) (Nat.le_of_ble_eq_true rfl) (Nat.le_of_ble_eq_true rfl) (fun sz => ?_)
        refine V_iconst (v := iI (2)) dX11_pending_37 rfl ?_
        refine I_iadd dX11_pending_38 ?_
        refine R_iald dX11_pending_39 ⟨by omega, by omega⟩ ?_
        refine I_iadd dX11_pending_40 ?_
        refine I_iadd dX11_pending_41 ?_
        refine V_istore_n (L' := [some _, some _, some _, some _]) dX11_pending_42 rfl (by decide) rfl ?_
        refine I_iinc (L' := [some _, some _, some _, some _]) dX11_pending_43 rfl (by decide) rfl ?_
        refine V_goto (tgt := 13) dX11_pending_46 (by decide) ?_
        exact V_wk' (ih13 _ (by omega) (i + 1) sz ⟨by omega, by omega⟩ rfl) ⟨rfl, rfl, (vi (by rw [psum_s hi.1]; omega)), rfl, trivial⟩
  exact V_wk' (key13 _ 0 sz ⟨by omega, by omega⟩ rfl) ⟨rfl, rfl, (vi (by show -ρ (58 + c) + 0 = _; omega)), rfl, trivial⟩

def pcnt (ρ : Int → Int) (c : Int) : Nat → Int
  | 0 => 0
  | n + 1 => pcnt ρ c n + (if ρ (62 + 80 * c + 5 * n) < 15 then 1 else 0)
/-- packets in the queue that are not idle -/
def pin (ρ : Int → Int) (c : Int) : Int := pcnt ρ c (ρ (54 + c)).toNat
theorem pcnt_s {ρ : Int → Int} {c i : Int} (h : 0 ≤ i) : pcnt ρ c (i + 1).toNat = pcnt ρ c i.toNat + (if ρ (62 + 80 * c + 5 * i) < 15 then 1 else 0) := by
  rw [show (i + 1).toNat = i.toNat + 1 by omega]
  show pcnt ρ c i.toNat + (if ρ (62 + 80 * c + 5 * (i.toNat : Int)) < 15 then 1 else 0) = _
  rw [Int.toNat_of_nonneg h]

set_option maxRecDepth 100000 in
set_option maxHeartbeats 4000000 in
theorem r_packetsIn (l : Launch) (M0 : ME) (r : Nat) (ρ π : Int → Int) (sv rf hs : Int) (c : Int) (hc : 0 ≤ c ∧ c ≤ 3) (hm : 0 ≤ ρ (54 + c) ∧ ρ (54 + c) ≤ 15) (ha : ∀ i, 0 ≤ i → i < ρ (54 + c) → r32 (ρ (62 + 80 * c + 5 * i))) : CF l yX11_packetsIn cX11_packetsIn 4 (some .int) (rmN 2) [.ref r, .int (iI c)] (rM M0 r ρ π sv rf hs) (some (.int (iI (pin ρ c)))) (rM M0 r ρ π sv rf hs) := by
  refine CF.of (L0 := [some _, some _, none, none]) (by decide +kernel) rfl rfl (Nat.le_of_ble_eq_true rfl) rfl (fun G A Q sz hQ => ?_)
  refine V_iconst (v := iI (0)) dX11_packetsIn_0 rfl ?_
  refine V_istore_n (L' := [some _, some _, some _, none]) dX11_packetsIn_1 rfl (by decide) rfl ?_
  refine V_iconst (v := iI (0)) dX11_packetsIn_2 rfl ?_
  refine V_istore_n (L' := [some _, some _, some _, some _]) dX11_packetsIn_3 rfl (by decide) rfl ?_
  have key4 : ∀ (d : Nat) (i : Int) (sz : Nat), 0 ≤ i ∧ i ≤ ρ (54 + c) → (ρ (54 + c) - i).toNat = d → V l G A (rmN 2) RX11 "packetsIn" cX11_packetsIn 4 (some .int) Q nX 0 0 (rM M0 r ρ π sv rf hs) sz 4 [some (.ref r), some (.int (iI c)), some (.int (iI (pcnt ρ c i.toNat))), some (.int (iI i))] [] := by
    intro d
    induction d using Nat.strongRecOn with
    | ind d ih4 =>
      intro i  sz hi hd4
      refine V_iload_n dX11_packetsIn_4 rfl ?_
      refine V_aload_n dX11_packetsIn_5 rfl ?_
      refine V_getf fX11_7 dX11_packetsIn_6 rM_0 rfl ?_
      refine V_bipush (v := iI (54)) dX11_packetsIn_9 (by decide +kernel) ?_
      refine V_iload_n dX11_packetsIn_11 rfl ?_
      refine I_iadd dX11_packetsIn_12 ?_
      refine R_iald dX11_packetsIn_13 ⟨by omega, by omega⟩ ?_
      refine I_icmp_ge (tgt := 46) dX11_packetsIn_14 (by decide) ⟨by omega, by omega⟩ ⟨by omega, by omega⟩ (fun h14 => ?_) (fun h14 => ?_)
      · refine V_iload_n dX11_packetsIn_46 rfl ?_
        exact V_ireti dX11_packetsIn_47 rfl (Nat.le_of_ble_eq_true rfl) (Nat.le_of_ble_eq_true rfl) (hQ _ _ _ (iv (by unfold pin; rw [show i = ρ (54 + c) by omega])) rfl)
      · refine V_iload_n dX11_packetsIn_17 rfl ?_
        refine V_tern (J := 38) (v := .int (iI (if ρ (62 + 80 * c + 5 * i) < 15 then 1 else 0))) (fun sz => ?_) (fun j38 => ?_)
        · refine I_iadd dX11_packetsIn_38 ?_
          refine V_istore_n (L' := [some _, some _, some _, some _]) dX11_packetsIn_39 rfl (by decide) rfl ?_
          refine I_iinc (L' := [some _, some _, some _, some _]) dX11_packetsIn_40 rfl (by decide) rfl ?_
          refine V_goto (tgt := 4) dX11_packetsIn_43 (by decide) ?_
          exact V_wk' (ih4 _ (by omega) (i + 1) sz ⟨by omega, by omega⟩ rfl) ⟨rfl, rfl, (vi (pcnt_s hi.1)), rfl, trivial⟩
        · refine V_aload_n dX11_packetsIn_18 rfl ?_
          refine V_getf fX11_7 dX11_packetsIn_19 rM_0 rfl ?_
          refine V_iload_n dX11_packetsIn_22 rfl ?_
          refine V_iload_n dX11_packetsIn_23 rfl ?_
          refine V_cS (vs := [_, _]) (r_at l _ c i) mX11_34 coX11_at dX11_packetsIn_24 rfl rfl (by decide) (Nat.le_of_ble_eq_true rfl) (Nat.le_of_ble_eq_true rfl) (Nat.le_of_ble_eq_true rfl) (fun sz => ?_)
          refine R_iald dX11_packetsIn_27 ⟨by omega, by omega⟩ ?_
          refine V_bipush (v := iI (15)) dX11_packetsIn_28 (by decide +kernel) ?_
          refine I_icmp_ge (tgt := 37) dX11_packetsIn_30 (by decide) (ha i hi.1 (by omega)) ⟨by omega, by omega⟩ (fun h30 => ?_) (fun h30 => ?_)
          · refine V_iconst (v := iI (0)) dX11_packetsIn_37 rfl ?_
            exact V_top (vi (by first | exact if1 (by omega) | exact if0 (by omega))) (j38 _)
          · refine V_iconst (v := iI (1)) dX11_packetsIn_33 rfl ?_
            refine V_goto (tgt := 38) dX11_packetsIn_34 (by decide) ?_
            exact V_top (vi (by first | exact if1 (by omega) | exact if0 (by omega))) (j38 _)
  exact V_wk' (key4 _ 0 sz ⟨by omega, by omega⟩ rfl) ⟨rfl, rfl, rfl, rfl, trivial⟩

/-- a packet is put behind a queue -/
def rputs (ρ : Int → Int) (c a q n s : Int) : Int → Int := up (up (up (up (up (up ρ (62 + 80 * c + 5 * ρ (54 + c)) a) (62 + 80 * c + 5 * ρ (54 + c) + 1) q) (62 + 80 * c + 5 * ρ (54 + c) + 2) n) (62 + 80 * c + 5 * ρ (54 + c) + 3) s) (62 + 80 * c + 5 * ρ (54 + c) + 4) (ρ 3)) (54 + c) (ρ (54 + c) + 1)

set_option maxRecDepth 100000 in
set_option maxHeartbeats 4000000 in
theorem r_puts (l : Launch) (M0 : ME) (r : Nat) (ρ π : Int → Int) (sv rf hs : Int) (c : Int) (hc : 0 ≤ c ∧ c ≤ 3) (hm : 0 ≤ ρ (54 + c) ∧ ρ (54 + c) ≤ 15) (a q n s : Int) : CF l yX11_puts cX11_puts 7 none (rmN 2) [.ref r, .int (iI c), .int (iI a), .int (iI q), .int (iI n), .int (iI s)] (rM M0 r ρ π sv rf hs) none (rM M0 r (rputs ρ c a q n s) π sv rf hs) := by
  refine CF.of (L0 := [some _, some _, some _, some _, some _, some _, none]) (by decide +kernel) rfl rfl (Nat.le_of_ble_eq_true rfl) rfl (fun G A Q sz hQ => ?_)
  refine V_iload_n dX11_puts_0 rfl ?_
  refine V_aload_n dX11_puts_1 rfl ?_
  refine V_getf fX11_7 dX11_puts_2 rM_0 rfl ?_
  refine V_bipush (v := iI (54)) dX11_puts_5 (by decide +kernel) ?_
  refine V_iload_n dX11_puts_7 rfl ?_
  refine I_iadd dX11_puts_8 ?_
  refine R_iald dX11_puts_9 ⟨by omega, by omega⟩ ?_
  refine V_cS (vs := [_, _]) (r_at l _ c (ρ (54 + c))) mX11_34 coX11_at dX11_puts_10 rfl rfl (by decide) (Nat.le_of_ble_eq_true rfl) (Nat.le_of_ble_eq_true rfl) (Nat.le_of_ble_eq_true rfl) (fun sz => ?_)
  refine V_istore (L' := [some _, some _, some _, some _, some _, some _, some _]) dX11_puts_13 (by decide) rfl ?_
  refine V_aload_n dX11_puts_15 rfl ?_
  refine V_getf fX11_7 dX11_puts_16 rM_0 rfl ?_
  refine V_iload dX11_puts_19 rfl ?_
  refine V_iload_n dX11_puts_21 rfl ?_
  refine R_iast dX11_puts_22 ⟨by omega, by omega⟩ ?_
  refine V_aload_n dX11_puts_23 rfl ?_
  refine V_getf fX11_7 dX11_puts_24 rM_0 rfl ?_
  refine V_iload dX11_puts_27 rfl ?_
  refine V_iconst (v := iI (1)) dX11_puts_29 rfl ?_
  refine I_iadd dX11_puts_30 ?_
  refine V_iload_n dX11_puts_31 rfl ?_
  refine R_iast dX11_puts_32 ⟨by omega, by omega⟩ ?_
  refine V_aload_n dX11_puts_33 rfl ?_
  refine V_getf fX11_7 dX11_puts_34 rM_0 rfl ?_
  refine V_iload dX11_puts_37 rfl ?_
  refine V_iconst (v := iI (2)) dX11_puts_39 rfl ?_
  refine I_iadd dX11_puts_40 ?_
  refine V_iload dX11_puts_41 rfl ?_
  refine R_iast dX11_puts_43 ⟨by omega, by omega⟩ ?_
  refine V_aload_n dX11_puts_44 rfl ?_
  refine V_getf fX11_7 dX11_puts_45 rM_0 rfl ?_
  refine V_iload dX11_puts_48 rfl ?_
  refine V_iconst (v := iI (3)) dX11_puts_50 rfl ?_
  refine I_iadd dX11_puts_51 ?_
  refine V_iload dX11_puts_52 rfl ?_
  refine R_iast dX11_puts_54 ⟨by omega, by omega⟩ ?_
  refine V_aload_n dX11_puts_55 rfl ?_
  refine V_getf fX11_7 dX11_puts_56 rM_0 rfl ?_
  refine V_iload dX11_puts_59 rfl ?_
  refine V_iconst (v := iI (4)) dX11_puts_61 rfl ?_
  refine I_iadd dX11_puts_62 ?_
  refine V_aload_n dX11_puts_63 rfl ?_
  refine V_getf fX11_7 dX11_puts_64 rM_0 rfl ?_
  refine V_iconst (v := iI (3)) dX11_puts_67 rfl ?_
  refine R_iald dX11_puts_68 ⟨by omega, by omega⟩ ?_
  try simp (disch := omega) only [up_s, up_n]
  refine R_iast dX11_puts_69 ⟨by omega, by omega⟩ ?_
  refine V_aload_n dX11_puts_70 rfl ?_
  refine V_getf fX11_7 dX11_puts_71 rM_0 rfl ?_
  refine V_bipush (v := iI (54)) dX11_puts_74 (by decide +kernel) ?_
  refine V_iload_n dX11_puts_76 rfl ?_
  refine I_iadd dX11_puts_77 ?_
  refine V_dup2 dX11_puts_78 rfl rfl ?_
  refine R_iald dX11_puts_79 ⟨by omega, by omega⟩ ?_
  try simp (disch := omega) only [up_s, up_n]
  refine V_iconst (v := iI (1)) dX11_puts_80 rfl ?_
  refine I_iadd dX11_puts_81 ?_
  refine R_iast dX11_puts_82 ⟨by omega, by omega⟩ ?_
  exact V_ret dX11_puts_83 rfl (Nat.le_of_ble_eq_true rfl) (Nat.le_of_ble_eq_true rfl) (hQ _ _ _ rfl rfl)

/-- a byte of the first packet of a queue -/
def rbyte (ρ : Int → Int) (c k : Int) : Int := if k < 3 then ρ (62 + 80 * c + k) else if ρ (62 + 80 * c) = 15 then 170 else (ρ (62 + 80 * c + 3) + 7 * (k - 3)) % 256

set_option maxRecDepth 100000 in
set_option maxHeartbeats 4000000 in
theorem r_byteOf (l : Launch) (M0 : ME) (r : Nat) (ρ π : Int → Int) (sv rf hs_ : Int) (c : Int) (hc : 0 ≤ c ∧ c ≤ 3) (k : Int) (hk : 0 ≤ k ∧ k ≤ 300) (ha : r32 (ρ (62 + 80 * c))) (hs : 0 ≤ ρ (62 + 80 * c + 3) ∧ ρ (62 + 80 * c + 3) ≤ 255) : CF l yX11_byteOf cX11_byteOf 4 (some .int) (rmN 2) [.ref r, .int (iI c), .int (iI k)] (rM M0 r ρ π sv rf hs_) (some (.int (iI (rbyte ρ c k)))) (rM M0 r ρ π sv rf hs_) := by
  refine CF.of (L0 := [some _, some _, some _, none]) (by decide +kernel) rfl rfl (Nat.le_of_ble_eq_true rfl) rfl (fun G A Q sz hQ => ?_)
  refine V_iload_n dX11_byteOf_0 rfl ?_
  refine V_iconst (v := iI (0)) dX11_byteOf_1 rfl ?_
  refine V_cS (vs := [_, _]) (r_at l _ c 0) mX11_34 coX11_at dX11_byteOf_2 rfl rfl (by decide) (Nat.le_of_ble_eq_true rfl) (Nat.le_of_ble_eq_true rfl) (Nat.le_of_ble_eq_true rfl) (fun sz => ?_)
  refine V_istore_n (L' := [some _, some _, some _, some _]) dX11_byteOf_5 rfl (by decide) rfl ?_
  simp only [Int.mul_zero, Int.add_zero]
  refine V_iload_n dX11_byteOf_6 rfl ?_
  refine V_iconst (v := iI (3)) dX11_byteOf_7 rfl ?_
  refine I_icmp_ge (tgt := 20) dX11_byteOf_8 (by decide) ⟨by omega, by omega⟩ ⟨by omega, by omega⟩ (fun h8 => ?_) (fun h8 => ?_)
  · refine V_tern (J := 56) (v := .int (iI (if ρ (62 + 80 * c) = 15 then 170 else (ρ (62 + 80 * c + 3) + 7 * (k - 3)) % 256))) (fun sz => ?_) (fun j56 => ?_)
    · exact V_ireti dX11_byteOf_56 rfl (Nat.le_of_ble_eq_true rfl) (Nat.le_of_ble_eq_true rfl) (hQ _ _ _ (iv (by unfold rbyte; exact (if_neg (by omega)).symm)) rfl)
    · refine V_aload_n dX11_byteOf_20 rfl ?_
      refine V_getf fX11_7 dX11_byteOf_21 rM_0 rfl ?_
      refine V_iload_n dX11_byteOf_24 rfl ?_
      refine R_iald dX11_byteOf_25 ⟨by omega, by omega⟩ ?_
      refine V_bipush (v := iI (15)) dX11_byteOf_26 (by decide +kernel) ?_
      refine I_icmp_ne (tgt := 37) dX11_byteOf_28 (by decide) ha ⟨by omega, by omega⟩ (fun h28 => ?_) (fun h28 => ?_)
      · refine V_aload_n dX11_byteOf_37 rfl ?_
        refine V_getf fX11_7 dX11_byteOf_38 rM_0 rfl ?_
        refine V_iload_n dX11_byteOf_41 rfl ?_
        refine V_iconst (v := iI (3)) dX11_byteOf_42 rfl ?_
        refine I_iadd dX11_byteOf_43 ?_
        refine R_iald dX11_byteOf_44 ⟨by omega, by omega⟩ ?_
        refine V_bipush (v := iI (7)) dX11_byteOf_45 (by decide +kernel) ?_
        refine V_iload_n dX11_byteOf_47 rfl ?_
        refine V_iconst (v := iI (3)) dX11_byteOf_48 rfl ?_
        refine I_isub dX11_byteOf_49 ?_
        refine I_imul dX11_byteOf_50 ?_
        refine I_iadd dX11_byteOf_51 ?_
        refine V_sipush (v := iI (256)) dX11_byteOf_52 (by decide +kernel) ?_
        refine I_irem dX11_byteOf_55 (by omega) (by omega) (by omega) (by omega) ?_
        exact V_top (vi (by first | (rw [if_pos (by omega)]) | (rw [if_neg (by omega)]))) (j56 _)
      · refine V_sipush (v := iI (170)) dX11_byteOf_31 (by decide +kernel) ?_
        refine V_goto (tgt := 56) dX11_byteOf_34 (by decide) ?_
        exact V_top (vi (by first | (rw [if_pos (by omega)]) | (rw [if_neg (by omega)]))) (j56 _)
  · refine V_aload_n dX11_byteOf_11 rfl ?_
    refine V_getf fX11_7 dX11_byteOf_12 rM_0 rfl ?_
    refine V_iload_n dX11_byteOf_15 rfl ?_
    refine V_iload_n dX11_byteOf_16 rfl ?_
    refine I_iadd dX11_byteOf_17 ?_
    refine R_iald dX11_byteOf_18 ⟨by omega, by omega⟩ ?_
    exact V_ireti dX11_byteOf_19 rfl (Nat.le_of_ble_eq_true rfl) (Nat.le_of_ble_eq_true rfl) (hQ _ _ _ (iv (by unfold rbyte; exact (if_pos (by omega)).symm)) rfl)
