/-- a channel's queue is as it should be -/
def Qc (ρ : Int → Int) (c : Int) : Prop := (0 ≤ ρ (54 + c) ∧ ρ (54 + c) ≤ 13) ∧ (0 ≤ ρ (58 + c) ∧ ρ (58 + c) ≤ 52) ∧ ∀ i, 0 ≤ i → i < ρ (54 + c) → (0 ≤ ρ (62 + 80 * c + 5 * i) ∧ ρ (62 + 80 * c + 5 * i) ≤ 15) ∧ (0 ≤ ρ (62 + 80 * c + 5 * i + 1) ∧ ρ (62 + 80 * c + 5 * i + 1) ≤ 255) ∧ (1 ≤ ρ (62 + 80 * c + 5 * i + 2) ∧ ρ (62 + 80 * c + 5 * i + 2) ≤ 50) ∧ (0 ≤ ρ (62 + 80 * c + 5 * i + 3) ∧ ρ (62 + 80 * c + 5 * i + 3) ≤ 255) ∧ (0 ≤ ρ (62 + 80 * c + 5 * i + 4) ∧ ρ (62 + 80 * c + 5 * i + 4) ≤ 100000)
/-- a channel's settings and wait -/
def Fc (ρ : Int → Int) (c : Int) : Prop := (0 ≤ ρ (25 + c) ∧ ρ (25 + c) ≤ 9) ∧ (0 ≤ ρ (29 + c) ∧ ρ (29 + c) ≤ 50) ∧ (0 ≤ ρ (33 + c) ∧ ρ (33 + c) ≤ 50) ∧ (0 ≤ ρ (37 + c) ∧ ρ (37 + c) ≤ 100000)
theorem psum_b {ρ : Int → Int} {c : Int} (h : Qc ρ c) : ∀ n : Nat, (n : Int) ≤ ρ (54 + c) → 0 ≤ psum ρ c n ∧ psum ρ c n ≤ 53 * n
  | 0, _ => by show 0 ≤ (0 : Int) ∧ (0 : Int) ≤ _; omega
  | n + 1, hn => by
    have h1 := psum_b h n (by omega)
    have h2 := h.2.2 n (by omega) (by omega)
    show 0 ≤ psum ρ c n + (3 + ρ (62 + 80 * c + 5 * n + 2)) ∧ psum ρ c n + (3 + ρ (62 + 80 * c + 5 * n + 2)) ≤ _
    omega
theorem pend_b {ρ : Int → Int} {c : Int} (h : Qc ρ c) : -52 ≤ pend ρ c ∧ pend ρ c ≤ 700 := by
  have h1 := psum_b h (ρ (54 + c)).toNat (by have := h.1; omega)
  have h2 := h.1
  have h3 := h.2.1
  unfold pend
  omega
theorem pcnt_b {ρ : Int → Int} {c : Int} : ∀ n : Nat, 0 ≤ pcnt ρ c n ∧ pcnt ρ c n ≤ n
  | 0 => by show 0 ≤ (0 : Int) ∧ (0 : Int) ≤ _; omega
  | n + 1 => by
    have h1 := pcnt_b (ρ := ρ) (c := c) n
    show 0 ≤ pcnt ρ c n + (if ρ (62 + 80 * c + 5 * n) < 15 then 1 else 0) ∧ pcnt ρ c n + (if ρ (62 + 80 * c + 5 * n) < 15 then 1 else 0) ≤ _
    split <;> omega
theorem Qc.r {ρ : Int → Int} {c : Int} (h : Qc ρ c) : ∀ i, 0 ≤ i → i < ρ (54 + c) → r32 (ρ (62 + 80 * c + 5 * i)) := fun i h0 h1 => by
  have := h.2.2 i h0 h1
  exact ⟨by omega, by omega⟩
theorem Qc.m {ρ : Int → Int} {c : Int} (h : Qc ρ c) : 0 ≤ ρ (54 + c) ∧ ρ (54 + c) ≤ 15 := by have := h.1; omega
abbrev mayO (ρ : Int → Int) (c : Int) : Prop := 0 < pend ρ c ∧ ρ (29 + c) ≤ ρ (37 + c)
abbrev mayR (ρ : Int → Int) (c : Int) : Prop := ρ 0 ≤ pend ρ c ∨ (0 < pend ρ c ∧ ρ (33 + c) ≤ ρ (37 + c))
abbrev ahP (ρ : Int → Int) (c o : Int) : Prop := ρ (25 + o) < ρ (25 + c) ∨ (ρ (25 + c) = ρ (25 + o) ∧ ρ (37 + o) < ρ (37 + c))
abbrev ahd (ρ : Int → Int) (c o b : Int) : Prop := (b = 1 ∧ 0 < ρ (37 + c) - ρ (29 + c) - ρ (37 + o) + ρ (29 + o)) ∨ ((b = 0 ∨ ρ (37 + c) - ρ (29 + c) - ρ (37 + o) + ρ (29 + o) = 0) ∧ ahP ρ c o)

set_option maxRecDepth 100000 in
set_option maxHeartbeats 4000000 in
theorem r_isOverdue (l : Launch) (M0 : ME) (r : Nat) (ρ π : Int → Int) (sv rf hs : Int) (c : Int) (hc : 0 ≤ c ∧ c ≤ 3) (hq : Qc ρ c) (hf : Fc ρ c) : CF l yX11_isOverdue cX11_isOverdue 2 (some .boolean) (rmN 3) [.ref r, .int (iI c)] (rM M0 r ρ π sv rf hs) (some (.int (iI (if mayO ρ c then 1 else 0)))) (rM M0 r ρ π sv rf hs) := by
  have hpb := pend_b hq
  obtain ⟨hf1, hf2, hf3, hf4⟩ := hf
  refine CF.of (L0 := [some _, some _]) (by decide +kernel) rfl rfl (Nat.le_of_ble_eq_true rfl) rfl (fun G A Q sz hQ => ?_)
  refine V_aload_n dX11_isOverdue_0 rfl ?_
  refine V_iload_n dX11_isOverdue_1 rfl ?_
  refine V_cV (vs := [_]) (r_pending l _ _ ρ π _ _ _ c hc hq.m) mX11_41 coX11_pending dX11_isOverdue_2 rM_0 rfl rfl rfl (by decide) (Nat.le_of_ble_eq_true rfl) (Nat.le_of_ble_eq_true rfl) (Nat.le_of_ble_eq_true rfl) (fun sz => ?_)
  refine I_if_le (tgt := 33) dX11_isOverdue_5 (by decide) ⟨by omega, by omega⟩ (fun h5 => ?_) (fun h5 => ?_)
  · refine V_iconst (v := iI (0)) dX11_isOverdue_33 rfl ?_
    exact V_zret dX11_isOverdue_34 rfl (by first | rfl | decide) (Nat.le_of_ble_eq_true rfl) (Nat.le_of_ble_eq_true rfl) (hQ _ _ _ (iv (by first | exact if1 (by omega) | exact if0 (by omega))) rfl)
  · refine V_aload_n dX11_isOverdue_8 rfl ?_
    refine V_getf fX11_7 dX11_isOverdue_9 rM_0 rfl ?_
    refine V_bipush (v := iI (37)) dX11_isOverdue_12 (by decide +kernel) ?_
    refine V_iload_n dX11_isOverdue_14 rfl ?_
    refine I_iadd dX11_isOverdue_15 ?_
    refine R_iald dX11_isOverdue_16 ⟨by omega, by omega⟩ ?_
    refine V_aload_n dX11_isOverdue_17 rfl ?_
    refine V_getf fX11_7 dX11_isOverdue_18 rM_0 rfl ?_
    refine V_bipush (v := iI (29)) dX11_isOverdue_21 (by decide +kernel) ?_
    refine V_iload_n dX11_isOverdue_23 rfl ?_
    refine I_iadd dX11_isOverdue_24 ?_
    refine R_iald dX11_isOverdue_25 ⟨by omega, by omega⟩ ?_
    refine I_icmp_lt (tgt := 33) dX11_isOverdue_26 (by decide) ⟨by omega, by omega⟩ ⟨by omega, by omega⟩ (fun h26 => ?_) (fun h26 => ?_)
    · refine V_iconst (v := iI (0)) dX11_isOverdue_33 rfl ?_
      exact V_zret dX11_isOverdue_34 rfl (by first | rfl | decide) (Nat.le_of_ble_eq_true rfl) (Nat.le_of_ble_eq_true rfl) (hQ _ _ _ (iv (by first | exact if1 (by omega) | exact if0 (by omega))) rfl)
    · refine V_iconst (v := iI (1)) dX11_isOverdue_29 rfl ?_
      refine V_goto (tgt := 34) dX11_isOverdue_30 (by decide) ?_
      exact V_zret dX11_isOverdue_34 rfl (by first | rfl | decide) (Nat.le_of_ble_eq_true rfl) (Nat.le_of_ble_eq_true rfl) (hQ _ _ _ (iv (by first | exact if1 (by omega) | exact if0 (by omega))) rfl)

set_option maxRecDepth 100000 in
set_option maxHeartbeats 4000000 in
theorem r_isReady (l : Launch) (M0 : ME) (r : Nat) (ρ π : Int → Int) (sv rf hs : Int) (c : Int) (hc : 0 ≤ c ∧ c ≤ 3) (hq : Qc ρ c) (hf : Fc ρ c) (hD : 8 ≤ ρ 0 ∧ ρ 0 ≤ 40) : CF l yX11_isReady cX11_isReady 2 (some .boolean) (rmN 3) [.ref r, .int (iI c)] (rM M0 r ρ π sv rf hs) (some (.int (iI (if mayR ρ c then 1 else 0)))) (rM M0 r ρ π sv rf hs) := by
  have hpb := pend_b hq
  obtain ⟨hf1, hf2, hf3, hf4⟩ := hf
  refine CF.of (L0 := [some _, some _]) (by decide +kernel) rfl rfl (Nat.le_of_ble_eq_true rfl) rfl (fun G A Q sz hQ => ?_)
  refine V_aload_n dX11_isReady_0 rfl ?_
  refine V_iload_n dX11_isReady_1 rfl ?_
  refine V_cV (vs := [_]) (r_pending l _ _ ρ π _ _ _ c hc hq.m) mX11_41 coX11_pending dX11_isReady_2 rM_0 rfl rfl rfl (by decide) (Nat.le_of_ble_eq_true rfl) (Nat.le_of_ble_eq_true rfl) (Nat.le_of_ble_eq_true rfl) (fun sz => ?_)
  refine V_aload_n dX11_isReady_5 rfl ?_
  refine V_getf fX11_7 dX11_isReady_6 rM_0 rfl ?_
  refine V_iconst (v := iI (0)) dX11_isReady_9 rfl ?_
  refine R_iald dX11_isReady_10 ⟨by omega, by omega⟩ ?_
  refine I_icmp_ge (tgt := 43) dX11_isReady_11 (by decide) ⟨by omega, by omega⟩ ⟨by omega, by omega⟩ (fun h11 => ?_) (fun h11 => ?_)
  · refine V_iconst (v := iI (1)) dX11_isReady_43 rfl ?_
    refine V_goto (tgt := 48) dX11_isReady_44 (by decide) ?_
    exact V_zret dX11_isReady_48 rfl (by first | rfl | decide) (Nat.le_of_ble_eq_true rfl) (Nat.le_of_ble_eq_true rfl) (hQ _ _ _ (iv (by first | exact if1 (by omega) | exact if0 (by omega))) rfl)
  · refine V_aload_n dX11_isReady_14 rfl ?_
    refine V_iload_n dX11_isReady_15 rfl ?_
    refine V_cV (vs := [_]) (r_pending l _ _ ρ π _ _ _ c hc hq.m) mX11_41 coX11_pending dX11_isReady_16 rM_0 rfl rfl rfl (by decide) (Nat.le_of_ble_eq_true rfl) (Nat.le_of_ble_eq_true rfl) (Nat.le_of_ble_eq_true rfl) (fun sz => ?_)
    refine I_if_le (tgt := 47) dX11_isReady_19 (by decide) ⟨by omega, by omega⟩ (fun h19 => ?_) (fun h19 => ?_)
    · refine V_iconst (v := iI (0)) dX11_isReady_47 rfl ?_
      exact V_zret dX11_isReady_48 rfl (by first | rfl | decide) (Nat.le_of_ble_eq_true rfl) (Nat.le_of_ble_eq_true rfl) (hQ _ _ _ (iv (by first | exact if1 (by omega) | exact if0 (by omega))) rfl)
    · refine V_aload_n dX11_isReady_22 rfl ?_
      refine V_getf fX11_7 dX11_isReady_23 rM_0 rfl ?_
      refine V_bipush (v := iI (37)) dX11_isReady_26 (by decide +kernel) ?_
      refine V_iload_n dX11_isReady_28 rfl ?_
      refine I_iadd dX11_isReady_29 ?_
      refine R_iald dX11_isReady_30 ⟨by omega, by omega⟩ ?_
      refine V_aload_n dX11_isReady_31 rfl ?_
      refine V_getf fX11_7 dX11_isReady_32 rM_0 rfl ?_
      refine V_bipush (v := iI (33)) dX11_isReady_35 (by decide +kernel) ?_
      refine V_iload_n dX11_isReady_37 rfl ?_
      refine I_iadd dX11_isReady_38 ?_
      refine R_iald dX11_isReady_39 ⟨by omega, by omega⟩ ?_
      refine I_icmp_lt (tgt := 47) dX11_isReady_40 (by decide) ⟨by omega, by omega⟩ ⟨by omega, by omega⟩ (fun h40 => ?_) (fun h40 => ?_)
      · refine V_iconst (v := iI (0)) dX11_isReady_47 rfl ?_
        exact V_zret dX11_isReady_48 rfl (by first | rfl | decide) (Nat.le_of_ble_eq_true rfl) (Nat.le_of_ble_eq_true rfl) (hQ _ _ _ (iv (by first | exact if1 (by omega) | exact if0 (by omega))) rfl)
      · refine V_iconst (v := iI (1)) dX11_isReady_43 rfl ?_
        refine V_goto (tgt := 48) dX11_isReady_44 (by decide) ?_
        exact V_zret dX11_isReady_48 rfl (by first | rfl | decide) (Nat.le_of_ble_eq_true rfl) (Nat.le_of_ble_eq_true rfl) (hQ _ _ _ (iv (by first | exact if1 (by omega) | exact if0 (by omega))) rfl)

set_option maxRecDepth 100000 in
set_option maxHeartbeats 4000000 in
theorem r_isAhead (l : Launch) (M0 : ME) (r : Nat) (ρ π : Int → Int) (sv rf hs : Int) (c : Int) (hc : 0 ≤ c ∧ c ≤ 3) (o b : Int) (ho : 0 ≤ o ∧ o ≤ 3) (hb : b = 0 ∨ b = 1) (hf : Fc ρ c) (hg : Fc ρ o) : CF l yX11_isAhead cX11_isAhead 5 (some .boolean) (rmN 1) [.ref r, .int (iI c), .int (iI o), .int (iI b)] (rM M0 r ρ π sv rf hs) (some (.int (iI (if ahd ρ c o b then 1 else 0)))) (rM M0 r ρ π sv rf hs) := by
  obtain ⟨hf1, hf2, hf3, hf4⟩ := hf
  obtain ⟨hg1, hg2, hg3, hg4⟩ := hg
  refine CF.of (L0 := [some _, some _, some _, some _, none]) (by decide +kernel) rfl rfl (Nat.le_of_ble_eq_true rfl) rfl (fun G A Q sz hQ => ?_)
  refine V_tern (J := 47) (v := .int (iI (if b = 1 then ρ (37 + c) - ρ (29 + c) - ρ (37 + o) + ρ (29 + o) else 0))) (fun sz => ?_) (fun j47 => ?_)
  · obtain ⟨mo, hmo, emo⟩ : ∃ mo : Int, ((b = 1 ∧ mo = ρ (37 + c) - ρ (29 + c) - ρ (37 + o) + ρ (29 + o)) ∨ (b = 0 ∧ mo = 0)) ∧ (if b = 1 then ρ (37 + c) - ρ (29 + c) - ρ (37 + o) + ρ (29 + o) else 0) = mo := by
      rcases hb with hb | hb
      · exact ⟨0, Or.inr ⟨hb, rfl⟩, if_neg (by omega)⟩
      · exact ⟨_, Or.inl ⟨hb, rfl⟩, if_pos hb⟩
    rw [emo]
    refine V_istore (L' := [some _, some _, some _, some _, some _]) dX11_isAhead_47 (by decide) rfl ?_
    refine V_iload dX11_isAhead_49 rfl ?_
    refine I_if_eq (tgt := 65) dX11_isAhead_51 (by decide) ⟨by omega, by omega⟩ (fun h51 => ?_) (fun h51 => ?_)
    · refine V_aload_n dX11_isAhead_65 rfl ?_
      refine V_getf fX11_7 dX11_isAhead_66 rM_0 rfl ?_
      refine V_bipush (v := iI (25)) dX11_isAhead_69 (by decide +kernel) ?_
      refine V_iload_n dX11_isAhead_71 rfl ?_
      refine I_iadd dX11_isAhead_72 ?_
      refine R_iald dX11_isAhead_73 ⟨by omega, by omega⟩ ?_
      refine V_aload_n dX11_isAhead_74 rfl ?_
      refine V_getf fX11_7 dX11_isAhead_75 rM_0 rfl ?_
      refine V_bipush (v := iI (25)) dX11_isAhead_78 (by decide +kernel) ?_
      refine V_iload_n dX11_isAhead_80 rfl ?_
      refine I_iadd dX11_isAhead_81 ?_
      refine R_iald dX11_isAhead_82 ⟨by omega, by omega⟩ ?_
      refine I_isub dX11_isAhead_83 ?_
      refine V_istore (L' := [some _, some _, some _, some _, some _]) dX11_isAhead_84 (by decide) rfl ?_
      refine V_iload dX11_isAhead_86 rfl ?_
      refine I_if_gt (tgt := 117) dX11_isAhead_88 (by decide) ⟨by omega, by omega⟩ (fun h88 => ?_) (fun h88 => ?_)
      · refine V_iconst (v := iI (1)) dX11_isAhead_117 rfl ?_
        refine V_goto (tgt := 122) dX11_isAhead_118 (by decide) ?_
        exact V_zret dX11_isAhead_122 rfl (by first | rfl | decide) (Nat.le_of_ble_eq_true rfl) (Nat.le_of_ble_eq_true rfl) (hQ _ _ _ (iv (by first | exact if1 (by omega) | exact if0 (by omega))) rfl)
      · refine V_iload dX11_isAhead_91 rfl ?_
        refine I_if_ne (tgt := 121) dX11_isAhead_93 (by decide) ⟨by omega, by omega⟩ (fun h93 => ?_) (fun h93 => ?_)
        · refine V_iconst (v := iI (0)) dX11_isAhead_121 rfl ?_
          exact V_zret dX11_isAhead_122 rfl (by first | rfl | decide) (Nat.le_of_ble_eq_true rfl) (Nat.le_of_ble_eq_true rfl) (hQ _ _ _ (iv (by first | exact if1 (by omega) | exact if0 (by omega))) rfl)
        · refine V_aload_n dX11_isAhead_96 rfl ?_
          refine V_getf fX11_7 dX11_isAhead_97 rM_0 rfl ?_
          refine V_bipush (v := iI (37)) dX11_isAhead_100 (by decide +kernel) ?_
          refine V_iload_n dX11_isAhead_102 rfl ?_
          refine I_iadd dX11_isAhead_103 ?_
          refine R_iald dX11_isAhead_104 ⟨by omega, by omega⟩ ?_
          refine V_aload_n dX11_isAhead_105 rfl ?_
          refine V_getf fX11_7 dX11_isAhead_106 rM_0 rfl ?_
          refine V_bipush (v := iI (37)) dX11_isAhead_109 (by decide +kernel) ?_
          refine V_iload_n dX11_isAhead_111 rfl ?_
          refine I_iadd dX11_isAhead_112 ?_
          refine R_iald dX11_isAhead_113 ⟨by omega, by omega⟩ ?_
          refine I_icmp_le (tgt := 121) dX11_isAhead_114 (by decide) ⟨by omega, by omega⟩ ⟨by omega, by omega⟩ (fun h114 => ?_) (fun h114 => ?_)
          · refine V_iconst (v := iI (0)) dX11_isAhead_121 rfl ?_
            exact V_zret dX11_isAhead_122 rfl (by first | rfl | decide) (Nat.le_of_ble_eq_true rfl) (Nat.le_of_ble_eq_true rfl) (hQ _ _ _ (iv (by first | exact if1 (by omega) | exact if0 (by omega))) rfl)
          · refine V_iconst (v := iI (1)) dX11_isAhead_117 rfl ?_
            refine V_goto (tgt := 122) dX11_isAhead_118 (by decide) ?_
            exact V_zret dX11_isAhead_122 rfl (by first | rfl | decide) (Nat.le_of_ble_eq_true rfl) (Nat.le_of_ble_eq_true rfl) (hQ _ _ _ (iv (by first | exact if1 (by omega) | exact if0 (by omega))) rfl)
    · refine V_iload dX11_isAhead_54 rfl ?_
      refine I_if_le (tgt := 63) dX11_isAhead_56 (by decide) ⟨by omega, by omega⟩ (fun h56 => ?_) (fun h56 => ?_)
      · refine V_iconst (v := iI (0)) dX11_isAhead_63 rfl ?_
        exact V_zret dX11_isAhead_64 rfl (by first | rfl | decide) (Nat.le_of_ble_eq_true rfl) (Nat.le_of_ble_eq_true rfl) (hQ _ _ _ (iv (by first | exact if1 (by omega) | exact if0 (by omega))) rfl)
      · refine V_iconst (v := iI (1)) dX11_isAhead_59 rfl ?_
        refine V_goto (tgt := 64) dX11_isAhead_60 (by decide) ?_
        exact V_zret dX11_isAhead_64 rfl (by first | rfl | decide) (Nat.le_of_ble_eq_true rfl) (Nat.le_of_ble_eq_true rfl) (hQ _ _ _ (iv (by first | exact if1 (by omega) | exact if0 (by omega))) rfl)
  · refine V_iload_n dX11_isAhead_0 rfl ?_
    refine I_if_eq (tgt := 46) dX11_isAhead_1 (by decide) ⟨by omega, by omega⟩ (fun h1 => ?_) (fun h1 => ?_)
    · refine V_iconst (v := iI (0)) dX11_isAhead_46 rfl ?_
      exact V_top (vi (by first | rw [if_pos (by omega)] | rw [if_neg (by omega)])) (j47 _)
    · refine V_aload_n dX11_isAhead_4 rfl ?_
      refine V_getf fX11_7 dX11_isAhead_5 rM_0 rfl ?_
      refine V_bipush (v := iI (37)) dX11_isAhead_8 (by decide +kernel) ?_
      refine V_iload_n dX11_isAhead_10 rfl ?_
      refine I_iadd dX11_isAhead_11 ?_
      refine R_iald dX11_isAhead_12 ⟨by omega, by omega⟩ ?_
      refine V_aload_n dX11_isAhead_13 rfl ?_
      refine V_getf fX11_7 dX11_isAhead_14 rM_0 rfl ?_
      refine V_bipush (v := iI (29)) dX11_isAhead_17 (by decide +kernel) ?_
      refine V_iload_n dX11_isAhead_19 rfl ?_
      refine I_iadd dX11_isAhead_20 ?_
      refine R_iald dX11_isAhead_21 ⟨by omega, by omega⟩ ?_
      refine I_isub dX11_isAhead_22 ?_
      refine V_aload_n dX11_isAhead_23 rfl ?_
      refine V_getf fX11_7 dX11_isAhead_24 rM_0 rfl ?_
      refine V_bipush (v := iI (37)) dX11_isAhead_27 (by decide +kernel) ?_
      refine V_iload_n dX11_isAhead_29 rfl ?_
      refine I_iadd dX11_isAhead_30 ?_
      refine R_iald dX11_isAhead_31 ⟨by omega, by omega⟩ ?_
      refine I_isub dX11_isAhead_32 ?_
      refine V_aload_n dX11_isAhead_33 rfl ?_
      refine V_getf fX11_7 dX11_isAhead_34 rM_0 rfl ?_
      refine V_bipush (v := iI (29)) dX11_isAhead_37 (by decide +kernel) ?_
      refine V_iload_n dX11_isAhead_39 rfl ?_
      refine I_iadd dX11_isAhead_40 ?_
      refine R_iald dX11_isAhead_41 ⟨by omega, by omega⟩ ?_
      refine I_iadd dX11_isAhead_42 ?_
      refine V_goto (tgt := 47) dX11_isAhead_43 (by decide) ?_
      exact V_top (vi (by first | rw [if_pos (by omega)] | rw [if_neg (by omega)])) (j47 _)

/-- every channel is as it should be -/
def QA (ρ : Int → Int) : Prop := (8 ≤ ρ 0 ∧ ρ 0 ≤ 40) ∧ ∀ c, 0 ≤ c → c ≤ 3 → Qc ρ c ∧ Fc ρ c
abbrev mayB (ρ : Int → Int) (b c : Int) : Prop := (b = 1 ∧ mayO ρ c) ∨ (b = 0 ∧ mayR ρ c)
def rbest (ρ : Int → Int) (b : Int) : Nat → Int
  | 0 => -1
  | n + 1 => if mayB ρ b n ∧ (rbest ρ b n = -1 ∨ ahd ρ n (rbest ρ b n) b) then n else rbest ρ b n
theorem rbest_s {ρ : Int → Int} {b i : Int} (h : 0 ≤ i) : rbest ρ b (i + 1).toNat = if mayB ρ b i ∧ (rbest ρ b i.toNat = -1 ∨ ahd ρ i (rbest ρ b i.toNat) b) then i else rbest ρ b i.toNat := by
  rw [show (i + 1).toNat = i.toNat + 1 by omega]
  show (if mayB ρ b (i.toNat : Int) ∧ (rbest ρ b i.toNat = -1 ∨ ahd ρ (i.toNat : Int) (rbest ρ b i.toNat) b) then (i.toNat : Int) else rbest ρ b i.toNat) = _
  rw [Int.toNat_of_nonneg h]
theorem rbest_b {ρ : Int → Int} {b : Int} : ∀ n : Nat, -1 ≤ rbest ρ b n ∧ rbest ρ b n < n
  | 0 => by show -1 ≤ (-1 : Int) ∧ (-1 : Int) < _; omega
  | n + 1 => by
    have h1 := rbest_b (ρ := ρ) (b := b) n
    show -1 ≤ (if _ then _ else _ : Int) ∧ (if _ then _ else _ : Int) < _
    split <;> omega

set_option maxRecDepth 100000 in
set_option maxHeartbeats 4000000 in
theorem r_best (l : Launch) (M0 : ME) (r : Nat) (ρ π : Int → Int) (sv rf hs : Int) (b : Int) (hb : b = 0 ∨ b = 1) (hQA : QA ρ) : CF l yX11_best cX11_best 5 (some .int) (rmN 4) [.ref r, .int (iI b)] (rM M0 r ρ π sv rf hs) (some (.int (iI (rbest ρ b 4)))) (rM M0 r ρ π sv rf hs) := by
  refine CF.of (L0 := [some _, some _, none, none, none]) (by decide +kernel) rfl rfl (Nat.le_of_ble_eq_true rfl) rfl (fun G A Q sz hQ => ?_)
  refine V_iconst (v := iI (-1)) dX11_best_0 rfl ?_
  refine V_istore_n (L' := [some _, some _, some _, none, none]) dX11_best_1 rfl (by decide) rfl ?_
  refine V_iconst (v := iI (0)) dX11_best_2 rfl ?_
  refine V_istore_n (L' := [some _, some _, some _, some _, none]) dX11_best_3 rfl (by decide) rfl ?_
  have key4 : ∀ (d : Nat) (i : Int) (sz : Nat), 0 ≤ i ∧ i ≤ 4 → (4 - i).toNat = d → V l G A (rmN 4) RX11 "best" cX11_best 5 (some .int) Q nX 0 0 (rM M0 r ρ π sv rf hs) sz 4 [some (.ref r), some (.int (iI b)), some (.int (iI (rbest ρ b i.toNat))), some (.int (iI i)), none] [] := by
    intro d
    induction d using Nat.strongRecOn with
    | ind d ih4 =>
      intro i  sz hi hd4
      refine V_iload_n dX11_best_4 rfl ?_
      refine V_iconst (v := iI (4)) dX11_best_5 rfl ?_
      refine I_icmp_ge (tgt := 60) dX11_best_6 (by decide) ⟨by omega, by omega⟩ ⟨by omega, by omega⟩ (fun h6 => ?_) (fun h6 => ?_)
      · refine V_iload_n dX11_best_60 rfl ?_
        exact V_ireti dX11_best_61 rfl (Nat.le_of_ble_eq_true rfl) (Nat.le_of_ble_eq_true rfl) (hQ _ _ _ (iv (by rw [show i = 4 by omega]; rfl)) rfl)
      · have hbb := rbest_b (ρ := ρ) (b := b) i.toNat
        obtain ⟨bs, hbs⟩ : ∃ x, x = rbest ρ b i.toNat := ⟨_, rfl⟩
        rw [← hbs] at hbb ⊢
        refine V_tern (J := 26) (v := .int (iI (if mayB ρ b i then 1 else 0))) (fun sz => ?_) (fun j26 => ?_)
        · obtain ⟨mb, hmb, emb⟩ := ex_if (p := mayB ρ b i)
          rw [emb]
          refine V_istore (L' := [some _, some _, some _, some _, some _]) dX11_best_26 (by decide) rfl ?_
          refine V_tern (J := 53) (v := .int (iI (if mayB ρ b i ∧ (bs = -1 ∨ ahd ρ i bs b) then i else bs))) (fun sz => ?_) (fun j53 => ?_)
          · refine V_istore_n (L' := [some _, some _, some _, some _, some _]) dX11_best_53 rfl (by decide) rfl ?_
            refine I_iinc (L' := [some _, some _, some _, some _, some _]) dX11_best_54 rfl (by decide) rfl ?_
            refine V_goto (tgt := 4) dX11_best_57 (by decide) ?_
            exact V_wk' (ih4 _ (by omega) (i + 1) sz ⟨by omega, by omega⟩ rfl) ⟨rfl, rfl, (vi (by rw [hbs]; exact rbest_s hi.1)), rfl, trivial⟩
          · refine V_iload dX11_best_28 rfl ?_
            refine I_if_eq (tgt := 52) dX11_best_30 (by decide) ⟨by omega, by omega⟩ (fun h30 => ?_) (fun h30 => ?_)
            · refine V_iload_n dX11_best_52 rfl ?_
              exact V_top (vi (by first | rw [if_pos (by omega)] | rw [if_neg (by omega)])) (j53 _)
            · refine V_iload_n dX11_best_33 rfl ?_
              refine V_iconst (v := iI (-1)) dX11_best_34 rfl ?_
              refine I_icmp_eq (tgt := 48) dX11_best_35 (by decide) ⟨by omega, by omega⟩ ⟨by omega, by omega⟩ (fun h35 => ?_) (fun h35 => ?_)
              · refine V_iload_n dX11_best_48 rfl ?_
                refine V_goto (tgt := 53) dX11_best_49 (by decide) ?_
                exact V_top (vi (by first | rw [if_pos (by omega)] | rw [if_neg (by omega)])) (j53 _)
              · refine V_aload_n dX11_best_38 rfl ?_
                refine V_iload_n dX11_best_39 rfl ?_
                refine V_iload_n dX11_best_40 rfl ?_
                refine V_iload_n dX11_best_41 rfl ?_
                refine V_cV (vs := [_, _, _]) (r_isAhead l _ _ ρ π _ _ _ i (by omega) bs b (by omega) hb (hQA.2 i (by omega) (by omega)).2 (hQA.2 bs (by omega) (by omega)).2) mX11_87 coX11_isAhead dX11_best_42 rM_0 rfl rfl rfl (by decide) (Nat.le_of_ble_eq_true rfl) (Nat.le_of_ble_eq_true rfl) (Nat.le_of_ble_eq_true rfl) (fun sz => ?_)
                obtain ⟨ab, hab, eab⟩ := ex_if (p := ahd ρ i bs b)
                rw [eab]
                refine I_if_eq (tgt := 52) dX11_best_45 (by decide) ⟨by omega, by omega⟩ (fun h45 => ?_) (fun h45 => ?_)
                · refine V_iload_n dX11_best_52 rfl ?_
                  exact V_top (vi (by first | rw [if_pos (by omega)] | rw [if_neg (by omega)])) (j53 _)
                · refine V_iload_n dX11_best_48 rfl ?_
                  refine V_goto (tgt := 53) dX11_best_49 (by decide) ?_
                  exact V_top (vi (by first | rw [if_pos (by omega)] | rw [if_neg (by omega)])) (j53 _)
        · refine V_iload_n dX11_best_9 rfl ?_
          refine I_if_eq (tgt := 21) dX11_best_10 (by decide) ⟨by omega, by omega⟩ (fun h10 => ?_) (fun h10 => ?_)
          · refine V_aload_n dX11_best_21 rfl ?_
            refine V_iload_n dX11_best_22 rfl ?_
            refine V_cV (vs := [_]) (r_isReady l _ _ ρ π _ _ _ i (by omega) (hQA.2 i (by omega) (by omega)).1 (hQA.2 i (by omega) (by omega)).2 hQA.1) mX11_84 coX11_isReady dX11_best_23 rM_0 rfl rfl rfl (by decide) (Nat.le_of_ble_eq_true rfl) (Nat.le_of_ble_eq_true rfl) (Nat.le_of_ble_eq_true rfl) (fun sz => ?_)
            exact V_top (vi (by first | exact if1 (by omega) | exact if0 (by omega) | (congr 1; apply propext; omega))) (j26 _)
          · refine V_aload_n dX11_best_13 rfl ?_
            refine V_iload_n dX11_best_14 rfl ?_
            refine V_cV (vs := [_]) (r_isOverdue l _ _ ρ π _ _ _ i (by omega) (hQA.2 i (by omega) (by omega)).1 (hQA.2 i (by omega) (by omega)).2) mX11_81 coX11_isOverdue dX11_best_15 rM_0 rfl rfl rfl (by decide) (Nat.le_of_ble_eq_true rfl) (Nat.le_of_ble_eq_true rfl) (Nat.le_of_ble_eq_true rfl) (fun sz => ?_)
            refine V_goto (tgt := 26) dX11_best_18 (by decide) ?_
            exact V_top (vi (by first | exact if1 (by omega) | exact if0 (by omega) | (congr 1; apply propext; omega))) (j26 _)
  exact V_wk' (key4 _ 0 sz ⟨by omega, by omega⟩ rfl) ⟨rfl, rfl, rfl, rfl, trivial⟩
