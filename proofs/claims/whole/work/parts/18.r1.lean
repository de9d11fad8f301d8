set_option maxRecDepth 100000 in
set_option maxHeartbeats 4000000 in
theorem r_within (l : Launch) (M : ME) (a b c : Int) (ha : r64 a) (hb : r64 b) (hc : r64 c) : CF l yX11_within cX11_within 6 (some .boolean) (rmN 1) [.long (lI a), .long (lI b), .long (lI c)] M (some (.int (iI (if b ≤ a ∧ a ≤ c then 1 else 0)))) M := by
  intro sz
  refine Cn.of (L0 := [some _, none, some _, none, some _, none]) (by decide +kernel) rfl rfl (Nat.le_of_ble_eq_true rfl) rfl (fun G A => ?_)
  refine V_lload_n dX11_within_0 rfl ?_
  refine V_lload_n dX11_within_1 rfl ?_
  refine I_lc_lt (tgt := 17) dX11_within_2 dX11_within_3 (by decide) (by assumption) (by assumption) (fun h2 => ?_) (fun h2 => ?_)
  · refine V_iconst (v := iI (0)) dX11_within_17 rfl ?_
    exact V_zret dX11_within_18 rfl (by first | rfl | decide) (Nat.le_of_ble_eq_true rfl) (Nat.le_of_ble_eq_true rfl) ⟨by simp_all, rfl⟩
  · refine V_lload_n dX11_within_6 rfl ?_
    refine V_lload dX11_within_7 rfl ?_
    refine I_lc_gt (tgt := 17) dX11_within_9 dX11_within_10 (by decide) (by assumption) (by assumption) (fun h9 => ?_) (fun h9 => ?_)
    · refine V_iconst (v := iI (0)) dX11_within_17 rfl ?_
      exact V_zret dX11_within_18 rfl (by first | rfl | decide) (Nat.le_of_ble_eq_true rfl) (Nat.le_of_ble_eq_true rfl) ⟨by simp_all, rfl⟩
    · refine V_iconst (v := iI (1)) dX11_within_13 rfl ?_
      refine V_goto (tgt := 18) dX11_within_14 (by decide) ?_
      exact V_zret dX11_within_18 rfl (by first | rfl | decide) (Nat.le_of_ble_eq_true rfl) (Nat.le_of_ble_eq_true rfl) ⟨by simp_all, rfl⟩

set_option maxRecDepth 100000 in
set_option maxHeartbeats 4000000 in
theorem r_refused (l : Launch) (M0 : ME) (r : Nat) (ρ π : Int → Int) (sv rf hs w : Int) (hw : 0 ≤ w ∧ w ≤ 3) : CF l yX11_refused cX11_refused 2 (some .boolean) (rmN 1) [.ref r, .int (iI w)] (rM M0 r ρ π sv rf hs) (some (.int (iI (if 0 < w then 1 else 0)))) (rM M0 r ρ π sv w hs) := by
  intro sz
  refine Cn.of (L0 := [some _, some _]) (by decide +kernel) rfl rfl (Nat.le_of_ble_eq_true rfl) rfl (fun G A => ?_)
  refine V_aload_n dX11_refused_0 rfl ?_
  refine V_iload_n dX11_refused_1 rfl ?_
  refine R_putrf fX11_17 dX11_refused_2 ?_
  refine V_iload_n dX11_refused_5 rfl ?_
  refine I_if_le (tgt := 13) dX11_refused_6 (by decide) ⟨by omega, by omega⟩ (fun h6 => ?_) (fun h6 => ?_)
  · refine V_iconst (v := iI (0)) dX11_refused_13 rfl ?_
    exact V_zret dX11_refused_14 rfl (by first | rfl | decide) (Nat.le_of_ble_eq_true rfl) (Nat.le_of_ble_eq_true rfl) ⟨by simp_all, rfl⟩
  · refine V_iconst (v := iI (1)) dX11_refused_9 rfl ?_
    refine V_goto (tgt := 14) dX11_refused_10 (by decide) ?_
    exact V_zret dX11_refused_14 rfl (by first | rfl | decide) (Nat.le_of_ble_eq_true rfl) (Nat.le_of_ble_eq_true rfl) ⟨by simp_all, rfl⟩
