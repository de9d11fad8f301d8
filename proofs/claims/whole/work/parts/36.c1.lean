theorem mu_mu {M : ME} {a : Nat} {e e' : Cel} : mu (mu M a e) a e' = mu M a e' := by
  funext q; unfold mu; split <;> rfl
theorem mu_self {M : ME} {a : Nat} {e : Cel} (h : M a = some e) : mu M a e = M := by
  funext q; unfold mu
  split
  · rename_i h1; rw [h1, h]
  · rfl
theorem mu_cm {M : ME} {a b : Nat} {e e' : Cel} (h : a ≠ b) : mu (mu M a e) b e' = mu (mu M b e') a e := by
  funext q; unfold mu
  by_cases h1 : q = b
  · rw [if_pos h1, if_neg (by omega), if_pos h1]
  · rw [if_neg h1, if_neg h1]
/-- a queued packet; a channel of the sender -/
abbrev qp (p : Int → Int) : Cel := .inl (3, [.int (iI (p 0)), .int (iI (p 1)), .int (iI (p 2)), .int (iI (p 3)), .int (iI (p 4))])
abbrev scC (a b h w p f i t s o : Int) (pa : Nat) : Cel := .inl (6, [.int (iI a), .int (iI b), .int (iI h), .int (iI w), .int (iI p), .int (iI f), .int (iI i), .int (iI t), .int (iI s), .int (iI o), .ref pa])

set_option maxRecDepth 100000 in
set_option maxHeartbeats 4000000 in
theorem c3_size (l : Launch) (M : ME) (q : Nat) (p : Int → Int) (hM : M q = some (qp p)) : CF l yX3_size cX3_size 1 (some .int) (rmN 1) [.ref q] M (some (.int (iI (3 + p 2)))) M := by
  refine CF.of (L0 := [some _]) (by decide +kernel) rfl rfl (Nat.le_of_ble_eq_true rfl) rfl (fun G A Q sz hQ => ?_)
  refine V_iconst (v := iI (3)) dX3_size_0 rfl ?_
  refine V_aload_n dX3_size_1 rfl ?_
  refine V_getf fX3_18 dX3_size_2 hM rfl ?_
  refine I_iadd dX3_size_5 ?_
  exact V_ireti dX3_size_6 rfl (Nat.le_of_ble_eq_true rfl) (Nat.le_of_ble_eq_true rfl) (hQ _ _ _ rfl rfl)

/-- a byte of a packet -/
def pby (p : Int → Int) (k : Int) : Int := if k = 0 then p 0 else if k = 1 then p 1 else if k = 2 then p 2 else if p 0 = 15 then 170 else (p 3 + 7 * (k - 3)) % 256

set_option maxRecDepth 100000 in
set_option maxHeartbeats 4000000 in
theorem c3_byteAt (l : Launch) (M : ME) (q : Nat) (p : Int → Int) (hM : M q = some (qp p)) (hp : r32 (p 0)) (k : Int) (hk : 0 ≤ k ∧ k ≤ 1000) : CF l yX3_byteAt cX3_byteAt 2 (some .int) (rmN 1) [.ref q, .int (iI k)] M (some (.int (iI (pby p k)))) M := by
  refine CF.of (L0 := [some _, some _]) (by decide +kernel) rfl rfl (Nat.le_of_ble_eq_true rfl) rfl (fun G A Q sz hQ => ?_)
  refine V_iload_n dX3_byteAt_0 rfl ?_
  by_cases h0 : k = 0
  · refine I_tab (tgt := 28) dX3_byteAt_1 ⟨by omega, by omega⟩ (by omega) (by omega) (by rw [h0]; rfl) (by decide) ?_
    refine V_aload_n dX3_byteAt_28 rfl ?_
    refine V_getf fX3_9 dX3_byteAt_29 hM rfl ?_
    exact V_ireti dX3_byteAt_32 rfl (Nat.le_of_ble_eq_true rfl) (Nat.le_of_ble_eq_true rfl) (hQ _ _ _ (iv (by unfold pby; rw [if_pos (by omega)])) rfl)
  by_cases h1 : k = 1
  · refine I_tab (tgt := 33) dX3_byteAt_1 ⟨by omega, by omega⟩ (by omega) (by omega) (by rw [h1]; rfl) (by decide) ?_
    refine V_aload_n dX3_byteAt_33 rfl ?_
    refine V_getf fX3_15 dX3_byteAt_34 hM rfl ?_
    exact V_ireti dX3_byteAt_37 rfl (Nat.le_of_ble_eq_true rfl) (Nat.le_of_ble_eq_true rfl) (hQ _ _ _ (iv (by unfold pby; rw [if_neg (by omega), if_pos (by omega)])) rfl)
  by_cases h2 : k = 2
  · refine I_tab (tgt := 38) dX3_byteAt_1 ⟨by omega, by omega⟩ (by omega) (by omega) (by rw [h2]; rfl) (by decide) ?_
    refine V_aload_n dX3_byteAt_38 rfl ?_
    refine V_getf fX3_18 dX3_byteAt_39 hM rfl ?_
    exact V_ireti dX3_byteAt_42 rfl (Nat.le_of_ble_eq_true rfl) (Nat.le_of_ble_eq_true rfl) (hQ _ _ _ (iv (by unfold pby; rw [if_neg (by omega), if_neg (by omega), if_pos (by omega)])) rfl)
  refine I_tabOut (tgt := 43) dX3_byteAt_1 ⟨by omega, by omega⟩ (by omega) (by decide) ?_
  refine V_tern (J := 73) (v := .int (iI (if p 0 = 15 then 170 else (p 3 + 7 * (k - 3)) % 256))) (fun sz => ?_) (fun j73 => ?_)
  · exact V_ireti dX3_byteAt_73 rfl (Nat.le_of_ble_eq_true rfl) (Nat.le_of_ble_eq_true rfl) (hQ _ _ _ (iv (by unfold pby; exact ((if_neg (by omega)).trans ((if_neg (by omega)).trans (if_neg (by omega)))).symm)) rfl)
  · refine V_aload_n dX3_byteAt_43 rfl ?_
    refine V_getf fX3_9 dX3_byteAt_44 hM rfl ?_
    refine V_bipush (v := iI (15)) dX3_byteAt_47 (by decide +kernel) ?_
    refine I_icmp_ne (tgt := 58) dX3_byteAt_49 (by decide) hp ⟨by omega, by omega⟩ (fun h49 => ?_) (fun h49 => ?_)
    · refine V_aload_n dX3_byteAt_58 rfl ?_
      refine V_getf fX3_21 dX3_byteAt_59 hM rfl ?_
      refine V_bipush (v := iI (7)) dX3_byteAt_62 (by decide +kernel) ?_
      refine V_iload_n dX3_byteAt_64 rfl ?_
      refine V_iconst (v := iI (3)) dX3_byteAt_65 rfl ?_
      refine I_isub dX3_byteAt_66 ?_
      refine I_imul dX3_byteAt_67 ?_
      refine I_iadd dX3_byteAt_68 ?_
      refine V_sipush (v := iI (255)) dX3_byteAt_69 (by decide +kernel) ?_
      first | refine I_and255 dX3_byteAt_72 ?_ | refine I_and65535 dX3_byteAt_72 ?_ | refine I_and31 dX3_byteAt_72 ?_
      exact V_top (vi (by first | rw [if_pos (by omega)] | rw [if_neg (by omega)])) (j73 _)
    · refine V_sipush (v := iI (170)) dX3_byteAt_52 (by decide +kernel) ?_
      refine V_goto (tgt := 73) dX3_byteAt_55 (by decide) ?_
      exact V_top (vi (by first | rw [if_pos (by omega)] | rw [if_neg (by omega)])) (j73 _)

set_option maxRecDepth 100000 in
set_option maxHeartbeats 4000000 in
theorem c3_copyFrom (l : Launch) (M : ME) (q : Nat) (p : Int → Int) (hM : M q = some (qp p)) (q2 : Nat) (p2 : Int → Int) (hM2 : M q2 = some (qp p2)) (hne : q2 ≠ q) : CF l yX3_copyFrom cX3_copyFrom 2 none (rmN 1) [.ref q, .ref q2] M none (mu M q (qp p2)) := by
  refine CF.of (L0 := [some _, some _]) (by decide +kernel) rfl rfl (Nat.le_of_ble_eq_true rfl) rfl (fun G A Q sz hQ => ?_)
  refine V_aload_n dX3_copyFrom_0 rfl ?_
  refine V_aload_n dX3_copyFrom_1 rfl ?_
  refine V_getf fX3_9 dX3_copyFrom_2 hM2 rfl ?_
  refine V_putf fX3_9 dX3_copyFrom_5 hM rfl rfl (by simp) ?_
  refine V_aload_n dX3_copyFrom_8 rfl ?_
  refine V_aload_n dX3_copyFrom_9 rfl ?_
  refine V_getf fX3_15 dX3_copyFrom_10 ((mu_ne (by omega)).trans hM2) rfl ?_
  refine V_putf fX3_15 dX3_copyFrom_13 mu_eq rfl rfl (by simp) ?_
  refine V_aload_n dX3_copyFrom_16 rfl ?_
  refine V_aload_n dX3_copyFrom_17 rfl ?_
  refine V_getf fX3_18 dX3_copyFrom_18 ((mu_ne (by omega)).trans ((mu_ne (by omega)).trans hM2)) rfl ?_
  refine V_putf fX3_18 dX3_copyFrom_21 mu_eq rfl rfl (by simp) ?_
  refine V_aload_n dX3_copyFrom_24 rfl ?_
  refine V_aload_n dX3_copyFrom_25 rfl ?_
  refine V_getf fX3_21 dX3_copyFrom_26 ((mu_ne (by omega)).trans ((mu_ne (by omega)).trans ((mu_ne (by omega)).trans hM2))) rfl ?_
  refine V_putf fX3_21 dX3_copyFrom_29 mu_eq rfl rfl (by simp) ?_
  refine V_aload_n dX3_copyFrom_32 rfl ?_
  refine V_aload_n dX3_copyFrom_33 rfl ?_
  refine V_getf fX3_24 dX3_copyFrom_34 ((mu_ne (by omega)).trans ((mu_ne (by omega)).trans ((mu_ne (by omega)).trans ((mu_ne (by omega)).trans hM2)))) rfl ?_
  refine V_putf fX3_24 dX3_copyFrom_37 mu_eq rfl rfl (by simp) ?_
  exact V_ret dX3_copyFrom_40 rfl (Nat.le_of_ble_eq_true rfl) (Nat.le_of_ble_eq_true rfl) (hQ _ _ _ rfl (by simp only [mu_mu]; rfl))

set_option maxRecDepth 100000 in
set_option maxHeartbeats 4000000 in
theorem c6_isOverdue (l : Launch) (M : ME) (c pa : Nat) (a b h w p f i t s o : Int) (hM : M c = some (scC a b h w p f i t s o pa)) (hr : r32 p ∧ r32 w ∧ r32 b) : CF l yX6_isOverdue cX6_isOverdue 1 (some .boolean) (rmN 1) [.ref c] M (some (.int (iI (if 0 < p ∧ b ≤ w then 1 else 0)))) M := by
  refine CF.of (L0 := [some _]) (by decide +kernel) rfl rfl (Nat.le_of_ble_eq_true rfl) rfl (fun G A Q sz hQ => ?_)
  refine V_aload_n dX6_isOverdue_0 rfl ?_
  refine V_getf fX6_24 dX6_isOverdue_1 hM rfl ?_
  refine I_if_le (tgt := 22) dX6_isOverdue_4 (by decide) hr.1 (fun h4 => ?_) (fun h4 => ?_)
  · refine V_iconst (v := iI (0)) dX6_isOverdue_22 rfl ?_
    exact V_zret dX6_isOverdue_23 rfl (by first | rfl | decide) (Nat.le_of_ble_eq_true rfl) (Nat.le_of_ble_eq_true rfl) (hQ _ _ _ (iv (by first | exact if1 (by omega) | exact if0 (by omega))) rfl)
  · refine V_aload_n dX6_isOverdue_7 rfl ?_
    refine V_getf fX6_21 dX6_isOverdue_8 hM rfl ?_
    refine V_aload_n dX6_isOverdue_11 rfl ?_
    refine V_getf fX6_15 dX6_isOverdue_12 hM rfl ?_
    refine I_icmp_lt (tgt := 22) dX6_isOverdue_15 (by decide) hr.2.1 hr.2.2 (fun h15 => ?_) (fun h15 => ?_)
    · refine V_iconst (v := iI (0)) dX6_isOverdue_22 rfl ?_
      exact V_zret dX6_isOverdue_23 rfl (by first | rfl | decide) (Nat.le_of_ble_eq_true rfl) (Nat.le_of_ble_eq_true rfl) (hQ _ _ _ (iv (by first | exact if1 (by omega) | exact if0 (by omega))) rfl)
    · refine V_iconst (v := iI (1)) dX6_isOverdue_18 rfl ?_
      refine V_goto (tgt := 23) dX6_isOverdue_19 (by decide) ?_
      exact V_zret dX6_isOverdue_23 rfl (by first | rfl | decide) (Nat.le_of_ble_eq_true rfl) (Nat.le_of_ble_eq_true rfl) (hQ _ _ _ (iv (by first | exact if1 (by omega) | exact if0 (by omega))) rfl)

set_option maxRecDepth 100000 in
set_option maxHeartbeats 4000000 in
theorem c6_isReady (l : Launch) (M : ME) (c pa : Nat) (a b h w p f i t s o : Int) (hM : M c = some (scC a b h w p f i t s o pa)) (D : Int) (hr : r32 p ∧ r32 w ∧ r32 h ∧ r32 D) : CF l yX6_isReady cX6_isReady 2 (some .boolean) (rmN 1) [.ref c, .int (iI D)] M (some (.int (iI (if D ≤ p ∨ (0 < p ∧ h ≤ w) then 1 else 0)))) M := by
  refine CF.of (L0 := [some _, some _]) (by decide +kernel) rfl rfl (Nat.le_of_ble_eq_true rfl) rfl (fun G A Q sz hQ => ?_)
  refine V_aload_n dX6_isReady_0 rfl ?_
  refine V_getf fX6_24 dX6_isReady_1 hM rfl ?_
  refine V_iload_n dX6_isReady_4 rfl ?_
  refine I_icmp_ge (tgt := 26) dX6_isReady_5 (by decide) hr.1 hr.2.2.2 (fun h5 => ?_) (fun h5 => ?_)
  · refine V_iconst (v := iI (1)) dX6_isReady_26 rfl ?_
    refine V_goto (tgt := 31) dX6_isReady_27 (by decide) ?_
    exact V_zret dX6_isReady_31 rfl (by first | rfl | decide) (Nat.le_of_ble_eq_true rfl) (Nat.le_of_ble_eq_true rfl) (hQ _ _ _ (iv (by first | exact if1 (by omega) | exact if0 (by omega))) rfl)
  · refine V_aload_n dX6_isReady_8 rfl ?_
    refine V_getf fX6_24 dX6_isReady_9 hM rfl ?_
    refine I_if_le (tgt := 30) dX6_isReady_12 (by decide) hr.1 (fun h12 => ?_) (fun h12 => ?_)
    · refine V_iconst (v := iI (0)) dX6_isReady_30 rfl ?_
      exact V_zret dX6_isReady_31 rfl (by first | rfl | decide) (Nat.le_of_ble_eq_true rfl) (Nat.le_of_ble_eq_true rfl) (hQ _ _ _ (iv (by first | exact if1 (by omega) | exact if0 (by omega))) rfl)
    · refine V_aload_n dX6_isReady_15 rfl ?_
      refine V_getf fX6_21 dX6_isReady_16 hM rfl ?_
      refine V_aload_n dX6_isReady_19 rfl ?_
      refine V_getf fX6_18 dX6_isReady_20 hM rfl ?_
      refine I_icmp_lt (tgt := 30) dX6_isReady_23 (by decide) hr.2.1 hr.2.2.1 (fun h23 => ?_) (fun h23 => ?_)
      · refine V_iconst (v := iI (0)) dX6_isReady_30 rfl ?_
        exact V_zret dX6_isReady_31 rfl (by first | rfl | decide) (Nat.le_of_ble_eq_true rfl) (Nat.le_of_ble_eq_true rfl) (hQ _ _ _ (iv (by first | exact if1 (by omega) | exact if0 (by omega))) rfl)
      · refine V_iconst (v := iI (1)) dX6_isReady_26 rfl ?_
        refine V_goto (tgt := 31) dX6_isReady_27 (by decide) ?_
        exact V_zret dX6_isReady_31 rfl (by first | rfl | decide) (Nat.le_of_ble_eq_true rfl) (Nat.le_of_ble_eq_true rfl) (hQ _ _ _ (iv (by first | exact if1 (by omega) | exact if0 (by omega))) rfl)

set_option maxRecDepth 100000 in
set_option maxHeartbeats 4000000 in
theorem c6_precedes (l : Launch) (M : ME) (c pa : Nat) (a b h w p f i t s o : Int) (hM : M c = some (scC a b h w p f i t s o pa)) (c2 pa2 : Nat) (a2 b2 h2 w2 p2 f2 i2 t2 s2 o2 : Int) (hM2 : M c2 = some (scC a2 b2 h2 w2 p2 f2 i2 t2 s2 o2 pa2)) (hr : (0 ≤ a ∧ a ≤ 9) ∧ (0 ≤ w ∧ w ≤ 100000) ∧ (0 ≤ b ∧ b ≤ 50)) (hr2 : (0 ≤ a2 ∧ a2 ≤ 9) ∧ (0 ≤ w2 ∧ w2 ≤ 100000) ∧ (0 ≤ b2 ∧ b2 ≤ 50)) : CF l yX6_precedes cX6_precedes 2 (some .boolean) (rmN 1) [.ref c, .ref c2] M (some (.int (iI (if a2 < a ∨ (a = a2 ∧ w2 < w) then 1 else 0)))) M := by
  refine CF.of (L0 := [some _, some _]) (by decide +kernel) rfl rfl (Nat.le_of_ble_eq_true rfl) rfl (fun G A Q sz hQ => ?_)
  refine V_aload_n dX6_precedes_0 rfl ?_
  refine V_getf fX6_9 dX6_precedes_1 hM rfl ?_
  refine V_aload_n dX6_precedes_4 rfl ?_
  refine V_getf fX6_9 dX6_precedes_5 hM2 rfl ?_
  refine I_icmp_gt (tgt := 33) dX6_precedes_8 (by decide) ⟨by omega, by omega⟩ ⟨by omega, by omega⟩ (fun h8 => ?_) (fun h8 => ?_)
  · refine V_iconst (v := iI (1)) dX6_precedes_33 rfl ?_
    refine V_goto (tgt := 38) dX6_precedes_34 (by decide) ?_
    exact V_zret dX6_precedes_38 rfl (by first | rfl | decide) (Nat.le_of_ble_eq_true rfl) (Nat.le_of_ble_eq_true rfl) (hQ _ _ _ (iv (by first | exact if1 (by omega) | exact if0 (by omega))) rfl)
  · refine V_aload_n dX6_precedes_11 rfl ?_
    refine V_getf fX6_9 dX6_precedes_12 hM rfl ?_
    refine V_aload_n dX6_precedes_15 rfl ?_
    refine V_getf fX6_9 dX6_precedes_16 hM2 rfl ?_
    refine I_icmp_ne (tgt := 37) dX6_precedes_19 (by decide) ⟨by omega, by omega⟩ ⟨by omega, by omega⟩ (fun h19 => ?_) (fun h19 => ?_)
    · refine V_iconst (v := iI (0)) dX6_precedes_37 rfl ?_
      exact V_zret dX6_precedes_38 rfl (by first | rfl | decide) (Nat.le_of_ble_eq_true rfl) (Nat.le_of_ble_eq_true rfl) (hQ _ _ _ (iv (by first | exact if1 (by omega) | exact if0 (by omega))) rfl)
    · refine V_aload_n dX6_precedes_22 rfl ?_
      refine V_getf fX6_21 dX6_precedes_23 hM rfl ?_
      refine V_aload_n dX6_precedes_26 rfl ?_
      refine V_getf fX6_21 dX6_precedes_27 hM2 rfl ?_
      refine I_icmp_le (tgt := 37) dX6_precedes_30 (by decide) ⟨by omega, by omega⟩ ⟨by omega, by omega⟩ (fun h30 => ?_) (fun h30 => ?_)
      · refine V_iconst (v := iI (0)) dX6_precedes_37 rfl ?_
        exact V_zret dX6_precedes_38 rfl (by first | rfl | decide) (Nat.le_of_ble_eq_true rfl) (Nat.le_of_ble_eq_true rfl) (hQ _ _ _ (iv (by first | exact if1 (by omega) | exact if0 (by omega))) rfl)
      · refine V_iconst (v := iI (1)) dX6_precedes_33 rfl ?_
        refine V_goto (tgt := 38) dX6_precedes_34 (by decide) ?_
        exact V_zret dX6_precedes_38 rfl (by first | rfl | decide) (Nat.le_of_ble_eq_true rfl) (Nat.le_of_ble_eq_true rfl) (hQ _ _ _ (iv (by first | exact if1 (by omega) | exact if0 (by omega))) rfl)

set_option maxRecDepth 100000 in
set_option maxHeartbeats 4000000 in
theorem c6_isMoreOverdueThan (l : Launch) (M : ME) (c pa : Nat) (a b h w p f i t s o : Int) (hM : M c = some (scC a b h w p f i t s o pa)) (c2 pa2 : Nat) (a2 b2 h2 w2 p2 f2 i2 t2 s2 o2 : Int) (hM2 : M c2 = some (scC a2 b2 h2 w2 p2 f2 i2 t2 s2 o2 pa2)) (hr : (0 ≤ a ∧ a ≤ 9) ∧ (0 ≤ w ∧ w ≤ 100000) ∧ (0 ≤ b ∧ b ≤ 50)) (hr2 : (0 ≤ a2 ∧ a2 ≤ 9) ∧ (0 ≤ w2 ∧ w2 ≤ 100000) ∧ (0 ≤ b2 ∧ b2 ≤ 50)) : CF l yX6_isMoreOverdueThan cX6_isMoreOverdueThan 4 (some .boolean) (rmN 2) [.ref c, .ref c2] M (some (.int (iI (if w2 - b2 < w - b ∨ (w - b = w2 - b2 ∧ (a2 < a ∨ (a = a2 ∧ w2 < w))) then 1 else 0)))) M := by
  refine CF.of (L0 := [some _, some _, none, none]) (by decide +kernel) rfl rfl (Nat.le_of_ble_eq_true rfl) rfl (fun G A Q sz hQ => ?_)
  refine V_aload_n dX6_isMoreOverdueThan_0 rfl ?_
  refine V_getf fX6_21 dX6_isMoreOverdueThan_1 hM rfl ?_
  refine V_aload_n dX6_isMoreOverdueThan_4 rfl ?_
  refine V_getf fX6_15 dX6_isMoreOverdueThan_5 hM rfl ?_
  refine I_isub dX6_isMoreOverdueThan_8 ?_
  refine V_istore_n (L' := [some _, some _, some _, none]) dX6_isMoreOverdueThan_9 rfl (by decide) rfl ?_
  refine V_aload_n dX6_isMoreOverdueThan_10 rfl ?_
  refine V_getf fX6_21 dX6_isMoreOverdueThan_11 hM2 rfl ?_
  refine V_aload_n dX6_isMoreOverdueThan_14 rfl ?_
  refine V_getf fX6_15 dX6_isMoreOverdueThan_15 hM2 rfl ?_
  refine I_isub dX6_isMoreOverdueThan_18 ?_
  refine V_istore_n (L' := [some _, some _, some _, some _]) dX6_isMoreOverdueThan_19 rfl (by decide) rfl ?_
  refine V_iload_n dX6_isMoreOverdueThan_20 rfl ?_
  refine V_iload_n dX6_isMoreOverdueThan_21 rfl ?_
  refine I_icmp_gt (tgt := 38) dX6_isMoreOverdueThan_22 (by decide) ⟨by omega, by omega⟩ ⟨by omega, by omega⟩ (fun h22 => ?_) (fun h22 => ?_)
  · refine V_iconst (v := iI (1)) dX6_isMoreOverdueThan_38 rfl ?_
    refine V_goto (tgt := 43) dX6_isMoreOverdueThan_39 (by decide) ?_
    exact V_zret dX6_isMoreOverdueThan_43 rfl (by first | rfl | decide) (Nat.le_of_ble_eq_true rfl) (Nat.le_of_ble_eq_true rfl) (hQ _ _ _ (iv (by first | exact if1 (by omega) | exact if0 (by omega))) rfl)
  · refine V_iload_n dX6_isMoreOverdueThan_25 rfl ?_
    refine V_iload_n dX6_isMoreOverdueThan_26 rfl ?_
    refine I_icmp_ne (tgt := 42) dX6_isMoreOverdueThan_27 (by decide) ⟨by omega, by omega⟩ ⟨by omega, by omega⟩ (fun h27 => ?_) (fun h27 => ?_)
    · refine V_iconst (v := iI (0)) dX6_isMoreOverdueThan_42 rfl ?_
      exact V_zret dX6_isMoreOverdueThan_43 rfl (by first | rfl | decide) (Nat.le_of_ble_eq_true rfl) (Nat.le_of_ble_eq_true rfl) (hQ _ _ _ (iv (by first | exact if1 (by omega) | exact if0 (by omega))) rfl)
    · refine V_aload_n dX6_isMoreOverdueThan_30 rfl ?_
      refine V_aload_n dX6_isMoreOverdueThan_31 rfl ?_
      refine V_cV (vs := [_]) (c6_precedes l _ _ _ a b h w p f i t s o hM _ _ a2 b2 h2 w2 p2 f2 i2 t2 s2 o2 hM2 hr hr2) mX6_56 coX6_precedes dX6_isMoreOverdueThan_32 hM rfl rfl rfl (by decide) (Nat.le_of_ble_eq_true rfl) (Nat.le_of_ble_eq_true rfl) (Nat.le_of_ble_eq_true rfl) (fun sz => ?_)
      obtain ⟨bp, hbp, ebp⟩ := ex_if (p := a2 < a ∨ (a = a2 ∧ w2 < w))
      rw [ebp]
      refine I_if_eq (tgt := 42) dX6_isMoreOverdueThan_35 (by decide) ⟨by omega, by omega⟩ (fun h35 => ?_) (fun h35 => ?_)
      · refine V_iconst (v := iI (0)) dX6_isMoreOverdueThan_42 rfl ?_
        exact V_zret dX6_isMoreOverdueThan_43 rfl (by first | rfl | decide) (Nat.le_of_ble_eq_true rfl) (Nat.le_of_ble_eq_true rfl) (hQ _ _ _ (iv (by first | exact if1 (by omega) | exact if0 (by omega))) rfl)
      · refine V_iconst (v := iI (1)) dX6_isMoreOverdueThan_38 rfl ?_
        refine V_goto (tgt := 43) dX6_isMoreOverdueThan_39 (by decide) ?_
        exact V_zret dX6_isMoreOverdueThan_43 rfl (by first | rfl | decide) (Nat.le_of_ble_eq_true rfl) (Nat.le_of_ble_eq_true rfl) (hQ _ _ _ (iv (by first | exact if1 (by omega) | exact if0 (by omega))) rfl)

set_option maxRecDepth 100000 in
set_option maxHeartbeats 4000000 in
theorem c6_passSlot (l : Launch) (M : ME) (c pa : Nat) (a b h w p f i t s o : Int) (hM : M c = some (scC a b h w p f i t s o pa)) (g : Int) (hg : g = 0 ∨ g = 1) (hp : r32 p) : CF l yX6_passSlot cX6_passSlot 2 none (rmN 1) [.ref c, .int (iI g)] M none (mu M c (scC a b h (if g = 1 ∨ p = 0 then 0 else w + 1) p f i t s o pa)) := by
  refine CF.of (L0 := [some _, some _]) (by decide +kernel) rfl rfl (Nat.le_of_ble_eq_true rfl) rfl (fun G A Q sz hQ => ?_)
  refine V_aload_n dX6_passSlot_0 rfl ?_
  refine V_tern (J := 22) (v := .int (iI (if g = 1 ∨ p = 0 then 0 else w + 1))) (fun sz => ?_) (fun j22 => ?_)
  · refine V_putf fX6_21 dX6_passSlot_22 hM rfl rfl (by simp) ?_
    exact V_ret dX6_passSlot_25 rfl (Nat.le_of_ble_eq_true rfl) (Nat.le_of_ble_eq_true rfl) (hQ _ _ _ rfl rfl)
  · refine V_iload_n dX6_passSlot_1 rfl ?_
    refine I_if_ne (tgt := 12) dX6_passSlot_2 (by decide) ⟨by omega, by omega⟩ (fun h2 => ?_) (fun h2 => ?_)
    · refine V_iconst (v := iI (0)) dX6_passSlot_12 rfl ?_
      refine V_goto (tgt := 22) dX6_passSlot_13 (by decide) ?_
      exact V_top (vi (by first | rw [if_pos (by omega)] | rw [if_neg (by omega)])) (j22 _)
    · refine V_aload_n dX6_passSlot_5 rfl ?_
      refine V_getf fX6_24 dX6_passSlot_6 hM rfl ?_
      refine I_if_ne (tgt := 16) dX6_passSlot_9 (by decide) hp (fun h9 => ?_) (fun h9 => ?_)
      · refine V_aload_n dX6_passSlot_16 rfl ?_
        refine V_getf fX6_21 dX6_passSlot_17 hM rfl ?_
        refine V_iconst (v := iI (1)) dX6_passSlot_20 rfl ?_
        refine I_iadd dX6_passSlot_21 ?_
        exact V_top (vi (by first | rw [if_pos (by omega)] | rw [if_neg (by omega)])) (j22 _)
      · refine V_iconst (v := iI (0)) dX6_passSlot_12 rfl ?_
        refine V_goto (tgt := 22) dX6_passSlot_13 (by decide) ?_
        exact V_top (vi (by first | rw [if_pos (by omega)] | rw [if_neg (by omega)])) (j22 _)
