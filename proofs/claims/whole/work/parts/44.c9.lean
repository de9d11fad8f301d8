set_option maxRecDepth 100000 in
set_option maxHeartbeats 4000000 in
theorem d_sum (l : Launch) (M : ME) (q : Nat) (a b c e : Int) (hM : M q = some (dpO q a b c e)) (g : Int → Int) (hA : M (q + 1) = some (aI 255 g)) (he : 0 ≤ e ∧ e ≤ 255) : CF l yX1_sum cX1_sum 3 (some .int) (rmN 1) [.ref q] M (some (.int (iI (dsum g e.toNat)))) M := by
  refine CF.of (L0 := [some _, none, none]) (by decide +kernel) rfl rfl (Nat.le_of_ble_eq_true rfl) rfl (fun G A Q sz hQ => ?_)
  refine V_iconst (v := iI (0)) dX1_sum_0 rfl ?_
  refine V_istore_n (L' := [some _, some _, none]) dX1_sum_1 rfl (by decide) rfl ?_
  refine V_iconst (v := iI (0)) dX1_sum_2 rfl ?_
  refine V_istore_n (L' := [some _, some _, some _]) dX1_sum_3 rfl (by decide) rfl ?_
  have key4 : ∀ (d : Nat) (j : Int) (sz : Nat), (0 ≤ j ∧ j ≤ e) → (e - j).toNat = d → V l G A (rmN 1) RX1 "sum" cX1_sum 3 (some .int) Q nX 0 0 M sz 4 [some (.ref q), some (.int (iI (dsum g j.toNat))), some (.int (iI j))] [] := by
    intro d
    induction d using Nat.strongRecOn with
    | ind d ih4 =>
      intro j  sz hj hd4
      refine V_iload_n dX1_sum_4 rfl ?_
      refine V_aload_n dX1_sum_5 rfl ?_
      refine V_getf fX1_25 dX1_sum_6 hM rfl ?_
      refine I_icmp_ge (tgt := 34) dX1_sum_9 (by decide) ⟨by omega, by omega⟩ ⟨by omega, by omega⟩ (fun h9 => ?_) (fun h9 => ?_)
      · refine V_iload_n dX1_sum_34 rfl ?_
        exact V_ireti dX1_sum_35 rfl (Nat.le_of_ble_eq_true rfl) (Nat.le_of_ble_eq_true rfl) (hQ _ _ _ (iv (by rw [show j = e by omega])) rfl)
      · refine V_iload_n dX1_sum_12 rfl ?_
        refine V_sipush (v := iI (255)) dX1_sum_13 (by decide +kernel) ?_
        refine I_icmp_ge_f (tgt := 34) dX1_sum_16 (by decide) ⟨by omega, by omega⟩ ⟨by omega, by omega⟩ (by omega) ?_
        refine V_iload_n dX1_sum_19 rfl ?_
        refine V_aload_n dX1_sum_20 rfl ?_
        refine V_getf fX1_9 dX1_sum_21 hM rfl ?_
        refine V_iload_n dX1_sum_24 rfl ?_
        refine I_iald dX1_sum_25 hA ⟨by omega, by omega⟩ (by decide) ?_
        refine I_iadd dX1_sum_26 ?_
        refine V_istore_n (L' := [some _, some _, some _]) dX1_sum_27 rfl (by decide) rfl ?_
        refine I_iinc (L' := [some _, some _, some _]) dX1_sum_28 rfl (by decide) rfl ?_
        refine V_goto (tgt := 4) dX1_sum_31 (by decide) ?_
        exact V_wk' (ih4 _ (by omega) (j + 1) sz ⟨by omega, by omega⟩ rfl) ⟨rfl, (vi (dsum_s hj.1)), rfl, trivial⟩
  exact V_wk' (key4 _ 0 sz ⟨by omega, by omega⟩ rfl) ⟨rfl, rfl, rfl, trivial⟩

set_option maxRecDepth 100000 in
set_option maxHeartbeats 4000000 in
theorem d_fill (l : Launch) (M : ME) (q : Nat) (a b c e : Int) (hM : M q = some (dpO q a b c e)) (g : Int → Int) (hA : M (q + 1) = some (aI 255 g)) (k : Nat) (k1 k2 k3 k4 k5 : Int) (hk : M k = some (rkO k k1 k2 k3 k4 k5)) (gk : Int → Int) (hkg : M (k + 1) = some (aI 258 gk)) (hd : q + 2 ≤ k ∨ k + 2 ≤ q) (h2 : 0 ≤ gk 2 ∧ gk 2 ≤ 255) (x : Int) : CF l yX1_fill cX1_fill 3 none (rmN 1) [.ref q, .ref k, .int (iI x)] M none (mu (mu M q (dpO q x (gk 0) (gk 1) (gk 2))) (q + 1) (aI 255 (cpI gk g 3 0 255))) := by
  refine CF.of (L0 := [some _, some _, some _]) (by decide +kernel) rfl rfl (Nat.le_of_ble_eq_true rfl) rfl (fun G A Q sz hQ => ?_)
  refine V_aload_n dX1_fill_0 rfl ?_
  refine V_iload_n dX1_fill_1 rfl ?_
  refine V_putf fX1_15 dX1_fill_2 hM rfl rfl (by simp) ?_
  refine V_aload_n dX1_fill_5 rfl ?_
  refine V_aload_n dX1_fill_6 rfl ?_
  refine V_getf fX1_34 dX1_fill_7 ((mu_ne (by omega)).trans hk) rfl ?_
  refine V_iconst (v := iI (0)) dX1_fill_10 rfl ?_
  refine I_iald dX1_fill_11 ((mu_ne (by omega)).trans hkg) ⟨by omega, by omega⟩ (by decide) ?_
  refine V_putf fX1_19 dX1_fill_12 mu_eq rfl rfl (by simp) ?_
  refine V_aload_n dX1_fill_15 rfl ?_
  refine V_aload_n dX1_fill_16 rfl ?_
  refine V_getf fX1_34 dX1_fill_17 ((mu_ne (by omega)).trans ((mu_ne (by omega)).trans hk)) rfl ?_
  refine V_iconst (v := iI (1)) dX1_fill_20 rfl ?_
  refine I_iald dX1_fill_21 ((mu_ne (by omega)).trans ((mu_ne (by omega)).trans hkg)) ⟨by omega, by omega⟩ (by decide) ?_
  refine V_putf fX1_22 dX1_fill_22 mu_eq rfl rfl (by simp) ?_
  refine V_aload_n dX1_fill_25 rfl ?_
  refine V_aload_n dX1_fill_26 rfl ?_
  refine V_getf fX1_34 dX1_fill_27 ((mu_ne (by omega)).trans ((mu_ne (by omega)).trans ((mu_ne (by omega)).trans hk))) rfl ?_
  refine V_iconst (v := iI (2)) dX1_fill_30 rfl ?_
  refine I_iald dX1_fill_31 ((mu_ne (by omega)).trans ((mu_ne (by omega)).trans ((mu_ne (by omega)).trans hkg))) ⟨by omega, by omega⟩ (by decide) ?_
  refine V_sipush (v := iI (255)) dX1_fill_32 (by decide +kernel) ?_
  refine I_min ⟨by omega, by omega⟩ ⟨by omega, by omega⟩ mX1_39 dX1_fill_35 (by decide) (Nat.le_of_ble_eq_true rfl) (Nat.le_of_ble_eq_true rfl) (Nat.le_of_ble_eq_true rfl) ?_
  rw [show min (gk 2) 255 = gk 2 by omega]
  refine V_putf fX1_25 dX1_fill_38 mu_eq rfl rfl (by simp) ?_
  refine V_aload_n dX1_fill_41 rfl ?_
  refine V_getf fX1_34 dX1_fill_42 ((mu_ne (by omega)).trans ((mu_ne (by omega)).trans ((mu_ne (by omega)).trans ((mu_ne (by omega)).trans hk)))) rfl ?_
  refine V_iconst (v := iI (3)) dX1_fill_45 rfl ?_
  refine V_aload_n dX1_fill_46 rfl ?_
  refine V_getf fX1_9 dX1_fill_47 mu_eq rfl ?_
  refine V_iconst (v := iI (0)) dX1_fill_50 rfl ?_
  refine V_sipush (v := iI (255)) dX1_fill_51 (by decide +kernel) ?_
  refine I_copy (by decide) mX1_28 dX1_fill_54 ((mu_ne (by omega)).trans ((mu_ne (by omega)).trans ((mu_ne (by omega)).trans ((mu_ne (by omega)).trans hkg)))) ((mu_ne (by omega)).trans ((mu_ne (by omega)).trans ((mu_ne (by omega)).trans ((mu_ne (by omega)).trans hA)))) (by decide) (by decide) (by decide) (by decide) (by decide) (by decide) fun sz => ?_
  exact V_ret dX1_fill_57 rfl (Nat.le_of_ble_eq_true rfl) (Nat.le_of_ble_eq_true rfl) (hQ _ _ _ rfl (by simp only [mu_mu]; rfl))

set_option maxRecDepth 100000 in
set_option maxHeartbeats 4000000 in
theorem d_copyFrom (l : Launch) (M : ME) (d d2 : Nat) (hd : d + 2 ≤ d2 ∨ d2 + 2 ≤ d) (φ1 φ : Int → Int) (n1 n : Int) (h1 : DR M d φ1 n1) (h2 : DR M d2 φ n) (hn : n ≤ 255) : CP l yX1_copyFrom cX1_copyFrom 2 none (rmN 1) [.ref d, .ref d2] M (fun v M' => v = none ∧ DR M' d φ n ∧ FR M M' d 2) := by
  obtain ⟨g1, a1, a2, -⟩ := h1
  obtain ⟨g, b1, b2, b3⟩ := h2
  refine CP.of (L0 := [some _, some _]) (by decide +kernel) rfl rfl (Nat.le_of_ble_eq_true rfl) rfl (fun G A Q sz hQ => ?_)
  refine V_aload_n dX1_copyFrom_0 rfl ?_
  refine V_aload_n dX1_copyFrom_1 rfl ?_
  refine V_getf fX1_15 dX1_copyFrom_2 b1 rfl ?_
  refine V_putf fX1_15 dX1_copyFrom_5 a1 rfl rfl (by simp) ?_
  refine V_aload_n dX1_copyFrom_8 rfl ?_
  refine V_aload_n dX1_copyFrom_9 rfl ?_
  refine V_getf fX1_19 dX1_copyFrom_10 ((mu_ne (by omega)).trans b1) rfl ?_
  refine V_putf fX1_19 dX1_copyFrom_13 mu_eq rfl rfl (by simp) ?_
  refine V_aload_n dX1_copyFrom_16 rfl ?_
  refine V_aload_n dX1_copyFrom_17 rfl ?_
  refine V_getf fX1_22 dX1_copyFrom_18 ((mu_ne (by omega)).trans ((mu_ne (by omega)).trans b1)) rfl ?_
  refine V_putf fX1_22 dX1_copyFrom_21 mu_eq rfl rfl (by simp) ?_
  refine V_aload_n dX1_copyFrom_24 rfl ?_
  refine V_aload_n dX1_copyFrom_25 rfl ?_
  refine V_getf fX1_25 dX1_copyFrom_26 ((mu_ne (by omega)).trans ((mu_ne (by omega)).trans ((mu_ne (by omega)).trans b1))) rfl ?_
  refine V_putf fX1_25 dX1_copyFrom_29 mu_eq rfl rfl (by simp) ?_
  refine V_aload_n dX1_copyFrom_32 rfl ?_
  refine V_getf fX1_9 dX1_copyFrom_33 ((mu_ne (by omega)).trans ((mu_ne (by omega)).trans ((mu_ne (by omega)).trans ((mu_ne (by omega)).trans b1)))) rfl ?_
  refine V_iconst (v := iI (0)) dX1_copyFrom_36 rfl ?_
  refine V_aload_n dX1_copyFrom_37 rfl ?_
  refine V_getf fX1_9 dX1_copyFrom_38 mu_eq rfl ?_
  refine V_iconst (v := iI (0)) dX1_copyFrom_41 rfl ?_
  refine V_sipush (v := iI (255)) dX1_copyFrom_42 (by decide +kernel) ?_
  refine I_copy (by decide) mX1_28 dX1_copyFrom_45 ((mu_ne (by omega)).trans ((mu_ne (by omega)).trans ((mu_ne (by omega)).trans ((mu_ne (by omega)).trans b2)))) ((mu_ne (by omega)).trans ((mu_ne (by omega)).trans ((mu_ne (by omega)).trans ((mu_ne (by omega)).trans a2)))) (by decide) (by decide) (by decide) (by decide) (by decide) (by decide) fun sz => ?_
  exact V_ret dX1_copyFrom_48 rfl (Nat.le_of_ble_eq_true rfl) (Nat.le_of_ble_eq_true rfl) (hQ _ _ _ ⟨rfl, ⟨_, (mu_ne (by omega)).trans (by simp only [mu_mu]; exact mu_eq), mu_eq, fun q x y => by unfold cpI; rw [if_pos (by omega), show (0 : Int) + (q - 0) = q by omega]; exact b3 q x y⟩, ((((FR.rf.mu (by omega)).mu (by omega)).mu (by omega)).mu (by omega)).mu (by omega)⟩)

set_option maxRecDepth 100000 in
set_option maxHeartbeats 4000000 in
theorem l_copyFrom (l : Launch) (M : ME) (w w2 : Nat) (hd : w + 62 ≤ w2 ∨ w2 + 62 ≤ w) (ρ1 ρ : Int → Int) (hW1 : DL M w ρ1) (hW : DL M w2 ρ) (hR : Ai ρ) : CP l yX0_copyFrom cX0_copyFrom 3 none (rmN 2) [.ref w, .ref w2] M (fun v M' => v = none ∧ DL M' w ρ ∧ FR M M' w 62) := by
  obtain ⟨fr1, a1, a2, a3, a4, a5, a6⟩ := id hW1
  obtain ⟨fr, h1, h2, h3, h4, h5, h6⟩ := id hW
  refine CP.of (L0 := [some _, some _, none]) (by decide +kernel) rfl rfl (Nat.le_of_ble_eq_true rfl) rfl (fun G A Q sz hQ => ?_)
  refine V_aload_n dX0_copyFrom_0 rfl ?_
  refine V_aload_n dX0_copyFrom_1 rfl ?_
  refine V_getf fX0_9 dX0_copyFrom_2 h1 rfl ?_
  refine V_putf fX0_9 dX0_copyFrom_5 a1 rfl rfl (by simp) ?_
  refine V_iconst (v := iI (0)) dX0_copyFrom_8 rfl ?_
  refine V_istore_n (L' := [some _, some _, some _]) dX0_copyFrom_9 rfl (by decide) rfl ?_
  have key10 : ∀ (d : Nat) (j : Int) (N : ME) (sz : Nat), (0 ≤ j ∧ j ≤ ρ 4503) → (N w = some (dlO w (ρ 4503))) → (N (w + 1) = some (aR 2 30 fr1)) → (∀ i, 0 ≤ i → i < 30 → ∃ φ, DR N (fr1 i) φ 0) → (∀ i, 0 ≤ i → i < j → DR N (fr1 i) (sl ρ (4504 + 260 * i)) (ρ (4504 + 260 * i + 3))) → (FR M N w 62) → (ρ 4503 - j).toNat = d → V l G A (rmN 2) RX0 "copyFrom" cX0_copyFrom 3 none Q nX 0 0 N sz 10 [some (.ref w), some (.ref w2), some (.int (iI j))] [] := by
    intro d
    induction d using Nat.strongRecOn with
    | ind d ih10 =>
      intro j N  sz hj n1 n2 n3 n4 nF hd10
      refine V_iload_n dX0_copyFrom_10 rfl ?_
      refine V_aload_n dX0_copyFrom_11 rfl ?_
      refine V_getf fX0_9 dX0_copyFrom_12 n1 rfl ?_
      refine I_icmp_ge (tgt := 45) dX0_copyFrom_15 (by decide) ⟨by omega, by omega⟩ ⟨by omega, by omega⟩ (fun h15 => ?_) (fun h15 => ?_)
      · exact V_ret dX0_copyFrom_45 rfl (Nat.le_of_ble_eq_true rfl) (Nat.le_of_ble_eq_true rfl) (hQ _ _ _ ⟨rfl, ⟨fr1, n1, n2, a3, h4, n3, fun i a b => n4 i a (by omega)⟩, nF⟩)
      · refine V_iload_n dX0_copyFrom_18 rfl ?_
        refine V_bipush (v := iI (30)) dX0_copyFrom_19 (by decide +kernel) ?_
        refine I_icmp_ge_f (tgt := 45) dX0_copyFrom_21 (by decide) ⟨by omega, by omega⟩ ⟨by omega, by omega⟩ (by omega) ?_
        obtain ⟨φj, hfj⟩ := n3 j (by omega) (by omega)
        obtain ⟨gj, e1, e2, -⟩ := id hfj
        have b1 := a3 j (by omega) (by omega)
        have b2 := h3 j (by omega) (by omega)
        have hl := hR.2.2 j (by omega) (by omega)
        refine V_aload_n dX0_copyFrom_24 rfl ?_
        refine V_getf fX0_17 dX0_copyFrom_25 n1 rfl ?_
        refine V_iload_n dX0_copyFrom_28 rfl ?_
        refine I_aald ao2 dX0_copyFrom_29 n2 ⟨by omega, by omega⟩ (by decide) ?_
        refine V_aload_n dX0_copyFrom_30 rfl ?_
        refine V_getf fX0_17 dX0_copyFrom_31 ((nF _ (by omega)).trans h1) rfl ?_
        refine V_iload_n dX0_copyFrom_34 rfl ?_
        refine I_aald ao2 dX0_copyFrom_35 ((nF _ (by omega)).trans h2) ⟨by omega, by omega⟩ (by decide) ?_
        refine V_cVE0 (vs := [_]) (d_copyFrom l N (fr1 j) (fr j) (by omega) φj (sl ρ (4504 + 260 * j)) 0 (ρ (4504 + 260 * j + 3)) hfj ((h6 j (by omega) (by omega)).mv ⟨nF _ (by omega), nF _ (by omega)⟩ (by omega) (fun _ _ _ => rfl)) (by omega)) mX0_22 coX1_copyFrom dX0_copyFrom_36 e1 rfl rfl rfl (by decide) (Nat.le_of_ble_eq_true rfl) (Nat.le_of_ble_eq_true rfl) (Nat.le_of_ble_eq_true rfl) (fun N1 sz hp => ?_)
        obtain ⟨hO1, hF1⟩ := hp
        have hT1 : ∀ i, 0 ≤ i → i < 30 → ∃ φ, DR N1 (fr1 i) φ 0 := fun i a b => by
          by_cases e : i = j
          · rw [e]; exact ⟨_, hO1.mv ⟨rfl, rfl⟩ (by omega) (fun _ _ _ => rfl)⟩
          · obtain ⟨φ, h⟩ := n3 i a b
            have b3 := (a3 i a b).2.2 j (by omega) (by omega) e
            exact ⟨φ, h.mv ⟨hF1 _ (by omega), hF1 _ (by omega)⟩ (by omega) (fun _ _ _ => rfl)⟩
        have hT2 : ∀ i, 0 ≤ i → i < j + 1 → DR N1 (fr1 i) (sl ρ (4504 + 260 * i)) (ρ (4504 + 260 * i + 3)) := fun i a b => by
          by_cases e : i = j
          · rw [e]; exact hO1
          · have b3 := (a3 i a (by omega)).2.2 j (by omega) (by omega) e
            exact (n4 i a (by omega)).mv ⟨hF1 _ (by omega), hF1 _ (by omega)⟩ (by omega) (fun _ _ _ => rfl)
        refine I_iinc (L' := [some _, some _, some _]) dX0_copyFrom_39 rfl (by decide) rfl ?_
        refine V_goto (tgt := 10) dX0_copyFrom_42 (by decide) ?_
        exact V_wk' (ih10 _ (by omega) (j + 1) _ sz ⟨by omega, by omega⟩ ((hF1 _ (by omega)).trans n1) ((hF1 _ (by omega)).trans n2) hT1 hT2 (nF.tr (hF1.up (by omega))) rfl) ⟨rfl, rfl, rfl, trivial⟩
  have hI1 : ∀ i, 0 ≤ i → i < 30 → ∃ φ, DR (mu M w (dlO w (ρ 4503))) (fr1 i) φ 0 := fun i a b => by
    obtain ⟨φ, h⟩ := a5 i a b
    have b1 := a3 i a b
    exact ⟨φ, h.mv ⟨mu_ne (by omega), mu_ne (by omega)⟩ (by omega) (fun _ _ _ => rfl)⟩
  exact V_wk' (key10 _ 0 _ sz ⟨by omega, by omega⟩ mu_eq ((mu_ne (by omega)).trans a2) hI1 (fun i a b => by omega) (FR.rf.mu (by omega)) rfl) ⟨rfl, rfl, rfl, trivial⟩

set_option maxRecDepth 100000 in
set_option maxHeartbeats 4000000 in
theorem l_append1 (l : Launch) (M : ME) (w : Nat) (s : Int) (hM : M w = some (dlO w s)) (kp : Int → Nat) (hA : M (w + 1) = some (aR 2 30 kp)) (hs : 0 ≤ s ∧ s < 30) : CF l yX0_append cX0_append 3 (some (.object "TelemetryLink$DeliveredPacket")) (rmN 1) [.ref w] M (some (.ref (kp s))) (mu M w (dlO w (s + 1))) := by
  refine CF.of (L0 := [some _, none, none]) (by decide +kernel) rfl rfl (Nat.le_of_ble_eq_true rfl) rfl (fun G A Q sz hQ => ?_)
  refine V_aload_n dX0_append_0 rfl ?_
  refine V_getf fX0_9 dX0_append_1 hM rfl ?_
  refine V_bipush (v := iI (30)) dX0_append_4 (by decide +kernel) ?_
  refine I_icmp_ge_f (tgt := 31) dX0_append_6 (by decide) ⟨by omega, by omega⟩ ⟨by omega, by omega⟩ (by omega) ?_
  refine V_aload_n dX0_append_9 rfl ?_
  refine V_dup dX0_append_10 rfl ?_
  refine V_getf fX0_9 dX0_append_11 hM rfl ?_
  refine V_iconst (v := iI (1)) dX0_append_14 rfl ?_
  refine I_iadd dX0_append_15 ?_
  refine V_putf fX0_9 dX0_append_16 hM rfl rfl (by simp) ?_
  refine V_aload_n dX0_append_19 rfl ?_
  refine V_getf fX0_17 dX0_append_20 mu_eq rfl ?_
  refine V_aload_n dX0_append_23 rfl ?_
  refine V_getf fX0_9 dX0_append_24 mu_eq rfl ?_
  refine V_iconst (v := iI (1)) dX0_append_27 rfl ?_
  refine I_isub dX0_append_28 ?_
  refine I_aald ao2 dX0_append_29 ((mu_ne (by omega)).trans hA) ⟨by omega, by omega⟩ (by decide) ?_
  exact V_aret dX0_append_30 rfl (Nat.le_of_ble_eq_true rfl) (Nat.le_of_ble_eq_true rfl) (hQ _ _ _ (by rw [show s + 1 - 1 = s by omega]) rfl)

set_option maxRecDepth 100000 in
set_option maxHeartbeats 4000000 in
theorem l_append2 (l : Launch) (M : ME) (w : Nat) (s : Int) (hM : M w = some (dlO w s)) (kp : Int → Nat) (hA : M (w + 1) = some (aR 2 30 kp)) (hs : s = 30) (hP : Pm (w + 2) 2 30 kp) (hg : ∀ k, 0 ≤ k → k < 30 → ∃ φ, DR M (kp k) φ 0) : CF l yX0_append cX0_append 3 (some (.object "TelemetryLink$DeliveredPacket")) (rmN 1) [.ref w] M (some (.ref (kp 0))) (mu M (w + 1) (aR 2 30 (rot kp 30))) := by
  obtain ⟨φ0, g0, e0, -⟩ := hg 0 (by omega) (by omega)
  have b0 := hP 0 (by omega) (by omega)
  refine CF.of (L0 := [some _, none, none]) (by decide +kernel) rfl rfl (Nat.le_of_ble_eq_true rfl) rfl (fun G A Q sz hQ => ?_)
  refine V_aload_n dX0_append_0 rfl ?_
  refine V_getf fX0_9 dX0_append_1 hM rfl ?_
  refine V_bipush (v := iI (30)) dX0_append_4 (by decide +kernel) ?_
  refine I_icmp_ge_t (tgt := 31) dX0_append_6 (by decide) ⟨by omega, by omega⟩ ⟨by omega, by omega⟩ (by omega) ?_
  refine V_aload_n dX0_append_31 rfl ?_
  refine V_getf fX0_17 dX0_append_32 hM rfl ?_
  refine V_iconst (v := iI (0)) dX0_append_35 rfl ?_
  refine I_aald ao2 dX0_append_36 hA ⟨by omega, by omega⟩ (by decide) ?_
  refine V_astore_n (L' := [some _, some _, none]) dX0_append_37 rfl (by decide) rfl ?_
  refine V_iconst (v := iI (1)) dX0_append_38 rfl ?_
  refine V_istore_n (L' := [some _, some _, some _]) dX0_append_39 rfl (by decide) rfl ?_
  have key40 : ∀ (d : Nat) (j : Int) (sz : Nat), (1 ≤ j ∧ j ≤ 30) → (30 - j).toNat = d → V l G A (rmN 1) RX0 "append" cX0_append 3 (some (.object "TelemetryLink$DeliveredPacket")) Q nX 0 0 (mu M (w + 1) (aR 2 30 (shR kp j))) sz 40 [some (.ref w), some (.ref (kp 0)), some (.int (iI j))] [] := by
    intro d
    induction d using Nat.strongRecOn with
    | ind d ih40 =>
      intro j  sz hj hd40
      refine V_iload_n dX0_append_40 rfl ?_
      refine V_bipush (v := iI (30)) dX0_append_41 (by decide +kernel) ?_
      refine I_icmp_ge (tgt := 66) dX0_append_43 (by decide) ⟨by omega, by omega⟩ ⟨by omega, by omega⟩ (fun h43 => ?_) (fun h43 => ?_)
      · refine V_aload_n dX0_append_66 rfl ?_
        refine V_getf fX0_17 dX0_append_67 ((mu_ne (by omega)).trans hM) rfl ?_
        refine V_bipush (v := iI (29)) dX0_append_70 (by decide +kernel) ?_
        refine V_aload_n dX0_append_72 rfl ?_
        refine I_aast ao2 dX0_append_73 mu_eq ((mu_ne (by omega)).trans e0) ⟨by omega, by omega⟩ (by decide) ?_
        refine V_aload_n dX0_append_74 rfl ?_
        exact V_aret dX0_append_75 rfl (Nat.le_of_ble_eq_true rfl) (Nat.le_of_ble_eq_true rfl) (hQ _ _ _ rfl (by rw [show j = 30 by omega]; simp only [mu_mu]; rfl))
      · have hsj : shR kp j j = kp j := if_neg (by omega)
        obtain ⟨φj, gj, ej, -⟩ := hg j (by omega) (by omega)
        have b1 := hP j (by omega) (by omega)
        refine V_aload_n dX0_append_46 rfl ?_
        refine V_getf fX0_17 dX0_append_47 ((mu_ne (by omega)).trans hM) rfl ?_
        refine V_iload_n dX0_append_50 rfl ?_
        refine V_iconst (v := iI (1)) dX0_append_51 rfl ?_
        refine I_isub dX0_append_52 ?_
        refine V_aload_n dX0_append_53 rfl ?_
        refine V_getf fX0_17 dX0_append_54 ((mu_ne (by omega)).trans hM) rfl ?_
        refine V_iload_n dX0_append_57 rfl ?_
        refine I_aald ao2 dX0_append_58 mu_eq ⟨by omega, by omega⟩ (by decide) ?_
        refine I_aast ao2 dX0_append_59 mu_eq ((mu_ne (by rw [hsj]; omega)).trans (by rw [hsj]; exact ej)) ⟨by omega, by omega⟩ (by decide) ?_
        refine I_iinc (L' := [some _, some _, some _]) dX0_append_60 rfl (by decide) rfl ?_
        refine V_goto (tgt := 40) dX0_append_63 (by decide) ?_
        exact V_eqM (by rw [mu_mu, shR_s hj.1]) (V_wk' (ih40 _ (by omega) (j + 1) sz ⟨by omega, by omega⟩ rfl) ⟨rfl, rfl, rfl, trivial⟩)
  exact V_eqM (by rw [shR_1, mu_self hA]) (V_wk' (key40 _ 1 sz ⟨by omega, by omega⟩ rfl) ⟨rfl, rfl, rfl, trivial⟩)

set_option maxRecDepth 100000 in
set_option maxHeartbeats 4000000 in
theorem t_copyFrom (l : Launch) (M : ME) (t t2 : Nat) (hd : t + 3 ≤ t2 ∨ t2 + 3 ≤ t) (ρ1 ρ : Int → Int) (hW1 : TR M t ρ1) (hW : TR M t2 ρ) (hb : ρ 12304 ≤ 2) : CP l yX8_copyFrom cX8_copyFrom 3 none (rmN 1) [.ref t, .ref t2] M (fun v M' => v = none ∧ TR M' t ρ ∧ FR M M' t 3) := by
  obtain ⟨gb1, gg1, a1, a2, a3, -⟩ := hW1
  obtain ⟨gb, gg, h1, h2, h3, h4⟩ := hW
  refine CP.of (L0 := [some _, some _, none]) (by decide +kernel) rfl rfl (Nat.le_of_ble_eq_true rfl) rfl (fun G A Q sz hQ => ?_)
  refine V_aload_n dX8_copyFrom_0 rfl ?_
  refine V_aload_n dX8_copyFrom_1 rfl ?_
  refine V_getf fX8_7 dX8_copyFrom_2 h1 rfl ?_
  refine V_putf fX8_7 dX8_copyFrom_5 a1 rfl rfl (by simp) ?_
  refine V_iconst (v := iI (0)) dX8_copyFrom_8 rfl ?_
  refine V_istore_n (L' := [some _, some _, some _]) dX8_copyFrom_9 rfl (by decide) rfl ?_
  have key10 : ∀ (d : Nat) (j : Int) (N : ME) (u v : Int → Int) (sz : Nat), (0 ≤ j ∧ j ≤ 2) → (N t = some (tpO t (ρ 12304))) → (N (t + 1) = some (aL 2 u)) → (N (t + 2) = some (aL 2 v)) → (∀ i, 0 ≤ i → i < j → u i = gb i ∧ v i = gg i) → (FR M N t 3) → (2 - j).toNat = d → V l G A (rmN 1) RX8 "copyFrom" cX8_copyFrom 3 none Q nX 0 0 N sz 10 [some (.ref t), some (.ref t2), some (.int (iI j))] [] := by
    intro d
    induction d using Nat.strongRecOn with
    | ind d ih10 =>
      intro j N u v  sz hj n1 n2 n3 n4 nF hd10
      refine V_iload_n dX8_copyFrom_10 rfl ?_
      refine V_iconst (v := iI (2)) dX8_copyFrom_11 rfl ?_
      refine I_icmp_ge (tgt := 45) dX8_copyFrom_12 (by decide) ⟨by omega, by omega⟩ ⟨by omega, by omega⟩ (fun h12 => ?_) (fun h12 => ?_)
      · exact V_ret dX8_copyFrom_45 rfl (Nat.le_of_ble_eq_true rfl) (Nat.le_of_ble_eq_true rfl) (hQ _ _ _ ⟨rfl, ⟨u, v, n1, n2, n3, fun i a b => by rw [(n4 i a (by omega)).1, (n4 i a (by omega)).2]; exact h4 i a b⟩, nF⟩)
      · refine V_aload_n dX8_copyFrom_15 rfl ?_
        refine V_getf fX8_13 dX8_copyFrom_16 n1 rfl ?_
        refine V_iload_n dX8_copyFrom_19 rfl ?_
        refine V_aload_n dX8_copyFrom_20 rfl ?_
        refine V_getf fX8_13 dX8_copyFrom_21 ((nF _ (by omega)).trans h1) rfl ?_
        refine V_iload_n dX8_copyFrom_24 rfl ?_
        refine I_lald dX8_copyFrom_25 ((nF _ (by omega)).trans h2) ⟨by omega, by omega⟩ (by decide) ?_
        refine I_last dX8_copyFrom_26 n2 ⟨by omega, by omega⟩ (by decide) ?_
        refine V_aload_n dX8_copyFrom_27 rfl ?_
        refine V_getf fX8_17 dX8_copyFrom_28 ((mu_ne (by omega)).trans n1) rfl ?_
        refine V_iload_n dX8_copyFrom_31 rfl ?_
        refine V_aload_n dX8_copyFrom_32 rfl ?_
        refine V_getf fX8_17 dX8_copyFrom_33 ((mu_ne (by omega)).trans ((nF _ (by omega)).trans h1)) rfl ?_
        refine V_iload_n dX8_copyFrom_36 rfl ?_
        refine I_lald dX8_copyFrom_37 ((mu_ne (by omega)).trans ((nF _ (by omega)).trans h3)) ⟨by omega, by omega⟩ (by decide) ?_
        refine I_last dX8_copyFrom_38 ((mu_ne (by omega)).trans n3) ⟨by omega, by omega⟩ (by decide) ?_
        have hT1 : ∀ i, 0 ≤ i → i < j + 1 → up u j (gb j) i = gb i ∧ up v j (gg j) i = gg i := fun i a b => by
          by_cases e : i = j
          · rw [e, up_s, up_s]; exact ⟨rfl, rfl⟩
          · rw [up_n e, up_n e]; exact n4 i a (by omega)
        refine I_iinc (L' := [some _, some _, some _]) dX8_copyFrom_39 rfl (by decide) rfl ?_
        refine V_goto (tgt := 10) dX8_copyFrom_42 (by decide) ?_
        exact V_wk' (ih10 _ (by omega) (j + 1) _ (up u j (gb j)) (up v j (gg j)) sz ⟨by omega, by omega⟩ ((mu_ne (by omega)).trans ((mu_ne (by omega)).trans n1)) ((mu_ne (by omega)).trans mu_eq) mu_eq hT1 ((nF.mu (by omega)).mu (by omega)) rfl) ⟨rfl, rfl, rfl, trivial⟩
  exact V_wk' (key10 _ 0 _ _ _ sz ⟨by omega, by omega⟩ mu_eq ((mu_ne (by omega)).trans a2) ((mu_ne (by omega)).trans a3) (fun i a b => by omega) (FR.rf.mu (by omega)) rfl) ⟨rfl, rfl, rfl, trivial⟩

set_option maxRecDepth 100000 in
set_option maxHeartbeats 4000000 in
theorem t_note (l : Launch) (M : ME) (t : Nat) (ρ : Int → Int) (hW : TR M t ρ) (hT : Tp ρ) (x y : Int) : CP l yX8_note cX8_note 5 none (rmN 1) [.ref t, .long (lI x), .long (lI y)] M (fun v M' => v = none ∧ TR M' t (rno ρ x y) ∧ FR M M' t 3) := by
  have hT0 := hT.1
  have hri := rnp_i hT
  obtain ⟨gb, gg, h1, h2, h3, h4⟩ := hW
  have hpe : ¬ ρ 12304 = 2 → rnp ρ = ρ := fun z => by unfold rnp; rw [if_neg z]
  have hp0 : ¬ ρ 12304 = 2 → rnp ρ 12304 = ρ 12304 := fun z => by rw [hpe z]
  have hp1 : ρ 12304 = 2 → rnp ρ 12304 = 1 := fun z => by unfold rnp; rw [if_pos z, up_s]; omega
  have hp2 : ρ 12304 = 2 → ∀ i, 0 ≤ i → i < rnp ρ 12304 → up gb 0 (gb 1) i = rnp ρ (12305 + 2 * i) ∧ up gg 0 (gg 1) i = rnp ρ (12305 + 2 * i + 1) := fun z i a b => by
    rw [hp1 z] at b
    rw [show i = 0 by omega, up_s, up_s, (h4 1 (by omega) (by omega)).1, (h4 1 (by omega) (by omega)).2]
    unfold rnp
    rw [if_pos z]
    exact ⟨by rw [up_n (by omega), up_n (by omega)]; exact up_s.symm, by rw [up_n (by omega)]; exact up_s.symm⟩
  refine CP.of (L0 := [some _, some _, none, some _, none]) (by decide +kernel) rfl rfl (Nat.le_of_ble_eq_true rfl) rfl (fun G A Q sz hQ => ?_)
  have j37 : ∀ (N : ME) (u v : Int → Int) (sz : Nat), (N t = some (tpO t (rnp ρ 12304))) → (N (t + 1) = some (aL 2 u)) → (N (t + 2) = some (aL 2 v)) → (∀ i, 0 ≤ i → i < rnp ρ 12304 → u i = rnp ρ (12305 + 2 * i) ∧ v i = rnp ρ (12305 + 2 * i + 1)) → (FR M N t 3) → V l G A (rmN 1) RX8 "note" cX8_note 5 none Q nX 0 0 N sz 37 [some (.ref t), some (.long (lI x)), none, some (.long (lI y)), none] [] := by
    intro N u v  sz n1 n2 n3 n4 nF
    refine V_aload_n dX8_note_37 rfl ?_
    refine V_getf fX8_13 dX8_note_38 n1 rfl ?_
    refine V_aload_n dX8_note_41 rfl ?_
    refine V_getf fX8_7 dX8_note_42 n1 rfl ?_
    refine V_lload_n dX8_note_45 rfl ?_
    refine I_last dX8_note_46 n2 ⟨by omega, by omega⟩ (by decide) ?_
    refine V_aload_n dX8_note_47 rfl ?_
    refine V_getf fX8_17 dX8_note_48 ((mu_ne (by omega)).trans n1) rfl ?_
    refine V_aload_n dX8_note_51 rfl ?_
    refine V_getf fX8_7 dX8_note_52 ((mu_ne (by omega)).trans n1) rfl ?_
    refine V_lload_n dX8_note_55 rfl ?_
    refine I_last dX8_note_56 ((mu_ne (by omega)).trans n3) ⟨by omega, by omega⟩ (by decide) ?_
    refine V_aload_n dX8_note_57 rfl ?_
    refine V_dup dX8_note_58 rfl ?_
    refine V_getf fX8_7 dX8_note_59 ((mu_ne (by omega)).trans ((mu_ne (by omega)).trans n1)) rfl ?_
    refine V_iconst (v := iI (1)) dX8_note_62 rfl ?_
    refine I_iadd dX8_note_63 ?_
    refine V_putf fX8_7 dX8_note_64 ((mu_ne (by omega)).trans ((mu_ne (by omega)).trans n1)) rfl rfl (by simp) ?_
    have hz : rno ρ x y 12304 = rnp ρ 12304 + 1 := by unfold rno; rw [up_s]
    have hfin : ∀ i, 0 ≤ i → i < rno ρ x y 12304 → up u (rnp ρ 12304) x i = rno ρ x y (12305 + 2 * i) ∧ up v (rnp ρ 12304) y i = rno ρ x y (12305 + 2 * i + 1) := fun i a b => by
      rw [hz] at b
      unfold rno
      by_cases e : i = rnp ρ 12304
      · rw [e]; exact ⟨by rw [up_s, up_n (by omega), up_n (by omega), up_s], by rw [up_s, up_n (by omega), up_s]⟩
      · rw [up_n e, up_n e]; exact ⟨by rw [up_n (by omega), up_n (by omega), up_n (by omega)]; exact (n4 i a (by omega)).1, by rw [up_n (by omega), up_n (by omega), up_n (by omega)]; exact (n4 i a (by omega)).2⟩
    exact V_ret dX8_note_67 rfl (Nat.le_of_ble_eq_true rfl) (Nat.le_of_ble_eq_true rfl) (hQ _ _ _ ⟨rfl, ⟨_, _, mu_eq.trans (by rw [hz]; rfl), (mu_ne (by omega)).trans ((mu_ne (by omega)).trans mu_eq), (mu_ne (by omega)).trans mu_eq, hfin⟩, ((nF.mu (by omega)).mu (by omega)).mu (by omega)⟩)
  refine V_aload_n dX8_note_0 rfl ?_
  refine V_getf fX8_7 dX8_note_1 h1 rfl ?_
  refine V_iconst (v := iI (2)) dX8_note_4 rfl ?_
  refine I_icmp_lt (tgt := 37) dX8_note_5 (by decide) ⟨by omega, by omega⟩ ⟨by omega, by omega⟩ (fun h5 => ?_) (fun h5 => ?_)
  · first
    | exact V_wk' (j37 _ _ _ _ (by rw [hp0 (by omega)]; exact h1) h2 h3 (fun i a b => by rw [hpe (by omega)] at b ⊢; exact h4 i a b) FR.rf) ⟨rfl, rfl, rfl, trivial⟩
    | exact V_wk' (j37 _ _ _ _ (by rw [hp1 (by omega)]; exact mu_eq) ((mu_ne (by omega)).trans ((mu_ne (by omega)).trans mu_eq)) ((mu_ne (by omega)).trans mu_eq) (hp2 (by omega)) (((FR.rf.mu (by omega)).mu (by omega)).mu (by omega))) ⟨rfl, rfl, rfl, trivial⟩
  · refine V_aload_n dX8_note_8 rfl ?_
    refine V_getf fX8_13 dX8_note_9 h1 rfl ?_
    refine V_iconst (v := iI (0)) dX8_note_12 rfl ?_
    refine V_aload_n dX8_note_13 rfl ?_
    refine V_getf fX8_13 dX8_note_14 h1 rfl ?_
    refine V_iconst (v := iI (1)) dX8_note_17 rfl ?_
    refine I_lald dX8_note_18 h2 ⟨by omega, by omega⟩ (by decide) ?_
    refine I_last dX8_note_19 h2 ⟨by omega, by omega⟩ (by decide) ?_
    refine V_aload_n dX8_note_20 rfl ?_
    refine V_getf fX8_17 dX8_note_21 ((mu_ne (by omega)).trans h1) rfl ?_
    refine V_iconst (v := iI (0)) dX8_note_24 rfl ?_
    refine V_aload_n dX8_note_25 rfl ?_
    refine V_getf fX8_17 dX8_note_26 ((mu_ne (by omega)).trans h1) rfl ?_
    refine V_iconst (v := iI (1)) dX8_note_29 rfl ?_
    refine I_lald dX8_note_30 ((mu_ne (by omega)).trans h3) ⟨by omega, by omega⟩ (by decide) ?_
    refine I_last dX8_note_31 ((mu_ne (by omega)).trans h3) ⟨by omega, by omega⟩ (by decide) ?_
    refine V_aload_n dX8_note_32 rfl ?_
    refine V_iconst (v := iI (1)) dX8_note_33 rfl ?_
    refine V_putf fX8_7 dX8_note_34 ((mu_ne (by omega)).trans ((mu_ne (by omega)).trans h1)) rfl rfl (by simp) ?_
    first
    | exact V_wk' (j37 _ _ _ _ (by rw [hp0 (by omega)]; exact h1) h2 h3 (fun i a b => by rw [hpe (by omega)] at b ⊢; exact h4 i a b) FR.rf) ⟨rfl, rfl, rfl, trivial⟩
    | exact V_wk' (j37 _ _ _ _ (by rw [hp1 (by omega)]; exact mu_eq) ((mu_ne (by omega)).trans ((mu_ne (by omega)).trans mu_eq)) ((mu_ne (by omega)).trans mu_eq) (hp2 (by omega)) (((FR.rf.mu (by omega)).mu (by omega)).mu (by omega))) ⟨rfl, rfl, rfl, trivial⟩
