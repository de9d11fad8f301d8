abbrev rI6 : Room := { frames := 3, cells := 14, slots := 78, locals := 120 }

set_option maxRecDepth 100000 in
set_option maxHeartbeats 4000000 in
theorem nw6 (l : Launch) (M : ME) (c : Nat) (hM : M c = some (.inl (6, [.int (iI 0), .int (iI 0), .int (iI 0), .int (iI 0), .int (iI 0), .int (iI 0), .int (iI 0), .int (iI 0), .int (iI 0), .int (iI 0), .null]))) : CIn l yX6_init cX6_init 2 rI6 c M (c + 1) (c + 15) (fun M' => (∀ ch, 0 ≤ ch → ch ≤ 3 → SC M' c ini ch) ∧ FR M M' c 15) := by
  refine CIn.of (L0 := [some _, none]) (by decide +kernel) rfl rfl (Nat.le_of_ble_eq_true rfl) rfl (fun G A Q hQ => ?_)
  refine V_aload_n dX6_init_0 rfl ?_
  refine V_objInit mX6_3 oi_inst oi_code dX6_init_1 (by decide) (by decide) ?_
  refine V_aload_n dX6_init_4 rfl ?_
  refine V_iconst (v := iI (0)) dX6_init_5 rfl ?_
  refine V_putf fX6_9 dX6_init_6 hM rfl rfl (by simp) ?_
  refine V_aload_n dX6_init_9 rfl ?_
  refine V_bipush (v := iI (50)) dX6_init_10 (by decide +kernel) ?_
  refine V_putf fX6_15 dX6_init_12 mu_eq rfl rfl (by simp) ?_
  refine V_aload_n dX6_init_15 rfl ?_
  refine V_iconst (v := iI (0)) dX6_init_16 rfl ?_
  refine V_putf fX6_18 dX6_init_17 mu_eq rfl rfl (by simp) ?_
  refine V_aload_n dX6_init_20 rfl ?_
  refine V_iconst (v := iI (0)) dX6_init_21 rfl ?_
  refine V_putf fX6_21 dX6_init_22 mu_eq rfl rfl (by simp) ?_
  refine V_aload_n dX6_init_25 rfl ?_
  refine V_iconst (v := iI (0)) dX6_init_26 rfl ?_
  refine V_putf fX6_24 dX6_init_27 mu_eq rfl rfl (by simp) ?_
  refine V_aload_n dX6_init_30 rfl ?_
  refine V_iconst (v := iI (0)) dX6_init_31 rfl ?_
  refine V_putf fX6_27 dX6_init_32 mu_eq rfl rfl (by simp) ?_
  refine V_aload_n dX6_init_35 rfl ?_
  refine V_iconst (v := iI (0)) dX6_init_36 rfl ?_
  refine V_putf fX6_30 dX6_init_37 mu_eq rfl rfl (by simp) ?_
  refine V_aload_n dX6_init_40 rfl ?_
  refine V_iconst (v := iI (-1)) dX6_init_41 rfl ?_
  refine V_putf fX6_33 dX6_init_42 mu_eq rfl rfl (by simp) ?_
  refine V_aload_n dX6_init_45 rfl ?_
  refine V_iconst (v := iI (0)) dX6_init_46 rfl ?_
  refine V_putf fX6_36 dX6_init_47 mu_eq rfl rfl (by simp) ?_
  refine V_aload_n dX6_init_50 rfl ?_
  refine V_iconst (v := iI (0)) dX6_init_51 rfl ?_
  refine V_putf fX6_39 dX6_init_52 mu_eq rfl rfl (by simp) ?_
  refine V_aload_n dX6_init_55 rfl ?_
  refine V_bipush (v := nI (13)) dX6_init_56 (by decide +kernel) ?_
  refine V_sz (sz' := (c + 1)) (by omega) ?_
  refine V_newq (N := 13) (t := 4) (by decide) rfl kX6_42 (by decide) dX6_init_58 (by decide) (le_r (b := 14) (by omega) rfl) (le_r (b := 78) (by omega) rfl) ?_
  refine V_putF fX6_44 dX6_init_61 ((mu_ne (by omega)).trans mu_eq) rfl rfl (by simp) rfl rfl ?_
  refine V_gen (fun K hK => ?_)
  have gK0 := (congrFun hK c).trans mu_eq
  have gK1 := (congrFun hK (c + 1)).trans ((mu_ne (by omega)).trans mu_eq)
  have hKo : ∀ q, q ≠ c → q ≠ c + 1 → K q = M q := fun q u v => by
    rw [hK]; simp only [mu]; simp only [if_neg u, if_neg v]
  refine V_iconst (v := iI (0)) dX6_init_64 rfl ?_
  refine V_istore_n (L' := [some _, some _]) dX6_init_65 rfl (by decide) rfl ?_
  have key66 : ∀ (d : Nat) (i : Int) (k n sz : Nat) (N : ME), (0 ≤ i ∧ i ≤ 13) → (k = 1 + i.toNat) → (n = 13 + 5 * i.toNat) → (sz = c + 2 + i.toNat) → (N c = some (scC 0 50 0 0 0 0 0 (-1) 0 0 (c + 1))) → (N (c + 1) = some (ar 4 13 (pR i (c + 2) 1))) → (∀ j : Int, 0 ≤ j → j < i → N (c + 2 + 1 * j.toNat) = some (qp (fun _ => 0))) → (FR M N c 15) → (13 - i).toNat = d → V l G A rI6 RX6 "<init>" cX6_init 2 none Q nX k n N sz 66 [some (.ref c), some (.int (iI i))] [] := by
    intro d
    induction d using Nat.strongRecOn with
    | ind d ih66 =>
      intro i k n sz N hi hk hn hz n0 n1 n2 n3 hd66
      refine V_iload_n dX6_init_66 rfl ?_
      refine V_bipush (v := iI (13)) dX6_init_67 (by decide +kernel) ?_
      refine I_icmp_ge (tgt := 91) dX6_init_69 (by decide) ⟨by omega, by omega⟩ ⟨by omega, by omega⟩ (fun h69 => ?_) (fun h69 => ?_)
      · have hi13 : i = 13 := by omega
        refine V_full (fun j => c + 2 + 1 * j.toNat) n1 (pR_f hi13) ?_
        rw [hi13] at n2
        have hO : ∀ ch, 0 ≤ ch → ch ≤ 3 → SC (mu N (c + 1) (aR 4 13 (fun j => c + 2 + 1 * j.toNat))) c ini ch := fun ch a b => by
          refine ⟨_, fun _ _ => 0, ?_, mu_eq, Pm1, fun j x y => (mu_ne (by omega)).trans (n2 j x y), by rw [ini_0 (by omega)]; omega, fun j x y => by rw [ini_0 (by omega)] at y; omega⟩
          rw [mu_ne (by omega), n0, ini_pd ⟨a, b⟩, ini_0 (q := 25 + ch) (by omega), ini_50 (q := 29 + ch) (by omega), ini_0 (q := 33 + ch) (by omega), ini_0 (q := 37 + ch) (by omega), ini_0 (q := 41 + ch) (by omega), ini_0 (q := 46 + ch) (by omega), ini_m (q := 50 + ch) (by omega), ini_0 (q := 54 + ch) (by omega), ini_0 (q := 58 + ch) (by omega)]
        refine V_sz (sz' := c + 15) (by omega) ?_
        exact V_ret dX6_init_91 rfl (le_r (b := 14) (by omega) rfl) (le_r (b := 78) (by omega) rfl) (hQ _ ⟨hO, fun q hq => (mu_ne (by omega)).trans (n3 q hq)⟩)
      · refine V_aload_n dX6_init_72 rfl ?_
        refine V_getf fX6_44 dX6_init_73 n0 rfl ?_
        refine V_iload_n dX6_init_76 rfl ?_
        refine V_sz (sz' := (c + 2 + 1 * i.toNat)) (by omega) ?_
        refine V_nw (f := 5) (fs := [.int (iI 0), .int (iI 0), .int (iI 0), .int (iI 0), .int (iI 0)]) rfl clX3 df3 kX6_42 in3_a in3_b dX6_init_77 (le_r (b := 14) (by omega) rfl) (le_r (b := 78) (by omega) rfl) ?_
        refine V_dup dX6_init_80 rfl ?_
        refine V_kN 0 0 (nw3 l _ (c + 2 + 1 * i.toNat) _ mu_eq) mX6_48 coX3_init rfl rfl dX6_init_81 ⟨(Nat.le_of_ble_eq_true rfl), (Nat.le_of_ble_eq_true rfl)⟩ (Nat.le_of_ble_eq_true rfl) ⟨(le_r (b := 14) (by omega) rfl), (le_r (b := 78) (by omega) rfl)⟩ (fun N1 hp => ?_)
        obtain rfl := hp
        refine V_fill ao4 dX6_init_84 ((mu_ne (by omega)).trans n1) mu_eq ⟨by omega, by omega⟩ (by decide) ?_
        refine I_iinc (L' := [some _, some _]) dX6_init_85 rfl (by decide) rfl ?_
        refine V_goto (tgt := 66) dX6_init_88 (by decide) ?_
        exact V_wk' (ih66 _ (by omega) (i + 1) _ _ _ _ ⟨by omega, by omega⟩ (by omega) (by omega) (by omega) ((mu_ne (by omega)).trans ((mu_ne (by omega)).trans n0)) mu_eq (fun j a b => by by_cases e : j = i; (· rw [e]; exact (mu_ne (by omega)).trans mu_eq); (· exact (mu_ne (by omega)).trans ((mu_ne (by omega)).trans (n2 j a (by omega))))) (fun q hq => (mu_ne (by omega)).trans ((mu_ne (by omega)).trans (n3 q hq))) rfl) ⟨rfl, rfl, trivial⟩
  exact V_wk' (key66 _ 0 _ _ _ _ ⟨by omega, by omega⟩ (by show _ = 1 + Int.toNat 0; omega) (by show _ = 13 + 5 * Int.toNat 0; omega) (by show _ = c + 2 + Int.toNat 0; omega) gK0 (by rw [pR_0]; exact gK1) (fun j a b => by omega) (fun q hq => hKo q (by omega) (by omega)) rfl) ⟨rfl, rfl, trivial⟩

abbrev rI9 : Room := { frames := 3, cells := 121, slots := 3120, locals := 120 }

set_option maxRecDepth 100000 in
set_option maxHeartbeats 4000000 in
theorem nw9 (l : Launch) (M : ME) (c : Nat) (hM : M c = some (.inl (9, [.int (iI 0), .null]))) : CIn l yX9_init cX9_init 2 rI9 c M (c + 1) (c + 122) (fun M' => WR M' c ini ∧ FR M M' c 122) := by
  refine CIn.of (L0 := [some _, none]) (by decide +kernel) rfl rfl (Nat.le_of_ble_eq_true rfl) rfl (fun G A Q hQ => ?_)
  refine V_aload_n dX9_init_0 rfl ?_
  refine V_objInit mX9_3 oi_inst oi_code dX9_init_1 (by decide) (by decide) ?_
  refine V_aload_n dX9_init_4 rfl ?_
  refine V_iconst (v := iI (0)) dX9_init_5 rfl ?_
  refine V_putf fX9_9 dX9_init_6 hM rfl rfl (by simp) ?_
  refine V_aload_n dX9_init_9 rfl ?_
  refine V_bipush (v := nI (60)) dX9_init_10 (by decide +kernel) ?_
  refine V_sz (sz' := (c + 1)) (by omega) ?_
  refine V_newq (N := 60) (t := 3) (by decide) rfl kX9_15 (by decide) dX9_init_12 (by decide) (le_r (b := 121) (by omega) rfl) (le_r (b := 3120) (by omega) rfl) ?_
  refine V_putF fX9_17 dX9_init_15 ((mu_ne (by omega)).trans mu_eq) rfl rfl (by simp) rfl rfl ?_
  refine V_gen (fun K hK => ?_)
  have gK0 := (congrFun hK c).trans mu_eq
  have gK1 := (congrFun hK (c + 1)).trans ((mu_ne (by omega)).trans mu_eq)
  have hKo : ∀ q, q ≠ c → q ≠ c + 1 → K q = M q := fun q u v => by
    rw [hK]; simp only [mu]; simp only [if_neg u, if_neg v]
  refine V_iconst (v := iI (0)) dX9_init_18 rfl ?_
  refine V_istore_n (L' := [some _, some _]) dX9_init_19 rfl (by decide) rfl ?_
  have key20 : ∀ (d : Nat) (i : Int) (k n sz : Nat) (N : ME), (0 ≤ i ∧ i ≤ 60) → (k = 1 + 2 * i.toNat) → (n = 60 + 51 * i.toNat) → (sz = c + 2 + 2 * i.toNat) → (N c = some (wiO c 0)) → (N (c + 1) = some (ar 3 60 (pR i (c + 2) 2))) → (∀ j : Int, 0 ≤ j → j < i → ∃ φ, FO N (c + 2 + 2 * j.toNat) φ 0) → (FR M N c 122) → (60 - i).toNat = d → V l G A rI9 RX9 "<init>" cX9_init 2 none Q nX k n N sz 20 [some (.ref c), some (.int (iI i))] [] := by
    intro d
    induction d using Nat.strongRecOn with
    | ind d ih20 =>
      intro i k n sz N hi hk hn hz n0 n1 n2 n3 hd20
      refine V_iload_n dX9_init_20 rfl ?_
      refine V_bipush (v := iI (60)) dX9_init_21 (by decide +kernel) ?_
      refine I_icmp_ge (tgt := 45) dX9_init_23 (by decide) ⟨by omega, by omega⟩ ⟨by omega, by omega⟩ (fun h23 => ?_) (fun h23 => ?_)
      · have hi13 : i = 60 := by omega
        refine V_full (fun j => c + 2 + 2 * j.toNat) n1 (pR_f hi13) ?_
        rw [hi13] at n2
        have e0 : ini 382 = 0 := ini_0 (by omega)
        have hO : WR (mu N (c + 1) (aR 3 60 (fun j => c + 2 + 2 * j.toNat))) c ini := by
          refine ⟨_, by rw [mu_ne (by omega), e0]; exact n0, mu_eq, Pm2, by rw [e0]; omega, fun j x y => ?_, fun j x y => by rw [e0] at y; omega⟩
          obtain ⟨φ2, h2⟩ := n2 j x y
          exact ⟨φ2, h2.mv ⟨mu_ne (by omega), mu_ne (by omega)⟩ (by omega) (fun _ _ _ => rfl)⟩
        refine V_sz (sz' := c + 122) (by omega) ?_
        exact V_ret dX9_init_45 rfl (le_r (b := 121) (by omega) rfl) (le_r (b := 3120) (by omega) rfl) (hQ _ ⟨hO, fun q hq => (mu_ne (by omega)).trans (n3 q hq)⟩)
      · refine V_aload_n dX9_init_26 rfl ?_
        refine V_getf fX9_17 dX9_init_27 n0 rfl ?_
        refine V_iload_n dX9_init_30 rfl ?_
        refine V_sz (sz' := (c + 2 + 2 * i.toNat)) (by omega) ?_
        refine V_nw (f := 5) (fs := [.int (iI 0), .int (iI 0), .long (lI 0), .long (lI 0), .null]) rfl clX2 df2 kX9_15 in2_a in2_b dX9_init_31 (le_r (b := 121) (by omega) rfl) (le_r (b := 3120) (by omega) rfl) ?_
        refine V_dup dX9_init_34 rfl ?_
        refine V_kN 1 46 (nw2 l _ (c + 2 + 2 * i.toNat) mu_eq) mX9_21 coX2_init rfl rfl dX9_init_35 ⟨(Nat.le_of_ble_eq_true rfl), (Nat.le_of_ble_eq_true rfl)⟩ (Nat.le_of_ble_eq_true rfl) ⟨(le_r (b := 121) (by omega) rfl), (le_r (b := 3120) (by omega) rfl)⟩ (fun N1 hp => ?_)
        obtain ⟨⟨φ1, hO1⟩, hF1⟩ := hp
        obtain ⟨g1, o1, -⟩ := id hO1
        refine V_fill ao3 dX9_init_38 ((hF1 _ (by omega)).trans ((mu_ne (by omega)).trans n1)) o1 ⟨by omega, by omega⟩ (by decide) ?_
        refine I_iinc (L' := [some _, some _]) dX9_init_39 rfl (by decide) rfl ?_
        refine V_goto (tgt := 20) dX9_init_42 (by decide) ?_
        exact V_wk' (ih20 _ (by omega) (i + 1) _ _ _ _ ⟨by omega, by omega⟩ (by omega) (by omega) (by omega) ((mu_ne (by omega)).trans ((hF1 _ (by omega)).trans ((mu_ne (by omega)).trans n0))) mu_eq (fun j a b => by by_cases e : j = i; (· rw [e]; exact ⟨_, hO1.mv ⟨mu_ne (by omega), mu_ne (by omega)⟩ (by omega) (fun _ _ _ => rfl)⟩); (· obtain ⟨φ2, h2⟩ := n2 j a (by omega); exact ⟨φ2, h2.mv ⟨(mu_ne (by omega)).trans ((hF1 _ (by omega)).trans (mu_ne (by omega))), (mu_ne (by omega)).trans ((hF1 _ (by omega)).trans (mu_ne (by omega)))⟩ (by omega) (fun _ _ _ => rfl)⟩)) (fun q hq => (mu_ne (by omega)).trans ((hF1 q (by omega)).trans ((mu_ne (by omega)).trans (n3 q hq)))) rfl) ⟨rfl, rfl, trivial⟩
  exact V_wk' (key20 _ 0 _ _ _ _ ⟨by omega, by omega⟩ (by show _ = 1 + 2 * Int.toNat 0; omega) (by show _ = 60 + 51 * Int.toNat 0; omega) (by show _ = c + 2 + 2 * Int.toNat 0; omega) gK0 (by rw [pR_0]; exact gK1) (fun j a b => by omega) (fun q hq => hKo q (by omega) (by omega)) rfl) ⟨rfl, rfl, trivial⟩

abbrev rI0 : Room := { frames := 3, cells := 61, slots := 7830, locals := 120 }

set_option maxRecDepth 100000 in
set_option maxHeartbeats 4000000 in
theorem nw0 (l : Launch) (M : ME) (c : Nat) (hM : M c = some (.inl (0, [.int (iI 0), .null]))) : CIn l yX0_init cX0_init 2 rI0 c M (c + 1) (c + 62) (fun M' => DL M' c ini ∧ FR M M' c 62) := by
  refine CIn.of (L0 := [some _, none]) (by decide +kernel) rfl rfl (Nat.le_of_ble_eq_true rfl) rfl (fun G A Q hQ => ?_)
  refine V_aload_n dX0_init_0 rfl ?_
  refine V_objInit mX0_3 oi_inst oi_code dX0_init_1 (by decide) (by decide) ?_
  refine V_aload_n dX0_init_4 rfl ?_
  refine V_iconst (v := iI (0)) dX0_init_5 rfl ?_
  refine V_putf fX0_9 dX0_init_6 hM rfl rfl (by simp) ?_
  refine V_aload_n dX0_init_9 rfl ?_
  refine V_bipush (v := nI (30)) dX0_init_10 (by decide +kernel) ?_
  refine V_sz (sz' := (c + 1)) (by omega) ?_
  refine V_newq (N := 30) (t := 2) (by decide) rfl kX0_15 (by decide) dX0_init_12 (by decide) (le_r (b := 61) (by omega) rfl) (le_r (b := 7830) (by omega) rfl) ?_
  refine V_putF fX0_17 dX0_init_15 ((mu_ne (by omega)).trans mu_eq) rfl rfl (by simp) rfl rfl ?_
  refine V_gen (fun K hK => ?_)
  have gK0 := (congrFun hK c).trans mu_eq
  have gK1 := (congrFun hK (c + 1)).trans ((mu_ne (by omega)).trans mu_eq)
  have hKo : ∀ q, q ≠ c → q ≠ c + 1 → K q = M q := fun q u v => by
    rw [hK]; simp only [mu]; simp only [if_neg u, if_neg v]
  refine V_iconst (v := iI (0)) dX0_init_18 rfl ?_
  refine V_istore_n (L' := [some _, some _]) dX0_init_19 rfl (by decide) rfl ?_
  have key20 : ∀ (d : Nat) (i : Int) (k n sz : Nat) (N : ME), (0 ≤ i ∧ i ≤ 30) → (k = 1 + 2 * i.toNat) → (n = 30 + 260 * i.toNat) → (sz = c + 2 + 2 * i.toNat) → (N c = some (dlO c 0)) → (N (c + 1) = some (ar 2 30 (pR i (c + 2) 2))) → (∀ j : Int, 0 ≤ j → j < i → ∃ φ, DR N (c + 2 + 2 * j.toNat) φ 0) → (FR M N c 62) → (30 - i).toNat = d → V l G A rI0 RX0 "<init>" cX0_init 2 none Q nX k n N sz 20 [some (.ref c), some (.int (iI i))] [] := by
    intro d
    induction d using Nat.strongRecOn with
    | ind d ih20 =>
      intro i k n sz N hi hk hn hz n0 n1 n2 n3 hd20
      refine V_iload_n dX0_init_20 rfl ?_
      refine V_bipush (v := iI (30)) dX0_init_21 (by decide +kernel) ?_
      refine I_icmp_ge (tgt := 45) dX0_init_23 (by decide) ⟨by omega, by omega⟩ ⟨by omega, by omega⟩ (fun h23 => ?_) (fun h23 => ?_)
      · have hi13 : i = 30 := by omega
        refine V_full (fun j => c + 2 + 2 * j.toNat) n1 (pR_f hi13) ?_
        rw [hi13] at n2
        have e0 : ini 4503 = 0 := ini_0 (by omega)
        have hO : DL (mu N (c + 1) (aR 2 30 (fun j => c + 2 + 2 * j.toNat))) c ini := by
          refine ⟨_, by rw [mu_ne (by omega), e0]; exact n0, mu_eq, Pm2, by rw [e0]; omega, fun j x y => ?_, fun j x y => by rw [e0] at y; omega⟩
          obtain ⟨φ2, h2⟩ := n2 j x y
          exact ⟨φ2, h2.mv ⟨mu_ne (by omega), mu_ne (by omega)⟩ (by omega) (fun _ _ _ => rfl)⟩
        refine V_sz (sz' := c + 62) (by omega) ?_
        exact V_ret dX0_init_45 rfl (le_r (b := 61) (by omega) rfl) (le_r (b := 7830) (by omega) rfl) (hQ _ ⟨hO, fun q hq => (mu_ne (by omega)).trans (n3 q hq)⟩)
      · refine V_aload_n dX0_init_26 rfl ?_
        refine V_getf fX0_17 dX0_init_27 n0 rfl ?_
        refine V_iload_n dX0_init_30 rfl ?_
        refine V_sz (sz' := (c + 2 + 2 * i.toNat)) (by omega) ?_
        refine V_nw (f := 5) (fs := [.int (iI 0), .int (iI 0), .int (iI 0), .int (iI 0), .null]) rfl clX1 df1 kX0_15 in1_a in1_b dX0_init_31 (le_r (b := 61) (by omega) rfl) (le_r (b := 7830) (by omega) rfl) ?_
        refine V_dup dX0_init_34 rfl ?_
        refine V_kN 1 255 (nw1 l _ (c + 2 + 2 * i.toNat) mu_eq) mX0_21 coX1_init rfl rfl dX0_init_35 ⟨(Nat.le_of_ble_eq_true rfl), (Nat.le_of_ble_eq_true rfl)⟩ (Nat.le_of_ble_eq_true rfl) ⟨(le_r (b := 61) (by omega) rfl), (le_r (b := 7830) (by omega) rfl)⟩ (fun N1 hp => ?_)
        obtain ⟨⟨φ1, hO1⟩, hF1⟩ := hp
        obtain ⟨g1, o1, -⟩ := id hO1
        refine V_fill ao2 dX0_init_38 ((hF1 _ (by omega)).trans ((mu_ne (by omega)).trans n1)) o1 ⟨by omega, by omega⟩ (by decide) ?_
        refine I_iinc (L' := [some _, some _]) dX0_init_39 rfl (by decide) rfl ?_
        refine V_goto (tgt := 20) dX0_init_42 (by decide) ?_
        exact V_wk' (ih20 _ (by omega) (i + 1) _ _ _ _ ⟨by omega, by omega⟩ (by omega) (by omega) (by omega) ((mu_ne (by omega)).trans ((hF1 _ (by omega)).trans ((mu_ne (by omega)).trans n0))) mu_eq (fun j a b => by by_cases e : j = i; (· rw [e]; exact ⟨_, hO1.mv ⟨mu_ne (by omega), mu_ne (by omega)⟩ (by omega) (fun _ _ _ => rfl)⟩); (· obtain ⟨φ2, h2⟩ := n2 j a (by omega); exact ⟨φ2, h2.mv ⟨(mu_ne (by omega)).trans ((hF1 _ (by omega)).trans (mu_ne (by omega))), (mu_ne (by omega)).trans ((hF1 _ (by omega)).trans (mu_ne (by omega)))⟩ (by omega) (fun _ _ _ => rfl)⟩)) (fun q hq => (mu_ne (by omega)).trans ((hF1 q (by omega)).trans ((mu_ne (by omega)).trans (n3 q hq)))) rfl) ⟨rfl, rfl, trivial⟩
  exact V_wk' (key20 _ 0 _ _ _ _ ⟨by omega, by omega⟩ (by show _ = 1 + 2 * Int.toNat 0; omega) (by show _ = 30 + 260 * Int.toNat 0; omega) (by show _ = c + 2 + 2 * Int.toNat 0; omega) gK0 (by rw [pR_0]; exact gK1) (fun j a b => by omega) (fun q hq => hKo q (by omega) (by omega)) rfl) ⟨rfl, rfl, trivial⟩

abbrev rI4 : Room := { frames := 2, cells := 1, slots := 258, locals := 80 }

set_option maxRecDepth 100000 in
set_option maxHeartbeats 4000000 in
theorem nw4 (l : Launch) (M : ME) (c : Nat) (hM : M c = some (.inl (4, [.int (iI 0), .int (iI 0), .int (iI 0), .int (iI 0), .int (iI 0), .null]))) : CIn l yX4_init cX4_init 1 rI4 c M (c + 1) (c + 2) (fun M' => (∀ ch, 0 ≤ ch → ch ≤ 3 → RK M' c ini ch) ∧ FR M M' c 2) := by
  refine CIn.of (L0 := [some _]) (by decide +kernel) rfl rfl (Nat.le_of_ble_eq_true rfl) rfl (fun G A Q hQ => ?_)
  refine V_aload_n dX4_init_0 rfl ?_
  refine V_objInit mX4_3 oi_inst oi_code dX4_init_1 (by decide) (by decide) ?_
  refine V_aload_n dX4_init_4 rfl ?_
  refine V_iconst (v := iI (0)) dX4_init_5 rfl ?_
  refine V_putf fX4_9 dX4_init_6 hM rfl rfl (by simp) ?_
  refine V_aload_n dX4_init_9 rfl ?_
  refine V_iconst (v := iI (0)) dX4_init_10 rfl ?_
  refine V_putf fX4_15 dX4_init_11 mu_eq rfl rfl (by simp) ?_
  refine V_aload_n dX4_init_14 rfl ?_
  refine V_iconst (v := iI (0)) dX4_init_15 rfl ?_
  refine V_putf fX4_18 dX4_init_16 mu_eq rfl rfl (by simp) ?_
  refine V_aload_n dX4_init_19 rfl ?_
  refine V_iconst (v := iI (0)) dX4_init_20 rfl ?_
  refine V_putf fX4_21 dX4_init_21 mu_eq rfl rfl (by simp) ?_
  refine V_aload_n dX4_init_24 rfl ?_
  refine V_iconst (v := iI (0)) dX4_init_25 rfl ?_
  refine V_putf fX4_25 dX4_init_26 mu_eq rfl rfl (by simp) ?_
  refine V_aload_n dX4_init_29 rfl ?_
  refine V_sipush (v := nI (258)) dX4_init_30 (by decide +kernel) ?_
  refine V_sz (sz' := (c + 1)) (by omega) ?_
  refine V_newi (N := 258) ac_int dX4_init_33 (by decide) (le_r (b := 1) (by omega) rfl) (le_r (b := 258) (by omega) rfl) ?_
  refine V_putF fX4_28 dX4_init_35 ((mu_ne (by omega)).trans mu_eq) rfl rfl (by simp) rfl rfl ?_
  refine V_gen (fun K hK => ?_)
  have gK0 := (congrFun hK c).trans mu_eq
  have gK1 := (congrFun hK (c + 1)).trans ((mu_ne (by omega)).trans mu_eq)
  have hKo : ∀ q, q ≠ c → q ≠ c + 1 → K q = M q := fun q u v => by
    rw [hK]; simp only [mu]; simp only [if_neg u, if_neg v]
  have hO : ∀ ch, 0 ≤ ch → ch ≤ 3 → RK K c ini ch := fun ch a b => by
    refine ⟨0, fun _ => 0, ?_, gK1, fun h => absurd (ini_m (by omega)) h, by rw [ini_0 (by omega)]; omega, fun q x y => by rw [ini_0 (q := 3407 + ch) (by omega)] at y; omega⟩
    rw [ini_0 (q := 3395 + ch) (by omega), ini_0 (q := 3399 + ch) (by omega), ini_0 (q := 3403 + ch) (by omega), ini_0 (q := 3407 + ch) (by omega)]; exact gK0
  refine V_sz (sz' := c + 2) (by omega) ?_
  exact V_ret dX4_init_38 rfl (le_r (b := 1) (by omega) rfl) (le_r (b := 258) (by omega) rfl) (hQ _ ⟨hO, (fun q hq => hKo q (by omega) (by omega))⟩)

abbrev rI8 : Room := { frames := 2, cells := 2, slots := 4, locals := 80 }

set_option maxRecDepth 100000 in
set_option maxHeartbeats 4000000 in
theorem nw8 (l : Launch) (M : ME) (c : Nat) (hM : M c = some (.inl (8, [.int (iI 0), .null, .null]))) : CIn l yX8_init cX8_init 1 rI8 c M (c + 1) (c + 3) (fun M' => TR M' c ini ∧ FR M M' c 3) := by
  refine CIn.of (L0 := [some _]) (by decide +kernel) rfl rfl (Nat.le_of_ble_eq_true rfl) rfl (fun G A Q hQ => ?_)
  refine V_aload_n dX8_init_0 rfl ?_
  refine V_objInit mX8_1 oi_inst oi_code dX8_init_1 (by decide) (by decide) ?_
  refine V_aload_n dX8_init_4 rfl ?_
  refine V_iconst (v := iI (0)) dX8_init_5 rfl ?_
  refine V_putf fX8_7 dX8_init_6 hM rfl rfl (by simp) ?_
  refine V_aload_n dX8_init_9 rfl ?_
  refine V_iconst (v := nI (2)) dX8_init_10 rfl ?_
  refine V_sz (sz' := (c + 1)) (by omega) ?_
  refine V_newl (N := 2) ac_long dX8_init_11 (by decide) (le_r (b := 2) (by omega) rfl) (le_r (b := 4) (by omega) rfl) ?_
  refine V_putF fX8_13 dX8_init_13 ((mu_ne (by omega)).trans mu_eq) rfl rfl (by simp) rfl rfl ?_
  refine V_aload_n dX8_init_16 rfl ?_
  refine V_iconst (v := nI (2)) dX8_init_17 rfl ?_
  refine V_sz (sz' := (c + 2)) (by omega) ?_
  refine V_newl (N := 2) ac_long dX8_init_18 (by decide) (le_r (b := 2) (by omega) rfl) (le_r (b := 4) (by omega) rfl) ?_
  refine V_putF fX8_17 dX8_init_20 ((mu_ne (by omega)).trans mu_eq) rfl rfl (by simp) rfl rfl ?_
  refine V_gen (fun K hK => ?_)
  have gK0 := (congrFun hK c).trans mu_eq
  have gK1 := (congrFun hK (c + 1)).trans ((mu_ne (by omega)).trans ((mu_ne (by omega)).trans ((mu_ne (by omega)).trans mu_eq)))
  have gK2 := (congrFun hK (c + 2)).trans ((mu_ne (by omega)).trans mu_eq)
  have hKo : ∀ q, q ≠ c → q ≠ c + 1 → q ≠ c + 2 → K q = M q := fun q u v w => by
    rw [hK]; simp only [mu]; simp only [if_neg u, if_neg v, if_neg w]
  have e0 : ini 12304 = 0 := ini_0 (by omega)
  have hO : TR K c ini := ⟨fun _ => 0, fun _ => 0, by rw [e0]; exact gK0, gK1, gK2, fun k u v => by rw [e0] at v; omega⟩
  refine V_sz (sz' := c + 3) (by omega) ?_
  exact V_ret dX8_init_23 rfl (le_r (b := 2) (by omega) rfl) (le_r (b := 4) (by omega) rfl) (hQ _ ⟨hO, (fun q hq => hKo q (by omega) (by omega) (by omega))⟩)

abbrev rI5 : Room := { frames := 4, cells := 79, slots := 8965, locals := 160 }

set_option maxRecDepth 100000 in
set_option maxHeartbeats 4000000 in
theorem nw5 (l : Launch) (M : ME) (c : Nat) (hM : M c = some (.inl (5, [.int (iI 0), .null, .null, .null, .null, .null, .null, .null, .null]))) : CIn l yX5_init cX5_init 2 rI5 c M (c + 1) (c + 80) (fun M' => RR M' c ini ∧ FR M M' c 80) := by
  refine CIn.of (L0 := [some _, none]) (by decide +kernel) rfl rfl (Nat.le_of_ble_eq_true rfl) rfl (fun G A Q hQ => ?_)
  refine V_aload_n dX5_init_0 rfl ?_
  refine V_objInit mX5_3 oi_inst oi_code dX5_init_1 (by decide) (by decide) ?_
  refine V_aload_n dX5_init_4 rfl ?_
  refine V_iconst (v := iI (0)) dX5_init_5 rfl ?_
  refine V_putf fX5_9 dX5_init_6 hM rfl rfl (by simp) ?_
  refine V_aload_n dX5_init_9 rfl ?_
  refine V_bipush (v := nI (6)) dX5_init_10 (by decide +kernel) ?_
  refine V_sz (sz' := (c + 1)) (by omega) ?_
  refine V_newi (N := 6) ac_int dX5_init_12 (by decide) (le_r (b := 79) (by omega) rfl) (le_r (b := 8965) (by omega) rfl) ?_
  refine V_putF fX5_15 dX5_init_14 ((mu_ne (by omega)).trans mu_eq) rfl rfl (by simp) rfl rfl ?_
  refine V_aload_n dX5_init_17 rfl ?_
  refine V_bipush (v := nI (15)) dX5_init_18 (by decide +kernel) ?_
  refine V_sz (sz' := (c + 2)) (by omega) ?_
  refine V_newi (N := 15) ac_int dX5_init_20 (by decide) (le_r (b := 79) (by omega) rfl) (le_r (b := 8965) (by omega) rfl) ?_
  refine V_putF fX5_19 dX5_init_22 ((mu_ne (by omega)).trans mu_eq) rfl rfl (by simp) rfl rfl ?_
  refine V_aload_n dX5_init_25 rfl ?_
  refine V_bipush (v := nI (15)) dX5_init_26 (by decide +kernel) ?_
  refine V_sz (sz' := (c + 3)) (by omega) ?_
  refine V_newi (N := 15) ac_int dX5_init_28 (by decide) (le_r (b := 79) (by omega) rfl) (le_r (b := 8965) (by omega) rfl) ?_
  refine V_putF fX5_22 dX5_init_30 ((mu_ne (by omega)).trans mu_eq) rfl rfl (by simp) rfl rfl ?_
  refine V_aload_n dX5_init_33 rfl ?_
  refine V_bipush (v := nI (15)) dX5_init_34 (by decide +kernel) ?_
  refine V_sz (sz' := (c + 4)) (by omega) ?_
  refine V_newi (N := 15) ac_int dX5_init_36 (by decide) (le_r (b := 79) (by omega) rfl) (le_r (b := 8965) (by omega) rfl) ?_
  refine V_putF fX5_25 dX5_init_38 ((mu_ne (by omega)).trans mu_eq) rfl rfl (by simp) rfl rfl ?_
  refine V_aload_n dX5_init_41 rfl ?_
  refine V_bipush (v := nI (15)) dX5_init_42 (by decide +kernel) ?_
  refine V_sz (sz' := (c + 5)) (by omega) ?_
  refine V_newi (N := 15) ac_int dX5_init_44 (by decide) (le_r (b := 79) (by omega) rfl) (le_r (b := 8965) (by omega) rfl) ?_
  refine V_putF fX5_28 dX5_init_46 ((mu_ne (by omega)).trans mu_eq) rfl rfl (by simp) rfl rfl ?_
  refine V_aload_n dX5_init_49 rfl ?_
  refine V_iconst (v := nI (4)) dX5_init_50 rfl ?_
  refine V_sz (sz' := (c + 6)) (by omega) ?_
  refine V_newq (N := 4) (t := 5) (by decide) rfl kX5_31 (by decide) dX5_init_51 (by decide) (le_r (b := 79) (by omega) rfl) (le_r (b := 8965) (by omega) rfl) ?_
  refine V_putF fX5_33 dX5_init_54 ((mu_ne (by omega)).trans mu_eq) rfl rfl (by simp) rfl rfl ?_
  refine V_aload_n dX5_init_57 rfl ?_
  refine V_gen (fun K0 hK0 => ?_)
  have gK00 := (congrFun hK0 c).trans mu_eq
  have gK01 := (congrFun hK0 (c + 1)).trans ((mu_ne (by omega)).trans ((mu_ne (by omega)).trans ((mu_ne (by omega)).trans ((mu_ne (by omega)).trans ((mu_ne (by omega)).trans ((mu_ne (by omega)).trans ((mu_ne (by omega)).trans ((mu_ne (by omega)).trans ((mu_ne (by omega)).trans ((mu_ne (by omega)).trans ((mu_ne (by omega)).trans mu_eq)))))))))))
  have gK02 := (congrFun hK0 (c + 2)).trans ((mu_ne (by omega)).trans ((mu_ne (by omega)).trans ((mu_ne (by omega)).trans ((mu_ne (by omega)).trans ((mu_ne (by omega)).trans ((mu_ne (by omega)).trans ((mu_ne (by omega)).trans ((mu_ne (by omega)).trans ((mu_ne (by omega)).trans mu_eq)))))))))
  have gK03 := (congrFun hK0 (c + 3)).trans ((mu_ne (by omega)).trans ((mu_ne (by omega)).trans ((mu_ne (by omega)).trans ((mu_ne (by omega)).trans ((mu_ne (by omega)).trans ((mu_ne (by omega)).trans ((mu_ne (by omega)).trans mu_eq)))))))
  have gK04 := (congrFun hK0 (c + 4)).trans ((mu_ne (by omega)).trans ((mu_ne (by omega)).trans ((mu_ne (by omega)).trans ((mu_ne (by omega)).trans ((mu_ne (by omega)).trans mu_eq)))))
  have gK05 := (congrFun hK0 (c + 5)).trans ((mu_ne (by omega)).trans ((mu_ne (by omega)).trans ((mu_ne (by omega)).trans mu_eq)))
  have gK06 := (congrFun hK0 (c + 6)).trans ((mu_ne (by omega)).trans mu_eq)
  have hK0o : ∀ q, (q < c ∨ c + 7 ≤ q) → K0 q = M q := fun q u => by
    rw [hK0]; simp only [mu]; (repeat rw [if_neg (by omega)])
  refine V_sz (sz' := (c + 7)) (by omega) ?_
  refine V_nw (f := 2) (fs := [.int (iI 0), .null]) rfl clX0 df0 kX5_37 in0_a in0_b dX5_init_58 (le_r (b := 79) (by omega) rfl) (le_r (b := 8965) (by omega) rfl) ?_
  refine V_dup dX5_init_61 rfl ?_
  refine V_kI 61 7830 (nw0 l _ (c + 7) mu_eq) mX5_39 coX0_init rfl rfl dX5_init_62 ⟨(Nat.le_of_ble_eq_true rfl), (Nat.le_of_ble_eq_true rfl)⟩ (Nat.le_of_ble_eq_true rfl) ⟨(le_r (b := 79) (by omega) rfl), (le_r (b := 8965) (by omega) rfl)⟩ (fun N1 hp => ?_)
  obtain ⟨hD1, hF1⟩ := hp
  refine V_putF fX5_40 dX5_init_65 ((hF1 _ (by omega)).trans ((mu_ne (by omega)).trans gK00)) rfl rfl (by simp) rfl rfl ?_
  refine V_aload_n dX5_init_68 rfl ?_
  refine V_sz (sz' := (c + 69)) (by omega) ?_
  refine V_nw (f := 3) (fs := [.int (iI 0), .null, .null]) rfl clX8 df8 kX5_44 in8_a in8_b dX5_init_69 (le_r (b := 79) (by omega) rfl) (le_r (b := 8965) (by omega) rfl) ?_
  refine V_dup dX5_init_72 rfl ?_
  refine V_kN 2 4 (nw8 l _ (c + 69) mu_eq) mX5_46 coX8_init rfl rfl dX5_init_73 ⟨(Nat.le_of_ble_eq_true rfl), (Nat.le_of_ble_eq_true rfl)⟩ (Nat.le_of_ble_eq_true rfl) ⟨(le_r (b := 79) (by omega) rfl), (le_r (b := 8965) (by omega) rfl)⟩ (fun N2 hp => ?_)
  obtain ⟨hT2, hF2⟩ := hp
  refine V_putF fX5_47 dX5_init_76 ((hF2 _ (by omega)).trans ((mu_ne (by omega)).trans mu_eq)) rfl rfl (by simp) rfl rfl ?_
  refine V_gen (fun K hK => ?_)
  have gK0 := (congrFun hK c).trans mu_eq
  have gK1 := (congrFun hK (c + 1)).trans ((mu_ne (by omega)).trans ((hF2 _ (by omega)).trans ((mu_ne (by omega)).trans ((mu_ne (by omega)).trans ((hF1 _ (by omega)).trans ((mu_ne (by omega)).trans gK01))))))
  have gK2 := (congrFun hK (c + 2)).trans ((mu_ne (by omega)).trans ((hF2 _ (by omega)).trans ((mu_ne (by omega)).trans ((mu_ne (by omega)).trans ((hF1 _ (by omega)).trans ((mu_ne (by omega)).trans gK02))))))
  have gK3 := (congrFun hK (c + 3)).trans ((mu_ne (by omega)).trans ((hF2 _ (by omega)).trans ((mu_ne (by omega)).trans ((mu_ne (by omega)).trans ((hF1 _ (by omega)).trans ((mu_ne (by omega)).trans gK03))))))
  have gK4 := (congrFun hK (c + 4)).trans ((mu_ne (by omega)).trans ((hF2 _ (by omega)).trans ((mu_ne (by omega)).trans ((mu_ne (by omega)).trans ((hF1 _ (by omega)).trans ((mu_ne (by omega)).trans gK04))))))
  have gK5 := (congrFun hK (c + 5)).trans ((mu_ne (by omega)).trans ((hF2 _ (by omega)).trans ((mu_ne (by omega)).trans ((mu_ne (by omega)).trans ((hF1 _ (by omega)).trans ((mu_ne (by omega)).trans gK05))))))
  have gK6 := (congrFun hK (c + 6)).trans ((mu_ne (by omega)).trans ((hF2 _ (by omega)).trans ((mu_ne (by omega)).trans ((mu_ne (by omega)).trans ((hF1 _ (by omega)).trans ((mu_ne (by omega)).trans gK06))))))
  have hKo : ∀ q, q ≠ c → K q = N2 q := fun q u => by rw [hK, mu_ne u]
  have hKx : ∀ q, (q < c ∨ c + 80 ≤ q) → K q = M q := fun q u => (hKo q (by omega)).trans ((hF2 q (by omega)).trans ((mu_ne (by omega)).trans ((mu_ne (by omega)).trans ((hF1 q (by omega)).trans ((mu_ne (by omega)).trans (hK0o q (by omega)))))))
  have hDK : DL K (c + 7) ini := hD1.mv IV.ini.2.2.1.2.2.2.1 (fun q u v => (hKo q (by omega)).trans ((hF2 q (by omega)).trans ((mu_ne (by omega)).trans (mu_ne (by omega))))) (fun _ _ _ => rfl)
  have hTK : TR K (c + 69) ini := hT2.mv (by rw [ini_0 (by omega)]; omega) (fun q u v => hKo q (by omega)) (fun _ _ _ => rfl)
  refine V_iconst (v := iI (0)) dX5_init_79 rfl ?_
  refine V_istore_n (L' := [some _, some _]) dX5_init_80 rfl (by decide) rfl ?_
  have key81 : ∀ (d : Nat) (i : Int) (k n sz : Nat) (N : ME), (0 ≤ i ∧ i ≤ 4) → (k = 71 + 2 * i.toNat) → (n = 7909 + 264 * i.toNat) → (sz = c + 72 + 2 * i.toNat) → (N (c + 6) = some (ar 5 4 (pR i (c + 72) 2))) → (∀ j : Int, 0 ≤ j → j < i → ∀ ch, 0 ≤ ch → ch ≤ 3 → RK N (c + 72 + 2 * j.toNat) ini ch) → (∀ q, q < c + 72 → q ≠ c + 6 → N q = K q) → (∀ q, c + 80 ≤ q → N q = K q) → (4 - i).toNat = d → V l G A rI5 RX5 "<init>" cX5_init 2 none Q nX k n N sz 81 [some (.ref c), some (.int (iI i))] [] := by
    intro d
    induction d using Nat.strongRecOn with
    | ind d ih81 =>
      intro i k n sz N hi hk hn hz n1 n2 n3 n4 hd81
      refine V_iload_n dX5_init_81 rfl ?_
      refine V_iconst (v := iI (4)) dX5_init_82 rfl ?_
      refine I_icmp_ge (tgt := 105) dX5_init_83 (by decide) ⟨by omega, by omega⟩ ⟨by omega, by omega⟩ (fun h83 => ?_) (fun h83 => ?_)
      · have hi13 : i = 4 := by omega
        refine V_full (rkA c) n1 (pR_f hi13) ?_
        rw [hi13] at n2
        have hne : ∀ q, q < c + 72 → q ≠ c + 6 → (mu N (c + 6) (aR 5 4 (rkA c))) q = K q := fun q u v => (mu_ne v).trans (n3 q u v)
        have hO : RR (mu N (c + 6) (aR 5 4 (rkA c))) c ini := by
          refine ⟨⟨0, fun _ => 0, fun _ => 0, fun _ => 0, fun _ => 0, fun _ => 0, (hne _ (by omega) (by omega)).trans gK0, (hne _ (by omega) (by omega)).trans gK1, (hne _ (by omega) (by omega)).trans gK2, (hne _ (by omega) (by omega)).trans gK3, (hne _ (by omega) (by omega)).trans gK4, (hne _ (by omega) (by omega)).trans gK5, mu_eq, fun h => absurd (ini_m (by omega)) h, fun q x y => (ini_0 (by omega)).symm, fun a x y => ⟨(ini_0 (by omega)).symm, (ini_0 (by omega)).symm, (ini_0 (by omega)).symm, fun h => absurd (ini_a (by omega)) h⟩⟩, fun j x y => ?_, hDK.mv IV.ini.2.2.1.2.2.2.1 (fun q u v => hne q (by omega) (by omega)) (fun _ _ _ => rfl), hTK.mv (by rw [ini_0 (by omega)]; omega) (fun q u v => hne q (by omega) (by omega)) (fun _ _ _ => rfl)⟩
          exact (n2 j x y j x (by omega)).mv (by rw [ini_0 (by omega)]; omega) ⟨mu_ne (by omega), mu_ne (by omega)⟩ (fun _ _ => rfl)
        refine V_sz (sz' := c + 80) (by omega) ?_
        exact V_ret dX5_init_105 rfl (le_r (b := 79) (by omega) rfl) (le_r (b := 8965) (by omega) rfl) (hQ _ ⟨hO, fun q hq => (mu_ne (by omega)).trans (if h : q < c then (n3 q (by omega) (by omega)).trans (hKx q (by omega)) else (n4 q (by omega)).trans (hKx q (by omega)))⟩)
      · refine V_aload_n dX5_init_86 rfl ?_
        refine V_getf fX5_33 dX5_init_87 ((n3 _ (by omega) (by omega)).trans gK0) rfl ?_
        refine V_iload_n dX5_init_90 rfl ?_
        refine V_sz (sz' := (c + 72 + 2 * i.toNat)) (by omega) ?_
        refine V_nw (f := 6) (fs := [.int (iI 0), .int (iI 0), .int (iI 0), .int (iI 0), .int (iI 0), .null]) rfl clX4 df4 kX5_31 in4_a in4_b dX5_init_91 (le_r (b := 79) (by omega) rfl) (le_r (b := 8965) (by omega) rfl) ?_
        refine V_dup dX5_init_94 rfl ?_
        refine V_kN 1 258 (nw4 l _ (c + 72 + 2 * i.toNat) mu_eq) mX5_51 coX4_init rfl rfl dX5_init_95 ⟨(Nat.le_of_ble_eq_true rfl), (Nat.le_of_ble_eq_true rfl)⟩ (Nat.le_of_ble_eq_true rfl) ⟨(le_r (b := 79) (by omega) rfl), (le_r (b := 8965) (by omega) rfl)⟩ (fun N1 hp => ?_)
        obtain ⟨hO1, hF1⟩ := hp
        obtain ⟨lc1, g1, o1, -⟩ := id (hO1 0 (by omega) (by omega))
        refine V_fill ao5 dX5_init_98 ((hF1 _ (by omega)).trans ((mu_ne (by omega)).trans n1)) o1 ⟨by omega, by omega⟩ (by decide) ?_
        refine I_iinc (L' := [some _, some _]) dX5_init_99 rfl (by decide) rfl ?_
        refine V_goto (tgt := 81) dX5_init_102 (by decide) ?_
        exact V_wk' (ih81 _ (by omega) (i + 1) _ _ _ _ ⟨by omega, by omega⟩ (by omega) (by omega) (by omega) mu_eq (fun j a b ch x y => by by_cases e : j = i; (· rw [e]; exact (hO1 ch x y).mv (by rw [ini_0 (by omega)]; omega) ⟨mu_ne (by omega), mu_ne (by omega)⟩ (fun _ _ => rfl)); (· exact (n2 j a (by omega) ch x y).mv (by rw [ini_0 (by omega)]; omega) ⟨(mu_ne (by omega)).trans ((hF1 _ (by omega)).trans (mu_ne (by omega))), (mu_ne (by omega)).trans ((hF1 _ (by omega)).trans (mu_ne (by omega)))⟩ (fun _ _ => rfl))) (fun q u v => (mu_ne v).trans ((hF1 q (by omega)).trans ((mu_ne (by omega)).trans (n3 q u v)))) (fun q u => (mu_ne (by omega)).trans ((hF1 q (by omega)).trans ((mu_ne (by omega)).trans (n4 q u)))) rfl) ⟨rfl, rfl, trivial⟩
  exact V_wk' (key81 _ 0 _ _ _ _ ⟨by omega, by omega⟩ (by show _ = 71 + 2 * Int.toNat 0; omega) (by show _ = 7909 + 264 * Int.toNat 0; omega) (by show _ = c + 72 + 2 * Int.toNat 0; omega) (by rw [pR_0]; exact gK6) (fun j a b => by omega) (fun _ _ _ => rfl) (fun _ _ => rfl) rfl) ⟨rfl, rfl, trivial⟩

abbrev rI7 : Room := { frames := 5, cells := 264, slots := 12471, locals := 200 }

set_option maxRecDepth 100000 in
set_option maxHeartbeats 4000000 in
theorem nw7 (l : Launch) (M : ME) (c : Nat) (hM : M c = some (.inl (7, [.int (iI 0), .int (iI 0), .int (iI 0), .int (iI 0), .int (iI 0), .null, .null, .null, .null]))) : CIn l yX7_init cX7_init 2 rI7 c M (c + 1) (c + 265) (fun M' => St M' c ini ∧ FR M M' c 265) := by
  refine CIn.of (L0 := [some _, none]) (by decide +kernel) rfl rfl (Nat.le_of_ble_eq_true rfl) rfl (fun G A Q hQ => ?_)
  refine V_aload_n dX7_init_0 rfl ?_
  refine V_objInit mX7_3 oi_inst oi_code dX7_init_1 (by decide) (by decide) ?_
  refine V_aload_n dX7_init_4 rfl ?_
  refine V_bipush (v := iI (16)) dX7_init_5 (by decide +kernel) ?_
  refine V_putf fX7_9 dX7_init_7 hM rfl rfl (by simp) ?_
  refine V_aload_n dX7_init_10 rfl ?_
  refine V_iconst (v := iI (0)) dX7_init_11 rfl ?_
  refine V_putf fX7_15 dX7_init_12 mu_eq rfl rfl (by simp) ?_
  refine V_aload_n dX7_init_15 rfl ?_
  refine V_sipush (v := iI (250)) dX7_init_16 (by decide +kernel) ?_
  refine V_putf fX7_18 dX7_init_19 mu_eq rfl rfl (by simp) ?_
  refine V_aload_n dX7_init_22 rfl ?_
  refine V_iconst (v := iI (0)) dX7_init_23 rfl ?_
  refine V_putf fX7_21 dX7_init_24 mu_eq rfl rfl (by simp) ?_
  refine V_aload_n dX7_init_27 rfl ?_
  refine V_iconst (v := iI (0)) dX7_init_28 rfl ?_
  refine V_putf fX7_24 dX7_init_29 mu_eq rfl rfl (by simp) ?_
  refine V_aload_n dX7_init_32 rfl ?_
  refine V_bipush (v := nI (15)) dX7_init_33 (by decide +kernel) ?_
  refine V_sz (sz' := (c + 1)) (by omega) ?_
  refine V_newi (N := 15) ac_int dX7_init_35 (by decide) (le_r (b := 264) (by omega) rfl) (le_r (b := 12471) (by omega) rfl) ?_
  refine V_putF fX7_27 dX7_init_37 ((mu_ne (by omega)).trans mu_eq) rfl rfl (by simp) rfl rfl ?_
  refine V_aload_n dX7_init_40 rfl ?_
  refine V_iconst (v := nI (4)) dX7_init_41 rfl ?_
  refine V_sz (sz' := (c + 2)) (by omega) ?_
  refine V_newq (N := 4) (t := 6) (by decide) rfl kX7_31 (by decide) dX7_init_42 (by decide) (le_r (b := 264) (by omega) rfl) (le_r (b := 12471) (by omega) rfl) ?_
  refine V_putF fX7_33 dX7_init_45 ((mu_ne (by omega)).trans mu_eq) rfl rfl (by simp) rfl rfl ?_
  refine V_aload_n dX7_init_48 rfl ?_
  refine V_gen (fun K0 hK0 => ?_)
  have gK00 := (congrFun hK0 c).trans mu_eq
  have gK01 := (congrFun hK0 (c + 1)).trans ((mu_ne (by omega)).trans ((mu_ne (by omega)).trans ((mu_ne (by omega)).trans mu_eq)))
  have gK02 := (congrFun hK0 (c + 2)).trans ((mu_ne (by omega)).trans mu_eq)
  have hK0o : ∀ q, (q < c ∨ c + 3 ≤ q) → K0 q = M q := fun q u => by
    rw [hK0]; simp only [mu]; (repeat rw [if_neg (by omega)])
  refine V_sz (sz' := (c + 3)) (by omega) ?_
  refine V_nw (f := 2) (fs := [.int (iI 0), .null]) rfl clX9 df9 kX7_37 in9_a in9_b dX7_init_49 (le_r (b := 264) (by omega) rfl) (le_r (b := 12471) (by omega) rfl) ?_
  refine V_dup dX7_init_52 rfl ?_
  refine V_kI 121 3120 (nw9 l _ (c + 3) mu_eq) mX7_39 coX9_init rfl rfl dX7_init_53 ⟨(Nat.le_of_ble_eq_true rfl), (Nat.le_of_ble_eq_true rfl)⟩ (Nat.le_of_ble_eq_true rfl) ⟨(le_r (b := 264) (by omega) rfl), (le_r (b := 12471) (by omega) rfl)⟩ (fun N1 hp => ?_)
  obtain ⟨hD1, hF1⟩ := hp
  refine V_putF fX7_40 dX7_init_56 ((hF1 _ (by omega)).trans ((mu_ne (by omega)).trans gK00)) rfl rfl (by simp) rfl rfl ?_
  refine V_aload_n dX7_init_59 rfl ?_
  refine V_sz (sz' := (c + 125)) (by omega) ?_
  refine V_nw (f := 9) (fs := [.int (iI 0), .null, .null, .null, .null, .null, .null, .null, .null]) rfl clX5 df5 kX7_44 in5_a in5_b dX7_init_60 (le_r (b := 264) (by omega) rfl) (le_r (b := 12471) (by omega) rfl) ?_
  refine V_dup dX7_init_63 rfl ?_
  refine V_kI 79 8965 (nw5 l _ (c + 125) mu_eq) mX7_46 coX5_init rfl rfl dX7_init_64 ⟨(Nat.le_of_ble_eq_true rfl), (Nat.le_of_ble_eq_true rfl)⟩ (Nat.le_of_ble_eq_true rfl) ⟨(le_r (b := 264) (by omega) rfl), (le_r (b := 12471) (by omega) rfl)⟩ (fun N2 hp => ?_)
  obtain ⟨hT2, hF2⟩ := hp
  refine V_putF fX7_47 dX7_init_67 ((hF2 _ (by omega)).trans ((mu_ne (by omega)).trans mu_eq)) rfl rfl (by simp) rfl rfl ?_
  refine V_gen (fun K hK => ?_)
  have gK0 := (congrFun hK c).trans mu_eq
  have gK1 := (congrFun hK (c + 1)).trans ((mu_ne (by omega)).trans ((hF2 _ (by omega)).trans ((mu_ne (by omega)).trans ((mu_ne (by omega)).trans ((hF1 _ (by omega)).trans ((mu_ne (by omega)).trans gK01))))))
  have gK2 := (congrFun hK (c + 2)).trans ((mu_ne (by omega)).trans ((hF2 _ (by omega)).trans ((mu_ne (by omega)).trans ((mu_ne (by omega)).trans ((hF1 _ (by omega)).trans ((mu_ne (by omega)).trans gK02))))))
  have hKo : ∀ q, q ≠ c → K q = N2 q := fun q u => by rw [hK, mu_ne u]
  have hKx : ∀ q, (q < c ∨ c + 265 ≤ q) → K q = M q := fun q u => (hKo q (by omega)).trans ((hF2 q (by omega)).trans ((mu_ne (by omega)).trans ((mu_ne (by omega)).trans ((hF1 q (by omega)).trans ((mu_ne (by omega)).trans (hK0o q (by omega)))))))
  have hDK : WR K (c + 3) ini := hD1.mv IV.ini.2.1 (fun q u v => (hKo q (by omega)).trans ((hF2 q (by omega)).trans ((mu_ne (by omega)).trans (mu_ne (by omega))))) (fun _ _ _ => rfl)
  have hTK : RR K (c + 125) ini := hT2.mv IV.ini.2.2.1 (fun q u v => hKo q (by omega)) (fun _ _ _ _ => rfl)
  refine V_iconst (v := iI (0)) dX7_init_70 rfl ?_
  refine V_istore_n (L' := [some _, some _]) dX7_init_71 rfl (by decide) rfl ?_
  have key72 : ∀ (d : Nat) (i : Int) (k n sz : Nat) (N : ME), (0 ≤ i ∧ i ≤ 4) → (k = 204 + 15 * i.toNat) → (n = 12115 + 89 * i.toNat) → (sz = c + 205 + 15 * i.toNat) → (N (c + 2) = some (ar 6 4 (pR i (c + 205) 15))) → (∀ j : Int, 0 ≤ j → j < i → ∀ ch, 0 ≤ ch → ch ≤ 3 → SC N (c + 205 + 15 * j.toNat) ini ch) → (∀ q, q < c + 205 → q ≠ c + 2 → N q = K q) → (∀ q, c + 265 ≤ q → N q = K q) → (4 - i).toNat = d → V l G A rI7 RX7 "<init>" cX7_init 2 none Q nX k n N sz 72 [some (.ref c), some (.int (iI i))] [] := by
    intro d
    induction d using Nat.strongRecOn with
    | ind d ih72 =>
      intro i k n sz N hi hk hn hz n1 n2 n3 n4 hd72
      refine V_iload_n dX7_init_72 rfl ?_
      refine V_iconst (v := iI (4)) dX7_init_73 rfl ?_
      refine I_icmp_ge (tgt := 96) dX7_init_74 (by decide) ⟨by omega, by omega⟩ ⟨by omega, by omega⟩ (fun h74 => ?_) (fun h74 => ?_)
      · have hi13 : i = 4 := by omega
        refine V_full (scA c) n1 (pR_f hi13) ?_
        rw [hi13] at n2
        have hne : ∀ q, q < c + 205 → q ≠ c + 2 → (mu N (c + 2) (aR 6 4 (scA c))) q = K q := fun q u v => (mu_ne v).trans (n3 q u v)
        have hO : St (mu N (c + 2) (aR 6 4 (scA c))) c ini := by
          refine ⟨⟨fun _ => 0, ?_, (hne _ (by omega) (by omega)).trans gK1, mu_eq, fun a x y => (ini_0 (by omega)).symm⟩, fun j x y => ?_, hDK.mv IV.ini.2.1 (fun q u v => hne q (by omega) (by omega)) (fun _ _ _ => rfl), hTK.mv IV.ini.2.2.1 (fun q u v => hne q (by omega) (by omega)) (fun _ _ _ _ => rfl)⟩
          · rw [ini_c0, ini_0 (q := 1) (by omega), ini_c2, ini_0 (q := 3) (by omega), ini_0 (q := 45) (by omega)]; exact (hne _ (by omega) (by omega)).trans gK0
          · exact (n2 j x y j x (by omega)).mv (fun q u v => mu_ne (by omega)) (fun _ _ => rfl)
        refine V_sz (sz' := c + 265) (by omega) ?_
        exact V_ret dX7_init_96 rfl (le_r (b := 264) (by omega) rfl) (le_r (b := 12471) (by omega) rfl) (hQ _ ⟨hO, fun q hq => (mu_ne (by omega)).trans (if h : q < c then (n3 q (by omega) (by omega)).trans (hKx q (by omega)) else (n4 q (by omega)).trans (hKx q (by omega)))⟩)
      · refine V_aload_n dX7_init_77 rfl ?_
        refine V_getf fX7_33 dX7_init_78 ((n3 _ (by omega) (by omega)).trans gK0) rfl ?_
        refine V_iload_n dX7_init_81 rfl ?_
        refine V_sz (sz' := (c + 205 + 15 * i.toNat)) (by omega) ?_
        refine V_nw (f := 11) (fs := [.int (iI 0), .int (iI 0), .int (iI 0), .int (iI 0), .int (iI 0), .int (iI 0), .int (iI 0), .int (iI 0), .int (iI 0), .int (iI 0), .null]) rfl clX6 df6 kX7_31 in6_a in6_b dX7_init_82 (le_r (b := 264) (by omega) rfl) (le_r (b := 12471) (by omega) rfl) ?_
        refine V_dup dX7_init_85 rfl ?_
        refine V_kI 14 78 (nw6 l _ (c + 205 + 15 * i.toNat) mu_eq) mX7_51 coX6_init rfl rfl dX7_init_86 ⟨(Nat.le_of_ble_eq_true rfl), (Nat.le_of_ble_eq_true rfl)⟩ (Nat.le_of_ble_eq_true rfl) ⟨(le_r (b := 264) (by omega) rfl), (le_r (b := 12471) (by omega) rfl)⟩ (fun N1 hp => ?_)
        obtain ⟨hO1, hF1⟩ := hp
        obtain ⟨f1, p1, o1, -⟩ := id (hO1 0 (by omega) (by omega))
        refine V_fill ao6 dX7_init_89 ((hF1 _ (by omega)).trans ((mu_ne (by omega)).trans n1)) o1 ⟨by omega, by omega⟩ (by decide) ?_
        refine I_iinc (L' := [some _, some _]) dX7_init_90 rfl (by decide) rfl ?_
        refine V_goto (tgt := 72) dX7_init_93 (by decide) ?_
        exact V_wk' (ih72 _ (by omega) (i + 1) _ _ _ _ ⟨by omega, by omega⟩ (by omega) (by omega) (by omega) mu_eq (fun j a b ch x y => by by_cases e : j = i; (· rw [e]; exact (hO1 ch x y).mv (fun q u v => mu_ne (by omega)) (fun _ _ => rfl)); (· exact (n2 j a (by omega) ch x y).mv (fun q u v => (mu_ne (by omega)).trans ((hF1 _ (by omega)).trans (mu_ne (by omega)))) (fun _ _ => rfl))) (fun q u v => (mu_ne v).trans ((hF1 q (by omega)).trans ((mu_ne (by omega)).trans (n3 q u v)))) (fun q u => (mu_ne (by omega)).trans ((hF1 q (by omega)).trans ((mu_ne (by omega)).trans (n4 q u)))) rfl) ⟨rfl, rfl, trivial⟩
  exact V_wk' (key72 _ 0 _ _ _ _ ⟨by omega, by omega⟩ (by show _ = 204 + 15 * Int.toNat 0; omega) (by show _ = 12115 + 89 * Int.toNat 0; omega) (by show _ = c + 205 + 15 * Int.toNat 0; omega) (by rw [pR_0]; exact gK2) (fun j a b => by omega) (fun _ _ _ => rfl) (fun _ _ => rfl) rfl) ⟨rfl, rfl, trivial⟩

abbrev rI10 : Room := { frames := 6, cells := 1061, slots := 49923, locals := 240 }

set_option maxRecDepth 100000 in
set_option maxHeartbeats 4000000 in
theorem nw10 (l : Launch) (M : ME) (c : Nat) (hM : M c = some (.inl (10, [.null, .null, .int (iI 0)]))) : CIn l yX10_init cX10_init 2 rI10 c M (c + 1) (c + 1062) (fun M' => TL M' c ini (fun _ => 0) 0 ∧ FR M M' c 1062) := by
  refine CIn.of (L0 := [some _, none]) (by decide +kernel) rfl rfl (Nat.le_of_ble_eq_true rfl) rfl (fun G A Q hQ => ?_)
  refine V_aload_n dX10_init_0 rfl ?_
  refine V_objInit mX10_1 oi_inst oi_code dX10_init_1 (by decide) (by decide) ?_
  refine V_aload_n dX10_init_4 rfl ?_
  refine V_sz (sz' := (c + 1)) (by omega) ?_
  refine V_nw (f := 9) (fs := [.int (iI 0), .int (iI 0), .int (iI 0), .int (iI 0), .int (iI 0), .null, .null, .null, .null]) rfl clX7 df7 kX10_7 in7_a in7_b dX10_init_5 (le_r (b := 1061) (by omega) rfl) (le_r (b := 49923) (by omega) rfl) ?_
  refine V_dup dX10_init_8 rfl ?_
  refine V_kI 264 12471 (nw7 l _ (c + 1) mu_eq) mX10_9 coX7_init rfl rfl dX10_init_9 ⟨(Nat.le_of_ble_eq_true rfl), (Nat.le_of_ble_eq_true rfl)⟩ (Nat.le_of_ble_eq_true rfl) ⟨(le_r (b := 1061) (by omega) rfl), (le_r (b := 49923) (by omega) rfl)⟩ (fun N1 hp => ?_)
  obtain ⟨hS1, hF1⟩ := hp
  obtain ⟨sq1, s1, -⟩ := id hS1.1
  refine V_putf fX10_10 dX10_init_12 ((hF1 _ (by omega)).trans ((mu_ne (by omega)).trans hM)) rfl rfl (by simp) ?_
  refine V_aload_n dX10_init_15 rfl ?_
  refine V_iconst (v := nI (3)) dX10_init_16 rfl ?_
  refine V_sz (sz' := (c + 266)) (by omega) ?_
  refine V_newq (N := 3) (t := 7) (by decide) rfl kX10_7 (by decide) dX10_init_17 (by decide) (le_r (b := 1061) (by omega) rfl) (le_r (b := 49923) (by omega) rfl) ?_
  refine V_putF fX10_16 dX10_init_20 ((mu_ne (by omega)).trans mu_eq) rfl rfl (by simp) rfl rfl ?_
  refine V_gen (fun K hK => ?_)
  have gK0 := (congrFun hK c).trans mu_eq
  have gK1 := (congrFun hK (c + 266)).trans ((mu_ne (by omega)).trans mu_eq)
  have hKo : ∀ q, q ≠ c → q ≠ c + 266 → K q = N1 q := fun q u v => by
    rw [hK]; simp only [mu]; simp only [if_neg u, if_neg v]
  have hKx : ∀ q, (q < c ∨ c + 1062 ≤ q) → K q = M q := fun q u => (hKo q (by omega) (by omega)).trans ((hF1 q (by omega)).trans (mu_ne (by omega)))
  have hSK : St K (c + 1) ini := hS1.mv IV.ini.2.1 IV.ini.2.2.1 (fun q u v => hKo q (by omega) (by omega)) (fun _ _ _ _ => rfl)
  refine V_iconst (v := iI (0)) dX10_init_23 rfl ?_
  refine V_istore_n (L' := [some _, some _]) dX10_init_24 rfl (by decide) rfl ?_
  have key25 : ∀ (d : Nat) (i : Int) (k n sz : Nat) (N : ME), (0 ≤ i ∧ i ≤ 3) → (k = 266 + 265 * i.toNat) → (n = 12483 + 12480 * i.toNat) → (sz = c + 267 + 265 * i.toNat) → (N (c + 266) = some (ar 7 3 (pR i (c + 267) 265))) → (∀ j : Int, 0 ≤ j → j < i → St N (c + 267 + 265 * j.toNat) ini) → (∀ q, q < c + 266 → N q = K q) → (∀ q, c + 1062 ≤ q → N q = K q) → (3 - i).toNat = d → V l G A rI10 RX10 "<init>" cX10_init 2 none Q nX k n N sz 25 [some (.ref c), some (.int (iI i))] [] := by
    intro d
    induction d using Nat.strongRecOn with
    | ind d ih25 =>
      intro i k n sz N hi hk hn hz n1 n2 n3 n4 hd25
      refine V_iload_n dX10_init_25 rfl ?_
      refine V_iconst (v := iI (3)) dX10_init_26 rfl ?_
      refine I_icmp_ge (tgt := 49) dX10_init_27 (by decide) ⟨by omega, by omega⟩ ⟨by omega, by omega⟩ (fun h27 => ?_) (fun h27 => ?_)
      · have hi13 : i = 3 := by omega
        refine V_full (fun j => c + 267 + 265 * j.toNat) n1 (pR_f hi13) ?_
        rw [hi13] at n2
        refine V_aload_n dX10_init_49 rfl ?_
        refine V_iconst (v := iI (0)) dX10_init_50 rfl ?_
        refine V_putf fX10_20 dX10_init_51 ((mu_ne (by omega)).trans ((n3 _ (by omega)).trans gK0)) rfl rfl (by simp) ?_
        refine V_sz (sz' := c + 1062) (by omega) ?_
        exact V_ret dX10_init_54 rfl (le_r (b := 1061) (by omega) rfl) (le_r (b := 49923) (by omega) rfl) (hQ _ ⟨⟨c + 1, fun j => c + 267 + 265 * j.toNat, (show mu (mu N (c + 266) _) c _ c = _ from mu_eq), (mu_ne (by omega)).trans mu_eq, ⟨Or.inl rfl, fun j x y => ⟨by show Ds c (c + 267 + 265 * j.toNat); unfold Ds; omega, by show c + 267 + 265 * j.toNat ≠ c + 1; omega, fun j2 a b d => by show c + 267 + 265 * j.toNat ≠ c + 267 + 265 * j2.toNat; omega⟩⟩, hSK.mv IV.ini.2.1 IV.ini.2.2.1 (fun q u v => (mu_ne (by omega)).trans ((mu_ne (by omega)).trans (n3 q (by omega)))) (fun _ _ _ _ => rfl), fun j x y => by omega, fun j x y z => ⟨ini, (n2 j x z).mv IV.ini.2.1 IV.ini.2.2.1 (fun q u v => (mu_ne (by omega)).trans (mu_ne (by omega))) (fun _ _ _ _ => rfl), IV.ini.2.1, IV.ini.2.2.1⟩⟩, fun q hq => (mu_ne (by omega)).trans ((mu_ne (by omega)).trans (if h : q < c then (n3 q (by omega)).trans (hKx q (by omega)) else (n4 q (by omega)).trans (hKx q (by omega))))⟩)
      · refine V_aload_n dX10_init_30 rfl ?_
        refine V_getf fX10_16 dX10_init_31 ((n3 _ (by omega)).trans gK0) rfl ?_
        refine V_iload_n dX10_init_34 rfl ?_
        refine V_sz (sz' := (c + 267 + 265 * i.toNat)) (by omega) ?_
        refine V_nw (f := 9) (fs := [.int (iI 0), .int (iI 0), .int (iI 0), .int (iI 0), .int (iI 0), .null, .null, .null, .null]) rfl clX7 df7 kX10_7 in7_a in7_b dX10_init_35 (le_r (b := 1061) (by omega) rfl) (le_r (b := 49923) (by omega) rfl) ?_
        refine V_dup dX10_init_38 rfl ?_
        refine V_kI 264 12471 (nw7 l _ (c + 267 + 265 * i.toNat) mu_eq) mX10_9 coX7_init rfl rfl dX10_init_39 ⟨(Nat.le_of_ble_eq_true rfl), (Nat.le_of_ble_eq_true rfl)⟩ (Nat.le_of_ble_eq_true rfl) ⟨(le_r (b := 1061) (by omega) rfl), (le_r (b := 49923) (by omega) rfl)⟩ (fun N2 hp => ?_)
        obtain ⟨hO1, hF2⟩ := hp
        obtain ⟨sq2, o1, -⟩ := id hO1.1
        refine V_fill ao7 dX10_init_42 ((hF2 _ (by omega)).trans ((mu_ne (by omega)).trans n1)) o1 ⟨by omega, by omega⟩ (by decide) ?_
        refine I_iinc (L' := [some _, some _]) dX10_init_43 rfl (by decide) rfl ?_
        refine V_goto (tgt := 25) dX10_init_46 (by decide) ?_
        exact V_wk' (ih25 _ (by omega) (i + 1) _ _ _ _ ⟨by omega, by omega⟩ (by omega) (by omega) (by omega) mu_eq (fun j a b => by by_cases e : j = i; (· rw [e]; exact hO1.mv IV.ini.2.1 IV.ini.2.2.1 (fun q u v => mu_ne (by omega)) (fun _ _ _ _ => rfl)); (· exact (n2 j a (by omega)).mv IV.ini.2.1 IV.ini.2.2.1 (fun q u v => (mu_ne (by omega)).trans ((hF2 _ (by omega)).trans (mu_ne (by omega)))) (fun _ _ _ _ => rfl))) (fun q u => (mu_ne (by omega)).trans ((hF2 q (by omega)).trans ((mu_ne (by omega)).trans (n3 q u)))) (fun q u => (mu_ne (by omega)).trans ((hF2 q (by omega)).trans ((mu_ne (by omega)).trans (n4 q u)))) rfl) ⟨rfl, rfl, trivial⟩
  exact V_wk' (key25 _ 0 _ _ _ _ ⟨by omega, by omega⟩ (by show _ = 266 + 265 * Int.toNat 0; omega) (by show _ = 12483 + 12480 * Int.toNat 0; omega) (by show _ = c + 267 + 265 * Int.toNat 0; omega) (by rw [pR_0]; exact gK1) (fun j a b => by omega) (fun _ _ => rfl) (fun _ _ => rfl) rfl) ⟨rfl, rfl, trivial⟩
