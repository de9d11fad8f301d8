set_option maxRecDepth 100000 in
set_option maxHeartbeats 4000000 in
theorem x_outside (l : Launch) (M : ME) (x lo hi : Int) (hr : r32 x ∧ r32 lo ∧ r32 hi) : CF l yX10_outside cX10_outside 3 (some .boolean) (rmN 1) [.int (iI x), .int (iI lo), .int (iI hi)] M (some (.int (iI (if x < lo ∨ hi < x then 1 else 0)))) M := by
  refine CF.of (L0 := [some _, some _, some _]) (by decide +kernel) rfl rfl (Nat.le_of_ble_eq_true rfl) rfl (fun G A Q sz hQ => ?_)
  refine V_tern (J := 15) (v := .int (iI (if x < lo ∨ hi < x then 1 else 0))) (fun sz => ?_) (fun j15 => ?_)
  · exact V_zret dX10_outside_15 rfl (by split <;> rfl) (Nat.le_of_ble_eq_true rfl) (Nat.le_of_ble_eq_true rfl) (hQ _ _ _ rfl rfl)
  · refine V_iload_n dX10_outside_0 rfl ?_
    refine V_iload_n dX10_outside_1 rfl ?_
    refine I_icmp_lt (tgt := 10) dX10_outside_2 (by decide) hr.1 hr.2.1 (fun h2 => ?_) (fun h2 => ?_)
    · refine V_iconst (v := iI (1)) dX10_outside_10 rfl ?_
      refine V_goto (tgt := 15) dX10_outside_11 (by decide) ?_
      exact V_top (vi (by first | rw [if_pos (by omega)] | rw [if_neg (by omega)])) (j15 _)
    · refine V_iload_n dX10_outside_5 rfl ?_
      refine V_iload_n dX10_outside_6 rfl ?_
      refine I_icmp_le (tgt := 14) dX10_outside_7 (by decide) hr.1 hr.2.2 (fun h7 => ?_) (fun h7 => ?_)
      · refine V_iconst (v := iI (0)) dX10_outside_14 rfl ?_
        exact V_top (vi (by first | rw [if_pos (by omega)] | rw [if_neg (by omega)])) (j15 _)
      · refine V_iconst (v := iI (1)) dX10_outside_10 rfl ?_
        refine V_goto (tgt := 15) dX10_outside_11 (by decide) ?_
        exact V_top (vi (by first | rw [if_pos (by omega)] | rw [if_neg (by omega)])) (j15 _)

theorem up_self {f : Int → Int} {k : Int} : up f k (f k) = f := by
  funext q; unfold up
  split
  · rename_i h; rw [h]
  · rfl
/-- the row behind the counting of a frame by its master counter -/
def rcm (ρ : Int → Int) (m : Int) : Int → Int := up (rcn (rcn ρ 0 1) 2 (if ρ 3389 = -1 then 0 else (m - ρ 3389 + 255) % 256)) 3389 m

set_option maxRecDepth 100000 in
set_option maxHeartbeats 4000000 in
theorem c5_countMaster (l : Launch) (M : ME) (R : Nat) (ρ : Int → Int) (hA : RA M R ρ) (hC : (0 ≤ ρ 3383 ∧ ρ 3383 ≤ 1000000000) ∧ (ρ 3389 = -1 ↔ ρ 3383 = 0)) (m : Int) : CP l yX5_countMaster cX5_countMaster 2 none (rmN 1) [.ref R, .int (iI m)] M (fun v M' => v = none ∧ RA M' R (rcm ρ m) ∧ FR M M' R 2) := by
  obtain ⟨lm, cn, ap, am, ab, al, h0, h1, h2, h3, h4, h5, h6, h7, h8, h9⟩ := id hA
  have c0 := h8 0 (by omega) (by omega)
  rw [Int.add_zero] at c0
  have hcn : ∀ q, 0 ≤ q → q < 6 → up (up cn 2 (cn 2 + (if 0 < cn 0 then (m - lm - 1) % 256 else 0))) 0 (up cn 2 (cn 2 + (if 0 < cn 0 then (m - lm - 1) % 256 else 0)) 0 + 1) q = rcm ρ m (3383 + q) := fun q a b => by
    unfold rcm rcn
    rw [up_n (show 3383 + q ≠ 3389 by omega)]
    rcases (show q = 0 ∨ q = 2 ∨ (q ≠ 0 ∧ q ≠ 2) by omega) with e | e | e
    · rw [e, up_s, up_n (by omega), up_n (by omega), Int.add_zero, up_s, c0]
    · have c2 := h8 2 (by omega) (by omega)
      rw [e, up_n (by omega), up_s, up_s, up_n (by omega), c2]
      by_cases z : ρ 3383 = 0
      · rw [if_neg (by omega), if_pos (by omega)]
      · rw [if_pos (by omega), if_neg (by omega), h7 (by omega)]; omega
    · rw [up_n (by omega), up_n (by omega), up_n (by omega), up_n (by omega)]; exact h8 q a b
  have hap : ∀ a, 0 ≤ a → a < 15 → ap a = rcm ρ m (4443 + 4 * a) ∧ am a = rcm ρ m (4443 + 4 * a + 1) ∧ ab a = rcm ρ m (4443 + 4 * a + 2) ∧ (¬ rcm ρ m (4443 + 4 * a + 3) = -1 → al a = rcm ρ m (4443 + 4 * a + 3)) := fun a x y => by
    have eo : ∀ q, 3389 < q → rcm ρ m q = ρ q := fun q z => by unfold rcm; rw [up_n (by omega), rcn_o (by omega), rcn_o (by omega)]
    rw [eo _ (by omega), eo _ (by omega), eo _ (by omega), eo _ (by omega)]; exact h9 a x y
  refine CP.of (L0 := [some _, some _]) (by decide +kernel) rfl rfl (Nat.le_of_ble_eq_true rfl) rfl (fun G A Q sz hQ => ?_)
  refine V_join (J := 30) (M' := (mu M (R + 1) (aI 6 (up cn 2 (cn 2 + (if 0 < cn 0 then (m - lm - 1) % 256 else 0)))))) (L' := [some (.ref R), some (.int (iI m))]) (fun sz => ?_) (fun j30 => ?_)
  · refine V_aload_n dX5_countMaster_30 rfl ?_
    refine V_iload_n dX5_countMaster_31 rfl ?_
    refine V_putf fX5_9 dX5_countMaster_32 ((mu_ne (by omega)).trans h0) rfl rfl (by simp) ?_
    refine V_aload_n dX5_countMaster_35 rfl ?_
    refine V_getf fX5_15 dX5_countMaster_36 mu_eq rfl ?_
    refine V_iconst (v := iI (0)) dX5_countMaster_39 rfl ?_
    refine V_dup2 dX5_countMaster_40 rfl rfl ?_
    refine I_iald dX5_countMaster_41 ((mu_ne (by omega)).trans mu_eq) ⟨by omega, by omega⟩ (by decide) ?_
    refine V_iconst (v := iI (1)) dX5_countMaster_42 rfl ?_
    refine I_iadd dX5_countMaster_43 ?_
    refine I_iast dX5_countMaster_44 ((mu_ne (by omega)).trans mu_eq) ⟨by omega, by omega⟩ (by decide) ?_
    exact V_ret dX5_countMaster_45 rfl (Nat.le_of_ble_eq_true rfl) (Nat.le_of_ble_eq_true rfl) (hQ _ _ _ ⟨rfl, ⟨m, _, ap, am, ab, al, (mu_ne (by omega)).trans mu_eq, mu_eq, (mu_ne (by omega)).trans ((mu_ne (by omega)).trans ((mu_ne (by omega)).trans h2)), (mu_ne (by omega)).trans ((mu_ne (by omega)).trans ((mu_ne (by omega)).trans h3)), (mu_ne (by omega)).trans ((mu_ne (by omega)).trans ((mu_ne (by omega)).trans h4)), (mu_ne (by omega)).trans ((mu_ne (by omega)).trans ((mu_ne (by omega)).trans h5)), (mu_ne (by omega)).trans ((mu_ne (by omega)).trans ((mu_ne (by omega)).trans h6)), (fun _ => (by unfold rcm; rw [up_s])), hcn, hap⟩, ((FR.rf.mu (by omega)).mu (by omega)).mu (by omega)⟩)
  · refine V_aload_n dX5_countMaster_0 rfl ?_
    refine V_getf fX5_15 dX5_countMaster_1 h0 rfl ?_
    refine V_iconst (v := iI (0)) dX5_countMaster_4 rfl ?_
    refine I_iald dX5_countMaster_5 h1 ⟨by omega, by omega⟩ (by decide) ?_
    refine I_if_le (tgt := 30) dX5_countMaster_6 (by decide) ⟨by omega, by omega⟩ (fun h6 => ?_) (fun h6 => ?_)
    · first
      | exact V_eqM (by rw [if_pos (by omega)]) (V_wk' (j30 _) ⟨rfl, rfl, trivial⟩)
      | exact V_eqM (by rw [if_neg (by omega), Int.add_zero, up_self, mu_self h1]) (V_wk' (j30 _) ⟨rfl, rfl, trivial⟩)
    · refine V_aload_n dX5_countMaster_9 rfl ?_
      refine V_getf fX5_15 dX5_countMaster_10 h0 rfl ?_
      refine V_iconst (v := iI (2)) dX5_countMaster_13 rfl ?_
      refine V_dup2 dX5_countMaster_14 rfl rfl ?_
      refine I_iald dX5_countMaster_15 h1 ⟨by omega, by omega⟩ (by decide) ?_
      refine V_iload_n dX5_countMaster_16 rfl ?_
      refine V_aload_n dX5_countMaster_17 rfl ?_
      refine V_getf fX5_9 dX5_countMaster_18 h0 rfl ?_
      refine I_isub dX5_countMaster_21 ?_
      refine V_iconst (v := iI (1)) dX5_countMaster_22 rfl ?_
      refine I_isub dX5_countMaster_23 ?_
      refine V_sipush (v := iI (255)) dX5_countMaster_24 (by decide +kernel) ?_
      first | refine I_and255 dX5_countMaster_27 ?_ | refine I_and65535 dX5_countMaster_27 ?_ | refine I_and31 dX5_countMaster_27 ?_
      refine I_iadd dX5_countMaster_28 ?_
      refine I_iast dX5_countMaster_29 h1 ⟨by omega, by omega⟩ (by decide) ?_
      first
      | exact V_eqM (by rw [if_pos (by omega)]) (V_wk' (j30 _) ⟨rfl, rfl, trivial⟩)
      | exact V_eqM (by rw [if_neg (by omega), Int.add_zero, up_self, mu_self h1]) (V_wk' (j30 _) ⟨rfl, rfl, trivial⟩)

theorem rk_inj {k : Nat} {a b c d e a' b' c' d' e' : Int} (h : some (rkO k a b c d e) = some (rkO k a' b' c' d' e')) (x : Int) : rkO k a b c d x = rkO k a' b' c' d' x := by
  injection h with h
  injection h with h
  injection h with _ h
  injection h with h1 h
  injection h with h2 h
  injection h with h3 h
  injection h with h4 h
  show (Sum.inl (4, [.int (iI a), .int (iI b), .int (iI c), .int (iI d), .int (iI x), .ref (k + 1)]) : Cel) = _
  rw [h1, h2, h3, h4]

set_option maxRecDepth 100000 in
set_option maxHeartbeats 4000000 in
theorem c5_deliver (l : Launch) (M : ME) (R : Nat) (ρ : Int → Int) (c : Int) (hc : 0 ≤ c ∧ c ≤ 3) (hR : RR M R ρ) (hAi : Ai ρ) (hTp : Tp ρ) (hPi : ∀ i, 0 ≤ i → i ≤ 3 → ρ (3407 + i) ≤ 258) (hp0 : 3 ≤ ρ (3407 + c)) (hb0 : 0 ≤ ρ (3411 + 258 * c) ∧ ρ (3411 + 258 * c) ≤ 255) (hb1 : 0 ≤ ρ (3411 + 258 * c + 1) ∧ ρ (3411 + 258 * c + 1) ≤ 255) (hb2 : 0 ≤ ρ (3411 + 258 * c + 2) ∧ ρ (3411 + 258 * c + 2) ≤ 255) (hpl : ρ (3407 + c) = 3 + ρ (3411 + 258 * c + 2)) (hC : ∀ a, 0 ≤ a → a ≤ 14 → (0 ≤ ρ (4443 + 4 * a) ∧ ρ (4443 + 4 * a) ≤ 1000000000) ∧ (ρ (4443 + 4 * a + 3) = -1 ↔ ρ (4443 + 4 * a) = 0)) : CP l yX5_deliver cX5_deliver 5 (some .int) (rmN 2) [.ref R, .ref (rkA R c), .int (iI c)] M (fun v M' => v = some (.int (iI (if ρ (3411 + 258 * c) < 15 then 1 else 0))) ∧ (∀ x, M (rkA R c) = some x → M' (rkA R c) = some x) ∧ (∀ a b e f z, M (rkA R c) = some (rkO (rkA R c) a b e f z) → RR (mu M' (rkA R c) (rkO (rkA R c) a b e f 0)) R (rdv ρ c)) ∧ FR M M' R 80) := by
  obtain ⟨hA, hK, hD, hT⟩ := id hR
  obtain ⟨lm, cn, ap, am, ab, al, h0, h1, h2, h3, h4, h5, h6, h7, h8, h9⟩ := id hA
  obtain ⟨lc, g, k0, k1, k2, k3, k4⟩ := hK c hc.1 (by omega)
  obtain ⟨kp, d0, d1, d3, d4, d5, d6⟩ := id hD
  have hkA : rkA R c = R + 72 + 2 * c.toNat := rfl
  have g0 : g 0 = ρ (3411 + 258 * c) := by rw [k4 0 (by omega) (by omega), Int.add_zero]
  have g1 := k4 1 (by omega) (by omega)
  have g2 := k4 2 (by omega) (by omega)
  have hK1 : ∀ N : ME, (∀ q, R + 72 ≤ q → q < R + 80 → q ≠ rkA R c → N q = M q) → N (rkA R c) = some (rkO (rkA R c) (ρ (3395 + c)) (ρ (3399 + c)) lc (ρ (3403 + c)) 0) → ∀ ρ' : Int → Int, (∀ q, 3390 ≤ q → q < 4443 → q ≠ 3407 + c → ρ' q = ρ q) → ρ' (3407 + c) = 0 → ∀ i, 0 ≤ i → i < 4 → RK N (rkA R i) ρ' i := fun N hN hN0 ρ' hr hz i a b => by
    by_cases e : i = c
    · subst e
      exact ⟨lc, g, by rw [hN0, hr (3395 + i) (by omega) (by omega) (by omega), hr (3399 + i) (by omega) (by omega) (by omega), hr (3403 + i) (by omega) (by omega) (by omega), hz], by rw [hN _ (by omega) (by omega) (by omega)]; exact k1, by rw [hr (3390 + i) (by omega) (by omega) (by omega)]; exact k2, by rw [hr (3403 + i) (by omega) (by omega) (by omega)]; exact k3, fun q x y => by omega⟩
    · have hiA : rkA R i = R + 72 + 2 * i.toNat := rfl
      exact (hK i a b).mv (by have := hPi i a (by omega); omega) ⟨hN _ (by omega) (by omega) (by omega), hN _ (by omega) (by omega) (by omega)⟩ (fun q hq => hr q (by omega) (by omega) (by omega))
  have hdm := d3 0 (by omega) (by omega)
  have hbad : ∀ k : Int, (k = 3 ∨ k = 4) → ¬ ρ (3411 + 258 * c) < 15 → k = (if ρ (3411 + 258 * c) = 15 then 4 else 3) → RR (mu (mu M (R + 1) (aI 6 (up cn k (cn k + 1)))) (rkA R c) (rkO (rkA R c) (ρ (3395 + c)) (ρ (3399 + c)) lc (ρ (3403 + c)) 0)) R (rdv ρ c) := fun k hk h15 he => by
    have er : rdv ρ c = rcn (up ρ (3407 + c) 0) k 1 := by unfold rdv; rw [if_neg h15, he]
    have eo : ∀ q, q ≠ 3383 + k → q ≠ 3407 + c → rdv ρ c q = ρ q := fun q z w => by rw [er, rcn_o z, up_n w]
    have ek : rdv ρ c (3383 + k) = ρ (3383 + k) + 1 := by rw [er]; unfold rcn; rw [up_s, up_n (by omega)]
    refine ⟨⟨lm, _, ap, am, ab, al, (mu_ne (by omega)).trans ((mu_ne (by omega)).trans h0), (mu_ne (by omega)).trans mu_eq, (mu_ne (by omega)).trans ((mu_ne (by omega)).trans h2), (mu_ne (by omega)).trans ((mu_ne (by omega)).trans h3), (mu_ne (by omega)).trans ((mu_ne (by omega)).trans h4), (mu_ne (by omega)).trans ((mu_ne (by omega)).trans h5), (mu_ne (by omega)).trans ((mu_ne (by omega)).trans h6), by rw [eo 3389 (by omega) (by omega)]; exact h7, fun q x y => ?_, fun a x y => ?_⟩, ?_, ?_, ?_⟩
    · by_cases z : q = k
      · rw [z, up_s, ek, h8 k (by omega) (by omega)]
      · rw [up_n z, eo _ (by omega) (by omega)]; exact h8 q x y
    · rw [eo _ (by omega) (by omega), eo _ (by omega) (by omega), eo _ (by omega) (by omega), eo _ (by omega) (by omega)]; exact h9 a x y
    · exact hK1 _ (fun q x y z => (mu_ne z).trans (mu_ne (by omega))) mu_eq _ (fun q x y z => eo q (by omega) z) (by rw [er, rcn_o (by omega), up_s])
    · exact hD.mv hAi (fun q x y => (mu_ne (by omega)).trans (mu_ne (by omega))) (fun q x y => eo q (by omega) (by omega))
    · exact hT.mv hTp.1.2 (fun q x y => (mu_ne (by omega)).trans (mu_ne (by omega))) (fun q x y => eo q (by omega) (by omega))
  refine CP.of (L0 := [some _, some _, some _, none, none]) (by decide +kernel) rfl rfl (Nat.le_of_ble_eq_true rfl) rfl (fun G A Q sz hQ => ?_)
  refine V_aload_n dX5_deliver_0 rfl ?_
  refine V_getf fX5_132 dX5_deliver_1 k0 rfl ?_
  refine V_iconst (v := iI (0)) dX5_deliver_4 rfl ?_
  refine I_iald dX5_deliver_5 k1 ⟨by omega, by omega⟩ (by decide) ?_
  refine V_istore_n (L' := [some _, some _, some _, some _, none]) dX5_deliver_6 rfl (by decide) rfl ?_
  refine V_iload_n dX5_deliver_7 rfl ?_
  refine V_bipush (v := iI (15)) dX5_deliver_8 (by decide +kernel) ?_
  refine I_icmp_ne (tgt := 25) dX5_deliver_10 (by decide) ⟨by omega, by omega⟩ ⟨by omega, by omega⟩ (fun h10 => ?_) (fun h10 => ?_)
  · refine V_iload_n dX5_deliver_25 rfl ?_
    refine V_iconst (v := iI (0)) dX5_deliver_26 rfl ?_
    refine V_bipush (v := iI (14)) dX5_deliver_27 (by decide +kernel) ?_
    refine V_cN (vs := [_, _, _]) (x_outside l _ (g 0) 0 14 ⟨by unfold r32; omega, by unfold r32; omega, by unfold r32; omega⟩) mX5_77 coX10_outside dX5_deliver_29 rfl rfl (by decide) (Nat.le_of_ble_eq_true rfl) (Nat.le_of_ble_eq_true rfl) (Nat.le_of_ble_eq_true rfl) (fun sz => ?_)
    obtain ⟨bo, hbo, ebo⟩ := ex_if (p := g 0 < 0 ∨ 14 < g 0)
    rw [ebo]
    refine I_if_eq (tgt := 47) dX5_deliver_32 (by decide) ⟨by omega, by omega⟩ (fun h32 => ?_) (fun h32 => ?_)
    · refine V_aload_n dX5_deliver_47 rfl ?_
      refine V_getf fX5_132 dX5_deliver_48 k0 rfl ?_
      refine V_iconst (v := iI (1)) dX5_deliver_51 rfl ?_
      refine I_iald dX5_deliver_52 k1 ⟨by omega, by omega⟩ (by decide) ?_
      refine V_istore (L' := [some _, some _, some _, some _, some _]) dX5_deliver_53 (by decide) rfl ?_
      refine V_join (J := 88) (M' := (mu M (R + 3) (aI 15 (up am (g 0) (am (g 0) + (if 0 < ap (g 0) then (g 1 - al (g 0) - 1) % 256 else 0)))))) (L' := [some (.ref R), some (.ref (rkA R c)), some (.int (iI c)), some (.int (iI (g 0))), some (.int (iI (g 1)))]) (fun sz => ?_) (fun j88 => ?_)
      · refine V_aload_n dX5_deliver_88 rfl ?_
        refine V_getf fX5_28 dX5_deliver_89 ((mu_ne (by omega)).trans h0) rfl ?_
        refine V_iload_n dX5_deliver_92 rfl ?_
        refine V_iload dX5_deliver_93 rfl ?_
        refine I_iast dX5_deliver_95 ((mu_ne (by omega)).trans h5) ⟨by omega, by omega⟩ (by decide) ?_
        refine V_aload_n dX5_deliver_96 rfl ?_
        refine V_getf fX5_19 dX5_deliver_97 ((mu_ne (by omega)).trans ((mu_ne (by omega)).trans h0)) rfl ?_
        refine V_iload_n dX5_deliver_100 rfl ?_
        refine V_dup2 dX5_deliver_101 rfl rfl ?_
        refine I_iald dX5_deliver_102 ((mu_ne (by omega)).trans ((mu_ne (by omega)).trans h2)) ⟨by omega, by omega⟩ (by decide) ?_
        refine V_iconst (v := iI (1)) dX5_deliver_103 rfl ?_
        refine I_iadd dX5_deliver_104 ?_
        refine I_iast dX5_deliver_105 ((mu_ne (by omega)).trans ((mu_ne (by omega)).trans h2)) ⟨by omega, by omega⟩ (by decide) ?_
        refine V_aload_n dX5_deliver_106 rfl ?_
        refine V_getf fX5_25 dX5_deliver_107 ((mu_ne (by omega)).trans ((mu_ne (by omega)).trans ((mu_ne (by omega)).trans h0))) rfl ?_
        refine V_iload_n dX5_deliver_110 rfl ?_
        refine V_dup2 dX5_deliver_111 rfl rfl ?_
        refine I_iald dX5_deliver_112 ((mu_ne (by omega)).trans ((mu_ne (by omega)).trans ((mu_ne (by omega)).trans h4))) ⟨by omega, by omega⟩ (by decide) ?_
        refine V_aload_n dX5_deliver_113 rfl ?_
        refine V_getf fX5_132 dX5_deliver_114 ((mu_ne (by omega)).trans ((mu_ne (by omega)).trans ((mu_ne (by omega)).trans k0))) rfl ?_
        refine V_iconst (v := iI (2)) dX5_deliver_117 rfl ?_
        refine I_iald dX5_deliver_118 ((mu_ne (by omega)).trans ((mu_ne (by omega)).trans ((mu_ne (by omega)).trans k1))) ⟨by omega, by omega⟩ (by decide) ?_
        refine I_iadd dX5_deliver_119 ?_
        refine I_iast dX5_deliver_120 ((mu_ne (by omega)).trans ((mu_ne (by omega)).trans ((mu_ne (by omega)).trans h4))) ⟨by omega, by omega⟩ (by decide) ?_
        refine V_aload_n dX5_deliver_121 rfl ?_
        refine V_getf fX5_40 dX5_deliver_122 ((mu_ne (by omega)).trans ((mu_ne (by omega)).trans ((mu_ne (by omega)).trans ((mu_ne (by omega)).trans h0)))) rfl ?_
        refine V_cV (vs := []) (l_append l _ (R + 7) (ρ 4503) ((mu_ne (by omega)).trans ((mu_ne (by omega)).trans ((mu_ne (by omega)).trans ((mu_ne (by omega)).trans d0)))) kp ((mu_ne (by omega)).trans ((mu_ne (by omega)).trans ((mu_ne (by omega)).trans ((mu_ne (by omega)).trans d1)))) d4 d3 (fun i x y => by obtain ⟨φ, h⟩ := d5 i x y; have b9 := d3 i x y; exact ⟨φ, h.mv ⟨(mu_ne (by omega)).trans ((mu_ne (by omega)).trans ((mu_ne (by omega)).trans (mu_ne (by omega)))), (mu_ne (by omega)).trans ((mu_ne (by omega)).trans ((mu_ne (by omega)).trans (mu_ne (by omega))))⟩ (Int.le_refl _) (fun _ _ _ => rfl)⟩)) mX5_135 coX0_append dX5_deliver_125 ((mu_ne (by omega)).trans ((mu_ne (by omega)).trans ((mu_ne (by omega)).trans ((mu_ne (by omega)).trans d0)))) rfl rfl rfl (by decide) (Nat.le_of_ble_eq_true rfl) (Nat.le_of_ble_eq_true rfl) (Nat.le_of_ble_eq_true rfl) (fun sz => ?_)
        obtain ⟨WF_, hWF⟩ : ∃ W : ME, W = (mu (mu (mu (mu (mu (mu M (R + 3) (aI 15 (up am (g 0) (am (g 0) + (if 0 < ap (g 0) then (g 1 - al (g 0) - 1) % 256 else 0))))) (R + 5) (aI 15 (up al (g 0) (g 1)))) (R + 2) (aI 15 (up ap (g 0) (ap (g 0) + 1)))) (R + 4) (aI 15 (up ab (g 0) (ab (g 0) + g 2)))) (R + 7) (dlO (R + 7) (sN (ρ 4503) + 1))) (R + 7 + 1) (aR 2 30 (kpN (ρ 4503) kp))) := ⟨_, rfl⟩
        rw [← hWF]
        obtain ⟨DPK, hDPK⟩ : ∃ W : Nat, W = kpN (ρ 4503) kp (sN (ρ 4503)) := ⟨_, rfl⟩
        rw [← hDPK]
        have hsb : 0 ≤ sN (ρ 4503) ∧ sN (ρ 4503) ≤ 29 := by unfold sN; split <;> omega
        have hPk : Pm (R + 7 + 2) 2 30 (kpN (ρ 4503) kp) := by
          unfold kpN
          split
          · exact d3
          · exact rot_P (by omega) d3
        have hdb := hPk _ hsb.1 (show sN (ρ 4503) < 30 by omega)
        rw [← hDPK] at hdb
        have hWo : ∀ q, R + 9 ≤ q → WF_ q = M q := fun q z => by rw [hWF, mu_ne (by omega), mu_ne (by omega), mu_ne (by omega), mu_ne (by omega), mu_ne (by omega), mu_ne (by omega)]
        have hdx : ∀ i, 0 ≤ i → i < 30 → ∃ φ, DR M (kpN (ρ 4503) kp i) φ 0 := fun i x y => by
          unfold kpN
          split
          · exact d5 i x y
          · rw [rot_e x]; have := rti_b (s := 30) (n := 30) (by omega) ⟨x, y⟩; exact d5 _ this.1 this.2
        obtain ⟨φ, gp, q0, q1, -⟩ := hdx _ hsb.1 (show sN (ρ 4503) < 30 by omega)
        rw [← hDPK] at q0 q1
        have hq0 : WF_ DPK = some (dpO DPK (φ 0) (φ 1) (φ 2) (φ 3)) := by rw [hWo _ (by omega)]; exact q0
        have hq1 : WF_ (DPK + 1) = some (aI 255 gp) := by rw [hWo _ (by omega)]; exact q1
        have hk0 : WF_ (rkA R c) = some (rkO (rkA R c) (ρ (3395 + c)) (ρ (3399 + c)) lc (ρ (3403 + c)) (ρ (3407 + c))) := by rw [hWo _ (by omega)]; exact k0
        have hk1 : WF_ (rkA R c + 1) = some (aI 258 g) := by rw [hWo _ (by omega)]; exact k1
        refine V_aload_n dX5_deliver_128 rfl ?_
        refine V_iload_n dX5_deliver_129 rfl ?_
        refine V_cV0 (vs := [_, _]) (d_fill l WF_ DPK (φ 0) (φ 1) (φ 2) (φ 3) hq0 gp hq1 (rkA R c) _ _ _ _ _ hk0 g hk1 (by omega) ⟨by omega, by omega⟩ c) mX5_138 coX1_fill dX5_deliver_130 hq0 rfl rfl rfl (by decide) (Nat.le_of_ble_eq_true rfl) (Nat.le_of_ble_eq_true rfl) (Nat.le_of_ble_eq_true rfl) (fun sz => ?_)
        refine V_iconst (v := iI (1)) dX5_deliver_133 rfl ?_
        have hCa := hC (g 0) (by omega) (by omega)
        have h9a := h9 (g 0) (by omega) (by omega)
        have hwR : ∀ q, q < R + 9 → (mu (mu WF_ DPK (dpO DPK c (g 0) (g 1) (g 2))) (DPK + 1) (aI 255 (cpI g gp 3 0 255))) q = WF_ q := fun q z => (mu_ne (by omega)).trans (mu_ne (by omega))
        have hgood : RR (mu (mu (mu WF_ DPK (dpO DPK c (g 0) (g 1) (g 2))) (DPK + 1) (aI 255 (cpI g gp 3 0 255))) (rkA R c) (rkO (rkA R c) (ρ (3395 + c)) (ρ (3399 + c)) lc (ρ (3403 + c)) 0)) R (rdv ρ c) := by
          have er : rdv ρ c = rdE (rdB (rdA ρ c (g 0))) c (g 0) := by unfold rdv; rw [if_pos (by omega), g0]
          have eA : ∀ q, q ≠ 3407 + c → (q < 4443 + 4 * g 0 ∨ 4443 + 4 * g 0 + 3 < q) → rdA ρ c (g 0) q = ρ q := fun q z w => rdA_o z w
          have eA4 : rdA ρ c (g 0) 4503 = ρ 4503 := eA _ (by omega) (by omega)
          have eA2 : rdA ρ c (g 0) (3411 + 258 * c + 2) = ρ (3411 + 258 * c + 2) := eA _ (by omega) (by omega)
          have hAi2 : Ai (rdA ρ c (g 0)) := ⟨fun a x y => by
            by_cases z : a = g 0
            · rw [z, rdA_3]; exact ⟨by omega, by omega⟩
            · rw [eA _ (by omega) (by omega)]; exact hAi.1 a x y, by rw [eA4]; exact hAi.2.1, fun i x y => by rw [eA4] at y; rw [eA _ (by omega) (by omega)]; exact hAi.2.2 i x y⟩
          have eE : ∀ q, (q < 4503 ∨ 12304 ≤ q) → rdv ρ c q = rdA ρ c (g 0) q := fun q z => by
            have hb := rdB_p hAi2.2.1
            rw [er, rdE_o hb.1 (by rw [rdB_o (by omega), eA2]; exact hb2) (by omega) (by omega), rdB_o (by omega)]
          have aP : rdA ρ c (g 0) (4443 + 4 * g 0) = ρ (4443 + 4 * g 0) + 1 := by unfold rdA; rw [up_n (by omega), up_n (by omega), up_n (by omega), up_s]
          have aM : rdA ρ c (g 0) (4443 + 4 * g 0 + 1) = ρ (4443 + 4 * g 0 + 1) + (if ρ (4443 + 4 * g 0 + 3) = -1 then 0 else (ρ (3411 + 258 * c + 1) - ρ (4443 + 4 * g 0 + 3) + 255) % 256) := by unfold rdA; rw [up_n (by omega), up_n (by omega), up_s]
          have aB : rdA ρ c (g 0) (4443 + 4 * g 0 + 2) = ρ (4443 + 4 * g 0 + 2) + ρ (3411 + 258 * c + 2) := by unfold rdA; rw [up_n (by omega), up_s]
          have aL : rdA ρ c (g 0) (4443 + 4 * g 0 + 3) = ρ (3411 + 258 * c + 1) := rdA_3
          refine ⟨⟨lm, cn, up ap (g 0) (ap (g 0) + 1), up am (g 0) (am (g 0) + (if 0 < ap (g 0) then (g 1 - al (g 0) - 1) % 256 else 0)), up ab (g 0) (ab (g 0) + g 2), up al (g 0) (g 1), ?_, ?_, ?_, ?_, ?_, ?_, ?_, ?_, fun q x y => ?_, fun a x y => ?_⟩, ?_, ?_, ?_⟩
          · rw [mu_ne (by omega), hwR _ (by omega), hWF, mu_ne (by omega), mu_ne (by omega), mu_ne (by omega), mu_ne (by omega), mu_ne (by omega), mu_ne (by omega)]; exact h0
          · rw [mu_ne (by omega), hwR _ (by omega), hWF, mu_ne (by omega), mu_ne (by omega), mu_ne (by omega), mu_ne (by omega), mu_ne (by omega), mu_ne (by omega)]; exact h1
          · rw [mu_ne (by omega), hwR _ (by omega), hWF, mu_ne (by omega), mu_ne (by omega), mu_ne (by omega)]; exact mu_eq
          · rw [mu_ne (by omega), hwR _ (by omega), hWF, mu_ne (by omega), mu_ne (by omega), mu_ne (by omega), mu_ne (by omega), mu_ne (by omega)]; exact mu_eq
          · rw [mu_ne (by omega), hwR _ (by omega), hWF, mu_ne (by omega), mu_ne (by omega)]; exact mu_eq
          · rw [mu_ne (by omega), hwR _ (by omega), hWF, mu_ne (by omega), mu_ne (by omega), mu_ne (by omega), mu_ne (by omega)]; exact mu_eq
          · rw [mu_ne (by omega), hwR _ (by omega), hWF, mu_ne (by omega), mu_ne (by omega), mu_ne (by omega), mu_ne (by omega), mu_ne (by omega), mu_ne (by omega)]; exact h6
          · rw [eE _ (by omega), eA _ (by omega) (by omega)]; exact h7
          · rw [eE _ (by omega), eA _ (by omega) (by omega)]; exact h8 q x y
          · rw [eE _ (by omega), eE _ (by omega), eE _ (by omega), eE _ (by omega)]
            by_cases z : a = g 0
            · rw [z, up_s, up_s, up_s, up_s, aP, aM, aB, aL]
              refine ⟨by omega, ?_, by omega, fun _ => g1⟩
              by_cases w : ρ (4443 + 4 * g 0) = 0
              · rw [if_neg (by omega), if_pos (by omega), h9a.2.1]
              · rw [if_pos (by omega), if_neg (by omega), h9a.2.1, h9a.2.2.2 (by omega), g1]; omega
            · rw [up_n z, up_n z, up_n z, up_n z, eA _ (by omega) (by omega), eA _ (by omega) (by omega), eA _ (by omega) (by omega), eA _ (by omega) (by omega)]; exact h9 a x y
          · exact hK1 _ (fun q x y z => by rw [mu_ne z, mu_ne (by omega), mu_ne (by omega)]; exact hWo q (by omega)) mu_eq _ (fun q x y z => by rw [eE _ (by omega)]; exact eA q z (by omega)) (by rw [eE _ (by omega)]; exact rdA_c hc (by omega))
          · rw [er]
            refine DL.app (M := M) hc hAi2 (by rw [eA2]; exact hb2) d3 d5 (fun i x y => ?_) (g := gp) (gk := g) ?_ ?_ ?_ ?_ (fun k x y => ?_) (fun q x y z w => ?_)
            · rw [eA4] at y; have hl9 := hAi.2.2 i x y; rw [eA _ (by omega) (by omega)]; exact (d6 i x y).mv ⟨rfl, rfl⟩ (Int.le_refl _) (fun q z w => by unfold sl; exact eA _ (by omega) (by omega))
            · rw [eA4, mu_ne (by omega), hwR _ (by omega), hWF, mu_ne (by omega), mu_eq]
            · rw [eA4, mu_ne (by omega), hwR _ (by omega), hWF, mu_eq]
            · rw [eA4, ← hDPK, mu_ne (by omega), mu_ne (by omega), mu_eq, eA2, eA _ (by omega) (by omega), g1, g2]
            · rw [eA4, ← hDPK, mu_ne (by omega), mu_eq]
            · rw [eA2] at y; rw [eA _ (by omega) (by omega), k4 _ (by omega) (by omega), show 3411 + 258 * c + (3 + k) = 3411 + 258 * c + 3 + k by omega]
            · rw [eA4, ← hDPK] at z w; rw [mu_ne (by omega), mu_ne w, mu_ne z]; exact hWo q (by omega)
          · exact hT.mv hTp.1.2 (fun q x y => by rw [mu_ne (by omega), mu_ne (by omega), mu_ne (by omega)]; exact hWo q (by omega)) (fun q x y => by rw [eE _ (by omega)]; exact eA q (by omega) (by omega))
        exact V_ireti dX5_deliver_134 rfl (Nat.le_of_ble_eq_true rfl) (Nat.le_of_ble_eq_true rfl) (hQ _ _ _ ⟨iv (if_pos (by omega)).symm, fun x hx => ((mu_ne (by omega)).trans ((mu_ne (by omega)).trans (hWo _ (by omega)))).trans hx, fun a b e f z hx => by rw [rk_inj (hx.symm.trans k0) 0]; exact hgood, fun q hq => (mu_ne (by omega)).trans ((mu_ne (by omega)).trans (by rw [hWF, mu_ne (by omega), mu_ne (by omega), mu_ne (by omega), mu_ne (by omega), mu_ne (by omega), mu_ne (by omega)]))⟩)
      · have hCa := hC (g 0) (by omega) (by omega)
        have h9a := h9 (g 0) (by omega) (by omega)
        refine V_aload_n dX5_deliver_55 rfl ?_
        refine V_getf fX5_19 dX5_deliver_56 h0 rfl ?_
        refine V_iload_n dX5_deliver_59 rfl ?_
        refine I_iald dX5_deliver_60 h2 ⟨by omega, by omega⟩ (by decide) ?_
        refine I_if_le (tgt := 88) dX5_deliver_61 (by decide) ⟨by omega, by omega⟩ (fun h61 => ?_) (fun h61 => ?_)
        · first
          | exact V_eqM (by rw [if_pos (by omega)]) (V_wk' (j88 _) ⟨rfl, rfl, rfl, rfl, rfl, trivial⟩)
          | exact V_eqM (by rw [if_neg (by omega), Int.add_zero, up_self, mu_self h3]) (V_wk' (j88 _) ⟨rfl, rfl, rfl, rfl, rfl, trivial⟩)
        · refine V_aload_n dX5_deliver_64 rfl ?_
          refine V_getf fX5_22 dX5_deliver_65 h0 rfl ?_
          refine V_iload_n dX5_deliver_68 rfl ?_
          refine V_dup2 dX5_deliver_69 rfl rfl ?_
          refine I_iald dX5_deliver_70 h3 ⟨by omega, by omega⟩ (by decide) ?_
          refine V_iload dX5_deliver_71 rfl ?_
          refine V_aload_n dX5_deliver_73 rfl ?_
          refine V_getf fX5_28 dX5_deliver_74 h0 rfl ?_
          refine V_iload_n dX5_deliver_77 rfl ?_
          refine I_iald dX5_deliver_78 h5 ⟨by omega, by omega⟩ (by decide) ?_
          refine I_isub dX5_deliver_79 ?_
          refine V_iconst (v := iI (1)) dX5_deliver_80 rfl ?_
          refine I_isub dX5_deliver_81 ?_
          refine V_sipush (v := iI (255)) dX5_deliver_82 (by decide +kernel) ?_
          first | refine I_and255 dX5_deliver_85 ?_ | refine I_and65535 dX5_deliver_85 ?_ | refine I_and31 dX5_deliver_85 ?_
          refine I_iadd dX5_deliver_86 ?_
          refine I_iast dX5_deliver_87 h3 ⟨by omega, by omega⟩ (by decide) ?_
          first
          | exact V_eqM (by rw [if_pos (by omega)]) (V_wk' (j88 _) ⟨rfl, rfl, rfl, rfl, rfl, trivial⟩)
          | exact V_eqM (by rw [if_neg (by omega), Int.add_zero, up_self, mu_self h3]) (V_wk' (j88 _) ⟨rfl, rfl, rfl, rfl, rfl, trivial⟩)
    · refine V_aload_n dX5_deliver_35 rfl ?_
      refine V_getf fX5_15 dX5_deliver_36 h0 rfl ?_
      refine V_iconst (v := iI (3)) dX5_deliver_39 rfl ?_
      refine V_dup2 dX5_deliver_40 rfl rfl ?_
      refine I_iald dX5_deliver_41 h1 ⟨by omega, by omega⟩ (by decide) ?_
      refine V_iconst (v := iI (1)) dX5_deliver_42 rfl ?_
      refine I_iadd dX5_deliver_43 ?_
      refine I_iast dX5_deliver_44 h1 ⟨by omega, by omega⟩ (by decide) ?_
      refine V_iconst (v := iI (0)) dX5_deliver_45 rfl ?_
      exact V_ireti dX5_deliver_46 rfl (Nat.le_of_ble_eq_true rfl) (Nat.le_of_ble_eq_true rfl) (hQ _ _ _ ⟨iv (if_neg (by omega)).symm, fun x hx => (mu_ne (by omega)).trans hx, fun a b e f z hx => by rw [rk_inj (hx.symm.trans k0) 0]; exact hbad 3 (by omega) (by omega) (by first | exact (if_pos (by omega)).symm | exact (if_neg (by omega)).symm), FR.rf.mu (by omega)⟩)
  · refine V_aload_n dX5_deliver_13 rfl ?_
    refine V_getf fX5_15 dX5_deliver_14 h0 rfl ?_
    refine V_iconst (v := iI (4)) dX5_deliver_17 rfl ?_
    refine V_dup2 dX5_deliver_18 rfl rfl ?_
    refine I_iald dX5_deliver_19 h1 ⟨by omega, by omega⟩ (by decide) ?_
    refine V_iconst (v := iI (1)) dX5_deliver_20 rfl ?_
    refine I_iadd dX5_deliver_21 ?_
    refine I_iast dX5_deliver_22 h1 ⟨by omega, by omega⟩ (by decide) ?_
    refine V_iconst (v := iI (0)) dX5_deliver_23 rfl ?_
    exact V_ireti dX5_deliver_24 rfl (Nat.le_of_ble_eq_true rfl) (Nat.le_of_ble_eq_true rfl) (hQ _ _ _ ⟨iv (if_neg (by omega)).symm, fun x hx => (mu_ne (by omega)).trans hx, fun a b e f z hx => by rw [rk_inj (hx.symm.trans k0) 0]; exact hbad 4 (by omega) (by omega) (by first | exact (if_pos (by omega)).symm | exact (if_neg (by omega)).symm), FR.rf.mu (by omega)⟩)
