/-- a byte goes: the packet goes on -/
theorem SC.tk1 {M M' : ME} {c : Nat} {ρ : Int → Int} {ch : Int} (hc : 0 ≤ ch ∧ ch ≤ 3) (h : SC M c ρ ch) (hQ : Qs ρ ch) (hp : 1 ≤ pend ρ ch) (hk : ¬ ρ (58 + ch) + 1 = 3 + ρ (62 + 80 * ch + 2)) {x : Int} (hx : x = ρ (46 + ch) + (if ρ (62 + 80 * ch) = 15 then 1 else 0)) (hM : M' c = some (scC (ρ (25 + ch)) (ρ (29 + ch)) (ρ (33 + ch)) (ρ (37 + ch)) (pend ρ ch - 1) (ρ (41 + ch)) x (ρ (50 + ch)) (ρ (54 + ch)) (ρ (58 + ch) + 1) (c + 1))) (hF : ∀ q, q ≠ c → M' q = M q) : SC M' c (rtk ρ ch) ch := by
  obtain ⟨f, p, h1, h2, h4, h5, h6, h7⟩ := h
  have hr := rtk_s hc hQ hp
  have e0 : rtk ρ ch = rtk1 ρ ch := by unfold rtk; rw [if_neg hk]
  have e : ∀ q, q ≠ 46 + ch → q ≠ 58 + ch → rtk ρ ch q = ρ q := fun q a b => by rw [e0]; unfold rtk1; rw [up_n b, up_n a]
  refine ⟨f, p, ?_, by rw [hF _ (by omega)]; exact h2, h4, fun i a b => ?_, by rw [e _ (by omega) (by omega)]; exact h6, fun i a b j j0 j1 => ?_⟩
  · rw [hM, hr.2, e (25 + ch) (by omega) (by omega), e (29 + ch) (by omega) (by omega), e (33 + ch) (by omega) (by omega), e (37 + ch) (by omega) (by omega), e (41 + ch) (by omega) (by omega), e (50 + ch) (by omega) (by omega), e (54 + ch) (by omega) (by omega), e0]
    unfold rtk1
    rw [up_s, up_n (by omega), up_s, hx]
  · rw [hF _ (by have := h4 i a b; omega)]; exact h5 i a b
  · rw [e _ (by omega) (by omega)] at b
    rw [e _ (by omega) (by omega)]
    exact h7 i a b j j0 j1
/-- .. the packet is through -/
theorem SC.tk2 {M M' : ME} {c : Nat} {ρ : Int → Int} {ch : Int} (hc : 0 ≤ ch ∧ ch ≤ 3) (hQ : Qs ρ ch) (hp : 1 ≤ pend ρ ch) (hk : ρ (58 + ch) + 1 = 3 + ρ (62 + 80 * ch + 2)) {f : Int → Nat} {p : Int → Int → Int} (h4 : Pm (c + 2) 1 13 f) (h5 : ∀ i, 0 ≤ i → i < 13 → M (f i) = some (qp (p i))) (h6 : 1 ≤ ρ (54 + ch) ∧ ρ (54 + ch) ≤ 13) (h7 : ∀ i, 0 ≤ i → i < ρ (54 + ch) → ∀ j, 0 ≤ j → j < 5 → p i j = ρ (62 + 80 * ch + 5 * i + j)) {x y : Int} (hx : x = ρ (46 + ch) + (if ρ (62 + 80 * ch) = 15 then 1 else 0)) (hy : y = if ¬ ρ (62 + 80 * ch) = 15 ∧ ρ (50 + ch) < ρ 3 - ρ (62 + 80 * ch + 4) then ρ 3 - ρ (62 + 80 * ch + 4) else ρ (50 + ch)) (hM : M' c = some (scC (ρ (25 + ch)) (ρ (29 + ch)) (ρ (33 + ch)) (ρ (37 + ch)) (pend ρ ch - 1) (ρ (41 + ch)) x y (ρ (54 + ch) - 1) 0 (c + 1))) (hM1 : M' (c + 1) = some (aR 4 13 (rot f (ρ (54 + ch))))) (hF : ∀ q, q ≠ c → q ≠ c + 1 → M' q = M q) : SC M' c (rtk ρ ch) ch := by
  have hr := rtk_s hc hQ hp
  have e0 : rtk ρ ch = shl 5 (rtk2 ρ ch) (62 + 80 * ch) (62 + 80 * ch + 5 * (ρ (54 + ch) - 1)) := by unfold rtk; rw [if_pos hk]
  have e : ∀ q, q < 62 → rtk ρ ch q = rtk2 ρ ch q := fun q a => by rw [e0, shl_o (by omega)]
  have e1 : ∀ q, q ≠ 46 + ch → q ≠ 58 + ch → q ≠ 50 + ch → q ≠ 54 + ch → q < 62 → rtk ρ ch q = ρ q := fun q a b d g z => by rw [e q z]; unfold rtk2 rtk1; rw [up_n g, up_n b, up_n d, up_n b, up_n a]
  have e54 : rtk ρ ch (54 + ch) = ρ (54 + ch) - 1 := by rw [e _ (by omega)]; unfold rtk2; rw [up_s]
  have e58 : rtk ρ ch (58 + ch) = 0 := by rw [e _ (by omega)]; unfold rtk2; rw [up_n (by omega), up_s]
  have e50 : rtk ρ ch (50 + ch) = y := by rw [e _ (by omega), hy]; unfold rtk2; rw [up_n (by omega), up_n (by omega), up_s]
  have e46 : rtk ρ ch (46 + ch) = x := by rw [e _ (by omega), hx]; unfold rtk2 rtk1; rw [up_n (by omega), up_n (by omega), up_n (by omega), up_n (by omega), up_s]
  refine ⟨rot f (ρ (54 + ch)), fun i => p (rti (ρ (54 + ch)) i), ?_, hM1, rot_P h6 h4, fun i a b => ?_, by rw [e54]; omega, fun i a b j j0 j1 => ?_⟩
  · rw [hM, hr.2, e1 (25 + ch) (by omega) (by omega) (by omega) (by omega) (by omega), e1 (29 + ch) (by omega) (by omega) (by omega) (by omega) (by omega), e1 (33 + ch) (by omega) (by omega) (by omega) (by omega) (by omega), e1 (37 + ch) (by omega) (by omega) (by omega) (by omega) (by omega), e1 (41 + ch) (by omega) (by omega) (by omega) (by omega) (by omega), e46, e50, e54, e58]
  · have b1 := rti_b (n := 13) h6 ⟨a, b⟩
    rw [rot_e a, hF _ (by have := h4 _ b1.1 b1.2; omega) (by have := h4 _ b1.1 b1.2; omega)]
    exact h5 _ b1.1 b1.2
  · rw [e54] at b
    dsimp only
    rw [show rti (ρ (54 + ch)) i = i + 1 by unfold rti; rw [if_pos b], h7 (i + 1) (by omega) (by omega) j j0 j1, e0, shl_i (by omega), rtk2_q hc (by omega)]
    congr 1
    omega

/-- the world behind the counters -/
abbrev tkC (ρ : Int → Int) (ch x y : Int) (c : Nat) : Cel := scC (ρ (25 + ch)) (ρ (29 + ch)) (ρ (33 + ch)) (ρ (37 + ch)) (pend ρ ch - 1) (ρ (41 + ch)) x y (ρ (54 + ch)) (ρ (58 + ch) + 1) (c + 1)

set_option maxRecDepth 100000 in
set_option maxHeartbeats 4000000 in
theorem c6_takeByte (l : Launch) (M : ME) (c : Nat) (ρ : Int → Int) (ch : Int) (hc : 0 ≤ ch ∧ ch ≤ 3) (hS : SC M c ρ ch) (hQ2 : Qs ρ ch) (hp : 1 ≤ pend ρ ch) (h3 : 0 ≤ ρ 3 ∧ ρ 3 ≤ 100000) (hL : -1 ≤ ρ (50 + ch) ∧ ρ (50 + ch) ≤ 100000) : CP l yX6_takeByte cX6_takeByte 4 (some .int) (rmN 3) [.ref c, .int (iI (ρ 3))] M (fun v M' => v = some (.int (iI (rbyte ρ ch (ρ (58 + ch))))) ∧ SC M' c (rtk ρ ch) ch ∧ FR M M' c 15) := by
  obtain ⟨f, p, h1, h2, h4, h5, h6, h7⟩ := id hS
  have hs1 : 1 ≤ ρ (54 + ch) := (Qs.pend0 hQ2).2.mp hp
  have hb := hQ2.1.2.2 0 (by omega) (by omega)
  simp only [show 62 + 80 * ch + 5 * 0 = 62 + 80 * ch by omega] at hb
  have hf0 := h4 0 (by omega) (by omega)
  have hq0 := h5 0 (by omega) (by omega)
  have g0 : p 0 0 = ρ (62 + 80 * ch) := (h7 0 (by omega) (by omega) 0 (by omega) (by omega)).trans (by congr 1; omega)
  have g2 : p 0 2 = ρ (62 + 80 * ch + 2) := (h7 0 (by omega) (by omega) 2 (by omega) (by omega)).trans (by congr 1; omega)
  have g4 : p 0 4 = ρ (62 + 80 * ch + 4) := (h7 0 (by omega) (by omega) 4 (by omega) (by omega)).trans (by congr 1; omega)
  have ho := hQ2.1.2.1
  have hoh := hQ2.2
  have hy1 : ρ (62 + 80 * ch) = 15 → (if ¬ ρ (62 + 80 * ch) = 15 ∧ ρ (50 + ch) < ρ 3 - ρ (62 + 80 * ch + 4) then ρ 3 - ρ (62 + 80 * ch + 4) else ρ (50 + ch)) = ρ (50 + ch) := fun z => if_neg (by omega)
  have hy2 : ¬ ρ (62 + 80 * ch) = 15 → (if ¬ ρ (62 + 80 * ch) = 15 ∧ ρ (50 + ch) < ρ 3 - ρ (62 + 80 * ch + 4) then ρ 3 - ρ (62 + 80 * ch + 4) else ρ (50 + ch)) = max (ρ (50 + ch)) (ρ 3 - p 0 4) := fun z => by rw [g4]; split <;> omega
  refine CP.of (L0 := [some _, some _, none, none]) (by decide +kernel) rfl rfl (Nat.le_of_ble_eq_true rfl) rfl (fun G A Q sz hQ => ?_)
  refine V_aload_n dX6_takeByte_0 rfl ?_
  refine V_getf fX6_44 dX6_takeByte_1 h1 rfl ?_
  refine V_iconst (v := iI (0)) dX6_takeByte_4 rfl ?_
  refine I_aald ao4 dX6_takeByte_5 h2 ⟨by omega, by omega⟩ (by decide) ?_
  refine V_astore_n (L' := [some _, some _, some _, none]) dX6_takeByte_6 rfl (by decide) rfl ?_
  refine V_aload_n dX6_takeByte_7 rfl ?_
  refine V_aload_n dX6_takeByte_8 rfl ?_
  refine V_getf fX6_39 dX6_takeByte_9 h1 rfl ?_
  refine V_cV (vs := [_]) (c3_byteAt l _ _ (p 0) hq0 (by unfold r32; omega) _ (by omega)) mX6_99 coX3_byteAt dX6_takeByte_12 hq0 rfl rfl rfl (by decide) (Nat.le_of_ble_eq_true rfl) (Nat.le_of_ble_eq_true rfl) (Nat.le_of_ble_eq_true rfl) (fun sz => ?_)
  refine V_istore_n (L' := [some _, some _, some _, some _]) dX6_takeByte_15 rfl (by decide) rfl ?_
  refine V_aload_n dX6_takeByte_16 rfl ?_
  refine V_dup dX6_takeByte_17 rfl ?_
  refine V_getf fX6_39 dX6_takeByte_18 h1 rfl ?_
  refine V_iconst (v := iI (1)) dX6_takeByte_21 rfl ?_
  refine I_iadd dX6_takeByte_22 ?_
  refine V_putf fX6_39 dX6_takeByte_23 h1 rfl rfl (by simp) ?_
  refine V_aload_n dX6_takeByte_26 rfl ?_
  refine V_dup dX6_takeByte_27 rfl ?_
  refine V_getf fX6_24 dX6_takeByte_28 mu_eq rfl ?_
  refine V_iconst (v := iI (1)) dX6_takeByte_31 rfl ?_
  refine I_isub dX6_takeByte_32 ?_
  refine V_putf fX6_24 dX6_takeByte_33 mu_eq rfl rfl (by simp) ?_
  refine V_join (J := 55) (M' := (mu M c (tkC ρ ch (ρ (46 + ch) + (if ρ (62 + 80 * ch) = 15 then 1 else 0)) (ρ (50 + ch)) c))) (L' := [some (.ref c), some (.int (iI (ρ 3))), some (.ref (f 0)), some (.int (iI (pby (p 0) (ρ (58 + ch)))))]) (fun sz => ?_) (fun j55 => ?_)
  · refine V_aload_n dX6_takeByte_55 rfl ?_
    refine V_getf fX6_39 dX6_takeByte_56 mu_eq rfl ?_
    refine V_aload_n dX6_takeByte_59 rfl ?_
    refine V_cV (vs := []) (c3_size l _ _ (p 0) ((mu_ne (by omega)).trans hq0)) mX6_78 coX3_size dX6_takeByte_60 ((mu_ne (by omega)).trans hq0) rfl rfl rfl (by decide) (Nat.le_of_ble_eq_true rfl) (Nat.le_of_ble_eq_true rfl) (Nat.le_of_ble_eq_true rfl) (fun sz => ?_)
    refine I_icmp_lt (tgt := 96) dX6_takeByte_63 (by decide) ⟨by omega, by omega⟩ ⟨by omega, by omega⟩ (fun h63 => ?_) (fun h63 => ?_)
    · refine V_iload_n dX6_takeByte_96 rfl ?_
      exact V_ireti dX6_takeByte_97 rfl (Nat.le_of_ble_eq_true rfl) (Nat.le_of_ble_eq_true rfl) (by first | exact (hQ _ _ _ ⟨iv (pby_r (fun j a b => (h7 0 (by omega) (by omega) j a b).trans (by congr 1; omega)) (by omega)), SC.tk1 hc hS hQ2 hp (by omega) rfl mu_eq (fun q z => mu_ne z), FR.rf.mu (by omega)⟩) | exact (hQ _ _ _ ⟨iv (pby_r (fun j a b => (h7 0 (by omega) (by omega) j a b).trans (by congr 1; omega)) (by omega)), SC.tk2 hc hQ2 hp (by omega) h4 h5 ⟨hs1, h6.2⟩ h7 rfl rfl mu_eq ((mu_ne (by omega)).trans mu_eq) (fun q z z1 => (mu_ne z).trans ((mu_ne z1).trans (mu_ne z))), ((FR.rf.mu (by omega)).mu (by omega)).mu (by omega)⟩))
    · refine V_join (J := 92) (M' := (mu M c (tkC ρ ch (ρ (46 + ch) + (if ρ (62 + 80 * ch) = 15 then 1 else 0)) (if ¬ ρ (62 + 80 * ch) = 15 ∧ ρ (50 + ch) < ρ 3 - ρ (62 + 80 * ch + 4) then ρ 3 - ρ (62 + 80 * ch + 4) else ρ (50 + ch)) c))) (L' := [some (.ref c), some (.int (iI (ρ 3))), some (.ref (f 0)), some (.int (iI (pby (p 0) (ρ (58 + ch)))))]) (fun sz => ?_) (fun j92 => ?_)
      · refine V_aload_n dX6_takeByte_92 rfl ?_
        refine V_cV0 (vs := []) (c6_removeHead l _ c (c + 1) _ _ _ _ _ _ _ _ _ _ mu_eq f ((mu_ne (by omega)).trans h2) (by omega) ⟨hs1, h6.2⟩ p (fun k a b => (mu_ne (by have := h4 k a b; omega)).trans (h5 k a b)) (fun k a b => by have := h4 k a b; omega)) mX6_102 coX6_removeHead dX6_takeByte_93 mu_eq rfl rfl rfl (by decide) (Nat.le_of_ble_eq_true rfl) (Nat.le_of_ble_eq_true rfl) (Nat.le_of_ble_eq_true rfl) (fun sz => ?_)
        refine V_iload_n dX6_takeByte_96 rfl ?_
        exact V_ireti dX6_takeByte_97 rfl (Nat.le_of_ble_eq_true rfl) (Nat.le_of_ble_eq_true rfl) (by first | exact (hQ _ _ _ ⟨iv (pby_r (fun j a b => (h7 0 (by omega) (by omega) j a b).trans (by congr 1; omega)) (by omega)), SC.tk1 hc hS hQ2 hp (by omega) rfl mu_eq (fun q z => mu_ne z), FR.rf.mu (by omega)⟩) | exact (hQ _ _ _ ⟨iv (pby_r (fun j a b => (h7 0 (by omega) (by omega) j a b).trans (by congr 1; omega)) (by omega)), SC.tk2 hc hQ2 hp (by omega) h4 h5 ⟨hs1, h6.2⟩ h7 rfl rfl mu_eq ((mu_ne (by omega)).trans mu_eq) (fun q z z1 => (mu_ne z).trans ((mu_ne z1).trans (mu_ne z))), ((FR.rf.mu (by omega)).mu (by omega)).mu (by omega)⟩))
      · refine V_aload_n dX6_takeByte_66 rfl ?_
        refine V_getf fX6_53 dX6_takeByte_67 ((mu_ne (by omega)).trans hq0) rfl ?_
        refine V_bipush (v := iI (15)) dX6_takeByte_70 (by decide +kernel) ?_
        refine I_icmp_eq (tgt := 92) dX6_takeByte_72 (by decide) ⟨by omega, by omega⟩ ⟨by omega, by omega⟩ (fun h72 => ?_) (fun h72 => ?_)
        · exact V_eqM (by first | (rw [hy1 (by omega)]; done) | (simp only [mu_mu]; rw [hy2 (by omega)]; rfl)) (V_wk' (j92 _) ⟨rfl, rfl, rfl, rfl, trivial⟩)
        · refine V_aload_n dX6_takeByte_75 rfl ?_
          refine V_aload_n dX6_takeByte_76 rfl ?_
          refine V_getf fX6_33 dX6_takeByte_77 mu_eq rfl ?_
          refine V_iload_n dX6_takeByte_80 rfl ?_
          refine V_aload_n dX6_takeByte_81 rfl ?_
          refine V_getf fX6_75 dX6_takeByte_82 ((mu_ne (by omega)).trans hq0) rfl ?_
          refine I_isub dX6_takeByte_85 ?_
          refine I_max ⟨by omega, by omega⟩ ⟨by omega, by omega⟩ mX6_84 dX6_takeByte_86 (by decide) (Nat.le_of_ble_eq_true rfl) (Nat.le_of_ble_eq_true rfl) (Nat.le_of_ble_eq_true rfl) ?_
          refine V_putf fX6_33 dX6_takeByte_89 mu_eq rfl rfl (by simp) ?_
          exact V_eqM (by first | (rw [hy1 (by omega)]; done) | (simp only [mu_mu]; rw [hy2 (by omega)]; rfl)) (V_wk' (j92 _) ⟨rfl, rfl, rfl, rfl, trivial⟩)
  · refine V_aload_n dX6_takeByte_36 rfl ?_
    refine V_getf fX6_53 dX6_takeByte_37 ((mu_ne (by omega)).trans ((mu_ne (by omega)).trans hq0)) rfl ?_
    refine V_bipush (v := iI (15)) dX6_takeByte_40 (by decide +kernel) ?_
    refine I_icmp_ne (tgt := 55) dX6_takeByte_42 (by decide) ⟨by omega, by omega⟩ ⟨by omega, by omega⟩ (fun h42 => ?_) (fun h42 => ?_)
    · exact V_eqM (by simp only [mu_mu]; first | (rw [if_pos (by omega)]; rfl) | (rw [if_neg (by omega), Int.add_zero]; rfl)) (V_wk' (j55 _) ⟨rfl, rfl, rfl, rfl, trivial⟩)
    · refine V_aload_n dX6_takeByte_45 rfl ?_
      refine V_dup dX6_takeByte_46 rfl ?_
      refine V_getf fX6_30 dX6_takeByte_47 mu_eq rfl ?_
      refine V_iconst (v := iI (1)) dX6_takeByte_50 rfl ?_
      refine I_iadd dX6_takeByte_51 ?_
      refine V_putf fX6_30 dX6_takeByte_52 mu_eq rfl rfl (by simp) ?_
      exact V_eqM (by simp only [mu_mu]; first | (rw [if_pos (by omega)]; rfl) | (rw [if_neg (by omega), Int.add_zero]; rfl)) (V_wk' (j55 _) ⟨rfl, rfl, rfl, rfl, trivial⟩)
