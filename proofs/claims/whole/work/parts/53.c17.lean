def scA (S : Nat) (i : Int) : Nat := S + 205 + 15 * i.toNat
abbrev stO (S : Nat) (a b c d e : Int) : Cel := .inl (7, [.int (iI a), .int (iI b), .int (iI c), .int (iI d), .int (iI e), .ref (S + 1), .ref (S + 2), .ref (S + 3), .ref (S + 125)])
/-- the state's own cells -/
def SB (M : ME) (S : Nat) (ρ : Int → Int) : Prop := ∃ sq : Int → Int, M S = some (stO S (ρ 0) (ρ 1) (ρ 2) (ρ 3) (ρ 45)) ∧ M (S + 1) = some (aI 15 sq) ∧ M (S + 2) = some (aR 6 4 (scA S)) ∧ ∀ a, 0 ≤ a → a < 15 → sq a = ρ (10 + a)
theorem SB.mv {M M' : ME} {S : Nat} {ρ ρ' : Int → Int} (h : SB M S ρ) (hm : ∀ q, S ≤ q → q < S + 3 → M' q = M q) (hr : ∀ q, (0 ≤ q ∧ q ≤ 3) ∨ (10 ≤ q ∧ q < 25) ∨ q = 45 → ρ' q = ρ q) : SB M' S ρ' := by
  obtain ⟨sq, h1, h2, h3, h4⟩ := h
  exact ⟨sq, by rw [hm _ (by omega) (by omega), h1, hr 0 (by omega), hr 1 (by omega), hr 2 (by omega), hr 3 (by omega), hr 45 (by omega)], by rw [hm _ (by omega) (by omega), h2], by rw [hm _ (by omega) (by omega), h3], fun a x y => by rw [hr _ (by omega)]; exact h4 a x y⟩
/-- a state at S (265 cells) holds what the row says -/
def St (M : ME) (S : Nat) (ρ : Int → Int) : Prop := SB M S ρ ∧ (∀ c, 0 ≤ c → c < 4 → SC M (scA S c) ρ c) ∧ WR M (S + 3) ρ ∧ RR M (S + 125) ρ
theorem St.mv {M M' : ME} {S : Nat} {ρ ρ' : Int → Int} (h : St M S ρ) (hW : Wr ρ) (hI : RI ρ) (hm : ∀ q, S ≤ q → q < S + 265 → M' q = M q) (hr : ∀ q, 0 ≤ q → q < 12309 → q ≠ 3394 → ρ' q = ρ q) : St M' S ρ' := by
  refine ⟨h.1.mv (fun q a b => hm q a (by omega)) (fun q hq => hr q (by omega) (by omega) (by omega)), fun c a b => ?_, h.2.2.1.mv hW (fun q a b => hm q (by omega) (by omega)) (fun q a b => hr q (by omega) (by omega) (by omega)), h.2.2.2.mv hI (fun q a b => hm q (by omega) (by omega)) (fun q a b c => hr q (by omega) b c)⟩
  have hA : scA S c = S + 205 + 15 * c.toNat := rfl
  exact (h.2.1 c a b).mv (fun q x y => hm q (by omega) (by omega)) (fun q hq => hr q (by unfold chq at hq; omega) (by unfold chq at hq; omega) (by unfold chq at hq; omega))

set_option maxRecDepth 100000 in
set_option maxHeartbeats 4000000 in
theorem s_copyFrom (l : Launch) (M : ME) (S S2 : Nat) (hd : S + 265 ≤ S2 ∨ S2 + 265 ≤ S) (ρ1 ρ : Int → Int) (hS1 : St M S ρ1) (hW1 : Wr ρ1) (hI1 : RI ρ1) (hS : St M S2 ρ) (hW : Wr ρ) (hI : RI ρ) : CP l yX7_copyFrom cX7_copyFrom 3 none (rmN 4) [.ref S, .ref S2] M (fun v M' => v = none ∧ St M' S ρ ∧ FR M M' S 265) := by
  obtain ⟨sq1, a1, a2, a3, a4⟩ := id hS1.1
  obtain ⟨sq, h1, h2, h3, h4⟩ := id hS.1
  refine CP.of (L0 := [some _, some _, none]) (by decide +kernel) rfl rfl (Nat.le_of_ble_eq_true rfl) rfl (fun G A Q sz hQ => ?_)
  refine V_aload_n dX7_copyFrom_0 rfl ?_
  refine V_aload_n dX7_copyFrom_1 rfl ?_
  refine V_getf fX7_9 dX7_copyFrom_2 h1 rfl ?_
  refine V_putf fX7_9 dX7_copyFrom_5 a1 rfl rfl (by simp) ?_
  refine V_aload_n dX7_copyFrom_8 rfl ?_
  refine V_aload_n dX7_copyFrom_9 rfl ?_
  refine V_getf fX7_15 dX7_copyFrom_10 ((mu_ne (by omega)).trans h1) rfl ?_
  refine V_putf fX7_15 dX7_copyFrom_13 mu_eq rfl rfl (by simp) ?_
  refine V_aload_n dX7_copyFrom_16 rfl ?_
  refine V_aload_n dX7_copyFrom_17 rfl ?_
  refine V_getf fX7_18 dX7_copyFrom_18 ((mu_ne (by omega)).trans ((mu_ne (by omega)).trans h1)) rfl ?_
  refine V_putf fX7_18 dX7_copyFrom_21 mu_eq rfl rfl (by simp) ?_
  refine V_aload_n dX7_copyFrom_24 rfl ?_
  refine V_aload_n dX7_copyFrom_25 rfl ?_
  refine V_getf fX7_21 dX7_copyFrom_26 ((mu_ne (by omega)).trans ((mu_ne (by omega)).trans ((mu_ne (by omega)).trans h1))) rfl ?_
  refine V_putf fX7_21 dX7_copyFrom_29 mu_eq rfl rfl (by simp) ?_
  refine V_aload_n dX7_copyFrom_32 rfl ?_
  refine V_aload_n dX7_copyFrom_33 rfl ?_
  refine V_getf fX7_24 dX7_copyFrom_34 ((mu_ne (by omega)).trans ((mu_ne (by omega)).trans ((mu_ne (by omega)).trans ((mu_ne (by omega)).trans h1)))) rfl ?_
  refine V_putf fX7_24 dX7_copyFrom_37 mu_eq rfl rfl (by simp) ?_
  refine V_aload_n dX7_copyFrom_40 rfl ?_
  refine V_getf fX7_27 dX7_copyFrom_41 ((mu_ne (by omega)).trans ((mu_ne (by omega)).trans ((mu_ne (by omega)).trans ((mu_ne (by omega)).trans ((mu_ne (by omega)).trans h1))))) rfl ?_
  refine V_iconst (v := iI (0)) dX7_copyFrom_44 rfl ?_
  refine V_aload_n dX7_copyFrom_45 rfl ?_
  refine V_getf fX7_27 dX7_copyFrom_46 mu_eq rfl ?_
  refine V_iconst (v := iI (0)) dX7_copyFrom_49 rfl ?_
  refine V_bipush (v := iI (15)) dX7_copyFrom_50 (by decide +kernel) ?_
  refine I_copy (by decide) mX7_52 dX7_copyFrom_52 ((mu_ne (by omega)).trans ((mu_ne (by omega)).trans ((mu_ne (by omega)).trans ((mu_ne (by omega)).trans ((mu_ne (by omega)).trans h2))))) ((mu_ne (by omega)).trans ((mu_ne (by omega)).trans ((mu_ne (by omega)).trans ((mu_ne (by omega)).trans ((mu_ne (by omega)).trans a2))))) (by decide) (by decide) (by decide) (by decide) (by decide) (by decide) fun sz => ?_
  refine V_iconst (v := iI (0)) dX7_copyFrom_55 rfl ?_
  refine V_istore_n (L' := [some _, some _, some _]) dX7_copyFrom_56 rfl (by decide) rfl ?_
  have key57 : ∀ (d : Nat) (j : Int) (N : ME) (sz : Nat), (0 ≤ j ∧ j ≤ 4) → (SB N S ρ) → (∀ i, 0 ≤ i → i < j → SC N (scA S i) ρ i) → (∀ i, j ≤ i → i < 4 → SC N (scA S i) ρ1 i) → (WR N (S + 3) ρ1) → (RR N (S + 125) ρ1) → (FR M N S 265) → (4 - j).toNat = d → V l G A (rmN 4) RX7 "copyFrom" cX7_copyFrom 3 none Q nX 0 0 N sz 57 [some (.ref S), some (.ref S2), some (.int (iI j))] [] := by
    intro d
    induction d using Nat.strongRecOn with
    | ind d ih57 =>
      intro j N  sz hj nB nK nK1 nW nR nF hd57
      obtain ⟨squ, u1, u2, u3, -⟩ := id nB
      obtain ⟨fru, w0, -⟩ := id nW
      obtain ⟨lmu, cnu, apu, amu, abu, alu, r0, -⟩ := id nR.1
      refine V_iload_n dX7_copyFrom_57 rfl ?_
      refine V_iconst (v := iI (4)) dX7_copyFrom_58 rfl ?_
      refine I_icmp_ge (tgt := 83) dX7_copyFrom_59 (by decide) ⟨by omega, by omega⟩ ⟨by omega, by omega⟩ (fun h59 => ?_) (fun h59 => ?_)
      · refine V_aload_n dX7_copyFrom_83 rfl ?_
        refine V_getf fX7_40 dX7_copyFrom_84 u1 rfl ?_
        refine V_aload_n dX7_copyFrom_87 rfl ?_
        refine V_getf fX7_40 dX7_copyFrom_88 ((nF _ (by omega)).trans h1) rfl ?_
        refine V_cVE0 (vs := [_]) (c9_copyFrom l N (S + 3) (S2 + 3) (by omega) ρ1 ρ nW (hS.2.2.1.mv hW (fun q x y => nF q (by omega)) (fun _ _ _ => rfl)) hW) mX7_62 coX9_copyFrom dX7_copyFrom_91 w0 rfl rfl rfl (by decide) (Nat.le_of_ble_eq_true rfl) (Nat.le_of_ble_eq_true rfl) (Nat.le_of_ble_eq_true rfl) (fun N1 sz hp => ?_)
        obtain ⟨hD1, hG1⟩ := hp
        refine V_aload_n dX7_copyFrom_94 rfl ?_
        refine V_getf fX7_47 dX7_copyFrom_95 ((hG1 _ (by omega)).trans u1) rfl ?_
        refine V_aload_n dX7_copyFrom_98 rfl ?_
        refine V_getf fX7_47 dX7_copyFrom_99 ((hG1 _ (by omega)).trans ((nF _ (by omega)).trans h1)) rfl ?_
        refine V_cVE0 (vs := [_]) (c5_copyFrom l N1 (S + 125) (S2 + 125) (by omega) ρ1 ρ (nR.mv hI1 (fun q x y => hG1 q (by omega)) (fun _ _ _ _ => rfl)) hI1 (hS.2.2.2.mv hI (fun q x y => (hG1 q (by omega)).trans (nF q (by omega))) (fun _ _ _ _ => rfl)) hI) mX7_65 coX5_copyFrom dX7_copyFrom_102 ((hG1 _ (by omega)).trans r0) rfl rfl rfl (by decide) (Nat.le_of_ble_eq_true rfl) (Nat.le_of_ble_eq_true rfl) (Nat.le_of_ble_eq_true rfl) (fun N2 sz hp => ?_)
        obtain ⟨hT2, hG2⟩ := hp
        exact V_ret dX7_copyFrom_105 rfl (Nat.le_of_ble_eq_true rfl) (Nat.le_of_ble_eq_true rfl) (hQ _ _ _ ⟨rfl, ⟨nB.mv (fun q x y => (hG2 _ (by omega)).trans (hG1 _ (by omega))) (fun _ _ => rfl), fun i x y => (nK i x (by omega)).mv (fun q a b => (hG2 _ (by unfold scA at a; omega)).trans (hG1 _ (by unfold scA at a; omega))) (fun _ _ => rfl), hD1.mv hW (fun q x y => hG2 q (by omega)) (fun _ _ _ => rfl), hT2⟩, (nF.tr (hG1.up (by omega))).tr (hG2.up (by omega))⟩)
      · have hkA : scA S j = S + 205 + 15 * j.toNat := rfl
        have hkA2 : scA S2 j = S2 + 205 + 15 * j.toNat := rfl
        obtain ⟨fx, px, x0, -⟩ := id (nK1 j (by omega) (by omega))
        refine V_aload_n dX7_copyFrom_62 rfl ?_
        refine V_getf fX7_33 dX7_copyFrom_63 u1 rfl ?_
        refine V_iload_n dX7_copyFrom_66 rfl ?_
        refine I_aald ao6 dX7_copyFrom_67 u3 ⟨by omega, by omega⟩ (by decide) ?_
        refine V_aload_n dX7_copyFrom_68 rfl ?_
        refine V_getf fX7_33 dX7_copyFrom_69 ((nF _ (by omega)).trans h1) rfl ?_
        refine V_iload_n dX7_copyFrom_72 rfl ?_
        refine I_aald ao6 dX7_copyFrom_73 ((nF _ (by omega)).trans h3) ⟨by omega, by omega⟩ (by decide) ?_
        refine V_cVE0 (vs := [_]) (c6_copyFrom l N (scA S j) (scA S2 j) (by omega) ρ1 j (nK1 j (by omega) (by omega)) ρ j ((hS.2.1 j (by omega) (by omega)).mv (fun q a b => nF q (by omega)) (fun _ _ => rfl))) mX7_58 coX6_copyFrom dX7_copyFrom_74 x0 rfl rfl rfl (by decide) (Nat.le_of_ble_eq_true rfl) (Nat.le_of_ble_eq_true rfl) (Nat.le_of_ble_eq_true rfl) (fun N1 sz hp => ?_)
        obtain ⟨hO1, hF1⟩ := hp
        have hS1x : SB N1 S ρ := nB.mv (fun q a b => hF1 q (by omega)) (fun _ _ => rfl)
        have hS2x : ∀ i, 0 ≤ i → i < j + 1 → SC N1 (scA S i) ρ i := fun i a b => by
          by_cases e : i = j
          · rw [e]; exact hO1
          · have hkB : scA S i = S + 205 + 15 * i.toNat := rfl
            exact (nK i a (by omega)).mv (fun q x y => hF1 _ (by omega)) (fun _ _ => rfl)
        have hS3x : ∀ i, j + 1 ≤ i → i < 4 → SC N1 (scA S i) ρ1 i := fun i a b => by
          have hkB : scA S i = S + 205 + 15 * i.toNat := rfl
          exact (nK1 i (by omega) b).mv (fun q x y => hF1 _ (by omega)) (fun _ _ => rfl)
        have hS4x : WR N1 (S + 3) ρ1 := nW.mv hW1 (fun q x y => hF1 q (by omega)) (fun _ _ _ => rfl)
        have hS5x : RR N1 (S + 125) ρ1 := nR.mv hI1 (fun q x y => hF1 q (by omega)) (fun _ _ _ _ => rfl)
        refine I_iinc (L' := [some _, some _, some _]) dX7_copyFrom_77 rfl (by decide) rfl ?_
        refine V_goto (tgt := 57) dX7_copyFrom_80 (by decide) ?_
        exact V_wk' (ih57 _ (by omega) (j + 1) _ sz ⟨by omega, by omega⟩ hS1x hS2x hS3x hS4x hS5x (nF.tr (hF1.up (by omega))) rfl) ⟨rfl, rfl, rfl, trivial⟩
  obtain ⟨W, hWx⟩ : ∃ W : ME, W = (mu (mu M S (stO S (ρ 0) (ρ 1) (ρ 2) (ρ 3) (ρ 45))) (S + 1) (aI 15 (cpI sq sq1 0 0 15))) := ⟨_, rfl⟩
  refine V_eqM (show _ = W by rw [hWx]; simp only [mu_mu]; rfl) ?_
  have hWo : ∀ q, q ≠ S → q ≠ S + 1 → W q = M q := fun q z w => by rw [hWx, mu_ne w, mu_ne z]
  have hI1a : SB W S ρ := by
    refine ⟨_, by rw [hWx, mu_ne (by omega)]; exact mu_eq, by rw [hWx]; exact mu_eq, by rw [hWo _ (by omega) (by omega)]; exact a3, fun a x y => ?_⟩
    unfold cpI; rw [if_pos (by omega), show (0 : Int) + (a - 0) = a by omega]; exact h4 a x y
  have hI2a : ∀ i, 0 ≤ i → i < 4 → SC W (scA S i) ρ1 i := fun i x y => by
    have hkA : scA S i = S + 205 + 15 * i.toNat := rfl
    exact (hS1.2.1 i x y).mv (fun q a b => hWo q (by omega) (by omega)) (fun _ _ => rfl)
  have hI3a : WR W (S + 3) ρ1 := hS1.2.2.1.mv hW1 (fun q x y => hWo q (by omega) (by omega)) (fun _ _ _ => rfl)
  have hI4a : RR W (S + 125) ρ1 := hS1.2.2.2.mv hI1 (fun q x y => hWo q (by omega) (by omega)) (fun _ _ _ _ => rfl)
  have hI5a : FR M W S 265 := fun q hq => hWo q (by omega) (by omega)
  exact V_wk' (key57 _ 0 _ sz ⟨by omega, by omega⟩ hI1a (fun i a b => by omega) hI2a hI3a hI4a hI5a rfl) ⟨rfl, rfl, rfl, trivial⟩

set_option maxRecDepth 100000 in
set_option maxHeartbeats 4000000 in
theorem s_hasPendingBytes (l : Launch) (M : ME) (S : Nat) (ρ : Int → Int) (hS : St M S ρ) (hI : SI ρ) : CF l yX7_hasPendingBytes cX7_hasPendingBytes 2 (some .boolean) (rmN 1) [.ref S] M (some (.int (iI (if 0 < pend ρ 0 + pend ρ 1 + pend ρ 2 + pend ρ 3 then 1 else 0)))) M := by
  obtain ⟨sq, h1, h2, h3, h4⟩ := id hS.1
  refine CF.of (L0 := [some _, none]) (by decide +kernel) rfl rfl (Nat.le_of_ble_eq_true rfl) rfl (fun G A Q sz hQ => ?_)
  refine V_iconst (v := iI (0)) dX7_hasPendingBytes_0 rfl ?_
  refine V_istore_n (L' := [some _, some _]) dX7_hasPendingBytes_1 rfl (by decide) rfl ?_
  have key2 : ∀ (d : Nat) (j : Int) (sz : Nat), (0 ≤ j ∧ j ≤ 4) → (∀ i, 0 ≤ i → i < j → pend ρ i = 0) → (4 - j).toNat = d → V l G A (rmN 1) RX7 "hasPendingBytes" cX7_hasPendingBytes 2 (some .boolean) Q nX 0 0 M sz 2 [some (.ref S), some (.int (iI j))] [] := by
    intro d
    induction d using Nat.strongRecOn with
    | ind d ih2 =>
      intro j  sz hj hz hd2
      refine V_iload_n dX7_hasPendingBytes_2 rfl ?_
      refine V_iconst (v := iI (4)) dX7_hasPendingBytes_3 rfl ?_
      refine I_icmp_ge (tgt := 27) dX7_hasPendingBytes_4 (by decide) ⟨by omega, by omega⟩ ⟨by omega, by omega⟩ (fun h4 => ?_) (fun h4 => ?_)
      · have z0 := hz 0 (by omega) (by omega)
        have z1 := hz 1 (by omega) (by omega)
        have z2 := hz 2 (by omega) (by omega)
        have z3 := hz 3 (by omega) (by omega)
        refine V_iconst (v := iI (0)) dX7_hasPendingBytes_27 rfl ?_
        exact V_zret dX7_hasPendingBytes_28 rfl (by first | rfl | decide) (Nat.le_of_ble_eq_true rfl) (Nat.le_of_ble_eq_true rfl) (hQ _ _ _ (iv (if_neg (by omega)).symm) rfl)
      · obtain ⟨fx, px, x0, -⟩ := id (hS.2.1 j (by omega) (by omega))
        have hq := (hI.2.1 j (by omega) (by omega)).1
        have hp0 := (Qs.pend0 hq).1
        have hpb := pend_b hq.1
        refine V_aload_n dX7_hasPendingBytes_7 rfl ?_
        refine V_getf fX7_33 dX7_hasPendingBytes_8 h1 rfl ?_
        refine V_iload_n dX7_hasPendingBytes_11 rfl ?_
        refine I_aald ao6 dX7_hasPendingBytes_12 h3 ⟨by omega, by omega⟩ (by decide) ?_
        refine V_getf fX7_68 dX7_hasPendingBytes_13 x0 rfl ?_
        refine I_if_le (tgt := 21) dX7_hasPendingBytes_16 (by decide) ⟨by omega, by omega⟩ (fun h16 => ?_) (fun h16 => ?_)
        · refine I_iinc (L' := [some _, some _]) dX7_hasPendingBytes_21 rfl (by decide) rfl ?_
          refine V_goto (tgt := 2) dX7_hasPendingBytes_24 (by decide) ?_
          exact V_wk' (ih2 _ (by omega) (j + 1) sz ⟨by omega, by omega⟩ (fun i a b => by by_cases e : i = j; (· rw [e]; omega); (· exact hz i a (by omega))) rfl) ⟨rfl, rfl, trivial⟩
        · have q0 := (Qs.pend0 (hI.2.1 0 (by omega) (by omega)).1).1
          have q1 := (Qs.pend0 (hI.2.1 1 (by omega) (by omega)).1).1
          have q2 := (Qs.pend0 (hI.2.1 2 (by omega) (by omega)).1).1
          have q3 := (Qs.pend0 (hI.2.1 3 (by omega) (by omega)).1).1
          have hj4 : j = 0 ∨ j = 1 ∨ j = 2 ∨ j = 3 := by omega
          have hpos : 0 < pend ρ 0 + pend ρ 1 + pend ρ 2 + pend ρ 3 := by rcases hj4 with e | e | e | e <;> subst e <;> omega
          refine V_iconst (v := iI (1)) dX7_hasPendingBytes_19 rfl ?_
          exact V_zret dX7_hasPendingBytes_20 rfl (by first | rfl | decide) (Nat.le_of_ble_eq_true rfl) (Nat.le_of_ble_eq_true rfl) (hQ _ _ _ (iv (if_pos hpos).symm) rfl)
  exact V_wk' (key2 _ 0 sz ⟨by omega, by omega⟩ (fun i a b => by omega) rfl) ⟨rfl, rfl, trivial⟩

set_option maxRecDepth 100000 in
set_option maxHeartbeats 4000000 in
theorem s_boardTime (l : Launch) (M : ME) (S : Nat) (ρ : Int → Int) (hS : SB M S ρ) (h3 : 0 ≤ ρ 3 ∧ ρ 3 ≤ 100000) (h1b : -1000 ≤ ρ 1 ∧ ρ 1 ≤ 1000) : CF l yX7_boardTime cX7_boardTime 1 (some .long) (rmN 2) [.ref S] M (some (.long (lI (rclk ρ)))) M := by
  obtain ⟨sq, h1, h2, h3z, h4⟩ := id hS
  have hmb := mul_b (a := ρ 3) (b := ρ 1) (m := 100000) (n := 1000) (by omega) (by omega)
  refine CF.of (L0 := [some _]) (by decide +kernel) rfl rfl (Nat.le_of_ble_eq_true rfl) rfl (fun G A Q sz hQ => ?_)
  refine V_ldc2 (v := lI (1000)) dX7_boardTime_0 (kL (by decide +kernel) kX7_75) ?_
  refine V_aload_n dX7_boardTime_3 rfl ?_
  refine V_getf fX7_21 dX7_boardTime_4 h1 rfl ?_
  refine I_i2l dX7_boardTime_7 ⟨by omega, by omega⟩ ?_
  refine I_lmul dX7_boardTime_8 ?_
  refine V_aload_n dX7_boardTime_9 rfl ?_
  refine V_getf fX7_21 dX7_boardTime_10 h1 rfl ?_
  refine I_i2l dX7_boardTime_13 ⟨by omega, by omega⟩ ?_
  refine V_aload_n dX7_boardTime_14 rfl ?_
  refine V_getf fX7_15 dX7_boardTime_15 h1 rfl ?_
  refine I_i2l dX7_boardTime_18 ⟨by omega, by omega⟩ ?_
  refine I_lmul dX7_boardTime_19 ?_
  refine V_ldc2 (v := lI (16)) dX7_boardTime_20 (kL (by decide +kernel) kX7_77) ?_
  refine V_cS (vs := [_, _]) (m_floorDiv l _ (ρ 3 * ρ 1) 16 (by omega) (by omega) (by omega)) mX7_79 coJ9_floorDiv_f86c9 dX7_boardTime_23 rfl rfl (by decide) (Nat.le_of_ble_eq_true rfl) (Nat.le_of_ble_eq_true rfl) (Nat.le_of_ble_eq_true rfl) (fun sz => ?_)
  refine I_ladd dX7_boardTime_26 ?_
  exact V_lret dX7_boardTime_27 rfl (Nat.le_of_ble_eq_true rfl) (Nat.le_of_ble_eq_true rfl) (hQ _ _ _ rfl rfl)

set_option maxRecDepth 100000 in
set_option maxHeartbeats 4000000 in
theorem s_groundArrival (l : Launch) (M : ME) (S : Nat) (ρ : Int → Int) (hS : SB M S ρ) (h3 : 0 ≤ ρ 3 ∧ ρ 3 ≤ 100000) (h2b : 0 ≤ ρ 2 ∧ ρ 2 ≤ 100000) : CF l yX7_groundArrival cX7_groundArrival 1 (some .long) (rmN 1) [.ref S] M (some (.long (lI (1000 * ρ 3 + ρ 2)))) M := by
  obtain ⟨sq, h1, h2, h3z, h4⟩ := id hS
  refine CF.of (L0 := [some _]) (by decide +kernel) rfl rfl (Nat.le_of_ble_eq_true rfl) rfl (fun G A Q sz hQ => ?_)
  refine V_ldc2 (v := lI (1000)) dX7_groundArrival_0 (kL (by decide +kernel) kX7_75) ?_
  refine V_aload_n dX7_groundArrival_3 rfl ?_
  refine V_getf fX7_21 dX7_groundArrival_4 h1 rfl ?_
  refine I_i2l dX7_groundArrival_7 ⟨by omega, by omega⟩ ?_
  refine I_lmul dX7_groundArrival_8 ?_
  refine V_aload_n dX7_groundArrival_9 rfl ?_
  refine V_getf fX7_18 dX7_groundArrival_10 h1 rfl ?_
  refine I_i2l dX7_groundArrival_13 ⟨by omega, by omega⟩ ?_
  refine I_ladd dX7_groundArrival_14 ?_
  exact V_lret dX7_groundArrival_15 rfl (Nat.le_of_ble_eq_true rfl) (Nat.le_of_ble_eq_true rfl) (hQ _ _ _ rfl rfl)

set_option maxRecDepth 100000 in
set_option maxHeartbeats 4000000 in
theorem s_readyChannel (l : Launch) (M : ME) (S : Nat) (ρ : Int → Int) (hS : St M S ρ) (hQA : QA ρ) : CF l yX7_readyChannel cX7_readyChannel 3 (some .int) (rmN 3) [.ref S] M (some (.int (iI (rbest ρ 0 4)))) M := by
  obtain ⟨sq, h1, h2, h3, h4⟩ := id hS.1
  refine CF.of (L0 := [some _, none, none]) (by decide +kernel) rfl rfl (Nat.le_of_ble_eq_true rfl) rfl (fun G A Q sz hQ => ?_)
  refine V_iconst (v := iI (-1)) dX7_readyChannel_0 rfl ?_
  refine V_istore_n (L' := [some _, some _, none]) dX7_readyChannel_1 rfl (by decide) rfl ?_
  refine V_iconst (v := iI (0)) dX7_readyChannel_2 rfl ?_
  refine V_istore_n (L' := [some _, some _, some _]) dX7_readyChannel_3 rfl (by decide) rfl ?_
  have key4 : ∀ (d : Nat) (i : Int) (sz : Nat), (0 ≤ i ∧ i ≤ 4) → (4 - i).toNat = d → V l G A (rmN 3) RX7 "readyChannel" cX7_readyChannel 3 (some .int) Q nX 0 0 M sz 4 [some (.ref S), some (.int (iI (rbest ρ 0 i.toNat))), some (.int (iI i))] [] := by
    intro d
    induction d using Nat.strongRecOn with
    | ind d ih4 =>
      intro i  sz hi hd4
      refine V_iload_n dX7_readyChannel_4 rfl ?_
      refine V_iconst (v := iI (4)) dX7_readyChannel_5 rfl ?_
      refine I_icmp_ge (tgt := 56) dX7_readyChannel_6 (by decide) ⟨by omega, by omega⟩ ⟨by omega, by omega⟩ (fun h6 => ?_) (fun h6 => ?_)
      · refine V_iload_n dX7_readyChannel_56 rfl ?_
        exact V_ireti dX7_readyChannel_57 rfl (Nat.le_of_ble_eq_true rfl) (Nat.le_of_ble_eq_true rfl) (hQ _ _ _ (iv (by rw [show i = 4 by omega]; rfl)) rfl)
      · have hbb := rbest_b (ρ := ρ) (b := 0) i.toNat
        obtain ⟨bs, hbs⟩ : ∃ x, x = rbest ρ 0 i.toNat := ⟨_, rfl⟩
        rw [← hbs] at hbb ⊢
        obtain ⟨fx, px, x0, -⟩ := id (hS.2.1 i (by omega) (by omega))
        have hQi := hQA.2 i (by omega) (by omega)
        have hpb := pend_b hQi.1
        have hf2 := hQi.2.2.1
        have hf3 := hQi.2.2.2.1
        have hf4 := hQi.2.2.2.2
        have hD := hQA.1
        refine V_aload_n dX7_readyChannel_9 rfl ?_
        refine V_getf fX7_33 dX7_readyChannel_10 h1 rfl ?_
        refine V_iload_n dX7_readyChannel_13 rfl ?_
        refine I_aald ao6 dX7_readyChannel_14 h3 ⟨by omega, by omega⟩ (by decide) ?_
        refine V_aload_n dX7_readyChannel_15 rfl ?_
        refine V_getf fX7_9 dX7_readyChannel_16 h1 rfl ?_
        refine V_cV (vs := [_]) (c6_isReady l _ _ _ _ _ _ _ _ _ _ _ _ _ x0 (ρ 0) (by unfold r32; omega)) mX7_97 coX6_isReady dX7_readyChannel_19 x0 rfl rfl rfl (by decide) (Nat.le_of_ble_eq_true rfl) (Nat.le_of_ble_eq_true rfl) (Nat.le_of_ble_eq_true rfl) (fun sz => ?_)
        obtain ⟨mb, hmb, emb⟩ := ex_if (p := ρ 0 ≤ pend ρ i ∨ (0 < pend ρ i ∧ ρ (33 + i) ≤ ρ (37 + i)))
        rw [emb]
        refine I_if_eq (tgt := 50) dX7_readyChannel_22 (by decide) ⟨by omega, by omega⟩ (fun h22 => ?_) (fun h22 => ?_)
        · refine I_iinc (L' := [some _, some _, some _]) dX7_readyChannel_50 rfl (by decide) rfl ?_
          refine V_goto (tgt := 4) dX7_readyChannel_53 (by decide) ?_
          exact V_wk' (ih4 _ (by omega) (i + 1) sz ⟨by omega, by omega⟩ rfl) ⟨rfl, (vi (by rw [rbest_s hi.1, ← hbs]; first | rw [if_pos (by omega)] | rw [if_neg (by omega)])), rfl, trivial⟩
        · refine V_iload_n dX7_readyChannel_25 rfl ?_
          refine V_iconst (v := iI (-1)) dX7_readyChannel_26 rfl ?_
          refine I_icmp_eq (tgt := 48) dX7_readyChannel_27 (by decide) ⟨by omega, by omega⟩ ⟨by omega, by omega⟩ (fun h27 => ?_) (fun h27 => ?_)
          · refine V_iload_n dX7_readyChannel_48 rfl ?_
            refine V_istore_n (L' := [some _, some _, some _]) dX7_readyChannel_49 rfl (by decide) rfl ?_
            refine I_iinc (L' := [some _, some _, some _]) dX7_readyChannel_50 rfl (by decide) rfl ?_
            refine V_goto (tgt := 4) dX7_readyChannel_53 (by decide) ?_
            exact V_wk' (ih4 _ (by omega) (i + 1) sz ⟨by omega, by omega⟩ rfl) ⟨rfl, (vi (by rw [rbest_s hi.1, ← hbs]; first | rw [if_pos (by omega)] | rw [if_neg (by omega)])), rfl, trivial⟩
          · obtain ⟨fy, py, y0, -⟩ := id (hS.2.1 bs (by omega) (by omega))
            have hQb := (hQA.2 bs (by omega) (by omega)).2
            refine V_aload_n dX7_readyChannel_30 rfl ?_
            refine V_getf fX7_33 dX7_readyChannel_31 h1 rfl ?_
            refine V_iload_n dX7_readyChannel_34 rfl ?_
            refine I_aald ao6 dX7_readyChannel_35 h3 ⟨by omega, by omega⟩ (by decide) ?_
            refine V_aload_n dX7_readyChannel_36 rfl ?_
            refine V_getf fX7_33 dX7_readyChannel_37 h1 rfl ?_
            refine V_iload_n dX7_readyChannel_40 rfl ?_
            refine I_aald ao6 dX7_readyChannel_41 h3 ⟨by omega, by omega⟩ (by decide) ?_
            refine V_cV (vs := [_]) (c6_precedes l _ _ _ _ _ _ _ _ _ _ _ _ _ x0 _ _ _ _ _ _ _ _ _ _ _ _ y0 ⟨hQi.2.1, hf4, hf2⟩ ⟨hQb.1, hQb.2.2.2, hQb.2.1⟩) mX7_101 coX6_precedes dX7_readyChannel_42 x0 rfl rfl rfl (by decide) (Nat.le_of_ble_eq_true rfl) (Nat.le_of_ble_eq_true rfl) (Nat.le_of_ble_eq_true rfl) (fun sz => ?_)
            obtain ⟨ab, hab, eab⟩ := ex_if (p := ρ (25 + bs) < ρ (25 + i) ∨ (ρ (25 + i) = ρ (25 + bs) ∧ ρ (37 + bs) < ρ (37 + i)))
            rw [eab]
            refine I_if_eq (tgt := 50) dX7_readyChannel_45 (by decide) ⟨by omega, by omega⟩ (fun h45 => ?_) (fun h45 => ?_)
            · refine I_iinc (L' := [some _, some _, some _]) dX7_readyChannel_50 rfl (by decide) rfl ?_
              refine V_goto (tgt := 4) dX7_readyChannel_53 (by decide) ?_
              exact V_wk' (ih4 _ (by omega) (i + 1) sz ⟨by omega, by omega⟩ rfl) ⟨rfl, (vi (by rw [rbest_s hi.1, ← hbs]; first | rw [if_pos (by omega)] | rw [if_neg (by omega)])), rfl, trivial⟩
            · refine V_iload_n dX7_readyChannel_48 rfl ?_
              refine V_istore_n (L' := [some _, some _, some _]) dX7_readyChannel_49 rfl (by decide) rfl ?_
              refine I_iinc (L' := [some _, some _, some _]) dX7_readyChannel_50 rfl (by decide) rfl ?_
              refine V_goto (tgt := 4) dX7_readyChannel_53 (by decide) ?_
              exact V_wk' (ih4 _ (by omega) (i + 1) sz ⟨by omega, by omega⟩ rfl) ⟨rfl, (vi (by rw [rbest_s hi.1, ← hbs]; first | rw [if_pos (by omega)] | rw [if_neg (by omega)])), rfl, trivial⟩
  exact V_wk' (key4 _ 0 sz ⟨by omega, by omega⟩ rfl) ⟨rfl, rfl, rfl, trivial⟩

set_option maxRecDepth 100000 in
set_option maxHeartbeats 4000000 in
theorem s_chosenChannel (l : Launch) (M : ME) (S : Nat) (ρ : Int → Int) (hS : St M S ρ) (hQA : QA ρ) : CF l yX7_chosenChannel cX7_chosenChannel 3 (some .int) (rmN 4) [.ref S] M (some (.int (iI (rch ρ)))) M := by
  obtain ⟨sq, h1, h2, h3, h4⟩ := id hS.1
  refine CF.of (L0 := [some _, none, none]) (by decide +kernel) rfl rfl (Nat.le_of_ble_eq_true rfl) rfl (fun G A Q sz hQ => ?_)
  refine V_iconst (v := iI (-1)) dX7_chosenChannel_0 rfl ?_
  refine V_istore_n (L' := [some _, some _, none]) dX7_chosenChannel_1 rfl (by decide) rfl ?_
  refine V_iconst (v := iI (0)) dX7_chosenChannel_2 rfl ?_
  refine V_istore_n (L' := [some _, some _, some _]) dX7_chosenChannel_3 rfl (by decide) rfl ?_
  have key4 : ∀ (d : Nat) (i : Int) (sz : Nat), (0 ≤ i ∧ i ≤ 4) → (4 - i).toNat = d → V l G A (rmN 4) RX7 "chosenChannel" cX7_chosenChannel 3 (some .int) Q nX 0 0 M sz 4 [some (.ref S), some (.int (iI (rbest ρ 1 i.toNat))), some (.int (iI i))] [] := by
    intro d
    induction d using Nat.strongRecOn with
    | ind d ih4 =>
      intro i  sz hi hd4
      refine V_iload_n dX7_chosenChannel_4 rfl ?_
      refine V_iconst (v := iI (4)) dX7_chosenChannel_5 rfl ?_
      refine I_icmp_ge (tgt := 52) dX7_chosenChannel_6 (by decide) ⟨by omega, by omega⟩ ⟨by omega, by omega⟩ (fun h6 => ?_) (fun h6 => ?_)
      · have hbb4 := rbest_b (ρ := ρ) (b := 1) i.toNat
        rw [show i = 4 by omega] at hbb4 ⊢
        rw [show Int.toNat 4 = 4 from rfl] at hbb4 ⊢
        refine V_iload_n dX7_chosenChannel_52 rfl ?_
        refine V_iconst (v := iI (-1)) dX7_chosenChannel_53 rfl ?_
        refine I_icmp_ne (tgt := 64) dX7_chosenChannel_54 (by decide) ⟨by omega, by omega⟩ ⟨by omega, by omega⟩ (fun h54 => ?_) (fun h54 => ?_)
        · refine V_iload_n dX7_chosenChannel_64 rfl ?_
          exact V_ireti dX7_chosenChannel_65 rfl (Nat.le_of_ble_eq_true rfl) (Nat.le_of_ble_eq_true rfl) (hQ _ _ _ (iv (by unfold rch; first | exact (if_pos (by first | omega | assumption)).symm | exact (if_neg (by first | omega | assumption)).symm)) rfl)
        · refine V_aload_n dX7_chosenChannel_57 rfl ?_
          refine V_cV (vs := []) (s_readyChannel l M S ρ hS hQA) mX7_93 coX7_readyChannel dX7_chosenChannel_58 h1 rfl rfl rfl (by decide) (Nat.le_of_ble_eq_true rfl) (Nat.le_of_ble_eq_true rfl) (Nat.le_of_ble_eq_true rfl) (fun sz => ?_)
          refine V_goto (tgt := 65) dX7_chosenChannel_61 (by decide) ?_
          exact V_ireti dX7_chosenChannel_65 rfl (Nat.le_of_ble_eq_true rfl) (Nat.le_of_ble_eq_true rfl) (hQ _ _ _ (iv (by unfold rch; first | exact (if_pos (by first | omega | assumption)).symm | exact (if_neg (by first | omega | assumption)).symm)) rfl)
      · have hbb := rbest_b (ρ := ρ) (b := 1) i.toNat
        obtain ⟨bs, hbs⟩ : ∃ x, x = rbest ρ 1 i.toNat := ⟨_, rfl⟩
        rw [← hbs] at hbb ⊢
        obtain ⟨fx, px, x0, -⟩ := id (hS.2.1 i (by omega) (by omega))
        have hQi := hQA.2 i (by omega) (by omega)
        have hpb := pend_b hQi.1
        have hf2 := hQi.2.2.1
        have hf3 := hQi.2.2.2.1
        have hf4 := hQi.2.2.2.2
        have hD := hQA.1
        refine V_aload_n dX7_chosenChannel_9 rfl ?_
        refine V_getf fX7_33 dX7_chosenChannel_10 h1 rfl ?_
        refine V_iload_n dX7_chosenChannel_13 rfl ?_
        refine I_aald ao6 dX7_chosenChannel_14 h3 ⟨by omega, by omega⟩ (by decide) ?_
        refine V_cV (vs := []) (c6_isOverdue l _ _ _ _ _ _ _ _ _ _ _ _ _ x0 (by unfold r32; omega)) mX7_85 coX6_isOverdue dX7_chosenChannel_15 x0 rfl rfl rfl (by decide) (Nat.le_of_ble_eq_true rfl) (Nat.le_of_ble_eq_true rfl) (Nat.le_of_ble_eq_true rfl) (fun sz => ?_)
        obtain ⟨mb, hmb, emb⟩ := ex_if (p := 0 < pend ρ i ∧ ρ (29 + i) ≤ ρ (37 + i))
        rw [emb]
        refine I_if_eq (tgt := 46) dX7_chosenChannel_18 (by decide) ⟨by omega, by omega⟩ (fun h18 => ?_) (fun h18 => ?_)
        · refine I_iinc (L' := [some _, some _, some _]) dX7_chosenChannel_46 rfl (by decide) rfl ?_
          refine V_goto (tgt := 4) dX7_chosenChannel_49 (by decide) ?_
          exact V_wk' (ih4 _ (by omega) (i + 1) sz ⟨by omega, by omega⟩ rfl) ⟨rfl, (vi (by rw [rbest_s hi.1, ← hbs]; first | rw [if_pos (by omega)] | rw [if_neg (by omega)])), rfl, trivial⟩
        · refine V_iload_n dX7_chosenChannel_21 rfl ?_
          refine V_iconst (v := iI (-1)) dX7_chosenChannel_22 rfl ?_
          refine I_icmp_eq (tgt := 44) dX7_chosenChannel_23 (by decide) ⟨by omega, by omega⟩ ⟨by omega, by omega⟩ (fun h23 => ?_) (fun h23 => ?_)
          · refine V_iload_n dX7_chosenChannel_44 rfl ?_
            refine V_istore_n (L' := [some _, some _, some _]) dX7_chosenChannel_45 rfl (by decide) rfl ?_
            refine I_iinc (L' := [some _, some _, some _]) dX7_chosenChannel_46 rfl (by decide) rfl ?_
            refine V_goto (tgt := 4) dX7_chosenChannel_49 (by decide) ?_
            exact V_wk' (ih4 _ (by omega) (i + 1) sz ⟨by omega, by omega⟩ rfl) ⟨rfl, (vi (by rw [rbest_s hi.1, ← hbs]; first | rw [if_pos (by omega)] | rw [if_neg (by omega)])), rfl, trivial⟩
          · obtain ⟨fy, py, y0, -⟩ := id (hS.2.1 bs (by omega) (by omega))
            have hQb := (hQA.2 bs (by omega) (by omega)).2
            refine V_aload_n dX7_chosenChannel_26 rfl ?_
            refine V_getf fX7_33 dX7_chosenChannel_27 h1 rfl ?_
            refine V_iload_n dX7_chosenChannel_30 rfl ?_
            refine I_aald ao6 dX7_chosenChannel_31 h3 ⟨by omega, by omega⟩ (by decide) ?_
            refine V_aload_n dX7_chosenChannel_32 rfl ?_
            refine V_getf fX7_33 dX7_chosenChannel_33 h1 rfl ?_
            refine V_iload_n dX7_chosenChannel_36 rfl ?_
            refine I_aald ao6 dX7_chosenChannel_37 h3 ⟨by omega, by omega⟩ (by decide) ?_
            refine V_cV (vs := [_]) (c6_isMoreOverdueThan l _ _ _ _ _ _ _ _ _ _ _ _ _ x0 _ _ _ _ _ _ _ _ _ _ _ _ y0 ⟨hQi.2.1, hf4, hf2⟩ ⟨hQb.1, hQb.2.2.2, hQb.2.1⟩) mX7_89 coX6_isMoreOverdueThan dX7_chosenChannel_38 x0 rfl rfl rfl (by decide) (Nat.le_of_ble_eq_true rfl) (Nat.le_of_ble_eq_true rfl) (Nat.le_of_ble_eq_true rfl) (fun sz => ?_)
            obtain ⟨ab, hab, eab⟩ := ex_if (p := ρ (37 + bs) - ρ (29 + bs) < ρ (37 + i) - ρ (29 + i) ∨ (ρ (37 + i) - ρ (29 + i) = ρ (37 + bs) - ρ (29 + bs) ∧ (ρ (25 + bs) < ρ (25 + i) ∨ (ρ (25 + i) = ρ (25 + bs) ∧ ρ (37 + bs) < ρ (37 + i)))))
            rw [eab]
            refine I_if_eq (tgt := 46) dX7_chosenChannel_41 (by decide) ⟨by omega, by omega⟩ (fun h41 => ?_) (fun h41 => ?_)
            · refine I_iinc (L' := [some _, some _, some _]) dX7_chosenChannel_46 rfl (by decide) rfl ?_
              refine V_goto (tgt := 4) dX7_chosenChannel_49 (by decide) ?_
              exact V_wk' (ih4 _ (by omega) (i + 1) sz ⟨by omega, by omega⟩ rfl) ⟨rfl, (vi (by rw [rbest_s hi.1, ← hbs]; first | rw [if_pos (by omega)] | rw [if_neg (by omega)])), rfl, trivial⟩
            · refine V_iload_n dX7_chosenChannel_44 rfl ?_
              refine V_istore_n (L' := [some _, some _, some _]) dX7_chosenChannel_45 rfl (by decide) rfl ?_
              refine I_iinc (L' := [some _, some _, some _]) dX7_chosenChannel_46 rfl (by decide) rfl ?_
              refine V_goto (tgt := 4) dX7_chosenChannel_49 (by decide) ?_
              exact V_wk' (ih4 _ (by omega) (i + 1) sz ⟨by omega, by omega⟩ rfl) ⟨rfl, (vi (by rw [rbest_s hi.1, ← hbs]; first | rw [if_pos (by omega)] | rw [if_neg (by omega)])), rfl, trivial⟩
  exact V_wk' (key4 _ 0 sz ⟨by omega, by omega⟩ rfl) ⟨rfl, rfl, rfl, trivial⟩
