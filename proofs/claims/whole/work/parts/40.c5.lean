theorem SC.st {M M' : ME} {c : Nat} {ρ ρ' : Int → Int} {ch : Int} (h : SC M c ρ ch) (hE : QE ρ ρ' ch) (hM : M' c = some (scC (ρ' (25 + ch)) (ρ' (29 + ch)) (ρ' (33 + ch)) (ρ' (37 + ch)) (pend ρ ch) (ρ' (41 + ch)) (ρ' (46 + ch)) (ρ' (50 + ch)) (ρ (54 + ch)) (ρ (58 + ch)) (c + 1))) (hF : ∀ q, c < q → q < c + 15 → M' q = M q) : SC M' c ρ' ch := by
  obtain ⟨f, p, h1, h2, h4, h5, h6, h7⟩ := h
  refine ⟨f, p, by rw [hM, hE.pd (by omega), hE.1, hE.2.1], by rw [hF _ (by omega) (by omega), h2], h4, fun i a b => by rw [hF _ (by have := h4 i a b; omega) (by have := h4 i a b; omega)]; exact h5 i a b, by rw [hE.1]; exact h6, fun i a b j c d => ?_⟩
  rw [hE.1] at b
  rw [hE.2.2 _ (by omega) (by omega)]
  exact h7 i a b j c d
theorem ridl_y {ρ : Int → Int} {ch D : Int} (hc : 0 ≤ ch ∧ ch ≤ 3) (h : pend ρ ch < D) : rputs ρ ch 15 0 (max 4 (D - pend ρ ch) - 3) 0 = ridl ρ ch D := by
  unfold ridl
  rw [if_pos (by omega)]
  congr 1
  split <;> omega

set_option maxRecDepth 100000 in
set_option maxHeartbeats 4000000 in
theorem c6_fill (l : Launch) (c : Nat) (ρ : Int → Int) (ch to : Int) (hc : 0 ≤ ch ∧ ch ≤ 3) (ht : 383 ≤ to) (M : ME) (f : Nat) (D x1 x2 x3 : Int) (g0 : Int → Int) (hf : M f = some (.inl (2, [.int (iI D), .int (iI x1), .long (lI x2), .long (lI x3), .ref (f + 1)]))) (hf1 : M (f + 1) = some (aI 46 g0)) (hS : SC M c ρ ch) (hd : f + 2 ≤ c ∨ c + 15 ≤ f) (hQ2 : Qs ρ ch) (hD : 8 ≤ D ∧ D ≤ 40) (hp : 1 ≤ pend ρ ch) (h3 : 0 ≤ ρ 3 ∧ ρ 3 ≤ 100000) (h5 : -1 ≤ ρ (50 + ch) ∧ ρ (50 + ch) ≤ 100000) (h7 : ρ (to + 4 + 3) = 255) : CP l yX6_fill cX6_fill 6 none (rmN 4) [.ref c, .ref f, .int (iI (ρ 3))] M (fun v M' => v = none ∧ ∃ g : Int → Int, M' (f + 1) = some (aI 46 g) ∧ (g 0 = g0 0 ∧ g 1 = g0 1 ∧ g 2 = ρ (41 + ch) % 256 ∧ g 3 = rflN (ridl ρ ch D) to ch D.toNat (to + 4 + 3)) ∧ (∀ i, 0 ≤ i → i < D → g (4 + i) = rflN (ridl ρ ch D) to ch D.toNat (to + 4 + 4 + i)) ∧ SC M' c (up (rflN (ridl ρ ch D) to ch D.toNat) (41 + ch) (ρ (41 + ch) + 1)) ch ∧ ∀ q, (q < c ∨ c + 15 ≤ q) → q ≠ f + 1 → M' q = M q) := by
  obtain ⟨f0, p0, h1, h2, h4, h5a, h6, h7a⟩ := id hS
  have hno : ¬ pend ρ ch < D → SC M c (ridl ρ ch D) ch := fun z => by unfold ridl; rw [if_neg (by omega)]; exact hS
  have hyes : pend ρ ch < D → ∀ N1 : ME, SC N1 c (rputs ρ ch 15 0 (max 4 (D - pend ρ ch) - 3) 0) ch → SC N1 c (ridl ρ ch D) ch := fun z N1 hN => by rw [← ridl_y hc z]; exact hN
  have hpb := pend_b hQ2.1
  have hlb := Qs.lb hQ2
  have hpe := (Qs.pend0 hQ2).2
  refine CP.of (L0 := [some _, some _, some _, none, none, none]) (by decide +kernel) rfl rfl (Nat.le_of_ble_eq_true rfl) rfl (fun G A Q sz hQ => ?_)
  refine V_aload_n dX6_fill_0 rfl ?_
  refine V_getf fX6_81 dX6_fill_1 hf rfl ?_
  refine V_istore_n (L' := [some _, some _, some _, some _, none, none]) dX6_fill_4 rfl (by decide) rfl ?_
  have j38 : ∀ (N : ME) (sz : Nat), (SC N c (ridl ρ ch D) ch) → (∀ q, (q < c ∨ c + 15 ≤ q) → N q = M q) → V l G A (rmN 4) RX6 "fill" cX6_fill 6 none Q nX 0 0 N sz 38 [some (.ref c), some (.ref f), some (.int (iI (ρ 3))), some (.int (iI D)), none, none] [] := by
    intro N  sz nS nF
    have hK0 : KI (rflN (ridl ρ ch D) to ch (0 : Int).toNat) ch to (D - 0) := by rw [Int.sub_zero]; exact ridl_K hc ht hD hQ2 hp h3 h5 (by omega)
    have h255 : ridl ρ ch D (to + 4 + 3) = 255 := (ridl_o (fun _ => by omega) (by omega)).trans h7
    have hKR := ridl_K hc ht hD hQ2 hp h3 h5 (by omega)
    have e3r : ridl ρ ch D 3 = ρ 3 := ridl_o (fun _ => by omega) (by omega)
    have e41r : ridl ρ ch D (41 + ch) = ρ (41 + ch) := ridl_o (fun _ => by omega) (by omega)
    refine V_sipush (v := iI (255)) dX6_fill_38 (by decide +kernel) ?_
    refine V_istore (L' := [some _, some _, some _, some _, some _, none]) dX6_fill_41 (by decide) rfl ?_
    refine V_iconst (v := iI (0)) dX6_fill_43 rfl ?_
    refine V_istore (L' := [some _, some _, some _, some _, some _, some _]) dX6_fill_44 (by decide) rfl ?_
    have key46 : ∀ (d : Nat) (j : Int) (N : ME) (gj : Int → Int) (sz : Nat), (0 ≤ j ∧ j ≤ D) → (SC N c (rflN (ridl ρ ch D) to ch j.toNat) ch) → (KI (rflN (ridl ρ ch D) to ch j.toNat) ch to (D - j)) → (N f = some (.inl (2, [.int (iI D), .int (iI x1), .long (lI x2), .long (lI x3), .ref (f + 1)]))) → (N (f + 1) = some (aI 46 gj)) → (gj 0 = g0 0 ∧ gj 1 = g0 1 ∧ ∀ i, 0 ≤ i → i < j → gj (4 + i) = rflN (ridl ρ ch D) to ch j.toNat (to + 4 + 4 + i)) → (∀ q, (q < c ∨ c + 15 ≤ q) → q ≠ f + 1 → N q = M q) → (D - j).toNat = d → V l G A (rmN 4) RX6 "fill" cX6_fill 6 none Q nX 0 0 N sz 46 [some (.ref c), some (.ref f), some (.int (iI (ρ 3))), some (.int (iI D)), some (.int (iI (rflN (ridl ρ ch D) to ch j.toNat (to + 4 + 3)))), some (.int (iI j))] [] := by
      intro d
      induction d using Nat.strongRecOn with
      | ind d ih46 =>
        intro j N gj  sz hj nS nK n2 n3 n4 nF hd46
        obtain ⟨ff, pp, n1, nz⟩ := id nS
        have nb := nK.1.1.2.1
        have nb3 := nK.2.2.2.2
        have nm := nK.1.1.1
        have npd := (Qs.pend0 nK.1).2
        have npw := nK.2.1
        refine V_iload dX6_fill_46 rfl ?_
        refine V_iload_n dX6_fill_48 rfl ?_
        refine I_icmp_ge (tgt := 98) dX6_fill_49 (by decide) ⟨by omega, by omega⟩ ⟨by omega, by omega⟩ (fun h49 => ?_) (fun h49 => ?_)
        · have hjD : j = D := by omega
          rw [hjD] at nS nK n4 n1 ⊢
          have e41 : rflN (ridl ρ ch D) to ch D.toNat (41 + ch) = ρ (41 + ch) := (rflN_lo (w := D) (fun _ => ⟨hc, hKR⟩) ht (by omega) _ (by omega) (by omega)).trans e41r
          refine V_aload_n dX6_fill_98 rfl ?_
          refine V_getf fX6_91 dX6_fill_99 n2 rfl ?_
          refine V_iconst (v := iI (2)) dX6_fill_102 rfl ?_
          refine V_aload_n dX6_fill_103 rfl ?_
          refine V_getf fX6_27 dX6_fill_104 n1 rfl ?_
          refine V_sipush (v := iI (255)) dX6_fill_107 (by decide +kernel) ?_
          first | refine I_and255 dX6_fill_110 ?_ | refine I_and65535 dX6_fill_110 ?_ | refine I_and31 dX6_fill_110 ?_
          refine I_iast dX6_fill_111 n3 ⟨by omega, by omega⟩ (by decide) ?_
          refine V_aload_n dX6_fill_112 rfl ?_
          refine V_getf fX6_91 dX6_fill_113 ((mu_ne (by omega)).trans n2) rfl ?_
          refine V_iconst (v := iI (3)) dX6_fill_116 rfl ?_
          refine V_iload dX6_fill_117 rfl ?_
          refine I_iast dX6_fill_119 mu_eq ⟨by omega, by omega⟩ (by decide) ?_
          refine V_aload_n dX6_fill_120 rfl ?_
          refine V_dup dX6_fill_121 rfl ?_
          refine V_getf fX6_27 dX6_fill_122 ((mu_ne (by omega)).trans ((mu_ne (by omega)).trans n1)) rfl ?_
          refine V_iconst (v := iI (1)) dX6_fill_125 rfl ?_
          refine I_iadd dX6_fill_126 ?_
          refine V_putf fX6_27 dX6_fill_127 ((mu_ne (by omega)).trans ((mu_ne (by omega)).trans n1)) rfl rfl (by simp) ?_
          exact V_ret dX6_fill_130 rfl (Nat.le_of_ble_eq_true rfl) (Nat.le_of_ble_eq_true rfl) (hQ _ _ _ ⟨rfl, _, (mu_ne (by omega)).trans mu_eq, ⟨by rw [up_n (by omega), up_n (by omega)]; exact n4.1, by rw [up_n (by omega), up_n (by omega)]; exact n4.2.1, by rw [up_n (by omega), up_s, e41], by rw [up_s]⟩, fun i a b => by rw [up_n (by omega), up_n (by omega)]; exact n4.2.2 i a b, nS.st (QE.up hc (by omega)) (by rw [mu_eq, up_s, up_n (by omega), up_n (by omega), up_n (by omega), up_n (by omega), up_n (by omega), up_n (by omega), e41]; rfl) (fun q a b => (mu_ne (by omega)).trans ((mu_ne (by omega)).trans (mu_ne (by omega)))), fun q a b => (mu_ne (by omega)).trans ((mu_ne b).trans ((mu_ne b).trans (nF q a b)))⟩)
        · refine V_iload dX6_fill_52 rfl ?_
          refine V_bipush (v := iI (40)) dX6_fill_54 (by decide +kernel) ?_
          refine I_icmp_ge_f (tgt := 98) dX6_fill_56 (by decide) ⟨by omega, by omega⟩ ⟨by omega, by omega⟩ (by omega) ?_
          refine V_join (J := 78) (M' := N) (L' := [some (.ref c), some (.ref f), some (.int (iI (ρ 3))), some (.int (iI D)), some (.int (iI (rptr (rflN (ridl ρ ch D) to ch j.toNat) to ch j (to + 4 + 3)))), some (.int (iI j))]) (fun sz => ?_) (fun j78 => ?_)
          · have e3 : rptr (rflN (ridl ρ ch D) to ch j.toNat) to ch j 3 = ρ 3 := (rptr_o (by omega)).trans ((rflN_lo (w := D) (fun _ => ⟨hc, hKR⟩) ht (by omega) _ (by omega) (by omega)).trans e3r)
            have hTB := c6_takeByte l N c (rptr (rflN (ridl ρ ch D) to ch j.toNat) to ch j) ch hc (nS.mv (fun q _ _ => rfl) (fun q hq => rptr_o (by unfold chq at hq; omega))) ((rptr_E hc ht).s nK.1) (by rw [(rptr_E hc ht).pd (by omega)]; omega) (by rw [e3]; exact h3) (by rw [rptr_o (by omega)]; exact nK.2.2.2.1)
            rw [e3] at hTB
            refine V_aload_n dX6_fill_78 rfl ?_
            refine V_getf fX6_91 dX6_fill_79 n2 rfl ?_
            refine V_iconst (v := iI (4)) dX6_fill_82 rfl ?_
            refine V_iload dX6_fill_83 rfl ?_
            refine I_iadd dX6_fill_85 ?_
            refine V_aload_n dX6_fill_86 rfl ?_
            refine V_iload_n dX6_fill_87 rfl ?_
            refine V_cVE (vs := [_]) hTB mX6_95 coX6_takeByte dX6_fill_88 n1 rfl rfl rfl (by decide) (Nat.le_of_ble_eq_true rfl) (Nat.le_of_ble_eq_true rfl) (Nat.le_of_ble_eq_true rfl) (fun N1 sz hp => ?_)
            obtain ⟨hS9, hF9⟩ := hp
            refine I_iast dX6_fill_91 ((hF9 _ (by omega)).trans n3) ⟨by omega, by omega⟩ (by decide) ?_
            have hE1 : rflN (ridl ρ ch D) to ch (j + 1).toNat = up (rtk (rptr (rflN (ridl ρ ch D) to ch j.toNat) to ch j) ch) (to + 4 + 4 + j) (rbyte (rptr (rflN (ridl ρ ch D) to ch j.toNat) to ch j) ch (rptr (rflN (ridl ρ ch D) to ch j.toNat) to ch j (58 + ch))) := by rw [← rflN_s hj.1]; unfold rfl1; rw [if_neg (by omega)]
            have hT1 : SC (mu N1 (f + 1) (aI 46 (up gj (4 + j) (rbyte (rptr (rflN (ridl ρ ch D) to ch j.toNat) to ch j) ch (rptr (rflN (ridl ρ ch D) to ch j.toNat) to ch j (58 + ch)))))) c (rflN (ridl ρ ch D) to ch (j + 1).toNat) ch := by rw [hE1]; exact hS9.mv (fun q a b => mu_ne (by omega)) (fun q hq => up_n (by unfold chq at hq; omega))
            have hT2 : KI (rflN (ridl ρ ch D) to ch (j + 1).toNat) ch to (D - (j + 1)) := by rw [← rflN_s hj.1, show D - (j + 1) = D - j - 1 by omega]; exact nK.step hc ht (by omega) (by omega)
            have hT3 : up gj (4 + j) (rbyte (rptr (rflN (ridl ρ ch D) to ch j.toNat) to ch j) ch (rptr (rflN (ridl ρ ch D) to ch j.toNat) to ch j (58 + ch))) 0 = g0 0 ∧ up gj (4 + j) (rbyte (rptr (rflN (ridl ρ ch D) to ch j.toNat) to ch j) ch (rptr (rflN (ridl ρ ch D) to ch j.toNat) to ch j (58 + ch))) 1 = g0 1 ∧ ∀ i, 0 ≤ i → i < j + 1 → up gj (4 + j) (rbyte (rptr (rflN (ridl ρ ch D) to ch j.toNat) to ch j) ch (rptr (rflN (ridl ρ ch D) to ch j.toNat) to ch j (58 + ch))) (4 + i) = rflN (ridl ρ ch D) to ch (j + 1).toNat (to + 4 + 4 + i)   := by
              refine ⟨by rw [up_n (by omega)]; exact n4.1, by rw [up_n (by omega)]; exact n4.2.1, fun i a b => ?_⟩
              by_cases e : i = j
              · rw [e, up_s, hE1, up_s]
              · rw [up_n (by omega), n4.2.2 i a (by omega), ← rflN_s hj.1, rfl1_o (fun _ => ⟨hc, by omega⟩) ht (by omega) (by omega)]
            have hT4 : rptr (rflN (ridl ρ ch D) to ch j.toNat) to ch j (to + 4 + 3) = rflN (ridl ρ ch D) to ch (j + 1).toNat (to + 4 + 3) := by rw [hE1, up_n (by omega), rtk_o hc (by rw [rptr_o (by omega)]; omega) (by omega)]
            refine I_iinc (L' := [some _, some _, some _, some _, some _, some _]) dX6_fill_92 rfl (by decide) rfl ?_
            refine V_goto (tgt := 46) dX6_fill_95 (by decide) ?_
            exact V_wk' (ih46 _ (by omega) (j + 1) _ _ sz ⟨by omega, by omega⟩ hT1 hT2 ((mu_ne (by omega)).trans ((hF9 _ (by omega)).trans n2)) mu_eq hT3 (fun q z z1 => (mu_ne z1).trans ((hF9 q z).trans (nF q z z1))) rfl) ⟨rfl, rfl, rfl, rfl, (vi hT4.symm), rfl, trivial⟩
          · refine V_aload_n dX6_fill_59 rfl ?_
            refine V_getf fX6_39 dX6_fill_60 n1 rfl ?_
            refine I_if_ne (tgt := 78) dX6_fill_63 (by decide) ⟨by omega, by omega⟩ (fun h63 => ?_) (fun h63 => ?_)
            · exact V_eqM rfl (V_wk' (j78 _) ⟨rfl, rfl, rfl, rfl, (vi (by rw [rptr_v]; first | rw [if_pos (by omega)] | rw [if_neg (by omega)])), rfl, trivial⟩)
            · refine V_iload dX6_fill_66 rfl ?_
              refine V_sipush (v := iI (255)) dX6_fill_68 (by decide +kernel) ?_
              refine I_icmp_ne (tgt := 78) dX6_fill_71 (by decide) ⟨by omega, by omega⟩ ⟨by omega, by omega⟩ (fun h71 => ?_) (fun h71 => ?_)
              · exact V_eqM rfl (V_wk' (j78 _) ⟨rfl, rfl, rfl, rfl, (vi (by rw [rptr_v]; first | rw [if_pos (by omega)] | rw [if_neg (by omega)])), rfl, trivial⟩)
              · refine V_iload dX6_fill_74 rfl ?_
                refine V_istore (L' := [some _, some _, some _, some _, some _, some _]) dX6_fill_76 (by decide) rfl ?_
                exact V_eqM rfl (V_wk' (j78 _) ⟨rfl, rfl, rfl, rfl, (vi (by rw [rptr_v]; first | rw [if_pos (by omega)] | rw [if_neg (by omega)])), rfl, trivial⟩)
    exact V_wk' (key46 _ 0 _ g0 sz ⟨by omega, by omega⟩ nS hK0 ((nF _ (by omega)).trans hf) ((nF _ (by omega)).trans hf1) ⟨rfl, rfl, fun i a b => by omega⟩ (fun q z _ => nF q z) rfl) ⟨rfl, rfl, rfl, rfl, (vi h255), rfl, trivial⟩
  refine V_aload_n dX6_fill_5 rfl ?_
  refine V_getf fX6_24 dX6_fill_6 h1 rfl ?_
  refine V_iload_n dX6_fill_9 rfl ?_
  refine I_icmp_ge (tgt := 38) dX6_fill_10 (by decide) ⟨by omega, by omega⟩ ⟨by omega, by omega⟩ (fun h10 => ?_) (fun h10 => ?_)
  · exact V_wk' (j38 _ _ (by first | exact hno (by omega) | exact hyes (by omega) _ hS9) (by first | exact fun q _ => rfl | exact hF9)) ⟨rfl, rfl, rfl, rfl, trivial⟩
  · refine V_iconst (v := iI (4)) dX6_fill_13 rfl ?_
    refine V_iload_n dX6_fill_14 rfl ?_
    refine V_aload_n dX6_fill_15 rfl ?_
    refine V_getf fX6_24 dX6_fill_16 h1 rfl ?_
    refine I_isub dX6_fill_19 ?_
    refine I_max ⟨by omega, by omega⟩ ⟨by omega, by omega⟩ mX6_84 dX6_fill_20 (by decide) (Nat.le_of_ble_eq_true rfl) (Nat.le_of_ble_eq_true rfl) (Nat.le_of_ble_eq_true rfl) ?_
    refine V_istore (L' := [some _, some _, some _, some _, some _, none]) dX6_fill_23 (by decide) rfl ?_
    refine V_aload_n dX6_fill_25 rfl ?_
    refine V_bipush (v := iI (15)) dX6_fill_26 (by decide +kernel) ?_
    refine V_iconst (v := iI (0)) dX6_fill_28 rfl ?_
    refine V_iload dX6_fill_29 rfl ?_
    refine V_iconst (v := iI (3)) dX6_fill_31 rfl ?_
    refine I_isub dX6_fill_32 ?_
    refine V_iconst (v := iI (0)) dX6_fill_33 rfl ?_
    refine V_iload_n dX6_fill_34 rfl ?_
    refine V_cVE0 (vs := [_, _, _, _, _]) (c6_app l _ c ρ ch hc hS hQ2 (by have := Qs.lb hQ2; have := (Qs.pend0 hQ2).2; omega) 15 0 (max 4 (D - pend ρ ch) - 3) 0 ⟨by omega, by omega⟩ ⟨by omega, by omega⟩ ⟨by omega, by omega⟩ ⟨by omega, by omega⟩ h3) mX6_87 coX6_append dX6_fill_35 h1 rfl rfl rfl (by decide) (Nat.le_of_ble_eq_true rfl) (Nat.le_of_ble_eq_true rfl) (Nat.le_of_ble_eq_true rfl) (fun N1 sz hp => ?_)
    obtain ⟨hS9, hF9⟩ := hp
    exact V_wk' (j38 _ _ (by first | exact hno (by omega) | exact hyes (by omega) _ hS9) (by first | exact fun q _ => rfl | exact hF9)) ⟨rfl, rfl, rfl, rfl, trivial⟩
