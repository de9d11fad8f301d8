theorem RR.cn {M : ME} {R : Nat} {ρ : Int → Int} (h : RR M R ρ) (hI : RI ρ) (k : Int) (hk : 0 ≤ k ∧ k ≤ 5) : ∃ cn, M (R + 1) = some (aI 6 cn) ∧ RR (mu M (R + 1) (aI 6 (up cn k (cn k + 1)))) R (rcn ρ k 1) := by
  obtain ⟨hA, hK, hD, hT⟩ := h
  obtain ⟨lm, cn, ap, am, ab, al, a0, a1, a2, a3, a4, a5, a6, a7, a8, a9⟩ := hA
  have eo : ∀ q, q ≠ 3383 + k → rcn ρ k 1 q = ρ q := fun q z => rcn_o z
  refine ⟨cn, a1, ⟨lm, _, ap, am, ab, al, (mu_ne (by omega)).trans a0, mu_eq, (mu_ne (by omega)).trans a2, (mu_ne (by omega)).trans a3, (mu_ne (by omega)).trans a4, (mu_ne (by omega)).trans a5, (mu_ne (by omega)).trans a6, by rw [eo _ (by omega)]; exact a7, fun q x y => ?_, fun a x y => by rw [eo _ (by omega), eo _ (by omega), eo _ (by omega), eo _ (by omega)]; exact a9 a x y⟩, fun c x y => ?_, ?_, ?_⟩
  · by_cases z : q = k
    · rw [z, up_s, a8 k hk.1 (by omega)]; unfold rcn; rw [up_s]
    · rw [up_n z, eo _ (by omega)]; exact a8 q x y
  · have := (hI.2.2.1 c x (by omega)).1.1
    have hkA : rkA R c = R + 72 + 2 * c.toNat := rfl
    exact (hK c x y).mv (by omega) ⟨mu_ne (by omega), mu_ne (by omega)⟩ (fun q hq => eo q (by omega))
  · exact hD.mv hI.2.2.2.1 (fun q x y => mu_ne (by omega)) (fun q x y => eo q (by omega))
  · exact hT.mv hI.2.2.2.2.1.2 (fun q x y => mu_ne (by omega)) (fun q x y => eo q (by omega))
theorem RR.ra {M M' : ME} {R : Nat} {ρ : Int → Int} {m : Int} (h : RR M R ρ) (hI : RI ρ) (hA : RA M' R (rcm ρ m)) (hF : FR M M' R 2) : RR M' R (rcm ρ m) := by
  refine ⟨hA, fun c x y => ?_, ?_, ?_⟩
  · have := (hI.2.2.1 c x (by omega)).1.1
    have hkA : rkA R c = R + 72 + 2 * c.toNat := rfl
    exact (h.2.1 c x y).mv (by omega) ⟨hF _ (by omega), hF _ (by omega)⟩ (fun q hq => rcm_o (by omega))
  · exact h.2.2.1.mv hI.2.2.2.1 (fun q x y => hF _ (by omega)) (fun q x y => rcm_o (by omega))
  · exact h.2.2.2.mv hI.2.2.2.2.1.2 (fun q x y => hF _ (by omega)) (fun q x y => rcm_o (by omega))
theorem RR.no {M M' : ME} {R : Nat} {ρ : Int → Int} {a b : Int} (h : RR M R ρ) (hI : RI ρ) (hT : TR M' (R + 69) (rno ρ a b)) (hF : FR M M' (R + 69) 3) : RR M' R (rno ρ a b) := by
  refine ⟨h.1.mv (fun q x y => hF _ (by omega)) (fun q hq => rno_o hI.2.2.2.2 (by omega)), fun c x y => ?_, ?_, hT⟩
  · have := (hI.2.2.1 c x (by omega)).1.1
    have hkA : rkA R c = R + 72 + 2 * c.toNat := rfl
    exact (h.2.1 c x y).mv (by omega) ⟨hF _ (by omega), hF _ (by omega)⟩ (fun q hq => rno_o hI.2.2.2.2 (by omega))
  · exact h.2.2.1.mv hI.2.2.2.1 (fun q x y => hF _ (by omega)) (fun q x y => rno_o hI.2.2.2.2 (by omega))
theorem RR.idl {N : ME} {R : Nat} {ρ : Int → Int} {fr : Int} (hI : RI (rcm ρ (ρ (fr + 4)))) (h : RR N R (rcn (rcm ρ (ρ (fr + 4))) 5 1)) : RR N R (rcn (rgp ρ fr 4) 5 1) := by
  refine h.mv (hI.cn (by omega)) (fun q a b => rfl) (fun q a b z => ?_)
  have e : ∀ k, k ≠ 3394 → rgp ρ fr 4 k = rcm ρ (ρ (fr + 4)) k := fun k hk => by
    unfold rgp
    rw [if_neg (by omega)]
    unfold rg1
    rw [up_n (by omega)]
    rfl
  unfold rcn
  rw [e (3383 + 5) (by omega)]
  exact up_cg (e q z)
theorem RI.cm {ρ : Int → Int} {m : Int} (h : RI ρ) (hm : 0 ≤ m ∧ m ≤ 255) : RI (rcm ρ m) := by
  obtain ⟨h1, h2, h3, h4, h5⟩ := h
  have e : rcm ρ m 3389 = m := by unfold rcm; rw [up_s]
  refine ⟨by rw [e]; omega, fun c a b => by rw [rcm_o (by omega)]; exact h2 c a b, fun c a b => ⟨(h3 c a b).1.cg ⟨a, b⟩ (rcm_o (by omega)) (fun q x y => rcm_o (by omega)), by rw [rcm_o (by omega)]; exact (h3 c a b).2⟩, h4.cg fun q a b => rcm_o (by omega), h5.cg fun q a b => rcm_o (by omega)⟩
theorem CI.cm {B : Int} {ρ : Int → Int} {m : Int} (h : CI B ρ) (hA : Ai ρ) (hm : 0 ≤ m) : CI (B + 1) (rcm ρ m) := by
  have e : rcm ρ m 3389 = m := by unfold rcm; rw [up_s]
  have e2 : rcm ρ m 3383 = ρ 3383 + 1 := by unfold rcm rcn; rw [up_n (by omega), up_n (by omega), show (3383 + 0 : Int) = 3383 by omega, up_s]
  obtain ⟨h1, h2, h3, h4⟩ := h
  refine ⟨by rw [e, e2]; omega, fun c a b => by rw [rcm_o (by omega), rcm_o (by omega)]; have := h2 c a b; omega, fun c a b => by rw [rcm_o (by omega), rcm_o (by omega)]; have := h3 c a b; omega, fun k a b => ?_⟩
  rw [rcm_o (by omega)] at b
  have hp := hA.2.1
  have hl := hA.2.2 k a b
  rw [rcm_o (by omega), rcm_o (q := 4504 + 260 * k + 3) (by omega), h4 k a b]
  exact dsum_cg _ fun i d e => (rcm_o (by omega)).symm
/-- the row that takeData begins with -/
theorem rwa_i {ρ : Int → Int} {B f : Int} (hf : 0 ≤ f ∧ f ≤ 59) (hF : Fw ρ f) (h : RI ρ) (hC : CI B ρ) (c : Int) : RI (rr3 (rcm ρ (ρ (383 + 50 * f + 4))) (383 + 50 * f) c) ∧ CI (B + 1) (rr3 (rcm ρ (ρ (383 + 50 * f + 4))) (383 + 50 * f) c) ∧ ∀ q, q < 3383 → rr3 (rcm ρ (ρ (383 + 50 * f + 4))) (383 + 50 * f) c q = ρ q := by
  have b0 := hF.2.2.2.2 0 (by omega) (by have := hF.1; omega)
  rw [Int.add_zero] at b0
  have h1 := h.cm b0
  have e : ∀ q, q < 12304 → rr3 (rcm ρ (ρ (383 + 50 * f + 4))) (383 + 50 * f) c q = rcm ρ (ρ (383 + 50 * f + 4)) q := fun q a => rr3_o h1.2.2.2.2 a
  refine ⟨h1.r3 (by rw [rcm_o (by omega)]; exact hF.2.2.1) (by rw [rcm_o (by omega)]; exact hF.2.2.2.1), (hC.cm h.2.2.2.1 b0.1).cg (Int.le_refl _) h1.2.2.2.1 (fun q hq => e q (by omega)), fun q a => by rw [e q (by omega), rcm_o (by omega)]⟩
/-- what reception keeps -/
theorem CI.rc {B : Int} {ρ : Int → Int} {f : Int} (hf : 0 ≤ f ∧ f ≤ 59) (hF : Fw ρ f) (h : RI ρ) (hC : CI B ρ) : CI (B + 42) (rrc ρ f) := by
  have hF1 := hF.1
  unfold rrc
  split
  · exact hC.cg (by omega) h.2.2.2.1 (fun q hq => rcn_o (by omega))
  · rename_i hb
    have b0 := hF.2.2.2.2 0 (by omega) (by omega)
    rw [Int.add_zero] at b0
    split
    · have e : ∀ q, q ≠ 3388 → q ≠ 3394 → rcn (rgp ρ (383 + 50 * f) 4) 5 1 q = rcm ρ (ρ (383 + 50 * f + 4)) q := fun q a b => by
        rw [rcn_o (by omega)]
        unfold rgp
        rw [if_neg (by omega)]
        unfold rg1
        rw [up_n (by omega)]
        rfl
      exact (hC.cm h.2.2.2.1 b0.1).cg (by omega) (h.cm b0).2.2.2.1 (fun q hq => e q (by omega) (by omega))
    · rename_i h7
      have hc : 0 ≤ ρ (383 + 50 * f + 4 + 1) ∧ ρ (383 + 50 * f + 4 + 1) ≤ 3 := by
        have := not_or.mp hb
        have h9 := Decidable.not_not.mp this.2
        omega
      obtain ⟨w1, w2, w3⟩ := rwa_i hf hF h hC (ρ (383 + 50 * f + 4 + 1))
      rw [← rrg_e hf h.2.2.2.2 hc]
      have hF0 := hF.b
      have hFb : Fb (rr3 (rcm ρ (ρ (383 + 50 * f + 4))) (383 + 50 * f) (ρ (383 + 50 * f + 4 + 1))) (383 + 50 * f) := hF0.cg (by omega) w3
      have hI1 := w1.cf hc (by omega) hFb
      have hF2 := hFb.cg (ρ' := rcf (rr3 (rcm ρ (ρ (383 + 50 * f + 4))) (383 + 50 * f) (ρ (383 + 50 * f + 4 + 1))) (383 + 50 * f) (ρ (383 + 50 * f + 4 + 1))) (by omega) fun q a => rcf_o (by omega)
      have hC1 := w2.cf w1 hc hFb
      have ht := rtp_i (c := ρ (383 + 50 * f + 4 + 1)) hc (show 383 ≤ 383 + 50 * f ∧ 383 + 50 * f ≤ 3333 by omega) hF2 (hI1.2.2.1 _ hc.1 hc.2).1 hI1.2.2.2.1
      have htb := rtb_b (c := ρ (383 + 50 * f + 4 + 1)) hF2
      have hC2 := (hC1.cg (Int.le_refl _) hI1.2.2.2.1 (fun q hq => rtp_o (fr := 383 + 50 * f) (c := ρ (383 + 50 * f + 4 + 1)) (by omega)))
      have hbd := hF2.1
      unfold rtd
      obtain ⟨g1, hg1⟩ : ∃ g, g = rcf (rr3 (rcm ρ (ρ (383 + 50 * f + 4))) (383 + 50 * f) (ρ (383 + 50 * f + 4 + 1))) (383 + 50 * f) (ρ (383 + 50 * f + 4 + 1)) := ⟨_, rfl⟩
      rw [← hg1] at ht htb hC2 hbd ⊢
      have h8 := hC2.tN hc (show 383 ≤ 383 + 50 * f ∧ 383 + 50 * f ≤ 3333 by omega) ht.1 htb.1 ht.2.1 ht.2.2 (g1 (383 + 50 * f) - rtb g1 (383 + 50 * f) (ρ (383 + 50 * f + 4 + 1))).toNat (by rw [rtp_o (by omega)]; omega)
      have hi := rtN_i (b := rtb g1 (383 + 50 * f) (ρ (383 + 50 * f + 4 + 1))) hc (show 383 ≤ 383 + 50 * f ∧ 383 + 50 * f ≤ 3333 by omega) ht.1 htb.1 ht.2.1 ht.2.2 (g1 (383 + 50 * f) - rtb g1 (383 + 50 * f) (ρ (383 + 50 * f + 4 + 1))).toNat (by rw [rtp_o (by omega)]; omega)
      exact h8.cg (by omega) hi.2.1 (fun q _ => rfl)

set_option maxRecDepth 100000 in
set_option maxHeartbeats 4000000 in
theorem c5_take (l : Launch) (M : ME) (R : Nat) (ρ : Int → Int) (hR : RR M R ρ) (hI : RI ρ) (B : Int) (hC : CI B ρ) (hB : B ≤ 800000000) (fi : Int) (hfi : 0 ≤ fi ∧ fi ≤ 59) (hF : Fw ρ fi) (f : Nat) (hO : FO M f (sl ρ (383 + 50 * fi)) (ρ (383 + 50 * fi) + 6)) (hdj : f + 2 ≤ R ∨ R + 80 ≤ f) : CP l yX5_take cX5_take 4 (some .int) (rmN 4) [.ref R, .ref f] M (fun v M' => v = some (.int (iI (rvn ρ fi))) ∧ RR M' R (rv1 ρ fi) ∧ FR M M' R 80) := by
  have hF1 := hF.1
  have hR0 := id hR
  obtain ⟨lm, cn, ap, am, ab, al, h0, h1, h2, h3, h4, h5, h6, -⟩ := hR.1
  obtain ⟨gb, gg, t0, -⟩ := id hR.2.2.2
  obtain ⟨cn1, c11, hbad⟩ := hR.cn hI 1 (by omega)
  obtain ⟨gf, f0, f1, f2, f3⟩ := hO
  have hgf : ∀ k, 0 ≤ k → k < ρ (383 + 50 * fi) + 6 → gf k = ρ (383 + 50 * fi + 4 + k) := fun k a b => (f3 k a b).trans (by unfold sl; congr 1; omega)
  have hgb : ∀ k, 0 ≤ k → k < ρ (383 + 50 * fi) + 6 → 0 ≤ gf k ∧ gf k ≤ 255 := fun k a b => by rw [hgf k a b]; exact hF.2.2.2.2 k a b
  have e0 : sl ρ (383 + 50 * fi) 0 = ρ (383 + 50 * fi) := by unfold sl; rw [Int.add_zero]
  have e1 : sl ρ (383 + 50 * fi) 1 = ρ (383 + 50 * fi + 1) := rfl
  have e2 : sl ρ (383 + 50 * fi) 2 = ρ (383 + 50 * fi + 2) := rfl
  have e3 : sl ρ (383 + 50 * fi) 3 = ρ (383 + 50 * fi + 3) := rfl
  rw [e0, e1, e2, e3] at f0
  rw [e1] at f2
  clear e0 e1 e2 e3 f3
  have g0 := hgf 0 (by omega) (by omega)
  rw [Int.add_zero] at g0
  have g1 := hgf 1 (by omega) (by omega)
  have g2 := hgf 2 (by omega) (by omega)
  have b0 := hgb 0 (by omega) (by omega)
  have b1 := hgb 1 (by omega) (by omega)
  have b2 := hgb 2 (by omega) (by omega)
  have hcv : gf (4 + ρ (383 + 50 * fi)) * 256 + gf (4 + ρ (383 + 50 * fi) + 1) = ckv ρ fi := by
    have q1 : 383 + 50 * fi + 4 + (4 + ρ (383 + 50 * fi)) = ckp ρ fi := by unfold ckp; omega
    have q2 : 383 + 50 * fi + 4 + (4 + ρ (383 + 50 * fi) + 1) = ckp ρ fi + 1 := by unfold ckp; omega
    unfold ckv
    rw [hgf _ (by omega) (by omega), hgf _ (by omega) (by omega), Int.mul_comm, q1, q2]
  have hcr : crcN gf (4 + ρ (383 + 50 * fi)).toNat = crcF ρ fi := crcN_cg _ fun k a b => hgf k a (by omega)
  have hrb := crcF_b hF.F
  have hcb : 0 ≤ ckv ρ fi ∧ ckv ρ fi ≤ 65535 := by
    rw [← hcv]
    have x1 := hgb (4 + ρ (383 + 50 * fi)) (by omega) (by omega)
    have x2 := hgb (4 + ρ (383 + 50 * fi) + 1) (by omega) (by omega)
    omega
  have hCV := f_checkValue l M f _ _ _ _ f0 gf f1 (by omega)
  rw [hcv] at hCV
  have hCR := f_rightCheck l M f _ _ _ _ f0 gf f1 (by omega) (fun k a b => hgb k a (by omega))
  rw [hcr] at hCR
  have hpost0 : rvn ρ fi = (if ρ (383 + 50 * fi + 1) = 1 then 0 else rrn ρ fi) := rfl
  have hpost1 : rv1 ρ fi = (if ρ (383 + 50 * fi + 1) = 1 then ρ else rrc ρ fi) := rfl
  have hFb := hF.b
  clear hcv hcr f2
  refine CP.of (L0 := [some _, some _, none, none]) (by decide +kernel) rfl rfl (Nat.le_of_ble_eq_true rfl) rfl (fun G A Q sz hQ => ?_)
  refine V_aload_n dX5_take_0 rfl ?_
  refine V_getf fX5_68 dX5_take_1 f0 rfl ?_
  refine I_if_eq (tgt := 9) dX5_take_4 (by decide) ⟨by have := hF.2.1; omega, by have := hF.2.1; omega⟩ (fun h4 => ?_) (fun h4 => ?_)
  · refine V_aload_n dX5_take_9 rfl ?_
    refine V_getf fX5_74 dX5_take_10 f0 rfl ?_
    refine V_iconst (v := iI (1)) dX5_take_13 rfl ?_
    refine I_iald dX5_take_14 f1 ⟨by omega, by omega⟩ (by decide) ?_
    refine V_istore_n (L' := [some _, some _, some _, none]) dX5_take_15 rfl (by decide) rfl ?_
    obtain ⟨bo, hbo, ebo⟩ := ex_if (p := gf 1 < 0 ∨ 3 < gf 1)
    refine V_tern (J := 36) (v := .int (iI (if (0 ≤ gf 1 ∧ gf 1 ≤ 3) ∨ gf 1 = 7 then 1 else 0))) (fun sz => ?_) (fun j36 => ?_)
    · refine V_istore_n (L' := [some _, some _, some _, some _]) dX5_take_36 rfl (by decide) rfl ?_
      obtain ⟨bk, hbk, ebk⟩ := ex_if (p := (0 ≤ gf 1 ∧ gf 1 ≤ 3) ∨ gf 1 = 7)
      rw [ebk]
      refine V_iload_n dX5_take_37 rfl ?_
      refine I_if_eq (tgt := 52) dX5_take_38 (by decide) ⟨by omega, by omega⟩ (fun h38 => ?_) (fun h38 => ?_)
      · refine V_aload_n dX5_take_52 rfl ?_
        refine V_getf fX5_15 dX5_take_53 h0 rfl ?_
        refine V_iconst (v := iI (1)) dX5_take_56 rfl ?_
        refine V_dup2 dX5_take_57 rfl rfl ?_
        refine I_iald dX5_take_58 c11 ⟨by omega, by omega⟩ (by decide) ?_
        refine V_iconst (v := iI (1)) dX5_take_59 rfl ?_
        refine I_iadd dX5_take_60 ?_
        refine I_iast dX5_take_61 c11 ⟨by omega, by omega⟩ (by decide) ?_
        refine V_iconst (v := iI (0)) dX5_take_62 rfl ?_
        exact V_ireti dX5_take_63 rfl (Nat.le_of_ble_eq_true rfl) (Nat.le_of_ble_eq_true rfl) (hQ _ _ _ ⟨iv (by rw [hpost0, if_neg (by omega)]; unfold rrn; rw [if_pos (by unfold rbad; omega)]), by rw [hpost1, if_neg (by omega)]; unfold rrc; rw [if_pos (by unfold rbad; omega)]; exact hbad, FR.rf.mu (by omega)⟩)
      · refine V_aload_n dX5_take_41 rfl ?_
        refine V_cV (vs := []) hCV mX5_81 coX2_checkValue dX5_take_42 f0 rfl rfl rfl (by decide) (Nat.le_of_ble_eq_true rfl) (Nat.le_of_ble_eq_true rfl) (Nat.le_of_ble_eq_true rfl) (fun sz => ?_)
        refine V_aload_n dX5_take_45 rfl ?_
        refine V_cV (vs := []) hCR mX5_85 coX2_rightCheck dX5_take_46 f0 rfl rfl rfl (by decide) (Nat.le_of_ble_eq_true rfl) (Nat.le_of_ble_eq_true rfl) (Nat.le_of_ble_eq_true rfl) (fun sz => ?_)
        refine I_icmp_eq (tgt := 64) dX5_take_49 (by decide) ⟨by omega, by omega⟩ ⟨by omega, by omega⟩ (fun h49 => ?_) (fun h49 => ?_)
        · refine V_aload_n dX5_take_64 rfl ?_
          refine V_aload_n dX5_take_65 rfl ?_
          refine V_getf fX5_74 dX5_take_66 f0 rfl ?_
          refine V_iconst (v := iI (0)) dX5_take_69 rfl ?_
          refine I_iald dX5_take_70 f1 ⟨by omega, by omega⟩ (by decide) ?_
          refine V_cVE0 (vs := [_]) (c5_countMaster l M R ρ hR.1 ⟨⟨by have := hC.1; omega, by have := hC.1; omega⟩, hC.1.2⟩ (gf 0)) mX5_88 coX5_countMaster dX5_take_71 h0 rfl rfl rfl (by decide) (Nat.le_of_ble_eq_true rfl) (Nat.le_of_ble_eq_true rfl) (Nat.le_of_ble_eq_true rfl) (fun N1 sz hp => ?_)
          obtain ⟨hA1, hF1m⟩ := hp
          rw [g0] at hA1
          have hR1 := hR.ra hI hA1 hF1m
          have hI1 := hI.cm (m := ρ (383 + 50 * fi + 4)) (by rw [← g0]; exact b0)
          obtain ⟨cn5, c51, hidle⟩ := hR1.cn hI1 5 (by omega)
          obtain ⟨lm2, cn2, ap2, am2, ab2, al2, q0, -⟩ := id hR1.1
          obtain ⟨gb1, gg1, t1, t1z⟩ := id hR1.2.2.2
          refine V_iload_n dX5_take_74 rfl ?_
          refine V_bipush (v := iI (7)) dX5_take_75 (by decide +kernel) ?_
          refine I_icmp_ne (tgt := 92) dX5_take_77 (by decide) ⟨by omega, by omega⟩ ⟨by omega, by omega⟩ (fun h77 => ?_) (fun h77 => ?_)
          · have j123 : ∀ (N : ME) (sz : Nat), (RR N R (rr3 (rcm ρ (ρ (383 + 50 * fi + 4))) (383 + 50 * fi) (ρ (383 + 50 * fi + 4 + 1)))) → (FR M N R 80) → V l G A (rmN 4) RX5 "take" cX5_take 4 (some .int) Q nX 0 0 N sz 123 [some (.ref R), some (.ref f), some (.int (iI (gf 1))), none] [] := by
              intro N  sz nR nF
              obtain ⟨lm3, cn3, ap3, am3, ab3, al3, u0, -⟩ := id nR.1
              obtain ⟨w1, w2, w3⟩ := rwa_i hfi hF hI hC (ρ (383 + 50 * fi + 4 + 1))
              have hTD := c5_takeData l N R (rr3 (rcm ρ (ρ (383 + 50 * fi + 4))) (383 + 50 * fi) (ρ (383 + 50 * fi + 4 + 1))) (ρ (383 + 50 * fi + 4 + 1)) (by omega) nR w1 (B + 1) w2 (by omega) (383 + 50 * fi) (by omega) (hFb.cg (by omega) w3) f (ρ (383 + 50 * fi + 1)) (ρ (383 + 50 * fi + 2)) (ρ (383 + 50 * fi + 3)) gf (by rw [w3 _ (by omega)]; exact (nF _ (by omega)).trans f0) ((nF _ (by omega)).trans f1) (fun k a b => by rw [w3 _ (by omega)] at b; rw [w3 _ (by omega)]; exact hgf k a b) hdj
              rw [rrg_e hfi hI.2.2.2.2 (by omega), ← g1] at hTD
              refine V_aload_n dX5_take_123 rfl ?_
              refine V_aload_n dX5_take_124 rfl ?_
              refine V_iload_n dX5_take_125 rfl ?_
              refine V_cVE (vs := [_, _]) hTD mX5_103 coX5_takeData dX5_take_126 u0 rfl rfl rfl (by decide) (Nat.le_of_ble_eq_true rfl) (Nat.le_of_ble_eq_true rfl) (Nat.le_of_ble_eq_true rfl) (fun N3 sz hp => ?_)
              obtain ⟨hR3, hF3⟩ := hp
              exact V_ireti dX5_take_129 rfl (Nat.le_of_ble_eq_true rfl) (Nat.le_of_ble_eq_true rfl) (hQ _ _ _ ⟨iv (by rw [hpost0, if_neg (by omega)]; unfold rrn; rw [if_neg (by unfold rbad; omega), if_neg (by omega), g1]), by rw [hpost1, if_neg (by omega)]; unfold rrc; rw [if_neg (by unfold rbad; omega), if_neg (by omega), ← g1]; exact hR3, nF.tr hF3⟩)
            refine V_iload_n dX5_take_92 rfl ?_
            refine I_if_ne (tgt := 123) dX5_take_93 (by decide) ⟨by omega, by omega⟩ (fun h93 => ?_) (fun h93 => ?_)
            · first
              | exact V_wk' (j123 _ _ (by unfold rr3; rw [if_neg (by rw [rcm_o (by omega)]; omega)]; exact hR1) (hF1m.up (by omega))) ⟨rfl, rfl, rfl, trivial⟩
              | exact V_wk' (j123 _ _ (by unfold rr3; rw [if_pos (by rw [rcm_o (by omega)]; omega), rcm_o (q := 383 + 50 * fi + 2) (by omega), rcm_o (q := 383 + 50 * fi + 3) (by omega)]; exact hR1.no hI1 hT2 hF2m) ((hF1m.up (by omega)).tr (hF2m.up (by omega)))) ⟨rfl, rfl, rfl, trivial⟩
            · refine V_aload_n dX5_take_96 rfl ?_
              refine V_getf fX5_74 dX5_take_97 ((hF1m _ (by omega)).trans f0) rfl ?_
              refine V_iconst (v := iI (2)) dX5_take_100 rfl ?_
              refine I_iald dX5_take_101 ((hF1m _ (by omega)).trans f1) ⟨by omega, by omega⟩ (by decide) ?_
              refine V_bipush (v := iI (8)) dX5_take_102 (by decide +kernel) ?_
              refine I_irem dX5_take_104 (by omega) (by omega) (by omega) (by omega) ?_
              refine I_if_ne (tgt := 123) dX5_take_105 (by decide) ⟨by omega, by omega⟩ (fun h105 => ?_) (fun h105 => ?_)
              · first
                | exact V_wk' (j123 _ _ (by unfold rr3; rw [if_neg (by rw [rcm_o (by omega)]; omega)]; exact hR1) (hF1m.up (by omega))) ⟨rfl, rfl, rfl, trivial⟩
                | exact V_wk' (j123 _ _ (by unfold rr3; rw [if_pos (by rw [rcm_o (by omega)]; omega), rcm_o (q := 383 + 50 * fi + 2) (by omega), rcm_o (q := 383 + 50 * fi + 3) (by omega)]; exact hR1.no hI1 hT2 hF2m) ((hF1m.up (by omega)).tr (hF2m.up (by omega)))) ⟨rfl, rfl, rfl, trivial⟩
              · refine V_aload_n dX5_take_108 rfl ?_
                refine V_getf fX5_47 dX5_take_109 q0 rfl ?_
                refine V_aload_n dX5_take_112 rfl ?_
                refine V_getf fX5_92 dX5_take_113 ((hF1m _ (by omega)).trans f0) rfl ?_
                refine V_aload_n dX5_take_116 rfl ?_
                refine V_getf fX5_96 dX5_take_117 ((hF1m _ (by omega)).trans f0) rfl ?_
                refine V_cVE0 (vs := [_, _]) (t_note l N1 (R + 69) _ hR1.2.2.2 hI1.2.2.2.2 (ρ (383 + 50 * fi + 2)) (ρ (383 + 50 * fi + 3))) mX5_99 coX8_note dX5_take_120 t1 rfl rfl rfl (by decide) (Nat.le_of_ble_eq_true rfl) (Nat.le_of_ble_eq_true rfl) (Nat.le_of_ble_eq_true rfl) (fun N2 sz hp => ?_)
                obtain ⟨hT2, hF2m⟩ := hp
                first
                | exact V_wk' (j123 _ _ (by unfold rr3; rw [if_neg (by rw [rcm_o (by omega)]; omega)]; exact hR1) (hF1m.up (by omega))) ⟨rfl, rfl, rfl, trivial⟩
                | exact V_wk' (j123 _ _ (by unfold rr3; rw [if_pos (by rw [rcm_o (by omega)]; omega), rcm_o (q := 383 + 50 * fi + 2) (by omega), rcm_o (q := 383 + 50 * fi + 3) (by omega)]; exact hR1.no hI1 hT2 hF2m) ((hF1m.up (by omega)).tr (hF2m.up (by omega)))) ⟨rfl, rfl, rfl, trivial⟩
          · refine V_aload_n dX5_take_80 rfl ?_
            refine V_getf fX5_15 dX5_take_81 q0 rfl ?_
            refine V_iconst (v := iI (5)) dX5_take_84 rfl ?_
            refine V_dup2 dX5_take_85 rfl rfl ?_
            refine I_iald dX5_take_86 c51 ⟨by omega, by omega⟩ (by decide) ?_
            refine V_iconst (v := iI (1)) dX5_take_87 rfl ?_
            refine I_iadd dX5_take_88 ?_
            refine I_iast dX5_take_89 c51 ⟨by omega, by omega⟩ (by decide) ?_
            refine V_iconst (v := iI (0)) dX5_take_90 rfl ?_
            exact V_ireti dX5_take_91 rfl (Nat.le_of_ble_eq_true rfl) (Nat.le_of_ble_eq_true rfl) (hQ _ _ _ ⟨iv (by rw [hpost0, if_neg (by omega)]; unfold rrn; rw [if_neg (by unfold rbad; omega), if_pos (by omega)]), by rw [hpost1, if_neg (by omega)]; unfold rrc; rw [if_neg (by unfold rbad; omega), if_pos (by omega)]; exact RR.idl hI1 hidle, (hF1m.up (by omega)).mu (by omega)⟩)
        · refine V_aload_n dX5_take_52 rfl ?_
          refine V_getf fX5_15 dX5_take_53 h0 rfl ?_
          refine V_iconst (v := iI (1)) dX5_take_56 rfl ?_
          refine V_dup2 dX5_take_57 rfl rfl ?_
          refine I_iald dX5_take_58 c11 ⟨by omega, by omega⟩ (by decide) ?_
          refine V_iconst (v := iI (1)) dX5_take_59 rfl ?_
          refine I_iadd dX5_take_60 ?_
          refine I_iast dX5_take_61 c11 ⟨by omega, by omega⟩ (by decide) ?_
          refine V_iconst (v := iI (0)) dX5_take_62 rfl ?_
          exact V_ireti dX5_take_63 rfl (Nat.le_of_ble_eq_true rfl) (Nat.le_of_ble_eq_true rfl) (hQ _ _ _ ⟨iv (by rw [hpost0, if_neg (by omega)]; unfold rrn; rw [if_pos (by unfold rbad; omega)]), by rw [hpost1, if_neg (by omega)]; unfold rrc; rw [if_pos (by unfold rbad; omega)]; exact hbad, FR.rf.mu (by omega)⟩)
    · refine V_iload_n dX5_take_16 rfl ?_
      refine V_iconst (v := iI (0)) dX5_take_17 rfl ?_
      refine V_iconst (v := iI (3)) dX5_take_18 rfl ?_
      refine V_cN (vs := [_, _, _]) (x_outside l _ (gf 1) 0 3 ⟨by unfold r32; omega, by unfold r32; omega, by unfold r32; omega⟩) mX5_77 coX10_outside dX5_take_19 rfl rfl (by decide) (Nat.le_of_ble_eq_true rfl) (Nat.le_of_ble_eq_true rfl) (Nat.le_of_ble_eq_true rfl) (fun sz => ?_)
      rw [ebo]
      refine I_if_eq (tgt := 31) dX5_take_22 (by decide) ⟨by omega, by omega⟩ (fun h22 => ?_) (fun h22 => ?_)
      · refine V_iconst (v := iI (1)) dX5_take_31 rfl ?_
        refine V_goto (tgt := 36) dX5_take_32 (by decide) ?_
        exact V_top (vi (by first | rw [if_pos (by omega)] | rw [if_neg (by omega)])) (j36 _)
      · refine V_iload_n dX5_take_25 rfl ?_
        refine V_bipush (v := iI (7)) dX5_take_26 (by decide +kernel) ?_
        refine I_icmp_ne (tgt := 35) dX5_take_28 (by decide) ⟨by omega, by omega⟩ ⟨by omega, by omega⟩ (fun h28 => ?_) (fun h28 => ?_)
        · refine V_iconst (v := iI (0)) dX5_take_35 rfl ?_
          exact V_top (vi (by first | rw [if_pos (by omega)] | rw [if_neg (by omega)])) (j36 _)
        · refine V_iconst (v := iI (1)) dX5_take_31 rfl ?_
          refine V_goto (tgt := 36) dX5_take_32 (by decide) ?_
          exact V_top (vi (by first | rw [if_pos (by omega)] | rw [if_neg (by omega)])) (j36 _)
  · refine V_iconst (v := iI (0)) dX5_take_7 rfl ?_
    exact V_ireti dX5_take_8 rfl (Nat.le_of_ble_eq_true rfl) (Nat.le_of_ble_eq_true rfl) (hQ _ _ _ ⟨iv (by rw [hpost0, if_pos (by have := hF.2.1; omega)]), by rw [hpost1, if_pos (by have := hF.2.1; omega)]; exact hR, FR.rf⟩)
