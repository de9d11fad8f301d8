/-- what the receiver's part of the row is -/
def RI (ρ : Int → Int) : Prop := (-1 ≤ ρ 3389 ∧ ρ 3389 ≤ 255) ∧ (∀ c, 0 ≤ c → c ≤ 4 → -1 ≤ ρ (3390 + c) ∧ ρ (3390 + c) ≤ 255) ∧ (∀ c, 0 ≤ c → c ≤ 3 → Pi ρ c ∧ 0 ≤ ρ (3403 + c) ∧ ρ (3403 + c) ≤ 1) ∧ Ai ρ ∧ Tp ρ
theorem Pi.cg {ρ ρ' : Int → Int} {c : Int} (h : Pi ρ c) (hc : 0 ≤ c ∧ c ≤ 3) (h1 : ρ' (3407 + c) = ρ (3407 + c)) (h2 : ∀ q, 3411 + 258 * c ≤ q → q < 3411 + 258 * c + 258 → ρ' q = ρ q) : Pi ρ' c := by
  have := h.1
  refine ⟨by rw [h1]; exact h.1, fun k h0 hk => ?_, by rw [h1, h2 _ (by omega) (by omega)]; exact h.2.2⟩
  rw [h1] at hk
  rw [h2 _ (by omega) (by omega)]
  exact h.2.1 k h0 hk
theorem Tp.cg {ρ ρ' : Int → Int} (h : Tp ρ) (h1 : ∀ q, 12304 ≤ q → q ≤ 12308 → ρ' q = ρ q) : Tp ρ' := ⟨by rw [h1 _ (by omega) (by omega)]; exact h.1, fun k h0 hk => by rw [h1 _ (by omega) (by omega)]; exact h.2 k h0 hk⟩
theorem rnp_o {ρ : Int → Int} {q : Int} (h : q < 12304) : rnp ρ q = ρ q := by
  unfold rnp
  split
  · rw [up_n (by omega), up_n (by omega), up_n (by omega)]
  · rfl
theorem rnp_i {ρ : Int → Int} (h : Tp ρ) : (0 ≤ rnp ρ 12304 ∧ rnp ρ 12304 ≤ 1) ∧ ∀ k, 12305 ≤ k → k ≤ 12308 → -200000000 ≤ rnp ρ k ∧ rnp ρ k ≤ 200000000 := by
  obtain ⟨h0, h1⟩ := h
  unfold rnp
  split
  · refine ⟨by rw [up_s]; omega, fun k a b => ?_⟩
    rw [up_n (by omega)]
    by_cases e : k = 12306
    · subst e; rw [up_s]; exact h1 _ (by omega) (by omega)
    · rw [up_n e]
      by_cases e : k = 12305
      · subst e; rw [up_s]; exact h1 _ (by omega) (by omega)
      · rw [up_n e]; exact h1 k a b
  · exact ⟨by omega, h1⟩
theorem rno_o {ρ : Int → Int} {x g q : Int} (hT : Tp ρ) (h : q < 12304) : rno ρ x g q = ρ q := by
  have := (rnp_i hT).1
  unfold rno
  rw [up_n (by omega), up_n (by omega), up_n (by omega), rnp_o h]
theorem rno_T {ρ : Int → Int} {x g : Int} (hT : Tp ρ) (hx : -200000000 ≤ x ∧ x ≤ 200000000) (hg : -200000000 ≤ g ∧ g ≤ 200000000) : Tp (rno ρ x g) := by
  obtain ⟨hp, hr⟩ := rnp_i hT
  unfold rno
  refine ⟨by rw [up_s]; omega, fun k a b => ?_⟩
  rw [up_n (by omega)]
  by_cases e : k = 12305 + 2 * rnp ρ 12304 + 1
  · rw [e, up_s]; exact hg
  · rw [up_n e]
    by_cases e : k = 12305 + 2 * rnp ρ 12304
    · rw [e, up_s]; exact hx
    · rw [up_n e]; exact hr k a b
/-- reception of a frame: behind the gap; behind the time pair -/
def rr2 (ρ : Int → Int) (g ch : Int) : Int → Int := if 0 < g then up (up (rcn ρ 3 (if 0 < ρ (3407 + ch) then 1 else 0)) (3407 + ch) 0) (3403 + ch) 0 else ρ
def rr3 (ρ : Int → Int) (fr ch : Int) : Int → Int := if ch = 0 ∧ ρ (fr + 4 + 2) % 8 = 0 then rno ρ (ρ (fr + 2)) (ρ (fr + 3)) else ρ
abbrev rbad (ρ : Int → Int) (f : Int) : Prop := ¬ ckv ρ f = crcF ρ f ∨ ¬ ((0 ≤ ρ (383 + 50 * f + 4 + 1) ∧ ρ (383 + 50 * f + 4 + 1) ≤ 3) ∨ ρ (383 + 50 * f + 4 + 1) = 7)
def rrg (ρ : Int → Int) (f : Int) : Int → Int := rr3 (rr2 (rgp ρ (383 + 50 * f) (ρ (383 + 50 * f + 4 + 1))) (rgv ρ (383 + 50 * f) (ρ (383 + 50 * f + 4 + 1))) (ρ (383 + 50 * f + 4 + 1))) (383 + 50 * f) (ρ (383 + 50 * f + 4 + 1))
def rrc (ρ : Int → Int) (f : Int) : Int → Int := if rbad ρ f then rcn ρ 1 1 else if ρ (383 + 50 * f + 4 + 1) = 7 then rcn (rgp ρ (383 + 50 * f) 4) 5 1 else rtd (rrg ρ f) (383 + 50 * f) (ρ (383 + 50 * f + 4 + 1))
def rrn (ρ : Int → Int) (f : Int) : Int := if rbad ρ f then 0 else if ρ (383 + 50 * f + 4 + 1) = 7 then 0 else rtn (rrg ρ f) (383 + 50 * f) (ρ (383 + 50 * f + 4 + 1))
theorem rr2_o {ρ : Int → Int} {g ch q : Int} (h : q ≠ 3386 ∧ q ≠ 3407 + ch ∧ q ≠ 3403 + ch) : rr2 ρ g ch q = ρ q := by
  unfold rr2
  split
  · rw [up_n h.2.2, up_n h.2.1, rcn_o (by omega)]
  · rfl
theorem rr3_o {ρ : Int → Int} {fr ch q : Int} (hT : Tp ρ) (h : q < 12304) : rr3 ρ fr ch q = ρ q := by
  unfold rr3
  split
  · exact rno_o hT h
  · rfl
theorem Fw.b {ρ : Int → Int} {f : Int} (h : Fw ρ f) : Fb ρ (383 + 50 * f) := ⟨h.1, h.2.2.2.2⟩
theorem RI.gp {ρ : Int → Int} {fr p : Int} (h : RI ρ) (hfr : 383 ≤ fr ∧ fr ≤ 3333) (hp : 0 ≤ p ∧ p ≤ 4) (hF : Fb ρ fr) : RI (rgp ρ fr p) := by
  obtain ⟨h1, h2, h3, h4, h5⟩ := h
  have hb0 := hF.2 0 (by omega) (by have := hF.1; omega)
  rw [show fr + 4 + 0 = fr + 4 by omega] at hb0
  have hb2 := hF.2 2 (by omega) (by have := hF.1; omega)
  have e1 : rgp ρ fr p 3389 = ρ (fr + 4) := by
    unfold rgp
    split
    · rw [up_n (by omega), up_n (by omega)]; unfold rg1; rw [up_n (by omega), up_s]
    · unfold rg1; rw [up_n (by omega), up_s]
  have e2 : rgp ρ fr p (3390 + p) = ρ (fr + 4 + 2) := by
    unfold rgp
    split
    · rw [up_n (by omega), up_n (by omega)]; unfold rg1; rw [up_s]
    · unfold rg1; rw [up_s]
  refine ⟨by rw [e1]; omega, fun c a b => ?_, fun c a b => ?_, h4.cg fun q a b => rgp_o (by omega), h5.cg fun q a b => rgp_o (by omega)⟩
  · by_cases e : c = p
    · subst e; rw [e2]; omega
    · by_cases e' : p = 4
      · rw [rgp_o (by omega)]; exact h2 c a b
      · have : rgp ρ fr p (3390 + c) = ρ (3390 + c) := by
          unfold rgp
          rw [if_pos (by omega), up_n (by omega)]
          by_cases e3 : 3390 + c = 3395 + p
          · omega
          · rw [up_n e3, rg1_o (by omega)]
        rw [this]; exact h2 c a b
  · have q1 := h3 c a b
    refine ⟨q1.1.cg ⟨a, b⟩ (rgp_o (by omega)) (fun q _ _ => rgp_o (by omega)), ?_⟩
    rw [rgp_o (by omega)]; exact q1.2

theorem RI.cn {ρ : Int → Int} {w m : Int} (h : RI ρ) (hw : 0 ≤ w ∧ w ≤ 5) : RI (rcn ρ w m) := by
  obtain ⟨h1, h2, h3, h4, h5⟩ := h
  exact ⟨by rw [rcn_o (by omega)]; exact h1, fun c a b => by rw [rcn_o (by omega)]; exact h2 c a b, fun c a b => ⟨(h3 c a b).1.cg ⟨a, b⟩ (rcn_o (by omega)) (fun q _ _ => rcn_o (by omega)), by rw [rcn_o (by omega)]; exact (h3 c a b).2⟩, h4.cg fun q a b => rcn_o (by omega), h5.cg fun q a b => rcn_o (by omega)⟩
theorem RI.r2 {ρ : Int → Int} {g ch : Int} (h : RI ρ) (hc : 0 ≤ ch ∧ ch ≤ 3) : RI (rr2 ρ g ch) := by
  have hh := h
  obtain ⟨h1, h2, h3, h4, h5⟩ := h
  by_cases hg : 0 < g
  · have e0 : rr2 ρ g ch (3407 + ch) = 0 := by unfold rr2; rw [if_pos hg, up_n (by omega), up_s]
    have e1 : rr2 ρ g ch (3403 + ch) = 0 := by unfold rr2; rw [if_pos hg, up_s]
    refine ⟨by rw [rr2_o (by omega)]; exact h1, fun c a b => by rw [rr2_o (by omega)]; exact h2 c a b, fun c a b => ?_, h4.cg fun q a b => rr2_o (by omega), h5.cg fun q a b => rr2_o (by omega)⟩
    by_cases e : c = ch
    · subst e
      exact ⟨⟨by omega, fun k _ _ => by omega, by omega⟩, by omega⟩
    · exact ⟨(h3 c a b).1.cg ⟨a, b⟩ (rr2_o (by omega)) (fun q _ _ => rr2_o (by omega)), by rw [rr2_o (by omega)]; exact (h3 c a b).2⟩
  · have : rr2 ρ g ch = ρ := by unfold rr2; rw [if_neg hg]
    rw [this]; exact hh
theorem RI.r3 {ρ : Int → Int} {fr ch : Int} (h : RI ρ) (hx : -200000000 ≤ ρ (fr + 2) ∧ ρ (fr + 2) ≤ 200000000) (hg : -200000000 ≤ ρ (fr + 3) ∧ ρ (fr + 3) ≤ 200000000) : RI (rr3 ρ fr ch) := by
  have hh := h
  obtain ⟨h1, h2, h3, h4, h5⟩ := h
  by_cases hk : ch = 0 ∧ ρ (fr + 4 + 2) % 8 = 0
  · have e : rr3 ρ fr ch = rno ρ (ρ (fr + 2)) (ρ (fr + 3)) := by unfold rr3; rw [if_pos hk]
    rw [e]
    exact ⟨by rw [rno_o h5 (by omega)]; exact h1, fun c a b => by rw [rno_o h5 (by omega)]; exact h2 c a b, fun c a b => ⟨(h3 c a b).1.cg ⟨a, b⟩ (rno_o h5 (by omega)) (fun q _ _ => rno_o h5 (by omega)), by rw [rno_o h5 (by omega)]; exact (h3 c a b).2⟩, h4.cg fun q a b => rno_o h5 (by omega), rno_T h5 hx hg⟩
  · have : rr3 ρ fr ch = ρ := by unfold rr3; rw [if_neg hk]
    rw [this]; exact hh
theorem rtd_i {ρ : Int → Int} {fr ch : Int} (hc : 0 ≤ ch ∧ ch ≤ 3) (hfr : 383 ≤ fr ∧ fr ≤ 3333) (hF : Fb ρ fr) (h : RI ρ) : RI (rtd ρ fr ch) ∧ ∀ q, q < 3383 → rtd ρ fr ch q = ρ q := by
  obtain ⟨h1, h2, h3, h4, h5⟩ := h
  obtain ⟨f1, f2, f3⟩ := rtp_i hc hfr hF (h3 ch hc.1 hc.2).1 h4
  have hb := rtb_b (c := ch) hF
  have e0 : rtp ρ fr ch fr = ρ fr := rtp_o (by omega)
  obtain ⟨i1, i2, i3⟩ := rtN_i hc hfr f1 hb.1 f2 f3 (ρ fr - rtb ρ fr ch).toNat (by omega)
  have hs : 0 ≤ rtp ρ fr ch (3403 + ch) ∧ rtp ρ fr ch (3403 + ch) ≤ 1 := by
    unfold rtp
    split
    · rw [up_s]; split <;> omega
    · exact (h3 ch hc.1 hc.2).2
  unfold rtd
  refine ⟨⟨?_, fun c a b => ?_, fun c a b => ?_, i2, h5.cg fun q a b => ?_⟩, fun q hq => ?_⟩
  · rw [i3 _ (by omega) (by omega) (by omega), rtp_o (by omega)]; exact h1
  · rw [i3 _ (by omega) (by omega) (by omega), rtp_o (by omega)]; exact h2 c a b
  · by_cases e : c = ch
    · subst e
      exact ⟨i1, by rw [i3 _ (by omega) (by omega) (by omega)]; exact hs⟩
    · refine ⟨(h3 c a b).1.cg ⟨a, b⟩ (by rw [i3 _ (by omega) (by omega) (by omega), rtp_o (by omega)]) (fun q _ _ => by rw [i3 _ (by omega) (by omega) (by omega), rtp_o (by omega)]), ?_⟩
      rw [i3 _ (by omega) (by omega) (by omega), rtp_o (by omega)]; exact (h3 c a b).2
  · rw [i3 _ (by omega) (by omega) (by omega), rtp_o (by omega)]
  · rw [i3 _ (by omega) (by omega) (by omega), rtp_o (by omega)]
theorem Fb.cg {ρ ρ' : Int → Int} {fr : Int} (h : Fb ρ fr) (hfr : 383 ≤ fr ∧ fr ≤ 3333) (hq : ∀ q, q < 3383 → ρ' q = ρ q) : Fb ρ' fr := by
  have := h.1
  refine ⟨by rw [hq _ (by omega)]; exact h.1, fun k a b => ?_⟩
  rw [hq _ (by omega)] at b
  rw [hq _ (by omega)]; exact h.2 k a b
theorem rrg_i {ρ : Int → Int} {f : Int} (hf : 0 ≤ f ∧ f ≤ 59) (hF : Fw ρ f) (h : RI ρ) (hc : 0 ≤ ρ (383 + 50 * f + 4 + 1) ∧ ρ (383 + 50 * f + 4 + 1) ≤ 3) : RI (rrg ρ f) ∧ ∀ q, q < 3383 → rrg ρ f q = ρ q := by
  have g1 := h.gp (fr := 383 + 50 * f) (p := ρ (383 + 50 * f + 4 + 1)) (by omega) (by omega) hF.b
  have g2 := g1.r2 (g := rgv ρ (383 + 50 * f) (ρ (383 + 50 * f + 4 + 1))) hc
  have ho : ∀ q, q < 3383 → rr2 (rgp ρ (383 + 50 * f) (ρ (383 + 50 * f + 4 + 1))) (rgv ρ (383 + 50 * f) (ρ (383 + 50 * f + 4 + 1))) (ρ (383 + 50 * f + 4 + 1)) q = ρ q := fun q hq => by rw [rr2_o (by omega), rgp_o (by omega)]
  unfold rrg
  exact ⟨g2.r3 (by rw [ho _ (by omega)]; exact hF.2.2.1) (by rw [ho _ (by omega)]; exact hF.2.2.2.1), fun q hq => by rw [rr3_o g2.2.2.2.2 (by omega)]; exact ho q hq⟩
theorem rrc_i {ρ : Int → Int} {f : Int} (hf : 0 ≤ f ∧ f ≤ 59) (hF : Fw ρ f) (h : RI ρ) : RI (rrc ρ f) ∧ ∀ q, q < 3383 → rrc ρ f q = ρ q := by
  unfold rrc
  split
  · exact ⟨h.cn (by omega), fun q hq => rcn_o (by omega)⟩
  · split
    · exact ⟨(h.gp (by omega) (by omega) hF.b).cn (by omega), fun q hq => by rw [rcn_o (by omega), rgp_o (by omega)]⟩
    · have hc : 0 ≤ ρ (383 + 50 * f + 4 + 1) ∧ ρ (383 + 50 * f + 4 + 1) ≤ 3 := by omega
      obtain ⟨a, b⟩ := rrg_i hf hF h hc
      obtain ⟨a2, b2⟩ := rtd_i hc (by omega) (hF.b.cg (by omega) b) a
      exact ⟨a2, fun q hq => (b2 q hq).trans (b q hq)⟩

set_option maxRecDepth 100000 in
set_option maxHeartbeats 4000000 in
theorem r_receives (l : Launch) (M0 : ME) (r : Nat) (ρ π : Int → Int) (sv rf hs : Int) (f : Int) (hf : 0 ≤ f ∧ f ≤ 59) (hF : Fw ρ f) (hR : RI ρ) : CF l yX11_receives cX11_receives 5 (some .int) (rmN 5) [.ref r, .int (iI f)] (rM M0 r ρ π sv rf hs) (some (.int (iI (rrn ρ f)))) (rM M0 r (rrc ρ f) π sv rf hs) := by
  have hF1 := hF.1
  have hb0 := hF.2.2.2.2 0 (by omega) (by omega)
  rw [show 383 + 50 * f + 4 + 0 = 383 + 50 * f + 4 by omega] at hb0
  have hb1 := hF.2.2.2.2 1 (by omega) (by omega)
  have hb2 := hF.2.2.2.2 2 (by omega) (by omega)
  have hck := crcF_b hF.F
  have hcv : 0 ≤ ckv ρ f ∧ ckv ρ f < 65536 := by
    have c0 := hF.2.2.2.2 (4 + ρ (383 + 50 * f)) (by omega) (by omega)
    have c1 := hF.2.2.2.2 (4 + ρ (383 + 50 * f) + 1) (by omega) (by omega)
    rw [show 383 + 50 * f + 4 + (4 + ρ (383 + 50 * f)) = 383 + 50 * f + 4 + 4 + ρ (383 + 50 * f) by omega] at c0
    rw [show 383 + 50 * f + 4 + (4 + ρ (383 + 50 * f) + 1) = 383 + 50 * f + 4 + 4 + ρ (383 + 50 * f) + 1 by omega] at c1
    unfold ckv ckp
    omega
  refine CF.of (L0 := [some _, some _, none, none, none]) (by decide +kernel) rfl rfl (Nat.le_of_ble_eq_true rfl) rfl (fun G A Q sz hQ => ?_)
  refine V_aload_n dX11_receives_0 rfl ?_
  refine V_iload_n dX11_receives_1 rfl ?_
  refine V_cV (vs := [_]) (r_frameAt l _ _ _ _ _ _ _ f) mX11_100 coX11_frameAt dX11_receives_2 rM_0 rfl rfl rfl (by decide) (Nat.le_of_ble_eq_true rfl) (Nat.le_of_ble_eq_true rfl) (Nat.le_of_ble_eq_true rfl) (fun sz => ?_)
  refine V_istore_n (L' := [some _, some _, some _, none, none]) dX11_receives_5 rfl (by decide) rfl ?_
  refine V_aload_n dX11_receives_6 rfl ?_
  refine V_getf fX11_7 dX11_receives_7 rM_0 rfl ?_
  refine V_iload_n dX11_receives_10 rfl ?_
  refine V_iconst (v := iI (4)) dX11_receives_11 rfl ?_
  refine I_iadd dX11_receives_12 ?_
  refine V_iconst (v := iI (1)) dX11_receives_13 rfl ?_
  refine I_iadd dX11_receives_14 ?_
  refine R_iald dX11_receives_15 ⟨by omega, by omega⟩ ?_
  obtain ⟨ch, hch⟩ : ∃ ch, ch = ρ ((383 + 50 * f) + 4 + 1) := ⟨_, rfl⟩
  rw [← hch] at hb1 ⊢
  refine V_istore_n (L' := [some _, some _, some _, some _, none]) dX11_receives_16 rfl (by decide) rfl ?_
  refine V_aload_n dX11_receives_17 rfl ?_
  refine V_iload_n dX11_receives_18 rfl ?_
  refine V_cV (vs := [_]) (r_checkAt l _ _ ρ _ _ _ _ f hf (by omega)) mX11_141 coX11_checkAt dX11_receives_19 rM_0 rfl rfl rfl (by decide) (Nat.le_of_ble_eq_true rfl) (Nat.le_of_ble_eq_true rfl) (Nat.le_of_ble_eq_true rfl) (fun sz => ?_)
  refine V_aload_n dX11_receives_22 rfl ?_
  refine V_iload_n dX11_receives_23 rfl ?_
  refine V_cV (vs := [_]) (r_checked l _ _ ρ _ _ _ _ f hf hF.F) mX11_105 coX11_checked dX11_receives_24 rM_0 rfl rfl rfl (by decide) (Nat.le_of_ble_eq_true rfl) (Nat.le_of_ble_eq_true rfl) (Nat.le_of_ble_eq_true rfl) (fun sz => ?_)
  refine I_icmp_ne (tgt := 43) dX11_receives_27 (by decide) ⟨by omega, by omega⟩ ⟨by omega, by omega⟩ (fun h27 => ?_) (fun h27 => ?_)
  · refine V_aload_n dX11_receives_43 rfl ?_
    refine V_iconst (v := iI (1)) dX11_receives_44 rfl ?_
    refine V_iconst (v := iI (1)) dX11_receives_45 rfl ?_
    refine V_cV0 (vs := [_, _]) (r_counts l _ _ ρ _ _ _ _ 1 1 (by omega)) mX11_144 coX11_counts dX11_receives_46 rM_0 rfl rfl rfl (by decide) (Nat.le_of_ble_eq_true rfl) (Nat.le_of_ble_eq_true rfl) (Nat.le_of_ble_eq_true rfl) (fun sz => ?_)
    refine V_iconst (v := iI (0)) dX11_receives_49 rfl ?_
    exact V_ireti dX11_receives_50 rfl (Nat.le_of_ble_eq_true rfl) (Nat.le_of_ble_eq_true rfl) (hQ _ _ _ (iv (by unfold rrn rbad; rw [← hch]; exact (if_pos (by omega)).symm)) (by unfold rrc rbad; rw [← hch]; exact congrArg (fun x => rM M0 r x π sv rf hs) (if_pos (by omega)).symm))
  · refine V_iload_n dX11_receives_30 rfl ?_
    refine V_cS (vs := [_]) (r_isChannel l _ ch ⟨by omega, by omega⟩) mX11_52 coX11_isChannel dX11_receives_31 rfl rfl (by decide) (Nat.le_of_ble_eq_true rfl) (Nat.le_of_ble_eq_true rfl) (Nat.le_of_ble_eq_true rfl) (fun sz => ?_)
    obtain ⟨bc, hbc, ebc⟩ := ex_if (p := 0 ≤ ch ∧ ch ≤ 3)
    rw [ebc]
    refine I_if_ne (tgt := 51) dX11_receives_34 (by decide) ⟨by omega, by omega⟩ (fun h34 => ?_) (fun h34 => ?_)
    · refine V_aload_n dX11_receives_51 rfl ?_
      refine V_iload_n dX11_receives_52 rfl ?_
      refine V_tern (J := 64) (v := .int (iI (if ch = 7 then 4 else ch))) (fun sz => ?_) (fun j64 => ?_)
      · obtain ⟨pl, hpl, hpl2⟩ : ∃ pl, pl = (if ch = 7 then 4 else ch) ∧ ((ch = 7 ∧ pl = 4) ∨ (¬ ch = 7 ∧ pl = ch)) := by
          refine ⟨_, rfl, ?_⟩
          by_cases h : ch = 7
          · rw [if_pos h]; omega
          · rw [if_neg h]; omega
        rw [← hpl]
        refine V_cV (vs := [_, _]) (r_gapOf l _ _ ρ _ _ _ _ (383 + 50 * f) (by omega) pl (by omega) hb0 hb2 hR.1 (hR.2.1 pl (by omega) (by omega))) mX11_154 coX11_gapOf dX11_receives_64 rM_0 rfl rfl rfl (by decide) (Nat.le_of_ble_eq_true rfl) (Nat.le_of_ble_eq_true rfl) (Nat.le_of_ble_eq_true rfl) (fun sz => ?_)
        obtain ⟨g, hg⟩ : ∃ g, g = rgv ρ (383 + 50 * f) pl := ⟨_, rfl⟩
        have hgb : 0 ≤ g ∧ g ≤ 255 := by rw [hg]; unfold rgv; split <;> omega
        rw [← hg]
        have hσR := hR.gp (fr := 383 + 50 * f) (p := pl) (by omega) (by omega) hF.b
        have hσo : ∀ q, q < 3383 → rgp ρ (383 + 50 * f) pl q = ρ q := fun q h => rgp_o (by omega)
        obtain ⟨σ, hσ⟩ : ∃ σ, σ = rgp ρ (383 + 50 * f) pl := ⟨_, rfl⟩
        rw [← hσ] at hσR hσo ⊢
        refine V_istore (L' := [some _, some _, some _, some _, some _]) dX11_receives_67 (by decide) rfl ?_
        refine V_iload_n dX11_receives_69 rfl ?_
        refine V_bipush (v := iI (7)) dX11_receives_70 (by decide +kernel) ?_
        refine I_icmp_ne (tgt := 83) dX11_receives_72 (by decide) ⟨by omega, by omega⟩ ⟨by omega, by omega⟩ (fun h72 => ?_) (fun h72 => ?_)
        · have hpc := (hσR.2.2.1 ch (by omega) (by omega)).1.1
          refine V_join (J := 133) (M' := (rM M0 r (rr2 σ g ch) π sv rf hs)) (L' := [some (.ref r), some (.int (iI f)), some (.int (iI (383 + 50 * f))), some (.int (iI ch)), some (.int (iI g))]) (fun sz => ?_) (fun j133 => ?_)
          · have hτR := hσR.r2 (g := g) (ch := ch) (by omega)
            have hτo : ∀ q, q < 3383 → rr2 σ g ch q = ρ q := fun q h => by rw [rr2_o (by omega), hσo q h]
            obtain ⟨τ, hτ⟩ : ∃ τ, τ = rr2 σ g ch := ⟨_, rfl⟩
            rw [← hτ] at hτR hτo ⊢
            have hτ2 := hτo (383 + 50 * f + 4 + 2) (by omega)
            have hτx := hτo (383 + 50 * f + 2) (by omega)
            have hτg := hτo (383 + 50 * f + 3) (by omega)
            refine V_join (J := 173) (M' := (rM M0 r (rr3 τ (383 + 50 * f) ch) π sv rf hs)) (L' := [some (.ref r), some (.int (iI f)), some (.int (iI (383 + 50 * f))), some (.int (iI ch)), some (.int (iI g))]) (fun sz => ?_) (fun j173 => ?_)
            · have hωR := hτR.r3 (fr := 383 + 50 * f) (ch := ch) (by rw [hτx]; exact hF.2.2.1) (by rw [hτg]; exact hF.2.2.2.1)
              have hωo : ∀ q, q < 3383 → rr3 τ (383 + 50 * f) ch q = ρ q := fun q h => by rw [rr3_o hτR.2.2.2.2 (by omega), hτo q h]
              obtain ⟨ω, hω⟩ : ∃ ω, ω = rr3 τ (383 + 50 * f) ch := ⟨_, rfl⟩
              rw [← hω] at hωR hωo ⊢
              refine V_aload_n dX11_receives_173 rfl ?_
              refine V_iload_n dX11_receives_174 rfl ?_
              refine V_iload_n dX11_receives_175 rfl ?_
              refine V_cV (vs := [_, _]) (r_takesData l _ _ ω _ _ _ _ (383 + 50 * f) (by omega) ch (by omega) (hF.b.cg (by omega) hωo) (hωR.2.2.1 ch (by omega) (by omega)).1 hωR.2.2.2.1 (hωR.2.2.1 ch (by omega) (by omega)).2) mX11_160 coX11_takesData dX11_receives_176 rM_0 rfl rfl rfl (by decide) (Nat.le_of_ble_eq_true rfl) (Nat.le_of_ble_eq_true rfl) (Nat.le_of_ble_eq_true rfl) (fun sz => ?_)
              exact V_ireti dX11_receives_179 rfl (Nat.le_of_ble_eq_true rfl) (Nat.le_of_ble_eq_true rfl) (hQ _ _ _ (iv (by unfold rrn rbad; rw [← hch, if_neg (by omega), if_neg (by omega)]; unfold rrg; rw [← hch, show ch = pl by omega, ← hg, ← hσ, show pl = ch by omega, ← hτ, ← hω])) (by unfold rrc rbad; rw [← hch, if_neg (by omega), if_neg (by omega)]; unfold rrg; rw [← hch, show ch = pl by omega, ← hg, ← hσ, show pl = ch by omega, ← hτ, ← hω]))
            · refine V_iload_n dX11_receives_133 rfl ?_
              refine I_if_ne (tgt := 173) dX11_receives_134 (by decide) ⟨by omega, by omega⟩ (fun h134 => ?_) (fun h134 => ?_)
              · exact V_eqM (by unfold rr3; first | exact congrArg (fun x => rM M0 r x π sv rf hs) (if_neg (by omega)).symm | exact congrArg (fun x => rM M0 r x π sv rf hs) (if_pos (by omega)).symm) (V_wk' (j173 _) ⟨rfl, rfl, rfl, rfl, rfl, trivial⟩)
              · refine V_aload_n dX11_receives_137 rfl ?_
                refine V_getf fX11_7 dX11_receives_138 rM_0 rfl ?_
                refine V_iload_n dX11_receives_141 rfl ?_
                refine V_iconst (v := iI (4)) dX11_receives_142 rfl ?_
                refine I_iadd dX11_receives_143 ?_
                refine V_iconst (v := iI (2)) dX11_receives_144 rfl ?_
                refine I_iadd dX11_receives_145 ?_
                refine R_iald dX11_receives_146 ⟨by omega, by omega⟩ ?_
                refine V_bipush (v := iI (8)) dX11_receives_147 (by decide +kernel) ?_
                refine I_irem dX11_receives_149 (by omega) (by omega) (by omega) (by omega) ?_
                refine I_if_ne (tgt := 173) dX11_receives_150 (by decide) ⟨by omega, by omega⟩ (fun h150 => ?_) (fun h150 => ?_)
                · exact V_eqM (by unfold rr3; first | exact congrArg (fun x => rM M0 r x π sv rf hs) (if_neg (by omega)).symm | exact congrArg (fun x => rM M0 r x π sv rf hs) (if_pos (by omega)).symm) (V_wk' (j173 _) ⟨rfl, rfl, rfl, rfl, rfl, trivial⟩)
                · refine V_aload_n dX11_receives_153 rfl ?_
                  refine V_aload_n dX11_receives_154 rfl ?_
                  refine V_getf fX11_7 dX11_receives_155 rM_0 rfl ?_
                  refine V_iload_n dX11_receives_158 rfl ?_
                  refine V_iconst (v := iI (2)) dX11_receives_159 rfl ?_
                  refine I_iadd dX11_receives_160 ?_
                  refine R_iald dX11_receives_161 ⟨by omega, by omega⟩ ?_
                  refine V_aload_n dX11_receives_162 rfl ?_
                  refine V_getf fX11_7 dX11_receives_163 rM_0 rfl ?_
                  refine V_iload_n dX11_receives_166 rfl ?_
                  refine V_iconst (v := iI (3)) dX11_receives_167 rfl ?_
                  refine I_iadd dX11_receives_168 ?_
                  refine R_iald dX11_receives_169 ⟨by omega, by omega⟩ ?_
                  refine V_cV0 (vs := [_, _]) (r_notes l _ _ τ _ _ _ _ (τ (383 + 50 * f + 2)) (τ (383 + 50 * f + 3)) hτR.2.2.2.2.1) mX11_157 coX11_notes dX11_receives_170 rM_0 rfl rfl rfl (by decide) (Nat.le_of_ble_eq_true rfl) (Nat.le_of_ble_eq_true rfl) (Nat.le_of_ble_eq_true rfl) (fun sz => ?_)
                  exact V_eqM (by unfold rr3; first | exact congrArg (fun x => rM M0 r x π sv rf hs) (if_neg (by omega)).symm | exact congrArg (fun x => rM M0 r x π sv rf hs) (if_pos (by omega)).symm) (V_wk' (j173 _) ⟨rfl, rfl, rfl, rfl, rfl, trivial⟩)
          · refine V_iload dX11_receives_83 rfl ?_
            refine I_if_le (tgt := 133) dX11_receives_85 (by decide) ⟨by omega, by omega⟩ (fun h85 => ?_) (fun h85 => ?_)
            · exact V_eqM (by unfold rr2; first | exact congrArg (fun x => rM M0 r x π sv rf hs) (if_neg (by omega)).symm | exact congrArg (fun x => rM M0 r x π sv rf hs) (if_pos (by omega)).symm) (V_wk' (j133 _) ⟨rfl, rfl, rfl, rfl, rfl, trivial⟩)
            · refine V_aload_n dX11_receives_88 rfl ?_
              refine V_iconst (v := iI (3)) dX11_receives_89 rfl ?_
              refine V_tern (J := 108) (v := .int (iI (if 0 < σ (3407 + ch) then 1 else 0))) (fun sz => ?_) (fun j108 => ?_)
              · refine V_cV0 (vs := [_, _]) (r_counts l _ _ σ _ _ _ _ 3 (if 0 < σ (3407 + ch) then 1 else 0) (by omega)) mX11_144 coX11_counts dX11_receives_108 rM_0 rfl rfl rfl (by decide) (Nat.le_of_ble_eq_true rfl) (Nat.le_of_ble_eq_true rfl) (Nat.le_of_ble_eq_true rfl) (fun sz => ?_)
                refine V_aload_n dX11_receives_111 rfl ?_
                refine V_getf fX11_7 dX11_receives_112 rM_0 rfl ?_
                refine V_sipush (v := iI (3407)) dX11_receives_115 (by decide +kernel) ?_
                refine V_iload_n dX11_receives_118 rfl ?_
                refine I_iadd dX11_receives_119 ?_
                refine V_iconst (v := iI (0)) dX11_receives_120 rfl ?_
                refine R_iast dX11_receives_121 ⟨by omega, by omega⟩ ?_
                refine V_aload_n dX11_receives_122 rfl ?_
                refine V_getf fX11_7 dX11_receives_123 rM_0 rfl ?_
                refine V_sipush (v := iI (3403)) dX11_receives_126 (by decide +kernel) ?_
                refine V_iload_n dX11_receives_129 rfl ?_
                refine I_iadd dX11_receives_130 ?_
                refine V_iconst (v := iI (0)) dX11_receives_131 rfl ?_
                refine R_iast dX11_receives_132 ⟨by omega, by omega⟩ ?_
                exact V_eqM (by unfold rr2; first | exact congrArg (fun x => rM M0 r x π sv rf hs) (if_neg (by omega)).symm | exact congrArg (fun x => rM M0 r x π sv rf hs) (if_pos (by omega)).symm) (V_wk' (j133 _) ⟨rfl, rfl, rfl, rfl, rfl, trivial⟩)
              · refine V_aload_n dX11_receives_90 rfl ?_
                refine V_getf fX11_7 dX11_receives_91 rM_0 rfl ?_
                refine V_sipush (v := iI (3407)) dX11_receives_94 (by decide +kernel) ?_
                refine V_iload_n dX11_receives_97 rfl ?_
                refine I_iadd dX11_receives_98 ?_
                refine R_iald dX11_receives_99 ⟨by omega, by omega⟩ ?_
                refine I_if_le (tgt := 107) dX11_receives_100 (by decide) ⟨by omega, by omega⟩ (fun h100 => ?_) (fun h100 => ?_)
                · refine V_iconst (v := iI (0)) dX11_receives_107 rfl ?_
                  exact V_top (vi (by first | exact if1 (by omega) | exact if0 (by omega))) (j108 _)
                · refine V_iconst (v := iI (1)) dX11_receives_103 rfl ?_
                  refine V_goto (tgt := 108) dX11_receives_104 (by decide) ?_
                  exact V_top (vi (by first | exact if1 (by omega) | exact if0 (by omega))) (j108 _)
        · refine V_aload_n dX11_receives_75 rfl ?_
          refine V_iconst (v := iI (5)) dX11_receives_76 rfl ?_
          refine V_iconst (v := iI (1)) dX11_receives_77 rfl ?_
          refine V_cV0 (vs := [_, _]) (r_counts l _ _ σ _ _ _ _ 5 1 (by omega)) mX11_144 coX11_counts dX11_receives_78 rM_0 rfl rfl rfl (by decide) (Nat.le_of_ble_eq_true rfl) (Nat.le_of_ble_eq_true rfl) (Nat.le_of_ble_eq_true rfl) (fun sz => ?_)
          refine V_iconst (v := iI (0)) dX11_receives_81 rfl ?_
          exact V_ireti dX11_receives_82 rfl (Nat.le_of_ble_eq_true rfl) (Nat.le_of_ble_eq_true rfl) (hQ _ _ _ (iv (by unfold rrn rbad; rw [← hch, if_neg (by omega), if_pos (by omega)])) (by unfold rrc rbad; rw [← hch, if_neg (by omega), if_pos (by omega), hσ, show pl = 4 by omega]))
      · refine V_iload_n dX11_receives_53 rfl ?_
        refine V_bipush (v := iI (7)) dX11_receives_54 (by decide +kernel) ?_
        refine I_icmp_ne (tgt := 63) dX11_receives_56 (by decide) ⟨by omega, by omega⟩ ⟨by omega, by omega⟩ (fun h56 => ?_) (fun h56 => ?_)
        · refine V_iload_n dX11_receives_63 rfl ?_
          exact V_top (vi (by first | (exfalso; omega) | rw [if_pos (by omega)] | rw [if_neg (by omega)])) (j64 _)
        · refine V_iconst (v := iI (4)) dX11_receives_59 rfl ?_
          refine V_goto (tgt := 64) dX11_receives_60 (by decide) ?_
          exact V_top (vi (by first | (exfalso; omega) | rw [if_pos (by omega)] | rw [if_neg (by omega)])) (j64 _)
    · refine V_iload_n dX11_receives_37 rfl ?_
      refine V_bipush (v := iI (7)) dX11_receives_38 (by decide +kernel) ?_
      refine I_icmp_eq (tgt := 51) dX11_receives_40 (by decide) ⟨by omega, by omega⟩ ⟨by omega, by omega⟩ (fun h40 => ?_) (fun h40 => ?_)
      · refine V_aload_n dX11_receives_51 rfl ?_
        refine V_iload_n dX11_receives_52 rfl ?_
        refine V_tern (J := 64) (v := .int (iI (if ch = 7 then 4 else ch))) (fun sz => ?_) (fun j64 => ?_)
        · obtain ⟨pl, hpl, hpl2⟩ : ∃ pl, pl = (if ch = 7 then 4 else ch) ∧ ((ch = 7 ∧ pl = 4) ∨ (¬ ch = 7 ∧ pl = ch)) := by
            refine ⟨_, rfl, ?_⟩
            by_cases h : ch = 7
            · rw [if_pos h]; omega
            · rw [if_neg h]; omega
          rw [← hpl]
          refine V_cV (vs := [_, _]) (r_gapOf l _ _ ρ _ _ _ _ (383 + 50 * f) (by omega) pl (by omega) hb0 hb2 hR.1 (hR.2.1 pl (by omega) (by omega))) mX11_154 coX11_gapOf dX11_receives_64 rM_0 rfl rfl rfl (by decide) (Nat.le_of_ble_eq_true rfl) (Nat.le_of_ble_eq_true rfl) (Nat.le_of_ble_eq_true rfl) (fun sz => ?_)
          obtain ⟨g, hg⟩ : ∃ g, g = rgv ρ (383 + 50 * f) pl := ⟨_, rfl⟩
          have hgb : 0 ≤ g ∧ g ≤ 255 := by rw [hg]; unfold rgv; split <;> omega
          rw [← hg]
          have hσR := hR.gp (fr := 383 + 50 * f) (p := pl) (by omega) (by omega) hF.b
          have hσo : ∀ q, q < 3383 → rgp ρ (383 + 50 * f) pl q = ρ q := fun q h => rgp_o (by omega)
          obtain ⟨σ, hσ⟩ : ∃ σ, σ = rgp ρ (383 + 50 * f) pl := ⟨_, rfl⟩
          rw [← hσ] at hσR hσo ⊢
          refine V_istore (L' := [some _, some _, some _, some _, some _]) dX11_receives_67 (by decide) rfl ?_
          refine V_iload_n dX11_receives_69 rfl ?_
          refine V_bipush (v := iI (7)) dX11_receives_70 (by decide +kernel) ?_
          refine I_icmp_ne (tgt := 83) dX11_receives_72 (by decide) ⟨by omega, by omega⟩ ⟨by omega, by omega⟩ (fun h72 => ?_) (fun h72 => ?_)
          · have hpc := (hσR.2.2.1 ch (by omega) (by omega)).1.1
            refine V_join (J := 133) (M' := (rM M0 r (rr2 σ g ch) π sv rf hs)) (L' := [some (.ref r), some (.int (iI f)), some (.int (iI (383 + 50 * f))), some (.int (iI ch)), some (.int (iI g))]) (fun sz => ?_) (fun j133 => ?_)
            · have hτR := hσR.r2 (g := g) (ch := ch) (by omega)
              have hτo : ∀ q, q < 3383 → rr2 σ g ch q = ρ q := fun q h => by rw [rr2_o (by omega), hσo q h]
              obtain ⟨τ, hτ⟩ : ∃ τ, τ = rr2 σ g ch := ⟨_, rfl⟩
              rw [← hτ] at hτR hτo ⊢
              have hτ2 := hτo (383 + 50 * f + 4 + 2) (by omega)
              have hτx := hτo (383 + 50 * f + 2) (by omega)
              have hτg := hτo (383 + 50 * f + 3) (by omega)
              refine V_join (J := 173) (M' := (rM M0 r (rr3 τ (383 + 50 * f) ch) π sv rf hs)) (L' := [some (.ref r), some (.int (iI f)), some (.int (iI (383 + 50 * f))), some (.int (iI ch)), some (.int (iI g))]) (fun sz => ?_) (fun j173 => ?_)
              · have hωR := hτR.r3 (fr := 383 + 50 * f) (ch := ch) (by rw [hτx]; exact hF.2.2.1) (by rw [hτg]; exact hF.2.2.2.1)
                have hωo : ∀ q, q < 3383 → rr3 τ (383 + 50 * f) ch q = ρ q := fun q h => by rw [rr3_o hτR.2.2.2.2 (by omega), hτo q h]
                obtain ⟨ω, hω⟩ : ∃ ω, ω = rr3 τ (383 + 50 * f) ch := ⟨_, rfl⟩
                rw [← hω] at hωR hωo ⊢
                refine V_aload_n dX11_receives_173 rfl ?_
                refine V_iload_n dX11_receives_174 rfl ?_
                refine V_iload_n dX11_receives_175 rfl ?_
                refine V_cV (vs := [_, _]) (r_takesData l _ _ ω _ _ _ _ (383 + 50 * f) (by omega) ch (by omega) (hF.b.cg (by omega) hωo) (hωR.2.2.1 ch (by omega) (by omega)).1 hωR.2.2.2.1 (hωR.2.2.1 ch (by omega) (by omega)).2) mX11_160 coX11_takesData dX11_receives_176 rM_0 rfl rfl rfl (by decide) (Nat.le_of_ble_eq_true rfl) (Nat.le_of_ble_eq_true rfl) (Nat.le_of_ble_eq_true rfl) (fun sz => ?_)
                exact V_ireti dX11_receives_179 rfl (Nat.le_of_ble_eq_true rfl) (Nat.le_of_ble_eq_true rfl) (hQ _ _ _ (iv (by unfold rrn rbad; rw [← hch, if_neg (by omega), if_neg (by omega)]; unfold rrg; rw [← hch, show ch = pl by omega, ← hg, ← hσ, show pl = ch by omega, ← hτ, ← hω])) (by unfold rrc rbad; rw [← hch, if_neg (by omega), if_neg (by omega)]; unfold rrg; rw [← hch, show ch = pl by omega, ← hg, ← hσ, show pl = ch by omega, ← hτ, ← hω]))
              · refine V_iload_n dX11_receives_133 rfl ?_
                refine I_if_ne (tgt := 173) dX11_receives_134 (by decide) ⟨by omega, by omega⟩ (fun h134 => ?_) (fun h134 => ?_)
                · exact V_eqM (by unfold rr3; first | exact congrArg (fun x => rM M0 r x π sv rf hs) (if_neg (by omega)).symm | exact congrArg (fun x => rM M0 r x π sv rf hs) (if_pos (by omega)).symm) (V_wk' (j173 _) ⟨rfl, rfl, rfl, rfl, rfl, trivial⟩)
                · refine V_aload_n dX11_receives_137 rfl ?_
                  refine V_getf fX11_7 dX11_receives_138 rM_0 rfl ?_
                  refine V_iload_n dX11_receives_141 rfl ?_
                  refine V_iconst (v := iI (4)) dX11_receives_142 rfl ?_
                  refine I_iadd dX11_receives_143 ?_
                  refine V_iconst (v := iI (2)) dX11_receives_144 rfl ?_
                  refine I_iadd dX11_receives_145 ?_
                  refine R_iald dX11_receives_146 ⟨by omega, by omega⟩ ?_
                  refine V_bipush (v := iI (8)) dX11_receives_147 (by decide +kernel) ?_
                  refine I_irem dX11_receives_149 (by omega) (by omega) (by omega) (by omega) ?_
                  refine I_if_ne (tgt := 173) dX11_receives_150 (by decide) ⟨by omega, by omega⟩ (fun h150 => ?_) (fun h150 => ?_)
                  · exact V_eqM (by unfold rr3; first | exact congrArg (fun x => rM M0 r x π sv rf hs) (if_neg (by omega)).symm | exact congrArg (fun x => rM M0 r x π sv rf hs) (if_pos (by omega)).symm) (V_wk' (j173 _) ⟨rfl, rfl, rfl, rfl, rfl, trivial⟩)
                  · refine V_aload_n dX11_receives_153 rfl ?_
                    refine V_aload_n dX11_receives_154 rfl ?_
                    refine V_getf fX11_7 dX11_receives_155 rM_0 rfl ?_
                    refine V_iload_n dX11_receives_158 rfl ?_
                    refine V_iconst (v := iI (2)) dX11_receives_159 rfl ?_
                    refine I_iadd dX11_receives_160 ?_
                    refine R_iald dX11_receives_161 ⟨by omega, by omega⟩ ?_
                    refine V_aload_n dX11_receives_162 rfl ?_
                    refine V_getf fX11_7 dX11_receives_163 rM_0 rfl ?_
                    refine V_iload_n dX11_receives_166 rfl ?_
                    refine V_iconst (v := iI (3)) dX11_receives_167 rfl ?_
                    refine I_iadd dX11_receives_168 ?_
                    refine R_iald dX11_receives_169 ⟨by omega, by omega⟩ ?_
                    refine V_cV0 (vs := [_, _]) (r_notes l _ _ τ _ _ _ _ (τ (383 + 50 * f + 2)) (τ (383 + 50 * f + 3)) hτR.2.2.2.2.1) mX11_157 coX11_notes dX11_receives_170 rM_0 rfl rfl rfl (by decide) (Nat.le_of_ble_eq_true rfl) (Nat.le_of_ble_eq_true rfl) (Nat.le_of_ble_eq_true rfl) (fun sz => ?_)
                    exact V_eqM (by unfold rr3; first | exact congrArg (fun x => rM M0 r x π sv rf hs) (if_neg (by omega)).symm | exact congrArg (fun x => rM M0 r x π sv rf hs) (if_pos (by omega)).symm) (V_wk' (j173 _) ⟨rfl, rfl, rfl, rfl, rfl, trivial⟩)
            · refine V_iload dX11_receives_83 rfl ?_
              refine I_if_le (tgt := 133) dX11_receives_85 (by decide) ⟨by omega, by omega⟩ (fun h85 => ?_) (fun h85 => ?_)
              · exact V_eqM (by unfold rr2; first | exact congrArg (fun x => rM M0 r x π sv rf hs) (if_neg (by omega)).symm | exact congrArg (fun x => rM M0 r x π sv rf hs) (if_pos (by omega)).symm) (V_wk' (j133 _) ⟨rfl, rfl, rfl, rfl, rfl, trivial⟩)
              · refine V_aload_n dX11_receives_88 rfl ?_
                refine V_iconst (v := iI (3)) dX11_receives_89 rfl ?_
                refine V_tern (J := 108) (v := .int (iI (if 0 < σ (3407 + ch) then 1 else 0))) (fun sz => ?_) (fun j108 => ?_)
                · refine V_cV0 (vs := [_, _]) (r_counts l _ _ σ _ _ _ _ 3 (if 0 < σ (3407 + ch) then 1 else 0) (by omega)) mX11_144 coX11_counts dX11_receives_108 rM_0 rfl rfl rfl (by decide) (Nat.le_of_ble_eq_true rfl) (Nat.le_of_ble_eq_true rfl) (Nat.le_of_ble_eq_true rfl) (fun sz => ?_)
                  refine V_aload_n dX11_receives_111 rfl ?_
                  refine V_getf fX11_7 dX11_receives_112 rM_0 rfl ?_
                  refine V_sipush (v := iI (3407)) dX11_receives_115 (by decide +kernel) ?_
                  refine V_iload_n dX11_receives_118 rfl ?_
                  refine I_iadd dX11_receives_119 ?_
                  refine V_iconst (v := iI (0)) dX11_receives_120 rfl ?_
                  refine R_iast dX11_receives_121 ⟨by omega, by omega⟩ ?_
                  refine V_aload_n dX11_receives_122 rfl ?_
                  refine V_getf fX11_7 dX11_receives_123 rM_0 rfl ?_
                  refine V_sipush (v := iI (3403)) dX11_receives_126 (by decide +kernel) ?_
                  refine V_iload_n dX11_receives_129 rfl ?_
                  refine I_iadd dX11_receives_130 ?_
                  refine V_iconst (v := iI (0)) dX11_receives_131 rfl ?_
                  refine R_iast dX11_receives_132 ⟨by omega, by omega⟩ ?_
                  exact V_eqM (by unfold rr2; first | exact congrArg (fun x => rM M0 r x π sv rf hs) (if_neg (by omega)).symm | exact congrArg (fun x => rM M0 r x π sv rf hs) (if_pos (by omega)).symm) (V_wk' (j133 _) ⟨rfl, rfl, rfl, rfl, rfl, trivial⟩)
                · refine V_aload_n dX11_receives_90 rfl ?_
                  refine V_getf fX11_7 dX11_receives_91 rM_0 rfl ?_
                  refine V_sipush (v := iI (3407)) dX11_receives_94 (by decide +kernel) ?_
                  refine V_iload_n dX11_receives_97 rfl ?_
                  refine I_iadd dX11_receives_98 ?_
                  refine R_iald dX11_receives_99 ⟨by omega, by omega⟩ ?_
                  refine I_if_le (tgt := 107) dX11_receives_100 (by decide) ⟨by omega, by omega⟩ (fun h100 => ?_) (fun h100 => ?_)
                  · refine V_iconst (v := iI (0)) dX11_receives_107 rfl ?_
                    exact V_top (vi (by first | exact if1 (by omega) | exact if0 (by omega))) (j108 _)
                  · refine V_iconst (v := iI (1)) dX11_receives_103 rfl ?_
                    refine V_goto (tgt := 108) dX11_receives_104 (by decide) ?_
                    exact V_top (vi (by first | exact if1 (by omega) | exact if0 (by omega))) (j108 _)
          · refine V_aload_n dX11_receives_75 rfl ?_
            refine V_iconst (v := iI (5)) dX11_receives_76 rfl ?_
            refine V_iconst (v := iI (1)) dX11_receives_77 rfl ?_
            refine V_cV0 (vs := [_, _]) (r_counts l _ _ σ _ _ _ _ 5 1 (by omega)) mX11_144 coX11_counts dX11_receives_78 rM_0 rfl rfl rfl (by decide) (Nat.le_of_ble_eq_true rfl) (Nat.le_of_ble_eq_true rfl) (Nat.le_of_ble_eq_true rfl) (fun sz => ?_)
            refine V_iconst (v := iI (0)) dX11_receives_81 rfl ?_
            exact V_ireti dX11_receives_82 rfl (Nat.le_of_ble_eq_true rfl) (Nat.le_of_ble_eq_true rfl) (hQ _ _ _ (iv (by unfold rrn rbad; rw [← hch, if_neg (by omega), if_pos (by omega)])) (by unfold rrc rbad; rw [← hch, if_neg (by omega), if_pos (by omega), hσ, show pl = 4 by omega]))
        · refine V_iload_n dX11_receives_53 rfl ?_
          refine V_bipush (v := iI (7)) dX11_receives_54 (by decide +kernel) ?_
          refine I_icmp_ne (tgt := 63) dX11_receives_56 (by decide) ⟨by omega, by omega⟩ ⟨by omega, by omega⟩ (fun h56 => ?_) (fun h56 => ?_)
          · refine V_iload_n dX11_receives_63 rfl ?_
            exact V_top (vi (by first | (exfalso; omega) | rw [if_pos (by omega)] | rw [if_neg (by omega)])) (j64 _)
          · refine V_iconst (v := iI (4)) dX11_receives_59 rfl ?_
            refine V_goto (tgt := 64) dX11_receives_60 (by decide) ?_
            exact V_top (vi (by first | (exfalso; omega) | rw [if_pos (by omega)] | rw [if_neg (by omega)])) (j64 _)
      · refine V_aload_n dX11_receives_43 rfl ?_
        refine V_iconst (v := iI (1)) dX11_receives_44 rfl ?_
        refine V_iconst (v := iI (1)) dX11_receives_45 rfl ?_
        refine V_cV0 (vs := [_, _]) (r_counts l _ _ ρ _ _ _ _ 1 1 (by omega)) mX11_144 coX11_counts dX11_receives_46 rM_0 rfl rfl rfl (by decide) (Nat.le_of_ble_eq_true rfl) (Nat.le_of_ble_eq_true rfl) (Nat.le_of_ble_eq_true rfl) (fun sz => ?_)
        refine V_iconst (v := iI (0)) dX11_receives_49 rfl ?_
        exact V_ireti dX11_receives_50 rfl (Nat.le_of_ble_eq_true rfl) (Nat.le_of_ble_eq_true rfl) (hQ _ _ _ (iv (by unfold rrn rbad; rw [← hch]; exact (if_pos (by omega)).symm)) (by unfold rrc rbad; rw [← hch]; exact congrArg (fun x => rM M0 r x π sv rf hs) (if_pos (by omega)).symm))
