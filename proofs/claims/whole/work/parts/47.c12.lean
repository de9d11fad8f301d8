theorem RR.chg {M M' : ME} {R : Nat} {ρ ρ' : Int → Int} {c : Int} (hc : 0 ≤ c ∧ c ≤ 3) (h : RR M R ρ) (hPi : ∀ i, 0 ≤ i → i ≤ 3 → ρ (3407 + i) ≤ 258) (hAi : Ai ρ) (hTp : Tp ρ) (hk : RK M' (rkA R c) ρ' c) (hcn : ∃ cn, M' (R + 1) = some (aI 6 cn) ∧ ∀ q, 0 ≤ q → q < 6 → cn q = ρ' (3383 + q)) (hm : ∀ q, R ≤ q → q < R + 80 → q ≠ R + 1 → q ≠ rkA R c → q ≠ rkA R c + 1 → M' q = M q) (hr : ∀ q, 3389 ≤ q → q ≠ 3390 + c → q ≠ 3395 + c → q ≠ 3399 + c → q ≠ 3403 + c → q ≠ 3407 + c → (q < 3411 + 258 * c ∨ 3411 + 258 * c + 258 ≤ q) → ρ' q = ρ q) : RR M' R ρ' := by
  obtain ⟨hA, hK, hD, hT⟩ := h
  obtain ⟨lm, cn, ap, am, ab, al, h0, h1, h2, h3, h4, h5, h6, h7, h8, h9⟩ := hA
  obtain ⟨cn', n1, n2⟩ := hcn
  have hkA : rkA R c = R + 72 + 2 * c.toNat := rfl
  refine ⟨⟨lm, cn', ap, am, ab, al, (hm _ (by omega) (by omega) (by omega) (by omega) (by omega)).trans h0, n1, (hm _ (by omega) (by omega) (by omega) (by omega) (by omega)).trans h2, (hm _ (by omega) (by omega) (by omega) (by omega) (by omega)).trans h3, (hm _ (by omega) (by omega) (by omega) (by omega) (by omega)).trans h4, (hm _ (by omega) (by omega) (by omega) (by omega) (by omega)).trans h5, (hm _ (by omega) (by omega) (by omega) (by omega) (by omega)).trans h6, by rw [hr 3389 (by omega) (by omega) (by omega) (by omega) (by omega) (by omega) (by omega)]; exact h7, n2, fun a x y => ?_⟩, fun i x y => ?_, ?_, ?_⟩
  · have e : ∀ q, 4443 ≤ q → ρ' q = ρ q := fun q z => hr q (by omega) (by omega) (by omega) (by omega) (by omega) (by omega) (by omega)
    rw [e _ (by omega), e _ (by omega), e _ (by omega), e _ (by omega)]; exact h9 a x y
  · by_cases e : i = c
    · rw [e]; exact hk
    · have hiA : rkA R i = R + 72 + 2 * i.toNat := rfl
      exact (hK i x y).mv (hPi i x (by omega)) ⟨hm _ (by omega) (by omega) (by omega) (by omega) (by omega), hm _ (by omega) (by omega) (by omega) (by omega) (by omega)⟩ (fun q hq => hr q (by omega) (by omega) (by omega) (by omega) (by omega) (by omega) (by omega))
  · exact hD.mv hAi (fun q x y => hm q (by omega) (by omega) (by omega) (by omega) (by omega)) (fun q x y => hr q (by omega) (by omega) (by omega) (by omega) (by omega) (by omega) (by omega))
  · exact hT.mv hTp.1.2 (fun q x y => hm q (by omega) (by omega) (by omega) (by omega) (by omega)) (fun q x y => hr q (by omega) (by omega) (by omega) (by omega) (by omega) (by omega) (by omega))
theorem CI.rdv {B : Int} {ρ : Int → Int} {c : Int} (h : CI B ρ) (hc : 0 ≤ c ∧ c ≤ 3) (hAi : Ai ρ) (hb0 : 0 ≤ ρ (3411 + 258 * c)) (hb1 : 0 ≤ ρ (3411 + 258 * c + 1)) (hb2 : 0 ≤ ρ (3411 + 258 * c + 2) ∧ ρ (3411 + 258 * c + 2) ≤ 255) : CI (B + 1) (rdv ρ c) := by
  have eo : ∀ q, q ≠ 3407 + c → (q < 4443 ∧ q ≠ 3386 ∧ q ≠ 3387) ∨ 12304 ≤ q → _root_.Jvm.Pilot.@@N@@.rdv ρ c q = ρ q := fun q x y => rdv_o hc hb0 hb2 hAi.2.1 x y
  obtain ⟨h1, h2, h3, h4⟩ := h
  refine ⟨by rw [eo 3383 (by omega) (by omega), eo 3389 (by omega) (by omega)]; omega, fun i a b => by rw [eo _ (by omega) (by omega), eo _ (by omega) (by omega)]; have := h2 i a b; omega, ?_⟩
  unfold _root_.Jvm.Pilot.@@N@@.rdv
  split
  · rename_i h15
    obtain ⟨v, hv⟩ : ∃ v, v = ρ (3411 + 258 * c) := ⟨_, rfl⟩
    rw [← hv] at h15 hb0 ⊢
    have eA : ∀ q, q ≠ 3407 + c → (q < 4443 + 4 * v ∨ 4443 + 4 * v + 3 < q) → rdA ρ c v q = ρ q := fun q z w => rdA_o z w
    have eA4 : rdA ρ c v 4503 = ρ 4503 := eA _ (by omega) (by omega)
    have eA2 : rdA ρ c v (3411 + 258 * c + 2) = ρ (3411 + 258 * c + 2) := eA _ (by omega) (by omega)
    have aP : rdA ρ c v (4443 + 4 * v) = ρ (4443 + 4 * v) + 1 := by unfold rdA; rw [up_n (by omega), up_n (by omega), up_n (by omega), up_s]
    have aL : rdA ρ c v (4443 + 4 * v + 3) = ρ (3411 + 258 * c + 1) := rdA_3
    have hp := hAi.2.1
    have hb := rdB_p (ρ := rdA ρ c v) (by rw [eA4]; exact hp)
    have eB2 : rdB (rdA ρ c v) (3411 + 258 * c + 2) = ρ (3411 + 258 * c + 2) := by rw [rdB_o (by omega), eA2]
    have eE : ∀ q, q < 4503 → rdE (rdB (rdA ρ c v)) c v q = rdA ρ c v q := fun q z => by
      rw [rdE_o hb.1 (by rw [eB2]; exact hb2) (by omega) (by omega), rdB_o (by omega)]
    have hv9 := rdE_v (ρ := rdB (rdA ρ c v)) (a := v) hc hb.1 (by rw [eB2]; exact hb2)
    have h33 := rdE_3 (ρ := rdB (rdA ρ c v)) (c := c) (a := v) hb.1
    refine ⟨fun a x y => ?_, fun k x y => ?_⟩
    · rw [eE _ (by omega), eE _ (by omega)]
      have h3a := h3 a x y
      by_cases z : a = v
      · subst z
        rw [aP, aL]; omega
      · rw [eA _ (by omega) (by omega), eA _ (by omega) (by omega)]; omega
    · rw [hv9.2.2.2.2.2] at y
      by_cases z : k = rdB (rdA ρ c v) 4503
      · rw [z, h33, hv9.2.2.2.2.1]
        exact dsum_cg _ fun i d e => by
          rw [hv9.2.2.2.1 i d (by omega)]
      · have hk29 : k < 29 := by omega
        have eK : ∀ q, 4504 + 260 * k ≤ q → q < 4504 + 260 * k + 260 → rdE (rdB (rdA ρ c v)) c v q = rdB (rdA ρ c v) q := fun q d e => rdE_o hb.1 (by rw [eB2]; exact hb2) (by omega) (by omega)
        by_cases w : ρ 4503 = 30
        · have e3 : ∀ q, 4504 + 260 * k ≤ q → q < 4504 + 260 * k + 260 → rdE (rdB (rdA ρ c v)) c v q = ρ (q + 260) := fun q d e => by
            rw [eK q d e, rdB_r (by omega), if_pos (by rw [eA4]; exact w), eA _ (by omega) (by omega)]
          have hl := hAi.2.2 (k + 1) (by omega) (by omega)
          have h4k := h4 (k + 1) (by omega) (by omega)
          rw [e3 _ (by omega) (by omega), e3 (4504 + 260 * k + 3) (by omega) (by omega), show 4504 + 260 * k + 4 + 260 = 4504 + 260 * (k + 1) + 4 by omega, show 4504 + 260 * k + 3 + 260 = 4504 + 260 * (k + 1) + 3 by omega, h4k]
          exact dsum_cg _ fun i d e => by
            rw [e3 _ (by omega) (by omega)]
            congr 1
            omega
        · have e3 : ∀ q, 4504 + 260 * k ≤ q → q < 4504 + 260 * k + 260 → rdE (rdB (rdA ρ c v)) c v q = ρ q := fun q d e => by
            rw [eK q d e, rdB_r (by omega), if_neg (by rw [eA4]; exact w), eA _ (by omega) (by omega)]
          have hk4 : k < ρ 4503 := by
            have := hb.2.2 (by rw [eA4]; exact w)
            omega
          have hl := hAi.2.2 k x hk4
          rw [e3 _ (by omega) (by omega), e3 (4504 + 260 * k + 3) (by omega) (by omega), h4 k x hk4]
          exact dsum_cg _ fun i d e => (e3 _ (by omega) (by omega)).symm
  · have e : ∀ q, 4443 ≤ q → rcn (up ρ (3407 + c) 0) (if ρ (3411 + 258 * c) = 15 then 4 else 3) 1 q = ρ q := fun q z => by rw [rcn_o (by split <;> omega), up_n (by omega)]
    refine ⟨fun a x y => by rw [e _ (by omega), e _ (by omega)]; have := h3 a x y; omega, fun k x y => ?_⟩
    rw [e _ (by omega)] at y
    have hp := hAi.2.1
    have hl := hAi.2.2 k x y
    rw [e _ (by omega), e (4504 + 260 * k + 3) (by omega), h4 k x y]
    exact dsum_cg _ fun i d e' => (e _ (by omega)).symm
theorem CI.rap {B : Int} {ρ : Int → Int} {c v : Int} (h : CI B ρ) (hc : 0 ≤ c ∧ c ≤ 3) (hP : Pi ρ c) (hA : Ai ρ) (hv : 0 ≤ v ∧ v ≤ 255) : CI (B + 1) (rap ρ c v) := by
  have h2 : ∀ B', B ≤ B' → CI B' (ra2 ρ c v) := fun B' hB => h.cg hB hA (fun q hq => ra2_o hP hc (by omega) (by omega))
  have hb := ra2_b hc hP hv
  unfold _root_.Jvm.Pilot.@@N@@.rap
  split
  · rename_i hd
    have b0 := hb 0 (by omega) (by omega)
    have b1 := hb 1 (by omega) (by omega)
    have b2 := hb 2 (by omega) (by omega)
    rw [Int.add_zero] at b0
    exact (h2 B (Int.le_refl _)).rdv hc (hA.cg fun q x y => ra2_o hP hc (by omega) (by omega)) b0.1 b1.1 b2
  · exact h2 _ (by omega)
/-- the row behind the counting of a frame by its channel -/
def rcf (ρ : Int → Int) (fr c : Int) : Int → Int := rr2 (up (up (up ρ (3390 + c) (ρ (fr + 4 + 2))) (3395 + c) (ρ (3395 + c) + 1)) (3399 + c) (ρ (3399 + c) + (if ρ (3390 + c) = -1 then 0 else rgv ρ fr c))) (rgv ρ fr c) c
theorem rcf_o {ρ : Int → Int} {fr c q : Int} (h : q ≠ 3386 ∧ q ≠ 3390 + c ∧ q ≠ 3395 + c ∧ q ≠ 3399 + c ∧ q ≠ 3403 + c ∧ q ≠ 3407 + c) : rcf ρ fr c q = ρ q := by
  unfold rcf
  rw [rr2_o (by omega), up_n (by omega), up_n (by omega), up_n (by omega)]
theorem rr2_cg {ρ ρ' : Int → Int} {g c q : Int} (h : q = 3386 → ρ' 3386 = ρ 3386) (h7 : ρ' (3407 + c) = ρ (3407 + c)) (hq : q ≠ 3386 → ρ' q = ρ q) : rr2 ρ' g c q = rr2 ρ g c q := by
  unfold rr2 rcn
  split
  · unfold up
    by_cases e : q = 3403 + c
    · rw [if_pos e, if_pos e]
    · rw [if_neg e, if_neg e]
      by_cases e : q = 3407 + c
      · rw [if_pos e, if_pos e]
      · rw [if_neg e, if_neg e]
        by_cases e : q = 3383 + 3
        · rw [if_pos e, if_pos e, h7, show (3383 + 3 : Int) = 3386 by omega, h (by omega)]
        · rw [if_neg e, if_neg e, hq (by omega)]
  · by_cases e : q = 3386
    · rw [e]; exact h e
    · exact hq e
theorem rno_cg {ρ ρ' : Int → Int} {x y q : Int} (h : ∀ k, 12304 ≤ k → ρ' k = ρ k) (hq : 12304 ≤ q) : rno ρ' x y q = rno ρ x y q := by
  have hn : ∀ k, 12304 ≤ k → rnp ρ' k = rnp ρ k := fun k hk => by
    unfold rnp
    rw [h 12304 (by omega), h 12307 (by omega), h 12308 (by omega)]
    split
    · unfold up
      by_cases e : k = 12304
      · rw [if_pos e, if_pos e]
      · rw [if_neg e, if_neg e]
        by_cases e : k = 12306
        · rw [if_pos e, if_pos e]
        · rw [if_neg e, if_neg e]
          by_cases e : k = 12305
          · rw [if_pos e, if_pos e]
          · rw [if_neg e, if_neg e, h k hk]
    · exact h k hk
  unfold rno
  rw [hn 12304 (by omega)]
  unfold up
  by_cases e : q = 12304
  · rw [if_pos e, if_pos e]
  · rw [if_neg e, if_neg e]
    by_cases e : q = 12305 + 2 * rnp ρ 12304 + 1
    · rw [if_pos e, if_pos e]
    · rw [if_neg e, if_neg e]
      by_cases e : q = 12305 + 2 * rnp ρ 12304
      · rw [if_pos e, if_pos e]
      · rw [if_neg e, if_neg e, hn q hq]

theorem up_cg {f g : Int → Int} {k x q : Int} (h : f q = g q) : up f k x q = up g k x q := by
  unfold up; rw [h]
theorem rcm_o {ρ : Int → Int} {m q : Int} (h : q ≠ 3383 ∧ q ≠ 3385 ∧ q ≠ 3389) : rcm ρ m q = ρ q := by
  unfold rcm; rw [up_n (by omega), rcn_o (by omega), rcn_o (by omega)]
theorem rrg_e {ρ : Int → Int} {f : Int} (hf : 0 ≤ f ∧ f ≤ 59) (hT : Tp ρ) (hc : 0 ≤ ρ (383 + 50 * f + 4 + 1) ∧ ρ (383 + 50 * f + 4 + 1) ≤ 3) : rcf (rr3 (rcm ρ (ρ (383 + 50 * f + 4))) (383 + 50 * f) (ρ (383 + 50 * f + 4 + 1))) (383 + 50 * f) (ρ (383 + 50 * f + 4 + 1)) = rrg ρ f := by
  obtain ⟨fr, hfr⟩ : ∃ fr, fr = 383 + 50 * f := ⟨_, rfl⟩
  obtain ⟨c, hcc⟩ : ∃ c, c = ρ (383 + 50 * f + 4 + 1) := ⟨_, rfl⟩
  obtain ⟨m, hm⟩ : ∃ m, m = ρ (383 + 50 * f + 4) := ⟨_, rfl⟩
  unfold rrg
  rw [← hcc, ← hm, ← hfr]
  rw [← hcc] at hc
  have hT1 : Tp (rcm ρ m) := hT.cg fun q a b => rcm_o (by omega)
  have e1 : ∀ q, q < 12304 → rr3 (rcm ρ m) fr c q = rcm ρ m q := fun q h => rr3_o hT1 h
  have eg : rgp ρ fr c = up (up (up (rcm ρ m) (3390 + c) (ρ (fr + 4 + 2))) (3395 + c) (ρ (3395 + c) + 1)) (3399 + c) (ρ (3399 + c) + (if ρ (3390 + c) = -1 then 0 else rgv ρ fr c)) := by
    unfold rgp rg1 rcm
    rw [if_pos (by omega), hfr, ← hm]
  have e2 : ∀ q, q < 12304 → (q ≠ 3383 ∧ q ≠ 3385 ∧ q ≠ 3389) → rr3 (rcm ρ m) fr c q = ρ q := fun q h w => by rw [e1 q h, rcm_o w]
  have ev : rgv (rr3 (rcm ρ m) fr c) fr c = rgv ρ fr c := by
    unfold rgv
    rw [e2 _ (by omega) (by omega), e2 (fr + 4 + 2) (by omega) (by omega)]
  have eo : ∀ q, q ≠ 3386 → q ≠ 3383 → q ≠ 3385 → q ≠ 3389 → q ≠ 3390 + c → q ≠ 3395 + c → q ≠ 3399 + c → q ≠ 3403 + c → q ≠ 3407 + c → rr2 (rgp ρ fr c) (rgv ρ fr c) c q = ρ q := fun q a1 a2 a3 a4 a5 a6 a7 a8 a9 => by
    rw [rr2_o (by omega), rgp_o (by omega)]
  funext q
  rcases (show q < 12304 ∨ 12304 ≤ q by omega) with h | h
  · rw [rr3_o (hT.cg fun q a b => eo q (by omega) (by omega) (by omega) (by omega) (by omega) (by omega) (by omega) (by omega) (by omega)) h]
    unfold rcf
    rw [ev, e2 (fr + 4 + 2) (by omega) (by omega), e2 (3395 + c) (by omega) (by omega), e2 (3399 + c) (by omega) (by omega), e2 (3390 + c) (by omega) (by omega), eg]
    have key : ∀ k, k < 12304 → up (up (up (rr3 (rcm ρ m) fr c) (3390 + c) (ρ (fr + 4 + 2))) (3395 + c) (ρ (3395 + c) + 1)) (3399 + c) (ρ (3399 + c) + (if ρ (3390 + c) = -1 then 0 else rgv ρ fr c)) k = up (up (up (rcm ρ m) (3390 + c) (ρ (fr + 4 + 2))) (3395 + c) (ρ (3395 + c) + 1)) (3399 + c) (ρ (3399 + c) + (if ρ (3390 + c) = -1 then 0 else rgv ρ fr c)) k := fun k hk => up_cg (up_cg (up_cg (e1 k hk)))
    exact rr2_cg (fun _ => key _ (by omega)) (key _ (by omega)) (fun _ => key q h)
  · rw [rcf_o (by omega)]
    unfold rr3
    rw [rcm_o (q := fr + 4 + 2) (by omega), rcm_o (q := fr + 2) (by omega), rcm_o (q := fr + 3) (by omega), eo (fr + 4 + 2) (by omega) (by omega) (by omega) (by omega) (by omega) (by omega) (by omega) (by omega) (by omega), eo (fr + 2) (by omega) (by omega) (by omega) (by omega) (by omega) (by omega) (by omega) (by omega) (by omega), eo (fr + 3) (by omega) (by omega) (by omega) (by omega) (by omega) (by omega) (by omega) (by omega) (by omega)]
    have e9 : ∀ k, 12304 ≤ k → rcm ρ m k = rr2 (rgp ρ fr c) (rgv ρ fr c) c k := fun k hk => by rw [rcm_o (by omega), eo k (by omega) (by omega) (by omega) (by omega) (by omega) (by omega) (by omega) (by omega) (by omega)]
    split
    · exact rno_cg e9 h
    · exact e9 q h
