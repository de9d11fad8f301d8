theorem kg_e {ρ : Int → Int} {fr c lc : Int} (h2 : ¬ ρ (3390 + c) = -1 → lc = ρ (3390 + c)) (hC : 0 ≤ ρ (3395 + c) ∧ (ρ (3390 + c) = -1 ↔ ρ (3395 + c) = 0)) : kgap (ρ (3395 + c)) lc (ρ (fr + 4 + 2)) = rgv ρ fr c := by
  unfold kgap rgv
  by_cases z : ρ (3390 + c) = -1
  · rw [if_neg (by omega), if_pos z]
  · rw [if_pos (by omega), if_neg z, h2 z]; omega
theorem rgv_b {ρ : Int → Int} {fr c : Int} : 0 ≤ rgv ρ fr c ∧ rgv ρ fr c ≤ 255 := by unfold rgv; split <;> omega
theorem rcf_90 {ρ : Int → Int} {fr c : Int} (hc : 0 ≤ c ∧ c ≤ 3) : rcf ρ fr c (3390 + c) = ρ (fr + 4 + 2) := by unfold rcf; rw [rr2_o (by omega), up_n (by omega), up_n (by omega), up_s]
theorem rcf_95 {ρ : Int → Int} {fr c : Int} (hc : 0 ≤ c ∧ c ≤ 3) : rcf ρ fr c (3395 + c) = ρ (3395 + c) + 1 := by unfold rcf; rw [rr2_o (by omega), up_n (by omega), up_s]
theorem rcf_99 {ρ : Int → Int} {fr c : Int} (hc : 0 ≤ c ∧ c ≤ 3) (hC : 0 ≤ ρ (3395 + c) ∧ (ρ (3390 + c) = -1 ↔ ρ (3395 + c) = 0)) : rcf ρ fr c (3399 + c) = if 0 < ρ (3395 + c) then ρ (3399 + c) + rgv ρ fr c else ρ (3399 + c) := by
  unfold rcf
  rw [rr2_o (by omega), up_s]
  by_cases z : ρ (3390 + c) = -1
  · rw [if_pos z, if_neg (by omega), Int.add_zero]
  · rw [if_neg z, if_pos (by omega)]
theorem rcf_03 {ρ : Int → Int} {fr c : Int} (hc : 0 ≤ c ∧ c ≤ 3) : rcf ρ fr c (3403 + c) = if rgv ρ fr c = 0 then ρ (3403 + c) else 0 := by
  have hb := rgv_b (ρ := ρ) (fr := fr) (c := c)
  unfold rcf rr2
  by_cases z : rgv ρ fr c = 0
  · rw [if_pos z, if_neg (by omega), up_n (by omega), up_n (by omega), up_n (by omega)]
  · rw [if_neg z, if_pos (by omega), up_s]
theorem rcf_07 {ρ : Int → Int} {fr c : Int} (hc : 0 ≤ c ∧ c ≤ 3) : rcf ρ fr c (3407 + c) = if rgv ρ fr c = 0 then ρ (3407 + c) else 0 := by
  have hb := rgv_b (ρ := ρ) (fr := fr) (c := c)
  unfold rcf rr2
  by_cases z : rgv ρ fr c = 0
  · rw [if_pos z, if_neg (by omega), up_n (by omega), up_n (by omega), up_n (by omega)]
  · rw [if_neg z, if_pos (by omega), up_n (by omega), up_s]
theorem rcf_86 {ρ : Int → Int} {fr c bb : Int} (hc : 0 ≤ c ∧ c ≤ 3) (hbb : ((¬ rgv ρ fr c = 0 ∧ 0 < ρ (3407 + c)) ∧ bb = 1) ∨ (¬ (¬ rgv ρ fr c = 0 ∧ 0 < ρ (3407 + c)) ∧ bb = 0)) : rcf ρ fr c 3386 = ρ 3386 + bb := by
  have hb := rgv_b (ρ := ρ) (fr := fr) (c := c)
  unfold rcf rr2
  by_cases z : rgv ρ fr c = 0
  · rw [if_neg (by omega), up_n (by omega), up_n (by omega), up_n (by omega)]; omega
  · rw [if_pos (by omega), up_n (by omega), up_n (by omega)]
    unfold rcn
    rw [show (3383 + 3 : Int) = 3386 by omega, up_s, up_n (by omega), up_n (by omega), up_n (by omega), up_n (by omega), up_n (by omega), up_n (by omega)]
    split <;> omega
theorem RI.cf {ρ : Int → Int} {fr c : Int} (hI : RI ρ) (hc : 0 ≤ c ∧ c ≤ 3) (hfr : 383 ≤ fr ∧ fr ≤ 3333) (hF : Fb ρ fr) : RI (rcf ρ fr c) := by
  have hF1 := hF.1
  have b2 := hF.2 2 (by omega) (by omega)
  have hr : ∀ q, q ≠ 3386 → q ≠ 3390 + c → q ≠ 3395 + c → q ≠ 3399 + c → q ≠ 3403 + c → q ≠ 3407 + c → rcf ρ fr c q = ρ q := fun q a1 a2 a3 a4 a5 a6 => rcf_o ⟨a1, a2, a3, a4, a5, a6⟩
  have e03 := rcf_03 (ρ := ρ) (fr := fr) hc
  have e07 := rcf_07 (ρ := ρ) (fr := fr) hc
  have hPc := hI.2.2.1 c hc.1 hc.2
  obtain ⟨i1, i2, i3, i4, i5⟩ := hI
  refine ⟨by rw [hr _ (by omega) (by omega) (by omega) (by omega) (by omega) (by omega)]; exact i1, fun i a b => ?_, fun i a b => ?_, i4.cg fun q a b => hr q (by omega) (by omega) (by omega) (by omega) (by omega) (by omega), i5.cg fun q a b => hr q (by omega) (by omega) (by omega) (by omega) (by omega) (by omega)⟩
  · by_cases z : i = c
    · rw [z, rcf_90 hc]; omega
    · rw [hr _ (by omega) (by omega) (by omega) (by omega) (by omega) (by omega)]; exact i2 i a b
  · by_cases z : i = c
    · rw [z]
      refine ⟨?_, by rw [e03]; split <;> omega⟩
      by_cases w : rgv ρ fr c = 0
      · have e7 : rcf ρ fr c (3407 + c) = ρ (3407 + c) := by rw [e07, if_pos w]
        exact hPc.1.cg hc e7 (fun q x y => hr q (by omega) (by omega) (by omega) (by omega) (by omega) (by omega))
      · have e7 : rcf ρ fr c (3407 + c) = 0 := by rw [e07, if_neg w]
        exact ⟨by omega, fun k x y => by omega, by omega⟩
    · exact ⟨(i3 i a b).1.cg ⟨a, b⟩ (hr _ (by omega) (by omega) (by omega) (by omega) (by omega) (by omega)) (fun q x y => hr q (by omega) (by omega) (by omega) (by omega) (by omega) (by omega)), by rw [hr _ (by omega) (by omega) (by omega) (by omega) (by omega) (by omega)]; exact (i3 i a b).2⟩
theorem CI.cf {B : Int} {ρ : Int → Int} {fr c : Int} (hC : CI B ρ) (hI : RI ρ) (hc : 0 ≤ c ∧ c ≤ 3) (hF : Fb ρ fr) : CI (B + 1) (rcf ρ fr c) := by
  have hF1 := hF.1
  have b2 := hF.2 2 (by omega) (by omega)
  have hr : ∀ q, q ≠ 3386 → q ≠ 3390 + c → q ≠ 3395 + c → q ≠ 3399 + c → q ≠ 3403 + c → q ≠ 3407 + c → rcf ρ fr c q = ρ q := fun q a1 a2 a3 a4 a5 a6 => rcf_o ⟨a1, a2, a3, a4, a5, a6⟩
  obtain ⟨c1, c2, c3, c4⟩ := hC
  have h9 : ∀ q, 4443 ≤ q → rcf ρ fr c q = ρ q := fun q z => hr q (by omega) (by omega) (by omega) (by omega) (by omega) (by omega)
  refine ⟨by rw [hr 3383 (by omega) (by omega) (by omega) (by omega) (by omega) (by omega), hr 3389 (by omega) (by omega) (by omega) (by omega) (by omega) (by omega)]; omega, fun i a b => ?_, fun i a b => by rw [h9 _ (by omega), h9 _ (by omega)]; have := c3 i a b; omega, fun k a b => ?_⟩
  · by_cases z : i = c
    · rw [z, rcf_90 hc, rcf_95 hc]; have := c2 c hc.1 hc.2; omega
    · rw [hr _ (by omega) (by omega) (by omega) (by omega) (by omega) (by omega), hr (3390 + i) (by omega) (by omega) (by omega) (by omega) (by omega) (by omega)]; have := c2 i a b; omega
  · rw [h9 _ (by omega)] at b
    have hp := hI.2.2.2.1.2.1
    have hl := hI.2.2.2.1.2.2 k a b
    rw [h9 _ (by omega), h9 (4504 + 260 * k + 3) (by omega), c4 k a b]
    exact dsum_cg _ fun i d e => (h9 _ (by omega)).symm
theorem CI.tN {B : Int} {ρ : Int → Int} {fr c b : Int} (hC : CI B ρ) (hc : 0 ≤ c ∧ c ≤ 3) (hfr : 383 ≤ fr ∧ fr ≤ 3333) (hF : Fb ρ fr) (hb : 0 ≤ b) (hP : Pi ρ c) (hA : Ai ρ) : ∀ n : Nat, b + n ≤ ρ fr → CI (B + n) (rtN ρ fr c b n)
  | 0, _ => by
    show CI (B + ((0 : Nat) : Int)) ρ
    rw [show B + ((0 : Nat) : Int) = B by omega]
    exact hC
  | n + 1, h => by
    have hi := rtN_i (b := b) hc hfr hF hb hP hA n (by omega)
    have hF1 := hF.1
    have hb9 := hF.2 (4 + (b + n)) (by omega) (by omega)
    have hx : rtN ρ fr c b n (fr + 4 + 4 + (b + n)) = ρ (fr + 4 + (4 + (b + n))) := by
      rw [hi.2.2 _ (by omega) (by omega) (by omega)]; congr 1; omega
    show CI (B + ((n + 1 : Nat) : Int)) (_root_.Jvm.Pilot.@@N@@.rap (rtN ρ fr c b n) c (rtN ρ fr c b n (fr + 4 + 4 + (b + n))))
    rw [show B + ((n + 1 : Nat) : Int) = B + n + 1 by omega]
    exact (hC.tN hc hfr hF hb hP hA n (by omega)).rap hc hi.1 hi.2.1 (by rw [hx]; exact hb9)
/-- a byte more -/
theorem RR.ra2 {N : ME} {R : Nat} {ρ : Int → Int} {c v lc : Int} {gk : Int → Int} (hc : 0 ≤ c ∧ c ≤ 3) (hv : 0 ≤ v ∧ v ≤ 255) (h : RR N R ρ) (hP : Pi ρ c) (hA : Ai ρ) (hT : Tp ρ) (hPi : ∀ i, 0 ≤ i → i ≤ 3 → ρ (3407 + i) ≤ 258) (k2 : ¬ ρ (3390 + c) = -1 → lc = ρ (3390 + c)) (k3 : 0 ≤ ρ (3403 + c) ∧ ρ (3403 + c) ≤ 1) (k4 : ∀ q, 0 ≤ q → q < ρ (3407 + c) → gk q = ρ (3411 + 258 * c + q)) :
    (∀ q, 0 ≤ q → q < ρ (3407 + c) + 1 → up gk (ρ (3407 + c)) v q = ra2 ρ c v (3411 + 258 * c + q)) ∧ RR (mu (mu N (rkA R c + 1) (aI 258 (up gk (ρ (3407 + c)) v))) (rkA R c) (rkO (rkA R c) (ρ (3395 + c)) (ρ (3399 + c)) lc (ρ (3403 + c)) (ρ (3407 + c) + 1))) R (ra2 ρ c v) := by
  have hkA : rkA R c = R + 72 + 2 * c.toNat := rfl
  have hp := hP.1
  have h2o : ∀ q, q ≠ 3407 + c → (q < 3411 + 258 * c ∨ 3411 + 258 * c + 258 ≤ q) → _root_.Jvm.Pilot.@@N@@.ra2 ρ c v q = ρ q := fun q a b => ra2_o hP hc a b
  have h2m : _root_.Jvm.Pilot.@@N@@.ra2 ρ c v (3407 + c) = ρ (3407 + c) + 1 := ra2_m
  have h2v : ∀ q, 0 ≤ q → q < ρ (3407 + c) + 1 → up gk (ρ (3407 + c)) v q = _root_.Jvm.Pilot.@@N@@.ra2 ρ c v (3411 + 258 * c + q) := fun q a b => by
    unfold _root_.Jvm.Pilot.@@N@@.ra2
    by_cases z : q = ρ (3407 + c)
    · rw [z, up_s, up_n (by omega), up_s]
    · rw [up_n z, up_n (by omega), up_n (by omega)]; exact k4 q a (by omega)
  have hcn : ∃ cn, N (R + 1) = some (aI 6 cn) ∧ ∀ q, 0 ≤ q → q < 6 → cn q = ρ (3383 + q) := by
    obtain ⟨lm9, cn9, ap9, am9, ab9, al9, n0, n1, n2, n3, n4, n5, n6, n7, n8, -⟩ := h.1
    exact ⟨cn9, n1, n8⟩
  obtain ⟨cn9, n1, n8⟩ := hcn
  refine ⟨h2v, RR.chg (c := c) hc h hPi hA hT ⟨lc, _, mu_eq.trans ?_, (mu_ne (by omega)).trans mu_eq, ?_, ?_, fun q a b => ?_⟩ ⟨cn9, (mu_ne (by omega)).trans ((mu_ne (by omega)).trans n1), fun q a b => ?_⟩ (fun q a b c1 c2 c3 => (mu_ne c2).trans (mu_ne c3)) (fun q a a2 a3 a4 a5 a6 a7 => h2o q a6 a7)⟩
  · rw [h2m, h2o _ (by omega) (by omega), h2o _ (by omega) (by omega), h2o _ (by omega) (by omega)]
  · rw [h2o _ (by omega) (by omega)]; exact k2
  · rw [h2o _ (by omega) (by omega)]; exact k3
  · rw [h2m] at b; exact h2v q a b
  · rw [h2o _ (by omega) (by omega)]; exact n8 q a b
theorem raD_e {ρ : Int → Int} {c v w : Int} (hc : 0 ≤ c ∧ c ≤ 3) (hv : 0 ≤ v ∧ v ≤ 255) (hP : Pi ρ c) (hw : 3 ≤ ρ (3407 + c) + 1 → w = ra2 ρ c v (3411 + 258 * c + 2)) : (3 ≤ ρ (3407 + c) + 1 → 0 ≤ ra2 ρ c v (3411 + 258 * c + 2) ∧ ra2 ρ c v (3411 + 258 * c + 2) ≤ 255) ∧ ((3 ≤ ρ (3407 + c) + 1 ∧ 3 + w ≤ ρ (3407 + c) + 1) ↔ raD ρ c v) := by
  have h2b := ra2_b hc hP hv
  have hp := hP.1
  have hb2 : 3 ≤ ρ (3407 + c) + 1 → 0 ≤ ra2 ρ c v (3411 + 258 * c + 2) ∧ ra2 ρ c v (3411 + 258 * c + 2) ≤ 255 := fun z => h2b 2 (by omega) (by omega)
  refine ⟨hb2, fun ⟨a, b⟩ => ⟨a, ?_⟩, fun ⟨a, b⟩ => ⟨a, by have := hw a; omega⟩⟩
  have h22 := hb2 a
  have hww := hw a
  rcases hP.2.2 with z | z
  · omega
  · by_cases y : ρ (3407 + c) = 2
    · omega
    · have : ra2 ρ c v (3411 + 258 * c + 2) = ρ (3411 + 258 * c + 2) := by unfold ra2; rw [up_n (by omega), up_n (by omega)]
      omega
/-- the receiver behind the counting by the channel -/
theorem RR.cf {M : ME} {R : Nat} {ρ : Int → Int} {fr c bb : Int} {g cn : Int → Int} (hc : 0 ≤ c ∧ c ≤ 3) (hfr : 383 ≤ fr ∧ fr ≤ 3333) (hR : RR M R ρ) (hI : RI ρ) (hCc : 0 ≤ ρ (3395 + c) ∧ (ρ (3390 + c) = -1 ↔ ρ (3395 + c) = 0)) (k1 : M (rkA R c + 1) = some (aI 258 g)) (k3 : 0 ≤ ρ (3403 + c) ∧ ρ (3403 + c) ≤ 1) (k4 : ∀ q, 0 ≤ q → q < ρ (3407 + c) → g q = ρ (3411 + 258 * c + q)) (h8 : ∀ q, 0 ≤ q → q < 6 → cn q = ρ (3383 + q)) (hbb : ((¬ rgv ρ fr c = 0 ∧ 0 < ρ (3407 + c)) ∧ bb = 1) ∨ (¬ (¬ rgv ρ fr c = 0 ∧ 0 < ρ (3407 + c)) ∧ bb = 0)) :
    RR (mu (mu M (rkA R c) (rkO (rkA R c) (ρ (3395 + c) + 1) (if 0 < ρ (3395 + c) then ρ (3399 + c) + rgv ρ fr c else ρ (3399 + c)) (ρ (fr + 4 + 2)) (if rgv ρ fr c = 0 then ρ (3403 + c) else 0) (if rgv ρ fr c = 0 then ρ (3407 + c) else 0))) (R + 1) (aI 6 (up cn 3 (cn 3 + bb)))) R (rcf ρ fr c) := by
  have hkA : rkA R c = R + 72 + 2 * c.toNat := rfl
  have hr : ∀ q, q ≠ 3386 → q ≠ 3390 + c → q ≠ 3395 + c → q ≠ 3399 + c → q ≠ 3403 + c → q ≠ 3407 + c → rcf ρ fr c q = ρ q := fun q a1 a2 a3 a4 a5 a6 => rcf_o ⟨a1, a2, a3, a4, a5, a6⟩
  refine RR.chg (M := M) (c := c) hc hR (fun i a b => by have := (hI.2.2.1 i a b).1.1; omega) hI.2.2.2.1 hI.2.2.2.2 ⟨_, g, (mu_ne (by omega)).trans (mu_eq.trans ?_), (mu_ne (by omega)).trans ((mu_ne (by omega)).trans k1), fun _ => (rcf_90 hc).symm, ?_, fun q a b => ?_⟩ ⟨_, mu_eq, fun q a b => ?_⟩ (fun q a b c1 c2 c3 => (mu_ne c1).trans (mu_ne c2)) (fun q a a2 a3 a4 a5 a6 a7 => hr q (by omega) a2 a3 a4 a5 a6)
  · rw [rcf_95 hc, rcf_99 hc hCc, rcf_03 hc, rcf_07 hc]
  · rw [rcf_03 hc]; split <;> omega
  · rw [rcf_07 hc] at b
    rw [hr _ (by omega) (by omega) (by omega) (by omega) (by omega) (by omega)]
    exact k4 q a (by split at b <;> omega)
  · by_cases z : q = 3
    · rw [z, up_s, show (3383 + 3 : Int) = 3386 by omega, rcf_86 hc hbb, h8 3 (by omega) (by omega), show (3383 + 3 : Int) = 3386 by omega]
    · rw [up_n z, hr _ (by omega) (by omega) (by omega) (by omega) (by omega) (by omega)]; exact h8 q a b
/-- .. and behind the look for the first place -/
theorem RR.tp {M : ME} {R : Nat} {ρ : Int → Int} {fr c lc a b e p : Int} (hc : 0 ≤ c ∧ c ≤ 3) (hR : RR M R ρ) (hI : RI ρ) (k0 : M (rkA R c) = some (rkO (rkA R c) a b lc (ρ (3403 + c)) e)) (hp : p = ρ (fr + 4 + 3)) : RR (mu M (rkA R c) (rkO (rkA R c) a b lc (if ρ (3403 + c) = 0 then (if p = 255 then 0 else 1) else ρ (3403 + c)) e)) R (rtp ρ fr c) := by
  have hkA : rkA R c = R + 72 + 2 * c.toNat := rfl
  obtain ⟨lm9, cn9, ap9, am9, ab9, al9, n0, n1, n2, n3, n4, n5, n6, n7, n8, -⟩ := id hR.1
  obtain ⟨lc', g', k0', k1, k2, k3, k4⟩ := id (hR.2.1 c hc.1 (by omega))
  have e3 : rtp ρ fr c (3403 + c) = if ρ (3403 + c) = 0 then (if p = 255 then 0 else 1) else ρ (3403 + c) := by
    unfold rtp
    rw [hp]
    by_cases z : ρ (3403 + c) = 0
    · rw [if_pos z, if_pos z, up_s]
    · rw [if_neg z, if_neg z]
  refine RR.chg (c := c) hc hR (fun i a b => by have := (hI.2.2.1 i a b).1.1; omega) hI.2.2.2.1 hI.2.2.2.2 ⟨lc', g', mu_eq.trans ?_, (mu_ne (by omega)).trans k1, by rw [rtp_o (by omega)]; exact k2, ?_, fun q a b => ?_⟩ ⟨_, (mu_ne (by omega)).trans n1, fun q a b => ?_⟩ (fun q a b c1 c2 c3 => mu_ne c2) (fun q a a2 a3 a4 a5 a6 a7 => rtp_o a5)
  · rw [e3, rtp_o (by omega), rtp_o (by omega), rtp_o (by omega)]
    have h9 := rk_inj (k0.symm.trans k0')
    have h8 : ∀ d d' x y : Int, some (rkO (rkA R c) a b lc d x) = some (rkO (rkA R c) (ρ (3395 + c)) (ρ (3399 + c)) lc' d y) → some (rkO (rkA R c) a b lc d' x) = some (rkO (rkA R c) (ρ (3395 + c)) (ρ (3399 + c)) lc' d' y) := fun d d' x y h => by
      injection h with h
      injection h with h
      injection h with _ h
      injection h with h1 h
      injection h with h2 h
      injection h with h3 h
      injection h with h4 h
      injection h with h5 h
      show some (Sum.inl (4, [.int (iI a), .int (iI b), .int (iI lc), .int (iI d'), .int (iI x), .ref (rkA R c + 1)]) : Cel) = _
      rw [h1, h2, h3, h5]
    exact h8 _ _ _ _ (k0.symm.trans k0')
  · rw [e3]; split <;> first | omega | (split <;> omega)
  · rw [rtp_o (by omega)] at b; rw [rtp_o (by omega)]; exact k4 q a b
  · rw [rtp_o (by omega)]; exact n8 q a b
