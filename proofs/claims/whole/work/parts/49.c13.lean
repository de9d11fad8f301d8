/-- a byte more, and what comes of it -/
theorem td_step (l : Launch) {N NA : ME} {R : Nat} {ρ : Int → Int} {c v lc B : Int} {gk : Int → Int} (hc : 0 ≤ c ∧ c ≤ 3) (hv : 0 ≤ v ∧ v ≤ 255) (h : RR N R ρ) (hP : Pi ρ c) (hA : Ai ρ) (hT : Tp ρ) (hPi : ∀ i, 0 ≤ i → i ≤ 3 → ρ (3407 + i) ≤ 258) (hC : CI B ρ) (hB : B ≤ 1000000000) (k2 : ¬ ρ (3390 + c) = -1 → lc = ρ (3390 + c)) (k3 : 0 ≤ ρ (3403 + c) ∧ ρ (3403 + c) ≤ 1) (k4 : ∀ q, 0 ≤ q → q < ρ (3407 + c) → gk q = ρ (3411 + 258 * c + q)) (hNA : NA = mu (mu N (rkA R c + 1) (aI 258 (up gk (ρ (3407 + c)) v))) (rkA R c) (rkO (rkA R c) (ρ (3395 + c)) (ρ (3399 + c)) lc (ρ (3403 + c)) (ρ (3407 + c) + 1))) :
    (3 ≤ ρ (3407 + c) + 1 → r32 (3 + up gk (ρ (3407 + c)) v 2)) ∧ ∃ bd : Int, (if 3 ≤ ρ (3407 + c) + 1 ∧ 3 + up gk (ρ (3407 + c)) v 2 ≤ ρ (3407 + c) + 1 then (1 : Int) else 0) = bd ∧ ((bd = 0 ∧ RR NA R (rap ρ c v) ∧ rav ρ c v = 0) ∨ (bd = 1 ∧ ∃ lm8, NA R = some (rcO R lm8) ∧ CP l yX5_deliver cX5_deliver 5 (some .int) (rmN 2) [.ref R, .ref (rkA R c), .int (iI c)] NA (fun w M' => w = some (.int (iI (rav ρ c v))) ∧ M' (rkA R c) = NA (rkA R c) ∧ RR (mu M' (rkA R c) (rkO (rkA R c) (ρ (3395 + c)) (ρ (3399 + c)) lc (ρ (3403 + c)) 0)) R (rap ρ c v) ∧ FR NA M' R 80))) := by
  have hkA : rkA R c = R + 72 + 2 * c.toNat := rfl
  have hpb := hP.1
  have hA2 := RR.ra2 hc hv h hP hA hT hPi k2 k3 k4
  rw [← hNA] at hA2
  have hNk : NA (rkA R c) = some (rkO (rkA R c) (ρ (3395 + c)) (ρ (3399 + c)) lc (ρ (3403 + c)) (ρ (3407 + c) + 1)) := by rw [hNA]; exact mu_eq
  have hw2 : 3 ≤ ρ (3407 + c) + 1 → up gk (ρ (3407 + c)) v 2 = ra2 ρ c v (3411 + 258 * c + 2) := fun z => hA2.1 2 (by omega) (by omega)
  have hrd := raD_e hc hv hP hw2
  have h2b := ra2_b hc hP hv
  have h2o : ∀ q, q ≠ 3407 + c → (q < 3411 + 258 * c ∨ 3411 + 258 * c + 258 ≤ q) → ra2 ρ c v q = ρ q := fun q a b => ra2_o hP hc a b
  have h2m : ra2 ρ c v (3407 + c) = ρ (3407 + c) + 1 := ra2_m
  refine ⟨fun z => by have := hrd.1 z; rw [hw2 z]; unfold r32; omega, ?_⟩
  by_cases hd : raD ρ c v
  · refine ⟨1, if_pos (hrd.2.mpr hd), Or.inr ⟨rfl, ?_⟩⟩
    obtain ⟨lm8, cn8, ap8, am8, ab8, al8, na0, -⟩ := id hA2.2.1
    refine ⟨lm8, na0, ?_⟩
    have hDV := c5_deliver l NA R (ra2 ρ c v) c hc hA2.2 (hA.cg fun q x y => h2o q (by omega) (by omega)) (hT.cg fun q x y => h2o q (by omega) (by omega)) (fun i a b => by
      by_cases w : i = c
      · rw [w, h2m]; omega
      · rw [h2o _ (by omega) (by omega)]; exact hPi i a b) (by rw [h2m]; exact hd.1) (by have := h2b 0 (by omega) (by omega); rwa [Int.add_zero] at this) (h2b 1 (by omega) (by omega)) (hrd.1 hd.1) (by rw [h2m]; exact hd.2) (fun a x y => by
      rw [h2o _ (by omega) (by omega), h2o _ (by omega) (by omega)]
      have := hC.2.2.1 a x y
      omega)
    have ev : (if ra2 ρ c v (3411 + 258 * c) < 15 then (1 : Int) else 0) = rav ρ c v := by
      unfold rav
      by_cases w : ra2 ρ c v (3411 + 258 * c) < 15
      · rw [if_pos w, if_pos ⟨hd, w⟩]
      · rw [if_neg w, if_neg (fun x => w x.2)]
    rw [ev] at hDV
    refine fun sz => (hDV sz).mono fun w M' _ hp => ⟨hp.1, (hp.2.1 _ hNk).trans hNk.symm, ?_, hp.2.2.2⟩
    unfold rap
    rw [if_pos hd]
    exact hp.2.2.1 _ _ _ _ _ hNk
  · refine ⟨0, if_neg (fun w => hd (hrd.2.mp w)), Or.inl ⟨rfl, ?_, ?_⟩⟩
    · unfold rap; rw [if_neg hd]; exact hA2.2
    · unfold rav; rw [if_neg (fun w => hd w.1)]
