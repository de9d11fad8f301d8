theorem rsn2_p {ρ : Int → Int} (hS : SI ρ) (hw : ρ 382 ≤ 59) {ch to cn : Int} (hch : ch = rch ρ) (hto : to = 383 + 50 * ρ 382) (hcn : cn = 5 + (if ch = -1 then 4 else ch)) :
    (rsn2 ρ to = ρ 0 ∧ rsn2 ρ (to + 1) = 0 ∧ rsn2 ρ (to + 2) = rclk ρ ∧ rsn2 ρ (to + 3) = 1000 * ρ 3 + ρ 2 ∧ rsn2 ρ (to + 4) = ρ 4 ∧ rsn2 ρ (to + 4 + 1) = (if ch = -1 then 7 else ch) ∧ rsn2 ρ (to + 4 + 2) = ρ cn) ∧
    (ch = -1 → rsn2 ρ (to + 4 + 3) = 254 ∧ ∀ k, 0 ≤ k → k < ρ 0 → rsn2 ρ (to + 4 + 4 + k) = 85) ∧
    (¬ ch = -1 → Qs (rsn1 ρ) ch ∧ 1 ≤ pend (rsn1 ρ) ch ∧ rsn1 ρ 3 = ρ 3 ∧ rsn1 ρ (50 + ch) = ρ (50 + ch) ∧ rsn1 ρ (to + 4 + 3) = 255 ∧ rsn1 ρ (41 + ch) = ρ (41 + ch)) ∧
    (∀ q, q < 382 → rsn1 ρ q = rwtN ρ ch 4 q) ∧
    (∀ q, (ch = -1 ∨ (q ≠ 46 + ch ∧ q ≠ 50 + ch ∧ q ≠ 54 + ch ∧ q ≠ 58 + ch ∧ (q < 62 + 80 * ch ∨ 62 + 80 * ch + 80 ≤ q))) → q < to → rsn2 ρ q = rwtN ρ ch 4 q) ∧
    ∀ k, 0 ≤ k → k < 4 + ρ 0 → 0 ≤ rsn2 ρ (to + 4 + k) ∧ rsn2 ρ (to + 4 + k) ≤ 255 := by
  obtain ⟨hD, hSc, hS3, hS1, hS4, hS5, hS382, hS2⟩ := id hS
  have hcb := rch_b (ρ := ρ)
  have hcn2 : (ch = -1 ∧ cn = 9) ∨ (0 ≤ ch ∧ ch ≤ 3 ∧ cn = 5 + ch) := by
    by_cases h : ch = -1
    · rw [if_pos h] at hcn; omega
    · rw [if_neg h] at hcn; omega
  have hcnb : 0 ≤ ρ cn ∧ ρ cn ≤ 255 := by
    have := hS5 (cn - 5) (by omega) (by omega)
    rwa [show 5 + (cn - 5) = cn by omega] at this
  unfold rsn2
  have e1 : rsn1 ρ = rhd (rwtN ρ ch 4) ch to cn (ρ 0) := by unfold rsn1; rw [← hch, ← hto, ← hcn]
  rw [e1, ← hch, ← hto]
  have hao : ∀ q, (q < 37 ∨ 41 ≤ q) → rwtN ρ ch 4 q = ρ q := fun q h => rwtN_o 4 (by omega)
  have haE : ∀ c, 0 ≤ c → c ≤ 3 → QE ρ (rwtN ρ ch 4) c := fun c h0 h1 => rwtN_E 4 (by omega) ⟨h0, h1⟩
  obtain ⟨a, ha⟩ : ∃ a, a = rwtN ρ ch 4 := ⟨_, rfl⟩
  rw [← ha] at hao haE ⊢
  have hak : rclk a = rclk ρ := by unfold rclk; rw [hao 3 (by omega), hao 1 (by omega)]
  obtain ⟨b, hb⟩ : ∃ b, b = rhd a ch to cn (ρ 0) := ⟨_, rfl⟩
  rw [← hb]
  have hbo : ∀ q, q < to → b q = a q := fun q h => by rw [hb]; exact rhd_o h
  have hbE : ∀ c, 0 ≤ c → c ≤ 3 → QE ρ b c := fun c h0 h1 => (haE c h0 h1).tr ⟨hbo _ (by omega), hbo _ (by omega), fun q h2 h3 => hbo _ (by omega)⟩
  have hbQ : 0 ≤ ch → Qs b ch := fun h => (hbE ch h (by omega)).s (hSc ch h (by omega)).1
  have hbP : 0 ≤ ch → 1 ≤ pend b ch := fun h => by rw [(hbE ch h (by omega)).pd (hSc ch h (by omega)).1.1.m.2]; exact rch_p h hch hS
  have hb3 : b 3 = ρ 3 := by rw [hbo _ (by omega), hao _ (by omega)]
  have hb50 : b (50 + ch) = ρ (50 + ch) := by rw [hbo _ (by omega), hao _ (by omega)]
  have hb41 : ¬ ch = -1 → b (41 + ch) = ρ (41 + ch) := fun h => by rw [hbo _ (by omega), hao _ (by omega)]
  have hT0 : b to = ρ 0 := by rw [hb]; unfold rhd; simp (disch := omega) only [up_s, up_n]
  have hT1 : b (to + 1) = 0 := by rw [hb]; unfold rhd; simp (disch := omega) only [up_s, up_n]
  have hT2 : b (to + 2) = rclk ρ := by rw [hb]; unfold rhd; simp (disch := omega) only [up_s, up_n]; exact hak
  have hT3 : b (to + 3) = 1000 * ρ 3 + ρ 2 := by rw [hb]; unfold rhd; simp (disch := omega) only [up_s, up_n]; rw [hao 3 (by omega), hao 2 (by omega)]
  have hT4 : b (to + 4) = ρ 4 := by rw [hb]; unfold rhd; simp (disch := omega) only [up_s, up_n]; rw [hao 4 (by omega)]
  have hT5 : b (to + 4 + 1) = if ch = -1 then 7 else ch := by rw [hb]; unfold rhd; simp (disch := omega) only [up_s, up_n]
  have hT6 : b (to + 4 + 2) = ρ cn := by rw [hb]; unfold rhd; simp (disch := omega) only [up_s, up_n]; rw [hao cn (by omega)]
  have hT7 : b (to + 4 + 3) = if ch = -1 then 254 else 255 := by rw [hb]; unfold rhd; rw [up_s]
  have hb7 : 0 ≤ b (to + 4 + 3) ∧ b (to + 4 + 3) ≤ 255 := by rw [hT7]; split <;> omega
  obtain ⟨cc, hcc⟩ : ∃ cc, cc = ridl b ch (ρ 0) := ⟨_, rfl⟩
  rw [← hcc]
  have hcK : ¬ ch = -1 → (0 ≤ ch ∧ ch ≤ 3) ∧ KI cc ch to (ρ 0) := fun h => ⟨by omega, by rw [hcc]; exact ridl_K (by omega) (by omega) hS.1 (hbQ (by omega)) (hbP (by omega)) (by rw [hb3]; omega) (by rw [hb50]; have := hSc ch (by omega) (by omega); omega) hb7⟩
  have hco : ∀ q, (¬ ch = -1 → q ≠ 54 + ch ∧ (q < 62 + 80 * ch ∨ 62 + 80 * ch + 80 ≤ q)) → cc q = b q := fun q h => by rw [hcc]; exact ridl_g (fun h => ⟨by omega, (hbQ (by omega)).1.m⟩) h
  have hdo : ∀ q, (¬ ch = -1 → q ≠ 46 + ch ∧ q ≠ 50 + ch ∧ q ≠ 54 + ch ∧ q ≠ 58 + ch ∧ (q < 62 + 80 * ch ∨ 62 + 80 * ch + 80 ≤ q)) → q < to + 4 + 3 → rflN cc to ch (ρ 0).toNat q = b q := fun q h h2 => by
    rw [rflN_g hcK (by omega) (by omega) h (ρ 0).toNat (by omega) (by omega) (by omega), hco q (fun h3 => by have := h h3; omega)]
  have h7 := rflN_7 hcK (show 383 ≤ to by omega) (by rw [hco _ (fun h => by omega)]; exact hb7) (ρ 0).toNat (by omega) (by omega)
  refine ⟨⟨(hdo _ (by omega) (by omega)).trans hT0, (hdo _ (by omega) (by omega)).trans hT1, (hdo _ (by omega) (by omega)).trans hT2, (hdo _ (by omega) (by omega)).trans hT3, (hdo _ (by omega) (by omega)).trans hT4, (hdo _ (by omega) (by omega)).trans hT5, (hdo _ (by omega) (by omega)).trans hT6⟩, fun h => ?_, fun h => ⟨hbQ (by omega), hbP (by omega), hb3, hb50, by rw [hT7, if_neg h], hb41 h⟩, fun q h => hbo q (by omega), fun q h h2 => (hdo q (by omega) (by omega)).trans (hbo q h2), fun k h0 h1 => ?_⟩
  · have key : ∀ n : Nat, n ≤ 255 → rflN cc to ch n (to + 4 + 3) = 254 ∧ ∀ k : Int, 0 ≤ k → k < n → rflN cc to ch n (to + 4 + 4 + k) = 85 := fun n => by
      induction n with
      | zero => intro _; exact ⟨by show cc _ = 254; rw [hco _ (by omega), hT7, if_pos h], fun k h0 h1 => by omega⟩
      | succ n ih =>
        intro hn
        obtain ⟨i1, i2⟩ := ih (by omega)
        show rfl1 (rflN cc to ch n) to ch n _ = 254 ∧ ∀ k : Int, 0 ≤ k → k < ((n + 1 : Nat) : Int) → rfl1 (rflN cc to ch n) to ch n _ = 85
        unfold rfl1
        rw [if_pos h]
        refine ⟨by rw [up_n (by omega)]; exact i1, fun k h0 h1 => ?_⟩
        by_cases e : k = n
        · rw [e, up_s]
        · rw [up_n (by omega)]; exact i2 k h0 (by omega)
    have k9 := key (ρ 0).toNat (by omega)
    exact ⟨k9.1, fun k h0 h1 => k9.2 k h0 (by omega)⟩
  · rcases (show k = 0 ∨ k = 1 ∨ k = 2 ∨ k = 3 ∨ 4 ≤ k by omega) with e | e | e | e | e
    · rw [e, Int.add_zero, hdo _ (by omega) (by omega), hT4]; exact hS4
    · rw [e, hdo _ (by omega) (by omega), hT5]; split <;> omega
    · rw [e, hdo _ (by omega) (by omega), hT6]; exact hcnb
    · rw [e]; exact h7
    · have := rflN_b (k := k - 4) hcK (show 383 ≤ to by omega) (ρ 0).toNat (by omega) (by omega) (by omega) (by omega)
      rwa [show to + 4 + 4 + (k - 4) = to + 4 + k by omega] at this
theorem rsnd_f {ρ : Int → Int} (hS : SI ρ) (hw : ρ 382 ≤ 59) {ch to : Int} (hch : ch = rch ρ) (hto : to = 383 + 50 * ρ 382) :
    (∀ q, 0 ≤ q → q < 8 + ρ 0 → rsnd ρ (to + q) = rsn2 ρ (to + q)) ∧ rsnd ρ (to + 8 + ρ 0) = crcF (rsn2 ρ) (ρ 382) / 256 ∧ rsnd ρ (to + 8 + ρ 0 + 1) = crcF (rsn2 ρ) (ρ 382) % 256 ∧
    (∀ q, 25 ≤ q → q < 382 → q ≠ 41 + (if ch = -1 then 4 else ch) → rsnd ρ q = rsn2 ρ q) ∧
    Ff (rsn2 ρ) (ρ 382) ∧ ckp (rsn2 ρ) (ρ 382) = to + 8 + ρ 0 := by
  obtain ⟨p1, p2, p3, p3b, p4, p5⟩ := rsn2_p hS hw hch hto rfl
  obtain ⟨hD, hSc, hS3, hS1, hS4, hS5, hS382, hS2⟩ := id hS
  have hcb := rch_b (ρ := ρ)
  have hcn2 : (ch = -1 ∧ (if ch = -1 then (4 : Int) else ch) = 4) ∨ (0 ≤ ch ∧ ch ≤ 3 ∧ (if ch = -1 then 4 else ch) = ch) := by
    by_cases h : ch = -1
    · rw [if_pos h]; omega
    · rw [if_neg h]; omega
  obtain ⟨c4, hc4⟩ : ∃ c4, c4 = (if ch = -1 then 4 else ch) := ⟨_, rfl⟩
  rw [← hc4] at hcn2 ⊢
  have hck : ckp (rsn2 ρ) (ρ 382) = to + 8 + ρ 0 := by unfold ckp; rw [← hto, p1.1]; omega
  have e : ∀ q, 10 ≤ q → q ≠ 382 → q ≠ 41 + c4 → rsnd ρ q = rlay (rsn2 ρ) (ρ 382) q := fun q x y z => by
    unfold rsnd rsn3
    rw [← hch, ← hc4, up_n (by omega), up_n (by omega), up_n (by omega), up_n (by omega), up_n (by omega)]
  have el : ∀ q, q ≠ to + 8 + ρ 0 → q ≠ to + 8 + ρ 0 + 1 → rlay (rsn2 ρ) (ρ 382) q = rsn2 ρ q := fun q x y => by
    unfold rlay
    rw [hck, up_n y, up_n x]
  refine ⟨fun q x y => by rw [e _ (by omega) (by omega) (by omega), el _ (by omega) (by omega)], ?_, ?_, fun q x y z => by rw [e q (by omega) (by omega) z, el q (by omega) (by omega)], ⟨by rw [← hto, p1.1]; omega, fun k x y => by rw [← hto] at y ⊢; rw [p1.1] at y; exact p5 k x y⟩, hck⟩
  · rw [e _ (by omega) (by omega) (by omega)]; unfold rlay; rw [hck, up_n (by omega), up_s]
  · rw [e _ (by omega) (by omega) (by omega)]; unfold rlay; rw [hck, up_s]
theorem fdv_b {a b : Int} : -(a.natAbs : Int) - 1 ≤ fdv a b ∧ fdv a b ≤ a.natAbs := by
  have := tdiv_b (a := a) (b := b)
  unfold fdv
  split <;> omega
theorem rclk_b {ρ : Int → Int} (h3 : 0 ≤ ρ 3 ∧ ρ 3 ≤ 99999) (h1 : -1000 ≤ ρ 1 ∧ ρ 1 ≤ 1000) : -200000000 ≤ rclk ρ ∧ rclk ρ ≤ 200000000 := by
  have hm := mul_b (a := ρ 3) (b := ρ 1) (m := 99999) (n := 1000) (by omega) (by omega)
  have := fdv_b (a := ρ 3 * ρ 1) (b := 16)
  unfold rclk
  omega
theorem Wr.step {ρ : Int → Int} (hS : SI ρ) (hW : Wr ρ) (hw : ρ 382 ≤ 59) : Wr (rsnd ρ) := by
  obtain ⟨p1, p2, p3, p3b, p4, p5⟩ := rsn2_p hS hw rfl rfl rfl
  obtain ⟨f1, f2, f3, f4, f5, f6⟩ := rsnd_f hS hw rfl rfl
  obtain ⟨ch, cn, hch, hcn, r1, r2, r3, r4, r5, r6, r7, r8, r9⟩ := rsnd_p hS hw
  have hcr := crcF_b f5
  have hclk := rclk_b hS.2.2.1 hS.2.2.2.1
  have h3 := hS.2.2.1
  have h2 := hS.2.2.2.2.2.2.2
  have hD := hS.1
  have hw0 := hW.1
  refine ⟨by rw [r6]; omega, fun f a b => ?_⟩
  rw [r6] at b
  by_cases e : f = ρ 382
  · subst e
    have e0 := f1 0 (by omega) (by omega)
    rw [Int.add_zero] at e0
    refine ⟨by rw [e0, p1.1]; exact hD, by rw [f1 1 (by omega) (by omega), p1.2.1]; omega, by rw [f1 2 (by omega) (by omega), p1.2.2.1]; exact hclk, by rw [f1 3 (by omega) (by omega), p1.2.2.2.1]; omega, fun k x y => ?_⟩
    rw [e0, p1.1] at y
    by_cases z : k < 4 + ρ 0
    · rw [Int.add_assoc, f1 _ (by omega) (by omega), ← Int.add_assoc]; exact p5 k x z
    · rcases (show k = 4 + ρ 0 ∨ k = 5 + ρ 0 by omega) with w | w
      · rw [w, show 383 + 50 * ρ 382 + 4 + (4 + ρ 0) = 383 + 50 * ρ 382 + 8 + ρ 0 by omega, f2]; omega
      · rw [w, show 383 + 50 * ρ 382 + 4 + (5 + ρ 0) = 383 + 50 * ρ 382 + 8 + ρ 0 + 1 by omega, f3]; omega
  · have hf := hW.2 f a (by omega)
    have eo : ∀ q, 383 + 50 * f ≤ q → q < 383 + 50 * f + 50 → rsnd ρ q = ρ q := fun q x y => r8 q (by omega) (by omega) (by omega) (by omega)
    have hfl := hf.1
    refine ⟨by rw [eo _ (by omega) (by omega)]; exact hf.1, by rw [eo _ (by omega) (by omega)]; exact hf.2.1, by rw [eo _ (by omega) (by omega)]; exact hf.2.2.1, by rw [eo _ (by omega) (by omega)]; exact hf.2.2.2.1, fun k x y => ?_⟩
    rw [eo _ (by omega) (by omega)] at y
    rw [eo _ (by omega) (by omega)]
    exact hf.2.2.2.2 k x y
/-- counters that the class reads out of others -/
def XI (ρ : Int → Int) : Prop := ρ 4 = ρ 3 % 256 ∧ (∀ i, 0 ≤ i → i ≤ 4 → ρ (5 + i) = ρ (41 + i) % 256) ∧ ∀ a, 0 ≤ a → a ≤ 14 → 0 ≤ ρ (10 + a) ∧ ρ (10 + a) ≤ 255
theorem XI.step {ρ : Int → Int} (hS : SI ρ) (hX : XI ρ) (hw : ρ 382 ≤ 59) : XI (rsnd ρ) := by
  obtain ⟨ch, cn, hch, hcn, r1, r2, r3, r4, r5, r6, r7, r8, r9⟩ := rsnd_p hS hw
  obtain ⟨x1, x2, x3⟩ := hX
  refine ⟨by rw [r3, r4]; omega, fun i a b => ?_, fun a x y => by rw [r1 _ (by omega) (by omega) (by omega) (by omega)]; exact x3 a x y⟩
  have h2 := x2 i a b
  rw [r7 i a b]
  by_cases e : 5 + i = cn
  · rw [if_pos (by omega), e, r5, ← e]; omega
  · rw [if_neg (by omega), r1 _ (by omega) (by omega) (by omega) e]; exact h2
