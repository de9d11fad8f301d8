theorem rfl1_g {ρ : Int → Int} {to ch k q : Int} (hc : ¬ ch = -1 → (0 ≤ ch ∧ ch ≤ 3) ∧ 1 ≤ ρ (54 + ch) ∧ ρ (54 + ch) ≤ 13) (ht : 383 ≤ to) (hq : q ≠ to + 4 + 3 ∧ q ≠ to + 4 + 4 + k) (h : ¬ ch = -1 → q ≠ 46 + ch ∧ q ≠ 50 + ch ∧ q ≠ 54 + ch ∧ q ≠ 58 + ch ∧ (q < 62 + 80 * ch ∨ 62 + 80 * ch + 80 ≤ q)) : rfl1 ρ to ch k q = ρ q := by
  unfold rfl1
  split
  · exact up_n hq.2
  · rename_i hn
    obtain ⟨h1, h2, h3⟩ := hc hn
    have hE := rptr_E (ρ := ρ) (k := k) h1 ht
    rw [up_n hq.2, rtk_o h1 (by rw [hE.1]; exact ⟨h2, h3⟩) (h hn), rptr_o hq.1]
theorem rflN_g {ρ : Int → Int} {to ch w q : Int} (hc : ¬ ch = -1 → (0 ≤ ch ∧ ch ≤ 3) ∧ KI ρ ch to w) (ht : 383 ≤ to) (hq : q ≠ to + 4 + 3) (h : ¬ ch = -1 → q ≠ 46 + ch ∧ q ≠ 50 + ch ∧ q ≠ 54 + ch ∧ q ≠ 58 + ch ∧ (q < 62 + 80 * ch ∨ 62 + 80 * ch + 80 ≤ q)) : ∀ n : Nat, (n : Int) ≤ w → n ≤ 255 → (q < to + 4 + 4 ∨ to + 4 + 4 + n ≤ q) → rflN ρ to ch n q = ρ q
  | 0, _, _, _ => rfl
  | n + 1, hn, h2, h3 => by
    show rfl1 (rflN ρ to ch n) to ch n q = _
    rw [rfl1_g ?_ ht ⟨hq, by omega⟩ h, rflN_g hc ht hq h n (by omega) (by omega) (by omega)]
    intro hn'
    obtain ⟨a, b⟩ := hc hn'
    have hk := KI.N a ht b n (by omega) (by omega)
    exact ⟨a, hk.1.pend0.2.mp (by have := hk.2.1; omega), by have := hk.1.1.1; omega⟩
theorem ridl_g {ρ : Int → Int} {ch D j : Int} (hc : ¬ ch = -1 → (0 ≤ ch ∧ ch ≤ 3) ∧ 0 ≤ ρ (54 + ch) ∧ ρ (54 + ch) ≤ 15) (h : ¬ ch = -1 → j ≠ 54 + ch ∧ (j < 62 + 80 * ch ∨ 62 + 80 * ch + 80 ≤ j)) : ridl ρ ch D j = ρ j := by
  unfold ridl
  split
  · rename_i hh
    have h1 := hc hh.1
    have h2 := h hh.1
    exact rputs_o h1.1 h1.2 ⟨by omega, by omega⟩
  · rfl
theorem rwtN_w {ρ : Int → Int} {ch c : Int} (hS : ∀ c, 0 ≤ c → c ≤ 3 → ρ (54 + c) ≤ 15) (h0 : 0 ≤ c) : ∀ n : Nat, n ≤ 4 → c < n → rwtN ρ ch n (37 + c) = if ¬ c = ch ∧ 0 < pend ρ c then ρ (37 + c) + 1 else 0
  | 0, _, h => by omega
  | n + 1, hn, h => by
    show up (rwtN ρ ch n) (37 + n) (if ¬ (n : Int) = ch ∧ 0 < pend (rwtN ρ ch n) n then rwtN ρ ch n (37 + n) + 1 else 0) (37 + c) = _
    by_cases hc : c = n
    · subst hc
      rw [up_s, (rwtN_E (ρ := ρ) (ch := ch) (c := (n : Int)) n (by omega) (by omega)).pd (hS _ (by omega) (by omega)), rwtN_o n (by omega)]
    · rw [up_n (by omega)]
      exact rwtN_w hS h0 n (by omega) (by omega)
/-- a slot's row, cell by cell -/
theorem rsnd_p {ρ : Int → Int} (hS : SI ρ) (hw : ρ 382 ≤ 59) : ∃ ch cn : Int, ch = rch ρ ∧ ((ch = -1 ∧ cn = 9) ∨ (0 ≤ ch ∧ ch ≤ 3 ∧ cn = 5 + ch)) ∧
    (∀ q, q < 37 → q ≠ 3 → q ≠ 4 → q ≠ cn → rsnd ρ q = ρ q) ∧
    (∀ c, 0 ≤ c → c ≤ 3 → rsnd ρ (37 + c) = if ¬ c = ch ∧ 0 < pend ρ c then ρ (37 + c) + 1 else 0) ∧
    rsnd ρ 3 = ρ 3 + 1 ∧ rsnd ρ 4 = (ρ 4 + 1) % 256 ∧ rsnd ρ cn = (ρ cn + 1) % 256 ∧ rsnd ρ 382 = ρ 382 + 1 ∧
    (∀ i, 0 ≤ i → i ≤ 4 → rsnd ρ (41 + i) = if 41 + i = 41 + cn - 5 then ρ (41 + i) + 1 else ρ (41 + i)) ∧
    (∀ q, 46 ≤ q → q ≠ 382 → (ch = -1 ∨ (q ≠ 46 + ch ∧ q ≠ 50 + ch ∧ q ≠ 54 + ch ∧ q ≠ 58 + ch ∧ (q < 62 + 80 * ch ∨ 62 + 80 * ch + 80 ≤ q))) → (q < 383 + 50 * ρ 382 ∨ 383 + 50 * ρ 382 + 50 ≤ q) → rsnd ρ q = ρ q) ∧
    (¬ ch = -1 → Qs (rsnd ρ) ch ∧ (-1 ≤ rsnd ρ (50 + ch) ∧ rsnd ρ (50 + ch) ≤ 100000)) := by
  obtain ⟨hD, hSc, hS3, hS1, hS4, hS5, hS382, hS2⟩ := id hS
  have hcb := rch_b (ρ := ρ)
  refine ⟨rch ρ, 5 + (if rch ρ = -1 then 4 else rch ρ), rfl, ?_⟩
  unfold rsnd rsn2 rsn1
  obtain ⟨ch, hch⟩ : ∃ ch, ch = rch ρ := ⟨_, rfl⟩
  rw [← hch] at hcb ⊢
  obtain ⟨cn, hcn, hcn2⟩ : ∃ cn, cn = 5 + (if ch = -1 then 4 else ch) ∧ ((ch = -1 ∧ cn = 9) ∨ (0 ≤ ch ∧ ch ≤ 3 ∧ cn = 5 + ch)) := by
    refine ⟨_, rfl, ?_⟩
    by_cases h : ch = -1
    · rw [if_pos h]; omega
    · rw [if_neg h]; omega
  rw [← hcn]
  refine ⟨hcn2, ?_⟩
  have hao : ∀ q, (q < 37 ∨ 41 ≤ q) → rwtN ρ ch 4 q = ρ q := fun q h => rwtN_o 4 (by omega)
  have haw : ∀ c, 0 ≤ c → c ≤ 3 → rwtN ρ ch 4 (37 + c) = if ¬ c = ch ∧ 0 < pend ρ c then ρ (37 + c) + 1 else 0 := fun c h0 h1 => rwtN_w (fun c h0 h1 => (hSc c h0 h1).1.1.m.2) h0 4 (by omega) (by omega)
  have haE : ∀ c, 0 ≤ c → c ≤ 3 → QE ρ (rwtN ρ ch 4) c := fun c h0 h1 => rwtN_E 4 (by omega) ⟨h0, h1⟩
  obtain ⟨a, ha⟩ : ∃ a, a = rwtN ρ ch 4 := ⟨_, rfl⟩
  rw [← ha] at hao haE haw ⊢
  obtain ⟨b, hb⟩ : ∃ b, b = rhd a ch (383 + 50 * ρ 382) cn (ρ 0) := ⟨_, rfl⟩
  rw [← hb]
  have hbo : ∀ q, q < 383 + 50 * ρ 382 → b q = a q := fun q h => by rw [hb]; exact rhd_o h
  have hbo2 : ∀ q, 383 + 50 * ρ 382 + 50 ≤ q → b q = a q := fun q h => by rw [hb]; unfold rhd; simp (disch := omega) only [up_n]
  have hbE : ∀ c, 0 ≤ c → c ≤ 3 → QE ρ b c := fun c h0 h1 => (haE c h0 h1).tr ⟨hbo _ (by omega), hbo _ (by omega), fun q h2 h3 => hbo _ (by omega)⟩
  have hbQ : 0 ≤ ch → Qs b ch := fun h => (hbE ch h (by omega)).s (hSc ch h (by omega)).1
  have hbP : 0 ≤ ch → 1 ≤ pend b ch := fun h => by rw [(hbE ch h (by omega)).pd (hSc ch h (by omega)).1.1.m.2]; exact rch_p h hch hS
  have hb3 : b 3 = ρ 3 := by rw [hbo _ (by omega), hao _ (by omega)]
  have hb50 : b (50 + ch) = ρ (50 + ch) := by rw [hbo _ (by omega), hao _ (by omega)]
  have hbT : b (383 + 50 * ρ 382) = ρ 0 := by rw [hb]; unfold rhd; simp (disch := omega) only [up_s, up_n]
  have hb7 : 0 ≤ b (383 + 50 * ρ 382 + 4 + 3) ∧ b (383 + 50 * ρ 382 + 4 + 3) ≤ 255 := by
    rw [hb]; unfold rhd; rw [up_s]
    split <;> omega
  obtain ⟨cc, hcc⟩ : ∃ cc, cc = ridl b ch (ρ 0) := ⟨_, rfl⟩
  rw [← hcc]
  have hcK : ¬ ch = -1 → (0 ≤ ch ∧ ch ≤ 3) ∧ KI cc ch (383 + 50 * ρ 382) (ρ 0) := fun h => ⟨by omega, by rw [hcc]; exact ridl_K (by omega) (by omega) hS.1 (hbQ (by omega)) (hbP (by omega)) (by rw [hb3]; omega) (by rw [hb50]; have := hSc ch (by omega) (by omega); omega) hb7⟩
  have hco : ∀ q, (¬ ch = -1 → q ≠ 54 + ch ∧ (q < 62 + 80 * ch ∨ 62 + 80 * ch + 80 ≤ q)) → cc q = b q := fun q h => by rw [hcc]; exact ridl_g (fun h => ⟨by omega, (hbQ (by omega)).1.m⟩) h
  obtain ⟨d, hd⟩ : ∃ d, d = rflN cc (383 + 50 * ρ 382) ch (ρ 0).toNat := ⟨_, rfl⟩
  rw [← hd]
  have hdo : ∀ q, (¬ ch = -1 → q ≠ 46 + ch ∧ q ≠ 50 + ch ∧ q ≠ 54 + ch ∧ q ≠ 58 + ch ∧ (q < 62 + 80 * ch ∨ 62 + 80 * ch + 80 ≤ q)) → (q < 383 + 50 * ρ 382 + 4 + 3 ∨ 383 + 50 * ρ 382 + 50 ≤ q) → d q = b q := fun q h h2 => by
    rw [hd, rflN_g hcK (by omega) (by omega) h (ρ 0).toNat (by omega) (by omega) (by omega), hco q (fun h3 => by have := h h3; omega)]
  have hdT : d (383 + 50 * ρ 382) = ρ 0 := by rw [hdo _ (by omega) (by omega), hbT]
  have hck : ckp d (ρ 382) = 383 + 50 * ρ 382 + 8 + ρ 0 := by unfold ckp; rw [hdT]; omega
  have hl : ∀ q, (q < 383 + 50 * ρ 382 ∨ 383 + 50 * ρ 382 + 50 ≤ q) → rlay d (ρ 382) q = d q := fun q h => by
    unfold rlay
    rw [hck, up_n (by omega), up_n (by omega)]
  obtain ⟨e, he⟩ : ∃ e, e = rlay d (ρ 382) := ⟨_, rfl⟩
  rw [← he] at hl ⊢
  have hel : ∀ q, (¬ ch = -1 → q ≠ 46 + ch ∧ q ≠ 50 + ch ∧ q ≠ 54 + ch ∧ q ≠ 58 + ch ∧ (q < 62 + 80 * ch ∨ 62 + 80 * ch + 80 ≤ q)) → (q < 383 + 50 * ρ 382 ∨ 383 + 50 * ρ 382 + 50 ≤ q) → e q = a q := fun q h h2 => by
    rw [hl q h2, hdo q h (by omega)]
    rcases h2 with h2 | h2
    · exact hbo q h2
    · exact hbo2 q h2
  have h3' : ∀ q, q ≠ 382 → q ≠ 4 → q ≠ 41 + cn - 5 → q ≠ cn → q ≠ 3 → rsn3 e cn q = e q := fun q x1 x2 x3 x4 x5 => by
    unfold rsn3
    rw [up_n x5, up_n x4, up_n x3, up_n x2, up_n x1]
  have e3 := hel 3 (by omega) (by omega)
  have e4 := hel 4 (by omega) (by omega)
  have ecn := hel cn (by omega) (by omega)
  have e382 := hel 382 (by omega) (by omega)
  refine ⟨fun q h0 h1 h2 h3 => ?_, fun c h0 h1 => ?_, ?_, ?_, ?_, ?_, fun i h0 h1 => ?_, fun q h0 h1 h2 h3 => ?_, fun h => ?_⟩
  · rw [h3' q (by omega) h2 (by omega) h3 h1, hel q (by omega) (by omega), hao q (by omega)]
  · rw [h3' _ (by omega) (by omega) (by omega) (by omega) (by omega), hel _ (by omega) (by omega)]
    exact haw c h0 h1
  · unfold rsn3; rw [up_s, e3, hao _ (by omega)]
  · unfold rsn3; rw [up_n (by omega), up_n (by omega), up_n (by omega), up_s, e4, hao _ (by omega)]
  · unfold rsn3; rw [up_n (by omega), up_s, ecn, hao _ (by omega)]
  · unfold rsn3; rw [up_n (by omega), up_n (by omega), up_n (by omega), up_n (by omega), up_s, e382, hao _ (by omega)]
  · have ei := hel (41 + i) (by omega) (by omega)
    by_cases hh : 41 + i = 41 + cn - 5
    · rw [if_pos hh]; unfold rsn3; rw [hh, up_n (by omega), up_n (by omega), up_s, ← hh, ei, hao _ (by omega)]
    · rw [if_neg hh, h3' _ (by omega) (by omega) hh (by omega) (by omega), ei, hao _ (by omega)]
  · rw [h3' q h1 (by omega) (by omega) (by omega) (by omega), hel q (by omega) h3, hao q (by omega)]
  · obtain ⟨k1, k2⟩ := hcK h
    have kd := KI.N k1 (by omega) k2 (ρ 0).toNat (by omega) (by omega)
    rw [← hd] at kd
    have hE : QE d (rsn3 e cn) ch := ⟨by rw [h3' _ (by omega) (by omega) (by omega) (by omega) (by omega), hl _ (by omega)], by rw [h3' _ (by omega) (by omega) (by omega) (by omega) (by omega), hl _ (by omega)], fun q h5 h6 => by rw [h3' _ (by omega) (by omega) (by omega) (by omega) (by omega), hl _ (by omega)]⟩
    refine ⟨hE.s kd.1, ?_⟩
    rw [h3' _ (by omega) (by omega) (by omega) (by omega) (by omega), hl _ (by omega)]
    exact kd.2.2.2.1
