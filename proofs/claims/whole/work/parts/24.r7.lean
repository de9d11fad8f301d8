theorem rclk_up {ρ : Int → Int} {k v : Int} (h : 4 ≤ k) : rclk (up ρ k v) = rclk ρ := by
  unfold rclk
  rw [up_n (by omega), up_n (by omega)]
theorem rhd_o {ρ : Int → Int} {ch to cn D q : Int} (h : q < to) : rhd ρ ch to cn D q = ρ q := by
  unfold rhd
  rw [up_n (by omega), up_n (by omega), up_n (by omega), up_n (by omega), up_n (by omega), up_n (by omega), up_n (by omega), up_n (by omega)]
theorem rputs_o {ρ : Int → Int} {c a q n s j : Int} (hc : 0 ≤ c ∧ c ≤ 3) (hm : 0 ≤ ρ (54 + c) ∧ ρ (54 + c) ≤ 15) (h : j ≠ 54 + c ∧ (j < 62 + 80 * c + 5 * ρ (54 + c) ∨ 62 + 80 * c + 5 * ρ (54 + c) + 5 ≤ j)) : rputs ρ c a q n s j = ρ j := by
  unfold rputs
  rw [up_n (by omega), up_n (by omega), up_n (by omega), up_n (by omega), up_n (by omega), up_n (by omega)]
theorem rputs_m {ρ : Int → Int} {c a q n s : Int} : rputs ρ c a q n s (54 + c) = ρ (54 + c) + 1 := by unfold rputs; rw [up_s]
theorem rputs_p {ρ : Int → Int} {c a q n s i : Int} (hc : 0 ≤ c ∧ c ≤ 3) (hm : 0 ≤ ρ (54 + c) ∧ ρ (54 + c) ≤ 15) (hi : i = ρ (54 + c)) : rputs ρ c a q n s (62 + 80 * c + 5 * i) = a ∧ rputs ρ c a q n s (62 + 80 * c + 5 * i + 1) = q ∧ rputs ρ c a q n s (62 + 80 * c + 5 * i + 2) = n ∧ rputs ρ c a q n s (62 + 80 * c + 5 * i + 3) = s ∧ rputs ρ c a q n s (62 + 80 * c + 5 * i + 4) = ρ 3 := by
  subst hi
  unfold rputs
  refine ⟨?_, ?_, ?_, ?_, ?_⟩ <;> simp (disch := omega) only [up_s, up_n]
theorem rputs_s {ρ : Int → Int} {c a q n s : Int} (hc : 0 ≤ c ∧ c ≤ 3) (h : Qs ρ c) (hm : ρ (54 + c) ≤ 12) (ha : 0 ≤ a ∧ a ≤ 15) (hq : 0 ≤ q ∧ q ≤ 255) (hn : 1 ≤ n ∧ n ≤ 50) (hs : 0 ≤ s ∧ s ≤ 255) (h3 : 0 ≤ ρ 3 ∧ ρ 3 ≤ 100000) : Qs (rputs ρ c a q n s) c ∧ pend (rputs ρ c a q n s) c = pend ρ c + (3 + n) := by
  obtain ⟨⟨h1, h2, h5⟩, h4⟩ := h
  have ho : ∀ j, j ≠ 54 + c → (j < 62 + 80 * c + 5 * ρ (54 + c) ∨ 62 + 80 * c + 5 * ρ (54 + c) + 5 ≤ j) → rputs ρ c a q n s j = ρ j := fun j a b => rputs_o hc (by omega) ⟨a, b⟩
  have hp := rputs_p (ρ := ρ) (c := c) (a := a) (q := q) (n := n) (s := s) hc (by omega) rfl
  obtain ⟨σ, hσ⟩ : ∃ σ, σ = rputs ρ c a q n s := ⟨_, rfl⟩
  have hmm : σ (54 + c) = ρ (54 + c) + 1 := by rw [hσ]; exact rputs_m
  rw [← hσ] at ho hp ⊢
  have hoff : σ (58 + c) = ρ (58 + c) := ho _ (by omega) (by omega)
  have hQ : Qc σ c := by
    refine ⟨by omega, by omega, fun i h0 hi => ?_⟩
    by_cases hl : i = ρ (54 + c)
    · subst hl
      rw [hp.1, hp.2.1, hp.2.2.1, hp.2.2.2.1, hp.2.2.2.2]
      exact ⟨ha, hq, hn, hs, h3⟩
    · rw [ho _ (by omega) (by omega), ho _ (by omega) (by omega), ho _ (by omega) (by omega), ho _ (by omega) (by omega), ho _ (by omega) (by omega)]
      exact h5 i h0 (by omega)
  have hps : psum σ c (ρ (54 + c)).toNat = psum ρ c (ρ (54 + c)).toNat := psum_cg _ (fun i h0 hi => ho _ (by omega) (by omega))
  refine ⟨⟨hQ, ?_⟩, ?_⟩
  · right
    refine ⟨by omega, ?_⟩
    rcases h4 with ⟨a0, b0⟩ | ⟨a0, b0⟩
    · have := hp.2.2.1
      rw [a0, show 62 + 80 * c + 5 * 0 + 2 = 62 + 80 * c + 2 by omega] at this
      omega
    · rw [ho (62 + 80 * c + 2) (by omega) (by omega)]
      omega
  · unfold pend
    rw [hmm, hoff, show (ρ (54 + c) + 1).toNat = (ρ (54 + c)).toNat + 1 by omega]
    show -ρ (58 + c) + (psum σ c (ρ (54 + c)).toNat + (3 + σ (62 + 80 * c + 5 * ((ρ (54 + c)).toNat : Int) + 2))) = _
    rw [hps, Int.toNat_of_nonneg h1.1, hp.2.2.1]
    omega
theorem Qs.lb {ρ : Int → Int} {c : Int} (h : Qs ρ c) (h1 : 1 ≤ ρ (54 + c)) : 4 * (ρ (54 + c) - 1) + 1 ≤ pend ρ c := by
  obtain ⟨⟨hm, ho, hp⟩, h4⟩ := h
  have hb : ρ (58 + c) < 3 + ρ (62 + 80 * c + 2) := by omega
  have : ∀ n : Nat, ((n : Int) + 1 ≤ ρ (54 + c)) → 3 + ρ (62 + 80 * c + 2) + 4 * n ≤ psum ρ c (n + 1) := by
    intro n
    induction n with
    | zero =>
      intro _
      show _ ≤ 0 + (3 + ρ (62 + 80 * c + 5 * ((0 : Nat) : Int) + 2))
      rw [show (62 + 80 * c + 5 * ((0 : Nat) : Int) + 2) = 62 + 80 * c + 2 by omega]
      omega
    | succ n ih =>
      intro hn
      have h4 := ih (by omega)
      have h5 := (hp ((n : Int) + 1) (by omega) (by omega)).2.2.1
      show _ ≤ psum ρ c (n + 1) + (3 + ρ (62 + 80 * c + 5 * ((n + 1 : Nat) : Int) + 2))
      rw [show (62 + 80 * c + 5 * ((n + 1 : Nat) : Int) + 2) = 62 + 80 * c + 5 * ((n : Int) + 1) + 2 by omega]
      omega
  have h7 := this ((ρ (54 + c)).toNat - 1) (by omega)
  rw [show (ρ (54 + c)).toNat - 1 + 1 = (ρ (54 + c)).toNat by omega] at h7
  unfold pend
  omega
theorem ridl_K {ρ : Int → Int} {ch to D : Int} (hc : 0 ≤ ch ∧ ch ≤ 3) (ht : 383 ≤ to) (hD : 8 ≤ D ∧ D ≤ 40) (hQ : Qs ρ ch) (hp : 1 ≤ pend ρ ch) (h3 : 0 ≤ ρ 3 ∧ ρ 3 ≤ 100000) (h5 : -1 ≤ ρ (50 + ch) ∧ ρ (50 + ch) ≤ 100000) (h7 : 0 ≤ ρ (to + 4 + 3) ∧ ρ (to + 4 + 3) ≤ 255) : KI (ridl ρ ch D) ch to D := by
  unfold ridl
  by_cases hl : pend ρ ch < D
  · rw [if_pos ⟨by omega, hl⟩]
    have hm := hQ.pend0.2.mp hp
    have hlb := hQ.lb hm
    obtain ⟨n, hn⟩ : ∃ n, n = (if D - pend ρ ch < 4 then 1 else D - pend ρ ch - 3) := ⟨_, rfl⟩
    have hnb : 1 ≤ n ∧ n ≤ 50 ∧ D ≤ pend ρ ch + (3 + n) := by
      rw [hn]
      split <;> omega
    rw [← hn]
    obtain ⟨q1, q2⟩ := rputs_s (a := 15) (q := 0) (n := n) (s := 0) hc hQ (by omega) (by omega) (by omega) (by omega) (by omega) h3
    have ho : ∀ j, j ≠ 54 + ch → (j < 62 + 80 * ch ∨ 382 ≤ j) → rputs ρ ch 15 0 n 0 j = ρ j := fun j a b => rputs_o hc (by have := hQ.1.1; omega) ⟨a, by have := hQ.1.1; omega⟩
    refine ⟨q1, by omega, ?_, ?_, ?_⟩
    · rw [ho _ (by omega) (by omega)]; exact h3
    · rw [ho _ (by omega) (by omega)]; exact h5
    · rw [ho _ (by omega) (by omega)]; exact h7
  · rw [if_neg (by omega)]
    exact ⟨hQ, by omega, h3, h5, h7⟩
theorem ridl_o {ρ : Int → Int} {ch D j : Int} (hc : ¬ ch = -1 → 0 ≤ ch ∧ ch ≤ 3 ∧ 0 ≤ ρ (54 + ch) ∧ ρ (54 + ch) ≤ 15) (h : 382 ≤ j ∨ j < 54) : ridl ρ ch D j = ρ j := by
  unfold ridl
  split
  · rename_i hh
    have := hc hh.1
    exact rputs_o ⟨by omega, by omega⟩ ⟨by omega, by omega⟩ ⟨by omega, by omega⟩
  · rfl
theorem rbyte_b {ρ : Int → Int} {c k : Int} (h : Qs ρ c) (hm : 1 ≤ ρ (54 + c)) (hk : 0 ≤ k) : 0 ≤ rbyte ρ c k ∧ rbyte ρ c k ≤ 255 := by
  have e0 := h.1.2.2 0 (by omega) (by omega)
  rw [show 62 + 80 * c + 5 * 0 = 62 + 80 * c by omega] at e0
  unfold rbyte
  split
  · rcases (show k = 0 ∨ k = 1 ∨ k = 2 by omega) with rfl | rfl | rfl
    · rw [show 62 + 80 * c + 0 = 62 + 80 * c by omega]; omega
    · omega
    · omega
  · split <;> omega
/-- what a fill leaves, and the bytes that it lays -/
theorem rfl1_o {ρ : Int → Int} {to ch k q : Int} (hc : ¬ ch = -1 → (0 ≤ ch ∧ ch ≤ 3) ∧ 1 ≤ ρ (54 + ch) ∧ ρ (54 + ch) ≤ 13) (ht : 383 ≤ to) (hq : 382 ≤ q) (h : q ≠ to + 4 + 3 ∧ q ≠ to + 4 + 4 + k) : rfl1 ρ to ch k q = ρ q := by
  unfold rfl1
  split
  · exact up_n h.2
  · rename_i hn
    obtain ⟨h1, h2, h3⟩ := hc hn
    have hE := rptr_E (ρ := ρ) (k := k) h1 ht
    rw [up_n h.2, rtk_o h1 (by rw [hE.1]; exact ⟨h2, h3⟩) (by omega), rptr_o h.1]
theorem rflN_o {ρ : Int → Int} {to ch w q : Int} (hc : ¬ ch = -1 → (0 ≤ ch ∧ ch ≤ 3) ∧ KI ρ ch to w) (ht : 383 ≤ to) (hq : 382 ≤ q) (hq2 : q ≠ to + 4 + 3) : ∀ n : Nat, (n : Int) ≤ w → n ≤ 255 → (q < to + 4 + 4 ∨ to + 4 + 4 + n ≤ q) → rflN ρ to ch n q = ρ q
  | 0, _, _, _ => rfl
  | n + 1, hn, h2, h3 => by
    show rfl1 (rflN ρ to ch n) to ch n q = _
    rw [rfl1_o ?_ ht hq ⟨hq2, by omega⟩, rflN_o hc ht hq hq2 n (by omega) (by omega) (by omega)]
    intro hn'
    obtain ⟨a, b⟩ := hc hn'
    have hk := KI.N a ht b n (by omega) (by omega)
    exact ⟨a, hk.1.pend0.2.mp (by have := hk.2.1; omega), by have := hk.1.1.1; omega⟩
theorem rflN_7 {ρ : Int → Int} {to ch w : Int} (hc : ¬ ch = -1 → (0 ≤ ch ∧ ch ≤ 3) ∧ KI ρ ch to w) (ht : 383 ≤ to) (h7 : 0 ≤ ρ (to + 4 + 3) ∧ ρ (to + 4 + 3) ≤ 255) : ∀ n : Nat, (n : Int) ≤ w → n ≤ 255 → 0 ≤ rflN ρ to ch n (to + 4 + 3) ∧ rflN ρ to ch n (to + 4 + 3) ≤ 255
  | 0, _, _ => h7
  | n + 1, hn, h2 => by
    by_cases hh : ch = -1
    · have ih := rflN_7 hc ht h7 n (by omega) (by omega)
      show 0 ≤ rfl1 (rflN ρ to ch n) to ch n (to + 4 + 3) ∧ rfl1 (rflN ρ to ch n) to ch n (to + 4 + 3) ≤ 255
      unfold rfl1
      rw [if_pos hh, up_n (by omega)]
      exact ih
    · obtain ⟨a, b⟩ := hc hh
      have hk := KI.N a ht b (n + 1) (by omega) (by omega)
      exact hk.2.2.2.2
theorem rflN_b {ρ : Int → Int} {to ch w k : Int} (hc : ¬ ch = -1 → (0 ≤ ch ∧ ch ≤ 3) ∧ KI ρ ch to w) (ht : 383 ≤ to) : ∀ n : Nat, (n : Int) ≤ w → n ≤ 255 → 0 ≤ k → k < n → 0 ≤ rflN ρ to ch n (to + 4 + 4 + k) ∧ rflN ρ to ch n (to + 4 + 4 + k) ≤ 255
  | 0, _, _, _, _ => by omega
  | n + 1, hn, h2, h0, hk => by
    have hK : ¬ ch = -1 → (0 ≤ ch ∧ ch ≤ 3) ∧ KI (rflN ρ to ch n) ch to (w - n) := fun hh => ⟨(hc hh).1, KI.N (hc hh).1 ht (hc hh).2 n (by omega) (by omega)⟩
    show 0 ≤ rfl1 (rflN ρ to ch n) to ch n (to + 4 + 4 + k) ∧ rfl1 (rflN ρ to ch n) to ch n (to + 4 + 4 + k) ≤ 255
    by_cases hl : k = n
    · subst hl
      unfold rfl1
      split
      · rw [up_s]; omega
      · rename_i hh
        obtain ⟨a, b⟩ := hK hh
        rw [up_s]
        have hE := rptr_E (ρ := rflN ρ to ch n) (k := (n : Int)) a ht
        exact rbyte_b (hE.s b.1) (by rw [hE.1]; exact b.1.pend0.2.mp (by have := b.2.1; omega)) (by have := (hE.c b.1.1).2.1; omega)
    · rw [rfl1_o (fun hh => ⟨(hK hh).1, (hK hh).2.1.pend0.2.mp (by have := (hK hh).2.2.1; omega), by have := (hK hh).2.1.1.1; omega⟩) ht (by omega) ⟨by omega, by omega⟩]
      exact rflN_b hc ht n (by omega) (by omega) h0 (by omega)
