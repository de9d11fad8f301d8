/-- a queue whose head's offset is in it -/
def Qs (ρ : Int → Int) (c : Int) : Prop := Qc ρ c ∧ ((ρ (54 + c) = 0 ∧ ρ (58 + c) = 0) ∨ (1 ≤ ρ (54 + c) ∧ ρ (58 + c) < 3 + ρ (62 + 80 * c + 2)))
/-- two rows that have the same queue c -/
def QE (ρ ρ' : Int → Int) (c : Int) : Prop := ρ' (54 + c) = ρ (54 + c) ∧ ρ' (58 + c) = ρ (58 + c) ∧ ∀ q, 62 + 80 * c ≤ q → q < 62 + 80 * c + 80 → ρ' q = ρ q
theorem psum_cg {ρ ρ' : Int → Int} {c : Int} : ∀ n : Nat, (∀ i : Int, 0 ≤ i → i < n → ρ' (62 + 80 * c + 5 * i + 2) = ρ (62 + 80 * c + 5 * i + 2)) → psum ρ' c n = psum ρ c n
  | 0, _ => rfl
  | n + 1, h => by
    show psum ρ' c n + (3 + ρ' (62 + 80 * c + 5 * n + 2)) = psum ρ c n + (3 + ρ (62 + 80 * c + 5 * n + 2))
    rw [psum_cg n (fun i h0 h1 => h i h0 (by omega)), h n (by omega) (by omega)]
theorem pcnt_cg {ρ ρ' : Int → Int} {c : Int} : ∀ n : Nat, (∀ i : Int, 0 ≤ i → i < n → ρ' (62 + 80 * c + 5 * i) = ρ (62 + 80 * c + 5 * i)) → pcnt ρ' c n = pcnt ρ c n
  | 0, _ => rfl
  | n + 1, h => by
    show pcnt ρ' c n + (if ρ' (62 + 80 * c + 5 * n) < 15 then 1 else 0) = pcnt ρ c n + (if ρ (62 + 80 * c + 5 * n) < 15 then 1 else 0)
    rw [pcnt_cg n (fun i h0 h1 => h i h0 (by omega)), h n (by omega) (by omega)]
theorem QE.pd {ρ ρ' : Int → Int} {c : Int} (h : QE ρ ρ' c) (hm : ρ (54 + c) ≤ 15) : pend ρ' c = pend ρ c := by
  unfold pend
  rw [h.1, h.2.1, psum_cg _ (fun i h0 h1 => h.2.2 _ (by omega) (by omega))]
theorem QE.pn {ρ ρ' : Int → Int} {c : Int} (h : QE ρ ρ' c) (hm : ρ (54 + c) ≤ 15) : pin ρ' c = pin ρ c := by
  unfold pin
  rw [h.1, pcnt_cg _ (fun i h0 h1 => h.2.2 _ (by omega) (by omega))]
theorem QE.byte {ρ ρ' : Int → Int} {c k : Int} (h : QE ρ ρ' c) (hk : 0 ≤ k) : rbyte ρ' c k = rbyte ρ c k := by
  unfold rbyte
  rw [h.2.2 (62 + 80 * c) (by omega) (by omega), h.2.2 (62 + 80 * c + 3) (by omega) (by omega)]
  by_cases h3 : k < 3
  · rw [if_pos h3, if_pos h3, h.2.2 _ (by omega) (by omega)]
  · rw [if_neg h3, if_neg h3]
theorem QE.c {ρ ρ' : Int → Int} {c : Int} (h : QE ρ ρ' c) (hq : Qc ρ c) : Qc ρ' c := by
  obtain ⟨h1, h2, h3⟩ := hq
  refine ⟨by rw [h.1]; exact h1, by rw [h.2.1]; exact h2, fun i h0 hi => ?_⟩
  rw [h.1] at hi
  rw [h.2.2 _ (by omega) (by omega), h.2.2 _ (by omega) (by omega), h.2.2 _ (by omega) (by omega), h.2.2 _ (by omega) (by omega), h.2.2 _ (by omega) (by omega)]
  exact h3 i h0 hi
theorem QE.s {ρ ρ' : Int → Int} {c : Int} (h : QE ρ ρ' c) (hq : Qs ρ c) : Qs ρ' c := by
  refine ⟨h.c hq.1, ?_⟩
  rw [h.1, h.2.1, h.2.2 _ (by omega) (by omega)]
  exact hq.2
theorem QE.up {ρ : Int → Int} {c k v : Int} (hc : 0 ≤ c ∧ c ≤ 3) (hk : 382 ≤ k ∨ k < 54 ∨ (50 ≤ k ∧ k < 54)) : QE ρ (up ρ k v) c := ⟨up_n (by omega), up_n (by omega), fun q h0 h1 => up_n (by omega)⟩
theorem QE.tr {ρ ρ' ρ'' : Int → Int} {c : Int} (h : QE ρ ρ' c) (h' : QE ρ' ρ'' c) : QE ρ ρ'' c := ⟨h'.1.trans h.1, h'.2.1.trans h.2.1, fun q h0 h1 => (h'.2.2 q h0 h1).trans (h.2.2 q h0 h1)⟩
theorem Qs.pend0 {ρ : Int → Int} {c : Int} (h : Qs ρ c) : 0 ≤ pend ρ c ∧ (1 ≤ pend ρ c ↔ 1 ≤ ρ (54 + c)) := by
  obtain ⟨h1, h2⟩ := h
  rcases h2 with ⟨a, b⟩ | ⟨a, b⟩
  · unfold pend
    rw [a, b]
    show 0 ≤ (-0 + 0 : Int) ∧ (1 ≤ (-0 + 0 : Int) ↔ 1 ≤ (0 : Int))
    omega
  · have hm := h1.1
    have e : (ρ (54 + c)).toNat = ((ρ (54 + c)).toNat - 1) + 1 := by omega
    have h3 : 3 + ρ (62 + 80 * c + 2) ≤ psum ρ c (ρ (54 + c)).toNat := by
      have : ∀ n : Nat, ((n : Int) + 1 ≤ ρ (54 + c)) → 3 + ρ (62 + 80 * c + 2) ≤ psum ρ c (n + 1) := by
        intro n
        induction n with
        | zero =>
          intro _
          show _ ≤ 0 + (3 + ρ (62 + 80 * c + 5 * ((0 : Nat) : Int) + 2))
          rw [show (62 + 80 * c + 5 * ((0 : Nat) : Int) + 2) = 62 + 80 * c + 2 by omega]
          omega
        | succ n ih =>
          intro hn
          have h4 := ih (by omega)
          have h5 := (h1.2.2 ((n : Int) + 1) (by omega) (by omega)).2.2.1
          show _ ≤ psum ρ c (n + 1) + (3 + ρ (62 + 80 * c + 5 * ((n + 1 : Nat) : Int) + 2))
          rw [show (62 + 80 * c + 5 * ((n + 1 : Nat) : Int) + 2) = 62 + 80 * c + 5 * ((n : Int) + 1) + 2 by omega]
          omega
      rw [e]
      exact this _ (by omega)
    unfold pend
    omega
theorem psum_sh {ρ ρ' : Int → Int} {c : Int} : ∀ n : Nat, (∀ i : Int, 0 ≤ i → i < n → ρ' (62 + 80 * c + 5 * i + 2) = ρ (62 + 80 * c + 5 * (i + 1) + 2)) → psum ρ' c n + (3 + ρ (62 + 80 * c + 2)) = psum ρ c (n + 1)
  | 0, _ => by
    show 0 + (3 + ρ (62 + 80 * c + 2)) = 0 + (3 + ρ (62 + 80 * c + 5 * ((0 : Nat) : Int) + 2))
    rw [show (62 + 80 * c + 5 * ((0 : Nat) : Int) + 2) = 62 + 80 * c + 2 by omega]
  | n + 1, h => by
    have h1 := psum_sh n (fun i h0 h1 => h i h0 (by omega))
    have h2 := h n (by omega) (by omega)
    show psum ρ' c n + (3 + ρ' (62 + 80 * c + 5 * n + 2)) + (3 + ρ (62 + 80 * c + 2)) = psum ρ c (n + 1) + (3 + ρ (62 + 80 * c + 5 * ((n + 1 : Nat) : Int) + 2))
    rw [h2, show (62 + 80 * c + 5 * ((n + 1 : Nat) : Int) + 2) = 62 + 80 * c + 5 * ((n : Int) + 1) + 2 by omega]
    omega
/-- what takes leaves -/
theorem rtk_o {ρ : Int → Int} {c q : Int} (hc : 0 ≤ c ∧ c ≤ 3) (hm : 1 ≤ ρ (54 + c) ∧ ρ (54 + c) ≤ 13) (h : q ≠ 46 + c ∧ q ≠ 50 + c ∧ q ≠ 54 + c ∧ q ≠ 58 + c ∧ (q < 62 + 80 * c ∨ 62 + 80 * c + 80 ≤ q)) : rtk ρ c q = ρ q := by
  unfold rtk
  split
  · rw [shl_o (by omega)]
    unfold rtk2 rtk1
    rw [up_n (by omega), up_n (by omega), up_n (by omega), up_n (by omega), up_n (by omega)]
  · unfold rtk1
    rw [up_n (by omega), up_n (by omega)]
theorem rtk2_q {ρ : Int → Int} {c q : Int} (hc : 0 ≤ c ∧ c ≤ 3) (h : 62 ≤ q) : rtk2 ρ c q = ρ q := by
  unfold rtk2 rtk1
  rw [up_n (by omega), up_n (by omega), up_n (by omega), up_n (by omega), up_n (by omega)]
theorem rtk_s {ρ : Int → Int} {c : Int} (hc : 0 ≤ c ∧ c ≤ 3) (h : Qs ρ c) (hp : 1 ≤ pend ρ c) : Qs (rtk ρ c) c ∧ pend (rtk ρ c) c = pend ρ c - 1 := by
  have hm := h.pend0.2.mp hp
  obtain ⟨⟨h1, h2, h3⟩, h4⟩ := h
  have hb : ρ (58 + c) < 3 + ρ (62 + 80 * c + 2) := by omega
  have e0 := h3 0 (by omega) (by omega)
  rw [show 62 + 80 * c + 5 * 0 = 62 + 80 * c by omega] at e0
  unfold rtk
  by_cases hl : ρ (58 + c) + 1 = 3 + ρ (62 + 80 * c + 2)
  · rw [if_pos hl]
    obtain ⟨σ, hσ⟩ : ∃ σ, σ = shl 5 (rtk2 ρ c) (62 + 80 * c) (62 + 80 * c + 5 * (ρ (54 + c) - 1)) := ⟨_, rfl⟩
    rw [← hσ]
    have s54 : σ (54 + c) = ρ (54 + c) - 1 := by rw [hσ, shl_o (by omega)]; unfold rtk2; rw [up_s]
    have s58 : σ (58 + c) = 0 := by rw [hσ, shl_o (by omega)]; unfold rtk2; rw [up_n (by omega), up_s]
    have sq : ∀ q, 62 + 80 * c ≤ q → q < 62 + 80 * c + 5 * (ρ (54 + c) - 1) → σ q = ρ (q + 5) := fun q a b => by rw [hσ, shl_i ⟨a, b⟩, rtk2_q hc (by omega)]
    have hQ : Qc σ c := by
      refine ⟨by omega, by omega, fun i h0 hi => ?_⟩
      rw [s54] at hi
      have e := h3 (i + 1) (by omega) (by omega)
      rw [sq _ (by omega) (by omega), sq _ (by omega) (by omega), sq _ (by omega) (by omega), sq _ (by omega) (by omega), sq _ (by omega) (by omega)]
      rw [show 62 + 80 * c + 5 * i + 5 = 62 + 80 * c + 5 * (i + 1) by omega, show 62 + 80 * c + 5 * i + 1 + 5 = 62 + 80 * c + 5 * (i + 1) + 1 by omega, show 62 + 80 * c + 5 * i + 2 + 5 = 62 + 80 * c + 5 * (i + 1) + 2 by omega, show 62 + 80 * c + 5 * i + 3 + 5 = 62 + 80 * c + 5 * (i + 1) + 3 by omega, show 62 + 80 * c + 5 * i + 4 + 5 = 62 + 80 * c + 5 * (i + 1) + 4 by omega]
      exact e
    refine ⟨⟨hQ, ?_⟩, ?_⟩
    · by_cases hz : ρ (54 + c) = 1
      · exact Or.inl ⟨by omega, s58⟩
      · refine Or.inr ⟨by omega, ?_⟩
        have := (hQ.2.2 0 (by omega) (by omega)).2.2.1
        rw [show 62 + 80 * c + 5 * 0 + 2 = 62 + 80 * c + 2 by omega] at this
        omega
    · have hs := psum_sh (ρ := ρ) (ρ' := σ) (c := c) (ρ (54 + c) - 1).toNat (fun i h0 hi => by rw [sq _ (by omega) (by omega), show 62 + 80 * c + 5 * i + 2 + 5 = 62 + 80 * c + 5 * (i + 1) + 2 by omega])
      rw [show (ρ (54 + c) - 1).toNat + 1 = (ρ (54 + c)).toNat by omega] at hs
      unfold pend
      rw [s54, s58]
      omega
  · rw [if_neg hl]
    have q58 : rtk1 ρ c (58 + c) = ρ (58 + c) + 1 := by unfold rtk1; rw [up_s]
    have qo : ∀ q, 54 ≤ q → q ≠ 58 + c → rtk1 ρ c q = ρ q := fun q a b => by unfold rtk1; rw [up_n b, up_n (by omega)]
    have hQ : Qc (rtk1 ρ c) c := by
      refine ⟨by rw [qo _ (by omega) (by omega)]; exact h1, by rw [q58]; omega, fun i h0 hi => ?_⟩
      rw [qo _ (by omega) (by omega)] at hi
      rw [qo _ (by omega) (by omega), qo _ (by omega) (by omega), qo _ (by omega) (by omega), qo _ (by omega) (by omega), qo _ (by omega) (by omega)]
      exact h3 i h0 hi
    refine ⟨⟨hQ, ?_⟩, ?_⟩
    · right
      rw [q58, qo _ (by omega) (by omega), qo _ (by omega) (by omega)]
      omega
    · unfold pend
      rw [q58, qo _ (by omega) (by omega), psum_cg _ (fun i h0 hi => qo _ (by omega) (by omega))]
      omega

/-- the waits, behind the slot's choice, of the first channels -/
def rwtN (ρ : Int → Int) (ch : Int) : Nat → Int → Int
  | 0 => ρ
  | n + 1 => up (rwtN ρ ch n) (37 + n) (if ¬ (n : Int) = ch ∧ 0 < pend (rwtN ρ ch n) n then rwtN ρ ch n (37 + n) + 1 else 0)
theorem rwtN_s {ρ : Int → Int} {ch i : Int} (h : 0 ≤ i) : up (rwtN ρ ch i.toNat) (37 + i) (if ¬ i = ch ∧ 0 < pend (rwtN ρ ch i.toNat) i then rwtN ρ ch i.toNat (37 + i) + 1 else 0) = rwtN ρ ch (i + 1).toNat := by
  rw [show (i + 1).toNat = i.toNat + 1 by omega]
  show _ = up (rwtN ρ ch i.toNat) (37 + (i.toNat : Int)) (if ¬ (i.toNat : Int) = ch ∧ 0 < pend (rwtN ρ ch i.toNat) (i.toNat : Int) then rwtN ρ ch i.toNat (37 + (i.toNat : Int)) + 1 else 0)
  rw [Int.toNat_of_nonneg h]
theorem rwtN_o {ρ : Int → Int} {ch q : Int} : ∀ n : Nat, (q < 37 ∨ 37 + (n : Int) ≤ q) → rwtN ρ ch n q = ρ q
  | 0, _ => rfl
  | n + 1, h => by
    show up (rwtN ρ ch n) (37 + n) _ q = ρ q
    rw [up_n (by omega)]
    exact rwtN_o n (by omega)
theorem rwtN_E {ρ : Int → Int} {ch c : Int} (n : Nat) (hn : n ≤ 4) (hc : 0 ≤ c ∧ c ≤ 3) : QE ρ (rwtN ρ ch n) c := ⟨rwtN_o n (by omega), rwtN_o n (by omega), fun q h0 h1 => rwtN_o n (by omega)⟩
/-- a frame's header -/
def rhd (ρ : Int → Int) (ch to cn D : Int) : Int → Int := up (up (up (up (up (up (up (up ρ to D) (to + 1) 0) (to + 2) (rclk ρ)) (to + 3) (1000 * ρ 3 + ρ 2)) (to + 4) (ρ 4)) (to + 4 + 1) (if ch = -1 then 7 else ch)) (to + 4 + 2) (ρ cn)) (to + 4 + 3) (if ch = -1 then 254 else 255)
/-- the idle packet that is wanting -/
def ridl (ρ : Int → Int) (ch D : Int) : Int → Int := if ¬ ch = -1 ∧ pend ρ ch < D then rputs ρ ch 15 0 (if D - pend ρ ch < 4 then 1 else D - pend ρ ch - 3) 0 else ρ
def rptr (ρ : Int → Int) (to ch k : Int) : Int → Int := if ¬ ch = -1 ∧ ρ (58 + ch) = 0 ∧ ρ (to + 4 + 3) = 255 then up ρ (to + 4 + 3) k else ρ
/-- a byte of the data field -/
def rfl1 (ρ : Int → Int) (to ch k : Int) : Int → Int := if ch = -1 then up ρ (to + 4 + 4 + k) 85 else up (rtk (rptr ρ to ch k) ch) (to + 4 + 4 + k) (rbyte (rptr ρ to ch k) ch (rptr ρ to ch k (58 + ch)))
def rflN (ρ : Int → Int) (to ch : Int) : Nat → Int → Int
  | 0 => ρ
  | n + 1 => rfl1 (rflN ρ to ch n) to ch n
theorem rflN_s {ρ : Int → Int} {to ch i : Int} (h : 0 ≤ i) : rfl1 (rflN ρ to ch i.toNat) to ch i = rflN ρ to ch (i + 1).toNat := by
  rw [show (i + 1).toNat = i.toNat + 1 by omega]
  show _ = rfl1 (rflN ρ to ch i.toNat) to ch (i.toNat : Int)
  rw [Int.toNat_of_nonneg h]
/-- what a fill of channel ch needs: the queue holds what is wanted -/
def KI (ρ : Int → Int) (ch to w : Int) : Prop := Qs ρ ch ∧ w ≤ pend ρ ch ∧ (0 ≤ ρ 3 ∧ ρ 3 ≤ 100000) ∧ (-1 ≤ ρ (50 + ch) ∧ ρ (50 + ch) ≤ 100000) ∧ (0 ≤ ρ (to + 4 + 3) ∧ ρ (to + 4 + 3) ≤ 255)
theorem rptr_E {ρ : Int → Int} {to ch k : Int} (hc : 0 ≤ ch ∧ ch ≤ 3) (ht : 383 ≤ to) : QE ρ (rptr ρ to ch k) ch := by
  unfold rptr
  split
  · exact QE.up hc (by omega)
  · exact ⟨rfl, rfl, fun _ _ _ => rfl⟩
theorem rptr_o {ρ : Int → Int} {to ch k q : Int} (h : q ≠ to + 4 + 3) : rptr ρ to ch k q = ρ q := by
  unfold rptr
  split
  · exact up_n h
  · rfl
theorem rptr_7 {ρ : Int → Int} {to ch k : Int} (h : 0 ≤ ρ (to + 4 + 3) ∧ ρ (to + 4 + 3) ≤ 255) (hk : 0 ≤ k ∧ k ≤ 255) : 0 ≤ rptr ρ to ch k (to + 4 + 3) ∧ rptr ρ to ch k (to + 4 + 3) ≤ 255 := by
  unfold rptr
  split
  · rw [up_s]; exact hk
  · exact h
theorem rtk_50 {ρ : Int → Int} {c : Int} (hc : 0 ≤ c ∧ c ≤ 3) (hL : -1 ≤ ρ (50 + c) ∧ ρ (50 + c) ≤ 100000) (h3 : 0 ≤ ρ 3 ∧ ρ 3 ≤ 100000) (h4 : 0 ≤ ρ (62 + 80 * c + 4)) : -1 ≤ rtk ρ c (50 + c) ∧ rtk ρ c (50 + c) ≤ 100000 := by
  unfold rtk
  split
  · rw [shl_o (by omega)]
    unfold rtk2
    rw [up_n (by omega), up_n (by omega), up_s]
    split <;> omega
  · unfold rtk1
    rw [up_n (by omega), up_n (by omega)]
    exact hL
theorem KI.step {ρ : Int → Int} {ch to w k : Int} (hc : 0 ≤ ch ∧ ch ≤ 3) (ht : 383 ≤ to) (hk : 0 ≤ k ∧ k ≤ 255) (hw : 1 ≤ w) (h : KI ρ ch to w) : KI (rfl1 ρ to ch k) ch to (w - 1) := by
  obtain ⟨h1, h2, h3, h4, h5⟩ := h
  have hE := rptr_E (ρ := ρ) (k := k) hc ht
  have hp := hE.pd (by have := h1.1.1; omega)
  have hQ := hE.s h1
  have hm := hQ.pend0.2.mp (by omega)
  have hm2 := hQ.1.1
  obtain ⟨hQ2, hp2⟩ := rtk_s hc hQ (by omega)
  have e0 := hQ.1.2.2 0 (by omega) (by omega)
  rw [show 62 + 80 * ch + 5 * 0 = 62 + 80 * ch by omega] at e0
  unfold rfl1
  rw [if_neg (show ¬ ch = -1 by omega)]
  have hE2 : QE (rtk (rptr ρ to ch k) ch) (up (rtk (rptr ρ to ch k) ch) (to + 4 + 4 + k) (rbyte (rptr ρ to ch k) ch (rptr ρ to ch k (58 + ch)))) ch := QE.up hc (by omega)
  refine ⟨hE2.s hQ2, ?_, ?_, ?_, ?_⟩
  · rw [hE2.pd (by have := hQ2.1.1; omega)]
    omega
  · rw [up_n (by omega), rtk_o hc ⟨by omega, by omega⟩ (by omega), rptr_o (by omega)]
    exact h3
  · rw [up_n (by omega)]
    exact rtk_50 hc (by rw [rptr_o (by omega)]; exact h4) (by rw [rptr_o (by omega)]; exact h3) (by omega)
  · rw [up_n (by omega), rtk_o hc ⟨by omega, by omega⟩ (by omega)]
    exact rptr_7 h5 hk
theorem KI.N {ρ : Int → Int} {ch to w : Int} (hc : 0 ≤ ch ∧ ch ≤ 3) (ht : 383 ≤ to) (h : KI ρ ch to w) : ∀ n : Nat, (n : Int) ≤ w → n ≤ 255 → KI (rflN ρ to ch n) ch to (w - n)
  | 0, _, _ => by rw [show w - ((0 : Nat) : Int) = w by omega]; exact h
  | n + 1, hn, h2 => by
    have h1 := KI.N hc ht h n (by omega) (by omega)
    have := h1.step hc ht (k := (n : Int)) ⟨by omega, by omega⟩ (by omega)
    rw [show w - ((n + 1 : Nat) : Int) = w - n - 1 by omega]
    exact this
/-- a slot -/
def rsn1 (ρ : Int → Int) : Int → Int := rhd (rwtN ρ (rch ρ) 4) (rch ρ) (383 + 50 * ρ 382) (5 + (if rch ρ = -1 then 4 else rch ρ)) (ρ 0)
def rsn2 (ρ : Int → Int) : Int → Int := rflN (ridl (rsn1 ρ) (rch ρ) (ρ 0)) (383 + 50 * ρ 382) (rch ρ) (ρ 0).toNat
def rsn3 (ρ : Int → Int) (cn : Int) : Int → Int := up (up (up (up (up ρ 382 (ρ 382 + 1)) 4 ((ρ 4 + 1) % 256)) (41 + cn - 5) (ρ (41 + cn - 5) + 1)) cn ((ρ cn + 1) % 256)) 3 (ρ 3 + 1)
def rsnd (ρ : Int → Int) : Int → Int := rsn3 (rlay (rsn2 ρ) (ρ 382)) (5 + (if rch ρ = -1 then 4 else rch ρ))
