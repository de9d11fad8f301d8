/-- the invariant of a row behind n calls -/
def IA (n : Int) (ρ : Int → Int) : Prop := SI ρ ∧ XI ρ ∧ ρ 3 ≤ 60 * n ∧ ∀ c, 0 ≤ c → c ≤ 3 → PIc ρ c
def IV (n : Int) (ρ : Int → Int) : Prop := IA n ρ ∧ Wr ρ ∧ RI ρ ∧ CI (3000 * n) ρ
theorem IA.set {n n' : Int} {ρ ρ' : Int → Int} (h : IA n ρ) (hn : n ≤ n') (h0 : 8 ≤ ρ' 0 ∧ ρ' 0 ≤ 40) (h1 : -1000 ≤ ρ' 1 ∧ ρ' 1 ≤ 1000) (h2 : 0 ≤ ρ' 2 ∧ ρ' 2 ≤ 100000) (hc : ∀ c, 0 ≤ c → c ≤ 3 → (0 ≤ ρ' (25 + c) ∧ ρ' (25 + c) ≤ 9) ∧ (0 ≤ ρ' (29 + c) ∧ ρ' (29 + c) ≤ 50) ∧ (0 ≤ ρ' (33 + c) ∧ ρ' (33 + c) ≤ 50)) (hw : 0 ≤ ρ' 382) (hr : ∀ q, (3 ≤ q ∧ q < 25) ∨ (37 ≤ q ∧ q < 382) → ρ' q = ρ q) : IA n' ρ' := by
  obtain ⟨⟨hD, hSc, hS3, hS1, hS4, hS5, hS382, hS2⟩, ⟨x1, x2, x3⟩, h3, hP⟩ := h
  have hE : ∀ c, 0 ≤ c → c ≤ 3 → QE ρ ρ' c := fun c a b => ⟨hr _ (by omega), hr _ (by omega), fun q u v => hr q (by omega)⟩
  refine ⟨⟨h0, fun c a b => ?_, by rw [hr 3 (by omega)]; exact hS3, h1, by rw [hr 4 (by omega)]; exact hS4, fun i a b => by rw [hr _ (by omega)]; exact hS5 i a b, hw, h2⟩, ⟨by rw [hr 4 (by omega), hr 3 (by omega)]; exact x1, fun i a b => by rw [hr _ (by omega), hr (41 + i) (by omega)]; exact x2 i a b, fun i a b => by rw [hr _ (by omega)]; exact x3 i a b⟩, by rw [hr 3 (by omega)]; omega, fun c a b => (hP c a b).cg (hSc c a b).1.1 (hE c a b)⟩
  obtain ⟨q1, ⟨f1, f2, f3, f4⟩, q3, q4, q5⟩ := hSc c a b
  obtain ⟨g1, g2, g3⟩ := hc c a b
  refine ⟨(hE c a b).s q1, ⟨g1, g2, g3, by rw [hr _ (by omega)]; exact f4⟩, by rw [hr _ (by omega)]; exact q3, by rw [hr _ (by omega)]; exact q4, by rw [hr _ (by omega), hr 3 (by omega)]; exact q5⟩
theorem IA.cg {n n' : Int} {ρ ρ' : Int → Int} (h : IA n ρ) (hn : n ≤ n') (hw : 0 ≤ ρ' 382) (hr : ∀ q, 0 ≤ q → q < 382 → ρ' q = ρ q) : IA n' ρ' :=
  h.set hn (by rw [hr _ (by omega) (by omega)]; exact h.1.1) (by rw [hr _ (by omega) (by omega)]; exact h.1.2.2.2.1) (by rw [hr _ (by omega) (by omega)]; exact h.1.2.2.2.2.2.2.2) (fun c a b => by
    obtain ⟨-, ⟨f1, f2, f3, f4⟩, -⟩ := h.1.2.1 c a b
    rw [hr _ (by omega) (by omega), hr (29 + c) (by omega) (by omega), hr (33 + c) (by omega) (by omega)]
    exact ⟨f1, f2, f3⟩) hw (fun q a => hr q (by omega) (by omega))
theorem IV.cg {n n' : Int} {ρ ρ' : Int → Int} (h : IV n ρ) (hn : n ≤ n') (hr : ∀ q, 0 ≤ q → q < 12309 → ρ' q = ρ q) : IV n' ρ' := by
  obtain ⟨a, b, c, d⟩ := h
  exact ⟨a.cg hn (by rw [hr _ (by omega) (by omega)]; exact b.1.1) (fun q u v => hr q u (by omega)), WrCg b hr, RICg c hr, d.cg (by omega) c.2.2.2.1 (fun q hq => hr q (by omega) (by omega))⟩
theorem IV.mono {n n' : Int} {ρ : Int → Int} (h : IV n ρ) (hn : n ≤ n') : IV n' ρ := h.cg hn (fun _ _ _ => rfl)
theorem Wr.hi {ρ ρ' : Int → Int} (h : Wr ρ) (hr : ∀ q, 382 ≤ q → q < 3383 → ρ' q = ρ q) : Wr ρ' := by
  obtain ⟨h1, h2⟩ := h
  refine ⟨by rw [hr 382 (by omega) (by omega)]; exact h1, fun f a b => ?_⟩
  rw [hr 382 (by omega) (by omega)] at b
  obtain ⟨k1, k2, k3, k4, k5⟩ := h2 f a b
  have e := hr (383 + 50 * f) (by omega) (by omega)
  refine ⟨by rw [e]; exact k1, by rw [hr _ (by omega) (by omega)]; exact k2, by rw [hr _ (by omega) (by omega)]; exact k3, by rw [hr _ (by omega) (by omega)]; exact k4, fun k c d => ?_⟩
  rw [e] at d
  rw [hr _ (by omega) (by omega)]
  exact k5 k c d
theorem Wr.set {ρ ρ' : Int → Int} {i : Int} (h : Wr ρ) (hi : 0 ≤ i ∧ i < ρ 382) (hF : Fw ρ' i) (hr : ∀ q, 382 ≤ q → q < 3383 → (q < 383 + 50 * i ∨ 383 + 50 * i + 50 ≤ q) → ρ' q = ρ q) : Wr ρ' := by
  have hw := h.1
  have e3 := hr 382 (by omega) (by omega) (by omega)
  refine ⟨by rw [e3]; exact h.1, fun f a b => ?_⟩
  rw [e3] at b
  by_cases hf : f = i
  · rw [hf]; exact hF
  · obtain ⟨k1, k2, k3, k4, k5⟩ := h.2 f a b
    have e := hr (383 + 50 * f) (by omega) (by omega) (by omega)
    refine ⟨by rw [e]; exact k1, by rw [hr _ (by omega) (by omega) (by omega)]; exact k2, by rw [hr _ (by omega) (by omega) (by omega)]; exact k3, by rw [hr _ (by omega) (by omega) (by omega)]; exact k4, fun k c d => ?_⟩
    rw [e] at d
    rw [hr _ (by omega) (by omega) (by omega)]
    exact k5 k c d
/-- a step that leaves wire and receiver -/
theorem IV.a {n : Int} {ρ ρ' : Int → Int} (h : IV n ρ) (hA : IA (n + 1) ρ') (hr : ∀ q, 382 ≤ q → q < 12309 → ρ' q = ρ q) : IV (n + 1) ρ' :=
  ⟨hA, h.2.1.hi (fun q a b => hr q a (by omega)), h.2.2.1.hi (fun q a b => hr q (by omega) b), h.2.2.2.cg (by omega) h.2.2.1.2.2.2.1 (fun q hq => hr q (by omega) (by omega))⟩
/-- a step of the wire -/
theorem IV.w {n : Int} {ρ ρ' : Int → Int} (h : IV n ρ) (hW : Wr ρ') (hr : ∀ q, (0 ≤ q ∧ q < 382) ∨ (3383 ≤ q ∧ q < 12309) → ρ' q = ρ q) : IV (n + 1) ρ' :=
  ⟨h.1.cg (by omega) hW.1.1 (fun q a b => hr q (by omega)), hW, h.2.2.1.hi (fun q a b => hr q (by omega)), h.2.2.2.cg (by omega) h.2.2.1.2.2.2.1 (fun q hq => hr q (by omega))⟩
theorem IV.len {n k : Int} {ρ : Int → Int} (h : IV n ρ) (hk : 8 ≤ k ∧ k ≤ 40) : IV (n + 1) (up ρ 0 k) := by
  have hA := h.1
  refine h.a (hA.set (by omega) (by rw [up_s]; exact hk) (by rw [up_n (by omega)]; exact hA.1.2.2.2.1) (by rw [up_n (by omega)]; exact hA.1.2.2.2.2.2.2.2) (fun c a b => ?_) (by rw [up_n (by omega)]; exact hA.1.2.2.2.2.2.2.1) (fun q a => up_n (by omega))) (fun q a b => up_n (by omega))
  obtain ⟨-, ⟨f1, f2, f3, f4⟩, -⟩ := hA.1.2.1 c a b
  rw [up_n (by omega), up_n (by omega), up_n (by omega)]
  exact ⟨f1, f2, f3⟩
theorem IV.clk {n p q : Int} {ρ : Int → Int} (h : IV n ρ) (hp : -1000 ≤ p ∧ p ≤ 1000) (hq : 0 ≤ q ∧ q ≤ 100000) : IV (n + 1) (up (up ρ 1 p) 2 q) := by
  have hA := h.1
  have ho : ∀ j, j ≠ 1 → j ≠ 2 → up (up ρ 1 p) 2 q j = ρ j := fun j a b => by rw [up_n b, up_n a]
  refine h.a (hA.set (by omega) (by rw [ho _ (by omega) (by omega)]; exact hA.1.1) (by rw [up_n (by omega), up_s]; exact hp) (by rw [up_s]; exact hq) (fun c a b => ?_) (by rw [ho _ (by omega) (by omega)]; exact hA.1.2.2.2.2.2.2.1) (fun q a => ho _ (by omega) (by omega))) (fun q a b => ho _ (by omega) (by omega))
  obtain ⟨-, ⟨f1, f2, f3, f4⟩, -⟩ := hA.1.2.1 c a b
  rw [ho _ (by omega) (by omega), ho _ (by omega) (by omega), ho _ (by omega) (by omega)]
  exact ⟨f1, f2, f3⟩
theorem IV.chn {n c p q d : Int} {ρ : Int → Int} (h : IV n ρ) (hc : 0 ≤ c ∧ c ≤ 3) (hp : 0 ≤ p ∧ p ≤ 9) (hq : 0 ≤ q ∧ q ≤ 50) (hd : 0 ≤ d ∧ d ≤ 50) : IV (n + 1) (up (up (up ρ (25 + c) p) (29 + c) q) (33 + c) d) := by
  have hA := h.1
  obtain ⟨ρ1, hρ1⟩ : ∃ ρ1, ρ1 = up (up (up ρ (25 + c) p) (29 + c) q) (33 + c) d := ⟨_, rfl⟩
  have u0 : ρ1 (25 + c) = p := by rw [hρ1, up_n (by omega), up_n (by omega), up_s]
  have u1 : ρ1 (29 + c) = q := by rw [hρ1, up_n (by omega), up_s]
  have u2 : ρ1 (33 + c) = d := by rw [hρ1, up_s]
  have ho : ∀ q, q ≠ 25 + c → q ≠ 29 + c → q ≠ 33 + c → ρ1 q = ρ q := fun q v w z => by rw [hρ1, up_n z, up_n w, up_n v]
  rw [← hρ1]
  refine h.a (hA.set (by omega) (by rw [ho _ (by omega) (by omega) (by omega)]; exact hA.1.1) (by rw [ho _ (by omega) (by omega) (by omega)]; exact hA.1.2.2.2.1) (by rw [ho _ (by omega) (by omega) (by omega)]; exact hA.1.2.2.2.2.2.2.2) (fun i a b => ?_) (by rw [ho _ (by omega) (by omega) (by omega)]; exact hA.1.2.2.2.2.2.2.1) (fun q a => ho _ (by omega) (by omega) (by omega))) (fun q a b => ho _ (by omega) (by omega) (by omega))
  by_cases e : i = c
  · rw [e, u0, u1, u2]; exact ⟨hp, hq, hd⟩
  · obtain ⟨-, ⟨f1, f2, f3, f4⟩, -⟩ := hA.1.2.1 i a b
    rw [ho _ (by omega) (by omega) (by omega), ho _ (by omega) (by omega) (by omega), ho _ (by omega) (by omega) (by omega)]
    exact ⟨f1, f2, f3⟩
theorem IV.add {n c p k s : Int} {ρ : Int → Int} (h : IV n ρ) (hc : 0 ≤ c ∧ c ≤ 3) (hp : 0 ≤ p ∧ p ≤ 14) (hk : 1 ≤ k ∧ k ≤ 50) (hs : 0 ≤ s ∧ s ≤ 255) (hpi : ¬ pin ρ c = 12) : IV (n + 1) (rputs (up ρ (10 + p) ((ρ (10 + p) + 1) % 256)) c p (ρ (10 + p)) k s) := by
  obtain ⟨⟨hD, hSc, hS3, hS1, hS4, hS5, hS382, hS2⟩, ⟨x1, x2, x3⟩, h3, hP⟩ := h.1
  obtain ⟨ρ0, hρ0⟩ : ∃ ρ0, ρ0 = up ρ (10 + p) ((ρ (10 + p) + 1) % 256) := ⟨_, rfl⟩
  have hE0 : ∀ i, 0 ≤ i → i ≤ 3 → QE ρ ρ0 i := fun i a b => by rw [hρ0]; exact QE.up ⟨a, b⟩ (by omega)
  have h0 : ∀ q, q ≠ 10 + p → ρ0 q = ρ q := fun q z => by rw [hρ0, up_n z]
  have h0s : ρ0 (10 + p) = (ρ (10 + p) + 1) % 256 := by rw [hρ0, up_s]
  rw [← hρ0]
  have hQc := (hSc c hc.1 hc.2).1
  have hpn := (hP c hc.1 hc.2).pin hQc.1
  have hm := hQc.1.1
  have em : ρ0 (54 + c) = ρ (54 + c) := h0 _ (by omega)
  have hm12 : ρ (54 + c) ≤ 12 := by omega
  obtain ⟨ρ1, hρ1⟩ : ∃ ρ1, ρ1 = rputs ρ0 c p (ρ (10 + p)) k s := ⟨_, rfl⟩
  have ho : ∀ q, q ≠ 54 + c → (q < 62 + 80 * c + 5 * ρ (54 + c) ∨ 62 + 80 * c + 5 * ρ (54 + c) + 5 ≤ q) → ρ1 q = ρ0 q := fun q a b => by rw [hρ1]; exact rputs_o hc (by omega) ⟨a, by rw [em]; exact b⟩
  have e1m : ρ1 (54 + c) = ρ (54 + c) + 1 := by rw [hρ1, rputs_m, em]
  have e1p : ρ1 (62 + 80 * c + 5 * ρ (54 + c)) = p := by rw [hρ1]; exact (rputs_p hc (by omega) em.symm).1
  have hQ1 : Qs ρ1 c := by
    rw [hρ1]
    exact (rputs_s hc ((hE0 c hc.1 hc.2).s hQc) (by omega) (by omega) (x3 p hp.1 hp.2) hk hs (by rw [h0 3 (by omega)]; omega)).1
  rw [← hρ1]
  have hoo : ∀ q, q ≠ 54 + c → q ≠ 10 + p → (q < 62 + 80 * c ∨ 62 + 80 * c + 80 ≤ q) → ρ1 q = ρ q := fun q a b d => by rw [ho q a (by omega), h0 q b]
  have hEi : ∀ i, 0 ≤ i → i ≤ 3 → i ≠ c → QE ρ ρ1 i := fun i a b d => ⟨hoo _ (by omega) (by omega) (by omega), hoo _ (by omega) (by omega) (by omega), fun q u v => hoo _ (by omega) (by omega) (by omega)⟩
  refine h.a ⟨⟨?_, fun i a b => ?_, ?_, ?_, ?_, fun i a b => ?_, ?_, ?_⟩, ⟨?_, fun i a b => ?_, fun i a b => ?_⟩, ?_, fun i a b => ?_⟩ (fun q a b => hoo q (by omega) (by omega) (by omega))
  · rw [hoo _ (by omega) (by omega) (by omega)]; exact hD
  · obtain ⟨q1, ⟨f1, f2, f3, f4⟩, q3, q4, q5⟩ := hSc i a b
    refine ⟨?_, ⟨?_, ?_, ?_, ?_⟩, ?_, ?_, ?_⟩
    · by_cases e : i = c
      · rw [e]; exact hQ1
      · exact (hEi i a b e).s q1
    · rw [hoo _ (by omega) (by omega) (by omega)]; exact f1
    · rw [hoo _ (by omega) (by omega) (by omega)]; exact f2
    · rw [hoo _ (by omega) (by omega) (by omega)]; exact f3
    · rw [hoo _ (by omega) (by omega) (by omega)]; exact f4
    · rw [hoo _ (by omega) (by omega) (by omega)]; exact q3
    · rw [hoo _ (by omega) (by omega) (by omega)]; exact q4
    · rw [hoo _ (by omega) (by omega) (by omega), hoo 3 (by omega) (by omega) (by omega)]; exact q5
  · rw [hoo _ (by omega) (by omega) (by omega)]; exact hS3
  · rw [hoo _ (by omega) (by omega) (by omega)]; exact hS1
  · rw [hoo _ (by omega) (by omega) (by omega)]; exact hS4
  · rw [hoo _ (by omega) (by omega) (by omega)]; exact hS5 i a b
  · rw [hoo _ (by omega) (by omega) (by omega)]; exact hS382
  · rw [hoo _ (by omega) (by omega) (by omega)]; exact hS2
  · rw [hoo _ (by omega) (by omega) (by omega), hoo 3 (by omega) (by omega) (by omega)]; exact x1
  · rw [hoo _ (by omega) (by omega) (by omega), hoo (41 + i) (by omega) (by omega) (by omega)]; exact x2 i a b
  · by_cases e : i = p
    · rw [e, ho _ (by omega) (by omega), h0s]; omega
    · rw [hoo _ (by omega) (by omega) (by omega)]; exact x3 i a b
  · rw [hoo _ (by omega) (by omega) (by omega)]; omega
  · by_cases e : i = c
    · rw [e]
      refine ⟨fun j u v => ?_, fun v => ?_⟩
      · rw [e1m] at v
        by_cases ej : j = ρ (54 + c)
        · rw [ej, e1p]; omega
        · rw [ho _ (by omega) (by omega), h0 _ (by omega)]
          exact (hP c hc.1 hc.2).1 j u (by omega)
      · rw [e1m] at v
        rw [ho _ (by omega) (by omega), h0 _ (by omega)]
        exact hpn.2.2 (by omega) hpi
    · exact (hP i a b).cg (hSc i a b).1.1 (hEi i a b e)
theorem IV.snd {n : Int} {k : Nat} {ρ : Int → Int} (h : IV n ρ) (hn : 0 ≤ n ∧ n ≤ 600) (hk : ρ 382 + k ≤ 60) : IV (n + 1) (rsnN ρ k) := by
  obtain ⟨⟨hS, hX, h3, hP⟩, hW, hR, hC⟩ := h
  have hw := hW.1
  obtain ⟨a, b, c, d, e3, e382, eo⟩ := SN hS hW hX hP k hk (by omega)
  exact ⟨⟨a, c, by omega, d⟩, b, hR.hi (fun q u v => eo q u), hC.cg (by omega) hR.2.2.2.1 (fun q hq => eo q (by omega))⟩
theorem Wr.rwf {ρ : Int → Int} {k : Int} (h : Wr ρ) (hk : 0 ≤ k ∧ k ≤ ρ 382) : Wr (rwf ρ k) := by
  have hw := h.1
  have e3 : _root_.Jvm.Pilot.@@N@@.rwf ρ k 382 = ρ 382 - k := by unfold _root_.Jvm.Pilot.@@N@@.rwf; rw [shl_o (by omega), up_s]
  refine ⟨by rw [e3]; omega, fun f a b => ?_⟩
  rw [e3] at b
  have er : ∀ j, 0 ≤ j → j < 50 → _root_.Jvm.Pilot.@@N@@.rwf ρ k (383 + 50 * f + j) = ρ (383 + 50 * (f + k) + j) := fun j u v => by
    unfold _root_.Jvm.Pilot.@@N@@.rwf
    rw [shl_i (by omega), up_n (by omega)]; congr 1; omega
  obtain ⟨k1, k2, k3, k4, k5⟩ := h.2 (f + k) (by omega) (by omega)
  have e0 := er 0 (by omega) (by omega)
  rw [Int.add_zero, Int.add_zero] at e0
  refine ⟨by rw [e0]; exact k1, by rw [er 1 (by omega) (by omega)]; exact k2, by rw [er 2 (by omega) (by omega)]; exact k3, by rw [er 3 (by omega) (by omega)]; exact k4, fun j u v => ?_⟩
  rw [e0] at v
  rw [show 383 + 50 * f + 4 + j = 383 + 50 * f + (4 + j) by omega, er _ (by omega) (by omega), show 383 + 50 * (f + k) + (4 + j) = 383 + 50 * (f + k) + 4 + j by omega]
  exact k5 j u v
theorem IV.rcv {n k : Int} {ρ : Int → Int} (h : IV n ρ) (hk : 0 ≤ k ∧ k ≤ ρ 382) : IV (n + 1) (rrv ρ k) := by
  obtain ⟨hA, hW, hR, hC⟩ := h
  have hw := hW.1
  obtain ⟨a, b⟩ := rvN_i hW hR k.toNat (by omega)
  have c := CI.vN hW hR hC k.toNat (by omega)
  have e382 := b 382 (by omega)
  have hrr : rrv ρ k = rwf (rvN ρ k.toNat) k := by unfold rrv rwf; rw [e382]
  have hW1 : Wr (rvN ρ k.toNat) := by
    refine ⟨by rw [e382]; exact hW.1, fun f u v => ?_⟩
    rw [e382] at v
    exact Fw.cg (hW.2 f u v) (by omega) b
  rw [hrr]
  have hW2 := hW1.rwf (k := k) (by omega)
  have hro : ∀ q, (q < 382 ∨ 3383 ≤ q) → rwf (rvN ρ k.toNat) k q = rvN ρ k.toNat q := fun q hq => rwf_o (by omega) (by omega) hq
  exact ⟨hA.cg (by omega) hW2.1.1 (fun q u v => (hro q (by omega)).trans (b q (by omega))), hW2, a.hi (fun q u v => hro q (by omega)), c.cg (by omega) a.2.2.2.1 (fun q hq => hro q (by omega))⟩
theorem zx_b {a m : Int} (ha : 0 ≤ a ∧ a ≤ 255) (hm : 0 ≤ m ∧ m ≤ 255) : 0 ≤ zx a m ∧ zx a m ≤ 255 := by
  have h1 := zx_nn a m
  have h2 := zx_lt (a := a) (b := m) 8 (by show a < 256; omega) (by show m < 256; omega)
  have h3 : zx a m < 256 := h2
  omega
theorem IV.cor {n i k m : Int} {ρ : Int → Int} (h : IV n ρ) (hi : 0 ≤ i ∧ i < ρ 382) (hk : 0 ≤ k ∧ k ≤ ρ (383 + 50 * i) + 5) (hm : 1 ≤ m ∧ m ≤ 255) : IV (n + 1) (up ρ (383 + 50 * i + 4 + k) (zx (ρ (383 + 50 * i + 4 + k)) m)) := by
  have hF := h.2.1.2 i hi.1 hi.2
  have hw := h.2.1.1
  obtain ⟨k1, k2, k3, k4, k5⟩ := hF
  have hb := zx_b (k5 k hk.1 (by omega)) (m := m) (by omega)
  refine h.w (h.2.1.set hi ⟨?_, ?_, ?_, ?_, fun j u v => ?_⟩ (fun q a b d => up_n (by omega))) (fun q a => up_n (by omega))
  · rw [up_n (by omega)]; exact k1
  · rw [up_n (by omega)]; exact k2
  · rw [up_n (by omega)]; exact k3
  · rw [up_n (by omega)]; exact k4
  · rw [up_n (by omega)] at v
    by_cases e : j = k
    · rw [e, up_s]; exact hb
    · rw [up_n (by omega)]; exact k5 j u v
theorem IV.rep {n i : Int} {ρ : Int → Int} (h : IV n ρ) (hi : 0 ≤ i ∧ i < ρ 382) : IV (n + 1) (rlay ρ i) := by
  have hF := h.2.1.2 i hi.1 hi.2
  have hw := h.2.1.1
  obtain ⟨k1, k2, k3, k4, k5⟩ := hF
  have hcp : ckp ρ i = 383 + 50 * i + 8 + ρ (383 + 50 * i) := by unfold ckp; omega
  have hcb : 0 ≤ crcF ρ i ∧ crcF ρ i < 65536 := crcN_b _ (fun q u v => k5 q u (by omega))
  have ho : ∀ q, q ≠ ckp ρ i → q ≠ ckp ρ i + 1 → rlay ρ i q = ρ q := fun q a b => by unfold rlay; rw [up_n b, up_n a]
  refine h.w (h.2.1.set hi ⟨?_, ?_, ?_, ?_, fun j u v => ?_⟩ (fun q a b d => ho q (by omega) (by omega))) (fun q a => ho q (by omega) (by omega))
  · rw [ho _ (by omega) (by omega)]; exact k1
  · rw [ho _ (by omega) (by omega)]; exact k2
  · rw [ho _ (by omega) (by omega)]; exact k3
  · rw [ho _ (by omega) (by omega)]; exact k4
  · rw [ho _ (by omega) (by omega)] at v
    by_cases e : 383 + 50 * i + 4 + j = ckp ρ i
    · rw [e]; unfold rlay; rw [up_n (by omega), up_s]; omega
    · by_cases e2 : 383 + 50 * i + 4 + j = ckp ρ i + 1
      · rw [e2]; unfold rlay; rw [up_s]; omega
      · rw [ho _ e e2]; exact k5 j u v
theorem IV.los {n i : Int} {ρ : Int → Int} (h : IV n ρ) (hi : 0 ≤ i ∧ i < ρ 382) : IV (n + 1) (up ρ (383 + 50 * i + 1) 1) := by
  have hF := h.2.1.2 i hi.1 hi.2
  have hw := h.2.1.1
  obtain ⟨k1, k2, k3, k4, k5⟩ := hF
  refine h.w (h.2.1.set hi ⟨?_, ?_, ?_, ?_, fun j u v => ?_⟩ (fun q a b d => up_n (by omega))) (fun q a => up_n (by omega))
  · rw [up_n (by omega)]; exact k1
  · rw [up_s]; omega
  · rw [up_n (by omega)]; exact k3
  · rw [up_n (by omega)]; exact k4
  · rw [up_n (by omega)] at v
    rw [up_n (by omega)]; exact k5 j u v
/-- the saved rows -/
def SV (n : Int) (π : Int → Int) (sv : Int) : Prop := ∀ i, 0 ≤ i → i < sv → IV n (sl π (12309 * i))
theorem SV.mono {n n' : Int} {π : Int → Int} {sv : Int} (h : SV n π sv) (hn : n ≤ n') : SV n' π sv := fun i a b => (h i a b).mono hn
theorem SV.sav {n n' : Int} {ρ π : Int → Int} {sv : Int} (hv : 0 ≤ sv ∧ sv ≤ 3) (h : IV n ρ) (hS : SV n π sv) (hn : n ≤ n') : SV n' (svP ρ π sv) (svS sv) := fun i z w => by
  by_cases el : i = svS sv - 1
  · exact h.cg hn (fun q u v => by
      unfold sl
      rw [el]; exact svP_l hv ⟨u, v⟩)
  · by_cases e : sv = 3
    · exact (hS (i + 1) (by omega) (by unfold svS at w el; rw [if_pos e] at w el; omega)).cg hn (fun q u v => by
        unfold sl
        rw [e, svP_3 (by unfold svS at w el; rw [if_pos e] at w el; omega)]
        congr 1; omega)
    · exact (hS i z (by unfold svS at w el; rw [if_neg e] at w el; omega)).cg hn (fun q u v => by
        unfold sl
        exact svP_o e (by unfold svS at w el; rw [if_neg e] at w el; omega))
theorem SV.und {n : Int} {ρ π : Int → Int} {sv : Int} (hv : 1 ≤ sv ∧ sv ≤ 3) (hS : SV n π sv) : IV n (bcp ρ π (12309 * (sv - 1)) 12309) ∧ SV n π (sv - 1) :=
  ⟨(hS (sv - 1) (by omega) (by omega)).cg (by omega) (fun q u v => by unfold bcp sl; rw [if_pos (by omega)]), fun i a b => hS i a (by omega)⟩
theorem SV.P {n : Int} {π : Int → Int} {sv : Int} (h : SV n π sv) : ∀ i, 0 ≤ i → i < sv → Wr (sl π (12309 * i)) ∧ RI (sl π (12309 * i)) := fun i a b => ⟨(h i a b).2.1, (h i a b).2.2.1⟩
