def rkA (R : Nat) (i : Int) : Nat := R + 72 + 2 * i.toNat
abbrev rcO (R : Nat) (lm : Int) : Cel := .inl (5, [.int (iI lm), .ref (R + 1), .ref (R + 2), .ref (R + 3), .ref (R + 4), .ref (R + 5), .ref (R + 6), .ref (R + 7), .ref (R + 69)])
/-- the receiver's own cells -/
def RA (M : ME) (R : Nat) (ρ : Int → Int) : Prop := ∃ (lm : Int) (cn ap am ab al : Int → Int), M R = some (rcO R lm) ∧ M (R + 1) = some (aI 6 cn) ∧ M (R + 2) = some (aI 15 ap) ∧ M (R + 3) = some (aI 15 am) ∧ M (R + 4) = some (aI 15 ab) ∧ M (R + 5) = some (aI 15 al) ∧ M (R + 6) = some (aR 5 4 (rkA R)) ∧ (¬ ρ 3389 = -1 → lm = ρ 3389) ∧ (∀ q, 0 ≤ q → q < 6 → cn q = ρ (3383 + q)) ∧ ∀ a, 0 ≤ a → a < 15 → ap a = ρ (4443 + 4 * a) ∧ am a = ρ (4443 + 4 * a + 1) ∧ ab a = ρ (4443 + 4 * a + 2) ∧ (¬ ρ (4443 + 4 * a + 3) = -1 → al a = ρ (4443 + 4 * a + 3))
theorem RA.mv {M M' : ME} {R : Nat} {ρ ρ' : Int → Int} (h : RA M R ρ) (hm : ∀ q, R ≤ q → q < R + 7 → M' q = M q) (hr : ∀ q, (3383 ≤ q ∧ q ≤ 3389) ∨ (4443 ≤ q ∧ q < 4503) → ρ' q = ρ q) : RA M' R ρ' := by
  obtain ⟨lm, cn, ap, am, ab, al, h0, h1, h2, h3, h4, h5, h6, h7, h8, h9⟩ := h
  refine ⟨lm, cn, ap, am, ab, al, by rw [hm _ (by omega) (by omega), h0], by rw [hm _ (by omega) (by omega), h1], by rw [hm _ (by omega) (by omega), h2], by rw [hm _ (by omega) (by omega), h3], by rw [hm _ (by omega) (by omega), h4], by rw [hm _ (by omega) (by omega), h5], by rw [hm _ (by omega) (by omega), h6], by rw [hr 3389 (by omega)]; exact h7, fun q a b => by rw [hr _ (by omega)]; exact h8 q a b, fun q a b => ?_⟩
  rw [hr _ (by omega), hr _ (by omega), hr _ (by omega), hr _ (by omega)]
  exact h9 q a b
/-- the receiver at R -/
def RR (M : ME) (R : Nat) (ρ : Int → Int) : Prop := RA M R ρ ∧ (∀ c, 0 ≤ c → c < 4 → RK M (rkA R c) ρ c) ∧ DL M (R + 7) ρ ∧ TR M (R + 69) ρ
theorem RR.mv {M M' : ME} {R : Nat} {ρ ρ' : Int → Int} (h : RR M R ρ) (hI : RI ρ) (hm : ∀ q, R ≤ q → q < R + 80 → M' q = M q) (hr : ∀ q, 3383 ≤ q → q < 12309 → q ≠ 3394 → ρ' q = ρ q) : RR M' R ρ' := by
  obtain ⟨h1, h2, h3, h4⟩ := h
  refine ⟨h1.mv (fun q a b => hm q a (by omega)) (fun q hq => hr q (by omega) (by omega) (by omega)), fun c a b => ?_, h3.mv hI.2.2.2.1 (fun q a b => hm q (by omega) (by omega)) (fun q a b => hr q (by omega) (by omega) (by omega)), h4.mv hI.2.2.2.2.1.2 (fun q a b => hm q (by omega) (by omega)) (fun q a b => hr q (by omega) (by omega) (by omega))⟩
  have := (hI.2.2.1 c a (by omega)).1.1
  exact (h2 c a b).mv (by omega) ⟨hm _ (by unfold rkA; omega) (by unfold rkA; omega), hm _ (by unfold rkA; omega) (by unfold rkA; omega)⟩ (fun q hq => hr q (by omega) (by omega) (by omega))
/-- what the class reads out of the row in another way -/
def CI (B : Int) (ρ : Int → Int) : Prop := ((0 ≤ ρ 3383 ∧ ρ 3383 ≤ B) ∧ (ρ 3389 = -1 ↔ ρ 3383 = 0)) ∧ (∀ c, 0 ≤ c → c ≤ 3 → (0 ≤ ρ (3395 + c) ∧ ρ (3395 + c) ≤ B) ∧ (ρ (3390 + c) = -1 ↔ ρ (3395 + c) = 0)) ∧ (∀ a, 0 ≤ a → a ≤ 14 → (0 ≤ ρ (4443 + 4 * a) ∧ ρ (4443 + 4 * a) ≤ B) ∧ (ρ (4443 + 4 * a + 3) = -1 ↔ ρ (4443 + 4 * a) = 0)) ∧ ∀ k, 0 ≤ k → k < ρ 4503 → ρ (4504 + 260 * k + 4) = dsum (fun i => ρ (4504 + 260 * k + 5 + i)) (ρ (4504 + 260 * k + 3)).toNat
theorem CI.cg {B B' : Int} {ρ ρ' : Int → Int} (h : CI B ρ) (hB : B ≤ B') (hA : Ai ρ) (hr : ∀ q, q = 3383 ∨ q = 3389 ∨ (3390 ≤ q ∧ q ≤ 3393) ∨ (3395 ≤ q ∧ q ≤ 3398) ∨ (4443 ≤ q ∧ q < 12304) → ρ' q = ρ q) : CI B' ρ' := by
  obtain ⟨h1, h2, h3, h4⟩ := h
  refine ⟨by rw [hr 3383 (by omega), hr 3389 (by omega)]; omega, fun c a b => by rw [hr _ (by omega), hr _ (by omega)]; have := h2 c a b; omega, fun c a b => by rw [hr _ (by omega), hr _ (by omega)]; have := h3 c a b; omega, fun k a b => ?_⟩
  rw [hr 4503 (by omega)] at b
  have hk := hA.2.1
  have hl := hA.2.2 k a b
  rw [hr _ (by omega), hr (4504 + 260 * k + 3) (by omega), h4 k a b]
  exact dsum_cg _ fun i c d => (hr _ (by omega)).symm
theorem rdlN_v {ρ : Int → Int} {fr to : Int} : ∀ n : Nat, fr + 3 + n ≤ to → (∀ k : Int, 0 ≤ k → k < n → rdlN ρ fr to n (to + 5 + k) = ρ (fr + 3 + k)) ∧ rdlN ρ fr to n (to + 4) = ρ (to + 4) + dsum (fun k => ρ (fr + 3 + k)) n
  | 0, _ => ⟨fun k a b => by omega, (Int.add_zero _).symm⟩
  | n + 1, h => by
    obtain ⟨i1, i2⟩ := rdlN_v (ρ := ρ) (fr := fr) (to := to) n (by omega)
    have hs := rdlN_s (ρ := ρ) (fr := fr) (to := to) (i := (n : Int)) (by omega)
    rw [show ((n : Int) + 1).toNat = n + 1 by omega, show ((n : Int)).toNat = n by omega] at hs
    rw [← hs]
    have e0 : rdlN ρ fr to n (fr + 3 + n) = ρ (fr + 3 + n) := rdlN_o _ (by omega) (by omega)
    refine ⟨fun k a b => ?_, ?_⟩
    · rw [up_n (by omega)]
      by_cases e : k = n
      · rw [e, up_s, e0]
      · rw [up_n (by omega)]; exact i1 k a (by omega)
    · rw [up_s, e0, i2]
      show _ = ρ (to + 4) + (dsum (fun k => ρ (fr + 3 + k)) n + ρ (fr + 3 + n))
      omega
/-- the new packet -/
theorem rdE_v {ρ : Int → Int} {c a : Int} (hc : 0 ≤ c ∧ c ≤ 3) (hp : 0 ≤ ρ 4503 ∧ ρ 4503 ≤ 29) (hl : 0 ≤ ρ (3411 + 258 * c + 2) ∧ ρ (3411 + 258 * c + 2) ≤ 255) : rdE ρ c a (4504 + 260 * ρ 4503) = c ∧ rdE ρ c a (4504 + 260 * ρ 4503 + 1) = a ∧ rdE ρ c a (4504 + 260 * ρ 4503 + 2) = ρ (3411 + 258 * c + 1) ∧ (∀ k, 0 ≤ k → k < ρ (3411 + 258 * c + 2) → rdE ρ c a (4504 + 260 * ρ 4503 + 5 + k) = ρ (3411 + 258 * c + 3 + k)) ∧ rdE ρ c a (4504 + 260 * ρ 4503 + 4) = dsum (fun k => ρ (3411 + 258 * c + 3 + k)) (ρ (3411 + 258 * c + 2)).toNat ∧ rdE ρ c a 4503 = ρ 4503 + 1 := by
  have hv := rdlN_v (ρ := rdC ρ c a) (fr := 3411 + 258 * c) (to := 4504 + 260 * ρ 4503) (ρ (3411 + 258 * c + 2)).toNat (by omega)
  have hC : ∀ q, q < 4504 → rdC ρ c a q = ρ q := fun q h => by unfold rdC; rw [up_n (by omega), up_n (by omega), up_n (by omega), up_n (by omega), up_n (by omega)]
  unfold rdE rdD
  refine ⟨?_, ?_, ?_, fun k x y => ?_, ?_, by rw [up_s]⟩
  · rw [up_n (by omega), rdlN_o _ (by omega) (by omega)]; unfold rdC; rw [up_n (by omega), up_n (by omega), up_n (by omega), up_n (by omega), up_s]
  · rw [up_n (by omega), rdlN_o _ (by omega) (by omega)]; unfold rdC; rw [up_n (by omega), up_n (by omega), up_n (by omega), up_s]
  · rw [up_n (by omega), rdlN_o _ (by omega) (by omega)]; unfold rdC; rw [up_n (by omega), up_n (by omega), up_s]
  · rw [up_n (by omega), hv.1 k x (by omega), hC _ (by omega)]
  · rw [up_n (by omega), hv.2]
    rw [dsum_cg (g := fun k => rdC ρ c a (3411 + 258 * c + 3 + k)) (g' := fun k => ρ (3411 + 258 * c + 3 + k)) _ (fun k x y => hC _ (by omega))]
    unfold rdC
    rw [up_s]
    omega
abbrev kpN (s : Int) (kp : Int → Nat) : Int → Nat := if s < 30 then kp else rot kp 30
abbrev sN (s : Int) : Int := if s < 30 then s else 29
/-- the list with a packet more -/
theorem DL.app {M M' : ME} {d : Nat} {ρ : Int → Int} {c a : Int} (hc : 0 ≤ c ∧ c ≤ 3) (hA : Ai ρ) (hl : 0 ≤ ρ (3411 + 258 * c + 2) ∧ ρ (3411 + 258 * c + 2) ≤ 255) {kp : Int → Nat} (h3 : Pm (d + 2) 2 30 kp) (h5 : ∀ i, 0 ≤ i → i < 30 → ∃ φ, DR M (kp i) φ 0) (h6 : ∀ i, 0 ≤ i → i < ρ 4503 → DR M (kp i) (sl ρ (4504 + 260 * i)) (ρ (4504 + 260 * i + 3))) {g gk : Int → Int} (hd0 : M' d = some (dlO d (sN (ρ 4503) + 1))) (hd1 : M' (d + 1) = some (aR 2 30 (kpN (ρ 4503) kp))) (hk0 : M' (kpN (ρ 4503) kp (sN (ρ 4503))) = some (dpO (kpN (ρ 4503) kp (sN (ρ 4503))) c a (ρ (3411 + 258 * c + 1)) (ρ (3411 + 258 * c + 2)))) (hk1 : M' (kpN (ρ 4503) kp (sN (ρ 4503)) + 1) = some (aI 255 (cpI gk g 3 0 255))) (hgk : ∀ k, 0 ≤ k → k < ρ (3411 + 258 * c + 2) → gk (3 + k) = ρ (3411 + 258 * c + 3 + k)) (hF : ∀ q, d + 2 ≤ q → q < d + 62 → q ≠ kpN (ρ 4503) kp (sN (ρ 4503)) → q ≠ kpN (ρ 4503) kp (sN (ρ 4503)) + 1 → M' q = M q) : DL M' d (rdE (rdB ρ) c a) := by
  have hp := hA.2.1
  have hb := rdB_p hp
  have hs : rdB ρ 4503 = sN (ρ 4503) := by
    unfold sN
    split
    · exact hb.2.2 (by omega)
    · exact hb.2.1 (by omega)
  have hl2 : rdB ρ (3411 + 258 * c + 2) = ρ (3411 + 258 * c + 2) := rdB_o (by omega)
  have hv := rdE_v (ρ := rdB ρ) (a := a) hc hb.1 (by rw [hl2]; exact hl)
  have h33 := rdE_3 (ρ := rdB ρ) (c := c) (a := a) hb.1
  rw [hl2] at h33 hv
  rw [hs] at hv h33
  have hsb : 0 ≤ sN (ρ 4503) ∧ sN (ρ 4503) ≤ 29 := by rw [← hs]; exact hb.1
  have h3' : Pm (d + 2) 2 30 (kpN (ρ 4503) kp) := by
    unfold kpN
    split
    · exact h3
    · exact rot_P (by omega) h3
  have hx := h3' (sN (ρ 4503)) hsb.1 (by omega)
  have h5' : ∀ i, 0 ≤ i → i < 30 → ∃ φ, DR M (kpN (ρ 4503) kp i) φ 0 := fun i x y => by
    unfold kpN
    split
    · exact h5 i x y
    · rw [rot_e x]; have := rti_b (s := 30) (n := 30) (by omega) ⟨x, y⟩; exact h5 _ this.1 this.2
  have h6' : ∀ i, 0 ≤ i → i < sN (ρ 4503) → DR M (kpN (ρ 4503) kp i) (sl (rdB ρ) (4504 + 260 * i)) (rdB ρ (4504 + 260 * i + 3)) := fun i x y => by
    by_cases e : ρ 4503 = 30
    · have e1 : kpN (ρ 4503) kp i = kp (i + 1) := by
        unfold kpN; rw [if_neg (by omega), rot_lo ⟨x, by unfold sN at y; omega⟩]
      have hz : i + 1 < ρ 4503 := by unfold sN at y; omega
      have h9 := hA.2.2 (i + 1) (by omega) hz
      have e3 : rdB ρ (4504 + 260 * i + 3) = ρ (4504 + 260 * (i + 1) + 3) := by
        rw [rdB_r (by omega), if_pos e]; congr 1; omega
      rw [e1, e3]
      refine (h6 (i + 1) (by omega) hz).mv ⟨rfl, rfl⟩ (Int.le_refl _) (fun q z w => ?_)
      unfold sl
      rw [rdB_r (by omega), if_pos e]; congr 1; omega
    · have e1 : kpN (ρ 4503) kp i = kp i := by unfold kpN; rw [if_pos (by omega)]
      have e2 : rdB ρ = ρ := by unfold rdB; rw [if_neg e]
      rw [e1, e2]
      exact h6 i x (by unfold sN at y; omega)
  refine ⟨kpN (ρ 4503) kp, by rw [hd0, hv.2.2.2.2.2], hd1, h3', by rw [hv.2.2.2.2.2]; omega, fun i x y => ?_, fun i x y => ?_⟩
  · by_cases e : i = sN (ρ 4503)
    · refine ⟨fun q => if q = 0 then c else if q = 1 then a else if q = 2 then ρ (3411 + 258 * c + 1) else ρ (3411 + 258 * c + 2), _, ?_, by rw [e]; exact hk1, fun q z w => by omega⟩
      rw [e, hk0]
      rfl
    · obtain ⟨φ, h⟩ := h5' i x y
      have hy := h3' i x y
      have hz := hy.2.2 _ hsb.1 (by omega) e
      exact ⟨φ, h.mv ⟨hF _ (by omega) (by omega) (by omega) (by omega), hF _ (by omega) (by omega) (by omega) (by omega)⟩ (Int.le_refl _) (fun _ _ _ => rfl)⟩
  · rw [hv.2.2.2.2.2] at y
    by_cases e : i = sN (ρ 4503)
    · rw [e]
      refine ⟨_, ?_, hk1, fun q z w => ?_⟩
      · rw [hk0]
        unfold sl
        rw [Int.add_zero, hv.1, hv.2.1, hv.2.2.1, h33, rdB_o (q := 3411 + 258 * c + 1) (by omega)]
      · rw [h33] at w
        unfold cpI sl
        rw [if_pos (by omega), show (3 : Int) + (q - 0) = 3 + q by omega, hgk q z w, show 4504 + 260 * sN (ρ 4503) + (5 + q) = 4504 + 260 * sN (ρ 4503) + 5 + q by omega, hv.2.2.2.1 q z w, rdB_o (by omega)]
    · have hy := h3' i x (by omega)
      have hz := hy.2.2 _ hsb.1 (by omega) e
      have hlt : i < sN (ρ 4503) := by omega
      have hle : 0 ≤ rdB ρ (4504 + 260 * i + 3) ∧ rdB ρ (4504 + 260 * i + 3) ≤ 255 := by
        by_cases e9 : ρ 4503 = 30
        · rw [rdB_r (by omega), if_pos e9, show 4504 + 260 * i + 3 + 260 = 4504 + 260 * (i + 1) + 3 by omega]
          exact hA.2.2 (i + 1) (by omega) (by unfold sN at hlt; omega)
        · rw [rdB_r (by omega), if_neg e9]
          exact hA.2.2 i x (by unfold sN at hlt; omega)
      have eo : ∀ q, 0 ≤ q → q < 260 → rdE (rdB ρ) c a (4504 + 260 * i + q) = rdB ρ (4504 + 260 * i + q) := fun q z w => rdE_o hb.1 (by rw [hl2]; exact hl) (by omega) (by rw [hs]; omega)
      rw [eo 3 (by omega) (by omega)]
      refine (h6' i x hlt).mv ⟨hF _ (by omega) (by omega) (by omega) (by omega), hF _ (by omega) (by omega) (by omega) (by omega)⟩ (Int.le_refl _) (fun q z w => eo q z (by omega))

theorem l_append (l : Launch) (M : ME) (w : Nat) (s : Int) (hM : M w = some (dlO w s)) (kp : Int → Nat) (hA : M (w + 1) = some (aR 2 30 kp)) (hs : 0 ≤ s ∧ s ≤ 30) (hP : Pm (w + 2) 2 30 kp) (hg : ∀ k, 0 ≤ k → k < 30 → ∃ φ, DR M (kp k) φ 0) : CF l yX0_append cX0_append 3 (some (.object "TelemetryLink$DeliveredPacket")) (rmN 1) [.ref w] M (some (.ref (kpN s kp (sN s)))) (mu (mu M w (dlO w (sN s + 1))) (w + 1) (aR 2 30 (kpN s kp))) := by
  by_cases h : s < 30
  · have e1 : kpN s kp = kp := if_pos h
    have e2 : sN s = s := if_pos h
    rw [e1, e2, show mu (mu M w (dlO w (s + 1))) (w + 1) (aR 2 30 kp) = mu M w (dlO w (s + 1)) from mu_self ((mu_ne (by omega)).trans hA)]
    exact l_append1 l M w s hM kp hA ⟨hs.1, h⟩
  · have e1 : kpN s kp = rot kp 30 := if_neg h
    have e2 : sN s = 29 := if_neg h
    rw [e1, e2, show mu M w (dlO w (29 + 1)) = M from mu_self (by rw [hM, show s = 29 + 1 by omega]), show rot kp 30 29 = kp 0 from rot_m (s := 30)]
    exact l_append2 l M w s hM kp hA (by omega) hP hg
