theorem RI.hi {ρ ρ' : Int → Int} (h : RI ρ) (hr : ∀ q, 3383 ≤ q → q < 12309 → ρ' q = ρ q) : RI ρ' := by
  obtain ⟨h1, h2, h3, h4, h5⟩ := h
  exact ⟨by rw [hr _ (by omega) (by omega)]; exact h1, fun c a b => by rw [hr _ (by omega) (by omega)]; exact h2 c a b, fun c a b => ⟨(h3 c a b).1.cg ⟨a, b⟩ (hr _ (by omega) (by omega)) (fun q x y => hr q (by omega) (by omega)), by rw [hr _ (by omega) (by omega)]; exact (h3 c a b).2⟩, h4.cg fun q a b => hr q (by omega) (by omega), h5.cg fun q a b => hr q (by omega) (by omega)⟩
theorem svP_P {ρ π : Int → Int} {sv : Int} (hv : 0 ≤ sv ∧ sv ≤ 3) (hW : Wr ρ) (hI : RI ρ) (hP : ∀ i, 0 ≤ i → i < sv → Wr (sl π (12309 * i)) ∧ RI (sl π (12309 * i))) : ∀ i, 0 ≤ i → i < svS sv → Wr (sl (svP ρ π sv) (12309 * i)) ∧ RI (sl (svP ρ π sv) (12309 * i)) := fun i z w => by
  by_cases el : i = svS sv - 1
  · have er : ∀ q, 0 ≤ q → q < 12309 → sl (svP ρ π sv) (12309 * i) q = ρ q := fun q u v => by
      unfold sl
      rw [el]; exact svP_l hv ⟨u, v⟩
    exact ⟨WrCg hW er, RICg hI er⟩
  · by_cases e : sv = 3
    · have h9 := hP (i + 1) (by omega) (by unfold svS at w el; rw [if_pos e] at w el; omega)
      have er : ∀ q, 0 ≤ q → q < 12309 → sl (svP ρ π sv) (12309 * i) q = sl π (12309 * (i + 1)) q := fun q u v => by
        unfold sl
        rw [e, svP_3 (by unfold svS at w el; rw [if_pos e] at w el; omega)]
        congr 1; omega
      exact ⟨WrCg h9.1 er, RICg h9.2 er⟩
    · have h9 := hP i z (by unfold svS at w el; rw [if_neg e] at w el; omega)
      have er : ∀ q, 0 ≤ q → q < 12309 → sl (svP ρ π sv) (12309 * i) q = sl π (12309 * i) q := fun q u v => by
        unfold sl
        exact svP_o e (by unfold svS at w el; rw [if_neg e] at w el; omega)
      exact ⟨WrCg h9.1 er, RICg h9.2 er⟩
theorem St.sb {M M' : ME} {S : Nat} {ρ ρ' : Int → Int} (h : St M S ρ) (hW : Wr ρ) (hI : RI ρ) (hB : SB M' S ρ') (hm : ∀ q, S + 3 ≤ q → q < S + 265 → M' q = M q) (hr : ∀ q, 25 ≤ q → q < 12309 → q ≠ 45 → ρ' q = ρ q) : St M' S ρ' := by
  refine ⟨hB, fun c a b => ?_, h.2.2.1.mv hW (fun q a b => hm q (by omega) (by omega)) (fun q a b => hr q (by omega) (by omega) (by omega)), h.2.2.2.mv hI (fun q a b => hm q (by omega) (by omega)) (fun q a b c => hr q (by omega) (by omega) (by omega))⟩
  have hA : scA S c = S + 205 + 15 * c.toNat := rfl
  exact (h.2.1 c a b).mv (fun q x y => hm q (by omega) (by omega)) (fun q hq => hr q (by unfold chq at hq; omega) (by unfold chq at hq; omega) (by unfold chq at hq; omega))
theorem chq_d {i c q : Int} (hi : 0 ≤ i ∧ i < 4) (hc : 0 ≤ c ∧ c < 4) (hn : i ≠ c) (h : chq i q) : ¬ chq c q := by
  unfold chq at *
  rcases h with h | h | h | h | h | h | h | h | h | h <;> omega
theorem St.sc {M M' : ME} {S : Nat} {ρ ρ' : Int → Int} {c : Int} (h : St M S ρ) (hW : Wr ρ) (hI : RI ρ) (hc : 0 ≤ c ∧ c < 4) (hC : SC M' (scA S c) ρ' c) (hm : ∀ q, (q < scA S c ∨ scA S c + 15 ≤ q) → M' q = M q) (hr : ∀ q, ¬ chq c q → ρ' q = ρ q) : St M' S ρ' := by
  have hA : scA S c = S + 205 + 15 * c.toNat := rfl
  refine ⟨h.1.mv (fun q a b => hm q (by omega)) (fun q hq => hr q (by unfold chq; omega)), fun i a b => ?_, h.2.2.1.mv hW (fun q a b => hm q (by omega)) (fun q a b => hr q (by unfold chq; omega)), h.2.2.2.mv hI (fun q a b => hm q (by omega)) (fun q a b _ => hr q (by unfold chq; omega))⟩
  have hB : scA S i = S + 205 + 15 * i.toNat := rfl
  by_cases e : i = c
  · rw [e]; exact hC
  · exact (h.2.1 i a b).mv (fun q x y => hm q (by omega)) (fun q hq => hr q (chq_d ⟨a, b⟩ hc e hq))
theorem St.wr {M M' : ME} {S : Nat} {ρ ρ' : Int → Int} (h : St M S ρ) (hI : RI ρ) (hw : WR M' (S + 3) ρ') (hm : ∀ q, (q < S + 3 ∨ S + 125 ≤ q) → M' q = M q) (hr : ∀ q, (q < 382 ∨ 3383 ≤ q) → ρ' q = ρ q) : St M' S ρ' := by
  refine ⟨h.1.mv (fun q a b => hm q (by omega)) (fun q hq => hr q (by omega)), fun c a b => ?_, hw, h.2.2.2.mv hI (fun q a b => hm q (by omega)) (fun q a b c => hr q (by omega))⟩
  have hA : scA S c = S + 205 + 15 * c.toNat := rfl
  exact (h.2.1 c a b).mv (fun q x y => hm q (by omega)) (fun q hq => hr q (by unfold chq at hq; omega))
theorem St.rr {M M' : ME} {S : Nat} {ρ ρ' : Int → Int} (h : St M S ρ) (hW : Wr ρ) (hw : RR M' (S + 125) ρ') (hm : ∀ q, (q < S + 125 ∨ S + 205 ≤ q) → M' q = M q) (hr : ∀ q, q < 3383 → ρ' q = ρ q) : St M' S ρ' := by
  refine ⟨h.1.mv (fun q a b => hm q (by omega)) (fun q hq => hr q (by omega)), fun c a b => ?_, h.2.2.1.mv hW (fun q a b => hm q (by omega)) (fun q a b => hr q (by omega)), hw⟩
  have hA : scA S c = S + 205 + 15 * c.toNat := rfl
  exact (h.2.1 c a b).mv (fun q x y => hm q (by omega)) (fun q hq => hr q (by unfold chq at hq; omega))
/-- the object behind a step of the row now -/
theorem TL.put {N N' : ME} {x b : Nat} {g : Int → Nat} {ρ' π : Int → Int} {sv : Int} (y0 : N x = some (tlO x b sv)) (y1 : N (x + 266) = some (aR 7 3 g)) (y2 : Df x b g) (y4 : ∀ i, 0 ≤ i → i < sv → St N (g i) (sl π (12309 * i))) (y5 : ∀ i, 0 ≤ i → sv ≤ i → i < 3 → ∃ ρ', St N (g i) ρ' ∧ Wr ρ' ∧ RI ρ') (hv : sv ≤ 3) (hP : ∀ i, 0 ≤ i → i < sv → Wr (sl π (12309 * i)) ∧ RI (sl π (12309 * i))) (hS : St N' b ρ') (hF : FR N N' b 265) : TL N' x ρ' π sv ∧ FR N N' x 1062 := by
  have bb := y2.1.b
  refine ⟨⟨b, g, (hF _ (by omega)).trans y0, (hF _ (by omega)).trans y1, y2, hS, fun i z w => ?_, fun i z w y => ?_⟩, hF.up (by omega)⟩
  · have d := (y2.2 i z (by omega)).1.d y2.1 (y2.2 i z (by omega)).2.1
    exact (y4 i z w).mv (hP i z w).1 (hP i z w).2 (fun q u v => hF q (by omega)) (fun _ _ _ _ => rfl)
  · have d := (y2.2 i z y).1.d y2.1 (y2.2 i z y).2.1
    obtain ⟨ρ8, k1, k2, k3⟩ := y5 i z w y
    exact ⟨ρ8, k1.mv k2 k3 (fun q u v => hF q (by omega)) (fun _ _ _ _ => rfl), k2, k3⟩
theorem WR.set {M M' : ME} {w : Nat} {ρ ρ' : Int → Int} {fr : Int → Nat} (w1 : M w = some (wiO w (ρ 382))) (w2 : M (w + 1) = some (aR 3 60 fr)) (w3 : Pm (w + 2) 2 60 fr) (w4 : 0 ≤ ρ 382 ∧ ρ 382 ≤ 60) (w5 : ∀ i, 0 ≤ i → i < 60 → ∃ φ, FO M (fr i) φ 0) (w6 : ∀ i, 0 ≤ i → i < ρ 382 → FO M (fr i) (sl ρ (383 + 50 * i)) (ρ (383 + 50 * i) + 6)) (hW : Wr ρ) {i : Int} (hi : 0 ≤ i ∧ i < ρ 382) (hl : -6 ≤ ρ' (383 + 50 * i)) (hO : FO M' (fr i) (sl ρ' (383 + 50 * i)) (ρ' (383 + 50 * i) + 6)) (hm : ∀ q, w ≤ q → q < w + 122 → q ≠ fr i → q ≠ fr i + 1 → M' q = M q) (hr : ∀ q, (q < 383 + 50 * i ∨ 383 + 50 * i + 50 ≤ q) → ρ' q = ρ q) : WR M' w ρ' := by
  have e := hr 382 (by omega)
  have bi := w3 i hi.1 (by omega)
  refine ⟨fr, by rw [hm _ (by omega) (by omega) (by omega) (by omega), w1, e], by rw [hm _ (by omega) (by omega) (by omega) (by omega), w2], w3, by rw [e]; exact w4, fun j a b => ?_, fun j a b => ?_⟩
  · by_cases h : j = i
    · rw [h]; exact ⟨_, hO.mv ⟨rfl, rfl⟩ (by omega) (fun _ _ _ => rfl)⟩
    · obtain ⟨φ, hφ⟩ := w5 j a b
      have bj := w3 j a b
      have d := bj.2.2 i hi.1 (by omega) h
      exact ⟨φ, hφ.mv ⟨hm _ (by omega) (by omega) (by omega) (by omega), hm _ (by omega) (by omega) (by omega) (by omega)⟩ (by omega) (fun _ _ _ => rfl)⟩
  · rw [e] at b
    by_cases h : j = i
    · rw [h]; exact hO
    · have bj := w3 j a (by omega)
      have d := bj.2.2 i hi.1 (by omega) h
      have hl := (hW.2 j a b).1
      have e1 := hr (383 + 50 * j) (by omega)
      refine (w6 j a b).mv ⟨hm _ (by omega) (by omega) (by omega) (by omega), hm _ (by omega) (by omega) (by omega) (by omega)⟩ (by rw [e1]; omega) (fun q c d => ?_)
      rw [e1] at d
      unfold sl
      exact hr _ (by omega)

set_option maxRecDepth 100000 in
set_option maxHeartbeats 4000000 in
theorem p_setFrameLength (l : Launch) (hfl : l.stackTraces = false) (M : ME) (x : Nat) (ρ π : Int → Int) (sv : Int) (hT : TL M x ρ π sv) (hv : 0 ≤ sv ∧ sv ≤ 3) (hW : Wr ρ) (hI : RI ρ) (hP : ∀ i, 0 ≤ i → i < sv → Wr (sl π (12309 * i)) ∧ RI (sl π (12309 * i))) (hS : SI ρ) (n : Int) (hn : -2147483648 ≤ n ∧ n < 2147483648) (e : Int) (he : (¬ (8 ≤ n ∧ n ≤ 40) ∧ e = 1) ∨ ((8 ≤ n ∧ n ≤ 40) ∧ 0 < pend ρ 0 + pend ρ 1 + pend ρ 2 + pend ρ 3 ∧ e = 2) ∨ ((8 ≤ n ∧ n ≤ 40) ∧ pend ρ 0 + pend ρ 1 + pend ρ 2 + pend ρ 3 ≤ 0 ∧ e = 0)) : CX l yX10_setFrameLength cX10_setFrameLength 3 (some .int) (rmX 8) [.ref x, .int (iI n)] M (fun v M' => e = 0 ∧ v = some (.int (iI (ρ 0))) ∧ TL M' x (up ρ 0 n) (svP ρ π sv) (svS sv) ∧ FR M M' x 1062) (fun E M' => ((e = 1 ∧ E = iae) ∨ (e = 2 ∧ E = ise)) ∧ M' = M) := by
  obtain ⟨a, f, x0, x1, x2, x3, x4, x5⟩ := id hT
  have ba := x2.1.b
  obtain ⟨sq, m1, m2, m3, m4⟩ := id x3.1
  refine CX.of (L0 := [some _, some _, none]) (by decide +kernel) rfl rfl (Nat.le_of_ble_eq_true rfl) rfl (fun G A Q X sz hQ hX => ?_)
  refine V_iload_n dX10_setFrameLength_0 rfl ?_
  refine V_bipush (v := iI (8)) dX10_setFrameLength_1 (by decide +kernel) ?_
  refine V_bipush (v := iI (40)) dX10_setFrameLength_3 (by decide +kernel) ?_
  refine V_cS (vs := [_, _, _]) (x_outside l M (n) (8) (40) (by unfold r32; omega)) mX10_24 coX10_outside dX10_setFrameLength_5 rfl rfl (by decide) (Nat.le_of_ble_eq_true rfl) (Nat.le_of_ble_eq_true rfl) (Nat.le_of_ble_eq_true rfl) (fun sz => ?_)
  obtain ⟨vo0, ho0, eo0⟩ := ex_if (p := n < 8 ∨ 40 < n)
  rw [eo0]
  refine I_if_eq (tgt := 21) dX10_setFrameLength_8 (by decide) ⟨by omega, by omega⟩ (fun h8 => ?_) (fun h8 => ?_)
  · refine V_aload_n dX10_setFrameLength_21 rfl ?_
    refine V_getf fX10_10 dX10_setFrameLength_22 x0 rfl ?_
    refine V_cV (vs := []) (s_hasPendingBytes l M a ρ x3 hS) mX10_35 coX7_hasPendingBytes dX10_setFrameLength_25 m1 rfl rfl rfl (by decide) (Nat.le_of_ble_eq_true rfl) (Nat.le_of_ble_eq_true rfl) (Nat.le_of_ble_eq_true rfl) (fun sz => ?_)
    obtain ⟨o1, ho1, eo1⟩ := ex_if (p := 0 < pend ρ 0 + pend ρ 1 + pend ρ 2 + pend ρ 3)
    rw [eo1]
    refine I_if_eq (tgt := 41) dX10_setFrameLength_28 (by decide) ⟨by omega, by omega⟩ (fun h28 => ?_) (fun h28 => ?_)
    · refine V_aload_n dX10_setFrameLength_41 rfl ?_
      refine V_cVE0 (vs := []) (x_saveState l M x ρ π sv hT hv hW hI hP) mX10_44 coX10_saveState dX10_setFrameLength_42 x0 rfl rfl rfl (by decide) (Nat.le_of_ble_eq_true rfl) (Nat.le_of_ble_eq_true rfl) (Nat.le_of_ble_eq_true rfl) (fun N1 sz hp => ?_)
      obtain ⟨hT1, hF1⟩ := hp
      have hP1 := svP_P hv hW hI hP
      have hsv1 : 0 ≤ svS sv ∧ svS sv ≤ 3 := by unfold svS; split <;> omega
      obtain ⟨b, g, y0, y1, y2, y3, y4, y5⟩ := id hT1
      have bb := y2.1.b
      obtain ⟨sqb, k1, k2, k3, k4⟩ := id y3.1
      refine V_aload_n dX10_setFrameLength_45 rfl ?_
      refine V_getf fX10_10 dX10_setFrameLength_46 y0 rfl ?_
      refine V_getf fX10_47 dX10_setFrameLength_49 k1 rfl ?_
      refine V_istore_n (L' := [some _, some _, some _]) dX10_setFrameLength_52 rfl (by decide) rfl ?_
      refine V_aload_n dX10_setFrameLength_53 rfl ?_
      refine V_getf fX10_10 dX10_setFrameLength_54 y0 rfl ?_
      refine V_iload_n dX10_setFrameLength_57 rfl ?_
      refine V_putf fX10_47 dX10_setFrameLength_58 k1 rfl rfl (by simp) ?_
      refine V_gen (fun K hK => ?_)
      have hKo : ∀ q, q ≠ b → K q = N1 q := fun q z => by rw [hK, mu_ne z]
      have hKb : K b = some (stO b n (ρ 1) (ρ 2) (ρ 3) (ρ 45)) := (congrFun hK b).trans mu_eq
      have hB : SB K b (up ρ 0 n) := ⟨sqb, by rw [hKb, up_s, up_n (by omega), up_n (by omega), up_n (by omega), up_n (by omega)], by rw [hKo _ (by omega)]; exact k2, by rw [hKo _ (by omega)]; exact k3, fun a u v => by rw [up_n (by omega)]; exact k4 a u v⟩
      have hz := (TL.put y0 y1 y2 y4 y5 hsv1.2 hP1 (y3.sb hW hI hB (fun q u v => hKo q (by omega)) (fun q u v w => up_n (by omega))) (fun q hq => hKo q (by omega)))
      refine V_iload_n dX10_setFrameLength_61 rfl ?_
      exact V_ireti dX10_setFrameLength_62 rfl (Nat.le_of_ble_eq_true rfl) (Nat.le_of_ble_eq_true rfl) (hQ _ _ _ ⟨by omega, rfl, hz.1, hF1.tr hz.2⟩)
    · exact V_ise hfl sX10_41 dX10_setFrameLength_31 dX10_setFrameLength_34 dX10_setFrameLength_35 dX10_setFrameLength_37 dX10_setFrameLength_40 (by decide) (Nat.le_of_ble_eq_true rfl) (Nat.le_of_ble_eq_true rfl) (Nat.le_of_ble_eq_true rfl) (hX _ _ ⟨Or.inr (⟨by omega, rfl⟩), rfl⟩)
  · exact V_iae hfl sX10_30 dX10_setFrameLength_11 dX10_setFrameLength_14 dX10_setFrameLength_15 dX10_setFrameLength_17 dX10_setFrameLength_20 (by decide) (Nat.le_of_ble_eq_true rfl) (Nat.le_of_ble_eq_true rfl) (Nat.le_of_ble_eq_true rfl) (hX _ _ ⟨Or.inl ⟨by omega, rfl⟩, rfl⟩)

set_option maxRecDepth 100000 in
set_option maxHeartbeats 4000000 in
theorem p_setChannel (l : Launch) (hfl : l.stackTraces = false) (M : ME) (x : Nat) (ρ π : Int → Int) (sv : Int) (hT : TL M x ρ π sv) (hv : 0 ≤ sv ∧ sv ≤ 3) (hW : Wr ρ) (hI : RI ρ) (hP : ∀ i, 0 ≤ i → i < sv → Wr (sl π (12309 * i)) ∧ RI (sl π (12309 * i))) (c : Int) (hc : -2147483648 ≤ c ∧ c < 2147483648) (p : Int) (hp : -2147483648 ≤ p ∧ p < 2147483648) (q : Int) (hq : -2147483648 ≤ q ∧ q < 2147483648) (d : Int) (hd : -2147483648 ≤ d ∧ d < 2147483648) (e : Int) (he : (¬ (0 ≤ c ∧ c ≤ 3) ∧ e = 1) ∨ ((0 ≤ c ∧ c ≤ 3) ∧ ¬ ((0 ≤ p ∧ p ≤ 9) ∧ (0 ≤ q ∧ q ≤ 50) ∧ (0 ≤ d ∧ d ≤ 50)) ∧ e = 2) ∨ ((0 ≤ c ∧ c ≤ 3) ∧ ((0 ≤ p ∧ p ≤ 9) ∧ (0 ≤ q ∧ q ≤ 50) ∧ (0 ≤ d ∧ d ≤ 50)) ∧ e = 0)) : CX l yX10_setChannel cX10_setChannel 7 (some .int) (rmX 8) [.ref x, .int (iI c), .int (iI p), .int (iI q), .int (iI d)] M (fun v M' => e = 0 ∧ v = some (.int (iI (ρ (25 + c)))) ∧ TL M' x (up (up (up ρ (25 + c) p) (29 + c) q) (33 + c) d) (svP ρ π sv) (svS sv) ∧ FR M M' x 1062) (fun E M' => ((e = 1 ∧ E = ioo) ∨ (e = 2 ∧ E = iae)) ∧ M' = M) := by
  obtain ⟨a, f, x0, x1, x2, x3, x4, x5⟩ := id hT
  have ba := x2.1.b
  obtain ⟨sq, m1, m2, m3, m4⟩ := id x3.1
  refine CX.of (L0 := [some _, some _, some _, some _, some _, none, none]) (by decide +kernel) rfl rfl (Nat.le_of_ble_eq_true rfl) rfl (fun G A Q X sz hQ hX => ?_)
  refine V_iload_n dX10_setChannel_0 rfl ?_
  refine V_iconst (v := iI (0)) dX10_setChannel_1 rfl ?_
  refine V_iconst (v := iI (3)) dX10_setChannel_2 rfl ?_
  refine V_cS (vs := [_, _, _]) (x_outside l M (c) (0) (3) (by unfold r32; omega)) mX10_24 coX10_outside dX10_setChannel_3 rfl rfl (by decide) (Nat.le_of_ble_eq_true rfl) (Nat.le_of_ble_eq_true rfl) (Nat.le_of_ble_eq_true rfl) (fun sz => ?_)
  obtain ⟨vo0, ho0, eo0⟩ := ex_if (p := c < 0 ∨ 3 < c)
  rw [eo0]
  refine I_if_eq (tgt := 19) dX10_setChannel_6 (by decide) ⟨by omega, by omega⟩ (fun h6 => ?_) (fun h6 => ?_)
  · refine V_iload_n dX10_setChannel_19 rfl ?_
    refine V_iconst (v := iI (0)) dX10_setChannel_20 rfl ?_
    refine V_bipush (v := iI (9)) dX10_setChannel_21 (by decide +kernel) ?_
    refine V_cS (vs := [_, _, _]) (x_outside l M (p) (0) (9) (by unfold r32; omega)) mX10_24 coX10_outside dX10_setChannel_23 rfl rfl (by decide) (Nat.le_of_ble_eq_true rfl) (Nat.le_of_ble_eq_true rfl) (Nat.le_of_ble_eq_true rfl) (fun sz => ?_)
    obtain ⟨vo1, ho1, eo1⟩ := ex_if (p := p < 0 ∨ 9 < p)
    rw [eo1]
    refine I_if_ne (tgt := 50) dX10_setChannel_26 (by decide) ⟨by omega, by omega⟩ (fun h26 => ?_) (fun h26 => ?_)
    · exact V_iae hfl sX10_55 dX10_setChannel_50 dX10_setChannel_53 dX10_setChannel_54 dX10_setChannel_56 dX10_setChannel_59 (by decide) (Nat.le_of_ble_eq_true rfl) (Nat.le_of_ble_eq_true rfl) (Nat.le_of_ble_eq_true rfl) (hX _ _ ⟨Or.inr (⟨by omega, rfl⟩), rfl⟩)
    · refine V_iload_n dX10_setChannel_29 rfl ?_
      refine V_iconst (v := iI (0)) dX10_setChannel_30 rfl ?_
      refine V_bipush (v := iI (50)) dX10_setChannel_31 (by decide +kernel) ?_
      refine V_cS (vs := [_, _, _]) (x_outside l M (q) (0) (50) (by unfold r32; omega)) mX10_24 coX10_outside dX10_setChannel_33 rfl rfl (by decide) (Nat.le_of_ble_eq_true rfl) (Nat.le_of_ble_eq_true rfl) (Nat.le_of_ble_eq_true rfl) (fun sz => ?_)
      obtain ⟨vo2, ho2, eo2⟩ := ex_if (p := q < 0 ∨ 50 < q)
      rw [eo2]
      refine I_if_ne (tgt := 50) dX10_setChannel_36 (by decide) ⟨by omega, by omega⟩ (fun h36 => ?_) (fun h36 => ?_)
      · exact V_iae hfl sX10_55 dX10_setChannel_50 dX10_setChannel_53 dX10_setChannel_54 dX10_setChannel_56 dX10_setChannel_59 (by decide) (Nat.le_of_ble_eq_true rfl) (Nat.le_of_ble_eq_true rfl) (Nat.le_of_ble_eq_true rfl) (hX _ _ ⟨Or.inr (⟨by omega, rfl⟩), rfl⟩)
      · refine V_iload dX10_setChannel_39 rfl ?_
        refine V_iconst (v := iI (0)) dX10_setChannel_41 rfl ?_
        refine V_bipush (v := iI (50)) dX10_setChannel_42 (by decide +kernel) ?_
        refine V_cS (vs := [_, _, _]) (x_outside l M (d) (0) (50) (by unfold r32; omega)) mX10_24 coX10_outside dX10_setChannel_44 rfl rfl (by decide) (Nat.le_of_ble_eq_true rfl) (Nat.le_of_ble_eq_true rfl) (Nat.le_of_ble_eq_true rfl) (fun sz => ?_)
        obtain ⟨vo3, ho3, eo3⟩ := ex_if (p := d < 0 ∨ 50 < d)
        rw [eo3]
        refine I_if_eq (tgt := 60) dX10_setChannel_47 (by decide) ⟨by omega, by omega⟩ (fun h47 => ?_) (fun h47 => ?_)
        · refine V_aload_n dX10_setChannel_60 rfl ?_
          refine V_cVE0 (vs := []) (x_saveState l M x ρ π sv hT hv hW hI hP) mX10_44 coX10_saveState dX10_setChannel_61 x0 rfl rfl rfl (by decide) (Nat.le_of_ble_eq_true rfl) (Nat.le_of_ble_eq_true rfl) (Nat.le_of_ble_eq_true rfl) (fun N1 sz hp => ?_)
          obtain ⟨hT1, hF1⟩ := hp
          have hP1 := svP_P hv hW hI hP
          have hsv1 : 0 ≤ svS sv ∧ svS sv ≤ 3 := by unfold svS; split <;> omega
          obtain ⟨b, g, y0, y1, y2, y3, y4, y5⟩ := id hT1
          have bb := y2.1.b
          obtain ⟨sqb, k1, k2, k3, k4⟩ := id y3.1
          have he0 : e = 0 ∧ (0 ≤ c ∧ c ≤ 3) := by omega
          clear ho0 ho1 ho2 ho3 he
          have hkA : scA b c = b + 205 + 15 * c.toNat := rfl
          obtain ⟨fy, py, z0, -⟩ := id (y3.2.1 c (by omega) (by omega))
          refine V_aload_n dX10_setChannel_64 rfl ?_
          refine V_getf fX10_10 dX10_setChannel_65 y0 rfl ?_
          refine V_getf fX10_57 dX10_setChannel_68 k1 rfl ?_
          refine V_iload_n dX10_setChannel_71 rfl ?_
          refine I_aald ao6 dX10_setChannel_72 k3 ⟨by omega, by omega⟩ (by decide) ?_
          refine V_astore (L' := [some _, some _, some _, some _, some _, some _, none]) dX10_setChannel_73 (by decide) rfl ?_
          refine V_aload dX10_setChannel_75 rfl ?_
          refine V_getf fX10_61 dX10_setChannel_77 z0 rfl ?_
          refine V_istore (L' := [some _, some _, some _, some _, some _, some _, some _]) dX10_setChannel_80 (by decide) rfl ?_
          refine V_aload dX10_setChannel_82 rfl ?_
          refine V_iload_n dX10_setChannel_84 rfl ?_
          refine V_putf fX10_61 dX10_setChannel_85 z0 rfl rfl (by simp) ?_
          refine V_aload dX10_setChannel_88 rfl ?_
          refine V_iload_n dX10_setChannel_90 rfl ?_
          refine V_putf fX10_66 dX10_setChannel_91 mu_eq rfl rfl (by simp) ?_
          refine V_aload dX10_setChannel_94 rfl ?_
          refine V_iload dX10_setChannel_96 rfl ?_
          refine V_putf fX10_69 dX10_setChannel_98 mu_eq rfl rfl (by simp) ?_
          refine V_gen (fun K hK => ?_)
          have hKo : ∀ q, q ≠ scA b c → K q = N1 q := fun q z => by rw [hK, mu_ne z, mu_ne z, mu_ne z]
          have hKb : K (scA b c) = some (scC p q d (ρ (37 + c)) (pend ρ c) (ρ (41 + c)) (ρ (46 + c)) (ρ (50 + c)) (ρ (54 + c)) (ρ (58 + c)) (scA b c + 1)) := (congrFun hK _).trans mu_eq
          obtain ⟨ρ1, hρ1⟩ : ∃ ρ1, ρ1 = up (up (up ρ (25 + c) p) (29 + c) q) (33 + c) d := ⟨_, rfl⟩
          have u0 : ρ1 (25 + c) = p := by rw [hρ1, up_n (by omega), up_n (by omega), up_s]
          have u1 : ρ1 (29 + c) = q := by rw [hρ1, up_n (by omega), up_s]
          have u2 : ρ1 (33 + c) = d := by rw [hρ1, up_s]
          have u3 : ∀ q, q ≠ 25 + c → q ≠ 29 + c → q ≠ 33 + c → ρ1 q = ρ q := fun q v w z => by rw [hρ1, up_n z, up_n w, up_n v]
          have hE : QE ρ ρ1 c := ⟨u3 _ (by omega) (by omega) (by omega), u3 _ (by omega) (by omega) (by omega), fun q v w => u3 _ (by omega) (by omega) (by omega)⟩
          have hC : SC K (scA b c) ρ1 c := (y3.2.1 c (by omega) (by omega)).st hE (by rw [hKb, u0, u1, u2, u3 (37 + c) (by omega) (by omega) (by omega), u3 (41 + c) (by omega) (by omega) (by omega), u3 (46 + c) (by omega) (by omega) (by omega), u3 (50 + c) (by omega) (by omega) (by omega)]) (fun q v w => hKo q (by omega))
          rw [← hρ1] at hQ
          have hz := (TL.put y0 y1 y2 y4 y5 hsv1.2 hP1 (y3.sc hW hI (by omega) hC (fun q u => hKo q (by omega)) (fun q u => u3 q (by unfold chq at u; omega) (by unfold chq at u; omega) (by unfold chq at u; omega))) (fun q hq => hKo q (by omega)))
          refine V_iload dX10_setChannel_101 rfl ?_
          exact V_ireti dX10_setChannel_103 rfl (Nat.le_of_ble_eq_true rfl) (Nat.le_of_ble_eq_true rfl) (hQ _ _ _ ⟨by omega, rfl, hz.1, hF1.tr hz.2⟩)
        · exact V_iae hfl sX10_55 dX10_setChannel_50 dX10_setChannel_53 dX10_setChannel_54 dX10_setChannel_56 dX10_setChannel_59 (by decide) (Nat.le_of_ble_eq_true rfl) (Nat.le_of_ble_eq_true rfl) (Nat.le_of_ble_eq_true rfl) (hX _ _ ⟨Or.inr (⟨by omega, rfl⟩), rfl⟩)
  · exact V_ioo hfl sX10_52 dX10_setChannel_9 dX10_setChannel_12 dX10_setChannel_13 dX10_setChannel_15 dX10_setChannel_18 (by decide) (Nat.le_of_ble_eq_true rfl) (Nat.le_of_ble_eq_true rfl) (Nat.le_of_ble_eq_true rfl) (hX _ _ ⟨Or.inl ⟨by omega, rfl⟩, rfl⟩)

set_option maxRecDepth 100000 in
set_option maxHeartbeats 4000000 in
theorem p_setClock (l : Launch) (hfl : l.stackTraces = false) (M : ME) (x : Nat) (ρ π : Int → Int) (sv : Int) (hT : TL M x ρ π sv) (hv : 0 ≤ sv ∧ sv ≤ 3) (hW : Wr ρ) (hI : RI ρ) (hP : ∀ i, 0 ≤ i → i < sv → Wr (sl π (12309 * i)) ∧ RI (sl π (12309 * i))) (p : Int) (hp : -2147483648 ≤ p ∧ p < 2147483648) (q : Int) (hq : -2147483648 ≤ q ∧ q < 2147483648) (e : Int) (he : (¬ ((-1000 ≤ p ∧ p ≤ 1000) ∧ (0 ≤ q ∧ q ≤ 100000)) ∧ e = 1) ∨ (((-1000 ≤ p ∧ p ≤ 1000) ∧ (0 ≤ q ∧ q ≤ 100000)) ∧ e = 0)) : CX l yX10_setClock cX10_setClock 4 (some .int) (rmX 8) [.ref x, .int (iI p), .int (iI q)] M (fun v M' => e = 0 ∧ v = some (.int (iI (ρ 1))) ∧ TL M' x (up (up ρ 1 p) 2 q) (svP ρ π sv) (svS sv) ∧ FR M M' x 1062) (fun E M' => ((e = 1 ∧ E = iae)) ∧ M' = M) := by
  obtain ⟨a, f, x0, x1, x2, x3, x4, x5⟩ := id hT
  have ba := x2.1.b
  obtain ⟨sq, m1, m2, m3, m4⟩ := id x3.1
  refine CX.of (L0 := [some _, some _, some _, none]) (by decide +kernel) rfl rfl (Nat.le_of_ble_eq_true rfl) rfl (fun G A Q X sz hQ hX => ?_)
  refine V_iload_n dX10_setClock_0 rfl ?_
  refine V_sipush (v := iI (-1000)) dX10_setClock_1 (by decide +kernel) ?_
  refine V_sipush (v := iI (1000)) dX10_setClock_4 (by decide +kernel) ?_
  refine V_cS (vs := [_, _, _]) (x_outside l M (p) (-1000) (1000) (by unfold r32; omega)) mX10_24 coX10_outside dX10_setClock_7 rfl rfl (by decide) (Nat.le_of_ble_eq_true rfl) (Nat.le_of_ble_eq_true rfl) (Nat.le_of_ble_eq_true rfl) (fun sz => ?_)
  obtain ⟨vo0, ho0, eo0⟩ := ex_if (p := p < -1000 ∨ 1000 < p)
  rw [eo0]
  refine I_if_ne (tgt := 23) dX10_setClock_10 (by decide) ⟨by omega, by omega⟩ (fun h10 => ?_) (fun h10 => ?_)
  · exact V_iae hfl sX10_73 dX10_setClock_23 dX10_setClock_26 dX10_setClock_27 dX10_setClock_29 dX10_setClock_32 (by decide) (Nat.le_of_ble_eq_true rfl) (Nat.le_of_ble_eq_true rfl) (Nat.le_of_ble_eq_true rfl) (hX _ _ ⟨⟨by omega, rfl⟩, rfl⟩)
  · refine V_iload_n dX10_setClock_13 rfl ?_
    refine V_iconst (v := iI (0)) dX10_setClock_14 rfl ?_
    refine V_ldc (v := iI (100000)) dX10_setClock_15 (kC (by decide +kernel) kX10_72) ?_
    refine V_cS (vs := [_, _, _]) (x_outside l M (q) (0) (100000) (by unfold r32; omega)) mX10_24 coX10_outside dX10_setClock_17 rfl rfl (by decide) (Nat.le_of_ble_eq_true rfl) (Nat.le_of_ble_eq_true rfl) (Nat.le_of_ble_eq_true rfl) (fun sz => ?_)
    obtain ⟨vo1, ho1, eo1⟩ := ex_if (p := q < 0 ∨ 100000 < q)
    rw [eo1]
    refine I_if_eq (tgt := 33) dX10_setClock_20 (by decide) ⟨by omega, by omega⟩ (fun h20 => ?_) (fun h20 => ?_)
    · refine V_aload_n dX10_setClock_33 rfl ?_
      refine V_cVE0 (vs := []) (x_saveState l M x ρ π sv hT hv hW hI hP) mX10_44 coX10_saveState dX10_setClock_34 x0 rfl rfl rfl (by decide) (Nat.le_of_ble_eq_true rfl) (Nat.le_of_ble_eq_true rfl) (Nat.le_of_ble_eq_true rfl) (fun N1 sz hp => ?_)
      obtain ⟨hT1, hF1⟩ := hp
      have hP1 := svP_P hv hW hI hP
      have hsv1 : 0 ≤ svS sv ∧ svS sv ≤ 3 := by unfold svS; split <;> omega
      obtain ⟨b, g, y0, y1, y2, y3, y4, y5⟩ := id hT1
      have bb := y2.1.b
      obtain ⟨sqb, k1, k2, k3, k4⟩ := id y3.1
      refine V_aload_n dX10_setClock_37 rfl ?_
      refine V_getf fX10_10 dX10_setClock_38 y0 rfl ?_
      refine V_getf fX10_75 dX10_setClock_41 k1 rfl ?_
      refine V_istore_n (L' := [some _, some _, some _, some _]) dX10_setClock_44 rfl (by decide) rfl ?_
      refine V_aload_n dX10_setClock_45 rfl ?_
      refine V_getf fX10_10 dX10_setClock_46 y0 rfl ?_
      refine V_iload_n dX10_setClock_49 rfl ?_
      refine V_putf fX10_75 dX10_setClock_50 k1 rfl rfl (by simp) ?_
      refine V_aload_n dX10_setClock_53 rfl ?_
      refine V_getf fX10_10 dX10_setClock_54 ((mu_ne (by omega)).trans y0) rfl ?_
      refine V_iload_n dX10_setClock_57 rfl ?_
      refine V_putf fX10_78 dX10_setClock_58 mu_eq rfl rfl (by simp) ?_
      refine V_gen (fun K hK => ?_)
      have hKo : ∀ q, q ≠ b → K q = N1 q := fun q z => by rw [hK, mu_ne z, mu_ne z]
      have hKb : K b = some (stO b (ρ 0) p q (ρ 3) (ρ 45)) := (congrFun hK b).trans mu_eq
      obtain ⟨ρ1, hρ1⟩ : ∃ ρ1, ρ1 = up (up ρ 1 p) 2 q := ⟨_, rfl⟩
      have u1 : ρ1 1 = p := by rw [hρ1, up_n (by omega), up_s]
      have u2 : ρ1 2 = q := by rw [hρ1, up_s]
      have u3 : ∀ q, q ≠ 1 → q ≠ 2 → ρ1 q = ρ q := fun q v w => by rw [hρ1, up_n w, up_n v]
      have hB : SB K b ρ1 := ⟨sqb, by rw [hKb, u1, u2, u3 0 (by omega) (by omega), u3 3 (by omega) (by omega), u3 45 (by omega) (by omega)], by rw [hKo _ (by omega)]; exact k2, by rw [hKo _ (by omega)]; exact k3, fun a u v => by rw [u3 _ (by omega) (by omega)]; exact k4 a u v⟩
      rw [← hρ1] at hQ
      have hz := (TL.put y0 y1 y2 y4 y5 hsv1.2 hP1 (y3.sb hW hI hB (fun q u v => hKo q (by omega)) (fun q u v w => u3 q (by omega) (by omega))) (fun q hq => hKo q (by omega)))
      refine V_iload_n dX10_setClock_61 rfl ?_
      exact V_ireti dX10_setClock_62 rfl (Nat.le_of_ble_eq_true rfl) (Nat.le_of_ble_eq_true rfl) (hQ _ _ _ ⟨by omega, rfl, hz.1, hF1.tr hz.2⟩)
    · exact V_iae hfl sX10_73 dX10_setClock_23 dX10_setClock_26 dX10_setClock_27 dX10_setClock_29 dX10_setClock_32 (by decide) (Nat.le_of_ble_eq_true rfl) (Nat.le_of_ble_eq_true rfl) (Nat.le_of_ble_eq_true rfl) (hX _ _ ⟨⟨by omega, rfl⟩, rfl⟩)
