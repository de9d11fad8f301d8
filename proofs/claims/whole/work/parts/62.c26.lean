/-- at most 12 packets wait beside an idle one, which stands first -/
def PIc (ρ : Int → Int) (c : Int) : Prop := (∀ i, 1 ≤ i → i < ρ (54 + c) → ¬ ρ (62 + 80 * c + 5 * i) = 15) ∧ (ρ (54 + c) = 13 → ρ (62 + 80 * c) = 15)
theorem PIc.cnt {ρ : Int → Int} {c : Int} (hQ : Qc ρ c) (h : PIc ρ c) : ∀ n : Nat, (n : Int) + 1 ≤ ρ (54 + c) → pcnt ρ c (n + 1) = n + (if ρ (62 + 80 * c) < 15 then 1 else 0)
  | 0, _ => by
    show 0 + (if ρ (62 + 80 * c + 5 * ((0 : Nat) : Int)) < 15 then (1 : Int) else 0) = _
    rw [show 62 + 80 * c + 5 * ((0 : Nat) : Int) = 62 + 80 * c by omega]; omega
  | n + 1, hn => by
    show pcnt ρ c (n + 1) + (if ρ (62 + 80 * c + 5 * ((n + 1 : Nat) : Int)) < 15 then (1 : Int) else 0) = _
    rw [PIc.cnt hQ h n (by omega)]
    have h1 := h.1 ((n + 1 : Nat) : Int) (by omega) (by omega)
    have h2 := (hQ.2.2 ((n + 1 : Nat) : Int) (by omega) (by omega)).1
    rw [if_pos (show ρ (62 + 80 * c + 5 * ((n + 1 : Nat) : Int)) < 15 by omega)]
    omega
theorem PIc.pin {ρ : Int → Int} {c : Int} (hQ : Qc ρ c) (h : PIc ρ c) : pin ρ c ≤ 12 ∧ ρ (54 + c) ≤ pin ρ c + 1 ∧ (ρ (54 + c) = 12 → ¬ pin ρ c = 12 → ρ (62 + 80 * c) = 15) := by
  have hm := hQ.1
  by_cases h0 : ρ (54 + c) = 0
  · have : _root_.Jvm.Pilot.@@N@@.pin ρ c = 0 := by
      unfold _root_.Jvm.Pilot.@@N@@.pin
      rw [h0]; rfl
    omega
  · have h1 := PIc.cnt hQ h ((ρ (54 + c)).toNat - 1) (by omega)
    rw [show (ρ (54 + c)).toNat - 1 + 1 = (ρ (54 + c)).toNat by omega] at h1
    have h2 := (hQ.2.2 0 (by omega) (by omega)).1
    rw [show 62 + 80 * c + 5 * 0 = 62 + 80 * c by omega] at h2
    have h3 := h.2
    have h4 : _root_.Jvm.Pilot.@@N@@.pin ρ c = ((ρ (54 + c)).toNat - 1 : Nat) + (if ρ (62 + 80 * c) < 15 then 1 else 0) := h1
    rw [h4]
    by_cases h5 : ρ (62 + 80 * c) < 15
    · rw [if_pos h5]; omega
    · rw [if_neg h5]; omega
theorem PIc.cg {ρ ρ' : Int → Int} {c : Int} (hQ : Qc ρ c) (h : PIc ρ c) (hE : QE ρ ρ' c) : PIc ρ' c := by
  have hm := hQ.1
  obtain ⟨e1, e2, e3⟩ := hE
  refine ⟨fun i a b => ?_, fun a => ?_⟩
  · rw [e1] at b
    rw [e3 _ (by omega) (by omega)]; exact h.1 i a b
  · rw [e1] at a
    rw [e3 _ (by omega) (by omega)]; exact h.2 a
theorem PIc.tk {ρ : Int → Int} {c : Int} (hc : 0 ≤ c ∧ c ≤ 3) (hQ : Qc ρ c) (h : PIc ρ c) : PIc (rtk ρ c) c := by
  have hm := hQ.1
  unfold rtk
  split
  · have e1 : shl 5 (rtk2 ρ c) (62 + 80 * c) (62 + 80 * c + 5 * (ρ (54 + c) - 1)) (54 + c) = ρ (54 + c) - 1 := by
      rw [shl_o (by omega)]; unfold rtk2; rw [up_s]
    refine ⟨fun i a b => ?_, fun a => by omega⟩
    rw [e1] at b
    rw [shl_i (by omega)]
    unfold rtk2 rtk1
    rw [up_n (by omega), up_n (by omega), up_n (by omega), up_n (by omega), up_n (by omega), show 62 + 80 * c + 5 * i + 5 = 62 + 80 * c + 5 * (i + 1) by omega]
    exact h.1 (i + 1) (by omega) (by omega)
  · exact (show PIc (rtk1 ρ c) c from ⟨fun i a b => by
      have e : rtk1 ρ c (54 + c) = ρ (54 + c) := by unfold rtk1; rw [up_n (by omega), up_n (by omega)]
      rw [e] at b
      have e2 : rtk1 ρ c (62 + 80 * c + 5 * i) = ρ (62 + 80 * c + 5 * i) := by unfold rtk1; rw [up_n (by omega), up_n (by omega)]
      rw [e2]; exact h.1 i a b, fun a => by
      have e : rtk1 ρ c (54 + c) = ρ (54 + c) := by unfold rtk1; rw [up_n (by omega), up_n (by omega)]
      rw [e] at a
      have e2 : rtk1 ρ c (62 + 80 * c) = ρ (62 + 80 * c) := by unfold rtk1; rw [up_n (by omega), up_n (by omega)]
      rw [e2]; exact h.2 a⟩)

theorem PIc.f1 {ρ : Int → Int} {ch to w k : Int} (hc : 0 ≤ ch ∧ ch ≤ 3) (ht : 383 ≤ to) (hk : 0 ≤ k ∧ k ≤ 255) (hw : 1 ≤ w) (h : KI ρ ch to w) : pend (rfl1 ρ to ch k) ch = pend ρ ch - 1 ∧ (PIc ρ ch → PIc (rfl1 ρ to ch k) ch) := by
  obtain ⟨h1, h2, h3, h4, h5⟩ := h
  have hE := rptr_E (ρ := ρ) (k := k) hc ht
  have hp := hE.pd (by have := h1.1.1; omega)
  have hQ := hE.s h1
  obtain ⟨hQ2, hp2⟩ := rtk_s hc hQ (by omega)
  unfold rfl1
  rw [if_neg (show ¬ ch = -1 by omega)]
  have hE2 : QE (rtk (rptr ρ to ch k) ch) (up (rtk (rptr ρ to ch k) ch) (to + 4 + 4 + k) (rbyte (rptr ρ to ch k) ch (rptr ρ to ch k (58 + ch)))) ch := QE.up hc (by omega)
  refine ⟨?_, fun hP => ?_⟩
  · rw [hE2.pd (by have := hQ2.1.1; omega)]
    omega
  · exact ((hP.cg h1.1 hE).tk hc hQ.1).cg hQ2.1 hE2
theorem PIc.fN {ρ : Int → Int} {ch to w : Int} (hc : 0 ≤ ch ∧ ch ≤ 3) (ht : 383 ≤ to) (h : KI ρ ch to w) : ∀ n : Nat, (n : Int) ≤ w → n ≤ 255 → pend (rflN ρ to ch n) ch = pend ρ ch - n ∧ (PIc ρ ch → PIc (rflN ρ to ch n) ch)
  | 0, _, _ => ⟨by show pend ρ ch = _; omega, fun h => h⟩
  | n + 1, hn, h2 => by
    obtain ⟨a, b⟩ := PIc.fN hc ht h n (by omega) (by omega)
    have h1 := KI.N hc ht h n (by omega) (by omega)
    obtain ⟨c, d⟩ := PIc.f1 hc ht (k := (n : Int)) ⟨by omega, by omega⟩ (by omega) h1
    refine ⟨?_, fun h => d (b h)⟩
    show pend (rfl1 (rflN ρ to ch n) to ch n) ch = _
    rw [c, a]; omega
theorem PIc.step {ρ : Int → Int} (hS : SI ρ) (hw : ρ 382 ≤ 59) (hP : ∀ c, 0 ≤ c → c ≤ 3 → PIc ρ c) : ∀ c, 0 ≤ c → c ≤ 3 → PIc (rsnd ρ) c := by
  intro c c0 c3
  obtain ⟨ch, cn, hch, hcn, p1, p2, p3, p4, p5, p6, p7, p8, p9⟩ := rsnd_p hS hw
  obtain ⟨hD, hSc, hS3, hS1, hS4, hS5, hS382, hS2⟩ := id hS
  by_cases hcc0 : c = ch
  · subst hcc0
    clear p1 p2 p3 p4 p5 p6 p7 p8 p9
    have hcn2 : cn = 5 + (if c = -1 then 4 else c) := by rw [if_neg (by omega)]; omega
    unfold rsnd rsn2 rsn1
    rw [← hch, ← hcn2]
    have haE : QE ρ (rwtN ρ c 4) c := rwtN_E 4 (by omega) ⟨c0, c3⟩
    have ha3 : rwtN ρ c 4 3 = ρ 3 := rwtN_o 4 (by omega)
    have ha50 : rwtN ρ c 4 (50 + c) = ρ (50 + c) := rwtN_o 4 (by omega)
    obtain ⟨a, ha⟩ : ∃ a, a = rwtN ρ c 4 := ⟨_, rfl⟩
    rw [← ha] at haE ha3 ha50 ⊢
    obtain ⟨b, hb⟩ : ∃ b, b = rhd a c (383 + 50 * ρ 382) cn (ρ 0) := ⟨_, rfl⟩
    rw [← hb]
    have hbo : ∀ q, q < 383 + 50 * ρ 382 → b q = a q := fun q h => by rw [hb]; exact rhd_o h
    have hbE : QE ρ b c := haE.tr ⟨hbo _ (by omega), hbo _ (by omega), fun q h2 h3 => hbo _ (by omega)⟩
    have hbQ : Qs b c := hbE.s (hSc c c0 c3).1
    have hbP : 1 ≤ pend b c := by rw [hbE.pd (hSc c c0 c3).1.1.m.2]; exact rch_p c0 hch hS
    have hbI : PIc b c := (hP c c0 c3).cg (hSc c c0 c3).1.1 hbE
    have hb3 : b 3 = ρ 3 := by rw [hbo _ (by omega), ha3]
    have hb50 : b (50 + c) = ρ (50 + c) := by rw [hbo _ (by omega), ha50]
    have hb7 : 0 ≤ b (383 + 50 * ρ 382 + 4 + 3) ∧ b (383 + 50 * ρ 382 + 4 + 3) ≤ 255 := by
      rw [hb]; unfold rhd; rw [up_s]
      split <;> omega
    have hbT : b (383 + 50 * ρ 382) = ρ 0 := by rw [hb]; unfold rhd; simp (disch := omega) only [up_s, up_n]
    have hK := ridl_K (to := 383 + 50 * ρ 382) (D := ρ 0) ⟨c0, c3⟩ (by omega) hS.1 hbQ hbP (by rw [hb3]; omega) (by rw [hb50]; have := hSc c c0 c3; omega) hb7
    obtain ⟨f1, f2⟩ := PIc.fN ⟨c0, c3⟩ (by omega) hK (ρ 0).toNat (by omega) (by omega)
    have hKN := KI.N ⟨c0, c3⟩ (by omega) hK (ρ 0).toNat (by omega) (by omega)
    have hdI : PIc (rflN (ridl b c (ρ 0)) (383 + 50 * ρ 382) c (ρ 0).toNat) c := by
      by_cases hl : pend b c < ρ 0
      · have hm := hbQ.pend0.2.mp hbP
        have hlb := hbQ.lb hm
        have hpd : pend (ridl b c (ρ 0)) c ≤ ρ 0 + 3 := by
          unfold ridl
          rw [if_pos ⟨by omega, hl⟩]
          obtain ⟨n, hn⟩ : ∃ n, n = (if ρ 0 - pend b c < 4 then 1 else ρ 0 - pend b c - 3) := ⟨_, rfl⟩
          have hnb : 1 ≤ n ∧ n ≤ 50 ∧ pend b c + (3 + n) ≤ ρ 0 + 3 := by
            rw [hn]
            split <;> omega
          rw [← hn, (rputs_s (a := 15) (q := 0) (n := n) (s := 0) ⟨c0, c3⟩ hbQ (by omega) (by omega) (by omega) (by omega) (by omega) (by rw [hb3]; omega)).2]
          exact hnb.2.2
        have hm1 : rflN (ridl b c (ρ 0)) (383 + 50 * ρ 382) c (ρ 0).toNat (54 + c) ≤ 1 := by
          by_cases h1 : 1 ≤ rflN (ridl b c (ρ 0)) (383 + 50 * ρ 382) c (ρ 0).toNat (54 + c)
          · have := hKN.1.lb h1
            omega
          · omega
        exact ⟨fun i a b => by omega, fun a => by omega⟩
      · refine f2 ?_
        unfold ridl
        rw [if_neg (by omega)]
        exact hbI
    obtain ⟨d, hd⟩ : ∃ d, d = rflN (ridl b c (ρ 0)) (383 + 50 * ρ 382) c (ρ 0).toNat := ⟨_, rfl⟩
    have hdT : d (383 + 50 * ρ 382) = ρ 0 := by
      rw [hd, rflN_g (w := ρ 0) (fun _ => ⟨⟨c0, c3⟩, hK⟩) (by omega) (by omega) (by omega) (ρ 0).toNat (by omega) (by omega) (by omega), ridl_g (fun _ => ⟨⟨c0, c3⟩, hbQ.1.m⟩) (by omega), hbT]
    rw [← hd] at hdI hKN ⊢
    have hck : ckp d (ρ 382) = 383 + 50 * ρ 382 + 8 + ρ 0 := by unfold ckp; rw [hdT]; omega
    have hl : ∀ q, (q < 383 + 50 * ρ 382) → rlay d (ρ 382) q = d q := fun q h => by
      unfold rlay
      rw [hck, up_n (by omega), up_n (by omega)]
    have h3' : ∀ q, q ≠ 382 → q ≠ 4 → q ≠ 41 + cn - 5 → q ≠ cn → q ≠ 3 → rsn3 (rlay d (ρ 382)) cn q = rlay d (ρ 382) q := fun q x1 x2 x3 x4 x5 => by
      unfold rsn3
      rw [up_n x5, up_n x4, up_n x3, up_n x2, up_n x1]
    have hE : QE d (rsn3 (rlay d (ρ 382)) cn) c := ⟨by rw [h3' _ (by omega) (by omega) (by omega) (by omega) (by omega), hl _ (by omega)], by rw [h3' _ (by omega) (by omega) (by omega) (by omega) (by omega), hl _ (by omega)], fun q h5 h6 => by rw [h3' _ (by omega) (by omega) (by omega) (by omega) (by omega), hl _ (by omega)]⟩
    exact hdI.cg hKN.1.1 hE
  · have hE : QE ρ (rsnd ρ) c := ⟨p8 _ (by omega) (by omega) (by omega) (by omega), p8 _ (by omega) (by omega) (by omega) (by omega), fun q h2 h3 => p8 _ (by omega) (by omega) (by omega) (by omega)⟩
    exact (hP c c0 c3).cg (hSc c c0 c3).1.1 hE
/-- slots in a row -/
theorem SN {ρ : Int → Int} (hS : SI ρ) (hW : Wr ρ) (hX : XI ρ) (hP : ∀ c, 0 ≤ c → c ≤ 3 → PIc ρ c) : ∀ n : Nat, ρ 382 + n ≤ 60 → ρ 3 + n ≤ 99999 → SI (rsnN ρ n) ∧ Wr (rsnN ρ n) ∧ XI (rsnN ρ n) ∧ (∀ c, 0 ≤ c → c ≤ 3 → PIc (rsnN ρ n) c) ∧ rsnN ρ n 3 = ρ 3 + n ∧ rsnN ρ n 382 = ρ 382 + n ∧ ∀ q, 3383 ≤ q → rsnN ρ n q = ρ q
  | 0, _, _ => ⟨hS, hW, hX, hP, by show ρ 3 = _; omega, by show ρ 382 = _; omega, fun _ _ => rfl⟩
  | n + 1, h1, h2 => by
    obtain ⟨a, b, c, d, e3, e382, eo⟩ := SN hS hW hX hP n (by omega) (by omega)
    obtain ⟨a2, b2, c2⟩ := a.step (by omega) (by omega)
    obtain ⟨ch, cn, hch, hcn, p1, p2, p3, p4, p5, p6, p7, p8, p9⟩ := rsnd_p a (by omega)
    have hw0 := hW.1
    exact ⟨a2, Wr.step a b (by omega), XI.step a c (by omega), PIc.step a (by omega) d, by show rsnd (rsnN ρ n) 3 = _; omega, by show rsnd (rsnN ρ n) 382 = _; omega, fun q hq => (p8 q (by omega) (by omega) (by omega) (by omega)).trans (eo q hq)⟩

set_option maxRecDepth 100000 in
set_option maxHeartbeats 4000000 in
theorem p_send (l : Launch) (hfl : l.stackTraces = false) (M : ME) (x : Nat) (ρ π : Int → Int) (sv : Int) (hT : TL M x ρ π sv) (hv : 0 ≤ sv ∧ sv ≤ 3) (hW : Wr ρ) (hI : RI ρ) (hP : ∀ i, 0 ≤ i → i < sv → Wr (sl π (12309 * i)) ∧ RI (sl π (12309 * i))) (hS : SI ρ) (hXI : XI ρ) (hPI : ∀ c, 0 ≤ c → c ≤ 3 → PIc ρ c) (h3b : ρ 3 ≤ 99000) (n : Int) (hn : -2147483648 ≤ n ∧ n < 2147483648) (e : Int) (he : (¬ (1 ≤ n ∧ n ≤ 60) ∧ e = 1) ∨ ((1 ≤ n ∧ n ≤ 60) ∧ 60 < ρ 382 + n ∧ e = 2) ∨ ((1 ≤ n ∧ n ≤ 60) ∧ ρ 382 + n ≤ 60 ∧ e = 0)) : CX l yX10_send cX10_send 4 (some .int) (rmX 8) [.ref x, .int (iI n)] M (fun v M' => e = 0 ∧ v = some (.int (iI (rsnC ρ n.toNat))) ∧ TL M' x (rsnN ρ n.toNat) (svP ρ π sv) (svS sv) ∧ FR M M' x 1062) (fun E M' => ((e = 1 ∧ E = iae) ∨ (e = 2 ∧ E = ise)) ∧ M' = M) := by
  obtain ⟨a, f, x0, x1, x2, x3, x4, x5⟩ := id hT
  have ba := x2.1.b
  obtain ⟨sq, m1, m2, m3, m4⟩ := id x3.1
  obtain ⟨fr, w1, w2, w3, w4, w5, w6⟩ := id x3.2.2.1
  have hw8 := hW.1
  refine CX.of (L0 := [some _, some _, none, none]) (by decide +kernel) rfl rfl (Nat.le_of_ble_eq_true rfl) rfl (fun G A Q X sz hQ hX => ?_)
  refine V_iload_n dX10_send_0 rfl ?_
  refine V_iconst (v := iI (1)) dX10_send_1 rfl ?_
  refine V_bipush (v := iI (60)) dX10_send_2 (by decide +kernel) ?_
  refine V_cS (vs := [_, _, _]) (x_outside l M (n) (1) (60) (by unfold r32; omega)) mX10_24 coX10_outside dX10_send_4 rfl rfl (by decide) (Nat.le_of_ble_eq_true rfl) (Nat.le_of_ble_eq_true rfl) (Nat.le_of_ble_eq_true rfl) (fun sz => ?_)
  obtain ⟨vo0, ho0, eo0⟩ := ex_if (p := n < 1 ∨ 60 < n)
  rw [eo0]
  refine I_if_eq (tgt := 20) dX10_send_7 (by decide) ⟨by omega, by omega⟩ (fun h7 => ?_) (fun h7 => ?_)
  · refine V_aload_n dX10_send_20 rfl ?_
    refine V_getf fX10_10 dX10_send_21 x0 rfl ?_
    refine V_getf fX10_106 dX10_send_24 m1 rfl ?_
    refine V_getf fX10_110 dX10_send_27 w1 rfl ?_
    refine V_iload_n dX10_send_30 rfl ?_
    refine I_iadd dX10_send_31 ?_
    refine V_bipush (v := iI (60)) dX10_send_32 (by decide +kernel) ?_
    refine I_icmp_le (tgt := 47) dX10_send_34 (by decide) ⟨by omega, by omega⟩ ⟨by omega, by omega⟩ (fun h34 => ?_) (fun h34 => ?_)
    · refine V_aload_n dX10_send_47 rfl ?_
      refine V_cVE0 (vs := []) (x_saveState l M x ρ π sv hT hv hW hI hP) mX10_44 coX10_saveState dX10_send_48 x0 rfl rfl rfl (by decide) (Nat.le_of_ble_eq_true rfl) (Nat.le_of_ble_eq_true rfl) (Nat.le_of_ble_eq_true rfl) (fun N1 sz hp => ?_)
      obtain ⟨hT1, hF1⟩ := hp
      have hP1 := svP_P hv hW hI hP
      have hsv1 : 0 ≤ svS sv ∧ svS sv ≤ 3 := by unfold svS; split <;> omega
      obtain ⟨b, g, y0, y1, y2, y3, y4, y5⟩ := id hT1
      have bb := y2.1.b
      obtain ⟨sqb, k1, k2, k3, k4⟩ := id y3.1
      have he0 : e = 0 ∧ (1 ≤ n ∧ n ≤ 60) ∧ ρ 382 + n ≤ 60 := by omega
      clear ho0 he
      refine V_iconst (v := iI (0)) dX10_send_51 rfl ?_
      refine V_istore_n (L' := [some _, some _, some _, none]) dX10_send_52 rfl (by decide) rfl ?_
      refine V_iconst (v := iI (0)) dX10_send_53 rfl ?_
      refine V_istore_n (L' := [some _, some _, some _, some _]) dX10_send_54 rfl (by decide) rfl ?_
      have key55 : ∀ (d : Nat) (j : Int) (K : ME) (sz : Nat), (0 ≤ j ∧ j ≤ n) → (St K b (rsnN ρ j.toNat)) → (FR N1 K b 265) → (n - j).toNat = d → V l G A (rmX 8) RX10 "send" cX10_send 4 (some .int) Q X 0 0 K sz 55 [some (.ref x), some (.int (iI n)), some (.int (iI (rsnC ρ j.toNat))), some (.int (iI j))] [] := by
        intro d
        induction d using Nat.strongRecOn with
        | ind d ih55 =>
          intro j K  sz hj nT nF hd55
          refine V_iload_n dX10_send_55 rfl ?_
          refine V_iload_n dX10_send_56 rfl ?_
          refine I_icmp_ge (tgt := 80) dX10_send_57 (by decide) ⟨by omega, by omega⟩ ⟨by omega, by omega⟩ (fun h57 => ?_) (fun h57 => ?_)
          · have hjn : j = n := by omega
            rw [hjn] at nT ⊢
            have hz := (TL.put y0 y1 y2 y4 y5 hsv1.2 hP1 nT nF)
            refine V_iload_n dX10_send_80 rfl ?_
            exact V_ireti dX10_send_81 rfl (Nat.le_of_ble_eq_true rfl) (Nat.le_of_ble_eq_true rfl) (hQ _ _ _ ⟨by omega, rfl, hz.1, hF1.tr hz.2⟩)
          · have hN := SN hS hW hXI hPI j.toNat (by omega) (by omega)
            obtain ⟨sqk, k0, -⟩ := id nT.1
            refine V_aload_n dX10_send_60 rfl ?_
            refine V_getf fX10_10 dX10_send_61 ((nF _ (by omega)).trans y0) rfl ?_
            refine V_cVE (vs := []) (s_sendSlot l K b (rsnN ρ j.toNat) nT hN.1 hN.2.1 (hI.hi fun q u v => hN.2.2.2.2.2.2 q u) hN.2.2.1 (by omega)) mX10_117 coX7_sendSlot dX10_send_64 k0 rfl rfl rfl (by decide) (Nat.le_of_ble_eq_true rfl) (Nat.le_of_ble_eq_true rfl) (Nat.le_of_ble_eq_true rfl) (fun N2 sz hp => ?_)
            obtain ⟨hS2, hF2⟩ := hp
            have hcb := rch_b (ρ := rsnN ρ j.toNat)
            refine V_iconst (v := iI (-1)) dX10_send_67 rfl ?_
            refine I_icmp_eq (tgt := 74) dX10_send_68 (by decide) ⟨by omega, by omega⟩ ⟨by omega, by omega⟩ (fun h68 => ?_) (fun h68 => ?_)
            · refine I_iinc (L' := [some _, some _, some _, some _]) dX10_send_74 rfl (by decide) rfl ?_
              refine V_goto (tgt := 55) dX10_send_77 (by decide) ?_
              exact V_wk' (ih55 _ (by omega) (j + 1) _ sz ⟨by omega, by omega⟩ (by rw [← rsnN_s hj.1]; exact hS2) (nF.tr hF2) rfl) ⟨rfl, rfl, (vi (by rw [rsnC_s hj.1]; first | (rw [if_neg (by omega)]; omega) | (rw [if_pos (by omega)]))), rfl, trivial⟩
            · refine I_iinc (L' := [some _, some _, some _, some _]) dX10_send_71 rfl (by decide) rfl ?_
              refine I_iinc (L' := [some _, some _, some _, some _]) dX10_send_74 rfl (by decide) rfl ?_
              refine V_goto (tgt := 55) dX10_send_77 (by decide) ?_
              exact V_wk' (ih55 _ (by omega) (j + 1) _ sz ⟨by omega, by omega⟩ (by rw [← rsnN_s hj.1]; exact hS2) (nF.tr hF2) rfl) ⟨rfl, rfl, (vi (by rw [rsnC_s hj.1]; first | (rw [if_neg (by omega)]; omega) | (rw [if_pos (by omega)]))), rfl, trivial⟩
      exact V_wk' (key55 _ 0 _ sz ⟨by omega, by omega⟩ y3 FR.rf rfl) ⟨rfl, rfl, rfl, rfl, trivial⟩
    · exact V_ise hfl sX10_115 dX10_send_37 dX10_send_40 dX10_send_41 dX10_send_43 dX10_send_46 (by decide) (Nat.le_of_ble_eq_true rfl) (Nat.le_of_ble_eq_true rfl) (Nat.le_of_ble_eq_true rfl) (hX _ _ ⟨Or.inr (⟨by omega, rfl⟩), rfl⟩)
  · exact V_iae hfl sX10_104 dX10_send_10 dX10_send_13 dX10_send_14 dX10_send_16 dX10_send_19 (by decide) (Nat.le_of_ble_eq_true rfl) (Nat.le_of_ble_eq_true rfl) (Nat.le_of_ble_eq_true rfl) (hX _ _ ⟨Or.inl ⟨by omega, rfl⟩, rfl⟩)
