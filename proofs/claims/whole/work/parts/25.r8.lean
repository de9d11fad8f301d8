/-- what a slot asks of the row -/
def SI (ρ : Int → Int) : Prop := (8 ≤ ρ 0 ∧ ρ 0 ≤ 40) ∧ (∀ c, 0 ≤ c → c ≤ 3 → Qs ρ c ∧ Fc ρ c ∧ -1 ≤ ρ (50 + c) ∧ ρ (50 + c) ≤ 100000 ∧ ρ (37 + c) ≤ ρ 3) ∧ (0 ≤ ρ 3 ∧ ρ 3 ≤ 99999) ∧ (-1000 ≤ ρ 1 ∧ ρ 1 ≤ 1000) ∧ (0 ≤ ρ 4 ∧ ρ 4 ≤ 255) ∧ (∀ i, 0 ≤ i → i ≤ 4 → 0 ≤ ρ (5 + i) ∧ ρ (5 + i) ≤ 255) ∧ 0 ≤ ρ 382 ∧ (0 ≤ ρ 2 ∧ ρ 2 ≤ 100000)
theorem SI.QA {ρ : Int → Int} (h : SI ρ) : QA ρ := ⟨h.1, fun c h0 h1 => ⟨(h.2.1 c h0 h1).1.1, (h.2.1 c h0 h1).2.1⟩⟩

theorem rfl1_lo {ρ : Int → Int} {to ch k q : Int} (hc : ¬ ch = -1 → (0 ≤ ch ∧ ch ≤ 3) ∧ 1 ≤ ρ (54 + ch) ∧ ρ (54 + ch) ≤ 13) (ht : 383 ≤ to) (hk : 0 ≤ k) (h : q < 46) : rfl1 ρ to ch k q = ρ q := by
  unfold rfl1
  split
  · exact up_n (by omega)
  · rename_i hn
    obtain ⟨h1, h2, h3⟩ := hc hn
    have hE := rptr_E (ρ := ρ) (k := k) h1 ht
    rw [up_n (by omega), rtk_o h1 (by rw [hE.1]; exact ⟨h2, h3⟩) (by omega), rptr_o (by omega)]
theorem rflN_lo {ρ : Int → Int} {to ch w q : Int} (hc : ¬ ch = -1 → (0 ≤ ch ∧ ch ≤ 3) ∧ KI ρ ch to w) (ht : 383 ≤ to) (h : q < 46) : ∀ n : Nat, (n : Int) ≤ w → n ≤ 255 → rflN ρ to ch n q = ρ q
  | 0, _, _ => rfl
  | n + 1, hn, h2 => by
    show rfl1 (rflN ρ to ch n) to ch n q = _
    rw [rfl1_lo ?_ ht (by omega) h, rflN_lo hc ht h n (by omega) (by omega)]
    intro hn'
    obtain ⟨a, b⟩ := hc hn'
    have hk := KI.N a ht b n (by omega) (by omega)
    exact ⟨a, hk.1.pend0.2.mp (by have := hk.2.1; omega), by have := hk.1.1.1; omega⟩
theorem rbest_may {ρ : Int → Int} {b : Int} : ∀ n : Nat, n ≤ 4 → 0 ≤ rbest ρ b n → mayB ρ b (rbest ρ b n)
  | 0, _, h => absurd h (by show ¬ 0 ≤ (-1 : Int); omega)
  | n + 1, hn, h => by
    have e : rbest ρ b (n + 1) = if mayB ρ b n ∧ (rbest ρ b n = -1 ∨ ahd ρ n (rbest ρ b n) b) then (n : Int) else rbest ρ b n := rfl
    rw [e] at h ⊢
    by_cases hh : mayB ρ b n ∧ (rbest ρ b n = -1 ∨ ahd ρ n (rbest ρ b n) b)
    · rw [if_pos hh]; exact hh.1
    · rw [if_neg hh] at h ⊢
      exact rbest_may n (by omega) h
theorem rch_p {ρ : Int → Int} {ch : Int} (h : 0 ≤ ch) (hch : ch = rch ρ) (hS : SI ρ) : 1 ≤ pend ρ ch := by
  have hD := hS.1
  have hb := rbest_b (ρ := ρ) (b := 1) 4
  unfold rch at hch
  by_cases hz : rbest ρ 1 4 = -1
  · rw [if_pos hz] at hch
    have := rbest_may (ρ := ρ) (b := 0) 4 (by omega) (by omega)
    rw [← hch] at this
    rcases this with ⟨a, _⟩ | ⟨_, a⟩
    · omega
    · rcases a with a | a <;> omega
  · rw [if_neg hz] at hch
    have := rbest_may (ρ := ρ) (b := 1) 4 (by omega) (by omega)
    rw [← hch] at this
    rcases this with ⟨_, a⟩ | ⟨a, _⟩
    · have := a.1
      omega
    · omega

set_option maxRecDepth 100000 in
set_option maxHeartbeats 4000000 in
theorem r_sendsOne (l : Launch) (M0 : ME) (r : Nat) (ρ π : Int → Int) (sv rf hs : Int) (hS : SI ρ) (hw : 0 ≤ ρ 382 ∧ ρ 382 ≤ 59) : CF l yX11_sendsOne cX11_sendsOne 7 (some .boolean) (rmN 6) [.ref r] (rM M0 r ρ π sv rf hs) (some (.int (iI (if ¬ rch ρ = -1 then 1 else 0)))) (rM M0 r (rsnd ρ) π sv rf hs) := by
  obtain ⟨hD, hSc, hS3, hS1, hS4, hS5, hS382, hS2⟩ := id hS
  refine CF.of (L0 := [some _, none, none, none, none, none, none]) (by decide +kernel) rfl rfl (Nat.le_of_ble_eq_true rfl) rfl (fun G A Q sz hQ => ?_)
  refine V_aload_n dX11_sendsOne_0 rfl ?_
  refine V_cV (vs := []) (r_chosen l _ _ ρ _ _ _ _ hS.QA) mX11_95 coX11_chosen dX11_sendsOne_1 rM_0 rfl rfl rfl (by decide) (Nat.le_of_ble_eq_true rfl) (Nat.le_of_ble_eq_true rfl) (Nat.le_of_ble_eq_true rfl) (fun sz => ?_)
  obtain ⟨ch, hch⟩ : ∃ ch, ch = rch ρ := ⟨_, rfl⟩
  have hcb := rch_b (ρ := ρ)
  rw [← hch] at hcb ⊢
  refine V_istore_n (L' := [some _, some _, none, none, none, none, none]) dX11_sendsOne_4 rfl (by decide) rfl ?_
  refine V_aload_n dX11_sendsOne_5 rfl ?_
  refine V_getf fX11_7 dX11_sendsOne_6 rM_0 rfl ?_
  refine V_iconst (v := iI (0)) dX11_sendsOne_9 rfl ?_
  refine R_iald dX11_sendsOne_10 ⟨by omega, by omega⟩ ?_
  try simp (disch := omega) only [up_s, up_n, shl_o]
  refine V_istore_n (L' := [some _, some _, some _, none, none, none, none]) dX11_sendsOne_11 rfl (by decide) rfl ?_
  refine V_aload_n dX11_sendsOne_12 rfl ?_
  refine V_getf fX11_7 dX11_sendsOne_13 rM_0 rfl ?_
  refine V_sipush (v := iI (382)) dX11_sendsOne_16 (by decide +kernel) ?_
  refine R_iald dX11_sendsOne_19 ⟨by omega, by omega⟩ ?_
  try simp (disch := omega) only [up_s, up_n, shl_o]
  refine V_istore_n (L' := [some _, some _, some _, some _, none, none, none]) dX11_sendsOne_20 rfl (by decide) rfl ?_
  refine V_aload_n dX11_sendsOne_21 rfl ?_
  refine V_iload_n dX11_sendsOne_22 rfl ?_
  refine V_cV (vs := [_]) (r_frameAt l _ _ _ _ _ _ _ (ρ 382)) mX11_100 coX11_frameAt dX11_sendsOne_23 rM_0 rfl rfl rfl (by decide) (Nat.le_of_ble_eq_true rfl) (Nat.le_of_ble_eq_true rfl) (Nat.le_of_ble_eq_true rfl) (fun sz => ?_)
  refine V_istore (L' := [some _, some _, some _, some _, some _, none, none]) dX11_sendsOne_26 (by decide) rfl ?_
  refine V_iconst (v := iI (5)) dX11_sendsOne_28 rfl ?_
  refine V_tern (J := 39) (v := .int (iI (if ch = -1 then 4 else ch))) (fun sz => ?_) (fun j39 => ?_)
  · refine I_iadd dX11_sendsOne_39 ?_
    obtain ⟨cn, hcn, hcn2⟩ : ∃ cn, cn = 5 + (if ch = -1 then 4 else ch) ∧ ((ch = -1 ∧ cn = 9) ∨ (¬ ch = -1 ∧ cn = 5 + ch)) := by
      refine ⟨_, rfl, ?_⟩
      by_cases h : ch = -1
      · rw [if_pos h]; omega
      · rw [if_neg h]; omega
    rw [← hcn]
    refine V_istore (L' := [some _, some _, some _, some _, some _, some _, none]) dX11_sendsOne_40 (by decide) rfl ?_
    refine V_iconst (v := iI (0)) dX11_sendsOne_42 rfl ?_
    refine V_istore (L' := [some _, some _, some _, some _, some _, some _, some _]) dX11_sendsOne_43 (by decide) rfl ?_
    have key45 : ∀ (d : Nat) (i : Int) (sz : Nat), 0 ≤ i ∧ i ≤ 4 → (4 - i).toNat = d → V l G A (rmN 6) RX11 "sendsOne" cX11_sendsOne 7 (some .boolean) Q nX 0 0 (rM M0 r (rwtN ρ ch i.toNat) π sv rf hs) sz 45 [some (.ref r), some (.int (iI ch)), some (.int (iI (ρ 0))), some (.int (iI (ρ 382))), some (.int (iI (383 + 50 * ρ 382))), some (.int (iI cn)), some (.int (iI i))] [] := by
      intro d
      induction d using Nat.strongRecOn with
      | ind d ih45 =>
        intro i  sz hi hd45
        refine V_iload dX11_sendsOne_45 rfl ?_
        refine V_iconst (v := iI (4)) dX11_sendsOne_47 rfl ?_
        refine I_icmp_ge (tgt := 98) dX11_sendsOne_48 (by decide) ⟨by omega, by omega⟩ ⟨by omega, by omega⟩ (fun h48 => ?_) (fun h48 => ?_)
        · obtain rfl : i = 4 := by omega
          rw [show Int.toNat 4 = 4 from rfl]
          have hao : ∀ q, (q < 37 ∨ 41 ≤ q) → rwtN ρ ch 4 q = ρ q := fun q h => rwtN_o 4 (by omega)
          have haE : ∀ c, 0 ≤ c → c ≤ 3 → QE ρ (rwtN ρ ch 4) c := fun c h0 h1 => rwtN_E 4 (by omega) ⟨h0, h1⟩
          obtain ⟨a, ha⟩ : ∃ a, a = rwtN ρ ch 4 := ⟨_, rfl⟩
          rw [← ha] at hao haE ⊢
          have ha3 := hao 3 (by omega)
          have ha1 := hao 1 (by omega)
          have ha2 := hao 2 (by omega)
          have ha4 := hao 4 (by omega)
          have hacn := hao cn (by omega)
          refine V_aload_n dX11_sendsOne_98 rfl ?_
          refine V_getf fX11_7 dX11_sendsOne_99 rM_0 rfl ?_
          refine V_iload dX11_sendsOne_102 rfl ?_
          refine V_iload_n dX11_sendsOne_104 rfl ?_
          refine R_iast dX11_sendsOne_105 ⟨by omega, by omega⟩ ?_
          refine V_aload_n dX11_sendsOne_106 rfl ?_
          refine V_getf fX11_7 dX11_sendsOne_107 rM_0 rfl ?_
          refine V_iload dX11_sendsOne_110 rfl ?_
          refine V_iconst (v := iI (1)) dX11_sendsOne_112 rfl ?_
          refine I_iadd dX11_sendsOne_113 ?_
          refine V_iconst (v := iI (0)) dX11_sendsOne_114 rfl ?_
          refine R_iast dX11_sendsOne_115 ⟨by omega, by omega⟩ ?_
          refine V_aload_n dX11_sendsOne_116 rfl ?_
          refine V_getf fX11_7 dX11_sendsOne_117 rM_0 rfl ?_
          refine V_iload dX11_sendsOne_120 rfl ?_
          refine V_iconst (v := iI (2)) dX11_sendsOne_122 rfl ?_
          refine I_iadd dX11_sendsOne_123 ?_
          refine V_aload_n dX11_sendsOne_124 rfl ?_
          refine V_cV (vs := []) (r_clockNow l _ _ (up (up a (383 + 50 * ρ 382) (ρ 0)) ((383 + 50 * ρ 382) + 1) 0) _ _ _ _ (by simp (disch := omega) only [up_n]; rw [ha3]; omega) (by simp (disch := omega) only [up_n]; rw [ha1]; omega)) mX11_114 coX11_clockNow dX11_sendsOne_125 rM_0 rfl rfl rfl (by decide) (Nat.le_of_ble_eq_true rfl) (Nat.le_of_ble_eq_true rfl) (Nat.le_of_ble_eq_true rfl) (fun sz => ?_)
          simp (disch := omega) only [rclk_up]
          refine I_l2i dX11_sendsOne_128 ?_
          refine R_iast dX11_sendsOne_129 ⟨by omega, by omega⟩ ?_
          refine V_aload_n dX11_sendsOne_130 rfl ?_
          refine V_getf fX11_7 dX11_sendsOne_131 rM_0 rfl ?_
          refine V_iload dX11_sendsOne_134 rfl ?_
          refine V_iconst (v := iI (3)) dX11_sendsOne_136 rfl ?_
          refine I_iadd dX11_sendsOne_137 ?_
          refine V_sipush (v := iI (1000)) dX11_sendsOne_138 (by decide +kernel) ?_
          refine V_aload_n dX11_sendsOne_141 rfl ?_
          refine V_getf fX11_7 dX11_sendsOne_142 rM_0 rfl ?_
          refine V_iconst (v := iI (3)) dX11_sendsOne_145 rfl ?_
          refine R_iald dX11_sendsOne_146 ⟨by omega, by omega⟩ ?_
          try simp (disch := omega) only [up_s, up_n, shl_o]
          refine I_imul dX11_sendsOne_147 ?_
          refine V_aload_n dX11_sendsOne_148 rfl ?_
          refine V_getf fX11_7 dX11_sendsOne_149 rM_0 rfl ?_
          refine V_iconst (v := iI (2)) dX11_sendsOne_152 rfl ?_
          refine R_iald dX11_sendsOne_153 ⟨by omega, by omega⟩ ?_
          try simp (disch := omega) only [up_s, up_n, shl_o]
          refine I_iadd dX11_sendsOne_154 ?_
          refine R_iast dX11_sendsOne_155 ⟨by omega, by omega⟩ ?_
          refine V_aload_n dX11_sendsOne_156 rfl ?_
          refine V_getf fX11_7 dX11_sendsOne_157 rM_0 rfl ?_
          refine V_iload dX11_sendsOne_160 rfl ?_
          refine V_iconst (v := iI (4)) dX11_sendsOne_162 rfl ?_
          refine I_iadd dX11_sendsOne_163 ?_
          refine V_aload_n dX11_sendsOne_164 rfl ?_
          refine V_getf fX11_7 dX11_sendsOne_165 rM_0 rfl ?_
          refine V_iconst (v := iI (4)) dX11_sendsOne_168 rfl ?_
          refine R_iald dX11_sendsOne_169 ⟨by omega, by omega⟩ ?_
          try simp (disch := omega) only [up_s, up_n, shl_o]
          refine R_iast dX11_sendsOne_170 ⟨by omega, by omega⟩ ?_
          refine V_aload_n dX11_sendsOne_171 rfl ?_
          refine V_getf fX11_7 dX11_sendsOne_172 rM_0 rfl ?_
          refine V_iload dX11_sendsOne_175 rfl ?_
          refine V_iconst (v := iI (4)) dX11_sendsOne_177 rfl ?_
          refine I_iadd dX11_sendsOne_178 ?_
          refine V_iconst (v := iI (1)) dX11_sendsOne_179 rfl ?_
          refine I_iadd dX11_sendsOne_180 ?_
          refine V_tern (J := 192) (v := .int (iI (if ch = -1 then 7 else ch))) (fun sz => ?_) (fun j192 => ?_)
          · refine R_iast dX11_sendsOne_192 ⟨by omega, by omega⟩ ?_
            refine V_aload_n dX11_sendsOne_193 rfl ?_
            refine V_getf fX11_7 dX11_sendsOne_194 rM_0 rfl ?_
            refine V_iload dX11_sendsOne_197 rfl ?_
            refine V_iconst (v := iI (4)) dX11_sendsOne_199 rfl ?_
            refine I_iadd dX11_sendsOne_200 ?_
            refine V_iconst (v := iI (2)) dX11_sendsOne_201 rfl ?_
            refine I_iadd dX11_sendsOne_202 ?_
            refine V_aload_n dX11_sendsOne_203 rfl ?_
            refine V_getf fX11_7 dX11_sendsOne_204 rM_0 rfl ?_
            refine V_iload dX11_sendsOne_207 rfl ?_
            refine R_iald dX11_sendsOne_209 ⟨by omega, by omega⟩ ?_
            try simp (disch := omega) only [up_s, up_n, shl_o]
            refine R_iast dX11_sendsOne_210 ⟨by omega, by omega⟩ ?_
            refine V_aload_n dX11_sendsOne_211 rfl ?_
            refine V_getf fX11_7 dX11_sendsOne_212 rM_0 rfl ?_
            refine V_iload dX11_sendsOne_215 rfl ?_
            refine V_iconst (v := iI (4)) dX11_sendsOne_217 rfl ?_
            refine I_iadd dX11_sendsOne_218 ?_
            refine V_iconst (v := iI (3)) dX11_sendsOne_219 rfl ?_
            refine I_iadd dX11_sendsOne_220 ?_
            refine V_tern (J := 235) (v := .int (iI (if ch = -1 then 254 else 255))) (fun sz => ?_) (fun j235 => ?_)
            · refine R_iast dX11_sendsOne_235 ⟨by omega, by omega⟩ ?_
              obtain ⟨b, hb⟩ : ∃ b, b = rhd a ch (383 + 50 * ρ 382) cn (ρ 0) := ⟨_, rfl⟩
              refine V_eqM (M' := rM M0 r b π sv rf hs) (by rw [hb]; rfl) ?_
              have hbo : ∀ q, q < (383 + 50 * ρ 382) → b q = a q := fun q h => by rw [hb]; exact rhd_o h
              have hbE : ∀ c, 0 ≤ c → c ≤ 3 → QE ρ b c := fun c h0 h1 => (haE c h0 h1).tr ⟨hbo _ (by omega), hbo _ (by omega), fun q h2 h3 => hbo _ (by omega)⟩
              have hbQ : 0 ≤ ch → Qs b ch := fun h => (hbE ch h (by omega)).s (hS.2.1 ch h (by omega)).1
              have hbP : 0 ≤ ch → 1 ≤ pend b ch := fun h => by rw [(hbE ch h (by omega)).pd (by have := (hS.2.1 ch h (by omega)).1.1.m; omega)]; exact rch_p h hch hS
              have hb3 : b 3 = ρ 3 := by rw [hbo _ (by omega), ha3]
              have hb50 : b (50 + ch) = ρ (50 + ch) := by rw [hbo _ (by omega), hao _ (by omega)]
              have hbT : b (383 + 50 * ρ 382) = ρ 0 := by rw [hb]; unfold rhd; simp (disch := omega) only [up_s, up_n]
              have hb7 : 0 ≤ b ((383 + 50 * ρ 382) + 4 + 3) ∧ b ((383 + 50 * ρ 382) + 4 + 3) ≤ 255 := by
                rw [hb]; unfold rhd; rw [up_s]
                split <;> omega
              have hbH : ∀ k, 0 ≤ k → k < 3 → 0 ≤ b ((383 + 50 * ρ 382) + 4 + k) ∧ b ((383 + 50 * ρ 382) + 4 + k) ≤ 255 := by
                intro k h0 h1
                rcases (show k = 0 ∨ k = 1 ∨ k = 2 by omega) with rfl | rfl | rfl
                · rw [hb, show (383 + 50 * ρ 382) + 4 + 0 = (383 + 50 * ρ 382) + 4 by omega]; unfold rhd; simp (disch := omega) only [up_s, up_n]; rw [ha4]; have := hS.2.2.2.2.1; omega
                · rw [hb]; unfold rhd; simp (disch := omega) only [up_s, up_n]; split <;> omega
                · rw [hb]; unfold rhd; simp (disch := omega) only [up_s, up_n]; rw [hacn]; have := hS.2.2.2.2.2.1 (cn - 5) (by omega) (by omega); rw [show 5 + (cn - 5) = cn by omega] at this; omega
              refine V_join (J := 282) (M' := (rM M0 r (ridl b ch (ρ 0)) π sv rf hs)) (L' := [some (.ref r), some (.int (iI ch)), some (.int (iI (ρ 0))), some (.int (iI (ρ 382))), some (.int (iI (383 + 50 * ρ 382))), some (.int (iI cn)), none]) (fun sz => ?_) (fun j282 => ?_)
              · obtain ⟨cc, hcc⟩ : ∃ cc, cc = ridl b ch (ρ 0) := ⟨_, rfl⟩
                rw [← hcc]
                have hcK : ¬ ch = -1 → (0 ≤ ch ∧ ch ≤ 3) ∧ KI cc ch (383 + 50 * ρ 382) (ρ 0) := fun h => ⟨by omega, by rw [hcc]; exact ridl_K (by omega) (by omega) hS.1 (hbQ (by omega)) (hbP (by omega)) (by rw [hb3]; omega) (by rw [hb50]; have := hS.2.1 ch (by omega) (by omega); omega) hb7⟩
                have hco : ∀ q, (382 ≤ q ∨ q < 54) → cc q = b q := fun q h => by rw [hcc]; exact ridl_o (fun h => ⟨by omega, by omega, by have := (hbQ (by omega)).1.m; omega, by have := (hbQ (by omega)).1.m; omega⟩) h
                refine V_iconst (v := iI (0)) dX11_sendsOne_282 rfl ?_
                refine V_istore (L' := [some _, some _, some _, some _, some _, some _, some _]) dX11_sendsOne_283 (by decide) rfl ?_
                have key285 : ∀ (d : Nat) (i : Int) (sz : Nat), 0 ≤ i ∧ i ≤ ρ 0 → (ρ 0 - i).toNat = d → V l G A (rmN 6) RX11 "sendsOne" cX11_sendsOne 7 (some .boolean) Q nX 0 0 (rM M0 r (rflN cc (383 + 50 * ρ 382) ch i.toNat) π sv rf hs) sz 285 [some (.ref r), some (.int (iI ch)), some (.int (iI (ρ 0))), some (.int (iI (ρ 382))), some (.int (iI (383 + 50 * ρ 382))), some (.int (iI cn)), some (.int (iI i))] [] := by
                  intro d
                  induction d using Nat.strongRecOn with
                  | ind d ih285 =>
                    intro i  sz hi hd285
                    refine V_iload dX11_sendsOne_285 rfl ?_
                    refine V_iload_n dX11_sendsOne_287 rfl ?_
                    refine I_icmp_ge (tgt := 373) dX11_sendsOne_288 (by decide) ⟨by omega, by omega⟩ ⟨by omega, by omega⟩ (fun h288 => ?_) (fun h288 => ?_)
                    · obtain ⟨d, hd⟩ : ∃ d, d = rflN cc (383 + 50 * ρ 382) ch (ρ 0).toNat := ⟨_, rfl⟩
                      rw [show i = ρ 0 by omega, ← hd]
                      have hdo : ∀ q, 382 ≤ q → q < (383 + 50 * ρ 382) + 4 + 3 → d q = b q := fun q h0 h1 => by rw [hd, rflN_o hcK (by omega) (by omega) (by omega) (ρ 0).toNat (by omega) (by omega) (by omega), hco q (by omega)]
                      have hFd : Ff d (ρ 382) := by
                        have e0 : d (383 + 50 * ρ 382) = ρ 0 := by rw [hdo _ (by omega) (by omega), hbT]
                        refine ⟨by rw [e0]; omega, fun k h0 hk => ?_⟩
                        rw [e0] at hk
                        rcases (show k < 3 ∨ k = 3 ∨ 4 ≤ k by omega) with h | h | h
                        · rw [hdo _ (by omega) (by omega)]; exact hbH k h0 h
                        · subst h; rw [hd]; exact rflN_7 hcK (by omega) (by rw [hco _ (by omega)]; exact hb7) (ρ 0).toNat (by omega) (by omega)
                        · have := rflN_b (k := k - 4) hcK (by omega) (ρ 0).toNat (by omega) (by omega) (by omega) (by omega)
                          rw [hd, show 383 + 50 * ρ 382 + 4 + k = 383 + 50 * ρ 382 + 4 + 4 + (k - 4) by omega]; exact this
                      refine V_aload_n dX11_sendsOne_373 rfl ?_
                      refine V_iload_n dX11_sendsOne_374 rfl ?_
                      refine V_cV0 (vs := [_]) (r_laysCheck l _ _ d _ _ _ _ (ρ 382) (by omega) hFd) mX11_121 coX11_laysCheck dX11_sendsOne_375 rM_0 rfl rfl rfl (by decide) (Nat.le_of_ble_eq_true rfl) (Nat.le_of_ble_eq_true rfl) (Nat.le_of_ble_eq_true rfl) (fun sz => ?_)
                      have hlo : ∀ q, q < 46 → rlay d (ρ 382) q = a q := fun q h => by
                        unfold rlay ckp
                        rw [up_n (by rw [hdo _ (by omega) (by omega), hbT]; omega), up_n (by rw [hdo _ (by omega) (by omega), hbT]; omega), hd, rflN_lo hcK (by omega) h (ρ 0).toNat (by omega) (by omega), hco _ (by omega), hbo _ (by omega)]
                      have hlo4 := hlo 4 (by omega)
                      have hlocn := hlo cn (by omega)
                      have hS5c := hS5 (cn - 5) (by omega) (by omega)
                      rw [show 5 + (cn - 5) = cn by omega] at hS5c
                      refine V_aload_n dX11_sendsOne_378 rfl ?_
                      refine V_getf fX11_7 dX11_sendsOne_379 rM_0 rfl ?_
                      refine V_sipush (v := iI (382)) dX11_sendsOne_382 (by decide +kernel) ?_
                      refine V_dup2 dX11_sendsOne_385 rfl rfl ?_
                      refine R_iald dX11_sendsOne_386 ⟨by omega, by omega⟩ ?_
                      try simp (disch := omega) only [up_s, up_n, shl_o]
                      refine V_iconst (v := iI (1)) dX11_sendsOne_387 rfl ?_
                      refine I_iadd dX11_sendsOne_388 ?_
                      refine R_iast dX11_sendsOne_389 ⟨by omega, by omega⟩ ?_
                      refine V_aload_n dX11_sendsOne_390 rfl ?_
                      refine V_getf fX11_7 dX11_sendsOne_391 rM_0 rfl ?_
                      refine V_iconst (v := iI (4)) dX11_sendsOne_394 rfl ?_
                      refine V_aload_n dX11_sendsOne_395 rfl ?_
                      refine V_getf fX11_7 dX11_sendsOne_396 rM_0 rfl ?_
                      refine V_iconst (v := iI (4)) dX11_sendsOne_399 rfl ?_
                      refine R_iald dX11_sendsOne_400 ⟨by omega, by omega⟩ ?_
                      try simp (disch := omega) only [up_s, up_n, shl_o]
                      refine V_iconst (v := iI (1)) dX11_sendsOne_401 rfl ?_
                      refine I_iadd dX11_sendsOne_402 ?_
                      refine V_sipush (v := iI (256)) dX11_sendsOne_403 (by decide +kernel) ?_
                      refine I_irem dX11_sendsOne_406 (by omega) (by omega) (by omega) (by omega) ?_
                      refine R_iast dX11_sendsOne_407 ⟨by omega, by omega⟩ ?_
                      refine V_aload_n dX11_sendsOne_408 rfl ?_
                      refine V_getf fX11_7 dX11_sendsOne_409 rM_0 rfl ?_
                      refine V_bipush (v := iI (41)) dX11_sendsOne_412 (by decide +kernel) ?_
                      refine V_iload dX11_sendsOne_414 rfl ?_
                      refine I_iadd dX11_sendsOne_416 ?_
                      refine V_iconst (v := iI (5)) dX11_sendsOne_417 rfl ?_
                      refine I_isub dX11_sendsOne_418 ?_
                      refine V_dup2 dX11_sendsOne_419 rfl rfl ?_
                      refine R_iald dX11_sendsOne_420 ⟨by omega, by omega⟩ ?_
                      try simp (disch := omega) only [up_s, up_n, shl_o]
                      refine V_iconst (v := iI (1)) dX11_sendsOne_421 rfl ?_
                      refine I_iadd dX11_sendsOne_422 ?_
                      refine R_iast dX11_sendsOne_423 ⟨by omega, by omega⟩ ?_
                      refine V_aload_n dX11_sendsOne_424 rfl ?_
                      refine V_getf fX11_7 dX11_sendsOne_425 rM_0 rfl ?_
                      refine V_iload dX11_sendsOne_428 rfl ?_
                      refine V_aload_n dX11_sendsOne_430 rfl ?_
                      refine V_getf fX11_7 dX11_sendsOne_431 rM_0 rfl ?_
                      refine V_iload dX11_sendsOne_434 rfl ?_
                      refine R_iald dX11_sendsOne_436 ⟨by omega, by omega⟩ ?_
                      try simp (disch := omega) only [up_s, up_n, shl_o]
                      refine V_iconst (v := iI (1)) dX11_sendsOne_437 rfl ?_
                      refine I_iadd dX11_sendsOne_438 ?_
                      refine V_sipush (v := iI (256)) dX11_sendsOne_439 (by decide +kernel) ?_
                      refine I_irem dX11_sendsOne_442 (by omega) (by omega) (by omega) (by omega) ?_
                      refine R_iast dX11_sendsOne_443 ⟨by omega, by omega⟩ ?_
                      refine V_aload_n dX11_sendsOne_444 rfl ?_
                      refine V_getf fX11_7 dX11_sendsOne_445 rM_0 rfl ?_
                      refine V_iconst (v := iI (3)) dX11_sendsOne_448 rfl ?_
                      refine V_dup2 dX11_sendsOne_449 rfl rfl ?_
                      refine R_iald dX11_sendsOne_450 ⟨by omega, by omega⟩ ?_
                      try simp (disch := omega) only [up_s, up_n, shl_o]
                      refine V_iconst (v := iI (1)) dX11_sendsOne_451 rfl ?_
                      refine I_iadd dX11_sendsOne_452 ?_
                      refine R_iast dX11_sendsOne_453 ⟨by omega, by omega⟩ ?_
                      refine V_iload_n dX11_sendsOne_454 rfl ?_
                      refine V_iconst (v := iI (-1)) dX11_sendsOne_455 rfl ?_
                      refine I_icmp_eq (tgt := 463) dX11_sendsOne_456 (by decide) ⟨by omega, by omega⟩ ⟨by omega, by omega⟩ (fun h456 => ?_) (fun h456 => ?_)
                      · refine V_iconst (v := iI (0)) dX11_sendsOne_463 rfl ?_
                        exact V_zret dX11_sendsOne_464 rfl (by first | rfl | decide) (Nat.le_of_ble_eq_true rfl) (Nat.le_of_ble_eq_true rfl) (hQ _ _ _ (iv (by first | exact if1 (by omega) | exact if0 (by omega))) (by unfold rsnd rsn3 rsn2 rsn1; rw [← hch, ← hcn, ← ha, ← hb, ← hcc, ← hd]; try simp (disch := omega) only [up_s, up_n]))
                      · refine V_iconst (v := iI (1)) dX11_sendsOne_459 rfl ?_
                        refine V_goto (tgt := 464) dX11_sendsOne_460 (by decide) ?_
                        exact V_zret dX11_sendsOne_464 rfl (by first | rfl | decide) (Nat.le_of_ble_eq_true rfl) (Nat.le_of_ble_eq_true rfl) (hQ _ _ _ (iv (by first | exact if1 (by omega) | exact if0 (by omega))) (by unfold rsnd rsn3 rsn2 rsn1; rw [← hch, ← hcn, ← ha, ← hb, ← hcc, ← hd]; try simp (disch := omega) only [up_s, up_n]))
                    · have hσK : ¬ ch = -1 → (0 ≤ ch ∧ ch ≤ 3) ∧ KI (rflN cc (383 + 50 * ρ 382) ch i.toNat) ch (383 + 50 * ρ 382) (ρ 0 - i) := fun h => ⟨by omega, by have := KI.N (hcK h).1 (by omega) (hcK h).2 i.toNat (by omega) (by omega); rw [Int.toNat_of_nonneg hi.1] at this; exact this⟩
                      have hσ7 : 0 ≤ rflN cc (383 + 50 * ρ 382) ch i.toNat ((383 + 50 * ρ 382) + 4 + 3) ∧ rflN cc (383 + 50 * ρ 382) ch i.toNat ((383 + 50 * ρ 382) + 4 + 3) ≤ 255 := rflN_7 hcK (by omega) (by rw [hco _ (by omega)]; exact hb7) i.toNat (by omega) (by omega)
                      obtain ⟨τ, hτ⟩ : ∃ τ, τ = rflN cc (383 + 50 * ρ 382) ch i.toNat := ⟨_, rfl⟩
                      rw [← hτ] at hσK hσ7 ⊢
                      have hσo : ¬ ch = -1 → 0 ≤ τ (58 + ch) ∧ τ (58 + ch) ≤ 52 := fun h => (hσK h).2.1.1.2.1
                      refine V_join (J := 338) (M' := (rM M0 r (rptr τ (383 + 50 * ρ 382) ch i) π sv rf hs)) (L' := [some (.ref r), some (.int (iI ch)), some (.int (iI (ρ 0))), some (.int (iI (ρ 382))), some (.int (iI (383 + 50 * ρ 382))), some (.int (iI cn)), some (.int (iI i))]) (fun sz => ?_) (fun j338 => ?_)
                      · obtain ⟨σ, hσ⟩ : ∃ σ, σ = rptr τ (383 + 50 * ρ 382) ch i := ⟨_, rfl⟩
                        rw [← hσ]
                        have hK2 : ¬ ch = -1 → Qs σ ch ∧ 1 ≤ pend σ ch ∧ (0 ≤ σ 3 ∧ σ 3 ≤ 100000) ∧ (-1 ≤ σ (50 + ch) ∧ σ (50 + ch) ≤ 100000) := fun h => by
                          obtain ⟨k1, k2, k3, k4, k5, k6⟩ := hσK h
                          have hE := rptr_E (ρ := τ) (k := i) k1 (show 383 ≤ (383 + 50 * ρ 382) by omega)
                          rw [hσ]
                          refine ⟨hE.s k2, by rw [hE.pd (by have := k2.1.1; omega)]; omega, ?_, ?_⟩
                          · rw [rptr_o (by omega)]; exact k4
                          · rw [rptr_o (by omega)]; exact k5
                        refine V_aload_n dX11_sendsOne_338 rfl ?_
                        refine V_getf fX11_7 dX11_sendsOne_339 rM_0 rfl ?_
                        refine V_iload dX11_sendsOne_342 rfl ?_
                        refine V_iconst (v := iI (4)) dX11_sendsOne_344 rfl ?_
                        refine I_iadd dX11_sendsOne_345 ?_
                        refine V_iconst (v := iI (4)) dX11_sendsOne_346 rfl ?_
                        refine I_iadd dX11_sendsOne_347 ?_
                        refine V_iload dX11_sendsOne_348 rfl ?_
                        refine I_iadd dX11_sendsOne_350 ?_
                        refine V_iload_n dX11_sendsOne_351 rfl ?_
                        refine V_iconst (v := iI (-1)) dX11_sendsOne_352 rfl ?_
                        refine I_icmp_ne (tgt := 361) dX11_sendsOne_353 (by decide) ⟨by omega, by omega⟩ ⟨by omega, by omega⟩ (fun h353 => ?_) (fun h353 => ?_)
                        · obtain ⟨k1, k2, k3, k4⟩ := hK2 (by omega)
                          have km := k1.pend0.2.mp k2
                          have kq := k1.1.1
                          have ko := k1.1.2.1
                          have k0 := k1.1.2.2 0 (by omega) (by omega)
                          rw [show 62 + 80 * ch + 5 * 0 = 62 + 80 * ch by omega] at k0
                          refine V_aload_n dX11_sendsOne_361 rfl ?_
                          refine V_iload_n dX11_sendsOne_362 rfl ?_
                          refine V_cV (vs := [_]) (r_takes l _ _ σ _ _ _ _ ch (by omega) (by omega) (by omega) (by omega) (by omega) (by omega) (by omega) (by omega) (by omega)) mX11_118 coX11_takes dX11_sendsOne_363 rM_0 rfl rfl rfl (by decide) (Nat.le_of_ble_eq_true rfl) (Nat.le_of_ble_eq_true rfl) (Nat.le_of_ble_eq_true rfl) (fun sz => ?_)
                          refine R_iast dX11_sendsOne_366 ⟨by omega, by omega⟩ ?_
                          refine I_iinc (L' := [some _, some _, some _, some _, some _, some _, some _]) dX11_sendsOne_367 rfl (by decide) rfl ?_
                          refine V_goto (tgt := 285) dX11_sendsOne_370 (by decide) ?_
                          exact V_eqM (by rw [← rflN_s hi.1, ← hτ]; unfold rfl1; first | (rw [if_pos (by omega), hσ]; unfold rptr; rw [if_neg (by omega)]) | rw [if_neg (by omega), hσ]) (V_wk' (ih285 _ (by omega) (i + 1) sz ⟨by omega, by omega⟩ rfl) ⟨rfl, rfl, rfl, rfl, rfl, rfl, rfl, trivial⟩)
                        · refine V_bipush (v := iI (85)) dX11_sendsOne_356 (by decide +kernel) ?_
                          refine V_goto (tgt := 366) dX11_sendsOne_358 (by decide) ?_
                          refine R_iast dX11_sendsOne_366 ⟨by omega, by omega⟩ ?_
                          refine I_iinc (L' := [some _, some _, some _, some _, some _, some _, some _]) dX11_sendsOne_367 rfl (by decide) rfl ?_
                          refine V_goto (tgt := 285) dX11_sendsOne_370 (by decide) ?_
                          exact V_eqM (by rw [← rflN_s hi.1, ← hτ]; unfold rfl1; first | (rw [if_pos (by omega), hσ]; unfold rptr; rw [if_neg (by omega)]) | rw [if_neg (by omega), hσ]) (V_wk' (ih285 _ (by omega) (i + 1) sz ⟨by omega, by omega⟩ rfl) ⟨rfl, rfl, rfl, rfl, rfl, rfl, rfl, trivial⟩)
                      · refine V_iload_n dX11_sendsOne_291 rfl ?_
                        refine V_iconst (v := iI (-1)) dX11_sendsOne_292 rfl ?_
                        refine I_icmp_eq (tgt := 338) dX11_sendsOne_293 (by decide) ⟨by omega, by omega⟩ ⟨by omega, by omega⟩ (fun h293 => ?_) (fun h293 => ?_)
                        · exact V_eqM (by unfold rptr; first | rw [if_neg (by omega)] | rw [if_pos (by omega)]) (V_wk' (j338 _) ⟨rfl, rfl, rfl, rfl, rfl, rfl, rfl, trivial⟩)
                        · refine V_aload_n dX11_sendsOne_296 rfl ?_
                          refine V_getf fX11_7 dX11_sendsOne_297 rM_0 rfl ?_
                          refine V_bipush (v := iI (58)) dX11_sendsOne_300 (by decide +kernel) ?_
                          refine V_iload_n dX11_sendsOne_302 rfl ?_
                          refine I_iadd dX11_sendsOne_303 ?_
                          refine R_iald dX11_sendsOne_304 ⟨by omega, by omega⟩ ?_
                          try simp (disch := omega) only [up_s, up_n, shl_o]
                          refine I_if_ne (tgt := 338) dX11_sendsOne_305 (by decide) ⟨by omega, by omega⟩ (fun h305 => ?_) (fun h305 => ?_)
                          · exact V_eqM (by unfold rptr; first | rw [if_neg (by omega)] | rw [if_pos (by omega)]) (V_wk' (j338 _) ⟨rfl, rfl, rfl, rfl, rfl, rfl, rfl, trivial⟩)
                          · refine V_aload_n dX11_sendsOne_308 rfl ?_
                            refine V_getf fX11_7 dX11_sendsOne_309 rM_0 rfl ?_
                            refine V_iload dX11_sendsOne_312 rfl ?_
                            refine V_iconst (v := iI (4)) dX11_sendsOne_314 rfl ?_
                            refine I_iadd dX11_sendsOne_315 ?_
                            refine V_iconst (v := iI (3)) dX11_sendsOne_316 rfl ?_
                            refine I_iadd dX11_sendsOne_317 ?_
                            refine R_iald dX11_sendsOne_318 ⟨by omega, by omega⟩ ?_
                            try simp (disch := omega) only [up_s, up_n, shl_o]
                            refine V_sipush (v := iI (255)) dX11_sendsOne_319 (by decide +kernel) ?_
                            refine I_icmp_ne (tgt := 338) dX11_sendsOne_322 (by decide) ⟨by omega, by omega⟩ ⟨by omega, by omega⟩ (fun h322 => ?_) (fun h322 => ?_)
                            · exact V_eqM (by unfold rptr; first | rw [if_neg (by omega)] | rw [if_pos (by omega)]) (V_wk' (j338 _) ⟨rfl, rfl, rfl, rfl, rfl, rfl, rfl, trivial⟩)
                            · refine V_aload_n dX11_sendsOne_325 rfl ?_
                              refine V_getf fX11_7 dX11_sendsOne_326 rM_0 rfl ?_
                              refine V_iload dX11_sendsOne_329 rfl ?_
                              refine V_iconst (v := iI (4)) dX11_sendsOne_331 rfl ?_
                              refine I_iadd dX11_sendsOne_332 ?_
                              refine V_iconst (v := iI (3)) dX11_sendsOne_333 rfl ?_
                              refine I_iadd dX11_sendsOne_334 ?_
                              refine V_iload dX11_sendsOne_335 rfl ?_
                              refine R_iast dX11_sendsOne_337 ⟨by omega, by omega⟩ ?_
                              exact V_eqM (by unfold rptr; first | rw [if_neg (by omega)] | rw [if_pos (by omega)]) (V_wk' (j338 _) ⟨rfl, rfl, rfl, rfl, rfl, rfl, rfl, trivial⟩)
                exact V_wk' (key285 _ 0 sz ⟨by omega, by omega⟩ rfl) ⟨rfl, rfl, rfl, rfl, rfl, rfl, rfl, trivial⟩
              · refine V_iload_n dX11_sendsOne_236 rfl ?_
                refine V_iconst (v := iI (-1)) dX11_sendsOne_237 rfl ?_
                refine I_icmp_eq (tgt := 282) dX11_sendsOne_238 (by decide) ⟨by omega, by omega⟩ ⟨by omega, by omega⟩ (fun h238 => ?_) (fun h238 => ?_)
                · exact V_eqM (by unfold ridl; first | exact congrArg (fun x => rM M0 r x π sv rf hs) (if_neg (by omega)).symm | exact congrArg (fun x => rM M0 r x π sv rf hs) (if_pos (by omega)).symm) (V_wk' (j282 _) ⟨rfl, rfl, rfl, rfl, rfl, rfl, trivial⟩)
                · refine V_aload_n dX11_sendsOne_241 rfl ?_
                  refine V_iload_n dX11_sendsOne_242 rfl ?_
                  refine V_cV (vs := [_]) (r_pending l _ _ b _ _ _ _ ch (by omega) (hbQ (by omega)).1.m) mX11_41 coX11_pending dX11_sendsOne_243 rM_0 rfl rfl rfl (by decide) (Nat.le_of_ble_eq_true rfl) (Nat.le_of_ble_eq_true rfl) (Nat.le_of_ble_eq_true rfl) (fun sz => ?_)
                  have hpb := pend_b (hbQ (by omega)).1
                  refine V_iload_n dX11_sendsOne_246 rfl ?_
                  refine I_icmp_ge (tgt := 282) dX11_sendsOne_247 (by decide) ⟨by omega, by omega⟩ ⟨by omega, by omega⟩ (fun h247 => ?_) (fun h247 => ?_)
                  · exact V_eqM (by unfold ridl; first | exact congrArg (fun x => rM M0 r x π sv rf hs) (if_neg (by omega)).symm | exact congrArg (fun x => rM M0 r x π sv rf hs) (if_pos (by omega)).symm) (V_wk' (j282 _) ⟨rfl, rfl, rfl, rfl, rfl, rfl, trivial⟩)
                  · refine V_iload_n dX11_sendsOne_250 rfl ?_
                    refine V_aload_n dX11_sendsOne_251 rfl ?_
                    refine V_iload_n dX11_sendsOne_252 rfl ?_
                    refine V_cV (vs := [_]) (r_pending l _ _ b _ _ _ _ ch (by omega) (hbQ (by omega)).1.m) mX11_41 coX11_pending dX11_sendsOne_253 rM_0 rfl rfl rfl (by decide) (Nat.le_of_ble_eq_true rfl) (Nat.le_of_ble_eq_true rfl) (Nat.le_of_ble_eq_true rfl) (fun sz => ?_)
                    refine I_isub dX11_sendsOne_256 ?_
                    refine V_istore (L' := [some _, some _, some _, some _, some _, some _, some _]) dX11_sendsOne_257 (by decide) rfl ?_
                    refine V_aload_n dX11_sendsOne_259 rfl ?_
                    refine V_iload_n dX11_sendsOne_260 rfl ?_
                    refine V_bipush (v := iI (15)) dX11_sendsOne_261 (by decide +kernel) ?_
                    refine V_iconst (v := iI (0)) dX11_sendsOne_263 rfl ?_
                    refine V_tern (J := 278) (v := .int (iI (if ρ 0 - pend b ch < 4 then 1 else ρ 0 - pend b ch - 3))) (fun sz => ?_) (fun j278 => ?_)
                    · refine V_iconst (v := iI (0)) dX11_sendsOne_278 rfl ?_
                      refine V_cV0 (vs := [_, _, _, _, _]) (r_puts l _ _ b _ _ _ _ ch (by omega) (hbQ (by omega)).1.m 15 0 (if ρ 0 - pend b ch < 4 then 1 else ρ 0 - pend b ch - 3) 0) mX11_72 coX11_puts dX11_sendsOne_279 rM_0 rfl rfl rfl (by decide) (Nat.le_of_ble_eq_true rfl) (Nat.le_of_ble_eq_true rfl) (Nat.le_of_ble_eq_true rfl) (fun sz => ?_)
                      exact V_eqM (by unfold ridl; first | exact congrArg (fun x => rM M0 r x π sv rf hs) (if_neg (by omega)).symm | exact congrArg (fun x => rM M0 r x π sv rf hs) (if_pos (by omega)).symm) (V_wk' (j282 _) ⟨rfl, rfl, rfl, rfl, rfl, rfl, trivial⟩)
                    · refine V_iload dX11_sendsOne_264 rfl ?_
                      refine V_iconst (v := iI (4)) dX11_sendsOne_266 rfl ?_
                      refine I_icmp_ge (tgt := 274) dX11_sendsOne_267 (by decide) ⟨by omega, by omega⟩ ⟨by omega, by omega⟩ (fun h267 => ?_) (fun h267 => ?_)
                      · refine V_iload dX11_sendsOne_274 rfl ?_
                        refine V_iconst (v := iI (3)) dX11_sendsOne_276 rfl ?_
                        refine I_isub dX11_sendsOne_277 ?_
                        exact V_top (vi (by first | rw [if_pos (by omega)] | rw [if_neg (by omega)])) (j278 _)
                      · refine V_iconst (v := iI (1)) dX11_sendsOne_270 rfl ?_
                        refine V_goto (tgt := 278) dX11_sendsOne_271 (by decide) ?_
                        exact V_top (vi (by first | rw [if_pos (by omega)] | rw [if_neg (by omega)])) (j278 _)
            · refine V_iload_n dX11_sendsOne_221 rfl ?_
              refine V_iconst (v := iI (-1)) dX11_sendsOne_222 rfl ?_
              refine I_icmp_ne (tgt := 232) dX11_sendsOne_223 (by decide) ⟨by omega, by omega⟩ ⟨by omega, by omega⟩ (fun h223 => ?_) (fun h223 => ?_)
              · refine V_sipush (v := iI (255)) dX11_sendsOne_232 (by decide +kernel) ?_
                exact V_top (vi (by first | rw [if_pos (by omega)] | rw [if_neg (by omega)])) (j235 _)
              · refine V_sipush (v := iI (254)) dX11_sendsOne_226 (by decide +kernel) ?_
                refine V_goto (tgt := 235) dX11_sendsOne_229 (by decide) ?_
                exact V_top (vi (by first | rw [if_pos (by omega)] | rw [if_neg (by omega)])) (j235 _)
          · refine V_iload_n dX11_sendsOne_181 rfl ?_
            refine V_iconst (v := iI (-1)) dX11_sendsOne_182 rfl ?_
            refine I_icmp_ne (tgt := 191) dX11_sendsOne_183 (by decide) ⟨by omega, by omega⟩ ⟨by omega, by omega⟩ (fun h183 => ?_) (fun h183 => ?_)
            · refine V_iload_n dX11_sendsOne_191 rfl ?_
              exact V_top (vi (by first | rw [if_pos (by omega)] | rw [if_neg (by omega)])) (j192 _)
            · refine V_bipush (v := iI (7)) dX11_sendsOne_186 (by decide +kernel) ?_
              refine V_goto (tgt := 192) dX11_sendsOne_188 (by decide) ?_
              exact V_top (vi (by first | rw [if_pos (by omega)] | rw [if_neg (by omega)])) (j192 _)
        · refine V_aload_n dX11_sendsOne_51 rfl ?_
          refine V_getf fX11_7 dX11_sendsOne_52 rM_0 rfl ?_
          refine V_bipush (v := iI (37)) dX11_sendsOne_55 (by decide +kernel) ?_
          refine V_iload dX11_sendsOne_57 rfl ?_
          refine I_iadd dX11_sendsOne_59 ?_
          refine V_tern (J := 91) (v := .int (iI (if ¬ i = ch ∧ 0 < pend (rwtN ρ ch i.toNat) i then rwtN ρ ch i.toNat (37 + i) + 1 else 0))) (fun sz => ?_) (fun j91 => ?_)
          · refine R_iast dX11_sendsOne_91 ⟨by omega, by omega⟩ ?_
            refine I_iinc (L' := [some _, some _, some _, some _, some _, some _, some _]) dX11_sendsOne_92 rfl (by decide) rfl ?_
            refine V_goto (tgt := 45) dX11_sendsOne_95 (by decide) ?_
            exact V_eqM (by rw [← rwtN_s hi.1]) (V_wk' (ih45 _ (by omega) (i + 1) sz ⟨by omega, by omega⟩ rfl) ⟨rfl, rfl, rfl, rfl, rfl, rfl, rfl, trivial⟩)
          · refine V_iload dX11_sendsOne_60 rfl ?_
            refine V_iload_n dX11_sendsOne_62 rfl ?_
            refine I_icmp_eq (tgt := 90) dX11_sendsOne_63 (by decide) ⟨by omega, by omega⟩ ⟨by omega, by omega⟩ (fun h63 => ?_) (fun h63 => ?_)
            · refine V_iconst (v := iI (0)) dX11_sendsOne_90 rfl ?_
              exact V_top (vi (by first | rw [if_pos (by omega)] | rw [if_neg (by omega)])) (j91 _)
            · refine V_aload_n dX11_sendsOne_66 rfl ?_
              refine V_iload dX11_sendsOne_67 rfl ?_
              refine V_cV (vs := [_]) (r_pending l _ _ (rwtN ρ ch i.toNat) _ _ _ _ i (by omega) (by rw [rwtN_o _ (by omega)]; exact (hS.2.1 i (by omega) (by omega)).1.1.m)) mX11_41 coX11_pending dX11_sendsOne_69 rM_0 rfl rfl rfl (by decide) (Nat.le_of_ble_eq_true rfl) (Nat.le_of_ble_eq_true rfl) (Nat.le_of_ble_eq_true rfl) (fun sz => ?_)
              have hpb := pend_b ((rwtN_E (ρ := ρ) (ch := ch) (c := i) i.toNat (by omega) (by omega)).c (hS.2.1 i (by omega) (by omega)).1.1)
              refine I_if_le (tgt := 90) dX11_sendsOne_72 (by decide) ⟨by omega, by omega⟩ (fun h72 => ?_) (fun h72 => ?_)
              · refine V_iconst (v := iI (0)) dX11_sendsOne_90 rfl ?_
                exact V_top (vi (by first | rw [if_pos (by omega)] | rw [if_neg (by omega)])) (j91 _)
              · refine V_aload_n dX11_sendsOne_75 rfl ?_
                refine V_getf fX11_7 dX11_sendsOne_76 rM_0 rfl ?_
                refine V_bipush (v := iI (37)) dX11_sendsOne_79 (by decide +kernel) ?_
                refine V_iload dX11_sendsOne_81 rfl ?_
                refine I_iadd dX11_sendsOne_83 ?_
                refine R_iald dX11_sendsOne_84 ⟨by omega, by omega⟩ ?_
                try simp (disch := omega) only [up_s, up_n, shl_o]
                refine V_iconst (v := iI (1)) dX11_sendsOne_85 rfl ?_
                refine I_iadd dX11_sendsOne_86 ?_
                refine V_goto (tgt := 91) dX11_sendsOne_87 (by decide) ?_
                exact V_top (vi (by first | rw [if_pos (by omega)] | rw [if_neg (by omega)])) (j91 _)
    exact V_wk' (key45 _ 0 sz ⟨by omega, by omega⟩ rfl) ⟨rfl, rfl, rfl, rfl, rfl, rfl, rfl, trivial⟩
  · refine V_iload_n dX11_sendsOne_29 rfl ?_
    refine V_iconst (v := iI (-1)) dX11_sendsOne_30 rfl ?_
    refine I_icmp_ne (tgt := 38) dX11_sendsOne_31 (by decide) ⟨by omega, by omega⟩ ⟨by omega, by omega⟩ (fun h31 => ?_) (fun h31 => ?_)
    · refine V_iload_n dX11_sendsOne_38 rfl ?_
      exact V_top (vi (by first | rw [if_pos (by omega)] | rw [if_neg (by omega)])) (j39 _)
    · refine V_iconst (v := iI (4)) dX11_sendsOne_34 rfl ?_
      refine V_goto (tgt := 39) dX11_sendsOne_35 (by decide) ?_
      exact V_top (vi (by first | rw [if_pos (by omega)] | rw [if_neg (by omega)])) (j39 _)
