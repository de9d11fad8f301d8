theorem rcn_o {ρ : Int → Int} {w m q : Int} (h : q ≠ 3383 + w) : rcn ρ w m q = ρ q := up_n h
/-- a partial packet -/
def Pi (ρ : Int → Int) (c : Int) : Prop := (0 ≤ ρ (3407 + c) ∧ ρ (3407 + c) ≤ 257) ∧ (∀ k, 0 ≤ k → k < ρ (3407 + c) → 0 ≤ ρ (3411 + 258 * c + k) ∧ ρ (3411 + 258 * c + k) ≤ 255) ∧ (ρ (3407 + c) ≤ 2 ∨ ρ (3407 + c) < 3 + ρ (3411 + 258 * c + 2))
/-- counts of applications, and the list -/
def Ai (ρ : Int → Int) : Prop := (∀ a, 0 ≤ a → a ≤ 14 → -1 ≤ ρ (4443 + 4 * a + 3) ∧ ρ (4443 + 4 * a + 3) ≤ 255) ∧ (0 ≤ ρ 4503 ∧ ρ 4503 ≤ 30) ∧ ∀ i, 0 ≤ i → i < ρ 4503 → 0 ≤ ρ (4504 + 260 * i + 3) ∧ ρ (4504 + 260 * i + 3) ≤ 255
theorem rdA_o {ρ : Int → Int} {c a q : Int} (h : q ≠ 3407 + c) (h2 : q < 4443 + 4 * a ∨ 4443 + 4 * a + 3 < q) : rdA ρ c a q = ρ q := by
  unfold rdA
  rw [up_n (by omega), up_n (by omega), up_n (by omega), up_n (by omega), up_n h]
theorem rdA_c {ρ : Int → Int} {c a : Int} (hc : 0 ≤ c ∧ c ≤ 3) (ha : 0 ≤ a ∧ a ≤ 14) : rdA ρ c a (3407 + c) = 0 := by
  unfold rdA
  simp (disch := omega) only [up_s, up_n]
theorem rdA_3 {ρ : Int → Int} {c a : Int} : rdA ρ c a (4443 + 4 * a + 3) = ρ (3411 + 258 * c + 1) := by
  unfold rdA
  rw [up_s]
theorem rdB_p {ρ : Int → Int} (h : 0 ≤ ρ 4503 ∧ ρ 4503 ≤ 30) : (0 ≤ rdB ρ 4503 ∧ rdB ρ 4503 ≤ 29) ∧ (ρ 4503 = 30 → rdB ρ 4503 = 29) ∧ (¬ ρ 4503 = 30 → rdB ρ 4503 = ρ 4503) := by
  unfold rdB
  by_cases hh : ρ 4503 = 30
  · rw [if_pos hh, up_s]; omega
  · rw [if_neg hh]; omega
theorem rdB_o {ρ : Int → Int} {q : Int} (h : q < 4503 ∨ 12044 ≤ q) : rdB ρ q = ρ q := by
  unfold rdB
  split
  · rw [up_n (by omega), shl_o (by omega)]
  · rfl
theorem rdB_r {ρ : Int → Int} {q : Int} (h : 4504 ≤ q ∧ q < 12044) : rdB ρ q = if ρ 4503 = 30 then ρ (q + 260) else ρ q := by
  unfold rdB
  split
  · rw [up_n (by omega), shl_i ⟨h.1, h.2⟩]
  · rfl
theorem rdE_o {ρ : Int → Int} {c a q : Int} (hp : 0 ≤ ρ 4503 ∧ ρ 4503 ≤ 29) (hl : 0 ≤ ρ (3411 + 258 * c + 2) ∧ ρ (3411 + 258 * c + 2) ≤ 255) (h : q ≠ 4503) (h2 : q < 4504 + 260 * ρ 4503 ∨ 4504 + 260 * ρ 4503 + 260 ≤ q) : rdE ρ c a q = ρ q := by
  unfold rdE rdD
  rw [up_n h, rdlN_o _ (by omega) (by omega)]
  unfold rdC
  rw [up_n (by omega), up_n (by omega), up_n (by omega), up_n (by omega), up_n (by omega)]
theorem rdE_3 {ρ : Int → Int} {c a : Int} (hp : 0 ≤ ρ 4503 ∧ ρ 4503 ≤ 29) : rdE ρ c a (4504 + 260 * ρ 4503 + 3) = ρ (3411 + 258 * c + 2) := by
  unfold rdE rdD
  rw [up_n (by omega), rdlN_o _ (by omega) (by omega)]
  unfold rdC
  rw [up_n (by omega), up_s]
theorem rdv_o {ρ : Int → Int} {c q : Int} (hc : 0 ≤ c ∧ c ≤ 3) (h0 : 0 ≤ ρ (3411 + 258 * c)) (h2 : 0 ≤ ρ (3411 + 258 * c + 2) ∧ ρ (3411 + 258 * c + 2) ≤ 255) (hp : 0 ≤ ρ 4503 ∧ ρ 4503 ≤ 30) (h : q ≠ 3407 + c) (hq : (q < 4443 ∧ q ≠ 3386 ∧ q ≠ 3387) ∨ 12304 ≤ q) : rdv ρ c q = ρ q := by
  unfold rdv
  split
  · rename_i h15
    have hA4 : rdA ρ c (ρ (3411 + 258 * c)) 4503 = ρ 4503 := rdA_o (by omega) (by omega)
    have hb := rdB_p (ρ := rdA ρ c (ρ (3411 + 258 * c))) (by rw [hA4]; exact hp)
    rw [rdE_o hb.1 (by rw [rdB_o (by omega), rdA_o (by omega) (by omega)]; exact h2) (by omega) (by omega), rdB_o (by omega), rdA_o h (by omega)]
  · rw [rcn_o (by split <;> omega), up_n h]
theorem rdv_s {ρ : Int → Int} {c : Int} (hc : 0 ≤ c ∧ c ≤ 3) (h0 : 0 ≤ ρ (3411 + 258 * c)) (h1 : 0 ≤ ρ (3411 + 258 * c + 1) ∧ ρ (3411 + 258 * c + 1) ≤ 255) (h2 : 0 ≤ ρ (3411 + 258 * c + 2) ∧ ρ (3411 + 258 * c + 2) ≤ 255) (hA : Ai ρ) : rdv ρ c (3407 + c) = 0 ∧ Ai (rdv ρ c) := by
  obtain ⟨ha, hp, hr⟩ := hA
  unfold rdv
  by_cases h15 : ρ (3411 + 258 * c) < 15
  · rw [if_pos h15]
    obtain ⟨a, hae⟩ : ∃ a, a = ρ (3411 + 258 * c) := ⟨_, rfl⟩
    rw [← hae] at h15 h0 ⊢
    have hA4 : rdA ρ c a 4503 = ρ 4503 := rdA_o (by omega) (by omega)
    have hb := rdB_p (ρ := rdA ρ c a) (by rw [hA4]; exact hp)
    have hB2 : rdB (rdA ρ c a) (3411 + 258 * c + 2) = ρ (3411 + 258 * c + 2) := by rw [rdB_o (by omega), rdA_o (by omega) (by omega)]
    have hE := fun q => rdE_o (ρ := rdB (rdA ρ c a)) (c := c) (a := a) (q := q) hb.1 (by rw [hB2]; exact h2)
    refine ⟨by rw [hE _ (by omega) (by omega), rdB_o (by omega)]; exact rdA_c hc ⟨by omega, by omega⟩, ⟨fun a' g0 g1 => ?_, ?_, fun i g0 g1 => ?_⟩⟩
    · rw [hE _ (by omega) (by omega), rdB_o (by omega)]
      by_cases e : a' = a
      · subst e; rw [rdA_3]; omega
      · rw [rdA_o (by omega) (by omega)]; exact ha a' g0 g1
    · unfold rdE; rw [up_s]; omega
    · have hcount : rdE (rdB (rdA ρ c a)) c a 4503 = rdB (rdA ρ c a) 4503 + 1 := by unfold rdE; rw [up_s]
      rw [hcount] at g1
      by_cases e : i = rdB (rdA ρ c a) 4503
      · rw [e, rdE_3 hb.1, hB2]; exact h2
      · rw [hE _ (by omega) (by omega), rdB_r (by omega), hA4]
        by_cases hh : ρ 4503 = 30
        · rw [if_pos hh, rdA_o (by omega) (by omega), show 4504 + 260 * i + 3 + 260 = 4504 + 260 * (i + 1) + 3 by omega]
          exact hr (i + 1) (by omega) (by have := hb.2.1 (by rw [hA4]; exact hh); omega)
        · rw [if_neg hh, rdA_o (by omega) (by omega)]
          exact hr i g0 (by have := hb.2.2 (by rw [hA4]; exact hh); rw [hA4] at this; omega)
  · rw [if_neg h15]
    have hx : ∀ q, q ≠ 3386 → q ≠ 3387 → q ≠ 3407 + c → rcn (up ρ (3407 + c) 0) (if ρ (3411 + 258 * c) = 15 then 4 else 3) 1 q = ρ q := fun q a b d => by
      rw [rcn_o (by split <;> omega), up_n d]
    refine ⟨by rw [rcn_o (by split <;> omega), up_s], ⟨fun a' g0 g1 => by rw [hx _ (by omega) (by omega) (by omega)]; exact ha a' g0 g1, by rw [hx _ (by omega) (by omega) (by omega)]; exact hp, fun i g0 g1 => ?_⟩⟩
    rw [hx _ (by omega) (by omega) (by omega)] at g1
    rw [hx _ (by omega) (by omega) (by omega)]
    exact hr i g0 g1
/-- a byte is appended to a partial packet -/
def ra2 (ρ : Int → Int) (c v : Int) : Int → Int := up (up ρ (3411 + 258 * c + ρ (3407 + c)) v) (3407 + c) (ρ (3407 + c) + 1)
abbrev raD (ρ : Int → Int) (c v : Int) : Prop := 3 ≤ ρ (3407 + c) + 1 ∧ ρ (3407 + c) + 1 = 3 + ra2 ρ c v (3411 + 258 * c + 2)
def rap (ρ : Int → Int) (c v : Int) : Int → Int := if raD ρ c v then rdv (ra2 ρ c v) c else ra2 ρ c v
def rav (ρ : Int → Int) (c v : Int) : Int := if raD ρ c v ∧ ra2 ρ c v (3411 + 258 * c) < 15 then 1 else 0
theorem ra2_m {ρ : Int → Int} {c v : Int} : ra2 ρ c v (3407 + c) = ρ (3407 + c) + 1 := by unfold ra2; rw [up_s]
theorem ra2_b {ρ : Int → Int} {c v : Int} (hc : 0 ≤ c ∧ c ≤ 3) (hP : Pi ρ c) (hv : 0 ≤ v ∧ v ≤ 255) : ∀ k, 0 ≤ k → k < ρ (3407 + c) + 1 → 0 ≤ ra2 ρ c v (3411 + 258 * c + k) ∧ ra2 ρ c v (3411 + 258 * c + k) ≤ 255 := by
  intro k h0 h1
  have hm := hP.1
  unfold ra2
  rw [up_n (by omega)]
  by_cases e : k = ρ (3407 + c)
  · subst e; rw [up_s]; exact hv
  · rw [up_n (by omega)]; exact hP.2.1 k h0 (by omega)
theorem ra2_o {ρ : Int → Int} {c v q : Int} (hP : Pi ρ c) (hc : 0 ≤ c ∧ c ≤ 3) (h : q ≠ 3407 + c) (h2 : q < 3411 + 258 * c ∨ 3411 + 258 * c + 258 ≤ q) : ra2 ρ c v q = ρ q := by
  have hm := hP.1
  unfold ra2
  rw [up_n h, up_n (by omega)]
theorem Ai.cg {ρ ρ' : Int → Int} (h : Ai ρ) (hq : ∀ q, 4443 ≤ q → q < 12304 → ρ' q = ρ q) : Ai ρ' := by
  obtain ⟨ha, hp, hr⟩ := h
  refine ⟨fun a h0 h1 => by rw [hq _ (by omega) (by omega)]; exact ha a h0 h1, by rw [hq _ (by omega) (by omega)]; exact hp, fun i h0 h1 => ?_⟩
  rw [hq _ (by omega) (by omega)] at h1
  rw [hq _ (by omega) (by omega)]
  exact hr i h0 h1
theorem rap_s {ρ : Int → Int} {c v : Int} (hc : 0 ≤ c ∧ c ≤ 3) (hP : Pi ρ c) (hA : Ai ρ) (hv : 0 ≤ v ∧ v ≤ 255) : Pi (rap ρ c v) c ∧ Ai (rap ρ c v) ∧ ∀ q, q ≠ 3407 + c → (q < 3411 + 258 * c ∨ 3411 + 258 * c + 258 ≤ q) → (q < 4443 ∧ q ≠ 3386 ∧ q ≠ 3387) ∨ 12304 ≤ q → rap ρ c v q = ρ q := by
  have hb := ra2_b (v := v) hc hP hv
  have hA2 : Ai (ra2 ρ c v) := hA.cg fun q h0 h1 => ra2_o hP hc (by omega) (by omega)
  have hm := hP.1
  unfold rap
  by_cases hd : raD ρ c v
  · rw [if_pos hd]
    have b0 := hb 0 (by omega) (by omega)
    rw [show 3411 + 258 * c + 0 = 3411 + 258 * c by omega] at b0
    have b1 := hb 1 (by omega) (by omega)
    have b2 := hb 2 (by omega) (by omega)
    obtain ⟨x1, x2⟩ := rdv_s hc b0.1 b1 b2 hA2
    refine ⟨⟨by omega, fun k h0 h1 => by omega, by omega⟩, x2, fun q h0 h1 h2 => ?_⟩
    rw [rdv_o hc b0.1 b2 hA2.2.1 h0 h2, ra2_o hP hc h0 h1]
  · rw [if_neg hd]
    refine ⟨⟨?_, ?_, ?_⟩, hA2, fun q h0 h1 _ => ra2_o hP hc h0 h1⟩
    · rw [ra2_m]
      by_cases h3 : 3 ≤ ρ (3407 + c) + 1
      · have b2 := hb 2 (by omega) (by omega)
        have hn : ¬ ρ (3407 + c) + 1 = 3 + ra2 ρ c v (3411 + 258 * c + 2) := fun e => hd ⟨h3, e⟩
        by_cases h4 : ρ (3407 + c) = 2
        · omega
        · have e2 : ra2 ρ c v (3411 + 258 * c + 2) = ρ (3411 + 258 * c + 2) := by unfold ra2; rw [up_n (by omega), up_n (by omega)]
          have := hP.2.2
          omega
      · omega
    · rw [ra2_m]; exact hb
    · rw [ra2_m]
      by_cases h3 : 3 ≤ ρ (3407 + c) + 1
      · right
        have b2 := hb 2 (by omega) (by omega)
        have hn : ¬ ρ (3407 + c) + 1 = 3 + ra2 ρ c v (3411 + 258 * c + 2) := fun e => hd ⟨h3, e⟩
        by_cases h4 : ρ (3407 + c) = 2
        · omega
        · have e2 : ra2 ρ c v (3411 + 258 * c + 2) = ρ (3411 + 258 * c + 2) := by unfold ra2; rw [up_n (by omega), up_n (by omega)]
          have := hP.2.2
          omega
      · left; omega

set_option maxRecDepth 100000 in
set_option maxHeartbeats 4000000 in
theorem r_appends (l : Launch) (M0 : ME) (r : Nat) (ρ π : Int → Int) (sv rf hs : Int) (c : Int) (hc : 0 ≤ c ∧ c ≤ 3) (v : Int) (hP : Pi ρ c) (hA : Ai ρ) (hv : 0 ≤ v ∧ v ≤ 255) : CF l yX11_appends cX11_appends 5 (some .boolean) (rmN 3) [.ref r, .int (iI c), .int (iI v)] (rM M0 r ρ π sv rf hs) (some (.int (iI (rav ρ c v)))) (rM M0 r (rap ρ c v) π sv rf hs) := by
  have hm := hP.1
  refine CF.of (L0 := [some _, some _, some _, none, none]) (by decide +kernel) rfl rfl (Nat.le_of_ble_eq_true rfl) rfl (fun G A Q sz hQ => ?_)
  refine V_sipush (v := iI (3411)) dX11_appends_0 (by decide +kernel) ?_
  refine V_sipush (v := iI (258)) dX11_appends_3 (by decide +kernel) ?_
  refine V_iload_n dX11_appends_6 rfl ?_
  refine I_imul dX11_appends_7 ?_
  refine I_iadd dX11_appends_8 ?_
  refine V_istore_n (L' := [some _, some _, some _, some _, none]) dX11_appends_9 rfl (by decide) rfl ?_
  refine V_aload_n dX11_appends_10 rfl ?_
  refine V_getf fX11_7 dX11_appends_11 rM_0 rfl ?_
  refine V_iload_n dX11_appends_14 rfl ?_
  refine V_aload_n dX11_appends_15 rfl ?_
  refine V_getf fX11_7 dX11_appends_16 rM_0 rfl ?_
  refine V_sipush (v := iI (3407)) dX11_appends_19 (by decide +kernel) ?_
  refine V_iload_n dX11_appends_22 rfl ?_
  refine I_iadd dX11_appends_23 ?_
  refine R_iald dX11_appends_24 ⟨by omega, by omega⟩ ?_
  try simp (disch := omega) only [up_s, up_n, shl_o]
  refine I_iadd dX11_appends_25 ?_
  refine V_iload_n dX11_appends_26 rfl ?_
  refine R_iast dX11_appends_27 ⟨by omega, by omega⟩ ?_
  refine V_aload_n dX11_appends_28 rfl ?_
  refine V_getf fX11_7 dX11_appends_29 rM_0 rfl ?_
  refine V_sipush (v := iI (3407)) dX11_appends_32 (by decide +kernel) ?_
  refine V_iload_n dX11_appends_35 rfl ?_
  refine I_iadd dX11_appends_36 ?_
  refine V_dup2 dX11_appends_37 rfl rfl ?_
  refine R_iald dX11_appends_38 ⟨by omega, by omega⟩ ?_
  try simp (disch := omega) only [up_s, up_n, shl_o]
  refine V_iconst (v := iI (1)) dX11_appends_39 rfl ?_
  refine I_iadd dX11_appends_40 ?_
  refine R_iast dX11_appends_41 ⟨by omega, by omega⟩ ?_
  obtain ⟨σ, hσ⟩ : ∃ σ, σ = ra2 ρ c v := ⟨_, rfl⟩
  refine V_eqM (M' := rM M0 r σ π sv rf hs) (by rw [hσ]; rfl) ?_
  have hσm : σ (3407 + c) = ρ (3407 + c) + 1 := by rw [hσ]; exact ra2_m
  have hσb := ra2_b (v := v) hc hP hv
  have hσA : Ai σ := by rw [hσ]; exact hA.cg fun q h0 h1 => ra2_o hP hc (by omega) (by omega)
  rw [← hσ] at hσb
  refine V_aload_n dX11_appends_42 rfl ?_
  refine V_getf fX11_7 dX11_appends_43 rM_0 rfl ?_
  refine V_sipush (v := iI (3407)) dX11_appends_46 (by decide +kernel) ?_
  refine V_iload_n dX11_appends_49 rfl ?_
  refine I_iadd dX11_appends_50 ?_
  refine R_iald dX11_appends_51 ⟨by omega, by omega⟩ ?_
  rw [hσm]
  refine V_istore (L' := [some _, some _, some _, some _, some _]) dX11_appends_52 (by decide) rfl ?_
  refine V_iload dX11_appends_54 rfl ?_
  refine V_iconst (v := iI (3)) dX11_appends_56 rfl ?_
  refine I_icmp_lt (tgt := 87) dX11_appends_57 (by decide) ⟨by omega, by omega⟩ ⟨by omega, by omega⟩ (fun h57 => ?_) (fun h57 => ?_)
  · refine V_iconst (v := iI (0)) dX11_appends_87 rfl ?_
    exact V_zret dX11_appends_88 rfl (by first | rfl | decide) (Nat.le_of_ble_eq_true rfl) (Nat.le_of_ble_eq_true rfl) (hQ _ _ _ (iv (by unfold rav raD; rw [← hσ]; first | exact if1 (by omega) | exact if0 (by omega))) (by unfold rap raD; rw [← hσ]; first | exact congrArg (fun x => rM M0 r x π sv rf hs) (if_neg (by omega)).symm | exact congrArg (fun x => rM M0 r x π sv rf hs) (if_pos (by omega)).symm))
  · refine V_iload dX11_appends_60 rfl ?_
    refine V_iconst (v := iI (3)) dX11_appends_62 rfl ?_
    have b2 := hσb 2 (by omega) (by omega)
    refine V_aload_n dX11_appends_63 rfl ?_
    refine V_getf fX11_7 dX11_appends_64 rM_0 rfl ?_
    refine V_iload_n dX11_appends_67 rfl ?_
    refine V_iconst (v := iI (2)) dX11_appends_68 rfl ?_
    refine I_iadd dX11_appends_69 ?_
    refine R_iald dX11_appends_70 ⟨by omega, by omega⟩ ?_
    try simp (disch := omega) only [up_s, up_n, shl_o]
    refine I_iadd dX11_appends_71 ?_
    refine I_icmp_ne (tgt := 87) dX11_appends_72 (by decide) ⟨by omega, by omega⟩ ⟨by omega, by omega⟩ (fun h72 => ?_) (fun h72 => ?_)
    · refine V_iconst (v := iI (0)) dX11_appends_87 rfl ?_
      exact V_zret dX11_appends_88 rfl (by first | rfl | decide) (Nat.le_of_ble_eq_true rfl) (Nat.le_of_ble_eq_true rfl) (hQ _ _ _ (iv (by unfold rav raD; rw [← hσ]; first | exact if1 (by omega) | exact if0 (by omega))) (by unfold rap raD; rw [← hσ]; first | exact congrArg (fun x => rM M0 r x π sv rf hs) (if_neg (by omega)).symm | exact congrArg (fun x => rM M0 r x π sv rf hs) (if_pos (by omega)).symm))
    · have b0 := hσb 0 (by omega) (by omega)
      rw [show 3411 + 258 * c + 0 = 3411 + 258 * c by omega] at b0
      have b1 := hσb 1 (by omega) (by omega)
      refine V_aload_n dX11_appends_75 rfl ?_
      refine V_iload_n dX11_appends_76 rfl ?_
      refine V_cV (vs := [_]) (r_delivers l _ _ σ _ _ _ _ c hc b0 b1 b2 hσA.1 hσA.2.1) mX11_148 coX11_delivers dX11_appends_77 rM_0 rfl rfl rfl (by decide) (Nat.le_of_ble_eq_true rfl) (Nat.le_of_ble_eq_true rfl) (Nat.le_of_ble_eq_true rfl) (fun sz => ?_)
      obtain ⟨bd, hbd, ebd⟩ := ex_if (p := σ (3411 + 258 * c) < 15)
      rw [ebd]
      refine I_if_eq (tgt := 87) dX11_appends_80 (by decide) ⟨by omega, by omega⟩ (fun h80 => ?_) (fun h80 => ?_)
      · refine V_iconst (v := iI (0)) dX11_appends_87 rfl ?_
        exact V_zret dX11_appends_88 rfl (by first | rfl | decide) (Nat.le_of_ble_eq_true rfl) (Nat.le_of_ble_eq_true rfl) (hQ _ _ _ (iv (by unfold rav raD; rw [← hσ]; first | exact if1 (by omega) | exact if0 (by omega))) (by unfold rap raD; rw [← hσ]; first | exact congrArg (fun x => rM M0 r x π sv rf hs) (if_neg (by omega)).symm | exact congrArg (fun x => rM M0 r x π sv rf hs) (if_pos (by omega)).symm))
      · refine V_iconst (v := iI (1)) dX11_appends_83 rfl ?_
        refine V_goto (tgt := 88) dX11_appends_84 (by decide) ?_
        exact V_zret dX11_appends_88 rfl (by first | rfl | decide) (Nat.le_of_ble_eq_true rfl) (Nat.le_of_ble_eq_true rfl) (hQ _ _ _ (iv (by unfold rav raD; rw [← hσ]; first | exact if1 (by omega) | exact if0 (by omega))) (by unfold rap raD; rw [← hσ]; first | exact congrArg (fun x => rM M0 r x π sv rf hs) (if_neg (by omega)).symm | exact congrArg (fun x => rM M0 r x π sv rf hs) (if_pos (by omega)).symm))
