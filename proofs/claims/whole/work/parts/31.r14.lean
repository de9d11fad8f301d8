/-- counters of a good frame -/
def rgv (ρ : Int → Int) (fr p : Int) : Int := if ρ (3390 + p) = -1 then 1 else (ρ (fr + 4 + 2) - ρ (3390 + p) + 255) % 256
def rg1 (ρ : Int → Int) (fr p : Int) : Int → Int := up (up (rcn (rcn ρ 0 1) 2 (if ρ 3389 = -1 then 0 else (ρ (fr + 4) - ρ 3389 + 255) % 256)) 3389 (ρ (fr + 4))) (3390 + p) (ρ (fr + 4 + 2))
def rgp (ρ : Int → Int) (fr p : Int) : Int → Int := if p < 4 then up (up (rg1 ρ fr p) (3395 + p) (ρ (3395 + p) + 1)) (3399 + p) (ρ (3399 + p) + (if ρ (3390 + p) = -1 then 0 else rgv ρ fr p)) else rg1 ρ fr p
theorem rg1_o {ρ : Int → Int} {fr p q : Int} (h : q ≠ 3383 ∧ q ≠ 3385 ∧ q ≠ 3389 ∧ q ≠ 3390 + p) : rg1 ρ fr p q = ρ q := by
  unfold rg1
  rw [up_n (by omega), up_n (by omega), rcn_o (by omega), rcn_o (by omega)]
theorem rgp_o {ρ : Int → Int} {fr p q : Int} (h : q ≠ 3383 ∧ q ≠ 3385 ∧ q ≠ 3389 ∧ q ≠ 3390 + p ∧ (p < 4 → q ≠ 3395 + p ∧ q ≠ 3399 + p)) : rgp ρ fr p q = ρ q := by
  unfold rgp
  split
  · rename_i hp
    have := h.2.2.2.2 hp
    rw [up_n (by omega), up_n (by omega), rg1_o (by omega)]
  · exact rg1_o (by omega)

set_option maxRecDepth 100000 in
set_option maxHeartbeats 4000000 in
theorem r_gapOf (l : Launch) (M0 : ME) (r : Nat) (ρ π : Int → Int) (sv rf hs : Int) (fr : Int) (hfr : 383 ≤ fr ∧ fr ≤ 3333) (p : Int) (hp : 0 ≤ p ∧ p ≤ 4) (hm : 0 ≤ ρ (fr + 4) ∧ ρ (fr + 4) ≤ 255) (hk : 0 ≤ ρ (fr + 4 + 2) ∧ ρ (fr + 4 + 2) ≤ 255) (hlm : -1 ≤ ρ 3389 ∧ ρ 3389 ≤ 255) (hlc : -1 ≤ ρ (3390 + p) ∧ ρ (3390 + p) ≤ 255) : CF l yX11_gapOf cX11_gapOf 7 (some .int) (rmN 2) [.ref r, .int (iI fr), .int (iI p)] (rM M0 r ρ π sv rf hs) (some (.int (iI (rgv ρ fr p)))) (rM M0 r (rgp ρ fr p) π sv rf hs) := by
  refine CF.of (L0 := [some _, some _, some _, none, none, none, none]) (by decide +kernel) rfl rfl (Nat.le_of_ble_eq_true rfl) rfl (fun G A Q sz hQ => ?_)
  refine V_aload_n dX11_gapOf_0 rfl ?_
  refine V_getf fX11_7 dX11_gapOf_1 rM_0 rfl ?_
  refine V_iload_n dX11_gapOf_4 rfl ?_
  refine V_iconst (v := iI (4)) dX11_gapOf_5 rfl ?_
  refine I_iadd dX11_gapOf_6 ?_
  refine R_iald dX11_gapOf_7 ⟨by omega, by omega⟩ ?_
  try simp (disch := omega) only [up_s, up_n, shl_o, rcn_o]
  refine V_istore_n (L' := [some _, some _, some _, some _, none, none, none]) dX11_gapOf_8 rfl (by decide) rfl ?_
  refine V_aload_n dX11_gapOf_9 rfl ?_
  refine V_getf fX11_7 dX11_gapOf_10 rM_0 rfl ?_
  refine V_iload_n dX11_gapOf_13 rfl ?_
  refine V_iconst (v := iI (4)) dX11_gapOf_14 rfl ?_
  refine I_iadd dX11_gapOf_15 ?_
  refine V_iconst (v := iI (2)) dX11_gapOf_16 rfl ?_
  refine I_iadd dX11_gapOf_17 ?_
  refine R_iald dX11_gapOf_18 ⟨by omega, by omega⟩ ?_
  try simp (disch := omega) only [up_s, up_n, shl_o, rcn_o]
  refine V_istore (L' := [some _, some _, some _, some _, some _, none, none]) dX11_gapOf_19 (by decide) rfl ?_
  refine V_aload_n dX11_gapOf_21 rfl ?_
  refine V_iconst (v := iI (0)) dX11_gapOf_22 rfl ?_
  refine V_iconst (v := iI (1)) dX11_gapOf_23 rfl ?_
  refine V_cV0 (vs := [_, _]) (r_counts l _ _ ρ _ _ _ _ 0 1 (by omega)) mX11_144 coX11_counts dX11_gapOf_24 rM_0 rfl rfl rfl (by decide) (Nat.le_of_ble_eq_true rfl) (Nat.le_of_ble_eq_true rfl) (Nat.le_of_ble_eq_true rfl) (fun sz => ?_)
  refine V_aload_n dX11_gapOf_27 rfl ?_
  refine V_iconst (v := iI (2)) dX11_gapOf_28 rfl ?_
  refine V_tern (J := 63) (v := .int (iI (if ρ 3389 = -1 then 0 else (ρ (fr + 4) - ρ 3389 + 255) % 256))) (fun sz => ?_) (fun j63 => ?_)
  · refine V_cV0 (vs := [_, _]) (r_counts l _ _ (rcn ρ 0 1) _ _ _ _ 2 (if ρ 3389 = -1 then 0 else (ρ (fr + 4) - ρ 3389 + 255) % 256) (by omega)) mX11_144 coX11_counts dX11_gapOf_63 rM_0 rfl rfl rfl (by decide) (Nat.le_of_ble_eq_true rfl) (Nat.le_of_ble_eq_true rfl) (Nat.le_of_ble_eq_true rfl) (fun sz => ?_)
    refine V_aload_n dX11_gapOf_66 rfl ?_
    refine V_getf fX11_7 dX11_gapOf_67 rM_0 rfl ?_
    refine V_sipush (v := iI (3389)) dX11_gapOf_70 (by decide +kernel) ?_
    refine V_iload_n dX11_gapOf_73 rfl ?_
    refine R_iast dX11_gapOf_74 ⟨by omega, by omega⟩ ?_
    refine V_tern (J := 94) (v := .int (iI (if ρ (3390 + p) = -1 then 1 else 0))) (fun sz => ?_) (fun j94 => ?_)
    · obtain ⟨bf, hbf, ebf⟩ := ex_if (p := ρ (3390 + p) = -1)
      rw [ebf]
      refine V_istore (L' := [some _, some _, some _, some _, some _, some _, none]) dX11_gapOf_94 (by decide) rfl ?_
      refine V_tern (J := 126) (v := .int (iI (rgv ρ fr p))) (fun sz => ?_) (fun j126 => ?_)
      · have hgb : 0 ≤ rgv ρ fr p ∧ rgv ρ fr p ≤ 255 := by unfold rgv; split <;> omega
        refine V_istore (L' := [some _, some _, some _, some _, some _, some _, some _]) dX11_gapOf_126 (by decide) rfl ?_
        refine V_aload_n dX11_gapOf_128 rfl ?_
        refine V_getf fX11_7 dX11_gapOf_129 rM_0 rfl ?_
        refine V_sipush (v := iI (3390)) dX11_gapOf_132 (by decide +kernel) ?_
        refine V_iload_n dX11_gapOf_135 rfl ?_
        refine I_iadd dX11_gapOf_136 ?_
        refine V_iload dX11_gapOf_137 rfl ?_
        refine R_iast dX11_gapOf_139 ⟨by omega, by omega⟩ ?_
        refine V_iload_n dX11_gapOf_140 rfl ?_
        refine V_iconst (v := iI (4)) dX11_gapOf_141 rfl ?_
        refine I_icmp_ge (tgt := 183) dX11_gapOf_142 (by decide) ⟨by omega, by omega⟩ ⟨by omega, by omega⟩ (fun h142 => ?_) (fun h142 => ?_)
        · refine V_iload dX11_gapOf_183 rfl ?_
          exact V_ireti dX11_gapOf_185 rfl (Nat.le_of_ble_eq_true rfl) (Nat.le_of_ble_eq_true rfl) (hQ _ _ _ rfl (by unfold rgp rg1; first | exact congrArg (fun x => rM M0 r x π sv rf hs) (if_neg (by omega)).symm | exact congrArg (fun x => rM M0 r x π sv rf hs) (if_pos (by omega)).symm))
        · refine V_aload_n dX11_gapOf_145 rfl ?_
          refine V_getf fX11_7 dX11_gapOf_146 rM_0 rfl ?_
          refine V_sipush (v := iI (3395)) dX11_gapOf_149 (by decide +kernel) ?_
          refine V_iload_n dX11_gapOf_152 rfl ?_
          refine I_iadd dX11_gapOf_153 ?_
          refine V_dup2 dX11_gapOf_154 rfl rfl ?_
          refine R_iald dX11_gapOf_155 ⟨by omega, by omega⟩ ?_
          try simp (disch := omega) only [up_s, up_n, shl_o, rcn_o]
          refine V_iconst (v := iI (1)) dX11_gapOf_156 rfl ?_
          refine I_iadd dX11_gapOf_157 ?_
          refine R_iast dX11_gapOf_158 ⟨by omega, by omega⟩ ?_
          refine V_aload_n dX11_gapOf_159 rfl ?_
          refine V_getf fX11_7 dX11_gapOf_160 rM_0 rfl ?_
          refine V_sipush (v := iI (3399)) dX11_gapOf_163 (by decide +kernel) ?_
          refine V_iload_n dX11_gapOf_166 rfl ?_
          refine I_iadd dX11_gapOf_167 ?_
          refine V_dup2 dX11_gapOf_168 rfl rfl ?_
          refine R_iald dX11_gapOf_169 ⟨by omega, by omega⟩ ?_
          try simp (disch := omega) only [up_s, up_n, shl_o, rcn_o]
          refine V_tern (J := 181) (v := .int (iI (if ρ (3390 + p) = -1 then 0 else rgv ρ fr p))) (fun sz => ?_) (fun j181 => ?_)
          · refine I_iadd dX11_gapOf_181 ?_
            refine R_iast dX11_gapOf_182 ⟨by omega, by omega⟩ ?_
            refine V_iload dX11_gapOf_183 rfl ?_
            exact V_ireti dX11_gapOf_185 rfl (Nat.le_of_ble_eq_true rfl) (Nat.le_of_ble_eq_true rfl) (hQ _ _ _ rfl (by unfold rgp rg1; first | exact congrArg (fun x => rM M0 r x π sv rf hs) (if_neg (by omega)).symm | exact congrArg (fun x => rM M0 r x π sv rf hs) (if_pos (by omega)).symm))
          · refine V_iload dX11_gapOf_170 rfl ?_
            refine I_if_eq (tgt := 179) dX11_gapOf_172 (by decide) ⟨by omega, by omega⟩ (fun h172 => ?_) (fun h172 => ?_)
            · refine V_iload dX11_gapOf_179 rfl ?_
              exact V_top (vi (by first | rw [if_pos (by omega)] | rw [if_neg (by omega)])) (j181 _)
            · refine V_iconst (v := iI (0)) dX11_gapOf_175 rfl ?_
              refine V_goto (tgt := 181) dX11_gapOf_176 (by decide) ?_
              exact V_top (vi (by first | rw [if_pos (by omega)] | rw [if_neg (by omega)])) (j181 _)
      · refine V_iload dX11_gapOf_96 rfl ?_
        refine I_if_eq (tgt := 105) dX11_gapOf_98 (by decide) ⟨by omega, by omega⟩ (fun h98 => ?_) (fun h98 => ?_)
        · refine V_iload dX11_gapOf_105 rfl ?_
          refine V_aload_n dX11_gapOf_107 rfl ?_
          refine V_getf fX11_7 dX11_gapOf_108 rM_0 rfl ?_
          refine V_sipush (v := iI (3390)) dX11_gapOf_111 (by decide +kernel) ?_
          refine V_iload_n dX11_gapOf_114 rfl ?_
          refine I_iadd dX11_gapOf_115 ?_
          refine R_iald dX11_gapOf_116 ⟨by omega, by omega⟩ ?_
          try simp (disch := omega) only [up_s, up_n, shl_o, rcn_o]
          refine I_isub dX11_gapOf_117 ?_
          refine V_sipush (v := iI (255)) dX11_gapOf_118 (by decide +kernel) ?_
          refine I_iadd dX11_gapOf_121 ?_
          refine V_sipush (v := iI (256)) dX11_gapOf_122 (by decide +kernel) ?_
          refine I_irem dX11_gapOf_125 (by omega) (by omega) (by omega) (by omega) ?_
          exact V_top (vi (by unfold rgv; first | rw [if_pos (by omega)] | rw [if_neg (by omega)])) (j126 _)
        · refine V_iconst (v := iI (1)) dX11_gapOf_101 rfl ?_
          refine V_goto (tgt := 126) dX11_gapOf_102 (by decide) ?_
          exact V_top (vi (by unfold rgv; first | rw [if_pos (by omega)] | rw [if_neg (by omega)])) (j126 _)
    · refine V_aload_n dX11_gapOf_75 rfl ?_
      refine V_getf fX11_7 dX11_gapOf_76 rM_0 rfl ?_
      refine V_sipush (v := iI (3390)) dX11_gapOf_79 (by decide +kernel) ?_
      refine V_iload_n dX11_gapOf_82 rfl ?_
      refine I_iadd dX11_gapOf_83 ?_
      refine R_iald dX11_gapOf_84 ⟨by omega, by omega⟩ ?_
      try simp (disch := omega) only [up_s, up_n, shl_o, rcn_o]
      refine V_iconst (v := iI (-1)) dX11_gapOf_85 rfl ?_
      refine I_icmp_ne (tgt := 93) dX11_gapOf_86 (by decide) ⟨by omega, by omega⟩ ⟨by omega, by omega⟩ (fun h86 => ?_) (fun h86 => ?_)
      · refine V_iconst (v := iI (0)) dX11_gapOf_93 rfl ?_
        exact V_top (vi (by first | exact if1 (by omega) | exact if0 (by omega))) (j94 _)
      · refine V_iconst (v := iI (1)) dX11_gapOf_89 rfl ?_
        refine V_goto (tgt := 94) dX11_gapOf_90 (by decide) ?_
        exact V_top (vi (by first | exact if1 (by omega) | exact if0 (by omega))) (j94 _)
  · refine V_aload_n dX11_gapOf_29 rfl ?_
    refine V_getf fX11_7 dX11_gapOf_30 rM_0 rfl ?_
    refine V_sipush (v := iI (3389)) dX11_gapOf_33 (by decide +kernel) ?_
    refine R_iald dX11_gapOf_36 ⟨by omega, by omega⟩ ?_
    try simp (disch := omega) only [up_s, up_n, shl_o, rcn_o]
    refine V_iconst (v := iI (-1)) dX11_gapOf_37 rfl ?_
    refine I_icmp_ne (tgt := 45) dX11_gapOf_38 (by decide) ⟨by omega, by omega⟩ ⟨by omega, by omega⟩ (fun h38 => ?_) (fun h38 => ?_)
    · refine V_iload_n dX11_gapOf_45 rfl ?_
      refine V_aload_n dX11_gapOf_46 rfl ?_
      refine V_getf fX11_7 dX11_gapOf_47 rM_0 rfl ?_
      refine V_sipush (v := iI (3389)) dX11_gapOf_50 (by decide +kernel) ?_
      refine R_iald dX11_gapOf_53 ⟨by omega, by omega⟩ ?_
      try simp (disch := omega) only [up_s, up_n, shl_o, rcn_o]
      refine I_isub dX11_gapOf_54 ?_
      refine V_sipush (v := iI (255)) dX11_gapOf_55 (by decide +kernel) ?_
      refine I_iadd dX11_gapOf_58 ?_
      refine V_sipush (v := iI (256)) dX11_gapOf_59 (by decide +kernel) ?_
      refine I_irem dX11_gapOf_62 (by omega) (by omega) (by omega) (by omega) ?_
      exact V_top (vi (by first | rw [if_pos (by omega)] | rw [if_neg (by omega)])) (j63 _)
    · refine V_iconst (v := iI (0)) dX11_gapOf_41 rfl ?_
      refine V_goto (tgt := 63) dX11_gapOf_42 (by decide) ?_
      exact V_top (vi (by first | rw [if_pos (by omega)] | rw [if_neg (by omega)])) (j63 _)

/-- a good frame's data -/
def rtp (ρ : Int → Int) (fr c : Int) : Int → Int := if ρ (3403 + c) = 0 then up ρ (3403 + c) (if ρ (fr + 4 + 3) = 255 then 0 else 1) else ρ
def rtb (ρ : Int → Int) (fr c : Int) : Int := if ρ (3403 + c) = 0 then (if ρ (fr + 4 + 3) < ρ fr then ρ (fr + 4 + 3) else ρ fr) else 0
def rtN (ρ : Int → Int) (fr c b : Int) : Nat → Int → Int
  | 0 => ρ
  | n + 1 => rap (rtN ρ fr c b n) c (rtN ρ fr c b n (fr + 4 + 4 + (b + n)))
def rtC (ρ : Int → Int) (fr c b : Int) : Nat → Int
  | 0 => 0
  | n + 1 => rtC ρ fr c b n + rav (rtN ρ fr c b n) c (rtN ρ fr c b n (fr + 4 + 4 + (b + n)))
theorem rtN_s {ρ : Int → Int} {fr c b k : Int} (h : b ≤ k) : rap (rtN ρ fr c b (k - b).toNat) c (rtN ρ fr c b (k - b).toNat (fr + 4 + 4 + k)) = rtN ρ fr c b (k + 1 - b).toNat := by
  rw [show (k + 1 - b).toNat = (k - b).toNat + 1 by omega]
  show _ = rap (rtN ρ fr c b (k - b).toNat) c (rtN ρ fr c b (k - b).toNat (fr + 4 + 4 + (b + ((k - b).toNat : Int))))
  rw [Int.toNat_of_nonneg (by omega), show b + (k - b) = k by omega]
theorem rtC_s {ρ : Int → Int} {fr c b k : Int} (h : b ≤ k) : rtC ρ fr c b (k + 1 - b).toNat = rtC ρ fr c b (k - b).toNat + rav (rtN ρ fr c b (k - b).toNat) c (rtN ρ fr c b (k - b).toNat (fr + 4 + 4 + k)) := by
  rw [show (k + 1 - b).toNat = (k - b).toNat + 1 by omega]
  show rtC ρ fr c b (k - b).toNat + rav (rtN ρ fr c b (k - b).toNat) c (rtN ρ fr c b (k - b).toNat (fr + 4 + 4 + (b + ((k - b).toNat : Int)))) = _
  rw [Int.toNat_of_nonneg (by omega), show b + (k - b) = k by omega]
/-- bytes of a frame's row -/
def Fb (ρ : Int → Int) (fr : Int) : Prop := (8 ≤ ρ fr ∧ ρ fr ≤ 40) ∧ ∀ k, 0 ≤ k → k < ρ fr + 6 → 0 ≤ ρ (fr + 4 + k) ∧ ρ (fr + 4 + k) ≤ 255
theorem rtN_i {ρ : Int → Int} {fr c b : Int} (hc : 0 ≤ c ∧ c ≤ 3) (hfr : 383 ≤ fr ∧ fr ≤ 3333) (hF : Fb ρ fr) (hb : 0 ≤ b) (hP : Pi ρ c) (hA : Ai ρ) : ∀ n : Nat, b + n ≤ ρ fr → Pi (rtN ρ fr c b n) c ∧ Ai (rtN ρ fr c b n) ∧ ∀ q, q ≠ 3407 + c → (q < 3411 + 258 * c ∨ 3411 + 258 * c + 258 ≤ q) → (q < 4443 ∧ q ≠ 3386 ∧ q ≠ 3387) ∨ 12304 ≤ q → rtN ρ fr c b n q = ρ q
  | 0, _ => ⟨hP, hA, fun _ _ _ _ => rfl⟩
  | n + 1, h => by
    obtain ⟨a1, a2, a3⟩ := rtN_i hc hfr hF hb hP hA n (by omega)
    have hF1 := hF.1
    have e := a3 (fr + 4 + 4 + (b + n)) (by omega) (by omega) (by omega)
    have hv := hF.2 (4 + (b + n)) (by omega) (by omega)
    rw [show fr + 4 + (4 + (b + n)) = fr + 4 + 4 + (b + n) by omega] at hv
    obtain ⟨b1, b2, b3⟩ := rap_s (v := rtN ρ fr c b n (fr + 4 + 4 + (b + n))) hc a1 a2 (by rw [e]; exact hv)
    exact ⟨b1, b2, fun q x1 x2 x3 => (b3 q x1 x2 x3).trans (a3 q x1 x2 x3)⟩
theorem rav_b {ρ : Int → Int} {c v : Int} : rav ρ c v = 0 ∨ rav ρ c v = 1 := by unfold rav; split <;> omega
def rtd (ρ : Int → Int) (fr c : Int) : Int → Int := rtN (rtp ρ fr c) fr c (rtb ρ fr c) (ρ fr - rtb ρ fr c).toNat
def rtn (ρ : Int → Int) (fr c : Int) : Int := rtC (rtp ρ fr c) fr c (rtb ρ fr c) (ρ fr - rtb ρ fr c).toNat
theorem rtp_o {ρ : Int → Int} {fr c q : Int} (h : q ≠ 3403 + c) : rtp ρ fr c q = ρ q := by
  unfold rtp
  split
  · exact up_n h
  · rfl
theorem rtp_i {ρ : Int → Int} {fr c : Int} (hc : 0 ≤ c ∧ c ≤ 3) (hfr : 383 ≤ fr ∧ fr ≤ 3333) (hF : Fb ρ fr) (hP : Pi ρ c) (hA : Ai ρ) : Fb (rtp ρ fr c) fr ∧ Pi (rtp ρ fr c) c ∧ Ai (rtp ρ fr c) := by
  refine ⟨⟨by rw [rtp_o (by omega)]; exact hF.1, fun k h0 h1 => ?_⟩, ⟨by rw [rtp_o (by omega)]; exact hP.1, fun k h0 h1 => ?_, ?_⟩, hA.cg fun q h0 h1 => rtp_o (by omega)⟩
  · have := hF.1
    rw [rtp_o (by omega)] at h1
    rw [rtp_o (by omega)]; exact hF.2 k h0 h1
  · rw [rtp_o (by omega)] at h1
    rw [rtp_o (by omega)]; exact hP.2.1 k h0 h1
  · rw [rtp_o (by omega), rtp_o (by omega)]; exact hP.2.2
theorem rtb_b {ρ : Int → Int} {fr c : Int} (hF : Fb ρ fr) : 0 ≤ rtb ρ fr c ∧ rtb ρ fr c ≤ ρ fr := by
  have h1 := hF.1
  have h2 := hF.2 3 (by omega) (by omega)
  unfold rtb
  split
  · split <;> omega
  · omega

set_option maxRecDepth 100000 in
set_option maxHeartbeats 4000000 in
theorem r_takesData (l : Launch) (M0 : ME) (r : Nat) (ρ π : Int → Int) (sv rf hs : Int) (fr : Int) (hfr : 383 ≤ fr ∧ fr ≤ 3333) (c : Int) (hc : 0 ≤ c ∧ c ≤ 3) (hF : Fb ρ fr) (hP : Pi ρ c) (hA : Ai ρ) (hs0 : 0 ≤ ρ (3403 + c) ∧ ρ (3403 + c) ≤ 1) : CF l yX11_takesData cX11_takesData 7 (some .int) (rmN 4) [.ref r, .int (iI fr), .int (iI c)] (rM M0 r ρ π sv rf hs) (some (.int (iI (rtn ρ fr c)))) (rM M0 r (rtd ρ fr c) π sv rf hs) := by
  have hF1 := hF.1
  have hFp := hF.2 3 (by omega) (by omega)
  refine CF.of (L0 := [some _, some _, some _, none, none, none, none]) (by decide +kernel) rfl rfl (Nat.le_of_ble_eq_true rfl) rfl (fun G A Q sz hQ => ?_)
  refine V_aload_n dX11_takesData_0 rfl ?_
  refine V_getf fX11_7 dX11_takesData_1 rM_0 rfl ?_
  refine V_iload_n dX11_takesData_4 rfl ?_
  refine R_iald dX11_takesData_5 ⟨by omega, by omega⟩ ?_
  try simp (disch := omega) only [up_s, up_n, shl_o]
  refine V_istore_n (L' := [some _, some _, some _, some _, none, none, none]) dX11_takesData_6 rfl (by decide) rfl ?_
  refine V_iconst (v := iI (0)) dX11_takesData_7 rfl ?_
  refine V_istore (L' := [some _, some _, some _, some _, some _, none, none]) dX11_takesData_8 (by decide) rfl ?_
  refine V_join (J := 72) (M' := (rM M0 r (rtp ρ fr c) π sv rf hs)) (L' := [some (.ref r), some (.int (iI fr)), some (.int (iI c)), some (.int (iI (ρ fr))), some (.int (iI (rtb ρ fr c))), none, none]) (fun sz => ?_) (fun j72 => ?_)
  · obtain ⟨hF2, hP2, hA2⟩ := rtp_i hc hfr hF hP hA
    have hbb := rtb_b (c := c) hF
    obtain ⟨b, hb⟩ : ∃ b, b = rtb ρ fr c := ⟨_, rfl⟩
    obtain ⟨σ, hσ⟩ : ∃ σ, σ = rtp ρ fr c := ⟨_, rfl⟩
    have hσf : σ fr = ρ fr := by rw [hσ]; exact rtp_o (by omega)
    rw [← hσ] at hF2 hP2 hA2 ⊢
    rw [← hb] at hbb ⊢
    refine V_iconst (v := iI (0)) dX11_takesData_72 rfl ?_
    refine V_istore (L' := [some _, some _, some _, some _, some _, some _, none]) dX11_takesData_73 (by decide) rfl ?_
    refine V_iload dX11_takesData_75 rfl ?_
    refine V_istore (L' := [some _, some _, some _, some _, some _, some _, some _]) dX11_takesData_77 (by decide) rfl ?_
    have key79 : ∀ (d : Nat) (k : Int) (sz : Nat), b ≤ k ∧ k ≤ ρ fr → (ρ fr - k).toNat = d → V l G A (rmN 4) RX11 "takesData" cX11_takesData 7 (some .int) Q nX 0 0 (rM M0 r (rtN σ fr c b (k - b).toNat) π sv rf hs) sz 79 [some (.ref r), some (.int (iI fr)), some (.int (iI c)), some (.int (iI (ρ fr))), some (.int (iI b)), some (.int (iI (rtC σ fr c b (k - b).toNat))), some (.int (iI k))] [] := by
      intro d
      induction d using Nat.strongRecOn with
      | ind d ih79 =>
        intro k  sz hk hd79
        refine V_iload dX11_takesData_79 rfl ?_
        refine V_iload_n dX11_takesData_81 rfl ?_
        refine I_icmp_ge (tgt := 122) dX11_takesData_82 (by decide) ⟨by omega, by omega⟩ ⟨by omega, by omega⟩ (fun h82 => ?_) (fun h82 => ?_)
        · refine V_iload dX11_takesData_122 rfl ?_
          exact V_ireti dX11_takesData_124 rfl (Nat.le_of_ble_eq_true rfl) (Nat.le_of_ble_eq_true rfl) (hQ _ _ _ (iv (by unfold rtn; rw [show k = ρ fr by omega, ← hσ, ← hb])) (by unfold rtd; rw [show k = ρ fr by omega, ← hσ, ← hb]))
        · obtain ⟨i1, i2, i3⟩ := rtN_i hc hfr hF2 hbb.1 hP2 hA2 (k - b).toNat (by omega)
          obtain ⟨τ, hτ⟩ : ∃ τ, τ = rtN σ fr c b (k - b).toNat := ⟨_, rfl⟩
          rw [← hτ] at i1 i2 i3 ⊢
          have hvb := hF2.2 (4 + k) (by omega) (by omega)
          rw [show fr + 4 + (4 + k) = fr + 4 + 4 + k by omega] at hvb
          have hve := i3 (fr + 4 + 4 + k) (by omega) (by omega) (by omega)
          have hrv := rav_b (ρ := τ) (c := c) (v := τ (fr + 4 + 4 + k))
          refine V_iload dX11_takesData_85 rfl ?_
          refine V_aload_n dX11_takesData_87 rfl ?_
          refine V_iload_n dX11_takesData_88 rfl ?_
          refine V_aload_n dX11_takesData_89 rfl ?_
          refine V_getf fX11_7 dX11_takesData_90 rM_0 rfl ?_
          refine V_iload_n dX11_takesData_93 rfl ?_
          refine V_iconst (v := iI (4)) dX11_takesData_94 rfl ?_
          refine I_iadd dX11_takesData_95 ?_
          refine V_iconst (v := iI (4)) dX11_takesData_96 rfl ?_
          refine I_iadd dX11_takesData_97 ?_
          refine V_iload dX11_takesData_98 rfl ?_
          refine I_iadd dX11_takesData_100 ?_
          refine R_iald dX11_takesData_101 ⟨by omega, by omega⟩ ?_
          try simp (disch := omega) only [up_s, up_n, shl_o]
          refine V_cV (vs := [_, _]) (r_appends l _ _ τ _ _ _ _ c hc (τ (fr + 4 + 4 + k)) i1 i2 (by rw [hve]; exact hvb)) mX11_151 coX11_appends dX11_takesData_102 rM_0 rfl rfl rfl (by decide) (Nat.le_of_ble_eq_true rfl) (Nat.le_of_ble_eq_true rfl) (Nat.le_of_ble_eq_true rfl) (fun sz => ?_)
          refine V_ternb (J := 113) (v := .int (iI (rav τ c (τ (fr + 4 + 4 + k))))) (fun sz => ?_) (fun j113 => ?_)
          · refine I_iadd dX11_takesData_113 ?_
            refine V_istore (L' := [some _, some _, some _, some _, some _, some _, some _]) dX11_takesData_114 (by decide) rfl ?_
            refine I_iinc (L' := [some _, some _, some _, some _, some _, some _, some _]) dX11_takesData_116 rfl (by decide) rfl ?_
            refine V_goto (tgt := 79) dX11_takesData_119 (by decide) ?_
            exact V_eqM (by rw [← rtN_s hk.1, ← hτ]) (V_wk' (ih79 _ (by omega) (k + 1) sz ⟨by omega, by omega⟩ rfl) ⟨rfl, rfl, rfl, rfl, rfl, (vi (by rw [rtC_s hk.1, ← hτ])), rfl, trivial⟩)
          · refine I_if_eq (tgt := 112) dX11_takesData_105 (by decide) ⟨by omega, by omega⟩ (fun h105 => ?_) (fun h105 => ?_)
            · refine V_iconst (v := iI (0)) dX11_takesData_112 rfl ?_
              exact V_top (vi (by omega)) (j113 _)
            · refine V_iconst (v := iI (1)) dX11_takesData_108 rfl ?_
              refine V_goto (tgt := 113) dX11_takesData_109 (by decide) ?_
              exact V_top (vi (by omega)) (j113 _)
    exact V_eqM (by rw [show (b - b).toNat = 0 by omega]; rfl) (V_wk' (key79 _ b sz ⟨by omega, by omega⟩ rfl) ⟨rfl, rfl, rfl, rfl, rfl, (vi (by rw [show (b - b).toNat = 0 by omega]; rfl)), rfl, trivial⟩)
  · refine V_aload_n dX11_takesData_10 rfl ?_
    refine V_getf fX11_7 dX11_takesData_11 rM_0 rfl ?_
    refine V_sipush (v := iI (3403)) dX11_takesData_14 (by decide +kernel) ?_
    refine V_iload_n dX11_takesData_17 rfl ?_
    refine I_iadd dX11_takesData_18 ?_
    refine R_iald dX11_takesData_19 ⟨by omega, by omega⟩ ?_
    try simp (disch := omega) only [up_s, up_n, shl_o]
    refine I_if_ne (tgt := 72) dX11_takesData_20 (by decide) ⟨by omega, by omega⟩ (fun h20 => ?_) (fun h20 => ?_)
    · exact V_eqM (by unfold rtp; first | exact congrArg (fun x => rM M0 r x π sv rf hs) (if_neg (by omega)).symm | exact congrArg (fun x => rM M0 r x π sv rf hs) (if_pos (by omega)).symm) (V_wk' (j72 _) ⟨rfl, rfl, rfl, rfl, (vi (by unfold rtb; first | (rw [if_pos (by omega)]; done) | (rw [if_neg (by omega)]; done))), trivial⟩)
    · refine V_aload_n dX11_takesData_23 rfl ?_
      refine V_getf fX11_7 dX11_takesData_24 rM_0 rfl ?_
      refine V_iload_n dX11_takesData_27 rfl ?_
      refine V_iconst (v := iI (4)) dX11_takesData_28 rfl ?_
      refine I_iadd dX11_takesData_29 ?_
      refine V_iconst (v := iI (3)) dX11_takesData_30 rfl ?_
      refine I_iadd dX11_takesData_31 ?_
      refine R_iald dX11_takesData_32 ⟨by omega, by omega⟩ ?_
      try simp (disch := omega) only [up_s, up_n, shl_o]
      refine V_istore (L' := [some _, some _, some _, some _, some _, some _, none]) dX11_takesData_33 (by decide) rfl ?_
      refine V_tern (J := 47) (v := .int (iI (if ρ (fr + 4 + 3) < ρ fr then ρ (fr + 4 + 3) else ρ fr))) (fun sz => ?_) (fun j47 => ?_)
      · refine V_istore (L' := [some _, some _, some _, some _, some _, some _, none]) dX11_takesData_47 (by decide) rfl ?_
        refine V_aload_n dX11_takesData_49 rfl ?_
        refine V_getf fX11_7 dX11_takesData_50 rM_0 rfl ?_
        refine V_sipush (v := iI (3403)) dX11_takesData_53 (by decide +kernel) ?_
        refine V_iload_n dX11_takesData_56 rfl ?_
        refine I_iadd dX11_takesData_57 ?_
        refine V_tern (J := 71) (v := .int (iI (if ρ (fr + 4 + 3) = 255 then 0 else 1))) (fun sz => ?_) (fun j71 => ?_)
        · refine R_iast dX11_takesData_71 ⟨by omega, by omega⟩ ?_
          exact V_eqM (by unfold rtp; first | exact congrArg (fun x => rM M0 r x π sv rf hs) (if_neg (by omega)).symm | exact congrArg (fun x => rM M0 r x π sv rf hs) (if_pos (by omega)).symm) (V_wk' (j72 _) ⟨rfl, rfl, rfl, rfl, (vi (by unfold rtb; first | (rw [if_pos (by omega)]; done) | (rw [if_neg (by omega)]; done))), trivial⟩)
        · refine V_iload dX11_takesData_58 rfl ?_
          refine V_sipush (v := iI (255)) dX11_takesData_60 (by decide +kernel) ?_
          refine I_icmp_ne (tgt := 70) dX11_takesData_63 (by decide) ⟨by omega, by omega⟩ ⟨by omega, by omega⟩ (fun h63 => ?_) (fun h63 => ?_)
          · refine V_iconst (v := iI (1)) dX11_takesData_70 rfl ?_
            exact V_top (vi (by first | rw [if_pos (by omega)] | rw [if_neg (by omega)])) (j71 _)
          · refine V_iconst (v := iI (0)) dX11_takesData_66 rfl ?_
            refine V_goto (tgt := 71) dX11_takesData_67 (by decide) ?_
            exact V_top (vi (by first | rw [if_pos (by omega)] | rw [if_neg (by omega)])) (j71 _)
      · refine V_iload dX11_takesData_35 rfl ?_
        refine V_iload_n dX11_takesData_37 rfl ?_
        refine I_icmp_ge (tgt := 46) dX11_takesData_38 (by decide) ⟨by omega, by omega⟩ ⟨by omega, by omega⟩ (fun h38 => ?_) (fun h38 => ?_)
        · refine V_iload_n dX11_takesData_46 rfl ?_
          exact V_top (vi (by first | rw [if_pos (by omega)] | rw [if_neg (by omega)])) (j47 _)
        · refine V_iload dX11_takesData_41 rfl ?_
          refine V_goto (tgt := 47) dX11_takesData_43 (by decide) ?_
          exact V_top (vi (by first | rw [if_pos (by omega)] | rw [if_neg (by omega)])) (j47 _)
