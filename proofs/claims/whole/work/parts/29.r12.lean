def rcn (ρ : Int → Int) (w m : Int) : Int → Int := up ρ (3383 + w) (ρ (3383 + w) + m)
/-- a time pair is noted -/
def rnp (ρ : Int → Int) : Int → Int := if ρ 12304 = 2 then up (up (up ρ 12305 (ρ 12307)) 12306 (ρ 12308)) 12304 (ρ 12304 - 1) else ρ
def rno (ρ : Int → Int) (x g : Int) : Int → Int := up (up (up (rnp ρ) (12305 + 2 * rnp ρ 12304) x) (12305 + 2 * rnp ρ 12304 + 1) g) 12304 (rnp ρ 12304 + 1)
/-- a packet is delivered: counts of its application; room in the list; its row; its data -/
def rdA (ρ : Int → Int) (c a : Int) : Int → Int := up (up (up (up (up ρ (3407 + c) 0) (4443 + 4 * a) (ρ (4443 + 4 * a) + 1)) (4443 + 4 * a + 1) (ρ (4443 + 4 * a + 1) + (if ρ (4443 + 4 * a + 3) = -1 then 0 else (ρ (3411 + 258 * c + 1) - ρ (4443 + 4 * a + 3) + 255) % 256))) (4443 + 4 * a + 2) (ρ (4443 + 4 * a + 2) + ρ (3411 + 258 * c + 2))) (4443 + 4 * a + 3) (ρ (3411 + 258 * c + 1))
def rdB (ρ : Int → Int) : Int → Int := if ρ 4503 = 30 then up (shl 260 ρ 4504 12044) 4503 (ρ 4503 - 1) else ρ
def rdC (ρ : Int → Int) (c a : Int) : Int → Int := up (up (up (up (up ρ (4504 + 260 * ρ 4503) c) (4504 + 260 * ρ 4503 + 1) a) (4504 + 260 * ρ 4503 + 2) (ρ (3411 + 258 * c + 1))) (4504 + 260 * ρ 4503 + 3) (ρ (3411 + 258 * c + 2))) (4504 + 260 * ρ 4503 + 4) 0
def rdlN (ρ : Int → Int) (fr to : Int) : Nat → Int → Int
  | 0 => ρ
  | n + 1 => up (up (rdlN ρ fr to n) (to + 5 + n) (rdlN ρ fr to n (fr + 3 + n))) (to + 4) (rdlN ρ fr to n (to + 4) + rdlN ρ fr to n (fr + 3 + n))
theorem rdlN_s {ρ : Int → Int} {fr to i : Int} (h : 0 ≤ i) : up (up (rdlN ρ fr to i.toNat) (to + 5 + i) (rdlN ρ fr to i.toNat (fr + 3 + i))) (to + 4) (rdlN ρ fr to i.toNat (to + 4) + rdlN ρ fr to i.toNat (fr + 3 + i)) = rdlN ρ fr to (i + 1).toNat := by
  rw [show (i + 1).toNat = i.toNat + 1 by omega]
  show _ = up (up (rdlN ρ fr to i.toNat) (to + 5 + (i.toNat : Int)) (rdlN ρ fr to i.toNat (fr + 3 + (i.toNat : Int)))) (to + 4) (rdlN ρ fr to i.toNat (to + 4) + rdlN ρ fr to i.toNat (fr + 3 + (i.toNat : Int)))
  rw [Int.toNat_of_nonneg h]
theorem rdlN_o {ρ : Int → Int} {fr to q : Int} : ∀ n : Nat, q ≠ to + 4 → (q < to + 5 ∨ to + 5 + n ≤ q) → rdlN ρ fr to n q = ρ q
  | 0, _, _ => rfl
  | n + 1, h1, h2 => by
    show up (up (rdlN ρ fr to n) (to + 5 + n) _) (to + 4) _ q = _
    rw [up_n h1, up_n (by omega)]
    exact rdlN_o n h1 (by omega)
/-- the world behind the row of the list -/
def rdD (ρ : Int → Int) (c a : Int) : Int → Int := rdlN (rdC ρ c a) (3411 + 258 * c) (4504 + 260 * ρ 4503) (ρ (3411 + 258 * c + 2)).toNat
def rdE (ρ : Int → Int) (c a : Int) : Int → Int := up (rdD ρ c a) 4503 (ρ 4503 + 1)
def rdv (ρ : Int → Int) (c : Int) : Int → Int := if ρ (3411 + 258 * c) < 15 then rdE (rdB (rdA ρ c (ρ (3411 + 258 * c)))) c (ρ (3411 + 258 * c)) else rcn (up ρ (3407 + c) 0) (if ρ (3411 + 258 * c) = 15 then 4 else 3) 1

set_option maxRecDepth 100000 in
set_option maxHeartbeats 4000000 in
theorem r_counts (l : Launch) (M0 : ME) (r : Nat) (ρ π : Int → Int) (sv rf hs : Int) (w m : Int) (hw : 0 ≤ w ∧ w ≤ 5) : CF l yX11_counts cX11_counts 3 none (rmN 1) [.ref r, .int (iI w), .int (iI m)] (rM M0 r ρ π sv rf hs) none (rM M0 r (rcn ρ w m) π sv rf hs) := by
  refine CF.of (L0 := [some _, some _, some _]) (by decide +kernel) rfl rfl (Nat.le_of_ble_eq_true rfl) rfl (fun G A Q sz hQ => ?_)
  refine V_aload_n dX11_counts_0 rfl ?_
  refine V_getf fX11_7 dX11_counts_1 rM_0 rfl ?_
  refine V_sipush (v := iI (3383)) dX11_counts_4 (by decide +kernel) ?_
  refine V_iload_n dX11_counts_7 rfl ?_
  refine I_iadd dX11_counts_8 ?_
  refine V_dup2 dX11_counts_9 rfl rfl ?_
  refine R_iald dX11_counts_10 ⟨by omega, by omega⟩ ?_
  refine V_iload_n dX11_counts_11 rfl ?_
  refine I_iadd dX11_counts_12 ?_
  refine R_iast dX11_counts_13 ⟨by omega, by omega⟩ ?_
  exact V_ret dX11_counts_14 rfl (Nat.le_of_ble_eq_true rfl) (Nat.le_of_ble_eq_true rfl) (hQ _ _ _ rfl rfl)

set_option maxRecDepth 100000 in
set_option maxHeartbeats 4000000 in
theorem r_notes (l : Launch) (M0 : ME) (r : Nat) (ρ π : Int → Int) (sv rf hs : Int) (x g : Int) (hT : 0 ≤ ρ 12304 ∧ ρ 12304 ≤ 2) : CF l yX11_notes cX11_notes 3 none (rmN 1) [.ref r, .int (iI x), .int (iI g)] (rM M0 r ρ π sv rf hs) none (rM M0 r (rno ρ x g) π sv rf hs) := by
  refine CF.of (L0 := [some _, some _, some _]) (by decide +kernel) rfl rfl (Nat.le_of_ble_eq_true rfl) rfl (fun G A Q sz hQ => ?_)
  refine V_join (J := 56) (M' := (rM M0 r (rnp ρ) π sv rf hs)) (L' := [some (.ref r), some (.int (iI x)), some (.int (iI g))]) (fun sz => ?_) (fun j56 => ?_)
  · obtain ⟨σ, hσ⟩ : ∃ σ, σ = rnp ρ := ⟨_, rfl⟩
    have hp : 0 ≤ σ 12304 ∧ σ 12304 ≤ 1 := by
      rw [hσ]; unfold rnp
      split
      · rw [up_s]; omega
      · omega
    rw [← hσ]
    refine V_aload_n dX11_notes_56 rfl ?_
    refine V_getf fX11_7 dX11_notes_57 rM_0 rfl ?_
    refine V_sipush (v := iI (12305)) dX11_notes_60 (by decide +kernel) ?_
    refine V_iconst (v := iI (2)) dX11_notes_63 rfl ?_
    refine V_aload_n dX11_notes_64 rfl ?_
    refine V_getf fX11_7 dX11_notes_65 rM_0 rfl ?_
    refine V_sipush (v := iI (12304)) dX11_notes_68 (by decide +kernel) ?_
    refine R_iald dX11_notes_71 ⟨by omega, by omega⟩ ?_
    try simp (disch := omega) only [up_s, up_n, shl_o]
    refine I_imul dX11_notes_72 ?_
    refine I_iadd dX11_notes_73 ?_
    refine V_iload_n dX11_notes_74 rfl ?_
    refine R_iast dX11_notes_75 ⟨by omega, by omega⟩ ?_
    refine V_aload_n dX11_notes_76 rfl ?_
    refine V_getf fX11_7 dX11_notes_77 rM_0 rfl ?_
    refine V_sipush (v := iI (12305)) dX11_notes_80 (by decide +kernel) ?_
    refine V_iconst (v := iI (2)) dX11_notes_83 rfl ?_
    refine V_aload_n dX11_notes_84 rfl ?_
    refine V_getf fX11_7 dX11_notes_85 rM_0 rfl ?_
    refine V_sipush (v := iI (12304)) dX11_notes_88 (by decide +kernel) ?_
    refine R_iald dX11_notes_91 ⟨by omega, by omega⟩ ?_
    try simp (disch := omega) only [up_s, up_n, shl_o]
    refine I_imul dX11_notes_92 ?_
    refine I_iadd dX11_notes_93 ?_
    refine V_iconst (v := iI (1)) dX11_notes_94 rfl ?_
    refine I_iadd dX11_notes_95 ?_
    refine V_iload_n dX11_notes_96 rfl ?_
    refine R_iast dX11_notes_97 ⟨by omega, by omega⟩ ?_
    refine V_aload_n dX11_notes_98 rfl ?_
    refine V_getf fX11_7 dX11_notes_99 rM_0 rfl ?_
    refine V_sipush (v := iI (12304)) dX11_notes_102 (by decide +kernel) ?_
    refine V_dup2 dX11_notes_105 rfl rfl ?_
    refine R_iald dX11_notes_106 ⟨by omega, by omega⟩ ?_
    try simp (disch := omega) only [up_s, up_n, shl_o]
    refine V_iconst (v := iI (1)) dX11_notes_107 rfl ?_
    refine I_iadd dX11_notes_108 ?_
    refine R_iast dX11_notes_109 ⟨by omega, by omega⟩ ?_
    exact V_ret dX11_notes_110 rfl (Nat.le_of_ble_eq_true rfl) (Nat.le_of_ble_eq_true rfl) (hQ _ _ _ rfl (by unfold rno; rw [← hσ]))
  · refine V_aload_n dX11_notes_0 rfl ?_
    refine V_getf fX11_7 dX11_notes_1 rM_0 rfl ?_
    refine V_sipush (v := iI (12304)) dX11_notes_4 (by decide +kernel) ?_
    refine R_iald dX11_notes_7 ⟨by omega, by omega⟩ ?_
    try simp (disch := omega) only [up_s, up_n, shl_o]
    refine V_iconst (v := iI (2)) dX11_notes_8 rfl ?_
    refine I_icmp_ne (tgt := 56) dX11_notes_9 (by decide) ⟨by omega, by omega⟩ ⟨by omega, by omega⟩ (fun h9 => ?_) (fun h9 => ?_)
    · exact V_eqM (by unfold rnp; first | exact congrArg (fun x => rM M0 r x π sv rf hs) (if_neg (by omega)).symm | exact congrArg (fun x => rM M0 r x π sv rf hs) (if_pos (by omega)).symm) (V_wk' (j56 _) ⟨rfl, rfl, rfl, trivial⟩)
    · refine V_aload_n dX11_notes_12 rfl ?_
      refine V_getf fX11_7 dX11_notes_13 rM_0 rfl ?_
      refine V_sipush (v := iI (12305)) dX11_notes_16 (by decide +kernel) ?_
      refine V_aload_n dX11_notes_19 rfl ?_
      refine V_getf fX11_7 dX11_notes_20 rM_0 rfl ?_
      refine V_sipush (v := iI (12307)) dX11_notes_23 (by decide +kernel) ?_
      refine R_iald dX11_notes_26 ⟨by omega, by omega⟩ ?_
      try simp (disch := omega) only [up_s, up_n, shl_o]
      refine R_iast dX11_notes_27 ⟨by omega, by omega⟩ ?_
      refine V_aload_n dX11_notes_28 rfl ?_
      refine V_getf fX11_7 dX11_notes_29 rM_0 rfl ?_
      refine V_sipush (v := iI (12306)) dX11_notes_32 (by decide +kernel) ?_
      refine V_aload_n dX11_notes_35 rfl ?_
      refine V_getf fX11_7 dX11_notes_36 rM_0 rfl ?_
      refine V_sipush (v := iI (12308)) dX11_notes_39 (by decide +kernel) ?_
      refine R_iald dX11_notes_42 ⟨by omega, by omega⟩ ?_
      try simp (disch := omega) only [up_s, up_n, shl_o]
      refine R_iast dX11_notes_43 ⟨by omega, by omega⟩ ?_
      refine V_aload_n dX11_notes_44 rfl ?_
      refine V_getf fX11_7 dX11_notes_45 rM_0 rfl ?_
      refine V_sipush (v := iI (12304)) dX11_notes_48 (by decide +kernel) ?_
      refine V_dup2 dX11_notes_51 rfl rfl ?_
      refine R_iald dX11_notes_52 ⟨by omega, by omega⟩ ?_
      try simp (disch := omega) only [up_s, up_n, shl_o]
      refine V_iconst (v := iI (1)) dX11_notes_53 rfl ?_
      refine I_isub dX11_notes_54 ?_
      refine R_iast dX11_notes_55 ⟨by omega, by omega⟩ ?_
      exact V_eqM (by unfold rnp; first | exact congrArg (fun x => rM M0 r x π sv rf hs) (if_neg (by omega)).symm | exact congrArg (fun x => rM M0 r x π sv rf hs) (if_pos (by omega)).symm) (V_wk' (j56 _) ⟨rfl, rfl, rfl, trivial⟩)

set_option maxRecDepth 100000 in
set_option maxHeartbeats 4000000 in
theorem r_delivers (l : Launch) (M0 : ME) (r : Nat) (ρ π : Int → Int) (sv rf hs : Int) (c : Int) (hc : 0 ≤ c ∧ c ≤ 3) (h0 : 0 ≤ ρ (3411 + 258 * c) ∧ ρ (3411 + 258 * c) ≤ 255) (h1 : 0 ≤ ρ (3411 + 258 * c + 1) ∧ ρ (3411 + 258 * c + 1) ≤ 255) (h2 : 0 ≤ ρ (3411 + 258 * c + 2) ∧ ρ (3411 + 258 * c + 2) ≤ 255) (hl : ∀ a, 0 ≤ a → a ≤ 14 → -1 ≤ ρ (4443 + 4 * a + 3) ∧ ρ (4443 + 4 * a + 3) ≤ 255) (hp : 0 ≤ ρ 4503 ∧ ρ 4503 ≤ 30) : CF l yX11_delivers cX11_delivers 7 (some .boolean) (rmN 2) [.ref r, .int (iI c)] (rM M0 r ρ π sv rf hs) (some (.int (iI (if ρ (3411 + 258 * c) < 15 then 1 else 0)))) (rM M0 r (rdv ρ c) π sv rf hs) := by
  refine CF.of (L0 := [some _, some _, none, none, none, none, none]) (by decide +kernel) rfl rfl (Nat.le_of_ble_eq_true rfl) rfl (fun G A Q sz hQ => ?_)
  refine V_sipush (v := iI (3411)) dX11_delivers_0 (by decide +kernel) ?_
  refine V_sipush (v := iI (258)) dX11_delivers_3 (by decide +kernel) ?_
  refine V_iload_n dX11_delivers_6 rfl ?_
  refine I_imul dX11_delivers_7 ?_
  refine I_iadd dX11_delivers_8 ?_
  refine V_istore_n (L' := [some _, some _, some _, none, none, none, none]) dX11_delivers_9 rfl (by decide) rfl ?_
  refine V_aload_n dX11_delivers_10 rfl ?_
  refine V_getf fX11_7 dX11_delivers_11 rM_0 rfl ?_
  refine V_sipush (v := iI (3407)) dX11_delivers_14 (by decide +kernel) ?_
  refine V_iload_n dX11_delivers_17 rfl ?_
  refine I_iadd dX11_delivers_18 ?_
  refine V_iconst (v := iI (0)) dX11_delivers_19 rfl ?_
  refine R_iast dX11_delivers_20 ⟨by omega, by omega⟩ ?_
  refine V_aload_n dX11_delivers_21 rfl ?_
  refine V_getf fX11_7 dX11_delivers_22 rM_0 rfl ?_
  refine V_iload_n dX11_delivers_25 rfl ?_
  refine R_iald dX11_delivers_26 ⟨by omega, by omega⟩ ?_
  try simp (disch := omega) only [up_s, up_n, shl_o]
  refine V_istore_n (L' := [some _, some _, some _, some _, none, none, none]) dX11_delivers_27 rfl (by decide) rfl ?_
  obtain ⟨a, ha⟩ : ∃ a, a = ρ (3411 + 258 * c) := ⟨_, rfl⟩
  rw [← ha] at h0 ⊢
  refine V_iload_n dX11_delivers_28 rfl ?_
  refine V_bipush (v := iI (15)) dX11_delivers_29 (by decide +kernel) ?_
  refine I_icmp_lt (tgt := 52) dX11_delivers_31 (by decide) ⟨by omega, by omega⟩ ⟨by omega, by omega⟩ (fun h31 => ?_) (fun h31 => ?_)
  · have hla := hl a (by omega) (by omega)
    refine V_sipush (v := iI (4443)) dX11_delivers_52 (by decide +kernel) ?_
    refine V_iconst (v := iI (4)) dX11_delivers_55 rfl ?_
    refine V_iload_n dX11_delivers_56 rfl ?_
    refine I_imul dX11_delivers_57 ?_
    refine I_iadd dX11_delivers_58 ?_
    refine V_istore (L' := [some _, some _, some _, some _, some _, none, none]) dX11_delivers_59 (by decide) rfl ?_
    refine V_aload_n dX11_delivers_61 rfl ?_
    refine V_getf fX11_7 dX11_delivers_62 rM_0 rfl ?_
    refine V_iload dX11_delivers_65 rfl ?_
    refine V_dup2 dX11_delivers_67 rfl rfl ?_
    refine R_iald dX11_delivers_68 ⟨by omega, by omega⟩ ?_
    try simp (disch := omega) only [up_s, up_n, shl_o]
    refine V_iconst (v := iI (1)) dX11_delivers_69 rfl ?_
    refine I_iadd dX11_delivers_70 ?_
    refine R_iast dX11_delivers_71 ⟨by omega, by omega⟩ ?_
    refine V_aload_n dX11_delivers_72 rfl ?_
    refine V_getf fX11_7 dX11_delivers_73 rM_0 rfl ?_
    refine V_iload dX11_delivers_76 rfl ?_
    refine V_iconst (v := iI (1)) dX11_delivers_78 rfl ?_
    refine I_iadd dX11_delivers_79 ?_
    refine V_dup2 dX11_delivers_80 rfl rfl ?_
    refine R_iald dX11_delivers_81 ⟨by omega, by omega⟩ ?_
    try simp (disch := omega) only [up_s, up_n, shl_o]
    refine V_tern (J := 125) (v := .int (iI (if ρ (4443 + 4 * a + 3) = -1 then 0 else (ρ (3411 + 258 * c + 1) - ρ (4443 + 4 * a + 3) + 255) % 256))) (fun sz => ?_) (fun j125 => ?_)
    · refine I_iadd dX11_delivers_125 ?_
      refine R_iast dX11_delivers_126 ⟨by omega, by omega⟩ ?_
      refine V_aload_n dX11_delivers_127 rfl ?_
      refine V_getf fX11_7 dX11_delivers_128 rM_0 rfl ?_
      refine V_iload dX11_delivers_131 rfl ?_
      refine V_iconst (v := iI (2)) dX11_delivers_133 rfl ?_
      refine I_iadd dX11_delivers_134 ?_
      refine V_dup2 dX11_delivers_135 rfl rfl ?_
      refine R_iald dX11_delivers_136 ⟨by omega, by omega⟩ ?_
      try simp (disch := omega) only [up_s, up_n, shl_o]
      refine V_aload_n dX11_delivers_137 rfl ?_
      refine V_getf fX11_7 dX11_delivers_138 rM_0 rfl ?_
      refine V_iload_n dX11_delivers_141 rfl ?_
      refine V_iconst (v := iI (2)) dX11_delivers_142 rfl ?_
      refine I_iadd dX11_delivers_143 ?_
      refine R_iald dX11_delivers_144 ⟨by omega, by omega⟩ ?_
      try simp (disch := omega) only [up_s, up_n, shl_o]
      refine I_iadd dX11_delivers_145 ?_
      refine R_iast dX11_delivers_146 ⟨by omega, by omega⟩ ?_
      refine V_aload_n dX11_delivers_147 rfl ?_
      refine V_getf fX11_7 dX11_delivers_148 rM_0 rfl ?_
      refine V_iload dX11_delivers_151 rfl ?_
      refine V_iconst (v := iI (3)) dX11_delivers_153 rfl ?_
      refine I_iadd dX11_delivers_154 ?_
      refine V_aload_n dX11_delivers_155 rfl ?_
      refine V_getf fX11_7 dX11_delivers_156 rM_0 rfl ?_
      refine V_iload_n dX11_delivers_159 rfl ?_
      refine V_iconst (v := iI (1)) dX11_delivers_160 rfl ?_
      refine I_iadd dX11_delivers_161 ?_
      refine R_iald dX11_delivers_162 ⟨by omega, by omega⟩ ?_
      try simp (disch := omega) only [up_s, up_n, shl_o]
      refine R_iast dX11_delivers_163 ⟨by omega, by omega⟩ ?_
      obtain ⟨σ, hσ⟩ : ∃ σ, σ = rdA ρ c a := ⟨_, rfl⟩
      refine V_eqM (M' := rM M0 r σ π sv rf hs) (by rw [hσ]; rfl) ?_
      have hσp : σ 4503 = ρ 4503 := by rw [hσ]; unfold rdA; simp (disch := omega) only [up_n]
      have hσ1 : σ (3411 + 258 * c + 1) = ρ (3411 + 258 * c + 1) := by rw [hσ]; unfold rdA; simp (disch := omega) only [up_n]
      have hσ2 : σ (3411 + 258 * c + 2) = ρ (3411 + 258 * c + 2) := by rw [hσ]; unfold rdA; simp (disch := omega) only [up_n]
      refine V_join (J := 226) (M' := (rM M0 r (rdB σ) π sv rf hs)) (L' := [some (.ref r), some (.int (iI c)), some (.int (iI (3411 + 258 * c))), some (.int (iI a)), some (.int (iI (4443 + 4 * a))), none, none]) (fun sz => ?_) (fun j226 => ?_)
      · obtain ⟨τ, hτ⟩ : ∃ τ, τ = rdB σ := ⟨_, rfl⟩
        have hτp : 0 ≤ τ 4503 ∧ τ 4503 ≤ 29 := by
          rw [hτ]; unfold rdB
          split
          · rw [up_s]; omega
          · omega
        have hτo : ∀ q, q < 4503 → τ q = σ q := fun q h => by
          rw [hτ]; unfold rdB
          split
          · rw [up_n (by omega), shl_o (by omega)]
          · rfl
        have hτ1 := hτo (3411 + 258 * c + 1) (by omega)
        have hτ2 := hτo (3411 + 258 * c + 2) (by omega)
        rw [hσ1] at hτ1
        rw [hσ2] at hτ2
        rw [← hτ]
        refine V_sipush (v := iI (4504)) dX11_delivers_226 (by decide +kernel) ?_
        refine V_sipush (v := iI (260)) dX11_delivers_229 (by decide +kernel) ?_
        refine V_aload_n dX11_delivers_232 rfl ?_
        refine V_getf fX11_7 dX11_delivers_233 rM_0 rfl ?_
        refine V_sipush (v := iI (4503)) dX11_delivers_236 (by decide +kernel) ?_
        refine R_iald dX11_delivers_239 ⟨by omega, by omega⟩ ?_
        try simp (disch := omega) only [up_s, up_n, shl_o]
        refine I_imul dX11_delivers_240 ?_
        refine I_iadd dX11_delivers_241 ?_
        refine V_istore (L' := [some _, some _, some _, some _, some _, some _, none]) dX11_delivers_242 (by decide) rfl ?_
        refine V_aload_n dX11_delivers_244 rfl ?_
        refine V_getf fX11_7 dX11_delivers_245 rM_0 rfl ?_
        refine V_iload dX11_delivers_248 rfl ?_
        refine V_iload_n dX11_delivers_250 rfl ?_
        refine R_iast dX11_delivers_251 ⟨by omega, by omega⟩ ?_
        refine V_aload_n dX11_delivers_252 rfl ?_
        refine V_getf fX11_7 dX11_delivers_253 rM_0 rfl ?_
        refine V_iload dX11_delivers_256 rfl ?_
        refine V_iconst (v := iI (1)) dX11_delivers_258 rfl ?_
        refine I_iadd dX11_delivers_259 ?_
        refine V_iload_n dX11_delivers_260 rfl ?_
        refine R_iast dX11_delivers_261 ⟨by omega, by omega⟩ ?_
        refine V_aload_n dX11_delivers_262 rfl ?_
        refine V_getf fX11_7 dX11_delivers_263 rM_0 rfl ?_
        refine V_iload dX11_delivers_266 rfl ?_
        refine V_iconst (v := iI (2)) dX11_delivers_268 rfl ?_
        refine I_iadd dX11_delivers_269 ?_
        refine V_aload_n dX11_delivers_270 rfl ?_
        refine V_getf fX11_7 dX11_delivers_271 rM_0 rfl ?_
        refine V_iload_n dX11_delivers_274 rfl ?_
        refine V_iconst (v := iI (1)) dX11_delivers_275 rfl ?_
        refine I_iadd dX11_delivers_276 ?_
        refine R_iald dX11_delivers_277 ⟨by omega, by omega⟩ ?_
        try simp (disch := omega) only [up_s, up_n, shl_o]
        try rw [hτ1]
        refine R_iast dX11_delivers_278 ⟨by omega, by omega⟩ ?_
        refine V_aload_n dX11_delivers_279 rfl ?_
        refine V_getf fX11_7 dX11_delivers_280 rM_0 rfl ?_
        refine V_iload dX11_delivers_283 rfl ?_
        refine V_iconst (v := iI (3)) dX11_delivers_285 rfl ?_
        refine I_iadd dX11_delivers_286 ?_
        refine V_aload_n dX11_delivers_287 rfl ?_
        refine V_getf fX11_7 dX11_delivers_288 rM_0 rfl ?_
        refine V_iload_n dX11_delivers_291 rfl ?_
        refine V_iconst (v := iI (2)) dX11_delivers_292 rfl ?_
        refine I_iadd dX11_delivers_293 ?_
        refine R_iald dX11_delivers_294 ⟨by omega, by omega⟩ ?_
        try simp (disch := omega) only [up_s, up_n, shl_o]
        try rw [hτ2]
        refine R_iast dX11_delivers_295 ⟨by omega, by omega⟩ ?_
        refine V_aload_n dX11_delivers_296 rfl ?_
        refine V_getf fX11_7 dX11_delivers_297 rM_0 rfl ?_
        refine V_iload dX11_delivers_300 rfl ?_
        refine V_iconst (v := iI (4)) dX11_delivers_302 rfl ?_
        refine I_iadd dX11_delivers_303 ?_
        refine V_iconst (v := iI (0)) dX11_delivers_304 rfl ?_
        refine R_iast dX11_delivers_305 ⟨by omega, by omega⟩ ?_
        obtain ⟨ω, hω⟩ : ∃ ω, ω = rdC τ c a := ⟨_, rfl⟩
        refine V_eqM (M' := rM M0 r ω π sv rf hs) (by rw [hω]; unfold rdC; rw [hτ1, hτ2]) ?_
        have hω3 : ω ((4504 + 260 * τ 4503) + 3) = ρ (3411 + 258 * c + 2) := by rw [hω]; unfold rdC; simp (disch := omega) only [up_s, up_n]; exact hτ2
        have hωp : ω 4503 = τ 4503 := by rw [hω]; unfold rdC; simp (disch := omega) only [up_n]
        refine V_iconst (v := iI (0)) dX11_delivers_306 rfl ?_
        refine V_istore (L' := [some _, some _, some _, some _, some _, some _, some _]) dX11_delivers_307 (by decide) rfl ?_
        have key309 : ∀ (d : Nat) (i : Int) (sz : Nat), 0 ≤ i ∧ i ≤ ρ (3411 + 258 * c + 2) → (ρ (3411 + 258 * c + 2) - i).toNat = d → V l G A (rmN 2) RX11 "delivers" cX11_delivers 7 (some .boolean) Q nX 0 0 (rM M0 r (rdlN ω (3411 + 258 * c) (4504 + 260 * τ 4503) i.toNat) π sv rf hs) sz 309 [some (.ref r), some (.int (iI c)), some (.int (iI (3411 + 258 * c))), some (.int (iI a)), some (.int (iI (4443 + 4 * a))), some (.int (iI (4504 + 260 * τ 4503))), some (.int (iI i))] [] := by
          intro d
          induction d using Nat.strongRecOn with
          | ind d ih309 =>
            intro i  sz hi hd309
            refine V_iload dX11_delivers_309 rfl ?_
            refine V_aload_n dX11_delivers_311 rfl ?_
            refine V_getf fX11_7 dX11_delivers_312 rM_0 rfl ?_
            refine V_iload dX11_delivers_315 rfl ?_
            refine V_iconst (v := iI (3)) dX11_delivers_317 rfl ?_
            refine I_iadd dX11_delivers_318 ?_
            refine R_iald dX11_delivers_319 ⟨by omega, by omega⟩ ?_
            rw [rdlN_o _ (by omega) (by omega), hω3]
            refine I_icmp_ge (tgt := 375) dX11_delivers_320 (by decide) ⟨by omega, by omega⟩ ⟨by omega, by omega⟩ (fun h320 => ?_) (fun h320 => ?_)
            · refine V_aload_n dX11_delivers_375 rfl ?_
              refine V_getf fX11_7 dX11_delivers_376 rM_0 rfl ?_
              refine V_sipush (v := iI (4503)) dX11_delivers_379 (by decide +kernel) ?_
              refine V_dup2 dX11_delivers_382 rfl rfl ?_
              refine R_iald dX11_delivers_383 ⟨by omega, by omega⟩ ?_
              rw [rdlN_o _ (by omega) (by omega), hωp]
              refine V_iconst (v := iI (1)) dX11_delivers_384 rfl ?_
              refine I_iadd dX11_delivers_385 ?_
              refine R_iast dX11_delivers_386 ⟨by omega, by omega⟩ ?_
              refine V_iconst (v := iI (1)) dX11_delivers_387 rfl ?_
              exact V_zret dX11_delivers_388 rfl (by first | rfl | decide) (Nat.le_of_ble_eq_true rfl) (Nat.le_of_ble_eq_true rfl) (hQ _ _ _ (iv (if1 (by omega))) (by rw [show i = ρ (3411 + 258 * c + 2) by omega]; unfold rdv rdE rdD; rw [← ha, if_pos (by omega), ← hσ, ← hτ, ← hω, hτ2]))
            · refine V_aload_n dX11_delivers_323 rfl ?_
              refine V_getf fX11_7 dX11_delivers_324 rM_0 rfl ?_
              refine V_iload dX11_delivers_327 rfl ?_
              refine V_iconst (v := iI (5)) dX11_delivers_329 rfl ?_
              refine I_iadd dX11_delivers_330 ?_
              refine V_iload dX11_delivers_331 rfl ?_
              refine I_iadd dX11_delivers_333 ?_
              refine V_aload_n dX11_delivers_334 rfl ?_
              refine V_getf fX11_7 dX11_delivers_335 rM_0 rfl ?_
              refine V_iload_n dX11_delivers_338 rfl ?_
              refine V_iconst (v := iI (3)) dX11_delivers_339 rfl ?_
              refine I_iadd dX11_delivers_340 ?_
              refine V_iload dX11_delivers_341 rfl ?_
              refine I_iadd dX11_delivers_343 ?_
              refine R_iald dX11_delivers_344 ⟨by omega, by omega⟩ ?_
              try simp (disch := omega) only [up_s, up_n, shl_o]
              refine R_iast dX11_delivers_345 ⟨by omega, by omega⟩ ?_
              refine V_aload_n dX11_delivers_346 rfl ?_
              refine V_getf fX11_7 dX11_delivers_347 rM_0 rfl ?_
              refine V_iload dX11_delivers_350 rfl ?_
              refine V_iconst (v := iI (4)) dX11_delivers_352 rfl ?_
              refine I_iadd dX11_delivers_353 ?_
              refine V_dup2 dX11_delivers_354 rfl rfl ?_
              refine R_iald dX11_delivers_355 ⟨by omega, by omega⟩ ?_
              try simp (disch := omega) only [up_s, up_n, shl_o]
              refine V_aload_n dX11_delivers_356 rfl ?_
              refine V_getf fX11_7 dX11_delivers_357 rM_0 rfl ?_
              refine V_iload_n dX11_delivers_360 rfl ?_
              refine V_iconst (v := iI (3)) dX11_delivers_361 rfl ?_
              refine I_iadd dX11_delivers_362 ?_
              refine V_iload dX11_delivers_363 rfl ?_
              refine I_iadd dX11_delivers_365 ?_
              refine R_iald dX11_delivers_366 ⟨by omega, by omega⟩ ?_
              try simp (disch := omega) only [up_s, up_n, shl_o]
              refine I_iadd dX11_delivers_367 ?_
              refine R_iast dX11_delivers_368 ⟨by omega, by omega⟩ ?_
              refine I_iinc (L' := [some _, some _, some _, some _, some _, some _, some _]) dX11_delivers_369 rfl (by decide) rfl ?_
              refine V_goto (tgt := 309) dX11_delivers_372 (by decide) ?_
              exact V_eqM (by rw [← rdlN_s hi.1]) (V_wk' (ih309 _ (by omega) (i + 1) sz ⟨by omega, by omega⟩ rfl) ⟨rfl, rfl, rfl, rfl, rfl, rfl, rfl, trivial⟩)
        exact V_wk' (key309 _ 0 sz ⟨by omega, by omega⟩ rfl) ⟨rfl, rfl, rfl, rfl, rfl, rfl, rfl, trivial⟩
      · refine V_aload_n dX11_delivers_164 rfl ?_
        refine V_getf fX11_7 dX11_delivers_165 rM_0 rfl ?_
        refine V_sipush (v := iI (4503)) dX11_delivers_168 (by decide +kernel) ?_
        refine R_iald dX11_delivers_171 ⟨by omega, by omega⟩ ?_
        try simp (disch := omega) only [up_s, up_n, shl_o]
        refine V_bipush (v := iI (30)) dX11_delivers_172 (by decide +kernel) ?_
        refine I_icmp_ne (tgt := 226) dX11_delivers_174 (by decide) ⟨by omega, by omega⟩ ⟨by omega, by omega⟩ (fun h174 => ?_) (fun h174 => ?_)
        · exact V_eqM (by unfold rdB; first | exact congrArg (fun x => rM M0 r x π sv rf hs) (if_neg (by omega)).symm | (rw [show j = 12044 by omega]; exact congrArg (fun x => rM M0 r x π sv rf hs) (if_pos (by omega)).symm)) (V_wk' (j226 _) ⟨rfl, rfl, rfl, rfl, rfl, trivial⟩)
        · refine V_sipush (v := iI (4504)) dX11_delivers_177 (by decide +kernel) ?_
          refine V_istore (L' := [some _, some _, some _, some _, some _, some _, none]) dX11_delivers_180 (by decide) rfl ?_
          have key182 : ∀ (d : Nat) (j : Int) (sz : Nat), 4504 ≤ j ∧ j ≤ 12044 → (12044 - j).toNat = d → V l G A (rmN 2) RX11 "delivers" cX11_delivers 7 (some .boolean) Q nX 0 0 (rM M0 r (shl 260 σ 4504 j) π sv rf hs) sz 182 [some (.ref r), some (.int (iI c)), some (.int (iI (3411 + 258 * c))), some (.int (iI a)), some (.int (iI (4443 + 4 * a))), some (.int (iI j)), none] [] := by
            intro d
            induction d using Nat.strongRecOn with
            | ind d ih182 =>
              intro j  sz hj hd182
              refine V_iload dX11_delivers_182 rfl ?_
              refine V_sipush (v := iI (12044)) dX11_delivers_184 (by decide +kernel) ?_
              refine I_icmp_ge (tgt := 214) dX11_delivers_187 (by decide) ⟨by omega, by omega⟩ ⟨by omega, by omega⟩ (fun h187 => ?_) (fun h187 => ?_)
              · refine V_aload_n dX11_delivers_214 rfl ?_
                refine V_getf fX11_7 dX11_delivers_215 rM_0 rfl ?_
                refine V_sipush (v := iI (4503)) dX11_delivers_218 (by decide +kernel) ?_
                refine V_dup2 dX11_delivers_221 rfl rfl ?_
                refine R_iald dX11_delivers_222 ⟨by omega, by omega⟩ ?_
                try simp (disch := omega) only [up_s, up_n, shl_o]
                refine V_iconst (v := iI (1)) dX11_delivers_223 rfl ?_
                refine I_isub dX11_delivers_224 ?_
                refine R_iast dX11_delivers_225 ⟨by omega, by omega⟩ ?_
                exact V_eqM (by unfold rdB; first | exact congrArg (fun x => rM M0 r x π sv rf hs) (if_neg (by omega)).symm | (rw [show j = 12044 by omega]; exact congrArg (fun x => rM M0 r x π sv rf hs) (if_pos (by omega)).symm)) (V_wk' (j226 _) ⟨rfl, rfl, rfl, rfl, rfl, trivial⟩)
              · refine V_aload_n dX11_delivers_190 rfl ?_
                refine V_getf fX11_7 dX11_delivers_191 rM_0 rfl ?_
                refine V_iload dX11_delivers_194 rfl ?_
                refine V_aload_n dX11_delivers_196 rfl ?_
                refine V_getf fX11_7 dX11_delivers_197 rM_0 rfl ?_
                refine V_iload dX11_delivers_200 rfl ?_
                refine V_sipush (v := iI (260)) dX11_delivers_202 (by decide +kernel) ?_
                refine I_iadd dX11_delivers_205 ?_
                refine R_iald dX11_delivers_206 ⟨by omega, by omega⟩ ?_
                rw [shl_o (show j + 260 < 4504 ∨ j ≤ j + 260 by omega)]
                refine R_iast dX11_delivers_207 ⟨by omega, by omega⟩ ?_
                refine I_iinc (L' := [some _, some _, some _, some _, some _, some _, none]) dX11_delivers_208 rfl (by decide) rfl ?_
                refine V_goto (tgt := 182) dX11_delivers_211 (by decide) ?_
                exact V_eqM (by rw [← shl_s hj.1]) (V_wk' (ih182 _ (by omega) (j + 1) sz ⟨by omega, by omega⟩ rfl) ⟨rfl, rfl, rfl, rfl, rfl, rfl, trivial⟩)
          exact V_eqM (by rw [shl_0]) (V_wk' (key182 _ 4504 sz ⟨by omega, by omega⟩ rfl) ⟨rfl, rfl, rfl, rfl, rfl, rfl, trivial⟩)
    · refine V_aload_n dX11_delivers_82 rfl ?_
      refine V_getf fX11_7 dX11_delivers_83 rM_0 rfl ?_
      refine V_iload dX11_delivers_86 rfl ?_
      refine V_iconst (v := iI (3)) dX11_delivers_88 rfl ?_
      refine I_iadd dX11_delivers_89 ?_
      refine R_iald dX11_delivers_90 ⟨by omega, by omega⟩ ?_
      try simp (disch := omega) only [up_s, up_n, shl_o]
      refine V_iconst (v := iI (-1)) dX11_delivers_91 rfl ?_
      refine I_icmp_ne (tgt := 99) dX11_delivers_92 (by decide) ⟨by omega, by omega⟩ ⟨by omega, by omega⟩ (fun h92 => ?_) (fun h92 => ?_)
      · refine V_aload_n dX11_delivers_99 rfl ?_
        refine V_getf fX11_7 dX11_delivers_100 rM_0 rfl ?_
        refine V_iload_n dX11_delivers_103 rfl ?_
        refine V_iconst (v := iI (1)) dX11_delivers_104 rfl ?_
        refine I_iadd dX11_delivers_105 ?_
        refine R_iald dX11_delivers_106 ⟨by omega, by omega⟩ ?_
        try simp (disch := omega) only [up_s, up_n, shl_o]
        refine V_aload_n dX11_delivers_107 rfl ?_
        refine V_getf fX11_7 dX11_delivers_108 rM_0 rfl ?_
        refine V_iload dX11_delivers_111 rfl ?_
        refine V_iconst (v := iI (3)) dX11_delivers_113 rfl ?_
        refine I_iadd dX11_delivers_114 ?_
        refine R_iald dX11_delivers_115 ⟨by omega, by omega⟩ ?_
        try simp (disch := omega) only [up_s, up_n, shl_o]
        refine I_isub dX11_delivers_116 ?_
        refine V_sipush (v := iI (255)) dX11_delivers_117 (by decide +kernel) ?_
        refine I_iadd dX11_delivers_120 ?_
        refine V_sipush (v := iI (256)) dX11_delivers_121 (by decide +kernel) ?_
        refine I_irem dX11_delivers_124 (by omega) (by omega) (by omega) (by omega) ?_
        exact V_top (vi (by first | rw [if_pos (by omega)] | rw [if_neg (by omega)])) (j125 _)
      · refine V_iconst (v := iI (0)) dX11_delivers_95 rfl ?_
        refine V_goto (tgt := 125) dX11_delivers_96 (by decide) ?_
        exact V_top (vi (by first | rw [if_pos (by omega)] | rw [if_neg (by omega)])) (j125 _)
  · refine V_aload_n dX11_delivers_34 rfl ?_
    refine V_tern (J := 46) (v := .int (iI (if a = 15 then 4 else 3))) (fun sz => ?_) (fun j46 => ?_)
    · refine V_iconst (v := iI (1)) dX11_delivers_46 rfl ?_
      refine V_cV0 (vs := [_, _]) (r_counts l _ _ (up ρ (3407 + c) 0) _ _ _ _ (if a = 15 then 4 else 3) 1 (by split <;> omega)) mX11_144 coX11_counts dX11_delivers_47 rM_0 rfl rfl rfl (by decide) (Nat.le_of_ble_eq_true rfl) (Nat.le_of_ble_eq_true rfl) (Nat.le_of_ble_eq_true rfl) (fun sz => ?_)
      refine V_iconst (v := iI (0)) dX11_delivers_50 rfl ?_
      exact V_zret dX11_delivers_51 rfl (by first | rfl | decide) (Nat.le_of_ble_eq_true rfl) (Nat.le_of_ble_eq_true rfl) (hQ _ _ _ (iv (if0 (by omega))) (by unfold rdv; rw [← ha]; exact congrArg (fun x => rM M0 r x π sv rf hs) (if_neg (by omega)).symm))
    · refine V_iload_n dX11_delivers_35 rfl ?_
      refine V_bipush (v := iI (15)) dX11_delivers_36 (by decide +kernel) ?_
      refine I_icmp_ne (tgt := 45) dX11_delivers_38 (by decide) ⟨by omega, by omega⟩ ⟨by omega, by omega⟩ (fun h38 => ?_) (fun h38 => ?_)
      · refine V_iconst (v := iI (3)) dX11_delivers_45 rfl ?_
        exact V_top (vi (by first | rw [if_pos (by omega)] | rw [if_neg (by omega)])) (j46 _)
      · refine V_iconst (v := iI (4)) dX11_delivers_41 rfl ?_
        refine V_goto (tgt := 46) dX11_delivers_42 (by decide) ?_
        exact V_top (vi (by first | rw [if_pos (by omega)] | rw [if_neg (by omega)])) (j46 _)
