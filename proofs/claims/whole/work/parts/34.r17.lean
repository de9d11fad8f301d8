/-- the hash of the row -/
def dFr (ρ : Int → Int) (f h : Int) : Int := mx (mx (mx h (c32 (ρ (383 + 50 * f + 1)))) (c32 (ρ (383 + 50 * f + 4 + 3)))) (c32 (ckv ρ f))
def dg1 (ρ : Int → Int) (sv : Int) : Int := mx (mx (mAl ρ 0 4 (mx 12171 (c32 sv))) (c32 (rch ρ))) (rclk ρ)
def dg2 (ρ : Int → Int) (sv : Int) : Int := foN (fun i h => dCh ρ i h) (dg1 ρ sv) 4
def dg3 (ρ : Int → Int) (sv : Int) : Int := mx (mx (dg2 ρ sv) (c32 (ρ 45))) (c32 (ρ 382))
def dg4 (ρ : Int → Int) (sv : Int) : Int := mAl ρ 3383 6 (foN (fun i h => dFr ρ i h) (dg3 ρ sv) (ρ 382).toNat)
def dg5 (ρ : Int → Int) (sv : Int) : Int := mx (foN (fun i h => mAl ρ (4443 + 4 * i) 3 h) (dg4 ρ sv) 15) (c32 (ρ 4503))
def dg6 (ρ : Int → Int) (sv : Int) : Int := foN (fun i h => mAl ρ (4504 + 260 * i) 5 h) (dg5 ρ sv) (ρ 4503).toNat
def dig (ρ : Int → Int) (sv : Int) : Int := mAl ρ 12304 (1 + 2 * ρ 12304) (dg6 ρ sv)

set_option maxRecDepth 100000 in
set_option maxHeartbeats 4000000 in
theorem r_digest (l : Launch) (M0 : ME) (r : Nat) (ρ π : Int → Int) (sv rf hs : Int) (hQA : QA ρ) (h3 : 0 ≤ ρ 3 ∧ ρ 3 ≤ 100000) (h1 : -1000 ≤ ρ 1 ∧ ρ 1 ≤ 1000) (hW : Wr ρ) (hP : 0 ≤ ρ 4503 ∧ ρ 4503 ≤ 30) (hT : 0 ≤ ρ 12304 ∧ ρ 12304 ≤ 2) : CF l yX11_digest cX11_digest 2 (some .long) (rmN 8) [.ref r] (rM M0 r ρ π sv rf hs) (some (.long (lI (dig ρ sv)))) (rM M0 r ρ π sv 0 (dig ρ sv)) := by
  have hw1 := hW.1
  refine CF.of (L0 := [some _, none]) (by decide +kernel) rfl rfl (Nat.le_of_ble_eq_true rfl) rfl (fun G A Q sz hQ => ?_)
  refine V_aload_n dX11_digest_0 rfl ?_
  refine V_iconst (v := iI (0)) dX11_digest_1 rfl ?_
  refine R_putrf fX11_17 dX11_digest_2 ?_
  refine V_aload_n dX11_digest_5 rfl ?_
  refine V_ldc2 (v := lI (12171)) dX11_digest_6 (kL (by decide +kernel) kX11_190) ?_
  refine R_puths fX11_182 dX11_digest_9 ?_
  refine V_aload_n dX11_digest_12 rfl ?_
  refine V_aload_n dX11_digest_13 rfl ?_
  refine V_getf fX11_27 dX11_digest_14 rM_0 rfl ?_
  refine I_i2lc dX11_digest_17 ?_
  refine V_cV0 (vs := [_]) (r_mix l _ _ ρ _ _ _ _ _) mX11_186 coX11_mix dX11_digest_18 rM_0 rfl rfl rfl (by decide) (Nat.le_of_ble_eq_true rfl) (Nat.le_of_ble_eq_true rfl) (Nat.le_of_ble_eq_true rfl) (fun sz => ?_)
  refine V_aload_n dX11_digest_21 rfl ?_
  refine V_iconst (v := iI (0)) dX11_digest_22 rfl ?_
  refine V_iconst (v := iI (4)) dX11_digest_23 rfl ?_
  refine V_cV0 (vs := [_, _]) (r_mixAll l _ _ ρ _ _ _ _ 0 4 (by omega)) mX11_192 coX11_mixAll dX11_digest_24 rM_0 rfl rfl rfl (by decide) (Nat.le_of_ble_eq_true rfl) (Nat.le_of_ble_eq_true rfl) (Nat.le_of_ble_eq_true rfl) (fun sz => ?_)
  refine V_aload_n dX11_digest_27 rfl ?_
  refine V_aload_n dX11_digest_28 rfl ?_
  refine V_cV (vs := []) (r_chosen l _ _ ρ _ _ _ _ hQA) mX11_95 coX11_chosen dX11_digest_29 rM_0 rfl rfl rfl (by decide) (Nat.le_of_ble_eq_true rfl) (Nat.le_of_ble_eq_true rfl) (Nat.le_of_ble_eq_true rfl) (fun sz => ?_)
  refine I_i2lc dX11_digest_32 ?_
  refine V_cV0 (vs := [_]) (r_mix l _ _ ρ _ _ _ _ _) mX11_186 coX11_mix dX11_digest_33 rM_0 rfl rfl rfl (by decide) (Nat.le_of_ble_eq_true rfl) (Nat.le_of_ble_eq_true rfl) (Nat.le_of_ble_eq_true rfl) (fun sz => ?_)
  refine V_aload_n dX11_digest_36 rfl ?_
  refine V_aload_n dX11_digest_37 rfl ?_
  refine V_cV (vs := []) (r_clockNow l _ _ ρ _ _ _ _ h3 h1) mX11_114 coX11_clockNow dX11_digest_38 rM_0 rfl rfl rfl (by decide) (Nat.le_of_ble_eq_true rfl) (Nat.le_of_ble_eq_true rfl) (Nat.le_of_ble_eq_true rfl) (fun sz => ?_)
  refine V_cV0 (vs := [_]) (r_mix l _ _ ρ _ _ _ _ _) mX11_186 coX11_mix dX11_digest_41 rM_0 rfl rfl rfl (by decide) (Nat.le_of_ble_eq_true rfl) (Nat.le_of_ble_eq_true rfl) (Nat.le_of_ble_eq_true rfl) (fun sz => ?_)
  refine V_iconst (v := iI (0)) dX11_digest_44 rfl ?_
  refine V_istore_n (L' := [some _, some _]) dX11_digest_45 rfl (by decide) rfl ?_
  have key46 : ∀ (d : Nat) (i : Int) (sz : Nat), 0 ≤ i ∧ i ≤ 4 → (4 - i).toNat = d → V l G A (rmN 8) RX11 "digest" cX11_digest 2 (some .long) Q nX 0 0 (rM M0 r ρ π sv 0 (foN (fun i h => dCh ρ i h) (dg1 ρ sv) i.toNat)) sz 46 [some (.ref r), some (.int (iI i))] [] := by
    intro d
    induction d using Nat.strongRecOn with
    | ind d ih46 =>
      intro i  sz hi hd46
      refine V_iload_n dX11_digest_46 rfl ?_
      refine V_iconst (v := iI (4)) dX11_digest_47 rfl ?_
      refine I_icmp_ge (tgt := 62) dX11_digest_48 (by decide) ⟨by omega, by omega⟩ ⟨by omega, by omega⟩ (fun h48 => ?_) (fun h48 => ?_)
      · rw [show i = 4 by omega]
        refine V_aload_n dX11_digest_62 rfl ?_
        refine V_aload_n dX11_digest_63 rfl ?_
        refine V_getf fX11_7 dX11_digest_64 rM_0 rfl ?_
        refine V_bipush (v := iI (45)) dX11_digest_67 (by decide +kernel) ?_
        refine R_iald dX11_digest_69 ⟨by omega, by omega⟩ ?_
        refine I_i2lc dX11_digest_70 ?_
        refine V_cV0 (vs := [_]) (r_mix l _ _ ρ _ _ _ _ _) mX11_186 coX11_mix dX11_digest_71 rM_0 rfl rfl rfl (by decide) (Nat.le_of_ble_eq_true rfl) (Nat.le_of_ble_eq_true rfl) (Nat.le_of_ble_eq_true rfl) (fun sz => ?_)
        refine V_aload_n dX11_digest_74 rfl ?_
        refine V_aload_n dX11_digest_75 rfl ?_
        refine V_getf fX11_7 dX11_digest_76 rM_0 rfl ?_
        refine V_sipush (v := iI (382)) dX11_digest_79 (by decide +kernel) ?_
        refine R_iald dX11_digest_82 ⟨by omega, by omega⟩ ?_
        refine I_i2lc dX11_digest_83 ?_
        refine V_cV0 (vs := [_]) (r_mix l _ _ ρ _ _ _ _ _) mX11_186 coX11_mix dX11_digest_84 rM_0 rfl rfl rfl (by decide) (Nat.le_of_ble_eq_true rfl) (Nat.le_of_ble_eq_true rfl) (Nat.le_of_ble_eq_true rfl) (fun sz => ?_)
        refine V_iconst (v := iI (0)) dX11_digest_87 rfl ?_
        refine V_istore_n (L' := [some _, some _]) dX11_digest_88 rfl (by decide) rfl ?_
        have key89 : ∀ (d : Nat) (i : Int) (sz : Nat), 0 ≤ i ∧ i ≤ ρ 382 → (ρ 382 - i).toNat = d → V l G A (rmN 8) RX11 "digest" cX11_digest 2 (some .long) Q nX 0 0 (rM M0 r ρ π sv 0 (foN (fun i h => dFr ρ i h) (dg3 ρ sv) i.toNat)) sz 89 [some (.ref r), some (.int (iI i))] [] := by
          intro d
          induction d using Nat.strongRecOn with
          | ind d ih89 =>
            intro i  sz hi hd89
            refine V_iload_n dX11_digest_89 rfl ?_
            refine V_aload_n dX11_digest_90 rfl ?_
            refine V_getf fX11_7 dX11_digest_91 rM_0 rfl ?_
            refine V_sipush (v := iI (382)) dX11_digest_94 (by decide +kernel) ?_
            refine R_iald dX11_digest_97 ⟨by omega, by omega⟩ ?_
            refine I_icmp_ge (tgt := 153) dX11_digest_98 (by decide) ⟨by omega, by omega⟩ ⟨by omega, by omega⟩ (fun h98 => ?_) (fun h98 => ?_)
            · rw [show i = ρ 382 by omega]
              refine V_aload_n dX11_digest_153 rfl ?_
              refine V_sipush (v := iI (3383)) dX11_digest_154 (by decide +kernel) ?_
              refine V_bipush (v := iI (6)) dX11_digest_157 (by decide +kernel) ?_
              refine V_cV0 (vs := [_, _]) (r_mixAll l _ _ ρ _ _ _ _ 3383 6 (by omega)) mX11_192 coX11_mixAll dX11_digest_159 rM_0 rfl rfl rfl (by decide) (Nat.le_of_ble_eq_true rfl) (Nat.le_of_ble_eq_true rfl) (Nat.le_of_ble_eq_true rfl) (fun sz => ?_)
              refine V_iconst (v := iI (0)) dX11_digest_162 rfl ?_
              refine V_istore_n (L' := [some _, some _]) dX11_digest_163 rfl (by decide) rfl ?_
              have key164 : ∀ (d : Nat) (i : Int) (sz : Nat), 0 ≤ i ∧ i ≤ 15 → (15 - i).toNat = d → V l G A (rmN 8) RX11 "digest" cX11_digest 2 (some .long) Q nX 0 0 (rM M0 r ρ π sv 0 (foN (fun i h => mAl ρ (4443 + 4 * i) 3 h) (dg4 ρ sv) i.toNat)) sz 164 [some (.ref r), some (.int (iI i))] [] := by
                intro d
                induction d using Nat.strongRecOn with
                | ind d ih164 =>
                  intro i  sz hi hd164
                  refine V_iload_n dX11_digest_164 rfl ?_
                  refine V_bipush (v := iI (15)) dX11_digest_165 (by decide +kernel) ?_
                  refine I_icmp_ge (tgt := 188) dX11_digest_167 (by decide) ⟨by omega, by omega⟩ ⟨by omega, by omega⟩ (fun h167 => ?_) (fun h167 => ?_)
                  · rw [show i = 15 by omega]
                    refine V_aload_n dX11_digest_188 rfl ?_
                    refine V_aload_n dX11_digest_189 rfl ?_
                    refine V_getf fX11_7 dX11_digest_190 rM_0 rfl ?_
                    refine V_sipush (v := iI (4503)) dX11_digest_193 (by decide +kernel) ?_
                    refine R_iald dX11_digest_196 ⟨by omega, by omega⟩ ?_
                    refine I_i2lc dX11_digest_197 ?_
                    refine V_cV0 (vs := [_]) (r_mix l _ _ ρ _ _ _ _ _) mX11_186 coX11_mix dX11_digest_198 rM_0 rfl rfl rfl (by decide) (Nat.le_of_ble_eq_true rfl) (Nat.le_of_ble_eq_true rfl) (Nat.le_of_ble_eq_true rfl) (fun sz => ?_)
                    refine V_iconst (v := iI (0)) dX11_digest_201 rfl ?_
                    refine V_istore_n (L' := [some _, some _]) dX11_digest_202 rfl (by decide) rfl ?_
                    have key203 : ∀ (d : Nat) (i : Int) (sz : Nat), 0 ≤ i ∧ i ≤ ρ 4503 → (ρ 4503 - i).toNat = d → V l G A (rmN 8) RX11 "digest" cX11_digest 2 (some .long) Q nX 0 0 (rM M0 r ρ π sv 0 (foN (fun i h => mAl ρ (4504 + 260 * i) 5 h) (dg5 ρ sv) i.toNat)) sz 203 [some (.ref r), some (.int (iI i))] [] := by
                      intro d
                      induction d using Nat.strongRecOn with
                      | ind d ih203 =>
                        intro i  sz hi hd203
                        refine V_iload_n dX11_digest_203 rfl ?_
                        refine V_aload_n dX11_digest_204 rfl ?_
                        refine V_getf fX11_7 dX11_digest_205 rM_0 rfl ?_
                        refine V_sipush (v := iI (4503)) dX11_digest_208 (by decide +kernel) ?_
                        refine R_iald dX11_digest_211 ⟨by omega, by omega⟩ ?_
                        refine I_icmp_ge (tgt := 235) dX11_digest_212 (by decide) ⟨by omega, by omega⟩ ⟨by omega, by omega⟩ (fun h212 => ?_) (fun h212 => ?_)
                        · rw [show i = ρ 4503 by omega]
                          refine V_aload_n dX11_digest_235 rfl ?_
                          refine V_sipush (v := iI (12304)) dX11_digest_236 (by decide +kernel) ?_
                          refine V_iconst (v := iI (1)) dX11_digest_239 rfl ?_
                          refine V_iconst (v := iI (2)) dX11_digest_240 rfl ?_
                          refine V_aload_n dX11_digest_241 rfl ?_
                          refine V_getf fX11_7 dX11_digest_242 rM_0 rfl ?_
                          refine V_sipush (v := iI (12304)) dX11_digest_245 (by decide +kernel) ?_
                          refine R_iald dX11_digest_248 ⟨by omega, by omega⟩ ?_
                          refine I_imul dX11_digest_249 ?_
                          refine I_iadd dX11_digest_250 ?_
                          refine V_cV0 (vs := [_, _]) (r_mixAll l _ _ ρ _ _ _ _ 12304 (1 + 2 * ρ 12304) (by omega)) mX11_192 coX11_mixAll dX11_digest_251 rM_0 rfl rfl rfl (by decide) (Nat.le_of_ble_eq_true rfl) (Nat.le_of_ble_eq_true rfl) (Nat.le_of_ble_eq_true rfl) (fun sz => ?_)
                          refine V_aload_n dX11_digest_254 rfl ?_
                          refine V_getf fX11_182 dX11_digest_255 rM_0 rfl ?_
                          exact V_lret dX11_digest_258 rfl (Nat.le_of_ble_eq_true rfl) (Nat.le_of_ble_eq_true rfl) (hQ _ _ _ rfl rfl)
                        · refine V_aload_n dX11_digest_215 rfl ?_
                          refine V_sipush (v := iI (4504)) dX11_digest_216 (by decide +kernel) ?_
                          refine V_sipush (v := iI (260)) dX11_digest_219 (by decide +kernel) ?_
                          refine V_iload_n dX11_digest_222 rfl ?_
                          refine I_imul dX11_digest_223 ?_
                          refine I_iadd dX11_digest_224 ?_
                          refine V_iconst (v := iI (5)) dX11_digest_225 rfl ?_
                          refine V_cV0 (vs := [_, _]) (r_mixAll l _ _ ρ _ _ _ _ (4504 + 260 * i) 5 (by omega)) mX11_192 coX11_mixAll dX11_digest_226 rM_0 rfl rfl rfl (by decide) (Nat.le_of_ble_eq_true rfl) (Nat.le_of_ble_eq_true rfl) (Nat.le_of_ble_eq_true rfl) (fun sz => ?_)
                          refine I_iinc (L' := [some _, some _]) dX11_digest_229 rfl (by decide) rfl ?_
                          refine V_goto (tgt := 203) dX11_digest_232 (by decide) ?_
                          exact V_eqM (by rw [foN_s hi.1, Int.toNat_of_nonneg hi.1]; first | done | rfl) (V_wk' (ih203 _ (by omega) (i + 1) sz ⟨by omega, by omega⟩ rfl) ⟨rfl, rfl, trivial⟩)
                    exact V_wk' (key203 _ 0 sz ⟨by omega, by omega⟩ rfl) ⟨rfl, rfl, trivial⟩
                  · refine V_aload_n dX11_digest_170 rfl ?_
                    refine V_sipush (v := iI (4443)) dX11_digest_171 (by decide +kernel) ?_
                    refine V_iconst (v := iI (4)) dX11_digest_174 rfl ?_
                    refine V_iload_n dX11_digest_175 rfl ?_
                    refine I_imul dX11_digest_176 ?_
                    refine I_iadd dX11_digest_177 ?_
                    refine V_iconst (v := iI (3)) dX11_digest_178 rfl ?_
                    refine V_cV0 (vs := [_, _]) (r_mixAll l _ _ ρ _ _ _ _ (4443 + 4 * i) 3 (by omega)) mX11_192 coX11_mixAll dX11_digest_179 rM_0 rfl rfl rfl (by decide) (Nat.le_of_ble_eq_true rfl) (Nat.le_of_ble_eq_true rfl) (Nat.le_of_ble_eq_true rfl) (fun sz => ?_)
                    refine I_iinc (L' := [some _, some _]) dX11_digest_182 rfl (by decide) rfl ?_
                    refine V_goto (tgt := 164) dX11_digest_185 (by decide) ?_
                    exact V_eqM (by rw [foN_s hi.1, Int.toNat_of_nonneg hi.1]; first | done | rfl) (V_wk' (ih164 _ (by omega) (i + 1) sz ⟨by omega, by omega⟩ rfl) ⟨rfl, rfl, trivial⟩)
              exact V_wk' (key164 _ 0 sz ⟨by omega, by omega⟩ rfl) ⟨rfl, rfl, trivial⟩
            · refine V_aload_n dX11_digest_101 rfl ?_
              refine V_aload_n dX11_digest_102 rfl ?_
              refine V_getf fX11_7 dX11_digest_103 rM_0 rfl ?_
              refine V_aload_n dX11_digest_106 rfl ?_
              refine V_iload_n dX11_digest_107 rfl ?_
              refine V_cV (vs := [_]) (r_frameAt l _ _ _ _ _ _ _ i) mX11_100 coX11_frameAt dX11_digest_108 rM_0 rfl rfl rfl (by decide) (Nat.le_of_ble_eq_true rfl) (Nat.le_of_ble_eq_true rfl) (Nat.le_of_ble_eq_true rfl) (fun sz => ?_)
              refine V_iconst (v := iI (1)) dX11_digest_111 rfl ?_
              refine I_iadd dX11_digest_112 ?_
              refine R_iald dX11_digest_113 ⟨by omega, by omega⟩ ?_
              refine I_i2lc dX11_digest_114 ?_
              refine V_cV0 (vs := [_]) (r_mix l _ _ ρ _ _ _ _ _) mX11_186 coX11_mix dX11_digest_115 rM_0 rfl rfl rfl (by decide) (Nat.le_of_ble_eq_true rfl) (Nat.le_of_ble_eq_true rfl) (Nat.le_of_ble_eq_true rfl) (fun sz => ?_)
              refine V_aload_n dX11_digest_118 rfl ?_
              refine V_aload_n dX11_digest_119 rfl ?_
              refine V_getf fX11_7 dX11_digest_120 rM_0 rfl ?_
              refine V_aload_n dX11_digest_123 rfl ?_
              refine V_iload_n dX11_digest_124 rfl ?_
              refine V_cV (vs := [_]) (r_frameAt l _ _ _ _ _ _ _ i) mX11_100 coX11_frameAt dX11_digest_125 rM_0 rfl rfl rfl (by decide) (Nat.le_of_ble_eq_true rfl) (Nat.le_of_ble_eq_true rfl) (Nat.le_of_ble_eq_true rfl) (fun sz => ?_)
              refine V_iconst (v := iI (4)) dX11_digest_128 rfl ?_
              refine I_iadd dX11_digest_129 ?_
              refine V_iconst (v := iI (3)) dX11_digest_130 rfl ?_
              refine I_iadd dX11_digest_131 ?_
              refine R_iald dX11_digest_132 ⟨by omega, by omega⟩ ?_
              refine I_i2lc dX11_digest_133 ?_
              refine V_cV0 (vs := [_]) (r_mix l _ _ ρ _ _ _ _ _) mX11_186 coX11_mix dX11_digest_134 rM_0 rfl rfl rfl (by decide) (Nat.le_of_ble_eq_true rfl) (Nat.le_of_ble_eq_true rfl) (Nat.le_of_ble_eq_true rfl) (fun sz => ?_)
              refine V_aload_n dX11_digest_137 rfl ?_
              refine V_aload_n dX11_digest_138 rfl ?_
              refine V_iload_n dX11_digest_139 rfl ?_
              refine V_cV (vs := [_]) (r_checkAt l _ _ ρ _ _ _ _ i (by omega) (by have := (hW.2 i (by omega) (by omega)).1; omega)) mX11_141 coX11_checkAt dX11_digest_140 rM_0 rfl rfl rfl (by decide) (Nat.le_of_ble_eq_true rfl) (Nat.le_of_ble_eq_true rfl) (Nat.le_of_ble_eq_true rfl) (fun sz => ?_)
              refine I_i2lc dX11_digest_143 ?_
              refine V_cV0 (vs := [_]) (r_mix l _ _ ρ _ _ _ _ _) mX11_186 coX11_mix dX11_digest_144 rM_0 rfl rfl rfl (by decide) (Nat.le_of_ble_eq_true rfl) (Nat.le_of_ble_eq_true rfl) (Nat.le_of_ble_eq_true rfl) (fun sz => ?_)
              refine I_iinc (L' := [some _, some _]) dX11_digest_147 rfl (by decide) rfl ?_
              refine V_goto (tgt := 89) dX11_digest_150 (by decide) ?_
              exact V_eqM (by rw [foN_s hi.1, Int.toNat_of_nonneg hi.1]; first | done | rfl) (V_wk' (ih89 _ (by omega) (i + 1) sz ⟨by omega, by omega⟩ rfl) ⟨rfl, rfl, trivial⟩)
        exact V_wk' (key89 _ 0 sz ⟨by omega, by omega⟩ rfl) ⟨rfl, rfl, trivial⟩
      · refine V_aload_n dX11_digest_51 rfl ?_
        refine V_iload_n dX11_digest_52 rfl ?_
        refine V_cV0 (vs := [_]) (r_mixChannel l _ _ ρ _ _ _ _ i (by omega) (hQA.2 i (by omega) (by omega)).1) mX11_195 coX11_mixChannel dX11_digest_53 rM_0 rfl rfl rfl (by decide) (Nat.le_of_ble_eq_true rfl) (Nat.le_of_ble_eq_true rfl) (Nat.le_of_ble_eq_true rfl) (fun sz => ?_)
        refine I_iinc (L' := [some _, some _]) dX11_digest_56 rfl (by decide) rfl ?_
        refine V_goto (tgt := 46) dX11_digest_59 (by decide) ?_
        exact V_eqM (by rw [foN_s hi.1, Int.toNat_of_nonneg hi.1]; first | done | rfl) (V_wk' (ih46 _ (by omega) (i + 1) sz ⟨by omega, by omega⟩ rfl) ⟨rfl, rfl, trivial⟩)
  exact V_wk' (key46 _ 0 sz ⟨by omega, by omega⟩ rfl) ⟨rfl, rfl, trivial⟩
