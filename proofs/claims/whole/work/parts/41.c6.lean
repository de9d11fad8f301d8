/-- a row of which n places from d on are those of another from s on -/
def cpI (f g : Int → Int) (s d n : Int) : Int → Int := fun q => if d ≤ q ∧ q < d + n then f (s + (q - d)) else g q
section VCP
variable {l : Launch} {G : GG} {A : Nat → Prop} {R : Room} {own nm : String} {cc : ByteArray} {nL : Nat} {ret : Option FieldType} {Q : Option Value → ME → Nat → Prop} {X : String → ME → Prop} {k n : Nat} {M : ME} {sz : Nat} {pc : Nat} {L : List (Option Value)} {st : List Value}
theorem I_copy {idx a0 a n0 n1 : Nat} {s d w : Int} {f g : Int → Int} (hz : 0 ≤ s ∧ 0 ≤ d ∧ 0 ≤ w) (hw1 : Cond.methodLink own idx arraycopyName ∈ tb) (hd : decode cc pc = .ok (.invokestatic idx, 3)) (h0 : M a0 = some (aI n0 f)) (h1 : M a = some (aI n1 g)) (hs : s + w ≤ n0) (hdd : d + w ≤ n1) (hn0 : n0 < 2 ^ 31) (hn1 : n1 < 2 ^ 31) (hf : 1 ≤ R.frames) (hr : (st.map fun v => v.category).sum + (nativeFrameWords "java/lang/System" "arraycopy" 5 + 11) ≤ R.locals)
    (kk : ∀ sz1 : Nat, V l G A R own nm cc nL ret Q X k n (mu M a (aI n1 (cpI f g s d w))) sz1 (pc + 3) L st) : V l G A R own nm cc nL ret Q X k n M sz pc L (.int (iI w) :: .int (iI d) :: .ref a :: .int (iI s) :: .ref a0 :: st) := by
  rw [iI_toN hz.2.2, iI_toN hz.2.1, iI_toN hz.1]
  refine V_copyi hw1 ac_nat ac_sta ac_ini hd h0 h1 (by omega) (by omega) hn0 hn1 hf hr fun sz1 => ?_
  have e : (va_cpy (fun j : Nat => iI (f (j : Int))) (fun j : Nat => iI (g (j : Int))) s.toNat d.toNat w.toNat) = fun j : Nat => iI (cpI f g s d w (j : Int)) := by
    funext j
    unfold va_cpy cpI
    by_cases h : d.toNat ≤ j ∧ j < d.toNat + w.toNat
    · rw [if_pos h, if_pos (by omega)]
      show iI (f ((s.toNat + (j - d.toNat) : Nat) : Int)) = _
      rw [show ((s.toNat + (j - d.toNat) : Nat) : Int) = s + ((j : Int) - d) by omega]
    · rw [if_neg h, if_neg (by omega)]
  rw [e]
  exact kk sz1
end VCP
theorem ftB {x : Int} (h : 0 ≤ x ∧ x ≤ 1) : fits .boolean (.int (iI x)) = true := by
  rcases (show x = 0 ∨ x = 1 by omega) with e | e <;> subst e <;> decide +kernel
abbrev frO (f : Nat) (D x1 x2 x3 : Int) : Cel := .inl (2, [.int (iI D), .int (iI x1), .long (lI x2), .long (lI x3), .ref (f + 1)])

set_option maxRecDepth 100000 in
set_option maxHeartbeats 4000000 in
theorem f_size (l : Launch) (M : ME) (f : Nat) (D x1 x2 x3 : Int) (hf : M f = some (frO f D x1 x2 x3)) : CF l yX2_size cX2_size 1 (some .int) (rmN 1) [.ref f] M (some (.int (iI (4 + D + 2)))) M := by
  refine CF.of (L0 := [some _]) (by decide +kernel) rfl rfl (Nat.le_of_ble_eq_true rfl) rfl (fun G A Q sz hQ => ?_)
  refine V_iconst (v := iI (4)) dX2_size_0 rfl ?_
  refine V_aload_n dX2_size_1 rfl ?_
  refine V_getf fX2_9 dX2_size_2 hf rfl ?_
  refine I_iadd dX2_size_5 ?_
  refine V_iconst (v := iI (2)) dX2_size_6 rfl ?_
  refine I_iadd dX2_size_7 ?_
  exact V_ireti dX2_size_8 rfl (Nat.le_of_ble_eq_true rfl) (Nat.le_of_ble_eq_true rfl) (hQ _ _ _ rfl rfl)

set_option maxRecDepth 100000 in
set_option maxHeartbeats 4000000 in
theorem f_headerPointer (l : Launch) (M : ME) (f : Nat) (D x1 x2 x3 : Int) (hf : M f = some (frO f D x1 x2 x3)) (g : Int → Int) (hf1 : M (f + 1) = some (aI 46 g)) : CF l yX2_headerPointer cX2_headerPointer 1 (some .int) (rmN 1) [.ref f] M (some (.int (iI (g 3)))) M := by
  refine CF.of (L0 := [some _]) (by decide +kernel) rfl rfl (Nat.le_of_ble_eq_true rfl) rfl (fun G A Q sz hQ => ?_)
  refine V_aload_n dX2_headerPointer_0 rfl ?_
  refine V_getf fX2_26 dX2_headerPointer_1 hf rfl ?_
  refine V_iconst (v := iI (3)) dX2_headerPointer_4 rfl ?_
  refine I_iald dX2_headerPointer_5 hf1 ⟨by omega, by omega⟩ (by decide) ?_
  exact V_ireti dX2_headerPointer_6 rfl (Nat.le_of_ble_eq_true rfl) (Nat.le_of_ble_eq_true rfl) (hQ _ _ _ rfl rfl)

set_option maxRecDepth 100000 in
set_option maxHeartbeats 4000000 in
theorem f_begin (l : Launch) (M : ME) (f : Nat) (D x1 x2 x3 : Int) (hf : M f = some (frO f D x1 x2 x3)) (D1 b1 b2 : Int) : CF l yX2_begin cX2_begin 6 none (rmN 1) [.ref f, .int (iI D1), .long (lI b1), .long (lI b2)] M none (mu M f (frO f D1 0 b1 b2)) := by
  refine CF.of (L0 := [some _, some _, some _, none, some _, none]) (by decide +kernel) rfl rfl (Nat.le_of_ble_eq_true rfl) rfl (fun G A Q sz hQ => ?_)
  refine V_aload_n dX2_begin_0 rfl ?_
  refine V_iload_n dX2_begin_1 rfl ?_
  refine V_putf fX2_9 dX2_begin_2 hf rfl rfl (by simp) ?_
  refine V_aload_n dX2_begin_5 rfl ?_
  refine V_iconst (v := iI (0)) dX2_begin_6 rfl ?_
  refine V_putf fX2_15 dX2_begin_7 mu_eq rfl rfl (by simp) ?_
  refine V_aload_n dX2_begin_10 rfl ?_
  refine V_lload_n dX2_begin_11 rfl ?_
  refine V_putf fX2_19 dX2_begin_12 mu_eq rfl rfl (by simp) ?_
  refine V_aload_n dX2_begin_15 rfl ?_
  refine V_lload dX2_begin_16 rfl ?_
  refine V_putf fX2_23 dX2_begin_18 mu_eq rfl rfl (by simp) ?_
  exact V_ret dX2_begin_21 rfl (Nat.le_of_ble_eq_true rfl) (Nat.le_of_ble_eq_true rfl) (hQ _ _ _ rfl (by simp only [mu_mu]; rfl))

set_option maxRecDepth 100000 in
set_option maxHeartbeats 4000000 in
theorem f_checkPlace (l : Launch) (M : ME) (f : Nat) (D x1 x2 x3 : Int) (hf : M f = some (frO f D x1 x2 x3)) (hD : 0 ≤ D ∧ D ≤ 40) : CF l yX2_checkPlace cX2_checkPlace 1 (some .int) (rmN 1) [.ref f] M (some (.int (iI (4 + D)))) M := by
  refine CF.of (L0 := [some _]) (by decide +kernel) rfl rfl (Nat.le_of_ble_eq_true rfl) rfl (fun G A Q sz hQ => ?_)
  refine V_iconst (v := iI (4)) dX2_checkPlace_0 rfl ?_
  refine V_aload_n dX2_checkPlace_1 rfl ?_
  refine V_getf fX2_9 dX2_checkPlace_2 hf rfl ?_
  refine I_iadd dX2_checkPlace_5 ?_
  refine V_bipush (v := iI (44)) dX2_checkPlace_6 (by decide +kernel) ?_
  refine I_min ⟨by omega, by omega⟩ ⟨by omega, by omega⟩ mX2_36 dX2_checkPlace_8 (by decide) (Nat.le_of_ble_eq_true rfl) (Nat.le_of_ble_eq_true rfl) (Nat.le_of_ble_eq_true rfl) ?_
  exact V_ireti dX2_checkPlace_11 rfl (Nat.le_of_ble_eq_true rfl) (Nat.le_of_ble_eq_true rfl) (hQ _ _ _ (iv (by omega)) rfl)

set_option maxRecDepth 100000 in
set_option maxHeartbeats 4000000 in
theorem f_checkValue (l : Launch) (M : ME) (f : Nat) (D x1 x2 x3 : Int) (hf : M f = some (frO f D x1 x2 x3)) (g : Int → Int) (hf1 : M (f + 1) = some (aI 46 g)) (hD : 0 ≤ D ∧ D ≤ 40) : CF l yX2_checkValue cX2_checkValue 2 (some .int) (rmN 2) [.ref f] M (some (.int (iI (g (4 + D) * 256 + g (4 + D + 1))))) M := by
  refine CF.of (L0 := [some _, none]) (by decide +kernel) rfl rfl (Nat.le_of_ble_eq_true rfl) rfl (fun G A Q sz hQ => ?_)
  refine V_aload_n dX2_checkValue_0 rfl ?_
  refine V_cV (vs := []) (f_checkPlace l _ f D x1 x2 x3 hf hD) mX2_42 coX2_checkPlace dX2_checkValue_1 hf rfl rfl rfl (by decide) (Nat.le_of_ble_eq_true rfl) (Nat.le_of_ble_eq_true rfl) (Nat.le_of_ble_eq_true rfl) (fun sz => ?_)
  refine V_istore_n (L' := [some _, some _]) dX2_checkValue_4 rfl (by decide) rfl ?_
  refine V_aload_n dX2_checkValue_5 rfl ?_
  refine V_getf fX2_26 dX2_checkValue_6 hf rfl ?_
  refine V_iload_n dX2_checkValue_9 rfl ?_
  refine I_iald dX2_checkValue_10 hf1 ⟨by omega, by omega⟩ (by decide) ?_
  refine V_sipush (v := iI (256)) dX2_checkValue_11 (by decide +kernel) ?_
  refine I_imul dX2_checkValue_14 ?_
  refine V_aload_n dX2_checkValue_15 rfl ?_
  refine V_getf fX2_26 dX2_checkValue_16 hf rfl ?_
  refine V_iload_n dX2_checkValue_19 rfl ?_
  refine V_iconst (v := iI (1)) dX2_checkValue_20 rfl ?_
  refine I_iadd dX2_checkValue_21 ?_
  refine I_iald dX2_checkValue_22 hf1 ⟨by omega, by omega⟩ (by decide) ?_
  refine I_iadd dX2_checkValue_23 ?_
  exact V_ireti dX2_checkValue_24 rfl (Nat.le_of_ble_eq_true rfl) (Nat.le_of_ble_eq_true rfl) (hQ _ _ _ rfl rfl)

set_option maxRecDepth 100000 in
set_option maxHeartbeats 4000000 in
theorem f_rightCheck (l : Launch) (M : ME) (f : Nat) (D x1 x2 x3 : Int) (hf : M f = some (frO f D x1 x2 x3)) (g : Int → Int) (hf1 : M (f + 1) = some (aI 46 g)) (hD : 0 ≤ D ∧ D ≤ 40) (hB : ∀ k, 0 ≤ k → k < 4 + D → 0 ≤ g k ∧ g k ≤ 255) : CF l yX2_rightCheck cX2_rightCheck 5 (some .int) (rmN 2) [.ref f] M (some (.int (iI (crcN g (4 + D).toNat)))) M := by
  refine CF.of (L0 := [some _, none, none, none, none]) (by decide +kernel) rfl rfl (Nat.le_of_ble_eq_true rfl) rfl (fun G A Q sz hQ => ?_)
  refine V_aload_n dX2_rightCheck_0 rfl ?_
  refine V_cV (vs := []) (f_checkPlace l _ f D x1 x2 x3 hf hD) mX2_42 coX2_checkPlace dX2_rightCheck_1 hf rfl rfl rfl (by decide) (Nat.le_of_ble_eq_true rfl) (Nat.le_of_ble_eq_true rfl) (Nat.le_of_ble_eq_true rfl) (fun sz => ?_)
  refine V_istore_n (L' := [some _, some _, none, none, none]) dX2_rightCheck_4 rfl (by decide) rfl ?_
  refine V_ldc (v := iI (65535)) dX2_rightCheck_5 (kC (by decide +kernel) kX2_46) ?_
  refine V_istore_n (L' := [some _, some _, some _, none, none]) dX2_rightCheck_7 rfl (by decide) rfl ?_
  refine V_iconst (v := iI (0)) dX2_rightCheck_8 rfl ?_
  refine V_istore_n (L' := [some _, some _, some _, some _, none]) dX2_rightCheck_9 rfl (by decide) rfl ?_
  have key10 : ∀ (d : Nat) (i : Int) (sz : Nat), (0 ≤ i ∧ i ≤ 4 + D) → (4 + D - i).toNat = d → V l G A (rmN 2) RX2 "rightCheck" cX2_rightCheck 5 (some .int) Q nX 0 0 M sz 10 [some (.ref f), some (.int (iI (4 + D))), some (.int (iI (crcN g i.toNat))), some (.int (iI i)), none] [] := by
    intro d
    induction d using Nat.strongRecOn with
    | ind d ih10 =>
      intro i  sz hi hd10
      refine V_iload_n dX2_rightCheck_10 rfl ?_
      refine V_iload_n dX2_rightCheck_11 rfl ?_
      refine I_icmp_ge (tgt := 73) dX2_rightCheck_12 (by decide) ⟨by omega, by omega⟩ ⟨by omega, by omega⟩ (fun h12 => ?_) (fun h12 => ?_)
      · refine V_iload_n dX2_rightCheck_73 rfl ?_
        exact V_ireti dX2_rightCheck_74 rfl (Nat.le_of_ble_eq_true rfl) (Nat.le_of_ble_eq_true rfl) (hQ _ _ _ (iv (by rw [show i = 4 + D by omega])) rfl)
      · have hcb := crcN_b (g := g) i.toNat (fun k h0 h1 => hB k h0 (by omega))
        have hby := hB i (by omega) (by omega)
        refine V_iload_n dX2_rightCheck_15 rfl ?_
        refine V_aload_n dX2_rightCheck_16 rfl ?_
        refine V_getf fX2_26 dX2_rightCheck_17 hf rfl ?_
        refine V_iload_n dX2_rightCheck_20 rfl ?_
        refine I_iald dX2_rightCheck_21 hf1 ⟨by omega, by omega⟩ (by decide) ?_
        refine V_sipush (v := iI (256)) dX2_rightCheck_22 (by decide +kernel) ?_
        refine I_imul dX2_rightCheck_25 ?_
        refine I_ixor dX2_rightCheck_26 (by omega) (by omega) ?_
        refine V_istore_n (L' := [some _, some _, some _, some _, none]) dX2_rightCheck_27 rfl (by decide) rfl ?_
        refine V_iconst (v := iI (0)) dX2_rightCheck_28 rfl ?_
        refine V_istore (L' := [some _, some _, some _, some _, some _]) dX2_rightCheck_29 (by decide) rfl ?_
        have key31 : ∀ (d : Nat) (j : Int) (sz : Nat), (0 ≤ j ∧ j ≤ 8) → (8 - j).toNat = d → V l G A (rmN 2) RX2 "rightCheck" cX2_rightCheck 5 (some .int) Q nX 0 0 M sz 31 [some (.ref f), some (.int (iI (4 + D))), some (.int (iI (crcb (zx (crcN g i.toNat) (g i * 256)) j.toNat))), some (.int (iI i)), some (.int (iI j))] [] := by
          intro d
          induction d using Nat.strongRecOn with
          | ind d ih31 =>
            intro j  sz hj hd31
            refine V_iload dX2_rightCheck_31 rfl ?_
            refine V_bipush (v := iI (8)) dX2_rightCheck_33 (by decide +kernel) ?_
            refine I_icmp_ge (tgt := 67) dX2_rightCheck_35 (by decide) ⟨by omega, by omega⟩ ⟨by omega, by omega⟩ (fun h35 => ?_) (fun h35 => ?_)
            · refine I_iinc (L' := [some _, some _, some _, some _, some _]) dX2_rightCheck_67 rfl (by decide) rfl ?_
              refine V_goto (tgt := 10) dX2_rightCheck_70 (by decide) ?_
              exact V_wk' (ih10 _ (by omega) (i + 1) sz ⟨by omega, by omega⟩ rfl) ⟨rfl, rfl, (vi (by rw [crcN_s hi.1, show j = 8 by omega]; rfl)), rfl, trivial⟩
            · obtain ⟨x, hx⟩ : ∃ x, x = crcb (zx (crcN g i.toNat) (g i * 256)) j.toNat := ⟨_, rfl⟩
              have hxb := crcb_b (x := zx (crcN g i.toNat) (g i * 256)) ⟨zx_nn _ _, zx_lt 16 (by omega) (by omega)⟩ j.toNat
              rw [← hx] at hxb ⊢
              refine V_tern (J := 60) (v := .int (iI ((if x < 32768 then 2 * x else zx (2 * x) 4129) % 65536))) (fun sz => ?_) (fun j60 => ?_)
              · obtain ⟨v, hv⟩ : ∃ v, v = (if x < 32768 then 2 * x else zx (2 * x) 4129) % 65536 := ⟨_, rfl⟩
                rw [← hv]
                refine V_istore_n (L' := [some _, some _, some _, some _, some _]) dX2_rightCheck_60 rfl (by decide) rfl ?_
                refine I_iinc (L' := [some _, some _, some _, some _, some _]) dX2_rightCheck_61 rfl (by decide) rfl ?_
                refine V_goto (tgt := 31) dX2_rightCheck_64 (by decide) ?_
                exact V_wk' (ih31 _ (by omega) (j + 1) sz ⟨by omega, by omega⟩ rfl) ⟨rfl, rfl, (vi (by rw [crcb_s hj.1, ← hx, hv]; rfl)), rfl, rfl, trivial⟩
              · refine V_iload_n dX2_rightCheck_38 rfl ?_
                refine V_ldc (v := iI (32768)) dX2_rightCheck_39 (kC (by decide +kernel) kX2_47) ?_
                refine I_icmp_lt (tgt := 57) dX2_rightCheck_41 (by decide) ⟨by omega, by omega⟩ ⟨by omega, by omega⟩ (fun h41 => ?_) (fun h41 => ?_)
                · refine V_iconst (v := iI (2)) dX2_rightCheck_57 rfl ?_
                  refine V_iload_n dX2_rightCheck_58 rfl ?_
                  refine I_imul dX2_rightCheck_59 ?_
                  exact V_top (vi (by first | (rw [if_pos (by omega)]; omega) | rw [if_neg (by omega)])) (j60 _)
                · refine V_iconst (v := iI (2)) dX2_rightCheck_44 rfl ?_
                  refine V_iload_n dX2_rightCheck_45 rfl ?_
                  refine I_imul dX2_rightCheck_46 ?_
                  refine V_sipush (v := iI (4129)) dX2_rightCheck_47 (by decide +kernel) ?_
                  refine I_ixor dX2_rightCheck_50 (by omega) (by omega) ?_
                  refine V_ldc (v := iI (65535)) dX2_rightCheck_51 (kC (by decide +kernel) kX2_46) ?_
                  first | refine I_and255 dX2_rightCheck_53 ?_ | refine I_and65535 dX2_rightCheck_53 ?_ | refine I_and31 dX2_rightCheck_53 ?_
                  refine V_goto (tgt := 60) dX2_rightCheck_54 (by decide) ?_
                  exact V_top (vi (by first | (rw [if_pos (by omega)]; omega) | rw [if_neg (by omega)])) (j60 _)
        exact V_wk' (key31 _ 0 sz ⟨by omega, by omega⟩ rfl) ⟨rfl, rfl, rfl, rfl, rfl, trivial⟩
  exact V_wk' (key10 _ 0 sz ⟨by omega, by omega⟩ rfl) ⟨rfl, rfl, rfl, rfl, trivial⟩

set_option maxRecDepth 100000 in
set_option maxHeartbeats 4000000 in
theorem f_setRightCheck (l : Launch) (M : ME) (f : Nat) (D x1 x2 x3 : Int) (hf : M f = some (frO f D x1 x2 x3)) (g : Int → Int) (hf1 : M (f + 1) = some (aI 46 g)) (hD : 0 ≤ D ∧ D ≤ 40) (hB : ∀ k, 0 ≤ k → k < 4 + D → 0 ≤ g k ∧ g k ≤ 255) : CF l yX2_setRightCheck cX2_setRightCheck 3 (some .int) (rmN 3) [.ref f] M (some (.int (iI (crcN g (4 + D).toNat)))) (mu M (f + 1) (aI 46 (up (up g (4 + D) (crcN g (4 + D).toNat / 256)) (4 + D + 1) (crcN g (4 + D).toNat % 256)))) := by
  have hcb := crcN_b (g := g) (4 + D).toNat (fun k h0 h1 => hB k h0 (by omega))
  refine CF.of (L0 := [some _, none, none]) (by decide +kernel) rfl rfl (Nat.le_of_ble_eq_true rfl) rfl (fun G A Q sz hQ => ?_)
  refine V_aload_n dX2_setRightCheck_0 rfl ?_
  refine V_cV (vs := []) (f_rightCheck l _ f D x1 x2 x3 hf g hf1 hD hB) mX2_48 coX2_rightCheck dX2_setRightCheck_1 hf rfl rfl rfl (by decide) (Nat.le_of_ble_eq_true rfl) (Nat.le_of_ble_eq_true rfl) (Nat.le_of_ble_eq_true rfl) (fun sz => ?_)
  refine V_istore_n (L' := [some _, some _, none]) dX2_setRightCheck_4 rfl (by decide) rfl ?_
  refine V_aload_n dX2_setRightCheck_5 rfl ?_
  refine V_cV (vs := []) (f_checkPlace l _ f D x1 x2 x3 hf hD) mX2_42 coX2_checkPlace dX2_setRightCheck_6 hf rfl rfl rfl (by decide) (Nat.le_of_ble_eq_true rfl) (Nat.le_of_ble_eq_true rfl) (Nat.le_of_ble_eq_true rfl) (fun sz => ?_)
  refine V_istore_n (L' := [some _, some _, some _]) dX2_setRightCheck_9 rfl (by decide) rfl ?_
  refine V_aload_n dX2_setRightCheck_10 rfl ?_
  refine V_getf fX2_26 dX2_setRightCheck_11 hf rfl ?_
  refine V_iload_n dX2_setRightCheck_14 rfl ?_
  refine V_iload_n dX2_setRightCheck_15 rfl ?_
  refine V_sipush (v := iI (256)) dX2_setRightCheck_16 (by decide +kernel) ?_
  refine I_idiv dX2_setRightCheck_19 (by omega) (by omega) (by omega) (by omega) ?_
  refine I_iast dX2_setRightCheck_20 hf1 ⟨by omega, by omega⟩ (by decide) ?_
  refine V_aload_n dX2_setRightCheck_21 rfl ?_
  refine V_getf fX2_26 dX2_setRightCheck_22 ((mu_ne (by omega)).trans hf) rfl ?_
  refine V_iload_n dX2_setRightCheck_25 rfl ?_
  refine V_iconst (v := iI (1)) dX2_setRightCheck_26 rfl ?_
  refine I_iadd dX2_setRightCheck_27 ?_
  refine V_iload_n dX2_setRightCheck_28 rfl ?_
  refine V_sipush (v := iI (256)) dX2_setRightCheck_29 (by decide +kernel) ?_
  refine I_irem dX2_setRightCheck_32 (by omega) (by omega) (by omega) (by omega) ?_
  refine I_iast dX2_setRightCheck_33 mu_eq ⟨by omega, by omega⟩ (by decide) ?_
  refine V_iload_n dX2_setRightCheck_34 rfl ?_
  exact V_ireti dX2_setRightCheck_35 rfl (Nat.le_of_ble_eq_true rfl) (Nat.le_of_ble_eq_true rfl) (hQ _ _ _ rfl (by simp only [mu_mu]))

set_option maxRecDepth 100000 in
set_option maxHeartbeats 4000000 in
theorem f_fillIdle (l : Launch) (M : ME) (f : Nat) (D x1 x2 x3 : Int) (hf : M f = some (frO f D x1 x2 x3)) (g : Int → Int) (hf1 : M (f + 1) = some (aI 46 g)) (hD : 0 ≤ D ∧ D ≤ 40) : CP l yX2_fillIdle cX2_fillIdle 2 none (rmN 1) [.ref f] M (fun v M' => v = none ∧ ∃ g1 : Int → Int, M' = mu M (f + 1) (aI 46 g1) ∧ (g1 0 = g 0 ∧ g1 1 = g 1 ∧ g1 2 = g 2 ∧ g1 3 = 254) ∧ ∀ i, 0 ≤ i → i < D → g1 (4 + i) = 85) := by
  refine CP.of (L0 := [some _, none]) (by decide +kernel) rfl rfl (Nat.le_of_ble_eq_true rfl) rfl (fun G A Q sz hQ => ?_)
  refine V_aload_n dX2_fillIdle_0 rfl ?_
  refine V_getf fX2_26 dX2_fillIdle_1 hf rfl ?_
  refine V_iconst (v := iI (3)) dX2_fillIdle_4 rfl ?_
  refine V_sipush (v := iI (254)) dX2_fillIdle_5 (by decide +kernel) ?_
  refine I_iast dX2_fillIdle_8 hf1 ⟨by omega, by omega⟩ (by decide) ?_
  refine V_iconst (v := iI (0)) dX2_fillIdle_9 rfl ?_
  refine V_istore_n (L' := [some _, some _]) dX2_fillIdle_10 rfl (by decide) rfl ?_
  have key11 : ∀ (d : Nat) (i : Int) (g1 : Int → Int) (sz : Nat), (0 ≤ i ∧ i ≤ D) → ((g1 0 = g 0 ∧ g1 1 = g 1 ∧ g1 2 = g 2 ∧ g1 3 = 254) ∧ ∀ j, 0 ≤ j → j < i → g1 (4 + j) = 85) → (D - i).toNat = d → V l G A (rmN 1) RX2 "fillIdle" cX2_fillIdle 2 none Q nX 0 0 (mu M (f + 1) (aI 46 g1)) sz 11 [some (.ref f), some (.int (iI i))] [] := by
    intro d
    induction d using Nat.strongRecOn with
    | ind d ih11 =>
      intro i g1  sz hi h1 hd11
      refine V_iload_n dX2_fillIdle_11 rfl ?_
      refine V_aload_n dX2_fillIdle_12 rfl ?_
      refine V_getf fX2_9 dX2_fillIdle_13 ((mu_ne (by omega)).trans hf) rfl ?_
      refine I_icmp_ge (tgt := 41) dX2_fillIdle_16 (by decide) ⟨by omega, by omega⟩ ⟨by omega, by omega⟩ (fun h16 => ?_) (fun h16 => ?_)
      · exact V_ret dX2_fillIdle_41 rfl (Nat.le_of_ble_eq_true rfl) (Nat.le_of_ble_eq_true rfl) (hQ _ _ _ ⟨rfl, g1, rfl, h1.1, fun j a b => h1.2 j a (by omega)⟩)
      · refine V_iload_n dX2_fillIdle_19 rfl ?_
        refine V_bipush (v := iI (40)) dX2_fillIdle_20 (by decide +kernel) ?_
        refine I_icmp_ge_f (tgt := 41) dX2_fillIdle_22 (by decide) ⟨by omega, by omega⟩ ⟨by omega, by omega⟩ (by omega) ?_
        refine V_aload_n dX2_fillIdle_25 rfl ?_
        refine V_getf fX2_26 dX2_fillIdle_26 ((mu_ne (by omega)).trans hf) rfl ?_
        refine V_iconst (v := iI (4)) dX2_fillIdle_29 rfl ?_
        refine V_iload_n dX2_fillIdle_30 rfl ?_
        refine I_iadd dX2_fillIdle_31 ?_
        refine V_bipush (v := iI (85)) dX2_fillIdle_32 (by decide +kernel) ?_
        refine I_iast dX2_fillIdle_34 mu_eq ⟨by omega, by omega⟩ (by decide) ?_
        have hT1 : (up g1 (4 + i) 85 0 = g 0 ∧ up g1 (4 + i) 85 1 = g 1 ∧ up g1 (4 + i) 85 2 = g 2 ∧ up g1 (4 + i) 85 3 = 254) ∧ ∀ j, 0 ≤ j → j < i + 1 → up g1 (4 + i) 85 (4 + j) = 85 := by
          refine ⟨?_, fun j a b => ?_⟩
          · rw [up_n (by omega), up_n (by omega), up_n (by omega), up_n (by omega)]; exact h1.1
          · by_cases e : j = i
            · rw [e, up_s]
            · rw [up_n (by omega)]; exact h1.2 j a (by omega)
        refine I_iinc (L' := [some _, some _]) dX2_fillIdle_35 rfl (by decide) rfl ?_
        refine V_goto (tgt := 11) dX2_fillIdle_38 (by decide) ?_
        exact V_eqM (mu_mu) (V_wk' (ih11 _ (by omega) (i + 1) (up g1 (4 + i) 85) sz ⟨by omega, by omega⟩ hT1 rfl) ⟨rfl, rfl, trivial⟩)
  exact V_wk' (key11 _ 0 (up g 3 254) sz ⟨by omega, by omega⟩ ⟨⟨up_n (by omega), up_n (by omega), up_n (by omega), up_s⟩, fun j a b => by omega⟩ rfl) ⟨rfl, rfl, trivial⟩

set_option maxRecDepth 100000 in
set_option maxHeartbeats 4000000 in
theorem f_copyFrom (l : Launch) (M : ME) (f f2 : Nat) (hd : f + 2 ≤ f2 ∨ f2 + 2 ≤ f) (φ1 φ : Int → Int) (n1 n : Int) (h1 : FO M f φ1 n1) (h2 : FO M f2 φ n) (hn : n ≤ 46) : CP l yX2_copyFrom cX2_copyFrom 2 none (rmN 1) [.ref f, .ref f2] M (fun v M' => v = none ∧ FO M' f φ n ∧ FR M M' f 2) := by
  obtain ⟨g1, a1, a2, a3, a4⟩ := h1
  obtain ⟨g, b1, b2, b3, b4⟩ := h2
  refine CP.of (L0 := [some _, some _]) (by decide +kernel) rfl rfl (Nat.le_of_ble_eq_true rfl) rfl (fun G A Q sz hQ => ?_)
  refine V_aload_n dX2_copyFrom_0 rfl ?_
  refine V_aload_n dX2_copyFrom_1 rfl ?_
  refine V_getf fX2_9 dX2_copyFrom_2 b1 rfl ?_
  refine V_putf fX2_9 dX2_copyFrom_5 a1 rfl rfl (by simp) ?_
  refine V_aload_n dX2_copyFrom_8 rfl ?_
  refine V_aload_n dX2_copyFrom_9 rfl ?_
  refine V_getf fX2_15 dX2_copyFrom_10 ((mu_ne (by omega)).trans b1) rfl ?_
  refine V_putf fX2_15 dX2_copyFrom_13 mu_eq (nrB b3) (ftB b3) (by simp) ?_
  refine V_aload_n dX2_copyFrom_16 rfl ?_
  refine V_aload_n dX2_copyFrom_17 rfl ?_
  refine V_getf fX2_19 dX2_copyFrom_18 ((mu_ne (by omega)).trans ((mu_ne (by omega)).trans b1)) rfl ?_
  refine V_putf fX2_19 dX2_copyFrom_21 mu_eq rfl rfl (by simp) ?_
  refine V_aload_n dX2_copyFrom_24 rfl ?_
  refine V_aload_n dX2_copyFrom_25 rfl ?_
  refine V_getf fX2_23 dX2_copyFrom_26 ((mu_ne (by omega)).trans ((mu_ne (by omega)).trans ((mu_ne (by omega)).trans b1))) rfl ?_
  refine V_putf fX2_23 dX2_copyFrom_29 mu_eq rfl rfl (by simp) ?_
  refine V_aload_n dX2_copyFrom_32 rfl ?_
  refine V_getf fX2_26 dX2_copyFrom_33 ((mu_ne (by omega)).trans ((mu_ne (by omega)).trans ((mu_ne (by omega)).trans ((mu_ne (by omega)).trans b1)))) rfl ?_
  refine V_iconst (v := iI (0)) dX2_copyFrom_36 rfl ?_
  refine V_aload_n dX2_copyFrom_37 rfl ?_
  refine V_getf fX2_26 dX2_copyFrom_38 mu_eq rfl ?_
  refine V_iconst (v := iI (0)) dX2_copyFrom_41 rfl ?_
  refine V_bipush (v := iI (46)) dX2_copyFrom_42 (by decide +kernel) ?_
  refine I_copy (by decide) mX2_30 dX2_copyFrom_44 ((mu_ne (by omega)).trans ((mu_ne (by omega)).trans ((mu_ne (by omega)).trans ((mu_ne (by omega)).trans b2)))) ((mu_ne (by omega)).trans ((mu_ne (by omega)).trans ((mu_ne (by omega)).trans ((mu_ne (by omega)).trans a2)))) (by decide) (by decide) (by decide) (by decide) (by decide) (by decide) fun sz => ?_
  exact V_ret dX2_copyFrom_47 rfl (Nat.le_of_ble_eq_true rfl) (Nat.le_of_ble_eq_true rfl) (hQ _ _ _ ⟨rfl, ⟨_, (mu_ne (by omega)).trans (by simp only [mu_mu]; exact mu_eq), mu_eq, b3, fun k c d => by unfold cpI; rw [if_pos (by omega), show (0 : Int) + (k - 0) = k by omega]; exact b4 k c d⟩, ((((FR.rf.mu (by omega)).mu (by omega)).mu (by omega)).mu (by omega)).mu (by omega)⟩)
