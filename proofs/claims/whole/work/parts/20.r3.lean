def crc1 (x : Int) : Int := (if x < 32768 then 2 * x else zx (2 * x) 4129) % 65536
def crcb (x : Int) : Nat → Int
  | 0 => x
  | n + 1 => crc1 (crcb x n)
/-- the check value of n bytes -/
def crcN (g : Int → Int) : Nat → Int
  | 0 => 65535
  | n + 1 => crcb (zx (crcN g n) (g n * 256)) 8
theorem zx_nn (a b : Int) : 0 ≤ zx a b := by unfold zx; omega
theorem zx_lt {a b : Int} (k : Nat) (ha : a < (2 ^ k : Nat)) (hb : b < (2 ^ k : Nat)) : zx a b < (2 ^ k : Nat) := by
  unfold zx
  have h0 : 0 < 2 ^ k := Nat.two_pow_pos k
  have := Nat.xor_lt_two_pow (x := a.toNat) (y := b.toNat) (n := k) (by omega) (by omega)
  omega
theorem crc1_b (x : Int) : 0 ≤ crc1 x ∧ crc1 x < 65536 := by unfold crc1; omega
theorem crcb_b {x : Int} (hx : 0 ≤ x ∧ x < 65536) : ∀ n : Nat, 0 ≤ crcb x n ∧ crcb x n < 65536
  | 0 => hx
  | n + 1 => crc1_b _
theorem crcN_b {g : Int → Int} : ∀ n : Nat, (∀ k : Int, 0 ≤ k → k < n → 0 ≤ g k ∧ g k ≤ 255) → 0 ≤ crcN g n ∧ crcN g n < 65536
  | 0, _ => by show 0 ≤ (65535 : Int) ∧ (65535 : Int) < 65536; omega
  | n + 1, h => by
    have h1 := crcN_b n (fun k h0 hk => h k h0 (by omega))
    have h2 := h n (by omega) (by omega)
    exact crcb_b ⟨zx_nn _ _, zx_lt 16 (by omega) (by omega)⟩ 8
theorem crcN_s {g : Int → Int} {i : Int} (h : 0 ≤ i) : crcN g (i + 1).toNat = crcb (zx (crcN g i.toNat) (g i * 256)) 8 := by
  rw [show (i + 1).toNat = i.toNat + 1 by omega]
  show crcb (zx (crcN g i.toNat) (g (i.toNat : Int) * 256)) 8 = _
  rw [Int.toNat_of_nonneg h]
theorem crcb_s {x i : Int} (h : 0 ≤ i) : crcb x (i + 1).toNat = crc1 (crcb x i.toNat) := by
  rw [show (i + 1).toNat = i.toNat + 1 by omega]
  rfl
theorem crcN_cg {g g' : Int → Int} : ∀ n : Nat, (∀ k : Int, 0 ≤ k → k < n → g k = g' k) → crcN g n = crcN g' n
  | 0, _ => rfl
  | n + 1, h => by
    show crcb (zx (crcN g n) (g n * 256)) 8 = crcb (zx (crcN g' n) (g' n * 256)) 8
    rw [crcN_cg n (fun k h0 hk => h k h0 (by omega)), h n (by omega) (by omega)]
/-- where a frame's check value stands; the check value of its bytes -/
def ckp (ρ : Int → Int) (f : Int) : Int := 383 + 50 * f + 4 + 4 + ρ (383 + 50 * f)
def crcF (ρ : Int → Int) (f : Int) : Int := crcN (fun k => ρ (383 + 50 * f + 4 + k)) (4 + ρ (383 + 50 * f)).toNat
def rlay (ρ : Int → Int) (f : Int) : Int → Int := up (up ρ (ckp ρ f) (crcF ρ f / 256)) (ckp ρ f + 1) (crcF ρ f % 256)
def ckv (ρ : Int → Int) (f : Int) : Int := 256 * ρ (ckp ρ f) + ρ (ckp ρ f + 1)
/-- a frame's row is as it should be -/
def Ff (ρ : Int → Int) (f : Int) : Prop := (0 ≤ ρ (383 + 50 * f) ∧ ρ (383 + 50 * f) ≤ 40) ∧ ∀ k, 0 ≤ k → k < 4 + ρ (383 + 50 * f) → 0 ≤ ρ (383 + 50 * f + 4 + k) ∧ ρ (383 + 50 * f + 4 + k) ≤ 255
theorem crcF_b {ρ : Int → Int} {f : Int} (h : Ff ρ f) : 0 ≤ crcF ρ f ∧ crcF ρ f < 65536 := crcN_b _ fun k h0 h1 => h.2 k h0 (by have := h.1; omega)

set_option maxRecDepth 100000 in
set_option maxHeartbeats 4000000 in
theorem r_frameAt (l : Launch) (M0 : ME) (r : Nat) (ρ π : Int → Int) (sv rf hs f : Int) : CF l yX11_frameAt cX11_frameAt 2 (some .int) (rmN 1) [.ref r, .int (iI f)] (rM M0 r ρ π sv rf hs) (some (.int (iI (383 + 50 * f)))) (rM M0 r ρ π sv rf hs) := by
  refine CF.of (L0 := [some _, some _]) (by decide +kernel) rfl rfl (Nat.le_of_ble_eq_true rfl) rfl (fun G A Q sz hQ => ?_)
  refine V_sipush (v := iI (383)) dX11_frameAt_0 (by decide +kernel) ?_
  refine V_bipush (v := iI (50)) dX11_frameAt_3 (by decide +kernel) ?_
  refine V_iload_n dX11_frameAt_5 rfl ?_
  refine I_imul dX11_frameAt_6 ?_
  refine I_iadd dX11_frameAt_7 ?_
  exact V_ireti dX11_frameAt_8 rfl (Nat.le_of_ble_eq_true rfl) (Nat.le_of_ble_eq_true rfl) (hQ _ _ _ rfl rfl)

set_option maxRecDepth 100000 in
set_option maxHeartbeats 4000000 in
theorem r_checked (l : Launch) (M0 : ME) (r : Nat) (ρ π : Int → Int) (sv rf hs : Int) (f : Int) (hf : 0 ≤ f ∧ f ≤ 59) (hF : Ff ρ f) : CF l yX11_checked cX11_checked 5 (some .int) (rmN 2) [.ref r, .int (iI f)] (rM M0 r ρ π sv rf hs) (some (.int (iI (crcF ρ f)))) (rM M0 r ρ π sv rf hs) := by
  have hF1 := hF.1
  refine CF.of (L0 := [some _, some _, none, none, none]) (by decide +kernel) rfl rfl (Nat.le_of_ble_eq_true rfl) rfl (fun G A Q sz hQ => ?_)
  refine V_ldc (v := iI (65535)) dX11_checked_0 (kC (by decide +kernel) kX11_99) ?_
  refine V_istore_n (L' := [some _, some _, some _, none, none]) dX11_checked_2 rfl (by decide) rfl ?_
  refine V_iconst (v := iI (0)) dX11_checked_3 rfl ?_
  refine V_istore_n (L' := [some _, some _, some _, some _, none]) dX11_checked_4 rfl (by decide) rfl ?_
  have key5 : ∀ (d : Nat) (i : Int) (sz : Nat), 0 ≤ i ∧ i ≤ 4 + ρ (383 + 50 * f) → (4 + ρ (383 + 50 * f) - i).toNat = d → V l G A (rmN 2) RX11 "checked" cX11_checked 5 (some .int) Q nX 0 0 (rM M0 r ρ π sv rf hs) sz 5 [some (.ref r), some (.int (iI f)), some (.int (iI (crcN (fun k => ρ (383 + 50 * f + 4 + k)) i.toNat))), some (.int (iI i)), none] [] := by
    intro d
    induction d using Nat.strongRecOn with
    | ind d ih5 =>
      intro i  sz hi hd5
      refine V_iload_n dX11_checked_5 rfl ?_
      refine V_iconst (v := iI (4)) dX11_checked_6 rfl ?_
      refine V_aload_n dX11_checked_7 rfl ?_
      refine V_getf fX11_7 dX11_checked_8 rM_0 rfl ?_
      refine V_aload_n dX11_checked_11 rfl ?_
      refine V_iload_n dX11_checked_12 rfl ?_
      refine V_cV (vs := [_]) (r_frameAt l _ _ _ _ _ _ _ f) mX11_100 coX11_frameAt dX11_checked_13 rM_0 rfl rfl rfl (by decide) (Nat.le_of_ble_eq_true rfl) (Nat.le_of_ble_eq_true rfl) (Nat.le_of_ble_eq_true rfl) (fun sz => ?_)
      refine R_iald dX11_checked_16 ⟨by omega, by omega⟩ ?_
      refine I_iadd dX11_checked_17 ?_
      refine I_icmp_ge (tgt := 86) dX11_checked_18 (by decide) ⟨by omega, by omega⟩ ⟨by omega, by omega⟩ (fun h18 => ?_) (fun h18 => ?_)
      · refine V_iload_n dX11_checked_86 rfl ?_
        exact V_ireti dX11_checked_87 rfl (Nat.le_of_ble_eq_true rfl) (Nat.le_of_ble_eq_true rfl) (hQ _ _ _ (iv (by unfold crcF; rw [show i = 4 + ρ (383 + 50 * f) by omega])) rfl)
      · have hcb := crcN_b (g := (fun k => ρ (383 + 50 * f + 4 + k))) i.toNat (fun k h0 h1 => hF.2 k h0 (by omega))
        have hby := hF.2 i (by omega) (by omega)
        refine V_iload_n dX11_checked_21 rfl ?_
        refine V_aload_n dX11_checked_22 rfl ?_
        refine V_getf fX11_7 dX11_checked_23 rM_0 rfl ?_
        refine V_aload_n dX11_checked_26 rfl ?_
        refine V_iload_n dX11_checked_27 rfl ?_
        refine V_cV (vs := [_]) (r_frameAt l _ _ _ _ _ _ _ f) mX11_100 coX11_frameAt dX11_checked_28 rM_0 rfl rfl rfl (by decide) (Nat.le_of_ble_eq_true rfl) (Nat.le_of_ble_eq_true rfl) (Nat.le_of_ble_eq_true rfl) (fun sz => ?_)
        refine V_iconst (v := iI (4)) dX11_checked_31 rfl ?_
        refine I_iadd dX11_checked_32 ?_
        refine V_iload_n dX11_checked_33 rfl ?_
        refine I_iadd dX11_checked_34 ?_
        refine R_iald dX11_checked_35 ⟨by omega, by omega⟩ ?_
        refine V_bipush (v := iI (8)) dX11_checked_36 (by decide +kernel) ?_
        refine I_ishl8 dX11_checked_38 ?_
        refine I_ixor dX11_checked_39 (by omega) (by omega) ?_
        refine V_istore_n (L' := [some _, some _, some _, some _, none]) dX11_checked_40 rfl (by decide) rfl ?_
        refine V_iconst (v := iI (0)) dX11_checked_41 rfl ?_
        refine V_istore (L' := [some _, some _, some _, some _, some _]) dX11_checked_42 (by decide) rfl ?_
        have key44 : ∀ (d : Nat) (j : Int) (sz : Nat), 0 ≤ j ∧ j ≤ 8 → (8 - j).toNat = d → V l G A (rmN 2) RX11 "checked" cX11_checked 5 (some .int) Q nX 0 0 (rM M0 r ρ π sv rf hs) sz 44 [some (.ref r), some (.int (iI f)), some (.int (iI (crcb (zx (crcN (fun k => ρ (383 + 50 * f + 4 + k)) i.toNat) ((fun k => ρ (383 + 50 * f + 4 + k)) i * 256)) j.toNat))), some (.int (iI i)), some (.int (iI j))] [] := by
          intro d
          induction d using Nat.strongRecOn with
          | ind d ih44 =>
            intro j  sz hj hd44
            refine V_iload dX11_checked_44 rfl ?_
            refine V_bipush (v := iI (8)) dX11_checked_46 (by decide +kernel) ?_
            refine I_icmp_ge (tgt := 80) dX11_checked_48 (by decide) ⟨by omega, by omega⟩ ⟨by omega, by omega⟩ (fun h48 => ?_) (fun h48 => ?_)
            · refine I_iinc (L' := [some _, some _, some _, some _, some _]) dX11_checked_80 rfl (by decide) rfl ?_
              refine V_goto (tgt := 5) dX11_checked_83 (by decide) ?_
              exact V_wk' (ih5 _ (by omega) (i + 1) sz ⟨by omega, by omega⟩ rfl) ⟨rfl, rfl, (vi (by rw [crcN_s hi.1, show j = 8 by omega]; rfl)), rfl, trivial⟩
            · obtain ⟨x, hx⟩ : ∃ x, x = crcb (zx (crcN (fun k => ρ (383 + 50 * f + 4 + k)) i.toNat) ((fun k => ρ (383 + 50 * f + 4 + k)) i * 256)) j.toNat := ⟨_, rfl⟩
              have hxb := crcb_b (x := zx (crcN (fun k => ρ (383 + 50 * f + 4 + k)) i.toNat) ((fun k => ρ (383 + 50 * f + 4 + k)) i * 256)) ⟨zx_nn _ _, zx_lt 16 (by omega) (by show ρ (383 + 50 * f + 4 + i) * 256 < _; omega)⟩ j.toNat
              rw [← hx] at hxb ⊢
              refine V_tern (J := 70) (v := .int (iI (if x < 32768 then 2 * x else zx (2 * x) 4129))) (fun sz => ?_) (fun j70 => ?_)
              · obtain ⟨v, hv⟩ : ∃ v, v = (if x < 32768 then 2 * x else zx (2 * x) 4129) := ⟨_, rfl⟩
                have hvb : 0 ≤ v ∧ v < 262144 := by
                  rw [hv]
                  split
                  · omega
                  · exact ⟨zx_nn _ _, zx_lt 18 (by omega) (by omega)⟩
                rw [← hv]
                refine V_ldc (v := iI (65536)) dX11_checked_70 (kC (by decide +kernel) kX11_104) ?_
                refine I_irem dX11_checked_72 (by omega) (by omega) (by omega) (by omega) ?_
                refine V_istore_n (L' := [some _, some _, some _, some _, some _]) dX11_checked_73 rfl (by decide) rfl ?_
                refine I_iinc (L' := [some _, some _, some _, some _, some _]) dX11_checked_74 rfl (by decide) rfl ?_
                refine V_goto (tgt := 44) dX11_checked_77 (by decide) ?_
                exact V_wk' (ih44 _ (by omega) (j + 1) sz ⟨by omega, by omega⟩ rfl) ⟨rfl, rfl, (vi (by rw [crcb_s hj.1, ← hx, hv]; rfl)), rfl, rfl, trivial⟩
              · refine V_iload_n dX11_checked_51 rfl ?_
                refine V_ldc (v := iI (32768)) dX11_checked_52 (kC (by decide +kernel) kX11_103) ?_
                refine I_icmp_ge (tgt := 63) dX11_checked_54 (by decide) ⟨by omega, by omega⟩ ⟨by omega, by omega⟩ (fun h54 => ?_) (fun h54 => ?_)
                · refine V_iconst (v := iI (2)) dX11_checked_63 rfl ?_
                  refine V_iload_n dX11_checked_64 rfl ?_
                  refine I_imul dX11_checked_65 ?_
                  refine V_sipush (v := iI (4129)) dX11_checked_66 (by decide +kernel) ?_
                  refine I_ixor dX11_checked_69 (by omega) (by omega) ?_
                  exact V_top (vi (by first | rw [if_pos (by omega)] | rw [if_neg (by omega)])) (j70 _)
                · refine V_iconst (v := iI (2)) dX11_checked_57 rfl ?_
                  refine V_iload_n dX11_checked_58 rfl ?_
                  refine I_imul dX11_checked_59 ?_
                  refine V_goto (tgt := 70) dX11_checked_60 (by decide) ?_
                  exact V_top (vi (by first | rw [if_pos (by omega)] | rw [if_neg (by omega)])) (j70 _)
        exact V_wk' (key44 _ 0 sz ⟨by omega, by omega⟩ rfl) ⟨rfl, rfl, rfl, rfl, rfl, trivial⟩
  exact V_wk' (key5 _ 0 sz ⟨by omega, by omega⟩ rfl) ⟨rfl, rfl, rfl, rfl, trivial⟩

theorem crcF_up {ρ : Int → Int} {f v : Int} (h : 0 ≤ ρ (383 + 50 * f)) : crcF (up ρ (ckp ρ f) v) f = crcF ρ f := by
  unfold crcF
  rw [up_n (show (383 + 50 * f : Int) ≠ ckp ρ f by unfold ckp; omega)]
  exact crcN_cg _ fun k h0 hk => up_n (by unfold ckp; omega)
theorem Ff_up {ρ : Int → Int} {f v : Int} (h : Ff ρ f) : Ff (up ρ (ckp ρ f) v) f := by
  have h1 := h.1
  refine ⟨by rw [up_n (show (383 + 50 * f : Int) ≠ ckp ρ f by unfold ckp; omega)]; exact h1, fun k h0 hk => ?_⟩
  rw [up_n (show (383 + 50 * f : Int) ≠ ckp ρ f by unfold ckp; omega)] at hk
  rw [up_n (show (383 + 50 * f + 4 + k : Int) ≠ ckp ρ f by unfold ckp; omega)]
  exact h.2 k h0 hk

set_option maxRecDepth 100000 in
set_option maxHeartbeats 4000000 in
theorem r_laysCheck (l : Launch) (M0 : ME) (r : Nat) (ρ π : Int → Int) (sv rf hs : Int) (f : Int) (hf : 0 ≤ f ∧ f ≤ 59) (hF : Ff ρ f) : CF l yX11_laysCheck cX11_laysCheck 3 none (rmN 3) [.ref r, .int (iI f)] (rM M0 r ρ π sv rf hs) none (rM M0 r (rlay ρ f) π sv rf hs) := by
  have hF1 := hF.1
  have hcb := crcF_b hF
  refine CF.of (L0 := [some _, some _, none]) (by decide +kernel) rfl rfl (Nat.le_of_ble_eq_true rfl) rfl (fun G A Q sz hQ => ?_)
  refine V_aload_n dX11_laysCheck_0 rfl ?_
  refine V_iload_n dX11_laysCheck_1 rfl ?_
  refine V_cV (vs := [_]) (r_frameAt l _ _ _ _ _ _ _ f) mX11_100 coX11_frameAt dX11_laysCheck_2 rM_0 rfl rfl rfl (by decide) (Nat.le_of_ble_eq_true rfl) (Nat.le_of_ble_eq_true rfl) (Nat.le_of_ble_eq_true rfl) (fun sz => ?_)
  refine V_iconst (v := iI (4)) dX11_laysCheck_5 rfl ?_
  refine I_iadd dX11_laysCheck_6 ?_
  refine V_iconst (v := iI (4)) dX11_laysCheck_7 rfl ?_
  refine I_iadd dX11_laysCheck_8 ?_
  refine V_aload_n dX11_laysCheck_9 rfl ?_
  refine V_getf fX11_7 dX11_laysCheck_10 rM_0 rfl ?_
  refine V_aload_n dX11_laysCheck_13 rfl ?_
  refine V_iload_n dX11_laysCheck_14 rfl ?_
  refine V_cV (vs := [_]) (r_frameAt l _ _ _ _ _ _ _ f) mX11_100 coX11_frameAt dX11_laysCheck_15 rM_0 rfl rfl rfl (by decide) (Nat.le_of_ble_eq_true rfl) (Nat.le_of_ble_eq_true rfl) (Nat.le_of_ble_eq_true rfl) (fun sz => ?_)
  refine R_iald dX11_laysCheck_18 ⟨by omega, by omega⟩ ?_
  refine I_iadd dX11_laysCheck_19 ?_
  refine V_istore_n (L' := [some _, some _, some _]) dX11_laysCheck_20 rfl (by decide) rfl ?_
  refine V_aload_n dX11_laysCheck_21 rfl ?_
  refine V_getf fX11_7 dX11_laysCheck_22 rM_0 rfl ?_
  refine V_iload_n dX11_laysCheck_25 rfl ?_
  refine V_aload_n dX11_laysCheck_26 rfl ?_
  refine V_iload_n dX11_laysCheck_27 rfl ?_
  refine V_cV (vs := [_]) (r_checked l _ _ ρ _ _ _ _ f hf hF) mX11_105 coX11_checked dX11_laysCheck_28 rM_0 rfl rfl rfl (by decide) (Nat.le_of_ble_eq_true rfl) (Nat.le_of_ble_eq_true rfl) (Nat.le_of_ble_eq_true rfl) (fun sz => ?_)
  refine V_sipush (v := iI (256)) dX11_laysCheck_31 (by decide +kernel) ?_
  refine I_idiv dX11_laysCheck_34 (by omega) (by omega) (by omega) (by omega) ?_
  refine R_iast dX11_laysCheck_35 ⟨by omega, by omega⟩ ?_
  refine V_aload_n dX11_laysCheck_36 rfl ?_
  refine V_getf fX11_7 dX11_laysCheck_37 rM_0 rfl ?_
  refine V_iload_n dX11_laysCheck_40 rfl ?_
  refine V_iconst (v := iI (1)) dX11_laysCheck_41 rfl ?_
  refine I_iadd dX11_laysCheck_42 ?_
  refine V_aload_n dX11_laysCheck_43 rfl ?_
  refine V_iload_n dX11_laysCheck_44 rfl ?_
  refine V_cV (vs := [_]) (r_checked l _ _ (up ρ (383 + 50 * f + 4 + 4 + ρ (383 + 50 * f)) (crcF ρ f / 256)) _ _ _ _ f hf (Ff_up hF)) mX11_105 coX11_checked dX11_laysCheck_45 rM_0 rfl rfl rfl (by decide) (Nat.le_of_ble_eq_true rfl) (Nat.le_of_ble_eq_true rfl) (Nat.le_of_ble_eq_true rfl) (fun sz => ?_)
  rw [show crcF (up ρ (383 + 50 * f + 4 + 4 + ρ (383 + 50 * f)) (crcF ρ f / 256)) f = crcF ρ f from crcF_up hF1.1]
  refine V_sipush (v := iI (256)) dX11_laysCheck_48 (by decide +kernel) ?_
  refine I_irem dX11_laysCheck_51 (by omega) (by omega) (by omega) (by omega) ?_
  refine R_iast dX11_laysCheck_52 ⟨by omega, by omega⟩ ?_
  exact V_ret dX11_laysCheck_53 rfl (Nat.le_of_ble_eq_true rfl) (Nat.le_of_ble_eq_true rfl) (hQ _ _ _ rfl rfl)

set_option maxRecDepth 100000 in
set_option maxHeartbeats 4000000 in
theorem r_checkAt (l : Launch) (M0 : ME) (r : Nat) (ρ π : Int → Int) (sv rf hs : Int) (f : Int) (hf : 0 ≤ f ∧ f ≤ 59) (hF : 0 ≤ ρ (383 + 50 * f) ∧ ρ (383 + 50 * f) ≤ 40) : CF l yX11_checkAt cX11_checkAt 3 (some .int) (rmN 2) [.ref r, .int (iI f)] (rM M0 r ρ π sv rf hs) (some (.int (iI (ckv ρ f)))) (rM M0 r ρ π sv rf hs) := by
  refine CF.of (L0 := [some _, some _, none]) (by decide +kernel) rfl rfl (Nat.le_of_ble_eq_true rfl) rfl (fun G A Q sz hQ => ?_)
  refine V_aload_n dX11_checkAt_0 rfl ?_
  refine V_iload_n dX11_checkAt_1 rfl ?_
  refine V_cV (vs := [_]) (r_frameAt l _ _ _ _ _ _ _ f) mX11_100 coX11_frameAt dX11_checkAt_2 rM_0 rfl rfl rfl (by decide) (Nat.le_of_ble_eq_true rfl) (Nat.le_of_ble_eq_true rfl) (Nat.le_of_ble_eq_true rfl) (fun sz => ?_)
  refine V_iconst (v := iI (4)) dX11_checkAt_5 rfl ?_
  refine I_iadd dX11_checkAt_6 ?_
  refine V_iconst (v := iI (4)) dX11_checkAt_7 rfl ?_
  refine I_iadd dX11_checkAt_8 ?_
  refine V_aload_n dX11_checkAt_9 rfl ?_
  refine V_getf fX11_7 dX11_checkAt_10 rM_0 rfl ?_
  refine V_aload_n dX11_checkAt_13 rfl ?_
  refine V_iload_n dX11_checkAt_14 rfl ?_
  refine V_cV (vs := [_]) (r_frameAt l _ _ _ _ _ _ _ f) mX11_100 coX11_frameAt dX11_checkAt_15 rM_0 rfl rfl rfl (by decide) (Nat.le_of_ble_eq_true rfl) (Nat.le_of_ble_eq_true rfl) (Nat.le_of_ble_eq_true rfl) (fun sz => ?_)
  refine R_iald dX11_checkAt_18 ⟨by omega, by omega⟩ ?_
  refine I_iadd dX11_checkAt_19 ?_
  refine V_istore_n (L' := [some _, some _, some _]) dX11_checkAt_20 rfl (by decide) rfl ?_
  refine V_sipush (v := iI (256)) dX11_checkAt_21 (by decide +kernel) ?_
  refine V_aload_n dX11_checkAt_24 rfl ?_
  refine V_getf fX11_7 dX11_checkAt_25 rM_0 rfl ?_
  refine V_iload_n dX11_checkAt_28 rfl ?_
  refine R_iald dX11_checkAt_29 ⟨by omega, by omega⟩ ?_
  refine I_imul dX11_checkAt_30 ?_
  refine V_aload_n dX11_checkAt_31 rfl ?_
  refine V_getf fX11_7 dX11_checkAt_32 rM_0 rfl ?_
  refine V_iload_n dX11_checkAt_35 rfl ?_
  refine V_iconst (v := iI (1)) dX11_checkAt_36 rfl ?_
  refine I_iadd dX11_checkAt_37 ?_
  refine R_iald dX11_checkAt_38 ⟨by omega, by omega⟩ ?_
  refine I_iadd dX11_checkAt_39 ?_
  exact V_ireti dX11_checkAt_40 rfl (Nat.le_of_ble_eq_true rfl) (Nat.le_of_ble_eq_true rfl) (hQ _ _ _ rfl rfl)

/-- the channel of the next slot -/
def rch (ρ : Int → Int) : Int := if rbest ρ 1 4 = -1 then rbest ρ 0 4 else rbest ρ 1 4
theorem rch_b {ρ : Int → Int} : -1 ≤ rch ρ ∧ rch ρ ≤ 3 := by
  have h1 := rbest_b (ρ := ρ) (b := 1) 4
  have h0 := rbest_b (ρ := ρ) (b := 0) 4
  unfold rch
  split <;> omega
set_option maxRecDepth 100000 in
set_option maxHeartbeats 4000000 in
theorem r_chosen (l : Launch) (M0 : ME) (r : Nat) (ρ π : Int → Int) (sv rf hs : Int) (hQA : QA ρ) : CF l yX11_chosen cX11_chosen 2 (some .int) (rmN 5) [.ref r] (rM M0 r ρ π sv rf hs) (some (.int (iI (rch ρ)))) (rM M0 r ρ π sv rf hs) := by
  have hb1 := rbest_b (ρ := ρ) (b := 1) 4
  refine CF.of (L0 := [some _, none]) (by decide +kernel) rfl rfl (Nat.le_of_ble_eq_true rfl) rfl (fun G A Q sz hQ => ?_)
  refine V_aload_n dX11_chosen_0 rfl ?_
  refine V_iconst (v := iI (1)) dX11_chosen_1 rfl ?_
  refine V_cV (vs := [_]) (r_best l _ _ ρ _ _ _ _ 1 (Or.inr rfl) hQA) mX11_91 coX11_best dX11_chosen_2 rM_0 rfl rfl rfl (by decide) (Nat.le_of_ble_eq_true rfl) (Nat.le_of_ble_eq_true rfl) (Nat.le_of_ble_eq_true rfl) (fun sz => ?_)
  refine V_istore_n (L' := [some _, some _]) dX11_chosen_5 rfl (by decide) rfl ?_
  refine V_iload_n dX11_chosen_6 rfl ?_
  refine V_iconst (v := iI (-1)) dX11_chosen_7 rfl ?_
  refine I_icmp_ne (tgt := 19) dX11_chosen_8 (by decide) ⟨by omega, by omega⟩ ⟨by omega, by omega⟩ (fun h8 => ?_) (fun h8 => ?_)
  · refine V_iload_n dX11_chosen_19 rfl ?_
    exact V_ireti dX11_chosen_20 rfl (Nat.le_of_ble_eq_true rfl) (Nat.le_of_ble_eq_true rfl) (hQ _ _ _ (iv (by unfold rch; first | exact (if_pos (by omega)).symm | exact (if_neg (by omega)).symm)) rfl)
  · refine V_aload_n dX11_chosen_11 rfl ?_
    refine V_iconst (v := iI (0)) dX11_chosen_12 rfl ?_
    refine V_cV (vs := [_]) (r_best l _ _ ρ _ _ _ _ 0 (Or.inl rfl) hQA) mX11_91 coX11_best dX11_chosen_13 rM_0 rfl rfl rfl (by decide) (Nat.le_of_ble_eq_true rfl) (Nat.le_of_ble_eq_true rfl) (Nat.le_of_ble_eq_true rfl) (fun sz => ?_)
    refine V_goto (tgt := 20) dX11_chosen_16 (by decide) ?_
    exact V_ireti dX11_chosen_20 rfl (Nat.le_of_ble_eq_true rfl) (Nat.le_of_ble_eq_true rfl) (hQ _ _ _ (iv (by unfold rch; first | exact (if_pos (by omega)).symm | exact (if_neg (by omega)).symm)) rfl)

/-- a value of a queue -/
def rq (ρ : Int → Int) (c w : Int) : Int := if w = 0 then pin ρ c else if w = 1 then pend ρ c else ρ (37 + c)

set_option maxRecDepth 100000 in
set_option maxHeartbeats 4000000 in
theorem r_queueOf (l : Launch) (M0 : ME) (r : Nat) (ρ π : Int → Int) (sv rf hs : Int) (c : Int) (hc : 0 ≤ c ∧ c ≤ 3) (w : Int) (hw : r32 w) (hq : Qc ρ c) : CF l yX11_queueOf cX11_queueOf 3 (some .int) (rmN 3) [.ref r, .int (iI c), .int (iI w)] (rM M0 r ρ π sv rf hs) (some (.int (iI (rq ρ c w)))) (rM M0 r ρ π sv rf hs) := by
  refine CF.of (L0 := [some _, some _, some _]) (by decide +kernel) rfl rfl (Nat.le_of_ble_eq_true rfl) rfl (fun G A Q sz hQ => ?_)
  refine V_iload_n dX11_queueOf_0 rfl ?_
  refine I_if_ne (tgt := 12) dX11_queueOf_1 (by decide) hw (fun h1 => ?_) (fun h1 => ?_)
  · refine V_iload_n dX11_queueOf_12 rfl ?_
    refine V_iconst (v := iI (1)) dX11_queueOf_13 rfl ?_
    refine I_icmp_ne (tgt := 25) dX11_queueOf_14 (by decide) hw ⟨by omega, by omega⟩ (fun h14 => ?_) (fun h14 => ?_)
    · refine V_aload_n dX11_queueOf_25 rfl ?_
      refine V_getf fX11_7 dX11_queueOf_26 rM_0 rfl ?_
      refine V_bipush (v := iI (37)) dX11_queueOf_29 (by decide +kernel) ?_
      refine V_iload_n dX11_queueOf_31 rfl ?_
      refine I_iadd dX11_queueOf_32 ?_
      refine R_iald dX11_queueOf_33 ⟨by omega, by omega⟩ ?_
      exact V_ireti dX11_queueOf_34 rfl (Nat.le_of_ble_eq_true rfl) (Nat.le_of_ble_eq_true rfl) (hQ _ _ _ (iv (by unfold rq; first | (rw [if_pos (by omega)]; done) | (rw [if_neg (by omega), if_pos (by omega)]; done) | (rw [if_neg (by omega), if_neg (by omega)]; done))) rfl)
    · refine V_aload_n dX11_queueOf_17 rfl ?_
      refine V_iload_n dX11_queueOf_18 rfl ?_
      refine V_cV (vs := [_]) (r_pending l _ _ ρ _ _ _ _ c hc hq.m) mX11_41 coX11_pending dX11_queueOf_19 rM_0 rfl rfl rfl (by decide) (Nat.le_of_ble_eq_true rfl) (Nat.le_of_ble_eq_true rfl) (Nat.le_of_ble_eq_true rfl) (fun sz => ?_)
      refine V_goto (tgt := 34) dX11_queueOf_22 (by decide) ?_
      exact V_ireti dX11_queueOf_34 rfl (Nat.le_of_ble_eq_true rfl) (Nat.le_of_ble_eq_true rfl) (hQ _ _ _ (iv (by unfold rq; first | (rw [if_pos (by omega)]; done) | (rw [if_neg (by omega), if_pos (by omega)]; done) | (rw [if_neg (by omega), if_neg (by omega)]; done))) rfl)
  · refine V_aload_n dX11_queueOf_4 rfl ?_
    refine V_iload_n dX11_queueOf_5 rfl ?_
    refine V_cV (vs := [_]) (r_packetsIn l _ _ ρ _ _ _ _ c hc hq.m hq.r) mX11_69 coX11_packetsIn dX11_queueOf_6 rM_0 rfl rfl rfl (by decide) (Nat.le_of_ble_eq_true rfl) (Nat.le_of_ble_eq_true rfl) (Nat.le_of_ble_eq_true rfl) (fun sz => ?_)
    refine V_goto (tgt := 34) dX11_queueOf_9 (by decide) ?_
    exact V_ireti dX11_queueOf_34 rfl (Nat.le_of_ble_eq_true rfl) (Nat.le_of_ble_eq_true rfl) (hQ _ _ _ (iv (by unfold rq; first | (rw [if_pos (by omega)]; done) | (rw [if_neg (by omega), if_pos (by omega)]; done) | (rw [if_neg (by omega), if_neg (by omega)]; done))) rfl)
