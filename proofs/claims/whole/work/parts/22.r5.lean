/-- rows copied: j cells of ρ to b.. of π; j cells of π from b on to ρ -/
def pcp (ρ π : Int → Int) (b j : Int) : Int → Int := fun q => if b ≤ q ∧ q < b + j then ρ (q - b) else π q
theorem pcp_0 {ρ π : Int → Int} {b : Int} : pcp ρ π b 0 = π := by
  funext q; unfold pcp; rw [if_neg (by omega)]
theorem pcp_s {ρ π : Int → Int} {b j : Int} (h : 0 ≤ j) : up (pcp ρ π b j) (b + j) (ρ j) = pcp ρ π b (j + 1) := by
  funext q
  unfold up pcp
  by_cases hq : q = b + j
  · subst hq
    rw [if_pos rfl, if_pos (by omega), show b + j - b = j by omega]
  · rw [if_neg hq]
    by_cases h2 : b ≤ q ∧ q < b + j
    · rw [if_pos h2, if_pos (by omega)]
    · rw [if_neg h2, if_neg (by omega)]
def bcp (ρ π : Int → Int) (b j : Int) : Int → Int := fun q => if 0 ≤ q ∧ q < j then π (b + q) else ρ q
theorem bcp_0 {ρ π : Int → Int} {b : Int} : bcp ρ π b 0 = ρ := by
  funext q; unfold bcp; rw [if_neg (by omega)]
theorem bcp_s {ρ π : Int → Int} {b j : Int} (h : 0 ≤ j) : up (bcp ρ π b j) j (π (b + j)) = bcp ρ π b (j + 1) := by
  funext q
  unfold up bcp
  by_cases hq : q = j
  · subst hq
    rw [if_pos rfl, if_pos (by omega)]
  · rw [if_neg hq]
    by_cases h2 : 0 ≤ q ∧ q < j
    · rw [if_pos h2, if_pos (by omega)]
    · rw [if_neg h2, if_neg (by omega)]
/-- the state is saved -/
def svP (ρ π : Int → Int) (sv : Int) : Int → Int := if sv = 3 then pcp ρ (shl 12309 π 0 24618) (12309 * 2) 12309 else pcp ρ π (12309 * sv) 12309
def svS (sv : Int) : Int := if sv = 3 then 3 else sv + 1

set_option maxRecDepth 100000 in
set_option maxHeartbeats 4000000 in
theorem r_saves (l : Launch) (M0 : ME) (r : Nat) (ρ π : Int → Int) (sv rf hs : Int) (hv : 0 ≤ sv ∧ sv ≤ 3) : CF l yX11_saves cX11_saves 2 none (rmN 1) [.ref r] (rM M0 r ρ π sv rf hs) none (rM M0 r ρ (svP ρ π sv) (svS sv) rf hs) := by
  refine CF.of (L0 := [some _, none]) (by decide +kernel) rfl rfl (Nat.le_of_ble_eq_true rfl) rfl (fun G A Q sz hQ => ?_)
  have j49 : ∀ (π1 : Int → Int) (s1 : Int) (sz : Nat), 0 ≤ s1 ∧ s1 ≤ 2 → svP ρ π sv = pcp ρ π1 (12309 * s1) 12309 → svS sv = s1 + 1 → V l G A (rmN 1) RX11 "saves" cX11_saves 2 none Q nX 0 0 (rM M0 r ρ π1 s1 rf hs) sz 49 [some (.ref r), none] [] := by
    intro π1 s1  sz h1 h2 h3
    refine V_iconst (v := iI (0)) dX11_saves_49 rfl ?_
    refine V_istore_n (L' := [some _, some _]) dX11_saves_50 rfl (by decide) rfl ?_
    have key51 : ∀ (d : Nat) (i : Int) (sz : Nat), 0 ≤ i ∧ i ≤ 12309 → (12309 - i).toNat = d → V l G A (rmN 1) RX11 "saves" cX11_saves 2 none Q nX 0 0 (rM M0 r ρ (pcp ρ π1 (12309 * s1) i) s1 rf hs) sz 51 [some (.ref r), some (.int (iI i))] [] := by
      intro d
      induction d using Nat.strongRecOn with
      | ind d ih51 =>
        intro i  sz hi hd51
        refine V_iload_n dX11_saves_51 rfl ?_
        refine V_sipush (v := iI (12309)) dX11_saves_52 (by decide +kernel) ?_
        refine I_icmp_ge (tgt := 85) dX11_saves_55 (by decide) ⟨by omega, by omega⟩ ⟨by omega, by omega⟩ (fun h55 => ?_) (fun h55 => ?_)
        · refine V_aload_n dX11_saves_85 rfl ?_
          refine V_dup dX11_saves_86 rfl ?_
          refine V_getf fX11_27 dX11_saves_87 rM_0 rfl ?_
          refine V_iconst (v := iI (1)) dX11_saves_90 rfl ?_
          refine I_iadd dX11_saves_91 ?_
          refine R_putsv fX11_27 dX11_saves_92 ?_
          exact V_ret dX11_saves_95 rfl (Nat.le_of_ble_eq_true rfl) (Nat.le_of_ble_eq_true rfl) (hQ _ _ _ rfl (by rw [h2, h3, show i = 12309 by omega]))
        · refine V_aload_n dX11_saves_58 rfl ?_
          refine V_getf fX11_14 dX11_saves_59 rM_0 rfl ?_
          refine V_sipush (v := iI (12309)) dX11_saves_62 (by decide +kernel) ?_
          refine V_aload_n dX11_saves_65 rfl ?_
          refine V_getf fX11_27 dX11_saves_66 rM_0 rfl ?_
          refine I_imul dX11_saves_69 ?_
          refine V_iload_n dX11_saves_70 rfl ?_
          refine I_iadd dX11_saves_71 ?_
          refine V_aload_n dX11_saves_72 rfl ?_
          refine V_getf fX11_7 dX11_saves_73 rM_0 rfl ?_
          refine V_iload_n dX11_saves_76 rfl ?_
          refine R_iald dX11_saves_77 ⟨by omega, by omega⟩ ?_
          refine R_iastp dX11_saves_78 ⟨by omega, by omega⟩ ?_
          refine I_iinc (L' := [some _, some _]) dX11_saves_79 rfl (by decide) rfl ?_
          refine V_goto (tgt := 51) dX11_saves_82 (by decide) ?_
          exact V_eqM (by rw [← pcp_s hi.1]) (V_wk' (ih51 _ (by omega) (i + 1) sz ⟨by omega, by omega⟩ rfl) ⟨rfl, rfl, trivial⟩)
    exact V_eqM (by rw [pcp_0]) (V_wk' (key51 _ 0 sz ⟨by omega, by omega⟩ rfl) ⟨rfl, rfl, trivial⟩)
  refine V_aload_n dX11_saves_0 rfl ?_
  refine V_getf fX11_27 dX11_saves_1 rM_0 rfl ?_
  refine V_iconst (v := iI (3)) dX11_saves_4 rfl ?_
  refine I_icmp_ne (tgt := 49) dX11_saves_5 (by decide) ⟨by omega, by omega⟩ ⟨by omega, by omega⟩ (fun h5 => ?_) (fun h5 => ?_)
  · first
      | exact V_wk' (j49 π sv _ (by omega) (by unfold svP; rw [if_neg (by omega)]) (by unfold svS; rw [if_neg (by omega)])) ⟨rfl, trivial⟩
      | exact V_wk' (j49 _ 2 _ (by omega) (by unfold svP; rw [if_pos (by omega), show i = 24618 by omega]) (by unfold svS; rw [if_pos (by omega)]; omega)) ⟨rfl, trivial⟩
  · refine V_iconst (v := iI (0)) dX11_saves_8 rfl ?_
    refine V_istore_n (L' := [some _, some _]) dX11_saves_9 rfl (by decide) rfl ?_
    have key10 : ∀ (d : Nat) (i : Int) (sz : Nat), 0 ≤ i ∧ i ≤ 24618 → (24618 - i).toNat = d → V l G A (rmN 1) RX11 "saves" cX11_saves 2 none Q nX 0 0 (rM M0 r ρ (shl 12309 π 0 i) sv rf hs) sz 10 [some (.ref r), some (.int (iI i))] [] := by
      intro d
      induction d using Nat.strongRecOn with
      | ind d ih10 =>
        intro i  sz hi hd10
        refine V_iload_n dX11_saves_10 rfl ?_
        refine V_sipush (v := iI (24618)) dX11_saves_11 (by decide +kernel) ?_
        refine I_icmp_ge (tgt := 39) dX11_saves_14 (by decide) ⟨by omega, by omega⟩ ⟨by omega, by omega⟩ (fun h14 => ?_) (fun h14 => ?_)
        · rw [show sv = 3 by omega]
          refine V_aload_n dX11_saves_39 rfl ?_
          refine V_dup dX11_saves_40 rfl ?_
          refine V_getf fX11_27 dX11_saves_41 rM_0 rfl ?_
          refine V_iconst (v := iI (1)) dX11_saves_44 rfl ?_
          refine I_isub dX11_saves_45 ?_
          rw [show (3 : Int) - 1 = 2 by omega]
          refine R_putsv fX11_27 dX11_saves_46 ?_
          first
            | exact V_wk' (j49 π sv _ (by omega) (by unfold svP; rw [if_neg (by omega)]) (by unfold svS; rw [if_neg (by omega)])) ⟨rfl, trivial⟩
            | exact V_wk' (j49 _ 2 _ (by omega) (by unfold svP; rw [if_pos (by omega), show i = 24618 by omega]) (by unfold svS; rw [if_pos (by omega)]; omega)) ⟨rfl, trivial⟩
        · refine V_aload_n dX11_saves_17 rfl ?_
          refine V_getf fX11_14 dX11_saves_18 rM_0 rfl ?_
          refine V_iload_n dX11_saves_21 rfl ?_
          refine V_aload_n dX11_saves_22 rfl ?_
          refine V_getf fX11_14 dX11_saves_23 rM_0 rfl ?_
          refine V_iload_n dX11_saves_26 rfl ?_
          refine V_sipush (v := iI (12309)) dX11_saves_27 (by decide +kernel) ?_
          refine I_iadd dX11_saves_30 ?_
          refine R_ialdp dX11_saves_31 ⟨by omega, by omega⟩ ?_
          rw [shl_o (show i + 12309 < 0 ∨ i ≤ i + 12309 by omega)]
          refine R_iastp dX11_saves_32 ⟨by omega, by omega⟩ ?_
          refine I_iinc (L' := [some _, some _]) dX11_saves_33 rfl (by decide) rfl ?_
          refine V_goto (tgt := 10) dX11_saves_36 (by decide) ?_
          exact V_eqM (by rw [← shl_s hi.1]) (V_wk' (ih10 _ (by omega) (i + 1) sz ⟨by omega, by omega⟩ rfl) ⟨rfl, rfl, trivial⟩)
    exact V_eqM (by rw [shl_0]) (V_wk' (key10 _ 0 sz ⟨by omega, by omega⟩ rfl) ⟨rfl, rfl, trivial⟩)

set_option maxRecDepth 100000 in
set_option maxHeartbeats 4000000 in
theorem r_undo (l : Launch) (M0 : ME) (r : Nat) (ρ π : Int → Int) (sv rf hs : Int) (hv : 0 ≤ sv ∧ sv ≤ 3) (e : Int) (he : (sv = 0 ∧ e = 1) ∨ (¬ sv = 0 ∧ e = 0)) : CP l yX11_undo cX11_undo 2 (some .int) (rmN 7) [.ref r] (rM M0 r ρ π sv rf hs) (fun v M' => (0 < e ∧ v = some (.int (iI 0)) ∧ M' = rM M0 r ρ π sv e hs) ∨ (e = 0 ∧ v = some (.int (iI (sv - 1))) ∧ M' = rM M0 r (bcp ρ π (12309 * (sv - 1)) 12309) π (sv - 1) e hs)) := by
  refine CP.of (L0 := [some _, none]) (by decide +kernel) rfl rfl (Nat.le_of_ble_eq_true rfl) rfl (fun G A Q sz hQ => ?_)
  refine V_aload_n dX11_undo_0 rfl ?_
  refine V_tern (J := 13) (v := .int (iI e)) (fun sz => ?_) (fun j13 => ?_)
  · refine V_cV (vs := [_]) (r_refused l _ _ _ _ _ _ _ e (by omega)) mX11_30 coX11_refused dX11_undo_13 rM_0 rfl rfl rfl (by decide) (Nat.le_of_ble_eq_true rfl) (Nat.le_of_ble_eq_true rfl) (Nat.le_of_ble_eq_true rfl) (fun sz => ?_)
    obtain ⟨be, hbe, ebe⟩ := ex_if (p := 0 < e)
    rw [ebe]
    refine I_if_eq (tgt := 21) dX11_undo_16 (by decide) ⟨by omega, by omega⟩ (fun h16 => ?_) (fun h16 => ?_)
    · refine V_aload_n dX11_undo_21 rfl ?_
      refine V_dup dX11_undo_22 rfl ?_
      refine V_getf fX11_27 dX11_undo_23 rM_0 rfl ?_
      refine V_iconst (v := iI (1)) dX11_undo_26 rfl ?_
      refine I_isub dX11_undo_27 ?_
      refine R_putsv fX11_27 dX11_undo_28 ?_
      refine V_iconst (v := iI (0)) dX11_undo_31 rfl ?_
      refine V_istore_n (L' := [some _, some _]) dX11_undo_32 rfl (by decide) rfl ?_
      have key33 : ∀ (d : Nat) (i : Int) (sz : Nat), 0 ≤ i ∧ i ≤ 12309 → (12309 - i).toNat = d → V l G A (rmN 7) RX11 "undo" cX11_undo 2 (some .int) Q nX 0 0 (rM M0 r (bcp ρ π (12309 * (sv - 1)) i) π (sv - 1) e hs) sz 33 [some (.ref r), some (.int (iI i))] [] := by
        intro d
        induction d using Nat.strongRecOn with
        | ind d ih33 =>
          intro i  sz hi hd33
          refine V_iload_n dX11_undo_33 rfl ?_
          refine V_sipush (v := iI (12309)) dX11_undo_34 (by decide +kernel) ?_
          refine I_icmp_ge (tgt := 67) dX11_undo_37 (by decide) ⟨by omega, by omega⟩ ⟨by omega, by omega⟩ (fun h37 => ?_) (fun h37 => ?_)
          · refine V_aload_n dX11_undo_67 rfl ?_
            refine V_getf fX11_27 dX11_undo_68 rM_0 rfl ?_
            exact V_ireti dX11_undo_71 rfl (Nat.le_of_ble_eq_true rfl) (Nat.le_of_ble_eq_true rfl) (hQ _ _ _ (Or.inr ⟨by omega, rfl, by rw [show i = 12309 by omega]⟩))
          · refine V_aload_n dX11_undo_40 rfl ?_
            refine V_getf fX11_7 dX11_undo_41 rM_0 rfl ?_
            refine V_iload_n dX11_undo_44 rfl ?_
            refine V_aload_n dX11_undo_45 rfl ?_
            refine V_getf fX11_14 dX11_undo_46 rM_0 rfl ?_
            refine V_sipush (v := iI (12309)) dX11_undo_49 (by decide +kernel) ?_
            refine V_aload_n dX11_undo_52 rfl ?_
            refine V_getf fX11_27 dX11_undo_53 rM_0 rfl ?_
            refine I_imul dX11_undo_56 ?_
            refine V_iload_n dX11_undo_57 rfl ?_
            refine I_iadd dX11_undo_58 ?_
            refine R_ialdp dX11_undo_59 ⟨by omega, by omega⟩ ?_
            refine R_iast dX11_undo_60 ⟨by omega, by omega⟩ ?_
            refine I_iinc (L' := [some _, some _]) dX11_undo_61 rfl (by decide) rfl ?_
            refine V_goto (tgt := 33) dX11_undo_64 (by decide) ?_
            exact V_eqM (by rw [← bcp_s hi.1]) (V_wk' (ih33 _ (by omega) (i + 1) sz ⟨by omega, by omega⟩ rfl) ⟨rfl, rfl, trivial⟩)
      exact V_eqM (by rw [bcp_0]) (V_wk' (key33 _ 0 sz ⟨by omega, by omega⟩ rfl) ⟨rfl, rfl, trivial⟩)
    · refine V_iconst (v := iI (0)) dX11_undo_19 rfl ?_
      exact V_ireti dX11_undo_20 rfl (Nat.le_of_ble_eq_true rfl) (Nat.le_of_ble_eq_true rfl) (hQ _ _ _ (Or.inl ⟨by omega, rfl, rfl⟩))
  · refine V_aload_n dX11_undo_1 rfl ?_
    refine V_getf fX11_27 dX11_undo_2 rM_0 rfl ?_
    refine I_if_ne (tgt := 12) dX11_undo_5 (by decide) ⟨by omega, by omega⟩ (fun h5 => ?_) (fun h5 => ?_)
    · refine V_iconst (v := iI (0)) dX11_undo_12 rfl ?_
      exact V_top (vi (by omega)) (j13 _)
    · refine V_iconst (v := iI (1)) dX11_undo_8 rfl ?_
      refine V_goto (tgt := 13) dX11_undo_9 (by decide) ?_
      exact V_top (vi (by omega)) (j13 _)

set_option maxRecDepth 100000 in
set_option maxHeartbeats 4000000 in
theorem r_setFrameLength (l : Launch) (M0 : ME) (r : Nat) (ρ π : Int → Int) (sv rf hs : Int) (hv : 0 ≤ sv ∧ sv ≤ 3) (n : Int) (hn : -2147483648 ≤ n ∧ n < 2147483648) (hQA : QA ρ) (e : Int) (he : (¬ (8 ≤ n ∧ n ≤ 40) ∧ e = 1) ∨ ((8 ≤ n ∧ n ≤ 40) ∧ 0 < pend ρ 0 + pend ρ 1 + pend ρ 2 + pend ρ 3 ∧ e = 2) ∨ ((8 ≤ n ∧ n ≤ 40) ∧ pend ρ 0 + pend ρ 1 + pend ρ 2 + pend ρ 3 ≤ 0 ∧ e = 0)) : CP l yX11_setFrameLength cX11_setFrameLength 4 (some .int) (rmN 7) [.ref r, .int (iI n)] (rM M0 r ρ π sv rf hs) (fun v M' => (0 < e ∧ v = some (.int (iI 0)) ∧ M' = rM M0 r ρ π sv e hs) ∨ (e = 0 ∧ v = some (.int (iI (ρ 0))) ∧ M' = rM M0 r (up ρ 0 n) (svP ρ π sv) (svS sv) e hs)) := by
  have p0 := pend_b (hQA.2 0 (by omega) (by omega)).1
  have p1 := pend_b (hQA.2 1 (by omega) (by omega)).1
  have p2 := pend_b (hQA.2 2 (by omega) (by omega)).1
  have p3 := pend_b (hQA.2 3 (by omega) (by omega)).1
  refine CP.of (L0 := [some _, some _, none, none]) (by decide +kernel) rfl rfl (Nat.le_of_ble_eq_true rfl) rfl (fun G A Q sz hQ => ?_)
  refine V_aload_n dX11_setFrameLength_0 rfl ?_
  refine V_iconst (v := iI (0)) dX11_setFrameLength_1 rfl ?_
  refine V_cV (vs := [_]) (r_pending l _ _ ρ _ _ _ _ 0 (by omega) (hQA.2 0 (by omega) (by omega)).1.m) mX11_41 coX11_pending dX11_setFrameLength_2 rM_0 rfl rfl rfl (by decide) (Nat.le_of_ble_eq_true rfl) (Nat.le_of_ble_eq_true rfl) (Nat.le_of_ble_eq_true rfl) (fun sz => ?_)
  refine V_aload_n dX11_setFrameLength_5 rfl ?_
  refine V_iconst (v := iI (1)) dX11_setFrameLength_6 rfl ?_
  refine V_cV (vs := [_]) (r_pending l _ _ ρ _ _ _ _ 1 (by omega) (hQA.2 1 (by omega) (by omega)).1.m) mX11_41 coX11_pending dX11_setFrameLength_7 rM_0 rfl rfl rfl (by decide) (Nat.le_of_ble_eq_true rfl) (Nat.le_of_ble_eq_true rfl) (Nat.le_of_ble_eq_true rfl) (fun sz => ?_)
  refine I_iadd dX11_setFrameLength_10 ?_
  refine V_aload_n dX11_setFrameLength_11 rfl ?_
  refine V_iconst (v := iI (2)) dX11_setFrameLength_12 rfl ?_
  refine V_cV (vs := [_]) (r_pending l _ _ ρ _ _ _ _ 2 (by omega) (hQA.2 2 (by omega) (by omega)).1.m) mX11_41 coX11_pending dX11_setFrameLength_13 rM_0 rfl rfl rfl (by decide) (Nat.le_of_ble_eq_true rfl) (Nat.le_of_ble_eq_true rfl) (Nat.le_of_ble_eq_true rfl) (fun sz => ?_)
  refine I_iadd dX11_setFrameLength_16 ?_
  refine V_aload_n dX11_setFrameLength_17 rfl ?_
  refine V_iconst (v := iI (3)) dX11_setFrameLength_18 rfl ?_
  refine V_cV (vs := [_]) (r_pending l _ _ ρ _ _ _ _ 3 (by omega) (hQA.2 3 (by omega) (by omega)).1.m) mX11_41 coX11_pending dX11_setFrameLength_19 rM_0 rfl rfl rfl (by decide) (Nat.le_of_ble_eq_true rfl) (Nat.le_of_ble_eq_true rfl) (Nat.le_of_ble_eq_true rfl) (fun sz => ?_)
  refine I_iadd dX11_setFrameLength_22 ?_
  refine V_istore_n (L' := [some _, some _, some _, none]) dX11_setFrameLength_23 rfl (by decide) rfl ?_
  refine V_aload_n dX11_setFrameLength_24 rfl ?_
  refine V_tern (J := 52) (v := .int (iI e)) (fun sz => ?_) (fun j52 => ?_)
  · refine V_cV (vs := [_]) (r_refused l _ _ _ _ _ _ _ e (by omega)) mX11_30 coX11_refused dX11_setFrameLength_52 rM_0 rfl rfl rfl (by decide) (Nat.le_of_ble_eq_true rfl) (Nat.le_of_ble_eq_true rfl) (Nat.le_of_ble_eq_true rfl) (fun sz => ?_)
    obtain ⟨be, hbe, ebe⟩ := ex_if (p := 0 < e)
    rw [ebe]
    refine I_if_eq (tgt := 60) dX11_setFrameLength_55 (by decide) ⟨by omega, by omega⟩ (fun h55 => ?_) (fun h55 => ?_)
    · refine V_aload_n dX11_setFrameLength_60 rfl ?_
      refine V_cV0 (vs := []) (r_saves l _ _ ρ π sv _ _ hv) mX11_49 coX11_saves dX11_setFrameLength_61 rM_0 rfl rfl rfl (by decide) (Nat.le_of_ble_eq_true rfl) (Nat.le_of_ble_eq_true rfl) (Nat.le_of_ble_eq_true rfl) (fun sz => ?_)
      refine V_aload_n dX11_setFrameLength_64 rfl ?_
      refine V_getf fX11_7 dX11_setFrameLength_65 rM_0 rfl ?_
      refine V_iconst (v := iI (0)) dX11_setFrameLength_68 rfl ?_
      refine R_iald dX11_setFrameLength_69 ⟨by omega, by omega⟩ ?_
      refine V_istore_n (L' := [some _, some _, some _, some _]) dX11_setFrameLength_70 rfl (by decide) rfl ?_
      refine V_aload_n dX11_setFrameLength_71 rfl ?_
      refine V_getf fX11_7 dX11_setFrameLength_72 rM_0 rfl ?_
      refine V_iconst (v := iI (0)) dX11_setFrameLength_75 rfl ?_
      refine V_iload_n dX11_setFrameLength_76 rfl ?_
      refine R_iast dX11_setFrameLength_77 ⟨by omega, by omega⟩ ?_
      refine V_iload_n dX11_setFrameLength_78 rfl ?_
      exact V_ireti dX11_setFrameLength_79 rfl (Nat.le_of_ble_eq_true rfl) (Nat.le_of_ble_eq_true rfl) (hQ _ _ _ (Or.inr ⟨by omega, rfl, rfl⟩))
    · refine V_iconst (v := iI (0)) dX11_setFrameLength_58 rfl ?_
      exact V_ireti dX11_setFrameLength_59 rfl (Nat.le_of_ble_eq_true rfl) (Nat.le_of_ble_eq_true rfl) (hQ _ _ _ (Or.inl ⟨by omega, rfl, rfl⟩))
  · refine V_iload_n dX11_setFrameLength_25 rfl ?_
    refine I_i2l dX11_setFrameLength_26 ⟨by omega, by omega⟩ ?_
    refine V_ldc2 (v := lI (8)) dX11_setFrameLength_27 (kL (by decide +kernel) kX11_45) ?_
    refine V_ldc2 (v := lI (40)) dX11_setFrameLength_30 (kL (by decide +kernel) kX11_47) ?_
    refine V_cS (vs := [_, _, _]) (r_within l _ n (8) (40) ⟨by omega, by omega⟩ ⟨by omega, by omega⟩ ⟨by omega, by omega⟩) mX11_23 coX11_within dX11_setFrameLength_33 rfl rfl (by decide) (Nat.le_of_ble_eq_true rfl) (Nat.le_of_ble_eq_true rfl) (Nat.le_of_ble_eq_true rfl) (fun sz => ?_)
    obtain ⟨bn, hbn, ebn⟩ := ex_if (p := 8 ≤ n ∧ n ≤ 40)
    rw [ebn]
    refine I_if_ne (tgt := 43) dX11_setFrameLength_36 (by decide) ⟨by omega, by omega⟩ (fun h36 => ?_) (fun h36 => ?_)
    · refine V_iload_n dX11_setFrameLength_43 rfl ?_
      refine I_if_le (tgt := 51) dX11_setFrameLength_44 (by decide) ⟨by omega, by omega⟩ (fun h44 => ?_) (fun h44 => ?_)
      · refine V_iconst (v := iI (0)) dX11_setFrameLength_51 rfl ?_
        exact V_top (vi (by omega)) (j52 _)
      · refine V_iconst (v := iI (2)) dX11_setFrameLength_47 rfl ?_
        refine V_goto (tgt := 52) dX11_setFrameLength_48 (by decide) ?_
        exact V_top (vi (by omega)) (j52 _)
    · refine V_iconst (v := iI (1)) dX11_setFrameLength_39 rfl ?_
      refine V_goto (tgt := 52) dX11_setFrameLength_40 (by decide) ?_
      exact V_top (vi (by omega)) (j52 _)

set_option maxRecDepth 100000 in
set_option maxHeartbeats 4000000 in
theorem r_setChannel (l : Launch) (M0 : ME) (r : Nat) (ρ π : Int → Int) (sv rf hs : Int) (hv : 0 ≤ sv ∧ sv ≤ 3) (c : Int) (hc : -2147483648 ≤ c ∧ c < 2147483648) (a : Int) (ha : -2147483648 ≤ a ∧ a < 2147483648) (b : Int) (hb : -2147483648 ≤ b ∧ b < 2147483648) (d : Int) (hd : -2147483648 ≤ d ∧ d < 2147483648) (e : Int) (he : (¬ (0 ≤ c ∧ c ≤ 3) ∧ e = 1) ∨ ((0 ≤ c ∧ c ≤ 3) ∧ ¬ ((0 ≤ a ∧ a ≤ 9) ∧ (0 ≤ b ∧ b ≤ 50) ∧ (0 ≤ d ∧ d ≤ 50)) ∧ e = 2) ∨ ((0 ≤ c ∧ c ≤ 3) ∧ ((0 ≤ a ∧ a ≤ 9) ∧ (0 ≤ b ∧ b ≤ 50) ∧ (0 ≤ d ∧ d ≤ 50)) ∧ e = 0)) : CP l yX11_setChannel cX11_setChannel 6 (some .int) (rmN 7) [.ref r, .int (iI c), .int (iI a), .int (iI b), .int (iI d)] (rM M0 r ρ π sv rf hs) (fun v M' => (0 < e ∧ v = some (.int (iI 0)) ∧ M' = rM M0 r ρ π sv e hs) ∨ (e = 0 ∧ v = some (.int (iI (ρ (25 + c)))) ∧ M' = rM M0 r (up (up (up ρ (25 + c) a) (29 + c) b) (33 + c) d) (svP ρ π sv) (svS sv) e hs)) := by
  refine CP.of (L0 := [some _, some _, some _, some _, some _, none]) (by decide +kernel) rfl rfl (Nat.le_of_ble_eq_true rfl) rfl (fun G A Q sz hQ => ?_)
  refine V_aload_n dX11_setChannel_0 rfl ?_
  refine V_tern (J := 54) (v := .int (iI e)) (fun sz => ?_) (fun j54 => ?_)
  · refine V_cV (vs := [_]) (r_refused l _ _ _ _ _ _ _ e (by omega)) mX11_30 coX11_refused dX11_setChannel_54 rM_0 rfl rfl rfl (by decide) (Nat.le_of_ble_eq_true rfl) (Nat.le_of_ble_eq_true rfl) (Nat.le_of_ble_eq_true rfl) (fun sz => ?_)
    obtain ⟨be, hbe, ebe⟩ := ex_if (p := 0 < e)
    rw [ebe]
    refine I_if_eq (tgt := 62) dX11_setChannel_57 (by decide) ⟨by omega, by omega⟩ (fun h57 => ?_) (fun h57 => ?_)
    · refine V_aload_n dX11_setChannel_62 rfl ?_
      refine V_cV0 (vs := []) (r_saves l _ _ ρ π sv _ _ hv) mX11_49 coX11_saves dX11_setChannel_63 rM_0 rfl rfl rfl (by decide) (Nat.le_of_ble_eq_true rfl) (Nat.le_of_ble_eq_true rfl) (Nat.le_of_ble_eq_true rfl) (fun sz => ?_)
      refine V_aload_n dX11_setChannel_66 rfl ?_
      refine V_getf fX11_7 dX11_setChannel_67 rM_0 rfl ?_
      refine V_bipush (v := iI (25)) dX11_setChannel_70 (by decide +kernel) ?_
      refine V_iload_n dX11_setChannel_72 rfl ?_
      refine I_iadd dX11_setChannel_73 ?_
      refine R_iald dX11_setChannel_74 ⟨by omega, by omega⟩ ?_
      refine V_istore (L' := [some _, some _, some _, some _, some _, some _]) dX11_setChannel_75 (by decide) rfl ?_
      refine V_aload_n dX11_setChannel_77 rfl ?_
      refine V_getf fX11_7 dX11_setChannel_78 rM_0 rfl ?_
      refine V_bipush (v := iI (25)) dX11_setChannel_81 (by decide +kernel) ?_
      refine V_iload_n dX11_setChannel_83 rfl ?_
      refine I_iadd dX11_setChannel_84 ?_
      refine V_iload_n dX11_setChannel_85 rfl ?_
      refine R_iast dX11_setChannel_86 ⟨by omega, by omega⟩ ?_
      refine V_aload_n dX11_setChannel_87 rfl ?_
      refine V_getf fX11_7 dX11_setChannel_88 rM_0 rfl ?_
      refine V_bipush (v := iI (29)) dX11_setChannel_91 (by decide +kernel) ?_
      refine V_iload_n dX11_setChannel_93 rfl ?_
      refine I_iadd dX11_setChannel_94 ?_
      refine V_iload_n dX11_setChannel_95 rfl ?_
      refine R_iast dX11_setChannel_96 ⟨by omega, by omega⟩ ?_
      refine V_aload_n dX11_setChannel_97 rfl ?_
      refine V_getf fX11_7 dX11_setChannel_98 rM_0 rfl ?_
      refine V_bipush (v := iI (33)) dX11_setChannel_101 (by decide +kernel) ?_
      refine V_iload_n dX11_setChannel_103 rfl ?_
      refine I_iadd dX11_setChannel_104 ?_
      refine V_iload dX11_setChannel_105 rfl ?_
      refine R_iast dX11_setChannel_107 ⟨by omega, by omega⟩ ?_
      refine V_iload dX11_setChannel_108 rfl ?_
      exact V_ireti dX11_setChannel_110 rfl (Nat.le_of_ble_eq_true rfl) (Nat.le_of_ble_eq_true rfl) (hQ _ _ _ (Or.inr ⟨by omega, rfl, rfl⟩))
    · refine V_iconst (v := iI (0)) dX11_setChannel_60 rfl ?_
      exact V_ireti dX11_setChannel_61 rfl (Nat.le_of_ble_eq_true rfl) (Nat.le_of_ble_eq_true rfl) (hQ _ _ _ (Or.inl ⟨by omega, rfl, rfl⟩))
  · refine V_iload_n dX11_setChannel_1 rfl ?_
    refine V_cS (vs := [_]) (r_isChannel l _ c ⟨by omega, by omega⟩) mX11_52 coX11_isChannel dX11_setChannel_2 rfl rfl (by decide) (Nat.le_of_ble_eq_true rfl) (Nat.le_of_ble_eq_true rfl) (Nat.le_of_ble_eq_true rfl) (fun sz => ?_)
    obtain ⟨bc, hbc, ebc⟩ := ex_if (p := 0 ≤ c ∧ c ≤ 3)
    rw [ebc]
    refine I_if_ne (tgt := 12) dX11_setChannel_5 (by decide) ⟨by omega, by omega⟩ (fun h5 => ?_) (fun h5 => ?_)
    · refine V_iload_n dX11_setChannel_12 rfl ?_
      refine I_i2l dX11_setChannel_13 ⟨by omega, by omega⟩ ?_
      refine V_lconst (v := lI 0) dX11_setChannel_14 rfl ?_
      refine V_ldc2 (v := lI (9)) dX11_setChannel_15 (kL (by decide +kernel) kX11_55) ?_
      refine V_cS (vs := [_, _, _]) (r_within l _ a (0) (9) ⟨by omega, by omega⟩ ⟨by omega, by omega⟩ ⟨by omega, by omega⟩) mX11_23 coX11_within dX11_setChannel_18 rfl rfl (by decide) (Nat.le_of_ble_eq_true rfl) (Nat.le_of_ble_eq_true rfl) (Nat.le_of_ble_eq_true rfl) (fun sz => ?_)
      obtain ⟨ba, hba, eba⟩ := ex_if (p := 0 ≤ a ∧ a ≤ 9)
      rw [eba]
      refine I_if_eq (tgt := 53) dX11_setChannel_21 (by decide) ⟨by omega, by omega⟩ (fun h21 => ?_) (fun h21 => ?_)
      · refine V_iconst (v := iI (2)) dX11_setChannel_53 rfl ?_
        exact V_top (vi (by omega)) (j54 _)
      · refine V_iload_n dX11_setChannel_24 rfl ?_
        refine I_i2l dX11_setChannel_25 ⟨by omega, by omega⟩ ?_
        refine V_lconst (v := lI 0) dX11_setChannel_26 rfl ?_
        refine V_ldc2 (v := lI (50)) dX11_setChannel_27 (kL (by decide +kernel) kX11_57) ?_
        refine V_cS (vs := [_, _, _]) (r_within l _ b (0) (50) ⟨by omega, by omega⟩ ⟨by omega, by omega⟩ ⟨by omega, by omega⟩) mX11_23 coX11_within dX11_setChannel_30 rfl rfl (by decide) (Nat.le_of_ble_eq_true rfl) (Nat.le_of_ble_eq_true rfl) (Nat.le_of_ble_eq_true rfl) (fun sz => ?_)
        obtain ⟨bb, hbb, ebb⟩ := ex_if (p := 0 ≤ b ∧ b ≤ 50)
        rw [ebb]
        refine I_if_eq (tgt := 53) dX11_setChannel_33 (by decide) ⟨by omega, by omega⟩ (fun h33 => ?_) (fun h33 => ?_)
        · refine V_iconst (v := iI (2)) dX11_setChannel_53 rfl ?_
          exact V_top (vi (by omega)) (j54 _)
        · refine V_iload dX11_setChannel_36 rfl ?_
          refine I_i2l dX11_setChannel_38 ⟨by omega, by omega⟩ ?_
          refine V_lconst (v := lI 0) dX11_setChannel_39 rfl ?_
          refine V_ldc2 (v := lI (50)) dX11_setChannel_40 (kL (by decide +kernel) kX11_57) ?_
          refine V_cS (vs := [_, _, _]) (r_within l _ d (0) (50) ⟨by omega, by omega⟩ ⟨by omega, by omega⟩ ⟨by omega, by omega⟩) mX11_23 coX11_within dX11_setChannel_43 rfl rfl (by decide) (Nat.le_of_ble_eq_true rfl) (Nat.le_of_ble_eq_true rfl) (Nat.le_of_ble_eq_true rfl) (fun sz => ?_)
          obtain ⟨bd, hbd, ebd⟩ := ex_if (p := 0 ≤ d ∧ d ≤ 50)
          rw [ebd]
          refine I_if_eq (tgt := 53) dX11_setChannel_46 (by decide) ⟨by omega, by omega⟩ (fun h46 => ?_) (fun h46 => ?_)
          · refine V_iconst (v := iI (2)) dX11_setChannel_53 rfl ?_
            exact V_top (vi (by omega)) (j54 _)
          · refine V_iconst (v := iI (0)) dX11_setChannel_49 rfl ?_
            refine V_goto (tgt := 54) dX11_setChannel_50 (by decide) ?_
            exact V_top (vi (by omega)) (j54 _)
    · refine V_iconst (v := iI (1)) dX11_setChannel_8 rfl ?_
      refine V_goto (tgt := 54) dX11_setChannel_9 (by decide) ?_
      exact V_top (vi (by omega)) (j54 _)

set_option maxRecDepth 100000 in
set_option maxHeartbeats 4000000 in
theorem r_setClock (l : Launch) (M0 : ME) (r : Nat) (ρ π : Int → Int) (sv rf hs : Int) (hv : 0 ≤ sv ∧ sv ≤ 3) (a : Int) (ha : -2147483648 ≤ a ∧ a < 2147483648) (b : Int) (hb : -2147483648 ≤ b ∧ b < 2147483648) (e : Int) (he : (¬ ((-1000 ≤ a ∧ a ≤ 1000) ∧ (0 ≤ b ∧ b ≤ 100000)) ∧ e = 1) ∨ (((-1000 ≤ a ∧ a ≤ 1000) ∧ (0 ≤ b ∧ b ≤ 100000)) ∧ e = 0)) : CP l yX11_setClock cX11_setClock 4 (some .int) (rmN 7) [.ref r, .int (iI a), .int (iI b)] (rM M0 r ρ π sv rf hs) (fun v M' => (0 < e ∧ v = some (.int (iI 0)) ∧ M' = rM M0 r ρ π sv e hs) ∨ (e = 0 ∧ v = some (.int (iI (ρ 1))) ∧ M' = rM M0 r (up (up ρ 1 a) 2 b) (svP ρ π sv) (svS sv) e hs)) := by
  refine CP.of (L0 := [some _, some _, some _, none]) (by decide +kernel) rfl rfl (Nat.le_of_ble_eq_true rfl) rfl (fun G A Q sz hQ => ?_)
  refine V_aload_n dX11_setClock_0 rfl ?_
  refine V_tern (J := 32) (v := .int (iI e)) (fun sz => ?_) (fun j32 => ?_)
  · refine V_cV (vs := [_]) (r_refused l _ _ _ _ _ _ _ e (by omega)) mX11_30 coX11_refused dX11_setClock_32 rM_0 rfl rfl rfl (by decide) (Nat.le_of_ble_eq_true rfl) (Nat.le_of_ble_eq_true rfl) (Nat.le_of_ble_eq_true rfl) (fun sz => ?_)
    obtain ⟨be, hbe, ebe⟩ := ex_if (p := 0 < e)
    rw [ebe]
    refine I_if_eq (tgt := 40) dX11_setClock_35 (by decide) ⟨by omega, by omega⟩ (fun h35 => ?_) (fun h35 => ?_)
    · refine V_aload_n dX11_setClock_40 rfl ?_
      refine V_cV0 (vs := []) (r_saves l _ _ ρ π sv _ _ hv) mX11_49 coX11_saves dX11_setClock_41 rM_0 rfl rfl rfl (by decide) (Nat.le_of_ble_eq_true rfl) (Nat.le_of_ble_eq_true rfl) (Nat.le_of_ble_eq_true rfl) (fun sz => ?_)
      refine V_aload_n dX11_setClock_44 rfl ?_
      refine V_getf fX11_7 dX11_setClock_45 rM_0 rfl ?_
      refine V_iconst (v := iI (1)) dX11_setClock_48 rfl ?_
      refine R_iald dX11_setClock_49 ⟨by omega, by omega⟩ ?_
      refine V_istore_n (L' := [some _, some _, some _, some _]) dX11_setClock_50 rfl (by decide) rfl ?_
      refine V_aload_n dX11_setClock_51 rfl ?_
      refine V_getf fX11_7 dX11_setClock_52 rM_0 rfl ?_
      refine V_iconst (v := iI (1)) dX11_setClock_55 rfl ?_
      refine V_iload_n dX11_setClock_56 rfl ?_
      refine R_iast dX11_setClock_57 ⟨by omega, by omega⟩ ?_
      refine V_aload_n dX11_setClock_58 rfl ?_
      refine V_getf fX11_7 dX11_setClock_59 rM_0 rfl ?_
      refine V_iconst (v := iI (2)) dX11_setClock_62 rfl ?_
      refine V_iload_n dX11_setClock_63 rfl ?_
      refine R_iast dX11_setClock_64 ⟨by omega, by omega⟩ ?_
      refine V_iload_n dX11_setClock_65 rfl ?_
      exact V_ireti dX11_setClock_66 rfl (Nat.le_of_ble_eq_true rfl) (Nat.le_of_ble_eq_true rfl) (hQ _ _ _ (Or.inr ⟨by omega, rfl, rfl⟩))
    · refine V_iconst (v := iI (0)) dX11_setClock_38 rfl ?_
      exact V_ireti dX11_setClock_39 rfl (Nat.le_of_ble_eq_true rfl) (Nat.le_of_ble_eq_true rfl) (hQ _ _ _ (Or.inl ⟨by omega, rfl, rfl⟩))
  · refine V_iload_n dX11_setClock_1 rfl ?_
    refine I_i2l dX11_setClock_2 ⟨by omega, by omega⟩ ?_
    refine V_ldc2 (v := lI (-1000)) dX11_setClock_3 (kL (by decide +kernel) kX11_59) ?_
    refine V_ldc2 (v := lI (1000)) dX11_setClock_6 (kL (by decide +kernel) kX11_61) ?_
    refine V_cS (vs := [_, _, _]) (r_within l _ a (-1000) (1000) ⟨by omega, by omega⟩ ⟨by omega, by omega⟩ ⟨by omega, by omega⟩) mX11_23 coX11_within dX11_setClock_9 rfl rfl (by decide) (Nat.le_of_ble_eq_true rfl) (Nat.le_of_ble_eq_true rfl) (Nat.le_of_ble_eq_true rfl) (fun sz => ?_)
    obtain ⟨ba, hba, eba⟩ := ex_if (p := -1000 ≤ a ∧ a ≤ 1000)
    rw [eba]
    refine I_if_eq (tgt := 31) dX11_setClock_12 (by decide) ⟨by omega, by omega⟩ (fun h12 => ?_) (fun h12 => ?_)
    · refine V_iconst (v := iI (1)) dX11_setClock_31 rfl ?_
      exact V_top (vi (by omega)) (j32 _)
    · refine V_iload_n dX11_setClock_15 rfl ?_
      refine I_i2l dX11_setClock_16 ⟨by omega, by omega⟩ ?_
      refine V_lconst (v := lI 0) dX11_setClock_17 rfl ?_
      refine V_ldc2 (v := lI (100000)) dX11_setClock_18 (kL (by decide +kernel) kX11_63) ?_
      refine V_cS (vs := [_, _, _]) (r_within l _ b (0) (100000) ⟨by omega, by omega⟩ ⟨by omega, by omega⟩ ⟨by omega, by omega⟩) mX11_23 coX11_within dX11_setClock_21 rfl rfl (by decide) (Nat.le_of_ble_eq_true rfl) (Nat.le_of_ble_eq_true rfl) (Nat.le_of_ble_eq_true rfl) (fun sz => ?_)
      obtain ⟨bb, hbb, ebb⟩ := ex_if (p := 0 ≤ b ∧ b ≤ 100000)
      rw [ebb]
      refine I_if_eq (tgt := 31) dX11_setClock_24 (by decide) ⟨by omega, by omega⟩ (fun h24 => ?_) (fun h24 => ?_)
      · refine V_iconst (v := iI (1)) dX11_setClock_31 rfl ?_
        exact V_top (vi (by omega)) (j32 _)
      · refine V_iconst (v := iI (0)) dX11_setClock_27 rfl ?_
        refine V_goto (tgt := 32) dX11_setClock_28 (by decide) ?_
        exact V_top (vi (by omega)) (j32 _)

set_option maxRecDepth 100000 in
set_option maxHeartbeats 4000000 in
theorem r_addPacket (l : Launch) (M0 : ME) (r : Nat) (ρ π : Int → Int) (sv rf hs : Int) (hv : 0 ≤ sv ∧ sv ≤ 3) (c : Int) (hc : -2147483648 ≤ c ∧ c < 2147483648) (a : Int) (ha : -2147483648 ≤ a ∧ a < 2147483648) (n : Int) (hn : -2147483648 ≤ n ∧ n < 2147483648) (sd : Int) (hsd : -2147483648 ≤ sd ∧ sd < 2147483648) (hQA : QA ρ) (hN : ∀ a, 0 ≤ a → a ≤ 14 → 0 ≤ ρ (10 + a) ∧ ρ (10 + a) ≤ 255) (pi : Int) (hpi : 0 ≤ c → c ≤ 3 → pi = pin ρ c) (e : Int) (he : (¬ (0 ≤ c ∧ c ≤ 3) ∧ e = 1) ∨ ((0 ≤ c ∧ c ≤ 3) ∧ ¬ ((0 ≤ a ∧ a ≤ 14) ∧ (1 ≤ n ∧ n ≤ 50) ∧ (0 ≤ sd ∧ sd ≤ 255)) ∧ e = 2) ∨ ((0 ≤ c ∧ c ≤ 3) ∧ ((0 ≤ a ∧ a ≤ 14) ∧ (1 ≤ n ∧ n ≤ 50) ∧ (0 ≤ sd ∧ sd ≤ 255)) ∧ pi = 12 ∧ e = 3) ∨ ((0 ≤ c ∧ c ≤ 3) ∧ ((0 ≤ a ∧ a ≤ 14) ∧ (1 ≤ n ∧ n ≤ 50) ∧ (0 ≤ sd ∧ sd ≤ 255)) ∧ ¬ pi = 12 ∧ e = 0)) : CP l yX11_addPacket cX11_addPacket 7 (some .int) (rmN 7) [.ref r, .int (iI c), .int (iI a), .int (iI n), .int (iI sd)] (rM M0 r ρ π sv rf hs) (fun v M' => (0 < e ∧ v = some (.int (iI 0)) ∧ M' = rM M0 r ρ π sv e hs) ∨ (e = 0 ∧ v = some (.int (iI (ρ (10 + a)))) ∧ M' = rM M0 r (rputs (up ρ (10 + a) ((ρ (10 + a) + 1) % 256)) c a (ρ (10 + a)) n sd) (svP ρ π sv) (svS sv) e hs)) := by
  refine CP.of (L0 := [some _, some _, some _, some _, some _, none, none]) (by decide +kernel) rfl rfl (Nat.le_of_ble_eq_true rfl) rfl (fun G A Q sz hQ => ?_)
  refine V_tern (J := 42) (v := .int (iI (if (0 ≤ a ∧ a ≤ 14) ∧ (1 ≤ n ∧ n ≤ 50) ∧ (0 ≤ sd ∧ sd ≤ 255) then 1 else 0))) (fun sz => ?_) (fun j42 => ?_)
  · obtain ⟨x, hx, ex⟩ := ex_if (p := (0 ≤ a ∧ a ≤ 14) ∧ (1 ≤ n ∧ n ≤ 50) ∧ (0 ≤ sd ∧ sd ≤ 255))
    rw [ex]
    refine V_istore (L' := [some _, some _, some _, some _, some _, some _, none]) dX11_addPacket_42 (by decide) rfl ?_
    refine V_aload_n dX11_addPacket_44 rfl ?_
    refine V_tern (J := 80) (v := .int (iI e)) (fun sz => ?_) (fun j80 => ?_)
    · refine V_cV (vs := [_]) (r_refused l _ _ _ _ _ _ _ e (by omega)) mX11_30 coX11_refused dX11_addPacket_80 rM_0 rfl rfl rfl (by decide) (Nat.le_of_ble_eq_true rfl) (Nat.le_of_ble_eq_true rfl) (Nat.le_of_ble_eq_true rfl) (fun sz => ?_)
      obtain ⟨be, hbe, ebe⟩ := ex_if (p := 0 < e)
      rw [ebe]
      refine I_if_eq (tgt := 88) dX11_addPacket_83 (by decide) ⟨by omega, by omega⟩ (fun h83 => ?_) (fun h83 => ?_)
      · refine V_aload_n dX11_addPacket_88 rfl ?_
        refine V_cV0 (vs := []) (r_saves l _ _ ρ π sv _ _ hv) mX11_49 coX11_saves dX11_addPacket_89 rM_0 rfl rfl rfl (by decide) (Nat.le_of_ble_eq_true rfl) (Nat.le_of_ble_eq_true rfl) (Nat.le_of_ble_eq_true rfl) (fun sz => ?_)
        have hNa := hN a (by omega) (by omega)
        have hpq := (hQA.2 c (by omega) (by omega)).1.1
        refine V_aload_n dX11_addPacket_92 rfl ?_
        refine V_getf fX11_7 dX11_addPacket_93 rM_0 rfl ?_
        refine V_bipush (v := iI (10)) dX11_addPacket_96 (by decide +kernel) ?_
        refine V_iload_n dX11_addPacket_98 rfl ?_
        refine I_iadd dX11_addPacket_99 ?_
        refine R_iald dX11_addPacket_100 ⟨by omega, by omega⟩ ?_
        refine V_istore (L' := [some _, some _, some _, some _, some _, some _, some _]) dX11_addPacket_101 (by decide) rfl ?_
        refine V_aload_n dX11_addPacket_103 rfl ?_
        refine V_getf fX11_7 dX11_addPacket_104 rM_0 rfl ?_
        refine V_bipush (v := iI (10)) dX11_addPacket_107 (by decide +kernel) ?_
        refine V_iload_n dX11_addPacket_109 rfl ?_
        refine I_iadd dX11_addPacket_110 ?_
        refine V_iload dX11_addPacket_111 rfl ?_
        refine V_iconst (v := iI (1)) dX11_addPacket_113 rfl ?_
        refine I_iadd dX11_addPacket_114 ?_
        refine V_sipush (v := iI (256)) dX11_addPacket_115 (by decide +kernel) ?_
        refine I_irem dX11_addPacket_118 (by omega) (by omega) (by omega) (by omega) ?_
        refine R_iast dX11_addPacket_119 ⟨by omega, by omega⟩ ?_
        refine V_aload_n dX11_addPacket_120 rfl ?_
        refine V_iload_n dX11_addPacket_121 rfl ?_
        refine V_iload_n dX11_addPacket_122 rfl ?_
        refine V_iload dX11_addPacket_123 rfl ?_
        refine V_iload_n dX11_addPacket_125 rfl ?_
        refine V_iload dX11_addPacket_126 rfl ?_
        refine V_cV0 (vs := [_, _, _, _, _]) (r_puts l _ _ (up ρ (10 + a) ((ρ (10 + a) + 1) % 256)) _ _ _ _ c (by omega) (by rw [up_n (by omega)]; omega) a (ρ (10 + a)) n sd) mX11_72 coX11_puts dX11_addPacket_128 rM_0 rfl rfl rfl (by decide) (Nat.le_of_ble_eq_true rfl) (Nat.le_of_ble_eq_true rfl) (Nat.le_of_ble_eq_true rfl) (fun sz => ?_)
        refine V_iload dX11_addPacket_131 rfl ?_
        exact V_ireti dX11_addPacket_133 rfl (Nat.le_of_ble_eq_true rfl) (Nat.le_of_ble_eq_true rfl) (hQ _ _ _ (Or.inr ⟨by omega, rfl, rfl⟩))
      · refine V_iconst (v := iI (0)) dX11_addPacket_86 rfl ?_
        exact V_ireti dX11_addPacket_87 rfl (Nat.le_of_ble_eq_true rfl) (Nat.le_of_ble_eq_true rfl) (hQ _ _ _ (Or.inl ⟨by omega, rfl, rfl⟩))
    · refine V_iload_n dX11_addPacket_45 rfl ?_
      refine V_cS (vs := [_]) (r_isChannel l _ c ⟨by omega, by omega⟩) mX11_52 coX11_isChannel dX11_addPacket_46 rfl rfl (by decide) (Nat.le_of_ble_eq_true rfl) (Nat.le_of_ble_eq_true rfl) (Nat.le_of_ble_eq_true rfl) (fun sz => ?_)
      obtain ⟨bc, hbc, ebc⟩ := ex_if (p := 0 ≤ c ∧ c ≤ 3)
      rw [ebc]
      refine I_if_ne (tgt := 56) dX11_addPacket_49 (by decide) ⟨by omega, by omega⟩ (fun h49 => ?_) (fun h49 => ?_)
      · refine V_iload dX11_addPacket_56 rfl ?_
        refine I_if_ne (tgt := 65) dX11_addPacket_58 (by decide) ⟨by omega, by omega⟩ (fun h58 => ?_) (fun h58 => ?_)
        · refine V_aload_n dX11_addPacket_65 rfl ?_
          refine V_iload_n dX11_addPacket_66 rfl ?_
          refine V_cV (vs := [_]) (r_packetsIn l _ _ ρ _ _ _ _ c (by omega) (hQA.2 c (by omega) (by omega)).1.m (hQA.2 c (by omega) (by omega)).1.r) mX11_69 coX11_packetsIn dX11_addPacket_67 rM_0 rfl rfl rfl (by decide) (Nat.le_of_ble_eq_true rfl) (Nat.le_of_ble_eq_true rfl) (Nat.le_of_ble_eq_true rfl) (fun sz => ?_)
          refine V_bipush (v := iI (12)) dX11_addPacket_70 (by decide +kernel) ?_
          have hpb := pcnt_b (ρ := ρ) (c := c) (ρ (54 + c)).toNat
          have hpq := (hQA.2 c (by omega) (by omega)).1.1
          have hpp : pi = pin ρ c := hpi (by omega) (by omega)
          unfold pin at hpp
          unfold pin
          rw [← hpp] at hpb ⊢
          refine I_icmp_ne (tgt := 79) dX11_addPacket_72 (by decide) ⟨by omega, by omega⟩ ⟨by omega, by omega⟩ (fun h72 => ?_) (fun h72 => ?_)
          · refine V_iconst (v := iI (0)) dX11_addPacket_79 rfl ?_
            exact V_top (vi (by omega)) (j80 _)
          · refine V_iconst (v := iI (3)) dX11_addPacket_75 rfl ?_
            refine V_goto (tgt := 80) dX11_addPacket_76 (by decide) ?_
            exact V_top (vi (by omega)) (j80 _)
        · refine V_iconst (v := iI (2)) dX11_addPacket_61 rfl ?_
          refine V_goto (tgt := 80) dX11_addPacket_62 (by decide) ?_
          exact V_top (vi (by omega)) (j80 _)
      · refine V_iconst (v := iI (1)) dX11_addPacket_52 rfl ?_
        refine V_goto (tgt := 80) dX11_addPacket_53 (by decide) ?_
        exact V_top (vi (by omega)) (j80 _)
  · refine V_iload_n dX11_addPacket_0 rfl ?_
    refine I_i2l dX11_addPacket_1 ⟨by omega, by omega⟩ ?_
    refine V_lconst (v := lI 0) dX11_addPacket_2 rfl ?_
    refine V_ldc2 (v := lI (14)) dX11_addPacket_3 (kL (by decide +kernel) kX11_65) ?_
    refine V_cS (vs := [_, _, _]) (r_within l _ a (0) (14) ⟨by omega, by omega⟩ ⟨by omega, by omega⟩ ⟨by omega, by omega⟩) mX11_23 coX11_within dX11_addPacket_6 rfl rfl (by decide) (Nat.le_of_ble_eq_true rfl) (Nat.le_of_ble_eq_true rfl) (Nat.le_of_ble_eq_true rfl) (fun sz => ?_)
    obtain ⟨ba, hba, eba⟩ := ex_if (p := 0 ≤ a ∧ a ≤ 14)
    rw [eba]
    refine I_if_eq (tgt := 41) dX11_addPacket_9 (by decide) ⟨by omega, by omega⟩ (fun h9 => ?_) (fun h9 => ?_)
    · refine V_iconst (v := iI (0)) dX11_addPacket_41 rfl ?_
      exact V_top (vi (by first | exact if1 (by omega) | exact if0 (by omega))) (j42 _)
    · refine V_iload_n dX11_addPacket_12 rfl ?_
      refine I_i2l dX11_addPacket_13 ⟨by omega, by omega⟩ ?_
      refine V_lconst (v := lI 1) dX11_addPacket_14 rfl ?_
      refine V_ldc2 (v := lI (50)) dX11_addPacket_15 (kL (by decide +kernel) kX11_57) ?_
      refine V_cS (vs := [_, _, _]) (r_within l _ n (1) (50) ⟨by omega, by omega⟩ ⟨by omega, by omega⟩ ⟨by omega, by omega⟩) mX11_23 coX11_within dX11_addPacket_18 rfl rfl (by decide) (Nat.le_of_ble_eq_true rfl) (Nat.le_of_ble_eq_true rfl) (Nat.le_of_ble_eq_true rfl) (fun sz => ?_)
      obtain ⟨bn, hbn, ebn⟩ := ex_if (p := 1 ≤ n ∧ n ≤ 50)
      rw [ebn]
      refine I_if_eq (tgt := 41) dX11_addPacket_21 (by decide) ⟨by omega, by omega⟩ (fun h21 => ?_) (fun h21 => ?_)
      · refine V_iconst (v := iI (0)) dX11_addPacket_41 rfl ?_
        exact V_top (vi (by first | exact if1 (by omega) | exact if0 (by omega))) (j42 _)
      · refine V_iload dX11_addPacket_24 rfl ?_
        refine I_i2l dX11_addPacket_26 ⟨by omega, by omega⟩ ?_
        refine V_lconst (v := lI 0) dX11_addPacket_27 rfl ?_
        refine V_ldc2 (v := lI (255)) dX11_addPacket_28 (kL (by decide +kernel) kX11_67) ?_
        refine V_cS (vs := [_, _, _]) (r_within l _ sd (0) (255) ⟨by omega, by omega⟩ ⟨by omega, by omega⟩ ⟨by omega, by omega⟩) mX11_23 coX11_within dX11_addPacket_31 rfl rfl (by decide) (Nat.le_of_ble_eq_true rfl) (Nat.le_of_ble_eq_true rfl) (Nat.le_of_ble_eq_true rfl) (fun sz => ?_)
        obtain ⟨bsd, hbsd, ebsd⟩ := ex_if (p := 0 ≤ sd ∧ sd ≤ 255)
        rw [ebsd]
        refine I_if_eq (tgt := 41) dX11_addPacket_34 (by decide) ⟨by omega, by omega⟩ (fun h34 => ?_) (fun h34 => ?_)
        · refine V_iconst (v := iI (0)) dX11_addPacket_41 rfl ?_
          exact V_top (vi (by first | exact if1 (by omega) | exact if0 (by omega))) (j42 _)
        · refine V_iconst (v := iI (1)) dX11_addPacket_37 rfl ?_
          refine V_goto (tgt := 42) dX11_addPacket_38 (by decide) ?_
          exact V_top (vi (by first | exact if1 (by omega) | exact if0 (by omega))) (j42 _)

set_option maxRecDepth 100000 in
set_option maxHeartbeats 4000000 in
theorem r_queue (l : Launch) (M0 : ME) (r : Nat) (ρ π : Int → Int) (sv rf hs : Int) (c : Int) (hc : -2147483648 ≤ c ∧ c < 2147483648) (w : Int) (hw : -2147483648 ≤ w ∧ w < 2147483648) (hQA : QA ρ) (e : Int) (he : (¬ (0 ≤ c ∧ c ≤ 3) ∧ e = 1) ∨ ((0 ≤ c ∧ c ≤ 3) ∧ ¬ (0 ≤ w ∧ w ≤ 2) ∧ e = 2) ∨ ((0 ≤ c ∧ c ≤ 3) ∧ (0 ≤ w ∧ w ≤ 2) ∧ e = 0)) : CP l yX11_queue cX11_queue 3 (some .int) (rmN 7) [.ref r, .int (iI c), .int (iI w)] (rM M0 r ρ π sv rf hs) (fun v M' => (0 < e ∧ v = some (.int (iI 0)) ∧ M' = rM M0 r ρ π sv e hs) ∨ (e = 0 ∧ v = some (.int (iI (rq ρ c w))) ∧ M' = rM M0 r ρ π sv e hs)) := by
  refine CP.of (L0 := [some _, some _, some _]) (by decide +kernel) rfl rfl (Nat.le_of_ble_eq_true rfl) rfl (fun G A Q sz hQ => ?_)
  refine V_aload_n dX11_queue_0 rfl ?_
  refine V_tern (J := 29) (v := .int (iI e)) (fun sz => ?_) (fun j29 => ?_)
  · refine V_cV (vs := [_]) (r_refused l _ _ _ _ _ _ _ e (by omega)) mX11_30 coX11_refused dX11_queue_29 rM_0 rfl rfl rfl (by decide) (Nat.le_of_ble_eq_true rfl) (Nat.le_of_ble_eq_true rfl) (Nat.le_of_ble_eq_true rfl) (fun sz => ?_)
    obtain ⟨be, hbe, ebe⟩ := ex_if (p := 0 < e)
    rw [ebe]
    refine I_if_eq (tgt := 39) dX11_queue_32 (by decide) ⟨by omega, by omega⟩ (fun h32 => ?_) (fun h32 => ?_)
    · refine V_aload_n dX11_queue_39 rfl ?_
      refine V_iload_n dX11_queue_40 rfl ?_
      refine V_iload_n dX11_queue_41 rfl ?_
      refine V_cV (vs := [_, _]) (r_queueOf l _ _ ρ _ _ _ _ c (by omega) w ⟨by omega, by omega⟩ (hQA.2 c (by omega) (by omega)).1) mX11_78 coX11_queueOf dX11_queue_42 rM_0 rfl rfl rfl (by decide) (Nat.le_of_ble_eq_true rfl) (Nat.le_of_ble_eq_true rfl) (Nat.le_of_ble_eq_true rfl) (fun sz => ?_)
      exact V_ireti dX11_queue_45 rfl (Nat.le_of_ble_eq_true rfl) (Nat.le_of_ble_eq_true rfl) (hQ _ _ _ (by first | exact Or.inl ⟨by omega, rfl, rfl⟩ | exact Or.inr ⟨by omega, rfl, rfl⟩))
    · refine V_iconst (v := iI (0)) dX11_queue_35 rfl ?_
      refine V_goto (tgt := 45) dX11_queue_36 (by decide) ?_
      exact V_ireti dX11_queue_45 rfl (Nat.le_of_ble_eq_true rfl) (Nat.le_of_ble_eq_true rfl) (hQ _ _ _ (by first | exact Or.inl ⟨by omega, rfl, rfl⟩ | exact Or.inr ⟨by omega, rfl, rfl⟩))
  · refine V_iload_n dX11_queue_1 rfl ?_
    refine V_cS (vs := [_]) (r_isChannel l _ c ⟨by omega, by omega⟩) mX11_52 coX11_isChannel dX11_queue_2 rfl rfl (by decide) (Nat.le_of_ble_eq_true rfl) (Nat.le_of_ble_eq_true rfl) (Nat.le_of_ble_eq_true rfl) (fun sz => ?_)
    obtain ⟨bc, hbc, ebc⟩ := ex_if (p := 0 ≤ c ∧ c ≤ 3)
    rw [ebc]
    refine I_if_ne (tgt := 12) dX11_queue_5 (by decide) ⟨by omega, by omega⟩ (fun h5 => ?_) (fun h5 => ?_)
    · refine V_iload_n dX11_queue_12 rfl ?_
      refine I_i2l dX11_queue_13 ⟨by omega, by omega⟩ ?_
      refine V_lconst (v := lI 0) dX11_queue_14 rfl ?_
      refine V_ldc2 (v := lI (2)) dX11_queue_15 (kL (by decide +kernel) kX11_76) ?_
      refine V_cS (vs := [_, _, _]) (r_within l _ w (0) (2) ⟨by omega, by omega⟩ ⟨by omega, by omega⟩ ⟨by omega, by omega⟩) mX11_23 coX11_within dX11_queue_18 rfl rfl (by decide) (Nat.le_of_ble_eq_true rfl) (Nat.le_of_ble_eq_true rfl) (Nat.le_of_ble_eq_true rfl) (fun sz => ?_)
      obtain ⟨bw, hbw, ebw⟩ := ex_if (p := 0 ≤ w ∧ w ≤ 2)
      rw [ebw]
      refine I_if_eq (tgt := 28) dX11_queue_21 (by decide) ⟨by omega, by omega⟩ (fun h21 => ?_) (fun h21 => ?_)
      · refine V_iconst (v := iI (2)) dX11_queue_28 rfl ?_
        exact V_top (vi (by omega)) (j29 _)
      · refine V_iconst (v := iI (0)) dX11_queue_24 rfl ?_
        refine V_goto (tgt := 29) dX11_queue_25 (by decide) ?_
        exact V_top (vi (by omega)) (j29 _)
    · refine V_iconst (v := iI (1)) dX11_queue_8 rfl ?_
      refine V_goto (tgt := 29) dX11_queue_9 (by decide) ?_
      exact V_top (vi (by omega)) (j29 _)
