/-- reception of some frames -/
def rv1 (ρ : Int → Int) (k : Int) : Int → Int := if ρ (383 + 50 * k + 1) = 1 then ρ else rrc ρ k
def rvn (ρ : Int → Int) (k : Int) : Int := if ρ (383 + 50 * k + 1) = 1 then 0 else rrn ρ k
def rvN (ρ : Int → Int) : Nat → Int → Int
  | 0 => ρ
  | n + 1 => rv1 (rvN ρ n) n
def rvC (ρ : Int → Int) : Nat → Int
  | 0 => 0
  | n + 1 => rvC ρ n + rvn (rvN ρ n) n
theorem rvN_s {ρ : Int → Int} {k : Int} (h : 0 ≤ k) : rv1 (rvN ρ k.toNat) k = rvN ρ (k + 1).toNat := by
  rw [show (k + 1).toNat = k.toNat + 1 by omega]
  show _ = rv1 (rvN ρ k.toNat) (k.toNat : Int)
  rw [Int.toNat_of_nonneg h]
theorem rvC_s {ρ : Int → Int} {k : Int} (h : 0 ≤ k) : rvC ρ (k + 1).toNat = rvC ρ k.toNat + rvn (rvN ρ k.toNat) k := by
  rw [show (k + 1).toNat = k.toNat + 1 by omega]
  show rvC ρ k.toNat + rvn (rvN ρ k.toNat) (k.toNat : Int) = _
  rw [Int.toNat_of_nonneg h]
theorem Fw.cg {ρ ρ' : Int → Int} {f : Int} (h : Fw ρ f) (hf : 0 ≤ f ∧ f ≤ 59) (hq : ∀ q, q < 3383 → ρ' q = ρ q) : Fw ρ' f := by
  have h1 := h.1
  refine ⟨by rw [hq _ (by omega)]; exact h.1, by rw [hq _ (by omega)]; exact h.2.1, by rw [hq _ (by omega)]; exact h.2.2.1, by rw [hq _ (by omega)]; exact h.2.2.2.1, fun k a b => ?_⟩
  rw [hq _ (by omega)] at b
  rw [hq _ (by omega)]; exact h.2.2.2.2 k a b
theorem rvN_i {ρ : Int → Int} (hW : Wr ρ) (hR : RI ρ) : ∀ n : Nat, (n : Int) ≤ ρ 382 → RI (rvN ρ n) ∧ ∀ q, q < 3383 → rvN ρ n q = ρ q
  | 0, _ => ⟨hR, fun _ _ => rfl⟩
  | n + 1, hn => by
    obtain ⟨a, b⟩ := rvN_i hW hR n (by omega)
    have hw := hW.1
    show RI (rv1 (rvN ρ n) n) ∧ ∀ q, q < 3383 → rv1 (rvN ρ n) n q = ρ q
    unfold rv1
    split
    · exact ⟨a, b⟩
    · obtain ⟨c, d⟩ := rrc_i (f := (n : Int)) (by omega) ((hW.2 n (by omega) (by omega)).cg (by omega) b) a
      exact ⟨c, fun q hq => (d q hq).trans (b q hq)⟩
/-- the row behind a reception -/
def rrv (ρ : Int → Int) (n : Int) : Int → Int := shl (50 * n) (up (rvN ρ n.toNat) 382 (ρ 382 - n)) 383 (383 + 50 * (ρ 382 - n))

set_option maxRecDepth 100000 in
set_option maxHeartbeats 4000000 in
theorem r_receive (l : Launch) (M0 : ME) (r : Nat) (ρ π : Int → Int) (sv rf hs : Int) (hv : 0 ≤ sv ∧ sv ≤ 3) (n : Int) (hn : -2147483648 ≤ n ∧ n < 2147483648) (hW : Wr ρ) (hR : RI ρ) (e : Int) (he : (¬ (1 ≤ n ∧ n ≤ 60) ∧ e = 1) ∨ ((1 ≤ n ∧ n ≤ 60) ∧ ρ 382 < n ∧ e = 2) ∨ ((1 ≤ n ∧ n ≤ 60) ∧ n ≤ ρ 382 ∧ e = 0)) : CP l yX11_receive cX11_receive 4 (some .int) (rmN 7) [.ref r, .int (iI n)] (rM M0 r ρ π sv rf hs) (fun v M' => (0 < e ∧ v = some (.int (iI 0)) ∧ M' = rM M0 r ρ π sv e hs) ∨ (e = 0 ∧ v = some (.int (iI (rvC ρ n.toNat))) ∧ M' = rM M0 r (rrv ρ n) (svP ρ π sv) (svS sv) e hs)) := by
  have hw1 := hW.1
  refine CP.of (L0 := [some _, some _, none, none]) (by decide +kernel) rfl rfl (Nat.le_of_ble_eq_true rfl) rfl (fun G A Q sz hQ => ?_)
  refine V_aload_n dX11_receive_0 rfl ?_
  refine V_tern (J := 34) (v := .int (iI e)) (fun sz => ?_) (fun j34 => ?_)
  · refine V_cV (vs := [_]) (r_refused l _ _ _ _ _ _ _ e (by omega)) mX11_30 coX11_refused dX11_receive_34 rM_0 rfl rfl rfl (by decide) (Nat.le_of_ble_eq_true rfl) (Nat.le_of_ble_eq_true rfl) (Nat.le_of_ble_eq_true rfl) (fun sz => ?_)
    obtain ⟨be, hbe, ebe⟩ := ex_if (p := 0 < e)
    rw [ebe]
    refine I_if_eq (tgt := 42) dX11_receive_37 (by decide) ⟨by omega, by omega⟩ (fun h37 => ?_) (fun h37 => ?_)
    · refine V_aload_n dX11_receive_42 rfl ?_
      refine V_cV0 (vs := []) (r_saves l _ _ ρ π sv _ _ hv) mX11_49 coX11_saves dX11_receive_43 rM_0 rfl rfl rfl (by decide) (Nat.le_of_ble_eq_true rfl) (Nat.le_of_ble_eq_true rfl) (Nat.le_of_ble_eq_true rfl) (fun sz => ?_)
      refine V_iconst (v := iI (0)) dX11_receive_46 rfl ?_
      refine V_istore_n (L' := [some _, some _, some _, none]) dX11_receive_47 rfl (by decide) rfl ?_
      refine V_iconst (v := iI (0)) dX11_receive_48 rfl ?_
      refine V_istore_n (L' := [some _, some _, some _, some _]) dX11_receive_49 rfl (by decide) rfl ?_
      have key50 : ∀ (d : Nat) (k : Int) (sz : Nat), 0 ≤ k ∧ k ≤ n → (n - k).toNat = d → V l G A (rmN 7) RX11 "receive" cX11_receive 4 (some .int) Q nX 0 0 (rM M0 r (rvN ρ k.toNat) (svP ρ π sv) (svS sv) e hs) sz 50 [some (.ref r), some (.int (iI n)), some (.int (iI (rvC ρ k.toNat))), some (.int (iI k))] [] := by
        intro d
        induction d using Nat.strongRecOn with
        | ind d ih50 =>
          intro k  sz hk hd50
          refine V_iload_n dX11_receive_50 rfl ?_
          refine V_iload_n dX11_receive_51 rfl ?_
          refine I_icmp_ge (tgt := 89) dX11_receive_52 (by decide) ⟨by omega, by omega⟩ ⟨by omega, by omega⟩ (fun h52 => ?_) (fun h52 => ?_)
          · obtain ⟨j1, j2⟩ := rvN_i hW hR n.toNat (by omega)
            rw [show k = n by omega]
            have hw3 := j2 382 (by omega)
            refine V_aload_n dX11_receive_89 rfl ?_
            refine V_getf fX11_7 dX11_receive_90 rM_0 rfl ?_
            refine V_sipush (v := iI (382)) dX11_receive_93 (by decide +kernel) ?_
            refine V_dup2 dX11_receive_96 rfl rfl ?_
            refine R_iald dX11_receive_97 ⟨by omega, by omega⟩ ?_
            rw [hw3]
            refine V_iload_n dX11_receive_98 rfl ?_
            refine I_isub dX11_receive_99 ?_
            refine R_iast dX11_receive_100 ⟨by omega, by omega⟩ ?_
            refine V_sipush (v := iI (383)) dX11_receive_101 (by decide +kernel) ?_
            refine V_istore_n (L' := [some _, some _, some _, some _]) dX11_receive_104 rfl (by decide) rfl ?_
            have key105 : ∀ (d : Nat) (j : Int) (sz : Nat), 383 ≤ j ∧ j ≤ 383 + 50 * (ρ 382 - n) → (383 + 50 * (ρ 382 - n) - j).toNat = d → V l G A (rmN 7) RX11 "receive" cX11_receive 4 (some .int) Q nX 0 0 (rM M0 r (shl (50 * n) (up (rvN ρ n.toNat) 382 (ρ 382 - n)) 383 j) (svP ρ π sv) (svS sv) e hs) sz 105 [some (.ref r), some (.int (iI n)), some (.int (iI (rvC ρ n.toNat))), some (.int (iI j))] [] := by
              intro d
              induction d using Nat.strongRecOn with
              | ind d ih105 =>
                intro j  sz hj hd105
                refine V_iload_n dX11_receive_105 rfl ?_
                refine V_sipush (v := iI (383)) dX11_receive_106 (by decide +kernel) ?_
                refine V_bipush (v := iI (50)) dX11_receive_109 (by decide +kernel) ?_
                refine V_aload_n dX11_receive_111 rfl ?_
                refine V_getf fX11_7 dX11_receive_112 rM_0 rfl ?_
                refine V_sipush (v := iI (382)) dX11_receive_115 (by decide +kernel) ?_
                refine R_iald dX11_receive_118 ⟨by omega, by omega⟩ ?_
                rw [shl_o (by omega), up_s]
                refine I_imul dX11_receive_119 ?_
                refine I_iadd dX11_receive_120 ?_
                refine I_icmp_ge (tgt := 147) dX11_receive_121 (by decide) ⟨by omega, by omega⟩ ⟨by omega, by omega⟩ (fun h121 => ?_) (fun h121 => ?_)
                · refine V_iload_n dX11_receive_147 rfl ?_
                  exact V_ireti dX11_receive_148 rfl (Nat.le_of_ble_eq_true rfl) (Nat.le_of_ble_eq_true rfl) (hQ _ _ _ (Or.inr ⟨by omega, rfl, by unfold rrv; rw [show j = 383 + 50 * (ρ 382 - n) by omega]⟩))
                · refine V_aload_n dX11_receive_124 rfl ?_
                  refine V_getf fX11_7 dX11_receive_125 rM_0 rfl ?_
                  refine V_iload_n dX11_receive_128 rfl ?_
                  refine V_aload_n dX11_receive_129 rfl ?_
                  refine V_getf fX11_7 dX11_receive_130 rM_0 rfl ?_
                  refine V_iload_n dX11_receive_133 rfl ?_
                  refine V_bipush (v := iI (50)) dX11_receive_134 (by decide +kernel) ?_
                  refine V_iload_n dX11_receive_136 rfl ?_
                  refine I_imul dX11_receive_137 ?_
                  refine I_iadd dX11_receive_138 ?_
                  refine R_iald dX11_receive_139 ⟨by omega, by omega⟩ ?_
                  rw [shl_o (show j + 50 * n < 383 ∨ j ≤ j + 50 * n by omega)]
                  refine R_iast dX11_receive_140 ⟨by omega, by omega⟩ ?_
                  refine I_iinc (L' := [some _, some _, some _, some _]) dX11_receive_141 rfl (by decide) rfl ?_
                  refine V_goto (tgt := 105) dX11_receive_144 (by decide) ?_
                  exact V_eqM (by rw [← shl_s hj.1]) (V_wk' (ih105 _ (by omega) (j + 1) sz ⟨by omega, by omega⟩ rfl) ⟨rfl, rfl, rfl, rfl, trivial⟩)
            exact V_eqM (by rw [shl_0]) (V_wk' (key105 _ 383 sz ⟨by omega, by omega⟩ rfl) ⟨rfl, rfl, rfl, rfl, trivial⟩)
          · obtain ⟨i1, i2⟩ := rvN_i hW hR k.toNat (by omega)
            obtain ⟨σ, hσ⟩ : ∃ σ, σ = rvN ρ k.toNat := ⟨_, rfl⟩
            have hls := (hW.2 k (by omega) (by omega)).2.1
            have hlo := i2 (383 + 50 * k + 1)
            rw [← hσ] at i1 i2 hlo ⊢
            have hlo := hlo (by omega)
            refine V_iload_n dX11_receive_55 rfl ?_
            refine V_aload_n dX11_receive_56 rfl ?_
            refine V_getf fX11_7 dX11_receive_57 rM_0 rfl ?_
            refine V_aload_n dX11_receive_60 rfl ?_
            refine V_iload_n dX11_receive_61 rfl ?_
            refine V_cV (vs := [_]) (r_frameAt l _ _ _ _ _ _ _ k) mX11_100 coX11_frameAt dX11_receive_62 rM_0 rfl rfl rfl (by decide) (Nat.le_of_ble_eq_true rfl) (Nat.le_of_ble_eq_true rfl) (Nat.le_of_ble_eq_true rfl) (fun sz => ?_)
            refine V_iconst (v := iI (1)) dX11_receive_65 rfl ?_
            refine I_iadd dX11_receive_66 ?_
            refine R_iald dX11_receive_67 ⟨by omega, by omega⟩ ?_
            refine V_iconst (v := iI (1)) dX11_receive_68 rfl ?_
            refine I_icmp_ne (tgt := 76) dX11_receive_69 (by decide) ⟨by omega, by omega⟩ ⟨by omega, by omega⟩ (fun h69 => ?_) (fun h69 => ?_)
            · refine V_aload_n dX11_receive_76 rfl ?_
              refine V_iload_n dX11_receive_77 rfl ?_
              refine V_cV (vs := [_]) (r_receives l _ _ σ _ _ _ _ k (by omega) ((hW.2 k (by omega) (by omega)).cg (by omega) i2) i1) mX11_163 coX11_receives dX11_receive_78 rM_0 rfl rfl rfl (by decide) (Nat.le_of_ble_eq_true rfl) (Nat.le_of_ble_eq_true rfl) (Nat.le_of_ble_eq_true rfl) (fun sz => ?_)
              refine I_iadd dX11_receive_81 ?_
              refine V_istore_n (L' := [some _, some _, some _, some _]) dX11_receive_82 rfl (by decide) rfl ?_
              refine I_iinc (L' := [some _, some _, some _, some _]) dX11_receive_83 rfl (by decide) rfl ?_
              refine V_goto (tgt := 50) dX11_receive_86 (by decide) ?_
              exact V_eqM (by rw [← rvN_s hk.1, ← hσ]; unfold rv1; first | exact congrArg (fun x => rM M0 r x (svP ρ π sv) (svS sv) e hs) (if_neg (by omega)).symm | exact congrArg (fun x => rM M0 r x (svP ρ π sv) (svS sv) e hs) (if_pos (by omega)).symm) (V_wk' (ih50 _ (by omega) (k + 1) sz ⟨by omega, by omega⟩ rfl) ⟨rfl, rfl, (vi (by rw [rvC_s hk.1, ← hσ]; unfold rvn; first | rw [if_neg (by omega)] | rw [if_pos (by omega)])), rfl, trivial⟩)
            · refine V_iconst (v := iI (0)) dX11_receive_72 rfl ?_
              refine V_goto (tgt := 81) dX11_receive_73 (by decide) ?_
              refine I_iadd dX11_receive_81 ?_
              refine V_istore_n (L' := [some _, some _, some _, some _]) dX11_receive_82 rfl (by decide) rfl ?_
              refine I_iinc (L' := [some _, some _, some _, some _]) dX11_receive_83 rfl (by decide) rfl ?_
              refine V_goto (tgt := 50) dX11_receive_86 (by decide) ?_
              exact V_eqM (by rw [← rvN_s hk.1, ← hσ]; unfold rv1; first | exact congrArg (fun x => rM M0 r x (svP ρ π sv) (svS sv) e hs) (if_neg (by omega)).symm | exact congrArg (fun x => rM M0 r x (svP ρ π sv) (svS sv) e hs) (if_pos (by omega)).symm) (V_wk' (ih50 _ (by omega) (k + 1) sz ⟨by omega, by omega⟩ rfl) ⟨rfl, rfl, (vi (by rw [rvC_s hk.1, ← hσ]; unfold rvn; first | rw [if_neg (by omega)] | rw [if_pos (by omega)])), rfl, trivial⟩)
      exact V_wk' (key50 _ 0 sz ⟨by omega, by omega⟩ rfl) ⟨rfl, rfl, rfl, rfl, trivial⟩
    · refine V_iconst (v := iI (0)) dX11_receive_40 rfl ?_
      exact V_ireti dX11_receive_41 rfl (Nat.le_of_ble_eq_true rfl) (Nat.le_of_ble_eq_true rfl) (hQ _ _ _ (Or.inl ⟨by omega, rfl, rfl⟩))
  · refine V_iload_n dX11_receive_1 rfl ?_
    refine I_i2l dX11_receive_2 ⟨by omega, by omega⟩ ?_
    refine V_lconst (v := lI 1) dX11_receive_3 rfl ?_
    refine V_ldc2 (v := lI (60)) dX11_receive_4 (kL (by decide +kernel) kX11_125) ?_
    refine V_cS (vs := [_, _, _]) (r_within l _ n (1) (60) ⟨by omega, by omega⟩ ⟨by omega, by omega⟩ ⟨by omega, by omega⟩) mX11_23 coX11_within dX11_receive_7 rfl rfl (by decide) (Nat.le_of_ble_eq_true rfl) (Nat.le_of_ble_eq_true rfl) (Nat.le_of_ble_eq_true rfl) (fun sz => ?_)
    obtain ⟨bn, hbn, ebn⟩ := ex_if (p := 1 ≤ n ∧ n ≤ 60)
    rw [ebn]
    refine I_if_ne (tgt := 17) dX11_receive_10 (by decide) ⟨by omega, by omega⟩ (fun h10 => ?_) (fun h10 => ?_)
    · refine V_iload_n dX11_receive_17 rfl ?_
      refine V_aload_n dX11_receive_18 rfl ?_
      refine V_getf fX11_7 dX11_receive_19 rM_0 rfl ?_
      refine V_sipush (v := iI (382)) dX11_receive_22 (by decide +kernel) ?_
      refine R_iald dX11_receive_25 ⟨by omega, by omega⟩ ?_
      refine I_icmp_le (tgt := 33) dX11_receive_26 (by decide) ⟨by omega, by omega⟩ ⟨by omega, by omega⟩ (fun h26 => ?_) (fun h26 => ?_)
      · refine V_iconst (v := iI (0)) dX11_receive_33 rfl ?_
        exact V_top (vi (by omega)) (j34 _)
      · refine V_iconst (v := iI (2)) dX11_receive_29 rfl ?_
        refine V_goto (tgt := 34) dX11_receive_30 (by decide) ?_
        exact V_top (vi (by omega)) (j34 _)
    · refine V_iconst (v := iI (1)) dX11_receive_13 rfl ?_
      refine V_goto (tgt := 34) dX11_receive_14 (by decide) ?_
      exact V_top (vi (by omega)) (j34 _)

/-- a value as the machine's int -/
def c32 (z : Int) : Int := (iI z).toInt
theorem c32_r (z : Int) : r32 (c32 z) := iI_r _
theorem c32_i {z : Int} (h : r32 z) : c32 z = z := iI_toInt h
theorem iI_c32 (z : Int) : iI (c32 z) = iI z := (iI_of (iI z)).symm
section
variable {l : Launch} {G : GG} {A : Nat → Prop} {R : Room} {own nm : String} {cc : ByteArray} {nL : Nat} {ret : Option FieldType} {Q : Option Value → ME → Nat → Prop} {X : String → ME → Prop} {k n : Nat} {M : ME} {sz : Nat} {pc : Nat} {L : List (Option Value)} {st : List Value}
theorem I_i2lc {a : Int} (hd : decode cc pc = .ok (.i2l, 1)) (kk : V l G A R own nm cc nL ret Q X k n M sz (pc + 1) L (.long (lI (c32 a)) :: st)) : V l G A R own nm cc nL ret Q X k n M sz pc L (.int (iI a) :: st) := V_i2l hd (by rw [← iI_c32 a]; exact iI_l (c32_r a)) kk
end
/-- the hash goes on -/
def mx (h v : Int) : Int := 31 * h + v
def mxN (g : Nat → Int) (h : Int) : Nat → Int
  | 0 => h
  | n + 1 => mx (mxN g h n) (g n)
theorem mxN_cg {g g' : Nat → Int} {h : Int} : ∀ n : Nat, (∀ k, k < n → g k = g' k) → mxN g h n = mxN g' h n
  | 0, _ => rfl
  | n + 1, hk => by
    show mx (mxN g h n) (g n) = mx (mxN g' h n) (g' n)
    rw [mxN_cg n (fun k a => hk k (by omega)), hk n (by omega)]
theorem mxN_s {g : Nat → Int} {h k : Int} (hk : 0 ≤ k) : mxN g h (k + 1).toNat = mx (mxN g h k.toNat) (g k.toNat) := by
  rw [show (k + 1).toNat = k.toNat + 1 by omega]; rfl
def foN (f : Nat → Int → Int) (h : Int) : Nat → Int
  | 0 => h
  | n + 1 => f n (foN f h n)
theorem foN_s {f : Nat → Int → Int} {h k : Int} (hk : 0 ≤ k) : foN f h (k + 1).toNat = f k.toNat (foN f h k.toNat) := by
  rw [show (k + 1).toNat = k.toNat + 1 by omega]; rfl
def mAl (ρ : Int → Int) (fr m h : Int) : Int := mxN (fun i => c32 (ρ (fr + i))) h m.toNat

set_option maxRecDepth 100000 in
set_option maxHeartbeats 4000000 in
theorem r_mix (l : Launch) (M0 : ME) (r : Nat) (ρ π : Int → Int) (sv rf hs : Int) (v : Int) : CF l yX11_mix cX11_mix 3 none (rmN 1) [.ref r, .long (lI v)] (rM M0 r ρ π sv rf hs) none (rM M0 r ρ π sv rf (mx hs v)) := by
  refine CF.of (L0 := [some _, some _, none]) (by decide +kernel) rfl rfl (Nat.le_of_ble_eq_true rfl) rfl (fun G A Q sz hQ => ?_)
  refine V_aload_n dX11_mix_0 rfl ?_
  refine V_ldc2 (v := lI (31)) dX11_mix_1 (kL (by decide +kernel) kX11_180) ?_
  refine V_aload_n dX11_mix_4 rfl ?_
  refine V_getf fX11_182 dX11_mix_5 rM_0 rfl ?_
  refine I_lmul dX11_mix_8 ?_
  refine V_lload_n dX11_mix_9 rfl ?_
  refine I_ladd dX11_mix_10 ?_
  refine R_puths fX11_182 dX11_mix_11 ?_
  exact V_ret dX11_mix_14 rfl (Nat.le_of_ble_eq_true rfl) (Nat.le_of_ble_eq_true rfl) (hQ _ _ _ rfl rfl)

set_option maxRecDepth 100000 in
set_option maxHeartbeats 4000000 in
theorem r_mixAll (l : Launch) (M0 : ME) (r : Nat) (ρ π : Int → Int) (sv rf hs : Int) (fr m : Int) (hf : 0 ≤ fr ∧ 0 ≤ m ∧ fr + m ≤ 12309) : CF l yX11_mixAll cX11_mixAll 4 none (rmN 2) [.ref r, .int (iI fr), .int (iI m)] (rM M0 r ρ π sv rf hs) none (rM M0 r ρ π sv rf (mAl ρ fr m hs)) := by
  refine CF.of (L0 := [some _, some _, some _, none]) (by decide +kernel) rfl rfl (Nat.le_of_ble_eq_true rfl) rfl (fun G A Q sz hQ => ?_)
  refine V_iload_n dX11_mixAll_0 rfl ?_
  refine V_istore_n (L' := [some _, some _, some _, some _]) dX11_mixAll_1 rfl (by decide) rfl ?_
  have key2 : ∀ (d : Nat) (k : Int) (sz : Nat), fr ≤ k ∧ k ≤ fr + m → (fr + m - k).toNat = d → V l G A (rmN 2) RX11 "mixAll" cX11_mixAll 4 none Q nX 0 0 (rM M0 r ρ π sv rf (mxN (fun i => c32 (ρ (fr + i))) hs (k - fr).toNat)) sz 2 [some (.ref r), some (.int (iI fr)), some (.int (iI m)), some (.int (iI k))] [] := by
    intro d
    induction d using Nat.strongRecOn with
    | ind d ih2 =>
      intro k  sz hk hd2
      refine V_iload_n dX11_mixAll_2 rfl ?_
      refine V_iload_n dX11_mixAll_3 rfl ?_
      refine V_iload_n dX11_mixAll_4 rfl ?_
      refine I_iadd dX11_mixAll_5 ?_
      refine I_icmp_ge (tgt := 26) dX11_mixAll_6 (by decide) ⟨by omega, by omega⟩ ⟨by omega, by omega⟩ (fun h6 => ?_) (fun h6 => ?_)
      · exact V_ret dX11_mixAll_26 rfl (Nat.le_of_ble_eq_true rfl) (Nat.le_of_ble_eq_true rfl) (hQ _ _ _ rfl (by unfold mAl; rw [show k - fr = m by omega]))
      · refine V_aload_n dX11_mixAll_9 rfl ?_
        refine V_aload_n dX11_mixAll_10 rfl ?_
        refine V_getf fX11_7 dX11_mixAll_11 rM_0 rfl ?_
        refine V_iload_n dX11_mixAll_14 rfl ?_
        refine R_iald dX11_mixAll_15 ⟨by omega, by omega⟩ ?_
        refine I_i2lc dX11_mixAll_16 ?_
        refine V_cV0 (vs := [_]) (r_mix l _ _ ρ _ _ _ (mxN (fun i => c32 (ρ (fr + i))) hs (k - fr).toNat) (c32 (ρ k))) mX11_186 coX11_mix dX11_mixAll_17 rM_0 rfl rfl rfl (by decide) (Nat.le_of_ble_eq_true rfl) (Nat.le_of_ble_eq_true rfl) (Nat.le_of_ble_eq_true rfl) (fun sz => ?_)
        refine I_iinc (L' := [some _, some _, some _, some _]) dX11_mixAll_20 rfl (by decide) rfl ?_
        refine V_goto (tgt := 2) dX11_mixAll_23 (by decide) ?_
        exact V_eqM (by rw [show k + 1 - fr = (k - fr) + 1 by omega, mxN_s (by omega), Int.toNat_of_nonneg (by omega), show fr + (k - fr) = k by omega]) (V_wk' (ih2 _ (by omega) (k + 1) sz ⟨by omega, by omega⟩ rfl) ⟨rfl, rfl, rfl, rfl, trivial⟩)
  exact V_eqM (by rw [show (fr - fr).toNat = 0 by omega]; rfl) (V_wk' (key2 _ fr sz ⟨by omega, by omega⟩ rfl) ⟨rfl, rfl, rfl, rfl, trivial⟩)

/-- a channel's part of the hash -/
def dCh (ρ : Int → Int) (c h : Int) : Int := mxN (fun i => c32 (rre ρ c i)) (mxN (fun i => c32 (rse ρ c i)) (mxN (fun i => c32 (rq ρ c i)) (mx (mx (mx h (c32 (ρ (25 + c)))) (c32 (ρ (29 + c)))) (c32 (ρ (33 + c)))) 3) 3) 4

set_option maxRecDepth 100000 in
set_option maxHeartbeats 4000000 in
theorem r_mixChannel (l : Launch) (M0 : ME) (r : Nat) (ρ π : Int → Int) (sv rf hs : Int) (c : Int) (hc : 0 ≤ c ∧ c ≤ 3) (hq : Qc ρ c) : CF l yX11_mixChannel cX11_mixChannel 3 none (rmN 4) [.ref r, .int (iI c)] (rM M0 r ρ π sv rf hs) none (rM M0 r ρ π sv rf (dCh ρ c hs)) := by
  refine CF.of (L0 := [some _, some _, none]) (by decide +kernel) rfl rfl (Nat.le_of_ble_eq_true rfl) rfl (fun G A Q sz hQ => ?_)
  refine V_aload_n dX11_mixChannel_0 rfl ?_
  refine V_aload_n dX11_mixChannel_1 rfl ?_
  refine V_getf fX11_7 dX11_mixChannel_2 rM_0 rfl ?_
  refine V_bipush (v := iI (25)) dX11_mixChannel_5 (by decide +kernel) ?_
  refine V_iload_n dX11_mixChannel_7 rfl ?_
  refine I_iadd dX11_mixChannel_8 ?_
  refine R_iald dX11_mixChannel_9 ⟨by omega, by omega⟩ ?_
  refine I_i2lc dX11_mixChannel_10 ?_
  refine V_cV0 (vs := [_]) (r_mix l _ _ ρ _ _ _ hs (c32 (ρ (25 + c)))) mX11_186 coX11_mix dX11_mixChannel_11 rM_0 rfl rfl rfl (by decide) (Nat.le_of_ble_eq_true rfl) (Nat.le_of_ble_eq_true rfl) (Nat.le_of_ble_eq_true rfl) (fun sz => ?_)
  refine V_aload_n dX11_mixChannel_14 rfl ?_
  refine V_aload_n dX11_mixChannel_15 rfl ?_
  refine V_getf fX11_7 dX11_mixChannel_16 rM_0 rfl ?_
  refine V_bipush (v := iI (29)) dX11_mixChannel_19 (by decide +kernel) ?_
  refine V_iload_n dX11_mixChannel_21 rfl ?_
  refine I_iadd dX11_mixChannel_22 ?_
  refine R_iald dX11_mixChannel_23 ⟨by omega, by omega⟩ ?_
  refine I_i2lc dX11_mixChannel_24 ?_
  refine V_cV0 (vs := [_]) (r_mix l _ _ ρ _ _ _ _ _) mX11_186 coX11_mix dX11_mixChannel_25 rM_0 rfl rfl rfl (by decide) (Nat.le_of_ble_eq_true rfl) (Nat.le_of_ble_eq_true rfl) (Nat.le_of_ble_eq_true rfl) (fun sz => ?_)
  refine V_aload_n dX11_mixChannel_28 rfl ?_
  refine V_aload_n dX11_mixChannel_29 rfl ?_
  refine V_getf fX11_7 dX11_mixChannel_30 rM_0 rfl ?_
  refine V_bipush (v := iI (33)) dX11_mixChannel_33 (by decide +kernel) ?_
  refine V_iload_n dX11_mixChannel_35 rfl ?_
  refine I_iadd dX11_mixChannel_36 ?_
  refine R_iald dX11_mixChannel_37 ⟨by omega, by omega⟩ ?_
  refine I_i2lc dX11_mixChannel_38 ?_
  refine V_cV0 (vs := [_]) (r_mix l _ _ ρ _ _ _ _ _) mX11_186 coX11_mix dX11_mixChannel_39 rM_0 rfl rfl rfl (by decide) (Nat.le_of_ble_eq_true rfl) (Nat.le_of_ble_eq_true rfl) (Nat.le_of_ble_eq_true rfl) (fun sz => ?_)
  refine V_iconst (v := iI (0)) dX11_mixChannel_42 rfl ?_
  refine V_istore_n (L' := [some _, some _, some _]) dX11_mixChannel_43 rfl (by decide) rfl ?_
  have key44 : ∀ (d : Nat) (i : Int) (sz : Nat), 0 ≤ i ∧ i ≤ 3 → (3 - i).toNat = d → V l G A (rmN 4) RX11 "mixChannel" cX11_mixChannel 3 none Q nX 0 0 (rM M0 r ρ π sv rf (mxN (fun i => c32 (rq ρ c i)) (mx (mx (mx hs (c32 (ρ (25 + c)))) (c32 (ρ (29 + c)))) (c32 (ρ (33 + c)))) i.toNat)) sz 44 [some (.ref r), some (.int (iI c)), some (.int (iI i))] [] := by
    intro d
    induction d using Nat.strongRecOn with
    | ind d ih44 =>
      intro i  sz hi hd44
      refine V_iload_n dX11_mixChannel_44 rfl ?_
      refine V_iconst (v := iI (3)) dX11_mixChannel_45 rfl ?_
      refine I_icmp_ge (tgt := 66) dX11_mixChannel_46 (by decide) ⟨by omega, by omega⟩ ⟨by omega, by omega⟩ (fun h46 => ?_) (fun h46 => ?_)
      · rw [show i = 3 by omega]
        refine V_iconst (v := iI (0)) dX11_mixChannel_66 rfl ?_
        refine V_istore_n (L' := [some _, some _, some _]) dX11_mixChannel_67 rfl (by decide) rfl ?_
        have key68 : ∀ (d : Nat) (i : Int) (sz : Nat), 0 ≤ i ∧ i ≤ 3 → (3 - i).toNat = d → V l G A (rmN 4) RX11 "mixChannel" cX11_mixChannel 3 none Q nX 0 0 (rM M0 r ρ π sv rf (mxN (fun i => c32 (rse ρ c i)) (mxN (fun i => c32 (rq ρ c i)) (mx (mx (mx hs (c32 (ρ (25 + c)))) (c32 (ρ (29 + c)))) (c32 (ρ (33 + c)))) 3) i.toNat)) sz 68 [some (.ref r), some (.int (iI c)), some (.int (iI i))] [] := by
          intro d
          induction d using Nat.strongRecOn with
          | ind d ih68 =>
            intro i  sz hi hd68
            refine V_iload_n dX11_mixChannel_68 rfl ?_
            refine V_iconst (v := iI (3)) dX11_mixChannel_69 rfl ?_
            refine I_icmp_ge (tgt := 90) dX11_mixChannel_70 (by decide) ⟨by omega, by omega⟩ ⟨by omega, by omega⟩ (fun h70 => ?_) (fun h70 => ?_)
            · rw [show i = 3 by omega]
              refine V_iconst (v := iI (0)) dX11_mixChannel_90 rfl ?_
              refine V_istore_n (L' := [some _, some _, some _]) dX11_mixChannel_91 rfl (by decide) rfl ?_
              have key92 : ∀ (d : Nat) (i : Int) (sz : Nat), 0 ≤ i ∧ i ≤ 4 → (4 - i).toNat = d → V l G A (rmN 4) RX11 "mixChannel" cX11_mixChannel 3 none Q nX 0 0 (rM M0 r ρ π sv rf (mxN (fun i => c32 (rre ρ c i)) (mxN (fun i => c32 (rse ρ c i)) (mxN (fun i => c32 (rq ρ c i)) (mx (mx (mx hs (c32 (ρ (25 + c)))) (c32 (ρ (29 + c)))) (c32 (ρ (33 + c)))) 3) 3) i.toNat)) sz 92 [some (.ref r), some (.int (iI c)), some (.int (iI i))] [] := by
                intro d
                induction d using Nat.strongRecOn with
                | ind d ih92 =>
                  intro i  sz hi hd92
                  refine V_iload_n dX11_mixChannel_92 rfl ?_
                  refine V_iconst (v := iI (4)) dX11_mixChannel_93 rfl ?_
                  refine I_icmp_ge (tgt := 114) dX11_mixChannel_94 (by decide) ⟨by omega, by omega⟩ ⟨by omega, by omega⟩ (fun h94 => ?_) (fun h94 => ?_)
                  · exact V_ret dX11_mixChannel_114 rfl (Nat.le_of_ble_eq_true rfl) (Nat.le_of_ble_eq_true rfl) (hQ _ _ _ rfl (by rw [show i = 4 by omega]; rfl))
                  · refine V_aload_n dX11_mixChannel_97 rfl ?_
                    refine V_aload_n dX11_mixChannel_98 rfl ?_
                    refine V_iload_n dX11_mixChannel_99 rfl ?_
                    refine V_iload_n dX11_mixChannel_100 rfl ?_
                    refine V_cV (vs := [_, _]) (r_receivedOf l _ _ ρ _ _ _ _ c hc i ⟨by omega, by omega⟩) mX11_168 coX11_receivedOf dX11_mixChannel_101 rM_0 rfl rfl rfl (by decide) (Nat.le_of_ble_eq_true rfl) (Nat.le_of_ble_eq_true rfl) (Nat.le_of_ble_eq_true rfl) (fun sz => ?_)
                    refine I_i2lc dX11_mixChannel_104 ?_
                    refine V_cV0 (vs := [_]) (r_mix l _ _ ρ _ _ _ _ _) mX11_186 coX11_mix dX11_mixChannel_105 rM_0 rfl rfl rfl (by decide) (Nat.le_of_ble_eq_true rfl) (Nat.le_of_ble_eq_true rfl) (Nat.le_of_ble_eq_true rfl) (fun sz => ?_)
                    refine I_iinc (L' := [some _, some _, some _]) dX11_mixChannel_108 rfl (by decide) rfl ?_
                    refine V_goto (tgt := 92) dX11_mixChannel_111 (by decide) ?_
                    exact V_eqM (by rw [mxN_s hi.1, Int.toNat_of_nonneg hi.1]) (V_wk' (ih92 _ (by omega) (i + 1) sz ⟨by omega, by omega⟩ rfl) ⟨rfl, rfl, rfl, trivial⟩)
              exact V_wk' (key92 _ 0 sz ⟨by omega, by omega⟩ rfl) ⟨rfl, rfl, rfl, trivial⟩
            · refine V_aload_n dX11_mixChannel_73 rfl ?_
              refine V_aload_n dX11_mixChannel_74 rfl ?_
              refine V_iload_n dX11_mixChannel_75 rfl ?_
              refine V_iload_n dX11_mixChannel_76 rfl ?_
              refine V_cV (vs := [_, _]) (r_sentOf l _ _ ρ _ _ _ _ c i (by omega) ⟨by omega, by omega⟩) mX11_131 coX11_sentOf dX11_mixChannel_77 rM_0 rfl rfl rfl (by decide) (Nat.le_of_ble_eq_true rfl) (Nat.le_of_ble_eq_true rfl) (Nat.le_of_ble_eq_true rfl) (fun sz => ?_)
              refine I_i2lc dX11_mixChannel_80 ?_
              refine V_cV0 (vs := [_]) (r_mix l _ _ ρ _ _ _ _ _) mX11_186 coX11_mix dX11_mixChannel_81 rM_0 rfl rfl rfl (by decide) (Nat.le_of_ble_eq_true rfl) (Nat.le_of_ble_eq_true rfl) (Nat.le_of_ble_eq_true rfl) (fun sz => ?_)
              refine I_iinc (L' := [some _, some _, some _]) dX11_mixChannel_84 rfl (by decide) rfl ?_
              refine V_goto (tgt := 68) dX11_mixChannel_87 (by decide) ?_
              exact V_eqM (by rw [mxN_s hi.1, Int.toNat_of_nonneg hi.1]) (V_wk' (ih68 _ (by omega) (i + 1) sz ⟨by omega, by omega⟩ rfl) ⟨rfl, rfl, rfl, trivial⟩)
        exact V_wk' (key68 _ 0 sz ⟨by omega, by omega⟩ rfl) ⟨rfl, rfl, rfl, trivial⟩
      · refine V_aload_n dX11_mixChannel_49 rfl ?_
        refine V_aload_n dX11_mixChannel_50 rfl ?_
        refine V_iload_n dX11_mixChannel_51 rfl ?_
        refine V_iload_n dX11_mixChannel_52 rfl ?_
        refine V_cV (vs := [_, _]) (r_queueOf l _ _ ρ _ _ _ _ c hc i ⟨by omega, by omega⟩ hq) mX11_78 coX11_queueOf dX11_mixChannel_53 rM_0 rfl rfl rfl (by decide) (Nat.le_of_ble_eq_true rfl) (Nat.le_of_ble_eq_true rfl) (Nat.le_of_ble_eq_true rfl) (fun sz => ?_)
        refine I_i2lc dX11_mixChannel_56 ?_
        refine V_cV0 (vs := [_]) (r_mix l _ _ ρ _ _ _ _ _) mX11_186 coX11_mix dX11_mixChannel_57 rM_0 rfl rfl rfl (by decide) (Nat.le_of_ble_eq_true rfl) (Nat.le_of_ble_eq_true rfl) (Nat.le_of_ble_eq_true rfl) (fun sz => ?_)
        refine I_iinc (L' := [some _, some _, some _]) dX11_mixChannel_60 rfl (by decide) rfl ?_
        refine V_goto (tgt := 44) dX11_mixChannel_63 (by decide) ?_
        exact V_eqM (by rw [mxN_s hi.1, Int.toNat_of_nonneg hi.1]) (V_wk' (ih44 _ (by omega) (i + 1) sz ⟨by omega, by omega⟩ rfl) ⟨rfl, rfl, rfl, trivial⟩)
  exact V_wk' (key44 _ 0 sz ⟨by omega, by omega⟩ rfl) ⟨rfl, rfl, rfl, trivial⟩
