theorem SI.step {ρ : Int → Int} (hS : SI ρ) (hw : ρ 382 ≤ 59) (h3 : ρ 3 ≤ 99998) : SI (rsnd ρ) ∧ rsnd ρ 3 = ρ 3 + 1 ∧ rsnd ρ 382 = ρ 382 + 1 := by
  obtain ⟨ch, cn, hch, hcn, p1, p2, p3, p4, p5, p6, p7, p8, p9⟩ := rsnd_p hS hw
  obtain ⟨hD, hSc, hS3, hS1, hS4, hS5, hS382, hS2⟩ := hS
  refine ⟨⟨?_, fun c h0 h1 => ?_, ?_, ?_, ?_, fun i h0 h1 => ?_, ?_, ?_⟩, p3, p6⟩
  · rw [p1 0 (by omega) (by omega) (by omega) (by omega)]; exact hD
  · obtain ⟨q1, ⟨f1, f2, f3, f4⟩, q3, q4, q5⟩ := hSc c h0 h1
    have hF : Fc (rsnd ρ) c := by
      refine ⟨by rw [p1 _ (by omega) (by omega) (by omega) (by omega)]; exact f1, by rw [p1 _ (by omega) (by omega) (by omega) (by omega)]; exact f2, by rw [p1 _ (by omega) (by omega) (by omega) (by omega)]; exact f3, ?_⟩
      rw [p2 c h0 h1]
      split <;> omega
    have hW : rsnd ρ (37 + c) ≤ rsnd ρ 3 := by
      rw [p2 c h0 h1, p3]
      split <;> omega
    by_cases hc : c = ch
    · subst hc
      obtain ⟨a, b⟩ := p9 (by omega)
      exact ⟨a, hF, b.1, b.2, hW⟩
    · have hE : QE ρ (rsnd ρ) c := ⟨p8 _ (by omega) (by omega) (by omega) (by omega), p8 _ (by omega) (by omega) (by omega) (by omega), fun q h2 h3 => p8 _ (by omega) (by omega) (by omega) (by omega)⟩
      refine ⟨hE.s q1, hF, ?_, ?_, hW⟩
      · rw [p8 _ (by omega) (by omega) (by omega) (by omega)]; exact q3
      · rw [p8 _ (by omega) (by omega) (by omega) (by omega)]; exact q4
  · rw [p3]; omega
  · rw [p1 1 (by omega) (by omega) (by omega) (by omega)]; exact hS1
  · rw [p4]; omega
  · by_cases h : 5 + i = cn
    · rw [h, p5]; omega
    · rw [p1 _ (by omega) (by omega) (by omega) h]; exact hS5 i h0 h1
  · rw [p6]; omega
  · rw [p1 2 (by omega) (by omega) (by omega) (by omega)]; exact hS2
/-- slots in a row; how many of their frames are not idle -/
def rsnN (ρ : Int → Int) : Nat → Int → Int
  | 0 => ρ
  | n + 1 => rsnd (rsnN ρ n)
def rsnC (ρ : Int → Int) : Nat → Int
  | 0 => 0
  | n + 1 => rsnC ρ n + (if ¬ rch (rsnN ρ n) = -1 then 1 else 0)
theorem rsnN_s {ρ : Int → Int} {i : Int} (h : 0 ≤ i) : rsnd (rsnN ρ i.toNat) = rsnN ρ (i + 1).toNat := by rw [show (i + 1).toNat = i.toNat + 1 by omega]; rfl
theorem rsnC_s {ρ : Int → Int} {i : Int} (h : 0 ≤ i) : rsnC ρ (i + 1).toNat = rsnC ρ i.toNat + (if ¬ rch (rsnN ρ i.toNat) = -1 then 1 else 0) := by rw [show (i + 1).toNat = i.toNat + 1 by omega]; rfl
theorem SI.N {ρ : Int → Int} (hS : SI ρ) : ∀ n : Nat, ρ 382 + n ≤ 60 → ρ 3 + n ≤ 99999 → SI (rsnN ρ n) ∧ rsnN ρ n 3 = ρ 3 + n ∧ rsnN ρ n 382 = ρ 382 + n
  | 0, _, _ => ⟨hS, by show ρ 3 = _; omega, by show ρ 382 = _; omega⟩
  | n + 1, h1, h2 => by
    obtain ⟨a, b, c⟩ := SI.N hS n (by omega) (by omega)
    obtain ⟨a2, b2, c2⟩ := a.step (by omega) (by omega)
    exact ⟨a2, by show rsnd (rsnN ρ n) 3 = _; omega, by show rsnd (rsnN ρ n) 382 = _; omega⟩

set_option maxRecDepth 100000 in
set_option maxHeartbeats 4000000 in
theorem r_send (l : Launch) (M0 : ME) (r : Nat) (ρ π : Int → Int) (sv rf hs : Int) (hv : 0 ≤ sv ∧ sv ≤ 3) (n : Int) (hn : -2147483648 ≤ n ∧ n < 2147483648) (hS : SI ρ) (hw : 0 ≤ ρ 382 ∧ ρ 382 ≤ 60) (h3 : ρ 3 ≤ 99000) (e : Int) (he : (¬ (1 ≤ n ∧ n ≤ 60) ∧ e = 1) ∨ ((1 ≤ n ∧ n ≤ 60) ∧ 60 < ρ 382 + n ∧ e = 2) ∨ ((1 ≤ n ∧ n ≤ 60) ∧ ρ 382 + n ≤ 60 ∧ e = 0)) : CP l yX11_send cX11_send 4 (some .int) (rmN 7) [.ref r, .int (iI n)] (rM M0 r ρ π sv rf hs) (fun v M' => (0 < e ∧ v = some (.int (iI 0)) ∧ M' = rM M0 r ρ π sv e hs) ∨ (e = 0 ∧ v = some (.int (iI (rsnC ρ n.toNat))) ∧ M' = rM M0 r (rsnN ρ n.toNat) (svP ρ π sv) (svS sv) e hs)) := by
  refine CP.of (L0 := [some _, some _, none, none]) (by decide +kernel) rfl rfl (Nat.le_of_ble_eq_true rfl) rfl (fun G A Q sz hQ => ?_)
  refine V_aload_n dX11_send_0 rfl ?_
  refine V_tern (J := 37) (v := .int (iI e)) (fun sz => ?_) (fun j37 => ?_)
  · refine V_cV (vs := [_]) (r_refused l _ _ _ _ _ _ _ e (by omega)) mX11_30 coX11_refused dX11_send_37 rM_0 rfl rfl rfl (by decide) (Nat.le_of_ble_eq_true rfl) (Nat.le_of_ble_eq_true rfl) (Nat.le_of_ble_eq_true rfl) (fun sz => ?_)
    obtain ⟨be, hbe, ebe⟩ := ex_if (p := 0 < e)
    rw [ebe]
    refine I_if_eq (tgt := 45) dX11_send_40 (by decide) ⟨by omega, by omega⟩ (fun h40 => ?_) (fun h40 => ?_)
    · refine V_aload_n dX11_send_45 rfl ?_
      refine V_cV0 (vs := []) (r_saves l _ _ ρ π sv _ _ hv) mX11_49 coX11_saves dX11_send_46 rM_0 rfl rfl rfl (by decide) (Nat.le_of_ble_eq_true rfl) (Nat.le_of_ble_eq_true rfl) (Nat.le_of_ble_eq_true rfl) (fun sz => ?_)
      refine V_iconst (v := iI (0)) dX11_send_49 rfl ?_
      refine V_istore_n (L' := [some _, some _, some _, none]) dX11_send_50 rfl (by decide) rfl ?_
      refine V_iconst (v := iI (0)) dX11_send_51 rfl ?_
      refine V_istore_n (L' := [some _, some _, some _, some _]) dX11_send_52 rfl (by decide) rfl ?_
      have key53 : ∀ (d : Nat) (i : Int) (sz : Nat), 0 ≤ i ∧ i ≤ n → (n - i).toNat = d → V l G A (rmN 7) RX11 "send" cX11_send 4 (some .int) Q nX 0 0 (rM M0 r (rsnN ρ i.toNat) (svP ρ π sv) (svS sv) e hs) sz 53 [some (.ref r), some (.int (iI n)), some (.int (iI (rsnC ρ i.toNat))), some (.int (iI i))] [] := by
        intro d
        induction d using Nat.strongRecOn with
        | ind d ih53 =>
          intro i  sz hi hd53
          refine V_iload_n dX11_send_53 rfl ?_
          refine V_iload_n dX11_send_54 rfl ?_
          refine I_icmp_ge (tgt := 79) dX11_send_55 (by decide) ⟨by omega, by omega⟩ ⟨by omega, by omega⟩ (fun h55 => ?_) (fun h55 => ?_)
          · refine V_iload_n dX11_send_79 rfl ?_
            exact V_ireti dX11_send_80 rfl (Nat.le_of_ble_eq_true rfl) (Nat.le_of_ble_eq_true rfl) (hQ _ _ _ (Or.inr ⟨by omega, iv (by rw [show i = n by omega]), by rw [show i = n by omega]⟩))
          · have hN := hS.N i.toNat (by omega) (by omega)
            refine V_iload_n dX11_send_58 rfl ?_
            refine V_aload_n dX11_send_59 rfl ?_
            refine V_cV (vs := []) (r_sendsOne l _ _ (rsnN ρ i.toNat) _ _ _ _ hN.1 (by omega)) mX11_127 coX11_sendsOne dX11_send_60 rM_0 rfl rfl rfl (by decide) (Nat.le_of_ble_eq_true rfl) (Nat.le_of_ble_eq_true rfl) (Nat.le_of_ble_eq_true rfl) (fun sz => ?_)
            obtain ⟨nb, hnb, enb⟩ := ex_if (p := ¬ rch (rsnN ρ i.toNat) = -1)
            rw [enb]
            refine V_ternb (J := 71) (v := .int (iI nb)) (fun sz => ?_) (fun j71 => ?_)
            · refine I_iadd dX11_send_71 ?_
              refine V_istore_n (L' := [some _, some _, some _, some _]) dX11_send_72 rfl (by decide) rfl ?_
              refine I_iinc (L' := [some _, some _, some _, some _]) dX11_send_73 rfl (by decide) rfl ?_
              refine V_goto (tgt := 53) dX11_send_76 (by decide) ?_
              exact V_eqM (by rw [← rsnN_s hi.1]) (V_wk' (ih53 _ (by omega) (i + 1) sz ⟨by omega, by omega⟩ rfl) ⟨rfl, rfl, (vi (by rw [rsnC_s hi.1, enb])), rfl, trivial⟩)
            · refine I_if_eq (tgt := 70) dX11_send_63 (by decide) ⟨by omega, by omega⟩ (fun h63 => ?_) (fun h63 => ?_)
              · refine V_iconst (v := iI (0)) dX11_send_70 rfl ?_
                exact V_top (vi (by omega)) (j71 _)
              · refine V_iconst (v := iI (1)) dX11_send_66 rfl ?_
                refine V_goto (tgt := 71) dX11_send_67 (by decide) ?_
                exact V_top (vi (by omega)) (j71 _)
      exact V_wk' (key53 _ 0 sz ⟨by omega, by omega⟩ rfl) ⟨rfl, rfl, rfl, rfl, trivial⟩
    · refine V_iconst (v := iI (0)) dX11_send_43 rfl ?_
      exact V_ireti dX11_send_44 rfl (Nat.le_of_ble_eq_true rfl) (Nat.le_of_ble_eq_true rfl) (hQ _ _ _ (Or.inl ⟨by omega, rfl, rfl⟩))
  · refine V_iload_n dX11_send_1 rfl ?_
    refine I_i2l dX11_send_2 ⟨by omega, by omega⟩ ?_
    refine V_lconst (v := lI 1) dX11_send_3 rfl ?_
    refine V_ldc2 (v := lI (60)) dX11_send_4 (kL (by decide +kernel) kX11_125) ?_
    refine V_cS (vs := [_, _, _]) (r_within l _ n (1) (60) ⟨by omega, by omega⟩ ⟨by omega, by omega⟩ ⟨by omega, by omega⟩) mX11_23 coX11_within dX11_send_7 rfl rfl (by decide) (Nat.le_of_ble_eq_true rfl) (Nat.le_of_ble_eq_true rfl) (Nat.le_of_ble_eq_true rfl) (fun sz => ?_)
    obtain ⟨bn, hbn, ebn⟩ := ex_if (p := 1 ≤ n ∧ n ≤ 60)
    rw [ebn]
    refine I_if_ne (tgt := 17) dX11_send_10 (by decide) ⟨by omega, by omega⟩ (fun h10 => ?_) (fun h10 => ?_)
    · refine V_aload_n dX11_send_17 rfl ?_
      refine V_getf fX11_7 dX11_send_18 rM_0 rfl ?_
      refine V_sipush (v := iI (382)) dX11_send_21 (by decide +kernel) ?_
      refine R_iald dX11_send_24 ⟨by omega, by omega⟩ ?_
      refine V_iload_n dX11_send_25 rfl ?_
      refine I_iadd dX11_send_26 ?_
      refine V_bipush (v := iI (60)) dX11_send_27 (by decide +kernel) ?_
      refine I_icmp_le (tgt := 36) dX11_send_29 (by decide) ⟨by omega, by omega⟩ ⟨by omega, by omega⟩ (fun h29 => ?_) (fun h29 => ?_)
      · refine V_iconst (v := iI (0)) dX11_send_36 rfl ?_
        exact V_top (vi (by omega)) (j37 _)
      · refine V_iconst (v := iI (2)) dX11_send_32 rfl ?_
        refine V_goto (tgt := 37) dX11_send_33 (by decide) ?_
        exact V_top (vi (by omega)) (j37 _)
    · refine V_iconst (v := iI (1)) dX11_send_13 rfl ?_
      refine V_goto (tgt := 37) dX11_send_14 (by decide) ?_
      exact V_top (vi (by omega)) (j37 _)
