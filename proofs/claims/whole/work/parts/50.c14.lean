/-- what the start of a frame's data leaves -/
theorem td_pre (l : Launch) (M : ME) (R : Nat) (ρ : Int → Int) (c : Int) (hc : 0 ≤ c ∧ c ≤ 3) (hR : RR M R ρ) (hI : RI ρ) (B : Int) (hC : CI B ρ) (hB : B ≤ 900000000) (fr : Int) (hfr : 383 ≤ fr ∧ fr ≤ 3333) (hF : Fb ρ fr) (f : Nat) (x1 x2 x3 : Int) (gf : Int → Int) (hf : M f = some (frO f (ρ fr) x1 x2 x3)) (hf1 : M (f + 1) = some (aI 46 gf)) (hgf : ∀ k, 0 ≤ k → k < ρ fr + 6 → gf k = ρ (fr + 4 + k)) (hdj : f + 2 ≤ R ∨ R + 80 ≤ f) (cn : Int → Int) (h1 : M (R + 1) = some (aI 6 cn)) (h8 : ∀ q, 0 ≤ q → q < 6 → cn q = ρ (3383 + q)) : ∃ d3 e7 m9 bb : Int, (bb = 0 ∨ bb = 1) ∧ (0 ≤ d3 ∧ d3 ≤ 1) ∧ CF l yX4_countFrame cX4_countFrame 4 (some .boolean) (rmN 1) [.ref (rkA R c), .int (iI (ρ (fr + 4 + 2)))] M (some (.int (iI bb))) (mu M (rkA R c) (rkO (rkA R c) (ρ (3395 + c) + 1) m9 (ρ (fr + 4 + 2)) d3 e7)) ∧ Value.int (iI (rtb (rcf ρ fr c) fr c)) = Value.int (iI (if d3 = 0 then min (gf 3) (ρ fr) else 0)) ∧ RR (mu (mu (mu M (rkA R c) (rkO (rkA R c) (ρ (3395 + c) + 1) m9 (ρ (fr + 4 + 2)) d3 e7)) (R + 1) (aI 6 (up cn 3 (cn 3 + bb)))) (rkA R c) (rkO (rkA R c) (ρ (3395 + c) + 1) m9 (ρ (fr + 4 + 2)) (if d3 = 0 then (if gf 3 = 255 then 0 else 1) else d3) e7)) R (rtp (rcf ρ fr c) fr c) := by
  obtain ⟨lc, g, k0, k1, k2, k3, k4⟩ := hR.2.1 c hc.1 (by omega)
  have hPc := hI.2.2.1 c hc.1 hc.2
  have hCc := hC.2.1 c hc.1 hc.2
  have hPb := hPc.1.1
  have hF1 := hF.1
  have g3 := hgf 3 (by omega) (by omega)
  have hkg : kgap (ρ (3395 + c)) lc (ρ (fr + 4 + 2)) = rgv ρ fr c := kg_e k2 ⟨hCc.1.1, hCc.2⟩
  have hCF := k_countFrame l M (rkA R c) _ _ lc _ _ k0 (by unfold r32; omega) (by unfold r32; omega) (ρ (fr + 4 + 2))
  rw [hkg] at hCF
  obtain ⟨bb, hbb, ebb⟩ := ex_if (p := ¬ rgv ρ fr c = 0 ∧ 0 < ρ (3407 + c))
  rw [ebb] at hCF
  have hRR0 := RR.cf (bb := bb) hc hfr hR hI ⟨hCc.1.1, hCc.2⟩ k1 k3 k4 h8 hbb
  have hI1 := hI.cf hc hfr hF
  have hkA : rkA R c = R + 72 + 2 * c.toNat := rfl
  have eD : rcf ρ fr c fr = ρ fr := rcf_o (by omega)
  have eP : rcf ρ fr c (fr + 4 + 3) = ρ (fr + 4 + 3) := rcf_o (by omega)
  have e03 := rcf_03 (ρ := ρ) (fr := fr) hc
  refine ⟨_, _, _, bb, by omega, ?_, hCF, ?_, ?_⟩
  · split <;> omega
  · rw [← e03]
    refine vi ?_
    unfold rtb
    rw [eP, eD, g3]
    by_cases z : rcf ρ fr c (3403 + c) = 0
    · rw [if_pos z, if_pos z]; split <;> omega
    · rw [if_neg z, if_neg z]
  · have hTP := RR.tp (fr := fr) (a := ρ (3395 + c) + 1) (b := if 0 < ρ (3395 + c) then ρ (3399 + c) + rgv ρ fr c else ρ (3399 + c)) (lc := ρ (fr + 4 + 2)) (e := if rgv ρ fr c = 0 then ρ (3407 + c) else 0) (p := gf 3) hc hRR0 hI1 (by rw [e03]; exact (mu_ne (by omega)).trans mu_eq) (by rw [eP]; exact g3)
    rw [e03] at hTP
    exact hTP

set_option maxRecDepth 100000 in
set_option maxHeartbeats 4000000 in
theorem c5_takeData (l : Launch) (M : ME) (R : Nat) (ρ : Int → Int) (c : Int) (hc : 0 ≤ c ∧ c ≤ 3) (hR : RR M R ρ) (hI : RI ρ) (B : Int) (hC : CI B ρ) (hB : B ≤ 900000000) (fr : Int) (hfr : 383 ≤ fr ∧ fr ≤ 3333) (hF : Fb ρ fr) (f : Nat) (x1 x2 x3 : Int) (gf : Int → Int) (hf : M f = some (frO f (ρ fr) x1 x2 x3)) (hf1 : M (f + 1) = some (aI 46 gf)) (hgf : ∀ k, 0 ≤ k → k < ρ fr + 6 → gf k = ρ (fr + 4 + k)) (hdj : f + 2 ≤ R ∨ R + 80 ≤ f) : CP l yX5_takeData cX5_takeData 7 (some .int) (rmN 3) [.ref R, .ref f, .int (iI c)] M (fun v M' => v = some (.int (iI (rtn (rcf ρ fr c) fr c))) ∧ RR M' R (rtd (rcf ρ fr c) fr c) ∧ FR M M' R 80) := by
  have hkA : rkA R c = R + 72 + 2 * c.toNat := rfl
  obtain ⟨lm, cn, ap, am, ab, al, h0, h1, h2, h3, h4, h5, h6, h7, h8, h9⟩ := id hR.1
  clear h9 h7
  obtain ⟨lc, g, k0, -⟩ := hR.2.1 c hc.1 (by omega)
  obtain ⟨d3, e7, m9, bb, hbb, hd3, hCF, hIB, hTP⟩ := td_pre l M R ρ c hc hR hI B hC hB fr hfr hF f x1 x2 x3 gf hf hf1 hgf hdj cn h1 h8
  clear h8
  have hF1 := hF.1
  have b3 := hF.2 3 (by omega) (by omega)
  have g2 := hgf 2 (by omega) (by omega)
  have g3 := hgf 3 (by omega) (by omega)
  have hI1 := hI.cf hc hfr hF
  have hF2 : Fb (rcf ρ fr c) fr := hF.cg hfr fun q a => rcf_o (by omega)
  have hC1 := hC.cf hI hc hF
  have ht := rtp_i (c := c) hc hfr hF2 (hI1.2.2.1 c hc.1 hc.2).1 hI1.2.2.2.1
  have htb := rtb_b (c := c) hF2
  have eD : rcf ρ fr c fr = ρ fr := rcf_o (by omega)
  rw [eD] at htb
  have eD2 : (rtp (rcf ρ fr c) fr c) fr = ρ fr := by rw [rtp_o (by omega), eD]
  have hC2 : CI (B + 1) (rtp (rcf ρ fr c) fr c) := hC1.cg (Int.le_refl _) hI1.2.2.2.1 (fun q hq => rtp_o (by omega))
  have hCN : ∀ n : Nat, (rtb (rcf ρ fr c) fr c) + n ≤ ρ fr → CI (B + 1 + n) (rtN (rtp (rcf ρ fr c) fr c) fr c (rtb (rcf ρ fr c) fr c) n) := fun n hn => hC2.tN hc hfr ht.1 htb.1 ht.2.1 ht.2.2 n (by rw [eD2]; exact hn)
  have hT2 : Tp (rtp (rcf ρ fr c) fr c) := hI1.2.2.2.2.cg fun q a b => rtp_o (by omega)
  have hP2 : ∀ i, 0 ≤ i → i ≤ 3 → (rtp (rcf ρ fr c) fr c) (3407 + i) ≤ 258 := fun i a b => by rw [rtp_o (by omega)]; have := (hI1.2.2.1 i a b).1.1; omega
  have hgx : ∀ k, 0 ≤ k → k < ρ fr + 6 → (rtp (rcf ρ fr c) fr c) (fr + 4 + k) = gf k := fun k a b => by rw [rtp_o (by omega), rcf_o (by omega)]; exact (hgf k a b).symm
  have hbx : ∀ k, 0 ≤ k → k < ρ fr + 6 → 0 ≤ gf k ∧ gf k ≤ 255 := fun k a b => by rw [hgf k a b]; exact hF.2 k a b
  clear hC1 hI1 hF2 hC hI hR hgf hC2
  refine CP.of (L0 := [some _, some _, some _, none, none, none, none]) (by decide +kernel) rfl rfl (Nat.le_of_ble_eq_true rfl) rfl (fun G A Q sz hQ => ?_)
  refine V_aload_n dX5_takeData_0 rfl ?_
  refine V_getf fX5_33 dX5_takeData_1 h0 rfl ?_
  refine V_iload_n dX5_takeData_4 rfl ?_
  refine I_aald ao5 dX5_takeData_5 h6 ⟨by omega, by omega⟩ (by decide) ?_
  refine V_astore_n (L' := [some _, some _, some _, some _, none, none, none]) dX5_takeData_6 rfl (by decide) rfl ?_
  refine V_join (J := 30) (M' := (mu (mu M (rkA R c) (rkO (rkA R c) (ρ (3395 + c) + 1) m9 (ρ (fr + 4 + 2)) d3 e7)) (R + 1) (aI 6 (up cn 3 (cn 3 + bb))))) (L' := [some (.ref R), some (.ref f), some (.int (iI c)), some (.ref (rkA R c)), none, none, none]) (fun sz => ?_) (fun j30 => ?_)
  · clear hbb
    refine V_iconst (v := iI (0)) dX5_takeData_30 rfl ?_
    refine V_istore (L' := [some _, some _, some _, some _, some _, none, none]) dX5_takeData_31 (by decide) rfl ?_
    refine V_aload_n dX5_takeData_33 rfl ?_
    refine V_aload_n dX5_takeData_34 rfl ?_
    refine V_cV (vs := [_]) (k_firstPlace l (mu (mu M (rkA R c) (rkO (rkA R c) (ρ (3395 + c) + 1) m9 (ρ (fr + 4 + 2)) d3 e7)) (R + 1) (aI 6 (up cn 3 (cn 3 + bb)))) (rkA R c) _ _ _ _ _ ((mu_ne (by omega)).trans mu_eq) hd3 f (ρ fr) x1 x2 x3 ((mu_ne (by omega)).trans ((mu_ne (by omega)).trans hf)) gf ((mu_ne (by omega)).trans ((mu_ne (by omega)).trans hf1)) (by omega) (by omega) (by omega)) mX5_111 coX4_firstPlace dX5_takeData_35 ((mu_ne (by omega)).trans mu_eq) rfl rfl rfl (by decide) (Nat.le_of_ble_eq_true rfl) (Nat.le_of_ble_eq_true rfl) (Nat.le_of_ble_eq_true rfl) (fun sz => ?_)
    refine V_istore (L' := [some _, some _, some _, some _, some _, some _, none]) dX5_takeData_38 (by decide) rfl ?_
    refine V_iload dX5_takeData_40 rfl ?_
    refine V_istore (L' := [some _, some _, some _, some _, some _, some _, some _]) dX5_takeData_42 (by decide) rfl ?_
    have key44 : ∀ (d : Nat) (j : Int) (N : ME) (sz : Nat), ((rtb (rcf ρ fr c) fr c) ≤ j ∧ j ≤ ρ fr) → (RR N R (rtN (rtp (rcf ρ fr c) fr c) fr c (rtb (rcf ρ fr c) fr c) (j - (rtb (rcf ρ fr c) fr c)).toNat)) → (FR M N R 80) → (ρ fr - j).toNat = d → V l G A (rmN 3) RX5 "takeData" cX5_takeData 7 (some .int) Q nX 0 0 N sz 44 [some (.ref R), some (.ref f), some (.int (iI c)), some (.ref (rkA R c)), some (.int (iI (rtC (rtp (rcf ρ fr c) fr c) fr c (rtb (rcf ρ fr c) fr c) (j - (rtb (rcf ρ fr c) fr c)).toNat))), none, some (.int (iI j))] [] := by
      intro d
      induction d using Nat.strongRecOn with
      | ind d ih44 =>
        intro j N  sz hj nR nF hd44
        refine V_iload dX5_takeData_44 rfl ?_
        refine V_aload_n dX5_takeData_46 rfl ?_
        refine V_getf fX5_115 dX5_takeData_47 ((nF _ (by omega)).trans hf) rfl ?_
        refine I_icmp_ge (tgt := 102) dX5_takeData_50 (by decide) ⟨by omega, by omega⟩ ⟨by omega, by omega⟩ (fun h50 => ?_) (fun h50 => ?_)
        · refine V_iload dX5_takeData_102 rfl ?_
          exact V_ireti dX5_takeData_104 rfl (Nat.le_of_ble_eq_true rfl) (Nat.le_of_ble_eq_true rfl) (hQ _ _ _ ⟨iv (by unfold rtn; rw [eD, show j = ρ fr by omega]), by unfold rtd; rw [eD, ← show j = ρ fr by omega]; exact nR, nF⟩)
        · refine V_iload dX5_takeData_53 rfl ?_
          refine V_bipush (v := iI (40)) dX5_takeData_55 (by decide +kernel) ?_
          refine I_icmp_ge_f (tgt := 102) dX5_takeData_57 (by decide) ⟨by omega, by omega⟩ ⟨by omega, by omega⟩ (by omega) ?_
          obtain ⟨lc9, gk, nk0, nk1, nk2, nk3, nk4⟩ := nR.2.1 c hc.1 (by omega)
          have hi := rtN_i (b := (rtb (rcf ρ fr c) fr c)) hc hfr ht.1 htb.1 ht.2.1 ht.2.2 (j - (rtb (rcf ρ fr c) fr c)).toNat (by rw [eD2]; omega)
          have hx : (rtN (rtp (rcf ρ fr c) fr c) fr c (rtb (rcf ρ fr c) fr c) (j - (rtb (rcf ρ fr c) fr c)).toNat) (fr + 4 + 4 + j) = gf (4 + j) := by
            rw [hi.2.2 _ (by omega) (by omega) (by omega), ← hgx _ (by omega) (by omega)]; congr 1; omega
          have hstep := rtN_s (ρ := (rtp (rcf ρ fr c) fr c)) (fr := fr) (c := c) hj.1
          have hcnt := rtC_s (ρ := (rtp (rcf ρ fr c) fr c)) (fr := fr) (c := c) hj.1
          have hCk := hCN (j - (rtb (rcf ρ fr c) fr c)).toNat (by omega)
          obtain ⟨ρk, hρk⟩ : ∃ q, q = (rtN (rtp (rcf ρ fr c) fr c) fr c (rtb (rcf ρ fr c) fr c) (j - (rtb (rcf ρ fr c) fr c)).toNat) := ⟨_, rfl⟩
          rw [← hρk] at nk0 nk2 nk3 nk4 hi nR hx hstep hcnt hCk
          obtain ⟨vj, hvj⟩ : ∃ q, q = ρk (fr + 4 + 4 + j) := ⟨_, rfl⟩
          rw [← hvj] at hx hstep hcnt
          clear hvj hρk
          have hpb := hi.1.1
          have hvb : 0 ≤ vj ∧ vj ≤ 255 := by rw [hx]; exact hbx _ (by omega) (by omega)
          have hPik : ∀ i, 0 ≤ i → i ≤ 3 → ρk (3407 + i) ≤ 258 := fun i a b => by
            by_cases z : i = c
            · rw [z]; omega
            · rw [hi.2.2 _ (by omega) (by omega) (by omega)]; exact hP2 i a b
          have hTpk : Tp ρk := hT2.cg fun q a b => hi.2.2 _ (by omega) (by omega) (by omega)
          obtain ⟨NA, hNA⟩ : ∃ q, q = mu (mu N (rkA R c + 1) (aI 258 (up gk (ρk (3407 + c)) vj))) (rkA R c) (rkO (rkA R c) (ρk (3395 + c)) (ρk (3399 + c)) lc9 (ρk (3403 + c)) (ρk (3407 + c) + 1)) := ⟨_, rfl⟩
          have hst := td_step l hc hvb nR hi.1 hi.2.1 hTpk hPik hCk (by omega) nk2 nk3 nk4 hNA
          have hFA : FR N NA R 80 := by rw [hNA]; exact (FR.rf.mu (by omega)).mu (by omega)
          have hNk : NA (rkA R c) = some (rkO (rkA R c) (ρk (3395 + c)) (ρk (3399 + c)) lc9 (ρk (3403 + c)) (ρk (3407 + c) + 1)) := by rw [hNA]; exact mu_eq
          clear hi hPik hTpk nk2 nk3 nk4
          refine V_aload_n dX5_takeData_60 rfl ?_
          refine V_aload_n dX5_takeData_61 rfl ?_
          refine V_getf fX5_74 dX5_takeData_62 ((nF _ (by omega)).trans hf) rfl ?_
          refine V_iconst (v := iI (4)) dX5_takeData_65 rfl ?_
          refine V_iload dX5_takeData_66 rfl ?_
          refine I_iadd dX5_takeData_68 ?_
          refine I_iald dX5_takeData_69 ((nF _ (by omega)).trans hf1) ⟨by omega, by omega⟩ (by decide) ?_
          rw [← hx]
          refine V_cV0 (vs := [_]) (k_append l N (rkA R c) _ _ _ _ _ nk0 gk nk1 (by omega) vj) mX5_118 coX4_append dX5_takeData_70 nk0 rfl rfl rfl (by decide) (Nat.le_of_ble_eq_true rfl) (Nat.le_of_ble_eq_true rfl) (Nat.le_of_ble_eq_true rfl) (fun sz => ?_)
          refine V_aload_n dX5_takeData_73 rfl ?_
          refine V_cV (vs := []) (k_isComplete l _ (rkA R c) _ _ _ _ _ mu_eq _ ((mu_ne (by omega)).trans mu_eq) (by omega) hst.1) mX5_121 coX4_isComplete dX5_takeData_74 mu_eq rfl rfl rfl (by decide) (Nat.le_of_ble_eq_true rfl) (Nat.le_of_ble_eq_true rfl) (Nat.le_of_ble_eq_true rfl) (fun sz => ?_)
          obtain ⟨-, bd, ebd, hst⟩ := hst
          rw [ebd, ← hNA]
          rcases hst with ⟨rfl, hS, hrv⟩ | ⟨rfl, lm8, na0, hDV⟩
          · rw [hstep] at hS
            rw [hrv] at hcnt
            clear hrv hstep hCk
            refine I_if_eq_t (tgt := 96) dX5_takeData_77 (by decide) ⟨by omega, by omega⟩ (by omega) ?_
            refine I_iinc (L' := [some _, some _, some _, some _, some _, none, some _]) dX5_takeData_96 rfl (by decide) rfl ?_
            refine V_goto (tgt := 44) dX5_takeData_99 (by decide) ?_
            exact V_wk' (ih44 _ (by omega) (j + 1) _ sz ⟨by omega, by omega⟩ (by first | exact hS | exact hD2) (by first | exact nF.tr hFA | exact (nF.tr hFA).tr (hD3.mu (by omega))) rfl) ⟨rfl, rfl, rfl, rfl, (vi (by rw [hcnt]; first | done | omega)), rfl, trivial⟩
          · rw [hstep] at hDV
            clear hstep hCk
            refine I_if_eq_f (tgt := 96) dX5_takeData_77 (by decide) ⟨by omega, by omega⟩ (by omega) ?_
            refine V_iload dX5_takeData_80 rfl ?_
            refine V_aload_n dX5_takeData_82 rfl ?_
            refine V_aload_n dX5_takeData_83 rfl ?_
            refine V_iload_n dX5_takeData_84 rfl ?_
            refine V_cVE (vs := [_, _]) hDV mX5_125 coX5_deliver dX5_takeData_85 na0 rfl rfl rfl (by decide) (Nat.le_of_ble_eq_true rfl) (Nat.le_of_ble_eq_true rfl) (Nat.le_of_ble_eq_true rfl) (fun N2 sz hp => ?_)
            obtain ⟨hD1, hD2, hD3⟩ := hp
            refine I_iadd dX5_takeData_88 ?_
            refine V_istore (L' := [some _, some _, some _, some _, some _, none, some _]) dX5_takeData_89 (by decide) rfl ?_
            refine V_aload_n dX5_takeData_91 rfl ?_
            refine V_iconst (v := iI (0)) dX5_takeData_92 rfl ?_
            refine V_putf fX5_129 dX5_takeData_93 (hD1.trans hNk) rfl rfl (by simp) ?_
            refine I_iinc (L' := [some _, some _, some _, some _, some _, none, some _]) dX5_takeData_96 rfl (by decide) rfl ?_
            refine V_goto (tgt := 44) dX5_takeData_99 (by decide) ?_
            exact V_wk' (ih44 _ (by omega) (j + 1) _ sz ⟨by omega, by omega⟩ (by first | exact hS | exact hD2) (by first | exact nF.tr hFA | exact (nF.tr hFA).tr (hD3.mu (by omega))) rfl) ⟨rfl, rfl, rfl, rfl, (vi (by rw [hcnt]; first | done | omega)), rfl, trivial⟩
    exact V_wk' (key44 _ (rtb (rcf ρ fr c) fr c) _ sz ⟨by omega, by omega⟩ (by rw [Int.sub_self]; exact hTP) (((FR.rf.mu (by omega)).mu (by omega)).mu (by omega)) rfl) ⟨rfl, rfl, rfl, rfl, (vi (by rw [Int.sub_self]; rfl)), hIB, trivial⟩
  · refine V_aload_n dX5_takeData_7 rfl ?_
    refine V_aload_n dX5_takeData_8 rfl ?_
    refine V_getf fX5_74 dX5_takeData_9 hf rfl ?_
    refine V_iconst (v := iI (2)) dX5_takeData_12 rfl ?_
    refine I_iald dX5_takeData_13 hf1 ⟨by omega, by omega⟩ (by decide) ?_
    rw [g2]
    refine V_cV (vs := [_]) hCF mX5_107 coX4_countFrame dX5_takeData_14 k0 rfl rfl rfl (by decide) (Nat.le_of_ble_eq_true rfl) (Nat.le_of_ble_eq_true rfl) (Nat.le_of_ble_eq_true rfl) (fun sz => ?_)
    refine I_if_eq (tgt := 30) dX5_takeData_17 (by decide) ⟨by omega, by omega⟩ (fun h17 => ?_) (fun h17 => ?_)
    · first
      | exact V_eqM (by rw [show bb = 1 by omega]) (V_wk' (j30 _) ⟨rfl, rfl, rfl, rfl, trivial⟩)
      | exact V_eqM (by rw [show bb = 0 by omega, Int.add_zero, up_self, mu_self ((mu_ne (by omega)).trans h1)]) (V_wk' (j30 _) ⟨rfl, rfl, rfl, rfl, trivial⟩)
    · refine V_aload_n dX5_takeData_20 rfl ?_
      refine V_getf fX5_15 dX5_takeData_21 ((mu_ne (by omega)).trans h0) rfl ?_
      refine V_iconst (v := iI (3)) dX5_takeData_24 rfl ?_
      refine V_dup2 dX5_takeData_25 rfl rfl ?_
      refine I_iald dX5_takeData_26 ((mu_ne (by omega)).trans h1) ⟨by omega, by omega⟩ (by decide) ?_
      refine V_iconst (v := iI (1)) dX5_takeData_27 rfl ?_
      refine I_iadd dX5_takeData_28 ?_
      refine I_iast dX5_takeData_29 ((mu_ne (by omega)).trans h1) ⟨by omega, by omega⟩ (by decide) ?_
      first
      | exact V_eqM (by rw [show bb = 1 by omega]) (V_wk' (j30 _) ⟨rfl, rfl, rfl, rfl, trivial⟩)
      | exact V_eqM (by rw [show bb = 0 by omega, Int.add_zero, up_self, mu_self ((mu_ne (by omega)).trans h1)]) (V_wk' (j30 _) ⟨rfl, rfl, rfl, rfl, trivial⟩)
