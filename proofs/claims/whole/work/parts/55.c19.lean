theorem V_gen {l : Launch} {G : GG} {A : Nat → Prop} {R : Room} {own nm : String} {cc : ByteArray} {nL : Nat} {ret : Option FieldType} {Q : Option Value → ME → Nat → Prop} {X : String → ME → Prop} {k n : Nat} {M : ME} {sz : Nat} {pc : Nat} {L : List (Option Value)} {st : List Value} (kk : ∀ M1 : ME, M1 = M → V l G A R own nm cc nL ret Q X k n M1 sz pc L st) : V l G A R own nm cc nL ret Q X k n M sz pc L st := kk M rfl

/-- the wire with the frame of a slot -/
theorem WR.snd {M W : ME} {w : Nat} {ρ : Int → Int} {fr : Int → Nat} (hS : SI ρ) (hW : Wr ρ) (hw : ρ 382 ≤ 59) (w2 : M (w + 1) = some (aR 3 60 fr)) (w3 : Pm (w + 2) 2 60 fr) (w5 : ∀ i, 0 ≤ i → i < 60 → ∃ φ, FO M (fr i) φ 0) (w6 : ∀ i, 0 ≤ i → i < ρ 382 → FO M (fr i) (sl ρ (383 + 50 * i)) (ρ (383 + 50 * i) + 6)) {g : Int → Int} (n6 : W w = some (wiO w (ρ 382 + 1))) (n2 : W (fr (ρ 382)) = some (frO (fr (ρ 382)) (ρ 0) 0 (rclk ρ) (1000 * ρ 3 + ρ 2))) (n3 : W (fr (ρ 382) + 1) = some (aI 46 (up (up g (4 + ρ 0) (crcF (rsn2 ρ) (ρ 382) / 256)) (4 + ρ 0 + 1) (crcF (rsn2 ρ) (ρ 382) % 256)))) (n4 : ∀ k, 0 ≤ k → k < 4 + ρ 0 → g k = rsn2 ρ (383 + 50 * ρ 382 + 4 + k)) (nF : ∀ q, w < q → q < w + 122 → q ≠ fr (ρ 382) → q ≠ fr (ρ 382) + 1 → W q = M q) : WR W w (rsnd ρ) := by
  obtain ⟨p1, p2, p3, p3b, p4, p5⟩ := rsn2_p hS hw rfl rfl rfl
  obtain ⟨f1, f2, f3, f4, f5, f6⟩ := rsnd_f hS hw rfl rfl
  obtain ⟨ch, cn, hch, hcn, r1, r2, r3, r4, r5, r6, r7, r8, r9⟩ := rsnd_p hS hw
  have hw0 := hW.1
  have hD := hS.1
  have b0 := w3 (ρ 382) hw0.1 (by omega)
  have hO : FO W (fr (ρ 382)) (sl (rsnd ρ) (383 + 50 * ρ 382)) (ρ 0 + 6) := by
    refine ⟨_, ?_, n3, ?_, fun k a b => ?_⟩
    · rw [n2]
      unfold sl
      rw [f1 0 (by omega) (by omega), f1 1 (by omega) (by omega), f1 2 (by omega) (by omega), f1 3 (by omega) (by omega), Int.add_zero, p1.1, p1.2.1, p1.2.2.1, p1.2.2.2.1]
    · unfold sl
      rw [f1 1 (by omega) (by omega), p1.2.1]; omega
    · unfold sl
      rcases (show k < 4 + ρ 0 ∨ k = 4 + ρ 0 ∨ k = 4 + ρ 0 + 1 by omega) with e | e | e
      · rw [up_n (by omega), up_n (by omega), n4 k a e, show 383 + 50 * ρ 382 + 4 + k = 383 + 50 * ρ 382 + (4 + k) by omega, ← f1 _ (by omega) (by omega)]
      · rw [e, up_n (by omega), up_s, show 383 + 50 * ρ 382 + (4 + (4 + ρ 0)) = 383 + 50 * ρ 382 + 8 + ρ 0 by omega, f2]
      · rw [e, up_s, show 383 + 50 * ρ 382 + (4 + (4 + ρ 0 + 1)) = 383 + 50 * ρ 382 + 8 + ρ 0 + 1 by omega, f3]
  have e0 : rsnd ρ (383 + 50 * ρ 382) = ρ 0 := by have := f1 0 (by omega) (by omega); rw [Int.add_zero] at this; rw [this, p1.1]
  refine ⟨fr, by rw [r6]; exact n6, by rw [nF _ (by omega) (by omega) (by omega) (by omega)]; exact w2, w3, by rw [r6]; omega, fun i a b => ?_, fun i a b => ?_⟩
  · by_cases e : i = ρ 382
    · rw [e]; exact ⟨_, hO.mv ⟨rfl, rfl⟩ (by omega) (fun _ _ _ => rfl)⟩
    · obtain ⟨φ, h⟩ := w5 i a b
      have b1 := w3 i a b
      have b2 := b1.2.2 (ρ 382) hw0.1 (by omega) e
      exact ⟨φ, h.mv ⟨nF _ (by omega) (by omega) (by omega) (by omega), nF _ (by omega) (by omega) (by omega) (by omega)⟩ (by omega) (fun _ _ _ => rfl)⟩
  · rw [r6] at b
    by_cases e : i = ρ 382
    · rw [e, e0]; exact hO
    · have b1 := w3 i a (by omega)
      have b2 := b1.2.2 (ρ 382) hw0.1 (by omega) e
      have hl := (hW.2 i a (by omega)).1
      have er : ∀ q, 383 + 50 * i ≤ q → q < 383 + 50 * i + 50 → rsnd ρ q = ρ q := fun q x y => r8 q (by omega) (by omega) (by omega) (by omega)
      rw [er _ (by omega) (by omega)]
      exact (w6 i a (by omega)).mv ⟨nF _ (by omega) (by omega) (by omega) (by omega), nF _ (by omega) (by omega) (by omega) (by omega)⟩ (by omega) (fun q x y => er _ (by omega) (by omega))

set_option maxRecDepth 100000 in
set_option maxHeartbeats 4000000 in
theorem s_sendSlot (l : Launch) (M : ME) (S : Nat) (ρ : Int → Int) (hS : St M S ρ) (hI : SI ρ) (hW : Wr ρ) (hR : RI ρ) (hX : XI ρ) (hw : ρ 382 ≤ 59) : CP l yX7_sendSlot cX7_sendSlot 3 (some .int) (rmN 5) [.ref S] M (fun v M' => v = some (.int (iI (rch ρ))) ∧ St M' S (rsnd ρ) ∧ FR M M' S 265) := by
  obtain ⟨sq, h1, h2, h3, h4⟩ := id hS.1
  obtain ⟨fr, w1, w2, w3, w4, w5, w6⟩ := id hS.2.2.1
  obtain ⟨ch, hch⟩ : ∃ ch, ch = rch ρ := ⟨_, rfl⟩
  have hcb := rch_b (ρ := ρ)
  rw [← hch] at hcb
  obtain ⟨p1, p2, p3, p3b, p4, p5⟩ := rsn2_p hI hw hch rfl rfl
  obtain ⟨f1, f2, f3, f4, f5, f6⟩ := rsnd_f hI hw hch rfl
  have hD := hI.1
  have hI3 := hI.2.2.1
  have hI1 := hI.2.2.2.1
  have hI2 := hI.2.2.2.2.2.2.2
  have b0 := w3 (ρ 382) w4.1 (by omega)
  obtain ⟨φo, go, o1, o2, -⟩ := w5 (ρ 382) w4.1 (by omega)
  obtain ⟨fo, hfo⟩ : ∃ q, q = fr (ρ 382) := ⟨_, rfl⟩
  rw [← hfo] at b0 o1 o2
  have hwo : ∀ q, (q < 37 ∨ 41 ≤ q) → rwtN ρ ch 4 q = ρ q := fun q h => rwtN_o 4 (by omega)
  have hww : ∀ c, 0 ≤ c → c ≤ 3 → rwtN ρ ch 4 (37 + c) = if ¬ c = ch ∧ 0 < pend ρ c then ρ (37 + c) + 1 else 0 := fun c x y => rwtN_w (fun c x y => (hI.2.1 c x y).1.1.m.2) x 4 (by omega) (by omega)
  refine CP.of (L0 := [some _, none, none]) (by decide +kernel) rfl rfl (Nat.le_of_ble_eq_true rfl) rfl (fun G A Q sz hQ => ?_)
  refine V_aload_n dX7_sendSlot_0 rfl ?_
  refine V_cV (vs := []) (s_chosenChannel l M S ρ hS hI.QA) mX7_104 coX7_chosenChannel dX7_sendSlot_1 h1 rfl rfl rfl (by decide) (Nat.le_of_ble_eq_true rfl) (Nat.le_of_ble_eq_true rfl) (Nat.le_of_ble_eq_true rfl) (fun sz => ?_)
  rw [← hch]
  refine V_istore_n (L' := [some _, some _, none]) dX7_sendSlot_4 rfl (by decide) rfl ?_
  refine V_iconst (v := iI (0)) dX7_sendSlot_5 rfl ?_
  refine V_istore_n (L' := [some _, some _, some _]) dX7_sendSlot_6 rfl (by decide) rfl ?_
  have key7 : ∀ (d : Nat) (j : Int) (N : ME) (sz : Nat), (0 ≤ j ∧ j ≤ 4) → (∀ i, 0 ≤ i → i < j → SC N (scA S i) (rwtN ρ ch 4) i) → (∀ i, j ≤ i → i < 4 → SC N (scA S i) ρ i) → (∀ q, (q < S + 205 ∨ S + 265 ≤ q) → N q = M q) → (4 - j).toNat = d → V l G A (rmN 5) RX7 "sendSlot" cX7_sendSlot 3 (some .int) Q nX 0 0 N sz 7 [some (.ref S), some (.int (iI ch)), some (.int (iI j))] [] := by
    intro d
    induction d using Nat.strongRecOn with
    | ind d ih7 =>
      intro j N  sz hj nK nK1 nF hd7
      refine V_iload_n dX7_sendSlot_7 rfl ?_
      refine V_iconst (v := iI (4)) dX7_sendSlot_8 rfl ?_
      refine I_icmp_ge (tgt := 37) dX7_sendSlot_9 (by decide) ⟨by omega, by omega⟩ ⟨by omega, by omega⟩ (fun h9 => ?_) (fun h9 => ?_)
      · refine V_aload_n dX7_sendSlot_37 rfl ?_
        refine V_getf fX7_40 dX7_sendSlot_38 ((nF _ (by omega)).trans h1) rfl ?_
        refine V_cV (vs := []) (c9_append l N (S + 3) (ρ 382) ((nF _ (by omega)).trans w1) fr ((nF _ (by omega)).trans w2) (by omega)) mX7_111 coX9_append dX7_sendSlot_41 ((nF _ (by omega)).trans w1) rfl rfl rfl (by decide) (Nat.le_of_ble_eq_true rfl) (Nat.le_of_ble_eq_true rfl) (Nat.le_of_ble_eq_true rfl) (fun sz => ?_)
        rw [← hfo]
        have hB1 : SB (mu N (S + 3) (wiO (S + 3) (ρ 382 + 1))) S ρ := hS.1.mv (fun q x y => (mu_ne (by omega)).trans (nF q (by omega))) (fun _ _ => rfl)
        refine V_astore_n (L' := [some _, some _, some _]) dX7_sendSlot_44 rfl (by decide) rfl ?_
        refine V_aload_n dX7_sendSlot_45 rfl ?_
        refine V_aload_n dX7_sendSlot_46 rfl ?_
        refine V_getf fX7_9 dX7_sendSlot_47 ((mu_ne (by omega)).trans ((nF _ (by omega)).trans h1)) rfl ?_
        refine V_aload_n dX7_sendSlot_50 rfl ?_
        refine V_cV (vs := []) (s_boardTime l _ S ρ hB1 (by omega) (by omega)) mX7_114 coX7_boardTime dX7_sendSlot_51 ((mu_ne (by omega)).trans ((nF _ (by omega)).trans h1)) rfl rfl rfl (by decide) (Nat.le_of_ble_eq_true rfl) (Nat.le_of_ble_eq_true rfl) (Nat.le_of_ble_eq_true rfl) (fun sz => ?_)
        refine V_aload_n dX7_sendSlot_54 rfl ?_
        refine V_cV (vs := []) (s_groundArrival l _ S ρ hB1 (by omega) (by omega)) mX7_118 coX7_groundArrival dX7_sendSlot_55 ((mu_ne (by omega)).trans ((nF _ (by omega)).trans h1)) rfl rfl rfl (by decide) (Nat.le_of_ble_eq_true rfl) (Nat.le_of_ble_eq_true rfl) (Nat.le_of_ble_eq_true rfl) (fun sz => ?_)
        refine V_cV0 (vs := [_, _, _]) (f_begin l _ fo _ _ _ _ ((mu_ne (by omega)).trans ((nF _ (by omega)).trans o1)) (ρ 0) (rclk ρ) (1000 * ρ 3 + ρ 2)) mX7_121 coX2_begin dX7_sendSlot_58 ((mu_ne (by omega)).trans ((nF _ (by omega)).trans o1)) rfl rfl rfl (by decide) (Nat.le_of_ble_eq_true rfl) (Nat.le_of_ble_eq_true rfl) (Nat.le_of_ble_eq_true rfl) (fun sz => ?_)
        refine V_aload_n dX7_sendSlot_61 rfl ?_
        refine V_getf fX7_127 dX7_sendSlot_62 mu_eq rfl ?_
        refine V_iconst (v := iI (0)) dX7_sendSlot_65 rfl ?_
        refine V_aload_n dX7_sendSlot_66 rfl ?_
        refine V_getf fX7_21 dX7_sendSlot_67 ((mu_ne (by omega)).trans ((mu_ne (by omega)).trans ((nF _ (by omega)).trans h1))) rfl ?_
        refine V_sipush (v := iI (255)) dX7_sendSlot_70 (by decide +kernel) ?_
        first | refine I_and255 dX7_sendSlot_73 ?_ | refine I_and65535 dX7_sendSlot_73 ?_ | refine I_and31 dX7_sendSlot_73 ?_
        refine I_iast dX7_sendSlot_74 ((mu_ne (by omega)).trans ((mu_ne (by omega)).trans ((nF _ (by omega)).trans o2))) ⟨by omega, by omega⟩ (by decide) ?_
        have j140 : ∀ (N : ME) (g : Int → Int) (sz : Nat), (N S = some (stO S (ρ 0) (ρ 1) (ρ 2) (ρ 3) (if ch = -1 then ρ 45 + 1 else ρ 45))) → (N fo = some (frO fo (ρ 0) 0 (rclk ρ) (1000 * ρ 3 + ρ 2))) → (N (fo + 1) = some (aI 46 g)) → (∀ k, 0 ≤ k → k < 4 + ρ 0 → g k = rsn2 ρ (383 + 50 * ρ 382 + 4 + k)) → (∀ i, 0 ≤ i → i < 4 → SC N (scA S i) (rsnd ρ) i) → (N (S + 3) = some (wiO (S + 3) (ρ 382 + 1))) → (∀ q, q ≠ S → q ≠ fo → q ≠ fo + 1 → q ≠ S + 3 → (q < S + 205 ∨ S + 265 ≤ q) → N q = M q) → V l G A (rmN 5) RX7 "sendSlot" cX7_sendSlot 3 (some .int) Q nX 0 0 N sz 140 [some (.ref S), some (.int (iI ch)), some (.ref fo)] [] := by
          intro N g  sz n1 n2 n3 n4 n5 n6 nF9
          have hcr : crcN g (4 + ρ 0).toNat = crcF (rsn2 ρ) (ρ 382) := by
            unfold crcF; rw [p1.1]; exact crcN_cg _ fun k a b => n4 k a (by omega)
          refine V_aload_n dX7_sendSlot_140 rfl ?_
          refine V_cV (vs := []) (f_setRightCheck l N fo _ _ _ _ n2 g n3 (by omega) (fun k a b => by rw [n4 k a b]; exact p5 k a b)) mX7_137 coX2_setRightCheck dX7_sendSlot_141 n2 rfl rfl rfl (by decide) (Nat.le_of_ble_eq_true rfl) (Nat.le_of_ble_eq_true rfl) (Nat.le_of_ble_eq_true rfl) (fun sz => ?_)
          rw [show crcN g (4 + ρ 0).toNat = crcF (rsn2 ρ) (ρ 382) from hcr]
          refine V_pop dX7_sendSlot_144 rfl ?_
          refine V_aload_n dX7_sendSlot_145 rfl ?_
          refine V_dup dX7_sendSlot_146 rfl ?_
          refine V_getf fX7_21 dX7_sendSlot_147 ((mu_ne (by omega)).trans n1) rfl ?_
          refine V_iconst (v := iI (1)) dX7_sendSlot_150 rfl ?_
          refine I_iadd dX7_sendSlot_151 ?_
          refine V_putf fX7_21 dX7_sendSlot_152 ((mu_ne (by omega)).trans n1) rfl rfl (by simp) ?_
          refine V_iload_n dX7_sendSlot_155 rfl ?_
          obtain ⟨WZ, hWZ⟩ : ∃ q : ME, q = mu (mu N (fo + 1) (aI 46 (up (up g (4 + ρ 0) (crcF (rsn2 ρ) (ρ 382) / 256)) (4 + ρ 0 + 1) (crcF (rsn2 ρ) (ρ 382) % 256)))) S (stO S (ρ 0) (ρ 1) (ρ 2) (ρ 3 + 1) (if ch = -1 then ρ 45 + 1 else ρ 45)) := ⟨_, rfl⟩
          have hzo : ∀ q, q ≠ S → q ≠ fo + 1 → WZ q = N q := fun q a b => by rw [hWZ, mu_ne a, mu_ne b]
          obtain ⟨ch2, cn, hch2, hcn, r1, r2, r3, r4, r5, r6, r7, r8, r9⟩ := rsnd_p hI hw
          have hcc : ch2 = ch := hch2.trans hch.symm
          subst hcc
          have hz1 : SB WZ S (rsnd ρ) := by
            refine ⟨sq, ?_, ?_, ?_, fun a x y => by rw [r1 _ (by omega) (by omega) (by omega) (by omega)]; exact h4 a x y⟩
            · rw [hWZ, mu_eq, r1 0 (by omega) (by omega) (by omega) (by omega), r1 1 (by omega) (by omega) (by omega) (by omega), r1 2 (by omega) (by omega) (by omega) (by omega), r3, show (45 : Int) = 41 + 4 by omega, r7 4 (by omega) (by omega)]
              by_cases e : ch2 = -1
              · rw [if_pos e, if_pos (by omega)]
              · rw [if_neg e, if_neg (by omega)]
            · rw [hzo _ (by omega) (by omega), nF9 _ (by omega) (by omega) (by omega) (by omega) (by omega)]; exact h2
            · rw [hzo _ (by omega) (by omega), nF9 _ (by omega) (by omega) (by omega) (by omega) (by omega)]; exact h3
          have hz2 : ∀ i, 0 ≤ i → i < 4 → SC WZ (scA S i) (rsnd ρ) i := fun i a b => by
            have hkB : scA S i = S + 205 + 15 * i.toNat := rfl
            exact (n5 i a b).mv (fun q x y => hzo q (by omega) (by omega)) (fun _ _ => rfl)
          have hz3 : WR WZ (S + 3) (rsnd ρ) := WR.snd hI hW hw w2 w3 w5 w6 (by rw [hzo _ (by omega) (by omega)]; exact n6) (by rw [← hfo, hzo _ (by omega) (by omega)]; exact n2) (by rw [← hfo, hWZ, mu_ne (by omega)]; exact mu_eq) n4 (fun q x y z w => by rw [← hfo] at z w; rw [hzo _ (by omega) (by omega)]; exact nF9 q (by omega) z w (by omega) (by omega))
          have hz4 : RR WZ (S + 125) (rsnd ρ) := hS.2.2.2.mv hR (fun q x y => by rw [hzo _ (by omega) (by omega)]; exact nF9 q (by omega) (by omega) (by omega) (by omega) (by omega)) (fun q x y z => r8 q (by omega) (by omega) (by omega) (by omega))
          have hz5 : FR M WZ S 265 := fun q hq => by rw [hzo _ (by omega) (by omega)]; exact nF9 q (by omega) (by omega) (by omega) (by omega) (by omega)
          exact V_ireti dX7_sendSlot_156 rfl (Nat.le_of_ble_eq_true rfl) (Nat.le_of_ble_eq_true rfl) (hQ _ _ _ ⟨iv hch2, by first | (rw [← hWZ]; exact ⟨hz1, hz2, hz3, hz4⟩) | (have e9 : WZ = _ := hWZ; exact e9 ▸ ⟨hz1, hz2, hz3, hz4⟩), by first | (rw [← hWZ]; exact hz5) | exact hWZ ▸ hz5⟩)
        refine V_gen (fun W0 hW0 => ?_)
        have gW00 := (congrFun hW0 S).trans ((mu_ne (by omega)).trans ((mu_ne (by omega)).trans ((mu_ne (by omega)).trans ((nF _ (by omega)).trans h1))))
        have gW01 := (congrFun hW0 (S + 2)).trans ((mu_ne (by omega)).trans ((mu_ne (by omega)).trans ((mu_ne (by omega)).trans ((nF _ (by omega)).trans h3))))
        have gW02 := (congrFun hW0 fo).trans ((mu_ne (by omega)).trans mu_eq)
        have gW03 := (congrFun hW0 (fo + 1)).trans mu_eq
        have gW04 := (congrFun hW0 (S + 3)).trans ((mu_ne (by omega)).trans ((mu_ne (by omega)).trans mu_eq))
        have hW0o : ∀ q, q ≠ fo → q ≠ fo + 1 → q ≠ S + 3 → W0 q = N q := fun q a b c => by rw [hW0, mu_ne b, mu_ne a, mu_ne c]
        have hK0 : ∀ i, 0 ≤ i → i < 4 → SC W0 (scA S i) (rwtN ρ ch 4) i := fun i a b => by
          have hkB : scA S i = S + 205 + 15 * i.toNat := rfl
          exact (nK i a (by omega)).mv (fun q x y => hW0o q (by omega) (by omega) (by omega)) (fun _ _ => rfl)
        clear hW0
        refine V_iload_n dX7_sendSlot_75 rfl ?_
        refine V_iconst (v := iI (-1)) dX7_sendSlot_76 rfl ?_
        refine I_icmp_ne (tgt := 119) dX7_sendSlot_77 (by decide) ⟨by omega, by omega⟩ ⟨by omega, by omega⟩ (fun h77 => ?_) (fun h77 => ?_)
        · refine V_aload_n dX7_sendSlot_119 rfl ?_
          refine V_getf fX7_127 dX7_sendSlot_120 gW02 rfl ?_
          refine V_iconst (v := iI (1)) dX7_sendSlot_123 rfl ?_
          refine V_iload_n dX7_sendSlot_124 rfl ?_
          refine I_iast dX7_sendSlot_125 gW03 ⟨by omega, by omega⟩ (by decide) ?_
          refine V_gen (fun W1 hW1 => ?_)
          have gW10 := (congrFun hW1 S).trans ((mu_ne (by omega)).trans gW00)
          have gW11 := (congrFun hW1 (S + 2)).trans ((mu_ne (by omega)).trans gW01)
          have gW12 := (congrFun hW1 fo).trans ((mu_ne (by omega)).trans gW02)
          have gW13 := (congrFun hW1 (fo + 1)).trans mu_eq
          have gW14 := (congrFun hW1 (S + 3)).trans ((mu_ne (by omega)).trans gW04)
          have hW1o : ∀ q, q ≠ fo + 1 → W1 q = W0 q := fun q b => by rw [hW1, mu_ne b]
          clear hW1
          have hkA : scA S ch = S + 205 + 15 * ch.toNat := rfl
          obtain ⟨q1, q2, q3, q4, q5, q6⟩ := p3 (by omega)
          have hSw : SC W1 (scA S ch) (rsn1 ρ) ch := (hK0 ch (by omega) (by omega)).mv (fun q x y => hW1o q (by omega)) (fun q hq => p3b q (by unfold chq at hq; omega))
          obtain ⟨fc, pc, c0, -⟩ := id hSw
          have hI50 := hI.2.1 ch (by omega) (by omega)
          have hFL := c6_fill l (scA S ch) (rsn1 ρ) ch (383 + 50 * ρ 382) (by omega) (by omega) W1 fo (ρ 0) _ _ _ _ gW12 gW13 hSw (by omega) q1 hD q2 (by rw [q3]; omega) (by rw [q4]; omega) q5
          rw [q3] at hFL
          refine V_aload_n dX7_sendSlot_126 rfl ?_
          refine V_getf fX7_33 dX7_sendSlot_127 gW10 rfl ?_
          refine V_iload_n dX7_sendSlot_130 rfl ?_
          refine I_aald ao6 dX7_sendSlot_131 gW11 ⟨by omega, by omega⟩ (by decide) ?_
          refine V_aload_n dX7_sendSlot_132 rfl ?_
          refine V_aload_n dX7_sendSlot_133 rfl ?_
          refine V_getf fX7_21 dX7_sendSlot_134 gW10 rfl ?_
          refine V_cVE0 (vs := [_, _]) hFL mX7_133 coX6_fill dX7_sendSlot_137 c0 rfl rfl rfl (by decide) (Nat.le_of_ble_eq_true rfl) (Nat.le_of_ble_eq_true rfl) (Nat.le_of_ble_eq_true rfl) (fun N2 sz hp => ?_)
          obtain ⟨gi, hgi1, hgi, hgd, hfS, hfF⟩ := hp
          have hgk : ∀ k, 0 ≤ k → k < 4 + ρ 0 → gi k = rsn2 ρ (383 + 50 * ρ 382 + 4 + k) := fun k a b => by
            obtain ⟨i0, i1, i2, i3⟩ := hgi
            have hx4 := hX.2.1 ch (by omega) (by omega)
            have e2 : rsn2 ρ = rflN (ridl (rsn1 ρ) ch (ρ 0)) (383 + 50 * ρ 382) ch (ρ 0).toNat := by unfold rsn2; rw [← hch]
            rcases (show k = 0 ∨ k = 1 ∨ k = 2 ∨ k = 3 ∨ 4 ≤ k by omega) with e | e | e | e | e
            · rw [e, Int.add_zero, p1.2.2.2.2.1, i0, up_n (by omega), up_s]; exact hX.1.symm
            · rw [e, p1.2.2.2.2.2.1, if_neg (by omega), i1, up_s]
            · rw [e, p1.2.2.2.2.2.2, if_neg (by omega), i2, q6]; exact hx4.symm
            · rw [e, i3, e2]
            · have := hgd (k - 4) (by omega) (by omega)
              rw [show 4 + (k - 4) = k by omega, show 383 + 50 * ρ 382 + 4 + 4 + (k - 4) = 383 + 50 * ρ 382 + 4 + k by omega, ← e2] at this
              exact this
          have hN2o : ∀ q, (q < scA S ch ∨ scA S ch + 15 ≤ q) → q ≠ fo + 1 → N2 q = W0 q := fun q a b => (hfF q a b).trans (hW1o q b)
          refine V_wk' (j140 N2 gi _ (by rw [if_neg (by omega)]; exact (hN2o S (by omega) (by omega)).trans gW00) ((hN2o fo (by omega) (by omega)).trans gW02) hgi1 hgk (fun i a b => ?_) ((hN2o _ (by omega) (by omega)).trans gW04) (fun q a b c d e => (hN2o q (by omega) c).trans ((hW0o q b c d).trans (nF q e)))) ⟨rfl, rfl, rfl, trivial⟩
          have hkB : scA S i = S + 205 + 15 * i.toNat := rfl
          by_cases e : i = ch
          · rw [e]
            refine hfS.mv (fun q x y => rfl) (fun q hq => ?_)
            by_cases z : q = 41 + ch
            · obtain ⟨ch2, cn, hch2, hcn, r1, r2, r3, r4, r5, r6, r7, r8, r9⟩ := rsnd_p hI hw
              have hcc : ch2 = ch := hch2.trans hch.symm
              rw [z, up_s, r7 ch (by omega) (by omega), if_pos (by omega), q6]
            · rw [up_n z, f4 q (by unfold chq at hq; omega) (by unfold chq at hq; omega) (by rw [if_neg (by omega)]; exact z)]
              unfold rsn2; rw [← hch]
          · exact (hK0 i a b).mv (fun q x y => hN2o q (by omega) (by omega)) (fun q hq => by rw [f4 q (by unfold chq at hq; omega) (by unfold chq at hq; omega) (by rw [if_neg (by omega)]; unfold chq at hq; omega)]; exact p4 q (by unfold chq at hq; omega) (by unfold chq at hq; omega))
        · refine V_aload_n dX7_sendSlot_80 rfl ?_
          refine V_getf fX7_127 dX7_sendSlot_81 gW02 rfl ?_
          refine V_iconst (v := iI (1)) dX7_sendSlot_84 rfl ?_
          refine V_bipush (v := iI (7)) dX7_sendSlot_85 (by decide +kernel) ?_
          refine I_iast dX7_sendSlot_87 gW03 ⟨by omega, by omega⟩ (by decide) ?_
          refine V_aload_n dX7_sendSlot_88 rfl ?_
          refine V_getf fX7_127 dX7_sendSlot_89 ((mu_ne (by omega)).trans gW02) rfl ?_
          refine V_iconst (v := iI (2)) dX7_sendSlot_92 rfl ?_
          refine V_aload_n dX7_sendSlot_93 rfl ?_
          refine V_getf fX7_24 dX7_sendSlot_94 ((mu_ne (by omega)).trans gW00) rfl ?_
          refine V_sipush (v := iI (255)) dX7_sendSlot_97 (by decide +kernel) ?_
          first | refine I_and255 dX7_sendSlot_100 ?_ | refine I_and65535 dX7_sendSlot_100 ?_ | refine I_and31 dX7_sendSlot_100 ?_
          refine I_iast dX7_sendSlot_101 mu_eq ⟨by omega, by omega⟩ (by decide) ?_
          refine V_aload_n dX7_sendSlot_102 rfl ?_
          refine V_cVE0 (vs := []) (f_fillIdle l _ fo _ _ _ _ ((mu_ne (by omega)).trans ((mu_ne (by omega)).trans gW02)) _ mu_eq (by omega)) mX7_130 coX2_fillIdle dX7_sendSlot_103 ((mu_ne (by omega)).trans ((mu_ne (by omega)).trans gW02)) rfl rfl rfl (by decide) (Nat.le_of_ble_eq_true rfl) (Nat.le_of_ble_eq_true rfl) (Nat.le_of_ble_eq_true rfl) (fun N2 sz hp => ?_)
          obtain ⟨gi, hN2, hgi, hgd⟩ := hp
          refine V_aload_n dX7_sendSlot_106 rfl ?_
          refine V_dup dX7_sendSlot_107 rfl ?_
          refine V_getf fX7_24 dX7_sendSlot_108 ((congrFun hN2 S).trans ((mu_ne (by omega)).trans ((mu_ne (by omega)).trans ((mu_ne (by omega)).trans gW00)))) rfl ?_
          refine V_iconst (v := iI (1)) dX7_sendSlot_111 rfl ?_
          refine I_iadd dX7_sendSlot_112 ?_
          refine V_putf fX7_24 dX7_sendSlot_113 ((congrFun hN2 S).trans ((mu_ne (by omega)).trans ((mu_ne (by omega)).trans ((mu_ne (by omega)).trans gW00)))) rfl rfl (by simp) ?_
          refine V_goto (tgt := 140) dX7_sendSlot_116 (by decide) ?_
          have hgk : ∀ k, 0 ≤ k → k < 4 + ρ 0 → gi k = rsn2 ρ (383 + 50 * ρ 382 + 4 + k) := fun k a b => by
            obtain ⟨i0, i1, i2, i3⟩ := hgi
            have hcm : ch = -1 := by omega
            have hx4 := hX.2.1 4 (by omega) (by omega)
            rcases (show k = 0 ∨ k = 1 ∨ k = 2 ∨ k = 3 ∨ 4 ≤ k by omega) with e | e | e | e | e
            · rw [e, Int.add_zero, p1.2.2.2.2.1, i0, up_n (by omega), up_n (by omega), up_s]; exact hX.1.symm
            · rw [e, p1.2.2.2.2.2.1, if_pos hcm, i1, up_n (by omega), up_s]
            · rw [e, p1.2.2.2.2.2.2, if_pos hcm, i2, up_s]; exact hx4.symm
            · rw [e, (p2 hcm).1, i3]
            · have := hgd (k - 4) (by omega) (by omega)
              rw [show 4 + (k - 4) = k by omega] at this
              have h9 := (p2 hcm).2 (k - 4) (by omega) (by omega)
              rw [show 383 + 50 * ρ 382 + 4 + 4 + (k - 4) = 383 + 50 * ρ 382 + 4 + k by omega] at h9
              rw [this, h9]
          have hN2o : ∀ q, q ≠ S → q ≠ fo + 1 → (mu N2 S (stO S (ρ 0) (ρ 1) (ρ 2) (ρ 3) (ρ 45 + 1))) q = W0 q := fun q a b => by rw [mu_ne a, hN2, mu_ne b, mu_ne b, mu_ne b]
          refine V_wk' (j140 (mu N2 S (stO S (ρ 0) (ρ 1) (ρ 2) (ρ 3) (ρ 45 + 1))) gi _ (by rw [mu_eq, if_pos (by omega)]) ((hN2o fo (by omega) (by omega)).trans gW02) (by rw [mu_ne (by omega), hN2, mu_eq]) hgk (fun i a b => ?_) ((hN2o _ (by omega) (by omega)).trans gW04) (fun q a b c d e => (hN2o q a c).trans ((hW0o q b c d).trans (nF q e)))) ⟨rfl, rfl, rfl, trivial⟩
          have hkB : scA S i = S + 205 + 15 * i.toNat := rfl
          exact (hK0 i a b).mv (fun q x y => hN2o q (by omega) (by omega)) (fun q hq => by rw [f4 q (by unfold chq at hq; omega) (by unfold chq at hq; omega) (by rw [if_pos (by omega)]; unfold chq at hq; omega)]; exact p4 q (by omega) (by unfold chq at hq; omega))
      · obtain ⟨fx, px, x0, -⟩ := id (nK1 j (by omega) (by omega))
        have hkA : scA S j = S + 205 + 15 * j.toNat := rfl
        have hqj := hI.2.1 j (by omega) (by omega)
        have hpb := pend_b hqj.1.1
        have hp0 := (Qs.pend0 hqj.1).1
        refine V_aload_n dX7_sendSlot_12 rfl ?_
        refine V_getf fX7_33 dX7_sendSlot_13 ((nF _ (by omega)).trans h1) rfl ?_
        refine V_iload_n dX7_sendSlot_16 rfl ?_
        refine I_aald ao6 dX7_sendSlot_17 ((nF _ (by omega)).trans h3) ⟨by omega, by omega⟩ (by decide) ?_
        refine V_tern (J := 28) (v := .int (iI (if j = ch then 1 else 0))) (fun sz => ?_) (fun j28 => ?_)
        · obtain ⟨bg, hbg, ebg⟩ := ex_if (p := j = ch)
          rw [ebg]
          refine V_cV0 (vs := [_]) (c6_passSlot l N (scA S j) _ _ _ _ _ _ _ _ _ _ _ x0 bg (by omega) (by unfold r32; omega)) mX7_107 coX6_passSlot dX7_sendSlot_28 x0 rfl rfl rfl (by decide) (Nat.le_of_ble_eq_true rfl) (Nat.le_of_ble_eq_true rfl) (Nat.le_of_ble_eq_true rfl) (fun sz => ?_)
          have hT1 : ∀ i, 0 ≤ i → i < j + 1 → SC (mu N (scA S j) (scC (ρ (25 + j)) (ρ (29 + j)) (ρ (33 + j)) (if bg = 1 ∨ pend ρ j = 0 then 0 else ρ (37 + j) + 1) (pend ρ j) (ρ (41 + j)) (ρ (46 + j)) (ρ (50 + j)) (ρ (54 + j)) (ρ (58 + j)) (scA S j + 1))) (scA S i) (rwtN ρ ch 4) i := fun i a b => by
            have hkB : scA S i = S + 205 + 15 * i.toNat := rfl
            by_cases e : i = j
            · rw [e]
              refine (nK1 j (by omega) (by omega)).st (rwtN_E 4 (by omega) (by omega)) ?_ (fun q x y => mu_ne (by omega))
              rw [mu_eq, hwo (25 + j) (by omega), hwo (29 + j) (by omega), hwo (33 + j) (by omega), hwo (41 + j) (by omega), hwo (46 + j) (by omega), hwo (50 + j) (by omega), hww j (by omega) (by omega)]
              have e9 : (if bg = 1 ∨ pend ρ j = 0 then (0 : Int) else ρ (37 + j) + 1) = if ¬ j = ch ∧ 0 < pend ρ j then ρ (37 + j) + 1 else 0 := by
                by_cases z : ¬ j = ch ∧ 0 < pend ρ j
                · rw [if_pos z, if_neg (by omega)]
                · rw [if_neg z, if_pos (by omega)]
              rw [e9]
            · exact (nK i a (by omega)).mv (fun q x y => mu_ne (by omega)) (fun _ _ => rfl)
          have hT2 : ∀ i, j + 1 ≤ i → i < 4 → SC (mu N (scA S j) (scC (ρ (25 + j)) (ρ (29 + j)) (ρ (33 + j)) (if bg = 1 ∨ pend ρ j = 0 then 0 else ρ (37 + j) + 1) (pend ρ j) (ρ (41 + j)) (ρ (46 + j)) (ρ (50 + j)) (ρ (54 + j)) (ρ (58 + j)) (scA S j + 1))) (scA S i) ρ i := fun i a b => by
            have hkB : scA S i = S + 205 + 15 * i.toNat := rfl
            exact (nK1 i (by omega) b).mv (fun q x y => mu_ne (by omega)) (fun _ _ => rfl)
          have hT3 : ∀ q, (q < S + 205 ∨ S + 265 ≤ q) → (mu N (scA S j) (scC (ρ (25 + j)) (ρ (29 + j)) (ρ (33 + j)) (if bg = 1 ∨ pend ρ j = 0 then 0 else ρ (37 + j) + 1) (pend ρ j) (ρ (41 + j)) (ρ (46 + j)) (ρ (50 + j)) (ρ (54 + j)) (ρ (58 + j)) (scA S j + 1))) q = M q := fun q x => (mu_ne (by omega)).trans (nF q x)
          refine I_iinc (L' := [some _, some _, some _]) dX7_sendSlot_31 rfl (by decide) rfl ?_
          refine V_goto (tgt := 7) dX7_sendSlot_34 (by decide) ?_
          exact V_wk' (ih7 _ (by omega) (j + 1) _ sz ⟨by omega, by omega⟩ hT1 hT2 hT3 rfl) ⟨rfl, rfl, rfl, trivial⟩
        · refine V_iload_n dX7_sendSlot_18 rfl ?_
          refine V_iload_n dX7_sendSlot_19 rfl ?_
          refine I_icmp_ne (tgt := 27) dX7_sendSlot_20 (by decide) ⟨by omega, by omega⟩ ⟨by omega, by omega⟩ (fun h20 => ?_) (fun h20 => ?_)
          · refine V_iconst (v := iI (0)) dX7_sendSlot_27 rfl ?_
            exact V_top (vi (by first | rw [if_pos (by omega)] | rw [if_neg (by omega)])) (j28 _)
          · refine V_iconst (v := iI (1)) dX7_sendSlot_23 rfl ?_
            refine V_goto (tgt := 28) dX7_sendSlot_24 (by decide) ?_
            exact V_top (vi (by first | rw [if_pos (by omega)] | rw [if_neg (by omega)])) (j28 _)
  exact V_wk' (key7 _ 0 _ sz ⟨by omega, by omega⟩ (fun i a b => by omega) (fun i a b => hS.2.1 i a b) (fun q _ => rfl) rfl) ⟨rfl, rfl, rfl, trivial⟩
