section VE
variable {l : Launch} {G : GG} {A : Nat → Prop} {R : Room} {own nm : String} {cc : ByteArray} {nL : Nat} {ret : Option FieldType} {Q : Option Value → ME → Nat → Prop} {X : String → ME → Prop} {k n : Nat} {M : ME} {sz : Nat} {pc : Nat} {L : List (Option Value)} {st : List Value}
theorem V_cVE {idx b nA ci h : Nat} {v : Value} {y : MethodName} {cc' : ByteArray} {nL' : Nat} {ret' : Option FieldType} {vs st0 fs : List Value} {P : ME → Prop} (hC0 : CP l y cc' nL' ret' (rmN h) (.ref b :: vs) M (fun v0 M0 => v0 = some v ∧ P M0)) (hL : LV own idx y nA) (hcode : Cond.code y cc' nL' ret' ∈ tb) (hd : decode cc pc = .ok (.invokevirtual idx, 3)) (hM : M b = some (.inl (ci, fs))) (hcl : (vwCl[ci]?).map (fun r => r.1) = some y.cls) (hst : st0 = vs.reverse ++ .ref b :: st) (hnA : vs.length = nA) (hR : h + 2 ≤ R.frames ∧ 8 + (nL' + 11) + 32 * (h + 1) ≤ R.locals) (hW : (st.map fun v => v.category).sum ≤ 8) (hk : k ≤ R.cells) (hn : n ≤ R.slots)
    (kk : ∀ (M' : ME) (sz' : Nat), P M' → V l G A R own nm cc nL ret Q X k n M' sz' (pc + 3) L (v :: st)) : V l G A R own nm cc nL ret Q X k n M sz pc L st0 :=
  V_cVP hC0 hL hcode hd hM hcl hst hnA hR hW hk hn (fun _ M' sz' hp => by rw [hp.1]; exact kk M' sz' hp.2)
theorem V_cSE {idx nA h : Nat} {v : Value} {y : MethodName} {cc' : ByteArray} {nL' : Nat} {ret' : Option FieldType} {vs st0 : List Value} {P : ME → Prop} (hC0 : CP l y cc' nL' ret' (rmN h) vs M (fun v0 M0 => v0 = some v ∧ P M0)) (hL : LSt own idx y nA) (hcode : Cond.code y cc' nL' ret' ∈ tb) (hd : decode cc pc = .ok (.invokestatic idx, 3)) (hst : st0 = vs.reverse ++ st) (hnA : vs.length = nA) (hR : h + 2 ≤ R.frames ∧ 8 + (nL' + 11) + 32 * (h + 1) ≤ R.locals) (hW : (st.map fun v => v.category).sum ≤ 8) (hk : k ≤ R.cells) (hn : n ≤ R.slots)
    (kk : ∀ (M' : ME) (sz' : Nat), P M' → V l G A R own nm cc nL ret Q X k n M' sz' (pc + 3) L (v :: st)) : V l G A R own nm cc nL ret Q X k n M sz pc L st0 :=
  V_cSP hC0 hL hcode hd hst hnA hR hW hk hn (fun _ M' sz' hp => by rw [hp.1]; exact kk M' sz' hp.2)
theorem V_cVE0 {idx b nA ci h : Nat} {y : MethodName} {cc' : ByteArray} {nL' : Nat} {ret' : Option FieldType} {vs st0 fs : List Value} {P : ME → Prop} (hC0 : CP l y cc' nL' ret' (rmN h) (.ref b :: vs) M (fun v0 M0 => v0 = none ∧ P M0)) (hL : LV own idx y nA) (hcode : Cond.code y cc' nL' ret' ∈ tb) (hd : decode cc pc = .ok (.invokevirtual idx, 3)) (hM : M b = some (.inl (ci, fs))) (hcl : (vwCl[ci]?).map (fun r => r.1) = some y.cls) (hst : st0 = vs.reverse ++ .ref b :: st) (hnA : vs.length = nA) (hR : h + 2 ≤ R.frames ∧ 8 + (nL' + 11) + 32 * (h + 1) ≤ R.locals) (hW : (st.map fun v => v.category).sum ≤ 8) (hk : k ≤ R.cells) (hn : n ≤ R.slots)
    (kk : ∀ (M' : ME) (sz' : Nat), P M' → V l G A R own nm cc nL ret Q X k n M' sz' (pc + 3) L st) : V l G A R own nm cc nL ret Q X k n M sz pc L st0 :=
  V_cVP hC0 hL hcode hd hM hcl hst hnA hR hW hk hn (fun _ M' sz' hp => by rw [hp.1]; exact kk M' sz' hp.2)
theorem V_cSE0 {idx nA h : Nat} {y : MethodName} {cc' : ByteArray} {nL' : Nat} {ret' : Option FieldType} {vs st0 : List Value} {P : ME → Prop} (hC0 : CP l y cc' nL' ret' (rmN h) vs M (fun v0 M0 => v0 = none ∧ P M0)) (hL : LSt own idx y nA) (hcode : Cond.code y cc' nL' ret' ∈ tb) (hd : decode cc pc = .ok (.invokestatic idx, 3)) (hst : st0 = vs.reverse ++ st) (hnA : vs.length = nA) (hR : h + 2 ≤ R.frames ∧ 8 + (nL' + 11) + 32 * (h + 1) ≤ R.locals) (hW : (st.map fun v => v.category).sum ≤ 8) (hk : k ≤ R.cells) (hn : n ≤ R.slots)
    (kk : ∀ (M' : ME) (sz' : Nat), P M' → V l G A R own nm cc nL ret Q X k n M' sz' (pc + 3) L st) : V l G A R own nm cc nL ret Q X k n M sz pc L st0 :=
  V_cSP hC0 hL hcode hd hst hnA hR hW hk hn (fun _ M' sz' hp => by rw [hp.1]; exact kk M' sz' hp.2)
end VE
theorem nrB {x : Int} (h : 0 ≤ x ∧ x ≤ 1) : narrow .boolean (.int (iI x)) = .int (iI x) := by
  rcases (show x = 0 ∨ x = 1 by omega) with e | e <;> subst e <;> decide +kernel
/-- a frame at f: its first n bytes are those of φ -/
def FO (M : ME) (f : Nat) (φ : Int → Int) (n : Int) : Prop := ∃ g : Int → Int, M f = some (.inl (2, [.int (iI (φ 0)), .int (iI (φ 1)), .long (lI (φ 2)), .long (lI (φ 3)), .ref (f + 1)])) ∧ M (f + 1) = some (aI 46 g) ∧ (0 ≤ φ 1 ∧ φ 1 ≤ 1) ∧ ∀ k, 0 ≤ k → k < n → g k = φ (4 + k)
theorem FO.mv {M M' : ME} {f : Nat} {φ φ' : Int → Int} {n n' : Int} (h : FO M f φ n) (hm : M' f = M f ∧ M' (f + 1) = M (f + 1)) (hn : n' ≤ n) (hr : ∀ q, 0 ≤ q → (q < 4 ∨ q < 4 + n') → φ' q = φ q) : FO M' f φ' n' := by
  obtain ⟨g, h1, h2, h3, h4⟩ := h
  refine ⟨g, by rw [hm.1, h1, hr 0 (by omega) (by omega), hr 1 (by omega) (by omega), hr 2 (by omega) (by omega), hr 3 (by omega) (by omega)], by rw [hm.2, h2], by rw [hr 1 (by omega) (by omega)]; exact h3, fun k a b => by rw [hr _ (by omega) (by omega)]; exact h4 k a (by omega)⟩
theorem rptr_v {ρ : Int → Int} {to ch k : Int} : rptr ρ to ch k (to + 4 + 3) = if ¬ ch = -1 ∧ ρ (58 + ch) = 0 ∧ ρ (to + 4 + 3) = 255 then k else ρ (to + 4 + 3) := by
  unfold rptr
  split
  · rw [up_s]
  · rfl

set_option maxRecDepth 100000 in
set_option maxHeartbeats 4000000 in
theorem c6_waitingPackets (l : Launch) (M : ME) (c : Nat) (ρ : Int → Int) (ch : Int) (hS : SC M c ρ ch) (hQ2 : Qc ρ ch) : CF l yX6_waitingPackets cX6_waitingPackets 3 (some .int) (rmN 1) [.ref c] M (some (.int (iI (pin ρ ch)))) M := by
  obtain ⟨f, p, h1, h2, h4, h5, h6, h7⟩ := id hS
  refine CF.of (L0 := [some _, none, none]) (by decide +kernel) rfl rfl (Nat.le_of_ble_eq_true rfl) rfl (fun G A Q sz hQ => ?_)
  refine V_iconst (v := iI (0)) dX6_waitingPackets_0 rfl ?_
  refine V_istore_n (L' := [some _, some _, none]) dX6_waitingPackets_1 rfl (by decide) rfl ?_
  refine V_iconst (v := iI (0)) dX6_waitingPackets_2 rfl ?_
  refine V_istore_n (L' := [some _, some _, some _]) dX6_waitingPackets_3 rfl (by decide) rfl ?_
  have key4 : ∀ (d : Nat) (j : Int) (sz : Nat), (0 ≤ j ∧ j ≤ ρ (54 + ch)) → (ρ (54 + ch) - j).toNat = d → V l G A (rmN 1) RX6 "waitingPackets" cX6_waitingPackets 3 (some .int) Q nX 0 0 M sz 4 [some (.ref c), some (.int (iI (pcnt ρ ch j.toNat))), some (.int (iI j))] [] := by
    intro d
    induction d using Nat.strongRecOn with
    | ind d ih4 =>
      intro j  sz hj hd4
      refine V_iload_n dX6_waitingPackets_4 rfl ?_
      refine V_aload_n dX6_waitingPackets_5 rfl ?_
      refine V_getf fX6_36 dX6_waitingPackets_6 h1 rfl ?_
      refine I_icmp_ge (tgt := 41) dX6_waitingPackets_9 (by decide) ⟨by omega, by omega⟩ ⟨by omega, by omega⟩ (fun h9 => ?_) (fun h9 => ?_)
      · refine V_iload_n dX6_waitingPackets_41 rfl ?_
        exact V_ireti dX6_waitingPackets_42 rfl (Nat.le_of_ble_eq_true rfl) (Nat.le_of_ble_eq_true rfl) (hQ _ _ _ (iv (by rw [show j = ρ (54 + ch) by omega]; rfl)) rfl)
      · refine V_iload_n dX6_waitingPackets_12 rfl ?_
        refine V_bipush (v := iI (13)) dX6_waitingPackets_13 (by decide +kernel) ?_
        refine I_icmp_ge_f (tgt := 41) dX6_waitingPackets_15 (by decide) ⟨by omega, by omega⟩ ⟨by omega, by omega⟩ (by omega) ?_
        have hb := hQ2.2.2 j (by omega) (by omega)
        have g0 := h7 j (by omega) (by omega) 0 (by omega) (by omega)
        rw [Int.add_zero] at g0
        refine V_aload_n dX6_waitingPackets_18 rfl ?_
        refine V_getf fX6_44 dX6_waitingPackets_19 h1 rfl ?_
        refine V_iload_n dX6_waitingPackets_22 rfl ?_
        refine I_aald ao4 dX6_waitingPackets_23 h2 ⟨by omega, by omega⟩ (by decide) ?_
        refine V_getf fX6_53 dX6_waitingPackets_24 (h5 j (by omega) (by omega)) rfl ?_
        refine V_bipush (v := iI (15)) dX6_waitingPackets_27 (by decide +kernel) ?_
        refine I_icmp_eq (tgt := 35) dX6_waitingPackets_29 (by decide) ⟨by omega, by omega⟩ ⟨by omega, by omega⟩ (fun h29 => ?_) (fun h29 => ?_)
        · refine I_iinc (L' := [some _, some _, some _]) dX6_waitingPackets_35 rfl (by decide) rfl ?_
          refine V_goto (tgt := 4) dX6_waitingPackets_38 (by decide) ?_
          exact V_wk' (ih4 _ (by omega) (j + 1) sz ⟨by omega, by omega⟩ rfl) ⟨rfl, (vi (by rw [pcnt_s hj.1]; first | rw [if_pos (by omega)] | rw [if_neg (by omega), Int.add_zero])), rfl, trivial⟩
        · refine I_iinc (L' := [some _, some _, some _]) dX6_waitingPackets_32 rfl (by decide) rfl ?_
          refine I_iinc (L' := [some _, some _, some _]) dX6_waitingPackets_35 rfl (by decide) rfl ?_
          refine V_goto (tgt := 4) dX6_waitingPackets_38 (by decide) ?_
          exact V_wk' (ih4 _ (by omega) (j + 1) sz ⟨by omega, by omega⟩ rfl) ⟨rfl, (vi (by rw [pcnt_s hj.1]; first | rw [if_pos (by omega)] | rw [if_neg (by omega), Int.add_zero])), rfl, trivial⟩
  exact V_wk' (key4 _ 0 sz ⟨by omega, by omega⟩ rfl) ⟨rfl, rfl, rfl, trivial⟩

set_option maxRecDepth 100000 in
set_option maxHeartbeats 4000000 in
theorem c6_copyFrom (l : Launch) (M : ME) (c c2 : Nat) (hd : c + 15 ≤ c2 ∨ c2 + 15 ≤ c) (ρ1 : Int → Int) (ch1 : Int) (hS1 : SC M c ρ1 ch1) (ρ : Int → Int) (ch : Int) (hS : SC M c2 ρ ch) : CP l yX6_copyFrom cX6_copyFrom 3 none (rmN 2) [.ref c, .ref c2] M (fun v M' => v = none ∧ SC M' c ρ ch ∧ FR M M' c 15) := by
  obtain ⟨f1, p1, a1, a2, a4, a5, a6, a7⟩ := id hS1
  obtain ⟨f, p, h1, h2, h4, h5, h6, h7⟩ := id hS
  refine CP.of (L0 := [some _, some _, none]) (by decide +kernel) rfl rfl (Nat.le_of_ble_eq_true rfl) rfl (fun G A Q sz hQ => ?_)
  refine V_aload_n dX6_copyFrom_0 rfl ?_
  refine V_aload_n dX6_copyFrom_1 rfl ?_
  refine V_getf fX6_9 dX6_copyFrom_2 h1 rfl ?_
  refine V_putf fX6_9 dX6_copyFrom_5 a1 rfl rfl (by simp) ?_
  refine V_aload_n dX6_copyFrom_8 rfl ?_
  refine V_aload_n dX6_copyFrom_9 rfl ?_
  refine V_getf fX6_15 dX6_copyFrom_10 ((mu_ne (by omega)).trans h1) rfl ?_
  refine V_putf fX6_15 dX6_copyFrom_13 mu_eq rfl rfl (by simp) ?_
  refine V_aload_n dX6_copyFrom_16 rfl ?_
  refine V_aload_n dX6_copyFrom_17 rfl ?_
  refine V_getf fX6_18 dX6_copyFrom_18 ((mu_ne (by omega)).trans ((mu_ne (by omega)).trans h1)) rfl ?_
  refine V_putf fX6_18 dX6_copyFrom_21 mu_eq rfl rfl (by simp) ?_
  refine V_aload_n dX6_copyFrom_24 rfl ?_
  refine V_aload_n dX6_copyFrom_25 rfl ?_
  refine V_getf fX6_21 dX6_copyFrom_26 ((mu_ne (by omega)).trans ((mu_ne (by omega)).trans ((mu_ne (by omega)).trans h1))) rfl ?_
  refine V_putf fX6_21 dX6_copyFrom_29 mu_eq rfl rfl (by simp) ?_
  refine V_aload_n dX6_copyFrom_32 rfl ?_
  refine V_aload_n dX6_copyFrom_33 rfl ?_
  refine V_getf fX6_24 dX6_copyFrom_34 ((mu_ne (by omega)).trans ((mu_ne (by omega)).trans ((mu_ne (by omega)).trans ((mu_ne (by omega)).trans h1)))) rfl ?_
  refine V_putf fX6_24 dX6_copyFrom_37 mu_eq rfl rfl (by simp) ?_
  refine V_aload_n dX6_copyFrom_40 rfl ?_
  refine V_aload_n dX6_copyFrom_41 rfl ?_
  refine V_getf fX6_27 dX6_copyFrom_42 ((mu_ne (by omega)).trans ((mu_ne (by omega)).trans ((mu_ne (by omega)).trans ((mu_ne (by omega)).trans ((mu_ne (by omega)).trans h1))))) rfl ?_
  refine V_putf fX6_27 dX6_copyFrom_45 mu_eq rfl rfl (by simp) ?_
  refine V_aload_n dX6_copyFrom_48 rfl ?_
  refine V_aload_n dX6_copyFrom_49 rfl ?_
  refine V_getf fX6_30 dX6_copyFrom_50 ((mu_ne (by omega)).trans ((mu_ne (by omega)).trans ((mu_ne (by omega)).trans ((mu_ne (by omega)).trans ((mu_ne (by omega)).trans ((mu_ne (by omega)).trans h1)))))) rfl ?_
  refine V_putf fX6_30 dX6_copyFrom_53 mu_eq rfl rfl (by simp) ?_
  refine V_aload_n dX6_copyFrom_56 rfl ?_
  refine V_aload_n dX6_copyFrom_57 rfl ?_
  refine V_getf fX6_33 dX6_copyFrom_58 ((mu_ne (by omega)).trans ((mu_ne (by omega)).trans ((mu_ne (by omega)).trans ((mu_ne (by omega)).trans ((mu_ne (by omega)).trans ((mu_ne (by omega)).trans ((mu_ne (by omega)).trans h1))))))) rfl ?_
  refine V_putf fX6_33 dX6_copyFrom_61 mu_eq rfl rfl (by simp) ?_
  refine V_aload_n dX6_copyFrom_64 rfl ?_
  refine V_aload_n dX6_copyFrom_65 rfl ?_
  refine V_getf fX6_36 dX6_copyFrom_66 ((mu_ne (by omega)).trans ((mu_ne (by omega)).trans ((mu_ne (by omega)).trans ((mu_ne (by omega)).trans ((mu_ne (by omega)).trans ((mu_ne (by omega)).trans ((mu_ne (by omega)).trans ((mu_ne (by omega)).trans h1)))))))) rfl ?_
  refine V_putf fX6_36 dX6_copyFrom_69 mu_eq rfl rfl (by simp) ?_
  refine V_aload_n dX6_copyFrom_72 rfl ?_
  refine V_aload_n dX6_copyFrom_73 rfl ?_
  refine V_getf fX6_39 dX6_copyFrom_74 ((mu_ne (by omega)).trans ((mu_ne (by omega)).trans ((mu_ne (by omega)).trans ((mu_ne (by omega)).trans ((mu_ne (by omega)).trans ((mu_ne (by omega)).trans ((mu_ne (by omega)).trans ((mu_ne (by omega)).trans ((mu_ne (by omega)).trans h1))))))))) rfl ?_
  refine V_putf fX6_39 dX6_copyFrom_77 mu_eq rfl rfl (by simp) ?_
  refine V_iconst (v := iI (0)) dX6_copyFrom_80 rfl ?_
  refine V_istore_n (L' := [some _, some _, some _]) dX6_copyFrom_81 rfl (by decide) rfl ?_
  have key82 : ∀ (d : Nat) (j : Int) (N : ME) (sz : Nat), (0 ≤ j ∧ j ≤ ρ (54 + ch)) → (N c = some (scC (ρ (25 + ch)) (ρ (29 + ch)) (ρ (33 + ch)) (ρ (37 + ch)) (pend ρ ch) (ρ (41 + ch)) (ρ (46 + ch)) (ρ (50 + ch)) (ρ (54 + ch)) (ρ (58 + ch)) (c + 1))) → (N (c + 1) = some (aR 4 13 f1)) → (∀ i, 0 ≤ i → i < 13 → N (f1 i) = some (qp (if i < j then p i else p1 i))) → (FR M N c 15) → (ρ (54 + ch) - j).toNat = d → V l G A (rmN 2) RX6 "copyFrom" cX6_copyFrom 3 none Q nX 0 0 N sz 82 [some (.ref c), some (.ref c2), some (.int (iI j))] [] := by
    intro d
    induction d using Nat.strongRecOn with
    | ind d ih82 =>
      intro j N  sz hj n1 n2 n3 nF hd82
      refine V_iload_n dX6_copyFrom_82 rfl ?_
      refine V_aload_n dX6_copyFrom_83 rfl ?_
      refine V_getf fX6_36 dX6_copyFrom_84 n1 rfl ?_
      refine I_icmp_ge (tgt := 117) dX6_copyFrom_87 (by decide) ⟨by omega, by omega⟩ ⟨by omega, by omega⟩ (fun h87 => ?_) (fun h87 => ?_)
      · exact V_ret dX6_copyFrom_117 rfl (Nat.le_of_ble_eq_true rfl) (Nat.le_of_ble_eq_true rfl) (hQ _ _ _ ⟨rfl, ⟨f1, fun i => if i < j then p i else p1 i, n1, n2, a4, n3, h6, fun i a b j1 c0 c1 => by
          dsimp only
          rw [if_pos (by omega)]; exact h7 i a b j1 c0 c1⟩, nF⟩)
      · refine V_iload_n dX6_copyFrom_90 rfl ?_
        refine V_bipush (v := iI (13)) dX6_copyFrom_91 (by decide +kernel) ?_
        refine I_icmp_ge_f (tgt := 117) dX6_copyFrom_93 (by decide) ⟨by omega, by omega⟩ ⟨by omega, by omega⟩ (by omega) ?_
        have b1 := a4 j (by omega) (by omega)
        have b2 := h4 j (by omega) (by omega)
        refine V_aload_n dX6_copyFrom_96 rfl ?_
        refine V_getf fX6_44 dX6_copyFrom_97 n1 rfl ?_
        refine V_iload_n dX6_copyFrom_100 rfl ?_
        refine I_aald ao4 dX6_copyFrom_101 n2 ⟨by omega, by omega⟩ (by decide) ?_
        refine V_aload_n dX6_copyFrom_102 rfl ?_
        refine V_getf fX6_44 dX6_copyFrom_103 ((nF _ (by omega)).trans h1) rfl ?_
        refine V_iload_n dX6_copyFrom_106 rfl ?_
        refine I_aald ao4 dX6_copyFrom_107 ((nF _ (by omega)).trans h2) ⟨by omega, by omega⟩ (by decide) ?_
        refine V_cV0 (vs := [_]) (c3_copyFrom l _ _ _ (n3 j (by omega) (by omega)) _ _ ((nF _ (by omega)).trans (h5 j (by omega) (by omega))) (by omega)) mX6_49 coX3_copyFrom dX6_copyFrom_108 (n3 j (by omega) (by omega)) rfl rfl rfl (by decide) (Nat.le_of_ble_eq_true rfl) (Nat.le_of_ble_eq_true rfl) (Nat.le_of_ble_eq_true rfl) (fun sz => ?_)
        refine I_iinc (L' := [some _, some _, some _]) dX6_copyFrom_111 rfl (by decide) rfl ?_
        refine V_goto (tgt := 82) dX6_copyFrom_114 (by decide) ?_
        exact V_wk' (ih82 _ (by omega) (j + 1) _ sz ⟨by omega, by omega⟩ ((mu_ne (by omega)).trans n1) ((mu_ne (by omega)).trans n2) (fun i i0 i1 => by
          have b2 := a4 i i0 i1
          by_cases e : i = j
          · subst e; rw [mu_eq, if_pos (by omega)]
          · rw [mu_ne (by have := b2.2.2 j (by omega) (by omega) e; omega), n3 i i0 i1]
            by_cases e2 : i < j
            · rw [if_pos e2, if_pos (by omega)]
            · rw [if_neg e2, if_neg (by omega)]) (nF.mu (by omega)) rfl) ⟨rfl, rfl, rfl, trivial⟩
  exact V_wk' (key82 _ 0 _ sz ⟨by omega, by omega⟩ (by simp only [mu_mu, mu_eq]; rfl) ((by simp only [mu_mu]; exact (mu_ne (by omega)).trans a2)) (fun i i0 i1 => by
    have b1 := a4 i i0 i1
    simp only [mu_mu]
    rw [mu_ne (by omega), if_neg (by omega)]; exact a5 i i0 i1) (by simp only [mu_mu]; exact FR.rf.mu (by omega)) rfl) ⟨rfl, rfl, rfl, trivial⟩
