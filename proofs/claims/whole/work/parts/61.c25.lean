set_option maxRecDepth 100000 in
set_option maxHeartbeats 4000000 in
theorem p_groundTime (l : Launch) (hfl : l.stackTraces = false) (M : ME) (x : Nat) (ρ π : Int → Int) (sv : Int) (hT : TL M x ρ π sv) (t : Int) (ht : r64 t) (hTp : Tp ρ) (e : Int) (he : (¬ (-1000000000 ≤ t ∧ t ≤ 1000000000) ∧ e = 1) ∨ ((-1000000000 ≤ t ∧ t ≤ 1000000000) ∧ (ρ 12304 < 2 ∨ ρ 12305 = ρ 12307) ∧ e = 2) ∨ ((-1000000000 ≤ t ∧ t ≤ 1000000000) ∧ ¬ (ρ 12304 < 2 ∨ ρ 12305 = ρ 12307) ∧ e = 0)) : CX l yX10_groundTime cX10_groundTime 10 (some .long) (rmX 8) [.ref x, .long (lI t)] M (fun v M' => e = 0 ∧ v = some (.long (lI (rgt ρ t))) ∧ M' = M) (fun E M' => ((e = 1 ∧ E = iae) ∨ (e = 2 ∧ E = ise)) ∧ M' = M) := by
  obtain ⟨a, f, x0, x1, x2, x3, x4, x5⟩ := id hT
  have ba := x2.1.b
  obtain ⟨sq, m1, m2, m3, m4⟩ := id x3.1
  obtain ⟨lm, cn, ap, am, ab, al, r0, r1, r2, r3, r4, r5, r6, r7, r8, r9⟩ := id x3.2.2.2.1
  obtain ⟨gb, gg, t1, t2, t3, t4⟩ := id x3.2.2.2.2.2.2
  refine CX.of (L0 := [some _, some _, none, none, none, none, none, none, none, none]) (by decide +kernel) rfl rfl (Nat.le_of_ble_eq_true rfl) rfl (fun G A Q X sz hQ hX => ?_)
  have hTp1 := hTp.1
  refine V_lload_n dX10_groundTime_0 rfl ?_
  refine V_ldc2 (v := lI (-1000000000)) dX10_groundTime_1 (kL (by decide +kernel) kX10_260) ?_
  refine I_lc_lt (tgt := 16) dX10_groundTime_4 dX10_groundTime_5 (by decide) ⟨ht.1, ht.2⟩ ⟨by omega, by omega⟩ (fun h4 => ?_) (fun h4 => ?_)
  · exact V_iaeW hfl sX10_264 dX10_groundTime_16 dX10_groundTime_19 dX10_groundTime_20 dX10_groundTime_23 dX10_groundTime_26 (by decide) (Nat.le_of_ble_eq_true rfl) (Nat.le_of_ble_eq_true rfl) (Nat.le_of_ble_eq_true rfl) (hX _ _ ⟨Or.inl ⟨by omega, rfl⟩, rfl⟩)
  · refine V_lload_n dX10_groundTime_8 rfl ?_
    refine V_ldc2 (v := lI (1000000000)) dX10_groundTime_9 (kL (by decide +kernel) kX10_262) ?_
    refine I_lc_le (tgt := 27) dX10_groundTime_12 dX10_groundTime_13 (by decide) ⟨ht.1, ht.2⟩ ⟨by omega, by omega⟩ (fun h12 => ?_) (fun h12 => ?_)
    · refine V_aload_n dX10_groundTime_27 rfl ?_
      refine V_getf fX10_10 dX10_groundTime_28 x0 rfl ?_
      refine V_getf fX10_170 dX10_groundTime_31 m1 rfl ?_
      refine V_getf fX10_253 dX10_groundTime_34 r0 rfl ?_
      refine V_astore_n (L' := [some _, some _, none, some _, none, none, none, none, none, none]) dX10_groundTime_37 rfl (by decide) rfl ?_
      refine V_aload_n dX10_groundTime_38 rfl ?_
      refine V_getf fX10_266 dX10_groundTime_39 t1 rfl ?_
      refine V_iconst (v := iI (1)) dX10_groundTime_42 rfl ?_
      refine I_lald dX10_groundTime_43 t2 ⟨by omega, by omega⟩ (by decide) ?_
      refine V_aload_n dX10_groundTime_44 rfl ?_
      refine V_getf fX10_266 dX10_groundTime_45 t1 rfl ?_
      refine V_iconst (v := iI (0)) dX10_groundTime_48 rfl ?_
      refine I_lald dX10_groundTime_49 t2 ⟨by omega, by omega⟩ (by decide) ?_
      refine I_lsub dX10_groundTime_50 ?_
      refine V_lstore (L' := [some _, some _, none, some _, some _, none, none, none, none, none]) dX10_groundTime_51 (by decide) rfl ?_
      refine V_aload_n dX10_groundTime_53 rfl ?_
      refine V_getf fX10_257 dX10_groundTime_54 t1 rfl ?_
      refine V_iconst (v := iI (2)) dX10_groundTime_57 rfl ?_
      refine I_icmp_lt (tgt := 68) dX10_groundTime_58 (by decide) ⟨by omega, by omega⟩ ⟨by omega, by omega⟩ (fun h58 => ?_) (fun h58 => ?_)
      · exact V_iseW hfl sX10_270 dX10_groundTime_68 dX10_groundTime_71 dX10_groundTime_72 dX10_groundTime_75 dX10_groundTime_78 (by decide) (Nat.le_of_ble_eq_true rfl) (Nat.le_of_ble_eq_true rfl) (Nat.le_of_ble_eq_true rfl) (hX _ _ ⟨Or.inr (⟨by omega, rfl⟩), rfl⟩)
      · have u0 := t4 0 (by omega) (by omega)
        have u1 := t4 1 (by omega) (by omega)
        have q0 : gb 0 = ρ 12305 := u0.1
        have q1 : gb 1 = ρ 12307 := u1.1
        have q2 : gg 0 = ρ 12306 := u0.2
        have q3 : gg 1 = ρ 12308 := u1.2
        have b0 := hTp.2 12305 (by omega) (by omega)
        have b1 := hTp.2 12306 (by omega) (by omega)
        have b2 := hTp.2 12307 (by omega) (by omega)
        have b3 := hTp.2 12308 (by omega) (by omega)
        refine V_lload dX10_groundTime_61 rfl ?_
        refine V_lconst (v := lI 0) dX10_groundTime_63 rfl ?_
        refine I_lc_ne (tgt := 79) dX10_groundTime_64 dX10_groundTime_65 (by decide) ⟨by omega, by omega⟩ ⟨by omega, by omega⟩ (fun h64 => ?_) (fun h64 => ?_)
        · have hm := mul_b (a := t - gb 1) (b := gg 1 - gg 0) (m := 1200000000) (n := 400000000) (by omega) (by omega)
          refine V_aload_n dX10_groundTime_79 rfl ?_
          refine V_getf fX10_272 dX10_groundTime_80 t1 rfl ?_
          refine V_iconst (v := iI (1)) dX10_groundTime_83 rfl ?_
          refine I_lald dX10_groundTime_84 t3 ⟨by omega, by omega⟩ (by decide) ?_
          refine V_aload_n dX10_groundTime_85 rfl ?_
          refine V_getf fX10_272 dX10_groundTime_86 t1 rfl ?_
          refine V_iconst (v := iI (0)) dX10_groundTime_89 rfl ?_
          refine I_lald dX10_groundTime_90 t3 ⟨by omega, by omega⟩ (by decide) ?_
          refine I_lsub dX10_groundTime_91 ?_
          refine V_lstore (L' := [some _, some _, none, some _, some _, none, some _, none, none, none]) dX10_groundTime_92 (by decide) rfl ?_
          refine V_lload_n dX10_groundTime_94 rfl ?_
          refine V_aload_n dX10_groundTime_95 rfl ?_
          refine V_getf fX10_266 dX10_groundTime_96 t1 rfl ?_
          refine V_iconst (v := iI (1)) dX10_groundTime_99 rfl ?_
          refine I_lald dX10_groundTime_100 t2 ⟨by omega, by omega⟩ (by decide) ?_
          refine I_lsub dX10_groundTime_101 ?_
          refine V_lload dX10_groundTime_102 rfl ?_
          refine I_lmul dX10_groundTime_104 ?_
          refine V_lstore (L' := [some _, some _, none, some _, some _, none, some _, none, some _, none]) dX10_groundTime_105 (by decide) rfl ?_
          refine V_aload_n dX10_groundTime_107 rfl ?_
          refine V_getf fX10_272 dX10_groundTime_108 t1 rfl ?_
          refine V_iconst (v := iI (1)) dX10_groundTime_111 rfl ?_
          refine I_lald dX10_groundTime_112 t3 ⟨by omega, by omega⟩ (by decide) ?_
          refine V_lload dX10_groundTime_113 rfl ?_
          refine V_lload dX10_groundTime_115 rfl ?_
          refine V_cS (vs := [_, _]) (m_floorDiv l M ((t - gb 1) * (gg 1 - gg 0)) (gb 1 - gb 0) (by omega) (by omega) (by omega)) mX10_275 coJ9_floorDiv_f86c9 dX10_groundTime_117 rfl rfl (by decide) (Nat.le_of_ble_eq_true rfl) (Nat.le_of_ble_eq_true rfl) (Nat.le_of_ble_eq_true rfl) (fun sz => ?_)
          refine I_ladd dX10_groundTime_120 ?_
          exact V_lret dX10_groundTime_121 rfl (Nat.le_of_ble_eq_true rfl) (Nat.le_of_ble_eq_true rfl) (hQ _ _ _ ⟨by omega, by unfold rgt; rw [q0, q1, q2, q3], rfl⟩)
        · exact V_iseW hfl sX10_270 dX10_groundTime_68 dX10_groundTime_71 dX10_groundTime_72 dX10_groundTime_75 dX10_groundTime_78 (by decide) (Nat.le_of_ble_eq_true rfl) (Nat.le_of_ble_eq_true rfl) (Nat.le_of_ble_eq_true rfl) (hX _ _ ⟨Or.inr (⟨by omega, rfl⟩), rfl⟩)
    · exact V_iaeW hfl sX10_264 dX10_groundTime_16 dX10_groundTime_19 dX10_groundTime_20 dX10_groundTime_23 dX10_groundTime_26 (by decide) (Nat.le_of_ble_eq_true rfl) (Nat.le_of_ble_eq_true rfl) (Nat.le_of_ble_eq_true rfl) (hX _ _ ⟨Or.inl ⟨by omega, rfl⟩, rfl⟩)

set_option maxRecDepth 100000 in
set_option maxHeartbeats 4000000 in
theorem p_undo (l : Launch) (hfl : l.stackTraces = false) (M : ME) (x : Nat) (ρ π : Int → Int) (sv : Int) (hT : TL M x ρ π sv) (hv : 0 ≤ sv ∧ sv ≤ 3) (hW : Wr ρ) (hI : RI ρ) (hP : ∀ i, 0 ≤ i → i < sv → Wr (sl π (12309 * i)) ∧ RI (sl π (12309 * i))) (e : Int) (he : (sv = 0 ∧ e = 1) ∨ (¬ sv = 0 ∧ e = 0)) : CX l yX10_undo cX10_undo 2 (some .int) (rmX 8) [.ref x] M (fun v M' => e = 0 ∧ v = some (.int (iI (sv - 1))) ∧ TL M' x (bcp ρ π (12309 * (sv - 1)) 12309) π (sv - 1) ∧ FR M M' x 1062) (fun E M' => ((e = 1 ∧ E = ise)) ∧ M' = M) := by
  obtain ⟨a, f, x0, x1, x2, x3, x4, x5⟩ := id hT
  have ba := x2.1.b
  obtain ⟨sq, m1, m2, m3, m4⟩ := id x3.1
  refine CX.of (L0 := [some _, none]) (by decide +kernel) rfl rfl (Nat.le_of_ble_eq_true rfl) rfl (fun G A Q X sz hQ hX => ?_)
  refine V_aload_n dX10_undo_0 rfl ?_
  refine V_getf fX10_20 dX10_undo_1 x0 rfl ?_
  refine I_if_gt (tgt := 18) dX10_undo_4 (by decide) ⟨by omega, by omega⟩ (fun h4 => ?_) (fun h4 => ?_)
  · obtain ⟨s, hs⟩ : ∃ s, s = sv - 1 := ⟨_, rfl⟩
    obtain ⟨sqs, e0, -⟩ := id (x4 (sv - 1) (by omega) (by omega)).1
    have d := (x2.2 (sv - 1) (by omega) (by omega)).1.d x2.1 (x2.2 (sv - 1) (by omega) (by omega)).2.1
    refine V_aload_n dX10_undo_18 rfl ?_
    refine V_dup dX10_undo_19 rfl ?_
    refine V_getf fX10_20 dX10_undo_20 x0 rfl ?_
    refine V_iconst (v := iI (1)) dX10_undo_23 rfl ?_
    refine I_isub dX10_undo_24 ?_
    refine V_putf fX10_20 dX10_undo_25 x0 rfl rfl (by simp) ?_
    refine V_aload_n dX10_undo_28 rfl ?_
    refine V_getf fX10_10 dX10_undo_29 mu_eq rfl ?_
    refine V_astore_n (L' := [some _, some _]) dX10_undo_32 rfl (by decide) rfl ?_
    refine V_aload_n dX10_undo_33 rfl ?_
    refine V_aload_n dX10_undo_34 rfl ?_
    refine V_getf fX10_16 dX10_undo_35 mu_eq rfl ?_
    refine V_aload_n dX10_undo_38 rfl ?_
    refine V_getf fX10_20 dX10_undo_39 mu_eq rfl ?_
    refine I_aald ao7 dX10_undo_42 ((mu_ne (by omega)).trans x1) ⟨by omega, by omega⟩ (by decide) ?_
    refine V_putf fX10_10 dX10_undo_43 mu_eq rfl rfl (by simp) ?_
    refine V_aload_n dX10_undo_46 rfl ?_
    refine V_getf fX10_16 dX10_undo_47 mu_eq rfl ?_
    refine V_aload_n dX10_undo_50 rfl ?_
    refine V_getf fX10_20 dX10_undo_51 mu_eq rfl ?_
    refine V_aload_n dX10_undo_54 rfl ?_
    refine I_aast ao7 dX10_undo_55 ((mu_ne (by omega)).trans ((mu_ne (by omega)).trans x1)) ((mu_ne (by omega)).trans ((mu_ne (by omega)).trans m1)) ⟨by omega, by omega⟩ (by decide) ?_
    refine V_gen (fun K hK => ?_)
    have gK0 := (congrFun hK x).trans ((mu_ne (by omega)).trans mu_eq)
    have hKo : ∀ q, q ≠ x → q ≠ x + 266 → K q = M q := fun q z w => by rw [hK, mu_ne w, mu_ne z, mu_ne z]
    have hKx : K x = some (tlO x (f (sv - 1)) (sv - 1)) := (congrFun hK x).trans ((mu_ne (by omega)).trans mu_eq)
    have hKa : K (x + 266) = some (aR 7 3 (upR f (sv - 1) a)) := (congrFun hK _).trans mu_eq
    have hz : TL K x (bcp ρ π (12309 * (sv - 1)) 12309) π (sv - 1) := by
      have up0 : ∀ i, i ≠ sv - 1 → upR f (sv - 1) a i = f i := fun i z => upR_n z
      have up1 : upR f (sv - 1) a (sv - 1) = a := upR_s
      refine ⟨f (sv - 1), upR f (sv - 1) a, hKx, hKa, ⟨(x2.2 (sv - 1) (by omega) (by omega)).1, fun i z w => ?_⟩, ?_, fun i z w => ?_, fun i z w y => ?_⟩
      · have hn := x2.2 (sv - 1) (by omega) (by omega)
        by_cases e9 : i = sv - 1
        · rw [e9, up1]
          refine ⟨x2.1, fun h => hn.2.1 h.symm, fun j j0 j1 j2 => ?_⟩
          rw [up0 j (fun h => j2 h.symm)]
          exact fun h => (x2.2 j j0 j1).2.1 h.symm
        · rw [up0 i e9]
          have hi := x2.2 i z w
          refine ⟨hi.1, hi.2.2 (sv - 1) (by omega) (by omega) e9, fun j j0 j1 j2 => ?_⟩
          by_cases e8 : j = sv - 1
          · rw [e8, up1]; exact hi.2.1
          · rw [up0 j e8]; exact hi.2.2 j j0 j1 j2
      · have hp := hP (sv - 1) (by omega) (by omega)
        exact (x4 (sv - 1) (by omega) (by omega)).mv hp.1 hp.2 (fun q u v => hKo q (by omega) (by omega)) (fun q u v _ => by unfold bcp sl; rw [if_pos (by omega)])
      · have hp := hP i z (by omega)
        have bi := (x2.2 i z (by omega)).1.b
        rw [up0 i (by omega)]
        exact (x4 i z (by omega)).mv hp.1 hp.2 (fun q u v => hKo q (by omega) (by omega)) (fun _ _ _ _ => rfl)
      · by_cases e9 : i = sv - 1
        · rw [e9, up1]
          exact ⟨ρ, x3.mv hW hI (fun q u v => hKo q (by omega) (by omega)) (fun _ _ _ _ => rfl), hW, hI⟩
        · rw [up0 i e9]
          have bi := (x2.2 i z y).1.b
          obtain ⟨ρ8, k1, k2, k3⟩ := x5 i z (by omega) y
          exact ⟨ρ8, k1.mv k2 k3 (fun q u v => hKo q (by omega) (by omega)) (fun _ _ _ _ => rfl), k2, k3⟩
    refine V_aload_n dX10_undo_56 rfl ?_
    refine V_getf fX10_20 dX10_undo_57 gK0 rfl ?_
    exact V_ireti dX10_undo_60 rfl (Nat.le_of_ble_eq_true rfl) (Nat.le_of_ble_eq_true rfl) (hQ _ _ _ ⟨by omega, rfl, hz, fun q hq => hKo q (by omega) (by omega)⟩)
  · exact V_iseW hfl sX10_281 dX10_undo_7 dX10_undo_10 dX10_undo_11 dX10_undo_14 dX10_undo_17 (by decide) (Nat.le_of_ble_eq_true rfl) (Nat.le_of_ble_eq_true rfl) (Nat.le_of_ble_eq_true rfl) (hX _ _ ⟨⟨by omega, rfl⟩, rfl⟩)

set_option maxRecDepth 100000 in
set_option maxHeartbeats 4000000 in
theorem p_mix (l : Launch) (M : ME) (h v : Int) : CF l yX10_mix cX10_mix 4 (some .long) (rmN 1) [.long (lI h), .long (lI v)] M (some (.long (lI (mx h v)))) M := by
  refine CF.of (L0 := [some _, none, some _, none]) (by decide +kernel) rfl rfl (Nat.le_of_ble_eq_true rfl) rfl (fun G A Q sz hQ => ?_)
  refine V_ldc2 (v := lI (31)) dX10_mix_0 (kL (by decide +kernel) kX10_341) ?_
  refine V_lload_n dX10_mix_3 rfl ?_
  refine I_lmul dX10_mix_4 ?_
  refine V_lload_n dX10_mix_5 rfl ?_
  refine I_ladd dX10_mix_6 ?_
  exact V_lret dX10_mix_7 rfl (Nat.le_of_ble_eq_true rfl) (Nat.le_of_ble_eq_true rfl) (hQ _ _ _ rfl rfl)


theorem lvv {a b : Int} (h : a = b) : some (Value.long (lI a)) = some (Value.long (lI b)) := by rw [h]

set_option maxRecDepth 100000 in
set_option maxHeartbeats 4000000 in
theorem p_mixChannels (l : Launch) (M : ME) (x : Nat) (ρ π : Int → Int) (sv : Int) (hT : TL M x ρ π sv) (hQA : QA ρ) (h : Int) : CF l yX10_mixChannels cX10_mixChannels 8 (some .long) (rmN 8) [.ref x, .long (lI h)] M (some (.long (lI (mx (foN (fun i h => dCh ρ i h) h 4) (c32 (ρ 45)))))) M := by
  obtain ⟨a, f, x0, x1, x2, x3, x4, x5⟩ := id hT
  have ba := x2.1.b
  obtain ⟨sq, m1, m2, m3, m4⟩ := id x3.1
  refine CF.of (L0 := [some _, some _, none, none, none, none, none, none]) (by decide +kernel) rfl rfl (Nat.le_of_ble_eq_true rfl) rfl (fun G A Q sz hQ => ?_)
  refine V_lload_n dX10_mixChannels_0 rfl ?_
  refine V_lstore_n (L' := [some _, some _, none, some _, none, none, none, none]) dX10_mixChannels_1 rfl (by decide) rfl ?_
  refine V_iconst (v := iI (0)) dX10_mixChannels_2 rfl ?_
  refine V_istore (L' := [some _, some _, none, some _, none, some _, none, none]) dX10_mixChannels_3 (by decide) rfl ?_
  have key5 : ∀ (d : Nat) (i : Int) (sz : Nat), (0 ≤ i ∧ i ≤ 4) → (4 - i).toNat = d → V l G A (rmN 8) RX10 "mixChannels" cX10_mixChannels 8 (some .long) Q nX 0 0 M sz 5 [some (.ref x), some (.long (lI h)), none, some (.long (lI (foN (fun i h => dCh ρ i h) h i.toNat))), none, some (.int (iI i)), none, none] [] := by
    intro d
    induction d using Nat.strongRecOn with
    | ind d ih5 =>
      intro i  sz hi hd5
      refine V_iload dX10_mixChannels_5 rfl ?_
      refine V_iconst (v := iI (4)) dX10_mixChannels_7 rfl ?_
      refine I_icmp_ge (tgt := 149) dX10_mixChannels_8 (by decide) ⟨by omega, by omega⟩ ⟨by omega, by omega⟩ (fun h8 => ?_) (fun h8 => ?_)
      · refine V_lload_n dX10_mixChannels_149 rfl ?_
        refine V_aload_n dX10_mixChannels_150 rfl ?_
        refine V_bipush (v := iI (7)) dX10_mixChannels_151 (by decide +kernel) ?_
        refine V_iconst (v := iI (0)) dX10_mixChannels_153 rfl ?_
        refine V_cV (vs := [_, _]) (p_sentV l M x ρ π sv hT 7 0 (by omega) (by omega)) mX10_316 coX10_sent dX10_mixChannels_154 x0 rfl rfl rfl (by decide) (Nat.le_of_ble_eq_true rfl) (Nat.le_of_ble_eq_true rfl) (Nat.le_of_ble_eq_true rfl) (fun sz => ?_)
        refine I_i2lc dX10_mixChannels_157 ?_
        refine V_cS (vs := [_, _]) (p_mix l M _ _) mX10_285 coX10_mix dX10_mixChannels_158 rfl rfl (by decide) (Nat.le_of_ble_eq_true rfl) (Nat.le_of_ble_eq_true rfl) (Nat.le_of_ble_eq_true rfl) (fun sz => ?_)
        exact V_lret dX10_mixChannels_161 rfl (Nat.le_of_ble_eq_true rfl) (Nat.le_of_ble_eq_true rfl) (hQ _ _ _ (lvv (by rw [show i = 4 by omega]; rfl)) rfl)
      · obtain ⟨fy, py, z0, -⟩ := id (x3.2.1 i (by omega) (by omega))
        refine V_aload_n dX10_mixChannels_11 rfl ?_
        refine V_getf fX10_10 dX10_mixChannels_12 x0 rfl ?_
        refine V_getf fX10_57 dX10_mixChannels_15 m1 rfl ?_
        refine V_iload dX10_mixChannels_18 rfl ?_
        refine I_aald ao6 dX10_mixChannels_20 m3 ⟨by omega, by omega⟩ (by decide) ?_
        refine V_astore (L' := [some _, some _, none, some _, none, some _, some _, none]) dX10_mixChannels_21 (by decide) rfl ?_
        refine V_lload_n dX10_mixChannels_23 rfl ?_
        refine V_aload dX10_mixChannels_24 rfl ?_
        refine V_getf fX10_61 dX10_mixChannels_26 z0 rfl ?_
        refine I_i2lc dX10_mixChannels_29 ?_
        refine V_cS (vs := [_, _]) (p_mix l M _ _) mX10_285 coX10_mix dX10_mixChannels_30 rfl rfl (by decide) (Nat.le_of_ble_eq_true rfl) (Nat.le_of_ble_eq_true rfl) (Nat.le_of_ble_eq_true rfl) (fun sz => ?_)
        refine V_lstore_n (L' := [some _, some _, none, some _, none, some _, some _, none]) dX10_mixChannels_33 rfl (by decide) rfl ?_
        refine V_lload_n dX10_mixChannels_34 rfl ?_
        refine V_aload dX10_mixChannels_35 rfl ?_
        refine V_getf fX10_66 dX10_mixChannels_37 z0 rfl ?_
        refine I_i2lc dX10_mixChannels_40 ?_
        refine V_cS (vs := [_, _]) (p_mix l M _ _) mX10_285 coX10_mix dX10_mixChannels_41 rfl rfl (by decide) (Nat.le_of_ble_eq_true rfl) (Nat.le_of_ble_eq_true rfl) (Nat.le_of_ble_eq_true rfl) (fun sz => ?_)
        refine V_lstore_n (L' := [some _, some _, none, some _, none, some _, some _, none]) dX10_mixChannels_44 rfl (by decide) rfl ?_
        refine V_lload_n dX10_mixChannels_45 rfl ?_
        refine V_aload dX10_mixChannels_46 rfl ?_
        refine V_getf fX10_69 dX10_mixChannels_48 z0 rfl ?_
        refine I_i2lc dX10_mixChannels_51 ?_
        refine V_cS (vs := [_, _]) (p_mix l M _ _) mX10_285 coX10_mix dX10_mixChannels_52 rfl rfl (by decide) (Nat.le_of_ble_eq_true rfl) (Nat.le_of_ble_eq_true rfl) (Nat.le_of_ble_eq_true rfl) (fun sz => ?_)
        refine V_lstore_n (L' := [some _, some _, none, some _, none, some _, some _, none]) dX10_mixChannels_55 rfl (by decide) rfl ?_
        refine V_iconst (v := iI (0)) dX10_mixChannels_56 rfl ?_
        refine V_istore (L' := [some _, some _, none, some _, none, some _, some _, some _]) dX10_mixChannels_57 (by decide) rfl ?_
        have key59 : ∀ (d : Nat) (w : Int) (sz : Nat), (0 ≤ w ∧ w ≤ 3) → (3 - w).toNat = d → V l G A (rmN 8) RX10 "mixChannels" cX10_mixChannels 8 (some .long) Q nX 0 0 M sz 59 [some (.ref x), some (.long (lI h)), none, some (.long (lI (mxN (fun k => c32 (rq ρ i k)) (mx (mx (mx (foN (fun i h => dCh ρ i h) h i.toNat) (c32 (ρ (25 + i)))) (c32 (ρ (29 + i)))) (c32 (ρ (33 + i)))) w.toNat))), none, some (.int (iI i)), some (.ref (scA a i)), some (.int (iI w))] [] := by
          intro d
          induction d using Nat.strongRecOn with
          | ind d ih59 =>
            intro w  sz hw hd59
            refine V_iload dX10_mixChannels_59 rfl ?_
            refine V_iconst (v := iI (2)) dX10_mixChannels_61 rfl ?_
            refine I_icmp_gt (tgt := 85) dX10_mixChannels_62 (by decide) ⟨by omega, by omega⟩ ⟨by omega, by omega⟩ (fun h62 => ?_) (fun h62 => ?_)
            · have hw3 : w = 3 := by omega
              rw [hw3]
              refine V_iconst (v := iI (0)) dX10_mixChannels_85 rfl ?_
              refine V_istore (L' := [some _, some _, none, some _, none, some _, some _, some _]) dX10_mixChannels_86 (by decide) rfl ?_
              have key88 : ∀ (d : Nat) (w : Int) (sz : Nat), (0 ≤ w ∧ w ≤ 3) → (3 - w).toNat = d → V l G A (rmN 8) RX10 "mixChannels" cX10_mixChannels 8 (some .long) Q nX 0 0 M sz 88 [some (.ref x), some (.long (lI h)), none, some (.long (lI (mxN (fun k => c32 (rse ρ i k)) (mxN (fun k => c32 (rq ρ i k)) (mx (mx (mx (foN (fun i h => dCh ρ i h) h i.toNat) (c32 (ρ (25 + i)))) (c32 (ρ (29 + i)))) (c32 (ρ (33 + i)))) 3) w.toNat))), none, some (.int (iI i)), some (.ref (scA a i)), some (.int (iI w))] [] := by
                intro d
                induction d using Nat.strongRecOn with
                | ind d ih88 =>
                  intro w  sz hw hd88
                  refine V_iload dX10_mixChannels_88 rfl ?_
                  refine V_iconst (v := iI (2)) dX10_mixChannels_90 rfl ?_
                  refine I_icmp_gt (tgt := 114) dX10_mixChannels_91 (by decide) ⟨by omega, by omega⟩ ⟨by omega, by omega⟩ (fun h91 => ?_) (fun h91 => ?_)
                  · have hw3 : w = 3 := by omega
                    rw [hw3]
                    refine V_iconst (v := iI (0)) dX10_mixChannels_114 rfl ?_
                    refine V_istore (L' := [some _, some _, none, some _, none, some _, some _, some _]) dX10_mixChannels_115 (by decide) rfl ?_
                    have key117 : ∀ (d : Nat) (w : Int) (sz : Nat), (0 ≤ w ∧ w ≤ 4) → (4 - w).toNat = d → V l G A (rmN 8) RX10 "mixChannels" cX10_mixChannels 8 (some .long) Q nX 0 0 M sz 117 [some (.ref x), some (.long (lI h)), none, some (.long (lI (mxN (fun k => c32 (rre ρ i k)) (mxN (fun k => c32 (rse ρ i k)) (mxN (fun k => c32 (rq ρ i k)) (mx (mx (mx (foN (fun i h => dCh ρ i h) h i.toNat) (c32 (ρ (25 + i)))) (c32 (ρ (29 + i)))) (c32 (ρ (33 + i)))) 3) 3) w.toNat))), none, some (.int (iI i)), some (.ref (scA a i)), some (.int (iI w))] [] := by
                      intro d
                      induction d using Nat.strongRecOn with
                      | ind d ih117 =>
                        intro w  sz hw hd117
                        refine V_iload dX10_mixChannels_117 rfl ?_
                        refine V_iconst (v := iI (3)) dX10_mixChannels_119 rfl ?_
                        refine I_icmp_gt (tgt := 143) dX10_mixChannels_120 (by decide) ⟨by omega, by omega⟩ ⟨by omega, by omega⟩ (fun h120 => ?_) (fun h120 => ?_)
                        · refine I_iinc (L' := [some _, some _, none, some _, none, some _, some _, some _]) dX10_mixChannels_143 rfl (by decide) rfl ?_
                          refine V_goto (tgt := 5) dX10_mixChannels_146 (by decide) ?_
                          exact V_wk' (ih5 _ (by omega) (i + 1) sz ⟨by omega, by omega⟩ rfl) ⟨rfl, rfl, (vl (by rw [foN_s hi.1, Int.toNat_of_nonneg hi.1, show w = 4 by omega]; first | done | rfl)), rfl, trivial⟩
                        · refine V_lload_n dX10_mixChannels_123 rfl ?_
                          refine V_aload_n dX10_mixChannels_124 rfl ?_
                          refine V_iload dX10_mixChannels_125 rfl ?_
                          refine V_iload dX10_mixChannels_127 rfl ?_
                          refine V_cV (vs := [_, _]) (p_receivedV l M x ρ π sv hT i w (by omega) (by omega)) mX10_319 coX10_received dX10_mixChannels_129 x0 rfl rfl rfl (by decide) (Nat.le_of_ble_eq_true rfl) (Nat.le_of_ble_eq_true rfl) (Nat.le_of_ble_eq_true rfl) (fun sz => ?_)
                          refine I_i2lc dX10_mixChannels_132 ?_
                          refine V_cS (vs := [_, _]) (p_mix l M _ _) mX10_285 coX10_mix dX10_mixChannels_133 rfl rfl (by decide) (Nat.le_of_ble_eq_true rfl) (Nat.le_of_ble_eq_true rfl) (Nat.le_of_ble_eq_true rfl) (fun sz => ?_)
                          refine V_lstore_n (L' := [some _, some _, none, some _, none, some _, some _, some _]) dX10_mixChannels_136 rfl (by decide) rfl ?_
                          refine I_iinc (L' := [some _, some _, none, some _, none, some _, some _, some _]) dX10_mixChannels_137 rfl (by decide) rfl ?_
                          refine V_goto (tgt := 117) dX10_mixChannels_140 (by decide) ?_
                          exact V_wk' (ih117 _ (by omega) (w + 1) sz ⟨by omega, by omega⟩ rfl) ⟨rfl, rfl, (vl (by rw [mxN_s hw.1, Int.toNat_of_nonneg hw.1])), rfl, rfl, rfl, trivial⟩
                    exact V_wk' (key117 _ 0 sz ⟨by omega, by omega⟩ rfl) ⟨rfl, rfl, rfl, rfl, rfl, rfl, trivial⟩
                  · refine V_lload_n dX10_mixChannels_94 rfl ?_
                    refine V_aload_n dX10_mixChannels_95 rfl ?_
                    refine V_iload dX10_mixChannels_96 rfl ?_
                    refine V_iload dX10_mixChannels_98 rfl ?_
                    refine V_cV (vs := [_, _]) (p_sentV l M x ρ π sv hT i w (by omega) (by omega)) mX10_316 coX10_sent dX10_mixChannels_100 x0 rfl rfl rfl (by decide) (Nat.le_of_ble_eq_true rfl) (Nat.le_of_ble_eq_true rfl) (Nat.le_of_ble_eq_true rfl) (fun sz => ?_)
                    refine I_i2lc dX10_mixChannels_103 ?_
                    refine V_cS (vs := [_, _]) (p_mix l M _ _) mX10_285 coX10_mix dX10_mixChannels_104 rfl rfl (by decide) (Nat.le_of_ble_eq_true rfl) (Nat.le_of_ble_eq_true rfl) (Nat.le_of_ble_eq_true rfl) (fun sz => ?_)
                    refine V_lstore_n (L' := [some _, some _, none, some _, none, some _, some _, some _]) dX10_mixChannels_107 rfl (by decide) rfl ?_
                    refine I_iinc (L' := [some _, some _, none, some _, none, some _, some _, some _]) dX10_mixChannels_108 rfl (by decide) rfl ?_
                    refine V_goto (tgt := 88) dX10_mixChannels_111 (by decide) ?_
                    exact V_wk' (ih88 _ (by omega) (w + 1) sz ⟨by omega, by omega⟩ rfl) ⟨rfl, rfl, (vl (by rw [mxN_s hw.1, Int.toNat_of_nonneg hw.1])), rfl, rfl, rfl, trivial⟩
              exact V_wk' (key88 _ 0 sz ⟨by omega, by omega⟩ rfl) ⟨rfl, rfl, rfl, rfl, rfl, rfl, trivial⟩
            · refine V_lload_n dX10_mixChannels_65 rfl ?_
              refine V_aload_n dX10_mixChannels_66 rfl ?_
              refine V_iload dX10_mixChannels_67 rfl ?_
              refine V_iload dX10_mixChannels_69 rfl ?_
              refine V_cV (vs := [_, _]) (p_queueV l M x ρ π sv hT hQA i w (by omega) (by omega)) mX10_312 coX10_queue dX10_mixChannels_71 x0 rfl rfl rfl (by decide) (Nat.le_of_ble_eq_true rfl) (Nat.le_of_ble_eq_true rfl) (Nat.le_of_ble_eq_true rfl) (fun sz => ?_)
              refine I_i2lc dX10_mixChannels_74 ?_
              refine V_cS (vs := [_, _]) (p_mix l M _ _) mX10_285 coX10_mix dX10_mixChannels_75 rfl rfl (by decide) (Nat.le_of_ble_eq_true rfl) (Nat.le_of_ble_eq_true rfl) (Nat.le_of_ble_eq_true rfl) (fun sz => ?_)
              refine V_lstore_n (L' := [some _, some _, none, some _, none, some _, some _, some _]) dX10_mixChannels_78 rfl (by decide) rfl ?_
              refine I_iinc (L' := [some _, some _, none, some _, none, some _, some _, some _]) dX10_mixChannels_79 rfl (by decide) rfl ?_
              refine V_goto (tgt := 59) dX10_mixChannels_82 (by decide) ?_
              exact V_wk' (ih59 _ (by omega) (w + 1) sz ⟨by omega, by omega⟩ rfl) ⟨rfl, rfl, (vl (by rw [mxN_s hw.1, Int.toNat_of_nonneg hw.1])), rfl, rfl, rfl, trivial⟩
        exact V_wk' (key59 _ 0 sz ⟨by omega, by omega⟩ rfl) ⟨rfl, rfl, rfl, rfl, rfl, rfl, trivial⟩
  exact V_wk' (key5 _ 0 sz ⟨by omega, by omega⟩ rfl) ⟨rfl, rfl, rfl, rfl, trivial⟩

set_option maxRecDepth 100000 in
set_option maxHeartbeats 4000000 in
theorem p_mixWire (l : Launch) (M : ME) (x : Nat) (ρ π : Int → Int) (sv : Int) (hT : TL M x ρ π sv) (hW : Wr ρ) (h : Int) : CF l yX10_mixWire cX10_mixWire 7 (some .long) (rmN 8) [.ref x, .long (lI h)] M (some (.long (lI (foN (fun i h => dFr ρ i h) (mx h (c32 (ρ 382))) (ρ 382).toNat)))) M := by
  obtain ⟨a, f, x0, x1, x2, x3, x4, x5⟩ := id hT
  have ba := x2.1.b
  obtain ⟨sq, m1, m2, m3, m4⟩ := id x3.1
  obtain ⟨fr, w1, w2, w3, w4, w5, w6⟩ := id x3.2.2.1
  refine CF.of (L0 := [some _, some _, none, none, none, none, none]) (by decide +kernel) rfl rfl (Nat.le_of_ble_eq_true rfl) rfl (fun G A Q sz hQ => ?_)
  refine V_lload_n dX10_mixWire_0 rfl ?_
  refine V_aload_n dX10_mixWire_1 rfl ?_
  refine V_cV (vs := []) (p_wire l M x ρ π sv hT) mX10_322 coX10_wire dX10_mixWire_2 x0 rfl rfl rfl (by decide) (Nat.le_of_ble_eq_true rfl) (Nat.le_of_ble_eq_true rfl) (Nat.le_of_ble_eq_true rfl) (fun sz => ?_)
  refine I_i2lc dX10_mixWire_5 ?_
  refine V_cS (vs := [_, _]) (p_mix l M _ _) mX10_285 coX10_mix dX10_mixWire_6 rfl rfl (by decide) (Nat.le_of_ble_eq_true rfl) (Nat.le_of_ble_eq_true rfl) (Nat.le_of_ble_eq_true rfl) (fun sz => ?_)
  refine V_lstore_n (L' := [some _, some _, none, some _, none, none, none]) dX10_mixWire_9 rfl (by decide) rfl ?_
  refine V_iconst (v := iI (0)) dX10_mixWire_10 rfl ?_
  refine V_istore (L' := [some _, some _, none, some _, none, some _, none]) dX10_mixWire_11 (by decide) rfl ?_
  have key13 : ∀ (d : Nat) (i : Int) (sz : Nat), (0 ≤ i ∧ i ≤ ρ 382) → (ρ 382 - i).toNat = d → V l G A (rmN 8) RX10 "mixWire" cX10_mixWire 7 (some .long) Q nX 0 0 M sz 13 [some (.ref x), some (.long (lI h)), none, some (.long (lI (foN (fun i h => dFr ρ i h) (mx h (c32 (ρ 382))) i.toNat))), none, some (.int (iI i)), none] [] := by
    intro d
    induction d using Nat.strongRecOn with
    | ind d ih13 =>
      intro i  sz hi hd13
      refine V_iload dX10_mixWire_13 rfl ?_
      refine V_aload_n dX10_mixWire_15 rfl ?_
      refine V_getf fX10_10 dX10_mixWire_16 x0 rfl ?_
      refine V_getf fX10_106 dX10_mixWire_19 m1 rfl ?_
      refine V_getf fX10_110 dX10_mixWire_22 w1 rfl ?_
      refine I_icmp_ge (tgt := 89) dX10_mixWire_25 (by decide) ⟨by omega, by omega⟩ ⟨by omega, by omega⟩ (fun h25 => ?_) (fun h25 => ?_)
      · refine V_lload_n dX10_mixWire_89 rfl ?_
        exact V_lret dX10_mixWire_90 rfl (Nat.le_of_ble_eq_true rfl) (Nat.le_of_ble_eq_true rfl) (hQ _ _ _ (lvv (by rw [show i = ρ 382 by omega])) rfl)
      · obtain ⟨gf, o1, o2, o3, o4⟩ := id (w6 i (by omega) (by omega))
        have hDi := (hW.2 i (by omega) (by omega)).1
        have hsD : sl ρ (383 + 50 * i) 0 = ρ (383 + 50 * i) := by unfold sl; rw [Int.add_zero]
        have e2 : gf 3 = ρ (383 + 50 * i + 4 + 3) := by rw [o4 3 (by omega) (by omega)]; unfold sl; congr 1; omega
        have e3 : gf (4 + sl ρ (383 + 50 * i) 0) * 256 + gf (4 + sl ρ (383 + 50 * i) 0 + 1) = ckv ρ i := by
          rw [hsD, o4 _ (by omega) (by omega), o4 _ (by omega) (by omega)]; unfold sl ckv ckp
          rw [show 383 + 50 * i + (4 + (4 + ρ (383 + 50 * i))) = 383 + 50 * i + 4 + 4 + ρ (383 + 50 * i) by omega, show 383 + 50 * i + (4 + (4 + ρ (383 + 50 * i) + 1)) = 383 + 50 * i + 4 + 4 + ρ (383 + 50 * i) + 1 by omega]; omega
        refine V_aload_n dX10_mixWire_28 rfl ?_
        refine V_getf fX10_10 dX10_mixWire_29 x0 rfl ?_
        refine V_getf fX10_106 dX10_mixWire_32 m1 rfl ?_
        refine V_getf fX10_139 dX10_mixWire_35 w1 rfl ?_
        refine V_iload dX10_mixWire_38 rfl ?_
        refine I_aald ao3 dX10_mixWire_40 w2 ⟨by omega, by omega⟩ (by decide) ?_
        refine V_astore (L' := [some _, some _, none, some _, none, some _, some _]) dX10_mixWire_41 (by decide) rfl ?_
        rcases (show sl ρ (383 + 50 * i) 1 = 0 ∨ sl ρ (383 + 50 * i) 1 = 1 by omega) with hl | hl
        · have e1 : c32 (ρ (383 + 50 * i + 1)) = 0 := by have := hl; unfold sl at this; rw [this]; rfl
          refine V_lload_n dX10_mixWire_43 rfl ?_
          refine V_aload dX10_mixWire_44 rfl ?_
          refine V_getf fX10_159 dX10_mixWire_46 o1 rfl ?_
          refine I_if_eq_t (tgt := 56) dX10_mixWire_49 (by decide) ⟨by omega, by omega⟩ (by omega) ?_
          refine V_lconst (v := lI 0) dX10_mixWire_56 rfl ?_
          refine V_cS (vs := [_, _]) (p_mix l M _ _) mX10_285 coX10_mix dX10_mixWire_57 rfl rfl (by decide) (Nat.le_of_ble_eq_true rfl) (Nat.le_of_ble_eq_true rfl) (Nat.le_of_ble_eq_true rfl) (fun sz => ?_)
          refine V_lstore_n (L' := [some _, some _, none, some _, none, some _, some _]) dX10_mixWire_60 rfl (by decide) rfl ?_
          refine V_lload_n dX10_mixWire_61 rfl ?_
          refine V_aload dX10_mixWire_62 rfl ?_
          refine V_cV (vs := []) (f_headerPointer l M (fr i) _ _ _ _ o1 gf o2) mX10_324 coX2_headerPointer dX10_mixWire_64 o1 rfl rfl rfl (by decide) (Nat.le_of_ble_eq_true rfl) (Nat.le_of_ble_eq_true rfl) (Nat.le_of_ble_eq_true rfl) (fun sz => ?_)
          rw [e2]
          refine I_i2lc dX10_mixWire_67 ?_
          refine V_cS (vs := [_, _]) (p_mix l M _ _) mX10_285 coX10_mix dX10_mixWire_68 rfl rfl (by decide) (Nat.le_of_ble_eq_true rfl) (Nat.le_of_ble_eq_true rfl) (Nat.le_of_ble_eq_true rfl) (fun sz => ?_)
          refine V_lstore_n (L' := [some _, some _, none, some _, none, some _, some _]) dX10_mixWire_71 rfl (by decide) rfl ?_
          refine V_lload_n dX10_mixWire_72 rfl ?_
          refine V_aload dX10_mixWire_73 rfl ?_
          refine V_cV (vs := []) (f_checkValue l M (fr i) _ _ _ _ o1 gf o2 (by omega)) mX10_327 coX2_checkValue dX10_mixWire_75 o1 rfl rfl rfl (by decide) (Nat.le_of_ble_eq_true rfl) (Nat.le_of_ble_eq_true rfl) (Nat.le_of_ble_eq_true rfl) (fun sz => ?_)
          rw [e3]
          refine I_i2lc dX10_mixWire_78 ?_
          refine V_cS (vs := [_, _]) (p_mix l M _ _) mX10_285 coX10_mix dX10_mixWire_79 rfl rfl (by decide) (Nat.le_of_ble_eq_true rfl) (Nat.le_of_ble_eq_true rfl) (Nat.le_of_ble_eq_true rfl) (fun sz => ?_)
          refine V_lstore_n (L' := [some _, some _, none, some _, none, some _, some _]) dX10_mixWire_82 rfl (by decide) rfl ?_
          refine I_iinc (L' := [some _, some _, none, some _, none, some _, some _]) dX10_mixWire_83 rfl (by decide) rfl ?_
          refine V_goto (tgt := 13) dX10_mixWire_86 (by decide) ?_
          exact V_wk' (ih13 _ (by omega) (i + 1) sz ⟨by omega, by omega⟩ rfl) ⟨rfl, rfl, (vl (by rw [foN_s hi.1, Int.toNat_of_nonneg hi.1]; unfold dFr; rw [e1]; first | done | rfl)), rfl, trivial⟩
        · have e1 : c32 (ρ (383 + 50 * i + 1)) = 1 := by have := hl; unfold sl at this; rw [this]; rfl
          refine V_lload_n dX10_mixWire_43 rfl ?_
          refine V_aload dX10_mixWire_44 rfl ?_
          refine V_getf fX10_159 dX10_mixWire_46 o1 rfl ?_
          refine I_if_eq_f (tgt := 56) dX10_mixWire_49 (by decide) ⟨by omega, by omega⟩ (by omega) ?_
          refine V_lconst (v := lI 1) dX10_mixWire_52 rfl ?_
          refine V_goto (tgt := 57) dX10_mixWire_53 (by decide) ?_
          refine V_cS (vs := [_, _]) (p_mix l M _ _) mX10_285 coX10_mix dX10_mixWire_57 rfl rfl (by decide) (Nat.le_of_ble_eq_true rfl) (Nat.le_of_ble_eq_true rfl) (Nat.le_of_ble_eq_true rfl) (fun sz => ?_)
          refine V_lstore_n (L' := [some _, some _, none, some _, none, some _, some _]) dX10_mixWire_60 rfl (by decide) rfl ?_
          refine V_lload_n dX10_mixWire_61 rfl ?_
          refine V_aload dX10_mixWire_62 rfl ?_
          refine V_cV (vs := []) (f_headerPointer l M (fr i) _ _ _ _ o1 gf o2) mX10_324 coX2_headerPointer dX10_mixWire_64 o1 rfl rfl rfl (by decide) (Nat.le_of_ble_eq_true rfl) (Nat.le_of_ble_eq_true rfl) (Nat.le_of_ble_eq_true rfl) (fun sz => ?_)
          rw [e2]
          refine I_i2lc dX10_mixWire_67 ?_
          refine V_cS (vs := [_, _]) (p_mix l M _ _) mX10_285 coX10_mix dX10_mixWire_68 rfl rfl (by decide) (Nat.le_of_ble_eq_true rfl) (Nat.le_of_ble_eq_true rfl) (Nat.le_of_ble_eq_true rfl) (fun sz => ?_)
          refine V_lstore_n (L' := [some _, some _, none, some _, none, some _, some _]) dX10_mixWire_71 rfl (by decide) rfl ?_
          refine V_lload_n dX10_mixWire_72 rfl ?_
          refine V_aload dX10_mixWire_73 rfl ?_
          refine V_cV (vs := []) (f_checkValue l M (fr i) _ _ _ _ o1 gf o2 (by omega)) mX10_327 coX2_checkValue dX10_mixWire_75 o1 rfl rfl rfl (by decide) (Nat.le_of_ble_eq_true rfl) (Nat.le_of_ble_eq_true rfl) (Nat.le_of_ble_eq_true rfl) (fun sz => ?_)
          rw [e3]
          refine I_i2lc dX10_mixWire_78 ?_
          refine V_cS (vs := [_, _]) (p_mix l M _ _) mX10_285 coX10_mix dX10_mixWire_79 rfl rfl (by decide) (Nat.le_of_ble_eq_true rfl) (Nat.le_of_ble_eq_true rfl) (Nat.le_of_ble_eq_true rfl) (fun sz => ?_)
          refine V_lstore_n (L' := [some _, some _, none, some _, none, some _, some _]) dX10_mixWire_82 rfl (by decide) rfl ?_
          refine I_iinc (L' := [some _, some _, none, some _, none, some _, some _]) dX10_mixWire_83 rfl (by decide) rfl ?_
          refine V_goto (tgt := 13) dX10_mixWire_86 (by decide) ?_
          exact V_wk' (ih13 _ (by omega) (i + 1) sz ⟨by omega, by omega⟩ rfl) ⟨rfl, rfl, (vl (by rw [foN_s hi.1, Int.toNat_of_nonneg hi.1]; unfold dFr; rw [e1]; first | done | rfl)), rfl, trivial⟩
  exact V_wk' (key13 _ 0 sz ⟨by omega, by omega⟩ rfl) ⟨rfl, rfl, rfl, rfl, trivial⟩

set_option maxRecDepth 100000 in
set_option maxHeartbeats 4000000 in
theorem p_mixCounts (l : Launch) (M : ME) (x : Nat) (ρ π : Int → Int) (sv : Int) (hT : TL M x ρ π sv) (h : Int) : CF l yX10_mixCounts cX10_mixCounts 7 (some .long) (rmN 8) [.ref x, .long (lI h)] M (some (.long (lI (foN (fun i h => mAl ρ (4443 + 4 * i) 3 h) (mAl ρ 3383 6 h) 15)))) M := by
  obtain ⟨a, f, x0, x1, x2, x3, x4, x5⟩ := id hT
  have ba := x2.1.b
  obtain ⟨sq, m1, m2, m3, m4⟩ := id x3.1
  refine CF.of (L0 := [some _, some _, none, none, none, none, none]) (by decide +kernel) rfl rfl (Nat.le_of_ble_eq_true rfl) rfl (fun G A Q sz hQ => ?_)
  refine V_lload_n dX10_mixCounts_0 rfl ?_
  refine V_lstore_n (L' := [some _, some _, none, some _, none, none, none]) dX10_mixCounts_1 rfl (by decide) rfl ?_
  refine V_iconst (v := iI (0)) dX10_mixCounts_2 rfl ?_
  refine V_istore (L' := [some _, some _, none, some _, none, some _, none]) dX10_mixCounts_3 (by decide) rfl ?_
  have key5 : ∀ (d : Nat) (i : Int) (sz : Nat), (0 ≤ i ∧ i ≤ 6) → (6 - i).toNat = d → V l G A (rmN 8) RX10 "mixCounts" cX10_mixCounts 7 (some .long) Q nX 0 0 M sz 5 [some (.ref x), some (.long (lI h)), none, some (.long (lI (mxN (fun k => c32 (ρ (3383 + k))) h i.toNat))), none, some (.int (iI i)), none] [] := by
    intro d
    induction d using Nat.strongRecOn with
    | ind d ih5 =>
      intro i  sz hi hd5
      refine V_iload dX10_mixCounts_5 rfl ?_
      refine V_bipush (v := iI (6)) dX10_mixCounts_7 (by decide +kernel) ?_
      refine I_icmp_ge (tgt := 30) dX10_mixCounts_9 (by decide) ⟨by omega, by omega⟩ ⟨by omega, by omega⟩ (fun h9 => ?_) (fun h9 => ?_)
      · refine V_iconst (v := iI (0)) dX10_mixCounts_30 rfl ?_
        refine V_istore (L' := [some _, some _, none, some _, none, some _, none]) dX10_mixCounts_31 (by decide) rfl ?_
        have key33 : ∀ (d : Nat) (c : Int) (sz : Nat), (0 ≤ c ∧ c ≤ 15) → (15 - c).toNat = d → V l G A (rmN 8) RX10 "mixCounts" cX10_mixCounts 7 (some .long) Q nX 0 0 M sz 33 [some (.ref x), some (.long (lI h)), none, some (.long (lI (foN (fun i h => mAl ρ (4443 + 4 * i) 3 h) (mAl ρ 3383 6 h) c.toNat))), none, some (.int (iI c)), none] [] := by
          intro d
          induction d using Nat.strongRecOn with
          | ind d ih33 =>
            intro c  sz hc hd33
            refine V_iload dX10_mixCounts_33 rfl ?_
            refine V_bipush (v := iI (15)) dX10_mixCounts_35 (by decide +kernel) ?_
            refine I_icmp_ge (tgt := 75) dX10_mixCounts_37 (by decide) ⟨by omega, by omega⟩ ⟨by omega, by omega⟩ (fun h37 => ?_) (fun h37 => ?_)
            · refine V_lload_n dX10_mixCounts_75 rfl ?_
              exact V_lret dX10_mixCounts_76 rfl (Nat.le_of_ble_eq_true rfl) (Nat.le_of_ble_eq_true rfl) (hQ _ _ _ (lvv (by rw [show c = 15 by omega]; rfl)) rfl)
            · refine V_iconst (v := iI (0)) dX10_mixCounts_40 rfl ?_
              refine V_istore (L' := [some _, some _, none, some _, none, some _, some _]) dX10_mixCounts_41 (by decide) rfl ?_
              have key43 : ∀ (d : Nat) (w : Int) (sz : Nat), (0 ≤ w ∧ w ≤ 3) → (3 - w).toNat = d → V l G A (rmN 8) RX10 "mixCounts" cX10_mixCounts 7 (some .long) Q nX 0 0 M sz 43 [some (.ref x), some (.long (lI h)), none, some (.long (lI (mxN (fun k => c32 (ρ (4443 + 4 * c + k))) (foN (fun i h => mAl ρ (4443 + 4 * i) 3 h) (mAl ρ 3383 6 h) c.toNat) w.toNat))), none, some (.int (iI c)), some (.int (iI w))] [] := by
                intro d
                induction d using Nat.strongRecOn with
                | ind d ih43 =>
                  intro w  sz hw hd43
                  refine V_iload dX10_mixCounts_43 rfl ?_
                  refine V_iconst (v := iI (2)) dX10_mixCounts_45 rfl ?_
                  refine I_icmp_gt (tgt := 69) dX10_mixCounts_46 (by decide) ⟨by omega, by omega⟩ ⟨by omega, by omega⟩ (fun h46 => ?_) (fun h46 => ?_)
                  · refine I_iinc (L' := [some _, some _, none, some _, none, some _, some _]) dX10_mixCounts_69 rfl (by decide) rfl ?_
                    refine V_goto (tgt := 33) dX10_mixCounts_72 (by decide) ?_
                    exact V_wk' (ih33 _ (by omega) (c + 1) sz ⟨by omega, by omega⟩ rfl) ⟨rfl, rfl, (vl (by rw [foN_s hc.1, Int.toNat_of_nonneg hc.1, show w = 3 by omega]; first | done | rfl)), rfl, trivial⟩
                  · refine V_lload_n dX10_mixCounts_49 rfl ?_
                    refine V_aload_n dX10_mixCounts_50 rfl ?_
                    refine V_iload dX10_mixCounts_51 rfl ?_
                    refine V_iload dX10_mixCounts_53 rfl ?_
                    refine V_cV (vs := [_, _]) (p_applicationV l M x ρ π sv hT c w (by omega) (by omega)) mX10_333 coX10_application dX10_mixCounts_55 x0 rfl rfl rfl (by decide) (Nat.le_of_ble_eq_true rfl) (Nat.le_of_ble_eq_true rfl) (Nat.le_of_ble_eq_true rfl) (fun sz => ?_)
                    refine I_i2lc dX10_mixCounts_58 ?_
                    refine V_cS (vs := [_, _]) (p_mix l M _ _) mX10_285 coX10_mix dX10_mixCounts_59 rfl rfl (by decide) (Nat.le_of_ble_eq_true rfl) (Nat.le_of_ble_eq_true rfl) (Nat.le_of_ble_eq_true rfl) (fun sz => ?_)
                    refine V_lstore_n (L' := [some _, some _, none, some _, none, some _, some _]) dX10_mixCounts_62 rfl (by decide) rfl ?_
                    refine I_iinc (L' := [some _, some _, none, some _, none, some _, some _]) dX10_mixCounts_63 rfl (by decide) rfl ?_
                    refine V_goto (tgt := 43) dX10_mixCounts_66 (by decide) ?_
                    exact V_wk' (ih43 _ (by omega) (w + 1) sz ⟨by omega, by omega⟩ rfl) ⟨rfl, rfl, (vl (by rw [mxN_s hw.1, Int.toNat_of_nonneg hw.1])), rfl, rfl, trivial⟩
              exact V_wk' (key43 _ 0 sz ⟨by omega, by omega⟩ rfl) ⟨rfl, rfl, rfl, rfl, rfl, trivial⟩
        exact V_wk' (key33 _ 0 sz ⟨by omega, by omega⟩ rfl) ⟨rfl, rfl, (vl (by rw [show i = 6 by omega]; rfl)), rfl, trivial⟩
      · refine V_lload_n dX10_mixCounts_12 rfl ?_
        refine V_aload_n dX10_mixCounts_13 rfl ?_
        refine V_iload dX10_mixCounts_14 rfl ?_
        refine V_cV (vs := [_]) (p_countV l M x ρ π sv hT i (by omega)) mX10_330 coX10_count dX10_mixCounts_16 x0 rfl rfl rfl (by decide) (Nat.le_of_ble_eq_true rfl) (Nat.le_of_ble_eq_true rfl) (Nat.le_of_ble_eq_true rfl) (fun sz => ?_)
        refine I_i2lc dX10_mixCounts_19 ?_
        refine V_cS (vs := [_, _]) (p_mix l M _ _) mX10_285 coX10_mix dX10_mixCounts_20 rfl rfl (by decide) (Nat.le_of_ble_eq_true rfl) (Nat.le_of_ble_eq_true rfl) (Nat.le_of_ble_eq_true rfl) (fun sz => ?_)
        refine V_lstore_n (L' := [some _, some _, none, some _, none, some _, none]) dX10_mixCounts_23 rfl (by decide) rfl ?_
        refine I_iinc (L' := [some _, some _, none, some _, none, some _, none]) dX10_mixCounts_24 rfl (by decide) rfl ?_
        refine V_goto (tgt := 5) dX10_mixCounts_27 (by decide) ?_
        exact V_wk' (ih5 _ (by omega) (i + 1) sz ⟨by omega, by omega⟩ rfl) ⟨rfl, rfl, (vl (by rw [mxN_s hi.1, Int.toNat_of_nonneg hi.1])), rfl, trivial⟩
  exact V_wk' (key5 _ 0 sz ⟨by omega, by omega⟩ rfl) ⟨rfl, rfl, rfl, rfl, trivial⟩

set_option maxRecDepth 100000 in
set_option maxHeartbeats 4000000 in
theorem p_mixPackets (l : Launch) (M : ME) (x : Nat) (ρ π : Int → Int) (sv : Int) (hT : TL M x ρ π sv) (hAi : Ai ρ) (B : Int) (hC : CI B ρ) (h : Int) : CF l yX10_mixPackets cX10_mixPackets 7 (some .long) (rmN 8) [.ref x, .long (lI h)] M (some (.long (lI (foN (fun i h => mAl ρ (4504 + 260 * i) 5 h) (mx h (c32 (ρ 4503))) (ρ 4503).toNat)))) M := by
  obtain ⟨a, f, x0, x1, x2, x3, x4, x5⟩ := id hT
  have ba := x2.1.b
  obtain ⟨sq, m1, m2, m3, m4⟩ := id x3.1
  have hp9 := hAi.2.1
  refine CF.of (L0 := [some _, some _, none, none, none, none, none]) (by decide +kernel) rfl rfl (Nat.le_of_ble_eq_true rfl) rfl (fun G A Q sz hQ => ?_)
  refine V_lload_n dX10_mixPackets_0 rfl ?_
  refine V_aload_n dX10_mixPackets_1 rfl ?_
  refine V_cV (vs := []) (p_packets l M x ρ π sv hT) mX10_335 coX10_packets dX10_mixPackets_2 x0 rfl rfl rfl (by decide) (Nat.le_of_ble_eq_true rfl) (Nat.le_of_ble_eq_true rfl) (Nat.le_of_ble_eq_true rfl) (fun sz => ?_)
  refine I_i2lc dX10_mixPackets_5 ?_
  refine V_cS (vs := [_, _]) (p_mix l M _ _) mX10_285 coX10_mix dX10_mixPackets_6 rfl rfl (by decide) (Nat.le_of_ble_eq_true rfl) (Nat.le_of_ble_eq_true rfl) (Nat.le_of_ble_eq_true rfl) (fun sz => ?_)
  refine V_lstore_n (L' := [some _, some _, none, some _, none, none, none]) dX10_mixPackets_9 rfl (by decide) rfl ?_
  refine V_iconst (v := iI (0)) dX10_mixPackets_10 rfl ?_
  refine V_istore (L' := [some _, some _, none, some _, none, some _, none]) dX10_mixPackets_11 (by decide) rfl ?_
  have key13 : ∀ (d : Nat) (i : Int) (sz : Nat), (0 ≤ i ∧ i ≤ ρ 4503) → (ρ 4503 - i).toNat = d → V l G A (rmN 8) RX10 "mixPackets" cX10_mixPackets 7 (some .long) Q nX 0 0 M sz 13 [some (.ref x), some (.long (lI h)), none, some (.long (lI (foN (fun i h => mAl ρ (4504 + 260 * i) 5 h) (mx h (c32 (ρ 4503))) i.toNat))), none, some (.int (iI i)), none] [] := by
    intro d
    induction d using Nat.strongRecOn with
    | ind d ih13 =>
      intro i  sz hi hd13
      refine V_iload dX10_mixPackets_13 rfl ?_
      refine V_aload_n dX10_mixPackets_15 rfl ?_
      refine V_cV (vs := []) (p_packets l M x ρ π sv hT) mX10_335 coX10_packets dX10_mixPackets_16 x0 rfl rfl rfl (by decide) (Nat.le_of_ble_eq_true rfl) (Nat.le_of_ble_eq_true rfl) (Nat.le_of_ble_eq_true rfl) (fun sz => ?_)
      refine I_icmp_ge (tgt := 57) dX10_mixPackets_19 (by decide) ⟨by omega, by omega⟩ ⟨by omega, by omega⟩ (fun h19 => ?_) (fun h19 => ?_)
      · refine V_lload_n dX10_mixPackets_57 rfl ?_
        exact V_lret dX10_mixPackets_58 rfl (Nat.le_of_ble_eq_true rfl) (Nat.le_of_ble_eq_true rfl) (hQ _ _ _ (lvv (by rw [show i = ρ 4503 by omega])) rfl)
      · refine V_iconst (v := iI (0)) dX10_mixPackets_22 rfl ?_
        refine V_istore (L' := [some _, some _, none, some _, none, some _, some _]) dX10_mixPackets_23 (by decide) rfl ?_
        have key25 : ∀ (d : Nat) (w : Int) (sz : Nat), (0 ≤ w ∧ w ≤ 5) → (5 - w).toNat = d → V l G A (rmN 8) RX10 "mixPackets" cX10_mixPackets 7 (some .long) Q nX 0 0 M sz 25 [some (.ref x), some (.long (lI h)), none, some (.long (lI (mxN (fun k => c32 (ρ (4504 + 260 * i + k))) (foN (fun i h => mAl ρ (4504 + 260 * i) 5 h) (mx h (c32 (ρ 4503))) i.toNat) w.toNat))), none, some (.int (iI i)), some (.int (iI w))] [] := by
          intro d
          induction d using Nat.strongRecOn with
          | ind d ih25 =>
            intro w  sz hw hd25
            refine V_iload dX10_mixPackets_25 rfl ?_
            refine V_iconst (v := iI (4)) dX10_mixPackets_27 rfl ?_
            refine I_icmp_gt (tgt := 51) dX10_mixPackets_28 (by decide) ⟨by omega, by omega⟩ ⟨by omega, by omega⟩ (fun h28 => ?_) (fun h28 => ?_)
            · refine I_iinc (L' := [some _, some _, none, some _, none, some _, some _]) dX10_mixPackets_51 rfl (by decide) rfl ?_
              refine V_goto (tgt := 13) dX10_mixPackets_54 (by decide) ?_
              exact V_wk' (ih13 _ (by omega) (i + 1) sz ⟨by omega, by omega⟩ rfl) ⟨rfl, rfl, (vl (by rw [foN_s hi.1, Int.toNat_of_nonneg hi.1, show w = 5 by omega]; first | done | rfl)), rfl, trivial⟩
            · refine V_lload_n dX10_mixPackets_31 rfl ?_
              refine V_aload_n dX10_mixPackets_32 rfl ?_
              refine V_iload dX10_mixPackets_33 rfl ?_
              refine V_iload dX10_mixPackets_35 rfl ?_
              refine V_cV (vs := [_, _]) (p_packetV l M x ρ π sv hT hAi B hC i w (by omega) (by omega)) mX10_338 coX10_packet dX10_mixPackets_37 x0 rfl rfl rfl (by decide) (Nat.le_of_ble_eq_true rfl) (Nat.le_of_ble_eq_true rfl) (Nat.le_of_ble_eq_true rfl) (fun sz => ?_)
              refine I_i2lc dX10_mixPackets_40 ?_
              refine V_cS (vs := [_, _]) (p_mix l M _ _) mX10_285 coX10_mix dX10_mixPackets_41 rfl rfl (by decide) (Nat.le_of_ble_eq_true rfl) (Nat.le_of_ble_eq_true rfl) (Nat.le_of_ble_eq_true rfl) (fun sz => ?_)
              refine V_lstore_n (L' := [some _, some _, none, some _, none, some _, some _]) dX10_mixPackets_44 rfl (by decide) rfl ?_
              refine I_iinc (L' := [some _, some _, none, some _, none, some _, some _]) dX10_mixPackets_45 rfl (by decide) rfl ?_
              refine V_goto (tgt := 25) dX10_mixPackets_48 (by decide) ?_
              exact V_wk' (ih25 _ (by omega) (w + 1) sz ⟨by omega, by omega⟩ rfl) ⟨rfl, rfl, (vl (by rw [mxN_s hw.1, Int.toNat_of_nonneg hw.1])), rfl, rfl, trivial⟩
        exact V_wk' (key25 _ 0 sz ⟨by omega, by omega⟩ rfl) ⟨rfl, rfl, rfl, rfl, rfl, trivial⟩
  exact V_wk' (key13 _ 0 sz ⟨by omega, by omega⟩ rfl) ⟨rfl, rfl, rfl, rfl, trivial⟩

set_option maxRecDepth 100000 in
set_option maxHeartbeats 4000000 in
theorem p_mixTimes (l : Launch) (M : ME) (x : Nat) (ρ π : Int → Int) (sv : Int) (hT : TL M x ρ π sv) (hTp : Tp ρ) (h : Int) : CF l yX10_mixTimes cX10_mixTimes 7 (some .long) (rmN 8) [.ref x, .long (lI h)] M (some (.long (lI (mAl ρ 12304 (1 + 2 * ρ 12304) h)))) M := by
  obtain ⟨a, f, x0, x1, x2, x3, x4, x5⟩ := id hT
  have ba := x2.1.b
  obtain ⟨sq, m1, m2, m3, m4⟩ := id x3.1
  obtain ⟨lm, cn, ap, am, ab, al, r0, r1, r2, r3, r4, r5, r6, r7, r8, r9⟩ := id x3.2.2.2.1
  obtain ⟨gb, gg, t1, t2, t3, t4⟩ := id x3.2.2.2.2.2.2
  have ht9 := hTp.1
  refine CF.of (L0 := [some _, some _, none, none, none, none, none]) (by decide +kernel) rfl rfl (Nat.le_of_ble_eq_true rfl) rfl (fun G A Q sz hQ => ?_)
  refine V_aload_n dX10_mixTimes_0 rfl ?_
  refine V_getf fX10_10 dX10_mixTimes_1 x0 rfl ?_
  refine V_getf fX10_170 dX10_mixTimes_4 m1 rfl ?_
  refine V_getf fX10_253 dX10_mixTimes_7 r0 rfl ?_
  refine V_astore_n (L' := [some _, some _, none, some _, none, none, none]) dX10_mixTimes_10 rfl (by decide) rfl ?_
  refine V_lload_n dX10_mixTimes_11 rfl ?_
  refine V_aload_n dX10_mixTimes_12 rfl ?_
  refine V_getf fX10_257 dX10_mixTimes_13 t1 rfl ?_
  refine I_i2lc dX10_mixTimes_16 ?_
  refine V_cS (vs := [_, _]) (p_mix l M _ _) mX10_285 coX10_mix dX10_mixTimes_17 rfl rfl (by decide) (Nat.le_of_ble_eq_true rfl) (Nat.le_of_ble_eq_true rfl) (Nat.le_of_ble_eq_true rfl) (fun sz => ?_)
  refine V_lstore (L' := [some _, some _, none, some _, some _, none, none]) dX10_mixTimes_20 (by decide) rfl ?_
  refine V_iconst (v := iI (0)) dX10_mixTimes_22 rfl ?_
  refine V_istore (L' := [some _, some _, none, some _, some _, none, some _]) dX10_mixTimes_23 (by decide) rfl ?_
  have key25 : ∀ (d : Nat) (i : Int) (sz : Nat), (0 ≤ i ∧ i ≤ ρ 12304) → (ρ 12304 - i).toNat = d → V l G A (rmN 8) RX10 "mixTimes" cX10_mixTimes 7 (some .long) Q nX 0 0 M sz 25 [some (.ref x), some (.long (lI h)), none, some (.ref (a + 125 + 69)), some (.long (lI (mxN (fun k => c32 (ρ (12304 + k))) h (1 + 2 * i).toNat))), none, some (.int (iI i))] [] := by
    intro d
    induction d using Nat.strongRecOn with
    | ind d ih25 =>
      intro i  sz hi hd25
      refine V_iload dX10_mixTimes_25 rfl ?_
      refine V_aload_n dX10_mixTimes_27 rfl ?_
      refine V_getf fX10_257 dX10_mixTimes_28 t1 rfl ?_
      refine I_icmp_ge (tgt := 68) dX10_mixTimes_31 (by decide) ⟨by omega, by omega⟩ ⟨by omega, by omega⟩ (fun h31 => ?_) (fun h31 => ?_)
      · refine V_lload dX10_mixTimes_68 rfl ?_
        exact V_lret dX10_mixTimes_70 rfl (Nat.le_of_ble_eq_true rfl) (Nat.le_of_ble_eq_true rfl) (hQ _ _ _ (lvv (by rw [show i = ρ 12304 by omega]; rfl)) rfl)
      · have u0 := t4 i (by omega) (by omega)
        have b0 := hTp.2 (12305 + 2 * i) (by omega) (by omega)
        have b1 := hTp.2 (12305 + 2 * i + 1) (by omega) (by omega)
        have e1 : gb i = c32 (ρ (12305 + 2 * i)) := by rw [u0.1, c32_i (by unfold r32; omega)]
        have e2 : gg i = c32 (ρ (12305 + 2 * i + 1)) := by rw [u0.2, c32_i (by unfold r32; omega)]
        refine V_lload dX10_mixTimes_34 rfl ?_
        refine V_aload_n dX10_mixTimes_36 rfl ?_
        refine V_getf fX10_266 dX10_mixTimes_37 t1 rfl ?_
        refine V_iload dX10_mixTimes_40 rfl ?_
        refine I_lald dX10_mixTimes_42 t2 ⟨by omega, by omega⟩ (by decide) ?_
        refine V_cS (vs := [_, _]) (p_mix l M _ _) mX10_285 coX10_mix dX10_mixTimes_43 rfl rfl (by decide) (Nat.le_of_ble_eq_true rfl) (Nat.le_of_ble_eq_true rfl) (Nat.le_of_ble_eq_true rfl) (fun sz => ?_)
        refine V_lstore (L' := [some _, some _, none, some _, some _, none, some _]) dX10_mixTimes_46 (by decide) rfl ?_
        refine V_lload dX10_mixTimes_48 rfl ?_
        refine V_aload_n dX10_mixTimes_50 rfl ?_
        refine V_getf fX10_272 dX10_mixTimes_51 t1 rfl ?_
        refine V_iload dX10_mixTimes_54 rfl ?_
        refine I_lald dX10_mixTimes_56 t3 ⟨by omega, by omega⟩ (by decide) ?_
        refine V_cS (vs := [_, _]) (p_mix l M _ _) mX10_285 coX10_mix dX10_mixTimes_57 rfl rfl (by decide) (Nat.le_of_ble_eq_true rfl) (Nat.le_of_ble_eq_true rfl) (Nat.le_of_ble_eq_true rfl) (fun sz => ?_)
        refine V_lstore (L' := [some _, some _, none, some _, some _, none, some _]) dX10_mixTimes_60 (by decide) rfl ?_
        refine I_iinc (L' := [some _, some _, none, some _, some _, none, some _]) dX10_mixTimes_62 rfl (by decide) rfl ?_
        refine V_goto (tgt := 25) dX10_mixTimes_65 (by decide) ?_
        exact V_wk' (ih25 _ (by omega) (i + 1) sz ⟨by omega, by omega⟩ rfl) ⟨rfl, rfl, rfl, (vl (by rw [e1, e2, show (1 + 2 * (i + 1)).toNat = (1 + 2 * i).toNat + 1 + 1 by omega]; show mx (mx _ (c32 (ρ (12304 + ((1 + 2 * i).toNat : Int))))) (c32 (ρ (12304 + (((1 + 2 * i).toNat + 1 : Nat) : Int)))) = _; rw [show 12304 + ((1 + 2 * i).toNat : Int) = 12305 + 2 * i by omega, show 12304 + (((1 + 2 * i).toNat + 1 : Nat) : Int) = 12305 + 2 * i + 1 by omega])), rfl, trivial⟩
  exact V_wk' (key25 _ 0 sz ⟨by omega, by omega⟩ rfl) ⟨rfl, rfl, rfl, rfl, rfl, trivial⟩

set_option maxRecDepth 100000 in
set_option maxHeartbeats 4000000 in
theorem p_digest (l : Launch) (M : ME) (x : Nat) (ρ π : Int → Int) (sv : Int) (hT : TL M x ρ π sv) (hQA : QA ρ) (h3b : 0 ≤ ρ 3 ∧ ρ 3 ≤ 100000) (h1b : -1000 ≤ ρ 1 ∧ ρ 1 ≤ 1000) (hW : Wr ρ) (hAi : Ai ρ) (hTp : Tp ρ) (B : Int) (hC : CI B ρ) : CF l yX10_digest cX10_digest 3 (some .long) (rmN 9) [.ref x] M (some (.long (lI (dig ρ sv)))) M := by
  obtain ⟨a, f, x0, x1, x2, x3, x4, x5⟩ := id hT
  have ba := x2.1.b
  obtain ⟨sq, m1, m2, m3, m4⟩ := id x3.1
  refine CF.of (L0 := [some _, none, none]) (by decide +kernel) rfl rfl (Nat.le_of_ble_eq_true rfl) rfl (fun G A Q sz hQ => ?_)
  refine V_ldc2 (v := lI (12171)) dX10_digest_0 (kL (by decide +kernel) kX10_283) ?_
  refine V_lstore_n (L' := [some _, some _, none]) dX10_digest_3 rfl (by decide) rfl ?_
  refine V_lload_n dX10_digest_4 rfl ?_
  refine V_aload_n dX10_digest_5 rfl ?_
  refine V_getf fX10_20 dX10_digest_6 x0 rfl ?_
  refine I_i2lc dX10_digest_9 ?_
  refine V_cS (vs := [_, _]) (p_mix l M _ _) mX10_285 coX10_mix dX10_digest_10 rfl rfl (by decide) (Nat.le_of_ble_eq_true rfl) (Nat.le_of_ble_eq_true rfl) (Nat.le_of_ble_eq_true rfl) (fun sz => ?_)
  refine V_lstore_n (L' := [some _, some _, none]) dX10_digest_13 rfl (by decide) rfl ?_
  refine V_lload_n dX10_digest_14 rfl ?_
  refine V_aload_n dX10_digest_15 rfl ?_
  refine V_getf fX10_10 dX10_digest_16 x0 rfl ?_
  refine V_getf fX10_47 dX10_digest_19 m1 rfl ?_
  refine I_i2lc dX10_digest_22 ?_
  refine V_cS (vs := [_, _]) (p_mix l M _ _) mX10_285 coX10_mix dX10_digest_23 rfl rfl (by decide) (Nat.le_of_ble_eq_true rfl) (Nat.le_of_ble_eq_true rfl) (Nat.le_of_ble_eq_true rfl) (fun sz => ?_)
  refine V_lstore_n (L' := [some _, some _, none]) dX10_digest_26 rfl (by decide) rfl ?_
  refine V_lload_n dX10_digest_27 rfl ?_
  refine V_aload_n dX10_digest_28 rfl ?_
  refine V_getf fX10_10 dX10_digest_29 x0 rfl ?_
  refine V_getf fX10_75 dX10_digest_32 m1 rfl ?_
  refine I_i2lc dX10_digest_35 ?_
  refine V_cS (vs := [_, _]) (p_mix l M _ _) mX10_285 coX10_mix dX10_digest_36 rfl rfl (by decide) (Nat.le_of_ble_eq_true rfl) (Nat.le_of_ble_eq_true rfl) (Nat.le_of_ble_eq_true rfl) (fun sz => ?_)
  refine V_lstore_n (L' := [some _, some _, none]) dX10_digest_39 rfl (by decide) rfl ?_
  refine V_lload_n dX10_digest_40 rfl ?_
  refine V_aload_n dX10_digest_41 rfl ?_
  refine V_getf fX10_10 dX10_digest_42 x0 rfl ?_
  refine V_getf fX10_78 dX10_digest_45 m1 rfl ?_
  refine I_i2lc dX10_digest_48 ?_
  refine V_cS (vs := [_, _]) (p_mix l M _ _) mX10_285 coX10_mix dX10_digest_49 rfl rfl (by decide) (Nat.le_of_ble_eq_true rfl) (Nat.le_of_ble_eq_true rfl) (Nat.le_of_ble_eq_true rfl) (fun sz => ?_)
  refine V_lstore_n (L' := [some _, some _, none]) dX10_digest_52 rfl (by decide) rfl ?_
  refine V_lload_n dX10_digest_53 rfl ?_
  refine V_aload_n dX10_digest_54 rfl ?_
  refine V_cV (vs := []) (p_slot l M x ρ π sv hT) mX10_288 coX10_slot dX10_digest_55 x0 rfl rfl rfl (by decide) (Nat.le_of_ble_eq_true rfl) (Nat.le_of_ble_eq_true rfl) (Nat.le_of_ble_eq_true rfl) (fun sz => ?_)
  refine I_i2lc dX10_digest_58 ?_
  refine V_cS (vs := [_, _]) (p_mix l M _ _) mX10_285 coX10_mix dX10_digest_59 rfl rfl (by decide) (Nat.le_of_ble_eq_true rfl) (Nat.le_of_ble_eq_true rfl) (Nat.le_of_ble_eq_true rfl) (fun sz => ?_)
  refine V_lstore_n (L' := [some _, some _, none]) dX10_digest_62 rfl (by decide) rfl ?_
  refine V_lload_n dX10_digest_63 rfl ?_
  refine V_aload_n dX10_digest_64 rfl ?_
  refine V_cV (vs := []) (p_nextChannel l M x ρ π sv hT hQA) mX10_290 coX10_nextChannel dX10_digest_65 x0 rfl rfl rfl (by decide) (Nat.le_of_ble_eq_true rfl) (Nat.le_of_ble_eq_true rfl) (Nat.le_of_ble_eq_true rfl) (fun sz => ?_)
  refine I_i2lc dX10_digest_68 ?_
  refine V_cS (vs := [_, _]) (p_mix l M _ _) mX10_285 coX10_mix dX10_digest_69 rfl rfl (by decide) (Nat.le_of_ble_eq_true rfl) (Nat.le_of_ble_eq_true rfl) (Nat.le_of_ble_eq_true rfl) (fun sz => ?_)
  refine V_lstore_n (L' := [some _, some _, none]) dX10_digest_72 rfl (by decide) rfl ?_
  refine V_lload_n dX10_digest_73 rfl ?_
  refine V_aload_n dX10_digest_74 rfl ?_
  refine V_cV (vs := []) (p_clock l M x ρ π sv hT h3b h1b) mX10_293 coX10_clock dX10_digest_75 x0 rfl rfl rfl (by decide) (Nat.le_of_ble_eq_true rfl) (Nat.le_of_ble_eq_true rfl) (Nat.le_of_ble_eq_true rfl) (fun sz => ?_)
  refine V_cS (vs := [_, _]) (p_mix l M _ _) mX10_285 coX10_mix dX10_digest_78 rfl rfl (by decide) (Nat.le_of_ble_eq_true rfl) (Nat.le_of_ble_eq_true rfl) (Nat.le_of_ble_eq_true rfl) (fun sz => ?_)
  refine V_lstore_n (L' := [some _, some _, none]) dX10_digest_81 rfl (by decide) rfl ?_
  refine V_aload_n dX10_digest_82 rfl ?_
  refine V_lload_n dX10_digest_83 rfl ?_
  refine V_cV (vs := [_]) (p_mixChannels l M x ρ π sv hT hQA _) mX10_296 coX10_mixChannels dX10_digest_84 x0 rfl rfl rfl (by decide) (Nat.le_of_ble_eq_true rfl) (Nat.le_of_ble_eq_true rfl) (Nat.le_of_ble_eq_true rfl) (fun sz => ?_)
  refine V_lstore_n (L' := [some _, some _, none]) dX10_digest_87 rfl (by decide) rfl ?_
  refine V_aload_n dX10_digest_88 rfl ?_
  refine V_lload_n dX10_digest_89 rfl ?_
  refine V_cV (vs := [_]) (p_mixWire l M x ρ π sv hT hW _) mX10_300 coX10_mixWire dX10_digest_90 x0 rfl rfl rfl (by decide) (Nat.le_of_ble_eq_true rfl) (Nat.le_of_ble_eq_true rfl) (Nat.le_of_ble_eq_true rfl) (fun sz => ?_)
  refine V_lstore_n (L' := [some _, some _, none]) dX10_digest_93 rfl (by decide) rfl ?_
  refine V_aload_n dX10_digest_94 rfl ?_
  refine V_lload_n dX10_digest_95 rfl ?_
  refine V_cV (vs := [_]) (p_mixCounts l M x ρ π sv hT _) mX10_303 coX10_mixCounts dX10_digest_96 x0 rfl rfl rfl (by decide) (Nat.le_of_ble_eq_true rfl) (Nat.le_of_ble_eq_true rfl) (Nat.le_of_ble_eq_true rfl) (fun sz => ?_)
  refine V_lstore_n (L' := [some _, some _, none]) dX10_digest_99 rfl (by decide) rfl ?_
  refine V_aload_n dX10_digest_100 rfl ?_
  refine V_lload_n dX10_digest_101 rfl ?_
  refine V_cV (vs := [_]) (p_mixPackets l M x ρ π sv hT hAi B hC _) mX10_306 coX10_mixPackets dX10_digest_102 x0 rfl rfl rfl (by decide) (Nat.le_of_ble_eq_true rfl) (Nat.le_of_ble_eq_true rfl) (Nat.le_of_ble_eq_true rfl) (fun sz => ?_)
  refine V_lstore_n (L' := [some _, some _, none]) dX10_digest_105 rfl (by decide) rfl ?_
  refine V_aload_n dX10_digest_106 rfl ?_
  refine V_lload_n dX10_digest_107 rfl ?_
  refine V_cV (vs := [_]) (p_mixTimes l M x ρ π sv hT hTp _) mX10_309 coX10_mixTimes dX10_digest_108 x0 rfl rfl rfl (by decide) (Nat.le_of_ble_eq_true rfl) (Nat.le_of_ble_eq_true rfl) (Nat.le_of_ble_eq_true rfl) (fun sz => ?_)
  exact V_lret dX10_digest_111 rfl (Nat.le_of_ble_eq_true rfl) (Nat.le_of_ble_eq_true rfl) (hQ _ _ _ (lvv (by unfold dig dg6 dg5 dg4 dg3 dg2 dg1; rfl)) rfl)
