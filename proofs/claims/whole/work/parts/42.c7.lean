def sl (ρ : Int → Int) (b : Int) : Int → Int := fun q => ρ (b + q)
abbrev wiO (w : Nat) (s : Int) : Cel := .inl (9, [.int (iI s), .ref (w + 1)])
/-- the wire at w holds the frames of the row -/
def WR (M : ME) (w : Nat) (ρ : Int → Int) : Prop := ∃ fr : Int → Nat, M w = some (wiO w (ρ 382)) ∧ M (w + 1) = some (aR 3 60 fr) ∧ Pm (w + 2) 2 60 fr ∧ (0 ≤ ρ 382 ∧ ρ 382 ≤ 60) ∧ (∀ i, 0 ≤ i → i < 60 → ∃ φ, FO M (fr i) φ 0) ∧ ∀ i, 0 ≤ i → i < ρ 382 → FO M (fr i) (sl ρ (383 + 50 * i)) (ρ (383 + 50 * i) + 6)
theorem WR.mv {M M' : ME} {w : Nat} {ρ ρ' : Int → Int} (h : WR M w ρ) (hW : Wr ρ) (hm : ∀ q, w ≤ q → q < w + 122 → M' q = M q) (hr : ∀ q, 382 ≤ q → q < 3383 → ρ' q = ρ q) : WR M' w ρ' := by
  obtain ⟨fr, h1, h2, h3, h4, h5, h6⟩ := h
  have e := hr 382 (by omega) (by omega)
  refine ⟨fr, by rw [hm _ (by omega) (by omega), h1, e], by rw [hm _ (by omega) (by omega), h2], h3, by rw [e]; exact h4, fun i a b => ?_, fun i a b => ?_⟩
  · obtain ⟨φ, h⟩ := h5 i a b
    have := h3 i a b
    exact ⟨φ, h.mv ⟨hm _ (by omega) (by omega), hm _ (by omega) (by omega)⟩ (by omega) (fun _ _ _ => rfl)⟩
  · rw [e] at b
    have := h3 i a (by omega)
    have hl := (hW.2 i a b).1
    have e1 := hr (383 + 50 * i) (by omega) (by omega)
    refine (h6 i a b).mv ⟨hm _ (by omega) (by omega), hm _ (by omega) (by omega)⟩ (by rw [e1]; omega) (fun q c d => ?_)
    rw [e1] at d
    exact hr _ (by omega) (by omega)
def swR (f : Int → Nat) (i k : Int) : Int → Nat := upR (upR f i (f k)) k (f i)
def swi (i k q : Int) : Int := if q = k then i else if q = i then k else q
theorem swR_e {f : Int → Nat} {i k q : Int} : swR f i k q = f (swi i k q) := by
  unfold swR swi upR
  by_cases h : q = k
  · rw [if_pos h, if_pos h]
  · rw [if_neg h, if_neg h]
    by_cases h2 : q = i
    · rw [if_pos h2, if_pos h2]
    · rw [if_neg h2, if_neg h2]
theorem Pm.sw {b w : Nat} {n i k : Int} {f : Int → Nat} (h : Pm b w n f) (hi : 0 ≤ i ∧ i < n) (hk : 0 ≤ k ∧ k < n) : Pm b w n (swR f i k) := by
  have hb : ∀ q, 0 ≤ q → q < n → 0 ≤ swi i k q ∧ swi i k q < n := fun q a b => by unfold swi; omega
  intro q q0 q1
  rw [swR_e]
  have b1 := hb q q0 q1
  obtain ⟨p1, p2, p3⟩ := h _ b1.1 b1.2
  refine ⟨p1, p2, fun j j0 j1 e => ?_⟩
  rw [swR_e]
  have b2 := hb j j0 j1
  exact p3 _ b2.1 b2.2 (by unfold swi; omega)
/-- the row behind the first n frames' leaving -/
def rwf (ρ : Int → Int) (n : Int) : Int → Int := shl (50 * n) (up ρ 382 (ρ 382 - n)) 383 (383 + 50 * (ρ 382 - n))

set_option maxRecDepth 100000 in
set_option maxHeartbeats 4000000 in
theorem c9_append (l : Launch) (M : ME) (w : Nat) (s : Int) (hM : M w = some (wiO w s)) (fr : Int → Nat) (hA : M (w + 1) = some (aR 3 60 fr)) (hs : 0 ≤ s ∧ s ≤ 59) : CF l yX9_append cX9_append 2 (some (.object "TelemetryLink$Frame")) (rmN 1) [.ref w] M (some (.ref (fr s))) (mu M w (wiO w (s + 1))) := by
  refine CF.of (L0 := [some _, none]) (by decide +kernel) rfl rfl (Nat.le_of_ble_eq_true rfl) rfl (fun G A Q sz hQ => ?_)
  refine V_aload_n dX9_append_0 rfl ?_
  refine V_getf fX9_9 dX9_append_1 hM rfl ?_
  refine V_bipush (v := iI (59)) dX9_append_4 (by decide +kernel) ?_
  refine I_min ⟨by omega, by omega⟩ ⟨by omega, by omega⟩ mX9_26 dX9_append_6 (by decide) (Nat.le_of_ble_eq_true rfl) (Nat.le_of_ble_eq_true rfl) (Nat.le_of_ble_eq_true rfl) ?_
  rw [show min s 59 = s by omega]
  refine V_istore_n (L' := [some _, some _]) dX9_append_9 rfl (by decide) rfl ?_
  refine V_aload_n dX9_append_10 rfl ?_
  refine V_iload_n dX9_append_11 rfl ?_
  refine V_iconst (v := iI (1)) dX9_append_12 rfl ?_
  refine I_iadd dX9_append_13 ?_
  refine V_putf fX9_9 dX9_append_14 hM rfl rfl (by simp) ?_
  refine V_aload_n dX9_append_17 rfl ?_
  refine V_getf fX9_17 dX9_append_18 mu_eq rfl ?_
  refine V_iload_n dX9_append_21 rfl ?_
  refine I_aald ao3 dX9_append_22 ((mu_ne (by omega)).trans hA) ⟨by omega, by omega⟩ (by decide) ?_
  exact V_aret dX9_append_23 rfl (Nat.le_of_ble_eq_true rfl) (Nat.le_of_ble_eq_true rfl) (hQ _ _ _ rfl rfl)

set_option maxRecDepth 100000 in
set_option maxHeartbeats 4000000 in
theorem c9_lostFrames (l : Launch) (M : ME) (w : Nat) (ρ : Int → Int) (hW : WR M w ρ) : CF l yX9_lostFrames cX9_lostFrames 3 (some .int) (rmN 1) [.ref w] M (some (.int (iI (lsum ρ (ρ 382).toNat)))) M := by
  obtain ⟨fr, h1, h2, h3, h4, h5, h6⟩ := id hW
  refine CF.of (L0 := [some _, none, none]) (by decide +kernel) rfl rfl (Nat.le_of_ble_eq_true rfl) rfl (fun G A Q sz hQ => ?_)
  refine V_iconst (v := iI (0)) dX9_lostFrames_0 rfl ?_
  refine V_istore_n (L' := [some _, some _, none]) dX9_lostFrames_1 rfl (by decide) rfl ?_
  refine V_iconst (v := iI (0)) dX9_lostFrames_2 rfl ?_
  refine V_istore_n (L' := [some _, some _, some _]) dX9_lostFrames_3 rfl (by decide) rfl ?_
  have key4 : ∀ (d : Nat) (j : Int) (sz : Nat), (0 ≤ j ∧ j ≤ ρ 382) → (ρ 382 - j).toNat = d → V l G A (rmN 1) RX9 "lostFrames" cX9_lostFrames 3 (some .int) Q nX 0 0 M sz 4 [some (.ref w), some (.int (iI (lsum ρ j.toNat))), some (.int (iI j))] [] := by
    intro d
    induction d using Nat.strongRecOn with
    | ind d ih4 =>
      intro j  sz hj hd4
      refine V_iload_n dX9_lostFrames_4 rfl ?_
      refine V_aload_n dX9_lostFrames_5 rfl ?_
      refine V_getf fX9_9 dX9_lostFrames_6 h1 rfl ?_
      refine I_icmp_ge (tgt := 39) dX9_lostFrames_9 (by decide) ⟨by omega, by omega⟩ ⟨by omega, by omega⟩ (fun h9 => ?_) (fun h9 => ?_)
      · refine V_iload_n dX9_lostFrames_39 rfl ?_
        exact V_ireti dX9_lostFrames_40 rfl (Nat.le_of_ble_eq_true rfl) (Nat.le_of_ble_eq_true rfl) (hQ _ _ _ (iv (by rw [show j = ρ 382 by omega])) rfl)
      · refine V_iload_n dX9_lostFrames_12 rfl ?_
        refine V_bipush (v := iI (60)) dX9_lostFrames_13 (by decide +kernel) ?_
        refine I_icmp_ge_f (tgt := 39) dX9_lostFrames_15 (by decide) ⟨by omega, by omega⟩ ⟨by omega, by omega⟩ (by omega) ?_
        obtain ⟨gj, e1, e2, e3, -⟩ := h6 j (by omega) (by omega)
        have e4 : sl ρ (383 + 50 * j) 1 = ρ (383 + 50 * j + 1) := rfl
        rw [e4] at e3 e1
        refine V_aload_n dX9_lostFrames_18 rfl ?_
        refine V_getf fX9_17 dX9_lostFrames_19 h1 rfl ?_
        refine V_iload_n dX9_lostFrames_22 rfl ?_
        refine I_aald ao3 dX9_lostFrames_23 h2 ⟨by omega, by omega⟩ (by decide) ?_
        refine V_getf fX9_32 dX9_lostFrames_24 e1 rfl ?_
        refine I_if_eq (tgt := 33) dX9_lostFrames_27 (by decide) ⟨by omega, by omega⟩ (fun h27 => ?_) (fun h27 => ?_)
        · refine I_iinc (L' := [some _, some _, some _]) dX9_lostFrames_33 rfl (by decide) rfl ?_
          refine V_goto (tgt := 4) dX9_lostFrames_36 (by decide) ?_
          exact V_wk' (ih4 _ (by omega) (j + 1) sz ⟨by omega, by omega⟩ rfl) ⟨rfl, (vi (by rw [lsum_s hj.1]; omega)), rfl, trivial⟩
        · refine I_iinc (L' := [some _, some _, some _]) dX9_lostFrames_30 rfl (by decide) rfl ?_
          refine I_iinc (L' := [some _, some _, some _]) dX9_lostFrames_33 rfl (by decide) rfl ?_
          refine V_goto (tgt := 4) dX9_lostFrames_36 (by decide) ?_
          exact V_wk' (ih4 _ (by omega) (j + 1) sz ⟨by omega, by omega⟩ rfl) ⟨rfl, (vi (by rw [lsum_s hj.1]; omega)), rfl, trivial⟩
  exact V_wk' (key4 _ 0 sz ⟨by omega, by omega⟩ rfl) ⟨rfl, rfl, rfl, trivial⟩

set_option maxRecDepth 100000 in
set_option maxHeartbeats 4000000 in
theorem c9_copyFrom (l : Launch) (M : ME) (w w2 : Nat) (hd : w + 122 ≤ w2 ∨ w2 + 122 ≤ w) (ρ1 ρ : Int → Int) (hW1 : WR M w ρ1) (hW : WR M w2 ρ) (hR : Wr ρ) : CP l yX9_copyFrom cX9_copyFrom 3 none (rmN 2) [.ref w, .ref w2] M (fun v M' => v = none ∧ WR M' w ρ ∧ FR M M' w 122) := by
  obtain ⟨fr1, a1, a2, a3, a4, a5, a6⟩ := id hW1
  obtain ⟨fr, h1, h2, h3, h4, h5, h6⟩ := id hW
  refine CP.of (L0 := [some _, some _, none]) (by decide +kernel) rfl rfl (Nat.le_of_ble_eq_true rfl) rfl (fun G A Q sz hQ => ?_)
  refine V_aload_n dX9_copyFrom_0 rfl ?_
  refine V_aload_n dX9_copyFrom_1 rfl ?_
  refine V_getf fX9_9 dX9_copyFrom_2 h1 rfl ?_
  refine V_putf fX9_9 dX9_copyFrom_5 a1 rfl rfl (by simp) ?_
  refine V_iconst (v := iI (0)) dX9_copyFrom_8 rfl ?_
  refine V_istore_n (L' := [some _, some _, some _]) dX9_copyFrom_9 rfl (by decide) rfl ?_
  have key10 : ∀ (d : Nat) (j : Int) (N : ME) (sz : Nat), (0 ≤ j ∧ j ≤ ρ 382) → (N w = some (wiO w (ρ 382))) → (N (w + 1) = some (aR 3 60 fr1)) → (∀ i, 0 ≤ i → i < 60 → ∃ φ, FO N (fr1 i) φ 0) → (∀ i, 0 ≤ i → i < j → FO N (fr1 i) (sl ρ (383 + 50 * i)) (ρ (383 + 50 * i) + 6)) → (FR M N w 122) → (ρ 382 - j).toNat = d → V l G A (rmN 2) RX9 "copyFrom" cX9_copyFrom 3 none Q nX 0 0 N sz 10 [some (.ref w), some (.ref w2), some (.int (iI j))] [] := by
    intro d
    induction d using Nat.strongRecOn with
    | ind d ih10 =>
      intro j N  sz hj n1 n2 n3 n4 nF hd10
      refine V_iload_n dX9_copyFrom_10 rfl ?_
      refine V_aload_n dX9_copyFrom_11 rfl ?_
      refine V_getf fX9_9 dX9_copyFrom_12 n1 rfl ?_
      refine I_icmp_ge (tgt := 45) dX9_copyFrom_15 (by decide) ⟨by omega, by omega⟩ ⟨by omega, by omega⟩ (fun h15 => ?_) (fun h15 => ?_)
      · exact V_ret dX9_copyFrom_45 rfl (Nat.le_of_ble_eq_true rfl) (Nat.le_of_ble_eq_true rfl) (hQ _ _ _ ⟨rfl, ⟨fr1, n1, n2, a3, h4, n3, fun i a b => n4 i a (by omega)⟩, nF⟩)
      · refine V_iload_n dX9_copyFrom_18 rfl ?_
        refine V_bipush (v := iI (60)) dX9_copyFrom_19 (by decide +kernel) ?_
        refine I_icmp_ge_f (tgt := 45) dX9_copyFrom_21 (by decide) ⟨by omega, by omega⟩ ⟨by omega, by omega⟩ (by omega) ?_
        obtain ⟨φj, hfj⟩ := n3 j (by omega) (by omega)
        obtain ⟨gj, e1, e2, e3, -⟩ := id hfj
        have b1 := a3 j (by omega) (by omega)
        have b2 := h3 j (by omega) (by omega)
        have hl := (hR.2 j (by omega) (by omega)).1
        refine V_aload_n dX9_copyFrom_24 rfl ?_
        refine V_getf fX9_17 dX9_copyFrom_25 n1 rfl ?_
        refine V_iload_n dX9_copyFrom_28 rfl ?_
        refine I_aald ao3 dX9_copyFrom_29 n2 ⟨by omega, by omega⟩ (by decide) ?_
        refine V_aload_n dX9_copyFrom_30 rfl ?_
        refine V_getf fX9_17 dX9_copyFrom_31 ((nF _ (by omega)).trans h1) rfl ?_
        refine V_iload_n dX9_copyFrom_34 rfl ?_
        refine I_aald ao3 dX9_copyFrom_35 ((nF _ (by omega)).trans h2) ⟨by omega, by omega⟩ (by decide) ?_
        refine V_cVE0 (vs := [_]) (f_copyFrom l N (fr1 j) (fr j) (by omega) φj (sl ρ (383 + 50 * j)) 0 (ρ (383 + 50 * j) + 6) hfj ((h6 j (by omega) (by omega)).mv ⟨nF _ (by omega), nF _ (by omega)⟩ (by omega) (fun _ _ _ => rfl)) (by omega)) mX9_22 coX2_copyFrom dX9_copyFrom_36 e1 rfl rfl rfl (by decide) (Nat.le_of_ble_eq_true rfl) (Nat.le_of_ble_eq_true rfl) (Nat.le_of_ble_eq_true rfl) (fun N1 sz hp => ?_)
        obtain ⟨hO1, hF1⟩ := hp
        have hT1 : ∀ i, 0 ≤ i → i < 60 → ∃ φ, FO N1 (fr1 i) φ 0 := fun i a b => by
          by_cases e : i = j
          · rw [e]; exact ⟨_, hO1.mv ⟨rfl, rfl⟩ (by omega) (fun _ _ _ => rfl)⟩
          · obtain ⟨φ, h⟩ := n3 i a b
            have b3 := (a3 i a b).2.2 j (by omega) (by omega) e
            exact ⟨φ, h.mv ⟨hF1 _ (by omega), hF1 _ (by omega)⟩ (by omega) (fun _ _ _ => rfl)⟩
        have hT2 : ∀ i, 0 ≤ i → i < j + 1 → FO N1 (fr1 i) (sl ρ (383 + 50 * i)) (ρ (383 + 50 * i) + 6) := fun i a b => by
          by_cases e : i = j
          · rw [e]; exact hO1
          · have b3 := (a3 i a (by omega)).2.2 j (by omega) (by omega) e
            exact (n4 i a (by omega)).mv ⟨hF1 _ (by omega), hF1 _ (by omega)⟩ (by omega) (fun _ _ _ => rfl)
        refine I_iinc (L' := [some _, some _, some _]) dX9_copyFrom_39 rfl (by decide) rfl ?_
        refine V_goto (tgt := 10) dX9_copyFrom_42 (by decide) ?_
        exact V_wk' (ih10 _ (by omega) (j + 1) _ sz ⟨by omega, by omega⟩ ((hF1 _ (by omega)).trans n1) ((hF1 _ (by omega)).trans n2) hT1 hT2 (nF.tr (hF1.up (by omega))) rfl) ⟨rfl, rfl, rfl, trivial⟩
  have hI1 : ∀ i, 0 ≤ i → i < 60 → ∃ φ, FO (mu M w (wiO w (ρ 382))) (fr1 i) φ 0 := fun i a b => by
    obtain ⟨φ, h⟩ := a5 i a b
    have b1 := a3 i a b
    exact ⟨φ, h.mv ⟨mu_ne (by omega), mu_ne (by omega)⟩ (by omega) (fun _ _ _ => rfl)⟩
  exact V_wk' (key10 _ 0 _ sz ⟨by omega, by omega⟩ mu_eq ((mu_ne (by omega)).trans a2) hI1 (fun i a b => by omega) (FR.rf.mu (by omega)) rfl) ⟨rfl, rfl, rfl, trivial⟩

set_option maxRecDepth 100000 in
set_option maxHeartbeats 4000000 in
theorem c9_removeFirst (l : Launch) (M : ME) (w : Nat) (ρ : Int → Int) (hW : WR M w ρ) (n : Int) (hn : 1 ≤ n ∧ n ≤ ρ 382) (hR : Wr ρ) : CP l yX9_removeFirst cX9_removeFirst 4 none (rmN 1) [.ref w, .int (iI n)] M (fun v M' => v = none ∧ WR M' w (rwf ρ n) ∧ FR M M' w 2) := by
  obtain ⟨fr, h1, h2, h3, h4, h5, h6⟩ := id hW
  refine CP.of (L0 := [some _, some _, none, none]) (by decide +kernel) rfl rfl (Nat.le_of_ble_eq_true rfl) rfl (fun G A Q sz hQ => ?_)
  refine V_iconst (v := iI (0)) dX9_removeFirst_0 rfl ?_
  refine V_istore_n (L' := [some _, some _, some _, none]) dX9_removeFirst_1 rfl (by decide) rfl ?_
  have key2 : ∀ (d : Nat) (j : Int) (h : Int → Nat) (sz : Nat), (0 ≤ j ∧ j ≤ ρ 382 - n) → (Pm (w + 2) 2 60 h) → (∀ i, 0 ≤ i → i < 60 → ∃ φ, FO M (h i) φ 0) → (∀ i, 0 ≤ i → i < j → h i = fr (i + n)) → (∀ i, j + n ≤ i → i < 60 → h i = fr i) → (ρ 382 - n - j).toNat = d → V l G A (rmN 1) RX9 "removeFirst" cX9_removeFirst 4 none Q nX 0 0 (mu M (w + 1) (aR 3 60 h)) sz 2 [some (.ref w), some (.int (iI n)), some (.int (iI j)), none] [] := by
    intro d
    induction d using Nat.strongRecOn with
    | ind d ih2 =>
      intro j h  sz hj n1 n2 n3 n4 hd2
      refine V_iload_n dX9_removeFirst_2 rfl ?_
      refine V_iload_n dX9_removeFirst_3 rfl ?_
      refine I_iadd dX9_removeFirst_4 ?_
      refine V_aload_n dX9_removeFirst_5 rfl ?_
      refine V_getf fX9_9 dX9_removeFirst_6 ((mu_ne (by omega)).trans h1) rfl ?_
      refine I_icmp_ge (tgt := 56) dX9_removeFirst_9 (by decide) ⟨by omega, by omega⟩ ⟨by omega, by omega⟩ (fun h9 => ?_) (fun h9 => ?_)
      · have hZ : rwf ρ n 382 = max 0 (ρ 382 - n) := by unfold rwf; rw [shl_o (by omega), up_s]; omega
        have hU : ∀ i, 0 ≤ i → i < 60 → ∃ φ, FO (mu (mu M (w + 1) (aR 3 60 h)) w (.inl (9, [.int (iI (ρ 382)), .ref (w + 1)].set 0 (.int (iI (max 0 (ρ 382 - n))))))) (h i) φ 0 := fun i a b => by
          obtain ⟨φ, hh⟩ := n2 i a b
          have b3 := n1 i a b
          exact ⟨φ, hh.mv ⟨(mu_ne (by omega)).trans (mu_ne (by omega)), (mu_ne (by omega)).trans (mu_ne (by omega))⟩ (by omega) (fun _ _ _ => rfl)⟩
        have hV : ∀ i, 0 ≤ i → i < rwf ρ n 382 → FO (mu (mu M (w + 1) (aR 3 60 h)) w (.inl (9, [.int (iI (ρ 382)), .ref (w + 1)].set 0 (.int (iI (max 0 (ρ 382 - n))))))) (h i) (sl (rwf ρ n) (383 + 50 * i)) (rwf ρ n (383 + 50 * i) + 6) := fun i a b => by
          rw [hZ] at b
          have b3 := n1 i a (by omega)
          have b4 := h6 (i + n) (by omega) (by omega)
          have hl := (hR.2 (i + n) (by omega) (by omega)).1
          have eq : ∀ q, 0 ≤ q → q < 50 → rwf ρ n (383 + 50 * i + q) = ρ (383 + 50 * (i + n) + q) := fun q c d => by
            unfold rwf; rw [shl_i (by omega), up_n (by omega)]; congr 1; omega
          have e0 : rwf ρ n (383 + 50 * i) = ρ (383 + 50 * (i + n)) := by have := eq 0 (by omega) (by omega); rwa [Int.add_zero, Int.add_zero] at this
          rw [n3 i a (by omega)] at b3 ⊢
          rw [e0]
          exact b4.mv ⟨(mu_ne (by omega)).trans (mu_ne (by omega)), (mu_ne (by omega)).trans (mu_ne (by omega))⟩ (by omega) (fun q c d => eq q c (by omega))
        refine V_aload_n dX9_removeFirst_56 rfl ?_
        refine V_iconst (v := iI (0)) dX9_removeFirst_57 rfl ?_
        refine V_aload_n dX9_removeFirst_58 rfl ?_
        refine V_getf fX9_9 dX9_removeFirst_59 ((mu_ne (by omega)).trans h1) rfl ?_
        refine V_iload_n dX9_removeFirst_62 rfl ?_
        refine I_isub dX9_removeFirst_63 ?_
        refine I_max ⟨by omega, by omega⟩ ⟨by omega, by omega⟩ mX9_36 dX9_removeFirst_64 (by decide) (Nat.le_of_ble_eq_true rfl) (Nat.le_of_ble_eq_true rfl) (Nat.le_of_ble_eq_true rfl) ?_
        refine V_putf fX9_9 dX9_removeFirst_67 ((mu_ne (by omega)).trans h1) rfl rfl (by simp) ?_
        exact V_ret dX9_removeFirst_70 rfl (Nat.le_of_ble_eq_true rfl) (Nat.le_of_ble_eq_true rfl) (hQ _ _ _ ⟨rfl, ⟨h, by rw [mu_eq, hZ]; rfl, (mu_ne (by omega)).trans mu_eq, n1, by rw [hZ]; omega, hU, hV⟩, (FR.rf.mu (by omega)).mu (by omega)⟩)
      · refine V_iload_n dX9_removeFirst_12 rfl ?_
        refine V_iload_n dX9_removeFirst_13 rfl ?_
        refine I_iadd dX9_removeFirst_14 ?_
        refine V_bipush (v := iI (60)) dX9_removeFirst_15 (by decide +kernel) ?_
        refine I_icmp_ge_f (tgt := 56) dX9_removeFirst_17 (by decide) ⟨by omega, by omega⟩ ⟨by omega, by omega⟩ (by omega) ?_
        obtain ⟨φj, gj, e1, -⟩ := n2 j (by omega) (by omega)
        obtain ⟨φn, gn, d1, -⟩ := n2 (j + n) (by omega) (by omega)
        have b1 := n1 j (by omega) (by omega)
        have b2 := n1 (j + n) (by omega) (by omega)
        refine V_aload_n dX9_removeFirst_20 rfl ?_
        refine V_getf fX9_17 dX9_removeFirst_21 ((mu_ne (by omega)).trans h1) rfl ?_
        refine V_iload_n dX9_removeFirst_24 rfl ?_
        refine I_aald ao3 dX9_removeFirst_25 mu_eq ⟨by omega, by omega⟩ (by decide) ?_
        refine V_astore_n (L' := [some _, some _, some _, some _]) dX9_removeFirst_26 rfl (by decide) rfl ?_
        refine V_aload_n dX9_removeFirst_27 rfl ?_
        refine V_getf fX9_17 dX9_removeFirst_28 ((mu_ne (by omega)).trans h1) rfl ?_
        refine V_iload_n dX9_removeFirst_31 rfl ?_
        refine V_aload_n dX9_removeFirst_32 rfl ?_
        refine V_getf fX9_17 dX9_removeFirst_33 ((mu_ne (by omega)).trans h1) rfl ?_
        refine V_iload_n dX9_removeFirst_36 rfl ?_
        refine V_iload_n dX9_removeFirst_37 rfl ?_
        refine I_iadd dX9_removeFirst_38 ?_
        refine I_aald ao3 dX9_removeFirst_39 mu_eq ⟨by omega, by omega⟩ (by decide) ?_
        refine I_aast ao3 dX9_removeFirst_40 mu_eq ((mu_ne (by omega)).trans d1) ⟨by omega, by omega⟩ (by decide) ?_
        refine V_aload_n dX9_removeFirst_41 rfl ?_
        refine V_getf fX9_17 dX9_removeFirst_42 ((mu_ne (by omega)).trans ((mu_ne (by omega)).trans h1)) rfl ?_
        refine V_iload_n dX9_removeFirst_45 rfl ?_
        refine V_iload_n dX9_removeFirst_46 rfl ?_
        refine I_iadd dX9_removeFirst_47 ?_
        refine V_aload_n dX9_removeFirst_48 rfl ?_
        refine I_aast ao3 dX9_removeFirst_49 mu_eq ((mu_ne (by omega)).trans ((mu_ne (by omega)).trans e1)) ⟨by omega, by omega⟩ (by decide) ?_
        have hT1 : ∀ i, 0 ≤ i → i < j + 1 → swR h j (j + n) i = fr (i + n) := fun i a b => by
          rw [swR_e]
          by_cases e : i = j
          · rw [e, show swi j (j + n) j = j + n by unfold swi; omega]; exact n4 _ (by omega) (by omega)
          · rw [show swi j (j + n) i = i by unfold swi; omega]; exact n3 i a (by omega)
        have hT2 : ∀ i, j + 1 + n ≤ i → i < 60 → swR h j (j + n) i = fr i := fun i a b => by
          rw [swR_e, show swi j (j + n) i = i by unfold swi; omega]; exact n4 i (by omega) b
        refine I_iinc (L' := [some _, some _, some _, some _]) dX9_removeFirst_50 rfl (by decide) rfl ?_
        refine V_goto (tgt := 2) dX9_removeFirst_53 (by decide) ?_
        exact V_eqM (by rw [mu_mu, mu_mu]; rfl) (V_wk' (ih2 _ (by omega) (j + 1) (swR h j (j + n)) sz ⟨by omega, by omega⟩ (n1.sw (by omega) (by omega)) (fun i a b => by rw [swR_e]; exact n2 _ (by unfold swi; omega) (by unfold swi; omega)) hT1 hT2 rfl) ⟨rfl, rfl, rfl, trivial⟩)
  exact V_eqM (mu_self h2).symm (V_wk' (key2 _ 0 fr sz ⟨by omega, by omega⟩ h3 h5 (fun i a b => by omega) (fun i a b => rfl) rfl) ⟨rfl, rfl, rfl, trivial⟩)
