abbrev rkO (k : Nat) (a b c d e : Int) : Cel := .inl (4, [.int (iI a), .int (iI b), .int (iI c), .int (iI d), .int (iI e), .ref (k + 1)])
/-- a receiving channel at k holds what the row says of channel c -/
def RK (M : ME) (k : Nat) (ρ : Int → Int) (c : Int) : Prop := ∃ (lc : Int) (g : Int → Int), M k = some (rkO k (ρ (3395 + c)) (ρ (3399 + c)) lc (ρ (3403 + c)) (ρ (3407 + c))) ∧ M (k + 1) = some (aI 258 g) ∧ (¬ ρ (3390 + c) = -1 → lc = ρ (3390 + c)) ∧ (0 ≤ ρ (3403 + c) ∧ ρ (3403 + c) ≤ 1) ∧ ∀ q, 0 ≤ q → q < ρ (3407 + c) → g q = ρ (3411 + 258 * c + q)
theorem RK.mv {M M' : ME} {k : Nat} {ρ ρ' : Int → Int} {c : Int} (h : RK M k ρ c) (hb : ρ (3407 + c) ≤ 258) (hm : M' k = M k ∧ M' (k + 1) = M (k + 1)) (hr : ∀ q, q = 3390 + c ∨ q = 3395 + c ∨ q = 3399 + c ∨ q = 3403 + c ∨ q = 3407 + c ∨ (3411 + 258 * c ≤ q ∧ q < 3411 + 258 * c + 258) → ρ' q = ρ q) : RK M' k ρ' c := by
  obtain ⟨lc, g, h1, h2, h3, h4, h5⟩ := h
  refine ⟨lc, g, by rw [hm.1, h1, hr (3395 + c) (by omega), hr (3399 + c) (by omega), hr (3403 + c) (by omega), hr (3407 + c) (by omega)], by rw [hm.2, h2], by rw [hr (3390 + c) (by omega)]; exact h3, by rw [hr (3403 + c) (by omega)]; exact h4, fun q a b => ?_⟩
  rw [hr (3407 + c) (by omega)] at b
  rw [hr _ (by omega)]
  exact h5 q a b
/-- a delivered packet at d; the first n bytes of its data are those of φ -/
abbrev dpO (d : Nat) (a b c e : Int) : Cel := .inl (1, [.int (iI a), .int (iI b), .int (iI c), .int (iI e), .ref (d + 1)])
def DR (M : ME) (d : Nat) (φ : Int → Int) (n : Int) : Prop := ∃ g : Int → Int, M d = some (dpO d (φ 0) (φ 1) (φ 2) (φ 3)) ∧ M (d + 1) = some (aI 255 g) ∧ ∀ q, 0 ≤ q → q < n → g q = φ (5 + q)
theorem DR.mv {M M' : ME} {d : Nat} {φ φ' : Int → Int} {n n' : Int} (h : DR M d φ n) (hm : M' d = M d ∧ M' (d + 1) = M (d + 1)) (hn : n' ≤ n) (hr : ∀ q, 0 ≤ q → (q < 4 ∨ (5 ≤ q ∧ q < 5 + n')) → φ' q = φ q) : DR M' d φ' n' := by
  obtain ⟨g, h1, h2, h3⟩ := h
  refine ⟨g, by rw [hm.1, h1, hr 0 (by omega) (by omega), hr 1 (by omega) (by omega), hr 2 (by omega) (by omega), hr 3 (by omega) (by omega)], by rw [hm.2, h2], fun k a b => by rw [hr _ (by omega) (by omega)]; exact h3 k a (by omega)⟩
abbrev dlO (d : Nat) (s : Int) : Cel := .inl (0, [.int (iI s), .ref (d + 1)])
def DL (M : ME) (d : Nat) (ρ : Int → Int) : Prop := ∃ kp : Int → Nat, M d = some (dlO d (ρ 4503)) ∧ M (d + 1) = some (aR 2 30 kp) ∧ Pm (d + 2) 2 30 kp ∧ (0 ≤ ρ 4503 ∧ ρ 4503 ≤ 30) ∧ (∀ i, 0 ≤ i → i < 30 → ∃ φ, DR M (kp i) φ 0) ∧ ∀ i, 0 ≤ i → i < ρ 4503 → DR M (kp i) (sl ρ (4504 + 260 * i)) (ρ (4504 + 260 * i + 3))
theorem DL.mv {M M' : ME} {d : Nat} {ρ ρ' : Int → Int} (h : DL M d ρ) (hA : Ai ρ) (hm : ∀ q, d ≤ q → q < d + 62 → M' q = M q) (hr : ∀ q, 4503 ≤ q → q < 12304 → ρ' q = ρ q) : DL M' d ρ' := by
  obtain ⟨kp, h1, h2, h3, h4, h5, h6⟩ := h
  have e := hr 4503 (by omega) (by omega)
  refine ⟨kp, by rw [hm _ (by omega) (by omega), h1, e], by rw [hm _ (by omega) (by omega), h2], h3, by rw [e]; exact h4, fun i a b => ?_, fun i a b => ?_⟩
  · obtain ⟨φ, h⟩ := h5 i a b
    have := h3 i a b
    exact ⟨φ, h.mv ⟨hm _ (by omega) (by omega), hm _ (by omega) (by omega)⟩ (by omega) (fun _ _ _ => rfl)⟩
  · rw [e] at b
    have := h3 i a (by omega)
    have hl := hA.2.2 i a b
    have e1 := hr (4504 + 260 * i + 3) (by omega) (by omega)
    refine (h6 i a b).mv ⟨hm _ (by omega) (by omega), hm _ (by omega) (by omega)⟩ (by rw [e1]; omega) (fun q c z => ?_)
    rw [e1] at z
    exact hr _ (by omega) (by omega)
abbrev tpO (t : Nat) (s : Int) : Cel := .inl (8, [.int (iI s), .ref (t + 1), .ref (t + 2)])
/-- the time pairs -/
def TR (M : ME) (t : Nat) (ρ : Int → Int) : Prop := ∃ gb gg : Int → Int, M t = some (tpO t (ρ 12304)) ∧ M (t + 1) = some (aL 2 gb) ∧ M (t + 2) = some (aL 2 gg) ∧ ∀ i, 0 ≤ i → i < ρ 12304 → gb i = ρ (12305 + 2 * i) ∧ gg i = ρ (12305 + 2 * i + 1)
theorem TR.mv {M M' : ME} {t : Nat} {ρ ρ' : Int → Int} (h : TR M t ρ) (hT : ρ 12304 ≤ 2) (hm : ∀ q, t ≤ q → q < t + 3 → M' q = M q) (hr : ∀ q, 12304 ≤ q → q < 12309 → ρ' q = ρ q) : TR M' t ρ' := by
  obtain ⟨gb, gg, h1, h2, h3, h4⟩ := h
  have e := hr 12304 (by omega) (by omega)
  refine ⟨gb, gg, by rw [hm _ (by omega) (by omega), h1, e], by rw [hm _ (by omega) (by omega), h2], by rw [hm _ (by omega) (by omega), h3], fun i a b => ?_⟩
  rw [e] at b
  rw [hr _ (by omega) (by omega), hr _ (by omega) (by omega)]
  exact h4 i a b
def dsum (g : Int → Int) : Nat → Int
  | 0 => 0
  | n + 1 => dsum g n + g n
theorem dsum_s {g : Int → Int} {i : Int} (h : 0 ≤ i) : dsum g (i + 1).toNat = dsum g i.toNat + g i := by
  rw [show (i + 1).toNat = i.toNat + 1 by omega]
  show dsum g i.toNat + g (i.toNat : Int) = _
  rw [Int.toNat_of_nonneg h]
theorem dsum_cg {g g' : Int → Int} : ∀ n : Nat, (∀ k : Int, 0 ≤ k → k < n → g k = g' k) → dsum g n = dsum g' n
  | 0, _ => rfl
  | n + 1, h => by
    show dsum g n + g n = dsum g' n + g' n
    rw [dsum_cg n (fun k h0 hk => h k h0 (by omega)), h n (by omega) (by omega)]

/-- the gap that a receiving channel counts -/
def kgap (a c x : Int) : Int := if 0 < a then (x - c - 1) % 256 else 1

set_option maxRecDepth 100000 in
set_option maxHeartbeats 4000000 in
theorem k_countFrame (l : Launch) (M : ME) (k : Nat) (a b c d e : Int) (hM : M k = some (rkO k a b c d e)) (ha : r32 a) (he : r32 e) (x : Int) : CF l yX4_countFrame cX4_countFrame 4 (some .boolean) (rmN 1) [.ref k, .int (iI x)] M (some (.int (iI (if ¬ kgap a c x = 0 ∧ 0 < e then 1 else 0)))) (mu M k (rkO k (a + 1) (if 0 < a then b + kgap a c x else b) x (if kgap a c x = 0 then d else 0) (if kgap a c x = 0 then e else 0))) := by
  have hkg : 0 ≤ kgap a c x ∧ kgap a c x ≤ 255 := by unfold kgap; split <;> omega
  have hka : 0 < a → kgap a c x = (x - c - 1) % 256 := fun z => if_pos z
  have hkb : ¬ 0 < a → kgap a c x = 1 := fun z => if_neg z
  refine CF.of (L0 := [some _, some _, none, none]) (by decide +kernel) rfl rfl (Nat.le_of_ble_eq_true rfl) rfl (fun G A Q sz hQ => ?_)
  refine V_iconst (v := iI (1)) dX4_countFrame_0 rfl ?_
  refine V_istore_n (L' := [some _, some _, some _, none]) dX4_countFrame_1 rfl (by decide) rfl ?_
  refine V_join (J := 32) (M' := (mu M k (rkO k a (if 0 < a then b + kgap a c x else b) c d e))) (L' := [some (.ref k), some (.int (iI x)), some (.int (iI (kgap a c x))), none]) (fun sz => ?_) (fun j32 => ?_)
  · refine V_aload_n dX4_countFrame_32 rfl ?_
    refine V_dup dX4_countFrame_33 rfl ?_
    refine V_getf fX4_9 dX4_countFrame_34 mu_eq rfl ?_
    refine V_iconst (v := iI (1)) dX4_countFrame_37 rfl ?_
    refine I_iadd dX4_countFrame_38 ?_
    refine V_putf fX4_9 dX4_countFrame_39 mu_eq rfl rfl (by simp) ?_
    refine V_aload_n dX4_countFrame_42 rfl ?_
    refine V_iload_n dX4_countFrame_43 rfl ?_
    refine V_putf fX4_18 dX4_countFrame_44 mu_eq rfl rfl (by simp) ?_
    refine V_iload_n dX4_countFrame_47 rfl ?_
    refine I_if_ne (tgt := 53) dX4_countFrame_48 (by decide) ⟨by omega, by omega⟩ (fun h48 => ?_) (fun h48 => ?_)
    · refine V_tern (J := 65) (v := .int (iI (if 0 < e then 1 else 0))) (fun sz => ?_) (fun j65 => ?_)
      · refine V_istore_n (L' := [some _, some _, some _, some _]) dX4_countFrame_65 rfl (by decide) rfl ?_
        refine V_aload_n dX4_countFrame_66 rfl ?_
        refine V_iconst (v := iI (0)) dX4_countFrame_67 rfl ?_
        refine V_putf fX4_25 dX4_countFrame_68 mu_eq rfl rfl (by simp) ?_
        refine V_aload_n dX4_countFrame_71 rfl ?_
        refine V_iconst (v := iI (0)) dX4_countFrame_72 rfl ?_
        refine V_putf fX4_21 dX4_countFrame_73 mu_eq rfl rfl (by simp) ?_
        refine V_iload_n dX4_countFrame_76 rfl ?_
        exact V_zret dX4_countFrame_77 rfl (by split <;> rfl) (Nat.le_of_ble_eq_true rfl) (Nat.le_of_ble_eq_true rfl) (hQ _ _ _ (iv (by by_cases z : 0 < e <;> simp [z, h48])) (by rw [if_neg (show ¬ kgap a c x = 0 by omega), if_neg (show ¬ kgap a c x = 0 by omega)]; simp only [mu_mu]; rfl))
      · refine V_aload_n dX4_countFrame_53 rfl ?_
        refine V_getf fX4_25 dX4_countFrame_54 mu_eq rfl ?_
        refine I_if_le (tgt := 64) dX4_countFrame_57 (by decide) he (fun h57 => ?_) (fun h57 => ?_)
        · refine V_iconst (v := iI (0)) dX4_countFrame_64 rfl ?_
          exact V_top (vi (by first | rw [if_pos (by omega)] | rw [if_neg (by omega)])) (j65 _)
        · refine V_iconst (v := iI (1)) dX4_countFrame_60 rfl ?_
          refine V_goto (tgt := 65) dX4_countFrame_61 (by decide) ?_
          exact V_top (vi (by first | rw [if_pos (by omega)] | rw [if_neg (by omega)])) (j65 _)
    · refine V_iconst (v := iI (0)) dX4_countFrame_51 rfl ?_
      exact V_zret dX4_countFrame_52 rfl (by first | rfl | decide) (Nat.le_of_ble_eq_true rfl) (Nat.le_of_ble_eq_true rfl) (hQ _ _ _ (iv (if_neg (by omega)).symm) (by rw [if_pos (show kgap a c x = 0 by omega), if_pos (show kgap a c x = 0 by omega)]; simp only [mu_mu]; rfl))
  · refine V_aload_n dX4_countFrame_2 rfl ?_
    refine V_getf fX4_9 dX4_countFrame_3 hM rfl ?_
    refine I_if_le (tgt := 32) dX4_countFrame_6 (by decide) ha (fun h6 => ?_) (fun h6 => ?_)
    · exact V_eqM (by first | (rw [if_pos (by omega), hka (by omega)]; rfl) | (rw [if_neg (by omega), mu_self hM])) (V_wk' (j32 _) ⟨rfl, rfl, (vi (by first | exact hka (by omega) | exact hkb (by omega))), trivial⟩)
    · refine V_iload_n dX4_countFrame_9 rfl ?_
      refine V_aload_n dX4_countFrame_10 rfl ?_
      refine V_getf fX4_18 dX4_countFrame_11 hM rfl ?_
      refine I_isub dX4_countFrame_14 ?_
      refine V_iconst (v := iI (1)) dX4_countFrame_15 rfl ?_
      refine I_isub dX4_countFrame_16 ?_
      refine V_sipush (v := iI (255)) dX4_countFrame_17 (by decide +kernel) ?_
      first | refine I_and255 dX4_countFrame_20 ?_ | refine I_and65535 dX4_countFrame_20 ?_ | refine I_and31 dX4_countFrame_20 ?_
      refine V_istore_n (L' := [some _, some _, some _, none]) dX4_countFrame_21 rfl (by decide) rfl ?_
      refine V_aload_n dX4_countFrame_22 rfl ?_
      refine V_dup dX4_countFrame_23 rfl ?_
      refine V_getf fX4_15 dX4_countFrame_24 hM rfl ?_
      refine V_iload_n dX4_countFrame_27 rfl ?_
      refine I_iadd dX4_countFrame_28 ?_
      refine V_putf fX4_15 dX4_countFrame_29 hM rfl rfl (by simp) ?_
      exact V_eqM (by first | (rw [if_pos (by omega), hka (by omega)]; rfl) | (rw [if_neg (by omega), mu_self hM])) (V_wk' (j32 _) ⟨rfl, rfl, (vi (by first | exact hka (by omega) | exact hkb (by omega))), trivial⟩)

set_option maxRecDepth 100000 in
set_option maxHeartbeats 4000000 in
theorem k_append (l : Launch) (M : ME) (k : Nat) (a b c d e : Int) (hM : M k = some (rkO k a b c d e)) (g : Int → Int) (hA : M (k + 1) = some (aI 258 g)) (he : 0 ≤ e ∧ e ≤ 257) (x : Int) : CF l yX4_append cX4_append 2 none (rmN 1) [.ref k, .int (iI x)] M none (mu (mu M (k + 1) (aI 258 (up g e x))) k (rkO k a b c d (e + 1))) := by
  refine CF.of (L0 := [some _, some _]) (by decide +kernel) rfl rfl (Nat.le_of_ble_eq_true rfl) rfl (fun G A Q sz hQ => ?_)
  refine V_aload_n dX4_append_0 rfl ?_
  refine V_getf fX4_25 dX4_append_1 hM rfl ?_
  refine I_if_lt_f (tgt := 37) dX4_append_4 (by decide) ⟨by omega, by omega⟩ (by omega) ?_
  refine V_aload_n dX4_append_7 rfl ?_
  refine V_getf fX4_25 dX4_append_8 hM rfl ?_
  refine V_sipush (v := iI (258)) dX4_append_11 (by decide +kernel) ?_
  refine I_icmp_ge_f (tgt := 37) dX4_append_14 (by decide) ⟨by omega, by omega⟩ ⟨by omega, by omega⟩ (by omega) ?_
  refine V_aload_n dX4_append_17 rfl ?_
  refine V_getf fX4_28 dX4_append_18 hM rfl ?_
  refine V_aload_n dX4_append_21 rfl ?_
  refine V_getf fX4_25 dX4_append_22 hM rfl ?_
  refine V_iload_n dX4_append_25 rfl ?_
  refine I_iast dX4_append_26 hA ⟨by omega, by omega⟩ (by decide) ?_
  refine V_aload_n dX4_append_27 rfl ?_
  refine V_dup dX4_append_28 rfl ?_
  refine V_getf fX4_25 dX4_append_29 ((mu_ne (by omega)).trans hM) rfl ?_
  refine V_iconst (v := iI (1)) dX4_append_32 rfl ?_
  refine I_iadd dX4_append_33 ?_
  refine V_putf fX4_25 dX4_append_34 ((mu_ne (by omega)).trans hM) rfl rfl (by simp) ?_
  exact V_ret dX4_append_37 rfl (Nat.le_of_ble_eq_true rfl) (Nat.le_of_ble_eq_true rfl) (hQ _ _ _ rfl rfl)

set_option maxRecDepth 100000 in
set_option maxHeartbeats 4000000 in
theorem k_isComplete (l : Launch) (M : ME) (k : Nat) (a b c d e : Int) (hM : M k = some (rkO k a b c d e)) (g : Int → Int) (hA : M (k + 1) = some (aI 258 g)) (he : 0 ≤ e ∧ e ≤ 258) (hg : 3 ≤ e → r32 (3 + g 2)) : CF l yX4_isComplete cX4_isComplete 1 (some .boolean) (rmN 1) [.ref k] M (some (.int (iI (if 3 ≤ e ∧ 3 + g 2 ≤ e then 1 else 0)))) M := by
  refine CF.of (L0 := [some _]) (by decide +kernel) rfl rfl (Nat.le_of_ble_eq_true rfl) rfl (fun G A Q sz hQ => ?_)
  refine V_tern (J := 28) (v := .int (iI (if 3 ≤ e ∧ 3 + g 2 ≤ e then 1 else 0))) (fun sz => ?_) (fun j28 => ?_)
  · exact V_zret dX4_isComplete_28 rfl (by split <;> rfl) (Nat.le_of_ble_eq_true rfl) (Nat.le_of_ble_eq_true rfl) (hQ _ _ _ rfl rfl)
  · refine V_aload_n dX4_isComplete_0 rfl ?_
    refine V_getf fX4_25 dX4_isComplete_1 hM rfl ?_
    refine V_iconst (v := iI (3)) dX4_isComplete_4 rfl ?_
    refine I_icmp_lt (tgt := 27) dX4_isComplete_5 (by decide) ⟨by omega, by omega⟩ ⟨by omega, by omega⟩ (fun h5 => ?_) (fun h5 => ?_)
    · refine V_iconst (v := iI (0)) dX4_isComplete_27 rfl ?_
      exact V_top (vi (by first | rw [if_pos (by omega)] | rw [if_neg (by omega)])) (j28 _)
    · refine V_aload_n dX4_isComplete_8 rfl ?_
      refine V_getf fX4_25 dX4_isComplete_9 hM rfl ?_
      refine V_iconst (v := iI (3)) dX4_isComplete_12 rfl ?_
      refine V_aload_n dX4_isComplete_13 rfl ?_
      refine V_getf fX4_28 dX4_isComplete_14 hM rfl ?_
      refine V_iconst (v := iI (2)) dX4_isComplete_17 rfl ?_
      refine I_iald dX4_isComplete_18 hA ⟨by omega, by omega⟩ (by decide) ?_
      refine I_iadd dX4_isComplete_19 ?_
      refine I_icmp_lt (tgt := 27) dX4_isComplete_20 (by decide) ⟨by omega, by omega⟩ (hg (by omega)) (fun h20 => ?_) (fun h20 => ?_)
      · refine V_iconst (v := iI (0)) dX4_isComplete_27 rfl ?_
        exact V_top (vi (by first | rw [if_pos (by omega)] | rw [if_neg (by omega)])) (j28 _)
      · refine V_iconst (v := iI (1)) dX4_isComplete_23 rfl ?_
        refine V_goto (tgt := 28) dX4_isComplete_24 (by decide) ?_
        exact V_top (vi (by first | rw [if_pos (by omega)] | rw [if_neg (by omega)])) (j28 _)

set_option maxRecDepth 100000 in
set_option maxHeartbeats 4000000 in
theorem k_firstPlace (l : Launch) (M : ME) (k : Nat) (a b c d e : Int) (hM : M k = some (rkO k a b c d e)) (hd : 0 ≤ d ∧ d ≤ 1) (f : Nat) (D x1 x2 x3 : Int) (hf : M f = some (frO f D x1 x2 x3)) (g : Int → Int) (hf1 : M (f + 1) = some (aI 46 g)) (hne : f ≠ k) (hg : 0 ≤ g 3 ∧ g 3 ≤ 255) (hD : 0 ≤ D ∧ D ≤ 40) : CF l yX4_firstPlace cX4_firstPlace 3 (some .int) (rmN 2) [.ref k, .ref f] M (some (.int (iI (if d = 0 then min (g 3) D else 0)))) (mu M k (rkO k a b c (if d = 0 then (if g 3 = 255 then 0 else 1) else d) e)) := by
  refine CF.of (L0 := [some _, some _, none]) (by decide +kernel) rfl rfl (Nat.le_of_ble_eq_true rfl) rfl (fun G A Q sz hQ => ?_)
  refine V_aload_n dX4_firstPlace_0 rfl ?_
  refine V_getf fX4_21 dX4_firstPlace_1 hM rfl ?_
  refine I_if_eq (tgt := 9) dX4_firstPlace_4 (by decide) ⟨by omega, by omega⟩ (fun h4 => ?_) (fun h4 => ?_)
  · refine V_aload_n dX4_firstPlace_9 rfl ?_
    refine V_cV (vs := []) (f_headerPointer l _ f D x1 x2 x3 hf g hf1) mX4_38 coX2_headerPointer dX4_firstPlace_10 hf rfl rfl rfl (by decide) (Nat.le_of_ble_eq_true rfl) (Nat.le_of_ble_eq_true rfl) (Nat.le_of_ble_eq_true rfl) (fun sz => ?_)
    refine V_istore_n (L' := [some _, some _, some _]) dX4_firstPlace_13 rfl (by decide) rfl ?_
    refine V_aload_n dX4_firstPlace_14 rfl ?_
    refine V_tern (J := 27) (v := .int (iI (if g 3 = 255 then 0 else 1))) (fun sz => ?_) (fun j27 => ?_)
    · refine V_putf fX4_21 dX4_firstPlace_27 hM (nrB (by split <;> omega)) (ftB (by split <;> omega)) (by simp) ?_
      refine V_iload_n dX4_firstPlace_30 rfl ?_
      refine V_aload_n dX4_firstPlace_31 rfl ?_
      refine V_getf fX4_44 dX4_firstPlace_32 ((mu_ne (by omega)).trans hf) rfl ?_
      refine I_min ⟨by omega, by omega⟩ ⟨by omega, by omega⟩ mX4_47 dX4_firstPlace_35 (by decide) (Nat.le_of_ble_eq_true rfl) (Nat.le_of_ble_eq_true rfl) (Nat.le_of_ble_eq_true rfl) ?_
      exact V_ireti dX4_firstPlace_38 rfl (Nat.le_of_ble_eq_true rfl) (Nat.le_of_ble_eq_true rfl) (hQ _ _ _ (iv (by rw [if_pos (show d = 0 by omega)])) (by rw [if_pos (show d = 0 by omega)]; rfl))
    · refine V_iload_n dX4_firstPlace_15 rfl ?_
      refine V_sipush (v := iI (255)) dX4_firstPlace_16 (by decide +kernel) ?_
      refine I_icmp_eq (tgt := 26) dX4_firstPlace_19 (by decide) ⟨by omega, by omega⟩ ⟨by omega, by omega⟩ (fun h19 => ?_) (fun h19 => ?_)
      · refine V_iconst (v := iI (0)) dX4_firstPlace_26 rfl ?_
        exact V_top (vi (by first | rw [if_pos (by omega)] | rw [if_neg (by omega)])) (j27 _)
      · refine V_iconst (v := iI (1)) dX4_firstPlace_22 rfl ?_
        refine V_goto (tgt := 27) dX4_firstPlace_23 (by decide) ?_
        exact V_top (vi (by first | rw [if_pos (by omega)] | rw [if_neg (by omega)])) (j27 _)
  · refine V_iconst (v := iI (0)) dX4_firstPlace_7 rfl ?_
    exact V_ireti dX4_firstPlace_8 rfl (Nat.le_of_ble_eq_true rfl) (Nat.le_of_ble_eq_true rfl) (hQ _ _ _ (iv (if_neg (by omega)).symm) (by rw [if_neg (show ¬ d = 0 by omega), mu_self hM]))

set_option maxRecDepth 100000 in
set_option maxHeartbeats 4000000 in
theorem k_copyFrom (l : Launch) (M : ME) (k k2 : Nat) (hd : k + 2 ≤ k2 ∨ k2 + 2 ≤ k) (ρ1 ρ : Int → Int) (c1 c : Int) (h1 : RK M k ρ1 c1) (h2 : RK M k2 ρ c) (hb : ρ (3407 + c) ≤ 258) : CP l yX4_copyFrom cX4_copyFrom 2 none (rmN 1) [.ref k, .ref k2] M (fun v M' => v = none ∧ RK M' k ρ c ∧ FR M M' k 2) := by
  obtain ⟨lc1, g1, a1, a2, -, -, -⟩ := h1
  obtain ⟨lc, g, b1, b2, b3, b4, b5⟩ := h2
  refine CP.of (L0 := [some _, some _]) (by decide +kernel) rfl rfl (Nat.le_of_ble_eq_true rfl) rfl (fun G A Q sz hQ => ?_)
  refine V_aload_n dX4_copyFrom_0 rfl ?_
  refine V_aload_n dX4_copyFrom_1 rfl ?_
  refine V_getf fX4_9 dX4_copyFrom_2 b1 rfl ?_
  refine V_putf fX4_9 dX4_copyFrom_5 a1 rfl rfl (by simp) ?_
  refine V_aload_n dX4_copyFrom_8 rfl ?_
  refine V_aload_n dX4_copyFrom_9 rfl ?_
  refine V_getf fX4_15 dX4_copyFrom_10 ((mu_ne (by omega)).trans b1) rfl ?_
  refine V_putf fX4_15 dX4_copyFrom_13 mu_eq rfl rfl (by simp) ?_
  refine V_aload_n dX4_copyFrom_16 rfl ?_
  refine V_aload_n dX4_copyFrom_17 rfl ?_
  refine V_getf fX4_18 dX4_copyFrom_18 ((mu_ne (by omega)).trans ((mu_ne (by omega)).trans b1)) rfl ?_
  refine V_putf fX4_18 dX4_copyFrom_21 mu_eq rfl rfl (by simp) ?_
  refine V_aload_n dX4_copyFrom_24 rfl ?_
  refine V_aload_n dX4_copyFrom_25 rfl ?_
  refine V_getf fX4_21 dX4_copyFrom_26 ((mu_ne (by omega)).trans ((mu_ne (by omega)).trans ((mu_ne (by omega)).trans b1))) rfl ?_
  refine V_putf fX4_21 dX4_copyFrom_29 mu_eq (nrB b4) (ftB b4) (by simp) ?_
  refine V_aload_n dX4_copyFrom_32 rfl ?_
  refine V_aload_n dX4_copyFrom_33 rfl ?_
  refine V_getf fX4_25 dX4_copyFrom_34 ((mu_ne (by omega)).trans ((mu_ne (by omega)).trans ((mu_ne (by omega)).trans ((mu_ne (by omega)).trans b1)))) rfl ?_
  refine V_putf fX4_25 dX4_copyFrom_37 mu_eq rfl rfl (by simp) ?_
  refine V_aload_n dX4_copyFrom_40 rfl ?_
  refine V_getf fX4_28 dX4_copyFrom_41 ((mu_ne (by omega)).trans ((mu_ne (by omega)).trans ((mu_ne (by omega)).trans ((mu_ne (by omega)).trans ((mu_ne (by omega)).trans b1))))) rfl ?_
  refine V_iconst (v := iI (0)) dX4_copyFrom_44 rfl ?_
  refine V_aload_n dX4_copyFrom_45 rfl ?_
  refine V_getf fX4_28 dX4_copyFrom_46 mu_eq rfl ?_
  refine V_iconst (v := iI (0)) dX4_copyFrom_49 rfl ?_
  refine V_sipush (v := iI (258)) dX4_copyFrom_50 (by decide +kernel) ?_
  refine I_copy (by decide) mX4_32 dX4_copyFrom_53 ((mu_ne (by omega)).trans ((mu_ne (by omega)).trans ((mu_ne (by omega)).trans ((mu_ne (by omega)).trans ((mu_ne (by omega)).trans b2))))) ((mu_ne (by omega)).trans ((mu_ne (by omega)).trans ((mu_ne (by omega)).trans ((mu_ne (by omega)).trans ((mu_ne (by omega)).trans a2))))) (by decide) (by decide) (by decide) (by decide) (by decide) (by decide) fun sz => ?_
  exact V_ret dX4_copyFrom_56 rfl (Nat.le_of_ble_eq_true rfl) (Nat.le_of_ble_eq_true rfl) (hQ _ _ _ ⟨rfl, ⟨lc, _, (mu_ne (by omega)).trans (by simp only [mu_mu]; exact mu_eq), mu_eq, b3, b4, fun q x y => by unfold cpI; rw [if_pos (by omega), show (0 : Int) + (q - 0) = q by omega]; exact b5 q x y⟩, (((((FR.rf.mu (by omega)).mu (by omega)).mu (by omega)).mu (by omega)).mu (by omega)).mu (by omega)⟩)
