abbrev qc (a q n s d : Int) : Cel := .inl (3, [.int (iI a), .int (iI q), .int (iI n), .int (iI s), .int (iI d)])
/-- n places of s cells each, all of them different, from b on -/
def Pm (b s : Nat) (n : Int) (f : Int → Nat) : Prop := ∀ i, 0 ≤ i → i < n → b ≤ f i ∧ f i + s ≤ b + s * n.toNat ∧ ∀ j, 0 ≤ j → j < n → i ≠ j → f i + s ≤ f j ∨ f j + s ≤ f i
/-- what of a row belongs to channel ch -/
def chq (ch q : Int) : Prop := q = 25 + ch ∨ q = 29 + ch ∨ q = 33 + ch ∨ q = 37 + ch ∨ q = 41 + ch ∨ q = 46 + ch ∨ q = 50 + ch ∨ q = 54 + ch ∨ q = 58 + ch ∨ (62 + 80 * ch ≤ q ∧ q < 62 + 80 * ch + 80)
/-- a channel at c holds what the row says of channel ch -/
def SC (M : ME) (c : Nat) (ρ : Int → Int) (ch : Int) : Prop := ∃ (f : Int → Nat) (p : Int → Int → Int), M c = some (scC (ρ (25 + ch)) (ρ (29 + ch)) (ρ (33 + ch)) (ρ (37 + ch)) (pend ρ ch) (ρ (41 + ch)) (ρ (46 + ch)) (ρ (50 + ch)) (ρ (54 + ch)) (ρ (58 + ch)) (c + 1)) ∧ M (c + 1) = some (aR 4 13 f) ∧ Pm (c + 2) 1 13 f ∧ (∀ i, 0 ≤ i → i < 13 → M (f i) = some (qp (p i))) ∧ (0 ≤ ρ (54 + ch) ∧ ρ (54 + ch) ≤ 13) ∧ ∀ i, 0 ≤ i → i < ρ (54 + ch) → ∀ j, 0 ≤ j → j < 5 → p i j = ρ (62 + 80 * ch + 5 * i + j)
theorem SC.mv {M M' : ME} {c : Nat} {ρ ρ' : Int → Int} {ch : Int} (h : SC M c ρ ch) (hm : ∀ q, c ≤ q → q < c + 15 → M' q = M q) (hr : ∀ q, chq ch q → ρ' q = ρ q) : SC M' c ρ' ch := by
  obtain ⟨f, p, h1, h2, h3, h4, h5, h6⟩ := h
  have e : ∀ k, (k = 25 ∨ k = 29 ∨ k = 33 ∨ k = 37 ∨ k = 41 ∨ k = 46 ∨ k = 50 ∨ k = 54 ∨ k = 58) → ρ' (k + ch) = ρ (k + ch) := fun k hk => hr _ (by unfold chq; omega)
  have eq : ∀ q, 62 + 80 * ch ≤ q → q < 62 + 80 * ch + 80 → ρ' q = ρ q := fun q a b => hr q (by unfold chq; omega)
  have ep : pend ρ' ch = pend ρ ch := by
    unfold pend
    rw [e 54 (by omega), e 58 (by omega), psum_cg _ fun i a b => eq _ (by omega) (by omega)]
  refine ⟨f, p, ?_, ?_, h3, fun i a b => ?_, ?_, fun i a b j c d => ?_⟩
  · rw [hm _ (by omega) (by omega), h1, ep, e 25 (by omega), e 29 (by omega), e 33 (by omega), e 37 (by omega), e 41 (by omega), e 46 (by omega), e 50 (by omega), e 54 (by omega), e 58 (by omega)]
  · rw [hm _ (by omega) (by omega), h2]
  · have := h3 i a b
    rw [hm _ (by omega) (by omega), h4 i a b]
  · rw [e 54 (by omega)]; exact h5
  · rw [e 54 (by omega)] at b
    rw [eq _ (by omega) (by omega)]
    exact h6 i a b j c d
/-- outside of the n cells from a on nothing has changed -/
def FR (M M' : ME) (a n : Nat) : Prop := ∀ q, (q < a ∨ a + n ≤ q) → M' q = M q
theorem FR.rf {M : ME} {a n : Nat} : FR M M a n := fun _ _ => rfl
theorem FR.tr {M M' M'' : ME} {a n : Nat} (h : FR M M' a n) (h' : FR M' M'' a n) : FR M M'' a n := fun q hq => (h' q hq).trans (h q hq)
theorem FR.mu {M M' : ME} {a n b : Nat} {e : Cel} (h : FR M M' a n) (hb : a ≤ b ∧ b < a + n) : FR M (mu M' b e) a n := fun q hq => (mu_ne (by omega)).trans (h q hq)
theorem FR.up {M M' : ME} {a n b m : Nat} (h : FR M M' a n) (hb : b ≤ a ∧ a + n ≤ b + m) : FR M M' b m := fun q hq => h q (by omega)
theorem CF.to {l : Launch} {y : MethodName} {cc' : ByteArray} {nL' : Nat} {ret' : Option FieldType} {rm : Room} {vs : List Value} {M : ME} {v : Option Value} {M' : ME} {P : Option Value → ME → Prop} (h : CF l y cc' nL' ret' rm vs M v M') (hP : P v M') : CP l y cc' nL' ret' rm vs M P := fun sz => (h sz).mono fun v0 M0 _ hp => by rw [hp.1, hp.2]; exact hP
def shR (f : Int → Nat) (i : Int) : Int → Nat := fun q => if 0 ≤ q ∧ q < i - 1 then f (q + 1) else f q
theorem shR_1 {f : Int → Nat} : shR f 1 = f := by funext q; unfold shR; rw [if_neg (by omega)]
theorem shR_s {f : Int → Nat} {i : Int} (h : 1 ≤ i) : upR (shR f i) (i - 1) (shR f i i) = shR f (i + 1) := by
  funext q
  unfold upR shR
  by_cases hq : q = i - 1
  · rw [if_pos hq, if_neg (by omega), if_pos (by omega), show q + 1 = i by omega]
  · rw [if_neg hq]
    by_cases h2 : 0 ≤ q ∧ q < i - 1
    · rw [if_pos h2, if_pos (by omega)]
    · rw [if_neg h2, if_neg (by omega)]
def rot (f : Int → Nat) (s : Int) : Int → Nat := upR (shR f s) (s - 1) (f 0)
theorem rot_lo {f : Int → Nat} {s i : Int} (h : 0 ≤ i ∧ i < s - 1) : rot f s i = f (i + 1) := by
  unfold rot
  rw [upR_n (by omega)]
  unfold shR
  rw [if_pos h]
theorem rot_m {f : Int → Nat} {s : Int} : rot f s (s - 1) = f 0 := by unfold rot; rw [upR_s]
theorem rot_hi {f : Int → Nat} {s i : Int} (h : s ≤ i) : rot f s i = f i := by
  unfold rot
  rw [upR_n (by omega)]
  unfold shR
  rw [if_neg (by omega)]
/-- where an entry stood before -/
def rti (s i : Int) : Int := if i < s - 1 then i + 1 else if i = s - 1 then 0 else i
theorem rot_e {f : Int → Nat} {s i : Int} (h : 0 ≤ i) : rot f s i = f (rti s i) := by
  unfold rti
  rcases (show i < s - 1 ∨ i = s - 1 ∨ s ≤ i by omega) with x | x | x
  · rw [if_pos x, rot_lo ⟨h, x⟩]
  · rw [if_neg (by omega), if_pos x, x, rot_m]
  · rw [if_neg (by omega), if_neg (by omega), rot_hi x]
theorem rti_b {s i n : Int} (hs : 1 ≤ s ∧ s ≤ n) (h : 0 ≤ i ∧ i < n) : 0 ≤ rti s i ∧ rti s i < n := by unfold rti; omega
theorem rot_P {f : Int → Nat} {s n : Int} {b w : Nat} (hs : 1 ≤ s ∧ s ≤ n) (h : Pm b w n f) : Pm b w n (rot f s) := by
  intro i h0 h1
  rw [rot_e h0]
  have b1 := rti_b hs ⟨h0, h1⟩
  obtain ⟨p1, p2, p3⟩ := h _ b1.1 b1.2
  refine ⟨p1, p2, fun j j0 j1 e => ?_⟩
  rw [rot_e j0]
  have b2 := rti_b hs ⟨j0, j1⟩
  exact p3 _ b2.1 b2.2 (by unfold rti; omega)
theorem pby_r {p ρ : Int → Int} {c k : Int} (h : ∀ j, 0 ≤ j → j < 5 → p j = ρ (62 + 80 * c + j)) (hk : 0 ≤ k) : pby p k = rbyte ρ c k := by
  unfold pby rbyte
  have h0 := h 0 (by omega) (by omega)
  have h1 := h 1 (by omega) (by omega)
  have h2 := h 2 (by omega) (by omega)
  have h3 := h 3 (by omega) (by omega)
  rw [Int.add_zero] at h0
  rcases (show k = 0 ∨ k = 1 ∨ k = 2 ∨ 3 ≤ k by omega) with x | x | x | x
  · subst x; rw [if_pos rfl, if_pos (by omega), h0, Int.add_zero]
  · subst x; rw [if_neg (by omega), if_pos rfl, if_pos (by omega), h1]
  · subst x; rw [if_neg (by omega), if_neg (by omega), if_pos rfl, if_pos (by omega), h2]
  · rw [if_neg (by omega), if_neg (by omega), if_neg (by omega), if_neg (show ¬ k < 3 by omega), h0, h3]

set_option maxRecDepth 100000 in
set_option maxHeartbeats 4000000 in
theorem c6_append (l : Launch) (M : ME) (c pa : Nat) (a b h w p f i t s o : Int) (hM : M c = some (scC a b h w p f i t s o pa)) (g : Int → Nat) (hA : M pa = some (aR 4 13 g)) (hpc : pa ≠ c) (hs : 0 ≤ s ∧ s ≤ 12) (p0 : Int → Int) (hP : M (g s) = some (qp p0)) (hgc : g s ≠ c ∧ g s ≠ pa) (x1 x2 x3 x4 x5 : Int) : CF l yX6_append cX6_append 8 none (rmN 2) [.ref c, .int (iI x1), .int (iI x2), .int (iI x3), .int (iI x4), .int (iI x5)] M none (mu (mu M (g s) (qc x1 x2 x3 x4 x5)) c (scC a b h w (p + (3 + x3)) f i t (s + 1) o pa)) := by
  refine CF.of (L0 := [some _, some _, some _, some _, some _, some _, none, none]) (by decide +kernel) rfl rfl (Nat.le_of_ble_eq_true rfl) rfl (fun G A Q sz hQ => ?_)
  refine V_aload_n dX6_append_0 rfl ?_
  refine V_getf fX6_36 dX6_append_1 hM rfl ?_
  refine V_bipush (v := iI (12)) dX6_append_4 (by decide +kernel) ?_
  refine I_min ⟨by omega, by omega⟩ ⟨by omega, by omega⟩ mX6_60 dX6_append_6 (by decide) (Nat.le_of_ble_eq_true rfl) (Nat.le_of_ble_eq_true rfl) (Nat.le_of_ble_eq_true rfl) ?_
  rw [show min s 12 = s by omega]
  refine V_istore (L' := [some _, some _, some _, some _, some _, some _, some _, none]) dX6_append_9 (by decide) rfl ?_
  refine V_aload_n dX6_append_11 rfl ?_
  refine V_getf fX6_44 dX6_append_12 hM rfl ?_
  refine V_iload dX6_append_15 rfl ?_
  refine I_aald ao4 dX6_append_17 hA ⟨by omega, by omega⟩ (by decide) ?_
  refine V_astore (L' := [some _, some _, some _, some _, some _, some _, some _, some _]) dX6_append_18 (by decide) rfl ?_
  refine V_aload dX6_append_20 rfl ?_
  refine V_iload_n dX6_append_22 rfl ?_
  refine V_putf fX6_53 dX6_append_23 hP rfl rfl (by simp) ?_
  refine V_aload dX6_append_26 rfl ?_
  refine V_iload_n dX6_append_28 rfl ?_
  refine V_putf fX6_66 dX6_append_29 mu_eq rfl rfl (by simp) ?_
  refine V_aload dX6_append_32 rfl ?_
  refine V_iload_n dX6_append_34 rfl ?_
  refine V_putf fX6_69 dX6_append_35 mu_eq rfl rfl (by simp) ?_
  refine V_aload dX6_append_38 rfl ?_
  refine V_iload dX6_append_40 rfl ?_
  refine V_putf fX6_72 dX6_append_42 mu_eq rfl rfl (by simp) ?_
  refine V_aload dX6_append_45 rfl ?_
  refine V_iload dX6_append_47 rfl ?_
  refine V_putf fX6_75 dX6_append_49 mu_eq rfl rfl (by simp) ?_
  refine V_aload_n dX6_append_52 rfl ?_
  refine V_iload dX6_append_53 rfl ?_
  refine V_iconst (v := iI (1)) dX6_append_55 rfl ?_
  refine I_iadd dX6_append_56 ?_
  refine V_putf fX6_36 dX6_append_57 ((mu_ne (by omega)).trans ((mu_ne (by omega)).trans ((mu_ne (by omega)).trans ((mu_ne (by omega)).trans ((mu_ne (by omega)).trans hM))))) rfl rfl (by simp) ?_
  refine V_aload_n dX6_append_60 rfl ?_
  refine V_dup dX6_append_61 rfl ?_
  refine V_getf fX6_24 dX6_append_62 mu_eq rfl ?_
  refine V_aload dX6_append_65 rfl ?_
  refine V_cV (vs := []) (c3_size l _ _ (fun j => if j = 0 then x1 else if j = 1 then x2 else if j = 2 then x3 else if j = 3 then x4 else x5) ((mu_ne (by omega)).trans mu_eq)) mX6_78 coX3_size dX6_append_67 ((mu_ne (by omega)).trans mu_eq) rfl rfl rfl (by decide) (Nat.le_of_ble_eq_true rfl) (Nat.le_of_ble_eq_true rfl) (Nat.le_of_ble_eq_true rfl) (fun sz => ?_)
  refine I_iadd dX6_append_70 ?_
  refine V_putf fX6_24 dX6_append_71 mu_eq rfl rfl (by simp) ?_
  exact V_ret dX6_append_74 rfl (Nat.le_of_ble_eq_true rfl) (Nat.le_of_ble_eq_true rfl) (hQ _ _ _ rfl (by simp only [mu_mu]; rfl))

set_option maxRecDepth 100000 in
set_option maxHeartbeats 4000000 in
theorem c6_removeHead (l : Launch) (M : ME) (c pa : Nat) (a b h w p f i t s o : Int) (hM : M c = some (scC a b h w p f i t s o pa)) (g : Int → Nat) (hA : M pa = some (aR 4 13 g)) (hpc : pa ≠ c) (hs : 1 ≤ s ∧ s ≤ 13) (P0 : Int → Int → Int) (hP : ∀ k, 0 ≤ k → k < 13 → M (g k) = some (qp (P0 k))) (hg : ∀ k, 0 ≤ k → k < 13 → g k ≠ c ∧ g k ≠ pa) : CF l yX6_removeHead cX6_removeHead 3 none (rmN 2) [.ref c] M none (mu (mu M pa (aR 4 13 (rot g s))) c (scC a b h w p f i t (s - 1) 0 pa)) := by
  refine CF.of (L0 := [some _, none, none]) (by decide +kernel) rfl rfl (Nat.le_of_ble_eq_true rfl) rfl (fun G A Q sz hQ => ?_)
  refine V_aload_n dX6_removeHead_0 rfl ?_
  refine V_getf fX6_44 dX6_removeHead_1 hM rfl ?_
  refine V_iconst (v := iI (0)) dX6_removeHead_4 rfl ?_
  refine I_aald ao4 dX6_removeHead_5 hA ⟨by omega, by omega⟩ (by decide) ?_
  refine V_astore_n (L' := [some _, some _, none]) dX6_removeHead_6 rfl (by decide) rfl ?_
  refine V_iconst (v := iI (1)) dX6_removeHead_7 rfl ?_
  refine V_istore_n (L' := [some _, some _, some _]) dX6_removeHead_8 rfl (by decide) rfl ?_
  have key9 : ∀ (d : Nat) (j : Int) (sz : Nat), 1 ≤ j ∧ j ≤ s → (s - j).toNat = d → V l G A (rmN 2) RX6 "removeHead" cX6_removeHead 3 none Q nX 0 0 (mu M pa (aR 4 13 (shR g j))) sz 9 [some (.ref c), some (.ref (g 0)), some (.int (iI j))] [] := by
    intro d
    induction d using Nat.strongRecOn with
    | ind d ih9 =>
      intro j  sz hj hd9
      refine V_iload_n dX6_removeHead_9 rfl ?_
      refine V_aload_n dX6_removeHead_10 rfl ?_
      refine V_getf fX6_36 dX6_removeHead_11 ((mu_ne (by omega)).trans hM) rfl ?_
      refine I_icmp_ge (tgt := 43) dX6_removeHead_14 (by decide) ⟨by omega, by omega⟩ ⟨by omega, by omega⟩ (fun h14 => ?_) (fun h14 => ?_)
      · refine V_aload_n dX6_removeHead_43 rfl ?_
        refine V_getf fX6_36 dX6_removeHead_44 ((mu_ne (by omega)).trans hM) rfl ?_
        refine V_iconst (v := iI (1)) dX6_removeHead_47 rfl ?_
        refine I_isub dX6_removeHead_48 ?_
        refine V_istore_n (L' := [some _, some _, some _]) dX6_removeHead_49 rfl (by decide) rfl ?_
        refine V_iload_n dX6_removeHead_50 rfl ?_
        refine I_if_lt_f (tgt := 72) dX6_removeHead_51 (by decide) ⟨by omega, by omega⟩ (by omega) ?_
        refine V_iload_n dX6_removeHead_54 rfl ?_
        refine V_bipush (v := iI (13)) dX6_removeHead_55 (by decide +kernel) ?_
        refine I_icmp_ge_f (tgt := 72) dX6_removeHead_57 (by decide) ⟨by omega, by omega⟩ ⟨by omega, by omega⟩ (by omega) ?_
        refine V_aload_n dX6_removeHead_60 rfl ?_
        refine V_getf fX6_44 dX6_removeHead_61 ((mu_ne (by omega)).trans hM) rfl ?_
        refine V_iload_n dX6_removeHead_64 rfl ?_
        refine V_aload_n dX6_removeHead_65 rfl ?_
        refine I_aast ao4 dX6_removeHead_66 mu_eq ((mu_ne (by have := hg 0 (by omega) (by omega); omega)).trans (hP 0 (by omega) (by omega))) ⟨by omega, by omega⟩ (by decide) ?_
        refine V_aload_n dX6_removeHead_67 rfl ?_
        refine V_iload_n dX6_removeHead_68 rfl ?_
        refine V_putf fX6_36 dX6_removeHead_69 ((mu_ne (by omega)).trans ((mu_ne (by omega)).trans hM)) rfl rfl (by simp) ?_
        refine V_aload_n dX6_removeHead_72 rfl ?_
        refine V_iconst (v := iI (0)) dX6_removeHead_73 rfl ?_
        refine V_putf fX6_39 dX6_removeHead_74 mu_eq rfl rfl (by simp) ?_
        exact V_ret dX6_removeHead_77 rfl (Nat.le_of_ble_eq_true rfl) (Nat.le_of_ble_eq_true rfl) (hQ _ _ _ rfl (by rw [show j = s by omega]; simp only [mu_mu]; rfl))
      · refine V_iload_n dX6_removeHead_17 rfl ?_
        refine V_bipush (v := iI (13)) dX6_removeHead_18 (by decide +kernel) ?_
        refine I_icmp_ge_f (tgt := 43) dX6_removeHead_20 (by decide) ⟨by omega, by omega⟩ ⟨by omega, by omega⟩ (by omega) ?_
        refine V_aload_n dX6_removeHead_23 rfl ?_
        refine V_getf fX6_44 dX6_removeHead_24 ((mu_ne (by omega)).trans hM) rfl ?_
        refine V_iload_n dX6_removeHead_27 rfl ?_
        refine V_iconst (v := iI (1)) dX6_removeHead_28 rfl ?_
        refine I_isub dX6_removeHead_29 ?_
        refine V_aload_n dX6_removeHead_30 rfl ?_
        refine V_getf fX6_44 dX6_removeHead_31 ((mu_ne (by omega)).trans hM) rfl ?_
        refine V_iload_n dX6_removeHead_34 rfl ?_
        refine I_aald ao4 dX6_removeHead_35 mu_eq ⟨by omega, by omega⟩ (by decide) ?_
        refine I_aast ao4 dX6_removeHead_36 mu_eq ((mu_ne (by rw [show shR g j j = g j from if_neg (by omega)]; have := hg j (by omega) (by omega); omega)).trans (by rw [show shR g j j = g j from if_neg (by omega)]; exact hP j (by omega) (by omega))) ⟨by omega, by omega⟩ (by decide) ?_
        refine I_iinc (L' := [some _, some _, some _]) dX6_removeHead_37 rfl (by decide) rfl ?_
        refine V_goto (tgt := 9) dX6_removeHead_40 (by decide) ?_
        exact V_eqM (by rw [mu_mu, shR_s hj.1]) (V_wk' (ih9 _ (by omega) (j + 1) sz ⟨by omega, by omega⟩ rfl) ⟨rfl, rfl, rfl, trivial⟩)
  exact V_eqM (by rw [shR_1, mu_self hA]) (V_wk' (key9 _ 1 sz ⟨by omega, by omega⟩ rfl) ⟨rfl, rfl, rfl, trivial⟩)

theorem c6_app (l : Launch) (M : ME) (c : Nat) (ρ : Int → Int) (ch : Int) (hc : 0 ≤ ch ∧ ch ≤ 3) (hS : SC M c ρ ch) (hQ : Qs ρ ch) (hm : ρ (54 + ch) ≤ 12) (a q n s : Int) (ha : 0 ≤ a ∧ a ≤ 15) (hq : 0 ≤ q ∧ q ≤ 255) (hn : 1 ≤ n ∧ n ≤ 50) (hs : 0 ≤ s ∧ s ≤ 255) (h3 : 0 ≤ ρ 3 ∧ ρ 3 ≤ 100000) : CP l yX6_append cX6_append 8 none (rmN 2) [.ref c, .int (iI a), .int (iI q), .int (iI n), .int (iI s), .int (iI (ρ 3))] M (fun v M' => v = none ∧ SC M' c (rputs ρ ch a q n s) ch ∧ FR M M' c 15) := by
  obtain ⟨f, p, h1, h2, h4, h5, h6, h7⟩ := hS
  have hf := h4 _ h6.1 (show ρ (54 + ch) < 13 by omega)
  have hr := rputs_s hc hQ hm ha hq hn hs h3
  have e : ∀ k, (k = 25 ∨ k = 29 ∨ k = 33 ∨ k = 37 ∨ k = 41 ∨ k = 46 ∨ k = 50 ∨ k = 58) → rputs ρ ch a q n s (k + ch) = ρ (k + ch) := fun k hk => rputs_o hc (by omega) (by omega)
  have hp := rputs_p (ρ := ρ) (a := a) (q := q) (n := n) (s := s) hc (show 0 ≤ ρ (54 + ch) ∧ ρ (54 + ch) ≤ 15 by omega) rfl
  refine (c6_append l M c (c + 1) _ _ _ _ _ _ _ _ _ _ h1 f h2 (by omega) (by omega) _ (h5 _ h6.1 (by omega)) (by omega) a q n s (ρ 3)).to ⟨rfl, ⟨f, fun i => if i = ρ (54 + ch) then fun j => if j = 0 then a else if j = 1 then q else if j = 2 then n else if j = 3 then s else ρ 3 else p i, ?_, ?_, h4, fun i i0 i1 => ?_, ?_, fun i i0 i1 j j0 j1 => ?_⟩, (FR.rf.mu (by omega)).mu (by omega)⟩
  · rw [mu_eq, hr.2, rputs_m, e 25 (by omega), e 29 (by omega), e 33 (by omega), e 37 (by omega), e 41 (by omega), e 46 (by omega), e 50 (by omega), e 58 (by omega)]
  · rw [mu_ne (by omega), mu_ne (by omega), h2]
  · have h9 := h4 i i0 i1
    rw [mu_ne (by omega)]
    by_cases hi : i = ρ (54 + ch)
    · subst hi
      dsimp only
      rw [mu_eq, if_pos rfl]
      rfl
    · dsimp only
      rw [if_neg hi, mu_ne (by have := h9.2.2 _ h6.1 (show ρ (54 + ch) < 13 by omega) hi; omega)]
      exact h5 i i0 i1
  · rw [rputs_m]; omega
  · rw [rputs_m] at i1
    by_cases hi : i = ρ (54 + ch)
    · dsimp only
      rw [if_pos hi, hi]
      rcases (show j = 0 ∨ j = 1 ∨ j = 2 ∨ j = 3 ∨ j = 4 by omega) with x | x | x | x | x <;> subst x
      · rw [Int.add_zero, hp.1]; rfl
      · rw [hp.2.1]; rfl
      · rw [hp.2.2.1]; rfl
      · rw [hp.2.2.2.1]; rfl
      · rw [hp.2.2.2.2]; rfl
    · dsimp only
      rw [if_neg hi, rputs_o hc (by omega) (by omega)]
      exact h7 i i0 (by omega) j j0 j1
