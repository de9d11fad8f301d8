abbrev qc (a q n s d : Int) : Cel := .inl (3, [.int (iI a), .int (iI q), .int (iI n), .int (iI s), .int (iI d)])
/-- thirteen different addresses from b on -/
def Pf (b : Nat) (f : Int → Nat) : Prop := ∀ i, 0 ≤ i → i < 13 → b ≤ f i ∧ f i < b + 13 ∧ ∀ j, 0 ≤ j → j < 13 → f i = f j → i = j
/-- a channel at c holds what the row says of channel ch -/
def SC (M : ME) (c : Nat) (ρ : Int → Int) (ch : Int) : Prop := ∃ (f : Int → Nat) (p : Int → Int → Int), M c = some (scC (ρ (25 + ch)) (ρ (29 + ch)) (ρ (33 + ch)) (ρ (37 + ch)) (pend ρ ch) (ρ (41 + ch)) (ρ (46 + ch)) (ρ (50 + ch)) (ρ (54 + ch)) (ρ (58 + ch)) (c + 1)) ∧ M (c + 1) = some (aR 4 13 f) ∧ Pf (c + 2) f ∧ (∀ i, 0 ≤ i → i < 13 → M (f i) = some (qp (p i))) ∧ ∀ i, 0 ≤ i → i < ρ (54 + ch) → ∀ j, 0 ≤ j → j < 5 → p i j = ρ (62 + 80 * ch + 5 * i + j)
/-- outside of the n cells from a on nothing has changed -/
def FR (M M' : ME) (a n : Nat) : Prop := ∀ q, (q < a ∨ a + n ≤ q) → M' q = M q
theorem FR.rf {M : ME} {a n : Nat} : FR M M a n := fun _ _ => rfl
theorem FR.tr {M M' M'' : ME} {a n : Nat} (h : FR M M' a n) (h' : FR M' M'' a n) : FR M M'' a n := fun q hq => (h' q hq).trans (h q hq)
theorem FR.mu {M M' : ME} {a n b : Nat} {e : Cel} (h : FR M M' a n) (hb : a ≤ b ∧ b < a + n) : FR M (mu M' b e) a n := fun q hq => (mu_ne (by omega)).trans (h q hq)
theorem FR.up {M M' : ME} {a n b m : Nat} (h : FR M M' a n) (hb : b ≤ a ∧ a + n ≤ b + m) : FR M M' b m := fun q hq => h q (by omega)
def shR (f : Int → Nat) (i : Int) : Int → Nat := fun q => if 0 ≤ q ∧ q < i - 1 then f (q + 1) else f q
theorem shR_1 {f : Int → Nat} : shR f 1 = f := by funext q; unfold shR; rw [if_neg (by omega)]
theorem shR_s {f : Int → Nat} {i : Int} (h : 1 ≤ i) : upR (shR f i) (i - 1) (shR f i i) = shR f (i + 1) := by
  funext q
  unfold upR shR
  by_cases hq : q = i - 1
  · rw [if_pos hq, if_neg (by omega), if_pos (by omega), show q + 1 = i by omega]
  · rw [if_neg hq]
    by_cases h2 : 0 ≤ q ∧ q < i - 1
    · rw [if_pos h2, if_pos (by omega)]
    · rw [if_neg h2, if_neg (by omega)]
def rot (f : Int → Nat) (s : Int) : Int → Nat := upR (shR f s) (s - 1) (f 0)
theorem rot_lo {f : Int → Nat} {s i : Int} (h : 0 ≤ i ∧ i < s - 1) : rot f s i = f (i + 1) := by
  unfold rot
  rw [upR_n (by omega)]
  unfold shR
  rw [if_pos h]
theorem rot_m {f : Int → Nat} {s : Int} : rot f s (s - 1) = f 0 := by unfold rot; rw [upR_s]
theorem rot_hi {f : Int → Nat} {s i : Int} (h : s ≤ i) : rot f s i = f i := by
  unfold rot
  rw [upR_n (by omega)]
  unfold shR
  rw [if_neg (by omega)]
theorem rot_P {f : Int → Nat} {s : Int} {b : Nat} (hs : 1 ≤ s ∧ s ≤ 13) (h : Pf b f) : Pf b (rot f s) := by
  have key : ∀ i, 0 ≤ i → i < 13 → ∃ k, 0 ≤ k ∧ k < 13 ∧ rot f s i = f k ∧ ((i < s - 1 ∧ k = i + 1) ∨ (i = s - 1 ∧ k = 0) ∨ (s ≤ i ∧ k = i)) := fun i h0 h1 => by
    rcases (show i < s - 1 ∨ i = s - 1 ∨ s ≤ i by omega) with x | x | x
    · exact ⟨i + 1, by omega, by omega, rot_lo ⟨h0, x⟩, by omega⟩
    · subst x; exact ⟨0, by omega, by omega, rot_m, by omega⟩
    · exact ⟨i, h0, h1, rot_hi x, by omega⟩
  intro i h0 h1
  obtain ⟨k, k0, k1, ke, kc⟩ := key i h0 h1
  obtain ⟨p1, p2, p3⟩ := h k k0 k1
  refine ⟨by omega, by omega, fun j j0 j1 e => ?_⟩
  obtain ⟨k', x0, x1, xe, xc⟩ := key j j0 j1
  have := p3 k' x0 x1 (by omega)
  omega

set_option maxRecDepth 100000 in
set_option maxHeartbeats 4000000 in
theorem c6_append (l : Launch) (M : ME) (c pa : Nat) (a b h w p f i t s o : Int) (hM : M c = some (scC a b h w p f i t s o pa)) (g : Int → Nat) (hA : M pa = some (aR 4 13 g)) (hpc : pa ≠ c) (hs : 0 ≤ s ∧ s ≤ 12) (p0 : Int → Int) (hP : M (g s) = some (qp p0)) (hgc : g s ≠ c ∧ g s ≠ pa) (x1 x2 x3 x4 x5 : Int) : CF l yX6_append cX6_append 8 none (rmN 2) [.ref c, .int (iI x1), .int (iI x2), .int (iI x3), .int (iI x4), .int (iI x5)] M none (mu (mu M (g s) (qc x1 x2 x3 x4 x5)) c (scC a b h w (p + (3 + x3)) f i t (s + 1) o pa)) := by
  refine CF.of (L0 := [some _, some _, some _, some _, some _, some _, none, none]) (by decide +kernel) rfl rfl (Nat.le_of_ble_eq_true rfl) rfl (fun G A Q sz hQ => ?_)
  refine V_aload_n dX6_append_0 rfl ?_
  refine V_getf fX6_36 dX6_append_1 hM rfl ?_
  refine V_bipush (v := iI (12)) dX6_append_4 (by decide +kernel) ?_
  refine I_min ⟨by omega, by omega⟩ ⟨by omega, by omega⟩ mX6_60 dX6_append_6 (by decide) (by decide) (Nat.le_of_ble_eq_true rfl) (Nat.le_of_ble_eq_true rfl) ?_
  rw [show min s 12 = s by omega]
  refine V_istore (L' := [some _, some _, some _, some _, some _, some _, some _, none]) dX6_append_9 (by decide) rfl ?_
  refine V_aload_n dX6_append_11 rfl ?_
  refine V_getf fX6_44 dX6_append_12 hM rfl ?_
  refine V_iload dX6_append_15 rfl ?_
  refine I_aald ao4 dX6_append_17 hA ⟨by omega, by omega⟩ (by decide) ?_
  refine V_astore (L' := [some _, some _, some _, some _, some _, some _, some _, some _]) dX6_append_18 (by decide) rfl ?_
  refine V_aload dX6_append_20 rfl ?_
  refine V_iload_n dX6_append_22 rfl ?_
  refine V_putf fX6_53 dX6_append_23 hP rfl rfl (by simp) ?_
  refine V_aload dX6_append_26 rfl ?_
  refine V_iload_n dX6_append_28 rfl ?_
  refine V_putf fX6_66 dX6_append_29 mu_eq rfl rfl (by simp) ?_
  refine V_aload dX6_append_32 rfl ?_
  refine V_iload_n dX6_append_34 rfl ?_
  refine V_putf fX6_69 dX6_append_35 mu_eq rfl rfl (by simp) ?_
  refine V_aload dX6_append_38 rfl ?_
  refine V_iload dX6_append_40 rfl ?_
  refine V_putf fX6_72 dX6_append_42 mu_eq rfl rfl (by simp) ?_
  refine V_aload dX6_append_45 rfl ?_
  refine V_iload dX6_append_47 rfl ?_
  refine V_putf fX6_75 dX6_append_49 mu_eq rfl rfl (by simp) ?_
  refine V_aload_n dX6_append_52 rfl ?_
  refine V_iload dX6_append_53 rfl ?_
  refine V_iconst (v := iI (1)) dX6_append_55 rfl ?_
  refine I_iadd dX6_append_56 ?_
  refine V_putf fX6_36 dX6_append_57 ((mu_ne (by omega)).trans ((mu_ne (by omega)).trans ((mu_ne (by omega)).trans ((mu_ne (by omega)).trans ((mu_ne (by omega)).trans hM))))) rfl rfl (by simp) ?_
  refine V_aload_n dX6_append_60 rfl ?_
  refine V_dup dX6_append_61 rfl ?_
  refine V_getf fX6_24 dX6_append_62 mu_eq rfl ?_
  refine V_aload dX6_append_65 rfl ?_
  refine V_cV (vs := []) (c3_size l _ _ (fun j => if j = 0 then x1 else if j = 1 then x2 else if j = 2 then x3 else if j = 3 then x4 else x5) ((mu_ne (by omega)).trans mu_eq)) mX6_78 coX3_size dX6_append_67 ((mu_ne (by omega)).trans mu_eq) rfl rfl rfl (by decide) (Nat.le_of_ble_eq_true rfl) (Nat.le_of_ble_eq_true rfl) (Nat.le_of_ble_eq_true rfl) (fun sz => ?_)
  refine I_iadd dX6_append_70 ?_
  refine V_putf fX6_24 dX6_append_71 mu_eq rfl rfl (by simp) ?_
  exact V_ret dX6_append_74 rfl (Nat.le_of_ble_eq_true rfl) (Nat.le_of_ble_eq_true rfl) (hQ _ _ _ rfl (by simp only [mu_mu]; rfl))

set_option maxRecDepth 100000 in
set_option maxHeartbeats 4000000 in
theorem c6_removeHead (l : Launch) (M : ME) (c pa : Nat) (a b h w p f i t s o : Int) (hM : M c = some (scC a b h w p f i t s o pa)) (g : Int → Nat) (hA : M pa = some (aR 4 13 g)) (hpc : pa ≠ c) (hs : 1 ≤ s ∧ s ≤ 13) (P0 : Int → Int → Int) (hP : ∀ k, 0 ≤ k → k < 13 → M (g k) = some (qp (P0 k))) (hg : ∀ k, 0 ≤ k → k < 13 → g k ≠ c ∧ g k ≠ pa) : CF l yX6_removeHead cX6_removeHead 3 none (rmN 2) [.ref c] M none (mu (mu M pa (aR 4 13 (rot g s))) c (scC a b h w p f i t (s - 1) 0 pa)) := by
  refine CF.of (L0 := [some _, none, none]) (by decide +kernel) rfl rfl (Nat.le_of_ble_eq_true rfl) rfl (fun G A Q sz hQ => ?_)
  refine V_aload_n dX6_removeHead_0 rfl ?_
  refine V_getf fX6_44 dX6_removeHead_1 hM rfl ?_
  refine V_iconst (v := iI (0)) dX6_removeHead_4 rfl ?_
  refine I_aald ao4 dX6_removeHead_5 hA ⟨by omega, by omega⟩ (by decide) ?_
  refine V_astore_n (L' := [some _, some _, none]) dX6_removeHead_6 rfl (by decide) rfl ?_
  refine V_iconst (v := iI (1)) dX6_removeHead_7 rfl ?_
  refine V_istore_n (L' := [some _, some _, some _]) dX6_removeHead_8 rfl (by decide) rfl ?_
  have key9 : ∀ (d : Nat) (j : Int) (sz : Nat), 1 ≤ j ∧ j ≤ s → (s - j).toNat = d → V l G A (rmN 2) RX6 "removeHead" cX6_removeHead 3 none Q nX 0 0 (mu M pa (aR 4 13 (shR g j))) sz 9 [some (.ref c), some (.ref (g 0)), some (.int (iI j))] [] := by
    intro d
    induction d using Nat.strongRecOn with
    | ind d ih9 =>
      intro j  sz hj hd9
      refine V_iload_n dX6_removeHead_9 rfl ?_
      refine V_aload_n dX6_removeHead_10 rfl ?_
      refine V_getf fX6_36 dX6_removeHead_11 ((mu_ne (by omega)).trans hM) rfl ?_
      refine I_icmp_ge (tgt := 43) dX6_removeHead_14 (by decide) ⟨by omega, by omega⟩ ⟨by omega, by omega⟩ (fun h14 => ?_) (fun h14 => ?_)
      · refine V_aload_n dX6_removeHead_43 rfl ?_
        refine V_getf fX6_36 dX6_removeHead_44 ((mu_ne (by omega)).trans hM) rfl ?_
        refine V_iconst (v := iI (1)) dX6_removeHead_47 rfl ?_
        refine I_isub dX6_removeHead_48 ?_
        refine V_istore_n (L' := [some _, some _, some _]) dX6_removeHead_49 rfl (by decide) rfl ?_
        refine V_iload_n dX6_removeHead_50 rfl ?_
        refine I_if_lt_f (tgt := 72) dX6_removeHead_51 (by decide) ⟨by omega, by omega⟩ (by omega) ?_
        refine V_iload_n dX6_removeHead_54 rfl ?_
        refine V_bipush (v := iI (13)) dX6_removeHead_55 (by decide +kernel) ?_
        refine I_icmp_ge_f (tgt := 72) dX6_removeHead_57 (by decide) ⟨by omega, by omega⟩ ⟨by omega, by omega⟩ (by omega) ?_
        refine V_aload_n dX6_removeHead_60 rfl ?_
        refine V_getf fX6_44 dX6_removeHead_61 ((mu_ne (by omega)).trans hM) rfl ?_
        refine V_iload_n dX6_removeHead_64 rfl ?_
        refine V_aload_n dX6_removeHead_65 rfl ?_
        refine I_aast ao4 dX6_removeHead_66 mu_eq ((mu_ne (by have := hg 0 (by omega) (by omega); omega)).trans (hP 0 (by omega) (by omega))) ⟨by omega, by omega⟩ (by decide) ?_
        refine V_aload_n dX6_removeHead_67 rfl ?_
        refine V_iload_n dX6_removeHead_68 rfl ?_
        refine V_putf fX6_36 dX6_removeHead_69 ((mu_ne (by omega)).trans ((mu_ne (by omega)).trans hM)) rfl rfl (by simp) ?_
        refine V_aload_n dX6_removeHead_72 rfl ?_
        refine V_iconst (v := iI (0)) dX6_removeHead_73 rfl ?_
        refine V_putf fX6_39 dX6_removeHead_74 mu_eq rfl rfl (by simp) ?_
        exact V_ret dX6_removeHead_77 rfl (Nat.le_of_ble_eq_true rfl) (Nat.le_of_ble_eq_true rfl) (hQ _ _ _ rfl (by rw [show j = s by omega]; simp only [mu_mu]; rfl))
      · refine V_iload_n dX6_removeHead_17 rfl ?_
        refine V_bipush (v := iI (13)) dX6_removeHead_18 (by decide +kernel) ?_
        refine I_icmp_ge_f (tgt := 43) dX6_removeHead_20 (by decide) ⟨by omega, by omega⟩ ⟨by omega, by omega⟩ (by omega) ?_
        refine V_aload_n dX6_removeHead_23 rfl ?_
        refine V_getf fX6_44 dX6_removeHead_24 ((mu_ne (by omega)).trans hM) rfl ?_
        refine V_iload_n dX6_removeHead_27 rfl ?_
        refine V_iconst (v := iI (1)) dX6_removeHead_28 rfl ?_
        refine I_isub dX6_removeHead_29 ?_
        refine V_aload_n dX6_removeHead_30 rfl ?_
        refine V_getf fX6_44 dX6_removeHead_31 ((mu_ne (by omega)).trans hM) rfl ?_
        refine V_iload_n dX6_removeHead_34 rfl ?_
        refine I_aald ao4 dX6_removeHead_35 mu_eq ⟨by omega, by omega⟩ (by decide) ?_
        refine I_aast ao4 dX6_removeHead_36 mu_eq ((mu_ne (by rw [show shR g j j = g j from if_neg (by omega)]; have := hg j (by omega) (by omega); omega)).trans (by rw [show shR g j j = g j from if_neg (by omega)]; exact hP j (by omega) (by omega))) ⟨by omega, by omega⟩ (by decide) ?_
        refine I_iinc (L' := [some _, some _, some _]) dX6_removeHead_37 rfl (by decide) rfl ?_
        refine V_goto (tgt := 9) dX6_removeHead_40 (by decide) ?_
        exact V_eqM (by rw [mu_mu, shR_s hj.1]) (V_wk' (ih9 _ (by omega) (j + 1) sz ⟨by omega, by omega⟩ rfl) ⟨rfl, rfl, rfl, trivial⟩)
  exact V_eqM (by rw [shR_1, mu_self hA]) (V_wk' (key9 _ 1 sz ⟨by omega, by omega⟩ rfl) ⟨rfl, rfl, rfl, trivial⟩)
