/-- n cells at k, k + d .. set to v -/
def repN (ρ : Int → Int) (k d v : Int) : Nat → Int → Int
  | 0 => ρ
  | n + 1 => up (repN ρ k d v n) (k + d * n) v
theorem repN_s {ρ : Int → Int} {k d v i : Int} (h : 0 ≤ i) : up (repN ρ k d v i.toNat) (k + d * i) v = repN ρ k d v (i + 1).toNat := by
  rw [show (i + 1).toNat = i.toNat + 1 by omega]
  show _ = up (repN ρ k d v i.toNat) (k + d * (i.toNat : Int)) v
  rw [Int.toNat_of_nonneg h]
def in1 : Int → Int := up (up (up (fun _ => 0) 0 16) 2 250) 3389 (-1)
def in2 : Int → Int := repN in1 3390 1 (-1) 5
def in3N : Nat → Int → Int
  | 0 => in2
  | n + 1 => up (up (in3N n) (29 + n) 50) (50 + n) (-1)
theorem in3_s {i : Int} (h : 0 ≤ i) : up (up (in3N i.toNat) (29 + i) 50) (50 + i) (-1) = in3N (i + 1).toNat := by
  rw [show (i + 1).toNat = i.toNat + 1 by omega]
  show _ = up (up (in3N i.toNat) (29 + (i.toNat : Int)) 50) (50 + (i.toNat : Int)) (-1)
  rw [Int.toNat_of_nonneg h]
def in4N : Nat → Int → Int
  | 0 => in3N 4
  | n + 1 => up (in4N n) (4443 + 4 * n + 3) (-1)
theorem in4_s {i : Int} (h : 0 ≤ i) : up (in4N i.toNat) (4443 + 4 * i + 3) (-1) = in4N (i + 1).toNat := by
  rw [show (i + 1).toNat = i.toNat + 1 by omega]
  show _ = up (in4N i.toNat) (4443 + 4 * (i.toNat : Int) + 3) (-1)
  rw [Int.toNat_of_nonneg h]
/-- the row of a new object -/
def ini : Int → Int := in4N 15
theorem zfun (N : Nat) : ai N (fun _ => 0) = aI N (fun _ => 0) := rfl

abbrev rmI : Room := { frames := 3, cells := 2, slots := 49236, locals := 96 }
set_option maxRecDepth 100000 in
set_option maxHeartbeats 4000000 in
theorem r_init (l : Launch) (M : ME) (r : Nat) (hM : M r = some (.inl (11, [.null, .null, .int (iI 0), .int (iI 0), .long (lI 0)]))) : Cn l yX11_init cX11_init 2 none rmI [.ref r] M (r + 1) (fun v M' _ => v = none ∧ M' = rM M r ini (fun _ => 0) 0 0 0) := by
  refine Cn.of (L0 := [some _, none]) (by decide +kernel) rfl rfl (Nat.le_of_ble_eq_true rfl) rfl (fun G A => ?_)
  obtain ⟨Q, hQe⟩ : ∃ Q : Option Value → ME → Nat → Prop, Q = (fun v M' _ => v = none ∧ M' = rM M r ini (fun _ => 0) 0 0 0) := ⟨_, rfl⟩
  have hQ : ∀ v0 M0 z, (v0 = none ∧ M0 = rM M r ini (fun _ => 0) 0 0 0) → Q v0 M0 z := fun v0 M0 z h => by rw [hQe]; exact h
  show V l G A rmI RX11 "<init>" cX11_init 2 none (fun v M' _ => v = none ∧ M' = rM M r ini (fun _ => 0) 0 0 0) nX 0 0 M (r + 1) 0 _ _
  rw [← hQe]
  refine V_aload_n dX11_init_0 rfl ?_
  refine V_objInit mX11_1 oi_inst oi_code dX11_init_1 (by decide) (by decide) ?_
  refine V_aload_n dX11_init_4 rfl ?_
  refine V_sipush (v := nI 12309) dX11_init_5 (by decide +kernel) ?_
  refine V_newi (N := 12309) ac_int dX11_init_8 (by decide) (by decide) (by decide) ?_
  refine V_putF fX11_7 dX11_init_10 (show mu M (r + 1) _ r = some _ from (mu_ne (by omega)).trans hM) rfl rfl (by simp) rfl rfl ?_
  refine V_aload_n dX11_init_13 rfl ?_
  refine V_ldc (v := nI 36927) dX11_init_14 kX11_13 ?_
  refine V_newi (N := 36927) ac_int dX11_init_16 (by decide) (by decide) (by decide) ?_
  refine V_putF fX11_14 dX11_init_18 (show mu (mu (mu M (r + 1) _) r _) (r + 1 + 1) _ r = some _ from (mu_ne (by omega)).trans mu_eq) rfl rfl (by simp) rfl rfl ?_
  refine V_eqM (M' := rM M r (fun _ => 0) (fun _ => 0) 0 0 0) (by
    funext q
    unfold mu rM
    show (if q = r then _ else if q = r + 2 then _ else if q = r then _ else if q = r + 1 then _ else _) = _
    (repeat' split) <;> first | rfl | (exfalso; omega)) ?_
  obtain ⟨sz, hsz⟩ : ∃ sz, sz = r + 1 + 1 + 1 := ⟨_, rfl⟩
  rw [← hsz]
  refine V_aload_n dX11_init_21 rfl ?_
  refine V_getf fX11_7 dX11_init_22 rM_0 rfl ?_
  refine V_iconst (v := iI (0)) dX11_init_25 rfl ?_
  refine V_bipush (v := iI (16)) dX11_init_26 (by decide +kernel) ?_
  refine R_iast dX11_init_28 ⟨by omega, by omega⟩ ?_
  refine V_aload_n dX11_init_29 rfl ?_
  refine V_getf fX11_7 dX11_init_30 rM_0 rfl ?_
  refine V_iconst (v := iI (2)) dX11_init_33 rfl ?_
  refine V_sipush (v := iI (250)) dX11_init_34 (by decide +kernel) ?_
  refine R_iast dX11_init_37 ⟨by omega, by omega⟩ ?_
  refine V_aload_n dX11_init_38 rfl ?_
  refine V_getf fX11_7 dX11_init_39 rM_0 rfl ?_
  refine V_sipush (v := iI (3389)) dX11_init_42 (by decide +kernel) ?_
  refine V_iconst (v := iI (-1)) dX11_init_45 rfl ?_
  refine R_iast dX11_init_46 ⟨by omega, by omega⟩ ?_
  refine V_iconst (v := iI (0)) dX11_init_47 rfl ?_
  refine V_istore_n (L' := [some _, some _]) dX11_init_48 rfl (by decide) rfl ?_
  have key49 : ∀ (d : Nat) (i : Int) (sz : Nat), 0 ≤ i ∧ i ≤ 5 → (5 - i).toNat = d → V l G A rmI RX11 "<init>" cX11_init 2 none Q nX 2 49236 (rM M r (repN in1 3390 1 (-1) i.toNat) (fun _ => 0) 0 0 0) sz 49 [some (.ref r), some (.int (iI i))] [] := by
    intro d
    induction d using Nat.strongRecOn with
    | ind d ih49 =>
      intro i  sz hi hd49
      refine V_iload_n dX11_init_49 rfl ?_
      refine V_iconst (v := iI (5)) dX11_init_50 rfl ?_
      refine I_icmp_ge (tgt := 71) dX11_init_51 (by decide) ⟨by omega, by omega⟩ ⟨by omega, by omega⟩ (fun h51 => ?_) (fun h51 => ?_)
      · rw [show i = 5 by omega]
        refine V_iconst (v := iI (0)) dX11_init_71 rfl ?_
        refine V_istore_n (L' := [some _, some _]) dX11_init_72 rfl (by decide) rfl ?_
        have key73 : ∀ (d : Nat) (i : Int) (sz : Nat), 0 ≤ i ∧ i ≤ 4 → (4 - i).toNat = d → V l G A rmI RX11 "<init>" cX11_init 2 none Q nX 2 49236 (rM M r (in3N i.toNat) (fun _ => 0) 0 0 0) sz 73 [some (.ref r), some (.int (iI i))] [] := by
          intro d
          induction d using Nat.strongRecOn with
          | ind d ih73 =>
            intro i  sz hi hd73
            refine V_iload_n dX11_init_73 rfl ?_
            refine V_iconst (v := iI (4)) dX11_init_74 rfl ?_
            refine I_icmp_ge (tgt := 105) dX11_init_75 (by decide) ⟨by omega, by omega⟩ ⟨by omega, by omega⟩ (fun h75 => ?_) (fun h75 => ?_)
            · rw [show i = 4 by omega]
              refine V_iconst (v := iI (0)) dX11_init_105 rfl ?_
              refine V_istore_n (L' := [some _, some _]) dX11_init_106 rfl (by decide) rfl ?_
              have key107 : ∀ (d : Nat) (i : Int) (sz : Nat), 0 ≤ i ∧ i ≤ 15 → (15 - i).toNat = d → V l G A rmI RX11 "<init>" cX11_init 2 none Q nX 2 49236 (rM M r (in4N i.toNat) (fun _ => 0) 0 0 0) sz 107 [some (.ref r), some (.int (iI i))] [] := by
                intro d
                induction d using Nat.strongRecOn with
                | ind d ih107 =>
                  intro i  sz hi hd107
                  refine V_iload_n dX11_init_107 rfl ?_
                  refine V_bipush (v := iI (15)) dX11_init_108 (by decide +kernel) ?_
                  refine I_icmp_ge (tgt := 134) dX11_init_110 (by decide) ⟨by omega, by omega⟩ ⟨by omega, by omega⟩ (fun h110 => ?_) (fun h110 => ?_)
                  · exact V_ret dX11_init_134 rfl (Nat.le_of_ble_eq_true rfl) (Nat.le_of_ble_eq_true rfl) (hQ _ _ _ ⟨rfl, by rw [show i = 15 by omega]; rfl⟩)
                  · refine V_aload_n dX11_init_113 rfl ?_
                    refine V_getf fX11_7 dX11_init_114 rM_0 rfl ?_
                    refine V_sipush (v := iI (4443)) dX11_init_117 (by decide +kernel) ?_
                    refine V_iconst (v := iI (4)) dX11_init_120 rfl ?_
                    refine V_iload_n dX11_init_121 rfl ?_
                    refine I_imul dX11_init_122 ?_
                    refine I_iadd dX11_init_123 ?_
                    refine V_iconst (v := iI (3)) dX11_init_124 rfl ?_
                    refine I_iadd dX11_init_125 ?_
                    refine V_iconst (v := iI (-1)) dX11_init_126 rfl ?_
                    refine R_iast dX11_init_127 ⟨by omega, by omega⟩ ?_
                    refine I_iinc (L' := [some _, some _]) dX11_init_128 rfl (by decide) rfl ?_
                    refine V_goto (tgt := 107) dX11_init_131 (by decide) ?_
                    exact V_eqM (by rw [← in4_s hi.1]) (V_wk' (ih107 _ (by omega) (i + 1) sz ⟨by omega, by omega⟩ rfl) ⟨rfl, rfl, trivial⟩)
              exact V_eqM rfl (V_wk' (key107 _ 0 sz ⟨by omega, by omega⟩ rfl) ⟨rfl, rfl, trivial⟩)
            · refine V_aload_n dX11_init_78 rfl ?_
              refine V_getf fX11_7 dX11_init_79 rM_0 rfl ?_
              refine V_bipush (v := iI (29)) dX11_init_82 (by decide +kernel) ?_
              refine V_iload_n dX11_init_84 rfl ?_
              refine I_iadd dX11_init_85 ?_
              refine V_bipush (v := iI (50)) dX11_init_86 (by decide +kernel) ?_
              refine R_iast dX11_init_88 ⟨by omega, by omega⟩ ?_
              refine V_aload_n dX11_init_89 rfl ?_
              refine V_getf fX11_7 dX11_init_90 rM_0 rfl ?_
              refine V_bipush (v := iI (50)) dX11_init_93 (by decide +kernel) ?_
              refine V_iload_n dX11_init_95 rfl ?_
              refine I_iadd dX11_init_96 ?_
              refine V_iconst (v := iI (-1)) dX11_init_97 rfl ?_
              refine R_iast dX11_init_98 ⟨by omega, by omega⟩ ?_
              refine I_iinc (L' := [some _, some _]) dX11_init_99 rfl (by decide) rfl ?_
              refine V_goto (tgt := 73) dX11_init_102 (by decide) ?_
              exact V_eqM (by rw [← in3_s hi.1]) (V_wk' (ih73 _ (by omega) (i + 1) sz ⟨by omega, by omega⟩ rfl) ⟨rfl, rfl, trivial⟩)
        exact V_eqM rfl (V_wk' (key73 _ 0 sz ⟨by omega, by omega⟩ rfl) ⟨rfl, rfl, trivial⟩)
      · refine V_aload_n dX11_init_54 rfl ?_
        refine V_getf fX11_7 dX11_init_55 rM_0 rfl ?_
        refine V_sipush (v := iI (3390)) dX11_init_58 (by decide +kernel) ?_
        refine V_iload_n dX11_init_61 rfl ?_
        refine I_iadd dX11_init_62 ?_
        refine V_iconst (v := iI (-1)) dX11_init_63 rfl ?_
        refine R_iast dX11_init_64 ⟨by omega, by omega⟩ ?_
        refine I_iinc (L' := [some _, some _]) dX11_init_65 rfl (by decide) rfl ?_
        refine V_goto (tgt := 49) dX11_init_68 (by decide) ?_
        exact V_eqM (by rw [← repN_s hi.1, Int.one_mul]) (V_wk' (ih49 _ (by omega) (i + 1) sz ⟨by omega, by omega⟩ rfl) ⟨rfl, rfl, trivial⟩)
  exact V_eqM rfl (V_wk' (key49 _ 0 sz ⟨by omega, by omega⟩ rfl) ⟨rfl, rfl, trivial⟩)
