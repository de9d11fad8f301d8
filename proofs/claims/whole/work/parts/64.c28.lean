theorem Rp.eqv {G : GG} {A : Nat → Prop} {M : ME} {H : Heap} {a : Nat} {e e' : Cel} (h : Rp G A M H) (hM : M a = some e) (he : va_at G.1 vwCl (a, toE G e) H → va_at G.1 vwCl (a, toE G e') H) : Rp G A (mu M a e') H := by
  obtain ⟨ws, hP, hD, hC⟩ := h
  obtain ⟨k, hk⟩ := hC a e hM
  exact Rp.set hk hD hC (hP.set hD hk (he (hP k _ hk)) (fun _ _ => rfl)) (hD.set hk)
theorem arrV_cg {cI : ClassId} {N : Nat} {f g : Nat → Value} (h : ∀ j, j < N → f j = g j) : arrV cI N f = arrV cI N g := by
  unfold arrV
  congr 1
  congr 1
  funext j
  exact h j.1 j.2
def pR (i : Int) (b s : Nat) : Nat → Option Nat := fun j => if (j : Int) < i then some (b + s * j) else none
theorem pR_0 {b s : Nat} : pR 0 b s = fun _ => none := by
  funext j; unfold pR; rw [if_neg (by omega)]
theorem pR_u {b s : Nat} {z : Int} (hz : 0 ≤ z) : va_up (pR z b s) z.toNat (some (b + s * z.toNat)) = pR (z + 1) b s := by
  funext j
  unfold va_up pR
  by_cases h : j = z.toNat
  · rw [if_pos h, if_pos (by omega), h]
  · rw [if_neg h]
    by_cases h2 : (j : Int) < z
    · rw [if_pos h2, if_pos (by omega)]
    · rw [if_neg h2, if_neg (by omega)]
theorem le_r {a b c : Nat} (h : a ≤ b) (h2 : b = c) : a ≤ c := h2 ▸ h
theorem pR_f {b s N : Nat} {z : Int} (h : z = N) : ∀ j : Nat, j < N → pR z b s j = some ((fun i : Int => b + s * i.toNat) (j : Int)) := fun j hj => by
  unfold pR; rw [if_pos (by omega)]; rfl
theorem Pm1 {b : Nat} {n : Int} : Pm b 1 n (fun i : Int => b + 1 * i.toNat) := fun i a c => ⟨by show b ≤ b + 1 * i.toNat; omega, by show b + 1 * i.toNat + 1 ≤ _; omega, fun j d e f => by show b + 1 * i.toNat + 1 ≤ b + 1 * j.toNat ∨ b + 1 * j.toNat + 1 ≤ b + 1 * i.toNat; omega⟩
theorem Pm2 {b : Nat} {n : Int} : Pm b 2 n (fun i : Int => b + 2 * i.toNat) := fun i a c => ⟨by show b ≤ b + 2 * i.toNat; omega, by show b + 2 * i.toNat + 2 ≤ _; omega, fun j d e f => by show b + 2 * i.toNat + 2 ≤ b + 2 * j.toNat ∨ b + 2 * j.toNat + 2 ≤ b + 2 * i.toNat; omega⟩
/-- contracts of constructors: from heap size sz to z -/
def CIn (l : Launch) (y : MethodName) (cc : ByteArray) (nL : Nat) (rm : Room) (c : Nat) (M : ME) (sz z : Nat) (P : ME → Prop) : Prop := Cn l y cc nL none rm [.ref c] M sz (fun v0 M0 z0 => v0 = none ∧ z0 = z ∧ P M0)
theorem CIn.of {l : Launch} {own nm : String} {cc : ByteArray} {nL : Nat} {R : Room} {c : Nat} {M : ME} {sz z : Nat} {P : ME → Prop} {y : MethodName} {L0 : List (Option Value)} (hy : plainName y.cls = true) (hown : y.cls = own) (hnm : y.name = nm) (hlen : (lg_sl [Value.ref c]).length ≤ nL) (hL0 : entL [.ref c] nL = L0) (body : ∀ (G : GG) (A : Nat → Prop) (Q : Option Value → ME → Nat → Prop), (∀ M0, P M0 → Q none M0 z) → V l G A R own nm cc nL none Q nX 0 0 M sz 0 L0 []) : CIn l y cc nL R c M sz z P := Cn.of hy hown hnm hlen hL0 fun G A => body G A _ (fun _ h => ⟨rfl, rfl, h⟩)
section CTR
variable {l : Launch} {G : GG} {A : Nat → Prop} {R : Room} {own nm : String} {cc : ByteArray} {nL : Nat} {ret : Option FieldType} {Q : Option Value → ME → Nat → Prop} {X : String → ME → Prop} {k n : Nat} {M : ME} {sz : Nat} {pc : Nat} {L : List (Option Value)} {st : List Value}
theorem V_nw {idx ci f : Nat} {r : vw_C} {t0 : Nat → FieldType} {fs : List Value} (hf : r.2.2 = f) (hC0 : CLok ci r t0) (hfs : ∀ j, j < r.2.2 → defaultValue (t0 j) = vp_V fs j) (hw1 : Cond.classLink own idx r.1 ∈ tb) (hw2 : Cond.instantiable r.1 r.2.2 ∈ tb) (hw3 : Cond.initialized r.1 ∈ tb) (hd : decode cc pc = .ok (.new idx, 3)) (hk : k + 1 ≤ R.cells) (hn : n + f ≤ R.slots) (kk : V l G A R own nm cc nL ret Q X (k + 1) (n + f) (mu M sz (.inl (ci, fs))) (sz + 1) (pc + 3) L (.ref sz :: st)) : V l G A R own nm cc nL ret Q X k n M sz pc L st := by
  subst hf
  exact V_new hC0 hfs hw1 hw2 hw3 hd hk hn kk
theorem V_sz {sz' : Nat} (h : sz = sz') (kk : V l G A R own nm cc nL ret Q X k n M sz' pc L st) : V l G A R own nm cc nL ret Q X k n M sz pc L st := h ▸ kk
theorem V_full {a t N : Nat} {g : Nat → Option Nat} (f : Int → Nat) (hM : M a = some (ar t N g)) (h : ∀ j : Nat, j < N → g j = some (f (j : Int))) (kk : V l G A R own nm cc nL ret Q X k n (mu M a (aR t N f)) sz pc L st) : V l G A R own nm cc nL ret Q X k n M sz pc L st := by
  intro p e s m args below meth c H locs ls C hR hz hS hl
  refine kk p e s m args below meth c H locs ls C (hR.eqv hM fun hv => ?_) hz hS hl
  have hv' : H[a]? = some (arrV (G.2 t) N (fun j => va_rf (g j))) := hv
  show H[a]? = some (arrV (G.2 t) N (fun j => va_rf (some (f (j : Int)))))
  rw [hv', arrV_cg (fun j hj => by rw [h j hj])]
theorem V_fill {a t N ci b s : Nat} {z : Int} {vs : List Value} (hT : arOf t ci) (hd : decode cc pc = .ok (.aastore, 1)) (hM : M a = some (ar t N (pR z b s))) (hv : M (b + s * z.toNat) = some (.inl (ci, vs))) (hz : 0 ≤ z ∧ z < N) (hN : N < 2 ^ 31) (kk : V l G A R own nm cc nL ret Q X k n (mu M a (ar t N (pR (z + 1) b s))) sz (pc + 1) L st) : V l G A R own nm cc nL ret Q X k n M sz pc L (.ref (b + s * z.toNat) :: .int (iI z) :: .ref a :: st) := by
  rw [iI_toN hz.1]
  refine V_aast hT hd hM hv (by omega) hN ?_
  rw [pR_u hz.1]; exact kk
theorem V_kN {idx b z : Nat} (ce sl : Nat) {y : MethodName} {host : String} {cc' : ByteArray} {nL' : Nat} {rm : Room} {P : ME → Prop} (hC0 : CIn l y cc' nL' rm b M sz z P) (hL : LN own idx y host 0) (hcode : Cond.code y cc' nL' none ∈ tb) (hce : rm.cells = ce) (hsl : rm.slots = sl) (hd : decode cc pc = .ok (.invokespecial idx, 3)) (hR : rm.frames + 1 ≤ R.frames ∧ 8 + (nL' + 11) + rm.locals ≤ R.locals) (hW : (st.map fun v => v.category).sum ≤ 8) (hkn : k + ce ≤ R.cells ∧ n + sl ≤ R.slots) (kk : ∀ M' : ME, P M' → V l G A R own nm cc nL ret Q X (k + ce) (n + sl) M' z (pc + 3) L st) : V l G A R own nm cc nL ret Q X k n M sz pc L (.ref b :: st) := by
  subst hce; subst hsl
  exact
  V_callN (vs := []) hC0 hL hcode hd rfl rfl hR hW hkn (fun v M' sz' h => by
    obtain ⟨h1, h2, h3⟩ := h
    subst h1; subst h2
    exact kk M' h3)
theorem V_kI {idx b z : Nat} (ce sl : Nat) {y : MethodName} {cc' : ByteArray} {nL' : Nat} {rm : Room} {P : ME → Prop} (hC0 : CIn l y cc' nL' rm b M sz z P) (hL : LI own idx y 0) (hcode : Cond.code y cc' nL' none ∈ tb) (hce : rm.cells = ce) (hsl : rm.slots = sl) (hd : decode cc pc = .ok (.invokespecial idx, 3)) (hR : rm.frames + 1 ≤ R.frames ∧ 8 + (nL' + 11) + rm.locals ≤ R.locals) (hW : (st.map fun v => v.category).sum ≤ 8) (hkn : k + ce ≤ R.cells ∧ n + sl ≤ R.slots) (kk : ∀ M' : ME, P M' → V l G A R own nm cc nL ret Q X (k + ce) (n + sl) M' z (pc + 3) L st) : V l G A R own nm cc nL ret Q X k n M sz pc L (.ref b :: st) := by
  subst hce; subst hsl
  exact
  V_callI (vs := []) hC0 hL hcode hd rfl rfl hR hW hkn (fun v M' sz' h => by
    obtain ⟨h1, h2, h3⟩ := h
    subst h1; subst h2
    exact kk M' h3)
end CTR
theorem dft {n : Nat} {t0 : Nat → FieldType} {fs : List Value} (h : ∀ i : Fin n, defaultValue (t0 i.1) = vp_V fs i.1) : ∀ j, j < n → defaultValue (t0 j) = vp_V fs j := fun j hj => h ⟨j, hj⟩

theorem in0_a : Cond.instantiable RX0 2 ∈ tb := tb_in 139 (by decide +kernel) rfl
theorem in0_b : Cond.initialized RX0 ∈ tb := tb_in 48 (by decide +kernel) rfl

theorem in1_a : Cond.instantiable RX1 5 ∈ tb := tb_in 146 (by decide +kernel) rfl
theorem in1_b : Cond.initialized RX1 ∈ tb := tb_in 49 (by decide +kernel) rfl

theorem in2_a : Cond.instantiable RX2 5 ∈ tb := tb_in 87 (by decide +kernel) rfl
theorem in2_b : Cond.initialized RX2 ∈ tb := tb_in 46 (by decide +kernel) rfl

theorem in3_a : Cond.instantiable RX3 5 ∈ tb := tb_in 274 (by decide +kernel) rfl
theorem in3_b : Cond.initialized RX3 ∈ tb := tb_in 53 (by decide +kernel) rfl

theorem in4_a : Cond.instantiable RX4 6 ∈ tb := tb_in 201 (by decide +kernel) rfl
theorem in4_b : Cond.initialized RX4 ∈ tb := tb_in 51 (by decide +kernel) rfl

theorem in5_a : Cond.instantiable RX5 9 ∈ tb := tb_in 131 (by decide +kernel) rfl
theorem in5_b : Cond.initialized RX5 ∈ tb := tb_in 47 (by decide +kernel) rfl

theorem in6_a : Cond.instantiable RX6 11 ∈ tb := tb_in 267 (by decide +kernel) rfl
theorem in6_b : Cond.initialized RX6 ∈ tb := tb_in 52 (by decide +kernel) rfl

theorem in7_a : Cond.instantiable RX7 9 ∈ tb := tb_in 72 (by decide +kernel) rfl
theorem in7_b : Cond.initialized RX7 ∈ tb := tb_in 44 (by decide +kernel) rfl

theorem in8_a : Cond.instantiable RX8 3 ∈ tb := tb_in 182 (by decide +kernel) rfl
theorem in8_b : Cond.initialized RX8 ∈ tb := tb_in 50 (by decide +kernel) rfl

theorem in9_a : Cond.instantiable RX9 2 ∈ tb := tb_in 80 (by decide +kernel) rfl
theorem in9_b : Cond.initialized RX9 ∈ tb := tb_in 45 (by decide +kernel) rfl

theorem in10_a : Cond.instantiable RX10 3 ∈ tb := tb_in 64 (by decide +kernel) rfl
theorem in10_b : Cond.initialized RX10 ∈ tb := tb_in 43 (by decide +kernel) rfl

theorem in11_a : Cond.instantiable RX11 5 ∈ tb := tb_in 966 (by decide +kernel) rfl
theorem in11_b : Cond.initialized RX11 ∈ tb := tb_in 54 (by decide +kernel) rfl

theorem df0 : ∀ j, j < 2 → defaultValue (tyX0 j) = vp_V [.int (iI 0), .null] j := by
  intro j hj
  rcases (show j = 0 ∨ j = 1 by omega) with rfl | rfl <;> rfl

theorem df1 : ∀ j, j < 5 → defaultValue (tyX1 j) = vp_V [.int (iI 0), .int (iI 0), .int (iI 0), .int (iI 0), .null] j := by
  intro j hj
  rcases (show j = 0 ∨ j = 1 ∨ j = 2 ∨ j = 3 ∨ j = 4 by omega) with rfl | rfl | rfl | rfl | rfl <;> rfl

theorem df2 : ∀ j, j < 5 → defaultValue (tyX2 j) = vp_V [.int (iI 0), .int (iI 0), .long (lI 0), .long (lI 0), .null] j := by
  intro j hj
  rcases (show j = 0 ∨ j = 1 ∨ j = 2 ∨ j = 3 ∨ j = 4 by omega) with rfl | rfl | rfl | rfl | rfl <;> rfl

theorem df3 : ∀ j, j < 5 → defaultValue (tyX3 j) = vp_V [.int (iI 0), .int (iI 0), .int (iI 0), .int (iI 0), .int (iI 0)] j := by
  intro j hj
  rcases (show j = 0 ∨ j = 1 ∨ j = 2 ∨ j = 3 ∨ j = 4 by omega) with rfl | rfl | rfl | rfl | rfl <;> rfl

theorem df4 : ∀ j, j < 6 → defaultValue (tyX4 j) = vp_V [.int (iI 0), .int (iI 0), .int (iI 0), .int (iI 0), .int (iI 0), .null] j := by
  intro j hj
  rcases (show j = 0 ∨ j = 1 ∨ j = 2 ∨ j = 3 ∨ j = 4 ∨ j = 5 by omega) with rfl | rfl | rfl | rfl | rfl | rfl <;> rfl

theorem df5 : ∀ j, j < 9 → defaultValue (tyX5 j) = vp_V [.int (iI 0), .null, .null, .null, .null, .null, .null, .null, .null] j := by
  intro j hj
  rcases (show j = 0 ∨ j = 1 ∨ j = 2 ∨ j = 3 ∨ j = 4 ∨ j = 5 ∨ j = 6 ∨ j = 7 ∨ j = 8 by omega) with rfl | rfl | rfl | rfl | rfl | rfl | rfl | rfl | rfl <;> rfl

theorem df6 : ∀ j, j < 11 → defaultValue (tyX6 j) = vp_V [.int (iI 0), .int (iI 0), .int (iI 0), .int (iI 0), .int (iI 0), .int (iI 0), .int (iI 0), .int (iI 0), .int (iI 0), .int (iI 0), .null] j := by
  intro j hj
  rcases (show j = 0 ∨ j = 1 ∨ j = 2 ∨ j = 3 ∨ j = 4 ∨ j = 5 ∨ j = 6 ∨ j = 7 ∨ j = 8 ∨ j = 9 ∨ j = 10 by omega) with rfl | rfl | rfl | rfl | rfl | rfl | rfl | rfl | rfl | rfl | rfl <;> rfl

theorem df7 : ∀ j, j < 9 → defaultValue (tyX7 j) = vp_V [.int (iI 0), .int (iI 0), .int (iI 0), .int (iI 0), .int (iI 0), .null, .null, .null, .null] j := by
  intro j hj
  rcases (show j = 0 ∨ j = 1 ∨ j = 2 ∨ j = 3 ∨ j = 4 ∨ j = 5 ∨ j = 6 ∨ j = 7 ∨ j = 8 by omega) with rfl | rfl | rfl | rfl | rfl | rfl | rfl | rfl | rfl <;> rfl

theorem df8 : ∀ j, j < 3 → defaultValue (tyX8 j) = vp_V [.int (iI 0), .null, .null] j := by
  intro j hj
  rcases (show j = 0 ∨ j = 1 ∨ j = 2 by omega) with rfl | rfl | rfl <;> rfl

theorem df9 : ∀ j, j < 2 → defaultValue (tyX9 j) = vp_V [.int (iI 0), .null] j := by
  intro j hj
  rcases (show j = 0 ∨ j = 1 by omega) with rfl | rfl <;> rfl

theorem df10 : ∀ j, j < 3 → defaultValue (tyX10 j) = vp_V [.null, .null, .int (iI 0)] j := by
  intro j hj
  rcases (show j = 0 ∨ j = 1 ∨ j = 2 by omega) with rfl | rfl | rfl <;> rfl

theorem df11 : ∀ j, j < 5 → defaultValue (tyX11 j) = vp_V [.null, .null, .int (iI 0), .int (iI 0), .long (lI 0)] j := by
  intro j hj
  rcases (show j = 0 ∨ j = 1 ∨ j = 2 ∨ j = 3 ∨ j = 4 by omega) with rfl | rfl | rfl | rfl | rfl <;> rfl

abbrev rI3 : Room := { frames := 2, cells := 0, slots := 0, locals := 80 }

set_option maxRecDepth 100000 in
set_option maxHeartbeats 4000000 in
theorem nw3 (l : Launch) (M : ME) (c sz : Nat) (hM : M c = some (.inl (3, [.int (iI 0), .int (iI 0), .int (iI 0), .int (iI 0), .int (iI 0)]))) : CIn l yX3_init cX3_init 1 rI3 c M sz (sz) (fun M' => M' = M) := by
  refine CIn.of (L0 := [some _]) (by decide +kernel) rfl rfl (Nat.le_of_ble_eq_true rfl) rfl (fun G A Q hQ => ?_)
  refine V_aload_n dX3_init_0 rfl ?_
  refine V_objInit mX3_3 oi_inst oi_code dX3_init_1 (by decide) (by decide) ?_
  refine V_sz (sz' := sz) (by omega) ?_
  exact V_ret dX3_init_4 rfl (le_r (b := 0) (by omega) rfl) (le_r (b := 0) (by omega) rfl) (hQ _ rfl)

abbrev rI2 : Room := { frames := 2, cells := 1, slots := 46, locals := 80 }

set_option maxRecDepth 100000 in
set_option maxHeartbeats 4000000 in
theorem nw2 (l : Launch) (M : ME) (c : Nat) (hM : M c = some (.inl (2, [.int (iI 0), .int (iI 0), .long (lI 0), .long (lI 0), .null]))) : CIn l yX2_init cX2_init 1 rI2 c M (c + 1) (c + 2) (fun M' => (∃ φ, FO M' c φ 0) ∧ FR M M' c 2) := by
  refine CIn.of (L0 := [some _]) (by decide +kernel) rfl rfl (Nat.le_of_ble_eq_true rfl) rfl (fun G A Q hQ => ?_)
  refine V_aload_n dX2_init_0 rfl ?_
  refine V_objInit mX2_3 oi_inst oi_code dX2_init_1 (by decide) (by decide) ?_
  refine V_aload_n dX2_init_4 rfl ?_
  refine V_bipush (v := iI (8)) dX2_init_5 (by decide +kernel) ?_
  refine V_putf fX2_9 dX2_init_7 hM rfl rfl (by simp) ?_
  refine V_aload_n dX2_init_10 rfl ?_
  refine V_iconst (v := iI (0)) dX2_init_11 rfl ?_
  refine V_putf fX2_15 dX2_init_12 mu_eq rfl rfl (by simp) ?_
  refine V_aload_n dX2_init_15 rfl ?_
  refine V_lconst (v := lI 0) dX2_init_16 rfl ?_
  refine V_putf fX2_19 dX2_init_17 mu_eq rfl rfl (by simp) ?_
  refine V_aload_n dX2_init_20 rfl ?_
  refine V_lconst (v := lI 0) dX2_init_21 rfl ?_
  refine V_putf fX2_23 dX2_init_22 mu_eq rfl rfl (by simp) ?_
  refine V_aload_n dX2_init_25 rfl ?_
  refine V_bipush (v := nI (46)) dX2_init_26 (by decide +kernel) ?_
  refine V_sz (sz' := (c + 1)) (by omega) ?_
  refine V_newi (N := 46) ac_int dX2_init_28 (by decide) (le_r (b := 1) (by omega) rfl) (le_r (b := 46) (by omega) rfl) ?_
  refine V_putF fX2_26 dX2_init_30 ((mu_ne (by omega)).trans mu_eq) rfl rfl (by simp) rfl rfl ?_
  refine V_gen (fun K hK => ?_)
  have gK0 := (congrFun hK c).trans mu_eq
  have gK1 := (congrFun hK (c + 1)).trans ((mu_ne (by omega)).trans mu_eq)
  have hKo : ∀ q, q ≠ c → q ≠ c + 1 → K q = M q := fun q u v => by
    rw [hK]; simp only [mu]; simp only [if_neg u, if_neg v]
  have hO : FO K c (fun q => if q = 0 then 8 else 0) 0 := ⟨fun _ => 0, gK0, gK1, by decide, fun k u v => by omega⟩
  refine V_sz (sz' := c + 2) (by omega) ?_
  exact V_ret dX2_init_33 rfl (le_r (b := 1) (by omega) rfl) (le_r (b := 46) (by omega) rfl) (hQ _ ⟨⟨_, hO⟩, (fun q hq => hKo q (by omega) (by omega))⟩)

abbrev rI1 : Room := { frames := 2, cells := 1, slots := 255, locals := 80 }

set_option maxRecDepth 100000 in
set_option maxHeartbeats 4000000 in
theorem nw1 (l : Launch) (M : ME) (c : Nat) (hM : M c = some (.inl (1, [.int (iI 0), .int (iI 0), .int (iI 0), .int (iI 0), .null]))) : CIn l yX1_init cX1_init 1 rI1 c M (c + 1) (c + 2) (fun M' => (∃ φ, DR M' c φ 0) ∧ FR M M' c 2) := by
  refine CIn.of (L0 := [some _]) (by decide +kernel) rfl rfl (Nat.le_of_ble_eq_true rfl) rfl (fun G A Q hQ => ?_)
  refine V_aload_n dX1_init_0 rfl ?_
  refine V_objInit mX1_3 oi_inst oi_code dX1_init_1 (by decide) (by decide) ?_
  refine V_aload_n dX1_init_4 rfl ?_
  refine V_sipush (v := nI (255)) dX1_init_5 (by decide +kernel) ?_
  refine V_sz (sz' := (c + 1)) (by omega) ?_
  refine V_newi (N := 255) ac_int dX1_init_8 (by decide) (le_r (b := 1) (by omega) rfl) (le_r (b := 255) (by omega) rfl) ?_
  refine V_putF fX1_9 dX1_init_10 ((mu_ne (by omega)).trans hM) rfl rfl (by simp) rfl rfl ?_
  refine V_gen (fun K hK => ?_)
  have gK0 := (congrFun hK c).trans mu_eq
  have gK1 := (congrFun hK (c + 1)).trans ((mu_ne (by omega)).trans mu_eq)
  have hKo : ∀ q, q ≠ c → q ≠ c + 1 → K q = M q := fun q u v => by
    rw [hK]; simp only [mu]; simp only [if_neg u, if_neg v]
  have hO : DR K c (fun _ => 0) 0 := ⟨fun _ => 0, gK0, gK1, fun k u v => by omega⟩
  refine V_sz (sz' := c + 2) (by omega) ?_
  exact V_ret dX1_init_13 rfl (le_r (b := 1) (by omega) rfl) (le_r (b := 255) (by omega) rfl) (hQ _ ⟨⟨_, hO⟩, (fun q hq => hKo q (by omega) (by omega))⟩)
