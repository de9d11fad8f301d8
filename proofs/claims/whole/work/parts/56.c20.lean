/-- contracts of methods that may throw -/
def CX (l : Launch) (y : MethodName) (cc : ByteArray) (nL : Nat) (ret : Option FieldType) (rm : Room) (vs : List Value) (M : ME) (P : Option Value → ME → Prop) (PX : String → ME → Prop) : Prop := ∀ sz : Nat, CnX l y cc nL ret rm vs M sz (fun v0 M0 _ => P v0 M0) PX
theorem CX.of {l : Launch} {own nm : String} {cc : ByteArray} {nL : Nat} {ret : Option FieldType} {R : Room} {M : ME} {P : Option Value → ME → Prop} {PX : String → ME → Prop} {y : MethodName} {vs : List Value} {L0 : List (Option Value)} (hy : plainName y.cls = true) (hown : y.cls = own) (hnm : y.name = nm) (hlen : (lg_sl vs).length ≤ nL) (hL0 : entL vs nL = L0) (body : ∀ (G : GG) (A : Nat → Prop) (Q : Option Value → ME → Nat → Prop) (X : String → ME → Prop) (sz : Nat), (∀ v0 M0 z, P v0 M0 → Q v0 M0 z) → (∀ E M0, PX E M0 → X E M0) → V l G A R own nm cc nL ret Q X 0 0 M sz 0 L0 []) : CX l y cc nL ret R vs M P PX := fun sz => CnX.of hy hown hnm hlen hL0 fun G A => body G A _ _ sz (fun _ _ _ h => h) (fun _ _ h => h)
abbrev rmX (h : Nat) : Room := { frames := h + 1, cells := 1, slots := 6, locals := 32 * (h + 1) }
section VTW
variable {l : Launch} {G : GG} {A : Nat → Prop} {R : Room} {own nm : String} {cc : ByteArray} {nL : Nat} {ret : Option FieldType} {Q : Option Value → ME → Nat → Prop} {X : String → ME → Prop} {k n : Nat} {M : ME} {sz : Nat} {pc : Nat} {L : List (Option Value)} {st : List Value}
theorem V_throwW {cls text : String} {names : List String} {ik is ic : Nat} (hfl : l.stackTraces = false) (hcls : Bundle.fit cls = true) (hnames : ∀ n ∈ names, Bundle.fit n = true) (hw1 : Cond.classLink own ik cls ∈ tb) (hw2 : Cond.initialized cls ∈ tb) (hstr : (own, is, text) ∈ tbS)
    (hat1 : ∀ w ∈ (vx_atS own ic cls names).filter goodWord, w ∈ tb) (hat2 : ∀ w ∈ (vx_atS own ic cls names).filter (fun w => !goodWord w), w ∈ tbx) (hgood : (Cond.classLink own ik cls :: Cond.initialized cls :: vx_atS own ic cls names).all vx_ot = true)
    (d0 : decode cc pc = .ok (.new ik, 3)) (d3 : decode cc (pc + 3) = .ok (.dup, 1)) (d4 : decode cc (pc + 4) = .ok (.ldc_w is, 3)) (d7 : decode cc (pc + 7) = .ok (.invokespecial ic, 3)) (d10 : decode cc (pc + 10) = .ok (.athrow, 1))
    (hRf : names.length + 3 < R.frames) (hRl : (st.map fun v => v.category).sum + (13 * (names.length + 1) + 43) ≤ R.locals) (hk : k + 1 ≤ R.cells) (hn : n + 6 ≤ R.slots) (hX : X cls M) : V l G A R own nm cc nL ret Q X k n M sz pc L st := by
  intro p e s m args below meth c H locs ls C hR hz hS hl
  have hts := C.2.2.2.2.2.1
  obtain ⟨sa, hsa⟩ := C.2.2.2.2.2.2.2.2.2.1.2.2.2 _ hstr
  refine vx_throwSW C.1 C.2.1 hfl C.2.2.2.2.1 hcls hnames (hts _ hw1) (hts _ hw2) hsa ?_ (fun w hw => List.all_eq_true.mp hgood w hw) C.2.2.2.2.2.2.2.2.2.2.1.1 C.2.2.2.2.2.2.2.2.2.2.1.2 hS (hl.1.trans C.2.2.1.symm) d0 d3 d4 d7 d10 (fun x hx => (C.2.2.2.2.2.2.2.1 x hx).elim) hRf hRl hk hn C.2.2.2.2.2.2.1 ?_ hS.2.2 hk hn
  · intro w hw
    by_cases hg : goodWord w = true
    · exact hts _ (hat1 w (List.mem_filter.mpr ⟨hw, hg⟩))
    · have h1 := hat2 w (List.mem_filter.mpr ⟨hw, by simpa using hg⟩)
      exact va_Nw.use (Xw_on (List.mem_filter.mp h1).2) (C.2.2.2.2.2.2.2.2.2.1.2.1 w h1)
  · intro t ha hle hk
    exact ⟨⟨M, hX, hR.kept hk⟩, Nat.le_trans hS.1 hle, fun q q1 q2 => (hk q (Nat.lt_of_lt_of_le q1 hS.1)).trans (hS.2.1 q q1 q2)⟩
theorem V_iaeW {text : String} {is : Nat} (hfl : l.stackTraces = false) (hstr : (RX10, is, text) ∈ tbS) (d0 : decode cc pc = .ok (.new 28, 3)) (d3 : decode cc (pc + 3) = .ok (.dup, 1)) (d4 : decode cc (pc + 4) = .ok (.ldc_w is, 3)) (d7 : decode cc (pc + 7) = .ok (.invokespecial 32, 3)) (d10 : decode cc (pc + 10) = .ok (.athrow, 1)) (hRf : 5 < R.frames) (hRl : (st.map fun v => v.category).sum + 82 ≤ R.locals) (hk : k + 1 ≤ R.cells) (hn : n + 6 ≤ R.slots) (hX : X iae M) : V l G A R RX10 nm cc nL ret Q X k n M sz pc L st :=
  V_throwW (names := exN) hfl (by decide +kernel) th_f kX10_28 ini_iae hstr (th_sub at_iae1) at_iae2 at_iae3 d0 d3 d4 d7 d10 hRf hRl hk hn hX
theorem V_iseW {text : String} {is : Nat} (hfl : l.stackTraces = false) (hstr : (RX10, is, text) ∈ tbS) (d0 : decode cc pc = .ok (.new 39, 3)) (d3 : decode cc (pc + 3) = .ok (.dup, 1)) (d4 : decode cc (pc + 4) = .ok (.ldc_w is, 3)) (d7 : decode cc (pc + 7) = .ok (.invokespecial 43, 3)) (d10 : decode cc (pc + 10) = .ok (.athrow, 1)) (hRf : 5 < R.frames) (hRl : (st.map fun v => v.category).sum + 82 ≤ R.locals) (hk : k + 1 ≤ R.cells) (hn : n + 6 ≤ R.slots) (hX : X ise M) : V l G A R RX10 nm cc nL ret Q X k n M sz pc L st :=
  V_throwW (names := exN) hfl (by decide +kernel) th_f kX10_39 ini_ise hstr (th_sub at_ise1) at_ise2 at_ise3 d0 d3 d4 d7 d10 hRf hRl hk hn hX
end VTW

/-- the places of the four states -/
def Ds (x a : Nat) : Prop := a = x + 1 ∨ a = x + 267 ∨ a = x + 532 ∨ a = x + 797
abbrev tlO (x a : Nat) (sv : Int) : Cel := .inl (10, [.ref a, .ref (x + 266), .int (iI sv)])
def Df (x a : Nat) (f : Int → Nat) : Prop := Ds x a ∧ ∀ i, 0 ≤ i → i < 3 → Ds x (f i) ∧ f i ≠ a ∧ ∀ j, 0 ≤ j → j < 3 → i ≠ j → f i ≠ f j
theorem Ds.d {x a b : Nat} (h : Ds x a) (h' : Ds x b) (hn : a ≠ b) : (a + 265 ≤ b ∨ b + 265 ≤ a) ∧ (x < a ∧ a + 265 ≤ x + 1062) ∧ (a + 265 ≤ x + 266 ∨ x + 267 ≤ a) := by unfold Ds at h h'; omega
theorem Ds.b {x a : Nat} (h : Ds x a) : (x < a ∧ a + 265 ≤ x + 1062) ∧ (a + 265 ≤ x + 266 ∨ x + 267 ≤ a) := by unfold Ds at h; omega
/-- the object at x (1062 cells): row ρ now, sv rows of π saved -/
def TL (M : ME) (x : Nat) (ρ π : Int → Int) (sv : Int) : Prop := ∃ (a : Nat) (f : Int → Nat), M x = some (tlO x a sv) ∧ M (x + 266) = some (aR 7 3 f) ∧ Df x a f ∧ St M a ρ ∧ (∀ i, 0 ≤ i → i < sv → St M (f i) (sl π (12309 * i))) ∧ ∀ i, 0 ≤ i → sv ≤ i → i < 3 → ∃ ρ', St M (f i) ρ' ∧ Wr ρ' ∧ RI ρ'
theorem Df.rot {x a : Nat} {f : Int → Nat} (h : Df x a f) : Df x a (rot f 3) := by
  refine ⟨h.1, fun i a0 b => ?_⟩
  rw [rot_e a0]
  have b1 := rti_b (s := 3) (n := 3) (by omega) ⟨a0, b⟩
  obtain ⟨p1, p2, p3⟩ := h.2 _ b1.1 b1.2
  refine ⟨p1, p2, fun j j0 j1 e => ?_⟩
  rw [rot_e j0]
  have b2 := rti_b (s := 3) (n := 3) (by omega) ⟨j0, j1⟩
  exact p3 _ b2.1 b2.2 (by unfold rti; omega)
theorem svP_3 {ρ π : Int → Int} {q : Int} (h : 0 ≤ q ∧ q < 24618) : svP ρ π 3 q = π (12309 + q) := by
  unfold svP pcp
  rw [if_pos rfl, if_neg (by omega), shl_i (by omega), Int.add_comm]
theorem svP_l {ρ π : Int → Int} {sv q : Int} (hv : 0 ≤ sv ∧ sv ≤ 3) (h : 0 ≤ q ∧ q < 12309) : svP ρ π sv (12309 * (svS sv - 1) + q) = ρ q := by
  unfold svP svS pcp
  by_cases e : sv = 3
  · rw [if_pos e, if_pos e, if_pos (by omega)]; congr 1; omega
  · rw [if_neg e, if_neg e, if_pos (by omega)]; congr 1; omega
theorem svP_o {ρ π : Int → Int} {sv q : Int} (h : ¬ sv = 3) (hq : q < 12309 * sv) : svP ρ π sv q = π q := by
  unfold svP pcp
  rw [if_neg h, if_neg (by omega)]

set_option maxRecDepth 100000 in
set_option maxHeartbeats 4000000 in
theorem s_enqueue (l : Launch) (M : ME) (S : Nat) (ρ : Int → Int) (hS : St M S ρ) (hI : SI ρ) (hW : Wr ρ) (hR : RI ρ) (hX : ∀ a, 0 ≤ a → a ≤ 14 → 0 ≤ ρ (10 + a) ∧ ρ (10 + a) ≤ 255) (c a n s : Int) (hc : 0 ≤ c ∧ c ≤ 3) (hm : ρ (54 + c) ≤ 12) (ha : 0 ≤ a ∧ a ≤ 14) (hn : 1 ≤ n ∧ n ≤ 50) (hs : 0 ≤ s ∧ s ≤ 255) : CP l yX7_enqueue cX7_enqueue 6 (some .int) (rmN 3) [.ref S, .int (iI c), .int (iI a), .int (iI n), .int (iI s)] M (fun v M' => v = some (.int (iI (ρ (10 + a)))) ∧ St M' S (rputs (up ρ (10 + a) ((ρ (10 + a) + 1) % 256)) c a (ρ (10 + a)) n s) ∧ FR M M' S 265) := by
  obtain ⟨sq, h1, h2, h3, h4⟩ := id hS.1
  have hkA : scA S c = S + 205 + 15 * c.toNat := rfl
  obtain ⟨fy, py, y0, -⟩ := id (hS.2.1 c hc.1 (by omega))
  refine CP.of (L0 := [some _, some _, some _, some _, some _, none]) (by decide +kernel) rfl rfl (Nat.le_of_ble_eq_true rfl) rfl (fun G A Q sz hQ => ?_)
  refine V_aload_n dX7_enqueue_0 rfl ?_
  refine V_getf fX7_27 dX7_enqueue_1 h1 rfl ?_
  refine V_iload_n dX7_enqueue_4 rfl ?_
  refine I_iald dX7_enqueue_5 h2 ⟨by omega, by omega⟩ (by decide) ?_
  refine V_istore (L' := [some _, some _, some _, some _, some _, some _]) dX7_enqueue_6 (by decide) rfl ?_
  rw [h4 a ha.1 (by omega)]
  refine V_aload_n dX7_enqueue_8 rfl ?_
  refine V_getf fX7_27 dX7_enqueue_9 h1 rfl ?_
  refine V_iload_n dX7_enqueue_12 rfl ?_
  refine V_iload dX7_enqueue_13 rfl ?_
  refine V_iconst (v := iI (1)) dX7_enqueue_15 rfl ?_
  refine I_iadd dX7_enqueue_16 ?_
  refine V_sipush (v := iI (255)) dX7_enqueue_17 (by decide +kernel) ?_
  first | refine I_and255 dX7_enqueue_20 ?_ | refine I_and65535 dX7_enqueue_20 ?_ | refine I_and31 dX7_enqueue_20 ?_
  refine I_iast dX7_enqueue_21 h2 ⟨by omega, by omega⟩ (by decide) ?_
  refine V_gen (fun W1 hW1 => ?_)
  have gW10 := (congrFun hW1 S).trans ((mu_ne (by omega)).trans h1)
  have gW11 := (congrFun hW1 (S + 2)).trans ((mu_ne (by omega)).trans h3)
  have hW1o : ∀ q, q ≠ S + 1 → W1 q = M q := fun q z => by rw [hW1, mu_ne z]
  have hSw : SC W1 (scA S c) (up ρ (10 + a) ((ρ (10 + a) + 1) % 256)) c := (hS.2.1 c hc.1 (by omega)).mv (fun q z w => hW1o q (by omega)) (fun q hq => up_n (by unfold chq at hq; omega))
  have hq10 := hX a ha.1 ha.2
  have h5 := hI.2.2.1
  have hQc := (hI.2.1 c hc.1 hc.2).1
  have hAP := c6_app l W1 (scA S c) _ c hc hSw ((QE.up hc (by omega)).s hQc) (by rw [up_n (by omega)]; exact hm) a (ρ (10 + a)) n s (by omega) hq10 hn hs (by rw [up_n (by omega)]; omega)
  rw [up_n (show (3 : Int) ≠ 10 + a by omega)] at hAP
  refine V_aload_n dX7_enqueue_22 rfl ?_
  refine V_getf fX7_33 dX7_enqueue_23 gW10 rfl ?_
  refine V_iload_n dX7_enqueue_26 rfl ?_
  refine I_aald ao6 dX7_enqueue_27 gW11 ⟨by omega, by omega⟩ (by decide) ?_
  refine V_iload_n dX7_enqueue_28 rfl ?_
  refine V_iload dX7_enqueue_29 rfl ?_
  refine V_iload_n dX7_enqueue_31 rfl ?_
  refine V_iload dX7_enqueue_32 rfl ?_
  refine V_aload_n dX7_enqueue_34 rfl ?_
  refine V_getf fX7_21 dX7_enqueue_35 gW10 rfl ?_
  refine V_cVE0 (vs := [_, _, _, _, _]) hAP mX7_71 coX6_append dX7_enqueue_38 ((congrFun hW1 (scA S c)).trans ((mu_ne (by omega)).trans y0)) rfl rfl rfl (by decide) (Nat.le_of_ble_eq_true rfl) (Nat.le_of_ble_eq_true rfl) (Nat.le_of_ble_eq_true rfl) (fun N1 sz hp => ?_)
  obtain ⟨hS9, hF9⟩ := hp
  refine V_iload dX7_enqueue_41 rfl ?_
  have hmm : 0 ≤ up ρ (10 + a) ((ρ (10 + a) + 1) % 256) (54 + c) ∧ up ρ (10 + a) ((ρ (10 + a) + 1) % 256) (54 + c) ≤ 12 := by rw [up_n (by omega)]; have := hQc.1.1; omega
  have ho : ∀ q, q ≠ 54 + c → (q < 62 + 80 * c ∨ 62 + 80 * c + 80 ≤ q) → rputs (up ρ (10 + a) ((ρ (10 + a) + 1) % 256)) c a (ρ (10 + a)) n s q = up ρ (10 + a) ((ρ (10 + a) + 1) % 256) q := fun q z w => rputs_o hc (by omega) (by omega)
  have hz1 : SB N1 S (rputs (up ρ (10 + a) ((ρ (10 + a) + 1) % 256)) c a (ρ (10 + a)) n s) := by
    refine ⟨up sq a ((ρ (10 + a) + 1) % 256), ?_, ?_, ?_, fun b z w => ?_⟩
    · rw [hF9 _ (by omega), hW1o _ (by omega), h1, ho 0 (by omega) (by omega), ho 1 (by omega) (by omega), ho 2 (by omega) (by omega), ho 3 (by omega) (by omega), ho 45 (by omega) (by omega), up_n (by omega), up_n (by omega), up_n (by omega), up_n (by omega), up_n (by omega)]
    · rw [hF9 _ (by omega), hW1, mu_eq]
    · rw [hF9 _ (by omega), hW1o _ (by omega), h3]
    · rw [ho _ (by omega) (by omega)]
      by_cases e : b = a
      · rw [e, up_s, up_s]
      · rw [up_n e, up_n (by omega)]; exact h4 b z w
  have hz2 : ∀ i, 0 ≤ i → i < 4 → SC N1 (scA S i) (rputs (up ρ (10 + a) ((ρ (10 + a) + 1) % 256)) c a (ρ (10 + a)) n s) i := fun i z w => by
    have hkB : scA S i = S + 205 + 15 * i.toNat := rfl
    by_cases e : i = c
    · rw [e]; exact hS9
    · exact (hS.2.1 i z w).mv (fun q u v => (hF9 q (by omega)).trans (hW1o q (by omega))) (fun q hq => by rw [ho q (by unfold chq at hq; omega) (by unfold chq at hq; omega), up_n (by unfold chq at hq; omega)])
  have hz3 : WR N1 (S + 3) (rputs (up ρ (10 + a) ((ρ (10 + a) + 1) % 256)) c a (ρ (10 + a)) n s) := hS.2.2.1.mv hW (fun q u v => (hF9 q (by omega)).trans (hW1o q (by omega))) (fun q z w => by rw [ho q (by omega) (by omega), up_n (by omega)])
  have hz4 : RR N1 (S + 125) (rputs (up ρ (10 + a) ((ρ (10 + a) + 1) % 256)) c a (ρ (10 + a)) n s) := hS.2.2.2.mv hR (fun q u v => (hF9 q (by omega)).trans (hW1o q (by omega))) (fun q z w y => by rw [ho q (by omega) (by omega), up_n (by omega)])
  exact V_ireti dX7_enqueue_43 rfl (Nat.le_of_ble_eq_true rfl) (Nat.le_of_ble_eq_true rfl) (hQ _ _ _ ⟨rfl, ⟨hz1, hz2, hz3, hz4⟩, fun q hq => (hF9 q (by omega)).trans (hW1o q (by omega))⟩)

theorem WrCg {ρ ρ' : Int → Int} (h : Wr ρ) (hr : ∀ q, 0 ≤ q → q < 12309 → ρ' q = ρ q) : Wr ρ' := by
  obtain ⟨h1, h2⟩ := h
  refine ⟨by rw [hr 382 (by omega) (by omega)]; exact h1, fun f a b => ?_⟩
  rw [hr 382 (by omega) (by omega)] at b
  obtain ⟨k1, k2, k3, k4, k5⟩ := h2 f a b
  have e := hr (383 + 50 * f) (by omega) (by omega)
  refine ⟨by rw [e]; exact k1, by rw [hr _ (by omega) (by omega)]; exact k2, by rw [hr _ (by omega) (by omega)]; exact k3, by rw [hr _ (by omega) (by omega)]; exact k4, fun k c d => ?_⟩
  rw [e] at d
  rw [hr _ (by omega) (by omega)]
  exact k5 k c d
theorem RICg {ρ ρ' : Int → Int} (h : RI ρ) (hr : ∀ q, 0 ≤ q → q < 12309 → ρ' q = ρ q) : RI ρ' := by
  obtain ⟨h1, h2, h3, h4, h5⟩ := h
  exact ⟨by rw [hr _ (by omega) (by omega)]; exact h1, fun c a b => by rw [hr _ (by omega) (by omega)]; exact h2 c a b, fun c a b => ⟨(h3 c a b).1.cg ⟨a, b⟩ (hr _ (by omega) (by omega)) (fun q x y => hr q (by omega) (by omega)), by rw [hr _ (by omega) (by omega)]; exact (h3 c a b).2⟩, h4.cg fun q a b => hr q (by omega) (by omega), h5.cg fun q a b => hr q (by omega) (by omega)⟩
set_option maxRecDepth 100000 in
set_option maxHeartbeats 4000000 in
theorem x_saveState (l : Launch) (M : ME) (x : Nat) (ρ π : Int → Int) (sv : Int) (hT : TL M x ρ π sv) (hv : 0 ≤ sv ∧ sv ≤ 3) (hW : Wr ρ) (hI : RI ρ) (hP : ∀ i, 0 ≤ i → i < sv → Wr (sl π (12309 * i)) ∧ RI (sl π (12309 * i))) : CP l yX10_saveState cX10_saveState 3 none (rmN 6) [.ref x] M (fun v M' => v = none ∧ TL M' x ρ (svP ρ π sv) (svS sv) ∧ FR M M' x 1062) := by
  obtain ⟨a, f, x0, x1, x2, x3, x4, x5⟩ := id hT
  have ba := x2.1.b
  have hst : ∀ i, 0 ≤ i → i < 3 → ∃ ρ', SB M (f i) ρ' := fun i z w => by
    by_cases e : i < sv
    · exact ⟨_, (x4 i z e).1⟩
    · obtain ⟨ρ8, k1, -⟩ := x5 i z (by omega) w
      exact ⟨_, k1.1⟩
  have hRO : ∀ i, 0 ≤ i → i < svS sv - 1 → Wr (sl (svP ρ π sv) (12309 * i)) ∧ RI (sl (svP ρ π sv) (12309 * i)) := fun i z w => by
    by_cases e : sv = 3
    · have h9 := hP (i + 1) (by omega) (by unfold svS at w; rw [if_pos e] at w; omega)
      have er : ∀ q, 0 ≤ q → q < 12309 → sl (svP ρ π sv) (12309 * i) q = sl π (12309 * (i + 1)) q := fun q u v => by
        unfold sl
        rw [e, svP_3 (by unfold svS at w; rw [if_pos e] at w; omega)]
        congr 1; omega
      exact ⟨WrCg h9.1 er, RICg h9.2 er⟩
    · have h9 := hP i z (by unfold svS at w; rw [if_neg e] at w; omega)
      have er : ∀ q, 0 ≤ q → q < 12309 → sl (svP ρ π sv) (12309 * i) q = sl π (12309 * i) q := fun q u v => by
        unfold sl
        exact svP_o e (by unfold svS at w; rw [if_neg e] at w; omega)
      exact ⟨WrCg h9.1 er, RICg h9.2 er⟩
  refine CP.of (L0 := [some _, none, none]) (by decide +kernel) rfl rfl (Nat.le_of_ble_eq_true rfl) rfl (fun G A Q sz hQ => ?_)
  have j54 : ∀ (N : ME) (g : Int → Nat) (s1 : Int) (sz : Nat), (N x = some (tlO x a s1)) → (N (x + 266) = some (aR 7 3 g)) → (Df x a g) → (St N a ρ) → (svS sv = s1 + 1 ∧ 0 ≤ s1 ∧ s1 ≤ 2) → (∀ i, 0 ≤ i → i < s1 → St N (g i) (sl (svP ρ π sv) (12309 * i))) → (∀ i, 0 ≤ i → s1 ≤ i → i < 3 → ∃ ρ', St N (g i) ρ' ∧ Wr ρ' ∧ RI ρ') → (∀ q, q ≠ x → q ≠ x + 266 → N q = M q) → V l G A (rmN 6) RX10 "saveState" cX10_saveState 3 none Q nX 0 0 N sz 54 [some (.ref x), none, none] [] := by
    intro N g s1  sz n0 n1 nD nS ns n4 n5 nF
    obtain ⟨ρ9, gS, gW, gI⟩ := n5 s1 (by omega) (by omega) (by omega)
    obtain ⟨sq9, g0, -⟩ := id gS.1
    have dg := (nD.2 s1 (by omega) (by omega)).1.d nD.1 (nD.2 s1 (by omega) (by omega)).2.1
    refine V_aload_n dX10_saveState_54 rfl ?_
    refine V_getf fX10_16 dX10_saveState_55 n0 rfl ?_
    refine V_aload_n dX10_saveState_58 rfl ?_
    refine V_getf fX10_20 dX10_saveState_59 n0 rfl ?_
    refine I_aald ao7 dX10_saveState_62 n1 ⟨by omega, by omega⟩ (by decide) ?_
    refine V_aload_n dX10_saveState_63 rfl ?_
    refine V_getf fX10_10 dX10_saveState_64 n0 rfl ?_
    refine V_cVE0 (vs := [_]) (s_copyFrom l N (g s1) a (by omega) ρ9 ρ gS gW gI nS hW hI) mX10_343 coX7_copyFrom dX10_saveState_67 g0 rfl rfl rfl (by decide) (Nat.le_of_ble_eq_true rfl) (Nat.le_of_ble_eq_true rfl) (Nat.le_of_ble_eq_true rfl) (fun N1 sz hp => ?_)
    obtain ⟨hO, hF⟩ := hp
    refine V_aload_n dX10_saveState_70 rfl ?_
    refine V_dup dX10_saveState_71 rfl ?_
    refine V_getf fX10_20 dX10_saveState_72 ((hF _ (by omega)).trans n0) rfl ?_
    refine V_iconst (v := iI (1)) dX10_saveState_75 rfl ?_
    refine I_iadd dX10_saveState_76 ?_
    refine V_putf fX10_20 dX10_saveState_77 ((hF _ (by omega)).trans n0) rfl rfl (by simp) ?_
    have hW1o : ∀ q, q ≠ x → (mu N1 x (tlO x a (s1 + 1))) q = N1 q := fun q z => mu_ne z
    have hz0 : St (mu N1 x (tlO x a (s1 + 1))) a ρ := nS.mv hW hI (fun q u v => (mu_ne (by omega)).trans (hF q (by omega))) (fun _ _ _ _ => rfl)
    have hz1 : ∀ i, 0 ≤ i → i < svS sv → St (mu N1 x (tlO x a (s1 + 1))) (g i) (sl (svP ρ π sv) (12309 * i)) := fun i z w => by
      by_cases e : i = s1
      · rw [e]
        refine hO.mv hW hI (fun q u v => mu_ne (by omega)) (fun q u v _ => ?_)
        have := svP_l (ρ := ρ) (π := π) hv ⟨u, v⟩
        rwa [ns.1, show s1 + 1 - 1 = s1 by omega] at this
      · have di := (nD.2 i z (by omega)).1.d (nD.2 s1 (by omega) (by omega)).1 ((nD.2 i z (by omega)).2.2 s1 (by omega) (by omega) e)
        have hro := hRO i z (by omega)
        exact (n4 i z (by omega)).mv hro.1 hro.2 (fun q u v => (mu_ne (by omega)).trans (hF q (by omega))) (fun _ _ _ _ => rfl)
    have hz2 : ∀ i, 0 ≤ i → svS sv ≤ i → i < 3 → ∃ ρ', St (mu N1 x (tlO x a (s1 + 1))) (g i) ρ' ∧ Wr ρ' ∧ RI ρ' := fun i z w y => by
      have di := (nD.2 i z y).1.d (nD.2 s1 (by omega) (by omega)).1 ((nD.2 i z y).2.2 s1 (by omega) (by omega) (by omega))
      obtain ⟨ρ8, k1, k2, k3⟩ := n5 i z (by omega) y
      exact ⟨ρ8, k1.mv k2 k3 (fun q u v => (mu_ne (by omega)).trans (hF q (by omega))) (fun _ _ _ _ => rfl), k2, k3⟩
    exact V_ret dX10_saveState_80 rfl (Nat.le_of_ble_eq_true rfl) (Nat.le_of_ble_eq_true rfl) (hQ _ _ _ ⟨rfl, ⟨a, g, by rw [ns.1]; exact mu_eq, (mu_ne (by omega)).trans ((hF _ (by omega)).trans n1), nD, hz0, hz1, hz2⟩, fun q hq => (mu_ne (by omega)).trans ((hF q (by omega)).trans (nF q (by omega) (by omega)))⟩)
  refine V_aload_n dX10_saveState_0 rfl ?_
  refine V_getf fX10_20 dX10_saveState_1 x0 rfl ?_
  refine V_iconst (v := iI (3)) dX10_saveState_4 rfl ?_
  refine I_icmp_lt (tgt := 54) dX10_saveState_5 (by decide) ⟨by omega, by omega⟩ ⟨by omega, by omega⟩ (fun h5 => ?_) (fun h5 => ?_)
  · have hns : ¬ sv = 3 := by omega
    have hsS : svS sv = sv + 1 := by unfold svS; rw [if_neg hns]
    exact V_wk' (j54 M f sv _ x0 x1 x2 x3 ⟨hsS, by omega, by omega⟩ (fun i z w => (x4 i z w).mv (hP i z w).1 (hP i z w).2 (fun _ _ _ => rfl) (fun q u v _ => by unfold sl; exact svP_o hns (by omega))) x5 (fun _ _ _ => rfl)) ⟨rfl, trivial⟩
  · refine V_aload_n dX10_saveState_8 rfl ?_
    refine V_getf fX10_16 dX10_saveState_9 x0 rfl ?_
    refine V_iconst (v := iI (0)) dX10_saveState_12 rfl ?_
    obtain ⟨ρ0, sq0, e0, -⟩ := id (hst 0 (by omega) (by omega))
    have b0 := ((x2.2 0 (by omega) (by omega)).1).b
    refine I_aald ao7 dX10_saveState_13 x1 ⟨by omega, by omega⟩ (by decide) ?_
    refine V_astore_n (L' := [some _, some _, none]) dX10_saveState_14 rfl (by decide) rfl ?_
    refine V_iconst (v := iI (1)) dX10_saveState_15 rfl ?_
    refine V_istore_n (L' := [some _, some _, some _]) dX10_saveState_16 rfl (by decide) rfl ?_
    have key17 : ∀ (d : Nat) (j : Int) (sz : Nat), (1 ≤ j ∧ j ≤ 3) → (3 - j).toNat = d → V l G A (rmN 6) RX10 "saveState" cX10_saveState 3 none Q nX 0 0 (mu M (x + 266) (aR 7 3 (shR f j))) sz 17 [some (.ref x), some (.ref (f 0)), some (.int (iI j))] [] := by
      intro d
      induction d using Nat.strongRecOn with
      | ind d ih17 =>
        intro j  sz hj hd17
        refine V_iload_n dX10_saveState_17 rfl ?_
        refine V_iconst (v := iI (3)) dX10_saveState_18 rfl ?_
        refine I_icmp_ge (tgt := 42) dX10_saveState_19 (by decide) ⟨by omega, by omega⟩ ⟨by omega, by omega⟩ (fun h19 => ?_) (fun h19 => ?_)
        · refine V_aload_n dX10_saveState_42 rfl ?_
          refine V_getf fX10_16 dX10_saveState_43 ((mu_ne (by omega)).trans x0) rfl ?_
          refine V_iconst (v := iI (2)) dX10_saveState_46 rfl ?_
          refine V_aload_n dX10_saveState_47 rfl ?_
          refine I_aast ao7 dX10_saveState_48 mu_eq ((mu_ne (by omega)).trans e0) ⟨by omega, by omega⟩ (by decide) ?_
          refine V_aload_n dX10_saveState_49 rfl ?_
          refine V_iconst (v := iI (2)) dX10_saveState_50 rfl ?_
          refine V_putf fX10_20 dX10_saveState_51 ((mu_ne (by omega)).trans ((mu_ne (by omega)).trans x0)) rfl rfl (by simp) ?_
          have hs3 : sv = 3 := by omega
          have hsS : svS sv = 3 := by unfold svS; rw [if_pos hs3]
          have hj3 : j = 3 := by omega
          have hro : ∀ q, q ≠ x → q ≠ x + 266 → (mu (mu (mu M (x + 266) (aR 7 3 (shR f j))) (x + 266) (aR 7 3 (upR (shR f j) 2 (f 0)))) x (tlO x a 2)) q = M q := fun q z w => by rw [mu_ne z, mu_ne w, mu_ne w]
          have hrot : upR (shR f j) 2 (f 0) = rot f 3 := by rw [hj3]; rfl
          refine V_wk' (j54 _ (rot f 3) 2 _ mu_eq (by rw [mu_ne (by omega), mu_eq, hrot]) x2.rot (x3.mv hW hI (fun q u v => hro q (by omega) (by omega)) (fun _ _ _ _ => rfl)) ⟨hsS, by omega, by omega⟩ (fun i z w => ?_) (fun i z w y => ?_) hro) ⟨rfl, trivial⟩
          · rw [rot_lo ⟨z, by omega⟩]
            have bi := ((x2.2 (i + 1) (by omega) (by omega)).1).b
            refine (x4 (i + 1) (by omega) (by omega)).mv (hP (i + 1) (by omega) (by omega)).1 (hP (i + 1) (by omega) (by omega)).2 (fun q u v => hro q (by omega) (by omega)) (fun q u v _ => ?_)
            unfold sl
            rw [hs3, svP_3 (by omega)]
            congr 1; omega
          · rw [show i = 2 by omega, show rot f 3 2 = f 0 from rot_m (s := 3)]
            have h9 := hP 0 (by omega) (by omega)
            have bi := ((x2.2 0 (by omega) (by omega)).1).b
            exact ⟨_, (x4 0 (by omega) (by omega)).mv h9.1 h9.2 (fun q u v => hro q (by omega) (by omega)) (fun _ _ _ _ => rfl), h9.1, h9.2⟩
        · have hsj : shR f j j = f j := if_neg (by omega)
          obtain ⟨ρj, sqj, ej, -⟩ := id (hst j (by omega) (by omega))
          have bj := ((x2.2 j (by omega) (by omega)).1).b
          refine V_aload_n dX10_saveState_22 rfl ?_
          refine V_getf fX10_16 dX10_saveState_23 ((mu_ne (by omega)).trans x0) rfl ?_
          refine V_iload_n dX10_saveState_26 rfl ?_
          refine V_iconst (v := iI (1)) dX10_saveState_27 rfl ?_
          refine I_isub dX10_saveState_28 ?_
          refine V_aload_n dX10_saveState_29 rfl ?_
          refine V_getf fX10_16 dX10_saveState_30 ((mu_ne (by omega)).trans x0) rfl ?_
          refine V_iload_n dX10_saveState_33 rfl ?_
          refine I_aald ao7 dX10_saveState_34 mu_eq ⟨by omega, by omega⟩ (by decide) ?_
          refine I_aast ao7 dX10_saveState_35 mu_eq ((mu_ne (by rw [hsj]; omega)).trans (by rw [hsj]; exact ej)) ⟨by omega, by omega⟩ (by decide) ?_
          refine I_iinc (L' := [some _, some _, some _]) dX10_saveState_36 rfl (by decide) rfl ?_
          refine V_goto (tgt := 17) dX10_saveState_39 (by decide) ?_
          exact V_eqM (by rw [mu_mu, shR_s hj.1]) (V_wk' (ih17 _ (by omega) (j + 1) sz ⟨by omega, by omega⟩ rfl) ⟨rfl, rfl, rfl, trivial⟩)
    exact V_eqM (by rw [shR_1, mu_self x1]) (V_wk' (key17 _ 1 sz ⟨by omega, by omega⟩ rfl) ⟨rfl, rfl, rfl, trivial⟩)
