/-! V: new objects and arrays, natives, calls, throws -/
section VC
variable {l : Launch} {G : GG} {A : Nat → Prop} {R : Room} {own nm : String} {cc : ByteArray} {nL : Nat} {ret : Option FieldType} {Q : Option Value → ME → Nat → Prop} {X : String → ME → Prop} {k n : Nat} {M : ME} {sz : Nat} {pc : Nat} {L : List (Option Value)} {st : List Value}
theorem V_new {idx ci : Nat} {r : vw_C} {t0 : Nat → FieldType} {fs : List Value} (hC0 : CLok ci r t0) (hfs : ∀ j, j < r.2.2 → defaultValue (t0 j) = vp_V fs j) (hw1 : Cond.classLink own idx r.1 ∈ tb) (hw2 : Cond.instantiable r.1 r.2.2 ∈ tb) (hw3 : Cond.initialized r.1 ∈ tb) (hd : decode cc pc = .ok (.new idx, 3)) (hk : k + 1 ≤ R.cells) (hn : n + r.2.2 ≤ R.slots) (kk : V l G A R own nm cc nL ret Q X (k + 1) (n + r.2.2) (mu M sz (.inl (ci, fs))) (sz + 1) (pc + 3) L (.ref sz :: st)) : V l G A R own nm cc nL ret Q X k n M sz pc L st := by
  intro p e s m args below meth c H locs ls C hR hz hS hl
  obtain ⟨C0, T, N⟩ := r
  obtain ⟨h1, h2, h3, h4⟩ := hC0
  have hts := C.2.2.2.2.2.1
  have hKn := C.2.2.2.2.2.2.2.2.2.1.1.1 ci _ h1
  subst hz
  refine W.newcK C.1 C.2.1 C.2.2.2.2.1 (hts _ hw1) (hts _ hw2) (hts _ hw3) rfl hd hk hn hKn.2.1 rfl fun H1 kC hkC e1 z1 o1 => ?_
  refine kk p e s m args below meth c H1 locs ls C (hR.push rfl (C.2.2.2.2.2.2.2.2.2.2.2 _ hS.1) o1 ⟨_, h1, (u_born t0 hts h2 hKn hkC e1 h3).to hfs⟩) z1 ⟨Nat.le_trans hS.1 (by omega), fun x q1 q2 => (o1 x (Nat.lt_of_lt_of_le q1 hS.1)).trans (hS.2.1 x q1 q2), hS.2.2⟩ hl
theorem V_newi {N : Nat} (hw : Cond.arrayClass .int ∈ tb) (hd : decode cc pc = .ok (.newarray .int, 2)) (hN : N < 2 ^ 20) (hk : k + 1 ≤ R.cells) (hn : n + N ≤ R.slots) (kk : V l G A R own nm cc nL ret Q X (k + 1) (n + N) (mu M sz (ai N (fun _ => 0))) (sz + 1) (pc + 2) L (.ref sz :: st)) : V l G A R own nm cc nL ret Q X k n M sz pc L (.int (nI N) :: st) := by
  intro p e s m args below meth c H locs ls C hR hz hS hl
  subst hz
  refine va_newaK (atype := .int) C.1 C.2.1 (C.2.2.2.2.2.1 _ hw) rfl hd rfl (nI_pos (by omega)) (nI_clamp (by omega)) (by show N * 4 ≤ _; omega) hk hn rfl fun H1 cA e1 z1 o1 hAr hNm => ?_
  have hra : va_RA s (G.2 0) .int := (C.2.2.2.2.2.2.2.2.2.1.1.2 0 _ (tysG_at G (by decide))).2
  have hcA : cA = G.2 0 := Option.some.inj (hNm.symm.trans hra)
  subst hcA
  exact kk p e s m args below meth c H1 locs ls C (hR.push rfl (C.2.2.2.2.2.2.2.2.2.2.2 _ hS.1) o1 e1) z1 ⟨Nat.le_trans hS.1 (by omega), fun x q1 q2 => (o1 x (Nat.lt_of_lt_of_le q1 hS.1)).trans (hS.2.1 x q1 q2), hS.2.2⟩ hl
theorem V_newl {N : Nat} (hw : Cond.arrayClass .long ∈ tb) (hd : decode cc pc = .ok (.newarray .long, 2)) (hN : N < 2 ^ 20) (hk : k + 1 ≤ R.cells) (hn : n + N ≤ R.slots) (kk : V l G A R own nm cc nL ret Q X (k + 1) (n + N) (mu M sz (al N (fun _ => 0))) (sz + 1) (pc + 2) L (.ref sz :: st)) : V l G A R own nm cc nL ret Q X k n M sz pc L (.int (nI N) :: st) := by
  intro p e s m args below meth c H locs ls C hR hz hS hl
  subst hz
  refine va_newaK (atype := .long) C.1 C.2.1 (C.2.2.2.2.2.1 _ hw) rfl hd rfl (nI_pos (by omega)) (nI_clamp (by omega)) (by show N * 8 ≤ _; omega) hk hn rfl fun H1 cA e1 z1 o1 hAr hNm => ?_
  have hra : va_RA s (G.2 1) .long := (C.2.2.2.2.2.2.2.2.2.1.1.2 1 _ (tysG_at G (by decide))).2
  have hcA : cA = G.2 1 := Option.some.inj (hNm.symm.trans hra)
  subst hcA
  exact kk p e s m args below meth c H1 locs ls C (hR.push rfl (C.2.2.2.2.2.2.2.2.2.2.2 _ hS.1) o1 e1) z1 ⟨Nat.le_trans hS.1 (by omega), fun x q1 q2 => (o1 x (Nat.lt_of_lt_of_le q1 hS.1)).trans (hS.2.1 x q1 q2), hS.2.2⟩ hl
theorem V_newq {N idx t : Nat} {C0 : String} (ht : t < 8) (htr : arTy t = .object C0) (hw : Cond.classLink own idx C0 ∈ tb) (hA0 : C0 ∈ tbA) (hd : decode cc pc = .ok (.anewarray idx, 3)) (hN : N < 2 ^ 20) (hk : k + 1 ≤ R.cells) (hn : n + N ≤ R.slots) (kk : V l G A R own nm cc nL ret Q X (k + 1) (n + N) (mu M sz (ar t N (fun _ => none))) (sz + 1) (pc + 3) L (.ref sz :: st)) : V l G A R own nm cc nL ret Q X k n M sz pc L (.int (nI N) :: st) := by
  intro p e s m args below meth c H locs ls C hR hz hS hl
  subst hz
  refine W.anew C.1 C.2.1 C.2.2.2.2.1 (C.2.2.2.2.2.1 _ hw) (va_AO.use (C.2.2.2.2.2.2.2.2.2.1.2.2.1 _ hA0)) rfl hd rfl (nI_pos (by omega)) (by rw [nI_clamp (by omega)]; omega) hk (by rw [nI_clamp (by omega)]; exact hn) fun cA kA comp f1 f2 f3 f4 => ?_
  rw [nI_clamp (by omega)]
  generalize hH1 : H.push ({ cls := cA, slots := Array.replicate N .null, vm := .none } : Cell) = H1
  have z1 : H1.size = H.size + 1 := by rw [← hH1, Array.size_push]
  have e1 : H1[H.size]? = some (arrV cA N (fun _ => .null)) := by rw [← hH1, Array.getElem?_push_size, ← arrV_new]
  have o1 : ∀ q : Nat, q < H.size → H1[q]? = H[q]? := fun q hq => by rw [← hH1, Array.getElem?_push, if_neg (Nat.ne_of_lt hq)]
  have hra := (C.2.2.2.2.2.2.2.2.2.1.1.2 t _ (tysG_at G ht)).2
  rw [htr] at hra
  obtain ⟨kA', comp', g1, g2, g3, g4⟩ := hra
  have hcA : cA = G.2 t := Option.some.inj (f1.symm.trans g4)
  subst hcA
  exact kk p e s m args below meth c H1 locs ls C (hR.push rfl (C.2.2.2.2.2.2.2.2.2.2.2 _ hS.1) o1 e1) z1 ⟨Nat.le_trans hS.1 (by omega), fun x q1 q2 => (o1 x (Nat.lt_of_lt_of_le q1 hS.1)).trans (hS.2.1 x q1 q2), hS.2.2⟩ hl
theorem V_objInit {idx a : Nat} (hw1 : Cond.methodLink own idx objectInit ∈ tb) (hw2 : Cond.instanceMethod objectInit ∈ tb) (hw3 : Cond.code objectInit ⟨#[0xb1]⟩ 1 none ∈ tb) (hd : decode cc pc = .ok (.invokespecial idx, 3)) (hf : 1 ≤ R.frames) (hr : (st.map fun v => v.category).sum + 12 ≤ R.locals) (kk : V l G A R own nm cc nL ret Q X k n M sz (pc + 3) L st) : V l G A R own nm cc nL ret Q X k n M sz pc L (.ref a :: st) := by
  intro p e s m args below meth c H locs ls C hR hz hS hl
  have hts := C.2.2.2.2.2.1
  exact W.objInit C.1 C.2.1 C.2.2.2.2.1 (hts _ hw1) (hts _ hw2) (hts _ hw3) rfl (by rw [C.2.2.1]; exact hl.1) rfl hd hf (by show 2 * 0 + _ + 12 ≤ _; omega) (kk p e s m args below meth c H locs ls C hR hz hS hl)
/-- System.arraycopy of ints -/
theorem V_copyi {idx a0 a n0 n1 sp dp N : Nat} {f g : Nat → Int32} (hw1 : Cond.methodLink own idx arraycopyName ∈ tb) (hw2 : Cond.native arraycopyName ∈ tb) (hw3 : Cond.static arraycopyName ∈ tb) (hw4 : Cond.initialized "java/lang/System" ∈ tb) (hd : decode cc pc = .ok (.invokestatic idx, 3)) (h0 : M a0 = some (ai n0 f)) (h1 : M a = some (ai n1 g)) (hs : sp + N ≤ n0) (hdd : dp + N ≤ n1) (hn0 : n0 < 2 ^ 31) (hn1 : n1 < 2 ^ 31) (hf : 1 ≤ R.frames) (hr : (st.map fun v => v.category).sum + (nativeFrameWords "java/lang/System" "arraycopy" 5 + 11) ≤ R.locals)
    (kk : ∀ sz1 : Nat, V l G A R own nm cc nL ret Q X k n (mu M a (ai n1 (va_cpy f g sp dp N))) sz1 (pc + 3) L st) : V l G A R own nm cc nL ret Q X k n M sz pc L (.int (nI N) :: .int (nI dp) :: .ref a :: .int (nI sp) :: .ref a0 :: st) := by
  intro p e s m args below meth c H locs ls C hR hz hS hl
  obtain ⟨ws, hP, hD, hC⟩ := hR
  obtain ⟨q0, hq0⟩ := hC a0 _ h0
  obtain ⟨q1, hq1⟩ := hC a _ h1
  have hts := C.2.2.2.2.2.1
  have c1 := nI_clamp (show sp < 2 ^ 31 by omega)
  have c2 := nI_clamp (show dp < 2 ^ 31 by omega)
  have c3 := nI_clamp (show N < 2 ^ 31 by omega)
  refine va_copyi (D := G.1) (cl := vwCl) (tys := tysG G) C.1 C.2.1 (C.2.2.1.trans hl.1.symm) C.2.2.2.2.1 (hts _ hw1) (hts _ hw2) (hts _ hw3) (hts _ hw4) C.2.2.2.2.2.2.2.2.2.1.1 hP hD hS q0 q1 0 0 (ty := .int) hq0 hq1 (tysG_at G (by decide)) (tysG_at G (by decide)) rfl (nI_pos (by omega)) (nI_pos (by omega)) (nI_pos (by omega)) (by rw [c1, c3]; exact hs) (by rw [c2, c3]; exact hdd) (fun _ _ => rfl) hf hr hd fun H1 locs1 hP1 hD1 hS1 => ?_
  rw [c1, c2, c3] at hP1 hD1
  exact kk H1.size p e s m args below meth c H1 locs1 ls C (Rp.set (e' := ai n1 (va_cpy f g sp dp N)) hq1 hD hC hP1 hD1) rfl hS1 hl
theorem V_max {idx : Nat} {x y : Int32} (hw1 : Cond.methodLink own idx Lib.Math.max.name ∈ tb) (hw2 : Cond.static Lib.Math.max.name ∈ tb) (hw3 : Cond.initialized "java/lang/Math" ∈ tb) (hw4 : Cond.code Lib.Math.max.name Lib.Math.max.code 2 (some .int) ∈ tb) (hd : decode cc pc = .ok (.invokestatic idx, 3)) (hf : 1 ≤ R.frames) (hr : (st.map fun v => v.category).sum + 13 ≤ R.locals) (hk : k ≤ R.cells) (hn : n ≤ R.slots) (kk : V l G A R own nm cc nL ret Q X k n M sz (pc + 3) L (.int (if x < y then y else x) :: st)) : V l G A R own nm cc nL ret Q X k n M sz pc L (.int y :: .int x :: st) := by
  intro p e s m args below meth c H locs ls C hR hz hS hl
  have hts := C.2.2.2.2.2.1
  exact va_mmax C.1 C.2.1 (C.2.2.1.trans hl.1.symm) C.2.2.2.2.1 (hts _ hw1) (hts _ hw2) (hts _ hw3) (hts _ hw4) hf hr hk hn hd (kk p e s m args below meth c H locs ls C hR hz hS hl)
theorem V_min {idx : Nat} {x y : Int32} (hw1 : Cond.methodLink own idx Lib.Math.min.name ∈ tb) (hw2 : Cond.static Lib.Math.min.name ∈ tb) (hw3 : Cond.initialized "java/lang/Math" ∈ tb) (hw4 : Cond.code Lib.Math.min.name Lib.Math.min.code 2 (some .int) ∈ tb) (hd : decode cc pc = .ok (.invokestatic idx, 3)) (hf : 1 ≤ R.frames) (hr : (st.map fun v => v.category).sum + 13 ≤ R.locals) (hk : k ≤ R.cells) (hn : n ≤ R.slots) (kk : V l G A R own nm cc nL ret Q X k n M sz (pc + 3) L (.int (if y < x then y else x) :: st)) : V l G A R own nm cc nL ret Q X k n M sz pc L (.int y :: .int x :: st) := by
  intro p e s m args below meth c H locs ls C hR hz hS hl
  have hts := C.2.2.2.2.2.1
  exact va_mmin C.1 C.2.1 (C.2.2.1.trans hl.1.symm) C.2.2.2.2.1 (hts _ hw1) (hts _ hw2) (hts _ hw3) (hts _ hw4) hf hr hk hn hd (kk p e s m args below meth c H locs ls C hR hz hS hl)
-- calls
/-- behind a call -/
theorem V_run {p : Program} {e : Env} {s : State} {m : MethodId} {args : Array Value} {below : List Frame} {meth : Method} {c : Code} {H : Heap} {locs : List Loc} {ls : Array Slot} {mc ms : Nat} {rest st0 : List Value} {a : Array Value} {Q' : Option Value → ME → Nat → Prop}
    (hr : va_Run p l e R s m args below meth c H locs k n mc ms (F0 m pc ls st0) rest (Qn G A Q' a) A) (C : Vc l G A own nm cc nL ret p s m args meth c) (hS : va_S A s.heap H locs) (hl : hasL ls nL L)
    (kk : ∀ (v : Option Value) (M' : ME) (sz' : Nat), Q' v M' sz' → V l G A R own nm cc nL ret Q X (k + mc) (n + ms) M' sz' (pc + 3) L (v.toList ++ rest)) :
    W p l e R s m args below meth c H locs k n (vx_MQ below (Qn G A Q) (Qx G A X) args s R.cells R.slots A) (F0 m pc ls st0) := by
  intro T hT X0
  obtain ⟨v, st₀, t, T', L9, h0, X', hL, e1, e2, ⟨⟨v', M', hv, hq, hR'⟩, hz, hk⟩, st⟩ := hr T hT X0
  cases hv
  rw [h0] at hz hk
  obtain ⟨t2, a1, b1⟩ := kk v M' t.heap.size hq p e s m args below meth c T'.heap (locs ++ L9) ls C (by rw [e1]; exact hR') (by rw [e1])
    ⟨Nat.le_trans hS.1 (by rw [e1]; exact hz), fun q h1 h2 => by rw [e1, hk q (Nat.lt_of_lt_of_le h1 hS.1) h2]; exact hS.2.1 q h1 h2, fun q hq => by
      rcases List.mem_append.mp hq with h | h
      · exact hS.2.2 q h
      · exact hL q h⟩ hl T' rfl X'
  exact ⟨t2, st t2 a1, b1⟩
theorem Wd_blind {A : Nat → Prop} {vs : List Value} {M : ME} {sz : Nat} : FrameBlind (va_Pc vs (Wd G A M sz)) := fun a U g mk q => by
  obtain ⟨q0, h1, h2, h3, h4, h5⟩ := q
  exact ⟨q0, h1, Kn.same (s := U) (U := U.calling g mk a) rfl h2, h3.moved (U := U.calling g mk a) (Vm.Alike.refl U.vm), h4, h5⟩
theorem Wd_of {s U : State} {H : Heap} {locs : List Loc} (hW : s.WarmedH U.vm) (hU : U.heap = H) (hK : Kn G s) (hZ : Zs A s s.heap) (hA : ∀ q, s.heap.size ≤ q → A q) (hR : Rp G A M H) (hz : H.size = sz) (hS : va_S A s.heap H locs) : Wd G A M sz U :=
  ⟨by rw [hU]; exact hR, hK.warm hW, (by rw [hU]; exact (hZ.kept hS.2.1).moved hW.alike), by rw [hU]; exact hz, fun q h => hA q (Nat.le_trans hS.1 (by rw [hz]; exact h))⟩
/-- pool entry idx of class own is method y of n arguments, called virtually -/
def LV (own : String) (idx : Nat) (y : MethodName) (n : Nat) : Prop := Cond.methodLink own idx y ∈ tb ∧ Cond.instanceMethod y ∈ tb ∧ Cond.selects y.cls y y ∈ tb ∧ Cond.initialized y.cls ∈ tb ∧ y.cls ≠ "java/lang/invoke/MethodHandle" ∧ y.cls ≠ "java/lang/invoke/VarHandle" ∧ (parseMethodDescriptor y.desc).map (fun d => d.parameters.length) = some n
def LSt (own : String) (idx : Nat) (y : MethodName) (n : Nat) : Prop := Cond.methodLink own idx y ∈ tb ∧ Cond.static y ∈ tb ∧ Cond.initialized y.cls ∈ tb ∧ y.cls ≠ "java/lang/invoke/MethodHandle" ∧ y.cls ≠ "java/lang/invoke/VarHandle" ∧ (parseMethodDescriptor y.desc).map (fun d => d.parameters.length) = some n
def LI (own : String) (idx : Nat) (y : MethodName) (n : Nat) : Prop := Cond.methodLink own idx y ∈ tb ∧ Cond.instanceMethod y ∈ tb ∧ Cond.initialized y.cls ∈ tb ∧ y.name = "<init>" ∧ y.cls ≠ "java/lang/invoke/MethodHandle" ∧ y.cls ≠ "java/lang/invoke/VarHandle" ∧ (parseMethodDescriptor y.desc).map (fun d => d.parameters.length) = some n
/-- a constructor that is private in a nest mate -/
def LN (own : String) (idx : Nat) (y : MethodName) (host : String) (n : Nat) : Prop := Cond.methodLinkNest own idx y host ∈ tbx ∧ Cond.instanceMethod y ∈ tb ∧ Cond.initialized y.cls ∈ tb ∧ y.name = "<init>" ∧ y.cls ≠ "java/lang/invoke/MethodHandle" ∧ y.cls ≠ "java/lang/invoke/VarHandle" ∧ (parseMethodDescriptor y.desc).map (fun d => d.parameters.length) = some n
/-- a static one -/
def LNS (own : String) (idx : Nat) (y : MethodName) (host : String) (n : Nat) : Prop := Cond.methodLinkNest own idx y host ∈ tbx ∧ Cond.static y ∈ tb ∧ Cond.initialized y.cls ∈ tb ∧ y.cls ≠ "java/lang/invoke/MethodHandle" ∧ y.cls ≠ "java/lang/invoke/VarHandle" ∧ (parseMethodDescriptor y.desc).map (fun d => d.parameters.length) = some n
theorem wy_good {y : MethodName} {cc : ByteArray} {nL : Nat} {ret : Option FieldType} (h : Cond.code y cc nL ret ∈ tb) : GoodIn tb (wy y cc nL ret) := fun w hw => by
  rcases List.mem_cons.mp hw with rfl | hw
  · exact tb_good _ h
  · exact tb_good _ hw
theorem V_callV {idx b nA ci : Nat} {y : MethodName} {cc' : ByteArray} {nL' : Nat} {ret' : Option FieldType} {rm : Room} {vs st0 fs : List Value} {Q' : Option Value → ME → Nat → Prop} (hC0 : Cn l y cc' nL' ret' rm (.ref b :: vs) M sz Q') (hL : LV own idx y nA) (hcode : Cond.code y cc' nL' ret' ∈ tb) (hd : decode cc pc = .ok (.invokevirtual idx, 3)) (hM : M b = some (.inl (ci, fs))) (hcl : (vwCl[ci]?).map (fun r => r.1) = some y.cls) (hst : st0 = vs.reverse ++ .ref b :: st) (hnA : vs.length = nA) (hR : rm.frames + 1 ≤ R.frames ∧ 8 + (nL' + 11) + rm.locals ≤ R.locals) (hW : (st.map fun v => v.category).sum ≤ 8) (hkn : k + rm.cells ≤ R.cells ∧ n + rm.slots ≤ R.slots)
    (kk : ∀ (v : Option Value) (M' : ME) (sz' : Nat), Q' v M' sz' → V l G A R own nm cc nL ret Q X (k + rm.cells) (n + rm.slots) M' sz' (pc + 3) L (v.toList ++ st)) : V l G A R own nm cc nL ret Q X k n M sz pc L st0 := by
  intro p e s m args below meth c H locs ls C hR0 hz hS hl
  have hts := C.2.2.2.2.2.1
  obtain ⟨l1, l2, l3, l4, l5⟩ := hL
  have hR1 := hR0
  obtain ⟨ws, hP, hD, hCm⟩ := hR0
  obtain ⟨q0, hq⟩ := hCm b _ hM
  obtain ⟨r, hr1, hr2⟩ : ∃ r : vw_C, vwCl[ci]? = some r ∧ r.1 = y.cls := by
    cases h : vwCl[ci]? with
    | none => rw [h] at hcl; cases hcl
    | some r => rw [h] at hcl; exact ⟨r, rfl, Option.some.inj hcl⟩
  have hrecv := va_recv C.2.2.2.2.2.2.2.2.2.1.1 hP hr1 hq
  rw [hr2] at hrecv
  refine V_run (va_runV (rest := st) (n := nA) (C := y.cls) ⟨C.1, C.2.1, C.2.2.1, C.2.2.2.2.1, hts⟩ (hC0 G A) ⟨callB_of nA hts (wy_good hcode) rfl rfl rfl (hts _ l4) (hts _ l1) l5 hR, hts _ l2, hts _ l3⟩ ⟨Wd_blind, hrecv, fun U hU hWU => ⟨rfl, Wd_of hWU hU C.2.2.2.2.2.2.2.2.2.1 C.2.2.2.2.2.2.2.2.2.2.1 C.2.2.2.2.2.2.2.2.2.2.2 hR1 hz hS⟩⟩ rfl hnA hl.1 hst (by show 2 * 0 + _ ≤ 8; omega) hd hkn) C hS hl kk
theorem V_callS {idx nA : Nat} {y : MethodName} {cc' : ByteArray} {nL' : Nat} {ret' : Option FieldType} {rm : Room} {vs st0 : List Value} {Q' : Option Value → ME → Nat → Prop} (hC0 : Cn l y cc' nL' ret' rm vs M sz Q') (hL : LSt own idx y nA) (hcode : Cond.code y cc' nL' ret' ∈ tb) (hd : decode cc pc = .ok (.invokestatic idx, 3)) (hst : st0 = vs.reverse ++ st) (hnA : vs.length = nA) (hR : rm.frames + 1 ≤ R.frames ∧ 8 + (nL' + 11) + rm.locals ≤ R.locals) (hW : (st.map fun v => v.category).sum ≤ 8) (hkn : k + rm.cells ≤ R.cells ∧ n + rm.slots ≤ R.slots)
    (kk : ∀ (v : Option Value) (M' : ME) (sz' : Nat), Q' v M' sz' → V l G A R own nm cc nL ret Q X (k + rm.cells) (n + rm.slots) M' sz' (pc + 3) L (v.toList ++ st)) : V l G A R own nm cc nL ret Q X k n M sz pc L st0 := by
  intro p e s m args below meth c H locs ls C hR0 hz hS hl
  have hts := C.2.2.2.2.2.1
  obtain ⟨l1, l2, l4, l5⟩ := hL
  refine V_run (va_runS (rest := st) (n := nA) ⟨C.1, C.2.1, C.2.2.1, C.2.2.2.2.1, hts⟩ (hC0 G A) ⟨callB_of nA hts (wy_good hcode) rfl rfl rfl (hts _ l4) (hts _ l1) l5 hR, hts _ l2⟩ ⟨Wd_blind, fun U hU hWU => ⟨rfl, Wd_of hWU hU C.2.2.2.2.2.2.2.2.2.1 C.2.2.2.2.2.2.2.2.2.2.1 C.2.2.2.2.2.2.2.2.2.2.2 hR0 hz hS⟩⟩ rfl hnA hl.1 hst (by show 2 * 0 + _ ≤ 8; omega) hd hkn) C hS hl kk
theorem V_callI {idx b nA : Nat} {y : MethodName} {cc' : ByteArray} {nL' : Nat} {rm : Room} {vs st0 : List Value} {Q' : Option Value → ME → Nat → Prop} (hC0 : Cn l y cc' nL' none rm (.ref b :: vs) M sz Q') (hL : LI own idx y nA) (hcode : Cond.code y cc' nL' none ∈ tb) (hd : decode cc pc = .ok (.invokespecial idx, 3)) (hst : st0 = vs.reverse ++ .ref b :: st) (hnA : vs.length = nA) (hR : rm.frames + 1 ≤ R.frames ∧ 8 + (nL' + 11) + rm.locals ≤ R.locals) (hW : (st.map fun v => v.category).sum ≤ 8) (hkn : k + rm.cells ≤ R.cells ∧ n + rm.slots ≤ R.slots)
    (kk : ∀ (v : Option Value) (M' : ME) (sz' : Nat), Q' v M' sz' → V l G A R own nm cc nL ret Q X (k + rm.cells) (n + rm.slots) M' sz' (pc + 3) L (v.toList ++ st)) : V l G A R own nm cc nL ret Q X k n M sz pc L st0 := by
  intro p e s m args below meth c H locs ls C hR0 hz hS hl
  have hts := C.2.2.2.2.2.1
  obtain ⟨l1, l2, l4, l6, l5⟩ := hL
  refine V_run (va_runI (rest := st) (n := nA) ⟨C.1, C.2.1, C.2.2.1, C.2.2.2.2.1, hts⟩ (hC0 G A) ⟨callB_of nA hts (wy_good hcode) rfl rfl rfl (hts _ l4) (hts _ l1) l5 hR, l6, hts _ l2⟩ ⟨Wd_blind, fun U hU hWU => ⟨rfl, Wd_of hWU hU C.2.2.2.2.2.2.2.2.2.1 C.2.2.2.2.2.2.2.2.2.2.1 C.2.2.2.2.2.2.2.2.2.2.2 hR0 hz hS⟩⟩ rfl hnA hl.1 hst (by show 2 * 0 + _ ≤ 8; omega) hd hkn) C hS hl kk
theorem V_callN {idx b nA : Nat} {y : MethodName} {host : String} {cc' : ByteArray} {nL' : Nat} {rm : Room} {vs st0 : List Value} {Q' : Option Value → ME → Nat → Prop} (hC0 : Cn l y cc' nL' none rm (.ref b :: vs) M sz Q') (hL : LN own idx y host nA) (hcode : Cond.code y cc' nL' none ∈ tb) (hd : decode cc pc = .ok (.invokespecial idx, 3)) (hst : st0 = vs.reverse ++ .ref b :: st) (hnA : vs.length = nA) (hR : rm.frames + 1 ≤ R.frames ∧ 8 + (nL' + 11) + rm.locals ≤ R.locals) (hW : (st.map fun v => v.category).sum ≤ 8) (hkn : k + rm.cells ≤ R.cells ∧ n + rm.slots ≤ R.slots)
    (kk : ∀ (v : Option Value) (M' : ME) (sz' : Nat), Q' v M' sz' → V l G A R own nm cc nL ret Q X (k + rm.cells) (n + rm.slots) M' sz' (pc + 3) L (v.toList ++ st)) : V l G A R own nm cc nL ret Q X k n M sz pc L st0 := by
  intro p e s m args below meth c H locs ls C hR0 hz hS hl
  have hts := C.2.2.2.2.2.1
  obtain ⟨l1, l2, l4, l6, l5⟩ := hL
  refine V_run (va_runIN (rest := st) (n := nA) ⟨C.1, C.2.1, C.2.2.1, C.2.2.2.2.1, hts⟩ (hC0 G A) ⟨va_cnB nA hts (wy_good hcode) rfl rfl rfl (C.2.2.2.2.2.2.2.2.2.1.2.1 _ l1) (hts _ l4) l5 hR, l6, hts _ l2⟩ ⟨Wd_blind, fun U hU hWU => ⟨rfl, Wd_of hWU hU C.2.2.2.2.2.2.2.2.2.1 C.2.2.2.2.2.2.2.2.2.2.1 C.2.2.2.2.2.2.2.2.2.2.2 hR0 hz hS⟩⟩ rfl hnA hl.1 hst (by show 2 * 0 + _ ≤ 8; omega) hd hkn) C hS hl kk
theorem V_callNS {idx nA : Nat} {y : MethodName} {host : String} {cc' : ByteArray} {nL' : Nat} {ret' : Option FieldType} {rm : Room} {vs st0 : List Value} {Q' : Option Value → ME → Nat → Prop} (hC0 : Cn l y cc' nL' ret' rm vs M sz Q') (hL : LNS own idx y host nA) (hcode : Cond.code y cc' nL' ret' ∈ tb) (hd : decode cc pc = .ok (.invokestatic idx, 3)) (hst : st0 = vs.reverse ++ st) (hnA : vs.length = nA) (hR : rm.frames + 1 ≤ R.frames ∧ 8 + (nL' + 11) + rm.locals ≤ R.locals) (hW : (st.map fun v => v.category).sum ≤ 8) (hkn : k + rm.cells ≤ R.cells ∧ n + rm.slots ≤ R.slots)
    (kk : ∀ (v : Option Value) (M' : ME) (sz' : Nat), Q' v M' sz' → V l G A R own nm cc nL ret Q X (k + rm.cells) (n + rm.slots) M' sz' (pc + 3) L (v.toList ++ st)) : V l G A R own nm cc nL ret Q X k n M sz pc L st0 := by
  intro p e s m args below meth c H locs ls C hR0 hz hS hl
  have hts := C.2.2.2.2.2.1
  obtain ⟨l1, l2, l4, l5⟩ := hL
  refine V_run (va_runSN (rest := st) (n := nA) ⟨C.1, C.2.1, C.2.2.1, C.2.2.2.2.1, hts⟩ (hC0 G A) ⟨va_cnB nA hts (wy_good hcode) rfl rfl rfl (C.2.2.2.2.2.2.2.2.2.1.2.1 _ l1) (hts _ l4) l5 hR, hts _ l2, trivial⟩ ⟨Wd_blind, fun U hU hWU => ⟨rfl, Wd_of hWU hU C.2.2.2.2.2.2.2.2.2.1 C.2.2.2.2.2.2.2.2.2.2.1 C.2.2.2.2.2.2.2.2.2.2.2 hR0 hz hS⟩⟩ rfl hnA hl.1 hst (by show 2 * 0 + _ ≤ 8; omega) hd hkn) C hS hl kk
end VC
