/-- contracts of the law's wrappers -/
def CW (l : Launch) (y : MethodName) (cc : ByteArray) (nL : Nat) (hh : List (Nat × Nat × Nat × Nat)) (rm : Room) (vs : List Value) (M : ME) (P : Option Value → ME → Prop) : Prop :=
  ∀ (sz : Nat) (G : GG) (A : Nat → Prop), Met l y (Cond.codeWith y cc nL (some .int) hh :: tb) rm (va_Pc vs (fun U => Wd G A M sz U ∧ Nx U)) (Qn G A (fun v M' _ => P v M')) rm.cells rm.slots A
theorem CW.of {l : Launch} {own : String} {cc : ByteArray} {nL : Nat} {R : Room} {hh : List (Nat × Nat × Nat × Nat)} {M : ME} {P : Option Value → ME → Prop} {y : MethodName} {vs : List Value} {L0 : List (Option Value)} (hy : plainName y.cls = true) (hown : y.cls = own) (hlen : (lg_sl vs).length ≤ nL) (hL0 : entL vs nL = L0)
    (body : ∀ (G : GG) (A : Nat → Prop) (Q : Option Value → ME → Nat → Prop) (sz : Nat), (∀ v0 M0 z, P v0 M0 → Q v0 M0 z) → U l G A R own cc nL (some .int) (fun _ c _ => c.exceptionTable.toList = tableOf hh) (fun below args s => vx_MQ below (Qn G A Q) (fun _ _ _ => False) args s R.cells R.slots A) 0 0 M sz 0 L0 []) : CW l y cc nL hh R vs M P := by
  intro sz G A
  have hv : vx_Met l y (Cond.codeWith y cc nL (some .int) hh :: tb) R (va_Pc vs (fun U => Wd G A M sz U ∧ Nx U)) (Qn G A (fun v M' _ => P v M')) (fun _ _ _ => False) R.cells R.slots A := by
    refine vx_ofWH (cc := cc) (maxL := nL) (ret := some .int) (hh := hh) hy rfl ?_
    intro p e s m args below meth c s₁ B hml hv
    obtain ⟨rfl, ⟨hR, hK, hZ, hz, hA⟩, hN⟩ := hv
    subst hown
    have hts := atoms_spec (ws := Cond.codeWith y cc nL (some .int) hh :: tb) B.pre
    have htab := vx_table (x := y) B (hts _ List.mem_cons_self)
    rw [lg_entry_eq]
    refine body G A _ sz (fun _ _ _ h => h) p e s m _ below meth c s.heap [] _ ⟨B.exec, B.bytes, hml, B.returns, findClass_of_methodNamed B.named, fun w hw => hts w (List.mem_cons_of_mem _ hw), B.notSynchronized, htab, hN, hK, hZ, fun q h => hA q (by rw [← hz]; exact h)⟩ hR hz va_S.rf ?_
    refine hasL.of (lv_entry vs hlen) fun i v h => ?_
    subst hL0
    have := entL_in vs 0 (List.replicate (nL - (lg_sl vs).length) none) (fun i v h => by rw [List.getElem?_replicate] at h; split at h <;> simp at h) i v h
    simpa using this
  intro p e ha hc hk s m args below hf happ hp hk'
  obtain ⟨n, o, h1, h2, h3, h4⟩ := hv p e ha hc hk s m args below hf happ hp hk'
  refine ⟨n, o, h1, h2, h3, ?_⟩
  rcases h4 with h4 | ⟨q, -, E, ce, L, hx, -⟩
  · exact h4
  · exact hx.elim
section UW
variable {l : Launch} {G : GG} {A : Nat → Prop} {R : Room} {own : String} {cc : ByteArray} {nL : Nat} {ret : Option FieldType} {T : State → Code → Array Value → Prop} {Z : List Frame → Array Value → State → State → Prop} {k n : Nat} {M : ME} {sz : Nat} {pc : Nat} {L : List (Option Value)} {st : List Value}
theorem U_ireti {Q : Option Value → ME → Nat → Prop} {XC : String → State → State → Prop} {x : Int32} (hd : decode cc pc = .ok (.ireturn, 1)) (hr : ret = some .int) (hk : k ≤ R.cells) (hn : n ≤ R.slots) (hQ : Q (some (.int x)) M sz) : U l G A R own cc nL ret T (fun below args s => vx_MQ below (Qn G A Q) XC args s R.cells R.slots A) k n M sz pc L [.int x] := fun p e s m args below meth c H locs ls C hR hz hS hl => W.widen hk hn (vx_ret (W.iret C.1 C.2.1 (C.2.2.2.1.trans hr) (fun t ht _ => Vq hQ hR hz hS ht) hS.2.2 hd C.2.2.2.2.2.2.1))
theorem J_i2lc {a : Int} (hd : decode cc pc = .ok (.i2l, 1)) (kk : U l G A R own cc nL ret T Z k n M sz (pc + 1) L (.long (lI (c32 a)) :: st)) : U l G A R own cc nL ret T Z k n M sz pc L (.int (iI a) :: st) := U_i2l hd (by rw [← iI_c32 a]; exact iI_l (c32_r a)) kk
/-- a call that may throw: what is thrown is caught -/
theorem U_callX {idx b nA ci : Nat} {y : MethodName} {cc' : ByteArray} {nL' : Nat} {ret' : Option FieldType} {rm : Room} {vs st0 fs : List Value} {hh : List (Nat × Nat × Nat × Nat)} {Q' : Option Value → ME → Nat → Prop} {X' : String → ME → Prop} (hC0 : CnX l y cc' nL' ret' rm (.ref b :: vs) M sz Q' X') (hL : LV own idx y nA) (hcode : Cond.code y cc' nL' ret' ∈ tb) (hd : decode cc pc = .ok (.invokevirtual idx, 3)) (hM : M b = some (.inl (ci, fs))) (hcl : (vwCl[ci]?).map (fun r => r.1) = some y.cls) (hst : st0 = vs.reverse ++ .ref b :: st) (hnA : vs.length = nA) (hR : rm.frames + 1 ≤ R.frames ∧ 8 + (nL' + 11) + rm.locals ≤ R.locals) (hW : (st.map fun v => v.category).sum ≤ 8) (hkn : k + rm.cells ≤ R.cells ∧ n + rm.slots ≤ R.slots) (hT : ∀ s c args, T s c args → c.exceptionTable.toList = tableOf hh)
    (kx : ∀ (E : String) (M' : ME), X' E M' → ∃ (pre : List ExceptionTableEntry) (x : ExceptionTableEntry) (suf : List ExceptionTableEntry) (name : String), tableOf hh = pre ++ x :: suf ∧ (∀ z ∈ pre, z.catchType ≠ 0 ∧ ∃ nm9 : String, Cond.classLink own z.catchType nm9 ∈ tb ∧ (E, nm9) ∈ ncP) ∧ covers x pc = true ∧ x.catchType ≠ 0 ∧ Cond.classLink own x.catchType name ∈ tb ∧ Cond.castable E name ∈ tbx ∧ ∀ q sz' : Nat, U l G A R own cc nL ret T Z (k + rm.cells) (n + rm.slots) M' sz' x.handlerPc L [.ref q])
    (kk : ∀ (v : Option Value) (M' : ME) (sz' : Nat), Q' v M' sz' → U l G A R own cc nL ret T Z (k + rm.cells) (n + rm.slots) M' sz' (pc + 3) L (v.toList ++ st)) : U l G A R own cc nL ret T Z k n M sz pc L st0 := by
  intro p e s m args below meth c H locs ls C hR0 hz hS hl
  have hts := C.2.2.2.2.2.1
  obtain ⟨l1, l2, l3, l4, l5⟩ := hL
  have hR1 := hR0
  obtain ⟨ws, hP, hD, hCm⟩ := hR0
  obtain ⟨q0, hq⟩ := hCm b _ hM
  obtain ⟨r, hr1, hr2⟩ : ∃ r : vw_C, vwCl[ci]? = some r ∧ r.1 = y.cls := by
    cases h : vwCl[ci]? with
    | none => rw [h] at hcl; cases hcl
    | some r => rw [h] at hcl; exact ⟨r, rfl, Option.some.inj hcl⟩
  have hrecv := va_recv C.2.2.2.2.2.2.2.2.2.1.1 hP hr1 hq
  rw [hr2] at hrecv
  have hr : vx_Run p l e R s m args below meth c H locs k n rm.cells rm.slots (F0 m pc ls st0) st (Qn G A Q' (Value.ref b :: vs).toArray) (Qx G A X') A := vx_runV (rest := st) (n := nA) (C := y.cls) (g := F0 m pc ls st0) ⟨C.1, C.2.1, C.2.2.1, C.2.2.2.2.1, hts⟩ (hC0 G A) ⟨callB_of nA hts (wy_good hcode) rfl rfl rfl (hts _ l4) (hts _ l1) l5 hR, hts _ l2, hts _ l3⟩ ⟨Wd_blind, hrecv, fun U hU hWU => ⟨rfl, Wd_of hWU hU C.2.2.2.2.2.2.2.2.2.1 C.2.2.2.2.2.2.2.2.2.2.1 C.2.2.2.2.2.2.2.2.2.2.2 hR1 hz hS⟩⟩ rfl hnA hl.1 hst (by show 2 * 0 + _ ≤ 8; omega) hd hkn
  intro T0 hT0 X0
  have hS' : ∀ (st₀ t T' : State) (L9 : List Loc), st₀.heap = H → T'.heap = t.heap → (∀ q ∈ L9, A q.base) → st₀.heap.size ≤ t.heap.size → (∀ q : Nat, q < st₀.heap.size → ¬ A q → t.heap[q]? = st₀.heap[q]?) → va_S A s.heap T'.heap (locs ++ L9) := fun st₀ t T' L9 h0 e1 hL hz' hk' => by
    rw [h0] at hz' hk'
    exact ⟨Nat.le_trans hS.1 (by rw [e1]; exact hz'), fun q h1 h2 => by rw [e1, hk' q (Nat.lt_of_lt_of_le h1 hS.1) h2]; exact hS.2.1 q h1 h2, fun q hq => by
      rcases List.mem_append.mp hq with h | h
      · exact hS.2.2 q h
      · exact hL q h⟩
  rcases hr T0 hT0 X0 with ⟨v, st₀, t, T', L9, h0, X', hL, e1, e2, ⟨⟨v', M', hv, hq', hR'⟩, hz', hk'⟩, st9⟩ | ⟨q, st₀, t, T', L9, E, ce, h0, X', hL, e1, e2, ⟨⟨M', hx, hR'⟩, hz', hk'⟩, hce, hcv, hcl9, st9⟩
  · cases hv
    obtain ⟨t2, a1, b1⟩ := kk v M' t.heap.size hq' p e s m args below meth c T'.heap (locs ++ L9) ls C (by rw [e1]; exact hR') (by rw [e1]) (hS' st₀ t T' L9 h0 e1 hL hz' hk') hl T' rfl X'
    exact ⟨t2, st9 t2 a1, b1⟩
  · obtain ⟨pre, x, suf, name, hsp, hpass, hcov, h00, hlink, hcast, kq⟩ := kx E M' hx
    have hWq := vx_catch (pc := pc) (ls := ls) (rest := st) C.2.2.2.2.1 pre x suf ((hT _ _ _ C.2.2.2.2.2.2.2.1).trans hsp) (fun z hz9 => by
        obtain ⟨z1, nm9, z2, z3⟩ := hpass z hz9
        exact Or.inr ⟨z1, nm9, hts _ z2, C.2.2.2.2.2.2.2.2.1 (E, nm9) z3⟩) hcov h00 (hts _ hlink) (va_Nw.use (Xw_on (List.mem_filter.mp hcast).2) (C.2.2.2.2.2.2.2.2.2.1.2.1 _ hcast)) (by rw [e1]; exact hce) hcv hcl9 (kq q t.heap.size p e s m args below meth c T'.heap (locs ++ L9) ls C (by rw [e1]; exact hR') (by rw [e1]) (hS' st₀ t T' L9 h0 e1 hL hz' hk') hl)
    obtain ⟨t2, a1, b1⟩ := hWq T' rfl X'
    exact ⟨t2, st9.trans a1, b1⟩
end UW
abbrev rW : Room := { frames := 10, cells := 1, slots := 6, locals := 360 }
theorem cL_13 : Cond.classLink RL 13 iae ∈ tb := tb_in 625 (by decide +kernel) rfl
theorem cL_15 : Cond.classLink RL 15 ise ∈ tb := tb_in 626 (by decide +kernel) rfl
theorem cL_21 : Cond.classLink RL 21 ioo ∈ tb := tb_in 706 (by decide +kernel) rfl
theorem ca_ioo : Cond.castable ioo ioo ∈ tbx := tbx_in 473 (by decide +kernel) rfl
theorem ca_iae : Cond.castable iae iae ∈ tbx := tbx_in 545 (by decide +kernel) rfl
theorem ca_ise : Cond.castable ise ise ∈ tbx := tbx_in 638 (by decide +kernel) rfl

theorem wc_setFrameLength : Cond.codeWith yL_setFrameLength cL_setFrameLength 4 (some .int) [(0, 9, 12, 13), (0, 9, 15, 15)] ∈ tb := tb_in 624 (by decide +kernel) rfl

set_option maxRecDepth 100000 in
set_option maxHeartbeats 4000000 in
theorem w_setFrameLength (l : Launch) (M : ME) (x out : Nat) (fs : List Value) (hx : M x = some (.inl (10, fs))) (g : Int → Int) (hout : M out = some (aL 1 g)) (n : Int) (val e : Int) (Rr : ME → Prop) (hRo : ∀ M', Rr M' → M' out = some (aL 1 g)) (hC : CX l yX10_setFrameLength cX10_setFrameLength 3 (some .int) (rmX 8) [.ref x, .int (iI n)] M (fun v M' => e = 0 ∧ v = some (.int (iI val)) ∧ Rr M') (fun E M' => ((e = 1 ∧ E = iae) ∨ (e = 2 ∧ E = ise)) ∧ M' = M)) : CW l yL_setFrameLength cL_setFrameLength 4 [(0, 9, 12, 13), (0, 9, 15, 15)] rW [.ref x, .int (iI n), .ref out] M (fun v M' => v = some (.int (iI e)) ∧ ((e = 0 ∧ ∃ M1, Rr M1 ∧ M' = mu M1 out (aL 1 (up g 0 (c32 val)))) ∨ (0 < e ∧ M' = M))) := by
  refine CW.of (L0 := [some _, some _, some _, none]) (by decide +kernel) rfl (Nat.le_of_ble_eq_true rfl) rfl (fun G A Q sz hQ => ?_)
  refine U_aload_n dL_setFrameLength_0 rfl ?_
  refine U_iconst (v := iI (0)) dL_setFrameLength_1 rfl ?_
  refine U_aload_n dL_setFrameLength_2 rfl ?_
  refine U_iload_n dL_setFrameLength_3 rfl ?_
  refine U_callX (vs := [_]) (hC sz) mL_7 coX10_setFrameLength dL_setFrameLength_4 hx rfl rfl rfl ⟨(Nat.le_of_ble_eq_true rfl), (Nat.le_of_ble_eq_true rfl)⟩ (Nat.le_of_ble_eq_true rfl) ⟨(Nat.le_of_ble_eq_true rfl), (Nat.le_of_ble_eq_true rfl)⟩ (fun _ _ _ h => h) (fun E M1 hp => ?_) (fun v M1 sz1 hp => ?_)
  · obtain ⟨hp, rfl⟩ := hp
    rcases hp with ⟨he, rfl⟩ | ⟨he, rfl⟩
    · refine ⟨[], ⟨0, 9, 12, 13⟩, [⟨0, 9, 15, 15⟩], _, rfl, (fun z hz => by cases hz), by decide, by decide, cL_13, ca_iae, fun q sz1 => ?_⟩
      refine U_astore_n (L' := [some _, some _, some _, some _]) dL_setFrameLength_12 rfl (by decide) rfl ?_
      refine U_iconst (v := iI (1)) dL_setFrameLength_13 rfl ?_
      exact U_ireti dL_setFrameLength_14 rfl (Nat.le_of_ble_eq_true rfl) (Nat.le_of_ble_eq_true rfl) (hQ _ _ _ ⟨iv he.symm, Or.inr ⟨by omega, rfl⟩⟩)
    · refine ⟨[⟨0, 9, 12, 13⟩], ⟨0, 9, 15, 15⟩, [], _, rfl, (fun z hz => by rw [List.mem_singleton] at hz; subst hz; exact ⟨by decide, _, cL_13, by decide⟩), by decide, by decide, cL_15, ca_ise, fun q sz1 => ?_⟩
      refine U_astore_n (L' := [some _, some _, some _, some _]) dL_setFrameLength_15 rfl (by decide) rfl ?_
      refine U_iconst (v := iI (2)) dL_setFrameLength_16 rfl ?_
      exact U_ireti dL_setFrameLength_17 rfl (Nat.le_of_ble_eq_true rfl) (Nat.le_of_ble_eq_true rfl) (hQ _ _ _ ⟨iv he.symm, Or.inr ⟨by omega, rfl⟩⟩)
  · obtain ⟨he, rfl, hR⟩ := hp
    refine J_i2lc dL_setFrameLength_7 ?_
    refine J_last dL_setFrameLength_8 (hRo M1 hR) ⟨by omega, by omega⟩ (by decide) ?_
    refine U_goto (tgt := 18) dL_setFrameLength_9 (by decide) ?_
    refine U_iconst (v := iI (0)) dL_setFrameLength_18 rfl ?_
    exact U_ireti dL_setFrameLength_19 rfl (Nat.le_of_ble_eq_true rfl) (Nat.le_of_ble_eq_true rfl) (hQ _ _ _ ⟨iv he.symm, Or.inl ⟨he, M1, hR, rfl⟩⟩)

theorem wc_setChannel : Cond.codeWith yL_setChannel cL_setChannel 7 (some .int) [(0, 14, 17, 21), (0, 14, 21, 13)] ∈ tb := tb_in 705 (by decide +kernel) rfl

set_option maxRecDepth 100000 in
set_option maxHeartbeats 4000000 in
theorem w_setChannel (l : Launch) (M : ME) (x out : Nat) (fs : List Value) (hx : M x = some (.inl (10, fs))) (g : Int → Int) (hout : M out = some (aL 1 g)) (c p q d : Int) (val e : Int) (Rr : ME → Prop) (hRo : ∀ M', Rr M' → M' out = some (aL 1 g)) (hC : CX l yX10_setChannel cX10_setChannel 7 (some .int) (rmX 8) [.ref x, .int (iI c), .int (iI p), .int (iI q), .int (iI d)] M (fun v M' => e = 0 ∧ v = some (.int (iI val)) ∧ Rr M') (fun E M' => ((e = 1 ∧ E = ioo) ∨ (e = 2 ∧ E = iae)) ∧ M' = M)) : CW l yL_setChannel cL_setChannel 7 [(0, 14, 17, 21), (0, 14, 21, 13)] rW [.ref x, .int (iI c), .int (iI p), .int (iI q), .int (iI d), .ref out] M (fun v M' => v = some (.int (iI e)) ∧ ((e = 0 ∧ ∃ M1, Rr M1 ∧ M' = mu M1 out (aL 1 (up g 0 (c32 val)))) ∨ (0 < e ∧ M' = M))) := by
  refine CW.of (L0 := [some _, some _, some _, some _, some _, some _, none]) (by decide +kernel) rfl (Nat.le_of_ble_eq_true rfl) rfl (fun G A Q sz hQ => ?_)
  refine U_aload dL_setChannel_0 rfl ?_
  refine U_iconst (v := iI (0)) dL_setChannel_2 rfl ?_
  refine U_aload_n dL_setChannel_3 rfl ?_
  refine U_iload_n dL_setChannel_4 rfl ?_
  refine U_iload_n dL_setChannel_5 rfl ?_
  refine U_iload_n dL_setChannel_6 rfl ?_
  refine U_iload dL_setChannel_7 rfl ?_
  refine U_callX (vs := [_, _, _, _]) (hC sz) mL_17 coX10_setChannel dL_setChannel_9 hx rfl rfl rfl ⟨(Nat.le_of_ble_eq_true rfl), (Nat.le_of_ble_eq_true rfl)⟩ (Nat.le_of_ble_eq_true rfl) ⟨(Nat.le_of_ble_eq_true rfl), (Nat.le_of_ble_eq_true rfl)⟩ (fun _ _ _ h => h) (fun E M1 hp => ?_) (fun v M1 sz1 hp => ?_)
  · obtain ⟨hp, rfl⟩ := hp
    rcases hp with ⟨he, rfl⟩ | ⟨he, rfl⟩
    · refine ⟨[], ⟨0, 14, 17, 21⟩, [⟨0, 14, 21, 13⟩], _, rfl, (fun z hz => by cases hz), by decide, by decide, cL_21, ca_ioo, fun q sz1 => ?_⟩
      refine U_astore (L' := [some _, some _, some _, some _, some _, some _, some _]) dL_setChannel_17 (by decide) rfl ?_
      refine U_iconst (v := iI (1)) dL_setChannel_19 rfl ?_
      exact U_ireti dL_setChannel_20 rfl (Nat.le_of_ble_eq_true rfl) (Nat.le_of_ble_eq_true rfl) (hQ _ _ _ ⟨iv he.symm, Or.inr ⟨by omega, rfl⟩⟩)
    · refine ⟨[⟨0, 14, 17, 21⟩], ⟨0, 14, 21, 13⟩, [], _, rfl, (fun z hz => by rw [List.mem_singleton] at hz; subst hz; exact ⟨by decide, _, cL_21, by decide⟩), by decide, by decide, cL_13, ca_iae, fun q sz1 => ?_⟩
      refine U_astore (L' := [some _, some _, some _, some _, some _, some _, some _]) dL_setChannel_21 (by decide) rfl ?_
      refine U_iconst (v := iI (2)) dL_setChannel_23 rfl ?_
      exact U_ireti dL_setChannel_24 rfl (Nat.le_of_ble_eq_true rfl) (Nat.le_of_ble_eq_true rfl) (hQ _ _ _ ⟨iv he.symm, Or.inr ⟨by omega, rfl⟩⟩)
  · obtain ⟨he, rfl, hR⟩ := hp
    refine J_i2lc dL_setChannel_12 ?_
    refine J_last dL_setChannel_13 (hRo M1 hR) ⟨by omega, by omega⟩ (by decide) ?_
    refine U_goto (tgt := 25) dL_setChannel_14 (by decide) ?_
    refine U_iconst (v := iI (0)) dL_setChannel_25 rfl ?_
    exact U_ireti dL_setChannel_26 rfl (Nat.le_of_ble_eq_true rfl) (Nat.le_of_ble_eq_true rfl) (hQ _ _ _ ⟨iv he.symm, Or.inl ⟨he, M1, hR, rfl⟩⟩)

theorem wc_setClock : Cond.codeWith yL_setClock cL_setClock 5 (some .int) [(0, 10, 13, 13)] ∈ tb := tb_in 714 (by decide +kernel) rfl

set_option maxRecDepth 100000 in
set_option maxHeartbeats 4000000 in
theorem w_setClock (l : Launch) (M : ME) (x out : Nat) (fs : List Value) (hx : M x = some (.inl (10, fs))) (g : Int → Int) (hout : M out = some (aL 1 g)) (p q : Int) (val e : Int) (Rr : ME → Prop) (hRo : ∀ M', Rr M' → M' out = some (aL 1 g)) (hC : CX l yX10_setClock cX10_setClock 4 (some .int) (rmX 8) [.ref x, .int (iI p), .int (iI q)] M (fun v M' => e = 0 ∧ v = some (.int (iI val)) ∧ Rr M') (fun E M' => ((e = 1 ∧ E = iae)) ∧ M' = M)) : CW l yL_setClock cL_setClock 5 [(0, 10, 13, 13)] rW [.ref x, .int (iI p), .int (iI q), .ref out] M (fun v M' => v = some (.int (iI e)) ∧ ((e = 0 ∧ ∃ M1, Rr M1 ∧ M' = mu M1 out (aL 1 (up g 0 (c32 val)))) ∨ (0 < e ∧ M' = M))) := by
  refine CW.of (L0 := [some _, some _, some _, some _, none]) (by decide +kernel) rfl (Nat.le_of_ble_eq_true rfl) rfl (fun G A Q sz hQ => ?_)
  refine U_aload_n dL_setClock_0 rfl ?_
  refine U_iconst (v := iI (0)) dL_setClock_1 rfl ?_
  refine U_aload_n dL_setClock_2 rfl ?_
  refine U_iload_n dL_setClock_3 rfl ?_
  refine U_iload_n dL_setClock_4 rfl ?_
  refine U_callX (vs := [_, _]) (hC sz) mL_23 coX10_setClock dL_setClock_5 hx rfl rfl rfl ⟨(Nat.le_of_ble_eq_true rfl), (Nat.le_of_ble_eq_true rfl)⟩ (Nat.le_of_ble_eq_true rfl) ⟨(Nat.le_of_ble_eq_true rfl), (Nat.le_of_ble_eq_true rfl)⟩ (fun _ _ _ h => h) (fun E M1 hp => ?_) (fun v M1 sz1 hp => ?_)
  · obtain ⟨hp, rfl⟩ := hp
    rcases hp with ⟨he, rfl⟩
    · refine ⟨[], ⟨0, 10, 13, 13⟩, [], _, rfl, (fun z hz => by cases hz), by decide, by decide, cL_13, ca_iae, fun q sz1 => ?_⟩
      refine U_astore (L' := [some _, some _, some _, some _, some _]) dL_setClock_13 (by decide) rfl ?_
      refine U_iconst (v := iI (1)) dL_setClock_15 rfl ?_
      exact U_ireti dL_setClock_16 rfl (Nat.le_of_ble_eq_true rfl) (Nat.le_of_ble_eq_true rfl) (hQ _ _ _ ⟨iv he.symm, Or.inr ⟨by omega, rfl⟩⟩)
  · obtain ⟨he, rfl, hR⟩ := hp
    refine J_i2lc dL_setClock_8 ?_
    refine J_last dL_setClock_9 (hRo M1 hR) ⟨by omega, by omega⟩ (by decide) ?_
    refine U_goto (tgt := 17) dL_setClock_10 (by decide) ?_
    refine U_iconst (v := iI (0)) dL_setClock_17 rfl ?_
    exact U_ireti dL_setClock_18 rfl (Nat.le_of_ble_eq_true rfl) (Nat.le_of_ble_eq_true rfl) (hQ _ _ _ ⟨iv he.symm, Or.inl ⟨he, M1, hR, rfl⟩⟩)

theorem wc_addPacket : Cond.codeWith yL_addPacket cL_addPacket 7 (some .int) [(0, 14, 17, 21), (0, 14, 21, 13), (0, 14, 25, 15)] ∈ tb := tb_in 723 (by decide +kernel) rfl

set_option maxRecDepth 100000 in
set_option maxHeartbeats 4000000 in
theorem w_addPacket (l : Launch) (M : ME) (x out : Nat) (fs : List Value) (hx : M x = some (.inl (10, fs))) (g : Int → Int) (hout : M out = some (aL 1 g)) (c p n s : Int) (val e : Int) (Rr : ME → Prop) (hRo : ∀ M', Rr M' → M' out = some (aL 1 g)) (hC : CX l yX10_addPacket cX10_addPacket 5 (some .int) (rmX 8) [.ref x, .int (iI c), .int (iI p), .int (iI n), .int (iI s)] M (fun v M' => e = 0 ∧ v = some (.int (iI val)) ∧ Rr M') (fun E M' => ((e = 1 ∧ E = ioo) ∨ (e = 2 ∧ E = iae) ∨ (e = 3 ∧ E = ise)) ∧ M' = M)) : CW l yL_addPacket cL_addPacket 7 [(0, 14, 17, 21), (0, 14, 21, 13), (0, 14, 25, 15)] rW [.ref x, .int (iI c), .int (iI p), .int (iI n), .int (iI s), .ref out] M (fun v M' => v = some (.int (iI e)) ∧ ((e = 0 ∧ ∃ M1, Rr M1 ∧ M' = mu M1 out (aL 1 (up g 0 (c32 val)))) ∨ (0 < e ∧ M' = M))) := by
  refine CW.of (L0 := [some _, some _, some _, some _, some _, some _, none]) (by decide +kernel) rfl (Nat.le_of_ble_eq_true rfl) rfl (fun G A Q sz hQ => ?_)
  refine U_aload dL_addPacket_0 rfl ?_
  refine U_iconst (v := iI (0)) dL_addPacket_2 rfl ?_
  refine U_aload_n dL_addPacket_3 rfl ?_
  refine U_iload_n dL_addPacket_4 rfl ?_
  refine U_iload_n dL_addPacket_5 rfl ?_
  refine U_iload_n dL_addPacket_6 rfl ?_
  refine U_iload dL_addPacket_7 rfl ?_
  refine U_callX (vs := [_, _, _, _]) (hC sz) mL_27 coX10_addPacket dL_addPacket_9 hx rfl rfl rfl ⟨(Nat.le_of_ble_eq_true rfl), (Nat.le_of_ble_eq_true rfl)⟩ (Nat.le_of_ble_eq_true rfl) ⟨(Nat.le_of_ble_eq_true rfl), (Nat.le_of_ble_eq_true rfl)⟩ (fun _ _ _ h => h) (fun E M1 hp => ?_) (fun v M1 sz1 hp => ?_)
  · obtain ⟨hp, rfl⟩ := hp
    rcases hp with ⟨he, rfl⟩ | ⟨he, rfl⟩ | ⟨he, rfl⟩
    · refine ⟨[], ⟨0, 14, 17, 21⟩, [⟨0, 14, 21, 13⟩, ⟨0, 14, 25, 15⟩], _, rfl, (fun z hz => by cases hz), by decide, by decide, cL_21, ca_ioo, fun q sz1 => ?_⟩
      refine U_astore (L' := [some _, some _, some _, some _, some _, some _, some _]) dL_addPacket_17 (by decide) rfl ?_
      refine U_iconst (v := iI (1)) dL_addPacket_19 rfl ?_
      exact U_ireti dL_addPacket_20 rfl (Nat.le_of_ble_eq_true rfl) (Nat.le_of_ble_eq_true rfl) (hQ _ _ _ ⟨iv he.symm, Or.inr ⟨by omega, rfl⟩⟩)
    · refine ⟨[⟨0, 14, 17, 21⟩], ⟨0, 14, 21, 13⟩, [⟨0, 14, 25, 15⟩], _, rfl, (fun z hz => by rw [List.mem_singleton] at hz; subst hz; exact ⟨by decide, _, cL_21, by decide⟩), by decide, by decide, cL_13, ca_iae, fun q sz1 => ?_⟩
      refine U_astore (L' := [some _, some _, some _, some _, some _, some _, some _]) dL_addPacket_21 (by decide) rfl ?_
      refine U_iconst (v := iI (2)) dL_addPacket_23 rfl ?_
      exact U_ireti dL_addPacket_24 rfl (Nat.le_of_ble_eq_true rfl) (Nat.le_of_ble_eq_true rfl) (hQ _ _ _ ⟨iv he.symm, Or.inr ⟨by omega, rfl⟩⟩)
    · refine ⟨[⟨0, 14, 17, 21⟩, ⟨0, 14, 21, 13⟩], ⟨0, 14, 25, 15⟩, [], _, rfl, (fun z hz => by simp only [List.mem_cons, List.not_mem_nil, or_false] at hz; rcases hz with hz | hz <;> subst hz <;> first | exact ⟨by decide, _, cL_21, by decide⟩ | exact ⟨by decide, _, cL_13, by decide⟩), by decide, by decide, cL_15, ca_ise, fun q sz1 => ?_⟩
      refine U_astore (L' := [some _, some _, some _, some _, some _, some _, some _]) dL_addPacket_25 (by decide) rfl ?_
      refine U_iconst (v := iI (3)) dL_addPacket_27 rfl ?_
      exact U_ireti dL_addPacket_28 rfl (Nat.le_of_ble_eq_true rfl) (Nat.le_of_ble_eq_true rfl) (hQ _ _ _ ⟨iv he.symm, Or.inr ⟨by omega, rfl⟩⟩)
  · obtain ⟨he, rfl, hR⟩ := hp
    refine J_i2lc dL_addPacket_12 ?_
    refine J_last dL_addPacket_13 (hRo M1 hR) ⟨by omega, by omega⟩ (by decide) ?_
    refine U_goto (tgt := 29) dL_addPacket_14 (by decide) ?_
    refine U_iconst (v := iI (0)) dL_addPacket_29 rfl ?_
    exact U_ireti dL_addPacket_30 rfl (Nat.le_of_ble_eq_true rfl) (Nat.le_of_ble_eq_true rfl) (hQ _ _ _ ⟨iv he.symm, Or.inl ⟨he, M1, hR, rfl⟩⟩)

theorem wc_queue : Cond.codeWith yL_queue cL_queue 5 (some .int) [(0, 10, 13, 21), (0, 10, 17, 13)] ∈ tb := tb_in 745 (by decide +kernel) rfl

set_option maxRecDepth 100000 in
set_option maxHeartbeats 4000000 in
theorem w_queue (l : Launch) (M : ME) (x out : Nat) (fs : List Value) (hx : M x = some (.inl (10, fs))) (g : Int → Int) (hout : M out = some (aL 1 g)) (c w : Int) (val e : Int) (Rr : ME → Prop) (hRo : ∀ M', Rr M' → M' out = some (aL 1 g)) (hC : CX l yX10_queue cX10_queue 4 (some .int) (rmX 8) [.ref x, .int (iI c), .int (iI w)] M (fun v M' => e = 0 ∧ v = some (.int (iI val)) ∧ Rr M') (fun E M' => ((e = 1 ∧ E = ioo) ∨ (e = 2 ∧ E = iae)) ∧ M' = M)) : CW l yL_queue cL_queue 5 [(0, 10, 13, 21), (0, 10, 17, 13)] rW [.ref x, .int (iI c), .int (iI w), .ref out] M (fun v M' => v = some (.int (iI e)) ∧ ((e = 0 ∧ ∃ M1, Rr M1 ∧ M' = mu M1 out (aL 1 (up g 0 (c32 val)))) ∨ (0 < e ∧ M' = M))) := by
  refine CW.of (L0 := [some _, some _, some _, some _, none]) (by decide +kernel) rfl (Nat.le_of_ble_eq_true rfl) rfl (fun G A Q sz hQ => ?_)
  refine U_aload_n dL_queue_0 rfl ?_
  refine U_iconst (v := iI (0)) dL_queue_1 rfl ?_
  refine U_aload_n dL_queue_2 rfl ?_
  refine U_iload_n dL_queue_3 rfl ?_
  refine U_iload_n dL_queue_4 rfl ?_
  refine U_callX (vs := [_, _]) (hC sz) mL_30 coX10_queue dL_queue_5 hx rfl rfl rfl ⟨(Nat.le_of_ble_eq_true rfl), (Nat.le_of_ble_eq_true rfl)⟩ (Nat.le_of_ble_eq_true rfl) ⟨(Nat.le_of_ble_eq_true rfl), (Nat.le_of_ble_eq_true rfl)⟩ (fun _ _ _ h => h) (fun E M1 hp => ?_) (fun v M1 sz1 hp => ?_)
  · obtain ⟨hp, rfl⟩ := hp
    rcases hp with ⟨he, rfl⟩ | ⟨he, rfl⟩
    · refine ⟨[], ⟨0, 10, 13, 21⟩, [⟨0, 10, 17, 13⟩], _, rfl, (fun z hz => by cases hz), by decide, by decide, cL_21, ca_ioo, fun q sz1 => ?_⟩
      refine U_astore (L' := [some _, some _, some _, some _, some _]) dL_queue_13 (by decide) rfl ?_
      refine U_iconst (v := iI (1)) dL_queue_15 rfl ?_
      exact U_ireti dL_queue_16 rfl (Nat.le_of_ble_eq_true rfl) (Nat.le_of_ble_eq_true rfl) (hQ _ _ _ ⟨iv he.symm, Or.inr ⟨by omega, rfl⟩⟩)
    · refine ⟨[⟨0, 10, 13, 21⟩], ⟨0, 10, 17, 13⟩, [], _, rfl, (fun z hz => by rw [List.mem_singleton] at hz; subst hz; exact ⟨by decide, _, cL_21, by decide⟩), by decide, by decide, cL_13, ca_iae, fun q sz1 => ?_⟩
      refine U_astore (L' := [some _, some _, some _, some _, some _]) dL_queue_17 (by decide) rfl ?_
      refine U_iconst (v := iI (2)) dL_queue_19 rfl ?_
      exact U_ireti dL_queue_20 rfl (Nat.le_of_ble_eq_true rfl) (Nat.le_of_ble_eq_true rfl) (hQ _ _ _ ⟨iv he.symm, Or.inr ⟨by omega, rfl⟩⟩)
  · obtain ⟨he, rfl, hR⟩ := hp
    refine J_i2lc dL_queue_8 ?_
    refine J_last dL_queue_9 (hRo M1 hR) ⟨by omega, by omega⟩ (by decide) ?_
    refine U_goto (tgt := 21) dL_queue_10 (by decide) ?_
    refine U_iconst (v := iI (0)) dL_queue_21 rfl ?_
    exact U_ireti dL_queue_22 rfl (Nat.le_of_ble_eq_true rfl) (Nat.le_of_ble_eq_true rfl) (hQ _ _ _ ⟨iv he.symm, Or.inl ⟨he, M1, hR, rfl⟩⟩)

theorem wc_send : Cond.codeWith yL_send cL_send 4 (some .int) [(0, 9, 12, 13), (0, 9, 15, 15)] ∈ tb := tb_in 749 (by decide +kernel) rfl

set_option maxRecDepth 100000 in
set_option maxHeartbeats 4000000 in
theorem w_send (l : Launch) (M : ME) (x out : Nat) (fs : List Value) (hx : M x = some (.inl (10, fs))) (g : Int → Int) (hout : M out = some (aL 1 g)) (n : Int) (val e : Int) (Rr : ME → Prop) (hRo : ∀ M', Rr M' → M' out = some (aL 1 g)) (hC : CX l yX10_send cX10_send 4 (some .int) (rmX 8) [.ref x, .int (iI n)] M (fun v M' => e = 0 ∧ v = some (.int (iI val)) ∧ Rr M') (fun E M' => ((e = 1 ∧ E = iae) ∨ (e = 2 ∧ E = ise)) ∧ M' = M)) : CW l yL_send cL_send 4 [(0, 9, 12, 13), (0, 9, 15, 15)] rW [.ref x, .int (iI n), .ref out] M (fun v M' => v = some (.int (iI e)) ∧ ((e = 0 ∧ ∃ M1, Rr M1 ∧ M' = mu M1 out (aL 1 (up g 0 (c32 val)))) ∨ (0 < e ∧ M' = M))) := by
  refine CW.of (L0 := [some _, some _, some _, none]) (by decide +kernel) rfl (Nat.le_of_ble_eq_true rfl) rfl (fun G A Q sz hQ => ?_)
  refine U_aload_n dL_send_0 rfl ?_
  refine U_iconst (v := iI (0)) dL_send_1 rfl ?_
  refine U_aload_n dL_send_2 rfl ?_
  refine U_iload_n dL_send_3 rfl ?_
  refine U_callX (vs := [_]) (hC sz) mL_33 coX10_send dL_send_4 hx rfl rfl rfl ⟨(Nat.le_of_ble_eq_true rfl), (Nat.le_of_ble_eq_true rfl)⟩ (Nat.le_of_ble_eq_true rfl) ⟨(Nat.le_of_ble_eq_true rfl), (Nat.le_of_ble_eq_true rfl)⟩ (fun _ _ _ h => h) (fun E M1 hp => ?_) (fun v M1 sz1 hp => ?_)
  · obtain ⟨hp, rfl⟩ := hp
    rcases hp with ⟨he, rfl⟩ | ⟨he, rfl⟩
    · refine ⟨[], ⟨0, 9, 12, 13⟩, [⟨0, 9, 15, 15⟩], _, rfl, (fun z hz => by cases hz), by decide, by decide, cL_13, ca_iae, fun q sz1 => ?_⟩
      refine U_astore_n (L' := [some _, some _, some _, some _]) dL_send_12 rfl (by decide) rfl ?_
      refine U_iconst (v := iI (1)) dL_send_13 rfl ?_
      exact U_ireti dL_send_14 rfl (Nat.le_of_ble_eq_true rfl) (Nat.le_of_ble_eq_true rfl) (hQ _ _ _ ⟨iv he.symm, Or.inr ⟨by omega, rfl⟩⟩)
    · refine ⟨[⟨0, 9, 12, 13⟩], ⟨0, 9, 15, 15⟩, [], _, rfl, (fun z hz => by rw [List.mem_singleton] at hz; subst hz; exact ⟨by decide, _, cL_13, by decide⟩), by decide, by decide, cL_15, ca_ise, fun q sz1 => ?_⟩
      refine U_astore_n (L' := [some _, some _, some _, some _]) dL_send_15 rfl (by decide) rfl ?_
      refine U_iconst (v := iI (2)) dL_send_16 rfl ?_
      exact U_ireti dL_send_17 rfl (Nat.le_of_ble_eq_true rfl) (Nat.le_of_ble_eq_true rfl) (hQ _ _ _ ⟨iv he.symm, Or.inr ⟨by omega, rfl⟩⟩)
  · obtain ⟨he, rfl, hR⟩ := hp
    refine J_i2lc dL_send_7 ?_
    refine J_last dL_send_8 (hRo M1 hR) ⟨by omega, by omega⟩ (by decide) ?_
    refine U_goto (tgt := 18) dL_send_9 (by decide) ?_
    refine U_iconst (v := iI (0)) dL_send_18 rfl ?_
    exact U_ireti dL_send_19 rfl (Nat.le_of_ble_eq_true rfl) (Nat.le_of_ble_eq_true rfl) (hQ _ _ _ ⟨iv he.symm, Or.inl ⟨he, M1, hR, rfl⟩⟩)

theorem wc_sent : Cond.codeWith yL_sent cL_sent 5 (some .int) [(0, 10, 13, 21), (0, 10, 17, 13)] ∈ tb := tb_in 815 (by decide +kernel) rfl

set_option maxRecDepth 100000 in
set_option maxHeartbeats 4000000 in
theorem w_sent (l : Launch) (M : ME) (x out : Nat) (fs : List Value) (hx : M x = some (.inl (10, fs))) (g : Int → Int) (hout : M out = some (aL 1 g)) (c w : Int) (val e : Int) (Rr : ME → Prop) (hRo : ∀ M', Rr M' → M' out = some (aL 1 g)) (hC : CX l yX10_sent cX10_sent 4 (some .int) (rmX 8) [.ref x, .int (iI c), .int (iI w)] M (fun v M' => e = 0 ∧ v = some (.int (iI val)) ∧ Rr M') (fun E M' => ((e = 1 ∧ E = ioo) ∨ (e = 2 ∧ E = iae)) ∧ M' = M)) : CW l yL_sent cL_sent 5 [(0, 10, 13, 21), (0, 10, 17, 13)] rW [.ref x, .int (iI c), .int (iI w), .ref out] M (fun v M' => v = some (.int (iI e)) ∧ ((e = 0 ∧ ∃ M1, Rr M1 ∧ M' = mu M1 out (aL 1 (up g 0 (c32 val)))) ∨ (0 < e ∧ M' = M))) := by
  refine CW.of (L0 := [some _, some _, some _, some _, none]) (by decide +kernel) rfl (Nat.le_of_ble_eq_true rfl) rfl (fun G A Q sz hQ => ?_)
  refine U_aload_n dL_sent_0 rfl ?_
  refine U_iconst (v := iI (0)) dL_sent_1 rfl ?_
  refine U_aload_n dL_sent_2 rfl ?_
  refine U_iload_n dL_sent_3 rfl ?_
  refine U_iload_n dL_sent_4 rfl ?_
  refine U_callX (vs := [_, _]) (hC sz) mL_36 coX10_sent dL_sent_5 hx rfl rfl rfl ⟨(Nat.le_of_ble_eq_true rfl), (Nat.le_of_ble_eq_true rfl)⟩ (Nat.le_of_ble_eq_true rfl) ⟨(Nat.le_of_ble_eq_true rfl), (Nat.le_of_ble_eq_true rfl)⟩ (fun _ _ _ h => h) (fun E M1 hp => ?_) (fun v M1 sz1 hp => ?_)
  · obtain ⟨hp, rfl⟩ := hp
    rcases hp with ⟨he, rfl⟩ | ⟨he, rfl⟩
    · refine ⟨[], ⟨0, 10, 13, 21⟩, [⟨0, 10, 17, 13⟩], _, rfl, (fun z hz => by cases hz), by decide, by decide, cL_21, ca_ioo, fun q sz1 => ?_⟩
      refine U_astore (L' := [some _, some _, some _, some _, some _]) dL_sent_13 (by decide) rfl ?_
      refine U_iconst (v := iI (1)) dL_sent_15 rfl ?_
      exact U_ireti dL_sent_16 rfl (Nat.le_of_ble_eq_true rfl) (Nat.le_of_ble_eq_true rfl) (hQ _ _ _ ⟨iv he.symm, Or.inr ⟨by omega, rfl⟩⟩)
    · refine ⟨[⟨0, 10, 13, 21⟩], ⟨0, 10, 17, 13⟩, [], _, rfl, (fun z hz => by rw [List.mem_singleton] at hz; subst hz; exact ⟨by decide, _, cL_21, by decide⟩), by decide, by decide, cL_13, ca_iae, fun q sz1 => ?_⟩
      refine U_astore (L' := [some _, some _, some _, some _, some _]) dL_sent_17 (by decide) rfl ?_
      refine U_iconst (v := iI (2)) dL_sent_19 rfl ?_
      exact U_ireti dL_sent_20 rfl (Nat.le_of_ble_eq_true rfl) (Nat.le_of_ble_eq_true rfl) (hQ _ _ _ ⟨iv he.symm, Or.inr ⟨by omega, rfl⟩⟩)
  · obtain ⟨he, rfl, hR⟩ := hp
    refine J_i2lc dL_sent_8 ?_
    refine J_last dL_sent_9 (hRo M1 hR) ⟨by omega, by omega⟩ (by decide) ?_
    refine U_goto (tgt := 21) dL_sent_10 (by decide) ?_
    refine U_iconst (v := iI (0)) dL_sent_21 rfl ?_
    exact U_ireti dL_sent_22 rfl (Nat.le_of_ble_eq_true rfl) (Nat.le_of_ble_eq_true rfl) (hQ _ _ _ ⟨iv he.symm, Or.inl ⟨he, M1, hR, rfl⟩⟩)

theorem wc_frameByte : Cond.codeWith yL_frameByte cL_frameByte 5 (some .int) [(0, 10, 13, 21)] ∈ tb := tb_in 819 (by decide +kernel) rfl

set_option maxRecDepth 100000 in
set_option maxHeartbeats 4000000 in
theorem w_frameByte (l : Launch) (M : ME) (x out : Nat) (fs : List Value) (hx : M x = some (.inl (10, fs))) (g : Int → Int) (hout : M out = some (aL 1 g)) (i k : Int) (val e : Int) (Rr : ME → Prop) (hRo : ∀ M', Rr M' → M' out = some (aL 1 g)) (hC : CX l yX10_frameByte cX10_frameByte 3 (some .int) (rmX 8) [.ref x, .int (iI i), .int (iI k)] M (fun v M' => e = 0 ∧ v = some (.int (iI val)) ∧ Rr M') (fun E M' => ((e = 1 ∧ E = ioo)) ∧ M' = M)) : CW l yL_frameByte cL_frameByte 5 [(0, 10, 13, 21)] rW [.ref x, .int (iI i), .int (iI k), .ref out] M (fun v M' => v = some (.int (iI e)) ∧ ((e = 0 ∧ ∃ M1, Rr M1 ∧ M' = mu M1 out (aL 1 (up g 0 (c32 val)))) ∨ (0 < e ∧ M' = M))) := by
  refine CW.of (L0 := [some _, some _, some _, some _, none]) (by decide +kernel) rfl (Nat.le_of_ble_eq_true rfl) rfl (fun G A Q sz hQ => ?_)
  refine U_aload_n dL_frameByte_0 rfl ?_
  refine U_iconst (v := iI (0)) dL_frameByte_1 rfl ?_
  refine U_aload_n dL_frameByte_2 rfl ?_
  refine U_iload_n dL_frameByte_3 rfl ?_
  refine U_iload_n dL_frameByte_4 rfl ?_
  refine U_callX (vs := [_, _]) (hC sz) mL_39 coX10_frameByte dL_frameByte_5 hx rfl rfl rfl ⟨(Nat.le_of_ble_eq_true rfl), (Nat.le_of_ble_eq_true rfl)⟩ (Nat.le_of_ble_eq_true rfl) ⟨(Nat.le_of_ble_eq_true rfl), (Nat.le_of_ble_eq_true rfl)⟩ (fun _ _ _ h => h) (fun E M1 hp => ?_) (fun v M1 sz1 hp => ?_)
  · obtain ⟨hp, rfl⟩ := hp
    rcases hp with ⟨he, rfl⟩
    · refine ⟨[], ⟨0, 10, 13, 21⟩, [], _, rfl, (fun z hz => by cases hz), by decide, by decide, cL_21, ca_ioo, fun q sz1 => ?_⟩
      refine U_astore (L' := [some _, some _, some _, some _, some _]) dL_frameByte_13 (by decide) rfl ?_
      refine U_iconst (v := iI (1)) dL_frameByte_15 rfl ?_
      exact U_ireti dL_frameByte_16 rfl (Nat.le_of_ble_eq_true rfl) (Nat.le_of_ble_eq_true rfl) (hQ _ _ _ ⟨iv he.symm, Or.inr ⟨by omega, rfl⟩⟩)
  · obtain ⟨he, rfl, hR⟩ := hp
    refine J_i2lc dL_frameByte_8 ?_
    refine J_last dL_frameByte_9 (hRo M1 hR) ⟨by omega, by omega⟩ (by decide) ?_
    refine U_goto (tgt := 17) dL_frameByte_10 (by decide) ?_
    refine U_iconst (v := iI (0)) dL_frameByte_17 rfl ?_
    exact U_ireti dL_frameByte_18 rfl (Nat.le_of_ble_eq_true rfl) (Nat.le_of_ble_eq_true rfl) (hQ _ _ _ ⟨iv he.symm, Or.inl ⟨he, M1, hR, rfl⟩⟩)

theorem wc_corrupt : Cond.codeWith yL_corrupt cL_corrupt 6 (some .int) [(0, 12, 15, 21), (0, 12, 19, 13)] ∈ tb := tb_in 831 (by decide +kernel) rfl

set_option maxRecDepth 100000 in
set_option maxHeartbeats 4000000 in
theorem w_corrupt (l : Launch) (M : ME) (x out : Nat) (fs : List Value) (hx : M x = some (.inl (10, fs))) (g : Int → Int) (hout : M out = some (aL 1 g)) (i k m : Int) (val e : Int) (Rr : ME → Prop) (hRo : ∀ M', Rr M' → M' out = some (aL 1 g)) (hC : CX l yX10_corrupt cX10_corrupt 5 (some .int) (rmX 8) [.ref x, .int (iI i), .int (iI k), .int (iI m)] M (fun v M' => e = 0 ∧ v = some (.int (iI val)) ∧ Rr M') (fun E M' => ((e = 1 ∧ E = ioo) ∨ (e = 2 ∧ E = iae)) ∧ M' = M)) : CW l yL_corrupt cL_corrupt 6 [(0, 12, 15, 21), (0, 12, 19, 13)] rW [.ref x, .int (iI i), .int (iI k), .int (iI m), .ref out] M (fun v M' => v = some (.int (iI e)) ∧ ((e = 0 ∧ ∃ M1, Rr M1 ∧ M' = mu M1 out (aL 1 (up g 0 (c32 val)))) ∨ (0 < e ∧ M' = M))) := by
  refine CW.of (L0 := [some _, some _, some _, some _, some _, none]) (by decide +kernel) rfl (Nat.le_of_ble_eq_true rfl) rfl (fun G A Q sz hQ => ?_)
  refine U_aload dL_corrupt_0 rfl ?_
  refine U_iconst (v := iI (0)) dL_corrupt_2 rfl ?_
  refine U_aload_n dL_corrupt_3 rfl ?_
  refine U_iload_n dL_corrupt_4 rfl ?_
  refine U_iload_n dL_corrupt_5 rfl ?_
  refine U_iload_n dL_corrupt_6 rfl ?_
  refine U_callX (vs := [_, _, _]) (hC sz) mL_42 coX10_corrupt dL_corrupt_7 hx rfl rfl rfl ⟨(Nat.le_of_ble_eq_true rfl), (Nat.le_of_ble_eq_true rfl)⟩ (Nat.le_of_ble_eq_true rfl) ⟨(Nat.le_of_ble_eq_true rfl), (Nat.le_of_ble_eq_true rfl)⟩ (fun _ _ _ h => h) (fun E M1 hp => ?_) (fun v M1 sz1 hp => ?_)
  · obtain ⟨hp, rfl⟩ := hp
    rcases hp with ⟨he, rfl⟩ | ⟨he, rfl⟩
    · refine ⟨[], ⟨0, 12, 15, 21⟩, [⟨0, 12, 19, 13⟩], _, rfl, (fun z hz => by cases hz), by decide, by decide, cL_21, ca_ioo, fun q sz1 => ?_⟩
      refine U_astore (L' := [some _, some _, some _, some _, some _, some _]) dL_corrupt_15 (by decide) rfl ?_
      refine U_iconst (v := iI (1)) dL_corrupt_17 rfl ?_
      exact U_ireti dL_corrupt_18 rfl (Nat.le_of_ble_eq_true rfl) (Nat.le_of_ble_eq_true rfl) (hQ _ _ _ ⟨iv he.symm, Or.inr ⟨by omega, rfl⟩⟩)
    · refine ⟨[⟨0, 12, 15, 21⟩], ⟨0, 12, 19, 13⟩, [], _, rfl, (fun z hz => by rw [List.mem_singleton] at hz; subst hz; exact ⟨by decide, _, cL_21, by decide⟩), by decide, by decide, cL_13, ca_iae, fun q sz1 => ?_⟩
      refine U_astore (L' := [some _, some _, some _, some _, some _, some _]) dL_corrupt_19 (by decide) rfl ?_
      refine U_iconst (v := iI (2)) dL_corrupt_21 rfl ?_
      exact U_ireti dL_corrupt_22 rfl (Nat.le_of_ble_eq_true rfl) (Nat.le_of_ble_eq_true rfl) (hQ _ _ _ ⟨iv he.symm, Or.inr ⟨by omega, rfl⟩⟩)
  · obtain ⟨he, rfl, hR⟩ := hp
    refine J_i2lc dL_corrupt_10 ?_
    refine J_last dL_corrupt_11 (hRo M1 hR) ⟨by omega, by omega⟩ (by decide) ?_
    refine U_goto (tgt := 23) dL_corrupt_12 (by decide) ?_
    refine U_iconst (v := iI (0)) dL_corrupt_23 rfl ?_
    exact U_ireti dL_corrupt_24 rfl (Nat.le_of_ble_eq_true rfl) (Nat.le_of_ble_eq_true rfl) (hQ _ _ _ ⟨iv he.symm, Or.inl ⟨he, M1, hR, rfl⟩⟩)

theorem wc_repair : Cond.codeWith yL_repair cL_repair 4 (some .int) [(0, 9, 12, 21)] ∈ tb := tb_in 839 (by decide +kernel) rfl

set_option maxRecDepth 100000 in
set_option maxHeartbeats 4000000 in
theorem w_repair (l : Launch) (M : ME) (x out : Nat) (fs : List Value) (hx : M x = some (.inl (10, fs))) (g : Int → Int) (hout : M out = some (aL 1 g)) (i : Int) (val e : Int) (Rr : ME → Prop) (hRo : ∀ M', Rr M' → M' out = some (aL 1 g)) (hC : CX l yX10_repair cX10_repair 2 (some .int) (rmX 8) [.ref x, .int (iI i)] M (fun v M' => e = 0 ∧ v = some (.int (iI val)) ∧ Rr M') (fun E M' => ((e = 1 ∧ E = ioo)) ∧ M' = M)) : CW l yL_repair cL_repair 4 [(0, 9, 12, 21)] rW [.ref x, .int (iI i), .ref out] M (fun v M' => v = some (.int (iI e)) ∧ ((e = 0 ∧ ∃ M1, Rr M1 ∧ M' = mu M1 out (aL 1 (up g 0 (c32 val)))) ∨ (0 < e ∧ M' = M))) := by
  refine CW.of (L0 := [some _, some _, some _, none]) (by decide +kernel) rfl (Nat.le_of_ble_eq_true rfl) rfl (fun G A Q sz hQ => ?_)
  refine U_aload_n dL_repair_0 rfl ?_
  refine U_iconst (v := iI (0)) dL_repair_1 rfl ?_
  refine U_aload_n dL_repair_2 rfl ?_
  refine U_iload_n dL_repair_3 rfl ?_
  refine U_callX (vs := [_]) (hC sz) mL_46 coX10_repair dL_repair_4 hx rfl rfl rfl ⟨(Nat.le_of_ble_eq_true rfl), (Nat.le_of_ble_eq_true rfl)⟩ (Nat.le_of_ble_eq_true rfl) ⟨(Nat.le_of_ble_eq_true rfl), (Nat.le_of_ble_eq_true rfl)⟩ (fun _ _ _ h => h) (fun E M1 hp => ?_) (fun v M1 sz1 hp => ?_)
  · obtain ⟨hp, rfl⟩ := hp
    rcases hp with ⟨he, rfl⟩
    · refine ⟨[], ⟨0, 9, 12, 21⟩, [], _, rfl, (fun z hz => by cases hz), by decide, by decide, cL_21, ca_ioo, fun q sz1 => ?_⟩
      refine U_astore_n (L' := [some _, some _, some _, some _]) dL_repair_12 rfl (by decide) rfl ?_
      refine U_iconst (v := iI (1)) dL_repair_13 rfl ?_
      exact U_ireti dL_repair_14 rfl (Nat.le_of_ble_eq_true rfl) (Nat.le_of_ble_eq_true rfl) (hQ _ _ _ ⟨iv he.symm, Or.inr ⟨by omega, rfl⟩⟩)
  · obtain ⟨he, rfl, hR⟩ := hp
    refine J_i2lc dL_repair_7 ?_
    refine J_last dL_repair_8 (hRo M1 hR) ⟨by omega, by omega⟩ (by decide) ?_
    refine U_goto (tgt := 15) dL_repair_9 (by decide) ?_
    refine U_iconst (v := iI (0)) dL_repair_15 rfl ?_
    exact U_ireti dL_repair_16 rfl (Nat.le_of_ble_eq_true rfl) (Nat.le_of_ble_eq_true rfl) (hQ _ _ _ ⟨iv he.symm, Or.inl ⟨he, M1, hR, rfl⟩⟩)

theorem wc_lose : Cond.codeWith yL_lose cL_lose 4 (some .int) [(0, 9, 12, 21)] ∈ tb := tb_in 848 (by decide +kernel) rfl

set_option maxRecDepth 100000 in
set_option maxHeartbeats 4000000 in
theorem w_lose (l : Launch) (M : ME) (x out : Nat) (fs : List Value) (hx : M x = some (.inl (10, fs))) (g : Int → Int) (hout : M out = some (aL 1 g)) (i : Int) (val e : Int) (Rr : ME → Prop) (hRo : ∀ M', Rr M' → M' out = some (aL 1 g)) (hC : CX l yX10_lose cX10_lose 2 (some .int) (rmX 8) [.ref x, .int (iI i)] M (fun v M' => e = 0 ∧ v = some (.int (iI val)) ∧ Rr M') (fun E M' => ((e = 1 ∧ E = ioo)) ∧ M' = M)) : CW l yL_lose cL_lose 4 [(0, 9, 12, 21)] rW [.ref x, .int (iI i), .ref out] M (fun v M' => v = some (.int (iI e)) ∧ ((e = 0 ∧ ∃ M1, Rr M1 ∧ M' = mu M1 out (aL 1 (up g 0 (c32 val)))) ∨ (0 < e ∧ M' = M))) := by
  refine CW.of (L0 := [some _, some _, some _, none]) (by decide +kernel) rfl (Nat.le_of_ble_eq_true rfl) rfl (fun G A Q sz hQ => ?_)
  refine U_aload_n dL_lose_0 rfl ?_
  refine U_iconst (v := iI (0)) dL_lose_1 rfl ?_
  refine U_aload_n dL_lose_2 rfl ?_
  refine U_iload_n dL_lose_3 rfl ?_
  refine U_callX (vs := [_]) (hC sz) mL_49 coX10_lose dL_lose_4 hx rfl rfl rfl ⟨(Nat.le_of_ble_eq_true rfl), (Nat.le_of_ble_eq_true rfl)⟩ (Nat.le_of_ble_eq_true rfl) ⟨(Nat.le_of_ble_eq_true rfl), (Nat.le_of_ble_eq_true rfl)⟩ (fun _ _ _ h => h) (fun E M1 hp => ?_) (fun v M1 sz1 hp => ?_)
  · obtain ⟨hp, rfl⟩ := hp
    rcases hp with ⟨he, rfl⟩
    · refine ⟨[], ⟨0, 9, 12, 21⟩, [], _, rfl, (fun z hz => by cases hz), by decide, by decide, cL_21, ca_ioo, fun q sz1 => ?_⟩
      refine U_astore_n (L' := [some _, some _, some _, some _]) dL_lose_12 rfl (by decide) rfl ?_
      refine U_iconst (v := iI (1)) dL_lose_13 rfl ?_
      exact U_ireti dL_lose_14 rfl (Nat.le_of_ble_eq_true rfl) (Nat.le_of_ble_eq_true rfl) (hQ _ _ _ ⟨iv he.symm, Or.inr ⟨by omega, rfl⟩⟩)
  · obtain ⟨he, rfl, hR⟩ := hp
    refine J_i2lc dL_lose_7 ?_
    refine J_last dL_lose_8 (hRo M1 hR) ⟨by omega, by omega⟩ (by decide) ?_
    refine U_goto (tgt := 15) dL_lose_9 (by decide) ?_
    refine U_iconst (v := iI (0)) dL_lose_15 rfl ?_
    exact U_ireti dL_lose_16 rfl (Nat.le_of_ble_eq_true rfl) (Nat.le_of_ble_eq_true rfl) (hQ _ _ _ ⟨iv he.symm, Or.inl ⟨he, M1, hR, rfl⟩⟩)

theorem wc_receive : Cond.codeWith yL_receive cL_receive 4 (some .int) [(0, 9, 12, 13), (0, 9, 15, 15)] ∈ tb := tb_in 859 (by decide +kernel) rfl

set_option maxRecDepth 100000 in
set_option maxHeartbeats 4000000 in
theorem w_receive (l : Launch) (M : ME) (x out : Nat) (fs : List Value) (hx : M x = some (.inl (10, fs))) (g : Int → Int) (hout : M out = some (aL 1 g)) (n : Int) (val e : Int) (Rr : ME → Prop) (hRo : ∀ M', Rr M' → M' out = some (aL 1 g)) (hC : CX l yX10_receive cX10_receive 4 (some .int) (rmX 8) [.ref x, .int (iI n)] M (fun v M' => e = 0 ∧ v = some (.int (iI val)) ∧ Rr M') (fun E M' => ((e = 1 ∧ E = iae) ∨ (e = 2 ∧ E = ise)) ∧ M' = M)) : CW l yL_receive cL_receive 4 [(0, 9, 12, 13), (0, 9, 15, 15)] rW [.ref x, .int (iI n), .ref out] M (fun v M' => v = some (.int (iI e)) ∧ ((e = 0 ∧ ∃ M1, Rr M1 ∧ M' = mu M1 out (aL 1 (up g 0 (c32 val)))) ∨ (0 < e ∧ M' = M))) := by
  refine CW.of (L0 := [some _, some _, some _, none]) (by decide +kernel) rfl (Nat.le_of_ble_eq_true rfl) rfl (fun G A Q sz hQ => ?_)
  refine U_aload_n dL_receive_0 rfl ?_
  refine U_iconst (v := iI (0)) dL_receive_1 rfl ?_
  refine U_aload_n dL_receive_2 rfl ?_
  refine U_iload_n dL_receive_3 rfl ?_
  refine U_callX (vs := [_]) (hC sz) mL_52 coX10_receive dL_receive_4 hx rfl rfl rfl ⟨(Nat.le_of_ble_eq_true rfl), (Nat.le_of_ble_eq_true rfl)⟩ (Nat.le_of_ble_eq_true rfl) ⟨(Nat.le_of_ble_eq_true rfl), (Nat.le_of_ble_eq_true rfl)⟩ (fun _ _ _ h => h) (fun E M1 hp => ?_) (fun v M1 sz1 hp => ?_)
  · obtain ⟨hp, rfl⟩ := hp
    rcases hp with ⟨he, rfl⟩ | ⟨he, rfl⟩
    · refine ⟨[], ⟨0, 9, 12, 13⟩, [⟨0, 9, 15, 15⟩], _, rfl, (fun z hz => by cases hz), by decide, by decide, cL_13, ca_iae, fun q sz1 => ?_⟩
      refine U_astore_n (L' := [some _, some _, some _, some _]) dL_receive_12 rfl (by decide) rfl ?_
      refine U_iconst (v := iI (1)) dL_receive_13 rfl ?_
      exact U_ireti dL_receive_14 rfl (Nat.le_of_ble_eq_true rfl) (Nat.le_of_ble_eq_true rfl) (hQ _ _ _ ⟨iv he.symm, Or.inr ⟨by omega, rfl⟩⟩)
    · refine ⟨[⟨0, 9, 12, 13⟩], ⟨0, 9, 15, 15⟩, [], _, rfl, (fun z hz => by rw [List.mem_singleton] at hz; subst hz; exact ⟨by decide, _, cL_13, by decide⟩), by decide, by decide, cL_15, ca_ise, fun q sz1 => ?_⟩
      refine U_astore_n (L' := [some _, some _, some _, some _]) dL_receive_15 rfl (by decide) rfl ?_
      refine U_iconst (v := iI (2)) dL_receive_16 rfl ?_
      exact U_ireti dL_receive_17 rfl (Nat.le_of_ble_eq_true rfl) (Nat.le_of_ble_eq_true rfl) (hQ _ _ _ ⟨iv he.symm, Or.inr ⟨by omega, rfl⟩⟩)
  · obtain ⟨he, rfl, hR⟩ := hp
    refine J_i2lc dL_receive_7 ?_
    refine J_last dL_receive_8 (hRo M1 hR) ⟨by omega, by omega⟩ (by decide) ?_
    refine U_goto (tgt := 18) dL_receive_9 (by decide) ?_
    refine U_iconst (v := iI (0)) dL_receive_18 rfl ?_
    exact U_ireti dL_receive_19 rfl (Nat.le_of_ble_eq_true rfl) (Nat.le_of_ble_eq_true rfl) (hQ _ _ _ ⟨iv he.symm, Or.inl ⟨he, M1, hR, rfl⟩⟩)

theorem wc_count : Cond.codeWith yL_count cL_count 4 (some .int) [(0, 9, 12, 13)] ∈ tb := tb_in 923 (by decide +kernel) rfl

set_option maxRecDepth 100000 in
set_option maxHeartbeats 4000000 in
theorem w_count (l : Launch) (M : ME) (x out : Nat) (fs : List Value) (hx : M x = some (.inl (10, fs))) (g : Int → Int) (hout : M out = some (aL 1 g)) (w : Int) (val e : Int) (Rr : ME → Prop) (hRo : ∀ M', Rr M' → M' out = some (aL 1 g)) (hC : CX l yX10_count cX10_count 2 (some .int) (rmX 8) [.ref x, .int (iI w)] M (fun v M' => e = 0 ∧ v = some (.int (iI val)) ∧ Rr M') (fun E M' => ((e = 1 ∧ E = iae)) ∧ M' = M)) : CW l yL_count cL_count 4 [(0, 9, 12, 13)] rW [.ref x, .int (iI w), .ref out] M (fun v M' => v = some (.int (iI e)) ∧ ((e = 0 ∧ ∃ M1, Rr M1 ∧ M' = mu M1 out (aL 1 (up g 0 (c32 val)))) ∨ (0 < e ∧ M' = M))) := by
  refine CW.of (L0 := [some _, some _, some _, none]) (by decide +kernel) rfl (Nat.le_of_ble_eq_true rfl) rfl (fun G A Q sz hQ => ?_)
  refine U_aload_n dL_count_0 rfl ?_
  refine U_iconst (v := iI (0)) dL_count_1 rfl ?_
  refine U_aload_n dL_count_2 rfl ?_
  refine U_iload_n dL_count_3 rfl ?_
  refine U_callX (vs := [_]) (hC sz) mL_55 coX10_count dL_count_4 hx rfl rfl rfl ⟨(Nat.le_of_ble_eq_true rfl), (Nat.le_of_ble_eq_true rfl)⟩ (Nat.le_of_ble_eq_true rfl) ⟨(Nat.le_of_ble_eq_true rfl), (Nat.le_of_ble_eq_true rfl)⟩ (fun _ _ _ h => h) (fun E M1 hp => ?_) (fun v M1 sz1 hp => ?_)
  · obtain ⟨hp, rfl⟩ := hp
    rcases hp with ⟨he, rfl⟩
    · refine ⟨[], ⟨0, 9, 12, 13⟩, [], _, rfl, (fun z hz => by cases hz), by decide, by decide, cL_13, ca_iae, fun q sz1 => ?_⟩
      refine U_astore_n (L' := [some _, some _, some _, some _]) dL_count_12 rfl (by decide) rfl ?_
      refine U_iconst (v := iI (1)) dL_count_13 rfl ?_
      exact U_ireti dL_count_14 rfl (Nat.le_of_ble_eq_true rfl) (Nat.le_of_ble_eq_true rfl) (hQ _ _ _ ⟨iv he.symm, Or.inr ⟨by omega, rfl⟩⟩)
  · obtain ⟨he, rfl, hR⟩ := hp
    refine J_i2lc dL_count_7 ?_
    refine J_last dL_count_8 (hRo M1 hR) ⟨by omega, by omega⟩ (by decide) ?_
    refine U_goto (tgt := 15) dL_count_9 (by decide) ?_
    refine U_iconst (v := iI (0)) dL_count_15 rfl ?_
    exact U_ireti dL_count_16 rfl (Nat.le_of_ble_eq_true rfl) (Nat.le_of_ble_eq_true rfl) (hQ _ _ _ ⟨iv he.symm, Or.inl ⟨he, M1, hR, rfl⟩⟩)

theorem wc_received : Cond.codeWith yL_received cL_received 5 (some .int) [(0, 10, 13, 21), (0, 10, 17, 13)] ∈ tb := tb_in 927 (by decide +kernel) rfl

set_option maxRecDepth 100000 in
set_option maxHeartbeats 4000000 in
theorem w_received (l : Launch) (M : ME) (x out : Nat) (fs : List Value) (hx : M x = some (.inl (10, fs))) (g : Int → Int) (hout : M out = some (aL 1 g)) (c w : Int) (val e : Int) (Rr : ME → Prop) (hRo : ∀ M', Rr M' → M' out = some (aL 1 g)) (hC : CX l yX10_received cX10_received 4 (some .int) (rmX 8) [.ref x, .int (iI c), .int (iI w)] M (fun v M' => e = 0 ∧ v = some (.int (iI val)) ∧ Rr M') (fun E M' => ((e = 1 ∧ E = ioo) ∨ (e = 2 ∧ E = iae)) ∧ M' = M)) : CW l yL_received cL_received 5 [(0, 10, 13, 21), (0, 10, 17, 13)] rW [.ref x, .int (iI c), .int (iI w), .ref out] M (fun v M' => v = some (.int (iI e)) ∧ ((e = 0 ∧ ∃ M1, Rr M1 ∧ M' = mu M1 out (aL 1 (up g 0 (c32 val)))) ∨ (0 < e ∧ M' = M))) := by
  refine CW.of (L0 := [some _, some _, some _, some _, none]) (by decide +kernel) rfl (Nat.le_of_ble_eq_true rfl) rfl (fun G A Q sz hQ => ?_)
  refine U_aload_n dL_received_0 rfl ?_
  refine U_iconst (v := iI (0)) dL_received_1 rfl ?_
  refine U_aload_n dL_received_2 rfl ?_
  refine U_iload_n dL_received_3 rfl ?_
  refine U_iload_n dL_received_4 rfl ?_
  refine U_callX (vs := [_, _]) (hC sz) mL_58 coX10_received dL_received_5 hx rfl rfl rfl ⟨(Nat.le_of_ble_eq_true rfl), (Nat.le_of_ble_eq_true rfl)⟩ (Nat.le_of_ble_eq_true rfl) ⟨(Nat.le_of_ble_eq_true rfl), (Nat.le_of_ble_eq_true rfl)⟩ (fun _ _ _ h => h) (fun E M1 hp => ?_) (fun v M1 sz1 hp => ?_)
  · obtain ⟨hp, rfl⟩ := hp
    rcases hp with ⟨he, rfl⟩ | ⟨he, rfl⟩
    · refine ⟨[], ⟨0, 10, 13, 21⟩, [⟨0, 10, 17, 13⟩], _, rfl, (fun z hz => by cases hz), by decide, by decide, cL_21, ca_ioo, fun q sz1 => ?_⟩
      refine U_astore (L' := [some _, some _, some _, some _, some _]) dL_received_13 (by decide) rfl ?_
      refine U_iconst (v := iI (1)) dL_received_15 rfl ?_
      exact U_ireti dL_received_16 rfl (Nat.le_of_ble_eq_true rfl) (Nat.le_of_ble_eq_true rfl) (hQ _ _ _ ⟨iv he.symm, Or.inr ⟨by omega, rfl⟩⟩)
    · refine ⟨[⟨0, 10, 13, 21⟩], ⟨0, 10, 17, 13⟩, [], _, rfl, (fun z hz => by rw [List.mem_singleton] at hz; subst hz; exact ⟨by decide, _, cL_21, by decide⟩), by decide, by decide, cL_13, ca_iae, fun q sz1 => ?_⟩
      refine U_astore (L' := [some _, some _, some _, some _, some _]) dL_received_17 (by decide) rfl ?_
      refine U_iconst (v := iI (2)) dL_received_19 rfl ?_
      exact U_ireti dL_received_20 rfl (Nat.le_of_ble_eq_true rfl) (Nat.le_of_ble_eq_true rfl) (hQ _ _ _ ⟨iv he.symm, Or.inr ⟨by omega, rfl⟩⟩)
  · obtain ⟨he, rfl, hR⟩ := hp
    refine J_i2lc dL_received_8 ?_
    refine J_last dL_received_9 (hRo M1 hR) ⟨by omega, by omega⟩ (by decide) ?_
    refine U_goto (tgt := 21) dL_received_10 (by decide) ?_
    refine U_iconst (v := iI (0)) dL_received_21 rfl ?_
    exact U_ireti dL_received_22 rfl (Nat.le_of_ble_eq_true rfl) (Nat.le_of_ble_eq_true rfl) (hQ _ _ _ ⟨iv he.symm, Or.inl ⟨he, M1, hR, rfl⟩⟩)

theorem wc_application : Cond.codeWith yL_application cL_application 5 (some .int) [(0, 10, 13, 21), (0, 10, 17, 13)] ∈ tb := tb_in 931 (by decide +kernel) rfl

set_option maxRecDepth 100000 in
set_option maxHeartbeats 4000000 in
theorem w_application (l : Launch) (M : ME) (x out : Nat) (fs : List Value) (hx : M x = some (.inl (10, fs))) (g : Int → Int) (hout : M out = some (aL 1 g)) (c w : Int) (val e : Int) (Rr : ME → Prop) (hRo : ∀ M', Rr M' → M' out = some (aL 1 g)) (hC : CX l yX10_application cX10_application 3 (some .int) (rmX 8) [.ref x, .int (iI c), .int (iI w)] M (fun v M' => e = 0 ∧ v = some (.int (iI val)) ∧ Rr M') (fun E M' => ((e = 1 ∧ E = ioo) ∨ (e = 2 ∧ E = iae)) ∧ M' = M)) : CW l yL_application cL_application 5 [(0, 10, 13, 21), (0, 10, 17, 13)] rW [.ref x, .int (iI c), .int (iI w), .ref out] M (fun v M' => v = some (.int (iI e)) ∧ ((e = 0 ∧ ∃ M1, Rr M1 ∧ M' = mu M1 out (aL 1 (up g 0 (c32 val)))) ∨ (0 < e ∧ M' = M))) := by
  refine CW.of (L0 := [some _, some _, some _, some _, none]) (by decide +kernel) rfl (Nat.le_of_ble_eq_true rfl) rfl (fun G A Q sz hQ => ?_)
  refine U_aload_n dL_application_0 rfl ?_
  refine U_iconst (v := iI (0)) dL_application_1 rfl ?_
  refine U_aload_n dL_application_2 rfl ?_
  refine U_iload_n dL_application_3 rfl ?_
  refine U_iload_n dL_application_4 rfl ?_
  refine U_callX (vs := [_, _]) (hC sz) mL_61 coX10_application dL_application_5 hx rfl rfl rfl ⟨(Nat.le_of_ble_eq_true rfl), (Nat.le_of_ble_eq_true rfl)⟩ (Nat.le_of_ble_eq_true rfl) ⟨(Nat.le_of_ble_eq_true rfl), (Nat.le_of_ble_eq_true rfl)⟩ (fun _ _ _ h => h) (fun E M1 hp => ?_) (fun v M1 sz1 hp => ?_)
  · obtain ⟨hp, rfl⟩ := hp
    rcases hp with ⟨he, rfl⟩ | ⟨he, rfl⟩
    · refine ⟨[], ⟨0, 10, 13, 21⟩, [⟨0, 10, 17, 13⟩], _, rfl, (fun z hz => by cases hz), by decide, by decide, cL_21, ca_ioo, fun q sz1 => ?_⟩
      refine U_astore (L' := [some _, some _, some _, some _, some _]) dL_application_13 (by decide) rfl ?_
      refine U_iconst (v := iI (1)) dL_application_15 rfl ?_
      exact U_ireti dL_application_16 rfl (Nat.le_of_ble_eq_true rfl) (Nat.le_of_ble_eq_true rfl) (hQ _ _ _ ⟨iv he.symm, Or.inr ⟨by omega, rfl⟩⟩)
    · refine ⟨[⟨0, 10, 13, 21⟩], ⟨0, 10, 17, 13⟩, [], _, rfl, (fun z hz => by rw [List.mem_singleton] at hz; subst hz; exact ⟨by decide, _, cL_21, by decide⟩), by decide, by decide, cL_13, ca_iae, fun q sz1 => ?_⟩
      refine U_astore (L' := [some _, some _, some _, some _, some _]) dL_application_17 (by decide) rfl ?_
      refine U_iconst (v := iI (2)) dL_application_19 rfl ?_
      exact U_ireti dL_application_20 rfl (Nat.le_of_ble_eq_true rfl) (Nat.le_of_ble_eq_true rfl) (hQ _ _ _ ⟨iv he.symm, Or.inr ⟨by omega, rfl⟩⟩)
  · obtain ⟨he, rfl, hR⟩ := hp
    refine J_i2lc dL_application_8 ?_
    refine J_last dL_application_9 (hRo M1 hR) ⟨by omega, by omega⟩ (by decide) ?_
    refine U_goto (tgt := 21) dL_application_10 (by decide) ?_
    refine U_iconst (v := iI (0)) dL_application_21 rfl ?_
    exact U_ireti dL_application_22 rfl (Nat.le_of_ble_eq_true rfl) (Nat.le_of_ble_eq_true rfl) (hQ _ _ _ ⟨iv he.symm, Or.inl ⟨he, M1, hR, rfl⟩⟩)

theorem wc_packet : Cond.codeWith yL_packet cL_packet 5 (some .int) [(0, 10, 13, 21), (0, 10, 17, 13)] ∈ tb := tb_in 935 (by decide +kernel) rfl

set_option maxRecDepth 100000 in
set_option maxHeartbeats 4000000 in
theorem w_packet (l : Launch) (M : ME) (x out : Nat) (fs : List Value) (hx : M x = some (.inl (10, fs))) (g : Int → Int) (hout : M out = some (aL 1 g)) (i w : Int) (val e : Int) (Rr : ME → Prop) (hRo : ∀ M', Rr M' → M' out = some (aL 1 g)) (hC : CX l yX10_packet cX10_packet 4 (some .int) (rmX 8) [.ref x, .int (iI i), .int (iI w)] M (fun v M' => e = 0 ∧ v = some (.int (iI val)) ∧ Rr M') (fun E M' => ((e = 1 ∧ E = ioo) ∨ (e = 2 ∧ E = iae)) ∧ M' = M)) : CW l yL_packet cL_packet 5 [(0, 10, 13, 21), (0, 10, 17, 13)] rW [.ref x, .int (iI i), .int (iI w), .ref out] M (fun v M' => v = some (.int (iI e)) ∧ ((e = 0 ∧ ∃ M1, Rr M1 ∧ M' = mu M1 out (aL 1 (up g 0 (c32 val)))) ∨ (0 < e ∧ M' = M))) := by
  refine CW.of (L0 := [some _, some _, some _, some _, none]) (by decide +kernel) rfl (Nat.le_of_ble_eq_true rfl) rfl (fun G A Q sz hQ => ?_)
  refine U_aload_n dL_packet_0 rfl ?_
  refine U_iconst (v := iI (0)) dL_packet_1 rfl ?_
  refine U_aload_n dL_packet_2 rfl ?_
  refine U_iload_n dL_packet_3 rfl ?_
  refine U_iload_n dL_packet_4 rfl ?_
  refine U_callX (vs := [_, _]) (hC sz) mL_64 coX10_packet dL_packet_5 hx rfl rfl rfl ⟨(Nat.le_of_ble_eq_true rfl), (Nat.le_of_ble_eq_true rfl)⟩ (Nat.le_of_ble_eq_true rfl) ⟨(Nat.le_of_ble_eq_true rfl), (Nat.le_of_ble_eq_true rfl)⟩ (fun _ _ _ h => h) (fun E M1 hp => ?_) (fun v M1 sz1 hp => ?_)
  · obtain ⟨hp, rfl⟩ := hp
    rcases hp with ⟨he, rfl⟩ | ⟨he, rfl⟩
    · refine ⟨[], ⟨0, 10, 13, 21⟩, [⟨0, 10, 17, 13⟩], _, rfl, (fun z hz => by cases hz), by decide, by decide, cL_21, ca_ioo, fun q sz1 => ?_⟩
      refine U_astore (L' := [some _, some _, some _, some _, some _]) dL_packet_13 (by decide) rfl ?_
      refine U_iconst (v := iI (1)) dL_packet_15 rfl ?_
      exact U_ireti dL_packet_16 rfl (Nat.le_of_ble_eq_true rfl) (Nat.le_of_ble_eq_true rfl) (hQ _ _ _ ⟨iv he.symm, Or.inr ⟨by omega, rfl⟩⟩)
    · refine ⟨[⟨0, 10, 13, 21⟩], ⟨0, 10, 17, 13⟩, [], _, rfl, (fun z hz => by rw [List.mem_singleton] at hz; subst hz; exact ⟨by decide, _, cL_21, by decide⟩), by decide, by decide, cL_13, ca_iae, fun q sz1 => ?_⟩
      refine U_astore (L' := [some _, some _, some _, some _, some _]) dL_packet_17 (by decide) rfl ?_
      refine U_iconst (v := iI (2)) dL_packet_19 rfl ?_
      exact U_ireti dL_packet_20 rfl (Nat.le_of_ble_eq_true rfl) (Nat.le_of_ble_eq_true rfl) (hQ _ _ _ ⟨iv he.symm, Or.inr ⟨by omega, rfl⟩⟩)
  · obtain ⟨he, rfl, hR⟩ := hp
    refine J_i2lc dL_packet_8 ?_
    refine J_last dL_packet_9 (hRo M1 hR) ⟨by omega, by omega⟩ (by decide) ?_
    refine U_goto (tgt := 21) dL_packet_10 (by decide) ?_
    refine U_iconst (v := iI (0)) dL_packet_21 rfl ?_
    exact U_ireti dL_packet_22 rfl (Nat.le_of_ble_eq_true rfl) (Nat.le_of_ble_eq_true rfl) (hQ _ _ _ ⟨iv he.symm, Or.inl ⟨he, M1, hR, rfl⟩⟩)

theorem wc_packetByte : Cond.codeWith yL_packetByte cL_packetByte 5 (some .int) [(0, 10, 13, 21)] ∈ tb := tb_in 939 (by decide +kernel) rfl

set_option maxRecDepth 100000 in
set_option maxHeartbeats 4000000 in
theorem w_packetByte (l : Launch) (M : ME) (x out : Nat) (fs : List Value) (hx : M x = some (.inl (10, fs))) (g : Int → Int) (hout : M out = some (aL 1 g)) (i w : Int) (val e : Int) (Rr : ME → Prop) (hRo : ∀ M', Rr M' → M' out = some (aL 1 g)) (hC : CX l yX10_packetByte cX10_packetByte 3 (some .int) (rmX 8) [.ref x, .int (iI i), .int (iI w)] M (fun v M' => e = 0 ∧ v = some (.int (iI val)) ∧ Rr M') (fun E M' => ((e = 1 ∧ E = ioo)) ∧ M' = M)) : CW l yL_packetByte cL_packetByte 5 [(0, 10, 13, 21)] rW [.ref x, .int (iI i), .int (iI w), .ref out] M (fun v M' => v = some (.int (iI e)) ∧ ((e = 0 ∧ ∃ M1, Rr M1 ∧ M' = mu M1 out (aL 1 (up g 0 (c32 val)))) ∨ (0 < e ∧ M' = M))) := by
  refine CW.of (L0 := [some _, some _, some _, some _, none]) (by decide +kernel) rfl (Nat.le_of_ble_eq_true rfl) rfl (fun G A Q sz hQ => ?_)
  refine U_aload_n dL_packetByte_0 rfl ?_
  refine U_iconst (v := iI (0)) dL_packetByte_1 rfl ?_
  refine U_aload_n dL_packetByte_2 rfl ?_
  refine U_iload_n dL_packetByte_3 rfl ?_
  refine U_iload_n dL_packetByte_4 rfl ?_
  refine U_callX (vs := [_, _]) (hC sz) mL_67 coX10_packetByte dL_packetByte_5 hx rfl rfl rfl ⟨(Nat.le_of_ble_eq_true rfl), (Nat.le_of_ble_eq_true rfl)⟩ (Nat.le_of_ble_eq_true rfl) ⟨(Nat.le_of_ble_eq_true rfl), (Nat.le_of_ble_eq_true rfl)⟩ (fun _ _ _ h => h) (fun E M1 hp => ?_) (fun v M1 sz1 hp => ?_)
  · obtain ⟨hp, rfl⟩ := hp
    rcases hp with ⟨he, rfl⟩
    · refine ⟨[], ⟨0, 10, 13, 21⟩, [], _, rfl, (fun z hz => by cases hz), by decide, by decide, cL_21, ca_ioo, fun q sz1 => ?_⟩
      refine U_astore (L' := [some _, some _, some _, some _, some _]) dL_packetByte_13 (by decide) rfl ?_
      refine U_iconst (v := iI (1)) dL_packetByte_15 rfl ?_
      exact U_ireti dL_packetByte_16 rfl (Nat.le_of_ble_eq_true rfl) (Nat.le_of_ble_eq_true rfl) (hQ _ _ _ ⟨iv he.symm, Or.inr ⟨by omega, rfl⟩⟩)
  · obtain ⟨he, rfl, hR⟩ := hp
    refine J_i2lc dL_packetByte_8 ?_
    refine J_last dL_packetByte_9 (hRo M1 hR) ⟨by omega, by omega⟩ (by decide) ?_
    refine U_goto (tgt := 17) dL_packetByte_10 (by decide) ?_
    refine U_iconst (v := iI (0)) dL_packetByte_17 rfl ?_
    exact U_ireti dL_packetByte_18 rfl (Nat.le_of_ble_eq_true rfl) (Nat.le_of_ble_eq_true rfl) (hQ _ _ _ ⟨iv he.symm, Or.inl ⟨he, M1, hR, rfl⟩⟩)

theorem wc_groundTime : Cond.codeWith yL_groundTime cL_groundTime 5 (some .int) [(0, 8, 11, 13), (0, 8, 15, 15)] ∈ tb := tb_in 947 (by decide +kernel) rfl

set_option maxRecDepth 100000 in
set_option maxHeartbeats 4000000 in
theorem w_groundTime (l : Launch) (M : ME) (x out : Nat) (fs : List Value) (hx : M x = some (.inl (10, fs))) (g : Int → Int) (hout : M out = some (aL 1 g)) (t : Int) (val e : Int) (Rr : ME → Prop) (hRo : ∀ M', Rr M' → M' out = some (aL 1 g)) (hC : CX l yX10_groundTime cX10_groundTime 10 (some .long) (rmX 8) [.ref x, .long (lI t)] M (fun v M' => e = 0 ∧ v = some (.long (lI val)) ∧ Rr M') (fun E M' => ((e = 1 ∧ E = iae) ∨ (e = 2 ∧ E = ise)) ∧ M' = M)) : CW l yL_groundTime cL_groundTime 5 [(0, 8, 11, 13), (0, 8, 15, 15)] rW [.ref x, .long (lI t), .ref out] M (fun v M' => v = some (.int (iI e)) ∧ ((e = 0 ∧ ∃ M1, Rr M1 ∧ M' = mu M1 out (aL 1 (up g 0 (val)))) ∨ (0 < e ∧ M' = M))) := by
  refine CW.of (L0 := [some _, some _, none, some _, none]) (by decide +kernel) rfl (Nat.le_of_ble_eq_true rfl) rfl (fun G A Q sz hQ => ?_)
  refine U_aload_n dL_groundTime_0 rfl ?_
  refine U_iconst (v := iI (0)) dL_groundTime_1 rfl ?_
  refine U_aload_n dL_groundTime_2 rfl ?_
  refine U_lload_n dL_groundTime_3 rfl ?_
  refine U_callX (vs := [_]) (hC sz) mL_70 coX10_groundTime dL_groundTime_4 hx rfl rfl rfl ⟨(Nat.le_of_ble_eq_true rfl), (Nat.le_of_ble_eq_true rfl)⟩ (Nat.le_of_ble_eq_true rfl) ⟨(Nat.le_of_ble_eq_true rfl), (Nat.le_of_ble_eq_true rfl)⟩ (fun _ _ _ h => h) (fun E M1 hp => ?_) (fun v M1 sz1 hp => ?_)
  · obtain ⟨hp, rfl⟩ := hp
    rcases hp with ⟨he, rfl⟩ | ⟨he, rfl⟩
    · refine ⟨[], ⟨0, 8, 11, 13⟩, [⟨0, 8, 15, 15⟩], _, rfl, (fun z hz => by cases hz), by decide, by decide, cL_13, ca_iae, fun q sz1 => ?_⟩
      refine U_astore (L' := [some _, some _, none, some _, some _]) dL_groundTime_11 (by decide) rfl ?_
      refine U_iconst (v := iI (1)) dL_groundTime_13 rfl ?_
      exact U_ireti dL_groundTime_14 rfl (Nat.le_of_ble_eq_true rfl) (Nat.le_of_ble_eq_true rfl) (hQ _ _ _ ⟨iv he.symm, Or.inr ⟨by omega, rfl⟩⟩)
    · refine ⟨[⟨0, 8, 11, 13⟩], ⟨0, 8, 15, 15⟩, [], _, rfl, (fun z hz => by rw [List.mem_singleton] at hz; subst hz; exact ⟨by decide, _, cL_13, by decide⟩), by decide, by decide, cL_15, ca_ise, fun q sz1 => ?_⟩
      refine U_astore (L' := [some _, some _, none, some _, some _]) dL_groundTime_15 (by decide) rfl ?_
      refine U_iconst (v := iI (2)) dL_groundTime_17 rfl ?_
      exact U_ireti dL_groundTime_18 rfl (Nat.le_of_ble_eq_true rfl) (Nat.le_of_ble_eq_true rfl) (hQ _ _ _ ⟨iv he.symm, Or.inr ⟨by omega, rfl⟩⟩)
  · obtain ⟨he, rfl, hR⟩ := hp
    refine J_last dL_groundTime_7 (hRo M1 hR) ⟨by omega, by omega⟩ (by decide) ?_
    refine U_goto (tgt := 19) dL_groundTime_8 (by decide) ?_
    refine U_iconst (v := iI (0)) dL_groundTime_19 rfl ?_
    exact U_ireti dL_groundTime_20 rfl (Nat.le_of_ble_eq_true rfl) (Nat.le_of_ble_eq_true rfl) (hQ _ _ _ ⟨iv he.symm, Or.inl ⟨he, M1, hR, rfl⟩⟩)

theorem wc_undo : Cond.codeWith yL_undo cL_undo 3 (some .int) [(0, 8, 11, 15)] ∈ tb := tb_in 959 (by decide +kernel) rfl

set_option maxRecDepth 100000 in
set_option maxHeartbeats 4000000 in
theorem w_undo (l : Launch) (M : ME) (x out : Nat) (fs : List Value) (hx : M x = some (.inl (10, fs))) (g : Int → Int) (hout : M out = some (aL 1 g)) (val e : Int) (Rr : ME → Prop) (hRo : ∀ M', Rr M' → M' out = some (aL 1 g)) (hC : CX l yX10_undo cX10_undo 2 (some .int) (rmX 8) [.ref x] M (fun v M' => e = 0 ∧ v = some (.int (iI val)) ∧ Rr M') (fun E M' => ((e = 1 ∧ E = ise)) ∧ M' = M)) : CW l yL_undo cL_undo 3 [(0, 8, 11, 15)] rW [.ref x, .ref out] M (fun v M' => v = some (.int (iI e)) ∧ ((e = 0 ∧ ∃ M1, Rr M1 ∧ M' = mu M1 out (aL 1 (up g 0 (c32 val)))) ∨ (0 < e ∧ M' = M))) := by
  refine CW.of (L0 := [some _, some _, none]) (by decide +kernel) rfl (Nat.le_of_ble_eq_true rfl) rfl (fun G A Q sz hQ => ?_)
  refine U_aload_n dL_undo_0 rfl ?_
  refine U_iconst (v := iI (0)) dL_undo_1 rfl ?_
  refine U_aload_n dL_undo_2 rfl ?_
  refine U_callX (vs := []) (hC sz) mL_74 coX10_undo dL_undo_3 hx rfl rfl rfl ⟨(Nat.le_of_ble_eq_true rfl), (Nat.le_of_ble_eq_true rfl)⟩ (Nat.le_of_ble_eq_true rfl) ⟨(Nat.le_of_ble_eq_true rfl), (Nat.le_of_ble_eq_true rfl)⟩ (fun _ _ _ h => h) (fun E M1 hp => ?_) (fun v M1 sz1 hp => ?_)
  · obtain ⟨hp, rfl⟩ := hp
    rcases hp with ⟨he, rfl⟩
    · refine ⟨[], ⟨0, 8, 11, 15⟩, [], _, rfl, (fun z hz => by cases hz), by decide, by decide, cL_15, ca_ise, fun q sz1 => ?_⟩
      refine U_astore_n (L' := [some _, some _, some _]) dL_undo_11 rfl (by decide) rfl ?_
      refine U_iconst (v := iI (1)) dL_undo_12 rfl ?_
      exact U_ireti dL_undo_13 rfl (Nat.le_of_ble_eq_true rfl) (Nat.le_of_ble_eq_true rfl) (hQ _ _ _ ⟨iv he.symm, Or.inr ⟨by omega, rfl⟩⟩)
  · obtain ⟨he, rfl, hR⟩ := hp
    refine J_i2lc dL_undo_6 ?_
    refine J_last dL_undo_7 (hRo M1 hR) ⟨by omega, by omega⟩ (by decide) ?_
    refine U_goto (tgt := 14) dL_undo_8 (by decide) ?_
    refine U_iconst (v := iI (0)) dL_undo_14 rfl ?_
    exact U_ireti dL_undo_15 rfl (Nat.le_of_ble_eq_true rfl) (Nat.le_of_ble_eq_true rfl) (hQ _ _ _ ⟨iv he.symm, Or.inl ⟨he, M1, hR, rfl⟩⟩)
