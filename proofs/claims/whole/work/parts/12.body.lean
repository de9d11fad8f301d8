/-! a contract out of its body; a throw -/
def entL (vs : List Value) (nL : Nat) : List (Option Value) := (vs.flatMap fun v => if v.category = 2 then [some v, none] else [some v]) ++ List.replicate (nL - (lg_sl vs).length) none
theorem entL_in : ∀ (vs : List Value) (i0 : Nat) (R : List (Option Value)) (_ : ∀ (i : Nat) (v : Value), R[i]? = some (some v) → False) (i : Nat) (v : Value), ((vs.flatMap fun v => if v.category = 2 then [some v, none] else [some v]) ++ R)[i]? = some (some v) → (i0 + i, v) ∈ lv_args i0 vs
  | [], i0, R, hR, i, v, h => (hR i v (by simpa using h)).elim
  | u :: vs, i0, R, hR, i, v, h => by
    simp only [List.flatMap_cons, List.append_assoc] at h
    unfold lv_args
    by_cases hc : u.category = 2
    · rw [if_pos hc] at h ⊢
      cases i with
      | zero =>
        simp at h
        subst h
        exact List.mem_cons_self
      | succ i =>
        cases i with
        | zero => simp at h
        | succ i =>
          simp at h
          refine List.mem_cons_of_mem _ ?_
          have := entL_in vs (i0 + 2) R hR i v (by simpa using h)
          rw [show i0 + (i + 1 + 1) = i0 + 2 + i by omega]
          exact this
    · rw [if_neg hc] at h ⊢
      cases i with
      | zero =>
        simp at h
        subst h
        exact List.mem_cons_self
      | succ i =>
        simp at h
        refine List.mem_cons_of_mem _ ?_
        have := entL_in vs (i0 + 1) R hR i v (by simpa using h)
        rw [show i0 + (i + 1) = i0 + 1 + i by omega]
        exact this
section VB
variable {l : Launch} {G : GG} {A : Nat → Prop} {R : Room} {own nm : String} {cc : ByteArray} {nL : Nat} {ret : Option FieldType} {Q : Option Value → ME → Nat → Prop} {X : String → ME → Prop} {k n : Nat} {M : ME} {sz : Nat} {pc : Nat} {L : List (Option Value)} {st : List Value}
theorem CnX.of {y : MethodName} {vs : List Value} {L0 : List (Option Value)} (hy : plainName y.cls = true) (hown : y.cls = own) (hnm : y.name = nm) (hlen : (lg_sl vs).length ≤ nL) (hL0 : entL vs nL = L0) (body : ∀ (G : GG) (A : Nat → Prop), V l G A R own nm cc nL ret Q X 0 0 M sz 0 L0 []) : CnX l y cc nL ret R vs M sz Q X := by
  intro G A
  refine vx_ofW (cc := cc) (maxL := nL) (ret := ret) hy rfl ?_
  intro p e s m args below meth c s₁ B hml htab hv
  obtain ⟨rfl, hR, hK, hZ, hz, hA⟩ := hv
  subst hown; subst hnm
  have hts := atoms_spec (ws := wy y cc nL ret) B.pre
  rw [lg_entry_eq]
  refine body G A p e s m _ below meth c s.heap [] _ ⟨B.exec, B.bytes, hml, B.returns, findClass_of_methodNamed B.named, fun w hw => hts w (List.mem_cons_of_mem _ hw), B.notSynchronized, htab, (name_of_methodNamed B.named B.method).1, hK, hZ, fun q h => hA q (by rw [← hz]; exact h)⟩ hR hz va_S.rf ?_
  refine hasL.of (lv_entry vs hlen) fun i v h => ?_
  subst hL0
  have := entL_in vs 0 (List.replicate (nL - (lg_sl vs).length) none) (fun i v h => by rw [List.getElem?_replicate] at h; split at h <;> simp at h) i v h
  simpa using this
theorem Cn.of {y : MethodName} {vs : List Value} {L0 : List (Option Value)} (hy : plainName y.cls = true) (hown : y.cls = own) (hnm : y.name = nm) (hlen : (lg_sl vs).length ≤ nL) (hL0 : entL vs nL = L0) (body : ∀ (G : GG) (A : Nat → Prop), V l G A R own nm cc nL ret Q (fun _ _ => False) 0 0 M sz 0 L0 []) : Cn l y cc nL ret R vs M sz Q := Cn.ofX (CnX.of hy hown hnm hlen hL0 body)
theorem V_throw {cls text : String} {names : List String} {ik is ic : Nat} (hfl : l.stackTraces = false) (hcls : Bundle.fit cls = true) (hnames : ∀ n ∈ names, Bundle.fit n = true) (hw1 : Cond.classLink own ik cls ∈ tb) (hw2 : Cond.initialized cls ∈ tb) (hstr : (own, is, text) ∈ tbS)
    (hat1 : ∀ w ∈ (vx_atS own ic cls names).filter goodWord, w ∈ tb) (hat2 : ∀ w ∈ (vx_atS own ic cls names).filter (fun w => !goodWord w), w ∈ tbx) (hgood : (Cond.classLink own ik cls :: Cond.initialized cls :: vx_atS own ic cls names).all vx_ot = true)
    (d0 : decode cc pc = .ok (.new ik, 3)) (d3 : decode cc (pc + 3) = .ok (.dup, 1)) (d4 : decode cc (pc + 4) = .ok (.ldc is, 2)) (d6 : decode cc (pc + 6) = .ok (.invokespecial ic, 3)) (d9 : decode cc (pc + 9) = .ok (.athrow, 1))
    (hRf : names.length + 3 < R.frames) (hRl : (st.map fun v => v.category).sum + (13 * (names.length + 1) + 43) ≤ R.locals) (hk : k + 1 ≤ R.cells) (hn : n + 6 ≤ R.slots) (hX : X cls M) : V l G A R own nm cc nL ret Q X k n M sz pc L st := by
  intro p e s m args below meth c H locs ls C hR hz hS hl
  have hts := C.2.2.2.2.2.1
  obtain ⟨sa, hsa⟩ := C.2.2.2.2.2.2.2.2.2.1.2.2.2 _ hstr
  refine vx_throwS C.1 C.2.1 hfl C.2.2.2.2.1 hcls hnames (hts _ hw1) (hts _ hw2) hsa ?_ (fun w hw => List.all_eq_true.mp hgood w hw) C.2.2.2.2.2.2.2.2.2.2.1.1 C.2.2.2.2.2.2.2.2.2.2.1.2 hS (hl.1.trans C.2.2.1.symm) d0 d3 d4 d6 d9 (fun x hx => (C.2.2.2.2.2.2.2.1 x hx).elim) hRf hRl hk hn C.2.2.2.2.2.2.1 ?_ hS.2.2 hk hn
  · intro w hw
    by_cases hg : goodWord w = true
    · exact hts _ (hat1 w (List.mem_filter.mpr ⟨hw, hg⟩))
    · have h1 := hat2 w (List.mem_filter.mpr ⟨hw, by simpa using hg⟩)
      exact va_Nw.use (Xw_on (List.mem_filter.mp h1).2) (C.2.2.2.2.2.2.2.2.2.1.2.1 w h1)
  · intro t ha hle hk
    exact ⟨⟨M, hX, hR.kept hk⟩, Nat.le_trans hS.1 hle, fun q q1 q2 => (hk q (Nat.lt_of_lt_of_le q1 hS.1)).trans (hS.2.1 q q1 q2)⟩
end VB
