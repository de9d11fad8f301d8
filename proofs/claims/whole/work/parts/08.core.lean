/-! THE WORLD AS A FUNCTION. A world is a partial map from addresses to cells (ME); what a method does to it is said by the map behind it. V: the machine, inside a method, comes to its end with Q (or throws with X). -/
abbrev Cel : Type := (Nat × List Value) ⊕ (Nat × vp_A)
abbrev ME : Type := Nat → Option Cel
abbrev GG : Type := va_G × (Nat → ClassId)
def toE (G : GG) (c : Cel) : va_E := match c with
  | .inl o => .inr o
  | .inr q => .inl (G.2 q.1, q.2)
def arTy (k : Nat) : FieldType := match k with
  | 0 => .int
  | 1 => .long
  | 2 => .object RX1
  | 3 => .object RX2
  | 4 => .object RX3
  | 5 => .object RX4
  | 6 => .object RX6
  | _ => .object RX7
def tysG (G : GG) : List (ClassId × FieldType) := [(G.2 0, arTy 0), (G.2 1, arTy 1), (G.2 2, arTy 2), (G.2 3, arTy 3), (G.2 4, arTy 4), (G.2 5, arTy 5), (G.2 6, arTy 6), (G.2 7, arTy 7)]
theorem tysG_at (G : GG) {k : Nat} (h : k < 8) : (tysG G)[k]? = some (G.2 k, arTy k) := by
  rcases (show k = 0 ∨ k = 1 ∨ k = 2 ∨ k = 3 ∨ k = 4 ∨ k = 5 ∨ k = 6 ∨ k = 7 by omega) with h | h | h | h | h | h | h | h <;> subst h <;> rfl
-- words
def tb : List Cond := lw_tbl.filter goodWord
theorem tb_in {w : Cond} (i : Nat) (h : lw_tbl[i]? = some w) (hg : goodWord w = true) : w ∈ tb := List.mem_filter.mpr ⟨List.mem_of_getElem? h, hg⟩
theorem tb_good : GoodIn tb tb := fun _ h => ⟨h, good_of_word (List.mem_filter.mp h).2⟩
/-- words that aren't carried by the kit's rule but by one of their own -/
def exOk : Cond → Bool
  | .declares .. => true
  | .castable .. => true
  | .methodLinkNest .. => true
  | _ => false
def tbx : List Cond := lw_tbl.filter exOk
def tbA : List String := [RX1, RX2, RX3, RX4, RX6, RX7]
def strOf : Cond → Option (String × Nat × String)
  | .stringRef a b c => some (a, b, c)
  | _ => none
def tbS : List (String × Nat × String) := lw_tbl.filterMap strOf
def Xw (U : State) : Prop := (∀ w ∈ tbx, va_Nw w U) ∧ (∀ C ∈ tbA, va_AO C U) ∧ ∀ q ∈ tbS, ∃ a : Nat, vk_R q.1 q.2.1 q.2.2 a U
theorem Xw_nw {w : Cond} {s U : State} (hx : exOk w = true) (hW : s.WarmedH U.vm) (h : va_Nw w s) : va_Nw w U := by
  cases w <;> first | exact va_Nw.warmD hW h | exact va_Nw.warmC hW h | exact va_Nw.warmM hW h | exact absurd hx (by simp [exOk])
theorem Xw.warm {s U : State} (hW : s.WarmedH U.vm) (h : Xw s) : Xw U :=
  ⟨fun w hw => Xw_nw (List.mem_filter.mp hw).2 hW (h.1 w hw), fun C hC => va_AO.moved hW.alike (h.2.1 C hC), fun q hq => (h.2.2 q hq).elim fun a ha => ⟨a, vk_R.warm hW ha⟩⟩
theorem Xw_on {w : Cond} (hx : exOk w = true) : w.onTables = true := by
  cases w <;> first | rfl | exact absurd hx (by simp [exOk])
theorem Xw.same {s U : State} (hv : s.vm = U.vm) (h : Xw s) : Xw U :=
  ⟨fun w hw => va_Nw.same (Xw_on (List.mem_filter.mp hw).2) hv (h.1 w hw), fun C hC => va_AO.moved (by rw [hv]; exact Vm.Alike.refl _) (h.2.1 C hC), fun q hq => (h.2.2 q hq).elim fun a ha => ⟨a, vk_R.same hv.symm ha⟩⟩
def Kn (G : GG) (U : State) : Prop := va_K G.1 vwCl (tysG G) U ∧ Xw U
theorem Kn.warm {G : GG} {s U : State} (hW : s.WarmedH U.vm) (h : Kn G s) : Kn G U := ⟨va_K.moved hW.alike h.1, h.2.warm hW⟩
theorem Kn.same {G : GG} {s U : State} (hv : s.vm = U.vm) (h : Kn G s) : Kn G U := ⟨va_K.moved (by rw [hv]; exact Vm.Alike.refl _) h.1, h.2.same hv⟩
def Zs (A : Nat → Prop) (U : State) (H : Heap) : Prop := vx_Zq Bundle.tN "UNASSIGNED_STACK" Bundle.steD A U H ∧ vx_Zq Bundle.tN "SUPPRESSED_SENTINEL" Bundle.listD A U H
theorem Zs.moved {A : Nat → Prop} {u U : State} {H : Heap} (hvm : u.vm.Alike U.vm) (h : Zs A u H) : Zs A U H := ⟨vx_Zq.moved hvm h.1, vx_Zq.moved hvm h.2⟩
theorem Zs.kept {A : Nat → Prop} {U : State} {H H1 : Heap} (h : Zs A U H) (hq : ∀ a : Nat, a < H.size → ¬ A a → H1[a]? = H[a]?) : Zs A U H1 := ⟨h.1.kept hq, h.2.kept hq⟩
-- the world
def mu (M : ME) (a : Nat) (e : Cel) : ME := fun q => if q = a then some e else M q
theorem mu_eq {M : ME} {a : Nat} {e : Cel} : mu M a e a = some e := if_pos rfl
theorem mu_ne {M : ME} {a q : Nat} {e : Cel} (h : q ≠ a) : mu M a e q = M q := if_neg h
def Rp (G : GG) (A : Nat → Prop) (M : ME) (H : Heap) : Prop := ∃ ws : va_W, va_P G.1 vwCl ws H ∧ va_D A ws ∧ ∀ (a : Nat) (e : Cel), M a = some e → ∃ k : Nat, ws[k]? = some (a, toE G e)
theorem Rp.lt {G : GG} {A : Nat → Prop} {M : ME} {H : Heap} (h : Rp G A M H) {a : Nat} {e : Cel} (he : M a = some e) : a < H.size := by
  obtain ⟨ws, hP, -, hC⟩ := h
  obtain ⟨k, hk⟩ := hC a e he
  exact (hP k _ hk).lt
theorem Rp.set {G : GG} {A : Nat → Prop} {M : ME} {H1 : Heap} {ws : va_W} {k a : Nat} {e e' : Cel} (hk : ws[k]? = some (a, toE G e)) (hD : va_D A ws) (hC : ∀ (a : Nat) (e : Cel), M a = some e → ∃ k : Nat, ws[k]? = some (a, toE G e)) (hP1 : va_P G.1 vwCl (ws.set k (a, toE G e')) H1) (hD1 : va_D A (ws.set k (a, toE G e'))) : Rp G A (mu M a e') H1 := by
  refine ⟨_, hP1, hD1, fun b f hb => ?_⟩
  have hl := (List.getElem?_eq_some_iff.mp hk).1
  by_cases h : b = a
  · subst h
    rw [mu_eq] at hb
    cases hb
    exact ⟨k, List.getElem?_set_self hl⟩
  · rw [mu_ne h] at hb
    obtain ⟨j, hj⟩ := hC b f hb
    have hjk : k ≠ j := fun z => h (by subst z; rw [hk] at hj; exact (congrArg Prod.fst (Option.some.inj hj)).symm)
    exact ⟨j, by rw [List.getElem?_set_ne hjk]; exact hj⟩
theorem Rp.push {G : GG} {A : Nat → Prop} {M : ME} {H H1 : Heap} {a : Nat} {e : Cel} (h : Rp G A M H) (ha : a = H.size) (hA : A a) (hk : ∀ q : Nat, q < H.size → H1[q]? = H[q]?) (he : va_at G.1 vwCl (a, toE G e) H1) : Rp G A (mu M a e) H1 := by
  obtain ⟨ws, hP, hD, hC⟩ := h
  refine ⟨ws ++ [(a, toE G e)], (hP.kept fun k x hx => hk x.1 (hP k x hx).lt).app (fun k x hx => ?_), hD.push hP ha hA, fun b f hb => ?_⟩
  · have hz : k < 1 := (List.getElem?_eq_some_iff.mp hx).1
    rw [show k = 0 by omega] at hx
    cases hx
    exact he
  · by_cases h : b = a
    · subst h
      rw [mu_eq] at hb
      cases hb
      exact ⟨ws.length, by simp⟩
    · rw [mu_ne h] at hb
      obtain ⟨j, hj⟩ := hC b f hb
      exact ⟨j, by rw [List.getElem?_append_left (List.getElem?_eq_some_iff.mp hj).1]; exact hj⟩
/-- fewer cells -/
theorem Rp.less {G : GG} {A : Nat → Prop} {M M' : ME} {H : Heap} (h : Rp G A M H) (hM : ∀ a e, M' a = some e → M a = some e) : Rp G A M' H := by
  obtain ⟨ws, hP, hD, hC⟩ := h
  exact ⟨ws, hP, hD, fun a e he => hC a e (hM a e he)⟩
theorem Rp.kept {G : GG} {A : Nat → Prop} {M : ME} {H H1 : Heap} (h : Rp G A M H) (hk : ∀ q : Nat, q < H.size → H1[q]? = H[q]?) : Rp G A M H1 := by
  obtain ⟨ws, hP, hD, hC⟩ := h
  exact ⟨ws, hP.kept fun k x hx => hk x.1 (hP k x hx).lt, hD, hC⟩
/-- a method's start -/
def Wd (G : GG) (A : Nat → Prop) (M : ME) (sz : Nat) (U : State) : Prop := Rp G A M U.heap ∧ Kn G U ∧ Zs A U U.heap ∧ U.heap.size = sz ∧ ∀ q, sz ≤ q → A q
/-- its end -/
def Qn (G : GG) (A : Nat → Prop) (Q : Option Value → ME → Nat → Prop) : Array Value → State → Outcome → State → Prop := fun _ st oc t => (∃ (v : Option Value) (M' : ME), oc = .returned v ∧ Q v M' t.heap.size ∧ Rp G A M' t.heap) ∧ va_F A st t
def Qx (G : GG) (A : Nat → Prop) (X : String → ME → Prop) : String → State → State → Prop := fun E st t => (∃ M' : ME, X E M' ∧ Rp G A M' t.heap) ∧ va_F A st t
def wy (y : MethodName) (cc : ByteArray) (nL : Nat) (ret : Option FieldType) : List Cond := .code y cc nL ret :: tb
/-- method y, on the arguments vs in the world M, returns with Q -/
def Cn (l : Launch) (y : MethodName) (cc : ByteArray) (nL : Nat) (ret : Option FieldType) (rm : Room) (vs : List Value) (M : ME) (sz : Nat) (Q : Option Value → ME → Nat → Prop) : Prop :=
  ∀ (G : GG) (A : Nat → Prop), Met l y (wy y cc nL ret) rm (va_Pc vs (Wd G A M sz)) (Qn G A Q) rm.cells rm.slots A
/-- .. returns with Q or throws with X -/
def CnX (l : Launch) (y : MethodName) (cc : ByteArray) (nL : Nat) (ret : Option FieldType) (rm : Room) (vs : List Value) (M : ME) (sz : Nat) (Q : Option Value → ME → Nat → Prop) (X : String → ME → Prop) : Prop :=
  ∀ (G : GG) (A : Nat → Prop), vx_Met l y (wy y cc nL ret) rm (va_Pc vs (Wd G A M sz)) (Qn G A Q) (Qx G A X) rm.cells rm.slots A
theorem Cn.ofX {l : Launch} {y : MethodName} {cc : ByteArray} {nL : Nat} {ret : Option FieldType} {rm : Room} {vs : List Value} {M : ME} {sz : Nat} {Q : Option Value → ME → Nat → Prop} (h : CnX l y cc nL ret rm vs M sz Q (fun _ _ => False)) : Cn l y cc nL ret rm vs M sz Q := by
  intro G A p e ha hc hk s m args below hf happ hp hk'
  obtain ⟨n, o, h1, h2, h3, h4⟩ := h G A p e ha hc hk s m args below hf happ hp hk'
  refine ⟨n, o, h1, h2, h3, ?_⟩
  rcases h4 with h4 | ⟨q, -, E, ce, L, ⟨⟨M', hx, -⟩, -⟩, -⟩
  · exact h4
  · exact hx.elim
theorem CnX.mono {l : Launch} {y : MethodName} {cc : ByteArray} {nL : Nat} {ret : Option FieldType} {rm : Room} {vs : List Value} {M : ME} {sz : Nat} {Q Q' : Option Value → ME → Nat → Prop} {X X' : String → ME → Prop} (h : CnX l y cc nL ret rm vs M sz Q X) (hQ : ∀ v M' z, Q v M' z → Q' v M' z) (hX : ∀ E M', X E M' → X' E M') : CnX l y cc nL ret rm vs M sz Q' X' := by
  intro G A p e ha hc hk s m args below hf happ hp hk'
  obtain ⟨n, o, h1, h2, h3, h4⟩ := h G A p e ha hc hk s m args below hf happ hp hk'
  refine ⟨n, o, h1, h2, h3, ?_⟩
  rcases h4 with ⟨⟨⟨v, M', e1, e2, e3⟩, e4⟩, h5⟩ | ⟨q, e1, E, ce, L, ⟨⟨M', hx, e3⟩, e4⟩, h5⟩
  · exact Or.inl ⟨⟨⟨v, M', e1, hQ _ _ _ e2, e3⟩, e4⟩, h5⟩
  · exact Or.inr ⟨q, e1, E, ce, L, ⟨⟨M', hX _ _ hx, e3⟩, e4⟩, h5⟩
theorem Cn.mono {l : Launch} {y : MethodName} {cc : ByteArray} {nL : Nat} {ret : Option FieldType} {rm : Room} {vs : List Value} {M : ME} {sz : Nat} {Q Q' : Option Value → ME → Nat → Prop} (h : Cn l y cc nL ret rm vs M sz Q) (hQ : ∀ v M' z, Q v M' z → Q' v M' z) : Cn l y cc nL ret rm vs M sz Q' := by
  intro G A p e ha hc hk s m args below hf happ hp hk'
  obtain ⟨n, o, h1, h2, h3, ⟨⟨v, M', e1, e2, e3⟩, e4⟩, h5⟩ := h G A p e ha hc hk s m args below hf happ hp hk'
  exact ⟨n, o, h1, h2, h3, ⟨⟨v, M', e1, hQ _ _ _ e2, e3⟩, e4⟩, h5⟩
-- locals: a row as long as the frame's, none where nothing is known
def hasL (ls : Array Slot) (nL : Nat) (L : List (Option Value)) : Prop := ls.size = nL ∧ lv_wf ls ∧ ∀ (i : Nat) (v : Value), L[i]? = some (some v) → ls[i]? = some (.val v)
def prs (L : List (Option Value)) : List (Nat × Value) := (List.range L.length).filterMap (fun i => (L[i]?.join).map (fun v => (i, v)))
theorem prs_in {L : List (Option Value)} {i : Nat} {v : Value} : (i, v) ∈ prs L ↔ L[i]? = some (some v) := by
  unfold prs
  rw [List.mem_filterMap]
  constructor
  · rintro ⟨j, -, h⟩
    cases hj : L[j]? with
    | none => rw [hj] at h; simp at h
    | some o =>
      rw [hj] at h
      cases o with
      | none => simp at h
      | some w =>
        simp at h
        obtain ⟨h1, h2⟩ := h
        subst h1; subst h2
        exact hj
  · intro h
    refine ⟨i, List.mem_range.mpr (List.getElem?_eq_some_iff.mp h).1, ?_⟩
    rw [h]; rfl
theorem hasL.has {ls : Array Slot} {nL : Nat} {L : List (Option Value)} (h : hasL ls nL L) : lv_has ls nL (prs L) := ⟨h.1, h.2.1, fun q hq => h.2.2 q.1 q.2 (prs_in.mp hq)⟩
theorem hasL.of {ls : Array Slot} {nL : Nat} {L : List (Option Value)} {l : List (Nat × Value)} (h : lv_has ls nL l) (hl : ∀ (i : Nat) (v : Value), L[i]? = some (some v) → (i, v) ∈ l) : hasL ls nL L := ⟨h.1, h.2.1, fun i v hv => h.2.2 (i, v) (hl i v hv)⟩
/-- a value of one slot goes to place i -/
def cat2 : Option Value → Bool
  | some v => v.category == 2
  | none => false
def st1 (L : List (Option Value)) (i : Nat) (v : Value) : List (Option Value) := match i with
  | 0 => L.set 0 (some v)
  | j + 1 => (if cat2 (L.getD j none) then L.set j none else L).set (j + 1) (some v)
def st2 (L : List (Option Value)) (i : Nat) (v : Value) : List (Option Value) := (st1 L i v).set (i + 1) none
theorem set_some {L : List (Option Value)} {i j : Nat} {x : Option Value} {v : Value} (h : (L.set i x)[j]? = some (some v)) : (j = i ∧ x = some v) ∨ (j ≠ i ∧ L[j]? = some (some v)) := by
  by_cases hj : j = i
  · subst hj
    rw [List.getElem?_set_self'] at h
    cases hl : L[j]? with
    | none => rw [hl] at h; simp at h
    | some o => rw [hl] at h; simp at h; exact Or.inl ⟨rfl, h⟩
  · rw [List.getElem?_set_ne (Ne.symm hj)] at h
    exact Or.inr ⟨hj, h⟩
theorem st1_in {L : List (Option Value)} {i j : Nat} {v w : Value} (h : (st1 L i v)[j]? = some (some w)) : (j = i ∧ w = v) ∨ (j ≠ i ∧ L[j]? = some (some w) ∧ ¬ (j + 1 = i ∧ w.category = 2)) := by
  cases i with
  | zero =>
    rcases set_some h with ⟨h1, h2⟩ | ⟨h1, h2⟩
    · exact Or.inl ⟨h1, (Option.some.inj h2).symm⟩
    · exact Or.inr ⟨h1, h2, by omega⟩
  | succ k =>
    rcases set_some h with ⟨h1, h2⟩ | ⟨h1, h2⟩
    · exact Or.inl ⟨h1, (Option.some.inj h2).symm⟩
    · refine Or.inr ⟨h1, ?_⟩
      by_cases hc : cat2 (L.getD k none)
      · rw [if_pos hc] at h2
        rcases set_some h2 with ⟨_, h3⟩ | ⟨h3, h4⟩
        · cases h3
        · exact ⟨h4, by omega⟩
      · rw [if_neg hc] at h2
        refine ⟨h2, ?_⟩
        rintro ⟨h3, h4⟩
        apply hc
        have : k = j := by omega
        subst this
        simp [cat2, List.getD, h2, h4]
theorem prs_store1 {L : List (Option Value)} {i : Nat} {v : Value} {ls : Array Slot} {nL : Nat} (h : lv_has ls nL ((i, v) :: (prs L).filter (fun q => !(q.1 == i) && !(q.1 + 1 == i && q.2.category == 2)))) : hasL ls nL (st1 L i v) := by
  refine hasL.of h fun j w hw => ?_
  rcases st1_in hw with ⟨h1, h2⟩ | ⟨h1, h2, h3⟩
  · subst h1; subst h2
    exact List.mem_cons_self
  · refine List.mem_cons_of_mem _ (List.mem_filter.mpr ⟨prs_in.mpr h2, ?_⟩)
    simp only [Bool.and_eq_true, Bool.not_eq_true', beq_eq_false_iff_ne, Bool.and_eq_false_iff]
    refine ⟨h1, ?_⟩
    by_cases a : j + 1 = i
    · exact Or.inr fun z => h3 ⟨a, z⟩
    · exact Or.inl a
theorem prs_store2 {L : List (Option Value)} {i : Nat} {v : Value} {ls : Array Slot} {nL : Nat} (h : lv_has ls nL ((i, v) :: (prs L).filter (fun q => !(q.1 == i) && (!(q.1 == i + 1) && !(q.1 + 1 == i && q.2.category == 2))))) : hasL ls nL (st2 L i v) := by
  refine hasL.of h fun j w hw => ?_
  rcases set_some hw with ⟨_, h1⟩ | ⟨h0, hw⟩
  · cases h1
  · rcases st1_in hw with ⟨h1, h2⟩ | ⟨h1, h2, h3⟩
    · subst h1; subst h2
      exact List.mem_cons_self
    · refine List.mem_cons_of_mem _ (List.mem_filter.mpr ⟨prs_in.mpr h2, ?_⟩)
      simp only [Bool.and_eq_true, Bool.not_eq_true', beq_eq_false_iff_ne, Bool.and_eq_false_iff]
      refine ⟨h1, h0, ?_⟩
      by_cases a : j + 1 = i
      · exact Or.inr fun z => h3 ⟨a, z⟩
      · exact Or.inl a
/-- fewer is known -/
def wk : List (Option Value) → List (Option Value) → Prop
  | [], _ => True
  | none :: a, _ :: b => wk a b
  | some v :: a, some w :: b => v = w ∧ wk a b
  | _, _ => False
theorem wk_at : ∀ {L' L : List (Option Value)} (_ : wk L' L) {i : Nat} {v : Value}, L'[i]? = some (some v) → L[i]? = some (some v)
  | [], _, _, i, v, h => by simp at h
  | none :: a, [], hw, i, v, h => hw.elim
  | some _ :: a, [], hw, i, v, h => hw.elim
  | none :: a, x :: b, hw, i, v, h => by
    cases i with
    | zero => simp at h
    | succ i => simp at h ⊢; exact wk_at (L' := a) (L := b) hw h
  | some u :: a, none :: b, hw, i, v, h => hw.elim
  | some u :: a, some w :: b, hw, i, v, h => by
    obtain ⟨h1, h2⟩ := hw
    subst h1
    cases i with
    | zero => exact h
    | succ i => simp at h ⊢; exact wk_at (L' := a) (L := b) h2 h
