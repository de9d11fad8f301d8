/-! V: fields, arrays, new objects, calls, throws -/
def CLok (ci : Nat) (r : vw_C) (t0 : Nat → FieldType) : Prop := vwCl[ci]? = some r ∧ (∀ w ∈ u_ws r.1 r.2.1 r.2.2, w ∈ tb) ∧ (∀ k, k < r.2.2 → parseFieldDescriptor (r.2.1 k).2.2.1 = some (t0 k)) ∧ (∀ a, a < r.2.2 → ∀ b, b < r.2.2 → a ≠ b → (r.2.1 a).2.1 ≠ (r.2.1 b).2.1)
/-- pool entry idx of class own is field kf of class number ci, of type ty; final or not -/
def FL (own : String) (idx ci kf : Nat) (ty : FieldType) (fin : Bool) : Prop := ∃ (r : vw_C) (t0 : Nat → FieldType), CLok ci r t0 ∧ kf < r.2.2 ∧ Cond.fieldLink own idx (r.2.1 kf).1 (r.2.1 kf).2.1 (r.2.1 kf).2.2.1 ∈ tb ∧ parseFieldDescriptor (r.2.1 kf).2.2.1 = some ty ∧ (r.2.1 kf).2.2.2 = fin ∧ (r.2.1 kf).1 = r.1
section VM
variable {l : Launch} {G : GG} {A : Nat → Prop} {R : Room} {own nm : String} {cc : ByteArray} {nL : Nat} {ret : Option FieldType} {Q : Option Value → ME → Nat → Prop} {X : String → ME → Prop} {k n : Nat} {M : ME} {sz : Nat} {pc : Nat} {L : List (Option Value)} {st : List Value}
theorem V_getf {idx ci kf a : Nat} {ty : FieldType} {fin : Bool} {fs : List Value} {v : Value} (hF : FL own idx ci kf ty fin) (hd : decode cc pc = .ok (.getfield idx, 3)) (hM : M a = some (.inl (ci, fs))) (hv : fs[kf]? = some v) (kk : V l G A R own nm cc nL ret Q X k n M sz (pc + 3) L (v :: st)) : V l G A R own nm cc nL ret Q X k n M sz pc L (.ref a :: st) := by
  intro p e s m args below meth c H locs ls C hR hz hS hl
  obtain ⟨⟨C0, T, N⟩, t0, ⟨h1, h2, h3, h4⟩, h5, h6, h7, h8, h9⟩ := hF
  have hR0 := hR
  obtain ⟨ws, hP, hD, hC⟩ := hR
  obtain ⟨q0, hq⟩ := hC a _ hM
  exact va_get (D := G.1) (cl := vwCl) (tys := tysG G) C.1 C.2.1 C.2.2.2.2.2.1 h2 C.2.2.2.2.1 C.2.2.2.2.2.2.2.2.2.1.1 hP q0 hq h1 kf h5 (C.2.2.2.2.2.1 _ h6) (fun _ h => h) hv hd (kk p e s m args below meth c H locs ls C hR0 hz hS hl)
theorem V_putf {idx ci kf a : Nat} {ty : FieldType} {fs : List Value} {v : Value} (hF : FL own idx ci kf ty false) (hd : decode cc pc = .ok (.putfield idx, 3)) (hM : M a = some (.inl (ci, fs))) (hn : narrow ty v = v) (hf : fits ty v = true) (hl0 : kf < fs.length) (kk : V l G A R own nm cc nL ret Q X k n (mu M a (.inl (ci, fs.set kf v))) sz (pc + 3) L st) : V l G A R own nm cc nL ret Q X k n M sz pc L (v :: .ref a :: st) := by
  intro p e s m args below meth c H locs ls C hR hz hS hl
  obtain ⟨⟨C0, T, N⟩, t0, ⟨h1, h2, h3, h4⟩, h5, h6, h7, h8, h9⟩ := hF
  obtain ⟨ws, hP, hD, hC⟩ := hR
  obtain ⟨q0, he⟩ := hC a _ hM
  have hts := C.2.2.2.2.2.1
  have hown := C.2.2.2.2.1
  have hK := C.2.2.2.2.2.2.2.2.2.1.1
  have hap := va_apart (own := own) hts h2 t0 h3 h4 hK h1
  obtain ⟨r, g1, cell, q1, q2, q3, q4⟩ := hP q0 _ he
  have hr : r = (C0, T, N) := Option.some.inj (g1.symm.trans h1)
  subst hr
  obtain ⟨hSl, hfc, kC, hkC, hkind⟩ := hK.1 ci _ h1
  obtain ⟨cf, kf', fi, f, hi, hsl⟩ := hSl kf h5
  have hlay := hts _ (h2 _ (u_in_lay h5))
  unfold u_lay at hlay
  rw [if_neg (by rw [h8]; decide)] at hlay
  have hst := (u_facts hfc hkC (u_lays hts h2 h5) hi).1
  have h6' := u_store hfc hkC hkind hlay hi h7 hn hf
  refine W.putK C.1 C.2.1 (f := f) ⟨hown, hts _ h6, ⟨_, _, _, hi⟩, hst⟩ (by rw [q2]; exact h6') q1 q3 (by rw [hsl]; exact k2_hasslot (q4 kf h5)) rfl rfl hd fun H' e1 e2 e3 => ?_
  rw [hsl] at e1 ⊢
  refine kk p e s m args below meth c H' _ ls C (Rp.set (e' := .inl (ci, fs.set kf v)) he hD hC (hP.set hD he ⟨_, h1, t_OB.to (V := updV (vp_V fs) kf v) ⟨_, e1, q2, q3, t_set q4 hap h5 v⟩ (fun j _ => vp_updV_set hl0 v j)⟩ e3) (hD.set he)) (e2.trans hz) (hS.put e2 e3 (hD.2 q0 _ he)) hl
theorem V_putF {idx ci kf a : Nat} {ty : FieldType} {fs : List Value} {v : Value} (hF : FL own idx ci kf ty true) (hd : decode cc pc = .ok (.putfield idx, 3)) (hM : M a = some (.inl (ci, fs))) (hn : narrow ty v = v) (hf : fits ty v = true) (hl0 : kf < fs.length) (hin : nm = "<init>") (hci : (vwCl[ci]?).map (fun r => r.1) = some own) (kk : V l G A R own nm cc nL ret Q X k n (mu M a (.inl (ci, fs.set kf v))) sz (pc + 3) L st) : V l G A R own nm cc nL ret Q X k n M sz pc L (v :: .ref a :: st) := by
  intro p e s m args below meth c H locs ls C hR hz hS hl
  obtain ⟨⟨C0, T, N⟩, t0, ⟨h1, h2, h3, h4⟩, h5, h6, h7, h8, h9⟩ := hF
  rw [h1] at hci
  have hCo : C0 = own := Option.some.inj hci
  subst hCo
  obtain ⟨ws, hP, hD, hC⟩ := hR
  obtain ⟨q0, he⟩ := hC a _ hM
  have hts := C.2.2.2.2.2.1
  have hown := C.2.2.2.2.1
  have hK := C.2.2.2.2.2.2.2.2.2.1.1
  have hap := va_apart (own := C0) hts h2 t0 h3 h4 hK h1
  obtain ⟨r, g1, cell, q1, q2, q3, q4⟩ := hP q0 _ he
  have hr : r = (C0, T, N) := Option.some.inj (g1.symm.trans h1)
  subst hr
  obtain ⟨hSl, hfc, kC, hkC, hkind⟩ := hK.1 ci _ h1
  obtain ⟨cf, kf', fi, f, hi, hsl⟩ := hSl kf h5
  have hlay := hts _ (h2 _ (u_in_lay h5))
  unfold u_lay at hlay
  rw [if_pos h8] at hlay
  have hst := (u_facts hfc hkC (u_lays hts h2 h5) hi).1
  have hcf : m.cls = cf := by
    obtain ⟨_, _, c', _, _, _, -, -, hf', -, -, -, hown2, -⟩ := Cond.laysFinal_spec hlay
    have e1 : c' = cf := by have := hi.symm.trans hf'; simp at this; exact this.1.symm
    rw [h9] at hown2
    rw [← e1]; exact Option.some.inj (hown.symm.trans hown2)
  have h6' := u_fits hfc hkC hkind (Or.inr hlay) hi h7 hn hf
  refine W.putFinK C.1 C.2.1 hown (hts _ h6) hi hst hcf (C.2.2.2.2.2.2.2.2.1.trans hin) (by rw [q2]; exact h6') q1 q3 (by rw [hsl]; exact k2_hasslot (q4 kf h5)) rfl rfl hd fun H' e1 e2 e3 => ?_
  rw [hsl] at e1 ⊢
  refine kk p e s m args below meth c H' _ ls C (Rp.set (e' := .inl (ci, fs.set kf v)) he hD hC (hP.set hD he ⟨_, h1, t_OB.to (V := updV (vp_V fs) kf v) ⟨_, e1, q2, q3, t_set q4 hap h5 v⟩ (fun j _ => vp_updV_set hl0 v j)⟩ e3) (hD.set he)) (e2.trans hz) (hS.put e2 e3 (hD.2 q0 _ he)) hl
-- arrays: kind 0 ints, 1 longs, 2.. references
abbrev ai (N : Nat) (f : Nat → Int32) : Cel := .inr (0, N, .inl f)
abbrev al (N : Nat) (f : Nat → Int64) : Cel := .inr (1, N, .inr (.inl f))
abbrev ar (t : Nat) (N : Nat) (f : Nat → Option Nat) : Cel := .inr (t, N, .inr (.inr (.inr (.inr f))))
theorem V_iald {a N j : Nat} {f : Nat → Int32} (hd : decode cc pc = .ok (.iaload, 1)) (hM : M a = some (ai N f)) (hj : j < N) (hN : N < 2 ^ 31) (kk : V l G A R own nm cc nL ret Q X k n M sz (pc + 1) L (.int (f j) :: st)) : V l G A R own nm cc nL ret Q X k n M sz pc L (.int (nI j) :: .ref a :: st) := by
  intro p e s m args below meth c H locs ls C hR hz hS hl
  have hR0 := hR
  obtain ⟨ws, hP, hD, hC⟩ := hR
  obtain ⟨q0, hq⟩ := hC a _ hM
  refine va_iald (D := G.1) (cl := vwCl) (tys := tysG G) C.1 C.2.1 C.2.2.2.2.2.2.2.2.2.1.1 hP q0 0 hq (tysG_at G (by decide)) (vp_in_nI hj hN) hd ?_
  rw [nI_clamp (Nat.lt_trans hj hN)]
  exact kk p e s m args below meth c H locs ls C hR0 hz hS hl
theorem V_lald {a N j : Nat} {f : Nat → Int64} (hd : decode cc pc = .ok (.laload, 1)) (hM : M a = some (al N f)) (hj : j < N) (hN : N < 2 ^ 31) (kk : V l G A R own nm cc nL ret Q X k n M sz (pc + 1) L (.long (f j) :: st)) : V l G A R own nm cc nL ret Q X k n M sz pc L (.int (nI j) :: .ref a :: st) := by
  intro p e s m args below meth c H locs ls C hR hz hS hl
  have hR0 := hR
  obtain ⟨ws, hP, hD, hC⟩ := hR
  obtain ⟨q0, hq⟩ := hC a _ hM
  refine va_lald (D := G.1) (cl := vwCl) (tys := tysG G) C.1 C.2.1 C.2.2.2.2.2.2.2.2.2.1.1 hP q0 1 hq (tysG_at G (by decide)) (vp_in_nI hj hN) hd ?_
  rw [nI_clamp (Nat.lt_trans hj hN)]
  exact kk p e s m args below meth c H locs ls C hR0 hz hS hl
/-- array kind t holds references to objects of class number ci -/
def arOf (t ci : Nat) : Prop := t < 8 ∧ ∃ r : vw_C, vwCl[ci]? = some r ∧ arTy t = .object r.1
theorem V_aald {a N j t ci q : Nat} {f : Nat → Option Nat} (hT : arOf t ci) (hd : decode cc pc = .ok (.aaload, 1)) (hM : M a = some (ar t N f)) (hj : j < N) (hN : N < 2 ^ 31) (hq : f j = some q) (kk : V l G A R own nm cc nL ret Q X k n M sz (pc + 1) L (.ref q :: st)) : V l G A R own nm cc nL ret Q X k n M sz pc L (.int (nI j) :: .ref a :: st) := by
  intro p e s m args below meth c H locs ls C hR hz hS hl
  have hR0 := hR
  obtain ⟨ws, hP, hD, hC⟩ := hR
  obtain ⟨q0, hq0⟩ := hC a _ hM
  obtain ⟨ht, r, hr, htr⟩ := hT
  refine va_aldq (D := G.1) (cl := vwCl) (tys := tysG G) (C := r.1) C.1 C.2.1 C.2.2.2.2.2.2.2.2.2.1.1 hP q0 t hq0 (by rw [tysG_at G ht, htr]) (vp_in_nI hj hN) hd ?_
  rw [nI_clamp (Nat.lt_trans hj hN), hq]
  exact kk p e s m args below meth c H locs ls C hR0 hz hS hl
theorem V_iast {a N j : Nat} {f : Nat → Int32} {x : Int32} (hd : decode cc pc = .ok (.iastore, 1)) (hM : M a = some (ai N f)) (hj : j < N) (hN : N < 2 ^ 31) (kk : V l G A R own nm cc nL ret Q X k n (mu M a (ai N (upd f j x))) sz (pc + 1) L st) : V l G A R own nm cc nL ret Q X k n M sz pc L (.int x :: .int (nI j) :: .ref a :: st) := by
  intro p e s m args below meth c H locs ls C hR hz hS hl
  obtain ⟨ws, hP, hD, hC⟩ := hR
  obtain ⟨q0, hq⟩ := hC a _ hM
  refine W.iast C.1 C.2.1 (hP q0 _ hq) ((C.2.2.2.2.2.2.2.2.2.1.1.2 0 _ (tysG_at G (by decide))).1 N (fun j => .int (f j))) (fun q => by cases q) (by show ¬ (_ < 0 ∨ (arrV _ _ _).slots.size ≤ _); rw [arrV_size]; exact vp_in_nI hj hN) rfl rfl hd fun H1 e1 z oq => ?_
  refine kk p e s m args below meth c H1 _ ls C (Rp.set (e' := ai N (upd f j x)) hq hD hC (hP.set hD hq ?_ oq) (hD.set hq)) (z.trans hz) (hS.put z oq (hD.2 q0 _ hq)) hl
  show H1[a]? = some (vp_cell _ _)
  rw [e1]
  show some ((arrV _ _ _).setSlot _ _) = _
  rw [vp_cell_i, arrV_store, nI_clamp (Nat.lt_trans hj hN)]
  congr 2
  funext q
  by_cases hq : q = j
  · subst hq
    simp [updV, upd]
  · simp [updV, upd, hq]
theorem V_last {a N j : Nat} {f : Nat → Int64} {x : Int64} (hd : decode cc pc = .ok (.lastore, 1)) (hM : M a = some (al N f)) (hj : j < N) (hN : N < 2 ^ 31) (kk : V l G A R own nm cc nL ret Q X k n (mu M a (al N (vp_updL f j x))) sz (pc + 1) L st) : V l G A R own nm cc nL ret Q X k n M sz pc L (.long x :: .int (nI j) :: .ref a :: st) := by
  intro p e s m args below meth c H locs ls C hR hz hS hl
  obtain ⟨ws, hP, hD, hC⟩ := hR
  obtain ⟨q0, hq⟩ := hC a _ hM
  refine W.last C.1 C.2.1 (hP q0 _ hq) ((C.2.2.2.2.2.2.2.2.2.1.1.2 1 _ (tysG_at G (by decide))).1 N (fun j => .long (f j))) (fun q => by cases q) (by show ¬ (_ < 0 ∨ (arrV _ _ _).slots.size ≤ _); rw [arrV_size]; exact vp_in_nI hj hN) rfl rfl hd fun H1 e1 z oq => ?_
  refine kk p e s m args below meth c H1 _ ls C (Rp.set (e' := al N (vp_updL f j x)) hq hD hC (hP.set hD hq ?_ oq) (hD.set hq)) (z.trans hz) (hS.put z oq (hD.2 q0 _ hq)) hl
  show H1[a]? = some (vp_cell _ _)
  rw [e1]
  show some ((arrV _ _ _).setSlot _ _) = _
  rw [vp_cell_l, arrV_store, nI_clamp (Nat.lt_trans hj hN)]
  congr 2
  funext q
  by_cases hq : q = j
  · subst hq
    simp [updV, vp_updL]
  · simp [updV, vp_updL, hq]
theorem V_aast {a N j t ci v : Nat} {f : Nat → Option Nat} {vs : List Value} (hT : arOf t ci) (hd : decode cc pc = .ok (.aastore, 1)) (hM : M a = some (ar t N f)) (hv : M v = some (.inl (ci, vs))) (hj : j < N) (hN : N < 2 ^ 31) (kk : V l G A R own nm cc nL ret Q X k n (mu M a (ar t N (va_up f j (some v)))) sz (pc + 1) L st) : V l G A R own nm cc nL ret Q X k n M sz pc L (.ref v :: .int (nI j) :: .ref a :: st) := by
  intro p e s m args below meth c H locs ls C hR hz hS hl
  obtain ⟨ws, hP, hD, hC⟩ := hR
  obtain ⟨q0, hq⟩ := hC a _ hM
  obtain ⟨qk, hqk⟩ := hC v _ hv
  obtain ⟨ht, r, hc, htr⟩ := hT
  have hK := C.2.2.2.2.2.2.2.2.2.1.1
  obtain ⟨r', hr', cellV, g1, g2, g3, -⟩ := hP qk _ hqk
  have hcls := (hK.1 ci r hc).2
  have hra := (hK.2 t _ (tysG_at G ht)).2
  rw [htr] at hra
  obtain ⟨kA, comp, k1, k2, k3, -⟩ := hra
  have hcomp : comp = G.1.1 ci := Option.some.inj (k3.symm.trans hcls.1)
  subst hcomp
  obtain ⟨kC, hkC, -⟩ := hcls.2
  have h2 : vp_in (nI j) N := vp_in_nI hj hN
  have h0 : ¬ nI j < 0 := fun q => h2 (Or.inl q)
  refine W.aast C.1 C.2.1 (hP q0 _ hq) (fun q h => by cases h) (fun h => by cases h) k1 k2 rfl hkC ⟨h0, by show _ < (arrV _ _ _).slots.size; rw [arrV_size, nI_clamp (Nat.lt_trans hj hN)]; exact hj⟩ g1 (fun q h => by rw [g3] at h; cases h) (by rw [g2]; exact hkC) (by rw [g2]; exact va_assign hcls) rfl rfl hd fun H1 e1 z oq => ?_
  refine kk p e s m args below meth c H1 _ ls C (Rp.set (e' := ar t N (va_up f j (some v))) hq hD hC (hP.set hD hq ?_ oq) (hD.set hq)) (z.trans hz) (hS.put z oq (hD.2 q0 _ hq)) hl
  show H1[a]? = some (vp_cell _ _)
  rw [e1]
  show some ((arrV _ _ _).setSlot _ _) = _
  rw [vp_cell_q, arrV_store, nI_clamp (Nat.lt_trans hj hN)]
  congr 2
  funext q
  by_cases hq : q = j
  · subst hq
    simp [updV, va_up, va_rf]
  · simp [updV, va_up, hq]
end VM
