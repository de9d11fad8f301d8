/-! the reference's world: one object at r, its two rows at r + 1 and r + 2 -/
def rM (M0 : ME) (r : Nat) (ρ π : Int → Int) (sv rf hs : Int) : ME := fun q => if q = r then some (.inl (11, [.ref (r + 1), .ref (r + 2), .int (iI sv), .int (iI rf), .long (lI hs)])) else if q = r + 1 then some (aI 12309 ρ) else if q = r + 2 then some (aI 36927 π) else M0 q
section RM
variable {M0 : ME} {r : Nat} {ρ π : Int → Int} {sv rf hs : Int}
theorem rM_0 : rM M0 r ρ π sv rf hs r = some (.inl (11, [.ref (r + 1), .ref (r + 2), .int (iI sv), .int (iI rf), .long (lI hs)])) := if_pos rfl
theorem rM_1 : rM M0 r ρ π sv rf hs (r + 1) = some (aI 12309 ρ) := by unfold rM; rw [if_neg (by omega), if_pos rfl]
theorem rM_2 : rM M0 r ρ π sv rf hs (r + 2) = some (aI 36927 π) := by unfold rM; rw [if_neg (by omega), if_neg (by omega), if_pos rfl]
theorem rM_o {q : Nat} (h0 : q ≠ r) (h1 : q ≠ r + 1) (h2 : q ≠ r + 2) : rM M0 r ρ π sv rf hs q = M0 q := by unfold rM; rw [if_neg h0, if_neg h1, if_neg h2]
theorem rM_u1 {ρ' : Int → Int} : mu (rM M0 r ρ π sv rf hs) (r + 1) (aI 12309 ρ') = rM M0 r ρ' π sv rf hs := by
  funext q
  unfold mu rM
  by_cases h : q = r + 1
  · subst h
    rw [if_pos rfl, if_neg (by omega), if_pos rfl]
  · rw [if_neg h, if_neg h, if_neg h]
theorem rM_u2 {π' : Int → Int} : mu (rM M0 r ρ π sv rf hs) (r + 2) (aI 36927 π') = rM M0 r ρ π' sv rf hs := by
  funext q
  unfold mu rM
  by_cases h : q = r + 2
  · subst h
    rw [if_pos rfl, if_neg (by omega), if_neg (by omega), if_pos rfl]
  · rw [if_neg h, if_neg h, if_neg h]
theorem rM_u0 {sv' rf' hs' : Int} : mu (rM M0 r ρ π sv rf hs) r (.inl (11, [.ref (r + 1), .ref (r + 2), .int (iI sv'), .int (iI rf'), .long (lI hs')])) = rM M0 r ρ π sv' rf' hs' := by
  funext q
  unfold mu rM
  by_cases h : q = r
  · subst h
    rw [if_pos rfl, if_pos rfl]
  · rw [if_neg h, if_neg h, if_neg h]
variable {l : Launch} {G : GG} {A : Nat → Prop} {R : Room} {own nm : String} {cc : ByteArray} {nL : Nat} {ret : Option FieldType} {Q : Option Value → ME → Nat → Prop} {X : String → ME → Prop} {k n : Nat} {M : ME} {sz : Nat} {pc : Nat} {L : List (Option Value)} {st : List Value}
theorem R_iast {z x : Int} (hd : decode cc pc = .ok (.iastore, 1)) (hz : 0 ≤ z ∧ z < 12309) (kk : V l G A R own nm cc nL ret Q X k n (rM M0 r (up ρ z x) π sv rf hs) sz (pc + 1) L st) : V l G A R own nm cc nL ret Q X k n (rM M0 r ρ π sv rf hs) sz pc L (.int (iI x) :: .int (iI z) :: .ref (r + 1) :: st) := I_iast hd rM_1 hz (by decide) (by rw [rM_u1]; exact kk)
theorem R_iastp {z x : Int} (hd : decode cc pc = .ok (.iastore, 1)) (hz : 0 ≤ z ∧ z < 36927) (kk : V l G A R own nm cc nL ret Q X k n (rM M0 r ρ (up π z x) sv rf hs) sz (pc + 1) L st) : V l G A R own nm cc nL ret Q X k n (rM M0 r ρ π sv rf hs) sz pc L (.int (iI x) :: .int (iI z) :: .ref (r + 2) :: st) := I_iast hd rM_2 hz (by decide) (by rw [rM_u2]; exact kk)
theorem R_iald {z : Int} (hd : decode cc pc = .ok (.iaload, 1)) (hz : 0 ≤ z ∧ z < 12309) (kk : V l G A R own nm cc nL ret Q X k n (rM M0 r ρ π sv rf hs) sz (pc + 1) L (.int (iI (ρ z)) :: st)) : V l G A R own nm cc nL ret Q X k n (rM M0 r ρ π sv rf hs) sz pc L (.int (iI z) :: .ref (r + 1) :: st) := I_iald hd rM_1 hz (by decide) kk
theorem R_ialdp {z : Int} (hd : decode cc pc = .ok (.iaload, 1)) (hz : 0 ≤ z ∧ z < 36927) (kk : V l G A R own nm cc nL ret Q X k n (rM M0 r ρ π sv rf hs) sz (pc + 1) L (.int (iI (π z)) :: st)) : V l G A R own nm cc nL ret Q X k n (rM M0 r ρ π sv rf hs) sz pc L (.int (iI z) :: .ref (r + 2) :: st) := I_iald hd rM_2 hz (by decide) kk
theorem R_putsv {idx : Nat} {x : Int} (hF : FL own idx 11 2 .int false) (hd : decode cc pc = .ok (.putfield idx, 3)) (kk : V l G A R own nm cc nL ret Q X k n (rM M0 r ρ π x rf hs) sz (pc + 3) L st) : V l G A R own nm cc nL ret Q X k n (rM M0 r ρ π sv rf hs) sz pc L (.int (iI x) :: .ref r :: st) := V_putf hF hd rM_0 rfl rfl (by simp) (by show V l G A R own nm cc nL ret Q X k n (mu _ r (.inl (11, [.ref (r + 1), .ref (r + 2), .int (iI x), .int (iI rf), .long (lI hs)]))) sz (pc + 3) L st; rw [rM_u0]; exact kk)
theorem R_putrf {idx : Nat} {x : Int} (hF : FL own idx 11 3 .int false) (hd : decode cc pc = .ok (.putfield idx, 3)) (kk : V l G A R own nm cc nL ret Q X k n (rM M0 r ρ π sv x hs) sz (pc + 3) L st) : V l G A R own nm cc nL ret Q X k n (rM M0 r ρ π sv rf hs) sz pc L (.int (iI x) :: .ref r :: st) := V_putf hF hd rM_0 rfl rfl (by simp) (by show V l G A R own nm cc nL ret Q X k n (mu _ r (.inl (11, [.ref (r + 1), .ref (r + 2), .int (iI sv), .int (iI x), .long (lI hs)]))) sz (pc + 3) L st; rw [rM_u0]; exact kk)
theorem R_puths {idx : Nat} {x : Int} (hF : FL own idx 11 4 .long false) (hd : decode cc pc = .ok (.putfield idx, 3)) (kk : V l G A R own nm cc nL ret Q X k n (rM M0 r ρ π sv rf x) sz (pc + 3) L st) : V l G A R own nm cc nL ret Q X k n (rM M0 r ρ π sv rf hs) sz pc L (.long (lI x) :: .ref r :: st) := V_putf hF hd rM_0 rfl rfl (by simp) (by show V l G A R own nm cc nL ret Q X k n (mu _ r (.inl (11, [.ref (r + 1), .ref (r + 2), .int (iI sv), .int (iI rf), .long (lI x)]))) sz (pc + 3) L st; rw [rM_u0]; exact kk)
end RM
def nX : String → ME → Prop := fun _ _ => False
theorem CF.of {l : Launch} {own nm : String} {cc : ByteArray} {nL : Nat} {ret : Option FieldType} {R : Room} {M M' : ME} {v : Option Value} {y : MethodName} {vs : List Value} {L0 : List (Option Value)} (hy : plainName y.cls = true) (hown : y.cls = own) (hnm : y.name = nm) (hlen : (lg_sl vs).length ≤ nL) (hL0 : entL vs nL = L0) (body : ∀ (G : GG) (A : Nat → Prop) (Q : Option Value → ME → Nat → Prop) (sz : Nat), (∀ v0 M0 z, v0 = v → M0 = M' → Q v0 M0 z) → V l G A R own nm cc nL ret Q nX 0 0 M sz 0 L0 []) : CF l y cc nL ret R vs M v M' := fun sz => Cn.of hy hown hnm hlen hL0 fun G A => body G A _ sz fun _ _ _ h1 h2 => ⟨h1, h2⟩
theorem CP.of {l : Launch} {own nm : String} {cc : ByteArray} {nL : Nat} {ret : Option FieldType} {R : Room} {M : ME} {P : Option Value → ME → Prop} {y : MethodName} {vs : List Value} {L0 : List (Option Value)} (hy : plainName y.cls = true) (hown : y.cls = own) (hnm : y.name = nm) (hlen : (lg_sl vs).length ≤ nL) (hL0 : entL vs nL = L0) (body : ∀ (G : GG) (A : Nat → Prop) (Q : Option Value → ME → Nat → Prop) (sz : Nat), (∀ v0 M0 z, P v0 M0 → Q v0 M0 z) → V l G A R own nm cc nL ret Q nX 0 0 M sz 0 L0 []) : CP l y cc nL ret R vs M P := fun sz => Cn.of hy hown hnm hlen hL0 fun G A => body G A _ sz fun _ _ _ h => h
/-- numbers of a condition -/
theorem if1 {p : Prop} {_ : Decidable p} (h : p) : (1 : Int) = if p then 1 else 0 := (if_pos h).symm
theorem if0 {p : Prop} {_ : Decidable p} (h : ¬ p) : (0 : Int) = if p then 1 else 0 := (if_neg h).symm
theorem iv {a b : Int} (h : a = b) : some (Value.int (iI a)) = some (Value.int (iI b)) := by rw [h]
theorem lv' {a b : Int} (h : a = b) : some (Value.long (lI a)) = some (Value.long (lI b)) := by rw [h]
theorem vi {a b : Int} (h : a = b) : Value.int (iI a) = Value.int (iI b) := by rw [h]
theorem vl {a b : Int} (h : a = b) : Value.long (lI a) = Value.long (lI b) := by rw [h]
section VJ
variable {l : Launch} {G : GG} {A : Nat → Prop} {R : Room} {own nm : String} {cc : ByteArray} {nL : Nat} {ret : Option FieldType} {Q : Option Value → ME → Nat → Prop} {X : String → ME → Prop} {k n : Nat} {M : ME} {sz : Nat} {pc : Nat} {L : List (Option Value)} {st : List Value}
/-- two ways that meet at J with one more value -/
theorem V_tern {J : Nat} {v : Value} (h1 : ∀ sz : Nat, V l G A R own nm cc nL ret Q X k n M sz J L (v :: st)) (h2 : (∀ sz : Nat, V l G A R own nm cc nL ret Q X k n M sz J L (v :: st)) → V l G A R own nm cc nL ret Q X k n M sz pc L st) : V l G A R own nm cc nL ret Q X k n M sz pc L st := h2 h1
theorem V_ternb {J : Nat} {v b : Value} (h1 : ∀ sz : Nat, V l G A R own nm cc nL ret Q X k n M sz J L (v :: st)) (h2 : (∀ sz : Nat, V l G A R own nm cc nL ret Q X k n M sz J L (v :: st)) → V l G A R own nm cc nL ret Q X k n M sz pc L (b :: st)) : V l G A R own nm cc nL ret Q X k n M sz pc L (b :: st) := h2 h1
/-- two ways that meet at J in the world M' with the locals L' -/
theorem V_join {J : Nat} {M' : ME} {L' : List (Option Value)} (h1 : ∀ sz : Nat, V l G A R own nm cc nL ret Q X k n M' sz J L' st) (h2 : (∀ sz : Nat, V l G A R own nm cc nL ret Q X k n M' sz J L' st) → V l G A R own nm cc nL ret Q X k n M sz pc L st) : V l G A R own nm cc nL ret Q X k n M sz pc L st := h2 h1
theorem V_eqM {M' : ME} (h : M = M') (kk : V l G A R own nm cc nL ret Q X k n M' sz pc L st) : V l G A R own nm cc nL ret Q X k n M sz pc L st := h ▸ kk
theorem V_wk' {L' : List (Option Value)} (kk : V l G A R own nm cc nL ret Q X k n M sz pc L' st) (hw : wk L' L) : V l G A R own nm cc nL ret Q X k n M sz pc L st := V_wk hw kk
end VJ
theorem kC {own : String} {i : Nat} {v w : Int32} (e : v = w) (h : Cond.constant own i v ∈ tb) : Cond.constant own i w ∈ tb := e ▸ h
theorem kL {own : String} {i : Nat} {v w : Int64} (e : v = w) (h : Cond.constantLong own i v ∈ tb) : Cond.constantLong own i w ∈ tb := e ▸ h
theorem ex_if {p : Prop} {_ : Decidable p} : ∃ b : Int, ((p ∧ b = 1) ∨ (¬ p ∧ b = 0)) ∧ (if p then (1 : Int) else 0) = b := by
  by_cases h : p
  · exact ⟨1, Or.inl ⟨h, rfl⟩, if_pos h⟩
  · exact ⟨0, Or.inr ⟨h, rfl⟩, if_neg h⟩
/-- cells moved down by d, those of lo.. that lie below j -/
def shl (d : Int) (ρ : Int → Int) (lo j : Int) : Int → Int := fun q => if lo ≤ q ∧ q < j then ρ (q + d) else ρ q
theorem shl_0 {d : Int} {ρ : Int → Int} {lo : Int} : shl d ρ lo lo = ρ := by
  funext q; unfold shl; rw [if_neg (by omega)]
theorem shl_o {d lo j q : Int} {ρ : Int → Int} (h : q < lo ∨ j ≤ q) : shl d ρ lo j q = ρ q := by unfold shl; rw [if_neg (by omega)]
theorem shl_i {d lo j q : Int} {ρ : Int → Int} (h : lo ≤ q ∧ q < j) : shl d ρ lo j q = ρ (q + d) := by unfold shl; rw [if_pos h]
theorem shl_s {d lo j : Int} {ρ : Int → Int} (h : lo ≤ j) : up (shl d ρ lo j) j (ρ (j + d)) = shl d ρ lo (j + 1) := by
  funext q
  unfold up shl
  by_cases hq : q = j
  · subst hq
    rw [if_pos rfl, if_pos (by omega)]
  · rw [if_neg hq]
    by_cases h2 : lo ≤ q ∧ q < j
    · rw [if_pos h2, if_pos (by omega)]
    · rw [if_neg h2, if_neg (by omega)]
