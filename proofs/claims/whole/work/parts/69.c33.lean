theorem TL.mv {M M' : ME} {x : Nat} {ρ π : Int → Int} {sv n : Int} (h : TL M x ρ π sv) (hI : IV n ρ) (hS : SV n π sv) (hv : sv ≤ 3) (hm : ∀ q, x ≤ q → q < x + 1062 → M' q = M q) : TL M' x ρ π sv := by
  obtain ⟨a, f, x0, x1, x2, x3, x4, x5⟩ := h
  have ba := x2.1.b
  refine ⟨a, f, by rw [hm _ (by omega) (by omega)]; exact x0, by rw [hm _ (by omega) (by omega)]; exact x1, x2, x3.mv hI.2.1 hI.2.2.1 (fun q u v => hm q (by omega) (by omega)) (fun _ _ _ _ => rfl), fun i z w => ?_, fun i z w y => ?_⟩
  · have bi := (x2.2 i z (by omega)).1.b
    exact (x4 i z w).mv (hS i z w).2.1 (hS i z w).2.2.1 (fun q u v => hm q (by omega) (by omega)) (fun _ _ _ _ => rfl)
  · have bi := (x2.2 i z y).1.b
    obtain ⟨ρ8, k1, k2, k3⟩ := x5 i z w y
    exact ⟨ρ8, k1.mv k2 k3 (fun q u v => hm q (by omega) (by omega)) (fun _ _ _ _ => rfl), k2, k3⟩
/-- the reference at r -/
def RD (W : ME) (r : Nat) (ρ π : Int → Int) (sv rf hs : Int) : Prop := W r = some (.inl (11, [.ref (r + 1), .ref (r + 2), .int (iI sv), .int (iI rf), .long (lI hs)])) ∧ W (r + 1) = some (aI 12309 ρ) ∧ W (r + 2) = some (aI 36927 π)
theorem RD.self {W : ME} {r : Nat} {ρ π : Int → Int} {sv rf hs : Int} (h : RD W r ρ π sv rf hs) : W = rM W r ρ π sv rf hs := by
  funext q
  unfold rM
  by_cases h0 : q = r
  · rw [if_pos h0, h0]; exact h.1
  · rw [if_neg h0]
    by_cases h1 : q = r + 1
    · rw [if_pos h1, h1]; exact h.2.1
    · rw [if_neg h1]
      by_cases h2 : q = r + 2
      · rw [if_pos h2, h2]; exact h.2.2
      · rw [if_neg h2]
theorem RD.mv {W W' : ME} {r : Nat} {ρ π : Int → Int} {sv rf hs : Int} (h : RD W r ρ π sv rf hs) (hm : ∀ q, r ≤ q → q < r + 3 → W' q = W q) : RD W' r ρ π sv rf hs := ⟨(hm _ (by omega) (by omega)).trans h.1, (hm _ (by omega) (by omega)).trans h.2.1, (hm _ (by omega) (by omega)).trans h.2.2⟩
/-- the world of the law behind c calls: the object at x, the reference behind it, the array for answers -/
def LW (c : Int) (x o : Nat) (W : ME) (ρ π : Int → Int) (sv rf hs : Int) : Prop := TL W x ρ π sv ∧ RD W (x + 1062) ρ π sv rf hs ∧ (∃ g : Int → Int, W o = some (aL 1 g)) ∧ IV c ρ ∧ SV c π sv ∧ (0 ≤ sv ∧ sv ≤ 3) ∧ x + 1065 ≤ o
theorem LW.of {c : Int} {x o : Nat} {W : ME} {ρ π : Int → Int} {sv rf hs : Int} {g : Int → Int} (hT : TL W x ρ π sv) (ho : W o = some (aL 1 g)) (hI : IV c ρ) (hS : SV c π sv) (hv : 0 ≤ sv ∧ sv ≤ 3) (hxo : x + 1065 ≤ o) : LW c x o (rM W (x + 1062) ρ π sv rf hs) ρ π sv rf hs :=
  ⟨hT.mv hI hS hv.2 (fun q u v => rM_o (by omega) (by omega) (by omega)), ⟨rM_0, rM_1, rM_2⟩, ⟨g, (rM_o (by omega) (by omega) (by omega)).trans ho⟩, hI, hS, hv, hxo⟩
def sx (xs : Nat → Int32) (z : Int) : Int := (xs z.toNat).toInt
theorem sx_r {xs : Nat → Int32} {z : Int} : -2147483648 ≤ sx xs z ∧ sx xs z < 2147483648 := iI_r _
theorem svS_b {sv : Int} (hv : 0 ≤ sv ∧ sv ≤ 3) : 0 ≤ svS sv ∧ svS sv ≤ 3 := by unfold svS; split <;> omega
section UL
variable {l : Launch} {G : GG} {A : Nat → Prop} {R : Room} {own : String} {cc : ByteArray} {nL : Nat} {ret : Option FieldType} {T : State → Code → Array Value → Prop} {Z : List Frame → Array Value → State → State → Prop} {k n : Nat} {M : ME} {sz : Nat} {pc : Nat} {L : List (Option Value)} {st : List Value}
theorem J_scr {b N : Nat} {xs : Nat → Int32} {z : Int} (hT : ∀ s c args, T s c args → va_X b N xs s s.heap ∧ b < s.heap.size ∧ ¬ A b) (hd : decode cc pc = .ok (.iaload, 1)) (hz : 0 ≤ z ∧ z < N) (hN : N < 2 ^ 31) (kk : U l G A R own cc nL ret T Z k n M sz (pc + 1) L (.int (iI (sx xs z)) :: st)) : U l G A R own cc nL ret T Z k n M sz pc L (.int (iI z) :: .ref b :: st) := by
  rw [iI_toN hz.1]
  refine U_scr hT hd (by omega) hN ?_
  rw [iI_of (xs z.toNat)]
  exact kk
theorem Wn_blind {vs : List Value} {M : ME} {sz : Nat} : FrameBlind (va_Pc vs (fun U => Wd G A M sz U ∧ Nx U)) := fun a U g mk q => by
  obtain ⟨q0, ⟨h1, h2, h3, h4, h5⟩, h6⟩ := q
  exact ⟨q0, ⟨h1, Kn.same (s := U) (U := U.calling g mk a) rfl h2, h3.moved (U := U.calling g mk a) (Vm.Alike.refl U.vm), h4, h5⟩, h6.moved (U := U.calling g mk a) (Vm.Alike.refl U.vm)⟩
theorem wh_good {y : MethodName} {cc : ByteArray} {nL : Nat} {ret : Option FieldType} {hh : List (Nat × Nat × Nat × Nat)} (h : Cond.codeWith y cc nL ret hh ∈ tb) : GoodIn tb (Cond.codeWith y cc nL ret hh :: tb) := fun w hw => by
  rcases List.mem_cons.mp hw with rfl | hw
  · exact tb_good _ h
  · exact tb_good _ hw
/-- a wrapper's call -/
theorem U_callW {idx nA : Nat} {y : MethodName} {cc' : ByteArray} {nL' : Nat} {hh : List (Nat × Nat × Nat × Nat)} {rm : Room} {vs st0 : List Value} {P : Option Value → ME → Prop} (hC0 : CW l y cc' nL' hh rm vs M P) (hL : LSt own idx y nA) (hcode : Cond.codeWith y cc' nL' (some .int) hh ∈ tb) (hd : decode cc pc = .ok (.invokestatic idx, 3)) (hst : st0 = vs.reverse ++ st) (hnA : vs.length = nA) (hR : rm.frames + 1 ≤ R.frames ∧ 8 + (nL' + 11) + rm.locals ≤ R.locals) (hW : (st.map fun v => v.category).sum ≤ 8) (hkn : k + rm.cells ≤ R.cells ∧ n + rm.slots ≤ R.slots)
    (kk : ∀ (v : Option Value) (M' : ME) (sz' : Nat), P v M' → U l G A R own cc nL ret T Z (k + rm.cells) (n + rm.slots) M' sz' (pc + 3) L (v.toList ++ st)) : U l G A R own cc nL ret T Z k n M sz pc L st0 := by
  intro p e s m args below meth c H locs ls C hR0 hz hS hl
  have hts := C.2.2.2.2.2.1
  obtain ⟨l1, l2, l4, l5⟩ := hL
  have hG : GoodIn tb (va_wsS own idx y (Cond.codeWith y cc' nL' (some .int) hh :: tb)) := fun w hw => by
    unfold va_wsS at hw
    rcases List.mem_append.mp hw with h | h
    · simp only [List.mem_cons, List.not_mem_nil, or_false] at h
      rcases h with rfl | rfl | rfl
      · exact tb_good _ l1
      · exact tb_good _ l2
      · exact tb_good _ l4
    · exact wh_good hcode w h
  exact U_run (vx_runSW (rest := st) (n := nA) ⟨C.1, C.2.1, C.2.2.1, C.2.2.2.2.1, hts⟩ (hC0 sz G A) (vx_cwSW nA hts hG rfl rfl rfl l5 hR) ⟨Wn_blind, fun U hU hWU => ⟨rfl, Wd_of hWU hU C.2.2.2.2.2.2.2.2.2.1 C.2.2.2.2.2.2.2.2.2.2.1 C.2.2.2.2.2.2.2.2.2.2.2 hR0 hz hS, C.2.2.2.2.2.2.2.2.1.moved hWU.alike⟩⟩ rfl hnA hl.1 hst (by show 2 * 0 + _ ≤ 8; omega) hd hkn) C hS hl kk
end UL

set_option maxRecDepth 100000 in
set_option maxHeartbeats 4000000 in
theorem lw_setFrameLength (l : Launch) (hfl : l.stackTraces = false) (G : GG) (A : Nat → Prop) (T : State → Code → Array Value → Prop) (Z : List Frame → Array Value → State → State → Prop) (b N : Nat) (xs : Nat → Int32) (hT : ∀ s c args, T s c args → va_X b N xs s s.heap ∧ b < s.heap.size ∧ ¬ A b) (hN : N < 2 ^ 31) (x o : Nat) (W : ME) (ρ π : Int → Int) (sv rf hs : Int) (cn i : Int) (k n sz : Nat) (hcn : 0 ≤ cn ∧ cn ≤ 512) (hi : 0 ≤ i ∧ i + 5 ≤ N) (hk : k ≤ 600000) (hn : n ≤ 7000000) (hL : LW cn x o W ρ π sv rf hs)
    (next : ∀ (W' : ME) (ρ' π' : Int → Int) (sv' rf' hs' : Int) (k' n' sz' : Nat), LW (cn + 1) x o W' ρ' π' sv' rf' hs' → k' ≤ k + 1 → n' ≤ n + 6 → U l G A room_1 RL cL_law 8 ret T Z k' n' W' sz' 1524 [some (.ref b), some (.ref x), some (.ref (x + 1062)), some (.ref o), some (.int (iI i)), none, none, none] []) :
    U l G A room_1 RL cL_law 8 ret T Z k n W sz 156 [some (.ref b), some (.ref x), some (.ref (x + 1062)), some (.ref o), some (.int (iI i)), none, none, none] [] := by
  obtain ⟨hTL, hR, ⟨g, ho⟩, hI, hS, hv, hxo⟩ := id hL
  obtain ⟨a0, f0, x0, -⟩ := id hTL
  have hP := hS.P
  have hSI := hI.1.1
  have hXI := hI.1.2.1
  have h3 := hI.1.2.2.1
  have hPI := hI.1.2.2.2
  have hWr := hI.2.1
  have hRI := hI.2.2.1
  have hCI := hI.2.2.2
  have hQA := hSI.QA
  have hI1 : IV (cn + 1) ρ := hI.mono (by omega)
  have hS1 : SV (cn + 1) π sv := hS.mono (by omega)
  obtain ⟨a1, ea1⟩ : ∃ z, z = sx xs (i + 1) := ⟨_, rfl⟩
  have ha1 : -2147483648 ≤ a1 ∧ a1 < 2147483648 := by rw [ea1]; exact sx_r
  obtain ⟨e, he⟩ : ∃ e : Int, (¬ (8 ≤ a1 ∧ a1 ≤ 40) ∧ e = 1) ∨ ((8 ≤ a1 ∧ a1 ≤ 40) ∧ 0 < pend ρ 0 + pend ρ 1 + pend ρ 2 + pend ρ 3 ∧ e = 2) ∨ ((8 ≤ a1 ∧ a1 ≤ 40) ∧ pend ρ 0 + pend ρ 1 + pend ρ 2 + pend ρ 3 ≤ 0 ∧ e = 0) := by
    by_cases hh0 : (8 ≤ a1 ∧ a1 ≤ 40) <;> by_cases hh1 : 0 < pend ρ 0 + pend ρ 1 + pend ρ 2 + pend ρ 3 <;> first | exact ⟨0, by omega⟩ | exact ⟨1, by omega⟩ | exact ⟨2, by omega⟩ | exact ⟨3, by omega⟩
  refine U_aload_n dL_law_156 rfl ?_
  refine U_aload_n dL_law_157 rfl ?_
  refine U_iload dL_law_158 rfl ?_
  refine U_iconst (v := iI (1)) dL_law_160 rfl ?_
  refine J_iadd dL_law_161 ?_
  refine J_scr hT dL_law_162 ⟨by omega, by omega⟩ hN ?_
  rw [← ea1]
  refine U_aload_n dL_law_163 rfl ?_
  refine U_callW (vs := [_, _, _]) (w_setFrameLength l W x o _ x0 g ho a1 (ρ 0) e (fun M' => TL M' x (up ρ 0 a1) (svP ρ π sv) (svS sv) ∧ FR W M' x 1062) (fun M' h => (h.2 _ (by omega)).trans ho) (p_setFrameLength l hfl W x ρ π sv hTL hv hWr hRI hP hSI a1 ha1 e he)) mL_82 wc_setFrameLength dL_law_164 rfl rfl ⟨(Nat.le_of_ble_eq_true rfl), (Nat.le_of_ble_eq_true rfl)⟩ (Nat.le_of_ble_eq_true rfl) ⟨(le_r (b := 601024) (by show k + 1 ≤ _; omega) rfl), (le_r (b := 7293034) (by show n + 6 ≤ _; omega) rfl)⟩ (fun v0 W1 sz1 hp => ?_)
  obtain ⟨rfl, hp⟩ := hp
  refine U_istore (L' := [some _, some _, some _, some _, some _, some _, none, none]) dL_law_167 (by decide) rfl ?_
  rcases hp with ⟨he0, M1, hM1, rfl⟩ | ⟨he0, rfl⟩
  · obtain ⟨hT1, hF1⟩ := hM1
    have hI2 := hI.len (k := a1) (by omega)
    have hS2 : SV (cn + 1) (svP ρ π sv) (svS sv) := SV.sav hv hI hS (by omega)
    have hv2 := svS_b hv
    have hT2 : TL (mu M1 o (aL 1 (up g 0 (c32 (ρ 0))))) x (up ρ 0 a1) (svP ρ π sv) (svS sv) := hT1.mv hI2 hS2 hv2.2 (fun q u v => mu_ne (by omega))
    have hR2 : RD (mu M1 o (aL 1 (up g 0 (c32 (ρ 0))))) (x + 1062) ρ π sv rf hs := hR.mv (fun q u v => (mu_ne (by omega)).trans (hF1 q (by omega)))
    refine U_eqM hR2.self ?_
    refine U_aload_n dL_law_169 rfl ?_
    refine U_aload_n dL_law_170 rfl ?_
    refine U_iload dL_law_171 rfl ?_
    refine U_iconst (v := iI (1)) dL_law_173 rfl ?_
    refine J_iadd dL_law_174 ?_
    refine J_scr hT dL_law_175 ⟨by omega, by omega⟩ hN ?_
    rw [← ea1]
    refine U_cVP (vs := [_]) (r_setFrameLength l _ (x + 1062) ρ π sv rf hs hv a1 ha1 hQA e he) mL_87 coX11_setFrameLength dL_law_176 rM_0 rfl rfl rfl (by decide) (Nat.le_of_ble_eq_true rfl) (le_r (b := 601024) (by show k + 1 ≤ _; omega) rfl) (le_r (b := 7293034) (by show n + 6 ≤ _; omega) rfl) (fun v2 W2 sz2 hp2 => ?_)
    rcases hp2 with ⟨h0, -, -⟩ | ⟨-, rfl, rfl⟩
    · omega
    refine U_istore (L' := [some _, some _, some _, some _, some _, some _, some _, none]) dL_law_179 (by decide) rfl ?_
    refine U_aload_n dL_law_181 rfl ?_
    refine U_cV (vs := []) (r_thrown l _ (x + 1062) _ _ _ e hs) mL_88 coX11_thrown dL_law_182 rM_0 rfl rfl rfl (by decide) (Nat.le_of_ble_eq_true rfl) (le_r (b := 601024) (by show k + 1 ≤ _; omega) rfl) (le_r (b := 7293034) (by show n + 6 ≤ _; omega) rfl) (fun sz3 => ?_)
    refine U_iload dL_law_185 rfl ?_
    refine U_icmp_eq_t (tgt := 192) dL_law_187 (by decide) rfl ?_
    refine U_iload dL_law_192 rfl ?_
    refine J_if_ne (tgt := 209) dL_law_194 (by decide) ⟨by omega, by omega⟩ (fun h9 => absurd he0 h9) (fun _ => ?_)
    refine U_aload_n dL_law_197 rfl ?_
    refine U_iconst (v := iI (0)) dL_law_198 rfl ?_
    refine J_lald dL_law_199 ((rM_o (by omega) (by omega) (by omega)).trans mu_eq) ⟨by omega, by omega⟩ (by decide) ?_
    rw [up_s]
    refine U_iload dL_law_200 rfl ?_
    refine J_i2lc dL_law_202 ?_
    refine U_lcE (tgt := 209) rfl dL_law_203 dL_law_204 (by decide) ?_
    refine U_goto (tgt := 1524) dL_law_209 (by decide) ?_
    exact U_wk' (next _ _ _ _ _ _ _ _ _ (LW.of hT2 mu_eq hI2 hS2 hv2 hxo) (by show k + 1 ≤ _; omega) (by show n + 6 ≤ _; omega)) ⟨rfl, rfl, rfl, rfl, rfl, trivial⟩
  · refine U_eqM hR.self ?_
    refine U_aload_n dL_law_169 rfl ?_
    refine U_aload_n dL_law_170 rfl ?_
    refine U_iload dL_law_171 rfl ?_
    refine U_iconst (v := iI (1)) dL_law_173 rfl ?_
    refine J_iadd dL_law_174 ?_
    refine J_scr hT dL_law_175 ⟨by omega, by omega⟩ hN ?_
    rw [← ea1]
    refine U_cVP (vs := [_]) (r_setFrameLength l _ (x + 1062) ρ π sv rf hs hv a1 ha1 hQA e he) mL_87 coX11_setFrameLength dL_law_176 rM_0 rfl rfl rfl (by decide) (Nat.le_of_ble_eq_true rfl) (le_r (b := 601024) (by show k + 1 ≤ _; omega) rfl) (le_r (b := 7293034) (by show n + 6 ≤ _; omega) rfl) (fun v2 W2 sz2 hp2 => ?_)
    obtain ⟨-, rfl, rfl⟩ := hp2.resolve_right (fun h => absurd h.1 (by omega))
    refine U_istore (L' := [some _, some _, some _, some _, some _, some _, some _, none]) dL_law_179 (by decide) rfl ?_
    refine U_aload_n dL_law_181 rfl ?_
    refine U_cV (vs := []) (r_thrown l _ (x + 1062) _ _ _ e hs) mL_88 coX11_thrown dL_law_182 rM_0 rfl rfl rfl (by decide) (Nat.le_of_ble_eq_true rfl) (le_r (b := 601024) (by show k + 1 ≤ _; omega) rfl) (le_r (b := 7293034) (by show n + 6 ≤ _; omega) rfl) (fun sz3 => ?_)
    refine U_iload dL_law_185 rfl ?_
    refine U_icmp_eq_t (tgt := 192) dL_law_187 (by decide) rfl ?_
    refine U_iload dL_law_192 rfl ?_
    refine J_if_ne (tgt := 209) dL_law_194 (by decide) ⟨by omega, by omega⟩ (fun _ => ?_) (fun h9 => absurd h9 (by omega))
    refine U_goto (tgt := 1524) dL_law_209 (by decide) ?_
    exact U_wk' (next _ _ _ _ _ _ _ _ _ (LW.of hTL ho hI1 hS1 hv hxo) (by show k + 1 ≤ _; omega) (by show n + 6 ≤ _; omega)) ⟨rfl, rfl, rfl, rfl, rfl, trivial⟩

set_option maxRecDepth 100000 in
set_option maxHeartbeats 4000000 in
theorem lw_setChannel (l : Launch) (hfl : l.stackTraces = false) (G : GG) (A : Nat → Prop) (T : State → Code → Array Value → Prop) (Z : List Frame → Array Value → State → State → Prop) (b N : Nat) (xs : Nat → Int32) (hT : ∀ s c args, T s c args → va_X b N xs s s.heap ∧ b < s.heap.size ∧ ¬ A b) (hN : N < 2 ^ 31) (x o : Nat) (W : ME) (ρ π : Int → Int) (sv rf hs : Int) (cn i : Int) (k n sz : Nat) (hcn : 0 ≤ cn ∧ cn ≤ 512) (hi : 0 ≤ i ∧ i + 5 ≤ N) (hk : k ≤ 600000) (hn : n ≤ 7000000) (hL : LW cn x o W ρ π sv rf hs)
    (next : ∀ (W' : ME) (ρ' π' : Int → Int) (sv' rf' hs' : Int) (k' n' sz' : Nat), LW (cn + 1) x o W' ρ' π' sv' rf' hs' → k' ≤ k + 1 → n' ≤ n + 6 → U l G A room_1 RL cL_law 8 ret T Z k' n' W' sz' 1524 [some (.ref b), some (.ref x), some (.ref (x + 1062)), some (.ref o), some (.int (iI i)), none, none, none] []) :
    U l G A room_1 RL cL_law 8 ret T Z k n W sz 212 [some (.ref b), some (.ref x), some (.ref (x + 1062)), some (.ref o), some (.int (iI i)), none, none, none] [] := by
  obtain ⟨hTL, hR, ⟨g, ho⟩, hI, hS, hv, hxo⟩ := id hL
  obtain ⟨a0, f0, x0, -⟩ := id hTL
  have hP := hS.P
  have hSI := hI.1.1
  have hXI := hI.1.2.1
  have h3 := hI.1.2.2.1
  have hPI := hI.1.2.2.2
  have hWr := hI.2.1
  have hRI := hI.2.2.1
  have hCI := hI.2.2.2
  have hQA := hSI.QA
  have hI1 : IV (cn + 1) ρ := hI.mono (by omega)
  have hS1 : SV (cn + 1) π sv := hS.mono (by omega)
  obtain ⟨a1, ea1⟩ : ∃ z, z = sx xs (i + 1) := ⟨_, rfl⟩
  have ha1 : -2147483648 ≤ a1 ∧ a1 < 2147483648 := by rw [ea1]; exact sx_r
  obtain ⟨a2, ea2⟩ : ∃ z, z = sx xs (i + 2) := ⟨_, rfl⟩
  have ha2 : -2147483648 ≤ a2 ∧ a2 < 2147483648 := by rw [ea2]; exact sx_r
  obtain ⟨a3, ea3⟩ : ∃ z, z = sx xs (i + 3) := ⟨_, rfl⟩
  have ha3 : -2147483648 ≤ a3 ∧ a3 < 2147483648 := by rw [ea3]; exact sx_r
  obtain ⟨a4, ea4⟩ : ∃ z, z = sx xs (i + 4) := ⟨_, rfl⟩
  have ha4 : -2147483648 ≤ a4 ∧ a4 < 2147483648 := by rw [ea4]; exact sx_r
  obtain ⟨e, he⟩ : ∃ e : Int, (¬ (0 ≤ a1 ∧ a1 ≤ 3) ∧ e = 1) ∨ ((0 ≤ a1 ∧ a1 ≤ 3) ∧ ¬ ((0 ≤ a2 ∧ a2 ≤ 9) ∧ (0 ≤ a3 ∧ a3 ≤ 50) ∧ (0 ≤ a4 ∧ a4 ≤ 50)) ∧ e = 2) ∨ ((0 ≤ a1 ∧ a1 ≤ 3) ∧ ((0 ≤ a2 ∧ a2 ≤ 9) ∧ (0 ≤ a3 ∧ a3 ≤ 50) ∧ (0 ≤ a4 ∧ a4 ≤ 50)) ∧ e = 0) := by
    by_cases hh0 : (0 ≤ a1 ∧ a1 ≤ 3) <;> by_cases hh1 : ((0 ≤ a2 ∧ a2 ≤ 9) ∧ (0 ≤ a3 ∧ a3 ≤ 50) ∧ (0 ≤ a4 ∧ a4 ≤ 50)) <;> first | exact ⟨0, by omega⟩ | exact ⟨1, by omega⟩ | exact ⟨2, by omega⟩ | exact ⟨3, by omega⟩
  refine U_aload_n dL_law_212 rfl ?_
  refine U_aload_n dL_law_213 rfl ?_
  refine U_iload dL_law_214 rfl ?_
  refine U_iconst (v := iI (1)) dL_law_216 rfl ?_
  refine J_iadd dL_law_217 ?_
  refine J_scr hT dL_law_218 ⟨by omega, by omega⟩ hN ?_
  rw [← ea1]
  refine U_aload_n dL_law_219 rfl ?_
  refine U_iload dL_law_220 rfl ?_
  refine U_iconst (v := iI (2)) dL_law_222 rfl ?_
  refine J_iadd dL_law_223 ?_
  refine J_scr hT dL_law_224 ⟨by omega, by omega⟩ hN ?_
  rw [← ea2]
  refine U_aload_n dL_law_225 rfl ?_
  refine U_iload dL_law_226 rfl ?_
  refine U_iconst (v := iI (3)) dL_law_228 rfl ?_
  refine J_iadd dL_law_229 ?_
  refine J_scr hT dL_law_230 ⟨by omega, by omega⟩ hN ?_
  rw [← ea3]
  refine U_aload_n dL_law_231 rfl ?_
  refine U_iload dL_law_232 rfl ?_
  refine U_iconst (v := iI (4)) dL_law_234 rfl ?_
  refine J_iadd dL_law_235 ?_
  refine J_scr hT dL_law_236 ⟨by omega, by omega⟩ hN ?_
  rw [← ea4]
  refine U_aload_n dL_law_237 rfl ?_
  refine U_callW (vs := [_, _, _, _, _, _]) (w_setChannel l W x o _ x0 g ho a1 a2 a3 a4 (ρ (25 + a1)) e (fun M' => TL M' x (up (up (up ρ (25 + a1) a2) (29 + a1) a3) (33 + a1) a4) (svP ρ π sv) (svS sv) ∧ FR W M' x 1062) (fun M' h => (h.2 _ (by omega)).trans ho) (p_setChannel l hfl W x ρ π sv hTL hv hWr hRI hP a1 ha1 a2 ha2 a3 ha3 a4 ha4 e he)) mL_91 wc_setChannel dL_law_238 rfl rfl ⟨(Nat.le_of_ble_eq_true rfl), (Nat.le_of_ble_eq_true rfl)⟩ (Nat.le_of_ble_eq_true rfl) ⟨(le_r (b := 601024) (by show k + 1 ≤ _; omega) rfl), (le_r (b := 7293034) (by show n + 6 ≤ _; omega) rfl)⟩ (fun v0 W1 sz1 hp => ?_)
  obtain ⟨rfl, hp⟩ := hp
  refine U_istore (L' := [some _, some _, some _, some _, some _, some _, none, none]) dL_law_241 (by decide) rfl ?_
  rcases hp with ⟨he0, M1, hM1, rfl⟩ | ⟨he0, rfl⟩
  · obtain ⟨hT1, hF1⟩ := hM1
    have hI2 := hI.chn (c := a1) (p := a2) (q := a3) (d := a4) (by omega) (by omega) (by omega) (by omega)
    have hS2 : SV (cn + 1) (svP ρ π sv) (svS sv) := SV.sav hv hI hS (by omega)
    have hv2 := svS_b hv
    have hT2 : TL (mu M1 o (aL 1 (up g 0 (c32 (ρ (25 + a1)))))) x (up (up (up ρ (25 + a1) a2) (29 + a1) a3) (33 + a1) a4) (svP ρ π sv) (svS sv) := hT1.mv hI2 hS2 hv2.2 (fun q u v => mu_ne (by omega))
    have hR2 : RD (mu M1 o (aL 1 (up g 0 (c32 (ρ (25 + a1)))))) (x + 1062) ρ π sv rf hs := hR.mv (fun q u v => (mu_ne (by omega)).trans (hF1 q (by omega)))
    refine U_eqM hR2.self ?_
    refine U_aload_n dL_law_243 rfl ?_
    refine U_aload_n dL_law_244 rfl ?_
    refine U_iload dL_law_245 rfl ?_
    refine U_iconst (v := iI (1)) dL_law_247 rfl ?_
    refine J_iadd dL_law_248 ?_
    refine J_scr hT dL_law_249 ⟨by omega, by omega⟩ hN ?_
    rw [← ea1]
    refine U_aload_n dL_law_250 rfl ?_
    refine U_iload dL_law_251 rfl ?_
    refine U_iconst (v := iI (2)) dL_law_253 rfl ?_
    refine J_iadd dL_law_254 ?_
    refine J_scr hT dL_law_255 ⟨by omega, by omega⟩ hN ?_
    rw [← ea2]
    refine U_aload_n dL_law_256 rfl ?_
    refine U_iload dL_law_257 rfl ?_
    refine U_iconst (v := iI (3)) dL_law_259 rfl ?_
    refine J_iadd dL_law_260 ?_
    refine J_scr hT dL_law_261 ⟨by omega, by omega⟩ hN ?_
    rw [← ea3]
    refine U_aload_n dL_law_262 rfl ?_
    refine U_iload dL_law_263 rfl ?_
    refine U_iconst (v := iI (4)) dL_law_265 rfl ?_
    refine J_iadd dL_law_266 ?_
    refine J_scr hT dL_law_267 ⟨by omega, by omega⟩ hN ?_
    rw [← ea4]
    refine U_cVP (vs := [_, _, _, _]) (r_setChannel l _ (x + 1062) ρ π sv rf hs hv a1 ha1 a2 ha2 a3 ha3 a4 ha4 e he) mL_94 coX11_setChannel dL_law_268 rM_0 rfl rfl rfl (by decide) (Nat.le_of_ble_eq_true rfl) (le_r (b := 601024) (by show k + 1 ≤ _; omega) rfl) (le_r (b := 7293034) (by show n + 6 ≤ _; omega) rfl) (fun v2 W2 sz2 hp2 => ?_)
    rcases hp2 with ⟨h0, -, -⟩ | ⟨-, rfl, rfl⟩
    · omega
    refine U_istore (L' := [some _, some _, some _, some _, some _, some _, some _, none]) dL_law_271 (by decide) rfl ?_
    refine U_aload_n dL_law_273 rfl ?_
    refine U_cV (vs := []) (r_thrown l _ (x + 1062) _ _ _ e hs) mL_88 coX11_thrown dL_law_274 rM_0 rfl rfl rfl (by decide) (Nat.le_of_ble_eq_true rfl) (le_r (b := 601024) (by show k + 1 ≤ _; omega) rfl) (le_r (b := 7293034) (by show n + 6 ≤ _; omega) rfl) (fun sz3 => ?_)
    refine U_iload dL_law_277 rfl ?_
    refine U_icmp_eq_t (tgt := 284) dL_law_279 (by decide) rfl ?_
    refine U_iload dL_law_284 rfl ?_
    refine J_if_ne (tgt := 301) dL_law_286 (by decide) ⟨by omega, by omega⟩ (fun h9 => absurd he0 h9) (fun _ => ?_)
    refine U_aload_n dL_law_289 rfl ?_
    refine U_iconst (v := iI (0)) dL_law_290 rfl ?_
    refine J_lald dL_law_291 ((rM_o (by omega) (by omega) (by omega)).trans mu_eq) ⟨by omega, by omega⟩ (by decide) ?_
    rw [up_s]
    refine U_iload dL_law_292 rfl ?_
    refine J_i2lc dL_law_294 ?_
    refine U_lcE (tgt := 301) rfl dL_law_295 dL_law_296 (by decide) ?_
    refine U_goto (tgt := 1524) dL_law_301 (by decide) ?_
    exact U_wk' (next _ _ _ _ _ _ _ _ _ (LW.of hT2 mu_eq hI2 hS2 hv2 hxo) (by show k + 1 ≤ _; omega) (by show n + 6 ≤ _; omega)) ⟨rfl, rfl, rfl, rfl, rfl, trivial⟩
  · refine U_eqM hR.self ?_
    refine U_aload_n dL_law_243 rfl ?_
    refine U_aload_n dL_law_244 rfl ?_
    refine U_iload dL_law_245 rfl ?_
    refine U_iconst (v := iI (1)) dL_law_247 rfl ?_
    refine J_iadd dL_law_248 ?_
    refine J_scr hT dL_law_249 ⟨by omega, by omega⟩ hN ?_
    rw [← ea1]
    refine U_aload_n dL_law_250 rfl ?_
    refine U_iload dL_law_251 rfl ?_
    refine U_iconst (v := iI (2)) dL_law_253 rfl ?_
    refine J_iadd dL_law_254 ?_
    refine J_scr hT dL_law_255 ⟨by omega, by omega⟩ hN ?_
    rw [← ea2]
    refine U_aload_n dL_law_256 rfl ?_
    refine U_iload dL_law_257 rfl ?_
    refine U_iconst (v := iI (3)) dL_law_259 rfl ?_
    refine J_iadd dL_law_260 ?_
    refine J_scr hT dL_law_261 ⟨by omega, by omega⟩ hN ?_
    rw [← ea3]
    refine U_aload_n dL_law_262 rfl ?_
    refine U_iload dL_law_263 rfl ?_
    refine U_iconst (v := iI (4)) dL_law_265 rfl ?_
    refine J_iadd dL_law_266 ?_
    refine J_scr hT dL_law_267 ⟨by omega, by omega⟩ hN ?_
    rw [← ea4]
    refine U_cVP (vs := [_, _, _, _]) (r_setChannel l _ (x + 1062) ρ π sv rf hs hv a1 ha1 a2 ha2 a3 ha3 a4 ha4 e he) mL_94 coX11_setChannel dL_law_268 rM_0 rfl rfl rfl (by decide) (Nat.le_of_ble_eq_true rfl) (le_r (b := 601024) (by show k + 1 ≤ _; omega) rfl) (le_r (b := 7293034) (by show n + 6 ≤ _; omega) rfl) (fun v2 W2 sz2 hp2 => ?_)
    obtain ⟨-, rfl, rfl⟩ := hp2.resolve_right (fun h => absurd h.1 (by omega))
    refine U_istore (L' := [some _, some _, some _, some _, some _, some _, some _, none]) dL_law_271 (by decide) rfl ?_
    refine U_aload_n dL_law_273 rfl ?_
    refine U_cV (vs := []) (r_thrown l _ (x + 1062) _ _ _ e hs) mL_88 coX11_thrown dL_law_274 rM_0 rfl rfl rfl (by decide) (Nat.le_of_ble_eq_true rfl) (le_r (b := 601024) (by show k + 1 ≤ _; omega) rfl) (le_r (b := 7293034) (by show n + 6 ≤ _; omega) rfl) (fun sz3 => ?_)
    refine U_iload dL_law_277 rfl ?_
    refine U_icmp_eq_t (tgt := 284) dL_law_279 (by decide) rfl ?_
    refine U_iload dL_law_284 rfl ?_
    refine J_if_ne (tgt := 301) dL_law_286 (by decide) ⟨by omega, by omega⟩ (fun _ => ?_) (fun h9 => absurd h9 (by omega))
    refine U_goto (tgt := 1524) dL_law_301 (by decide) ?_
    exact U_wk' (next _ _ _ _ _ _ _ _ _ (LW.of hTL ho hI1 hS1 hv hxo) (by show k + 1 ≤ _; omega) (by show n + 6 ≤ _; omega)) ⟨rfl, rfl, rfl, rfl, rfl, trivial⟩

set_option maxRecDepth 100000 in
set_option maxHeartbeats 4000000 in
theorem lw_setClock (l : Launch) (hfl : l.stackTraces = false) (G : GG) (A : Nat → Prop) (T : State → Code → Array Value → Prop) (Z : List Frame → Array Value → State → State → Prop) (b N : Nat) (xs : Nat → Int32) (hT : ∀ s c args, T s c args → va_X b N xs s s.heap ∧ b < s.heap.size ∧ ¬ A b) (hN : N < 2 ^ 31) (x o : Nat) (W : ME) (ρ π : Int → Int) (sv rf hs : Int) (cn i : Int) (k n sz : Nat) (hcn : 0 ≤ cn ∧ cn ≤ 512) (hi : 0 ≤ i ∧ i + 5 ≤ N) (hk : k ≤ 600000) (hn : n ≤ 7000000) (hL : LW cn x o W ρ π sv rf hs)
    (next : ∀ (W' : ME) (ρ' π' : Int → Int) (sv' rf' hs' : Int) (k' n' sz' : Nat), LW (cn + 1) x o W' ρ' π' sv' rf' hs' → k' ≤ k + 1 → n' ≤ n + 6 → U l G A room_1 RL cL_law 8 ret T Z k' n' W' sz' 1524 [some (.ref b), some (.ref x), some (.ref (x + 1062)), some (.ref o), some (.int (iI i)), none, none, none] []) :
    U l G A room_1 RL cL_law 8 ret T Z k n W sz 304 [some (.ref b), some (.ref x), some (.ref (x + 1062)), some (.ref o), some (.int (iI i)), none, none, none] [] := by
  obtain ⟨hTL, hR, ⟨g, ho⟩, hI, hS, hv, hxo⟩ := id hL
  obtain ⟨a0, f0, x0, -⟩ := id hTL
  have hP := hS.P
  have hSI := hI.1.1
  have hXI := hI.1.2.1
  have h3 := hI.1.2.2.1
  have hPI := hI.1.2.2.2
  have hWr := hI.2.1
  have hRI := hI.2.2.1
  have hCI := hI.2.2.2
  have hQA := hSI.QA
  have hI1 : IV (cn + 1) ρ := hI.mono (by omega)
  have hS1 : SV (cn + 1) π sv := hS.mono (by omega)
  obtain ⟨a1, ea1⟩ : ∃ z, z = sx xs (i + 1) := ⟨_, rfl⟩
  have ha1 : -2147483648 ≤ a1 ∧ a1 < 2147483648 := by rw [ea1]; exact sx_r
  obtain ⟨a2, ea2⟩ : ∃ z, z = sx xs (i + 2) := ⟨_, rfl⟩
  have ha2 : -2147483648 ≤ a2 ∧ a2 < 2147483648 := by rw [ea2]; exact sx_r
  obtain ⟨e, he⟩ : ∃ e : Int, (¬ ((-1000 ≤ a1 ∧ a1 ≤ 1000) ∧ (0 ≤ a2 ∧ a2 ≤ 100000)) ∧ e = 1) ∨ (((-1000 ≤ a1 ∧ a1 ≤ 1000) ∧ (0 ≤ a2 ∧ a2 ≤ 100000)) ∧ e = 0) := by
    by_cases hh0 : ((-1000 ≤ a1 ∧ a1 ≤ 1000) ∧ (0 ≤ a2 ∧ a2 ≤ 100000)) <;> first | exact ⟨0, by omega⟩ | exact ⟨1, by omega⟩ | exact ⟨2, by omega⟩ | exact ⟨3, by omega⟩
  refine U_aload_n dL_law_304 rfl ?_
  refine U_aload_n dL_law_305 rfl ?_
  refine U_iload dL_law_306 rfl ?_
  refine U_iconst (v := iI (1)) dL_law_308 rfl ?_
  refine J_iadd dL_law_309 ?_
  refine J_scr hT dL_law_310 ⟨by omega, by omega⟩ hN ?_
  rw [← ea1]
  refine U_aload_n dL_law_311 rfl ?_
  refine U_iload dL_law_312 rfl ?_
  refine U_iconst (v := iI (2)) dL_law_314 rfl ?_
  refine J_iadd dL_law_315 ?_
  refine J_scr hT dL_law_316 ⟨by omega, by omega⟩ hN ?_
  rw [← ea2]
  refine U_aload_n dL_law_317 rfl ?_
  refine U_callW (vs := [_, _, _, _]) (w_setClock l W x o _ x0 g ho a1 a2 (ρ 1) e (fun M' => TL M' x (up (up ρ 1 a1) 2 a2) (svP ρ π sv) (svS sv) ∧ FR W M' x 1062) (fun M' h => (h.2 _ (by omega)).trans ho) (p_setClock l hfl W x ρ π sv hTL hv hWr hRI hP a1 ha1 a2 ha2 e he)) mL_95 wc_setClock dL_law_318 rfl rfl ⟨(Nat.le_of_ble_eq_true rfl), (Nat.le_of_ble_eq_true rfl)⟩ (Nat.le_of_ble_eq_true rfl) ⟨(le_r (b := 601024) (by show k + 1 ≤ _; omega) rfl), (le_r (b := 7293034) (by show n + 6 ≤ _; omega) rfl)⟩ (fun v0 W1 sz1 hp => ?_)
  obtain ⟨rfl, hp⟩ := hp
  refine U_istore (L' := [some _, some _, some _, some _, some _, some _, none, none]) dL_law_321 (by decide) rfl ?_
  rcases hp with ⟨he0, M1, hM1, rfl⟩ | ⟨he0, rfl⟩
  · obtain ⟨hT1, hF1⟩ := hM1
    have hI2 := hI.clk (p := a1) (q := a2) (by omega) (by omega)
    have hS2 : SV (cn + 1) (svP ρ π sv) (svS sv) := SV.sav hv hI hS (by omega)
    have hv2 := svS_b hv
    have hT2 : TL (mu M1 o (aL 1 (up g 0 (c32 (ρ 1))))) x (up (up ρ 1 a1) 2 a2) (svP ρ π sv) (svS sv) := hT1.mv hI2 hS2 hv2.2 (fun q u v => mu_ne (by omega))
    have hR2 : RD (mu M1 o (aL 1 (up g 0 (c32 (ρ 1))))) (x + 1062) ρ π sv rf hs := hR.mv (fun q u v => (mu_ne (by omega)).trans (hF1 q (by omega)))
    refine U_eqM hR2.self ?_
    refine U_aload_n dL_law_323 rfl ?_
    refine U_aload_n dL_law_324 rfl ?_
    refine U_iload dL_law_325 rfl ?_
    refine U_iconst (v := iI (1)) dL_law_327 rfl ?_
    refine J_iadd dL_law_328 ?_
    refine J_scr hT dL_law_329 ⟨by omega, by omega⟩ hN ?_
    rw [← ea1]
    refine U_aload_n dL_law_330 rfl ?_
    refine U_iload dL_law_331 rfl ?_
    refine U_iconst (v := iI (2)) dL_law_333 rfl ?_
    refine J_iadd dL_law_334 ?_
    refine J_scr hT dL_law_335 ⟨by omega, by omega⟩ hN ?_
    rw [← ea2]
    refine U_cVP (vs := [_, _]) (r_setClock l _ (x + 1062) ρ π sv rf hs hv a1 ha1 a2 ha2 e he) mL_98 coX11_setClock dL_law_336 rM_0 rfl rfl rfl (by decide) (Nat.le_of_ble_eq_true rfl) (le_r (b := 601024) (by show k + 1 ≤ _; omega) rfl) (le_r (b := 7293034) (by show n + 6 ≤ _; omega) rfl) (fun v2 W2 sz2 hp2 => ?_)
    rcases hp2 with ⟨h0, -, -⟩ | ⟨-, rfl, rfl⟩
    · omega
    refine U_istore (L' := [some _, some _, some _, some _, some _, some _, some _, none]) dL_law_339 (by decide) rfl ?_
    refine U_aload_n dL_law_341 rfl ?_
    refine U_cV (vs := []) (r_thrown l _ (x + 1062) _ _ _ e hs) mL_88 coX11_thrown dL_law_342 rM_0 rfl rfl rfl (by decide) (Nat.le_of_ble_eq_true rfl) (le_r (b := 601024) (by show k + 1 ≤ _; omega) rfl) (le_r (b := 7293034) (by show n + 6 ≤ _; omega) rfl) (fun sz3 => ?_)
    refine U_iload dL_law_345 rfl ?_
    refine U_icmp_eq_t (tgt := 352) dL_law_347 (by decide) rfl ?_
    refine U_iload dL_law_352 rfl ?_
    refine J_if_ne (tgt := 369) dL_law_354 (by decide) ⟨by omega, by omega⟩ (fun h9 => absurd he0 h9) (fun _ => ?_)
    refine U_aload_n dL_law_357 rfl ?_
    refine U_iconst (v := iI (0)) dL_law_358 rfl ?_
    refine J_lald dL_law_359 ((rM_o (by omega) (by omega) (by omega)).trans mu_eq) ⟨by omega, by omega⟩ (by decide) ?_
    rw [up_s]
    refine U_iload dL_law_360 rfl ?_
    refine J_i2lc dL_law_362 ?_
    refine U_lcE (tgt := 369) rfl dL_law_363 dL_law_364 (by decide) ?_
    refine U_goto (tgt := 1524) dL_law_369 (by decide) ?_
    exact U_wk' (next _ _ _ _ _ _ _ _ _ (LW.of hT2 mu_eq hI2 hS2 hv2 hxo) (by show k + 1 ≤ _; omega) (by show n + 6 ≤ _; omega)) ⟨rfl, rfl, rfl, rfl, rfl, trivial⟩
  · refine U_eqM hR.self ?_
    refine U_aload_n dL_law_323 rfl ?_
    refine U_aload_n dL_law_324 rfl ?_
    refine U_iload dL_law_325 rfl ?_
    refine U_iconst (v := iI (1)) dL_law_327 rfl ?_
    refine J_iadd dL_law_328 ?_
    refine J_scr hT dL_law_329 ⟨by omega, by omega⟩ hN ?_
    rw [← ea1]
    refine U_aload_n dL_law_330 rfl ?_
    refine U_iload dL_law_331 rfl ?_
    refine U_iconst (v := iI (2)) dL_law_333 rfl ?_
    refine J_iadd dL_law_334 ?_
    refine J_scr hT dL_law_335 ⟨by omega, by omega⟩ hN ?_
    rw [← ea2]
    refine U_cVP (vs := [_, _]) (r_setClock l _ (x + 1062) ρ π sv rf hs hv a1 ha1 a2 ha2 e he) mL_98 coX11_setClock dL_law_336 rM_0 rfl rfl rfl (by decide) (Nat.le_of_ble_eq_true rfl) (le_r (b := 601024) (by show k + 1 ≤ _; omega) rfl) (le_r (b := 7293034) (by show n + 6 ≤ _; omega) rfl) (fun v2 W2 sz2 hp2 => ?_)
    obtain ⟨-, rfl, rfl⟩ := hp2.resolve_right (fun h => absurd h.1 (by omega))
    refine U_istore (L' := [some _, some _, some _, some _, some _, some _, some _, none]) dL_law_339 (by decide) rfl ?_
    refine U_aload_n dL_law_341 rfl ?_
    refine U_cV (vs := []) (r_thrown l _ (x + 1062) _ _ _ e hs) mL_88 coX11_thrown dL_law_342 rM_0 rfl rfl rfl (by decide) (Nat.le_of_ble_eq_true rfl) (le_r (b := 601024) (by show k + 1 ≤ _; omega) rfl) (le_r (b := 7293034) (by show n + 6 ≤ _; omega) rfl) (fun sz3 => ?_)
    refine U_iload dL_law_345 rfl ?_
    refine U_icmp_eq_t (tgt := 352) dL_law_347 (by decide) rfl ?_
    refine U_iload dL_law_352 rfl ?_
    refine J_if_ne (tgt := 369) dL_law_354 (by decide) ⟨by omega, by omega⟩ (fun _ => ?_) (fun h9 => absurd h9 (by omega))
    refine U_goto (tgt := 1524) dL_law_369 (by decide) ?_
    exact U_wk' (next _ _ _ _ _ _ _ _ _ (LW.of hTL ho hI1 hS1 hv hxo) (by show k + 1 ≤ _; omega) (by show n + 6 ≤ _; omega)) ⟨rfl, rfl, rfl, rfl, rfl, trivial⟩

set_option maxRecDepth 100000 in
set_option maxHeartbeats 4000000 in
theorem lw_addPacket (l : Launch) (hfl : l.stackTraces = false) (G : GG) (A : Nat → Prop) (T : State → Code → Array Value → Prop) (Z : List Frame → Array Value → State → State → Prop) (b N : Nat) (xs : Nat → Int32) (hT : ∀ s c args, T s c args → va_X b N xs s s.heap ∧ b < s.heap.size ∧ ¬ A b) (hN : N < 2 ^ 31) (x o : Nat) (W : ME) (ρ π : Int → Int) (sv rf hs : Int) (cn i : Int) (k n sz : Nat) (hcn : 0 ≤ cn ∧ cn ≤ 512) (hi : 0 ≤ i ∧ i + 5 ≤ N) (hk : k ≤ 600000) (hn : n ≤ 7000000) (hL : LW cn x o W ρ π sv rf hs)
    (next : ∀ (W' : ME) (ρ' π' : Int → Int) (sv' rf' hs' : Int) (k' n' sz' : Nat), LW (cn + 1) x o W' ρ' π' sv' rf' hs' → k' ≤ k + 1 → n' ≤ n + 6 → U l G A room_1 RL cL_law 8 ret T Z k' n' W' sz' 1524 [some (.ref b), some (.ref x), some (.ref (x + 1062)), some (.ref o), some (.int (iI i)), none, none, none] []) :
    U l G A room_1 RL cL_law 8 ret T Z k n W sz 372 [some (.ref b), some (.ref x), some (.ref (x + 1062)), some (.ref o), some (.int (iI i)), none, none, none] [] := by
  obtain ⟨hTL, hR, ⟨g, ho⟩, hI, hS, hv, hxo⟩ := id hL
  obtain ⟨a0, f0, x0, -⟩ := id hTL
  have hP := hS.P
  have hSI := hI.1.1
  have hXI := hI.1.2.1
  have h3 := hI.1.2.2.1
  have hPI := hI.1.2.2.2
  have hWr := hI.2.1
  have hRI := hI.2.2.1
  have hCI := hI.2.2.2
  have hQA := hSI.QA
  have hI1 : IV (cn + 1) ρ := hI.mono (by omega)
  have hS1 : SV (cn + 1) π sv := hS.mono (by omega)
  obtain ⟨a1, ea1⟩ : ∃ z, z = sx xs (i + 1) := ⟨_, rfl⟩
  have ha1 : -2147483648 ≤ a1 ∧ a1 < 2147483648 := by rw [ea1]; exact sx_r
  obtain ⟨a2, ea2⟩ : ∃ z, z = sx xs (i + 2) := ⟨_, rfl⟩
  have ha2 : -2147483648 ≤ a2 ∧ a2 < 2147483648 := by rw [ea2]; exact sx_r
  obtain ⟨a3, ea3⟩ : ∃ z, z = sx xs (i + 3) := ⟨_, rfl⟩
  have ha3 : -2147483648 ≤ a3 ∧ a3 < 2147483648 := by rw [ea3]; exact sx_r
  obtain ⟨a4, ea4⟩ : ∃ z, z = sx xs (i + 4) := ⟨_, rfl⟩
  have ha4 : -2147483648 ≤ a4 ∧ a4 < 2147483648 := by rw [ea4]; exact sx_r
  obtain ⟨pi, hpi⟩ : ∃ pi, 0 ≤ a1 → a1 ≤ 3 → pi = pin ρ a1 := ⟨pin ρ a1, fun _ _ => rfl⟩
  have hpi2 : 0 ≤ a1 → a1 ≤ 3 → pin ρ a1 ≤ 12 ∧ ρ (54 + a1) ≤ pin ρ a1 + 1 := fun u v => by
    have := (hPI a1 u v).pin (hSI.2.1 a1 u v).1.1; omega
  obtain ⟨e, he⟩ : ∃ e : Int, (¬ (0 ≤ a1 ∧ a1 ≤ 3) ∧ e = 1) ∨ ((0 ≤ a1 ∧ a1 ≤ 3) ∧ ¬ ((0 ≤ a2 ∧ a2 ≤ 14) ∧ (1 ≤ a3 ∧ a3 ≤ 50) ∧ (0 ≤ a4 ∧ a4 ≤ 255)) ∧ e = 2) ∨ ((0 ≤ a1 ∧ a1 ≤ 3) ∧ ((0 ≤ a2 ∧ a2 ≤ 14) ∧ (1 ≤ a3 ∧ a3 ≤ 50) ∧ (0 ≤ a4 ∧ a4 ≤ 255)) ∧ pi = 12 ∧ e = 3) ∨ ((0 ≤ a1 ∧ a1 ≤ 3) ∧ ((0 ≤ a2 ∧ a2 ≤ 14) ∧ (1 ≤ a3 ∧ a3 ≤ 50) ∧ (0 ≤ a4 ∧ a4 ≤ 255)) ∧ ¬ pi = 12 ∧ e = 0) := by
    by_cases hh0 : (0 ≤ a1 ∧ a1 ≤ 3) <;> by_cases hh1 : ((0 ≤ a2 ∧ a2 ≤ 14) ∧ (1 ≤ a3 ∧ a3 ≤ 50) ∧ (0 ≤ a4 ∧ a4 ≤ 255)) <;> by_cases hh2 : pi = 12 <;> first | exact ⟨0, by omega⟩ | exact ⟨1, by omega⟩ | exact ⟨2, by omega⟩ | exact ⟨3, by omega⟩
  refine U_aload_n dL_law_372 rfl ?_
  refine U_aload_n dL_law_373 rfl ?_
  refine U_iload dL_law_374 rfl ?_
  refine U_iconst (v := iI (1)) dL_law_376 rfl ?_
  refine J_iadd dL_law_377 ?_
  refine J_scr hT dL_law_378 ⟨by omega, by omega⟩ hN ?_
  rw [← ea1]
  refine U_aload_n dL_law_379 rfl ?_
  refine U_iload dL_law_380 rfl ?_
  refine U_iconst (v := iI (2)) dL_law_382 rfl ?_
  refine J_iadd dL_law_383 ?_
  refine J_scr hT dL_law_384 ⟨by omega, by omega⟩ hN ?_
  rw [← ea2]
  refine U_aload_n dL_law_385 rfl ?_
  refine U_iload dL_law_386 rfl ?_
  refine U_iconst (v := iI (3)) dL_law_388 rfl ?_
  refine J_iadd dL_law_389 ?_
  refine J_scr hT dL_law_390 ⟨by omega, by omega⟩ hN ?_
  rw [← ea3]
  refine U_aload_n dL_law_391 rfl ?_
  refine U_iload dL_law_392 rfl ?_
  refine U_iconst (v := iI (4)) dL_law_394 rfl ?_
  refine J_iadd dL_law_395 ?_
  refine J_scr hT dL_law_396 ⟨by omega, by omega⟩ hN ?_
  rw [← ea4]
  refine U_aload_n dL_law_397 rfl ?_
  refine U_callW (vs := [_, _, _, _, _, _]) (w_addPacket l W x o _ x0 g ho a1 a2 a3 a4 (ρ (10 + a2)) e (fun M' => TL M' x (rputs (up ρ (10 + a2) ((ρ (10 + a2) + 1) % 256)) a1 a2 (ρ (10 + a2)) a3 a4) (svP ρ π sv) (svS sv) ∧ FR W M' x 1062) (fun M' h => (h.2 _ (by omega)).trans ho) (p_addPacket l hfl W x ρ π sv hTL hv hWr hRI hP hSI hXI.2.2 a1 ha1 a2 ha2 a3 ha3 a4 ha4 hpi2 pi hpi e he)) mL_99 wc_addPacket dL_law_398 rfl rfl ⟨(Nat.le_of_ble_eq_true rfl), (Nat.le_of_ble_eq_true rfl)⟩ (Nat.le_of_ble_eq_true rfl) ⟨(le_r (b := 601024) (by show k + 1 ≤ _; omega) rfl), (le_r (b := 7293034) (by show n + 6 ≤ _; omega) rfl)⟩ (fun v0 W1 sz1 hp => ?_)
  obtain ⟨rfl, hp⟩ := hp
  refine U_istore (L' := [some _, some _, some _, some _, some _, some _, none, none]) dL_law_401 (by decide) rfl ?_
  rcases hp with ⟨he0, M1, hM1, rfl⟩ | ⟨he0, rfl⟩
  · obtain ⟨hT1, hF1⟩ := hM1
    have hI2 := hI.add (c := a1) (p := a2) (k := a3) (s := a4) (by omega) (by omega) (by omega) (by omega) (by rw [← hpi (by omega) (by omega)]; omega)
    have hS2 : SV (cn + 1) (svP ρ π sv) (svS sv) := SV.sav hv hI hS (by omega)
    have hv2 := svS_b hv
    have hT2 : TL (mu M1 o (aL 1 (up g 0 (c32 (ρ (10 + a2)))))) x (rputs (up ρ (10 + a2) ((ρ (10 + a2) + 1) % 256)) a1 a2 (ρ (10 + a2)) a3 a4) (svP ρ π sv) (svS sv) := hT1.mv hI2 hS2 hv2.2 (fun q u v => mu_ne (by omega))
    have hR2 : RD (mu M1 o (aL 1 (up g 0 (c32 (ρ (10 + a2)))))) (x + 1062) ρ π sv rf hs := hR.mv (fun q u v => (mu_ne (by omega)).trans (hF1 q (by omega)))
    refine U_eqM hR2.self ?_
    refine U_aload_n dL_law_403 rfl ?_
    refine U_aload_n dL_law_404 rfl ?_
    refine U_iload dL_law_405 rfl ?_
    refine U_iconst (v := iI (1)) dL_law_407 rfl ?_
    refine J_iadd dL_law_408 ?_
    refine J_scr hT dL_law_409 ⟨by omega, by omega⟩ hN ?_
    rw [← ea1]
    refine U_aload_n dL_law_410 rfl ?_
    refine U_iload dL_law_411 rfl ?_
    refine U_iconst (v := iI (2)) dL_law_413 rfl ?_
    refine J_iadd dL_law_414 ?_
    refine J_scr hT dL_law_415 ⟨by omega, by omega⟩ hN ?_
    rw [← ea2]
    refine U_aload_n dL_law_416 rfl ?_
    refine U_iload dL_law_417 rfl ?_
    refine U_iconst (v := iI (3)) dL_law_419 rfl ?_
    refine J_iadd dL_law_420 ?_
    refine J_scr hT dL_law_421 ⟨by omega, by omega⟩ hN ?_
    rw [← ea3]
    refine U_aload_n dL_law_422 rfl ?_
    refine U_iload dL_law_423 rfl ?_
    refine U_iconst (v := iI (4)) dL_law_425 rfl ?_
    refine J_iadd dL_law_426 ?_
    refine J_scr hT dL_law_427 ⟨by omega, by omega⟩ hN ?_
    rw [← ea4]
    refine U_cVP (vs := [_, _, _, _]) (r_addPacket l _ (x + 1062) ρ π sv rf hs hv a1 ha1 a2 ha2 a3 ha3 a4 ha4 hQA hXI.2.2 pi hpi e he) mL_101 coX11_addPacket dL_law_428 rM_0 rfl rfl rfl (by decide) (Nat.le_of_ble_eq_true rfl) (le_r (b := 601024) (by show k + 1 ≤ _; omega) rfl) (le_r (b := 7293034) (by show n + 6 ≤ _; omega) rfl) (fun v2 W2 sz2 hp2 => ?_)
    rcases hp2 with ⟨h0, -, -⟩ | ⟨-, rfl, rfl⟩
    · omega
    refine U_istore (L' := [some _, some _, some _, some _, some _, some _, some _, none]) dL_law_431 (by decide) rfl ?_
    refine U_aload_n dL_law_433 rfl ?_
    refine U_cV (vs := []) (r_thrown l _ (x + 1062) _ _ _ e hs) mL_88 coX11_thrown dL_law_434 rM_0 rfl rfl rfl (by decide) (Nat.le_of_ble_eq_true rfl) (le_r (b := 601024) (by show k + 1 ≤ _; omega) rfl) (le_r (b := 7293034) (by show n + 6 ≤ _; omega) rfl) (fun sz3 => ?_)
    refine U_iload dL_law_437 rfl ?_
    refine U_icmp_eq_t (tgt := 444) dL_law_439 (by decide) rfl ?_
    refine U_iload dL_law_444 rfl ?_
    refine J_if_ne (tgt := 461) dL_law_446 (by decide) ⟨by omega, by omega⟩ (fun h9 => absurd he0 h9) (fun _ => ?_)
    refine U_aload_n dL_law_449 rfl ?_
    refine U_iconst (v := iI (0)) dL_law_450 rfl ?_
    refine J_lald dL_law_451 ((rM_o (by omega) (by omega) (by omega)).trans mu_eq) ⟨by omega, by omega⟩ (by decide) ?_
    rw [up_s]
    refine U_iload dL_law_452 rfl ?_
    refine J_i2lc dL_law_454 ?_
    refine U_lcE (tgt := 461) rfl dL_law_455 dL_law_456 (by decide) ?_
    refine U_goto (tgt := 1524) dL_law_461 (by decide) ?_
    exact U_wk' (next _ _ _ _ _ _ _ _ _ (LW.of hT2 mu_eq hI2 hS2 hv2 hxo) (by show k + 1 ≤ _; omega) (by show n + 6 ≤ _; omega)) ⟨rfl, rfl, rfl, rfl, rfl, trivial⟩
  · refine U_eqM hR.self ?_
    refine U_aload_n dL_law_403 rfl ?_
    refine U_aload_n dL_law_404 rfl ?_
    refine U_iload dL_law_405 rfl ?_
    refine U_iconst (v := iI (1)) dL_law_407 rfl ?_
    refine J_iadd dL_law_408 ?_
    refine J_scr hT dL_law_409 ⟨by omega, by omega⟩ hN ?_
    rw [← ea1]
    refine U_aload_n dL_law_410 rfl ?_
    refine U_iload dL_law_411 rfl ?_
    refine U_iconst (v := iI (2)) dL_law_413 rfl ?_
    refine J_iadd dL_law_414 ?_
    refine J_scr hT dL_law_415 ⟨by omega, by omega⟩ hN ?_
    rw [← ea2]
    refine U_aload_n dL_law_416 rfl ?_
    refine U_iload dL_law_417 rfl ?_
    refine U_iconst (v := iI (3)) dL_law_419 rfl ?_
    refine J_iadd dL_law_420 ?_
    refine J_scr hT dL_law_421 ⟨by omega, by omega⟩ hN ?_
    rw [← ea3]
    refine U_aload_n dL_law_422 rfl ?_
    refine U_iload dL_law_423 rfl ?_
    refine U_iconst (v := iI (4)) dL_law_425 rfl ?_
    refine J_iadd dL_law_426 ?_
    refine J_scr hT dL_law_427 ⟨by omega, by omega⟩ hN ?_
    rw [← ea4]
    refine U_cVP (vs := [_, _, _, _]) (r_addPacket l _ (x + 1062) ρ π sv rf hs hv a1 ha1 a2 ha2 a3 ha3 a4 ha4 hQA hXI.2.2 pi hpi e he) mL_101 coX11_addPacket dL_law_428 rM_0 rfl rfl rfl (by decide) (Nat.le_of_ble_eq_true rfl) (le_r (b := 601024) (by show k + 1 ≤ _; omega) rfl) (le_r (b := 7293034) (by show n + 6 ≤ _; omega) rfl) (fun v2 W2 sz2 hp2 => ?_)
    obtain ⟨-, rfl, rfl⟩ := hp2.resolve_right (fun h => absurd h.1 (by omega))
    refine U_istore (L' := [some _, some _, some _, some _, some _, some _, some _, none]) dL_law_431 (by decide) rfl ?_
    refine U_aload_n dL_law_433 rfl ?_
    refine U_cV (vs := []) (r_thrown l _ (x + 1062) _ _ _ e hs) mL_88 coX11_thrown dL_law_434 rM_0 rfl rfl rfl (by decide) (Nat.le_of_ble_eq_true rfl) (le_r (b := 601024) (by show k + 1 ≤ _; omega) rfl) (le_r (b := 7293034) (by show n + 6 ≤ _; omega) rfl) (fun sz3 => ?_)
    refine U_iload dL_law_437 rfl ?_
    refine U_icmp_eq_t (tgt := 444) dL_law_439 (by decide) rfl ?_
    refine U_iload dL_law_444 rfl ?_
    refine J_if_ne (tgt := 461) dL_law_446 (by decide) ⟨by omega, by omega⟩ (fun _ => ?_) (fun h9 => absurd h9 (by omega))
    refine U_goto (tgt := 1524) dL_law_461 (by decide) ?_
    exact U_wk' (next _ _ _ _ _ _ _ _ _ (LW.of hTL ho hI1 hS1 hv hxo) (by show k + 1 ≤ _; omega) (by show n + 6 ≤ _; omega)) ⟨rfl, rfl, rfl, rfl, rfl, trivial⟩

set_option maxRecDepth 100000 in
set_option maxHeartbeats 4000000 in
theorem lw_queue (l : Launch) (hfl : l.stackTraces = false) (G : GG) (A : Nat → Prop) (T : State → Code → Array Value → Prop) (Z : List Frame → Array Value → State → State → Prop) (b N : Nat) (xs : Nat → Int32) (hT : ∀ s c args, T s c args → va_X b N xs s s.heap ∧ b < s.heap.size ∧ ¬ A b) (hN : N < 2 ^ 31) (x o : Nat) (W : ME) (ρ π : Int → Int) (sv rf hs : Int) (cn i : Int) (k n sz : Nat) (hcn : 0 ≤ cn ∧ cn ≤ 512) (hi : 0 ≤ i ∧ i + 5 ≤ N) (hk : k ≤ 600000) (hn : n ≤ 7000000) (hL : LW cn x o W ρ π sv rf hs)
    (next : ∀ (W' : ME) (ρ' π' : Int → Int) (sv' rf' hs' : Int) (k' n' sz' : Nat), LW (cn + 1) x o W' ρ' π' sv' rf' hs' → k' ≤ k + 1 → n' ≤ n + 6 → U l G A room_1 RL cL_law 8 ret T Z k' n' W' sz' 1524 [some (.ref b), some (.ref x), some (.ref (x + 1062)), some (.ref o), some (.int (iI i)), none, none, none] []) :
    U l G A room_1 RL cL_law 8 ret T Z k n W sz 464 [some (.ref b), some (.ref x), some (.ref (x + 1062)), some (.ref o), some (.int (iI i)), none, none, none] [] := by
  obtain ⟨hTL, hR, ⟨g, ho⟩, hI, hS, hv, hxo⟩ := id hL
  obtain ⟨a0, f0, x0, -⟩ := id hTL
  have hP := hS.P
  have hSI := hI.1.1
  have hXI := hI.1.2.1
  have h3 := hI.1.2.2.1
  have hPI := hI.1.2.2.2
  have hWr := hI.2.1
  have hRI := hI.2.2.1
  have hCI := hI.2.2.2
  have hQA := hSI.QA
  have hI1 : IV (cn + 1) ρ := hI.mono (by omega)
  have hS1 : SV (cn + 1) π sv := hS.mono (by omega)
  obtain ⟨a1, ea1⟩ : ∃ z, z = sx xs (i + 1) := ⟨_, rfl⟩
  have ha1 : -2147483648 ≤ a1 ∧ a1 < 2147483648 := by rw [ea1]; exact sx_r
  obtain ⟨a2, ea2⟩ : ∃ z, z = sx xs (i + 2) := ⟨_, rfl⟩
  have ha2 : -2147483648 ≤ a2 ∧ a2 < 2147483648 := by rw [ea2]; exact sx_r
  obtain ⟨e, he⟩ : ∃ e : Int, (¬ (0 ≤ a1 ∧ a1 ≤ 3) ∧ e = 1) ∨ ((0 ≤ a1 ∧ a1 ≤ 3) ∧ ¬ (0 ≤ a2 ∧ a2 ≤ 2) ∧ e = 2) ∨ ((0 ≤ a1 ∧ a1 ≤ 3) ∧ (0 ≤ a2 ∧ a2 ≤ 2) ∧ e = 0) := by
    by_cases hh0 : (0 ≤ a1 ∧ a1 ≤ 3) <;> by_cases hh1 : (0 ≤ a2 ∧ a2 ≤ 2) <;> first | exact ⟨0, by omega⟩ | exact ⟨1, by omega⟩ | exact ⟨2, by omega⟩ | exact ⟨3, by omega⟩
  refine U_aload_n dL_law_464 rfl ?_
  refine U_aload_n dL_law_465 rfl ?_
  refine U_iload dL_law_466 rfl ?_
  refine U_iconst (v := iI (1)) dL_law_468 rfl ?_
  refine J_iadd dL_law_469 ?_
  refine J_scr hT dL_law_470 ⟨by omega, by omega⟩ hN ?_
  rw [← ea1]
  refine U_aload_n dL_law_471 rfl ?_
  refine U_iload dL_law_472 rfl ?_
  refine U_iconst (v := iI (2)) dL_law_474 rfl ?_
  refine J_iadd dL_law_475 ?_
  refine J_scr hT dL_law_476 ⟨by omega, by omega⟩ hN ?_
  rw [← ea2]
  refine U_aload_n dL_law_477 rfl ?_
  refine U_callW (vs := [_, _, _, _]) (w_queue l W x o _ x0 g ho a1 a2 (rq ρ a1 a2) e (fun M' => M' = W) (fun M' h => by rw [h]; exact ho) (p_queue l hfl W x ρ π sv hTL hQA a1 ha1 a2 ha2 e he)) mL_102 wc_queue dL_law_478 rfl rfl ⟨(Nat.le_of_ble_eq_true rfl), (Nat.le_of_ble_eq_true rfl)⟩ (Nat.le_of_ble_eq_true rfl) ⟨(le_r (b := 601024) (by show k + 1 ≤ _; omega) rfl), (le_r (b := 7293034) (by show n + 6 ≤ _; omega) rfl)⟩ (fun v0 W1 sz1 hp => ?_)
  obtain ⟨rfl, hp⟩ := hp
  refine U_istore (L' := [some _, some _, some _, some _, some _, some _, none, none]) dL_law_481 (by decide) rfl ?_
  rcases hp with ⟨he0, M1, hM1, rfl⟩ | ⟨he0, rfl⟩
  · subst hM1
    have hI2 := hI1
    have hS2 := hS1
    have hv2 := hv
    have hT2 : TL (mu M1 o (aL 1 (up g 0 (c32 (rq ρ a1 a2))))) x ρ π sv := hTL.mv hI hS hv.2 (fun q u v => mu_ne (by omega))
    have hR2 : RD (mu M1 o (aL 1 (up g 0 (c32 (rq ρ a1 a2))))) (x + 1062) ρ π sv rf hs := hR.mv (fun q u v => mu_ne (by omega))
    refine U_eqM hR2.self ?_
    refine U_aload_n dL_law_483 rfl ?_
    refine U_aload_n dL_law_484 rfl ?_
    refine U_iload dL_law_485 rfl ?_
    refine U_iconst (v := iI (1)) dL_law_487 rfl ?_
    refine J_iadd dL_law_488 ?_
    refine J_scr hT dL_law_489 ⟨by omega, by omega⟩ hN ?_
    rw [← ea1]
    refine U_aload_n dL_law_490 rfl ?_
    refine U_iload dL_law_491 rfl ?_
    refine U_iconst (v := iI (2)) dL_law_493 rfl ?_
    refine J_iadd dL_law_494 ?_
    refine J_scr hT dL_law_495 ⟨by omega, by omega⟩ hN ?_
    rw [← ea2]
    refine U_cVP (vs := [_, _]) (r_queue l _ (x + 1062) ρ π sv rf hs a1 ha1 a2 ha2 hQA e he) mL_104 coX11_queue dL_law_496 rM_0 rfl rfl rfl (by decide) (Nat.le_of_ble_eq_true rfl) (le_r (b := 601024) (by show k + 1 ≤ _; omega) rfl) (le_r (b := 7293034) (by show n + 6 ≤ _; omega) rfl) (fun v2 W2 sz2 hp2 => ?_)
    rcases hp2 with ⟨h0, -, -⟩ | ⟨-, rfl, rfl⟩
    · omega
    refine U_istore (L' := [some _, some _, some _, some _, some _, some _, some _, none]) dL_law_499 (by decide) rfl ?_
    refine U_aload_n dL_law_501 rfl ?_
    refine U_cV (vs := []) (r_thrown l _ (x + 1062) _ _ _ e hs) mL_88 coX11_thrown dL_law_502 rM_0 rfl rfl rfl (by decide) (Nat.le_of_ble_eq_true rfl) (le_r (b := 601024) (by show k + 1 ≤ _; omega) rfl) (le_r (b := 7293034) (by show n + 6 ≤ _; omega) rfl) (fun sz3 => ?_)
    refine U_iload dL_law_505 rfl ?_
    refine U_icmp_eq_t (tgt := 512) dL_law_507 (by decide) rfl ?_
    refine U_iload dL_law_512 rfl ?_
    refine J_if_ne (tgt := 529) dL_law_514 (by decide) ⟨by omega, by omega⟩ (fun h9 => absurd he0 h9) (fun _ => ?_)
    refine U_aload_n dL_law_517 rfl ?_
    refine U_iconst (v := iI (0)) dL_law_518 rfl ?_
    refine J_lald dL_law_519 ((rM_o (by omega) (by omega) (by omega)).trans mu_eq) ⟨by omega, by omega⟩ (by decide) ?_
    rw [up_s]
    refine U_iload dL_law_520 rfl ?_
    refine J_i2lc dL_law_522 ?_
    refine U_lcE (tgt := 529) rfl dL_law_523 dL_law_524 (by decide) ?_
    refine U_goto (tgt := 1524) dL_law_529 (by decide) ?_
    exact U_wk' (next _ _ _ _ _ _ _ _ _ (LW.of hT2 mu_eq hI2 hS2 hv2 hxo) (by show k + 1 ≤ _; omega) (by show n + 6 ≤ _; omega)) ⟨rfl, rfl, rfl, rfl, rfl, trivial⟩
  · refine U_eqM hR.self ?_
    refine U_aload_n dL_law_483 rfl ?_
    refine U_aload_n dL_law_484 rfl ?_
    refine U_iload dL_law_485 rfl ?_
    refine U_iconst (v := iI (1)) dL_law_487 rfl ?_
    refine J_iadd dL_law_488 ?_
    refine J_scr hT dL_law_489 ⟨by omega, by omega⟩ hN ?_
    rw [← ea1]
    refine U_aload_n dL_law_490 rfl ?_
    refine U_iload dL_law_491 rfl ?_
    refine U_iconst (v := iI (2)) dL_law_493 rfl ?_
    refine J_iadd dL_law_494 ?_
    refine J_scr hT dL_law_495 ⟨by omega, by omega⟩ hN ?_
    rw [← ea2]
    refine U_cVP (vs := [_, _]) (r_queue l _ (x + 1062) ρ π sv rf hs a1 ha1 a2 ha2 hQA e he) mL_104 coX11_queue dL_law_496 rM_0 rfl rfl rfl (by decide) (Nat.le_of_ble_eq_true rfl) (le_r (b := 601024) (by show k + 1 ≤ _; omega) rfl) (le_r (b := 7293034) (by show n + 6 ≤ _; omega) rfl) (fun v2 W2 sz2 hp2 => ?_)
    obtain ⟨-, rfl, rfl⟩ := hp2.resolve_right (fun h => absurd h.1 (by omega))
    refine U_istore (L' := [some _, some _, some _, some _, some _, some _, some _, none]) dL_law_499 (by decide) rfl ?_
    refine U_aload_n dL_law_501 rfl ?_
    refine U_cV (vs := []) (r_thrown l _ (x + 1062) _ _ _ e hs) mL_88 coX11_thrown dL_law_502 rM_0 rfl rfl rfl (by decide) (Nat.le_of_ble_eq_true rfl) (le_r (b := 601024) (by show k + 1 ≤ _; omega) rfl) (le_r (b := 7293034) (by show n + 6 ≤ _; omega) rfl) (fun sz3 => ?_)
    refine U_iload dL_law_505 rfl ?_
    refine U_icmp_eq_t (tgt := 512) dL_law_507 (by decide) rfl ?_
    refine U_iload dL_law_512 rfl ?_
    refine J_if_ne (tgt := 529) dL_law_514 (by decide) ⟨by omega, by omega⟩ (fun _ => ?_) (fun h9 => absurd h9 (by omega))
    refine U_goto (tgt := 1524) dL_law_529 (by decide) ?_
    exact U_wk' (next _ _ _ _ _ _ _ _ _ (LW.of hTL ho hI1 hS1 hv hxo) (by show k + 1 ≤ _; omega) (by show n + 6 ≤ _; omega)) ⟨rfl, rfl, rfl, rfl, rfl, trivial⟩

set_option maxRecDepth 100000 in
set_option maxHeartbeats 4000000 in
theorem lw_nextChannel (l : Launch) (hfl : l.stackTraces = false) (G : GG) (A : Nat → Prop) (T : State → Code → Array Value → Prop) (Z : List Frame → Array Value → State → State → Prop) (b N : Nat) (xs : Nat → Int32) (hT : ∀ s c args, T s c args → va_X b N xs s s.heap ∧ b < s.heap.size ∧ ¬ A b) (hN : N < 2 ^ 31) (x o : Nat) (W : ME) (ρ π : Int → Int) (sv rf hs : Int) (cn i : Int) (k n sz : Nat) (hcn : 0 ≤ cn ∧ cn ≤ 512) (hi : 0 ≤ i ∧ i + 5 ≤ N) (hk : k ≤ 600000) (hn : n ≤ 7000000) (hL : LW cn x o W ρ π sv rf hs)
    (next : ∀ (W' : ME) (ρ' π' : Int → Int) (sv' rf' hs' : Int) (k' n' sz' : Nat), LW (cn + 1) x o W' ρ' π' sv' rf' hs' → k' ≤ k + 1 → n' ≤ n + 6 → U l G A room_1 RL cL_law 8 ret T Z k' n' W' sz' 1524 [some (.ref b), some (.ref x), some (.ref (x + 1062)), some (.ref o), some (.int (iI i)), none, none, none] []) :
    U l G A room_1 RL cL_law 8 ret T Z k n W sz 532 [some (.ref b), some (.ref x), some (.ref (x + 1062)), some (.ref o), some (.int (iI i)), none, none, none] [] := by
  obtain ⟨hTL, hR, ⟨g, ho⟩, hI, hS, hv, hxo⟩ := id hL
  obtain ⟨a0, f0, x0, -⟩ := id hTL
  have hP := hS.P
  have hSI := hI.1.1
  have hXI := hI.1.2.1
  have h3 := hI.1.2.2.1
  have hPI := hI.1.2.2.2
  have hWr := hI.2.1
  have hRI := hI.2.2.1
  have hCI := hI.2.2.2
  have hQA := hSI.QA
  have hI1 : IV (cn + 1) ρ := hI.mono (by omega)
  have hS1 : SV (cn + 1) π sv := hS.mono (by omega)
  refine U_aload_n dL_law_532 rfl ?_
  refine U_cV (vs := []) (p_nextChannel l W x ρ π sv hTL hQA) mL_105 coX10_nextChannel dL_law_533 x0 rfl rfl rfl (by decide) (Nat.le_of_ble_eq_true rfl) (le_r (b := 601024) (by omega) rfl) (le_r (b := 7293034) (by omega) rfl) (fun sz1 => ?_)
  refine U_eqM hR.self ?_
  refine U_aload_n dL_law_536 rfl ?_
  refine U_cV (vs := []) (r_nextChannel l W (x + 1062) ρ π sv rf hs hQA) mL_108 coX11_nextChannel dL_law_537 rM_0 rfl rfl rfl (by decide) (Nat.le_of_ble_eq_true rfl) (le_r (b := 601024) (by omega) rfl) (le_r (b := 7293034) (by omega) rfl) (fun sz2 => ?_)
  refine U_icmp_eq_t (tgt := 1524) dL_law_540 (by decide) rfl ?_
  exact next _ _ _ _ _ _ _ _ _ (LW.of hTL ho hI1 hS1 hv hxo) (by omega) (by omega)

set_option maxRecDepth 100000 in
set_option maxHeartbeats 4000000 in
theorem lw_send (l : Launch) (hfl : l.stackTraces = false) (G : GG) (A : Nat → Prop) (T : State → Code → Array Value → Prop) (Z : List Frame → Array Value → State → State → Prop) (b N : Nat) (xs : Nat → Int32) (hT : ∀ s c args, T s c args → va_X b N xs s s.heap ∧ b < s.heap.size ∧ ¬ A b) (hN : N < 2 ^ 31) (x o : Nat) (W : ME) (ρ π : Int → Int) (sv rf hs : Int) (cn i : Int) (k n sz : Nat) (hcn : 0 ≤ cn ∧ cn ≤ 512) (hi : 0 ≤ i ∧ i + 5 ≤ N) (hk : k ≤ 600000) (hn : n ≤ 7000000) (hL : LW cn x o W ρ π sv rf hs)
    (next : ∀ (W' : ME) (ρ' π' : Int → Int) (sv' rf' hs' : Int) (k' n' sz' : Nat), LW (cn + 1) x o W' ρ' π' sv' rf' hs' → k' ≤ k + 1 → n' ≤ n + 6 → U l G A room_1 RL cL_law 8 ret T Z k' n' W' sz' 1524 [some (.ref b), some (.ref x), some (.ref (x + 1062)), some (.ref o), some (.int (iI i)), none, none, none] []) :
    U l G A room_1 RL cL_law 8 ret T Z k n W sz 545 [some (.ref b), some (.ref x), some (.ref (x + 1062)), some (.ref o), some (.int (iI i)), none, none, none] [] := by
  obtain ⟨hTL, hR, ⟨g, ho⟩, hI, hS, hv, hxo⟩ := id hL
  obtain ⟨a0, f0, x0, -⟩ := id hTL
  have hP := hS.P
  have hSI := hI.1.1
  have hXI := hI.1.2.1
  have h3 := hI.1.2.2.1
  have hPI := hI.1.2.2.2
  have hWr := hI.2.1
  have hRI := hI.2.2.1
  have hCI := hI.2.2.2
  have hQA := hSI.QA
  have hI1 : IV (cn + 1) ρ := hI.mono (by omega)
  have hS1 : SV (cn + 1) π sv := hS.mono (by omega)
  obtain ⟨a1, ea1⟩ : ∃ z, z = sx xs (i + 1) := ⟨_, rfl⟩
  have ha1 : -2147483648 ≤ a1 ∧ a1 < 2147483648 := by rw [ea1]; exact sx_r
  obtain ⟨e, he⟩ : ∃ e : Int, (¬ (1 ≤ a1 ∧ a1 ≤ 60) ∧ e = 1) ∨ ((1 ≤ a1 ∧ a1 ≤ 60) ∧ 60 < ρ 382 + a1 ∧ e = 2) ∨ ((1 ≤ a1 ∧ a1 ≤ 60) ∧ ρ 382 + a1 ≤ 60 ∧ e = 0) := by
    by_cases hh0 : (1 ≤ a1 ∧ a1 ≤ 60) <;> by_cases hh1 : 60 < ρ 382 + a1 <;> first | exact ⟨0, by omega⟩ | exact ⟨1, by omega⟩ | exact ⟨2, by omega⟩ | exact ⟨3, by omega⟩
  refine U_aload_n dL_law_545 rfl ?_
  refine U_aload_n dL_law_546 rfl ?_
  refine U_iload dL_law_547 rfl ?_
  refine U_iconst (v := iI (1)) dL_law_549 rfl ?_
  refine J_iadd dL_law_550 ?_
  refine J_scr hT dL_law_551 ⟨by omega, by omega⟩ hN ?_
  rw [← ea1]
  refine U_aload_n dL_law_552 rfl ?_
  refine U_callW (vs := [_, _, _]) (w_send l W x o _ x0 g ho a1 (rsnC ρ a1.toNat) e (fun M' => TL M' x (rsnN ρ a1.toNat) (svP ρ π sv) (svS sv) ∧ FR W M' x 1062) (fun M' h => (h.2 _ (by omega)).trans ho) (p_send l hfl W x ρ π sv hTL hv hWr hRI hP hSI hXI hPI (by omega) a1 ha1 e he)) mL_109 wc_send dL_law_553 rfl rfl ⟨(Nat.le_of_ble_eq_true rfl), (Nat.le_of_ble_eq_true rfl)⟩ (Nat.le_of_ble_eq_true rfl) ⟨(le_r (b := 601024) (by show k + 1 ≤ _; omega) rfl), (le_r (b := 7293034) (by show n + 6 ≤ _; omega) rfl)⟩ (fun v0 W1 sz1 hp => ?_)
  obtain ⟨rfl, hp⟩ := hp
  refine U_istore (L' := [some _, some _, some _, some _, some _, some _, none, none]) dL_law_556 (by decide) rfl ?_
  rcases hp with ⟨he0, M1, hM1, rfl⟩ | ⟨he0, rfl⟩
  · obtain ⟨hT1, hF1⟩ := hM1
    have hI2 := hI.snd (k := a1.toNat) (by omega) (by omega)
    have hS2 : SV (cn + 1) (svP ρ π sv) (svS sv) := SV.sav hv hI hS (by omega)
    have hv2 := svS_b hv
    have hT2 : TL (mu M1 o (aL 1 (up g 0 (c32 (rsnC ρ a1.toNat))))) x (rsnN ρ a1.toNat) (svP ρ π sv) (svS sv) := hT1.mv hI2 hS2 hv2.2 (fun q u v => mu_ne (by omega))
    have hR2 : RD (mu M1 o (aL 1 (up g 0 (c32 (rsnC ρ a1.toNat))))) (x + 1062) ρ π sv rf hs := hR.mv (fun q u v => (mu_ne (by omega)).trans (hF1 q (by omega)))
    refine U_eqM hR2.self ?_
    refine U_aload_n dL_law_558 rfl ?_
    refine U_aload_n dL_law_559 rfl ?_
    refine U_iload dL_law_560 rfl ?_
    refine U_iconst (v := iI (1)) dL_law_562 rfl ?_
    refine J_iadd dL_law_563 ?_
    refine J_scr hT dL_law_564 ⟨by omega, by omega⟩ hN ?_
    rw [← ea1]
    refine U_cVP (vs := [_]) (r_send l _ (x + 1062) ρ π sv rf hs hv a1 ha1 hSI hWr.1 (by omega) e he) mL_111 coX11_send dL_law_565 rM_0 rfl rfl rfl (by decide) (Nat.le_of_ble_eq_true rfl) (le_r (b := 601024) (by show k + 1 ≤ _; omega) rfl) (le_r (b := 7293034) (by show n + 6 ≤ _; omega) rfl) (fun v2 W2 sz2 hp2 => ?_)
    rcases hp2 with ⟨h0, -, -⟩ | ⟨-, rfl, rfl⟩
    · omega
    refine U_istore (L' := [some _, some _, some _, some _, some _, some _, some _, none]) dL_law_568 (by decide) rfl ?_
    refine U_aload_n dL_law_570 rfl ?_
    refine U_cV (vs := []) (r_thrown l _ (x + 1062) _ _ _ e hs) mL_88 coX11_thrown dL_law_571 rM_0 rfl rfl rfl (by decide) (Nat.le_of_ble_eq_true rfl) (le_r (b := 601024) (by show k + 1 ≤ _; omega) rfl) (le_r (b := 7293034) (by show n + 6 ≤ _; omega) rfl) (fun sz3 => ?_)
    refine U_iload dL_law_574 rfl ?_
    refine U_icmp_eq_t (tgt := 581) dL_law_576 (by decide) rfl ?_
    refine U_iload dL_law_581 rfl ?_
    refine J_if_ne (tgt := 598) dL_law_583 (by decide) ⟨by omega, by omega⟩ (fun h9 => absurd he0 h9) (fun _ => ?_)
    refine U_aload_n dL_law_586 rfl ?_
    refine U_iconst (v := iI (0)) dL_law_587 rfl ?_
    refine J_lald dL_law_588 ((rM_o (by omega) (by omega) (by omega)).trans mu_eq) ⟨by omega, by omega⟩ (by decide) ?_
    rw [up_s]
    refine U_iload dL_law_589 rfl ?_
    refine J_i2lc dL_law_591 ?_
    refine U_lcE (tgt := 598) rfl dL_law_592 dL_law_593 (by decide) ?_
    refine U_goto (tgt := 1524) dL_law_598 (by decide) ?_
    exact U_wk' (next _ _ _ _ _ _ _ _ _ (LW.of hT2 mu_eq hI2 hS2 hv2 hxo) (by show k + 1 ≤ _; omega) (by show n + 6 ≤ _; omega)) ⟨rfl, rfl, rfl, rfl, rfl, trivial⟩
  · refine U_eqM hR.self ?_
    refine U_aload_n dL_law_558 rfl ?_
    refine U_aload_n dL_law_559 rfl ?_
    refine U_iload dL_law_560 rfl ?_
    refine U_iconst (v := iI (1)) dL_law_562 rfl ?_
    refine J_iadd dL_law_563 ?_
    refine J_scr hT dL_law_564 ⟨by omega, by omega⟩ hN ?_
    rw [← ea1]
    refine U_cVP (vs := [_]) (r_send l _ (x + 1062) ρ π sv rf hs hv a1 ha1 hSI hWr.1 (by omega) e he) mL_111 coX11_send dL_law_565 rM_0 rfl rfl rfl (by decide) (Nat.le_of_ble_eq_true rfl) (le_r (b := 601024) (by show k + 1 ≤ _; omega) rfl) (le_r (b := 7293034) (by show n + 6 ≤ _; omega) rfl) (fun v2 W2 sz2 hp2 => ?_)
    obtain ⟨-, rfl, rfl⟩ := hp2.resolve_right (fun h => absurd h.1 (by omega))
    refine U_istore (L' := [some _, some _, some _, some _, some _, some _, some _, none]) dL_law_568 (by decide) rfl ?_
    refine U_aload_n dL_law_570 rfl ?_
    refine U_cV (vs := []) (r_thrown l _ (x + 1062) _ _ _ e hs) mL_88 coX11_thrown dL_law_571 rM_0 rfl rfl rfl (by decide) (Nat.le_of_ble_eq_true rfl) (le_r (b := 601024) (by show k + 1 ≤ _; omega) rfl) (le_r (b := 7293034) (by show n + 6 ≤ _; omega) rfl) (fun sz3 => ?_)
    refine U_iload dL_law_574 rfl ?_
    refine U_icmp_eq_t (tgt := 581) dL_law_576 (by decide) rfl ?_
    refine U_iload dL_law_581 rfl ?_
    refine J_if_ne (tgt := 598) dL_law_583 (by decide) ⟨by omega, by omega⟩ (fun _ => ?_) (fun h9 => absurd h9 (by omega))
    refine U_goto (tgt := 1524) dL_law_598 (by decide) ?_
    exact U_wk' (next _ _ _ _ _ _ _ _ _ (LW.of hTL ho hI1 hS1 hv hxo) (by show k + 1 ≤ _; omega) (by show n + 6 ≤ _; omega)) ⟨rfl, rfl, rfl, rfl, rfl, trivial⟩

set_option maxRecDepth 100000 in
set_option maxHeartbeats 4000000 in
theorem lw_slot (l : Launch) (hfl : l.stackTraces = false) (G : GG) (A : Nat → Prop) (T : State → Code → Array Value → Prop) (Z : List Frame → Array Value → State → State → Prop) (b N : Nat) (xs : Nat → Int32) (hT : ∀ s c args, T s c args → va_X b N xs s s.heap ∧ b < s.heap.size ∧ ¬ A b) (hN : N < 2 ^ 31) (x o : Nat) (W : ME) (ρ π : Int → Int) (sv rf hs : Int) (cn i : Int) (k n sz : Nat) (hcn : 0 ≤ cn ∧ cn ≤ 512) (hi : 0 ≤ i ∧ i + 5 ≤ N) (hk : k ≤ 600000) (hn : n ≤ 7000000) (hL : LW cn x o W ρ π sv rf hs)
    (next : ∀ (W' : ME) (ρ' π' : Int → Int) (sv' rf' hs' : Int) (k' n' sz' : Nat), LW (cn + 1) x o W' ρ' π' sv' rf' hs' → k' ≤ k + 1 → n' ≤ n + 6 → U l G A room_1 RL cL_law 8 ret T Z k' n' W' sz' 1524 [some (.ref b), some (.ref x), some (.ref (x + 1062)), some (.ref o), some (.int (iI i)), none, none, none] []) :
    U l G A room_1 RL cL_law 8 ret T Z k n W sz 601 [some (.ref b), some (.ref x), some (.ref (x + 1062)), some (.ref o), some (.int (iI i)), none, none, none] [] := by
  obtain ⟨hTL, hR, ⟨g, ho⟩, hI, hS, hv, hxo⟩ := id hL
  obtain ⟨a0, f0, x0, -⟩ := id hTL
  have hP := hS.P
  have hSI := hI.1.1
  have hXI := hI.1.2.1
  have h3 := hI.1.2.2.1
  have hPI := hI.1.2.2.2
  have hWr := hI.2.1
  have hRI := hI.2.2.1
  have hCI := hI.2.2.2
  have hQA := hSI.QA
  have hI1 : IV (cn + 1) ρ := hI.mono (by omega)
  have hS1 : SV (cn + 1) π sv := hS.mono (by omega)
  refine U_aload_n dL_law_601 rfl ?_
  refine U_cV (vs := []) (p_slot l W x ρ π sv hTL) mL_112 coX10_slot dL_law_602 x0 rfl rfl rfl (by decide) (Nat.le_of_ble_eq_true rfl) (le_r (b := 601024) (by omega) rfl) (le_r (b := 7293034) (by omega) rfl) (fun sz1 => ?_)
  refine U_eqM hR.self ?_
  refine U_aload_n dL_law_605 rfl ?_
  refine U_cV (vs := []) (r_slot l W (x + 1062) ρ π sv rf hs) mL_115 coX11_slot dL_law_606 rM_0 rfl rfl rfl (by decide) (Nat.le_of_ble_eq_true rfl) (le_r (b := 601024) (by omega) rfl) (le_r (b := 7293034) (by omega) rfl) (fun sz2 => ?_)
  refine U_icmp_eq_t (tgt := 1524) dL_law_609 (by decide) rfl ?_
  exact next _ _ _ _ _ _ _ _ _ (LW.of hTL ho hI1 hS1 hv hxo) (by omega) (by omega)

set_option maxRecDepth 100000 in
set_option maxHeartbeats 4000000 in
theorem lw_sent (l : Launch) (hfl : l.stackTraces = false) (G : GG) (A : Nat → Prop) (T : State → Code → Array Value → Prop) (Z : List Frame → Array Value → State → State → Prop) (b N : Nat) (xs : Nat → Int32) (hT : ∀ s c args, T s c args → va_X b N xs s s.heap ∧ b < s.heap.size ∧ ¬ A b) (hN : N < 2 ^ 31) (x o : Nat) (W : ME) (ρ π : Int → Int) (sv rf hs : Int) (cn i : Int) (k n sz : Nat) (hcn : 0 ≤ cn ∧ cn ≤ 512) (hi : 0 ≤ i ∧ i + 5 ≤ N) (hk : k ≤ 600000) (hn : n ≤ 7000000) (hL : LW cn x o W ρ π sv rf hs)
    (next : ∀ (W' : ME) (ρ' π' : Int → Int) (sv' rf' hs' : Int) (k' n' sz' : Nat), LW (cn + 1) x o W' ρ' π' sv' rf' hs' → k' ≤ k + 1 → n' ≤ n + 6 → U l G A room_1 RL cL_law 8 ret T Z k' n' W' sz' 1524 [some (.ref b), some (.ref x), some (.ref (x + 1062)), some (.ref o), some (.int (iI i)), none, none, none] []) :
    U l G A room_1 RL cL_law 8 ret T Z k n W sz 614 [some (.ref b), some (.ref x), some (.ref (x + 1062)), some (.ref o), some (.int (iI i)), none, none, none] [] := by
  obtain ⟨hTL, hR, ⟨g, ho⟩, hI, hS, hv, hxo⟩ := id hL
  obtain ⟨a0, f0, x0, -⟩ := id hTL
  have hP := hS.P
  have hSI := hI.1.1
  have hXI := hI.1.2.1
  have h3 := hI.1.2.2.1
  have hPI := hI.1.2.2.2
  have hWr := hI.2.1
  have hRI := hI.2.2.1
  have hCI := hI.2.2.2
  have hQA := hSI.QA
  have hI1 : IV (cn + 1) ρ := hI.mono (by omega)
  have hS1 : SV (cn + 1) π sv := hS.mono (by omega)
  obtain ⟨a1, ea1⟩ : ∃ z, z = sx xs (i + 1) := ⟨_, rfl⟩
  have ha1 : -2147483648 ≤ a1 ∧ a1 < 2147483648 := by rw [ea1]; exact sx_r
  obtain ⟨a2, ea2⟩ : ∃ z, z = sx xs (i + 2) := ⟨_, rfl⟩
  have ha2 : -2147483648 ≤ a2 ∧ a2 < 2147483648 := by rw [ea2]; exact sx_r
  obtain ⟨e, he⟩ : ∃ e : Int, (¬ ((0 ≤ a1 ∧ a1 ≤ 3) ∨ a1 = 7) ∧ e = 1) ∨ (((0 ≤ a1 ∧ a1 ≤ 3) ∨ a1 = 7) ∧ ¬ (0 ≤ a2 ∧ a2 ≤ 2) ∧ e = 2) ∨ (((0 ≤ a1 ∧ a1 ≤ 3) ∨ a1 = 7) ∧ (0 ≤ a2 ∧ a2 ≤ 2) ∧ e = 0) := by
    by_cases hh0 : ((0 ≤ a1 ∧ a1 ≤ 3) ∨ a1 = 7) <;> by_cases hh1 : (0 ≤ a2 ∧ a2 ≤ 2) <;> first | exact ⟨0, by omega⟩ | exact ⟨1, by omega⟩ | exact ⟨2, by omega⟩ | exact ⟨3, by omega⟩
  refine U_aload_n dL_law_614 rfl ?_
  refine U_aload_n dL_law_615 rfl ?_
  refine U_iload dL_law_616 rfl ?_
  refine U_iconst (v := iI (1)) dL_law_618 rfl ?_
  refine J_iadd dL_law_619 ?_
  refine J_scr hT dL_law_620 ⟨by omega, by omega⟩ hN ?_
  rw [← ea1]
  refine U_aload_n dL_law_621 rfl ?_
  refine U_iload dL_law_622 rfl ?_
  refine U_iconst (v := iI (2)) dL_law_624 rfl ?_
  refine J_iadd dL_law_625 ?_
  refine J_scr hT dL_law_626 ⟨by omega, by omega⟩ hN ?_
  rw [← ea2]
  refine U_aload_n dL_law_627 rfl ?_
  refine U_callW (vs := [_, _, _, _]) (w_sent l W x o _ x0 g ho a1 a2 (rse ρ a1 a2) e (fun M' => M' = W) (fun M' h => by rw [h]; exact ho) (p_sent l hfl W x ρ π sv hTL a1 ha1 a2 ha2 e he)) mL_116 wc_sent dL_law_628 rfl rfl ⟨(Nat.le_of_ble_eq_true rfl), (Nat.le_of_ble_eq_true rfl)⟩ (Nat.le_of_ble_eq_true rfl) ⟨(le_r (b := 601024) (by show k + 1 ≤ _; omega) rfl), (le_r (b := 7293034) (by show n + 6 ≤ _; omega) rfl)⟩ (fun v0 W1 sz1 hp => ?_)
  obtain ⟨rfl, hp⟩ := hp
  refine U_istore (L' := [some _, some _, some _, some _, some _, some _, none, none]) dL_law_631 (by decide) rfl ?_
  rcases hp with ⟨he0, M1, hM1, rfl⟩ | ⟨he0, rfl⟩
  · subst hM1
    have hI2 := hI1
    have hS2 := hS1
    have hv2 := hv
    have hT2 : TL (mu M1 o (aL 1 (up g 0 (c32 (rse ρ a1 a2))))) x ρ π sv := hTL.mv hI hS hv.2 (fun q u v => mu_ne (by omega))
    have hR2 : RD (mu M1 o (aL 1 (up g 0 (c32 (rse ρ a1 a2))))) (x + 1062) ρ π sv rf hs := hR.mv (fun q u v => mu_ne (by omega))
    refine U_eqM hR2.self ?_
    refine U_aload_n dL_law_633 rfl ?_
    refine U_aload_n dL_law_634 rfl ?_
    refine U_iload dL_law_635 rfl ?_
    refine U_iconst (v := iI (1)) dL_law_637 rfl ?_
    refine J_iadd dL_law_638 ?_
    refine J_scr hT dL_law_639 ⟨by omega, by omega⟩ hN ?_
    rw [← ea1]
    refine U_aload_n dL_law_640 rfl ?_
    refine U_iload dL_law_641 rfl ?_
    refine U_iconst (v := iI (2)) dL_law_643 rfl ?_
    refine J_iadd dL_law_644 ?_
    refine J_scr hT dL_law_645 ⟨by omega, by omega⟩ hN ?_
    rw [← ea2]
    refine U_cVP (vs := [_, _]) (r_sent l _ (x + 1062) ρ π sv rf hs a1 ha1 a2 ha2 e he) mL_118 coX11_sent dL_law_646 rM_0 rfl rfl rfl (by decide) (Nat.le_of_ble_eq_true rfl) (le_r (b := 601024) (by show k + 1 ≤ _; omega) rfl) (le_r (b := 7293034) (by show n + 6 ≤ _; omega) rfl) (fun v2 W2 sz2 hp2 => ?_)
    rcases hp2 with ⟨h0, -, -⟩ | ⟨-, rfl, rfl⟩
    · omega
    refine U_istore (L' := [some _, some _, some _, some _, some _, some _, some _, none]) dL_law_649 (by decide) rfl ?_
    refine U_aload_n dL_law_651 rfl ?_
    refine U_cV (vs := []) (r_thrown l _ (x + 1062) _ _ _ e hs) mL_88 coX11_thrown dL_law_652 rM_0 rfl rfl rfl (by decide) (Nat.le_of_ble_eq_true rfl) (le_r (b := 601024) (by show k + 1 ≤ _; omega) rfl) (le_r (b := 7293034) (by show n + 6 ≤ _; omega) rfl) (fun sz3 => ?_)
    refine U_iload dL_law_655 rfl ?_
    refine U_icmp_eq_t (tgt := 662) dL_law_657 (by decide) rfl ?_
    refine U_iload dL_law_662 rfl ?_
    refine J_if_ne (tgt := 679) dL_law_664 (by decide) ⟨by omega, by omega⟩ (fun h9 => absurd he0 h9) (fun _ => ?_)
    refine U_aload_n dL_law_667 rfl ?_
    refine U_iconst (v := iI (0)) dL_law_668 rfl ?_
    refine J_lald dL_law_669 ((rM_o (by omega) (by omega) (by omega)).trans mu_eq) ⟨by omega, by omega⟩ (by decide) ?_
    rw [up_s]
    refine U_iload dL_law_670 rfl ?_
    refine J_i2lc dL_law_672 ?_
    refine U_lcE (tgt := 679) rfl dL_law_673 dL_law_674 (by decide) ?_
    refine U_goto (tgt := 1524) dL_law_679 (by decide) ?_
    exact U_wk' (next _ _ _ _ _ _ _ _ _ (LW.of hT2 mu_eq hI2 hS2 hv2 hxo) (by show k + 1 ≤ _; omega) (by show n + 6 ≤ _; omega)) ⟨rfl, rfl, rfl, rfl, rfl, trivial⟩
  · refine U_eqM hR.self ?_
    refine U_aload_n dL_law_633 rfl ?_
    refine U_aload_n dL_law_634 rfl ?_
    refine U_iload dL_law_635 rfl ?_
    refine U_iconst (v := iI (1)) dL_law_637 rfl ?_
    refine J_iadd dL_law_638 ?_
    refine J_scr hT dL_law_639 ⟨by omega, by omega⟩ hN ?_
    rw [← ea1]
    refine U_aload_n dL_law_640 rfl ?_
    refine U_iload dL_law_641 rfl ?_
    refine U_iconst (v := iI (2)) dL_law_643 rfl ?_
    refine J_iadd dL_law_644 ?_
    refine J_scr hT dL_law_645 ⟨by omega, by omega⟩ hN ?_
    rw [← ea2]
    refine U_cVP (vs := [_, _]) (r_sent l _ (x + 1062) ρ π sv rf hs a1 ha1 a2 ha2 e he) mL_118 coX11_sent dL_law_646 rM_0 rfl rfl rfl (by decide) (Nat.le_of_ble_eq_true rfl) (le_r (b := 601024) (by show k + 1 ≤ _; omega) rfl) (le_r (b := 7293034) (by show n + 6 ≤ _; omega) rfl) (fun v2 W2 sz2 hp2 => ?_)
    obtain ⟨-, rfl, rfl⟩ := hp2.resolve_right (fun h => absurd h.1 (by omega))
    refine U_istore (L' := [some _, some _, some _, some _, some _, some _, some _, none]) dL_law_649 (by decide) rfl ?_
    refine U_aload_n dL_law_651 rfl ?_
    refine U_cV (vs := []) (r_thrown l _ (x + 1062) _ _ _ e hs) mL_88 coX11_thrown dL_law_652 rM_0 rfl rfl rfl (by decide) (Nat.le_of_ble_eq_true rfl) (le_r (b := 601024) (by show k + 1 ≤ _; omega) rfl) (le_r (b := 7293034) (by show n + 6 ≤ _; omega) rfl) (fun sz3 => ?_)
    refine U_iload dL_law_655 rfl ?_
    refine U_icmp_eq_t (tgt := 662) dL_law_657 (by decide) rfl ?_
    refine U_iload dL_law_662 rfl ?_
    refine J_if_ne (tgt := 679) dL_law_664 (by decide) ⟨by omega, by omega⟩ (fun _ => ?_) (fun h9 => absurd h9 (by omega))
    refine U_goto (tgt := 1524) dL_law_679 (by decide) ?_
    exact U_wk' (next _ _ _ _ _ _ _ _ _ (LW.of hTL ho hI1 hS1 hv hxo) (by show k + 1 ≤ _; omega) (by show n + 6 ≤ _; omega)) ⟨rfl, rfl, rfl, rfl, rfl, trivial⟩

set_option maxRecDepth 100000 in
set_option maxHeartbeats 4000000 in
theorem lw_wire (l : Launch) (hfl : l.stackTraces = false) (G : GG) (A : Nat → Prop) (T : State → Code → Array Value → Prop) (Z : List Frame → Array Value → State → State → Prop) (b N : Nat) (xs : Nat → Int32) (hT : ∀ s c args, T s c args → va_X b N xs s s.heap ∧ b < s.heap.size ∧ ¬ A b) (hN : N < 2 ^ 31) (x o : Nat) (W : ME) (ρ π : Int → Int) (sv rf hs : Int) (cn i : Int) (k n sz : Nat) (hcn : 0 ≤ cn ∧ cn ≤ 512) (hi : 0 ≤ i ∧ i + 5 ≤ N) (hk : k ≤ 600000) (hn : n ≤ 7000000) (hL : LW cn x o W ρ π sv rf hs)
    (next : ∀ (W' : ME) (ρ' π' : Int → Int) (sv' rf' hs' : Int) (k' n' sz' : Nat), LW (cn + 1) x o W' ρ' π' sv' rf' hs' → k' ≤ k + 1 → n' ≤ n + 6 → U l G A room_1 RL cL_law 8 ret T Z k' n' W' sz' 1524 [some (.ref b), some (.ref x), some (.ref (x + 1062)), some (.ref o), some (.int (iI i)), none, none, none] []) :
    U l G A room_1 RL cL_law 8 ret T Z k n W sz 682 [some (.ref b), some (.ref x), some (.ref (x + 1062)), some (.ref o), some (.int (iI i)), none, none, none] [] := by
  obtain ⟨hTL, hR, ⟨g, ho⟩, hI, hS, hv, hxo⟩ := id hL
  obtain ⟨a0, f0, x0, -⟩ := id hTL
  have hP := hS.P
  have hSI := hI.1.1
  have hXI := hI.1.2.1
  have h3 := hI.1.2.2.1
  have hPI := hI.1.2.2.2
  have hWr := hI.2.1
  have hRI := hI.2.2.1
  have hCI := hI.2.2.2
  have hQA := hSI.QA
  have hI1 : IV (cn + 1) ρ := hI.mono (by omega)
  have hS1 : SV (cn + 1) π sv := hS.mono (by omega)
  refine U_aload_n dL_law_682 rfl ?_
  refine U_cV (vs := []) (p_wire l W x ρ π sv hTL) mL_119 coX10_wire dL_law_683 x0 rfl rfl rfl (by decide) (Nat.le_of_ble_eq_true rfl) (le_r (b := 601024) (by omega) rfl) (le_r (b := 7293034) (by omega) rfl) (fun sz1 => ?_)
  refine U_eqM hR.self ?_
  refine U_aload_n dL_law_686 rfl ?_
  refine U_cV (vs := []) (r_wire l W (x + 1062) ρ π sv rf hs) mL_122 coX11_wire dL_law_687 rM_0 rfl rfl rfl (by decide) (Nat.le_of_ble_eq_true rfl) (le_r (b := 601024) (by omega) rfl) (le_r (b := 7293034) (by omega) rfl) (fun sz2 => ?_)
  refine U_icmp_eq_t (tgt := 1524) dL_law_690 (by decide) rfl ?_
  exact next _ _ _ _ _ _ _ _ _ (LW.of hTL ho hI1 hS1 hv hxo) (by omega) (by omega)

set_option maxRecDepth 100000 in
set_option maxHeartbeats 4000000 in
theorem lw_frameByte (l : Launch) (hfl : l.stackTraces = false) (G : GG) (A : Nat → Prop) (T : State → Code → Array Value → Prop) (Z : List Frame → Array Value → State → State → Prop) (b N : Nat) (xs : Nat → Int32) (hT : ∀ s c args, T s c args → va_X b N xs s s.heap ∧ b < s.heap.size ∧ ¬ A b) (hN : N < 2 ^ 31) (x o : Nat) (W : ME) (ρ π : Int → Int) (sv rf hs : Int) (cn i : Int) (k n sz : Nat) (hcn : 0 ≤ cn ∧ cn ≤ 512) (hi : 0 ≤ i ∧ i + 5 ≤ N) (hk : k ≤ 600000) (hn : n ≤ 7000000) (hL : LW cn x o W ρ π sv rf hs)
    (next : ∀ (W' : ME) (ρ' π' : Int → Int) (sv' rf' hs' : Int) (k' n' sz' : Nat), LW (cn + 1) x o W' ρ' π' sv' rf' hs' → k' ≤ k + 1 → n' ≤ n + 6 → U l G A room_1 RL cL_law 8 ret T Z k' n' W' sz' 1524 [some (.ref b), some (.ref x), some (.ref (x + 1062)), some (.ref o), some (.int (iI i)), none, none, none] []) :
    U l G A room_1 RL cL_law 8 ret T Z k n W sz 695 [some (.ref b), some (.ref x), some (.ref (x + 1062)), some (.ref o), some (.int (iI i)), none, none, none] [] := by
  obtain ⟨hTL, hR, ⟨g, ho⟩, hI, hS, hv, hxo⟩ := id hL
  obtain ⟨a0, f0, x0, -⟩ := id hTL
  have hP := hS.P
  have hSI := hI.1.1
  have hXI := hI.1.2.1
  have h3 := hI.1.2.2.1
  have hPI := hI.1.2.2.2
  have hWr := hI.2.1
  have hRI := hI.2.2.1
  have hCI := hI.2.2.2
  have hQA := hSI.QA
  have hI1 : IV (cn + 1) ρ := hI.mono (by omega)
  have hS1 : SV (cn + 1) π sv := hS.mono (by omega)
  obtain ⟨a1, ea1⟩ : ∃ z, z = sx xs (i + 1) := ⟨_, rfl⟩
  have ha1 : -2147483648 ≤ a1 ∧ a1 < 2147483648 := by rw [ea1]; exact sx_r
  obtain ⟨a2, ea2⟩ : ∃ z, z = sx xs (i + 2) := ⟨_, rfl⟩
  have ha2 : -2147483648 ≤ a2 ∧ a2 < 2147483648 := by rw [ea2]; exact sx_r
  obtain ⟨e, he⟩ : ∃ e : Int, (¬ ((0 ≤ a1 ∧ a1 ≤ ρ 382 - 1) ∧ (0 ≤ a2 ∧ a2 ≤ ρ (383 + 50 * a1) + 5)) ∧ e = 1) ∨ (((0 ≤ a1 ∧ a1 ≤ ρ 382 - 1) ∧ (0 ≤ a2 ∧ a2 ≤ ρ (383 + 50 * a1) + 5)) ∧ e = 0) := by
    by_cases hh0 : ((0 ≤ a1 ∧ a1 ≤ ρ 382 - 1) ∧ (0 ≤ a2 ∧ a2 ≤ ρ (383 + 50 * a1) + 5)) <;> first | exact ⟨0, by omega⟩ | exact ⟨1, by omega⟩ | exact ⟨2, by omega⟩ | exact ⟨3, by omega⟩
  refine U_aload_n dL_law_695 rfl ?_
  refine U_aload_n dL_law_696 rfl ?_
  refine U_iload dL_law_697 rfl ?_
  refine U_iconst (v := iI (1)) dL_law_699 rfl ?_
  refine J_iadd dL_law_700 ?_
  refine J_scr hT dL_law_701 ⟨by omega, by omega⟩ hN ?_
  rw [← ea1]
  refine U_aload_n dL_law_702 rfl ?_
  refine U_iload dL_law_703 rfl ?_
  refine U_iconst (v := iI (2)) dL_law_705 rfl ?_
  refine J_iadd dL_law_706 ?_
  refine J_scr hT dL_law_707 ⟨by omega, by omega⟩ hN ?_
  rw [← ea2]
  refine U_aload_n dL_law_708 rfl ?_
  refine U_callW (vs := [_, _, _, _]) (w_frameByte l W x o _ x0 g ho a1 a2 (ρ (383 + 50 * a1 + 4 + a2)) e (fun M' => M' = W) (fun M' h => by rw [h]; exact ho) (p_frameByte l hfl W x ρ π sv hTL hWr a1 ha1 a2 ha2 e he)) mL_123 wc_frameByte dL_law_709 rfl rfl ⟨(Nat.le_of_ble_eq_true rfl), (Nat.le_of_ble_eq_true rfl)⟩ (Nat.le_of_ble_eq_true rfl) ⟨(le_r (b := 601024) (by show k + 1 ≤ _; omega) rfl), (le_r (b := 7293034) (by show n + 6 ≤ _; omega) rfl)⟩ (fun v0 W1 sz1 hp => ?_)
  obtain ⟨rfl, hp⟩ := hp
  refine U_istore (L' := [some _, some _, some _, some _, some _, some _, none, none]) dL_law_712 (by decide) rfl ?_
  rcases hp with ⟨he0, M1, hM1, rfl⟩ | ⟨he0, rfl⟩
  · subst hM1
    have hI2 := hI1
    have hS2 := hS1
    have hv2 := hv
    have hT2 : TL (mu M1 o (aL 1 (up g 0 (c32 (ρ (383 + 50 * a1 + 4 + a2)))))) x ρ π sv := hTL.mv hI hS hv.2 (fun q u v => mu_ne (by omega))
    have hR2 : RD (mu M1 o (aL 1 (up g 0 (c32 (ρ (383 + 50 * a1 + 4 + a2)))))) (x + 1062) ρ π sv rf hs := hR.mv (fun q u v => mu_ne (by omega))
    refine U_eqM hR2.self ?_
    refine U_aload_n dL_law_714 rfl ?_
    refine U_aload_n dL_law_715 rfl ?_
    refine U_iload dL_law_716 rfl ?_
    refine U_iconst (v := iI (1)) dL_law_718 rfl ?_
    refine J_iadd dL_law_719 ?_
    refine J_scr hT dL_law_720 ⟨by omega, by omega⟩ hN ?_
    rw [← ea1]
    refine U_aload_n dL_law_721 rfl ?_
    refine U_iload dL_law_722 rfl ?_
    refine U_iconst (v := iI (2)) dL_law_724 rfl ?_
    refine J_iadd dL_law_725 ?_
    refine J_scr hT dL_law_726 ⟨by omega, by omega⟩ hN ?_
    rw [← ea2]
    refine U_cVP (vs := [_, _]) (r_frameByte l _ (x + 1062) ρ π sv rf hs a1 ha1 a2 ha2 hWr e he) mL_125 coX11_frameByte dL_law_727 rM_0 rfl rfl rfl (by decide) (Nat.le_of_ble_eq_true rfl) (le_r (b := 601024) (by show k + 1 ≤ _; omega) rfl) (le_r (b := 7293034) (by show n + 6 ≤ _; omega) rfl) (fun v2 W2 sz2 hp2 => ?_)
    rcases hp2 with ⟨h0, -, -⟩ | ⟨-, rfl, rfl⟩
    · omega
    refine U_istore (L' := [some _, some _, some _, some _, some _, some _, some _, none]) dL_law_730 (by decide) rfl ?_
    refine U_aload_n dL_law_732 rfl ?_
    refine U_cV (vs := []) (r_thrown l _ (x + 1062) _ _ _ e hs) mL_88 coX11_thrown dL_law_733 rM_0 rfl rfl rfl (by decide) (Nat.le_of_ble_eq_true rfl) (le_r (b := 601024) (by show k + 1 ≤ _; omega) rfl) (le_r (b := 7293034) (by show n + 6 ≤ _; omega) rfl) (fun sz3 => ?_)
    refine U_iload dL_law_736 rfl ?_
    refine U_icmp_eq_t (tgt := 743) dL_law_738 (by decide) rfl ?_
    refine U_iload dL_law_743 rfl ?_
    refine J_if_ne (tgt := 760) dL_law_745 (by decide) ⟨by omega, by omega⟩ (fun h9 => absurd he0 h9) (fun _ => ?_)
    refine U_aload_n dL_law_748 rfl ?_
    refine U_iconst (v := iI (0)) dL_law_749 rfl ?_
    refine J_lald dL_law_750 ((rM_o (by omega) (by omega) (by omega)).trans mu_eq) ⟨by omega, by omega⟩ (by decide) ?_
    rw [up_s]
    refine U_iload dL_law_751 rfl ?_
    refine J_i2lc dL_law_753 ?_
    refine U_lcE (tgt := 760) rfl dL_law_754 dL_law_755 (by decide) ?_
    refine U_goto (tgt := 1524) dL_law_760 (by decide) ?_
    exact U_wk' (next _ _ _ _ _ _ _ _ _ (LW.of hT2 mu_eq hI2 hS2 hv2 hxo) (by show k + 1 ≤ _; omega) (by show n + 6 ≤ _; omega)) ⟨rfl, rfl, rfl, rfl, rfl, trivial⟩
  · refine U_eqM hR.self ?_
    refine U_aload_n dL_law_714 rfl ?_
    refine U_aload_n dL_law_715 rfl ?_
    refine U_iload dL_law_716 rfl ?_
    refine U_iconst (v := iI (1)) dL_law_718 rfl ?_
    refine J_iadd dL_law_719 ?_
    refine J_scr hT dL_law_720 ⟨by omega, by omega⟩ hN ?_
    rw [← ea1]
    refine U_aload_n dL_law_721 rfl ?_
    refine U_iload dL_law_722 rfl ?_
    refine U_iconst (v := iI (2)) dL_law_724 rfl ?_
    refine J_iadd dL_law_725 ?_
    refine J_scr hT dL_law_726 ⟨by omega, by omega⟩ hN ?_
    rw [← ea2]
    refine U_cVP (vs := [_, _]) (r_frameByte l _ (x + 1062) ρ π sv rf hs a1 ha1 a2 ha2 hWr e he) mL_125 coX11_frameByte dL_law_727 rM_0 rfl rfl rfl (by decide) (Nat.le_of_ble_eq_true rfl) (le_r (b := 601024) (by show k + 1 ≤ _; omega) rfl) (le_r (b := 7293034) (by show n + 6 ≤ _; omega) rfl) (fun v2 W2 sz2 hp2 => ?_)
    obtain ⟨-, rfl, rfl⟩ := hp2.resolve_right (fun h => absurd h.1 (by omega))
    refine U_istore (L' := [some _, some _, some _, some _, some _, some _, some _, none]) dL_law_730 (by decide) rfl ?_
    refine U_aload_n dL_law_732 rfl ?_
    refine U_cV (vs := []) (r_thrown l _ (x + 1062) _ _ _ e hs) mL_88 coX11_thrown dL_law_733 rM_0 rfl rfl rfl (by decide) (Nat.le_of_ble_eq_true rfl) (le_r (b := 601024) (by show k + 1 ≤ _; omega) rfl) (le_r (b := 7293034) (by show n + 6 ≤ _; omega) rfl) (fun sz3 => ?_)
    refine U_iload dL_law_736 rfl ?_
    refine U_icmp_eq_t (tgt := 743) dL_law_738 (by decide) rfl ?_
    refine U_iload dL_law_743 rfl ?_
    refine J_if_ne (tgt := 760) dL_law_745 (by decide) ⟨by omega, by omega⟩ (fun _ => ?_) (fun h9 => absurd h9 (by omega))
    refine U_goto (tgt := 1524) dL_law_760 (by decide) ?_
    exact U_wk' (next _ _ _ _ _ _ _ _ _ (LW.of hTL ho hI1 hS1 hv hxo) (by show k + 1 ≤ _; omega) (by show n + 6 ≤ _; omega)) ⟨rfl, rfl, rfl, rfl, rfl, trivial⟩

set_option maxRecDepth 100000 in
set_option maxHeartbeats 4000000 in
theorem lw_corrupt (l : Launch) (hfl : l.stackTraces = false) (G : GG) (A : Nat → Prop) (T : State → Code → Array Value → Prop) (Z : List Frame → Array Value → State → State → Prop) (b N : Nat) (xs : Nat → Int32) (hT : ∀ s c args, T s c args → va_X b N xs s s.heap ∧ b < s.heap.size ∧ ¬ A b) (hN : N < 2 ^ 31) (x o : Nat) (W : ME) (ρ π : Int → Int) (sv rf hs : Int) (cn i : Int) (k n sz : Nat) (hcn : 0 ≤ cn ∧ cn ≤ 512) (hi : 0 ≤ i ∧ i + 5 ≤ N) (hk : k ≤ 600000) (hn : n ≤ 7000000) (hL : LW cn x o W ρ π sv rf hs)
    (next : ∀ (W' : ME) (ρ' π' : Int → Int) (sv' rf' hs' : Int) (k' n' sz' : Nat), LW (cn + 1) x o W' ρ' π' sv' rf' hs' → k' ≤ k + 1 → n' ≤ n + 6 → U l G A room_1 RL cL_law 8 ret T Z k' n' W' sz' 1524 [some (.ref b), some (.ref x), some (.ref (x + 1062)), some (.ref o), some (.int (iI i)), none, none, none] []) :
    U l G A room_1 RL cL_law 8 ret T Z k n W sz 763 [some (.ref b), some (.ref x), some (.ref (x + 1062)), some (.ref o), some (.int (iI i)), none, none, none] [] := by
  obtain ⟨hTL, hR, ⟨g, ho⟩, hI, hS, hv, hxo⟩ := id hL
  obtain ⟨a0, f0, x0, -⟩ := id hTL
  have hP := hS.P
  have hSI := hI.1.1
  have hXI := hI.1.2.1
  have h3 := hI.1.2.2.1
  have hPI := hI.1.2.2.2
  have hWr := hI.2.1
  have hRI := hI.2.2.1
  have hCI := hI.2.2.2
  have hQA := hSI.QA
  have hI1 : IV (cn + 1) ρ := hI.mono (by omega)
  have hS1 : SV (cn + 1) π sv := hS.mono (by omega)
  obtain ⟨a1, ea1⟩ : ∃ z, z = sx xs (i + 1) := ⟨_, rfl⟩
  have ha1 : -2147483648 ≤ a1 ∧ a1 < 2147483648 := by rw [ea1]; exact sx_r
  obtain ⟨a2, ea2⟩ : ∃ z, z = sx xs (i + 2) := ⟨_, rfl⟩
  have ha2 : -2147483648 ≤ a2 ∧ a2 < 2147483648 := by rw [ea2]; exact sx_r
  obtain ⟨a3, ea3⟩ : ∃ z, z = sx xs (i + 3) := ⟨_, rfl⟩
  have ha3 : -2147483648 ≤ a3 ∧ a3 < 2147483648 := by rw [ea3]; exact sx_r
  obtain ⟨e, he⟩ : ∃ e : Int, (¬ ((0 ≤ a1 ∧ a1 ≤ ρ 382 - 1) ∧ (0 ≤ a2 ∧ a2 ≤ ρ (383 + 50 * a1) + 5)) ∧ e = 1) ∨ (((0 ≤ a1 ∧ a1 ≤ ρ 382 - 1) ∧ (0 ≤ a2 ∧ a2 ≤ ρ (383 + 50 * a1) + 5)) ∧ ¬ (1 ≤ a3 ∧ a3 ≤ 255) ∧ e = 2) ∨ (((0 ≤ a1 ∧ a1 ≤ ρ 382 - 1) ∧ (0 ≤ a2 ∧ a2 ≤ ρ (383 + 50 * a1) + 5)) ∧ (1 ≤ a3 ∧ a3 ≤ 255) ∧ e = 0) := by
    by_cases hh0 : ((0 ≤ a1 ∧ a1 ≤ ρ 382 - 1) ∧ (0 ≤ a2 ∧ a2 ≤ ρ (383 + 50 * a1) + 5)) <;> by_cases hh1 : (1 ≤ a3 ∧ a3 ≤ 255) <;> first | exact ⟨0, by omega⟩ | exact ⟨1, by omega⟩ | exact ⟨2, by omega⟩ | exact ⟨3, by omega⟩
  refine U_aload_n dL_law_763 rfl ?_
  refine U_aload_n dL_law_764 rfl ?_
  refine U_iload dL_law_765 rfl ?_
  refine U_iconst (v := iI (1)) dL_law_767 rfl ?_
  refine J_iadd dL_law_768 ?_
  refine J_scr hT dL_law_769 ⟨by omega, by omega⟩ hN ?_
  rw [← ea1]
  refine U_aload_n dL_law_770 rfl ?_
  refine U_iload dL_law_771 rfl ?_
  refine U_iconst (v := iI (2)) dL_law_773 rfl ?_
  refine J_iadd dL_law_774 ?_
  refine J_scr hT dL_law_775 ⟨by omega, by omega⟩ hN ?_
  rw [← ea2]
  refine U_aload_n dL_law_776 rfl ?_
  refine U_iload dL_law_777 rfl ?_
  refine U_iconst (v := iI (3)) dL_law_779 rfl ?_
  refine J_iadd dL_law_780 ?_
  refine J_scr hT dL_law_781 ⟨by omega, by omega⟩ hN ?_
  rw [← ea3]
  refine U_aload_n dL_law_782 rfl ?_
  refine U_callW (vs := [_, _, _, _, _]) (w_corrupt l W x o _ x0 g ho a1 a2 a3 (zx (ρ (383 + 50 * a1 + 4 + a2)) a3) e (fun M' => TL M' x (up ρ (383 + 50 * a1 + 4 + a2) (zx (ρ (383 + 50 * a1 + 4 + a2)) a3)) (svP ρ π sv) (svS sv) ∧ FR W M' x 1062) (fun M' h => (h.2 _ (by omega)).trans ho) (p_corrupt l hfl W x ρ π sv hTL hv hWr hRI hP a1 ha1 a2 ha2 a3 ha3 e he)) mL_126 wc_corrupt dL_law_783 rfl rfl ⟨(Nat.le_of_ble_eq_true rfl), (Nat.le_of_ble_eq_true rfl)⟩ (Nat.le_of_ble_eq_true rfl) ⟨(le_r (b := 601024) (by show k + 1 ≤ _; omega) rfl), (le_r (b := 7293034) (by show n + 6 ≤ _; omega) rfl)⟩ (fun v0 W1 sz1 hp => ?_)
  obtain ⟨rfl, hp⟩ := hp
  refine U_istore (L' := [some _, some _, some _, some _, some _, some _, none, none]) dL_law_786 (by decide) rfl ?_
  rcases hp with ⟨he0, M1, hM1, rfl⟩ | ⟨he0, rfl⟩
  · obtain ⟨hT1, hF1⟩ := hM1
    have hI2 := hI.cor (i := a1) (k := a2) (m := a3) (by omega) (by omega) (by omega)
    have hS2 : SV (cn + 1) (svP ρ π sv) (svS sv) := SV.sav hv hI hS (by omega)
    have hv2 := svS_b hv
    have hT2 : TL (mu M1 o (aL 1 (up g 0 (c32 (zx (ρ (383 + 50 * a1 + 4 + a2)) a3))))) x (up ρ (383 + 50 * a1 + 4 + a2) (zx (ρ (383 + 50 * a1 + 4 + a2)) a3)) (svP ρ π sv) (svS sv) := hT1.mv hI2 hS2 hv2.2 (fun q u v => mu_ne (by omega))
    have hR2 : RD (mu M1 o (aL 1 (up g 0 (c32 (zx (ρ (383 + 50 * a1 + 4 + a2)) a3))))) (x + 1062) ρ π sv rf hs := hR.mv (fun q u v => (mu_ne (by omega)).trans (hF1 q (by omega)))
    refine U_eqM hR2.self ?_
    refine U_aload_n dL_law_788 rfl ?_
    refine U_aload_n dL_law_789 rfl ?_
    refine U_iload dL_law_790 rfl ?_
    refine U_iconst (v := iI (1)) dL_law_792 rfl ?_
    refine J_iadd dL_law_793 ?_
    refine J_scr hT dL_law_794 ⟨by omega, by omega⟩ hN ?_
    rw [← ea1]
    refine U_aload_n dL_law_795 rfl ?_
    refine U_iload dL_law_796 rfl ?_
    refine U_iconst (v := iI (2)) dL_law_798 rfl ?_
    refine J_iadd dL_law_799 ?_
    refine J_scr hT dL_law_800 ⟨by omega, by omega⟩ hN ?_
    rw [← ea2]
    refine U_aload_n dL_law_801 rfl ?_
    refine U_iload dL_law_802 rfl ?_
    refine U_iconst (v := iI (3)) dL_law_804 rfl ?_
    refine J_iadd dL_law_805 ?_
    refine J_scr hT dL_law_806 ⟨by omega, by omega⟩ hN ?_
    rw [← ea3]
    refine U_cVP (vs := [_, _, _]) (r_corrupt l _ (x + 1062) ρ π sv rf hs hv a1 ha1 a2 ha2 a3 ha3 hWr e he) mL_129 coX11_corrupt dL_law_807 rM_0 rfl rfl rfl (by decide) (Nat.le_of_ble_eq_true rfl) (le_r (b := 601024) (by show k + 1 ≤ _; omega) rfl) (le_r (b := 7293034) (by show n + 6 ≤ _; omega) rfl) (fun v2 W2 sz2 hp2 => ?_)
    rcases hp2 with ⟨h0, -, -⟩ | ⟨-, rfl, rfl⟩
    · omega
    refine U_istore (L' := [some _, some _, some _, some _, some _, some _, some _, none]) dL_law_810 (by decide) rfl ?_
    refine U_aload_n dL_law_812 rfl ?_
    refine U_cV (vs := []) (r_thrown l _ (x + 1062) _ _ _ e hs) mL_88 coX11_thrown dL_law_813 rM_0 rfl rfl rfl (by decide) (Nat.le_of_ble_eq_true rfl) (le_r (b := 601024) (by show k + 1 ≤ _; omega) rfl) (le_r (b := 7293034) (by show n + 6 ≤ _; omega) rfl) (fun sz3 => ?_)
    refine U_iload dL_law_816 rfl ?_
    refine U_icmp_eq_t (tgt := 823) dL_law_818 (by decide) rfl ?_
    refine U_iload dL_law_823 rfl ?_
    refine J_if_ne (tgt := 840) dL_law_825 (by decide) ⟨by omega, by omega⟩ (fun h9 => absurd he0 h9) (fun _ => ?_)
    refine U_aload_n dL_law_828 rfl ?_
    refine U_iconst (v := iI (0)) dL_law_829 rfl ?_
    refine J_lald dL_law_830 ((rM_o (by omega) (by omega) (by omega)).trans mu_eq) ⟨by omega, by omega⟩ (by decide) ?_
    rw [up_s]
    refine U_iload dL_law_831 rfl ?_
    refine J_i2lc dL_law_833 ?_
    refine U_lcE (tgt := 840) rfl dL_law_834 dL_law_835 (by decide) ?_
    refine U_goto (tgt := 1524) dL_law_840 (by decide) ?_
    exact U_wk' (next _ _ _ _ _ _ _ _ _ (LW.of hT2 mu_eq hI2 hS2 hv2 hxo) (by show k + 1 ≤ _; omega) (by show n + 6 ≤ _; omega)) ⟨rfl, rfl, rfl, rfl, rfl, trivial⟩
  · refine U_eqM hR.self ?_
    refine U_aload_n dL_law_788 rfl ?_
    refine U_aload_n dL_law_789 rfl ?_
    refine U_iload dL_law_790 rfl ?_
    refine U_iconst (v := iI (1)) dL_law_792 rfl ?_
    refine J_iadd dL_law_793 ?_
    refine J_scr hT dL_law_794 ⟨by omega, by omega⟩ hN ?_
    rw [← ea1]
    refine U_aload_n dL_law_795 rfl ?_
    refine U_iload dL_law_796 rfl ?_
    refine U_iconst (v := iI (2)) dL_law_798 rfl ?_
    refine J_iadd dL_law_799 ?_
    refine J_scr hT dL_law_800 ⟨by omega, by omega⟩ hN ?_
    rw [← ea2]
    refine U_aload_n dL_law_801 rfl ?_
    refine U_iload dL_law_802 rfl ?_
    refine U_iconst (v := iI (3)) dL_law_804 rfl ?_
    refine J_iadd dL_law_805 ?_
    refine J_scr hT dL_law_806 ⟨by omega, by omega⟩ hN ?_
    rw [← ea3]
    refine U_cVP (vs := [_, _, _]) (r_corrupt l _ (x + 1062) ρ π sv rf hs hv a1 ha1 a2 ha2 a3 ha3 hWr e he) mL_129 coX11_corrupt dL_law_807 rM_0 rfl rfl rfl (by decide) (Nat.le_of_ble_eq_true rfl) (le_r (b := 601024) (by show k + 1 ≤ _; omega) rfl) (le_r (b := 7293034) (by show n + 6 ≤ _; omega) rfl) (fun v2 W2 sz2 hp2 => ?_)
    obtain ⟨-, rfl, rfl⟩ := hp2.resolve_right (fun h => absurd h.1 (by omega))
    refine U_istore (L' := [some _, some _, some _, some _, some _, some _, some _, none]) dL_law_810 (by decide) rfl ?_
    refine U_aload_n dL_law_812 rfl ?_
    refine U_cV (vs := []) (r_thrown l _ (x + 1062) _ _ _ e hs) mL_88 coX11_thrown dL_law_813 rM_0 rfl rfl rfl (by decide) (Nat.le_of_ble_eq_true rfl) (le_r (b := 601024) (by show k + 1 ≤ _; omega) rfl) (le_r (b := 7293034) (by show n + 6 ≤ _; omega) rfl) (fun sz3 => ?_)
    refine U_iload dL_law_816 rfl ?_
    refine U_icmp_eq_t (tgt := 823) dL_law_818 (by decide) rfl ?_
    refine U_iload dL_law_823 rfl ?_
    refine J_if_ne (tgt := 840) dL_law_825 (by decide) ⟨by omega, by omega⟩ (fun _ => ?_) (fun h9 => absurd h9 (by omega))
    refine U_goto (tgt := 1524) dL_law_840 (by decide) ?_
    exact U_wk' (next _ _ _ _ _ _ _ _ _ (LW.of hTL ho hI1 hS1 hv hxo) (by show k + 1 ≤ _; omega) (by show n + 6 ≤ _; omega)) ⟨rfl, rfl, rfl, rfl, rfl, trivial⟩

set_option maxRecDepth 100000 in
set_option maxHeartbeats 4000000 in
theorem lw_repair (l : Launch) (hfl : l.stackTraces = false) (G : GG) (A : Nat → Prop) (T : State → Code → Array Value → Prop) (Z : List Frame → Array Value → State → State → Prop) (b N : Nat) (xs : Nat → Int32) (hT : ∀ s c args, T s c args → va_X b N xs s s.heap ∧ b < s.heap.size ∧ ¬ A b) (hN : N < 2 ^ 31) (x o : Nat) (W : ME) (ρ π : Int → Int) (sv rf hs : Int) (cn i : Int) (k n sz : Nat) (hcn : 0 ≤ cn ∧ cn ≤ 512) (hi : 0 ≤ i ∧ i + 5 ≤ N) (hk : k ≤ 600000) (hn : n ≤ 7000000) (hL : LW cn x o W ρ π sv rf hs)
    (next : ∀ (W' : ME) (ρ' π' : Int → Int) (sv' rf' hs' : Int) (k' n' sz' : Nat), LW (cn + 1) x o W' ρ' π' sv' rf' hs' → k' ≤ k + 1 → n' ≤ n + 6 → U l G A room_1 RL cL_law 8 ret T Z k' n' W' sz' 1524 [some (.ref b), some (.ref x), some (.ref (x + 1062)), some (.ref o), some (.int (iI i)), none, none, none] []) :
    U l G A room_1 RL cL_law 8 ret T Z k n W sz 843 [some (.ref b), some (.ref x), some (.ref (x + 1062)), some (.ref o), some (.int (iI i)), none, none, none] [] := by
  obtain ⟨hTL, hR, ⟨g, ho⟩, hI, hS, hv, hxo⟩ := id hL
  obtain ⟨a0, f0, x0, -⟩ := id hTL
  have hP := hS.P
  have hSI := hI.1.1
  have hXI := hI.1.2.1
  have h3 := hI.1.2.2.1
  have hPI := hI.1.2.2.2
  have hWr := hI.2.1
  have hRI := hI.2.2.1
  have hCI := hI.2.2.2
  have hQA := hSI.QA
  have hI1 : IV (cn + 1) ρ := hI.mono (by omega)
  have hS1 : SV (cn + 1) π sv := hS.mono (by omega)
  obtain ⟨a1, ea1⟩ : ∃ z, z = sx xs (i + 1) := ⟨_, rfl⟩
  have ha1 : -2147483648 ≤ a1 ∧ a1 < 2147483648 := by rw [ea1]; exact sx_r
  obtain ⟨e, he⟩ : ∃ e : Int, (¬ (0 ≤ a1 ∧ a1 ≤ ρ 382 - 1) ∧ e = 1) ∨ ((0 ≤ a1 ∧ a1 ≤ ρ 382 - 1) ∧ e = 0) := by
    by_cases hh0 : (0 ≤ a1 ∧ a1 ≤ ρ 382 - 1) <;> first | exact ⟨0, by omega⟩ | exact ⟨1, by omega⟩ | exact ⟨2, by omega⟩ | exact ⟨3, by omega⟩
  refine U_aload_n dL_law_843 rfl ?_
  refine U_aload_n dL_law_844 rfl ?_
  refine U_iload dL_law_845 rfl ?_
  refine U_iconst (v := iI (1)) dL_law_847 rfl ?_
  refine J_iadd dL_law_848 ?_
  refine J_scr hT dL_law_849 ⟨by omega, by omega⟩ hN ?_
  rw [← ea1]
  refine U_aload_n dL_law_850 rfl ?_
  refine U_callW (vs := [_, _, _]) (w_repair l W x o _ x0 g ho a1 (ckv (rlay ρ a1) a1) e (fun M' => TL M' x (rlay ρ a1) (svP ρ π sv) (svS sv) ∧ FR W M' x 1062) (fun M' h => (h.2 _ (by omega)).trans ho) (p_repair l hfl W x ρ π sv hTL hv hWr hRI hP a1 ha1 e he)) mL_130 wc_repair dL_law_851 rfl rfl ⟨(Nat.le_of_ble_eq_true rfl), (Nat.le_of_ble_eq_true rfl)⟩ (Nat.le_of_ble_eq_true rfl) ⟨(le_r (b := 601024) (by show k + 1 ≤ _; omega) rfl), (le_r (b := 7293034) (by show n + 6 ≤ _; omega) rfl)⟩ (fun v0 W1 sz1 hp => ?_)
  obtain ⟨rfl, hp⟩ := hp
  refine U_istore (L' := [some _, some _, some _, some _, some _, some _, none, none]) dL_law_854 (by decide) rfl ?_
  rcases hp with ⟨he0, M1, hM1, rfl⟩ | ⟨he0, rfl⟩
  · obtain ⟨hT1, hF1⟩ := hM1
    have hI2 := hI.rep (i := a1) (by omega)
    have hS2 : SV (cn + 1) (svP ρ π sv) (svS sv) := SV.sav hv hI hS (by omega)
    have hv2 := svS_b hv
    have hT2 : TL (mu M1 o (aL 1 (up g 0 (c32 (ckv (rlay ρ a1) a1))))) x (rlay ρ a1) (svP ρ π sv) (svS sv) := hT1.mv hI2 hS2 hv2.2 (fun q u v => mu_ne (by omega))
    have hR2 : RD (mu M1 o (aL 1 (up g 0 (c32 (ckv (rlay ρ a1) a1))))) (x + 1062) ρ π sv rf hs := hR.mv (fun q u v => (mu_ne (by omega)).trans (hF1 q (by omega)))
    refine U_eqM hR2.self ?_
    refine U_aload_n dL_law_856 rfl ?_
    refine U_aload_n dL_law_857 rfl ?_
    refine U_iload dL_law_858 rfl ?_
    refine U_iconst (v := iI (1)) dL_law_860 rfl ?_
    refine J_iadd dL_law_861 ?_
    refine J_scr hT dL_law_862 ⟨by omega, by omega⟩ hN ?_
    rw [← ea1]
    refine U_cVP (vs := [_]) (r_repair l _ (x + 1062) ρ π sv rf hs hv a1 ha1 hWr e he) mL_132 coX11_repair dL_law_863 rM_0 rfl rfl rfl (by decide) (Nat.le_of_ble_eq_true rfl) (le_r (b := 601024) (by show k + 1 ≤ _; omega) rfl) (le_r (b := 7293034) (by show n + 6 ≤ _; omega) rfl) (fun v2 W2 sz2 hp2 => ?_)
    rcases hp2 with ⟨h0, -, -⟩ | ⟨-, rfl, rfl⟩
    · omega
    refine U_istore (L' := [some _, some _, some _, some _, some _, some _, some _, none]) dL_law_866 (by decide) rfl ?_
    refine U_aload_n dL_law_868 rfl ?_
    refine U_cV (vs := []) (r_thrown l _ (x + 1062) _ _ _ e hs) mL_88 coX11_thrown dL_law_869 rM_0 rfl rfl rfl (by decide) (Nat.le_of_ble_eq_true rfl) (le_r (b := 601024) (by show k + 1 ≤ _; omega) rfl) (le_r (b := 7293034) (by show n + 6 ≤ _; omega) rfl) (fun sz3 => ?_)
    refine U_iload dL_law_872 rfl ?_
    refine U_icmp_eq_t (tgt := 879) dL_law_874 (by decide) rfl ?_
    refine U_iload dL_law_879 rfl ?_
    refine J_if_ne (tgt := 896) dL_law_881 (by decide) ⟨by omega, by omega⟩ (fun h9 => absurd he0 h9) (fun _ => ?_)
    refine U_aload_n dL_law_884 rfl ?_
    refine U_iconst (v := iI (0)) dL_law_885 rfl ?_
    refine J_lald dL_law_886 ((rM_o (by omega) (by omega) (by omega)).trans mu_eq) ⟨by omega, by omega⟩ (by decide) ?_
    rw [up_s]
    refine U_iload dL_law_887 rfl ?_
    refine J_i2lc dL_law_889 ?_
    refine U_lcE (tgt := 896) rfl dL_law_890 dL_law_891 (by decide) ?_
    refine U_goto (tgt := 1524) dL_law_896 (by decide) ?_
    exact U_wk' (next _ _ _ _ _ _ _ _ _ (LW.of hT2 mu_eq hI2 hS2 hv2 hxo) (by show k + 1 ≤ _; omega) (by show n + 6 ≤ _; omega)) ⟨rfl, rfl, rfl, rfl, rfl, trivial⟩
  · refine U_eqM hR.self ?_
    refine U_aload_n dL_law_856 rfl ?_
    refine U_aload_n dL_law_857 rfl ?_
    refine U_iload dL_law_858 rfl ?_
    refine U_iconst (v := iI (1)) dL_law_860 rfl ?_
    refine J_iadd dL_law_861 ?_
    refine J_scr hT dL_law_862 ⟨by omega, by omega⟩ hN ?_
    rw [← ea1]
    refine U_cVP (vs := [_]) (r_repair l _ (x + 1062) ρ π sv rf hs hv a1 ha1 hWr e he) mL_132 coX11_repair dL_law_863 rM_0 rfl rfl rfl (by decide) (Nat.le_of_ble_eq_true rfl) (le_r (b := 601024) (by show k + 1 ≤ _; omega) rfl) (le_r (b := 7293034) (by show n + 6 ≤ _; omega) rfl) (fun v2 W2 sz2 hp2 => ?_)
    obtain ⟨-, rfl, rfl⟩ := hp2.resolve_right (fun h => absurd h.1 (by omega))
    refine U_istore (L' := [some _, some _, some _, some _, some _, some _, some _, none]) dL_law_866 (by decide) rfl ?_
    refine U_aload_n dL_law_868 rfl ?_
    refine U_cV (vs := []) (r_thrown l _ (x + 1062) _ _ _ e hs) mL_88 coX11_thrown dL_law_869 rM_0 rfl rfl rfl (by decide) (Nat.le_of_ble_eq_true rfl) (le_r (b := 601024) (by show k + 1 ≤ _; omega) rfl) (le_r (b := 7293034) (by show n + 6 ≤ _; omega) rfl) (fun sz3 => ?_)
    refine U_iload dL_law_872 rfl ?_
    refine U_icmp_eq_t (tgt := 879) dL_law_874 (by decide) rfl ?_
    refine U_iload dL_law_879 rfl ?_
    refine J_if_ne (tgt := 896) dL_law_881 (by decide) ⟨by omega, by omega⟩ (fun _ => ?_) (fun h9 => absurd h9 (by omega))
    refine U_goto (tgt := 1524) dL_law_896 (by decide) ?_
    exact U_wk' (next _ _ _ _ _ _ _ _ _ (LW.of hTL ho hI1 hS1 hv hxo) (by show k + 1 ≤ _; omega) (by show n + 6 ≤ _; omega)) ⟨rfl, rfl, rfl, rfl, rfl, trivial⟩

set_option maxRecDepth 100000 in
set_option maxHeartbeats 4000000 in
theorem lw_lose (l : Launch) (hfl : l.stackTraces = false) (G : GG) (A : Nat → Prop) (T : State → Code → Array Value → Prop) (Z : List Frame → Array Value → State → State → Prop) (b N : Nat) (xs : Nat → Int32) (hT : ∀ s c args, T s c args → va_X b N xs s s.heap ∧ b < s.heap.size ∧ ¬ A b) (hN : N < 2 ^ 31) (x o : Nat) (W : ME) (ρ π : Int → Int) (sv rf hs : Int) (cn i : Int) (k n sz : Nat) (hcn : 0 ≤ cn ∧ cn ≤ 512) (hi : 0 ≤ i ∧ i + 5 ≤ N) (hk : k ≤ 600000) (hn : n ≤ 7000000) (hL : LW cn x o W ρ π sv rf hs)
    (next : ∀ (W' : ME) (ρ' π' : Int → Int) (sv' rf' hs' : Int) (k' n' sz' : Nat), LW (cn + 1) x o W' ρ' π' sv' rf' hs' → k' ≤ k + 1 → n' ≤ n + 6 → U l G A room_1 RL cL_law 8 ret T Z k' n' W' sz' 1524 [some (.ref b), some (.ref x), some (.ref (x + 1062)), some (.ref o), some (.int (iI i)), none, none, none] []) :
    U l G A room_1 RL cL_law 8 ret T Z k n W sz 899 [some (.ref b), some (.ref x), some (.ref (x + 1062)), some (.ref o), some (.int (iI i)), none, none, none] [] := by
  obtain ⟨hTL, hR, ⟨g, ho⟩, hI, hS, hv, hxo⟩ := id hL
  obtain ⟨a0, f0, x0, -⟩ := id hTL
  have hP := hS.P
  have hSI := hI.1.1
  have hXI := hI.1.2.1
  have h3 := hI.1.2.2.1
  have hPI := hI.1.2.2.2
  have hWr := hI.2.1
  have hRI := hI.2.2.1
  have hCI := hI.2.2.2
  have hQA := hSI.QA
  have hI1 : IV (cn + 1) ρ := hI.mono (by omega)
  have hS1 : SV (cn + 1) π sv := hS.mono (by omega)
  obtain ⟨a1, ea1⟩ : ∃ z, z = sx xs (i + 1) := ⟨_, rfl⟩
  have ha1 : -2147483648 ≤ a1 ∧ a1 < 2147483648 := by rw [ea1]; exact sx_r
  obtain ⟨e, he⟩ : ∃ e : Int, (¬ (0 ≤ a1 ∧ a1 ≤ ρ 382 - 1) ∧ e = 1) ∨ ((0 ≤ a1 ∧ a1 ≤ ρ 382 - 1) ∧ e = 0) := by
    by_cases hh0 : (0 ≤ a1 ∧ a1 ≤ ρ 382 - 1) <;> first | exact ⟨0, by omega⟩ | exact ⟨1, by omega⟩ | exact ⟨2, by omega⟩ | exact ⟨3, by omega⟩
  refine U_aload_n dL_law_899 rfl ?_
  refine U_aload_n dL_law_900 rfl ?_
  refine U_iload dL_law_901 rfl ?_
  refine U_iconst (v := iI (1)) dL_law_903 rfl ?_
  refine J_iadd dL_law_904 ?_
  refine J_scr hT dL_law_905 ⟨by omega, by omega⟩ hN ?_
  rw [← ea1]
  refine U_aload_n dL_law_906 rfl ?_
  refine U_callW (vs := [_, _, _]) (w_lose l W x o _ x0 g ho a1 (lsum (up ρ (383 + 50 * a1 + 1) 1) (ρ 382).toNat) e (fun M' => TL M' x (up ρ (383 + 50 * a1 + 1) 1) (svP ρ π sv) (svS sv) ∧ FR W M' x 1062) (fun M' h => (h.2 _ (by omega)).trans ho) (p_lose l hfl W x ρ π sv hTL hv hWr hRI hP a1 ha1 e he)) mL_133 wc_lose dL_law_907 rfl rfl ⟨(Nat.le_of_ble_eq_true rfl), (Nat.le_of_ble_eq_true rfl)⟩ (Nat.le_of_ble_eq_true rfl) ⟨(le_r (b := 601024) (by show k + 1 ≤ _; omega) rfl), (le_r (b := 7293034) (by show n + 6 ≤ _; omega) rfl)⟩ (fun v0 W1 sz1 hp => ?_)
  obtain ⟨rfl, hp⟩ := hp
  refine U_istore (L' := [some _, some _, some _, some _, some _, some _, none, none]) dL_law_910 (by decide) rfl ?_
  rcases hp with ⟨he0, M1, hM1, rfl⟩ | ⟨he0, rfl⟩
  · obtain ⟨hT1, hF1⟩ := hM1
    have hI2 := hI.los (i := a1) (by omega)
    have hS2 : SV (cn + 1) (svP ρ π sv) (svS sv) := SV.sav hv hI hS (by omega)
    have hv2 := svS_b hv
    have hT2 : TL (mu M1 o (aL 1 (up g 0 (c32 (lsum (up ρ (383 + 50 * a1 + 1) 1) (ρ 382).toNat))))) x (up ρ (383 + 50 * a1 + 1) 1) (svP ρ π sv) (svS sv) := hT1.mv hI2 hS2 hv2.2 (fun q u v => mu_ne (by omega))
    have hR2 : RD (mu M1 o (aL 1 (up g 0 (c32 (lsum (up ρ (383 + 50 * a1 + 1) 1) (ρ 382).toNat))))) (x + 1062) ρ π sv rf hs := hR.mv (fun q u v => (mu_ne (by omega)).trans (hF1 q (by omega)))
    refine U_eqM hR2.self ?_
    refine U_aload_n dL_law_912 rfl ?_
    refine U_aload_n dL_law_913 rfl ?_
    refine U_iload dL_law_914 rfl ?_
    refine U_iconst (v := iI (1)) dL_law_916 rfl ?_
    refine J_iadd dL_law_917 ?_
    refine J_scr hT dL_law_918 ⟨by omega, by omega⟩ hN ?_
    rw [← ea1]
    refine U_cVP (vs := [_]) (r_lose l _ (x + 1062) ρ π sv rf hs hv a1 ha1 hWr e he) mL_135 coX11_lose dL_law_919 rM_0 rfl rfl rfl (by decide) (Nat.le_of_ble_eq_true rfl) (le_r (b := 601024) (by show k + 1 ≤ _; omega) rfl) (le_r (b := 7293034) (by show n + 6 ≤ _; omega) rfl) (fun v2 W2 sz2 hp2 => ?_)
    rcases hp2 with ⟨h0, -, -⟩ | ⟨-, rfl, rfl⟩
    · omega
    refine U_istore (L' := [some _, some _, some _, some _, some _, some _, some _, none]) dL_law_922 (by decide) rfl ?_
    refine U_aload_n dL_law_924 rfl ?_
    refine U_cV (vs := []) (r_thrown l _ (x + 1062) _ _ _ e hs) mL_88 coX11_thrown dL_law_925 rM_0 rfl rfl rfl (by decide) (Nat.le_of_ble_eq_true rfl) (le_r (b := 601024) (by show k + 1 ≤ _; omega) rfl) (le_r (b := 7293034) (by show n + 6 ≤ _; omega) rfl) (fun sz3 => ?_)
    refine U_iload dL_law_928 rfl ?_
    refine U_icmp_eq_t (tgt := 935) dL_law_930 (by decide) rfl ?_
    refine U_iload dL_law_935 rfl ?_
    refine J_if_ne (tgt := 952) dL_law_937 (by decide) ⟨by omega, by omega⟩ (fun h9 => absurd he0 h9) (fun _ => ?_)
    refine U_aload_n dL_law_940 rfl ?_
    refine U_iconst (v := iI (0)) dL_law_941 rfl ?_
    refine J_lald dL_law_942 ((rM_o (by omega) (by omega) (by omega)).trans mu_eq) ⟨by omega, by omega⟩ (by decide) ?_
    rw [up_s]
    refine U_iload dL_law_943 rfl ?_
    refine J_i2lc dL_law_945 ?_
    refine U_lcE (tgt := 952) rfl dL_law_946 dL_law_947 (by decide) ?_
    refine U_goto (tgt := 1524) dL_law_952 (by decide) ?_
    exact U_wk' (next _ _ _ _ _ _ _ _ _ (LW.of hT2 mu_eq hI2 hS2 hv2 hxo) (by show k + 1 ≤ _; omega) (by show n + 6 ≤ _; omega)) ⟨rfl, rfl, rfl, rfl, rfl, trivial⟩
  · refine U_eqM hR.self ?_
    refine U_aload_n dL_law_912 rfl ?_
    refine U_aload_n dL_law_913 rfl ?_
    refine U_iload dL_law_914 rfl ?_
    refine U_iconst (v := iI (1)) dL_law_916 rfl ?_
    refine J_iadd dL_law_917 ?_
    refine J_scr hT dL_law_918 ⟨by omega, by omega⟩ hN ?_
    rw [← ea1]
    refine U_cVP (vs := [_]) (r_lose l _ (x + 1062) ρ π sv rf hs hv a1 ha1 hWr e he) mL_135 coX11_lose dL_law_919 rM_0 rfl rfl rfl (by decide) (Nat.le_of_ble_eq_true rfl) (le_r (b := 601024) (by show k + 1 ≤ _; omega) rfl) (le_r (b := 7293034) (by show n + 6 ≤ _; omega) rfl) (fun v2 W2 sz2 hp2 => ?_)
    obtain ⟨-, rfl, rfl⟩ := hp2.resolve_right (fun h => absurd h.1 (by omega))
    refine U_istore (L' := [some _, some _, some _, some _, some _, some _, some _, none]) dL_law_922 (by decide) rfl ?_
    refine U_aload_n dL_law_924 rfl ?_
    refine U_cV (vs := []) (r_thrown l _ (x + 1062) _ _ _ e hs) mL_88 coX11_thrown dL_law_925 rM_0 rfl rfl rfl (by decide) (Nat.le_of_ble_eq_true rfl) (le_r (b := 601024) (by show k + 1 ≤ _; omega) rfl) (le_r (b := 7293034) (by show n + 6 ≤ _; omega) rfl) (fun sz3 => ?_)
    refine U_iload dL_law_928 rfl ?_
    refine U_icmp_eq_t (tgt := 935) dL_law_930 (by decide) rfl ?_
    refine U_iload dL_law_935 rfl ?_
    refine J_if_ne (tgt := 952) dL_law_937 (by decide) ⟨by omega, by omega⟩ (fun _ => ?_) (fun h9 => absurd h9 (by omega))
    refine U_goto (tgt := 1524) dL_law_952 (by decide) ?_
    exact U_wk' (next _ _ _ _ _ _ _ _ _ (LW.of hTL ho hI1 hS1 hv hxo) (by show k + 1 ≤ _; omega) (by show n + 6 ≤ _; omega)) ⟨rfl, rfl, rfl, rfl, rfl, trivial⟩

set_option maxRecDepth 100000 in
set_option maxHeartbeats 4000000 in
theorem lw_receive (l : Launch) (hfl : l.stackTraces = false) (G : GG) (A : Nat → Prop) (T : State → Code → Array Value → Prop) (Z : List Frame → Array Value → State → State → Prop) (b N : Nat) (xs : Nat → Int32) (hT : ∀ s c args, T s c args → va_X b N xs s s.heap ∧ b < s.heap.size ∧ ¬ A b) (hN : N < 2 ^ 31) (x o : Nat) (W : ME) (ρ π : Int → Int) (sv rf hs : Int) (cn i : Int) (k n sz : Nat) (hcn : 0 ≤ cn ∧ cn ≤ 512) (hi : 0 ≤ i ∧ i + 5 ≤ N) (hk : k ≤ 600000) (hn : n ≤ 7000000) (hL : LW cn x o W ρ π sv rf hs)
    (next : ∀ (W' : ME) (ρ' π' : Int → Int) (sv' rf' hs' : Int) (k' n' sz' : Nat), LW (cn + 1) x o W' ρ' π' sv' rf' hs' → k' ≤ k + 1 → n' ≤ n + 6 → U l G A room_1 RL cL_law 8 ret T Z k' n' W' sz' 1524 [some (.ref b), some (.ref x), some (.ref (x + 1062)), some (.ref o), some (.int (iI i)), none, none, none] []) :
    U l G A room_1 RL cL_law 8 ret T Z k n W sz 955 [some (.ref b), some (.ref x), some (.ref (x + 1062)), some (.ref o), some (.int (iI i)), none, none, none] [] := by
  obtain ⟨hTL, hR, ⟨g, ho⟩, hI, hS, hv, hxo⟩ := id hL
  obtain ⟨a0, f0, x0, -⟩ := id hTL
  have hP := hS.P
  have hSI := hI.1.1
  have hXI := hI.1.2.1
  have h3 := hI.1.2.2.1
  have hPI := hI.1.2.2.2
  have hWr := hI.2.1
  have hRI := hI.2.2.1
  have hCI := hI.2.2.2
  have hQA := hSI.QA
  have hI1 : IV (cn + 1) ρ := hI.mono (by omega)
  have hS1 : SV (cn + 1) π sv := hS.mono (by omega)
  obtain ⟨a1, ea1⟩ : ∃ z, z = sx xs (i + 1) := ⟨_, rfl⟩
  have ha1 : -2147483648 ≤ a1 ∧ a1 < 2147483648 := by rw [ea1]; exact sx_r
  obtain ⟨e, he⟩ : ∃ e : Int, (¬ (1 ≤ a1 ∧ a1 ≤ 60) ∧ e = 1) ∨ ((1 ≤ a1 ∧ a1 ≤ 60) ∧ ρ 382 < a1 ∧ e = 2) ∨ ((1 ≤ a1 ∧ a1 ≤ 60) ∧ a1 ≤ ρ 382 ∧ e = 0) := by
    by_cases hh0 : (1 ≤ a1 ∧ a1 ≤ 60) <;> by_cases hh1 : ρ 382 < a1 <;> first | exact ⟨0, by omega⟩ | exact ⟨1, by omega⟩ | exact ⟨2, by omega⟩ | exact ⟨3, by omega⟩
  refine U_aload_n dL_law_955 rfl ?_
  refine U_aload_n dL_law_956 rfl ?_
  refine U_iload dL_law_957 rfl ?_
  refine U_iconst (v := iI (1)) dL_law_959 rfl ?_
  refine J_iadd dL_law_960 ?_
  refine J_scr hT dL_law_961 ⟨by omega, by omega⟩ hN ?_
  rw [← ea1]
  refine U_aload_n dL_law_962 rfl ?_
  refine U_callW (vs := [_, _, _]) (w_receive l W x o _ x0 g ho a1 (rvC ρ a1.toNat) e (fun M' => TL M' x (rrv ρ a1) (svP ρ π sv) (svS sv) ∧ FR W M' x 1062) (fun M' h => (h.2 _ (by omega)).trans ho) (p_receive l hfl W x ρ π sv hTL hv hWr hRI hP (3000 * cn) hCI (by omega) a1 ha1 e he)) mL_136 wc_receive dL_law_963 rfl rfl ⟨(Nat.le_of_ble_eq_true rfl), (Nat.le_of_ble_eq_true rfl)⟩ (Nat.le_of_ble_eq_true rfl) ⟨(le_r (b := 601024) (by show k + 1 ≤ _; omega) rfl), (le_r (b := 7293034) (by show n + 6 ≤ _; omega) rfl)⟩ (fun v0 W1 sz1 hp => ?_)
  obtain ⟨rfl, hp⟩ := hp
  refine U_istore (L' := [some _, some _, some _, some _, some _, some _, none, none]) dL_law_966 (by decide) rfl ?_
  rcases hp with ⟨he0, M1, hM1, rfl⟩ | ⟨he0, rfl⟩
  · obtain ⟨hT1, hF1⟩ := hM1
    have hI2 := hI.rcv (k := a1) (by omega)
    have hS2 : SV (cn + 1) (svP ρ π sv) (svS sv) := SV.sav hv hI hS (by omega)
    have hv2 := svS_b hv
    have hT2 : TL (mu M1 o (aL 1 (up g 0 (c32 (rvC ρ a1.toNat))))) x (rrv ρ a1) (svP ρ π sv) (svS sv) := hT1.mv hI2 hS2 hv2.2 (fun q u v => mu_ne (by omega))
    have hR2 : RD (mu M1 o (aL 1 (up g 0 (c32 (rvC ρ a1.toNat))))) (x + 1062) ρ π sv rf hs := hR.mv (fun q u v => (mu_ne (by omega)).trans (hF1 q (by omega)))
    refine U_eqM hR2.self ?_
    refine U_aload_n dL_law_968 rfl ?_
    refine U_aload_n dL_law_969 rfl ?_
    refine U_iload dL_law_970 rfl ?_
    refine U_iconst (v := iI (1)) dL_law_972 rfl ?_
    refine J_iadd dL_law_973 ?_
    refine J_scr hT dL_law_974 ⟨by omega, by omega⟩ hN ?_
    rw [← ea1]
    refine U_cVP (vs := [_]) (r_receive l _ (x + 1062) ρ π sv rf hs hv a1 ha1 hWr hRI e he) mL_138 coX11_receive dL_law_975 rM_0 rfl rfl rfl (by decide) (Nat.le_of_ble_eq_true rfl) (le_r (b := 601024) (by show k + 1 ≤ _; omega) rfl) (le_r (b := 7293034) (by show n + 6 ≤ _; omega) rfl) (fun v2 W2 sz2 hp2 => ?_)
    rcases hp2 with ⟨h0, -, -⟩ | ⟨-, rfl, rfl⟩
    · omega
    refine U_istore (L' := [some _, some _, some _, some _, some _, some _, some _, none]) dL_law_978 (by decide) rfl ?_
    refine U_aload_n dL_law_980 rfl ?_
    refine U_cV (vs := []) (r_thrown l _ (x + 1062) _ _ _ e hs) mL_88 coX11_thrown dL_law_981 rM_0 rfl rfl rfl (by decide) (Nat.le_of_ble_eq_true rfl) (le_r (b := 601024) (by show k + 1 ≤ _; omega) rfl) (le_r (b := 7293034) (by show n + 6 ≤ _; omega) rfl) (fun sz3 => ?_)
    refine U_iload dL_law_984 rfl ?_
    refine U_icmp_eq_t (tgt := 991) dL_law_986 (by decide) rfl ?_
    refine U_iload dL_law_991 rfl ?_
    refine J_if_ne (tgt := 1008) dL_law_993 (by decide) ⟨by omega, by omega⟩ (fun h9 => absurd he0 h9) (fun _ => ?_)
    refine U_aload_n dL_law_996 rfl ?_
    refine U_iconst (v := iI (0)) dL_law_997 rfl ?_
    refine J_lald dL_law_998 ((rM_o (by omega) (by omega) (by omega)).trans mu_eq) ⟨by omega, by omega⟩ (by decide) ?_
    rw [up_s]
    refine U_iload dL_law_999 rfl ?_
    refine J_i2lc dL_law_1001 ?_
    refine U_lcE (tgt := 1008) rfl dL_law_1002 dL_law_1003 (by decide) ?_
    refine U_goto (tgt := 1524) dL_law_1008 (by decide) ?_
    exact U_wk' (next _ _ _ _ _ _ _ _ _ (LW.of hT2 mu_eq hI2 hS2 hv2 hxo) (by show k + 1 ≤ _; omega) (by show n + 6 ≤ _; omega)) ⟨rfl, rfl, rfl, rfl, rfl, trivial⟩
  · refine U_eqM hR.self ?_
    refine U_aload_n dL_law_968 rfl ?_
    refine U_aload_n dL_law_969 rfl ?_
    refine U_iload dL_law_970 rfl ?_
    refine U_iconst (v := iI (1)) dL_law_972 rfl ?_
    refine J_iadd dL_law_973 ?_
    refine J_scr hT dL_law_974 ⟨by omega, by omega⟩ hN ?_
    rw [← ea1]
    refine U_cVP (vs := [_]) (r_receive l _ (x + 1062) ρ π sv rf hs hv a1 ha1 hWr hRI e he) mL_138 coX11_receive dL_law_975 rM_0 rfl rfl rfl (by decide) (Nat.le_of_ble_eq_true rfl) (le_r (b := 601024) (by show k + 1 ≤ _; omega) rfl) (le_r (b := 7293034) (by show n + 6 ≤ _; omega) rfl) (fun v2 W2 sz2 hp2 => ?_)
    obtain ⟨-, rfl, rfl⟩ := hp2.resolve_right (fun h => absurd h.1 (by omega))
    refine U_istore (L' := [some _, some _, some _, some _, some _, some _, some _, none]) dL_law_978 (by decide) rfl ?_
    refine U_aload_n dL_law_980 rfl ?_
    refine U_cV (vs := []) (r_thrown l _ (x + 1062) _ _ _ e hs) mL_88 coX11_thrown dL_law_981 rM_0 rfl rfl rfl (by decide) (Nat.le_of_ble_eq_true rfl) (le_r (b := 601024) (by show k + 1 ≤ _; omega) rfl) (le_r (b := 7293034) (by show n + 6 ≤ _; omega) rfl) (fun sz3 => ?_)
    refine U_iload dL_law_984 rfl ?_
    refine U_icmp_eq_t (tgt := 991) dL_law_986 (by decide) rfl ?_
    refine U_iload dL_law_991 rfl ?_
    refine J_if_ne (tgt := 1008) dL_law_993 (by decide) ⟨by omega, by omega⟩ (fun _ => ?_) (fun h9 => absurd h9 (by omega))
    refine U_goto (tgt := 1524) dL_law_1008 (by decide) ?_
    exact U_wk' (next _ _ _ _ _ _ _ _ _ (LW.of hTL ho hI1 hS1 hv hxo) (by show k + 1 ≤ _; omega) (by show n + 6 ≤ _; omega)) ⟨rfl, rfl, rfl, rfl, rfl, trivial⟩

set_option maxRecDepth 100000 in
set_option maxHeartbeats 4000000 in
theorem lw_count (l : Launch) (hfl : l.stackTraces = false) (G : GG) (A : Nat → Prop) (T : State → Code → Array Value → Prop) (Z : List Frame → Array Value → State → State → Prop) (b N : Nat) (xs : Nat → Int32) (hT : ∀ s c args, T s c args → va_X b N xs s s.heap ∧ b < s.heap.size ∧ ¬ A b) (hN : N < 2 ^ 31) (x o : Nat) (W : ME) (ρ π : Int → Int) (sv rf hs : Int) (cn i : Int) (k n sz : Nat) (hcn : 0 ≤ cn ∧ cn ≤ 512) (hi : 0 ≤ i ∧ i + 5 ≤ N) (hk : k ≤ 600000) (hn : n ≤ 7000000) (hL : LW cn x o W ρ π sv rf hs)
    (next : ∀ (W' : ME) (ρ' π' : Int → Int) (sv' rf' hs' : Int) (k' n' sz' : Nat), LW (cn + 1) x o W' ρ' π' sv' rf' hs' → k' ≤ k + 1 → n' ≤ n + 6 → U l G A room_1 RL cL_law 8 ret T Z k' n' W' sz' 1524 [some (.ref b), some (.ref x), some (.ref (x + 1062)), some (.ref o), some (.int (iI i)), none, none, none] []) :
    U l G A room_1 RL cL_law 8 ret T Z k n W sz 1011 [some (.ref b), some (.ref x), some (.ref (x + 1062)), some (.ref o), some (.int (iI i)), none, none, none] [] := by
  obtain ⟨hTL, hR, ⟨g, ho⟩, hI, hS, hv, hxo⟩ := id hL
  obtain ⟨a0, f0, x0, -⟩ := id hTL
  have hP := hS.P
  have hSI := hI.1.1
  have hXI := hI.1.2.1
  have h3 := hI.1.2.2.1
  have hPI := hI.1.2.2.2
  have hWr := hI.2.1
  have hRI := hI.2.2.1
  have hCI := hI.2.2.2
  have hQA := hSI.QA
  have hI1 : IV (cn + 1) ρ := hI.mono (by omega)
  have hS1 : SV (cn + 1) π sv := hS.mono (by omega)
  obtain ⟨a1, ea1⟩ : ∃ z, z = sx xs (i + 1) := ⟨_, rfl⟩
  have ha1 : -2147483648 ≤ a1 ∧ a1 < 2147483648 := by rw [ea1]; exact sx_r
  obtain ⟨e, he⟩ : ∃ e : Int, (¬ (0 ≤ a1 ∧ a1 ≤ 5) ∧ e = 1) ∨ ((0 ≤ a1 ∧ a1 ≤ 5) ∧ e = 0) := by
    by_cases hh0 : (0 ≤ a1 ∧ a1 ≤ 5) <;> first | exact ⟨0, by omega⟩ | exact ⟨1, by omega⟩ | exact ⟨2, by omega⟩ | exact ⟨3, by omega⟩
  refine U_aload_n dL_law_1011 rfl ?_
  refine U_aload_n dL_law_1012 rfl ?_
  refine U_iload dL_law_1013 rfl ?_
  refine U_iconst (v := iI (1)) dL_law_1015 rfl ?_
  refine J_iadd dL_law_1016 ?_
  refine J_scr hT dL_law_1017 ⟨by omega, by omega⟩ hN ?_
  rw [← ea1]
  refine U_aload_n dL_law_1018 rfl ?_
  refine U_callW (vs := [_, _, _]) (w_count l W x o _ x0 g ho a1 (ρ (3383 + a1)) e (fun M' => M' = W) (fun M' h => by rw [h]; exact ho) (p_count l hfl W x ρ π sv hTL a1 ha1 e he)) mL_139 wc_count dL_law_1019 rfl rfl ⟨(Nat.le_of_ble_eq_true rfl), (Nat.le_of_ble_eq_true rfl)⟩ (Nat.le_of_ble_eq_true rfl) ⟨(le_r (b := 601024) (by show k + 1 ≤ _; omega) rfl), (le_r (b := 7293034) (by show n + 6 ≤ _; omega) rfl)⟩ (fun v0 W1 sz1 hp => ?_)
  obtain ⟨rfl, hp⟩ := hp
  refine U_istore (L' := [some _, some _, some _, some _, some _, some _, none, none]) dL_law_1022 (by decide) rfl ?_
  rcases hp with ⟨he0, M1, hM1, rfl⟩ | ⟨he0, rfl⟩
  · subst hM1
    have hI2 := hI1
    have hS2 := hS1
    have hv2 := hv
    have hT2 : TL (mu M1 o (aL 1 (up g 0 (c32 (ρ (3383 + a1)))))) x ρ π sv := hTL.mv hI hS hv.2 (fun q u v => mu_ne (by omega))
    have hR2 : RD (mu M1 o (aL 1 (up g 0 (c32 (ρ (3383 + a1)))))) (x + 1062) ρ π sv rf hs := hR.mv (fun q u v => mu_ne (by omega))
    refine U_eqM hR2.self ?_
    refine U_aload_n dL_law_1024 rfl ?_
    refine U_aload_n dL_law_1025 rfl ?_
    refine U_iload dL_law_1026 rfl ?_
    refine U_iconst (v := iI (1)) dL_law_1028 rfl ?_
    refine J_iadd dL_law_1029 ?_
    refine J_scr hT dL_law_1030 ⟨by omega, by omega⟩ hN ?_
    rw [← ea1]
    refine U_cVP (vs := [_]) (r_count l _ (x + 1062) ρ π sv rf hs a1 ha1 e he) mL_141 coX11_count dL_law_1031 rM_0 rfl rfl rfl (by decide) (Nat.le_of_ble_eq_true rfl) (le_r (b := 601024) (by show k + 1 ≤ _; omega) rfl) (le_r (b := 7293034) (by show n + 6 ≤ _; omega) rfl) (fun v2 W2 sz2 hp2 => ?_)
    rcases hp2 with ⟨h0, -, -⟩ | ⟨-, rfl, rfl⟩
    · omega
    refine U_istore (L' := [some _, some _, some _, some _, some _, some _, some _, none]) dL_law_1034 (by decide) rfl ?_
    refine U_aload_n dL_law_1036 rfl ?_
    refine U_cV (vs := []) (r_thrown l _ (x + 1062) _ _ _ e hs) mL_88 coX11_thrown dL_law_1037 rM_0 rfl rfl rfl (by decide) (Nat.le_of_ble_eq_true rfl) (le_r (b := 601024) (by show k + 1 ≤ _; omega) rfl) (le_r (b := 7293034) (by show n + 6 ≤ _; omega) rfl) (fun sz3 => ?_)
    refine U_iload dL_law_1040 rfl ?_
    refine U_icmp_eq_t (tgt := 1047) dL_law_1042 (by decide) rfl ?_
    refine U_iload dL_law_1047 rfl ?_
    refine J_if_ne (tgt := 1064) dL_law_1049 (by decide) ⟨by omega, by omega⟩ (fun h9 => absurd he0 h9) (fun _ => ?_)
    refine U_aload_n dL_law_1052 rfl ?_
    refine U_iconst (v := iI (0)) dL_law_1053 rfl ?_
    refine J_lald dL_law_1054 ((rM_o (by omega) (by omega) (by omega)).trans mu_eq) ⟨by omega, by omega⟩ (by decide) ?_
    rw [up_s]
    refine U_iload dL_law_1055 rfl ?_
    refine J_i2lc dL_law_1057 ?_
    refine U_lcE (tgt := 1064) rfl dL_law_1058 dL_law_1059 (by decide) ?_
    refine U_goto (tgt := 1524) dL_law_1064 (by decide) ?_
    exact U_wk' (next _ _ _ _ _ _ _ _ _ (LW.of hT2 mu_eq hI2 hS2 hv2 hxo) (by show k + 1 ≤ _; omega) (by show n + 6 ≤ _; omega)) ⟨rfl, rfl, rfl, rfl, rfl, trivial⟩
  · refine U_eqM hR.self ?_
    refine U_aload_n dL_law_1024 rfl ?_
    refine U_aload_n dL_law_1025 rfl ?_
    refine U_iload dL_law_1026 rfl ?_
    refine U_iconst (v := iI (1)) dL_law_1028 rfl ?_
    refine J_iadd dL_law_1029 ?_
    refine J_scr hT dL_law_1030 ⟨by omega, by omega⟩ hN ?_
    rw [← ea1]
    refine U_cVP (vs := [_]) (r_count l _ (x + 1062) ρ π sv rf hs a1 ha1 e he) mL_141 coX11_count dL_law_1031 rM_0 rfl rfl rfl (by decide) (Nat.le_of_ble_eq_true rfl) (le_r (b := 601024) (by show k + 1 ≤ _; omega) rfl) (le_r (b := 7293034) (by show n + 6 ≤ _; omega) rfl) (fun v2 W2 sz2 hp2 => ?_)
    obtain ⟨-, rfl, rfl⟩ := hp2.resolve_right (fun h => absurd h.1 (by omega))
    refine U_istore (L' := [some _, some _, some _, some _, some _, some _, some _, none]) dL_law_1034 (by decide) rfl ?_
    refine U_aload_n dL_law_1036 rfl ?_
    refine U_cV (vs := []) (r_thrown l _ (x + 1062) _ _ _ e hs) mL_88 coX11_thrown dL_law_1037 rM_0 rfl rfl rfl (by decide) (Nat.le_of_ble_eq_true rfl) (le_r (b := 601024) (by show k + 1 ≤ _; omega) rfl) (le_r (b := 7293034) (by show n + 6 ≤ _; omega) rfl) (fun sz3 => ?_)
    refine U_iload dL_law_1040 rfl ?_
    refine U_icmp_eq_t (tgt := 1047) dL_law_1042 (by decide) rfl ?_
    refine U_iload dL_law_1047 rfl ?_
    refine J_if_ne (tgt := 1064) dL_law_1049 (by decide) ⟨by omega, by omega⟩ (fun _ => ?_) (fun h9 => absurd h9 (by omega))
    refine U_goto (tgt := 1524) dL_law_1064 (by decide) ?_
    exact U_wk' (next _ _ _ _ _ _ _ _ _ (LW.of hTL ho hI1 hS1 hv hxo) (by show k + 1 ≤ _; omega) (by show n + 6 ≤ _; omega)) ⟨rfl, rfl, rfl, rfl, rfl, trivial⟩

set_option maxRecDepth 100000 in
set_option maxHeartbeats 4000000 in
theorem lw_received (l : Launch) (hfl : l.stackTraces = false) (G : GG) (A : Nat → Prop) (T : State → Code → Array Value → Prop) (Z : List Frame → Array Value → State → State → Prop) (b N : Nat) (xs : Nat → Int32) (hT : ∀ s c args, T s c args → va_X b N xs s s.heap ∧ b < s.heap.size ∧ ¬ A b) (hN : N < 2 ^ 31) (x o : Nat) (W : ME) (ρ π : Int → Int) (sv rf hs : Int) (cn i : Int) (k n sz : Nat) (hcn : 0 ≤ cn ∧ cn ≤ 512) (hi : 0 ≤ i ∧ i + 5 ≤ N) (hk : k ≤ 600000) (hn : n ≤ 7000000) (hL : LW cn x o W ρ π sv rf hs)
    (next : ∀ (W' : ME) (ρ' π' : Int → Int) (sv' rf' hs' : Int) (k' n' sz' : Nat), LW (cn + 1) x o W' ρ' π' sv' rf' hs' → k' ≤ k + 1 → n' ≤ n + 6 → U l G A room_1 RL cL_law 8 ret T Z k' n' W' sz' 1524 [some (.ref b), some (.ref x), some (.ref (x + 1062)), some (.ref o), some (.int (iI i)), none, none, none] []) :
    U l G A room_1 RL cL_law 8 ret T Z k n W sz 1067 [some (.ref b), some (.ref x), some (.ref (x + 1062)), some (.ref o), some (.int (iI i)), none, none, none] [] := by
  obtain ⟨hTL, hR, ⟨g, ho⟩, hI, hS, hv, hxo⟩ := id hL
  obtain ⟨a0, f0, x0, -⟩ := id hTL
  have hP := hS.P
  have hSI := hI.1.1
  have hXI := hI.1.2.1
  have h3 := hI.1.2.2.1
  have hPI := hI.1.2.2.2
  have hWr := hI.2.1
  have hRI := hI.2.2.1
  have hCI := hI.2.2.2
  have hQA := hSI.QA
  have hI1 : IV (cn + 1) ρ := hI.mono (by omega)
  have hS1 : SV (cn + 1) π sv := hS.mono (by omega)
  obtain ⟨a1, ea1⟩ : ∃ z, z = sx xs (i + 1) := ⟨_, rfl⟩
  have ha1 : -2147483648 ≤ a1 ∧ a1 < 2147483648 := by rw [ea1]; exact sx_r
  obtain ⟨a2, ea2⟩ : ∃ z, z = sx xs (i + 2) := ⟨_, rfl⟩
  have ha2 : -2147483648 ≤ a2 ∧ a2 < 2147483648 := by rw [ea2]; exact sx_r
  obtain ⟨e, he⟩ : ∃ e : Int, (¬ (0 ≤ a1 ∧ a1 ≤ 3) ∧ e = 1) ∨ ((0 ≤ a1 ∧ a1 ≤ 3) ∧ ¬ (0 ≤ a2 ∧ a2 ≤ 3) ∧ e = 2) ∨ ((0 ≤ a1 ∧ a1 ≤ 3) ∧ (0 ≤ a2 ∧ a2 ≤ 3) ∧ e = 0) := by
    by_cases hh0 : (0 ≤ a1 ∧ a1 ≤ 3) <;> by_cases hh1 : (0 ≤ a2 ∧ a2 ≤ 3) <;> first | exact ⟨0, by omega⟩ | exact ⟨1, by omega⟩ | exact ⟨2, by omega⟩ | exact ⟨3, by omega⟩
  refine U_aload_n dL_law_1067 rfl ?_
  refine U_aload_n dL_law_1068 rfl ?_
  refine U_iload dL_law_1069 rfl ?_
  refine U_iconst (v := iI (1)) dL_law_1071 rfl ?_
  refine J_iadd dL_law_1072 ?_
  refine J_scr hT dL_law_1073 ⟨by omega, by omega⟩ hN ?_
  rw [← ea1]
  refine U_aload_n dL_law_1074 rfl ?_
  refine U_iload dL_law_1075 rfl ?_
  refine U_iconst (v := iI (2)) dL_law_1077 rfl ?_
  refine J_iadd dL_law_1078 ?_
  refine J_scr hT dL_law_1079 ⟨by omega, by omega⟩ hN ?_
  rw [← ea2]
  refine U_aload_n dL_law_1080 rfl ?_
  refine U_callW (vs := [_, _, _, _]) (w_received l W x o _ x0 g ho a1 a2 (rre ρ a1 a2) e (fun M' => M' = W) (fun M' h => by rw [h]; exact ho) (p_received l hfl W x ρ π sv hTL a1 ha1 a2 ha2 e he)) mL_142 wc_received dL_law_1081 rfl rfl ⟨(Nat.le_of_ble_eq_true rfl), (Nat.le_of_ble_eq_true rfl)⟩ (Nat.le_of_ble_eq_true rfl) ⟨(le_r (b := 601024) (by show k + 1 ≤ _; omega) rfl), (le_r (b := 7293034) (by show n + 6 ≤ _; omega) rfl)⟩ (fun v0 W1 sz1 hp => ?_)
  obtain ⟨rfl, hp⟩ := hp
  refine U_istore (L' := [some _, some _, some _, some _, some _, some _, none, none]) dL_law_1084 (by decide) rfl ?_
  rcases hp with ⟨he0, M1, hM1, rfl⟩ | ⟨he0, rfl⟩
  · subst hM1
    have hI2 := hI1
    have hS2 := hS1
    have hv2 := hv
    have hT2 : TL (mu M1 o (aL 1 (up g 0 (c32 (rre ρ a1 a2))))) x ρ π sv := hTL.mv hI hS hv.2 (fun q u v => mu_ne (by omega))
    have hR2 : RD (mu M1 o (aL 1 (up g 0 (c32 (rre ρ a1 a2))))) (x + 1062) ρ π sv rf hs := hR.mv (fun q u v => mu_ne (by omega))
    refine U_eqM hR2.self ?_
    refine U_aload_n dL_law_1086 rfl ?_
    refine U_aload_n dL_law_1087 rfl ?_
    refine U_iload dL_law_1088 rfl ?_
    refine U_iconst (v := iI (1)) dL_law_1090 rfl ?_
    refine J_iadd dL_law_1091 ?_
    refine J_scr hT dL_law_1092 ⟨by omega, by omega⟩ hN ?_
    rw [← ea1]
    refine U_aload_n dL_law_1093 rfl ?_
    refine U_iload dL_law_1094 rfl ?_
    refine U_iconst (v := iI (2)) dL_law_1096 rfl ?_
    refine J_iadd dL_law_1097 ?_
    refine J_scr hT dL_law_1098 ⟨by omega, by omega⟩ hN ?_
    rw [← ea2]
    refine U_cVP (vs := [_, _]) (r_received l _ (x + 1062) ρ π sv rf hs a1 ha1 a2 ha2 e he) mL_144 coX11_received dL_law_1099 rM_0 rfl rfl rfl (by decide) (Nat.le_of_ble_eq_true rfl) (le_r (b := 601024) (by show k + 1 ≤ _; omega) rfl) (le_r (b := 7293034) (by show n + 6 ≤ _; omega) rfl) (fun v2 W2 sz2 hp2 => ?_)
    rcases hp2 with ⟨h0, -, -⟩ | ⟨-, rfl, rfl⟩
    · omega
    refine U_istore (L' := [some _, some _, some _, some _, some _, some _, some _, none]) dL_law_1102 (by decide) rfl ?_
    refine U_aload_n dL_law_1104 rfl ?_
    refine U_cV (vs := []) (r_thrown l _ (x + 1062) _ _ _ e hs) mL_88 coX11_thrown dL_law_1105 rM_0 rfl rfl rfl (by decide) (Nat.le_of_ble_eq_true rfl) (le_r (b := 601024) (by show k + 1 ≤ _; omega) rfl) (le_r (b := 7293034) (by show n + 6 ≤ _; omega) rfl) (fun sz3 => ?_)
    refine U_iload dL_law_1108 rfl ?_
    refine U_icmp_eq_t (tgt := 1115) dL_law_1110 (by decide) rfl ?_
    refine U_iload dL_law_1115 rfl ?_
    refine J_if_ne (tgt := 1132) dL_law_1117 (by decide) ⟨by omega, by omega⟩ (fun h9 => absurd he0 h9) (fun _ => ?_)
    refine U_aload_n dL_law_1120 rfl ?_
    refine U_iconst (v := iI (0)) dL_law_1121 rfl ?_
    refine J_lald dL_law_1122 ((rM_o (by omega) (by omega) (by omega)).trans mu_eq) ⟨by omega, by omega⟩ (by decide) ?_
    rw [up_s]
    refine U_iload dL_law_1123 rfl ?_
    refine J_i2lc dL_law_1125 ?_
    refine U_lcE (tgt := 1132) rfl dL_law_1126 dL_law_1127 (by decide) ?_
    refine U_goto (tgt := 1524) dL_law_1132 (by decide) ?_
    exact U_wk' (next _ _ _ _ _ _ _ _ _ (LW.of hT2 mu_eq hI2 hS2 hv2 hxo) (by show k + 1 ≤ _; omega) (by show n + 6 ≤ _; omega)) ⟨rfl, rfl, rfl, rfl, rfl, trivial⟩
  · refine U_eqM hR.self ?_
    refine U_aload_n dL_law_1086 rfl ?_
    refine U_aload_n dL_law_1087 rfl ?_
    refine U_iload dL_law_1088 rfl ?_
    refine U_iconst (v := iI (1)) dL_law_1090 rfl ?_
    refine J_iadd dL_law_1091 ?_
    refine J_scr hT dL_law_1092 ⟨by omega, by omega⟩ hN ?_
    rw [← ea1]
    refine U_aload_n dL_law_1093 rfl ?_
    refine U_iload dL_law_1094 rfl ?_
    refine U_iconst (v := iI (2)) dL_law_1096 rfl ?_
    refine J_iadd dL_law_1097 ?_
    refine J_scr hT dL_law_1098 ⟨by omega, by omega⟩ hN ?_
    rw [← ea2]
    refine U_cVP (vs := [_, _]) (r_received l _ (x + 1062) ρ π sv rf hs a1 ha1 a2 ha2 e he) mL_144 coX11_received dL_law_1099 rM_0 rfl rfl rfl (by decide) (Nat.le_of_ble_eq_true rfl) (le_r (b := 601024) (by show k + 1 ≤ _; omega) rfl) (le_r (b := 7293034) (by show n + 6 ≤ _; omega) rfl) (fun v2 W2 sz2 hp2 => ?_)
    obtain ⟨-, rfl, rfl⟩ := hp2.resolve_right (fun h => absurd h.1 (by omega))
    refine U_istore (L' := [some _, some _, some _, some _, some _, some _, some _, none]) dL_law_1102 (by decide) rfl ?_
    refine U_aload_n dL_law_1104 rfl ?_
    refine U_cV (vs := []) (r_thrown l _ (x + 1062) _ _ _ e hs) mL_88 coX11_thrown dL_law_1105 rM_0 rfl rfl rfl (by decide) (Nat.le_of_ble_eq_true rfl) (le_r (b := 601024) (by show k + 1 ≤ _; omega) rfl) (le_r (b := 7293034) (by show n + 6 ≤ _; omega) rfl) (fun sz3 => ?_)
    refine U_iload dL_law_1108 rfl ?_
    refine U_icmp_eq_t (tgt := 1115) dL_law_1110 (by decide) rfl ?_
    refine U_iload dL_law_1115 rfl ?_
    refine J_if_ne (tgt := 1132) dL_law_1117 (by decide) ⟨by omega, by omega⟩ (fun _ => ?_) (fun h9 => absurd h9 (by omega))
    refine U_goto (tgt := 1524) dL_law_1132 (by decide) ?_
    exact U_wk' (next _ _ _ _ _ _ _ _ _ (LW.of hTL ho hI1 hS1 hv hxo) (by show k + 1 ≤ _; omega) (by show n + 6 ≤ _; omega)) ⟨rfl, rfl, rfl, rfl, rfl, trivial⟩

set_option maxRecDepth 100000 in
set_option maxHeartbeats 4000000 in
theorem lw_application (l : Launch) (hfl : l.stackTraces = false) (G : GG) (A : Nat → Prop) (T : State → Code → Array Value → Prop) (Z : List Frame → Array Value → State → State → Prop) (b N : Nat) (xs : Nat → Int32) (hT : ∀ s c args, T s c args → va_X b N xs s s.heap ∧ b < s.heap.size ∧ ¬ A b) (hN : N < 2 ^ 31) (x o : Nat) (W : ME) (ρ π : Int → Int) (sv rf hs : Int) (cn i : Int) (k n sz : Nat) (hcn : 0 ≤ cn ∧ cn ≤ 512) (hi : 0 ≤ i ∧ i + 5 ≤ N) (hk : k ≤ 600000) (hn : n ≤ 7000000) (hL : LW cn x o W ρ π sv rf hs)
    (next : ∀ (W' : ME) (ρ' π' : Int → Int) (sv' rf' hs' : Int) (k' n' sz' : Nat), LW (cn + 1) x o W' ρ' π' sv' rf' hs' → k' ≤ k + 1 → n' ≤ n + 6 → U l G A room_1 RL cL_law 8 ret T Z k' n' W' sz' 1524 [some (.ref b), some (.ref x), some (.ref (x + 1062)), some (.ref o), some (.int (iI i)), none, none, none] []) :
    U l G A room_1 RL cL_law 8 ret T Z k n W sz 1135 [some (.ref b), some (.ref x), some (.ref (x + 1062)), some (.ref o), some (.int (iI i)), none, none, none] [] := by
  obtain ⟨hTL, hR, ⟨g, ho⟩, hI, hS, hv, hxo⟩ := id hL
  obtain ⟨a0, f0, x0, -⟩ := id hTL
  have hP := hS.P
  have hSI := hI.1.1
  have hXI := hI.1.2.1
  have h3 := hI.1.2.2.1
  have hPI := hI.1.2.2.2
  have hWr := hI.2.1
  have hRI := hI.2.2.1
  have hCI := hI.2.2.2
  have hQA := hSI.QA
  have hI1 : IV (cn + 1) ρ := hI.mono (by omega)
  have hS1 : SV (cn + 1) π sv := hS.mono (by omega)
  obtain ⟨a1, ea1⟩ : ∃ z, z = sx xs (i + 1) := ⟨_, rfl⟩
  have ha1 : -2147483648 ≤ a1 ∧ a1 < 2147483648 := by rw [ea1]; exact sx_r
  obtain ⟨a2, ea2⟩ : ∃ z, z = sx xs (i + 2) := ⟨_, rfl⟩
  have ha2 : -2147483648 ≤ a2 ∧ a2 < 2147483648 := by rw [ea2]; exact sx_r
  obtain ⟨e, he⟩ : ∃ e : Int, (¬ (0 ≤ a1 ∧ a1 ≤ 14) ∧ e = 1) ∨ ((0 ≤ a1 ∧ a1 ≤ 14) ∧ ¬ (0 ≤ a2 ∧ a2 ≤ 2) ∧ e = 2) ∨ ((0 ≤ a1 ∧ a1 ≤ 14) ∧ (0 ≤ a2 ∧ a2 ≤ 2) ∧ e = 0) := by
    by_cases hh0 : (0 ≤ a1 ∧ a1 ≤ 14) <;> by_cases hh1 : (0 ≤ a2 ∧ a2 ≤ 2) <;> first | exact ⟨0, by omega⟩ | exact ⟨1, by omega⟩ | exact ⟨2, by omega⟩ | exact ⟨3, by omega⟩
  refine U_aload_n dL_law_1135 rfl ?_
  refine U_aload_n dL_law_1136 rfl ?_
  refine U_iload dL_law_1137 rfl ?_
  refine U_iconst (v := iI (1)) dL_law_1139 rfl ?_
  refine J_iadd dL_law_1140 ?_
  refine J_scr hT dL_law_1141 ⟨by omega, by omega⟩ hN ?_
  rw [← ea1]
  refine U_aload_n dL_law_1142 rfl ?_
  refine U_iload dL_law_1143 rfl ?_
  refine U_iconst (v := iI (2)) dL_law_1145 rfl ?_
  refine J_iadd dL_law_1146 ?_
  refine J_scr hT dL_law_1147 ⟨by omega, by omega⟩ hN ?_
  rw [← ea2]
  refine U_aload_n dL_law_1148 rfl ?_
  refine U_callW (vs := [_, _, _, _]) (w_application l W x o _ x0 g ho a1 a2 (ρ (4443 + 4 * a1 + a2)) e (fun M' => M' = W) (fun M' h => by rw [h]; exact ho) (p_application l hfl W x ρ π sv hTL a1 ha1 a2 ha2 e he)) mL_145 wc_application dL_law_1149 rfl rfl ⟨(Nat.le_of_ble_eq_true rfl), (Nat.le_of_ble_eq_true rfl)⟩ (Nat.le_of_ble_eq_true rfl) ⟨(le_r (b := 601024) (by show k + 1 ≤ _; omega) rfl), (le_r (b := 7293034) (by show n + 6 ≤ _; omega) rfl)⟩ (fun v0 W1 sz1 hp => ?_)
  obtain ⟨rfl, hp⟩ := hp
  refine U_istore (L' := [some _, some _, some _, some _, some _, some _, none, none]) dL_law_1152 (by decide) rfl ?_
  rcases hp with ⟨he0, M1, hM1, rfl⟩ | ⟨he0, rfl⟩
  · subst hM1
    have hI2 := hI1
    have hS2 := hS1
    have hv2 := hv
    have hT2 : TL (mu M1 o (aL 1 (up g 0 (c32 (ρ (4443 + 4 * a1 + a2)))))) x ρ π sv := hTL.mv hI hS hv.2 (fun q u v => mu_ne (by omega))
    have hR2 : RD (mu M1 o (aL 1 (up g 0 (c32 (ρ (4443 + 4 * a1 + a2)))))) (x + 1062) ρ π sv rf hs := hR.mv (fun q u v => mu_ne (by omega))
    refine U_eqM hR2.self ?_
    refine U_aload_n dL_law_1154 rfl ?_
    refine U_aload_n dL_law_1155 rfl ?_
    refine U_iload dL_law_1156 rfl ?_
    refine U_iconst (v := iI (1)) dL_law_1158 rfl ?_
    refine J_iadd dL_law_1159 ?_
    refine J_scr hT dL_law_1160 ⟨by omega, by omega⟩ hN ?_
    rw [← ea1]
    refine U_aload_n dL_law_1161 rfl ?_
    refine U_iload dL_law_1162 rfl ?_
    refine U_iconst (v := iI (2)) dL_law_1164 rfl ?_
    refine J_iadd dL_law_1165 ?_
    refine J_scr hT dL_law_1166 ⟨by omega, by omega⟩ hN ?_
    rw [← ea2]
    refine U_cVP (vs := [_, _]) (r_application l _ (x + 1062) ρ π sv rf hs a1 ha1 a2 ha2 e he) mL_147 coX11_application dL_law_1167 rM_0 rfl rfl rfl (by decide) (Nat.le_of_ble_eq_true rfl) (le_r (b := 601024) (by show k + 1 ≤ _; omega) rfl) (le_r (b := 7293034) (by show n + 6 ≤ _; omega) rfl) (fun v2 W2 sz2 hp2 => ?_)
    rcases hp2 with ⟨h0, -, -⟩ | ⟨-, rfl, rfl⟩
    · omega
    refine U_istore (L' := [some _, some _, some _, some _, some _, some _, some _, none]) dL_law_1170 (by decide) rfl ?_
    refine U_aload_n dL_law_1172 rfl ?_
    refine U_cV (vs := []) (r_thrown l _ (x + 1062) _ _ _ e hs) mL_88 coX11_thrown dL_law_1173 rM_0 rfl rfl rfl (by decide) (Nat.le_of_ble_eq_true rfl) (le_r (b := 601024) (by show k + 1 ≤ _; omega) rfl) (le_r (b := 7293034) (by show n + 6 ≤ _; omega) rfl) (fun sz3 => ?_)
    refine U_iload dL_law_1176 rfl ?_
    refine U_icmp_eq_t (tgt := 1183) dL_law_1178 (by decide) rfl ?_
    refine U_iload dL_law_1183 rfl ?_
    refine J_if_ne (tgt := 1200) dL_law_1185 (by decide) ⟨by omega, by omega⟩ (fun h9 => absurd he0 h9) (fun _ => ?_)
    refine U_aload_n dL_law_1188 rfl ?_
    refine U_iconst (v := iI (0)) dL_law_1189 rfl ?_
    refine J_lald dL_law_1190 ((rM_o (by omega) (by omega) (by omega)).trans mu_eq) ⟨by omega, by omega⟩ (by decide) ?_
    rw [up_s]
    refine U_iload dL_law_1191 rfl ?_
    refine J_i2lc dL_law_1193 ?_
    refine U_lcE (tgt := 1200) rfl dL_law_1194 dL_law_1195 (by decide) ?_
    refine U_goto (tgt := 1524) dL_law_1200 (by decide) ?_
    exact U_wk' (next _ _ _ _ _ _ _ _ _ (LW.of hT2 mu_eq hI2 hS2 hv2 hxo) (by show k + 1 ≤ _; omega) (by show n + 6 ≤ _; omega)) ⟨rfl, rfl, rfl, rfl, rfl, trivial⟩
  · refine U_eqM hR.self ?_
    refine U_aload_n dL_law_1154 rfl ?_
    refine U_aload_n dL_law_1155 rfl ?_
    refine U_iload dL_law_1156 rfl ?_
    refine U_iconst (v := iI (1)) dL_law_1158 rfl ?_
    refine J_iadd dL_law_1159 ?_
    refine J_scr hT dL_law_1160 ⟨by omega, by omega⟩ hN ?_
    rw [← ea1]
    refine U_aload_n dL_law_1161 rfl ?_
    refine U_iload dL_law_1162 rfl ?_
    refine U_iconst (v := iI (2)) dL_law_1164 rfl ?_
    refine J_iadd dL_law_1165 ?_
    refine J_scr hT dL_law_1166 ⟨by omega, by omega⟩ hN ?_
    rw [← ea2]
    refine U_cVP (vs := [_, _]) (r_application l _ (x + 1062) ρ π sv rf hs a1 ha1 a2 ha2 e he) mL_147 coX11_application dL_law_1167 rM_0 rfl rfl rfl (by decide) (Nat.le_of_ble_eq_true rfl) (le_r (b := 601024) (by show k + 1 ≤ _; omega) rfl) (le_r (b := 7293034) (by show n + 6 ≤ _; omega) rfl) (fun v2 W2 sz2 hp2 => ?_)
    obtain ⟨-, rfl, rfl⟩ := hp2.resolve_right (fun h => absurd h.1 (by omega))
    refine U_istore (L' := [some _, some _, some _, some _, some _, some _, some _, none]) dL_law_1170 (by decide) rfl ?_
    refine U_aload_n dL_law_1172 rfl ?_
    refine U_cV (vs := []) (r_thrown l _ (x + 1062) _ _ _ e hs) mL_88 coX11_thrown dL_law_1173 rM_0 rfl rfl rfl (by decide) (Nat.le_of_ble_eq_true rfl) (le_r (b := 601024) (by show k + 1 ≤ _; omega) rfl) (le_r (b := 7293034) (by show n + 6 ≤ _; omega) rfl) (fun sz3 => ?_)
    refine U_iload dL_law_1176 rfl ?_
    refine U_icmp_eq_t (tgt := 1183) dL_law_1178 (by decide) rfl ?_
    refine U_iload dL_law_1183 rfl ?_
    refine J_if_ne (tgt := 1200) dL_law_1185 (by decide) ⟨by omega, by omega⟩ (fun _ => ?_) (fun h9 => absurd h9 (by omega))
    refine U_goto (tgt := 1524) dL_law_1200 (by decide) ?_
    exact U_wk' (next _ _ _ _ _ _ _ _ _ (LW.of hTL ho hI1 hS1 hv hxo) (by show k + 1 ≤ _; omega) (by show n + 6 ≤ _; omega)) ⟨rfl, rfl, rfl, rfl, rfl, trivial⟩

set_option maxRecDepth 100000 in
set_option maxHeartbeats 4000000 in
theorem lw_packets (l : Launch) (hfl : l.stackTraces = false) (G : GG) (A : Nat → Prop) (T : State → Code → Array Value → Prop) (Z : List Frame → Array Value → State → State → Prop) (b N : Nat) (xs : Nat → Int32) (hT : ∀ s c args, T s c args → va_X b N xs s s.heap ∧ b < s.heap.size ∧ ¬ A b) (hN : N < 2 ^ 31) (x o : Nat) (W : ME) (ρ π : Int → Int) (sv rf hs : Int) (cn i : Int) (k n sz : Nat) (hcn : 0 ≤ cn ∧ cn ≤ 512) (hi : 0 ≤ i ∧ i + 5 ≤ N) (hk : k ≤ 600000) (hn : n ≤ 7000000) (hL : LW cn x o W ρ π sv rf hs)
    (next : ∀ (W' : ME) (ρ' π' : Int → Int) (sv' rf' hs' : Int) (k' n' sz' : Nat), LW (cn + 1) x o W' ρ' π' sv' rf' hs' → k' ≤ k + 1 → n' ≤ n + 6 → U l G A room_1 RL cL_law 8 ret T Z k' n' W' sz' 1524 [some (.ref b), some (.ref x), some (.ref (x + 1062)), some (.ref o), some (.int (iI i)), none, none, none] []) :
    U l G A room_1 RL cL_law 8 ret T Z k n W sz 1203 [some (.ref b), some (.ref x), some (.ref (x + 1062)), some (.ref o), some (.int (iI i)), none, none, none] [] := by
  obtain ⟨hTL, hR, ⟨g, ho⟩, hI, hS, hv, hxo⟩ := id hL
  obtain ⟨a0, f0, x0, -⟩ := id hTL
  have hP := hS.P
  have hSI := hI.1.1
  have hXI := hI.1.2.1
  have h3 := hI.1.2.2.1
  have hPI := hI.1.2.2.2
  have hWr := hI.2.1
  have hRI := hI.2.2.1
  have hCI := hI.2.2.2
  have hQA := hSI.QA
  have hI1 : IV (cn + 1) ρ := hI.mono (by omega)
  have hS1 : SV (cn + 1) π sv := hS.mono (by omega)
  refine U_aload_n dL_law_1203 rfl ?_
  refine U_cV (vs := []) (p_packets l W x ρ π sv hTL) mL_148 coX10_packets dL_law_1204 x0 rfl rfl rfl (by decide) (Nat.le_of_ble_eq_true rfl) (le_r (b := 601024) (by omega) rfl) (le_r (b := 7293034) (by omega) rfl) (fun sz1 => ?_)
  refine U_eqM hR.self ?_
  refine U_aload_n dL_law_1207 rfl ?_
  refine U_cV (vs := []) (r_packets l W (x + 1062) ρ π sv rf hs) mL_151 coX11_packets dL_law_1208 rM_0 rfl rfl rfl (by decide) (Nat.le_of_ble_eq_true rfl) (le_r (b := 601024) (by omega) rfl) (le_r (b := 7293034) (by omega) rfl) (fun sz2 => ?_)
  refine U_icmp_eq_t (tgt := 1524) dL_law_1211 (by decide) rfl ?_
  exact next _ _ _ _ _ _ _ _ _ (LW.of hTL ho hI1 hS1 hv hxo) (by omega) (by omega)

set_option maxRecDepth 100000 in
set_option maxHeartbeats 4000000 in
theorem lw_packet (l : Launch) (hfl : l.stackTraces = false) (G : GG) (A : Nat → Prop) (T : State → Code → Array Value → Prop) (Z : List Frame → Array Value → State → State → Prop) (b N : Nat) (xs : Nat → Int32) (hT : ∀ s c args, T s c args → va_X b N xs s s.heap ∧ b < s.heap.size ∧ ¬ A b) (hN : N < 2 ^ 31) (x o : Nat) (W : ME) (ρ π : Int → Int) (sv rf hs : Int) (cn i : Int) (k n sz : Nat) (hcn : 0 ≤ cn ∧ cn ≤ 512) (hi : 0 ≤ i ∧ i + 5 ≤ N) (hk : k ≤ 600000) (hn : n ≤ 7000000) (hL : LW cn x o W ρ π sv rf hs)
    (next : ∀ (W' : ME) (ρ' π' : Int → Int) (sv' rf' hs' : Int) (k' n' sz' : Nat), LW (cn + 1) x o W' ρ' π' sv' rf' hs' → k' ≤ k + 1 → n' ≤ n + 6 → U l G A room_1 RL cL_law 8 ret T Z k' n' W' sz' 1524 [some (.ref b), some (.ref x), some (.ref (x + 1062)), some (.ref o), some (.int (iI i)), none, none, none] []) :
    U l G A room_1 RL cL_law 8 ret T Z k n W sz 1216 [some (.ref b), some (.ref x), some (.ref (x + 1062)), some (.ref o), some (.int (iI i)), none, none, none] [] := by
  obtain ⟨hTL, hR, ⟨g, ho⟩, hI, hS, hv, hxo⟩ := id hL
  obtain ⟨a0, f0, x0, -⟩ := id hTL
  have hP := hS.P
  have hSI := hI.1.1
  have hXI := hI.1.2.1
  have h3 := hI.1.2.2.1
  have hPI := hI.1.2.2.2
  have hWr := hI.2.1
  have hRI := hI.2.2.1
  have hCI := hI.2.2.2
  have hQA := hSI.QA
  have hI1 : IV (cn + 1) ρ := hI.mono (by omega)
  have hS1 : SV (cn + 1) π sv := hS.mono (by omega)
  obtain ⟨a1, ea1⟩ : ∃ z, z = sx xs (i + 1) := ⟨_, rfl⟩
  have ha1 : -2147483648 ≤ a1 ∧ a1 < 2147483648 := by rw [ea1]; exact sx_r
  obtain ⟨a2, ea2⟩ : ∃ z, z = sx xs (i + 2) := ⟨_, rfl⟩
  have ha2 : -2147483648 ≤ a2 ∧ a2 < 2147483648 := by rw [ea2]; exact sx_r
  obtain ⟨e, he⟩ : ∃ e : Int, (¬ (0 ≤ a1 ∧ a1 ≤ ρ 4503 - 1) ∧ e = 1) ∨ ((0 ≤ a1 ∧ a1 ≤ ρ 4503 - 1) ∧ ¬ (0 ≤ a2 ∧ a2 ≤ 4) ∧ e = 2) ∨ ((0 ≤ a1 ∧ a1 ≤ ρ 4503 - 1) ∧ (0 ≤ a2 ∧ a2 ≤ 4) ∧ e = 0) := by
    by_cases hh0 : (0 ≤ a1 ∧ a1 ≤ ρ 4503 - 1) <;> by_cases hh1 : (0 ≤ a2 ∧ a2 ≤ 4) <;> first | exact ⟨0, by omega⟩ | exact ⟨1, by omega⟩ | exact ⟨2, by omega⟩ | exact ⟨3, by omega⟩
  refine U_aload_n dL_law_1216 rfl ?_
  refine U_aload_n dL_law_1217 rfl ?_
  refine U_iload dL_law_1218 rfl ?_
  refine U_iconst (v := iI (1)) dL_law_1220 rfl ?_
  refine J_iadd dL_law_1221 ?_
  refine J_scr hT dL_law_1222 ⟨by omega, by omega⟩ hN ?_
  rw [← ea1]
  refine U_aload_n dL_law_1223 rfl ?_
  refine U_iload dL_law_1224 rfl ?_
  refine U_iconst (v := iI (2)) dL_law_1226 rfl ?_
  refine J_iadd dL_law_1227 ?_
  refine J_scr hT dL_law_1228 ⟨by omega, by omega⟩ hN ?_
  rw [← ea2]
  refine U_aload_n dL_law_1229 rfl ?_
  refine U_callW (vs := [_, _, _, _]) (w_packet l W x o _ x0 g ho a1 a2 (ρ (4504 + 260 * a1 + a2)) e (fun M' => M' = W) (fun M' h => by rw [h]; exact ho) (p_packet l hfl W x ρ π sv hTL hRI.2.2.2.1 (3000 * cn) hCI a1 ha1 a2 ha2 e he)) mL_152 wc_packet dL_law_1230 rfl rfl ⟨(Nat.le_of_ble_eq_true rfl), (Nat.le_of_ble_eq_true rfl)⟩ (Nat.le_of_ble_eq_true rfl) ⟨(le_r (b := 601024) (by show k + 1 ≤ _; omega) rfl), (le_r (b := 7293034) (by show n + 6 ≤ _; omega) rfl)⟩ (fun v0 W1 sz1 hp => ?_)
  obtain ⟨rfl, hp⟩ := hp
  refine U_istore (L' := [some _, some _, some _, some _, some _, some _, none, none]) dL_law_1233 (by decide) rfl ?_
  rcases hp with ⟨he0, M1, hM1, rfl⟩ | ⟨he0, rfl⟩
  · subst hM1
    have hI2 := hI1
    have hS2 := hS1
    have hv2 := hv
    have hT2 : TL (mu M1 o (aL 1 (up g 0 (c32 (ρ (4504 + 260 * a1 + a2)))))) x ρ π sv := hTL.mv hI hS hv.2 (fun q u v => mu_ne (by omega))
    have hR2 : RD (mu M1 o (aL 1 (up g 0 (c32 (ρ (4504 + 260 * a1 + a2)))))) (x + 1062) ρ π sv rf hs := hR.mv (fun q u v => mu_ne (by omega))
    refine U_eqM hR2.self ?_
    refine U_aload_n dL_law_1235 rfl ?_
    refine U_aload_n dL_law_1236 rfl ?_
    refine U_iload dL_law_1237 rfl ?_
    refine U_iconst (v := iI (1)) dL_law_1239 rfl ?_
    refine J_iadd dL_law_1240 ?_
    refine J_scr hT dL_law_1241 ⟨by omega, by omega⟩ hN ?_
    rw [← ea1]
    refine U_aload_n dL_law_1242 rfl ?_
    refine U_iload dL_law_1243 rfl ?_
    refine U_iconst (v := iI (2)) dL_law_1245 rfl ?_
    refine J_iadd dL_law_1246 ?_
    refine J_scr hT dL_law_1247 ⟨by omega, by omega⟩ hN ?_
    rw [← ea2]
    refine U_cVP (vs := [_, _]) (r_packet l _ (x + 1062) ρ π sv rf hs a1 ha1 a2 ha2 hRI.2.2.2.1.2.1 e he) mL_154 coX11_packet dL_law_1248 rM_0 rfl rfl rfl (by decide) (Nat.le_of_ble_eq_true rfl) (le_r (b := 601024) (by show k + 1 ≤ _; omega) rfl) (le_r (b := 7293034) (by show n + 6 ≤ _; omega) rfl) (fun v2 W2 sz2 hp2 => ?_)
    rcases hp2 with ⟨h0, -, -⟩ | ⟨-, rfl, rfl⟩
    · omega
    refine U_istore (L' := [some _, some _, some _, some _, some _, some _, some _, none]) dL_law_1251 (by decide) rfl ?_
    refine U_aload_n dL_law_1253 rfl ?_
    refine U_cV (vs := []) (r_thrown l _ (x + 1062) _ _ _ e hs) mL_88 coX11_thrown dL_law_1254 rM_0 rfl rfl rfl (by decide) (Nat.le_of_ble_eq_true rfl) (le_r (b := 601024) (by show k + 1 ≤ _; omega) rfl) (le_r (b := 7293034) (by show n + 6 ≤ _; omega) rfl) (fun sz3 => ?_)
    refine U_iload dL_law_1257 rfl ?_
    refine U_icmp_eq_t (tgt := 1264) dL_law_1259 (by decide) rfl ?_
    refine U_iload dL_law_1264 rfl ?_
    refine J_if_ne (tgt := 1281) dL_law_1266 (by decide) ⟨by omega, by omega⟩ (fun h9 => absurd he0 h9) (fun _ => ?_)
    refine U_aload_n dL_law_1269 rfl ?_
    refine U_iconst (v := iI (0)) dL_law_1270 rfl ?_
    refine J_lald dL_law_1271 ((rM_o (by omega) (by omega) (by omega)).trans mu_eq) ⟨by omega, by omega⟩ (by decide) ?_
    rw [up_s]
    refine U_iload dL_law_1272 rfl ?_
    refine J_i2lc dL_law_1274 ?_
    refine U_lcE (tgt := 1281) rfl dL_law_1275 dL_law_1276 (by decide) ?_
    refine U_goto (tgt := 1524) dL_law_1281 (by decide) ?_
    exact U_wk' (next _ _ _ _ _ _ _ _ _ (LW.of hT2 mu_eq hI2 hS2 hv2 hxo) (by show k + 1 ≤ _; omega) (by show n + 6 ≤ _; omega)) ⟨rfl, rfl, rfl, rfl, rfl, trivial⟩
  · refine U_eqM hR.self ?_
    refine U_aload_n dL_law_1235 rfl ?_
    refine U_aload_n dL_law_1236 rfl ?_
    refine U_iload dL_law_1237 rfl ?_
    refine U_iconst (v := iI (1)) dL_law_1239 rfl ?_
    refine J_iadd dL_law_1240 ?_
    refine J_scr hT dL_law_1241 ⟨by omega, by omega⟩ hN ?_
    rw [← ea1]
    refine U_aload_n dL_law_1242 rfl ?_
    refine U_iload dL_law_1243 rfl ?_
    refine U_iconst (v := iI (2)) dL_law_1245 rfl ?_
    refine J_iadd dL_law_1246 ?_
    refine J_scr hT dL_law_1247 ⟨by omega, by omega⟩ hN ?_
    rw [← ea2]
    refine U_cVP (vs := [_, _]) (r_packet l _ (x + 1062) ρ π sv rf hs a1 ha1 a2 ha2 hRI.2.2.2.1.2.1 e he) mL_154 coX11_packet dL_law_1248 rM_0 rfl rfl rfl (by decide) (Nat.le_of_ble_eq_true rfl) (le_r (b := 601024) (by show k + 1 ≤ _; omega) rfl) (le_r (b := 7293034) (by show n + 6 ≤ _; omega) rfl) (fun v2 W2 sz2 hp2 => ?_)
    obtain ⟨-, rfl, rfl⟩ := hp2.resolve_right (fun h => absurd h.1 (by omega))
    refine U_istore (L' := [some _, some _, some _, some _, some _, some _, some _, none]) dL_law_1251 (by decide) rfl ?_
    refine U_aload_n dL_law_1253 rfl ?_
    refine U_cV (vs := []) (r_thrown l _ (x + 1062) _ _ _ e hs) mL_88 coX11_thrown dL_law_1254 rM_0 rfl rfl rfl (by decide) (Nat.le_of_ble_eq_true rfl) (le_r (b := 601024) (by show k + 1 ≤ _; omega) rfl) (le_r (b := 7293034) (by show n + 6 ≤ _; omega) rfl) (fun sz3 => ?_)
    refine U_iload dL_law_1257 rfl ?_
    refine U_icmp_eq_t (tgt := 1264) dL_law_1259 (by decide) rfl ?_
    refine U_iload dL_law_1264 rfl ?_
    refine J_if_ne (tgt := 1281) dL_law_1266 (by decide) ⟨by omega, by omega⟩ (fun _ => ?_) (fun h9 => absurd h9 (by omega))
    refine U_goto (tgt := 1524) dL_law_1281 (by decide) ?_
    exact U_wk' (next _ _ _ _ _ _ _ _ _ (LW.of hTL ho hI1 hS1 hv hxo) (by show k + 1 ≤ _; omega) (by show n + 6 ≤ _; omega)) ⟨rfl, rfl, rfl, rfl, rfl, trivial⟩

set_option maxRecDepth 100000 in
set_option maxHeartbeats 4000000 in
theorem lw_packetByte (l : Launch) (hfl : l.stackTraces = false) (G : GG) (A : Nat → Prop) (T : State → Code → Array Value → Prop) (Z : List Frame → Array Value → State → State → Prop) (b N : Nat) (xs : Nat → Int32) (hT : ∀ s c args, T s c args → va_X b N xs s s.heap ∧ b < s.heap.size ∧ ¬ A b) (hN : N < 2 ^ 31) (x o : Nat) (W : ME) (ρ π : Int → Int) (sv rf hs : Int) (cn i : Int) (k n sz : Nat) (hcn : 0 ≤ cn ∧ cn ≤ 512) (hi : 0 ≤ i ∧ i + 5 ≤ N) (hk : k ≤ 600000) (hn : n ≤ 7000000) (hL : LW cn x o W ρ π sv rf hs)
    (next : ∀ (W' : ME) (ρ' π' : Int → Int) (sv' rf' hs' : Int) (k' n' sz' : Nat), LW (cn + 1) x o W' ρ' π' sv' rf' hs' → k' ≤ k + 1 → n' ≤ n + 6 → U l G A room_1 RL cL_law 8 ret T Z k' n' W' sz' 1524 [some (.ref b), some (.ref x), some (.ref (x + 1062)), some (.ref o), some (.int (iI i)), none, none, none] []) :
    U l G A room_1 RL cL_law 8 ret T Z k n W sz 1284 [some (.ref b), some (.ref x), some (.ref (x + 1062)), some (.ref o), some (.int (iI i)), none, none, none] [] := by
  obtain ⟨hTL, hR, ⟨g, ho⟩, hI, hS, hv, hxo⟩ := id hL
  obtain ⟨a0, f0, x0, -⟩ := id hTL
  have hP := hS.P
  have hSI := hI.1.1
  have hXI := hI.1.2.1
  have h3 := hI.1.2.2.1
  have hPI := hI.1.2.2.2
  have hWr := hI.2.1
  have hRI := hI.2.2.1
  have hCI := hI.2.2.2
  have hQA := hSI.QA
  have hI1 : IV (cn + 1) ρ := hI.mono (by omega)
  have hS1 : SV (cn + 1) π sv := hS.mono (by omega)
  obtain ⟨a1, ea1⟩ : ∃ z, z = sx xs (i + 1) := ⟨_, rfl⟩
  have ha1 : -2147483648 ≤ a1 ∧ a1 < 2147483648 := by rw [ea1]; exact sx_r
  obtain ⟨a2, ea2⟩ : ∃ z, z = sx xs (i + 2) := ⟨_, rfl⟩
  have ha2 : -2147483648 ≤ a2 ∧ a2 < 2147483648 := by rw [ea2]; exact sx_r
  obtain ⟨e, he⟩ : ∃ e : Int, (¬ ((0 ≤ a1 ∧ a1 ≤ ρ 4503 - 1) ∧ (0 ≤ a2 ∧ a2 ≤ ρ (4504 + 260 * a1 + 3) - 1)) ∧ e = 1) ∨ (((0 ≤ a1 ∧ a1 ≤ ρ 4503 - 1) ∧ (0 ≤ a2 ∧ a2 ≤ ρ (4504 + 260 * a1 + 3) - 1)) ∧ e = 0) := by
    by_cases hh0 : ((0 ≤ a1 ∧ a1 ≤ ρ 4503 - 1) ∧ (0 ≤ a2 ∧ a2 ≤ ρ (4504 + 260 * a1 + 3) - 1)) <;> first | exact ⟨0, by omega⟩ | exact ⟨1, by omega⟩ | exact ⟨2, by omega⟩ | exact ⟨3, by omega⟩
  refine U_aload_n dL_law_1284 rfl ?_
  refine U_aload_n dL_law_1285 rfl ?_
  refine U_iload dL_law_1286 rfl ?_
  refine U_iconst (v := iI (1)) dL_law_1288 rfl ?_
  refine J_iadd dL_law_1289 ?_
  refine J_scr hT dL_law_1290 ⟨by omega, by omega⟩ hN ?_
  rw [← ea1]
  refine U_aload_n dL_law_1291 rfl ?_
  refine U_iload dL_law_1292 rfl ?_
  refine U_iconst (v := iI (2)) dL_law_1294 rfl ?_
  refine J_iadd dL_law_1295 ?_
  refine J_scr hT dL_law_1296 ⟨by omega, by omega⟩ hN ?_
  rw [← ea2]
  refine U_aload_n dL_law_1297 rfl ?_
  refine U_callW (vs := [_, _, _, _]) (w_packetByte l W x o _ x0 g ho a1 a2 (ρ (4504 + 260 * a1 + 5 + a2)) e (fun M' => M' = W) (fun M' h => by rw [h]; exact ho) (p_packetByte l hfl W x ρ π sv hTL hRI.2.2.2.1 a1 ha1 a2 ha2 e he)) mL_155 wc_packetByte dL_law_1298 rfl rfl ⟨(Nat.le_of_ble_eq_true rfl), (Nat.le_of_ble_eq_true rfl)⟩ (Nat.le_of_ble_eq_true rfl) ⟨(le_r (b := 601024) (by show k + 1 ≤ _; omega) rfl), (le_r (b := 7293034) (by show n + 6 ≤ _; omega) rfl)⟩ (fun v0 W1 sz1 hp => ?_)
  obtain ⟨rfl, hp⟩ := hp
  refine U_istore (L' := [some _, some _, some _, some _, some _, some _, none, none]) dL_law_1301 (by decide) rfl ?_
  rcases hp with ⟨he0, M1, hM1, rfl⟩ | ⟨he0, rfl⟩
  · subst hM1
    have hI2 := hI1
    have hS2 := hS1
    have hv2 := hv
    have hT2 : TL (mu M1 o (aL 1 (up g 0 (c32 (ρ (4504 + 260 * a1 + 5 + a2)))))) x ρ π sv := hTL.mv hI hS hv.2 (fun q u v => mu_ne (by omega))
    have hR2 : RD (mu M1 o (aL 1 (up g 0 (c32 (ρ (4504 + 260 * a1 + 5 + a2)))))) (x + 1062) ρ π sv rf hs := hR.mv (fun q u v => mu_ne (by omega))
    refine U_eqM hR2.self ?_
    refine U_aload_n dL_law_1303 rfl ?_
    refine U_aload_n dL_law_1304 rfl ?_
    refine U_iload dL_law_1305 rfl ?_
    refine U_iconst (v := iI (1)) dL_law_1307 rfl ?_
    refine J_iadd dL_law_1308 ?_
    refine J_scr hT dL_law_1309 ⟨by omega, by omega⟩ hN ?_
    rw [← ea1]
    refine U_aload_n dL_law_1310 rfl ?_
    refine U_iload dL_law_1311 rfl ?_
    refine U_iconst (v := iI (2)) dL_law_1313 rfl ?_
    refine J_iadd dL_law_1314 ?_
    refine J_scr hT dL_law_1315 ⟨by omega, by omega⟩ hN ?_
    rw [← ea2]
    refine U_cVP (vs := [_, _]) (r_packetByte l _ (x + 1062) ρ π sv rf hs a1 ha1 a2 ha2 hRI.2.2.2.1.2.1 hRI.2.2.2.1.2.2 e he) mL_157 coX11_packetByte dL_law_1316 rM_0 rfl rfl rfl (by decide) (Nat.le_of_ble_eq_true rfl) (le_r (b := 601024) (by show k + 1 ≤ _; omega) rfl) (le_r (b := 7293034) (by show n + 6 ≤ _; omega) rfl) (fun v2 W2 sz2 hp2 => ?_)
    rcases hp2 with ⟨h0, -, -⟩ | ⟨-, rfl, rfl⟩
    · omega
    refine U_istore (L' := [some _, some _, some _, some _, some _, some _, some _, none]) dL_law_1319 (by decide) rfl ?_
    refine U_aload_n dL_law_1321 rfl ?_
    refine U_cV (vs := []) (r_thrown l _ (x + 1062) _ _ _ e hs) mL_88 coX11_thrown dL_law_1322 rM_0 rfl rfl rfl (by decide) (Nat.le_of_ble_eq_true rfl) (le_r (b := 601024) (by show k + 1 ≤ _; omega) rfl) (le_r (b := 7293034) (by show n + 6 ≤ _; omega) rfl) (fun sz3 => ?_)
    refine U_iload dL_law_1325 rfl ?_
    refine U_icmp_eq_t (tgt := 1332) dL_law_1327 (by decide) rfl ?_
    refine U_iload dL_law_1332 rfl ?_
    refine J_if_ne (tgt := 1349) dL_law_1334 (by decide) ⟨by omega, by omega⟩ (fun h9 => absurd he0 h9) (fun _ => ?_)
    refine U_aload_n dL_law_1337 rfl ?_
    refine U_iconst (v := iI (0)) dL_law_1338 rfl ?_
    refine J_lald dL_law_1339 ((rM_o (by omega) (by omega) (by omega)).trans mu_eq) ⟨by omega, by omega⟩ (by decide) ?_
    rw [up_s]
    refine U_iload dL_law_1340 rfl ?_
    refine J_i2lc dL_law_1342 ?_
    refine U_lcE (tgt := 1349) rfl dL_law_1343 dL_law_1344 (by decide) ?_
    refine U_goto (tgt := 1524) dL_law_1349 (by decide) ?_
    exact U_wk' (next _ _ _ _ _ _ _ _ _ (LW.of hT2 mu_eq hI2 hS2 hv2 hxo) (by show k + 1 ≤ _; omega) (by show n + 6 ≤ _; omega)) ⟨rfl, rfl, rfl, rfl, rfl, trivial⟩
  · refine U_eqM hR.self ?_
    refine U_aload_n dL_law_1303 rfl ?_
    refine U_aload_n dL_law_1304 rfl ?_
    refine U_iload dL_law_1305 rfl ?_
    refine U_iconst (v := iI (1)) dL_law_1307 rfl ?_
    refine J_iadd dL_law_1308 ?_
    refine J_scr hT dL_law_1309 ⟨by omega, by omega⟩ hN ?_
    rw [← ea1]
    refine U_aload_n dL_law_1310 rfl ?_
    refine U_iload dL_law_1311 rfl ?_
    refine U_iconst (v := iI (2)) dL_law_1313 rfl ?_
    refine J_iadd dL_law_1314 ?_
    refine J_scr hT dL_law_1315 ⟨by omega, by omega⟩ hN ?_
    rw [← ea2]
    refine U_cVP (vs := [_, _]) (r_packetByte l _ (x + 1062) ρ π sv rf hs a1 ha1 a2 ha2 hRI.2.2.2.1.2.1 hRI.2.2.2.1.2.2 e he) mL_157 coX11_packetByte dL_law_1316 rM_0 rfl rfl rfl (by decide) (Nat.le_of_ble_eq_true rfl) (le_r (b := 601024) (by show k + 1 ≤ _; omega) rfl) (le_r (b := 7293034) (by show n + 6 ≤ _; omega) rfl) (fun v2 W2 sz2 hp2 => ?_)
    obtain ⟨-, rfl, rfl⟩ := hp2.resolve_right (fun h => absurd h.1 (by omega))
    refine U_istore (L' := [some _, some _, some _, some _, some _, some _, some _, none]) dL_law_1319 (by decide) rfl ?_
    refine U_aload_n dL_law_1321 rfl ?_
    refine U_cV (vs := []) (r_thrown l _ (x + 1062) _ _ _ e hs) mL_88 coX11_thrown dL_law_1322 rM_0 rfl rfl rfl (by decide) (Nat.le_of_ble_eq_true rfl) (le_r (b := 601024) (by show k + 1 ≤ _; omega) rfl) (le_r (b := 7293034) (by show n + 6 ≤ _; omega) rfl) (fun sz3 => ?_)
    refine U_iload dL_law_1325 rfl ?_
    refine U_icmp_eq_t (tgt := 1332) dL_law_1327 (by decide) rfl ?_
    refine U_iload dL_law_1332 rfl ?_
    refine J_if_ne (tgt := 1349) dL_law_1334 (by decide) ⟨by omega, by omega⟩ (fun _ => ?_) (fun h9 => absurd h9 (by omega))
    refine U_goto (tgt := 1524) dL_law_1349 (by decide) ?_
    exact U_wk' (next _ _ _ _ _ _ _ _ _ (LW.of hTL ho hI1 hS1 hv hxo) (by show k + 1 ≤ _; omega) (by show n + 6 ≤ _; omega)) ⟨rfl, rfl, rfl, rfl, rfl, trivial⟩

set_option maxRecDepth 100000 in
set_option maxHeartbeats 4000000 in
theorem lw_clock (l : Launch) (hfl : l.stackTraces = false) (G : GG) (A : Nat → Prop) (T : State → Code → Array Value → Prop) (Z : List Frame → Array Value → State → State → Prop) (b N : Nat) (xs : Nat → Int32) (hT : ∀ s c args, T s c args → va_X b N xs s s.heap ∧ b < s.heap.size ∧ ¬ A b) (hN : N < 2 ^ 31) (x o : Nat) (W : ME) (ρ π : Int → Int) (sv rf hs : Int) (cn i : Int) (k n sz : Nat) (hcn : 0 ≤ cn ∧ cn ≤ 512) (hi : 0 ≤ i ∧ i + 5 ≤ N) (hk : k ≤ 600000) (hn : n ≤ 7000000) (hL : LW cn x o W ρ π sv rf hs)
    (next : ∀ (W' : ME) (ρ' π' : Int → Int) (sv' rf' hs' : Int) (k' n' sz' : Nat), LW (cn + 1) x o W' ρ' π' sv' rf' hs' → k' ≤ k + 1 → n' ≤ n + 6 → U l G A room_1 RL cL_law 8 ret T Z k' n' W' sz' 1524 [some (.ref b), some (.ref x), some (.ref (x + 1062)), some (.ref o), some (.int (iI i)), none, none, none] []) :
    U l G A room_1 RL cL_law 8 ret T Z k n W sz 1352 [some (.ref b), some (.ref x), some (.ref (x + 1062)), some (.ref o), some (.int (iI i)), none, none, none] [] := by
  obtain ⟨hTL, hR, ⟨g, ho⟩, hI, hS, hv, hxo⟩ := id hL
  obtain ⟨a0, f0, x0, -⟩ := id hTL
  have hP := hS.P
  have hSI := hI.1.1
  have hXI := hI.1.2.1
  have h3 := hI.1.2.2.1
  have hPI := hI.1.2.2.2
  have hWr := hI.2.1
  have hRI := hI.2.2.1
  have hCI := hI.2.2.2
  have hQA := hSI.QA
  have hI1 : IV (cn + 1) ρ := hI.mono (by omega)
  have hS1 : SV (cn + 1) π sv := hS.mono (by omega)
  refine U_aload_n dL_law_1352 rfl ?_
  refine U_cV (vs := []) (p_clock l W x ρ π sv hTL (by have := hSI.2.2.1; omega) hSI.2.2.2.1) mL_158 coX10_clock dL_law_1353 x0 rfl rfl rfl (by decide) (Nat.le_of_ble_eq_true rfl) (le_r (b := 601024) (by omega) rfl) (le_r (b := 7293034) (by omega) rfl) (fun sz1 => ?_)
  refine U_eqM hR.self ?_
  refine U_aload_n dL_law_1356 rfl ?_
  refine U_cV (vs := []) (r_clock l W (x + 1062) ρ π sv rf hs (by have := hSI.2.2.1; omega) hSI.2.2.2.1) mL_162 coX11_clock dL_law_1357 rM_0 rfl rfl rfl (by decide) (Nat.le_of_ble_eq_true rfl) (le_r (b := 601024) (by omega) rfl) (le_r (b := 7293034) (by omega) rfl) (fun sz2 => ?_)
  refine U_lcE (tgt := 1524) rfl dL_law_1360 dL_law_1361 (by decide) ?_
  exact next _ _ _ _ _ _ _ _ _ (LW.of hTL ho hI1 hS1 hv hxo) (by omega) (by omega)

set_option maxRecDepth 100000 in
set_option maxHeartbeats 4000000 in
theorem lw_timePairs (l : Launch) (hfl : l.stackTraces = false) (G : GG) (A : Nat → Prop) (T : State → Code → Array Value → Prop) (Z : List Frame → Array Value → State → State → Prop) (b N : Nat) (xs : Nat → Int32) (hT : ∀ s c args, T s c args → va_X b N xs s s.heap ∧ b < s.heap.size ∧ ¬ A b) (hN : N < 2 ^ 31) (x o : Nat) (W : ME) (ρ π : Int → Int) (sv rf hs : Int) (cn i : Int) (k n sz : Nat) (hcn : 0 ≤ cn ∧ cn ≤ 512) (hi : 0 ≤ i ∧ i + 5 ≤ N) (hk : k ≤ 600000) (hn : n ≤ 7000000) (hL : LW cn x o W ρ π sv rf hs)
    (next : ∀ (W' : ME) (ρ' π' : Int → Int) (sv' rf' hs' : Int) (k' n' sz' : Nat), LW (cn + 1) x o W' ρ' π' sv' rf' hs' → k' ≤ k + 1 → n' ≤ n + 6 → U l G A room_1 RL cL_law 8 ret T Z k' n' W' sz' 1524 [some (.ref b), some (.ref x), some (.ref (x + 1062)), some (.ref o), some (.int (iI i)), none, none, none] []) :
    U l G A room_1 RL cL_law 8 ret T Z k n W sz 1366 [some (.ref b), some (.ref x), some (.ref (x + 1062)), some (.ref o), some (.int (iI i)), none, none, none] [] := by
  obtain ⟨hTL, hR, ⟨g, ho⟩, hI, hS, hv, hxo⟩ := id hL
  obtain ⟨a0, f0, x0, -⟩ := id hTL
  have hP := hS.P
  have hSI := hI.1.1
  have hXI := hI.1.2.1
  have h3 := hI.1.2.2.1
  have hPI := hI.1.2.2.2
  have hWr := hI.2.1
  have hRI := hI.2.2.1
  have hCI := hI.2.2.2
  have hQA := hSI.QA
  have hI1 : IV (cn + 1) ρ := hI.mono (by omega)
  have hS1 : SV (cn + 1) π sv := hS.mono (by omega)
  refine U_aload_n dL_law_1366 rfl ?_
  refine U_cV (vs := []) (p_timePairs l W x ρ π sv hTL) mL_163 coX10_timePairs dL_law_1367 x0 rfl rfl rfl (by decide) (Nat.le_of_ble_eq_true rfl) (le_r (b := 601024) (by omega) rfl) (le_r (b := 7293034) (by omega) rfl) (fun sz1 => ?_)
  refine U_eqM hR.self ?_
  refine U_aload_n dL_law_1370 rfl ?_
  refine U_cV (vs := []) (r_timePairs l W (x + 1062) ρ π sv rf hs) mL_166 coX11_timePairs dL_law_1371 rM_0 rfl rfl rfl (by decide) (Nat.le_of_ble_eq_true rfl) (le_r (b := 601024) (by omega) rfl) (le_r (b := 7293034) (by omega) rfl) (fun sz2 => ?_)
  refine U_icmp_eq_t (tgt := 1524) dL_law_1374 (by decide) rfl ?_
  exact next _ _ _ _ _ _ _ _ _ (LW.of hTL ho hI1 hS1 hv hxo) (by omega) (by omega)

set_option maxRecDepth 100000 in
set_option maxHeartbeats 4000000 in
theorem lw_groundTime (l : Launch) (hfl : l.stackTraces = false) (G : GG) (A : Nat → Prop) (T : State → Code → Array Value → Prop) (Z : List Frame → Array Value → State → State → Prop) (b N : Nat) (xs : Nat → Int32) (hT : ∀ s c args, T s c args → va_X b N xs s s.heap ∧ b < s.heap.size ∧ ¬ A b) (hN : N < 2 ^ 31) (x o : Nat) (W : ME) (ρ π : Int → Int) (sv rf hs : Int) (cn i : Int) (k n sz : Nat) (hcn : 0 ≤ cn ∧ cn ≤ 512) (hi : 0 ≤ i ∧ i + 5 ≤ N) (hk : k ≤ 600000) (hn : n ≤ 7000000) (hL : LW cn x o W ρ π sv rf hs)
    (next : ∀ (W' : ME) (ρ' π' : Int → Int) (sv' rf' hs' : Int) (k' n' sz' : Nat), LW (cn + 1) x o W' ρ' π' sv' rf' hs' → k' ≤ k + 1 → n' ≤ n + 6 → U l G A room_1 RL cL_law 8 ret T Z k' n' W' sz' 1524 [some (.ref b), some (.ref x), some (.ref (x + 1062)), some (.ref o), some (.int (iI i)), none, none, none] []) :
    U l G A room_1 RL cL_law 8 ret T Z k n W sz 1379 [some (.ref b), some (.ref x), some (.ref (x + 1062)), some (.ref o), some (.int (iI i)), none, none, none] [] := by
  obtain ⟨hTL, hR, ⟨g, ho⟩, hI, hS, hv, hxo⟩ := id hL
  obtain ⟨a0, f0, x0, -⟩ := id hTL
  have hP := hS.P
  have hSI := hI.1.1
  have hXI := hI.1.2.1
  have h3 := hI.1.2.2.1
  have hPI := hI.1.2.2.2
  have hWr := hI.2.1
  have hRI := hI.2.2.1
  have hCI := hI.2.2.2
  have hQA := hSI.QA
  have hI1 : IV (cn + 1) ρ := hI.mono (by omega)
  have hS1 : SV (cn + 1) π sv := hS.mono (by omega)
  obtain ⟨a1, ht, ha1⟩ : ∃ a1 : Int, ((lI (sx xs (i + 1)) <<< ((iI 32).toInt64 &&& 63)) ||| (lI (sx xs (i + 2)) &&& lI 4294967295)) = lI a1 ∧ r64 a1 := ⟨_, lI_of _, lI_r _⟩
  obtain ⟨e, he⟩ : ∃ e : Int, (¬ (-1000000000 ≤ a1 ∧ a1 ≤ 1000000000) ∧ e = 1) ∨ ((-1000000000 ≤ a1 ∧ a1 ≤ 1000000000) ∧ (ρ 12304 < 2 ∨ ρ 12305 = ρ 12307) ∧ e = 2) ∨ ((-1000000000 ≤ a1 ∧ a1 ≤ 1000000000) ∧ ¬ (ρ 12304 < 2 ∨ ρ 12305 = ρ 12307) ∧ e = 0) := by
    by_cases hh0 : (-1000000000 ≤ a1 ∧ a1 ≤ 1000000000) <;> by_cases hh1 : (ρ 12304 < 2 ∨ ρ 12305 = ρ 12307) <;> first | exact ⟨0, by omega⟩ | exact ⟨1, by omega⟩ | exact ⟨2, by omega⟩ | exact ⟨3, by omega⟩
  refine U_aload_n dL_law_1379 rfl ?_
  refine U_aload_n dL_law_1380 rfl ?_
  refine U_iload dL_law_1381 rfl ?_
  refine U_iconst (v := iI (1)) dL_law_1383 rfl ?_
  refine J_iadd dL_law_1384 ?_
  refine J_scr hT dL_law_1385 ⟨by omega, by omega⟩ hN ?_
  refine J_i2l dL_law_1386 sx_r ?_
  refine U_bipush (v := iI (32)) dL_law_1387 (by decide +kernel) ?_
  refine U_lshl dL_law_1389 ?_
  refine U_aload_n dL_law_1390 rfl ?_
  refine U_iload dL_law_1391 rfl ?_
  refine U_iconst (v := iI (2)) dL_law_1393 rfl ?_
  refine J_iadd dL_law_1394 ?_
  refine J_scr hT dL_law_1395 ⟨by omega, by omega⟩ hN ?_
  refine J_i2l dL_law_1396 sx_r ?_
  refine U_ldc2 (v := lI (4294967295)) dL_law_1397 (kL (by decide +kernel) kL_167) ?_
  refine U_land dL_law_1400 ?_
  refine U_lor dL_law_1401 ?_
  refine U_top (congrArg Value.long ht) ?_
  refine U_aload_n dL_law_1402 rfl ?_
  refine U_callW (vs := [_, _, _]) (w_groundTime l W x o _ x0 g ho a1 (rgt ρ a1) e (fun M' => M' = W) (fun M' h => by rw [h]; exact ho) (p_groundTime l hfl W x ρ π sv hTL a1 ha1 hRI.2.2.2.2 e he)) mL_169 wc_groundTime dL_law_1403 rfl rfl ⟨(Nat.le_of_ble_eq_true rfl), (Nat.le_of_ble_eq_true rfl)⟩ (Nat.le_of_ble_eq_true rfl) ⟨(le_r (b := 601024) (by show k + 1 ≤ _; omega) rfl), (le_r (b := 7293034) (by show n + 6 ≤ _; omega) rfl)⟩ (fun v0 W1 sz1 hp => ?_)
  obtain ⟨rfl, hp⟩ := hp
  refine U_istore (L' := [some _, some _, some _, some _, some _, some _, none, none]) dL_law_1406 (by decide) rfl ?_
  rcases hp with ⟨he0, M1, hM1, rfl⟩ | ⟨he0, rfl⟩
  · subst hM1
    have hI2 := hI1
    have hS2 := hS1
    have hv2 := hv
    have hT2 : TL (mu M1 o (aL 1 (up g 0 (rgt ρ a1)))) x ρ π sv := hTL.mv hI hS hv.2 (fun q u v => mu_ne (by omega))
    have hR2 : RD (mu M1 o (aL 1 (up g 0 (rgt ρ a1)))) (x + 1062) ρ π sv rf hs := hR.mv (fun q u v => mu_ne (by omega))
    refine U_eqM hR2.self ?_
    refine U_aload_n dL_law_1408 rfl ?_
    refine U_aload_n dL_law_1409 rfl ?_
    refine U_iload dL_law_1410 rfl ?_
    refine U_iconst (v := iI (1)) dL_law_1412 rfl ?_
    refine J_iadd dL_law_1413 ?_
    refine J_scr hT dL_law_1414 ⟨by omega, by omega⟩ hN ?_
    refine J_i2l dL_law_1415 sx_r ?_
    refine U_bipush (v := iI (32)) dL_law_1416 (by decide +kernel) ?_
    refine U_lshl dL_law_1418 ?_
    refine U_aload_n dL_law_1419 rfl ?_
    refine U_iload dL_law_1420 rfl ?_
    refine U_iconst (v := iI (2)) dL_law_1422 rfl ?_
    refine J_iadd dL_law_1423 ?_
    refine J_scr hT dL_law_1424 ⟨by omega, by omega⟩ hN ?_
    refine J_i2l dL_law_1425 sx_r ?_
    refine U_ldc2 (v := lI (4294967295)) dL_law_1426 (kL (by decide +kernel) kL_167) ?_
    refine U_land dL_law_1429 ?_
    refine U_lor dL_law_1430 ?_
    refine U_top (congrArg Value.long ht) ?_
    refine U_cVP (vs := [_]) (r_groundTime l _ (x + 1062) ρ π sv rf hs a1 ha1 hRI.2.2.2.2 e he) mL_172 coX11_groundTime dL_law_1431 rM_0 rfl rfl rfl (by decide) (Nat.le_of_ble_eq_true rfl) (le_r (b := 601024) (by show k + 1 ≤ _; omega) rfl) (le_r (b := 7293034) (by show n + 6 ≤ _; omega) rfl) (fun v2 W2 sz2 hp2 => ?_)
    rcases hp2 with ⟨h0, -, -⟩ | ⟨-, rfl, rfl⟩
    · omega
    refine U_lstore (L' := [some _, some _, some _, some _, some _, some _, some _, none]) dL_law_1434 (by decide) rfl ?_
    refine U_aload_n dL_law_1436 rfl ?_
    refine U_cV (vs := []) (r_thrown l _ (x + 1062) _ _ _ e hs) mL_88 coX11_thrown dL_law_1437 rM_0 rfl rfl rfl (by decide) (Nat.le_of_ble_eq_true rfl) (le_r (b := 601024) (by show k + 1 ≤ _; omega) rfl) (le_r (b := 7293034) (by show n + 6 ≤ _; omega) rfl) (fun sz3 => ?_)
    refine U_iload dL_law_1440 rfl ?_
    refine U_icmp_eq_t (tgt := 1447) dL_law_1442 (by decide) rfl ?_
    refine U_iload dL_law_1447 rfl ?_
    refine J_if_ne (tgt := 1463) dL_law_1449 (by decide) ⟨by omega, by omega⟩ (fun h9 => absurd he0 h9) (fun _ => ?_)
    refine U_aload_n dL_law_1452 rfl ?_
    refine U_iconst (v := iI (0)) dL_law_1453 rfl ?_
    refine J_lald dL_law_1454 ((rM_o (by omega) (by omega) (by omega)).trans mu_eq) ⟨by omega, by omega⟩ (by decide) ?_
    rw [up_s]
    refine U_lload dL_law_1455 rfl ?_
    refine U_lcE (tgt := 1463) rfl dL_law_1457 dL_law_1458 (by decide) ?_
    refine U_goto (tgt := 1524) dL_law_1463 (by decide) ?_
    exact U_wk' (next _ _ _ _ _ _ _ _ _ (LW.of hT2 mu_eq hI2 hS2 hv2 hxo) (by show k + 1 ≤ _; omega) (by show n + 6 ≤ _; omega)) ⟨rfl, rfl, rfl, rfl, rfl, trivial⟩
  · refine U_eqM hR.self ?_
    refine U_aload_n dL_law_1408 rfl ?_
    refine U_aload_n dL_law_1409 rfl ?_
    refine U_iload dL_law_1410 rfl ?_
    refine U_iconst (v := iI (1)) dL_law_1412 rfl ?_
    refine J_iadd dL_law_1413 ?_
    refine J_scr hT dL_law_1414 ⟨by omega, by omega⟩ hN ?_
    refine J_i2l dL_law_1415 sx_r ?_
    refine U_bipush (v := iI (32)) dL_law_1416 (by decide +kernel) ?_
    refine U_lshl dL_law_1418 ?_
    refine U_aload_n dL_law_1419 rfl ?_
    refine U_iload dL_law_1420 rfl ?_
    refine U_iconst (v := iI (2)) dL_law_1422 rfl ?_
    refine J_iadd dL_law_1423 ?_
    refine J_scr hT dL_law_1424 ⟨by omega, by omega⟩ hN ?_
    refine J_i2l dL_law_1425 sx_r ?_
    refine U_ldc2 (v := lI (4294967295)) dL_law_1426 (kL (by decide +kernel) kL_167) ?_
    refine U_land dL_law_1429 ?_
    refine U_lor dL_law_1430 ?_
    refine U_top (congrArg Value.long ht) ?_
    refine U_cVP (vs := [_]) (r_groundTime l _ (x + 1062) ρ π sv rf hs a1 ha1 hRI.2.2.2.2 e he) mL_172 coX11_groundTime dL_law_1431 rM_0 rfl rfl rfl (by decide) (Nat.le_of_ble_eq_true rfl) (le_r (b := 601024) (by show k + 1 ≤ _; omega) rfl) (le_r (b := 7293034) (by show n + 6 ≤ _; omega) rfl) (fun v2 W2 sz2 hp2 => ?_)
    obtain ⟨-, rfl, rfl⟩ := hp2.resolve_right (fun h => absurd h.1 (by omega))
    refine U_lstore (L' := [some _, some _, some _, some _, some _, some _, some _, none]) dL_law_1434 (by decide) rfl ?_
    refine U_aload_n dL_law_1436 rfl ?_
    refine U_cV (vs := []) (r_thrown l _ (x + 1062) _ _ _ e hs) mL_88 coX11_thrown dL_law_1437 rM_0 rfl rfl rfl (by decide) (Nat.le_of_ble_eq_true rfl) (le_r (b := 601024) (by show k + 1 ≤ _; omega) rfl) (le_r (b := 7293034) (by show n + 6 ≤ _; omega) rfl) (fun sz3 => ?_)
    refine U_iload dL_law_1440 rfl ?_
    refine U_icmp_eq_t (tgt := 1447) dL_law_1442 (by decide) rfl ?_
    refine U_iload dL_law_1447 rfl ?_
    refine J_if_ne (tgt := 1463) dL_law_1449 (by decide) ⟨by omega, by omega⟩ (fun _ => ?_) (fun h9 => absurd h9 (by omega))
    refine U_goto (tgt := 1524) dL_law_1463 (by decide) ?_
    exact U_wk' (next _ _ _ _ _ _ _ _ _ (LW.of hTL ho hI1 hS1 hv hxo) (by show k + 1 ≤ _; omega) (by show n + 6 ≤ _; omega)) ⟨rfl, rfl, rfl, rfl, rfl, trivial⟩

set_option maxRecDepth 100000 in
set_option maxHeartbeats 4000000 in
theorem lw_undo (l : Launch) (hfl : l.stackTraces = false) (G : GG) (A : Nat → Prop) (T : State → Code → Array Value → Prop) (Z : List Frame → Array Value → State → State → Prop) (b N : Nat) (xs : Nat → Int32) (hT : ∀ s c args, T s c args → va_X b N xs s s.heap ∧ b < s.heap.size ∧ ¬ A b) (hN : N < 2 ^ 31) (x o : Nat) (W : ME) (ρ π : Int → Int) (sv rf hs : Int) (cn i : Int) (k n sz : Nat) (hcn : 0 ≤ cn ∧ cn ≤ 512) (hi : 0 ≤ i ∧ i + 5 ≤ N) (hk : k ≤ 600000) (hn : n ≤ 7000000) (hL : LW cn x o W ρ π sv rf hs)
    (next : ∀ (W' : ME) (ρ' π' : Int → Int) (sv' rf' hs' : Int) (k' n' sz' : Nat), LW (cn + 1) x o W' ρ' π' sv' rf' hs' → k' ≤ k + 1 → n' ≤ n + 6 → U l G A room_1 RL cL_law 8 ret T Z k' n' W' sz' 1524 [some (.ref b), some (.ref x), some (.ref (x + 1062)), some (.ref o), some (.int (iI i)), none, none, none] []) :
    U l G A room_1 RL cL_law 8 ret T Z k n W sz 1466 [some (.ref b), some (.ref x), some (.ref (x + 1062)), some (.ref o), some (.int (iI i)), none, none, none] [] := by
  obtain ⟨hTL, hR, ⟨g, ho⟩, hI, hS, hv, hxo⟩ := id hL
  obtain ⟨a0, f0, x0, -⟩ := id hTL
  have hP := hS.P
  have hSI := hI.1.1
  have hXI := hI.1.2.1
  have h3 := hI.1.2.2.1
  have hPI := hI.1.2.2.2
  have hWr := hI.2.1
  have hRI := hI.2.2.1
  have hCI := hI.2.2.2
  have hQA := hSI.QA
  have hI1 : IV (cn + 1) ρ := hI.mono (by omega)
  have hS1 : SV (cn + 1) π sv := hS.mono (by omega)
  obtain ⟨e, he⟩ : ∃ e : Int, (sv = 0 ∧ e = 1) ∨ (¬ sv = 0 ∧ e = 0) := by
    by_cases hh0 : sv = 0 <;> first | exact ⟨0, by omega⟩ | exact ⟨1, by omega⟩ | exact ⟨2, by omega⟩ | exact ⟨3, by omega⟩
  refine U_aload_n dL_law_1466 rfl ?_
  refine U_aload_n dL_law_1467 rfl ?_
  refine U_callW (vs := [_, _]) (w_undo l W x o _ x0 g ho  (sv - 1) e (fun M' => TL M' x (bcp ρ π (12309 * (sv - 1)) 12309) (π) (sv - 1) ∧ FR W M' x 1062) (fun M' h => (h.2 _ (by omega)).trans ho) (p_undo l hfl W x ρ π sv hTL hv hWr hRI hP e he)) mL_173 wc_undo dL_law_1468 rfl rfl ⟨(Nat.le_of_ble_eq_true rfl), (Nat.le_of_ble_eq_true rfl)⟩ (Nat.le_of_ble_eq_true rfl) ⟨(le_r (b := 601024) (by show k + 1 ≤ _; omega) rfl), (le_r (b := 7293034) (by show n + 6 ≤ _; omega) rfl)⟩ (fun v0 W1 sz1 hp => ?_)
  obtain ⟨rfl, hp⟩ := hp
  refine U_istore (L' := [some _, some _, some _, some _, some _, some _, none, none]) dL_law_1471 (by decide) rfl ?_
  rcases hp with ⟨he0, M1, hM1, rfl⟩ | ⟨he0, rfl⟩
  · obtain ⟨hT1, hF1⟩ := hM1
    obtain ⟨hI2a, hS2a⟩ := SV.und (ρ := ρ) (π := π) (sv := sv) (n := cn) (by omega) hS
    have hI2 := hI2a.mono (n' := cn + 1) (by omega)
    have hS2 := hS2a.mono (n' := cn + 1) (by omega)
    have hv2 : 0 ≤ sv - 1 ∧ sv - 1 ≤ 3 := by omega
    have hT2 : TL (mu M1 o (aL 1 (up g 0 (c32 (sv - 1))))) x (bcp ρ π (12309 * (sv - 1)) 12309) (π) (sv - 1) := hT1.mv hI2 hS2 hv2.2 (fun q u v => mu_ne (by omega))
    have hR2 : RD (mu M1 o (aL 1 (up g 0 (c32 (sv - 1))))) (x + 1062) ρ π sv rf hs := hR.mv (fun q u v => (mu_ne (by omega)).trans (hF1 q (by omega)))
    refine U_eqM hR2.self ?_
    refine U_aload_n dL_law_1473 rfl ?_
    refine U_cVP (vs := []) (r_undo l _ (x + 1062) ρ π sv rf hs hv e he) mL_176 coX11_undo dL_law_1474 rM_0 rfl rfl rfl (by decide) (Nat.le_of_ble_eq_true rfl) (le_r (b := 601024) (by show k + 1 ≤ _; omega) rfl) (le_r (b := 7293034) (by show n + 6 ≤ _; omega) rfl) (fun v2 W2 sz2 hp2 => ?_)
    rcases hp2 with ⟨h0, -, -⟩ | ⟨-, rfl, rfl⟩
    · omega
    refine U_istore (L' := [some _, some _, some _, some _, some _, some _, some _, none]) dL_law_1477 (by decide) rfl ?_
    refine U_aload_n dL_law_1479 rfl ?_
    refine U_cV (vs := []) (r_thrown l _ (x + 1062) _ _ _ e hs) mL_88 coX11_thrown dL_law_1480 rM_0 rfl rfl rfl (by decide) (Nat.le_of_ble_eq_true rfl) (le_r (b := 601024) (by show k + 1 ≤ _; omega) rfl) (le_r (b := 7293034) (by show n + 6 ≤ _; omega) rfl) (fun sz3 => ?_)
    refine U_iload dL_law_1483 rfl ?_
    refine U_icmp_eq_t (tgt := 1490) dL_law_1485 (by decide) rfl ?_
    refine U_iload dL_law_1490 rfl ?_
    refine J_if_ne (tgt := 1507) dL_law_1492 (by decide) ⟨by omega, by omega⟩ (fun h9 => absurd he0 h9) (fun _ => ?_)
    refine U_aload_n dL_law_1495 rfl ?_
    refine U_iconst (v := iI (0)) dL_law_1496 rfl ?_
    refine J_lald dL_law_1497 ((rM_o (by omega) (by omega) (by omega)).trans mu_eq) ⟨by omega, by omega⟩ (by decide) ?_
    rw [up_s]
    refine U_iload dL_law_1498 rfl ?_
    refine J_i2lc dL_law_1500 ?_
    refine U_lcE (tgt := 1507) rfl dL_law_1501 dL_law_1502 (by decide) ?_
    refine U_goto (tgt := 1524) dL_law_1507 (by decide) ?_
    exact U_wk' (next _ _ _ _ _ _ _ _ _ (LW.of hT2 mu_eq hI2 hS2 hv2 hxo) (by show k + 1 ≤ _; omega) (by show n + 6 ≤ _; omega)) ⟨rfl, rfl, rfl, rfl, rfl, trivial⟩
  · refine U_eqM hR.self ?_
    refine U_aload_n dL_law_1473 rfl ?_
    refine U_cVP (vs := []) (r_undo l _ (x + 1062) ρ π sv rf hs hv e he) mL_176 coX11_undo dL_law_1474 rM_0 rfl rfl rfl (by decide) (Nat.le_of_ble_eq_true rfl) (le_r (b := 601024) (by show k + 1 ≤ _; omega) rfl) (le_r (b := 7293034) (by show n + 6 ≤ _; omega) rfl) (fun v2 W2 sz2 hp2 => ?_)
    obtain ⟨-, rfl, rfl⟩ := hp2.resolve_right (fun h => absurd h.1 (by omega))
    refine U_istore (L' := [some _, some _, some _, some _, some _, some _, some _, none]) dL_law_1477 (by decide) rfl ?_
    refine U_aload_n dL_law_1479 rfl ?_
    refine U_cV (vs := []) (r_thrown l _ (x + 1062) _ _ _ e hs) mL_88 coX11_thrown dL_law_1480 rM_0 rfl rfl rfl (by decide) (Nat.le_of_ble_eq_true rfl) (le_r (b := 601024) (by show k + 1 ≤ _; omega) rfl) (le_r (b := 7293034) (by show n + 6 ≤ _; omega) rfl) (fun sz3 => ?_)
    refine U_iload dL_law_1483 rfl ?_
    refine U_icmp_eq_t (tgt := 1490) dL_law_1485 (by decide) rfl ?_
    refine U_iload dL_law_1490 rfl ?_
    refine J_if_ne (tgt := 1507) dL_law_1492 (by decide) ⟨by omega, by omega⟩ (fun _ => ?_) (fun h9 => absurd h9 (by omega))
    refine U_goto (tgt := 1524) dL_law_1507 (by decide) ?_
    exact U_wk' (next _ _ _ _ _ _ _ _ _ (LW.of hTL ho hI1 hS1 hv hxo) (by show k + 1 ≤ _; omega) (by show n + 6 ≤ _; omega)) ⟨rfl, rfl, rfl, rfl, rfl, trivial⟩

set_option maxRecDepth 100000 in
set_option maxHeartbeats 4000000 in
theorem lw_digest (l : Launch) (hfl : l.stackTraces = false) (G : GG) (A : Nat → Prop) (T : State → Code → Array Value → Prop) (Z : List Frame → Array Value → State → State → Prop) (b N : Nat) (xs : Nat → Int32) (hT : ∀ s c args, T s c args → va_X b N xs s s.heap ∧ b < s.heap.size ∧ ¬ A b) (hN : N < 2 ^ 31) (x o : Nat) (W : ME) (ρ π : Int → Int) (sv rf hs : Int) (cn i : Int) (k n sz : Nat) (hcn : 0 ≤ cn ∧ cn ≤ 512) (hi : 0 ≤ i ∧ i + 5 ≤ N) (hk : k ≤ 600000) (hn : n ≤ 7000000) (hL : LW cn x o W ρ π sv rf hs)
    (next : ∀ (W' : ME) (ρ' π' : Int → Int) (sv' rf' hs' : Int) (k' n' sz' : Nat), LW (cn + 1) x o W' ρ' π' sv' rf' hs' → k' ≤ k + 1 → n' ≤ n + 6 → U l G A room_1 RL cL_law 8 ret T Z k' n' W' sz' 1524 [some (.ref b), some (.ref x), some (.ref (x + 1062)), some (.ref o), some (.int (iI i)), none, none, none] []) :
    U l G A room_1 RL cL_law 8 ret T Z k n W sz 1510 [some (.ref b), some (.ref x), some (.ref (x + 1062)), some (.ref o), some (.int (iI i)), none, none, none] [] := by
  obtain ⟨hTL, hR, ⟨g, ho⟩, hI, hS, hv, hxo⟩ := id hL
  obtain ⟨a0, f0, x0, -⟩ := id hTL
  have hP := hS.P
  have hSI := hI.1.1
  have hXI := hI.1.2.1
  have h3 := hI.1.2.2.1
  have hPI := hI.1.2.2.2
  have hWr := hI.2.1
  have hRI := hI.2.2.1
  have hCI := hI.2.2.2
  have hQA := hSI.QA
  have hI1 : IV (cn + 1) ρ := hI.mono (by omega)
  have hS1 : SV (cn + 1) π sv := hS.mono (by omega)
  refine U_aload_n dL_law_1510 rfl ?_
  refine U_cV (vs := []) (p_digest l W x ρ π sv hTL hQA (by have := hSI.2.2.1; omega) hSI.2.2.2.1 hWr hRI.2.2.2.1 hRI.2.2.2.2 (3000 * cn) hCI) mL_177 coX10_digest dL_law_1511 x0 rfl rfl rfl (by decide) (Nat.le_of_ble_eq_true rfl) (le_r (b := 601024) (by omega) rfl) (le_r (b := 7293034) (by omega) rfl) (fun sz1 => ?_)
  refine U_eqM hR.self ?_
  refine U_aload_n dL_law_1514 rfl ?_
  refine U_cV (vs := []) (r_digest l W (x + 1062) ρ π sv rf hs hQA (by have := hSI.2.2.1; omega) hSI.2.2.2.1 hWr hRI.2.2.2.1.2.1 hRI.2.2.2.2.1) mL_180 coX11_digest dL_law_1515 rM_0 rfl rfl rfl (by decide) (Nat.le_of_ble_eq_true rfl) (le_r (b := 601024) (by omega) rfl) (le_r (b := 7293034) (by omega) rfl) (fun sz2 => ?_)
  refine U_lcE (tgt := 1524) rfl dL_law_1518 dL_law_1519 (by decide) ?_
  exact next _ _ _ _ _ _ _ _ _ (LW.of hTL ho hI1 hS1 hv hxo) (by omega) (by omega)
