/-! THE CLAIM OUT OF ONE WALK OF THE LAW'S BODY. Your part is whole_start (and what it stands on); all else here is the same for every law, but numbers. -/
def R_law : String := "TelemetryLinkLaw"
def lw_P (b : Addr) (xs : List Int32) (args : Array Value) (s : State) : Prop := args = #[.ref b] ∧ s.IntsAt b xs ∧ xs.length ≤ 2560 ∧ (Jvm.Cond.and given_1 narrow_1).before args s = true
def lw_Q (_ : Array Value) (s : State) (o : Outcome) (t : State) : Prop := o = .returned (some (.int 1)) ∧ Framed s o t [] 601024 7293034
def lw_Z (below : List Frame) (a : Array Value) (s : State) : State → Prop := fun t => ∃ o, t.status = .running ∧ Ended t below o ∧ lw_Q a s o t
/-- the law's own end, with 1 on the stack, nothing written that was there before, its room as the claim has it -/
theorem lw_ret {p : Program} {l : Launch} {e : Env} {s : State} {m : MethodId} {below : List Frame} {meth : Method} {c : Code} {b : Nat} (hx : p.tables.exec = Jvm.exec) (hb : c.code = code) (hr : meth.sig.returnType = ret) (hlocks : meth.locks = false) {pc : Nat} {H : Heap} {ls : Array Slot} (hdg : decode code pc = .ok (.ireturn, 1)) : W p l e room_1 s m #[Value.ref b] below meth c H [] 601024 7293034 (lw_Z below #[Value.ref b] s) (F0 m pc ls [.int 1]) := by
  intro T hT X
  obtain ⟨fs, hret, hrun, hended, hW, hframe⟩ := X.leave (v := some (.int 1)) (hlocks := hlocks) (fun h => by rw [hr] at h; cases h)
  have hmeth' : T.vm.method? m = some meth := X.method'
  refine ⟨T.setFrames fs, ?_, .returned (some (.int 1)), hrun, hended, rfl, ⟨_, rfl⟩, hW, hframe⟩
  jvm_step X.here [X.here.top, hx, hb, hdg, hmeth', hr, ret, narrow_b1]
  (try refine ⟨rfl, ?_⟩); (try refine ⟨rfl, ?_⟩)
  first | (intro acts; rw [hret _ acts rfl rfl rfl]) | rw [hret _ _ rfl rfl rfl]
  exact Steps.refl _
/-- what holds at the law's entry: the machine, the code, the tables' words (any of lw_tbl by 'hts w (by decide +kernel)'), the script of L ints xs at the cell b, what the Statement gives of the start (any of its parts by flat_of_before) -/
def lw_At (p : Program) (s : State) (m : MethodId) (meth : Method) (c : Code) (b L : Nat) (xs : Nat → Int32) : Prop :=
  p.tables.exec = Jvm.exec ∧ c.code = code ∧ meth.sig.returnType = ret ∧ c.maxLocals = 8 ∧ s.vm.findClass R_law = some m.cls ∧ (∀ w ∈ lw_tbl, w.before #[Value.ref b] s = true) ∧ va_X b L xs s s.heap ∧ b < s.heap.size ∧ meth.locks = false ∧ (Jvm.Cond.and given_1 narrow_1).before #[Value.ref b] s = true

theorem LW.mono {c c' : Int} {x o : Nat} {W : ME} {ρ π : Int → Int} {sv rf hs : Int} (h : LW c x o W ρ π sv rf hs) (hc : c ≤ c') : LW c' x o W ρ π sv rf hs := ⟨h.1, h.2.1, h.2.2.1, h.2.2.2.1.mono hc, h.2.2.2.2.1.mono hc, h.2.2.2.2.2⟩
set_option maxRecDepth 100000 in
set_option maxHeartbeats 4000000 in
theorem law_loop (l : Launch) (hfl : l.stackTraces = false) (G : GG) (A : Nat → Prop) (T : State → Code → Array Value → Prop) (Z : List Frame → Array Value → State → State → Prop) (b N : Nat) (xs : Nat → Int32) (hT : ∀ s c args, T s c args → va_X b N xs s s.heap ∧ b < s.heap.size ∧ ¬ A b) (hN : N ≤ 2560) (x o : Nat)
    (hend : ∀ (k n : Nat) (W : ME) (sz : Nat) (L : List (Option Value)), k ≤ 601024 → n ≤ 7293034 → U l G A room_1 RL cL_law 8 ret T Z k n W sz 1531 L [.int 1]) :
    ∀ (d : Nat) (cn : Int) (k n sz : Nat) (W : ME) (ρ π : Int → Int) (sv rf hs : Int), 0 ≤ cn → 5 * cn ≤ N → k ≤ 2000 + cn → n ≤ 200000 + 6 * cn → LW cn x o W ρ π sv rf hs → (N - 5 * cn : Int).toNat = d → U l G A room_1 RL cL_law 8 ret T Z k n W sz 23 [some (.ref b), some (.ref x), some (.ref (x + 1062)), some (.ref o), some (.int (iI (5 * cn))), none, none, none] [] := by
  intro d
  induction d using Nat.strongRecOn with
  | ind d ih =>
    intro cn k n sz W ρ π sv rf hs hc0 hcN hk hn hL hd
    obtain ⟨i, hi⟩ : ∃ i : Int, i = 5 * cn := ⟨_, rfl⟩
    rw [← hi]
    refine U_iload dL_law_23 rfl ?_
    refine U_aload_n dL_law_25 rfl ?_
    refine U_slen hT dL_law_26 ?_
    refine U_top (show Value.int (nI N) = Value.int (iI (N : Int)) from rfl) ?_
    refine U_iconst (v := iI 5) dL_law_27 rfl ?_
    refine J_isub dL_law_28 ?_
    refine J_icmp_gt (tgt := 1530) dL_law_29 (by decide) ⟨by omega, by omega⟩ ⟨by omega, by omega⟩ (fun h29 => ?_) (fun h29 => ?_)
    · refine U_iconst (v := 1) dL_law_1530 (by decide) ?_
      exact hend _ _ _ _ _ (by omega) (by omega)
    · have next : ∀ (W' : ME) (ρ' π' : Int → Int) (sv' rf' hs' : Int) (k' n' sz' : Nat), LW (cn + 1) x o W' ρ' π' sv' rf' hs' → k' ≤ k + 1 → n' ≤ n + 6 → U l G A room_1 RL cL_law 8 ret T Z k' n' W' sz' 1524 [some (.ref b), some (.ref x), some (.ref (x + 1062)), some (.ref o), some (.int (iI i)), none, none, none] [] := by
        intro W' ρ' π' sv' rf' hs' k' n' sz' hL' hk' hn'
        refine J_iinc (L' := [some _, some _, some _, some _, some _, none, none, none]) dL_law_1524 rfl (by decide) rfl ?_
        refine U_goto (tgt := 23) dL_law_1527 (by decide) ?_
        refine U_wk' (ih _ (by omega) (cn + 1) k' n' sz' W' ρ' π' sv' rf' hs' (by omega) (by omega) (by omega) (by omega) hL' rfl) ⟨rfl, rfl, rfl, rfl, ?_, trivial⟩
        rw [hi, show 5 * (cn + 1) = 5 * cn + 5 by omega]
      refine U_aload_n dL_law_32 rfl ?_
      refine U_iload dL_law_33 rfl ?_
      refine J_scr hT dL_law_35 ⟨by omega, by omega⟩ (by omega) ?_
      refine U_bipush (v := iI 31) dL_law_36 (by decide +kernel) ?_
      refine J_and31 dL_law_38 ?_
      obtain ⟨z, hz⟩ : ∃ z, z = sx xs i % 32 := ⟨_, rfl⟩
      rw [← hz]
      rcases (show (z < 0 ∨ 25 < z) ∨ z = 0 ∨ z = 1 ∨ z = 2 ∨ z = 3 ∨ z = 4 ∨ z = 5 ∨ z = 6 ∨ z = 7 ∨ z = 8 ∨ z = 9 ∨ z = 10 ∨ z = 11 ∨ z = 12 ∨ z = 13 ∨ z = 14 ∨ z = 15 ∨ z = 16 ∨ z = 17 ∨ z = 18 ∨ z = 19 ∨ z = 20 ∨ z = 21 ∨ z = 22 ∨ z = 23 ∨ z = 24 ∨ z = 25 by omega) with h | h | h | h | h | h | h | h | h | h | h | h | h | h | h | h | h | h | h | h | h | h | h | h | h | h | h
      · refine J_tabOut (tgt := 1524) dL_law_39 ⟨by omega, by omega⟩ h (by decide) ?_
        exact next _ _ _ _ _ _ _ _ _ (hL.mono (by omega)) (by omega) (by omega)
      · refine J_tab (tgt := 156) dL_law_39 ⟨by omega, by omega⟩ (by omega) (by omega) (by rw [h]; rfl) (by decide) ?_
        exact lw_setFrameLength l hfl G A T Z b N xs hT (by omega) x o W ρ π sv rf hs cn i k n _ (by omega) (by omega) (by omega) (by omega) hL next
      · refine J_tab (tgt := 212) dL_law_39 ⟨by omega, by omega⟩ (by omega) (by omega) (by rw [h]; rfl) (by decide) ?_
        exact lw_setChannel l hfl G A T Z b N xs hT (by omega) x o W ρ π sv rf hs cn i k n _ (by omega) (by omega) (by omega) (by omega) hL next
      · refine J_tab (tgt := 304) dL_law_39 ⟨by omega, by omega⟩ (by omega) (by omega) (by rw [h]; rfl) (by decide) ?_
        exact lw_setClock l hfl G A T Z b N xs hT (by omega) x o W ρ π sv rf hs cn i k n _ (by omega) (by omega) (by omega) (by omega) hL next
      · refine J_tab (tgt := 372) dL_law_39 ⟨by omega, by omega⟩ (by omega) (by omega) (by rw [h]; rfl) (by decide) ?_
        exact lw_addPacket l hfl G A T Z b N xs hT (by omega) x o W ρ π sv rf hs cn i k n _ (by omega) (by omega) (by omega) (by omega) hL next
      · refine J_tab (tgt := 464) dL_law_39 ⟨by omega, by omega⟩ (by omega) (by omega) (by rw [h]; rfl) (by decide) ?_
        exact lw_queue l hfl G A T Z b N xs hT (by omega) x o W ρ π sv rf hs cn i k n _ (by omega) (by omega) (by omega) (by omega) hL next
      · refine J_tab (tgt := 532) dL_law_39 ⟨by omega, by omega⟩ (by omega) (by omega) (by rw [h]; rfl) (by decide) ?_
        exact lw_nextChannel l hfl G A T Z b N xs hT (by omega) x o W ρ π sv rf hs cn i k n _ (by omega) (by omega) (by omega) (by omega) hL next
      · refine J_tab (tgt := 545) dL_law_39 ⟨by omega, by omega⟩ (by omega) (by omega) (by rw [h]; rfl) (by decide) ?_
        exact lw_send l hfl G A T Z b N xs hT (by omega) x o W ρ π sv rf hs cn i k n _ (by omega) (by omega) (by omega) (by omega) hL next
      · refine J_tab (tgt := 601) dL_law_39 ⟨by omega, by omega⟩ (by omega) (by omega) (by rw [h]; rfl) (by decide) ?_
        exact lw_slot l hfl G A T Z b N xs hT (by omega) x o W ρ π sv rf hs cn i k n _ (by omega) (by omega) (by omega) (by omega) hL next
      · refine J_tab (tgt := 614) dL_law_39 ⟨by omega, by omega⟩ (by omega) (by omega) (by rw [h]; rfl) (by decide) ?_
        exact lw_sent l hfl G A T Z b N xs hT (by omega) x o W ρ π sv rf hs cn i k n _ (by omega) (by omega) (by omega) (by omega) hL next
      · refine J_tab (tgt := 682) dL_law_39 ⟨by omega, by omega⟩ (by omega) (by omega) (by rw [h]; rfl) (by decide) ?_
        exact lw_wire l hfl G A T Z b N xs hT (by omega) x o W ρ π sv rf hs cn i k n _ (by omega) (by omega) (by omega) (by omega) hL next
      · refine J_tab (tgt := 695) dL_law_39 ⟨by omega, by omega⟩ (by omega) (by omega) (by rw [h]; rfl) (by decide) ?_
        exact lw_frameByte l hfl G A T Z b N xs hT (by omega) x o W ρ π sv rf hs cn i k n _ (by omega) (by omega) (by omega) (by omega) hL next
      · refine J_tab (tgt := 763) dL_law_39 ⟨by omega, by omega⟩ (by omega) (by omega) (by rw [h]; rfl) (by decide) ?_
        exact lw_corrupt l hfl G A T Z b N xs hT (by omega) x o W ρ π sv rf hs cn i k n _ (by omega) (by omega) (by omega) (by omega) hL next
      · refine J_tab (tgt := 843) dL_law_39 ⟨by omega, by omega⟩ (by omega) (by omega) (by rw [h]; rfl) (by decide) ?_
        exact lw_repair l hfl G A T Z b N xs hT (by omega) x o W ρ π sv rf hs cn i k n _ (by omega) (by omega) (by omega) (by omega) hL next
      · refine J_tab (tgt := 899) dL_law_39 ⟨by omega, by omega⟩ (by omega) (by omega) (by rw [h]; rfl) (by decide) ?_
        exact lw_lose l hfl G A T Z b N xs hT (by omega) x o W ρ π sv rf hs cn i k n _ (by omega) (by omega) (by omega) (by omega) hL next
      · refine J_tab (tgt := 955) dL_law_39 ⟨by omega, by omega⟩ (by omega) (by omega) (by rw [h]; rfl) (by decide) ?_
        exact lw_receive l hfl G A T Z b N xs hT (by omega) x o W ρ π sv rf hs cn i k n _ (by omega) (by omega) (by omega) (by omega) hL next
      · refine J_tab (tgt := 1011) dL_law_39 ⟨by omega, by omega⟩ (by omega) (by omega) (by rw [h]; rfl) (by decide) ?_
        exact lw_count l hfl G A T Z b N xs hT (by omega) x o W ρ π sv rf hs cn i k n _ (by omega) (by omega) (by omega) (by omega) hL next
      · refine J_tab (tgt := 1067) dL_law_39 ⟨by omega, by omega⟩ (by omega) (by omega) (by rw [h]; rfl) (by decide) ?_
        exact lw_received l hfl G A T Z b N xs hT (by omega) x o W ρ π sv rf hs cn i k n _ (by omega) (by omega) (by omega) (by omega) hL next
      · refine J_tab (tgt := 1135) dL_law_39 ⟨by omega, by omega⟩ (by omega) (by omega) (by rw [h]; rfl) (by decide) ?_
        exact lw_application l hfl G A T Z b N xs hT (by omega) x o W ρ π sv rf hs cn i k n _ (by omega) (by omega) (by omega) (by omega) hL next
      · refine J_tab (tgt := 1203) dL_law_39 ⟨by omega, by omega⟩ (by omega) (by omega) (by rw [h]; rfl) (by decide) ?_
        exact lw_packets l hfl G A T Z b N xs hT (by omega) x o W ρ π sv rf hs cn i k n _ (by omega) (by omega) (by omega) (by omega) hL next
      · refine J_tab (tgt := 1216) dL_law_39 ⟨by omega, by omega⟩ (by omega) (by omega) (by rw [h]; rfl) (by decide) ?_
        exact lw_packet l hfl G A T Z b N xs hT (by omega) x o W ρ π sv rf hs cn i k n _ (by omega) (by omega) (by omega) (by omega) hL next
      · refine J_tab (tgt := 1284) dL_law_39 ⟨by omega, by omega⟩ (by omega) (by omega) (by rw [h]; rfl) (by decide) ?_
        exact lw_packetByte l hfl G A T Z b N xs hT (by omega) x o W ρ π sv rf hs cn i k n _ (by omega) (by omega) (by omega) (by omega) hL next
      · refine J_tab (tgt := 1352) dL_law_39 ⟨by omega, by omega⟩ (by omega) (by omega) (by rw [h]; rfl) (by decide) ?_
        exact lw_clock l hfl G A T Z b N xs hT (by omega) x o W ρ π sv rf hs cn i k n _ (by omega) (by omega) (by omega) (by omega) hL next
      · refine J_tab (tgt := 1366) dL_law_39 ⟨by omega, by omega⟩ (by omega) (by omega) (by rw [h]; rfl) (by decide) ?_
        exact lw_timePairs l hfl G A T Z b N xs hT (by omega) x o W ρ π sv rf hs cn i k n _ (by omega) (by omega) (by omega) (by omega) hL next
      · refine J_tab (tgt := 1379) dL_law_39 ⟨by omega, by omega⟩ (by omega) (by omega) (by rw [h]; rfl) (by decide) ?_
        exact lw_groundTime l hfl G A T Z b N xs hT (by omega) x o W ρ π sv rf hs cn i k n _ (by omega) (by omega) (by omega) (by omega) hL next
      · refine J_tab (tgt := 1466) dL_law_39 ⟨by omega, by omega⟩ (by omega) (by omega) (by rw [h]; rfl) (by decide) ?_
        exact lw_undo l hfl G A T Z b N xs hT (by omega) x o W ρ π sv rf hs cn i k n _ (by omega) (by omega) (by omega) (by omega) hL next
      · refine J_tab (tgt := 1510) dL_law_39 ⟨by omega, by omega⟩ (by omega) (by omega) (by rw [h]; rfl) (by decide) ?_
        exact lw_digest l hfl G A T Z b N xs hT (by omega) x o W ρ π sv rf hs cn i k n _ (by omega) (by omega) (by omega) (by omega) hL next

theorem U_lt {l : Launch} {G : GG} {A : Nat → Prop} {R : Room} {own : String} {cc : ByteArray} {nL : Nat} {ret : Option FieldType} {T : State → Code → Array Value → Prop} {Z : List Frame → Array Value → State → State → Prop} {k n : Nat} {M : ME} {sz : Nat} {pc : Nat} {L : List (Option Value)} {st : List Value} {a : Nat} {e : Cel} (hM : M a = some e) (kk : a < sz → U l G A R own cc nL ret T Z k n M sz pc L st) : U l G A R own cc nL ret T Z k n M sz pc L st := by
  intro p e s m args below meth c H locs ls C hR hz hS hl
  exact kk (by rw [← hz]; exact hR.lt hM) p e s m args below meth c H locs ls C hR hz hS hl
theorem kn_a {s : State} {args : Array Value} {ty : FieldType} (ht : ty = .int ∨ ty = .long) (h : (Cond.arrayClass ty).before args s = true) : ∃ cA, ArrOfT s cA ty ∧ va_RA s cA ty := by
  obtain ⟨c, k, comp, h1, h2, h3⟩ := Cond.arrayClass_spec h
  refine ⟨c, fun n z => ⟨(fun k h => by cases h), k, h2, comp, h3⟩, ?_⟩
  rcases ht with rfl | rfl <;> exact h1
theorem kn_o {s : State} {args : Array Value} {C : String} (h : (Cond.arrayOver (.object C)).before args s = true) : ∃ cA, ArrOfT s cA (.object C) ∧ va_RA s cA (.object C) := by
  obtain ⟨comp, c, k, h1, h2, h3, h4, h5⟩ := Cond.arrayOver_spec h
  exact ⟨c, fun n z => ⟨(fun k h => by cases h), k, h3, comp, h4⟩, k, comp, h3, h4, h1, h5⟩
theorem kn_str {s : State} {args : Array Value} {own tx : String} {k : Nat} (h : (Cond.stringRef own k tx).before args s = true) : ∃ a, vk_R own k tx a s := by
  cases hc : s.vm.findClass own with
  | none => exact absurd h (by simp [Cond.before, Cond.holds, Cond.value, hc])
  | some cur =>
    obtain ⟨-, -, -, sa, -, -, -, -, -, hev⟩ := Cond.stringRef_spec hc h
    exact ⟨sa, vk_R.of h hev⟩
theorem kn_cl {s : State} {args : Array Value} (hts : ∀ w ∈ lw_tbl, w.before args s = true) : ∀ (k : Nat) (q : vw_C), vwCl[k]? = some q → ∃ (cC : ClassId) (iS : Nat → Nat), u_Kn s q.1 q.2.1 q.2.2 cC iS := by
  intro k q hq
  have ht : ∀ w ∈ tb, w ∈ lw_tbl := fun w hw => (List.mem_filter.mp hw).1
  match k, hq with
  | 0, hq => cases hq; exact u_known hts (fun w hw => ht w (clX0.2.1 w hw)) (hts _ (ht _ in0_a))
  | 1, hq => cases hq; exact u_known hts (fun w hw => ht w (clX1.2.1 w hw)) (hts _ (ht _ in1_a))
  | 2, hq => cases hq; exact u_known hts (fun w hw => ht w (clX2.2.1 w hw)) (hts _ (ht _ in2_a))
  | 3, hq => cases hq; exact u_known hts (fun w hw => ht w (clX3.2.1 w hw)) (hts _ (ht _ in3_a))
  | 4, hq => cases hq; exact u_known hts (fun w hw => ht w (clX4.2.1 w hw)) (hts _ (ht _ in4_a))
  | 5, hq => cases hq; exact u_known hts (fun w hw => ht w (clX5.2.1 w hw)) (hts _ (ht _ in5_a))
  | 6, hq => cases hq; exact u_known hts (fun w hw => ht w (clX6.2.1 w hw)) (hts _ (ht _ in6_a))
  | 7, hq => cases hq; exact u_known hts (fun w hw => ht w (clX7.2.1 w hw)) (hts _ (ht _ in7_a))
  | 8, hq => cases hq; exact u_known hts (fun w hw => ht w (clX8.2.1 w hw)) (hts _ (ht _ in8_a))
  | 9, hq => cases hq; exact u_known hts (fun w hw => ht w (clX9.2.1 w hw)) (hts _ (ht _ in9_a))
  | 10, hq => cases hq; exact u_known hts (fun w hw => ht w (clX10.2.1 w hw)) (hts _ (ht _ in10_a))
  | 11, hq => cases hq; exact u_known hts (fun w hw => ht w (clX11.2.1 w hw)) (hts _ (ht _ in11_a))
  | k + 12, hq => simp [vwCl] at hq
theorem kn_ar {s : State} {args : Array Value} (hts : ∀ w ∈ lw_tbl, w.before args s = true) : ∀ k : Nat, ∃ cA : ClassId, k < 8 → ArrOfT s cA (arTy k) ∧ va_RA s cA (arTy k) := by
  intro k
  have ht : ∀ w ∈ tb, w ∈ lw_tbl := fun w hw => (List.mem_filter.mp hw).1
  match k with
  | 0 => obtain ⟨c, h⟩ := kn_a (ty := .int) (Or.inl rfl) (hts _ (ht _ ac_int)); exact ⟨c, fun _ => h⟩
  | 1 => obtain ⟨c, h⟩ := kn_a (ty := .long) (Or.inr rfl) (hts _ (ht _ ac_long)); exact ⟨c, fun _ => h⟩
  | 2 => obtain ⟨c, h⟩ := kn_o (C := RX1) (hts _ (List.mem_of_getElem? (i := 145) (by decide +kernel))); exact ⟨c, fun _ => h⟩
  | 3 => obtain ⟨c, h⟩ := kn_o (C := RX2) (hts _ (List.mem_of_getElem? (i := 86) (by decide +kernel))); exact ⟨c, fun _ => h⟩
  | 4 => obtain ⟨c, h⟩ := kn_o (C := RX3) (hts _ (List.mem_of_getElem? (i := 273) (by decide +kernel))); exact ⟨c, fun _ => h⟩
  | 5 => obtain ⟨c, h⟩ := kn_o (C := RX4) (hts _ (List.mem_of_getElem? (i := 137) (by decide +kernel))); exact ⟨c, fun _ => h⟩
  | 6 => obtain ⟨c, h⟩ := kn_o (C := RX6) (hts _ (List.mem_of_getElem? (i := 78) (by decide +kernel))); exact ⟨c, fun _ => h⟩
  | 7 => obtain ⟨c, h⟩ := kn_o (C := RX7) (hts _ (List.mem_of_getElem? (i := 379) (by decide +kernel))); exact ⟨c, fun _ => h⟩
  | k + 8 => exact ⟨0, fun h => absurd h (by omega)⟩
theorem kn_ex {s : State} {args : Array Value} (hts : ∀ w ∈ lw_tbl, w.before args s = true) : ∃ G : GG, Kn G s := by
  have h1 : ∀ k : Nat, ∃ p : ClassId × (Nat → Nat), ∀ q : vw_C, vwCl[k]? = some q → u_Kn s q.1 q.2.1 q.2.2 p.1 p.2 := fun k => by
    cases hq : vwCl[k]? with
    | none => exact ⟨(0, fun _ => 0), fun q h => by cases h⟩
    | some q =>
      obtain ⟨c, i, h⟩ := kn_cl hts k q hq
      exact ⟨(c, i), fun q' h' => by cases h'; exact h⟩
  obtain ⟨f, hf⟩ := Classical.axiomOfChoice h1
  obtain ⟨g, hg⟩ := Classical.axiomOfChoice (kn_ar hts)
  refine ⟨((fun k => (f k).1, fun k => (f k).2), g), ⟨fun c q h => hf c q h, fun k q hq => ?_⟩, fun w hw => va_Nw.of (Xw_on (List.mem_filter.mp hw).2) (hts _ (List.mem_filter.mp hw).1), fun C hC => ?_, fun q hq => ?_⟩
  · have hk : k < 8 := (List.getElem?_eq_some_iff.mp hq).1
    have h2 := tysG_at ((fun k => (f k).1, fun k => (f k).2), g) hk
    cases h2.symm.trans hq
    exact hg k hk
  · simp only [tbA, List.mem_cons, List.not_mem_nil, or_false] at hC
    rcases hC with rfl | rfl | rfl | rfl | rfl | rfl
    · exact va_AO.of (hts _ (List.mem_of_getElem? (i := 145) (by decide +kernel)))
    · exact va_AO.of (hts _ (List.mem_of_getElem? (i := 86) (by decide +kernel)))
    · exact va_AO.of (hts _ (List.mem_of_getElem? (i := 273) (by decide +kernel)))
    · exact va_AO.of (hts _ (List.mem_of_getElem? (i := 137) (by decide +kernel)))
    · exact va_AO.of (hts _ (List.mem_of_getElem? (i := 78) (by decide +kernel)))
    · exact va_AO.of (hts _ (List.mem_of_getElem? (i := 379) (by decide +kernel)))
  · obtain ⟨w, hw, hs⟩ := List.mem_filterMap.mp hq
    cases w with
    | stringRef a b c => cases hs; exact kn_str (hts _ hw)
    | _ => cases hs
theorem nx_of {s : State} {args : Array Value} (h : (Jvm.Cond.and given_1 narrow_1).before args s = true) : Nx s := by
  have hs := flat_of_before _ h
  intro q hq
  simp only [ncP, List.mem_cons, List.not_mem_nil, or_false] at hq
  rcases hq with rfl | rfl | rfl
  · exact va_Nc.of (hs (.not (.castable ise iae)) (by decide +kernel))
  · exact va_Nc.of (hs (.not (.castable ise ioo)) (by decide +kernel))
  · exact va_Nc.of (hs (.not (.castable iae ioo)) (by decide +kernel))
theorem zs_of {s : State} {args : Array Value} (hts : ∀ w ∈ lw_tbl, w.before args s = true) (h : (Jvm.Cond.and given_1 narrow_1).before args s = true) {A : Nat → Prop} (hA : ∀ a : Nat, a < s.heap.size → ¬ A a) : Zs A s s.heap := by
  have hs := flat_of_before _ h
  have hi : (Cond.initialized Bundle.tN).before args s = true := hts _ (List.mem_of_getElem? (i := 55) (by decide +kernel))
  exact ⟨vx_Zqof (hts _ (List.mem_of_getElem? (i := 498) (by decide +kernel))) hi (hs _ (by decide +kernel)) hA, vx_Zqof (hts _ (List.mem_of_getElem? (i := 500) (by decide +kernel))) hi (hs _ (by decide +kernel)) hA⟩
theorem fl_of {l : Launch} (h : l.flags = flags0) : l.stackTraces = false := by
  unfold Launch.stackTraces
  rw [h]
  decide +kernel

/-- what the law's frame knows -/
def lwT (b N : Nat) (xs : Nat → Int32) (h0 : Nat) : State → Code → Array Value → Prop := fun s _ args => va_X b N xs s s.heap ∧ b < s.heap.size ∧ h0 = s.heap.size ∧ args = #[Value.ref b]
def lwZ : List Frame → Array Value → State → State → Prop := fun below args s => lw_Z below args s
theorem lw_end (l : Launch) (G : GG) (b N : Nat) (xs : Nat → Int32) (h0 : Nat) : ∀ (k n : Nat) (W : ME) (sz : Nat) (L : List (Option Value)), k ≤ 601024 → n ≤ 7293034 → U l G (fun q => h0 ≤ q) room_1 RL cL_law 8 ret (lwT b N xs h0) lwZ k n W sz 1531 L [.int 1] := by
  intro k n W9 sz L hk hn p e s m args below meth c H locs ls C hR hz hS hl
  obtain ⟨-, -, he, ha⟩ := C.2.2.2.2.2.2.2.1
  subst ha
  refine va_forget (fun q hq => by rw [← he]; exact hS.2.2 q hq) ?_
  refine W.widen (k := 601024) (n := 7293034) hk hn ?_
  exact lw_ret C.1 C.2.1 C.2.2.2.1 C.2.2.2.2.2.2.1 dL_law_1531
set_option maxRecDepth 100000 in
set_option maxHeartbeats 4000000 in
/-- the law's beginning: the object, the reference, the array -/
theorem law_begin (l : Launch) (hfl : l.stackTraces = false) (G : GG) (b N : Nat) (xs : Nat → Int32) (x : Nat) (hN : N ≤ 2560) : U l G (fun q => x ≤ q) room_1 RL cL_law 8 ret (lwT b N xs x) lwZ 0 0 (fun _ => none) x 0 [some (.ref b), none, none, none, none, none, none, none] [] := by
  have hT : ∀ s c args, lwT b N xs x s c args → va_X b N xs s s.heap ∧ b < s.heap.size ∧ ¬ x ≤ b := fun s c args h => ⟨h.1, h.2.1, by have := h.2.1; have := h.2.2.1; omega⟩
  refine U_new (fs := [.null, .null, .int (iI 0)]) clX10 df10 kL_8 in10_a in10_b dL_law_0 (le_r (b := 601024) (by omega) rfl) (le_r (b := 7293034) (by show 0 + 3 ≤ _; omega) rfl) ?_
  refine U_dup dL_law_3 rfl ?_
  refine U_callI (vs := []) (nw10 l _ x mu_eq) mL_78 coX10_init dL_law_4 rfl rfl ⟨(Nat.le_of_ble_eq_true rfl), (Nat.le_of_ble_eq_true rfl)⟩ (Nat.le_of_ble_eq_true rfl) ⟨(Nat.le_of_ble_eq_true rfl), (Nat.le_of_ble_eq_true rfl)⟩ (fun v1 W1 sz1 hp => ?_)
  obtain ⟨rfl, rfl, hTL, hF1⟩ := hp
  refine U_astore_n (L' := [some _, some _, none, none, none, none, none, none]) dL_law_7 rfl (by decide) rfl ?_
  refine U_new (fs := [.null, .null, .int (iI 0), .int (iI 0), .long (lI 0)]) clX11 df11 kL_79 in11_a in11_b dL_law_8 (le_r (b := 601024) (by show 0 + 1 + 1061 + 1 ≤ _; omega) rfl) (le_r (b := 7293034) (by show 0 + 3 + 49923 + 5 ≤ _; omega) rfl) ?_
  refine U_dup dL_law_11 rfl ?_
  refine U_callI (vs := []) (r_init l _ (x + 1062) mu_eq) mL_81 coX11_init dL_law_12 rfl rfl ⟨(Nat.le_of_ble_eq_true rfl), (Nat.le_of_ble_eq_true rfl)⟩ (Nat.le_of_ble_eq_true rfl) ⟨(Nat.le_of_ble_eq_true rfl), (Nat.le_of_ble_eq_true rfl)⟩ (fun v2 W2 sz2 hp => ?_)
  obtain ⟨rfl, hW2⟩ := hp
  refine U_astore_n (L' := [some _, some _, some _, none, none, none, none, none]) dL_law_15 rfl (by decide) rfl ?_
  refine U_iconst (v := nI 1) dL_law_16 rfl ?_
  have hF2 : ∀ q, (q < x + 1062 ∨ x + 1065 ≤ q) → W2 q = W1 q := fun q hq => by
    rw [hW2, rM_o (by omega) (by omega) (by omega), mu_ne (by omega)]
  have hR2 : RD W2 (x + 1062) ini (fun _ => 0) 0 0 0 := by rw [hW2]; exact ⟨rM_0, rM_1, rM_2⟩
  refine U_lt hR2.2.2 (fun hlt => ?_)
  refine U_newl (N := 1) ac_long dL_law_17 (by decide) (le_r (b := 601024) (by show 0 + 1 + 1061 + 1 + 2 + 1 ≤ _; omega) rfl) (le_r (b := 7293034) (by show 0 + 3 + 49923 + 5 + 49236 + 1 ≤ _; omega) rfl) ?_
  refine U_astore_n (L' := [some _, some _, some _, some _, none, none, none, none]) dL_law_19 rfl (by decide) rfl ?_
  refine U_iconst (v := iI (5 * 0)) dL_law_20 rfl ?_
  refine U_istore (L' := [some _, some _, some _, some _, some _, none, none, none]) dL_law_21 (by decide) rfl ?_
  have hSV : SV 0 (fun _ => 0) 0 := fun i z w => by omega
  refine law_loop l hfl G _ _ _ b N xs hT hN x sz2 (lw_end l G b N xs x) _ 0 _ _ _ _ ini (fun _ => 0) 0 0 0 (by omega) (by omega) (by show ((0 + 1 + 1061 + 1 + 2 + 1 : Nat) : Int) ≤ _; omega) (by show ((0 + 3 + 49923 + 5 + 49236 + 1 : Nat) : Int) ≤ _; omega) ⟨hTL.mv IV.ini hSV (by omega) (fun q u v => (mu_ne (by omega)).trans (hF2 q (by omega))), hR2.mv (fun q u v => mu_ne (by omega)), ⟨fun _ => 0, mu_eq⟩, IV.ini, hSV, by omega, by omega⟩ rfl

theorem whole_start {p : Program} {e : Env} {s : State} {m : MethodId} {below : List Frame} {meth : Method} {c : Code} (l : Launch) (hflags : l.flags = flags0) {b L : Nat} {xs : Nat → Int32} (hL : L ≤ 2560) (C0 : lw_At p s m meth c b L xs) : W p l e room_1 s m #[Value.ref b] below meth c s.heap [] 0 0 (lw_Z below #[Value.ref b] s) (entryFrame m ([Value.ref b] : List Value).toArray 8) := by
  obtain ⟨hx, hb, hr, hml, hown, hts, hX, hbl, hlocks, hgv⟩ := id C0
  obtain ⟨G, hK⟩ := kn_ex hts
  have hl := lv_entry ([.ref b]) (n := 8) (Nat.le_of_ble_eq_true rfl)
  rw [lg_entry_eq]
  have h0 := law_begin l (fl_of hflags) G b L xs s.heap.size hL
  refine h0 p e s m #[Value.ref b] below meth c s.heap [] _ ⟨hx, hb, hml, hr, hown, fun w hw => hts w (List.mem_filter.mp hw).1, hlocks, ⟨hX, hbl, rfl, rfl⟩, nx_of hgv, hK, zs_of hts hgv (fun a h => by omega), fun q h => h⟩ ?_ rfl va_S.rf ?_
  · exact ⟨[], fun k q h => by simp at h, ⟨fun i j p q h => by simp at h, fun k q h => by simp at h⟩, fun a e h => by cases h⟩
  · refine hasL.of hl fun i v h => ?_
    rw [← show entL [.ref b] 8 = [some (.ref b), none, none, none, none, none, none, none] from rfl] at h
    have := entL_in [.ref b] 0 (List.replicate (8 - (lg_sl [Value.ref b]).length) none) (fun i v h => by rw [List.getElem?_replicate] at h; split at h <;> simp at h) i v h
    simpa using this

set_option maxHeartbeats 4000000 in
theorem lw_walk (l : Launch) (hflags : l.flags = flags0) (b : Addr) (xs : List Int32) : MetFree l x (headSpec (Jvm.Cond.code x code maxLocals ret :: tables_1) room_1) (lw_P b xs) (fun _ _ _ _ _ => True) lw_Q := by
  refine MetFree.of_bodyS (code := code) (maxLocals := maxLocals) (ret := ret) (by decide) ?_ ?_
  · intro args s m h hn
    obtain ⟨meth, c, h1, h2, h3, h4, h5, h6, -, -⟩ := Cond.code_spec hn (atoms_spec (ws := Jvm.Cond.code x code maxLocals ret :: tables_1) h _ List.mem_cons_self)
    exact ⟨meth, c, h1, h2, h3, h4, h5, h6⟩
  · intro p e s m args below meth c s₁ B hml0 hP _
    obtain ⟨rfl, hx, hbd, hgv⟩ := hP
    obtain ⟨scr, harrAt, hlist, hof, hsmall⟩ := hx
    obtain ⟨hcb, hkn, -, -⟩ := State.arrayAt?_spec harrAt
    have hown : s.vm.findClass R_law = some m.cls := findClass_of_methodNamed B.named
    have hts0 : ∀ c ∈ (Jvm.Cond.code x code maxLocals ret :: tables_1), c.before #[Value.ref b] s = true := atoms_spec (ws := Jvm.Cond.code x code maxLocals ret :: tables_1) B.pre
    have hts : ∀ w ∈ lw_tbl, w.before #[Value.ref b] s = true := k2_hts_sels lw_privs (fun w hw => hts0 w (List.mem_cons_of_mem _ hw)) lw_privs_ok
    have hml : c.maxLocals = 8 := B.maxLocals_eq (hts0 _ List.mem_cons_self)
    have X₀ : Stand p l e room_1 s m #[Value.ref b] below meth c s₁ [] 0 0 := Stand.of_body B
    have hh0 : s₁.heap = s.heap := by rw [B.state]; rfl
    have hsz : scr.slots.size = xs.length := by rw [← Array.length_toList, hlist, List.length_map]
    have hval : ∀ j : Nat, j < xs.length → scr.slots[j]? = some (.int (xs.getD j 0)) := fun j hj => by
      rw [← Array.getElem?_toList, hlist]
      simp [hj]
    have hbl : b < s.heap.size := (Array.getElem?_eq_some_iff.mp hcb).1
    have hX : va_X b xs.length (fun j => xs.getD j 0) s s.heap := ⟨scr, hcb, hof, hkn, hsz, hval⟩
    have K : W p l e room_1 s m #[Value.ref b] below meth c s₁.heap [] 0 0 (lw_Z below #[Value.ref b] s) (entryFrame m ([Value.ref b] : List Value).toArray 8) := by
      rw [hh0]
      exact whole_start l hflags hbd ⟨B.exec, B.bytes, B.returns, hml, hown, hts, hX, hbl, B.notSynchronized, hgv⟩
    obtain ⟨t, a1, o, b1, b2, b3⟩ := K s₁ rfl X₀
    exact ⟨t, o, a1, b1, b2, b3⟩
theorem lw_pre_spec {args : Array Value} {s : State} (h : (Jvm.Cond.and given_1 narrow_1).before args s = true) (hr : rest_1_c.before args s = true) : ∃ (b : Addr) (xs : List Int32), lw_P b xs args s := by
  have hs := flat_of_before _ h
  have hq := flat_of_before _ hr
  have hc : (Cond.count 1).before args s = true := hs _ (by decide +kernel)
  have harr : (Cond.arrayOf (.arg 0) .int).before args s = true := hs _ (by decide +kernel)
  have hle : (Cond.le (.length (.arg 0)) (.int 2560)).before args s = true := hs _ (by decide +kernel)
  have hlen : (Cond.isInt (.length (.arg 0))).before args s = true := hq _ (by decide +kernel)
  have hall : (Cond.all (.arg 0) (.isInt (.elem (.arg 0) (.index 0)))).before args s = true := hq _ (by decide +kernel)
  obtain ⟨b, xs, hb, hx⟩ := State.ints_of_pre rfl harr hlen hall
  have hsm : xs.length < 2 ^ 31 := hx.choose_spec.2.2.2
  have hev : (Term.length (.arg 0)).eval args s none [] s = some (.int xs.length.toInt32) := hx.length_eval hb
  have hv := Cond.le_ints hev (show (Term.int 2560).eval args s none [] s = some (.int 2560) from rfl)
  have hd : xs.length.toInt32 ≤ 2560 := by
    simpa [Cond.before, Cond.holds, hv] using hle
  have hN : xs.length ≤ 2560 := (Int32.ofNat_le_ofNat hsm (by decide)).mp (show Int32.ofNat xs.length ≤ Int32.ofNat 2560 from hd)
  exact ⟨b, xs, Cond.one_arg hc (show args[0]? = some (.ref b) from hb), hx, hN, h⟩
theorem lw_comes (l : Launch) (hflags : l.flags = flags0) : Comes l x (Jvm.Cond.code x code maxLocals ret :: tables_1) room_1 (fun tb e args s => Calls_1 tb e args s ∧ rest_1 tb e args s ∧ Pre_1 tb e args s)
    (fun _ _ args s o t => lw_Q args s o t) := by
  intro p e ha hc hk s m args below hf hfit hheap happ hpre
  obtain ⟨b, xs, hP⟩ := lw_pre_spec hpre.2.2 hpre.2.1
  obtain ⟨k, o, h1, h2, h3, hQ⟩ := lw_walk l hflags b xs p e ha hc hk s m args below hf ((Spec.applies_iff_loose hf).mp happ).1 hP trivial
  exact ⟨k, o, h1, h2, h3, hQ⟩
theorem lw_frame {s t : State} {o : Outcome} {args : Array Value} (h : Framed s o t [] 601024 7293034) :
    Framed s o t (fieldLocs frame_1_writes args s ++ arrayLocs frame_1_arrays args s ++ staticLocs frame_1_statics s) 601024 7293034 := h
theorem lw_limb (L : Cond) (hL : ∀ (args : Array Value) (s t : State), L.after args s (.returned (some (.int 1))) t = true) :
    ArmFor flags0 classFile x code maxLocals ret World_1 tables_1 room_1 Calls_1 rest_1 Pre_1
      (fun tb e a s o t => postC L tb e a s o t ∧ Framed s o t (fieldLocs frame_1_writes a s ++ arrayLocs frame_1_arrays a s ++ staticLocs frame_1_statics s) 601024 7293034) := by
  intro l hflags _ _ p e ha hc hk s m args below hf hfit hheap happ hpre
  obtain ⟨k, o, h1, h2, h3, rfl, hF⟩ := lw_comes l hflags p e ha hc hk s m args below hf hfit hheap happ hpre
  exact ⟨k, _, h1, h2, h3, hL args s _, lw_frame hF⟩
theorem i_vc : Claimed_1_1 ∧ Claimed_1_2 := ⟨lw_limb limb_1_1 (fun args s t => by simp [limb_1_1, Cond.after, Cond.holds, Cond.value]), lw_limb limb_1_2 (fun args s t => Cond.after_iff.mpr (by
  first | (rw [show limb_1_2 = Cond.eq .result (.int 1) from rfl, Cond.eq_ints (x := 1) (y := 1) rfl rfl]; simp; done) | (simp [limb_1_2, Cond.value, Term.eval]; done)))⟩
