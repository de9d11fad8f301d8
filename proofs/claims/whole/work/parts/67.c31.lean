/-! The law and its wrappers: U is V with a table of handlers (T says what is known of state and code) and an end of its own (Z). Its rows are V's own. -/
def ncP : List (String × String) := [(ise, iae), (ise, ioo), (iae, ioo)]
def Nx (s : State) : Prop := ∀ q ∈ ncP, va_Nc q.1 q.2 s
theorem Nx.moved {u U : State} (hvm : u.vm.Alike U.vm) (h : Nx u) : Nx U := fun q hq => (h q hq).moved hvm
def Uc (l : Launch) (G : GG) (A : Nat → Prop) (own : String) (cc : ByteArray) (nL : Nat) (ret : Option FieldType) (T : State → Code → Array Value → Prop) (p : Program) (s : State) (m : MethodId) (args : Array Value) (meth : Method) (c : Code) : Prop :=
  p.tables.exec = Jvm.exec ∧ c.code = cc ∧ c.maxLocals = nL ∧ meth.sig.returnType = ret ∧ s.vm.findClass own = some m.cls ∧ (∀ w ∈ tb, w.before args s = true) ∧ meth.locks = false ∧ T s c args ∧ Nx s ∧ Kn G s ∧ Zs A s s.heap ∧ ∀ q, s.heap.size ≤ q → A q
def U (l : Launch) (G : GG) (A : Nat → Prop) (R : Room) (own : String) (cc : ByteArray) (nL : Nat) (ret : Option FieldType) (T : State → Code → Array Value → Prop) (Z : List Frame → Array Value → State → State → Prop) (k n : Nat) (M : ME) (sz : Nat) (pc : Nat) (L : List (Option Value)) (st : List Value) : Prop :=
  ∀ (p : Program) (e : Env) (s : State) (m : MethodId) (args : Array Value) (below : List Frame) (meth : Method) (c : Code) (H : Heap) (locs : List Loc) (ls : Array Slot),
    Uc l G A own cc nL ret T p s m args meth c → Rp G A M H → H.size = sz → va_S A s.heap H locs → hasL ls nL L →
    W p l e R s m args below meth c H locs k n (Z below args s) (F0 m pc ls st)
section UU
variable {l : Launch} {G : GG} {A : Nat → Prop} {R : Room} {own : String} {cc : ByteArray} {nL : Nat} {ret : Option FieldType} {T : State → Code → Array Value → Prop} {Z : List Frame → Array Value → State → State → Prop} {k n : Nat} {M : ME} {sz : Nat} {pc : Nat} {L : List (Option Value)} {st : List Value}
theorem U_iconst {z : Int} {v : Int32} (hd : decode cc pc = .ok (.iconst z, 1)) (hv : Int32.ofInt z = v) (kk : U l G A R own cc nL ret T Z k n M sz (pc + 1) L (.int v :: st)) : U l G A R own cc nL ret T Z k n M sz pc L (st) := fun p e s m args below meth c H locs ls C hR hz hS hl => lv_iconst C.1 C.2.1 hd hv (kk p e s m args below meth c H locs ls C hR hz hS hl)
theorem U_bipush {z : Int} {v : Int32} (hd : decode cc pc = .ok (.bipush z, 2)) (hv : (Int8.ofInt z).toInt32 = v) (kk : U l G A R own cc nL ret T Z k n M sz (pc + 2) L (.int v :: st)) : U l G A R own cc nL ret T Z k n M sz pc L (st) := fun p e s m args below meth c H locs ls C hR hz hS hl => lv_bipush C.1 C.2.1 hd hv (kk p e s m args below meth c H locs ls C hR hz hS hl)
theorem U_sipush {z : Int} {v : Int32} (hd : decode cc pc = .ok (.sipush z, 3)) (hv : (Int16.ofInt z).toInt32 = v) (kk : U l G A R own cc nL ret T Z k n M sz (pc + 3) L (.int v :: st)) : U l G A R own cc nL ret T Z k n M sz pc L (st) := fun p e s m args below meth c H locs ls C hR hz hS hl => lv_sipush C.1 C.2.1 hd hv (kk p e s m args below meth c H locs ls C hR hz hS hl)
theorem U_iload_n {z : Fin 4} {x : Int32} (hd : decode cc pc = .ok (.iload_n z, 1)) (hL : L[(z : Nat)]? = some (some (.int x))) (kk : U l G A R own cc nL ret T Z k n M sz (pc + 1) L (.int x :: st)) : U l G A R own cc nL ret T Z k n M sz pc L (st) := fun p e s m args below meth c H locs ls C hR hz hS hl => lv_iload_n C.1 C.2.1 hd rfl (hl.2.2 _ _ hL) (kk p e s m args below meth c H locs ls C hR hz hS hl)
theorem U_iload {i : Nat} {x : Int32} (hd : decode cc pc = .ok (.iload i, 2)) (hL : L[i]? = some (some (.int x))) (kk : U l G A R own cc nL ret T Z k n M sz (pc + 2) L (.int x :: st)) : U l G A R own cc nL ret T Z k n M sz pc L (st) := fun p e s m args below meth c H locs ls C hR hz hS hl => lv_iload C.1 C.2.1 hd (hl.2.2 _ _ hL) (kk p e s m args below meth c H locs ls C hR hz hS hl)
theorem U_aload_n {z : Fin 4} {x : Nat} (hd : decode cc pc = .ok (.aload_n z, 1)) (hL : L[(z : Nat)]? = some (some (.ref x))) (kk : U l G A R own cc nL ret T Z k n M sz (pc + 1) L (.ref x :: st)) : U l G A R own cc nL ret T Z k n M sz pc L (st) := fun p e s m args below meth c H locs ls C hR hz hS hl => lv_aload_n C.1 C.2.1 hd rfl (hl.2.2 _ _ hL) (kk p e s m args below meth c H locs ls C hR hz hS hl)
theorem U_aload {i : Nat} {x : Nat} (hd : decode cc pc = .ok (.aload i, 2)) (hL : L[i]? = some (some (.ref x))) (kk : U l G A R own cc nL ret T Z k n M sz (pc + 2) L (.ref x :: st)) : U l G A R own cc nL ret T Z k n M sz pc L (st) := fun p e s m args below meth c H locs ls C hR hz hS hl => lv_aload C.1 C.2.1 hd (hl.2.2 _ _ hL) (kk p e s m args below meth c H locs ls C hR hz hS hl)
theorem U_lload_n {z : Fin 4} {x : Int64} (hd : decode cc pc = .ok (.lload_n z, 1)) (hL : L[(z : Nat)]? = some (some (.long x))) (kk : U l G A R own cc nL ret T Z k n M sz (pc + 1) L (.long x :: st)) : U l G A R own cc nL ret T Z k n M sz pc L (st) := fun p e s m args below meth c H locs ls C hR hz hS hl => lv_lload_n C.1 C.2.1 hd rfl (hl.2.2 _ _ hL) (kk p e s m args below meth c H locs ls C hR hz hS hl)
theorem U_lload {i : Nat} {x : Int64} (hd : decode cc pc = .ok (.lload i, 2)) (hL : L[i]? = some (some (.long x))) (kk : U l G A R own cc nL ret T Z k n M sz (pc + 2) L (.long x :: st)) : U l G A R own cc nL ret T Z k n M sz pc L (st) := fun p e s m args below meth c H locs ls C hR hz hS hl => lv_lload C.1 C.2.1 hd (hl.2.2 _ _ hL) (kk p e s m args below meth c H locs ls C hR hz hS hl)
theorem U_istore_n {z : Fin 4} {i : Nat} {x : Int32} {L' : List (Option Value)} (hd : decode cc pc = .ok (.istore_n z, 1)) (hi : (z : Nat) = i) (hn : i < nL) (hL : st1 L i (.int x) = L') (kk : U l G A R own cc nL ret T Z k n M sz (pc + 1) L' st) : U l G A R own cc nL ret T Z k n M sz pc L (.int x :: st) := fun p e s m args below meth c H locs ls C hR hz hS hl => lv_istore_n C.1 C.2.1 hd hi hl.has hn rfl (fun ls2 h2 => kk p e s m args below meth c H locs ls2 C hR hz hS (by subst hL; exact prs_store1 h2))
theorem U_istore {i : Nat} {x : Int32} {L' : List (Option Value)} (hd : decode cc pc = .ok (.istore i, 2))  (hn : i < nL) (hL : st1 L i (.int x) = L') (kk : U l G A R own cc nL ret T Z k n M sz (pc + 2) L' st) : U l G A R own cc nL ret T Z k n M sz pc L (.int x :: st) := fun p e s m args below meth c H locs ls C hR hz hS hl => lv_istore C.1 C.2.1 hd hl.has hn rfl (fun ls2 h2 => kk p e s m args below meth c H locs ls2 C hR hz hS (by subst hL; exact prs_store1 h2))
theorem U_astore_n {z : Fin 4} {i : Nat} {x : Nat} {L' : List (Option Value)} (hd : decode cc pc = .ok (.astore_n z, 1)) (hi : (z : Nat) = i) (hn : i < nL) (hL : st1 L i (.ref x) = L') (kk : U l G A R own cc nL ret T Z k n M sz (pc + 1) L' st) : U l G A R own cc nL ret T Z k n M sz pc L (.ref x :: st) := fun p e s m args below meth c H locs ls C hR hz hS hl => lv_astore_n C.1 C.2.1 hd hi hl.has hn rfl (fun ls2 h2 => kk p e s m args below meth c H locs ls2 C hR hz hS (by subst hL; exact prs_store1 h2))
theorem U_astore {i : Nat} {x : Nat} {L' : List (Option Value)} (hd : decode cc pc = .ok (.astore i, 2))  (hn : i < nL) (hL : st1 L i (.ref x) = L') (kk : U l G A R own cc nL ret T Z k n M sz (pc + 2) L' st) : U l G A R own cc nL ret T Z k n M sz pc L (.ref x :: st) := fun p e s m args below meth c H locs ls C hR hz hS hl => lv_astore C.1 C.2.1 hd hl.has hn rfl (fun ls2 h2 => kk p e s m args below meth c H locs ls2 C hR hz hS (by subst hL; exact prs_store1 h2))
theorem U_lstore_n {z : Fin 4} {i : Nat} {x : Int64} {L' : List (Option Value)} (hd : decode cc pc = .ok (.lstore_n z, 1)) (hi : (z : Nat) = i) (hn : i + 1 < nL) (hL : st2 L i (.long x) = L') (kk : U l G A R own cc nL ret T Z k n M sz (pc + 1) L' st) : U l G A R own cc nL ret T Z k n M sz pc L (.long x :: st) := fun p e s m args below meth c H locs ls C hR hz hS hl => lv_lstore_n C.1 C.2.1 hd hi hl.has hn rfl (fun ls2 h2 => kk p e s m args below meth c H locs ls2 C hR hz hS (by subst hL; exact prs_store2 h2))
theorem U_lstore {i : Nat} {x : Int64} {L' : List (Option Value)} (hd : decode cc pc = .ok (.lstore i, 2))  (hn : i + 1 < nL) (hL : st2 L i (.long x) = L') (kk : U l G A R own cc nL ret T Z k n M sz (pc + 2) L' st) : U l G A R own cc nL ret T Z k n M sz pc L (.long x :: st) := fun p e s m args below meth c H locs ls C hR hz hS hl => lv_lstore C.1 C.2.1 hd hl.has hn rfl (fun ls2 h2 => kk p e s m args below meth c H locs ls2 C hR hz hS (by subst hL; exact prs_store2 h2))
theorem U_iinc {i : Nat} {z : Int} {x v : Int32} {L' : List (Option Value)} (hd : decode cc pc = .ok (.iinc i z, 3)) (h0 : L[i]? = some (some (.int x))) (hv : x + Int32.ofInt z = v) (hn : i < nL) (hL : st1 L i (.int v) = L') (kk : U l G A R own cc nL ret T Z k n M sz (pc + 3) L' st) : U l G A R own cc nL ret T Z k n M sz pc L st := by
  intro p e s m args below meth c H locs ls C hR hz hS hl
  obtain ⟨j, hj⟩ := List.getElem?_of_mem (prs_in.mpr h0)
  exact lv_iinc C.1 C.2.1 hd hl.has hj hv hn rfl (fun ls2 h2 => kk p e s m args below meth c H locs ls2 C hR hz hS (by subst hL; exact prs_store1 h2))
theorem U_iadd {x y : Int32} (hd : decode cc pc = .ok (.iadd, 1))  (kk : U l G A R own cc nL ret T Z k n M sz (pc + 1) L (.int (x + y) :: st)) : U l G A R own cc nL ret T Z k n M sz pc L (.int y :: .int x :: st) := fun p e s m args below meth c H locs ls C hR hz hS hl => lv_iadd C.1 C.2.1 hd  (kk p e s m args below meth c H locs ls C hR hz hS hl)
theorem U_isub {x y : Int32} (hd : decode cc pc = .ok (.isub, 1))  (kk : U l G A R own cc nL ret T Z k n M sz (pc + 1) L (.int (x - y) :: st)) : U l G A R own cc nL ret T Z k n M sz pc L (.int y :: .int x :: st) := fun p e s m args below meth c H locs ls C hR hz hS hl => lv_isub C.1 C.2.1 hd  (kk p e s m args below meth c H locs ls C hR hz hS hl)
theorem U_iand {x y : Int32} (hd : decode cc pc = .ok (.iand, 1))  (kk : U l G A R own cc nL ret T Z k n M sz (pc + 1) L (.int (x &&& y) :: st)) : U l G A R own cc nL ret T Z k n M sz pc L (.int y :: .int x :: st) := fun p e s m args below meth c H locs ls C hR hz hS hl => lv_iand C.1 C.2.1 hd  (kk p e s m args below meth c H locs ls C hR hz hS hl)
theorem U_land {x y : Int64} (hd : decode cc pc = .ok (.land, 1))  (kk : U l G A R own cc nL ret T Z k n M sz (pc + 1) L (.long (x &&& y) :: st)) : U l G A R own cc nL ret T Z k n M sz pc L (.long y :: .long x :: st) := fun p e s m args below meth c H locs ls C hR hz hS hl => lv_land C.1 C.2.1 hd  (kk p e s m args below meth c H locs ls C hR hz hS hl)
theorem U_lor {x y : Int64} (hd : decode cc pc = .ok (.lor, 1))  (kk : U l G A R own cc nL ret T Z k n M sz (pc + 1) L (.long (x ||| y) :: st)) : U l G A R own cc nL ret T Z k n M sz pc L (.long y :: .long x :: st) := fun p e s m args below meth c H locs ls C hR hz hS hl => lv_lor C.1 C.2.1 hd  (kk p e s m args below meth c H locs ls C hR hz hS hl)
theorem U_lshl {x : Int64} {y : Int32} (hd : decode cc pc = .ok (.lshl, 1))  (kk : U l G A R own cc nL ret T Z k n M sz (pc + 1) L (.long (x <<< (y.toInt64 &&& 63)) :: st)) : U l G A R own cc nL ret T Z k n M sz pc L (.int y :: .long x :: st) := fun p e s m args below meth c H locs ls C hR hz hS hl => lv_lshl C.1 C.2.1 hd rfl (kk p e s m args below meth c H locs ls C hR hz hS hl)
theorem U_i2l {x : Int32} {v : Int64} (hd : decode cc pc = .ok (.i2l, 1)) (hv : x.toInt64 = v) (kk : U l G A R own cc nL ret T Z k n M sz (pc + 1) L (.long v :: st)) : U l G A R own cc nL ret T Z k n M sz pc L (.int x :: st) := fun p e s m args below meth c H locs ls C hR hz hS hl => lv_i2l C.1 C.2.1 hd hv (kk p e s m args below meth c H locs ls C hR hz hS hl)
theorem U_lcmp {x y : Int64} (hd : decode cc pc = .ok (.lcmp, 1))  (kk : U l G A R own cc nL ret T Z k n M sz (pc + 1) L (.int (lg_cmp x y) :: st)) : U l G A R own cc nL ret T Z k n M sz pc L (.long y :: .long x :: st) := fun p e s m args below meth c H locs ls C hR hz hS hl => W.lcmp C.1 C.2.1 hd  (kk p e s m args below meth c H locs ls C hR hz hS hl)
theorem U_dup {a : Value} (hd : decode cc pc = .ok (.dup, 1)) (hc : a.category = 1) (kk : U l G A R own cc nL ret T Z k n M sz (pc + 1) L (a :: a :: st)) : U l G A R own cc nL ret T Z k n M sz pc L (a :: st) := fun p e s m args below meth c H locs ls C hR hz hS hl => lv_dup C.1 C.2.1 hd hc (kk p e s m args below meth c H locs ls C hR hz hS hl)
theorem U_icmp_eq {x y : Int32} {off : Int} {tgt : Nat} (hd : decode cc pc = .ok (.if_icmp .eq off, 3)) (ht : (pc : Int) + off = (tgt : Int)) (kt : x = y → U l G A R own cc nL ret T Z k n M sz tgt L st) (kf : ¬ x = y → U l G A R own cc nL ret T Z k n M sz (pc + 3) L st) : U l G A R own cc nL ret T Z k n M sz pc L (.int y :: .int x :: st) := fun p e s m args below meth c H locs ls C hR hz hS hl => lv_icmp_eq C.1 C.2.1 hd ht (fun q => kt q p e s m args below meth c H locs ls C hR hz hS hl) (fun q => kf q p e s m args below meth c H locs ls C hR hz hS hl)
theorem U_icmp_eq_t {x y : Int32} {off : Int} {tgt : Nat} (hd : decode cc pc = .ok (.if_icmp .eq off, 3)) (ht : (pc : Int) + off = (tgt : Int)) (h : x = y) (kk : U l G A R own cc nL ret T Z k n M sz tgt L st) : U l G A R own cc nL ret T Z k n M sz pc L (.int y :: .int x :: st) := U_icmp_eq hd ht (fun _ => kk) (fun q => absurd h q)
theorem U_icmp_gt {x y : Int32} {off : Int} {tgt : Nat} (hd : decode cc pc = .ok (.if_icmp .gt off, 3)) (ht : (pc : Int) + off = (tgt : Int)) (kt : y < x → U l G A R own cc nL ret T Z k n M sz tgt L st) (kf : ¬ y < x → U l G A R own cc nL ret T Z k n M sz (pc + 3) L st) : U l G A R own cc nL ret T Z k n M sz pc L (.int y :: .int x :: st) := fun p e s m args below meth c H locs ls C hR hz hS hl => lv_icmp_gt C.1 C.2.1 hd ht (fun q => kt q p e s m args below meth c H locs ls C hR hz hS hl) (fun q => kf q p e s m args below meth c H locs ls C hR hz hS hl)
theorem U_if_ne {x : Int32} {off : Int} {tgt : Nat} (hd : decode cc pc = .ok (.ifCond .ne off, 3)) (ht : (pc : Int) + off = (tgt : Int)) (kt : ¬ x = 0 → U l G A R own cc nL ret T Z k n M sz tgt L st) (kf : x = 0 → U l G A R own cc nL ret T Z k n M sz (pc + 3) L st) : U l G A R own cc nL ret T Z k n M sz pc L (.int x :: st) := fun p e s m args below meth c H locs ls C hR hz hS hl => lv_if_ne C.1 C.2.1 hd ht (fun q => kt q p e s m args below meth c H locs ls C hR hz hS hl) (fun q => kf q p e s m args below meth c H locs ls C hR hz hS hl)
theorem U_if_eq {x : Int32} {off : Int} {tgt : Nat} (hd : decode cc pc = .ok (.ifCond .eq off, 3)) (ht : (pc : Int) + off = (tgt : Int)) (kt : x = 0 → U l G A R own cc nL ret T Z k n M sz tgt L st) (kf : ¬ x = 0 → U l G A R own cc nL ret T Z k n M sz (pc + 3) L st) : U l G A R own cc nL ret T Z k n M sz pc L (.int x :: st) := fun p e s m args below meth c H locs ls C hR hz hS hl => lv_if_eq C.1 C.2.1 hd ht (fun q => kt q p e s m args below meth c H locs ls C hR hz hS hl) (fun q => kf q p e s m args below meth c H locs ls C hR hz hS hl)
theorem U_if_eq_t {x : Int32} {off : Int} {tgt : Nat} (hd : decode cc pc = .ok (.ifCond .eq off, 3)) (ht : (pc : Int) + off = (tgt : Int)) (h : x = 0) (kk : U l G A R own cc nL ret T Z k n M sz tgt L st) : U l G A R own cc nL ret T Z k n M sz pc L (.int x :: st) := U_if_eq hd ht (fun _ => kk) (fun q => absurd h q)
theorem U_goto {off : Int} {tgt : Nat} (hd : decode cc pc = .ok (.goto off, 3)) (ht : (pc : Int) + off = (tgt : Int)) (kk : U l G A R own cc nL ret T Z k n M sz tgt L st) : U l G A R own cc nL ret T Z k n M sz pc L st := fun p e s m args below meth c H locs ls C hR hz hS hl => lv_goto C.1 C.2.1 hd ht (kk p e s m args below meth c H locs ls C hR hz hS hl)
theorem U_tabIn {dflt lo hi : Int} {offs : Array Int} {len : Nat} {x : Int32} {off : Int} {tgt : Nat} (hd : decode cc pc = .ok (.tableswitch dflt lo hi offs, len)) (h1 : ¬ x.toInt < lo) (h2 : ¬ hi < x.toInt) (ho : offs[(x.toInt - lo).toNat]? = some off) (ht : (pc : Int) + off = (tgt : Int)) (kk : U l G A R own cc nL ret T Z k n M sz tgt L st) : U l G A R own cc nL ret T Z k n M sz pc L (.int x :: st) := fun p e s m args below meth c H locs ls C hR hz hS hl => lv_tableIn C.1 C.2.1 hd h1 h2 ho ht (kk p e s m args below meth c H locs ls C hR hz hS hl)
theorem U_tabOut {dflt lo hi : Int} {offs : Array Int} {len : Nat} {x : Int32} {tgt : Nat} (hd : decode cc pc = .ok (.tableswitch dflt lo hi offs, len)) (h : x.toInt < lo ∨ hi < x.toInt) (ht : (pc : Int) + dflt = (tgt : Int)) (kk : U l G A R own cc nL ret T Z k n M sz tgt L st) : U l G A R own cc nL ret T Z k n M sz pc L (.int x :: st) := fun p e s m args below meth c H locs ls C hR hz hS hl => lv_tableOut C.1 C.2.1 hd h ht (kk p e s m args below meth c H locs ls C hR hz hS hl)
theorem U_ldc2 {i : Nat} {v : Int64} (hd : decode cc pc = .ok (.ldc2_w i, 3)) (hw : Cond.constantLong own i v ∈ tb) (kk : U l G A R own cc nL ret T Z k n M sz (pc + 3) L (.long v :: st)) : U l G A R own cc nL ret T Z k n M sz pc L st := fun p e s m args below meth c H locs ls C hR hz hS hl => lv_ldc2 C.1 C.2.1 C.2.2.2.2.1 (C.2.2.2.2.2.1 _ hw) hd (kk p e s m args below meth c H locs ls C hR hz hS hl)
theorem U_wk {L' : List (Option Value)} (hw : wk L' L) (kk : U l G A R own cc nL ret T Z k n M sz pc L' st) : U l G A R own cc nL ret T Z k n M sz pc L st := fun p e s m args below meth c H locs ls C hR hz hS hl => kk p e s m args below meth c H locs ls C hR hz hS ⟨hl.1, hl.2.1, fun i v hv => hl.2.2 i v (wk_at hw hv)⟩
theorem U_widen {k' n' : Nat} (h1 : k ≤ k') (h2 : n ≤ n') (kk : U l G A R own cc nL ret T Z k' n' M sz pc L st) : U l G A R own cc nL ret T Z k n M sz pc L st := fun p e s m args below meth c H locs ls C hR hz hS hl => W.widen h1 h2 (kk p e s m args below meth c H locs ls C hR hz hS hl)
theorem U_top {v v' : Value} (h : v = v') (kk : U l G A R own cc nL ret T Z k n M sz pc L (v' :: st)) : U l G A R own cc nL ret T Z k n M sz pc L (v :: st) := h ▸ kk
theorem U_lald {a N j : Nat} {f : Nat → Int64} (hd : decode cc pc = .ok (.laload, 1)) (hM : M a = some (al N f)) (hj : j < N) (hN : N < 2 ^ 31) (kk : U l G A R own cc nL ret T Z k n M sz (pc + 1) L (.long (f j) :: st)) : U l G A R own cc nL ret T Z k n M sz pc L (.int (nI j) :: .ref a :: st) := by
  intro p e s m args below meth c H locs ls C hR hz hS hl
  have hR0 := hR
  obtain ⟨ws, hP, hD, hC⟩ := hR
  obtain ⟨q0, hq⟩ := hC a _ hM
  refine va_lald (D := G.1) (cl := vwCl) (tys := tysG G) C.1 C.2.1 C.2.2.2.2.2.2.2.2.2.1.1 hP q0 1 hq (tysG_at G (by decide)) (vp_in_nI hj hN) hd ?_
  rw [nI_clamp (Nat.lt_trans hj hN)]
  exact kk p e s m args below meth c H locs ls C hR0 hz hS hl
theorem U_last {a N j : Nat} {f : Nat → Int64} {x : Int64} (hd : decode cc pc = .ok (.lastore, 1)) (hM : M a = some (al N f)) (hj : j < N) (hN : N < 2 ^ 31) (kk : U l G A R own cc nL ret T Z k n (mu M a (al N (vp_updL f j x))) sz (pc + 1) L st) : U l G A R own cc nL ret T Z k n M sz pc L (.long x :: .int (nI j) :: .ref a :: st) := by
  intro p e s m args below meth c H locs ls C hR hz hS hl
  obtain ⟨ws, hP, hD, hC⟩ := hR
  obtain ⟨q0, hq⟩ := hC a _ hM
  refine W.last C.1 C.2.1 (hP q0 _ hq) ((C.2.2.2.2.2.2.2.2.2.1.1.2 1 _ (tysG_at G (by decide))).1 N (fun j => .long (f j))) (fun q => by cases q) (by show ¬ (_ < 0 ∨ (arrV _ _ _).slots.size ≤ _); rw [arrV_size]; exact vp_in_nI hj hN) rfl rfl hd fun H1 e1 z oq => ?_
  refine kk p e s m args below meth c H1 _ ls C (Rp.set (e' := al N (vp_updL f j x)) hq hD hC (hP.set hD hq ?_ oq) (hD.set hq)) (z.trans hz) (hS.put z oq (hD.2 q0 _ hq)) hl
  show H1[a]? = some (vp_cell _ _)
  rw [e1]
  show some ((arrV _ _ _).setSlot _ _) = _
  rw [vp_cell_l, arrV_store, nI_clamp (Nat.lt_trans hj hN)]
  congr 2
  funext q
  by_cases hq : q = j
  · subst hq
    simp [updV, vp_updL]
  · simp [updV, vp_updL, hq]
theorem U_new {idx ci : Nat} {r : vw_C} {t0 : Nat → FieldType} {fs : List Value} (hC0 : CLok ci r t0) (hfs : ∀ j, j < r.2.2 → defaultValue (t0 j) = vp_V fs j) (hw1 : Cond.classLink own idx r.1 ∈ tb) (hw2 : Cond.instantiable r.1 r.2.2 ∈ tb) (hw3 : Cond.initialized r.1 ∈ tb) (hd : decode cc pc = .ok (.new idx, 3)) (hk : k + 1 ≤ R.cells) (hn : n + r.2.2 ≤ R.slots) (kk : U l G A R own cc nL ret T Z (k + 1) (n + r.2.2) (mu M sz (.inl (ci, fs))) (sz + 1) (pc + 3) L (.ref sz :: st)) : U l G A R own cc nL ret T Z k n M sz pc L st := by
  intro p e s m args below meth c H locs ls C hR hz hS hl
  obtain ⟨C0, T, N⟩ := r
  obtain ⟨h1, h2, h3, h4⟩ := hC0
  have hts := C.2.2.2.2.2.1
  have hKn := C.2.2.2.2.2.2.2.2.2.1.1.1 ci _ h1
  subst hz
  refine W.newcK C.1 C.2.1 C.2.2.2.2.1 (hts _ hw1) (hts _ hw2) (hts _ hw3) rfl hd hk hn hKn.2.1 rfl fun H1 kC hkC e1 z1 o1 => ?_
  refine kk p e s m args below meth c H1 locs ls C (hR.push rfl (C.2.2.2.2.2.2.2.2.2.2.2 _ hS.1) o1 ⟨_, h1, (u_born t0 hts h2 hKn hkC e1 h3).to hfs⟩) z1 ⟨Nat.le_trans hS.1 (by omega), fun x q1 q2 => (o1 x (Nat.lt_of_lt_of_le q1 hS.1)).trans (hS.2.1 x q1 q2), hS.2.2⟩ hl
theorem U_newl {N : Nat} (hw : Cond.arrayClass .long ∈ tb) (hd : decode cc pc = .ok (.newarray .long, 2)) (hN : N < 2 ^ 20) (hk : k + 1 ≤ R.cells) (hn : n + N ≤ R.slots) (kk : U l G A R own cc nL ret T Z (k + 1) (n + N) (mu M sz (al N (fun _ => 0))) (sz + 1) (pc + 2) L (.ref sz :: st)) : U l G A R own cc nL ret T Z k n M sz pc L (.int (nI N) :: st) := by
  intro p e s m args below meth c H locs ls C hR hz hS hl
  subst hz
  refine va_newaK (atype := .long) C.1 C.2.1 (C.2.2.2.2.2.1 _ hw) rfl hd rfl (nI_pos (by omega)) (nI_clamp (by omega)) (by show N * 8 ≤ _; omega) hk hn rfl fun H1 cA e1 z1 o1 hAr hNm => ?_
  have hra : va_RA s (G.2 1) .long := (C.2.2.2.2.2.2.2.2.2.1.1.2 1 _ (tysG_at G (by decide))).2
  have hcA : cA = G.2 1 := Option.some.inj (hNm.symm.trans hra)
  subst hcA
  exact kk p e s m args below meth c H1 locs ls C (hR.push rfl (C.2.2.2.2.2.2.2.2.2.2.2 _ hS.1) o1 e1) z1 ⟨Nat.le_trans hS.1 (by omega), fun x q1 q2 => (o1 x (Nat.lt_of_lt_of_le q1 hS.1)).trans (hS.2.1 x q1 q2), hS.2.2⟩ hl
theorem U_run {p : Program} {e : Env} {s : State} {m : MethodId} {args : Array Value} {below : List Frame} {meth : Method} {c : Code} {H : Heap} {locs : List Loc} {ls : Array Slot} {mc ms : Nat} {rest st0 : List Value} {a : Array Value} {Q' : Option Value → ME → Nat → Prop}
    (hr : va_Run p l e R s m args below meth c H locs k n mc ms (F0 m pc ls st0) rest (Qn G A Q' a) A) (C : Uc l G A own cc nL ret T p s m args meth c) (hS : va_S A s.heap H locs) (hl : hasL ls nL L)
    (kk : ∀ (v : Option Value) (M' : ME) (sz' : Nat), Q' v M' sz' → U l G A R own cc nL ret T Z (k + mc) (n + ms) M' sz' (pc + 3) L (v.toList ++ rest)) :
    W p l e R s m args below meth c H locs k n (Z below args s) (F0 m pc ls st0) := by
  intro T hT X0
  obtain ⟨v, st₀, t, T', L9, h0, X', hL, e1, e2, ⟨⟨v', M', hv, hq, hR'⟩, hz, hk⟩, st⟩ := hr T hT X0
  cases hv
  rw [h0] at hz hk
  obtain ⟨t2, a1, b1⟩ := kk v M' t.heap.size hq p e s m args below meth c T'.heap (locs ++ L9) ls C (by rw [e1]; exact hR') (by rw [e1])
    ⟨Nat.le_trans hS.1 (by rw [e1]; exact hz), fun q h1 h2 => by rw [e1, hk q (Nat.lt_of_lt_of_le h1 hS.1) h2]; exact hS.2.1 q h1 h2, fun q hq => by
      rcases List.mem_append.mp hq with h | h
      · exact hS.2.2 q h
      · exact hL q h⟩ hl T' rfl X'
  exact ⟨t2, st t2 a1, b1⟩
theorem U_callV {idx b nA ci : Nat} {y : MethodName} {cc' : ByteArray} {nL' : Nat} {ret' : Option FieldType} {rm : Room} {vs st0 fs : List Value} {Q' : Option Value → ME → Nat → Prop} (hC0 : Cn l y cc' nL' ret' rm (.ref b :: vs) M sz Q') (hL : LV own idx y nA) (hcode : Cond.code y cc' nL' ret' ∈ tb) (hd : decode cc pc = .ok (.invokevirtual idx, 3)) (hM : M b = some (.inl (ci, fs))) (hcl : (vwCl[ci]?).map (fun r => r.1) = some y.cls) (hst : st0 = vs.reverse ++ .ref b :: st) (hnA : vs.length = nA) (hR : rm.frames + 1 ≤ R.frames ∧ 8 + (nL' + 11) + rm.locals ≤ R.locals) (hW : (st.map fun v => v.category).sum ≤ 8) (hkn : k + rm.cells ≤ R.cells ∧ n + rm.slots ≤ R.slots)
    (kk : ∀ (v : Option Value) (M' : ME) (sz' : Nat), Q' v M' sz' → U l G A R own cc nL ret T Z (k + rm.cells) (n + rm.slots) M' sz' (pc + 3) L (v.toList ++ st)) : U l G A R own cc nL ret T Z k n M sz pc L st0 := by
  intro p e s m args below meth c H locs ls C hR0 hz hS hl
  have hts := C.2.2.2.2.2.1
  obtain ⟨l1, l2, l3, l4, l5⟩ := hL
  have hR1 := hR0
  obtain ⟨ws, hP, hD, hCm⟩ := hR0
  obtain ⟨q0, hq⟩ := hCm b _ hM
  obtain ⟨r, hr1, hr2⟩ : ∃ r : vw_C, vwCl[ci]? = some r ∧ r.1 = y.cls := by
    cases h : vwCl[ci]? with
    | none => rw [h] at hcl; cases hcl
    | some r => rw [h] at hcl; exact ⟨r, rfl, Option.some.inj hcl⟩
  have hrecv := va_recv C.2.2.2.2.2.2.2.2.2.1.1 hP hr1 hq
  rw [hr2] at hrecv
  refine U_run (va_runV (rest := st) (n := nA) (C := y.cls) ⟨C.1, C.2.1, C.2.2.1, C.2.2.2.2.1, hts⟩ (hC0 G A) ⟨callB_of nA hts (wy_good hcode) rfl rfl rfl (hts _ l4) (hts _ l1) l5 hR, hts _ l2, hts _ l3⟩ ⟨Wd_blind, hrecv, fun U hU hWU => ⟨rfl, Wd_of hWU hU C.2.2.2.2.2.2.2.2.2.1 C.2.2.2.2.2.2.2.2.2.2.1 C.2.2.2.2.2.2.2.2.2.2.2 hR1 hz hS⟩⟩ rfl hnA hl.1 hst (by show 2 * 0 + _ ≤ 8; omega) hd hkn) C hS hl kk
theorem U_callI {idx b nA : Nat} {y : MethodName} {cc' : ByteArray} {nL' : Nat} {rm : Room} {vs st0 : List Value} {Q' : Option Value → ME → Nat → Prop} (hC0 : Cn l y cc' nL' none rm (.ref b :: vs) M sz Q') (hL : LI own idx y nA) (hcode : Cond.code y cc' nL' none ∈ tb) (hd : decode cc pc = .ok (.invokespecial idx, 3)) (hst : st0 = vs.reverse ++ .ref b :: st) (hnA : vs.length = nA) (hR : rm.frames + 1 ≤ R.frames ∧ 8 + (nL' + 11) + rm.locals ≤ R.locals) (hW : (st.map fun v => v.category).sum ≤ 8) (hkn : k + rm.cells ≤ R.cells ∧ n + rm.slots ≤ R.slots)
    (kk : ∀ (v : Option Value) (M' : ME) (sz' : Nat), Q' v M' sz' → U l G A R own cc nL ret T Z (k + rm.cells) (n + rm.slots) M' sz' (pc + 3) L (v.toList ++ st)) : U l G A R own cc nL ret T Z k n M sz pc L st0 := by
  intro p e s m args below meth c H locs ls C hR0 hz hS hl
  have hts := C.2.2.2.2.2.1
  obtain ⟨l1, l2, l4, l6, l5⟩ := hL
  refine U_run (va_runI (rest := st) (n := nA) ⟨C.1, C.2.1, C.2.2.1, C.2.2.2.2.1, hts⟩ (hC0 G A) ⟨callB_of nA hts (wy_good hcode) rfl rfl rfl (hts _ l4) (hts _ l1) l5 hR, l6, hts _ l2⟩ ⟨Wd_blind, fun U hU hWU => ⟨rfl, Wd_of hWU hU C.2.2.2.2.2.2.2.2.2.1 C.2.2.2.2.2.2.2.2.2.2.1 C.2.2.2.2.2.2.2.2.2.2.2 hR0 hz hS⟩⟩ rfl hnA hl.1 hst (by show 2 * 0 + _ ≤ 8; omega) hd hkn) C hS hl kk
theorem J_iadd {a b : Int} (hd : decode cc pc = .ok (.iadd, 1))  (kk : U l G A R own cc nL ret T Z k n M sz (pc + 1) L (.int (iI (a + b)) :: st)) : U l G A R own cc nL ret T Z k n M sz pc L (.int (iI b) :: .int (iI a) :: st) := U_iadd hd (by rw [iI_add]; exact kk)
theorem J_isub {a b : Int} (hd : decode cc pc = .ok (.isub, 1))  (kk : U l G A R own cc nL ret T Z k n M sz (pc + 1) L (.int (iI (a - b)) :: st)) : U l G A R own cc nL ret T Z k n M sz pc L (.int (iI b) :: .int (iI a) :: st) := U_isub hd (by rw [iI_sub]; exact kk)
theorem J_and31 {a : Int} (hd : decode cc pc = .ok (.iand, 1))  (kk : U l G A R own cc nL ret T Z k n M sz (pc + 1) L (.int (iI (a % 32)) :: st)) : U l G A R own cc nL ret T Z k n M sz pc L (.int (iI 31) :: .int (iI a) :: st) := U_iand hd (by rw [iI_and 5 (by decide) (by decide)]; exact kk)
theorem J_i2l {a : Int} (hd : decode cc pc = .ok (.i2l, 1)) (ha : r32 a) (kk : U l G A R own cc nL ret T Z k n M sz (pc + 1) L (.long (lI a) :: st)) : U l G A R own cc nL ret T Z k n M sz pc L (.int (iI a) :: st) := U_i2l hd (iI_l ha) kk
theorem J_iinc {i : Nat} {z a : Int} {L' : List (Option Value)} (hd : decode cc pc = .ok (.iinc i z, 3)) (h0 : L[i]? = some (some (.int (iI a)))) (hn : i < nL) (hL : st1 L i (.int (iI (a + z))) = L') (kk : U l G A R own cc nL ret T Z k n M sz (pc + 3) L' st) : U l G A R own cc nL ret T Z k n M sz pc L st := U_iinc hd h0 (by rw [show Int32.ofInt z = iI z from rfl, iI_add]) hn hL kk
theorem J_icmp_gt {a b : Int} {off : Int} {tgt : Nat} (hd : decode cc pc = .ok (.if_icmp .gt off, 3)) (ht : (pc : Int) + off = (tgt : Int)) (ha : r32 a) (hb : r32 b) (kt : b < a → U l G A R own cc nL ret T Z k n M sz tgt L st) (kf : a ≤ b → U l G A R own cc nL ret T Z k n M sz (pc + 3) L st) : U l G A R own cc nL ret T Z k n M sz pc L (.int (iI b) :: .int (iI a) :: st) := U_icmp_gt hd ht (fun q => kt ((iI_lt hb ha).mp q)) (fun q => kf (by have := mt (iI_lt hb ha).mpr q; omega))
theorem J_if_ne {a : Int} {off : Int} {tgt : Nat} (hd : decode cc pc = .ok (.ifCond .ne off, 3)) (ht : (pc : Int) + off = (tgt : Int)) (ha : r32 a) (kt : ¬ a = 0 → U l G A R own cc nL ret T Z k n M sz tgt L st) (kf : a = 0 → U l G A R own cc nL ret T Z k n M sz (pc + 3) L st) : U l G A R own cc nL ret T Z k n M sz pc L (.int (iI a) :: st) := U_if_ne hd ht (fun q => kt (fun z => q ((iI_eq (b := 0) ha ⟨by decide, by decide⟩).mpr z))) (fun q => kf ((iI_eq (b := 0) ha ⟨by decide, by decide⟩).mp q))
theorem J_lald {a N : Nat} {z : Int} {f : Int → Int} (hd : decode cc pc = .ok (.laload, 1)) (hM : M a = some (aL N f)) (hz : 0 ≤ z ∧ z < N) (hN : N < 2 ^ 31) (kk : U l G A R own cc nL ret T Z k n M sz (pc + 1) L (.long (lI (f z)) :: st)) : U l G A R own cc nL ret T Z k n M sz pc L (.int (iI z) :: .ref a :: st) := by
  rw [iI_toN hz.1]
  refine U_lald hd hM (by omega) hN ?_
  show U l G A R own cc nL ret T Z k n M sz (pc + 1) L (.long (lI (f (z.toNat : Int))) :: st)
  rw [Int.toNat_of_nonneg hz.1]; exact kk
theorem J_last {a N : Nat} {z x : Int} {f : Int → Int} (hd : decode cc pc = .ok (.lastore, 1)) (hM : M a = some (aL N f)) (hz : 0 ≤ z ∧ z < N) (hN : N < 2 ^ 31) (kk : U l G A R own cc nL ret T Z k n (mu M a (aL N (up f z x))) sz (pc + 1) L st) : U l G A R own cc nL ret T Z k n M sz pc L (.long (lI x) :: .int (iI z) :: .ref a :: st) := by
  rw [iI_toN hz.1]
  refine U_last hd hM (by omega) hN ?_
  rw [updL_up _ _ _ hz.1]; exact kk
theorem J_tab {dflt lo hi : Int} {offs : Array Int} {len : Nat} {z : Int} {off : Int} {tgt : Nat} (hd : decode cc pc = .ok (.tableswitch dflt lo hi offs, len)) (hz : r32 z) (h1 : lo ≤ z) (h2 : z ≤ hi) (ho : offs[(z - lo).toNat]? = some off) (ht : (pc : Int) + off = (tgt : Int)) (kk : U l G A R own cc nL ret T Z k n M sz tgt L st) : U l G A R own cc nL ret T Z k n M sz pc L (.int (iI z) :: st) := U_tabIn hd (by rw [iI_toInt hz]; omega) (by rw [iI_toInt hz]; omega) (by rw [iI_toInt hz]; exact ho) ht kk
theorem J_tabOut {dflt lo hi : Int} {offs : Array Int} {len : Nat} {z : Int} {tgt : Nat} (hd : decode cc pc = .ok (.tableswitch dflt lo hi offs, len)) (hz : r32 z) (h : z < lo ∨ hi < z) (ht : (pc : Int) + dflt = (tgt : Int)) (kk : U l G A R own cc nL ret T Z k n M sz tgt L st) : U l G A R own cc nL ret T Z k n M sz pc L (.int (iI z) :: st) := U_tabOut hd (by rw [iI_toInt hz]; exact h) ht kk
theorem U_cVP {idx b nA ci h : Nat} {y : MethodName} {cc' : ByteArray} {nL' : Nat} {ret' : Option FieldType} {vs st0 fs : List Value} {P : Option Value → ME → Prop} (hC0 : CP l y cc' nL' ret' (rmN h) (.ref b :: vs) M P) (hL : LV own idx y nA) (hcode : Cond.code y cc' nL' ret' ∈ tb) (hd : decode cc pc = .ok (.invokevirtual idx, 3)) (hM : M b = some (.inl (ci, fs))) (hcl : (vwCl[ci]?).map (fun r => r.1) = some y.cls) (hst : st0 = vs.reverse ++ .ref b :: st) (hnA : vs.length = nA) (hR : h + 2 ≤ R.frames ∧ 8 + (nL' + 11) + 32 * (h + 1) ≤ R.locals) (hW : (st.map fun v => v.category).sum ≤ 8) (hk : k ≤ R.cells) (hn : n ≤ R.slots)
    (kk : ∀ (v : Option Value) (M' : ME) (sz' : Nat), P v M' → U l G A R own cc nL ret T Z k n M' sz' (pc + 3) L (v.toList ++ st)) : U l G A R own cc nL ret T Z k n M sz pc L st0 :=
  U_callV (hC0 sz) hL hcode hd hM hcl hst hnA hR hW ⟨hk, hn⟩ (fun v M' sz' hp => kk v M' sz' hp)
theorem U_cV {idx b nA ci h : Nat} {y : MethodName} {cc' : ByteArray} {nL' : Nat} {ret' : Option FieldType} {vs st0 fs : List Value} {v : Value} {M' : ME} (hC0 : CF l y cc' nL' ret' (rmN h) (.ref b :: vs) M (some v) M') (hL : LV own idx y nA) (hcode : Cond.code y cc' nL' ret' ∈ tb) (hd : decode cc pc = .ok (.invokevirtual idx, 3)) (hM : M b = some (.inl (ci, fs))) (hcl : (vwCl[ci]?).map (fun r => r.1) = some y.cls) (hst : st0 = vs.reverse ++ .ref b :: st) (hnA : vs.length = nA) (hR : h + 2 ≤ R.frames ∧ 8 + (nL' + 11) + 32 * (h + 1) ≤ R.locals) (hW : (st.map fun v => v.category).sum ≤ 8) (hk : k ≤ R.cells) (hn : n ≤ R.slots)
    (kk : ∀ sz' : Nat, U l G A R own cc nL ret T Z k n M' sz' (pc + 3) L (v :: st)) : U l G A R own cc nL ret T Z k n M sz pc L st0 :=
  U_cVP (CF.P hC0) hL hcode hd hM hcl hst hnA hR hW hk hn (fun _ _ sz' hp => by rw [hp.1, hp.2]; exact kk sz')
theorem U_eqM {M' : ME} (h : M = M') (kk : U l G A R own cc nL ret T Z k n M' sz pc L st) : U l G A R own cc nL ret T Z k n M sz pc L st := h ▸ kk
theorem U_wk' {L' : List (Option Value)} (kk : U l G A R own cc nL ret T Z k n M sz pc L' st) (hw : wk L' L) : U l G A R own cc nL ret T Z k n M sz pc L st := U_wk hw kk
theorem U_lcE {off : Int} {tgt : Nat} {x y : Int64} (h : x = y) (hd : decode cc pc = .ok (.lcmp, 1)) (hd2 : decode cc (pc + 1) = .ok (.ifCond .eq off, 3)) (ht : ((pc + 1 : Nat) : Int) + off = (tgt : Int)) (kk : U l G A R own cc nL ret T Z k n M sz tgt L st) : U l G A R own cc nL ret T Z k n M sz pc L (.long y :: .long x :: st) := by
  subst h
  refine U_lcmp hd ?_
  rw [show lg_cmp x x = 0 by unfold lg_cmp; simp]
  exact U_if_eq_t hd2 ht rfl kk
/-- reading the script -/
theorem U_scr {b N : Nat} {xs : Nat → Int32} {j : Nat} (hT : ∀ s c args, T s c args → va_X b N xs s s.heap ∧ b < s.heap.size ∧ ¬ A b) (hd : decode cc pc = .ok (.iaload, 1)) (hj : j < N) (hN : N < 2 ^ 31) (kk : U l G A R own cc nL ret T Z k n M sz (pc + 1) L (.int (xs j) :: st)) : U l G A R own cc nL ret T Z k n M sz pc L (.int (nI j) :: .ref b :: st) := by
  intro p e s m args below meth c H locs ls C hR hz hS hl
  obtain ⟨h1, h2, h3⟩ := hT _ _ _ C.2.2.2.2.2.2.2.1
  refine va_sld C.1 C.2.1 h1 h2 h3 hS (vp_in_nI hj hN) hd ?_
  rw [nI_clamp (Nat.lt_trans hj hN)]
  exact kk p e s m args below meth c H locs ls C hR hz hS hl
theorem U_slen {b N : Nat} {xs : Nat → Int32} (hT : ∀ s c args, T s c args → va_X b N xs s s.heap ∧ b < s.heap.size ∧ ¬ A b) (hd : decode cc pc = .ok (.arraylength, 1)) (kk : U l G A R own cc nL ret T Z k n M sz (pc + 1) L (.int (nI N) :: st)) : U l G A R own cc nL ret T Z k n M sz pc L (.ref b :: st) := by
  intro p e s m args below meth c H locs ls C hR hz hS hl
  obtain ⟨h1, h2, h3⟩ := hT _ _ _ C.2.2.2.2.2.2.2.1
  refine va_slen C.1 C.2.1 h1 h2 h3 hS hd ?_
  exact kk p e s m args below meth c H locs ls C hR hz hS hl
end UU
