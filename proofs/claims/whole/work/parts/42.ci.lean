/-! walks of constructors: cells are made; the address of the next one is the heap's size -/
def ci_X (D : va_G) (cy : Nat → ClassId) (U : State) : Prop := cc_K D cy U ∧ va_AO RX0 U ∧ va_AO RX1 U ∧ va_AO RX2 U
theorem ci_X.warm {D : va_G} {cy : Nat → ClassId} {s U : State} (hW : s.WarmedH U.vm) (h : ci_X D cy s) : ci_X D cy U := ⟨h.1.warm hW, h.2.1.moved hW.alike, h.2.2.1.moved hW.alike, h.2.2.2.moved hW.alike⟩
theorem ci_X.same {D : va_G} {cy : Nat → ClassId} {u U : State} (hv : u.vm = U.vm) (h : ci_X D cy u) : ci_X D cy U := by
  have ha : u.vm.Alike U.vm := by rw [hv]; exact Vm.Alike.refl _
  exact ⟨h.1.same hv, h.2.1.moved ha, h.2.2.1.moved ha, h.2.2.2.moved ha⟩
def ci_Ok (Y : cc_Y) : Prop := Cond.code Y.1 Y.2.1 Y.2.2.1 Y.2.2.2.1 ∈ cc_GT ∧ Cond.initialized Y.1.cls ∈ cc_GT ∧ plainName Y.1.cls = true ∧ (Y.1.cls ≠ "java/lang/invoke/MethodHandle" ∧ Y.1.cls ≠ "java/lang/invoke/VarHandle") ∧ Y.1.name = "<init>" ∧ Y.2.2.2.1 = none
theorem ci_good {Y : cc_Y} (ok : ci_Ok Y) : GoodIn cc_GT (cc_W Y) := fun w hw => by
  rcases List.mem_cons.mp hw with rfl | h
  · exact ⟨ok.1, good_of_word (List.mem_filter.mp ok.1).2⟩
  · exact ⟨h, good_of_word (List.mem_filter.mp h).2⟩
/-- a constructor's contract: from the world G of z cells it returns, zE cells lie there then, and Q holds of the world -/
def ci_Cn (cy : Nat → ClassId) (Y : cc_Y) (as : List Value) (z : Nat) (G : cc_G) (zE : Nat) (Q : cc_G → Prop) : Prop := ∀ (l : Launch) (D : va_G) (A : Nat → Prop), (∀ q : Nat, z ≤ q → A q) → Met l Y.1 (cc_W Y) Y.2.2.2.2 (va_Pc as (fun U => cc_M D A z G U.heap ∧ ci_X D cy U)) (cc_Q D A zE (cc_qv Q)) Y.2.2.2.2.cells Y.2.2.2.2.slots A
def ci_R (cy : Nat → ClassId) (Y : cc_Y) (z0 z pc : Nat) (ls : List (Nat × Value)) (st : List Value) (G : cc_G) (n1 n2 zE : Nat) (Q : cc_G → Prop) : Prop :=
  ∀ ⦃p : Program⦄ ⦃l : Launch⦄ ⦃e : Env⦄ ⦃s : State⦄ ⦃m : MethodId⦄ ⦃args : Array Value⦄ ⦃below : List Frame⦄ ⦃meth : Method⦄ ⦃c : Code⦄ ⦃D : va_G⦄ ⦃A : Nat → Prop⦄ ⦃H : Heap⦄ ⦃locs : List Loc⦄ ⦃la : Array Slot⦄, cc_C cy Y p s m args meth c D → (ci_X D cy s ∧ meth.name = "<init>" ∧ (∀ q : Nat, z0 ≤ q → A q) ∧ s.heap.size = z0) → cc_M D A z G H → va_S A s.heap H locs → lv_has la Y.2.2.1 ls →
    W p l e (headSpec (cc_W Y) Y.2.2.2.2).room s m args below meth c H locs n1 n2 (MQ below (cc_Q D A zE (cc_qv Q)) args s Y.2.2.2.2.cells Y.2.2.2.2.slots A) (F0 m pc la st)
theorem ci_enter {cy : Nat → ClassId} {Y : cc_Y} {as : List Value} {z zE : Nat} {G : cc_G} {Q : cc_G → Prop} (ok : ci_Ok Y) (hlen : (lg_sl as).length ≤ Y.2.2.1) {ls : List (Nat × Value)} (hls : lv_args 0 as = ls) (h : ci_R cy Y z z 0 ls [] G 0 0 zE Q) : ci_Cn cy Y as z G zE Q := by
  intro l D A hA
  refine Met.ofW (cc := Y.2.1) (maxL := Y.2.2.1) (ret := Y.2.2.2.1) ok.2.2.1 rfl ?_
  intro p e s m args below meth c s₁ B hml hv
  obtain ⟨rfl, hM, hX⟩ := hv
  have hts := atoms_spec (ws := cc_W Y) B.pre
  have hl := lv_entry as (n := Y.2.2.1) hlen
  rw [hls] at hl
  rw [lg_entry_eq]
  exact h ⟨B.exec, B.bytes, hml, B.returns, B.notSynchronized, findClass_of_methodNamed B.named, fun w hw => hts w (List.mem_cons_of_mem _ hw), hX.1⟩ ⟨hX, (name_of_methodNamed B.named B.method).1.trans ok.2.2.2.2.1, hA, hM.1⟩ hM va_S.rf hl
theorem ci_blind {D : va_G} {A : Nat → Prop} {cy : Nat → ClassId} {z : Nat} {G : cc_G} {as : List Value} : FrameBlind (va_Pc as (fun U => cc_M D A z G U.heap ∧ ci_X D cy U)) := fun a U g mk q => by
  obtain ⟨q0, q1, q2⟩ := q
  exact ⟨q0, q1, q2.same (u := U) (U := U.calling g mk a) rfl⟩
section CIR
variable {cy : Nat → ClassId} {Y : cc_Y} {z0 z pc n1 n2 zE : Nat} {ls ls' : List (Nat × Value)} {st : List Value} {G : cc_G} {Q : cc_G → Prop}
theorem ci_iconst {n : Int} {v : Int32} (hd : decode Y.2.1 pc = .ok (.iconst n, 1)) (hv : Int32.ofInt n = v) (k : ci_R cy Y z0 z (pc + 1) ls (.int v :: st) G n1 n2 zE Q) : ci_R cy Y z0 z pc ls st G n1 n2 zE Q := by
  intro p l e s m args below meth c D A H locs la C N hM hS hl
  exact lv_iconst C.1 C.2.1 hd hv (k C N hM hS hl)
theorem ci_bipush {n : Int} {v : Int32} (hd : decode Y.2.1 pc = .ok (.bipush n, 2)) (hv : (Int8.ofInt n).toInt32 = v) (k : ci_R cy Y z0 z (pc + 2) ls (.int v :: st) G n1 n2 zE Q) : ci_R cy Y z0 z pc ls st G n1 n2 zE Q := by
  intro p l e s m args below meth c D A H locs la C N hM hS hl
  exact lv_bipush C.1 C.2.1 hd hv (k C N hM hS hl)
theorem ci_sipush {n : Int} {v : Int32} (hd : decode Y.2.1 pc = .ok (.sipush n, 3)) (hv : (Int16.ofInt n).toInt32 = v) (k : ci_R cy Y z0 z (pc + 3) ls (.int v :: st) G n1 n2 zE Q) : ci_R cy Y z0 z pc ls st G n1 n2 zE Q := by
  intro p l e s m args below meth c D A H locs la C N hM hS hl
  exact lv_sipush C.1 C.2.1 hd hv (k C N hM hS hl)
theorem ci_iload_n {q : Fin 4} {i j : Nat} {x : Int32} (hd : decode Y.2.1 pc = .ok (.iload_n q, 1)) (hi : (q : Nat) = i) (hk : ls[j]? = some (i, .int x)) (k : ci_R cy Y z0 z (pc + 1) ls (.int x :: st) G n1 n2 zE Q) : ci_R cy Y z0 z pc ls st G n1 n2 zE Q := by
  intro p l e s m args below meth c D A H locs la C N hM hS hl
  exact lv_iload_n C.1 C.2.1 hd hi (lv_at hl j hk) (k C N hM hS hl)
theorem ci_aload_n {q : Fin 4} {i j : Nat} {x : Nat} (hd : decode Y.2.1 pc = .ok (.aload_n q, 1)) (hi : (q : Nat) = i) (hk : ls[j]? = some (i, .ref x)) (k : ci_R cy Y z0 z (pc + 1) ls (.ref x :: st) G n1 n2 zE Q) : ci_R cy Y z0 z pc ls st G n1 n2 zE Q := by
  intro p l e s m args below meth c D A H locs la C N hM hS hl
  exact lv_aload_n C.1 C.2.1 hd hi (lv_at hl j hk) (k C N hM hS hl)
theorem ci_istore_n {q : Fin 4} {i : Nat} {x : Int32} (hd : decode Y.2.1 pc = .ok (.istore_n q, 1)) (hi : (q : Nat) = i) (hn : i < Y.2.2.1) (hf : (i, Value.int x) :: ls.filter (fun q => !(q.1 == i) && !(q.1 + 1 == i && q.2.category == 2)) = ls') (k : ci_R cy Y z0 z (pc + 1) ls' st G n1 n2 zE Q) : ci_R cy Y z0 z pc ls (.int x :: st) G n1 n2 zE Q := by
  intro p l e s m args below meth c D A H locs la C N hM hS hl
  exact lv_istore_n C.1 C.2.1 hd hi hl hn hf (fun la' hl' => k C N hM hS hl')
theorem ci_iinc {i j : Nat} {n : Int} {x v : Int32} (hd : decode Y.2.1 pc = .ok (.iinc i n, 3)) (hk : ls[j]? = some (i, .int x)) (hv : x + Int32.ofInt n = v) (hn : i < Y.2.2.1) (hf : (i, Value.int v) :: ls.filter (fun q => !(q.1 == i) && !(q.1 + 1 == i && q.2.category == 2)) = ls') (k : ci_R cy Y z0 z (pc + 3) ls' st G n1 n2 zE Q) : ci_R cy Y z0 z pc ls st G n1 n2 zE Q := by
  intro p l e s m args below meth c D A H locs la C N hM hS hl
  exact lv_iinc C.1 C.2.1 hd hl hk hv hn hf (fun la' hl' => k C N hM hS hl')
theorem ci_dup {v : Value} (hd : decode Y.2.1 pc = .ok (.dup, 1)) (hv : v.category = 1) (k : ci_R cy Y z0 z (pc + 1) ls (v :: v :: st) G n1 n2 zE Q) : ci_R cy Y z0 z pc ls (v :: st) G n1 n2 zE Q := by
  intro p l e s m args below meth c D A H locs la C N hM hS hl
  exact lv_dup C.1 C.2.1 hd hv (k C N hM hS hl)
theorem ci_goto {off : Int} {tgt : Nat} (hd : decode Y.2.1 pc = .ok (.goto off, 3)) (ht : (pc : Int) + off = (tgt : Int)) (k : ci_R cy Y z0 z tgt ls st G n1 n2 zE Q) : ci_R cy Y z0 z pc ls st G n1 n2 zE Q := by
  intro p l e s m args below meth c D A H locs la C N hM hS hl
  exact lv_goto C.1 C.2.1 hd ht (k C N hM hS hl)
theorem ci_icmp_ge {x y : Int32} {off : Int} {tgt : Nat} (hd : decode Y.2.1 pc = .ok (.if_icmp .ge off, 3)) (ht : (pc : Int) + off = (tgt : Int)) (kt : y ≤ x → ci_R cy Y z0 z tgt ls st G n1 n2 zE Q) (kf : ¬ y ≤ x → ci_R cy Y z0 z (pc + 3) ls st G n1 n2 zE Q) : ci_R cy Y z0 z pc ls (.int y :: .int x :: st) G n1 n2 zE Q := by
  intro p l e s m args below meth c D A H locs la C N hM hS hl
  exact lv_icmp_ge C.1 C.2.1 hd ht (fun q => kt q C N hM hS hl) (fun q => kf q C N hM hS hl)
theorem ci_get {a ci N idx : Nat} {T : u_T} {ty0 : Nat → FieldType} {fs : List Value} {v : Value} (hG : G a = some (.inr (ci, fs))) (hcl : cc_Cl ci Y.1.cls T N ty0) (k0 : Nat) (hk0 : k0 < N) (hln : Cond.fieldLink Y.1.cls idx (T k0).1 (T k0).2.1 (T k0).2.2.1 ∈ cc_GT) (hv : fs[k0]? = some v) (hd : decode Y.2.1 pc = .ok (.getfield idx, 3)) (k : ci_R cy Y z0 z (pc + 3) ls (v :: st) G n1 n2 zE Q) : ci_R cy Y z0 z pc ls (.ref a :: st) G n1 n2 zE Q := by
  intro p l e s m args below meth c D A H locs la C N hM hS hl
  exact vm_get C.1 C.2.1 C.2.2.2.2.2.2.1 C.2.2.2.2.2.1 C.2.2.2.2.2.2.2.1 hM hG hcl k0 hk0 hln hv hd (k C N hM hS hl)
theorem ci_put {a ci N idx : Nat} {T : u_T} {ty0 : Nat → FieldType} {fs : List Value} {v : Value} {ty : FieldType} (hG : G a = some (.inr (ci, fs))) (hcl : cc_Cl ci Y.1.cls T N ty0) (k0 : Nat) (hk0 : k0 < N) (hln : Cond.fieldLink Y.1.cls idx (T k0).1 (T k0).2.1 (T k0).2.2.1 ∈ cc_GT) (hfin : (T k0).2.2.2 = false) (hdt : parseFieldDescriptor (T k0).2.2.1 = some ty) (hn : narrow ty v = v) (hfit : fits ty v = true) (hlen : k0 < fs.length) (hd : decode Y.2.1 pc = .ok (.putfield idx, 3)) (k : ci_R cy Y z0 z (pc + 3) ls st (va_up G a (some (.inr (ci, fs.set k0 v)))) n1 n2 zE Q) : ci_R cy Y z0 z pc ls (v :: .ref a :: st) G n1 n2 zE Q := by
  intro p l e s m args below meth c D A H locs la C N hM hS hl
  exact vm_put C.1 C.2.1 C.2.2.2.2.2.2.1 C.2.2.2.2.2.1 C.2.2.2.2.2.2.2.1 hM hS hG hcl k0 hk0 hln hfin hdt hn hfit hlen hd (fun H1 locs1 hM hS => k C N hM hS hl)
theorem ci_aast3 {a n v j : Nat} {vs : List Value} {f : Nat → Option Nat} {i : Int32} (hG : G a = some (.inl (cy 3, n, .inr (.inr (.inr (.inr f)))))) (hv : G v = some (.inr (0, vs))) (hin : vp_in i n) (hj : i.toNatClampNeg = j) (hd : decode Y.2.1 pc = .ok (.aastore, 1)) (k : ci_R cy Y z0 z (pc + 1) ls st (va_up G a (some (.inl (cy 3, n, .inr (.inr (.inr (.inr (va_up f j (some v))))))))) n1 n2 zE Q) : ci_R cy Y z0 z pc ls (.ref v :: .int i :: .ref a :: st) G n1 n2 zE Q := by
  intro p l e s m args below meth c D A H locs la C N hM hS hl
  subst hj
  exact vm_aast (r := (RX0, TX0, 6)) C.1 C.2.1 C.2.2.2.2.2.2.2.1 hM hS 3 0 hG rfl hv rfl hin hd (fun H1 locs1 hM hS => k C N hM hS hl)
theorem ci_aast4 {a n v j : Nat} {vs : List Value} {f : Nat → Option Nat} {i : Int32} (hG : G a = some (.inl (cy 4, n, .inr (.inr (.inr (.inr f)))))) (hv : G v = some (.inr (1, vs))) (hin : vp_in i n) (hj : i.toNatClampNeg = j) (hd : decode Y.2.1 pc = .ok (.aastore, 1)) (k : ci_R cy Y z0 z (pc + 1) ls st (va_up G a (some (.inl (cy 4, n, .inr (.inr (.inr (.inr (va_up f j (some v))))))))) n1 n2 zE Q) : ci_R cy Y z0 z pc ls (.ref v :: .int i :: .ref a :: st) G n1 n2 zE Q := by
  intro p l e s m args below meth c D A H locs la C N hM hS hl
  subst hj
  exact vm_aast (r := (RX1, TX1, 13)) C.1 C.2.1 C.2.2.2.2.2.2.2.1 hM hS 4 1 hG rfl hv rfl hin hd (fun H1 locs1 hM hS => k C N hM hS hl)
theorem ci_aast5 {a n v j : Nat} {vs : List Value} {f : Nat → Option Nat} {i : Int32} (hG : G a = some (.inl (cy 5, n, .inr (.inr (.inr (.inr f)))))) (hv : G v = some (.inr (2, vs))) (hin : vp_in i n) (hj : i.toNatClampNeg = j) (hd : decode Y.2.1 pc = .ok (.aastore, 1)) (k : ci_R cy Y z0 z (pc + 1) ls st (va_up G a (some (.inl (cy 5, n, .inr (.inr (.inr (.inr (va_up f j (some v))))))))) n1 n2 zE Q) : ci_R cy Y z0 z pc ls (.ref v :: .int i :: .ref a :: st) G n1 n2 zE Q := by
  intro p l e s m args below meth c D A H locs la C N hM hS hl
  subst hj
  exact vm_aast (r := (RX2, TX2, 7)) C.1 C.2.1 C.2.2.2.2.2.2.2.1 hM hS 5 2 hG rfl hv rfl hin hd (fun H1 locs1 hM hS => k C N hM hS hl)
theorem ci_putF {a ci N0 idx : Nat} {T : u_T} {ty0 : Nat → FieldType} {fs : List Value} {v : Value} {ty : FieldType} (hG : G a = some (.inr (ci, fs))) (hcl : cc_Cl ci Y.1.cls T N0 ty0) (k0 : Nat) (hk0 : k0 < N0) (hln : Cond.fieldLink Y.1.cls idx (T k0).1 (T k0).2.1 (T k0).2.2.1 ∈ cc_GT) (hfin : (T k0).2.2.2 = true) (hdecl : (T k0).1 = Y.1.cls) (hdt : parseFieldDescriptor (T k0).2.2.1 = some ty) (hn : narrow ty v = v) (hfit : fits ty v = true) (hlen : k0 < fs.length) (hd : decode Y.2.1 pc = .ok (.putfield idx, 3)) (k : ci_R cy Y z0 z (pc + 3) ls st (va_up G a (some (.inr (ci, fs.set k0 v)))) n1 n2 zE Q) : ci_R cy Y z0 z pc ls (v :: .ref a :: st) G n1 n2 zE Q := by
  intro p l e s m args below meth c D A H locs la C N hM hS hl
  exact vm_putF C.1 C.2.1 C.2.2.2.2.2.2.1 C.2.2.2.2.2.1 C.2.2.2.2.2.2.2.1 hM hS hG hcl k0 hk0 hln hfin N.2.1 hdecl hdt hn hfit hlen hd (fun H1 locs1 hM hS => k C N hM hS hl)
theorem ci_obj {a idx : Nat} (hln : Cond.methodLink Y.1.cls idx ⟨"java/lang/Object", "<init>", "()V"⟩ ∈ cc_GT) (hd : decode Y.2.1 pc = .ok (.invokespecial idx, 3)) (h1 : 1 ≤ Y.2.2.2.2.frames) (h2 : (st.map fun v => v.category).sum + 12 ≤ Y.2.2.2.2.locals) (k : ci_R cy Y z0 z (pc + 3) ls st G n1 n2 zE Q) : ci_R cy Y z0 z pc ls (.ref a :: st) G n1 n2 zE Q := by
  intro p l e s m args below meth c D A H locs la C N hM hS hl
  exact vm_obj C.1 C.2.1 (C.2.2.1.trans hl.1.symm) C.2.2.2.2.2.2.1 C.2.2.2.2.2.1 hln hd h1 h2 (k C N hM hS hl)
theorem ci_new {ci N0 idx : Nat} {CN : String} {T : u_T} {ty0 : Nat → FieldType} {fs : List Value} (hcl : cc_Cl ci CN T N0 ty0) (hl0 : Cond.classLink Y.1.cls idx CN ∈ cc_GT) (hi : Cond.instantiable CN N0 ∈ cc_GT) (hin : Cond.initialized CN ∈ cc_GT) (hfs : ∀ j, j < N0 → defaultValue (ty0 j) = vp_V fs j) (hc : n1 + 1 ≤ Y.2.2.2.2.cells) (hsl : n2 + N0 ≤ Y.2.2.2.2.slots) (hd : decode Y.2.1 pc = .ok (.new idx, 3)) (k : ci_R cy Y z0 (z + 1) (pc + 3) ls (.ref z :: st) (va_up G z (some (.inr (ci, fs)))) (n1 + 1) (n2 + N0) zE Q) : ci_R cy Y z0 z pc ls st G n1 n2 zE Q := by
  intro p l e s m args below meth c D A H locs la C N hM hS hl
  exact vm_new C.1 C.2.1 C.2.2.2.2.2.2.1 C.2.2.2.2.2.1 C.2.2.2.2.2.2.2.1 hM hS (N.2.2.1 _ (by rw [← N.2.2.2, ← hM.1]; exact hS.1)) hcl hl0 hi hin hfs hc hsl hd (fun H1 hM hS => k C N hM hS hl)
theorem ci_newa_int {n : Int32} {N' : Nat} (h0 : ¬ n < 0) (hn : n.toNatClampNeg = N') (hbig : N' * 4 ≤ 536870912) (hc : n1 + 1 ≤ Y.2.2.2.2.cells) (hsl : n2 + N' ≤ Y.2.2.2.2.slots) (hd : decode Y.2.1 pc = .ok (.newarray .int, 2)) (k : ci_R cy Y z0 (z + 1) (pc + 2) ls (.ref z :: st) (va_up G z (some (.inl (cy 1, N', .inl (fun _ => 0))))) (n1 + 1) (n2 + N') zE Q) : ci_R cy Y z0 z pc ls (.int n :: st) G n1 n2 zE Q := by
  intro p l e s m args below meth c D A H locs la C N hM hS hl
  exact vm_newa_int C.1 C.2.1 C.2.2.2.2.2.2.1 C.2.2.2.2.2.2.2.1 hM hS (N.2.2.1 _ (by rw [← N.2.2.2, ← hM.1]; exact hS.1)) h0 hn hbig hc hsl hd (fun H1 hM hS => k C N hM hS hl)
theorem ci_newa_char {n : Int32} {N' : Nat} (h0 : ¬ n < 0) (hn : n.toNatClampNeg = N') (hbig : N' * 4 ≤ 536870912) (hc : n1 + 1 ≤ Y.2.2.2.2.cells) (hsl : n2 + N' ≤ Y.2.2.2.2.slots) (hd : decode Y.2.1 pc = .ok (.newarray .char, 2)) (k : ci_R cy Y z0 (z + 1) (pc + 2) ls (.ref z :: st) (va_up G z (some (.inl (cy 0, N', .inl (fun _ => 0))))) (n1 + 1) (n2 + N') zE Q) : ci_R cy Y z0 z pc ls (.int n :: st) G n1 n2 zE Q := by
  intro p l e s m args below meth c D A H locs la C N hM hS hl
  exact vm_newa_char C.1 C.2.1 C.2.2.2.2.2.2.1 C.2.2.2.2.2.2.2.1 hM hS (N.2.2.1 _ (by rw [← N.2.2.2, ← hM.1]; exact hS.1)) h0 hn hbig hc hsl hd (fun H1 hM hS => k C N hM hS hl)
theorem ci_newa_boolean {n : Int32} {N' : Nat} (h0 : ¬ n < 0) (hn : n.toNatClampNeg = N') (hbig : N' * 4 ≤ 536870912) (hc : n1 + 1 ≤ Y.2.2.2.2.cells) (hsl : n2 + N' ≤ Y.2.2.2.2.slots) (hd : decode Y.2.1 pc = .ok (.newarray .boolean, 2)) (k : ci_R cy Y z0 (z + 1) (pc + 2) ls (.ref z :: st) (va_up G z (some (.inl (cy 2, N', .inl (fun _ => 0))))) (n1 + 1) (n2 + N') zE Q) : ci_R cy Y z0 z pc ls (.int n :: st) G n1 n2 zE Q := by
  intro p l e s m args below meth c D A H locs la C N hM hS hl
  exact vm_newa_boolean C.1 C.2.1 C.2.2.2.2.2.2.1 C.2.2.2.2.2.2.2.1 hM hS (N.2.2.1 _ (by rw [← N.2.2.2, ← hM.1]; exact hS.1)) h0 hn hbig hc hsl hd (fun H1 hM hS => k C N hM hS hl)
theorem ci_anew_RX0 {idx : Nat} {n : Int32} {N' : Nat} (hl0 : Cond.classLink Y.1.cls idx RX0 ∈ cc_GT) (h0 : ¬ n < 0) (hn : n.toNatClampNeg = N') (hbig : N' * 4 ≤ 536870912) (hc : n1 + 1 ≤ Y.2.2.2.2.cells) (hsl : n2 + N' ≤ Y.2.2.2.2.slots) (hd : decode Y.2.1 pc = .ok (.anewarray idx, 3)) (k : ci_R cy Y z0 (z + 1) (pc + 3) ls (.ref z :: st) (va_up G z (some (.inl (cy 3, N', .inr (.inr (.inr (.inr (fun _ => none)))))))) (n1 + 1) (n2 + N') zE Q) : ci_R cy Y z0 z pc ls (.int n :: st) G n1 n2 zE Q := by
  intro p l e s m args below meth c D A H locs la C N hM hS hl
  exact vm_anew_RX0 C.1 C.2.1 C.2.2.2.2.2.2.1 C.2.2.2.2.2.1 hl0 N.1.2.1 C.2.2.2.2.2.2.2.1 hM hS (N.2.2.1 _ (by rw [← N.2.2.2, ← hM.1]; exact hS.1)) h0 hn hbig hc hsl hd (fun H1 hM hS => k C N hM hS hl)
theorem ci_anew_RX1 {idx : Nat} {n : Int32} {N' : Nat} (hl0 : Cond.classLink Y.1.cls idx RX1 ∈ cc_GT) (h0 : ¬ n < 0) (hn : n.toNatClampNeg = N') (hbig : N' * 4 ≤ 536870912) (hc : n1 + 1 ≤ Y.2.2.2.2.cells) (hsl : n2 + N' ≤ Y.2.2.2.2.slots) (hd : decode Y.2.1 pc = .ok (.anewarray idx, 3)) (k : ci_R cy Y z0 (z + 1) (pc + 3) ls (.ref z :: st) (va_up G z (some (.inl (cy 4, N', .inr (.inr (.inr (.inr (fun _ => none)))))))) (n1 + 1) (n2 + N') zE Q) : ci_R cy Y z0 z pc ls (.int n :: st) G n1 n2 zE Q := by
  intro p l e s m args below meth c D A H locs la C N hM hS hl
  exact vm_anew_RX1 C.1 C.2.1 C.2.2.2.2.2.2.1 C.2.2.2.2.2.1 hl0 N.1.2.2.1 C.2.2.2.2.2.2.2.1 hM hS (N.2.2.1 _ (by rw [← N.2.2.2, ← hM.1]; exact hS.1)) h0 hn hbig hc hsl hd (fun H1 hM hS => k C N hM hS hl)
theorem ci_anew_RX2 {idx : Nat} {n : Int32} {N' : Nat} (hl0 : Cond.classLink Y.1.cls idx RX2 ∈ cc_GT) (h0 : ¬ n < 0) (hn : n.toNatClampNeg = N') (hbig : N' * 4 ≤ 536870912) (hc : n1 + 1 ≤ Y.2.2.2.2.cells) (hsl : n2 + N' ≤ Y.2.2.2.2.slots) (hd : decode Y.2.1 pc = .ok (.anewarray idx, 3)) (k : ci_R cy Y z0 (z + 1) (pc + 3) ls (.ref z :: st) (va_up G z (some (.inl (cy 5, N', .inr (.inr (.inr (.inr (fun _ => none)))))))) (n1 + 1) (n2 + N') zE Q) : ci_R cy Y z0 z pc ls (.int n :: st) G n1 n2 zE Q := by
  intro p l e s m args below meth c D A H locs la C N hM hS hl
  exact vm_anew_RX2 C.1 C.2.1 C.2.2.2.2.2.2.1 C.2.2.2.2.2.1 hl0 N.1.2.2.2 C.2.2.2.2.2.2.2.1 hM hS (N.2.2.1 _ (by rw [← N.2.2.2, ← hM.1]; exact hS.1)) h0 hn hbig hc hsl hd (fun H1 hM hS => k C N hM hS hl)
theorem ci_callIN {Y' : cc_Y} {idx b zN : Nat} {host : String} {P : cc_G → Prop} (hC : ci_Cn cy Y' [.ref b] z G zN P) (ok : ci_Ok Y') (him : Cond.instanceMethod Y'.1 ∈ cc_GT) (hln : Cond.methodLinkNest Y.1.cls idx Y'.1 host ∈ cc_NT) (hn : (parseMethodDescriptor Y'.1.desc).map (fun d => d.parameters.length) = some 0) (hR : Y'.2.2.2.2.frames + 1 ≤ Y.2.2.2.2.frames ∧ 8 + (Y'.2.2.1 + 11) + Y'.2.2.2.2.locals ≤ Y.2.2.2.2.locals) (hroom : n1 + Y'.2.2.2.2.cells ≤ Y.2.2.2.2.cells ∧ n2 + Y'.2.2.2.2.slots ≤ Y.2.2.2.2.slots) (hcat : (st.map fun v => v.category).sum ≤ 8) (hd : decode Y.2.1 pc = .ok (.invokespecial idx, 3)) (k : ∀ G' : cc_G, P G' → ci_R cy Y z0 zN (pc + 3) ls st G' (n1 + Y'.2.2.2.2.cells) (n2 + Y'.2.2.2.2.slots) zE Q) : ci_R cy Y z0 z pc ls (.ref b :: st) G n1 n2 zE Q := by
  intro p l e s m args below meth c D A H locs la C N hM hS hl
  have hz : z0 ≤ z := by rw [← N.2.2.2, ← hM.1]; exact hS.1
  have hC' := hC l D A (fun q hq => N.2.2.1 q (Nat.le_trans hz hq))
  refine vm_call (va_runIN (As := []) (rest := st) (host := host) (bytes := Y'.2.1) (maxL := Y'.2.2.1) ⟨C.1, C.2.1, C.2.2.1, C.2.2.2.2.2.1, C.2.2.2.2.2.2.1⟩ hC' ⟨⟨⟨rfl, rfl, hR.1, hR.2, pay_in C.2.2.2.2.2.2.1 (ci_good ok), ?_⟩, ?_, C.2.2.2.2.2.2.1 _ ok.2.1, ok.2.2.2.1, cc_len hn, va_Nw.use rfl (N.1.1.2 _ hln)⟩, ok.2.2.2.2.1, C.2.2.2.2.2.2.1 _ him⟩ ⟨ci_blind, fun U hU hW => ⟨rfl, by rw [hU]; exact hM, N.1.warm hW⟩⟩ rfl rfl hl.1 rfl (lv_room hcat) hd hroom) hS (fun v G' H1 locs1 hq hM1 hS1 => ?_)
  · rw [← ok.2.2.2.2.2]; exact List.mem_cons_self
  · rw [← ok.2.2.2.2.2]; exact C.2.2.2.2.2.2.1 _ ok.1
  · obtain ⟨rfl, hp⟩ := hq
    exact k G' hp C N hM1 hS1 hl
theorem ci_callVv {Y' : cc_Y} {idx : Nat} {As rest : List Value} {P : cc_G → Prop} {ci N0 b : Nat} {T : u_T} {fs : List Value} (hC : cc_Cn cy Y' (.ref b :: As) z G (cc_qv P)) (ok : cc_Ok Y') (hbx : G b = some (.inr (ci, fs))) (hc : vwCl[ci]? = some (Y'.1.cls, T, N0)) (him : Cond.instanceMethod Y'.1 ∈ cc_GT) (hsl : Cond.selects Y'.1.cls Y'.1 Y'.1 ∈ cc_GT) (hln : Cond.methodLink Y.1.cls idx Y'.1 ∈ cc_GT) (hn : (parseMethodDescriptor Y'.1.desc).map (fun d => d.parameters.length) = some As.length) (hR : Y'.2.2.2.2.frames + 1 ≤ Y.2.2.2.2.frames ∧ 8 + (Y'.2.2.1 + 11) + Y'.2.2.2.2.locals ≤ Y.2.2.2.2.locals) (hrm : n1 ≤ Y.2.2.2.2.cells ∧ n2 ≤ Y.2.2.2.2.slots) (hcat : (rest.map fun v => v.category).sum ≤ 8) (hst : st = As.reverse ++ .ref b :: rest) (hd : decode Y.2.1 pc = .ok (.invokevirtual idx, 3)) (k : ∀ (G' : cc_G), P G' → ci_R cy Y z0 z (pc + 3) ls rest G' n1 n2 zE Q) : ci_R cy Y z0 z pc ls st G n1 n2 zE Q := by
  intro p l e s m args below meth c D A H locs la C N hM hS hl
  exact vm_callV C.1 C.2.1 C.2.2.1 hl.1 C.2.2.2.2.2.1 C.2.2.2.2.2.2.1 C.2.2.2.2.2.2.2 hM hS hC ok hbx hc him hsl hln hn hR hrm hcat hst hd (fun v G' H1 locs1 hq hM hS => by
    obtain ⟨rfl, hp⟩ := hq
    exact k G' hp C N hM hS hl)
theorem ci_vret (hY : Y.2.2.2.1 = none) (hz : z = zE) (h1 : n1 ≤ Y.2.2.2.2.cells) (h2 : n2 ≤ Y.2.2.2.2.slots) (hd : decode Y.2.1 pc = .ok (.return_, 1)) (h : Q G) : ci_R cy Y z0 z pc ls [] G n1 n2 zE Q := by
  intro p l e s m args below meth c D A H locs la C N hM hS hl
  subst hz
  refine W.widen h1 h2 ?_
  exact W.vret C.1 C.2.1 (C.2.2.2.1.trans hY) (fun t ht hW => ⟨⟨_, G, rfl, ⟨rfl, h⟩, by rw [ht]; exact hM⟩, hS.F ht⟩) hS.2.2 hd C.2.2.2.2.1
end CIR
