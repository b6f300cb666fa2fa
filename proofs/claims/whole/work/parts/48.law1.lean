/-! the law's walk, its context hidden: the script lies at b, all that is made lies from z0 on -/
def lw_C (cy : Nat → ClassId) (b L : Nat) (xs : Nat → Int32) (p : Program) (s : State) (m : MethodId) (meth : Method) (c : Code) (D : va_G) : Prop := p.tables.exec = Jvm.exec ∧ c.code = code ∧ c.maxLocals = 4 ∧ meth.sig.returnType = ret ∧ meth.locks = false ∧ s.vm.findClass RL = some m.cls ∧ (∀ w ∈ cc_GT, w.before #[Value.ref b] s = true) ∧ ci_X D cy s ∧ va_X b L xs s s.heap ∧ b < s.heap.size
def lw_R (cy : Nat → ClassId) (b L : Nat) (xs : Nat → Int32) (z0 z pc : Nat) (ls : List (Nat × Value)) (st : List Value) (G : cc_G) (n1 n2 : Nat) : Prop :=
  ∀ ⦃p : Program⦄ ⦃l : Launch⦄ ⦃e : Env⦄ ⦃s : State⦄ ⦃m : MethodId⦄ ⦃below : List Frame⦄ ⦃meth : Method⦄ ⦃c : Code⦄ ⦃D : va_G⦄ ⦃H : Heap⦄ ⦃locs : List Loc⦄ ⦃la : Array Slot⦄, lw_C cy b L xs p s m meth c D → s.heap.size = z0 → cc_M D (fun q => z0 ≤ q) z G H → va_S (fun q => z0 ≤ q) s.heap H locs → lv_has la 4 ls → W p l e room_1 s m #[Value.ref b] below meth c H locs n1 n2 (lw_Z below #[Value.ref b] s) (F0 m pc la st)
section LWR
variable {cy : Nat → ClassId} {b L : Nat} {xs : Nat → Int32} {z0 z pc n1 n2 : Nat} {ls ls' : List (Nat × Value)} {st : List Value} {G : cc_G}
theorem lw_iconst {n : Int} {v : Int32} (hd : decode code pc = .ok (.iconst n, 1)) (hv : Int32.ofInt n = v) (k : lw_R cy b L xs z0 z (pc + 1) ls (.int v :: st) G n1 n2) : lw_R cy b L xs z0 z pc ls st G n1 n2 := by
  intro p l e s m below meth c D H locs la C Z hM hS hl
  exact lv_iconst C.1 C.2.1 hd hv (k C Z hM hS hl)
theorem lw_bipush {n : Int} {v : Int32} (hd : decode code pc = .ok (.bipush n, 2)) (hv : (Int8.ofInt n).toInt32 = v) (k : lw_R cy b L xs z0 z (pc + 2) ls (.int v :: st) G n1 n2) : lw_R cy b L xs z0 z pc ls st G n1 n2 := by
  intro p l e s m below meth c D H locs la C Z hM hS hl
  exact lv_bipush C.1 C.2.1 hd hv (k C Z hM hS hl)
theorem lw_iload_n {q : Fin 4} {i j : Nat} {x : Int32} (hd : decode code pc = .ok (.iload_n q, 1)) (hi : (q : Nat) = i) (hk : ls[j]? = some (i, .int x)) (k : lw_R cy b L xs z0 z (pc + 1) ls (.int x :: st) G n1 n2) : lw_R cy b L xs z0 z pc ls st G n1 n2 := by
  intro p l e s m below meth c D H locs la C Z hM hS hl
  exact lv_iload_n C.1 C.2.1 hd hi (lv_at hl j hk) (k C Z hM hS hl)
theorem lw_aload_n {q : Fin 4} {i j : Nat} {x : Nat} (hd : decode code pc = .ok (.aload_n q, 1)) (hi : (q : Nat) = i) (hk : ls[j]? = some (i, .ref x)) (k : lw_R cy b L xs z0 z (pc + 1) ls (.ref x :: st) G n1 n2) : lw_R cy b L xs z0 z pc ls st G n1 n2 := by
  intro p l e s m below meth c D H locs la C Z hM hS hl
  exact lv_aload_n C.1 C.2.1 hd hi (lv_at hl j hk) (k C Z hM hS hl)
theorem lw_istore_n {q : Fin 4} {i : Nat} {x : Int32} (hd : decode code pc = .ok (.istore_n q, 1)) (hi : (q : Nat) = i) (hn : i < 4) (hf : (i, Value.int x) :: ls.filter (fun q => !(q.1 == i) && !(q.1 + 1 == i && q.2.category == 2)) = ls') (k : lw_R cy b L xs z0 z (pc + 1) ls' st G n1 n2) : lw_R cy b L xs z0 z pc ls (.int x :: st) G n1 n2 := by
  intro p l e s m below meth c D H locs la C Z hM hS hl
  exact lv_istore_n C.1 C.2.1 hd hi hl hn hf (fun la' hl' => k C Z hM hS hl')
theorem lw_astore_n {q : Fin 4} {i : Nat} {x : Nat} (hd : decode code pc = .ok (.astore_n q, 1)) (hi : (q : Nat) = i) (hn : i < 4) (hf : (i, Value.ref x) :: ls.filter (fun q => !(q.1 == i) && !(q.1 + 1 == i && q.2.category == 2)) = ls') (k : lw_R cy b L xs z0 z (pc + 1) ls' st G n1 n2) : lw_R cy b L xs z0 z pc ls (.ref x :: st) G n1 n2 := by
  intro p l e s m below meth c D H locs la C Z hM hS hl
  exact lv_astore_n C.1 C.2.1 hd hi hl hn hf (fun la' hl' => k C Z hM hS hl')
theorem lw_iinc {i j : Nat} {n : Int} {x v : Int32} (hd : decode code pc = .ok (.iinc i n, 3)) (hk : ls[j]? = some (i, .int x)) (hv : x + Int32.ofInt n = v) (hn : i < 4) (hf : (i, Value.int v) :: ls.filter (fun q => !(q.1 == i) && !(q.1 + 1 == i && q.2.category == 2)) = ls') (k : lw_R cy b L xs z0 z (pc + 3) ls' st G n1 n2) : lw_R cy b L xs z0 z pc ls st G n1 n2 := by
  intro p l e s m below meth c D H locs la C Z hM hS hl
  exact lv_iinc C.1 C.2.1 hd hl hk hv hn hf (fun la' hl' => k C Z hM hS hl')
theorem lw_dup {v : Value} (hd : decode code pc = .ok (.dup, 1)) (hv : v.category = 1) (k : lw_R cy b L xs z0 z (pc + 1) ls (v :: v :: st) G n1 n2) : lw_R cy b L xs z0 z pc ls (v :: st) G n1 n2 := by
  intro p l e s m below meth c D H locs la C Z hM hS hl
  exact lv_dup C.1 C.2.1 hd hv (k C Z hM hS hl)
theorem lw_goto {off : Int} {tgt : Nat} (hd : decode code pc = .ok (.goto off, 3)) (ht : (pc : Int) + off = (tgt : Int)) (k : lw_R cy b L xs z0 z tgt ls st G n1 n2) : lw_R cy b L xs z0 z pc ls st G n1 n2 := by
  intro p l e s m below meth c D H locs la C Z hM hS hl
  exact lv_goto C.1 C.2.1 hd ht (k C Z hM hS hl)
theorem lw_iadd {x y : Int32} (hd : decode code pc = .ok (.iadd, 1)) (k : lw_R cy b L xs z0 z (pc + 1) ls (.int (x + y) :: st) G n1 n2) : lw_R cy b L xs z0 z pc ls (.int y :: .int x :: st) G n1 n2 := by
  intro p l e s m below meth c D H locs la C Z hM hS hl
  exact lv_iadd C.1 C.2.1 hd (k C Z hM hS hl)
theorem lw_isub {x y : Int32} (hd : decode code pc = .ok (.isub, 1)) (k : lw_R cy b L xs z0 z (pc + 1) ls (.int (x - y) :: st) G n1 n2) : lw_R cy b L xs z0 z pc ls (.int y :: .int x :: st) G n1 n2 := by
  intro p l e s m below meth c D H locs la C Z hM hS hl
  exact lv_isub C.1 C.2.1 hd (k C Z hM hS hl)
theorem lw_iand {x y : Int32} (hd : decode code pc = .ok (.iand, 1)) (k : lw_R cy b L xs z0 z (pc + 1) ls (.int (x &&& y) :: st) G n1 n2) : lw_R cy b L xs z0 z pc ls (.int y :: .int x :: st) G n1 n2 := by
  intro p l e s m below meth c D H locs la C Z hM hS hl
  exact lv_iand C.1 C.2.1 hd (k C Z hM hS hl)
theorem lw_i2c {x v : Int32} (hd : decode code pc = .ok (.i2c, 1)) (hv : (x.toUInt32 % 65536).toInt32 = v) (k : lw_R cy b L xs z0 z (pc + 1) ls (.int v :: st) G n1 n2) : lw_R cy b L xs z0 z pc ls (.int x :: st) G n1 n2 := by
  intro p l e s m below meth c D H locs la C Z hM hS hl
  exact lv_i2c C.1 C.2.1 hd hv (k C Z hM hS hl)
theorem lw_icmp_gt {x y : Int32} {off : Int} {tgt : Nat} (hd : decode code pc = .ok (.if_icmp .gt off, 3)) (ht : (pc : Int) + off = (tgt : Int)) (kt : y < x → lw_R cy b L xs z0 z tgt ls st G n1 n2) (kf : ¬ y < x → lw_R cy b L xs z0 z (pc + 3) ls st G n1 n2) : lw_R cy b L xs z0 z pc ls (.int y :: .int x :: st) G n1 n2 := by
  intro p l e s m below meth c D H locs la C Z hM hS hl
  exact lv_icmp_gt C.1 C.2.1 hd ht (fun q => kt q C Z hM hS hl) (fun q => kf q C Z hM hS hl)
theorem lw_icmp_eq {x y : Int32} {off : Int} {tgt : Nat} (hd : decode code pc = .ok (.if_icmp .eq off, 3)) (ht : (pc : Int) + off = (tgt : Int)) (kt : x = y → lw_R cy b L xs z0 z tgt ls st G n1 n2) (kf : ¬ x = y → lw_R cy b L xs z0 z (pc + 3) ls st G n1 n2) : lw_R cy b L xs z0 z pc ls (.int y :: .int x :: st) G n1 n2 := by
  intro p l e s m below meth c D H locs la C Z hM hS hl
  exact lv_icmp_eq C.1 C.2.1 hd ht (fun q => kt q C Z hM hS hl) (fun q => kf q C Z hM hS hl)
theorem lw_tableIn {dflt lo hi : Int} {offs : Array Int} {len : Nat} {x : Int32} {off : Int} {tgt : Nat} (hd : decode code pc = .ok (.tableswitch dflt lo hi offs, len)) (h1 : ¬ x.toInt < lo) (h2 : ¬ hi < x.toInt) (ho : offs[(x.toInt - lo).toNat]? = some off) (ht : (pc : Int) + off = (tgt : Int)) (k : lw_R cy b L xs z0 z tgt ls st G n1 n2) : lw_R cy b L xs z0 z pc ls (.int x :: st) G n1 n2 := by
  intro p l e s m below meth c D H locs la C Z hM hS hl
  exact lv_tableIn C.1 C.2.1 hd h1 h2 ho ht (k C Z hM hS hl)
theorem lw_tableOut {dflt lo hi : Int} {offs : Array Int} {len : Nat} {x : Int32} {tgt : Nat} (hd : decode code pc = .ok (.tableswitch dflt lo hi offs, len)) (h : x.toInt < lo ∨ hi < x.toInt) (ht : (pc : Int) + dflt = (tgt : Int)) (k : lw_R cy b L xs z0 z tgt ls st G n1 n2) : lw_R cy b L xs z0 z pc ls (.int x :: st) G n1 n2 := by
  intro p l e s m below meth c D H locs la C Z hM hS hl
  exact lv_tableOut C.1 C.2.1 hd h ht (k C Z hM hS hl)
theorem lw_sld {j : Nat} (hj : j < L) (hL : L ≤ 2048) (hd : decode code pc = .ok (.iaload, 1)) (k : lw_R cy b L xs z0 z (pc + 1) ls (.int (xs j) :: st) G n1 n2) : lw_R cy b L xs z0 z pc ls (.int (nI j) :: .ref b :: st) G n1 n2 := by
  intro p l e s m below meth c D H locs la C Z hM hS hl
  refine va_sld C.1 C.2.1 C.2.2.2.2.2.2.2.2.1 C.2.2.2.2.2.2.2.2.2 (by have := C.2.2.2.2.2.2.2.2.2; rw [Z] at this; exact Nat.not_le.mpr this) hS (vp_in_nI hj (by omega)) hd ?_
  rw [nI_clamp (by omega)]
  exact k C Z hM hS hl
theorem lw_slen (hd : decode code pc = .ok (.arraylength, 1)) (k : lw_R cy b L xs z0 z (pc + 1) ls (.int (nI L) :: st) G n1 n2) : lw_R cy b L xs z0 z pc ls (.ref b :: st) G n1 n2 := by
  intro p l e s m below meth c D H locs la C Z hM hS hl
  exact va_slen C.1 C.2.1 C.2.2.2.2.2.2.2.2.1 C.2.2.2.2.2.2.2.2.2 (by have := C.2.2.2.2.2.2.2.2.2; rw [Z] at this; exact Nat.not_le.mpr this) hS hd (k C Z hM hS hl)
theorem lw_call {Y' : cc_Y} {idx : Nat} {As rest : List Value} {P : Int32 → cc_G → Prop} {ci N0 b' : Nat} {T : u_T} {fs : List Value} (hC : cc_Cn cy Y' (.ref b' :: As) z G (cc_qi P)) (ok : cc_Ok Y') (hbx : G b' = some (.inr (ci, fs))) (hc : vwCl[ci]? = some (Y'.1.cls, T, N0)) (him : Cond.instanceMethod Y'.1 ∈ cc_GT) (hsl : Cond.selects Y'.1.cls Y'.1 Y'.1 ∈ cc_GT) (hln : Cond.methodLink RL idx Y'.1 ∈ cc_GT) (hn : (parseMethodDescriptor Y'.1.desc).map (fun d => d.parameters.length) = some As.length) (hR : Y'.2.2.2.2.frames + 1 ≤ room_1.frames ∧ 8 + (Y'.2.2.1 + 11) + Y'.2.2.2.2.locals ≤ room_1.locals) (hrm : n1 ≤ room_1.cells ∧ n2 ≤ room_1.slots) (hcat : (rest.map fun v => v.category).sum ≤ 8) (hst : st = As.reverse ++ .ref b' :: rest) (hd : decode code pc = .ok (.invokevirtual idx, 3)) (k : ∀ (r : Int32) (G' : cc_G), P r G' → lw_R cy b L xs z0 z (pc + 3) ls (.int r :: rest) G' n1 n2) : lw_R cy b L xs z0 z pc ls st G n1 n2 := by
  intro p l e s m below meth c D H locs la C Z hM hS hl
  exact vm_callV C.1 C.2.1 C.2.2.1 hl.1 C.2.2.2.2.2.1 C.2.2.2.2.2.2.1 C.2.2.2.2.2.2.2.1.1 hM hS hC ok hbx hc him hsl hln hn hR hrm hcat hst hd (fun v G' H1 locs1 hq hM hS => by
    obtain ⟨r, rfl, hp⟩ := hq
    exact k r G' hp C Z hM hS hl)
theorem lw_new {ci N0 idx : Nat} {CN : String} {T : u_T} {ty0 : Nat → FieldType} {fs : List Value} (hcl : cc_Cl ci CN T N0 ty0) (hl0 : Cond.classLink RL idx CN ∈ cc_GT) (hi : Cond.instantiable CN N0 ∈ cc_GT) (hin : Cond.initialized CN ∈ cc_GT) (hfs : ∀ j, j < N0 → defaultValue (ty0 j) = vp_V fs j) (hc : n1 + 1 ≤ room_1.cells) (hsl : n2 + N0 ≤ room_1.slots) (hd : decode code pc = .ok (.new idx, 3)) (k : ∀ G1 : cc_G, (∀ q : Nat, q ≠ z → G1 q = G q) → G1 z = some (.inr (ci, fs)) → lw_R cy b L xs z0 (z + 1) (pc + 3) ls (.ref z :: st) G1 (n1 + 1) (n2 + N0)) : lw_R cy b L xs z0 z pc ls st G n1 n2 := by
  intro p l e s m below meth c D H locs la C Z hM hS hl
  exact vm_new C.1 C.2.1 C.2.2.2.2.2.2.1 C.2.2.2.2.2.1 C.2.2.2.2.2.2.2.1.1.1 hM hS (by show z0 ≤ z; rw [← Z, ← hM.1]; exact hS.1) hcl hl0 hi hin hfs hc hsl hd (fun H1 hM hS => k _ (fun _ hq => va_up_ne _ _ hq) (va_up_self _ _ _) C Z hM hS hl)
theorem lw_init {Y' : cc_Y} {idx b' zN : Nat} {P : cc_G → Prop} (hC : ci_Cn cy Y' [.ref b'] z G zN P) (ok : ci_Ok Y') (him : Cond.instanceMethod Y'.1 ∈ cc_GT) (hln : Cond.methodLink RL idx Y'.1 ∈ cc_GT) (hn : (parseMethodDescriptor Y'.1.desc).map (fun d => d.parameters.length) = some 0) (hR : Y'.2.2.2.2.frames + 1 ≤ room_1.frames ∧ 8 + (Y'.2.2.1 + 11) + Y'.2.2.2.2.locals ≤ room_1.locals) (hroom : n1 + Y'.2.2.2.2.cells ≤ room_1.cells ∧ n2 + Y'.2.2.2.2.slots ≤ room_1.slots) (hcat : (st.map fun v => v.category).sum ≤ 8) (hd : decode code pc = .ok (.invokespecial idx, 3)) (k : ∀ G' : cc_G, P G' → lw_R cy b L xs z0 zN (pc + 3) ls st G' (n1 + Y'.2.2.2.2.cells) (n2 + Y'.2.2.2.2.slots)) : lw_R cy b L xs z0 z pc ls (.ref b' :: st) G n1 n2 := by
  intro p l e s m below meth c D H locs la C Z hM hS hl
  have hz : z0 ≤ z := by rw [← Z, ← hM.1]; exact hS.1
  have hC' := hC l D (fun q => z0 ≤ q) (fun q hq => Nat.le_trans hz hq)
  refine vm_call (va_runI (As := []) (rest := st) (bytes := Y'.2.1) (maxL := Y'.2.2.1) ⟨C.1, C.2.1, C.2.2.1, C.2.2.2.2.2.1, C.2.2.2.2.2.2.1⟩ hC' ⟨⟨rfl, rfl, hR.1, hR.2, pay_in C.2.2.2.2.2.2.1 (ci_good ok), ?_, ?_, C.2.2.2.2.2.2.1 _ ok.2.1, ok.2.2.2.1, cc_len hn, C.2.2.2.2.2.2.1 _ hln⟩, ok.2.2.2.2.1, C.2.2.2.2.2.2.1 _ him⟩ ⟨ci_blind, fun U hU hW => ⟨rfl, by rw [hU]; exact hM, C.2.2.2.2.2.2.2.1.warm hW⟩⟩ rfl rfl hl.1 rfl (lv_room hcat) hd hroom) hS (fun v G' H1 locs1 hq hM1 hS1 => ?_)
  · rw [← ok.2.2.2.2.2]; exact List.mem_cons_self
  · rw [← ok.2.2.2.2.2]; exact C.2.2.2.2.2.2.1 _ ok.1
  · obtain ⟨rfl, hp⟩ := hq
    exact k G' hp C Z hM1 hS1 hl
theorem lw_end (h1 : n1 ≤ 600000) (h2 : n2 ≤ 7302250) (hd : decode code pc = .ok (.ireturn, 1)) : lw_R cy b L xs z0 z pc ls [.int 1] G n1 n2 := by
  intro p l e s m below meth c D H locs la C Z hM hS hl
  refine va_forget (fun q hq => by rw [Z]; exact hS.2.2 q hq) (W.widen h1 h2 ?_)
  exact lw_ret C.1 C.2.1 C.2.2.2.1 C.2.2.2.2.1 hd
theorem lw_len {k : Nat} (hL : L ≤ 2048) (hk : 4 * k ≤ 2100) (h : ¬ nI L - 4 < nI (4 * k)) : 4 * k + 4 ≤ L := by
  rcases Nat.lt_or_ge L 4 with q | q
  · exfalso
    refine h (Int32.lt_of_lt_of_le ?_ (nI_pos' (n := 4 * k) (by omega)))
    match L, q with
    | 0, _ => decide
    | 1, _ => decide
    | 2, _ => decide
    | 3, _ => decide
  · have e : nI L - 4 = nI (L - 4) := by
      have e2 : nI L = nI (L - 4) + 4 := by
        rw [show (4 : Int32) = nI 4 from rfl, nI_add, Nat.sub_add_cancel q]
      rw [e2]
      exact Int32.add_sub_cancel _ _
    rw [e] at h
    have := (nI_leI (by omega) (by omega)).mp (Int32.not_lt.mp h)
    omega
end LWR
