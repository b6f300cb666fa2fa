/-! cells that are made -/
theorem cc_M.born {D : va_G} {A : Nat → Prop} {z : Nat} {G : cc_G} {H H1 : Heap} {e : va_E} (h : cc_M D A z G H) (hA : A z) (he : va_at D vwCl (z, e) H1) (hs : H1.size = H.size + 1) (ho : ∀ q : Nat, q < H.size → H1[q]? = H[q]?) : cc_M D A (z + 1) (va_up G z (some e)) H1 := by
  refine ⟨by rw [hs, h.1], fun x e' hx => ?_⟩
  by_cases hq : x = z
  · subst hq
    rw [va_up_self] at hx
    cases hx
    exact ⟨he, hA⟩
  · rw [va_up_ne _ _ hq] at hx
    obtain ⟨h1, h2⟩ := h.2 x e' hx
    exact ⟨h1.kept (ho x h1.lt), h2⟩
theorem va_S.born {A : Nat → Prop} {H0 H H1 : Heap} {locs : List Loc} (h : va_S A H0 H locs) (hs : H1.size = H.size + 1) (ho : ∀ q : Nat, q < H.size → H1[q]? = H[q]?) : va_S A H0 H1 locs :=
  ⟨Nat.le_trans h.1 (by omega), fun q h1 h2 => (ho q (Nat.lt_of_lt_of_le h1 h.1)).trans (h.2.1 q h1 h2), h.2.2⟩
section VMN
variable {p : Program} {l : Launch} {e : Env} {R : Room} {s : State} {m : MethodId} {args : Array Value} {below : List Frame} {meth : Method} {c : Code} {H : Heap} {locs : List Loc} {cells slots : Nat} {Q : State → Prop}
variable {cc : ByteArray} {pc : Nat} {ls : Array Slot} {rest : List Value} {D : va_G} {A : Nat → Prop} {a : Nat} {cy : Nat → ClassId} {tys : List (ClassId × FieldType)} {H0 : Heap} {z : Nat} {G : cc_G}
theorem vm_new (hexec : p.tables.exec = Jvm.exec) (hb : c.code = cc) {own C : String} {T : u_T} {N ci index : Nat} {ty0 : Nat → FieldType} (hg : ∀ w ∈ cc_GT, w.before args s = true) (hown : s.vm.findClass own = some m.cls) (hK : va_K D vwCl tys s) (hM : cc_M D A z G H) (hS : va_S A H0 H locs) (hA : A z) (hcl : cc_Cl ci C T N ty0) (hl : Cond.classLink own index C ∈ cc_GT) (hi : Cond.instantiable C N ∈ cc_GT) (hin : Cond.initialized C ∈ cc_GT) {fs : List Value} (hfs : ∀ j, j < N → defaultValue (ty0 j) = vp_V fs j) (hc : cells + 1 ≤ R.cells) (hsl : slots + N ≤ R.slots) (hdg : decode cc pc = .ok (.new index, 3)) (kk : ∀ H1 : Heap, cc_M D A (z + 1) (va_up G z (some (.inr (ci, fs)))) H1 → va_S A H0 H1 locs → W p l e R s m args below meth c H1 locs (cells + 1) (slots + N) Q (F0 m (pc + 3) ls (.ref z :: rest))) : W p l e R s m args below meth c H locs cells slots Q (F0 m pc ls rest) := by
  obtain ⟨hc0, hin0, hty, hnm⟩ := hcl
  have hkn := hK.1 ci _ hc0
  obtain ⟨hKS, hfc, -⟩ := hkn
  refine W.newcK hexec hb (n := N) hown (hg _ hl) (hg _ hi) (hg _ hin) rfl hdg hc hsl hfc hM.1 (fun H' kC hkC hbl hz ho => ?_)
  exact kk H' (hM.born hA ⟨_, hc0, (u_born ty0 hg hin0 (hK.1 ci _ hc0) hkC hbl hty).to hfs⟩ (by rw [hz, hM.1]) (fun q hq => ho q (by rw [← hM.1]; exact hq))) (hS.born (by rw [hz, hM.1]) (fun q hq => ho q (by rw [← hM.1]; exact hq)))
theorem vm_putF (hexec : p.tables.exec = Jvm.exec) (hb : c.code = cc) {own C : String} {T : u_T} {N ci index : Nat} {ty0 : Nat → FieldType} (hg : ∀ w ∈ cc_GT, w.before args s = true) (hown : s.vm.findClass own = some m.cls) (hK : va_K D vwCl tys s) (hM : cc_M D A z G H) (hS0 : va_S A H0 H locs) {fs : List Value} (he : G a = some (.inr (ci, fs))) (hcl : cc_Cl ci C T N ty0) (k : Nat) (hk : k < N) (hl : Cond.fieldLink own index (T k).1 (T k).2.1 (T k).2.2.1 ∈ cc_GT) (hfin : (T k).2.2.2 = true) (hin2 : meth.name = "<init>") (hdecl : (T k).1 = own) {ty : FieldType} {v : Value} (hd : parseFieldDescriptor (T k).2.2.1 = some ty) (hn : narrow ty v = v) (hfit : fits ty v = true) (hlen : k < fs.length) (hdg : decode cc pc = .ok (.putfield index, 3)) (kk : ∀ (H1 : Heap) (locs1 : List Loc), cc_M D A z (va_up G a (some (.inr (ci, fs.set k v)))) H1 → va_S A H0 H1 locs1 → W p l e R s m args below meth c H1 locs1 cells slots Q (F0 m (pc + 3) ls rest)) : W p l e R s m args below meth c H locs cells slots Q (F0 m pc ls (v :: .ref a :: rest)) := by
  obtain ⟨hc, hin, hty, hnm⟩ := hcl
  have hap := va_apart (own := own) hg hin ty0 hty hnm hK hc
  obtain ⟨hat, hAa⟩ := hM.2 a _ he
  obtain ⟨r, h1, cell, q1, q2, q3, q4⟩ := hat
  have hr : r = (C, T, N) := Option.some.inj (h1.symm.trans hc)
  subst hr
  obtain ⟨hS, hfc, kC, hkC, hkind⟩ := hK.1 ci _ hc
  obtain ⟨cf, kf, fi, f, hi, hsl⟩ := hS k hk
  have hlay := hg _ (hin _ (u_in_lay hk))
  unfold u_lay at hlay
  rw [if_pos hfin] at hlay
  have hst := (u_facts hfc hkC (u_lays hg hin hk) hi).1
  have hcf : m.cls = cf := by
    obtain ⟨w, w1, c', w2, w3, w4, -, -, hf', -, -, -, hown2, -⟩ := Cond.laysFinal_spec hlay
    have e1 : cf = c' := by
      have := hi.symm.trans hf'
      exact (Prod.mk.inj (Option.some.inj this)).1
    rw [e1]
    rw [hdecl] at hown2
    exact Option.some.inj (hown.symm.trans hown2)
  have h6 := u_fits hfc hkC hkind (Or.inr hlay) hi hd hn hfit
  refine W.putFinK hexec hb hown (hg _ hl) hi hst hcf hin2 (by rw [q2]; exact h6) q1 q3 (by rw [hsl]; exact k2_hasslot (q4 k hk)) rfl rfl hdg fun H' e1 e2 e3 => ?_
  rw [hsl] at e1 ⊢
  exact kk H' _ (hM.put hAa ⟨_, hc, t_OB.to (V := updV (vp_V fs) k v) ⟨_, e1, q2, q3, t_set q4 hap hk v⟩ (fun j _ => vp_updV_set hlen v j)⟩ e2 e3) (hS0.put e2 e3 hAa)
theorem vm_newa_int (hexec : p.tables.exec = Jvm.exec) (hb : c.code = cc) (hg : ∀ w ∈ cc_GT, w.before args s = true) (hK : va_K D vwCl (cc_T cy) s) (hM : cc_M D A z G H) (hS : va_S A H0 H locs) (hA : A z) {n : Int32} {N : Nat} (h0 : ¬ n < 0) (hn : n.toNatClampNeg = N) (hbig : N * 4 ≤ 536870912) (hc : cells + 1 ≤ R.cells) (hsl : slots + N ≤ R.slots) (hdg : decode cc pc = .ok (.newarray .int, 2)) (kk : ∀ H1 : Heap, cc_M D A (z + 1) (va_up G z (some (.inl (cy 1, N, .inl (fun _ => 0))))) H1 → va_S A H0 H1 locs → W p l e R s m args below meth c H1 locs (cells + 1) (slots + N) Q (F0 m (pc + 2) ls (.ref z :: rest))) : W p l e R s m args below meth c H locs cells slots Q (F0 m pc ls (.int n :: rest)) := by
  refine va_newaK (atype := .int) hexec hb (hg _ ac_int) (g := F0 m pc ls (.int n :: rest)) rfl hdg rfl h0 hn (Nat.le_trans (Nat.mul_le_mul_left N (show componentBytes (newarray.typeOf .int) ≤ 4 by decide)) hbig) hc hsl hM.1 (fun H' cA e1 hz ho harr hf => ?_)
  have hcA : cA = cy 1 := by
    have h9 : s.vm.findClass ("[" ++ (FieldType.int).toString) = some (cy 1) := (hK.2 1 _ rfl).2
    exact Option.some.inj (hf.symm.trans h9)
  subst hcA
  exact kk H' (hM.born hA (show H'[z]? = some (vp_cell (cy 1) (N, .inl (fun _ => 0))) from e1) (by rw [hz, hM.1]) (fun q hq => ho q (by rw [← hM.1]; exact hq))) (hS.born (by rw [hz, hM.1]) (fun q hq => ho q (by rw [← hM.1]; exact hq)))
theorem vm_newa_char (hexec : p.tables.exec = Jvm.exec) (hb : c.code = cc) (hg : ∀ w ∈ cc_GT, w.before args s = true) (hK : va_K D vwCl (cc_T cy) s) (hM : cc_M D A z G H) (hS : va_S A H0 H locs) (hA : A z) {n : Int32} {N : Nat} (h0 : ¬ n < 0) (hn : n.toNatClampNeg = N) (hbig : N * 4 ≤ 536870912) (hc : cells + 1 ≤ R.cells) (hsl : slots + N ≤ R.slots) (hdg : decode cc pc = .ok (.newarray .char, 2)) (kk : ∀ H1 : Heap, cc_M D A (z + 1) (va_up G z (some (.inl (cy 0, N, .inl (fun _ => 0))))) H1 → va_S A H0 H1 locs → W p l e R s m args below meth c H1 locs (cells + 1) (slots + N) Q (F0 m (pc + 2) ls (.ref z :: rest))) : W p l e R s m args below meth c H locs cells slots Q (F0 m pc ls (.int n :: rest)) := by
  refine va_newaK (atype := .char) hexec hb (hg _ ac_char) (g := F0 m pc ls (.int n :: rest)) rfl hdg rfl h0 hn (Nat.le_trans (Nat.mul_le_mul_left N (show componentBytes (newarray.typeOf .char) ≤ 4 by decide)) hbig) hc hsl hM.1 (fun H' cA e1 hz ho harr hf => ?_)
  have hcA : cA = cy 0 := by
    have h9 : s.vm.findClass ("[" ++ (FieldType.char).toString) = some (cy 0) := (hK.2 0 _ rfl).2
    exact Option.some.inj (hf.symm.trans h9)
  subst hcA
  exact kk H' (hM.born hA (show H'[z]? = some (vp_cell (cy 0) (N, .inl (fun _ => 0))) from e1) (by rw [hz, hM.1]) (fun q hq => ho q (by rw [← hM.1]; exact hq))) (hS.born (by rw [hz, hM.1]) (fun q hq => ho q (by rw [← hM.1]; exact hq)))
theorem vm_newa_boolean (hexec : p.tables.exec = Jvm.exec) (hb : c.code = cc) (hg : ∀ w ∈ cc_GT, w.before args s = true) (hK : va_K D vwCl (cc_T cy) s) (hM : cc_M D A z G H) (hS : va_S A H0 H locs) (hA : A z) {n : Int32} {N : Nat} (h0 : ¬ n < 0) (hn : n.toNatClampNeg = N) (hbig : N * 4 ≤ 536870912) (hc : cells + 1 ≤ R.cells) (hsl : slots + N ≤ R.slots) (hdg : decode cc pc = .ok (.newarray .boolean, 2)) (kk : ∀ H1 : Heap, cc_M D A (z + 1) (va_up G z (some (.inl (cy 2, N, .inl (fun _ => 0))))) H1 → va_S A H0 H1 locs → W p l e R s m args below meth c H1 locs (cells + 1) (slots + N) Q (F0 m (pc + 2) ls (.ref z :: rest))) : W p l e R s m args below meth c H locs cells slots Q (F0 m pc ls (.int n :: rest)) := by
  refine va_newaK (atype := .boolean) hexec hb (hg _ ac_boolean) (g := F0 m pc ls (.int n :: rest)) rfl hdg rfl h0 hn (Nat.le_trans (Nat.mul_le_mul_left N (show componentBytes (newarray.typeOf .boolean) ≤ 4 by decide)) hbig) hc hsl hM.1 (fun H' cA e1 hz ho harr hf => ?_)
  have hcA : cA = cy 2 := by
    have h9 : s.vm.findClass ("[" ++ (FieldType.boolean).toString) = some (cy 2) := (hK.2 2 _ rfl).2
    exact Option.some.inj (hf.symm.trans h9)
  subst hcA
  exact kk H' (hM.born hA (show H'[z]? = some (vp_cell (cy 2) (N, .inl (fun _ => 0))) from e1) (by rw [hz, hM.1]) (fun q hq => ho q (by rw [← hM.1]; exact hq))) (hS.born (by rw [hz, hM.1]) (fun q hq => ho q (by rw [← hM.1]; exact hq)))
theorem vm_anew_RX0 (hexec : p.tables.exec = Jvm.exec) (hb : c.code = cc) {own : String} {index : Nat} (hg : ∀ w ∈ cc_GT, w.before args s = true) (hown : s.vm.findClass own = some m.cls) (hl : Cond.classLink own index RX0 ∈ cc_GT) (hao : va_AO RX0 s) (hK : va_K D vwCl (cc_T cy) s) (hM : cc_M D A z G H) (hS : va_S A H0 H locs) (hA : A z) {n : Int32} {N : Nat} (h0 : ¬ n < 0) (hn : n.toNatClampNeg = N) (hbig : N * 4 ≤ 536870912) (hc : cells + 1 ≤ R.cells) (hsl : slots + N ≤ R.slots) (hdg : decode cc pc = .ok (.anewarray index, 3)) (kk : ∀ H1 : Heap, cc_M D A (z + 1) (va_up G z (some (.inl (cy 3, N, .inr (.inr (.inr (.inr (fun _ => none)))))))) H1 → va_S A H0 H1 locs → W p l e R s m args below meth c H1 locs (cells + 1) (slots + N) Q (F0 m (pc + 3) ls (.ref z :: rest))) : W p l e R s m args below meth c H locs cells slots Q (F0 m pc ls (.int n :: rest)) := by
  subst hn
  refine W.anew hexec hb hown (hg _ hl) hao.use (g := F0 m pc ls (.int n :: rest)) rfl hdg rfl h0 hbig hc hsl (fun cA kA comp hf hkA hkind hcomp => ?_)
  have hcA : cA = cy 3 := by
    obtain ⟨_, _, -, -, -, h9⟩ := (hK.2 3 _ rfl).2
    exact Option.some.inj (hf.symm.trans h9)
  subst hcA
  have hz := hM.1
  rw [hz]
  have hlt : ∀ q : Nat, q < H.size → (H.push { cls := cy 3, slots := Array.replicate n.toNatClampNeg Value.null })[q]? = H[q]? := fun q hq => by
    rw [Array.getElem?_push, if_neg (by omega)]
  refine kk _ (hM.born hA ?_ (by simp) hlt) (hS.born (by simp) hlt)
  show (H.push _)[z]? = some (vp_cell _ _)
  rw [vp_cell_q, ← hz, Array.getElem?_push, if_pos rfl]
  congr 1
  unfold arrV
  congr 1
  apply Array.ext
  · simp
  · intro i h1 h2
    simp [va_rf]
theorem vm_anew_RX1 (hexec : p.tables.exec = Jvm.exec) (hb : c.code = cc) {own : String} {index : Nat} (hg : ∀ w ∈ cc_GT, w.before args s = true) (hown : s.vm.findClass own = some m.cls) (hl : Cond.classLink own index RX1 ∈ cc_GT) (hao : va_AO RX1 s) (hK : va_K D vwCl (cc_T cy) s) (hM : cc_M D A z G H) (hS : va_S A H0 H locs) (hA : A z) {n : Int32} {N : Nat} (h0 : ¬ n < 0) (hn : n.toNatClampNeg = N) (hbig : N * 4 ≤ 536870912) (hc : cells + 1 ≤ R.cells) (hsl : slots + N ≤ R.slots) (hdg : decode cc pc = .ok (.anewarray index, 3)) (kk : ∀ H1 : Heap, cc_M D A (z + 1) (va_up G z (some (.inl (cy 4, N, .inr (.inr (.inr (.inr (fun _ => none)))))))) H1 → va_S A H0 H1 locs → W p l e R s m args below meth c H1 locs (cells + 1) (slots + N) Q (F0 m (pc + 3) ls (.ref z :: rest))) : W p l e R s m args below meth c H locs cells slots Q (F0 m pc ls (.int n :: rest)) := by
  subst hn
  refine W.anew hexec hb hown (hg _ hl) hao.use (g := F0 m pc ls (.int n :: rest)) rfl hdg rfl h0 hbig hc hsl (fun cA kA comp hf hkA hkind hcomp => ?_)
  have hcA : cA = cy 4 := by
    obtain ⟨_, _, -, -, -, h9⟩ := (hK.2 4 _ rfl).2
    exact Option.some.inj (hf.symm.trans h9)
  subst hcA
  have hz := hM.1
  rw [hz]
  have hlt : ∀ q : Nat, q < H.size → (H.push { cls := cy 4, slots := Array.replicate n.toNatClampNeg Value.null })[q]? = H[q]? := fun q hq => by
    rw [Array.getElem?_push, if_neg (by omega)]
  refine kk _ (hM.born hA ?_ (by simp) hlt) (hS.born (by simp) hlt)
  show (H.push _)[z]? = some (vp_cell _ _)
  rw [vp_cell_q, ← hz, Array.getElem?_push, if_pos rfl]
  congr 1
  unfold arrV
  congr 1
  apply Array.ext
  · simp
  · intro i h1 h2
    simp [va_rf]
theorem vm_anew_RX2 (hexec : p.tables.exec = Jvm.exec) (hb : c.code = cc) {own : String} {index : Nat} (hg : ∀ w ∈ cc_GT, w.before args s = true) (hown : s.vm.findClass own = some m.cls) (hl : Cond.classLink own index RX2 ∈ cc_GT) (hao : va_AO RX2 s) (hK : va_K D vwCl (cc_T cy) s) (hM : cc_M D A z G H) (hS : va_S A H0 H locs) (hA : A z) {n : Int32} {N : Nat} (h0 : ¬ n < 0) (hn : n.toNatClampNeg = N) (hbig : N * 4 ≤ 536870912) (hc : cells + 1 ≤ R.cells) (hsl : slots + N ≤ R.slots) (hdg : decode cc pc = .ok (.anewarray index, 3)) (kk : ∀ H1 : Heap, cc_M D A (z + 1) (va_up G z (some (.inl (cy 5, N, .inr (.inr (.inr (.inr (fun _ => none)))))))) H1 → va_S A H0 H1 locs → W p l e R s m args below meth c H1 locs (cells + 1) (slots + N) Q (F0 m (pc + 3) ls (.ref z :: rest))) : W p l e R s m args below meth c H locs cells slots Q (F0 m pc ls (.int n :: rest)) := by
  subst hn
  refine W.anew hexec hb hown (hg _ hl) hao.use (g := F0 m pc ls (.int n :: rest)) rfl hdg rfl h0 hbig hc hsl (fun cA kA comp hf hkA hkind hcomp => ?_)
  have hcA : cA = cy 5 := by
    obtain ⟨_, _, -, -, -, h9⟩ := (hK.2 5 _ rfl).2
    exact Option.some.inj (hf.symm.trans h9)
  subst hcA
  have hz := hM.1
  rw [hz]
  have hlt : ∀ q : Nat, q < H.size → (H.push { cls := cy 5, slots := Array.replicate n.toNatClampNeg Value.null })[q]? = H[q]? := fun q hq => by
    rw [Array.getElem?_push, if_neg (by omega)]
  refine kk _ (hM.born hA ?_ (by simp) hlt) (hS.born (by simp) hlt)
  show (H.push _)[z]? = some (vp_cell _ _)
  rw [vp_cell_q, ← hz, Array.getElem?_push, if_pos rfl]
  congr 1
  unfold arrV
  congr 1
  apply Array.ext
  · simp
  · intro i h1 h2
    simp [va_rf]
theorem vm_obj (hexec : p.tables.exec = Jvm.exec) (hb : c.code = cc) (hml : c.maxLocals = ls.size) {own : String} {index : Nat} (hg : ∀ w ∈ cc_GT, w.before args s = true) (hown : s.vm.findClass own = some m.cls) (hl : Cond.methodLink own index ⟨"java/lang/Object", "<init>", "()V"⟩ ∈ cc_GT) (hdg : decode cc pc = .ok (.invokespecial index, 3)) (h1 : 1 ≤ R.frames) (h2 : (rest.map fun v => v.category).sum + 12 ≤ R.locals) (kk : W p l e R s m args below meth c H locs cells slots Q (F0 m (pc + 3) ls rest)) : W p l e R s m args below meth c H locs cells slots Q (F0 m pc ls (.ref a :: rest)) := by
  refine W.objInit hexec hb hown (idx := index) (hg _ hl) (hg _ im_objinit) (hg _ cd_objinit) (g := F0 m pc ls (.ref a :: rest)) rfl hml.symm rfl hdg h1 (by show 2 * 0 + _ + _ ≤ _; omega) ?_
  exact kk
end VMN
