/-! A world as a map from addresses to cells; a walk (cc_R) with the machine's context hidden; contracts over it. -/
abbrev cc_G : Type := Nat → Option va_E
def cc_M (D : va_G) (A : Nat → Prop) (z : Nat) (G : cc_G) (H : Heap) : Prop := H.size = z ∧ ∀ (a : Nat) (e : va_E), G a = some e → va_at D vwCl (a, e) H ∧ A a
theorem cc_M.one {D : va_G} {A : Nat → Prop} {z : Nat} {G : cc_G} {H : Heap} {a : Nat} {e : va_E} (h : cc_M D A z G H) (hG : G a = some e) : va_P D vwCl [(a, e)] H := by
  intro k q hk
  match k, hk with
  | 0, hk => cases hk; exact (h.2 a e hG).1
  | k + 1, hk => simp at hk
theorem cc_M.put {D : va_G} {A : Nat → Prop} {z : Nat} {G : cc_G} {H H1 : Heap} {a : Nat} {e : va_E} (h : cc_M D A z G H) (hA : A a) (he : va_at D vwCl (a, e) H1) (z1 : H1.size = H.size) (oq : ∀ q : Nat, q ≠ a → H1[q]? = H[q]?) : cc_M D A z (va_up G a (some e)) H1 := by
  refine ⟨z1.trans h.1, fun x e' hx => ?_⟩
  by_cases hq : x = a
  · subst hq
    rw [va_up_self] at hx
    cases hx
    exact ⟨he, hA⟩
  · rw [va_up_ne _ _ hq] at hx
    obtain ⟨h1, h2⟩ := h.2 x e' hx
    exact ⟨h1.kept (oq x hq), h2⟩
def cc_Cl (ci : Nat) (C : String) (T : u_T) (N : Nat) (ty : Nat → FieldType) : Prop := vwCl[ci]? = some (C, T, N) ∧ (∀ w ∈ u_ws C T N, w ∈ cc_GT) ∧ (∀ k, k < N → parseFieldDescriptor (T k).2.2.1 = some (ty k)) ∧ (∀ a, a < N → ∀ b, b < N → a ≠ b → (T a).2.1 ≠ (T b).2.1)
theorem cc_c0 : cc_Cl 0 RX0 TX0 6 tyX0 := ⟨rfl, uw_X0, tyX0_ok, nmX0⟩
theorem cc_c1 : cc_Cl 1 RX1 TX1 13 tyX1 := ⟨rfl, uw_X1, tyX1_ok, nmX1⟩
theorem cc_c2 : cc_Cl 2 RX2 TX2 7 tyX2 := ⟨rfl, uw_X2, tyX2_ok, nmX2⟩
theorem cc_c3 : cc_Cl 3 RX3 TX3 8 tyX3 := ⟨rfl, uw_X3, tyX3_ok, nmX3⟩
theorem cc_c4 : cc_Cl 4 RX4 TX4 11 tyX4 := ⟨rfl, uw_X4, tyX4_ok, nmX4⟩
/-- the array classes: char, int, boolean, of boxes, of lanes, of queues -/
abbrev cc_T (cy : Nat → ClassId) : List (ClassId × FieldType) := [(cy 0, .char), (cy 1, .int), (cy 2, .boolean), (cy 3, .object RX0), (cy 4, .object RX1), (cy 5, .object RX2)]
def cc_K (D : va_G) (cy : Nat → ClassId) (U : State) : Prop := va_K D vwCl (cc_T cy) U ∧ ∀ w ∈ cc_NT, va_Nw w U
theorem cc_nest {w : Cond} (h : w ∈ cc_NT) : (∃ a i b n d x, w = .fieldLinkNest a i b n d x) ∨ ∃ a i y x, w = .methodLinkNest a i y x := by
  have h2 := (List.mem_filter.mp h).2
  cases w <;> first | exact Or.inl ⟨_, _, _, _, _, _, rfl⟩ | exact Or.inr ⟨_, _, _, _, rfl⟩ | (simp [cc_isNest] at h2)
theorem cc_K.warm {D : va_G} {cy : Nat → ClassId} {s U : State} (hW : s.WarmedH U.vm) (h : cc_K D cy s) : cc_K D cy U := by
  refine ⟨va_K.moved hW.alike h.1, fun w hw => ?_⟩
  rcases cc_nest hw with ⟨a, i, b, n, d, x, rfl⟩ | ⟨a, i, y, x, rfl⟩
  · exact va_Nw.warmF hW (h.2 _ hw)
  · exact va_Nw.warmM hW (h.2 _ hw)
theorem cc_K.same {D : va_G} {cy : Nat → ClassId} {u U : State} (hv : u.vm = U.vm) (h : cc_K D cy u) : cc_K D cy U := by
  refine ⟨va_K.moved (by rw [hv]; exact Vm.Alike.refl _) h.1, fun w hw => ?_⟩
  rcases cc_nest hw with ⟨a, i, b, n, d, x, rfl⟩ | ⟨a, i, y, x, rfl⟩
  · exact va_Nw.same rfl hv (h.2 _ hw)
  · exact va_Nw.same rfl hv (h.2 _ hw)
section VMR
variable {p : Program} {l : Launch} {e : Env} {R : Room} {s : State} {m : MethodId} {args : Array Value} {below : List Frame} {meth : Method} {c : Code} {H : Heap} {locs : List Loc} {cells slots : Nat} {Q : State → Prop}
variable {cc : ByteArray} {pc : Nat} {ls : Array Slot} {rest : List Value} {D : va_G} {A : Nat → Prop} {a : Nat} {tys : List (ClassId × FieldType)} {H0 : Heap} {z : Nat} {G : cc_G}
theorem vm_get (hexec : p.tables.exec = Jvm.exec) (hb : c.code = cc) {own C : String} {T : u_T} {N ci index : Nat} {ty0 : Nat → FieldType} (hg : ∀ w ∈ cc_GT, w.before args s = true) (hown : s.vm.findClass own = some m.cls) (hK : va_K D vwCl tys s) (hM : cc_M D A z G H) {fs : List Value} (he : G a = some (.inr (ci, fs))) (hcl : cc_Cl ci C T N ty0) (k : Nat) (hk : k < N) (hl : Cond.fieldLink own index (T k).1 (T k).2.1 (T k).2.2.1 ∈ cc_GT) {v : Value} (hv : fs[k]? = some v) (hdg : decode cc pc = .ok (.getfield index, 3)) (kk : W p l e R s m args below meth c H locs cells slots Q (F0 m (pc + 3) ls (v :: rest))) : W p l e R s m args below meth c H locs cells slots Q (F0 m pc ls (.ref a :: rest)) :=
  va_get hexec hb hg hcl.2.1 hown hK (hM.one he) 0 rfl hcl.1 k hk (hg _ hl) (fun _ h => h) hv hdg kk
theorem vm_getN (hexec : p.tables.exec = Jvm.exec) (hb : c.code = cc) {own C : String} {host : String} {T : u_T} {N ci index : Nat} {ty0 : Nat → FieldType} (hg : ∀ w ∈ cc_GT, w.before args s = true) (hown : s.vm.findClass own = some m.cls) (hK : va_K D vwCl tys s) (hM : cc_M D A z G H) {fs : List Value} (he : G a = some (.inr (ci, fs))) (hcl : cc_Cl ci C T N ty0) (k : Nat) (hk : k < N) (hl : Cond.fieldLinkNest own index (T k).1 (T k).2.1 (T k).2.2.1 host ∈ cc_NT) (hN : ∀ w ∈ cc_NT, va_Nw w s) {v : Value} (hv : fs[k]? = some v) (hdg : decode cc pc = .ok (.getfield index, 3)) (kk : W p l e R s m args below meth c H locs cells slots Q (F0 m (pc + 3) ls (v :: rest))) : W p l e R s m args below meth c H locs cells slots Q (F0 m pc ls (.ref a :: rest)) :=
  va_getN hexec hb hg hcl.2.1 hown hK (hM.one he) 0 rfl hcl.1 k hk (va_Nw.use rfl (hN _ hl)) (fun _ h => h) hv hdg kk
theorem vm_put (hexec : p.tables.exec = Jvm.exec) (hb : c.code = cc) {own C : String} {T : u_T} {N ci index : Nat} {ty0 : Nat → FieldType} (hg : ∀ w ∈ cc_GT, w.before args s = true) (hown : s.vm.findClass own = some m.cls) (hK : va_K D vwCl tys s) (hM : cc_M D A z G H) (hS0 : va_S A H0 H locs) {fs : List Value} (he : G a = some (.inr (ci, fs))) (hcl : cc_Cl ci C T N ty0) (k : Nat) (hk : k < N) (hl : Cond.fieldLink own index (T k).1 (T k).2.1 (T k).2.2.1 ∈ cc_GT) (hfin : (T k).2.2.2 = false) {ty : FieldType} {v : Value} (hd : parseFieldDescriptor (T k).2.2.1 = some ty) (hn : narrow ty v = v) (hfit : fits ty v = true) (hlen : k < fs.length) (hdg : decode cc pc = .ok (.putfield index, 3)) (kk : ∀ (H1 : Heap) (locs1 : List Loc), cc_M D A z (va_up G a (some (.inr (ci, fs.set k v)))) H1 → va_S A H0 H1 locs1 → W p l e R s m args below meth c H1 locs1 cells slots Q (F0 m (pc + 3) ls rest)) : W p l e R s m args below meth c H locs cells slots Q (F0 m pc ls (v :: .ref a :: rest)) := by
  obtain ⟨hc, hin, hty, hnm⟩ := hcl
  have hap := va_apart (own := own) hg hin ty0 hty hnm hK hc
  obtain ⟨hat, hAa⟩ := hM.2 a _ he
  obtain ⟨r, h1, cell, q1, q2, q3, q4⟩ := hat
  have hr : r = (C, T, N) := Option.some.inj (h1.symm.trans hc)
  subst hr
  obtain ⟨hS, hfc, kC, hkC, hkind⟩ := hK.1 ci _ hc
  obtain ⟨cf, kf, fi, f, hi, hsl⟩ := hS k hk
  have hlay := hg _ (hin _ (u_in_lay hk))
  unfold u_lay at hlay
  rw [if_neg (by rw [hfin]; decide)] at hlay
  have hst := (u_facts hfc hkC (u_lays hg hin hk) hi).1
  have h6 := u_store hfc hkC hkind hlay hi hd hn hfit
  refine W.putK hexec hb (f := f) ⟨hown, hg _ hl, ⟨_, _, _, hi⟩, hst⟩ (by rw [q2]; exact h6) q1 q3 (by rw [hsl]; exact k2_hasslot (q4 k hk)) rfl rfl hdg fun H' e1 e2 e3 => ?_
  rw [hsl] at e1 ⊢
  exact kk H' _ (hM.put hAa ⟨_, hc, t_OB.to (V := updV (vp_V fs) k v) ⟨_, e1, q2, q3, t_set q4 hap hk v⟩ (fun j _ => vp_updV_set hlen v j)⟩ e2 e3) (hS0.put e2 e3 hAa)
theorem vm_putN (hexec : p.tables.exec = Jvm.exec) (hb : c.code = cc) {own C : String} {host : String} {T : u_T} {N ci index : Nat} {ty0 : Nat → FieldType} (hg : ∀ w ∈ cc_GT, w.before args s = true) (hown : s.vm.findClass own = some m.cls) (hK : va_K D vwCl tys s) (hM : cc_M D A z G H) (hS0 : va_S A H0 H locs) {fs : List Value} (he : G a = some (.inr (ci, fs))) (hcl : cc_Cl ci C T N ty0) (k : Nat) (hk : k < N) (hl : Cond.fieldLinkNest own index (T k).1 (T k).2.1 (T k).2.2.1 host ∈ cc_NT) (hN : ∀ w ∈ cc_NT, va_Nw w s) (hfin : (T k).2.2.2 = false) {ty : FieldType} {v : Value} (hd : parseFieldDescriptor (T k).2.2.1 = some ty) (hn : narrow ty v = v) (hfit : fits ty v = true) (hlen : k < fs.length) (hdg : decode cc pc = .ok (.putfield index, 3)) (kk : ∀ (H1 : Heap) (locs1 : List Loc), cc_M D A z (va_up G a (some (.inr (ci, fs.set k v)))) H1 → va_S A H0 H1 locs1 → W p l e R s m args below meth c H1 locs1 cells slots Q (F0 m (pc + 3) ls rest)) : W p l e R s m args below meth c H locs cells slots Q (F0 m pc ls (v :: .ref a :: rest)) := by
  obtain ⟨hc, hin, hty, hnm⟩ := hcl
  have hap := va_apart (own := own) hg hin ty0 hty hnm hK hc
  obtain ⟨hat, hAa⟩ := hM.2 a _ he
  obtain ⟨r, h1, cell, q1, q2, q3, q4⟩ := hat
  have hr : r = (C, T, N) := Option.some.inj (h1.symm.trans hc)
  subst hr
  obtain ⟨hS, hfc, kC, hkC, hkind⟩ := hK.1 ci _ hc
  obtain ⟨cf, kf, fi, f, hi, hsl⟩ := hS k hk
  have hlay := hg _ (hin _ (u_in_lay hk))
  unfold u_lay at hlay
  rw [if_neg (by rw [hfin]; decide)] at hlay
  have hst := (u_facts hfc hkC (u_lays hg hin hk) hi).1
  have h6 := u_store hfc hkC hkind hlay hi hd hn hfit
  refine va_WputK hexec hb (f := f) hown (va_Nw.use rfl (hN _ hl)) hi hst (by rw [q2]; exact h6) q1 q3 (by rw [hsl]; exact k2_hasslot (q4 k hk)) rfl rfl hdg fun H' e1 e2 e3 => ?_
  rw [hsl] at e1 ⊢
  exact kk H' _ (hM.put hAa ⟨_, hc, t_OB.to (V := updV (vp_V fs) k v) ⟨_, e1, q2, q3, t_set q4 hap hk v⟩ (fun j _ => vp_updV_set hlen v j)⟩ e2 e3) (hS0.put e2 e3 hAa)
theorem vm_iald (hexec : p.tables.exec = Jvm.exec) (hb : c.code = cc) (hK : va_K D vwCl tys s) (hM : cc_M D A z G H) (t0 : Nat) {cA : ClassId} {n : Nat} {f : Nat → Int32} (he : G a = some (.inl (cA, n, .inl f))) (ht : tys[t0]? = some (cA, .int)) {i : Int32} (hin : vp_in i n) (hdg : decode cc pc = .ok (.iaload, 1)) (kk : W p l e R s m args below meth c H locs cells slots Q (F0 m (pc + 1) ls (.int (f i.toNatClampNeg) :: rest))) : W p l e R s m args below meth c H locs cells slots Q (F0 m pc ls (.int i :: .ref a :: rest)) := va_iald hexec hb hK (hM.one he) 0 t0 rfl ht hin hdg kk
theorem vm_cald (hexec : p.tables.exec = Jvm.exec) (hb : c.code = cc) (hK : va_K D vwCl tys s) (hM : cc_M D A z G H) (t0 : Nat) {cA : ClassId} {n : Nat} {f : Nat → Int32} (he : G a = some (.inl (cA, n, .inl f))) (ht : tys[t0]? = some (cA, .char)) {i : Int32} (hin : vp_in i n) (hdg : decode cc pc = .ok (.caload, 1)) (kk : W p l e R s m args below meth c H locs cells slots Q (F0 m (pc + 1) ls (.int (f i.toNatClampNeg) :: rest))) : W p l e R s m args below meth c H locs cells slots Q (F0 m pc ls (.int i :: .ref a :: rest)) := va_cald hexec hb hK (hM.one he) 0 t0 rfl ht hin hdg kk
theorem vm_zald (hexec : p.tables.exec = Jvm.exec) (hb : c.code = cc) (hK : va_K D vwCl tys s) (hM : cc_M D A z G H) (t0 : Nat) {cA : ClassId} {n : Nat} {f : Nat → Int32} (he : G a = some (.inl (cA, n, .inl f))) (ht : tys[t0]? = some (cA, .boolean)) {i : Int32} (hin : vp_in i n) (hdg : decode cc pc = .ok (.baload, 1)) (kk : W p l e R s m args below meth c H locs cells slots Q (F0 m (pc + 1) ls (.int (f i.toNatClampNeg) :: rest))) : W p l e R s m args below meth c H locs cells slots Q (F0 m pc ls (.int i :: .ref a :: rest)) := va_zald hexec hb hK (hM.one he) 0 t0 rfl ht hin hdg kk
theorem vm_aald (hexec : p.tables.exec = Jvm.exec) (hb : c.code = cc) (hK : va_K D vwCl tys s) (hM : cc_M D A z G H) (t0 : Nat) {cA : ClassId} {C : String} {n : Nat} {f : Nat → Option Nat} (he : G a = some (.inl (cA, n, .inr (.inr (.inr (.inr f)))))) (ht : tys[t0]? = some (cA, .object C)) {i : Int32} (hin : vp_in i n) {x : Nat} (hx : f i.toNatClampNeg = some x) (hdg : decode cc pc = .ok (.aaload, 1)) (kk : W p l e R s m args below meth c H locs cells slots Q (F0 m (pc + 1) ls (.ref x :: rest))) : W p l e R s m args below meth c H locs cells slots Q (F0 m pc ls (.int i :: .ref a :: rest)) := va_aldq hexec hb hK (hM.one he) 0 t0 rfl ht hin hdg (by rw [hx]; exact kk)
theorem vm_iast (hexec : p.tables.exec = Jvm.exec) (hb : c.code = cc) (hK : va_K D vwCl tys s) (hM : cc_M D A z G H) (hS : va_S A H0 H locs) (t0 : Nat) {cA : ClassId} {n : Nat} {f : Nat → Int32} (he : G a = some (.inl (cA, n, .inl f))) (ht : tys[t0]? = some (cA, .int)) {i : Int32} {x : Int32} (hin : vp_in i n) (hdg : decode cc pc = .ok (.iastore, 1)) (kk : ∀ (H1 : Heap) (locs1 : List Loc), cc_M D A z (va_up G a (some (.inl (cA, n, .inl (upd f i.toNatClampNeg x))))) H1 → va_S A H0 H1 locs1 → W p l e R s m args below meth c H1 locs1 cells slots Q (F0 m (pc + 1) ls rest)) : W p l e R s m args below meth c H locs cells slots Q (F0 m pc ls (.int x :: .int i :: .ref a :: rest)) := by
  obtain ⟨hat, hAa⟩ := hM.2 a _ he
  refine W.iast hexec hb hat ((hK.2 t0 _ ht).1 n (fun j => .int (f j))) (fun q => by cases q) (by show ¬ (i < 0 ∨ (arrV _ _ _).slots.size ≤ _); rw [arrV_size]; exact hin) rfl rfl hdg fun H1 e1 z1 oq => ?_
  refine kk H1 _ (hM.put hAa ?_ z1 oq) (hS.put z1 oq hAa)
  show H1[a]? = some (vp_cell _ _)
  rw [e1]
  rw [vp_cell_i, vp_cell_i, arrV_store]
  congr 2
  funext q
  by_cases hq : q = i.toNatClampNeg
  · subst hq
    simp [updV, upd]
  · simp [updV, upd, hq]
theorem vm_cast (hexec : p.tables.exec = Jvm.exec) (hb : c.code = cc) (hK : va_K D vwCl tys s) (hM : cc_M D A z G H) (hS : va_S A H0 H locs) (t0 : Nat) {cA : ClassId} {n : Nat} {f : Nat → Int32} (he : G a = some (.inl (cA, n, .inl f))) (ht : tys[t0]? = some (cA, .char)) {i : Int32} {x : Int32} (hin : vp_in i n) (hdg : decode cc pc = .ok (.castore, 1)) (kk : ∀ (H1 : Heap) (locs1 : List Loc), cc_M D A z (va_up G a (some (.inl (cA, n, .inl (upd f i.toNatClampNeg (vp_nar .char x)))))) H1 → va_S A H0 H1 locs1 → W p l e R s m args below meth c H1 locs1 cells slots Q (F0 m (pc + 1) ls rest)) : W p l e R s m args below meth c H locs cells slots Q (F0 m pc ls (.int x :: .int i :: .ref a :: rest)) := by
  obtain ⟨hat, hAa⟩ := hM.2 a _ he
  refine W.cast hexec hb hat ((hK.2 t0 _ ht).1 n (fun j => .int (f j))) (fun q => by cases q) (by show ¬ (i < 0 ∨ (arrV _ _ _).slots.size ≤ _); rw [arrV_size]; exact hin) rfl rfl hdg fun H1 e1 z1 oq => ?_
  refine kk H1 _ (hM.put hAa ?_ z1 oq) (hS.put z1 oq hAa)
  show H1[a]? = some (vp_cell _ _)
  rw [e1]
  rw [vp_cell_i, vp_cell_i, arrV_store]
  congr 2
  funext q
  by_cases hq : q = i.toNatClampNeg
  · subst hq
    simp [updV, upd, vp_nar]
    try rfl
  · simp [updV, upd, hq]
theorem vm_zast (hexec : p.tables.exec = Jvm.exec) (hb : c.code = cc) (hK : va_K D vwCl tys s) (hM : cc_M D A z G H) (hS : va_S A H0 H locs) (t0 : Nat) {cA : ClassId} {n : Nat} {f : Nat → Int32} (he : G a = some (.inl (cA, n, .inl f))) (ht : tys[t0]? = some (cA, .boolean)) {i : Int32} {x : Int32} (hin : vp_in i n) (hdg : decode cc pc = .ok (.bastore, 1)) (kk : ∀ (H1 : Heap) (locs1 : List Loc), cc_M D A z (va_up G a (some (.inl (cA, n, .inl (upd f i.toNatClampNeg (vp_nar .boolean x)))))) H1 → va_S A H0 H1 locs1 → W p l e R s m args below meth c H1 locs1 cells slots Q (F0 m (pc + 1) ls rest)) : W p l e R s m args below meth c H locs cells slots Q (F0 m pc ls (.int x :: .int i :: .ref a :: rest)) := by
  obtain ⟨hat, hAa⟩ := hM.2 a _ he
  refine W.zast hexec hb hat ((hK.2 t0 _ ht).1 n (fun j => .int (f j))) (fun q => by cases q) (by show ¬ (i < 0 ∨ (arrV _ _ _).slots.size ≤ _); rw [arrV_size]; exact hin) rfl rfl hdg fun H1 e1 z1 oq => ?_
  refine kk H1 _ (hM.put hAa ?_ z1 oq) (hS.put z1 oq hAa)
  show H1[a]? = some (vp_cell _ _)
  rw [e1]
  rw [vp_cell_i, vp_cell_i, arrV_store]
  congr 2
  funext q
  by_cases hq : q = i.toNatClampNeg
  · subst hq
    simp [updV, upd, vp_nar]
    try rfl
  · simp [updV, upd, hq]
theorem vm_aast (hexec : p.tables.exec = Jvm.exec) (hb : c.code = cc) (hK : va_K D vwCl tys s) (hM : cc_M D A z G H) (hS : va_S A H0 H locs) (t0 ci : Nat) {cA : ClassId} {r : vw_C} {n v : Nat} {vs : List Value} {f : Nat → Option Nat} (he : G a = some (.inl (cA, n, .inr (.inr (.inr (.inr f)))))) (ht : tys[t0]? = some (cA, .object r.1)) (hv : G v = some (.inr (ci, vs))) (hc : vwCl[ci]? = some r) {i : Int32} (hin : vp_in i n) (hdg : decode cc pc = .ok (.aastore, 1)) (kk : ∀ (H1 : Heap) (locs1 : List Loc), cc_M D A z (va_up G a (some (.inl (cA, n, .inr (.inr (.inr (.inr (va_up f i.toNatClampNeg (some v))))))))) H1 → va_S A H0 H1 locs1 → W p l e R s m args below meth c H1 locs1 cells slots Q (F0 m (pc + 1) ls rest)) : W p l e R s m args below meth c H locs cells slots Q (F0 m pc ls (.ref v :: .int i :: .ref a :: rest)) := by
  have hlt : i.toNatClampNeg < n := Nat.not_le.mp fun q => hin (Or.inr q)
  have h0 : ¬ i < 0 := fun q => hin (Or.inl q)
  obtain ⟨hat, hAa⟩ := hM.2 a _ he
  obtain ⟨hav, -⟩ := hM.2 v _ hv
  obtain ⟨r', hr', cellV, g1, g2, g3, -⟩ := hav
  have hcls := (hK.1 ci r hc).2
  obtain ⟨kA, comp, k1, k2, k3, -⟩ := (hK.2 t0 _ ht).2
  have hcomp : comp = D.1 ci := Option.some.inj (k3.symm.trans hcls.1)
  subst hcomp
  obtain ⟨kC, hkC, -⟩ := hcls.2
  refine W.aast hexec hb hat (fun q h => by cases h) (fun h => by cases h) k1 k2 rfl hkC ⟨h0, by show _ < (arrV _ _ _).slots.size; rw [arrV_size]; exact hlt⟩ g1 (fun q h => by rw [g3] at h; cases h) (by rw [g2]; exact hkC) (by rw [g2]; exact va_assign hcls) rfl rfl hdg fun H1 e1 z1 oq => ?_
  refine kk H1 _ (hM.put hAa ?_ z1 oq) (hS.put z1 oq hAa)
  show H1[a]? = some (vp_cell _ _)
  rw [e1]
  rw [vp_cell_q, vp_cell_q, arrV_store]
  congr 2
  funext q
  by_cases hq : q = i.toNatClampNeg
  · subst hq
    simp [updV, va_up, va_rf]
  · simp [updV, va_up, hq]
theorem vm_copy (hexec : p.tables.exec = Jvm.exec) (hb : c.code = cc) (hml : c.maxLocals = ls.size) {own : String} {index : Nat} (hown : s.vm.findClass own = some m.cls) (hlink : (Cond.methodLink own index arraycopyName).before args s = true) (hnat : (Cond.native arraycopyName).before args s = true) (hstat : (Cond.static arraycopyName).before args s = true) (hini : (Cond.initialized "java/lang/System").before args s = true)
    (hK : va_K D vwCl tys s) (hM : cc_M D A z G H) (hS : va_S A H0 H locs) (t0 : Nat) {a0 : Nat} {c0 : ClassId} {n0 n1 : Nat} {f g : Nat → Int32} (ha0 : G a0 = some (.inl (c0, n0, .inl f))) (ha1 : G a = some (.inl (c0, n1, .inl g))) (hne : a0 ≠ a) (ht0 : tys[t0]? = some (c0, .int))
    {sp dp n : Int32} (h1 : ¬ sp < 0) (h2 : ¬ dp < 0) (h3 : ¬ n < 0) (h4 : sp.toNatClampNeg + n.toNatClampNeg ≤ n0) (h5 : dp.toNatClampNeg + n.toNatClampNeg ≤ n1)
    (hframes : 1 ≤ R.frames) (hlocals : (rest.map fun v => v.category).sum + (nativeFrameWords "java/lang/System" "arraycopy" 5 + 11) ≤ R.locals) (hdg : decode cc pc = .ok (.invokestatic index, 3))
    (kk : ∀ (H1 : Heap) (locs1 : List Loc), cc_M D A z (va_up G a (some (.inl (c0, n1, .inl (va_cpy f g sp.toNatClampNeg dp.toNatClampNeg n.toNatClampNeg))))) H1 → va_S A H0 H1 locs1 → W p l e R s m args below meth c H1 locs1 cells slots Q (F0 m (pc + 3) ls rest)) : W p l e R s m args below meth c H locs cells slots Q (F0 m pc ls (.int n :: .int dp :: .ref a :: .int sp :: .ref a0 :: rest)) := by
  have nn : ∀ y : Int32, ¬ y < 0 → y.toInt = (y.toNatClampNeg : Int) := by
    intro y hy
    have hy0 : (0 : Int) ≤ y.toInt := by
      have := Int32.not_lt.mp hy
      simpa using Int32.le_iff_toInt_le.mp this
    show y.toInt = ((y.toInt.toNat : Nat) : Int)
    omega
  obtain ⟨hc0, -⟩ := hM.2 a0 _ ha0
  obtain ⟨hc1, hAa⟩ := hM.2 a _ ha1
  have hc0 : H[a0]? = some (vp_cell c0 (n0, .inl f)) := hc0
  have hc1 : H[a]? = some (vp_cell c0 (n1, .inl g)) := hc1
  intro T hT Y
  obtain ⟨-, k0, hk0, cm0, hkk0⟩ := (hK.2 t0 _ ht0).1 n0 (fun j => .int (f j))
  obtain ⟨-, k1, hk1, cm1, hkk1⟩ := (hK.2 t0 _ ht0).1 n1 (fun j => .int (g j))
  obtain ⟨vm', X', step⟩ := Y.arraycopy hexec hown hlink hnat hstat hini (src := a0) (dst := a) (cs := vp_cell c0 (n0, .inl f)) (cd := vp_cell c0 (n1, .inl g)) (srcPos := sp) (destPos := dp) (n := n) (by rw [hT]; exact hc0) (by rw [hT]; exact hc1)
    (fun _ h => by cases h) (fun _ h => by cases h) (fun h => by cases h) (fun h => by cases h) hk0 hk1 hkk0 hkk1 (by simp [refKind]) h1 h2 h3
    (by rw [nn sp h1, nn n h3]; show ¬ _ > ((arrV c0 n0 (fun j => .int (f j))).slots.size : Int); rw [arrV_size]; omega)
    (by rw [nn dp h2, nn n h3]; show ¬ _ > ((arrV c0 n1 (fun j => .int (g j))).slots.size : Int); rw [arrV_size]; omega)
    (fun vm₁ _ i hi => by
      have e : (vp_cell c0 (n0, .inl f)).slots.getD (sp.toNatClampNeg + i) .null = .int (f (sp.toNatClampNeg + i)) := by
        show (arrV c0 n0 (fun j => .int (f j))).slots.getD _ _ = _
        rw [Array.getD_eq_getD_getElem?, arrV_read _ _ (by omega)]
        rfl
      refine ⟨?_, ?_⟩
      · rw [e]
        rfl
      · rw [e]
        exact trivial)
    (g := F0 m pc ls (.int n :: .int dp :: .ref a :: .int sp :: .ref a0 :: rest)) rfl (by rw [hml]) (rest := rest) rfl (by rw [hb]; exact hdg) hframes (by show 2 * 0 + _ + _ ≤ _; omega)
  have e1 : copied (vp_cell c0 (n0, .inl f)) (vp_cell c0 (n1, .inl g)) sp dp n = vp_cell c0 (n1, .inl (va_cpy f g sp.toNatClampNeg dp.toNatClampNeg n.toNatClampNeg)) := va_copied (fun z => .int z) c0 c0 f g h4
  rw [e1] at X' step
  have hl : a < H.size := (Array.getElem?_eq_some_iff.mp hc1).1
  have hheap : ((T.setVm vm').setCell a (vp_cell c0 (n1, .inl (va_cpy f g sp.toNatClampNeg dp.toNatClampNeg n.toNatClampNeg)))).heap = H.setIfInBounds a (vp_cell c0 (n1, .inl (va_cpy f g sp.toNatClampNeg dp.toNatClampNeg n.toNatClampNeg))) := by rw [← hT]; rfl
  have oq : ∀ q : Nat, q ≠ a → (H.setIfInBounds a (vp_cell c0 (n1, .inl (va_cpy f g sp.toNatClampNeg dp.toNatClampNeg n.toNatClampNeg))))[q]? = H[q]? := fun q hq => by simp [Array.getElem?_setIfInBounds, Ne.symm hq]
  obtain ⟨t, a1, b1⟩ := kk _ _ (hM.put hAa (show (H.setIfInBounds a _)[a]? = some _ by simp [Array.getElem?_setIfInBounds, hl]) (by simp) oq) ⟨by simp; exact hS.1, fun q g1 g2 => by
      rw [oq q (fun e => g2 (by rw [e]; exact hAa))]
      exact hS.2.1 q g1 g2, fun q hq => by
      rcases List.mem_append.mp hq with h | h
      · exact hS.2.2 q h
      · obtain ⟨y, -, hy⟩ := List.mem_map.mp h
        rw [← hy]
        exact hAa⟩ _ hheap X'
  exact ⟨t, step t a1, b1⟩
end VMR
abbrev cc_Y : Type := MethodName × ByteArray × Nat × Option FieldType × Room
def cc_W (Y : cc_Y) : List Cond := .code Y.1 Y.2.1 Y.2.2.1 Y.2.2.2.1 :: cc_GT
def cc_Ok (Y : cc_Y) : Prop := Cond.code Y.1 Y.2.1 Y.2.2.1 Y.2.2.2.1 ∈ cc_GT ∧ Cond.initialized Y.1.cls ∈ cc_GT ∧ plainName Y.1.cls = true ∧ (Y.1.cls ≠ "java/lang/invoke/MethodHandle" ∧ Y.1.cls ≠ "java/lang/invoke/VarHandle") ∧ Y.2.2.2.2.cells = 0 ∧ Y.2.2.2.2.slots = 0
theorem cc_good {Y : cc_Y} (ok : cc_Ok Y) : GoodIn cc_GT (cc_W Y) := fun w hw => by
  rcases List.mem_cons.mp hw with rfl | h
  · exact ⟨ok.1, good_of_word (List.mem_filter.mp ok.1).2⟩
  · exact ⟨h, good_of_word (List.mem_filter.mp h).2⟩
def cc_Q (D : va_G) (A : Nat → Prop) (z : Nat) (Q : Option Value → cc_G → Prop) : Array Value → State → Outcome → State → Prop := fun _ st oc t => (∃ (v : Option Value) (G : cc_G), oc = .returned v ∧ Q v G ∧ cc_M D A z G t.heap) ∧ va_F A st t
/-- a method's contract: from the world G of z cells, with these arguments, it returns, and Q holds of the answer and of the world then; no cell is made -/
def cc_Cn (cy : Nat → ClassId) (Y : cc_Y) (as : List Value) (z : Nat) (G : cc_G) (Q : Option Value → cc_G → Prop) : Prop := ∀ (l : Launch) (D : va_G) (A : Nat → Prop), Met l Y.1 (cc_W Y) Y.2.2.2.2 (va_Pc as (fun U => cc_M D A z G U.heap ∧ cc_K D cy U)) (cc_Q D A z Q) 0 0 A
def cc_C (cy : Nat → ClassId) (Y : cc_Y) (p : Program) (s : State) (m : MethodId) (args : Array Value) (meth : Method) (c : Code) (D : va_G) : Prop := p.tables.exec = Jvm.exec ∧ c.code = Y.2.1 ∧ c.maxLocals = Y.2.2.1 ∧ meth.sig.returnType = Y.2.2.2.1 ∧ meth.locks = false ∧ s.vm.findClass Y.1.cls = some m.cls ∧ (∀ w ∈ cc_GT, w.before args s = true) ∧ cc_K D cy s
/-- the walk of the method Y from a place on, with its locals, its stack and the world G: it comes to its end with Q -/
def cc_R (cy : Nat → ClassId) (Y : cc_Y) (z pc : Nat) (ls : List (Nat × Value)) (st : List Value) (G : cc_G) (Q : Option Value → cc_G → Prop) : Prop :=
  ∀ ⦃p : Program⦄ ⦃l : Launch⦄ ⦃e : Env⦄ ⦃s : State⦄ ⦃m : MethodId⦄ ⦃args : Array Value⦄ ⦃below : List Frame⦄ ⦃meth : Method⦄ ⦃c : Code⦄ ⦃D : va_G⦄ ⦃A : Nat → Prop⦄ ⦃H : Heap⦄ ⦃locs : List Loc⦄ ⦃la : Array Slot⦄, cc_C cy Y p s m args meth c D → cc_M D A z G H → va_S A s.heap H locs → lv_has la Y.2.2.1 ls →
    W p l e (headSpec (cc_W Y) Y.2.2.2.2).room s m args below meth c H locs 0 0 (MQ below (cc_Q D A z Q) args s 0 0 A) (F0 m pc la st)
theorem cc_enter {cy : Nat → ClassId} {Y : cc_Y} {as : List Value} {z : Nat} {G : cc_G} {Q : Option Value → cc_G → Prop} (ok : cc_Ok Y) (hlen : (lg_sl as).length ≤ Y.2.2.1) {ls : List (Nat × Value)} (hls : lv_args 0 as = ls) (h : cc_R cy Y z 0 ls [] G Q) : cc_Cn cy Y as z G Q := by
  intro l D A
  refine Met.ofW (cc := Y.2.1) (maxL := Y.2.2.1) (ret := Y.2.2.2.1) ok.2.2.1 rfl ?_
  intro p e s m args below meth c s₁ B hml hv
  obtain ⟨rfl, hM, hK⟩ := hv
  have hts := atoms_spec (ws := cc_W Y) B.pre
  have hl := lv_entry as (n := Y.2.2.1) hlen
  rw [hls] at hl
  rw [lg_entry_eq]
  exact h ⟨B.exec, B.bytes, hml, B.returns, B.notSynchronized, findClass_of_methodNamed B.named, fun w hw => hts w (List.mem_cons_of_mem _ hw), hK⟩ hM va_S.rf hl
section VMC
variable {p : Program} {l : Launch} {e : Env} {R : Room} {s : State} {m : MethodId} {args : Array Value} {below : List Frame} {meth : Method} {c : Code} {H : Heap} {locs : List Loc} {cells slots : Nat} {Qf : State → Prop}
variable {cc : ByteArray} {pc : Nat} {ls : Array Slot} {rest st0 : List Value} {D : va_G} {A : Nat → Prop} {H0 : Heap} {z : Nat} {G : cc_G} {cy : Nat → ClassId}
theorem vm_call {z' mc ms : Nat} {a : Array Value} {Q' : Option Value → cc_G → Prop} (hr : va_Run p l e R s m args below meth c H locs cells slots mc ms (F0 m pc ls st0) rest (cc_Q D A z' Q' a) A) (hS : va_S A H0 H locs)
    (kk : ∀ (v : Option Value) (G' : cc_G) (H1 : Heap) (locs1 : List Loc), Q' v G' → cc_M D A z' G' H1 → va_S A H0 H1 locs1 → W p l e R s m args below meth c H1 locs1 (cells + mc) (slots + ms) Qf (F0 m (pc + 3) ls (v.toList ++ rest))) : W p l e R s m args below meth c H locs cells slots Qf (F0 m pc ls st0) := by
  intro T hT X
  obtain ⟨v, st₀, t, T', L, h0, X', hL, e1, e2, ⟨⟨v', G', hv, hq, hM'⟩, hz, hk⟩, st⟩ := hr T hT X
  cases hv
  rw [h0] at hz hk
  obtain ⟨t2, a1, b1⟩ := kk v G' T'.heap (locs ++ L) hq (by rw [e1]; exact hM') ⟨Nat.le_trans hS.1 (by rw [e1]; exact hz), fun q h1 h2 => by rw [e1, hk q (Nat.lt_of_lt_of_le h1 hS.1) h2]; exact hS.2.1 q h1 h2, fun q hq => by
      rcases List.mem_append.mp hq with h | h
      · exact hS.2.2 q h
      · exact hL q h⟩ T' rfl X'
  exact ⟨t2, st t2 a1, b1⟩
theorem cc_blind {as : List Value} : FrameBlind (va_Pc as (fun U => cc_M D A z G U.heap ∧ cc_K D cy U)) := fun a U g mk q => by
  obtain ⟨q0, q1, q2⟩ := q
  exact ⟨q0, q1, q2.same (u := U) (U := U.calling g mk a) rfl⟩
theorem cc_len {y : MethodName} {n : Nat} (h2 : (parseMethodDescriptor y.desc).map (fun d => d.parameters.length) = some n) : ∀ sig, parseMethodDescriptor y.desc = some sig → n = sig.parameters.length := fun sig h => by
  rw [h] at h2
  exact (Option.some.inj h2).symm
theorem vm_callV (hexec : p.tables.exec = Jvm.exec) (hb : c.code = cc) {nL : Nat} (hml : c.maxLocals = nL) (hsz : ls.size = nL) {own : String} (hown : s.vm.findClass own = some m.cls) (hg : ∀ w ∈ cc_GT, w.before args s = true) (hK : cc_K D cy s) (hM : cc_M D A z G H) (hS : va_S A H0 H locs) {Y' : cc_Y} {index b : Nat} {As : List Value} {Q' : Option Value → cc_G → Prop} (hC : cc_Cn cy Y' (.ref b :: As) z G Q') (ok : cc_Ok Y') {ci N : Nat} {T : u_T} {fs : List Value} (hbx : G b = some (.inr (ci, fs))) (hc : vwCl[ci]? = some (Y'.1.cls, T, N)) (him : Cond.instanceMethod Y'.1 ∈ cc_GT) (hsl : Cond.selects Y'.1.cls Y'.1 Y'.1 ∈ cc_GT) (hln : Cond.methodLink own index Y'.1 ∈ cc_GT) (hn : (parseMethodDescriptor Y'.1.desc).map (fun d => d.parameters.length) = some As.length) (hR : Y'.2.2.2.2.frames + 1 ≤ R.frames ∧ 8 + (Y'.2.2.1 + 11) + Y'.2.2.2.2.locals ≤ R.locals) (hcs : cells ≤ R.cells ∧ slots ≤ R.slots) (hcat : (rest.map fun v => v.category).sum ≤ 8) (hst : st0 = As.reverse ++ .ref b :: rest) (hdg : decode cc pc = .ok (.invokevirtual index, 3)) (kk : ∀ (v : Option Value) (G' : cc_G) (H1 : Heap) (locs1 : List Loc), Q' v G' → cc_M D A z G' H1 → va_S A H0 H1 locs1 → W p l e R s m args below meth c H1 locs1 cells slots Qf (F0 m (pc + 3) ls (v.toList ++ rest))) : W p l e R s m args below meth c H locs cells slots Qf (F0 m pc ls st0) :=
  vm_call (va_runV (As := As) (rest := rest) ⟨hexec, hb, hml, hown, hg⟩ (hC l D A) ⟨⟨ok.2.2.2.2.1, ok.2.2.2.2.2, hR.1, hR.2, pay_in hg (cc_good ok), List.mem_cons_self, hg _ ok.1, hg _ ok.2.1, ok.2.2.2.1, cc_len hn, hg _ hln⟩, hg _ him, hg _ hsl⟩ ⟨cc_blind, va_recv hK.1 (hM.one hbx) (q0 := 0) hc rfl, fun U hU hW => ⟨rfl, by rw [hU]; exact hM, hK.warm hW⟩⟩ rfl rfl hsz hst (lv_room hcat) hdg hcs) hS kk
theorem vm_callVN (hexec : p.tables.exec = Jvm.exec) (hb : c.code = cc) {nL : Nat} (hml : c.maxLocals = nL) (hsz : ls.size = nL) {own : String} (hown : s.vm.findClass own = some m.cls) (hg : ∀ w ∈ cc_GT, w.before args s = true) (hK : cc_K D cy s) (hM : cc_M D A z G H) (hS : va_S A H0 H locs) {Y' : cc_Y} {index b : Nat} {As : List Value} {Q' : Option Value → cc_G → Prop} (hC : cc_Cn cy Y' (.ref b :: As) z G Q') (ok : cc_Ok Y') {ci N : Nat} {T : u_T} {fs : List Value} {host : String} (hbx : G b = some (.inr (ci, fs))) (hc : vwCl[ci]? = some (Y'.1.cls, T, N)) (him : Cond.instanceMethod Y'.1 ∈ cc_GT) (hsl : Cond.selects Y'.1.cls Y'.1 Y'.1 ∈ cc_GT) (hln : Cond.methodLinkNest own index Y'.1 host ∈ cc_NT) (hn : (parseMethodDescriptor Y'.1.desc).map (fun d => d.parameters.length) = some As.length) (hR : Y'.2.2.2.2.frames + 1 ≤ R.frames ∧ 8 + (Y'.2.2.1 + 11) + Y'.2.2.2.2.locals ≤ R.locals) (hcs : cells ≤ R.cells ∧ slots ≤ R.slots) (hcat : (rest.map fun v => v.category).sum ≤ 8) (hst : st0 = As.reverse ++ .ref b :: rest) (hdg : decode cc pc = .ok (.invokevirtual index, 3)) (kk : ∀ (v : Option Value) (G' : cc_G) (H1 : Heap) (locs1 : List Loc), Q' v G' → cc_M D A z G' H1 → va_S A H0 H1 locs1 → W p l e R s m args below meth c H1 locs1 cells slots Qf (F0 m (pc + 3) ls (v.toList ++ rest))) : W p l e R s m args below meth c H locs cells slots Qf (F0 m pc ls st0) :=
  vm_call (va_runVN (As := As) (rest := rest) (host := host) ⟨hexec, hb, hml, hown, hg⟩ (hC l D A) ⟨⟨⟨ok.2.2.2.2.1, ok.2.2.2.2.2, hR.1, hR.2, pay_in hg (cc_good ok), List.mem_cons_self⟩, hg _ ok.1, hg _ ok.2.1, ok.2.2.2.1, cc_len hn, va_Nw.use rfl (hK.2 _ hln)⟩, hg _ him, hg _ hsl⟩ ⟨cc_blind, va_recv hK.1 (hM.one hbx) (q0 := 0) hc rfl, fun U hU hW => ⟨rfl, by rw [hU]; exact hM, hK.warm hW⟩⟩ rfl rfl hsz hst (lv_room hcat) hdg hcs) hS kk
theorem vm_callS (hexec : p.tables.exec = Jvm.exec) (hb : c.code = cc) {nL : Nat} (hml : c.maxLocals = nL) (hsz : ls.size = nL) {own : String} (hown : s.vm.findClass own = some m.cls) (hg : ∀ w ∈ cc_GT, w.before args s = true) (hK : cc_K D cy s) (hM : cc_M D A z G H) (hS : va_S A H0 H locs) {Y' : cc_Y} {index : Nat} {As : List Value} {Q' : Option Value → cc_G → Prop} (hC : cc_Cn cy Y' As z G Q') (ok : cc_Ok Y') (hstc : Cond.static Y'.1 ∈ cc_GT) (hln : Cond.methodLink own index Y'.1 ∈ cc_GT) (hn : (parseMethodDescriptor Y'.1.desc).map (fun d => d.parameters.length) = some As.length) (hR : Y'.2.2.2.2.frames + 1 ≤ R.frames ∧ 8 + (Y'.2.2.1 + 11) + Y'.2.2.2.2.locals ≤ R.locals) (hcs : cells ≤ R.cells ∧ slots ≤ R.slots) (hcat : (rest.map fun v => v.category).sum ≤ 8) (hst : st0 = As.reverse ++ rest) (hdg : decode cc pc = .ok (.invokestatic index, 3)) (kk : ∀ (v : Option Value) (G' : cc_G) (H1 : Heap) (locs1 : List Loc), Q' v G' → cc_M D A z G' H1 → va_S A H0 H1 locs1 → W p l e R s m args below meth c H1 locs1 cells slots Qf (F0 m (pc + 3) ls (v.toList ++ rest))) : W p l e R s m args below meth c H locs cells slots Qf (F0 m pc ls st0) :=
  vm_call (va_runS (As := As) (rest := rest) ⟨hexec, hb, hml, hown, hg⟩ (hC l D A) ⟨⟨ok.2.2.2.2.1, ok.2.2.2.2.2, hR.1, hR.2, pay_in hg (cc_good ok), List.mem_cons_self, hg _ ok.1, hg _ ok.2.1, ok.2.2.2.1, cc_len hn, hg _ hln⟩, hg _ hstc⟩ ⟨cc_blind, fun U hU hW => ⟨rfl, by rw [hU]; exact hM, hK.warm hW⟩⟩ rfl rfl hsz hst (lv_room hcat) hdg hcs) hS kk
theorem vm_callSN (hexec : p.tables.exec = Jvm.exec) (hb : c.code = cc) {nL : Nat} (hml : c.maxLocals = nL) (hsz : ls.size = nL) {own : String} (hown : s.vm.findClass own = some m.cls) (hg : ∀ w ∈ cc_GT, w.before args s = true) (hK : cc_K D cy s) (hM : cc_M D A z G H) (hS : va_S A H0 H locs) {Y' : cc_Y} {index : Nat} {As : List Value} {Q' : Option Value → cc_G → Prop} (hC : cc_Cn cy Y' As z G Q') (ok : cc_Ok Y') {host : String} (hstc : Cond.static Y'.1 ∈ cc_GT) (hln : Cond.methodLinkNest own index Y'.1 host ∈ cc_NT) (hn : (parseMethodDescriptor Y'.1.desc).map (fun d => d.parameters.length) = some As.length) (hR : Y'.2.2.2.2.frames + 1 ≤ R.frames ∧ 8 + (Y'.2.2.1 + 11) + Y'.2.2.2.2.locals ≤ R.locals) (hcs : cells ≤ R.cells ∧ slots ≤ R.slots) (hcat : (rest.map fun v => v.category).sum ≤ 8) (hst : st0 = As.reverse ++ rest) (hdg : decode cc pc = .ok (.invokestatic index, 3)) (kk : ∀ (v : Option Value) (G' : cc_G) (H1 : Heap) (locs1 : List Loc), Q' v G' → cc_M D A z G' H1 → va_S A H0 H1 locs1 → W p l e R s m args below meth c H1 locs1 cells slots Qf (F0 m (pc + 3) ls (v.toList ++ rest))) : W p l e R s m args below meth c H locs cells slots Qf (F0 m pc ls st0) :=
  vm_call (va_runSN (As := As) (rest := rest) (host := host) ⟨hexec, hb, hml, hown, hg⟩ (hC l D A) ⟨⟨⟨ok.2.2.2.2.1, ok.2.2.2.2.2, hR.1, hR.2, pay_in hg (cc_good ok), List.mem_cons_self⟩, hg _ ok.1, hg _ ok.2.1, ok.2.2.2.1, cc_len hn, va_Nw.use rfl (hK.2 _ hln)⟩, hg _ hstc, trivial⟩ ⟨cc_blind, fun U hU hW => ⟨rfl, by rw [hU]; exact hM, hK.warm hW⟩⟩ rfl rfl hsz hst (lv_room hcat) hdg hcs) hS kk
end VMC
def cc_rm (x y : Int32) : Int32 := x - x / y * y
def cc_qi (P : Int32 → cc_G → Prop) : Option Value → cc_G → Prop := fun v G => ∃ r : Int32, v = some (.int r) ∧ P r G
def cc_qv (P : cc_G → Prop) : Option Value → cc_G → Prop := fun v G => v = none ∧ P G
section CCR
variable {cy : Nat → ClassId} {Y : cc_Y} {z pc : Nat} {ls ls' : List (Nat × Value)} {st : List Value} {G : cc_G} {Q : Option Value → cc_G → Prop}
theorem cc_iconst {n : Int} {v : Int32} (hd : decode Y.2.1 pc = .ok (.iconst n, 1)) (hv : Int32.ofInt n = v) (k : cc_R cy Y z (pc + 1) ls (.int v :: st) G Q) : cc_R cy Y z pc ls st G Q := by
  intro p l e s m args below meth c D A H locs la C hM hS hl
  exact lv_iconst C.1 C.2.1 hd hv (k C hM hS hl)
theorem cc_bipush {n : Int} {v : Int32} (hd : decode Y.2.1 pc = .ok (.bipush n, 2)) (hv : (Int8.ofInt n).toInt32 = v) (k : cc_R cy Y z (pc + 2) ls (.int v :: st) G Q) : cc_R cy Y z pc ls st G Q := by
  intro p l e s m args below meth c D A H locs la C hM hS hl
  exact lv_bipush C.1 C.2.1 hd hv (k C hM hS hl)
theorem cc_sipush {n : Int} {v : Int32} (hd : decode Y.2.1 pc = .ok (.sipush n, 3)) (hv : (Int16.ofInt n).toInt32 = v) (k : cc_R cy Y z (pc + 3) ls (.int v :: st) G Q) : cc_R cy Y z pc ls st G Q := by
  intro p l e s m args below meth c D A H locs la C hM hS hl
  exact lv_sipush C.1 C.2.1 hd hv (k C hM hS hl)
theorem cc_iload_n {q : Fin 4} {i j : Nat} {x : Int32} (hd : decode Y.2.1 pc = .ok (.iload_n q, 1)) (hi : (q : Nat) = i) (hk : ls[j]? = some (i, .int x)) (k : cc_R cy Y z (pc + 1) ls (.int x :: st) G Q) : cc_R cy Y z pc ls st G Q := by
  intro p l e s m args below meth c D A H locs la C hM hS hl
  exact lv_iload_n C.1 C.2.1 hd hi (lv_at hl j hk) (k C hM hS hl)
theorem cc_iload {i j : Nat} {x : Int32} (hd : decode Y.2.1 pc = .ok (.iload i, 2)) (hk : ls[j]? = some (i, .int x)) (k : cc_R cy Y z (pc + 2) ls (.int x :: st) G Q) : cc_R cy Y z pc ls st G Q := by
  intro p l e s m args below meth c D A H locs la C hM hS hl
  exact lv_iload C.1 C.2.1 hd (lv_at hl j hk) (k C hM hS hl)
theorem cc_istore_n {q : Fin 4} {i : Nat} {x : Int32} (hd : decode Y.2.1 pc = .ok (.istore_n q, 1)) (hi : (q : Nat) = i) (hn : i < Y.2.2.1) (hf : (i, Value.int x) :: ls.filter (fun q => !(q.1 == i) && !(q.1 + 1 == i && q.2.category == 2)) = ls') (k : cc_R cy Y z (pc + 1) ls' st G Q) : cc_R cy Y z pc ls (.int x :: st) G Q := by
  intro p l e s m args below meth c D A H locs la C hM hS hl
  exact lv_istore_n C.1 C.2.1 hd hi hl hn hf (fun la' hl' => k C hM hS hl')
theorem cc_istore {i : Nat} {x : Int32} (hd : decode Y.2.1 pc = .ok (.istore i, 2)) (hn : i < Y.2.2.1) (hf : (i, Value.int x) :: ls.filter (fun q => !(q.1 == i) && !(q.1 + 1 == i && q.2.category == 2)) = ls') (k : cc_R cy Y z (pc + 2) ls' st G Q) : cc_R cy Y z pc ls (.int x :: st) G Q := by
  intro p l e s m args below meth c D A H locs la C hM hS hl
  exact lv_istore C.1 C.2.1 hd hl hn hf (fun la' hl' => k C hM hS hl')
theorem cc_aload_n {q : Fin 4} {i j : Nat} {x : Nat} (hd : decode Y.2.1 pc = .ok (.aload_n q, 1)) (hi : (q : Nat) = i) (hk : ls[j]? = some (i, .ref x)) (k : cc_R cy Y z (pc + 1) ls (.ref x :: st) G Q) : cc_R cy Y z pc ls st G Q := by
  intro p l e s m args below meth c D A H locs la C hM hS hl
  exact lv_aload_n C.1 C.2.1 hd hi (lv_at hl j hk) (k C hM hS hl)
theorem cc_aload {i j : Nat} {x : Nat} (hd : decode Y.2.1 pc = .ok (.aload i, 2)) (hk : ls[j]? = some (i, .ref x)) (k : cc_R cy Y z (pc + 2) ls (.ref x :: st) G Q) : cc_R cy Y z pc ls st G Q := by
  intro p l e s m args below meth c D A H locs la C hM hS hl
  exact lv_aload C.1 C.2.1 hd (lv_at hl j hk) (k C hM hS hl)
theorem cc_astore_n {q : Fin 4} {i : Nat} {x : Nat} (hd : decode Y.2.1 pc = .ok (.astore_n q, 1)) (hi : (q : Nat) = i) (hn : i < Y.2.2.1) (hf : (i, Value.ref x) :: ls.filter (fun q => !(q.1 == i) && !(q.1 + 1 == i && q.2.category == 2)) = ls') (k : cc_R cy Y z (pc + 1) ls' st G Q) : cc_R cy Y z pc ls (.ref x :: st) G Q := by
  intro p l e s m args below meth c D A H locs la C hM hS hl
  exact lv_astore_n C.1 C.2.1 hd hi hl hn hf (fun la' hl' => k C hM hS hl')
theorem cc_astore {i : Nat} {x : Nat} (hd : decode Y.2.1 pc = .ok (.astore i, 2)) (hn : i < Y.2.2.1) (hf : (i, Value.ref x) :: ls.filter (fun q => !(q.1 == i) && !(q.1 + 1 == i && q.2.category == 2)) = ls') (k : cc_R cy Y z (pc + 2) ls' st G Q) : cc_R cy Y z pc ls (.ref x :: st) G Q := by
  intro p l e s m args below meth c D A H locs la C hM hS hl
  exact lv_astore C.1 C.2.1 hd hl hn hf (fun la' hl' => k C hM hS hl')
theorem cc_iinc {i j : Nat} {n : Int} {x v : Int32} (hd : decode Y.2.1 pc = .ok (.iinc i n, 3)) (hk : ls[j]? = some (i, .int x)) (hv : x + Int32.ofInt n = v) (hn : i < Y.2.2.1) (hf : (i, Value.int v) :: ls.filter (fun q => !(q.1 == i) && !(q.1 + 1 == i && q.2.category == 2)) = ls') (k : cc_R cy Y z (pc + 3) ls' st G Q) : cc_R cy Y z pc ls st G Q := by
  intro p l e s m args below meth c D A H locs la C hM hS hl
  exact lv_iinc C.1 C.2.1 hd hl hk hv hn hf (fun la' hl' => k C hM hS hl')
theorem cc_iadd {x y : Int32} (hd : decode Y.2.1 pc = .ok (.iadd, 1)) (k : cc_R cy Y z (pc + 1) ls (.int (x + y) :: st) G Q) : cc_R cy Y z pc ls (.int y :: .int x :: st) G Q := by
  intro p l e s m args below meth c D A H locs la C hM hS hl
  exact lv_iadd C.1 C.2.1 hd (k C hM hS hl)
theorem cc_isub {x y : Int32} (hd : decode Y.2.1 pc = .ok (.isub, 1)) (k : cc_R cy Y z (pc + 1) ls (.int (x - y) :: st) G Q) : cc_R cy Y z pc ls (.int y :: .int x :: st) G Q := by
  intro p l e s m args below meth c D A H locs la C hM hS hl
  exact lv_isub C.1 C.2.1 hd (k C hM hS hl)
theorem cc_imul {x y : Int32} (hd : decode Y.2.1 pc = .ok (.imul, 1)) (k : cc_R cy Y z (pc + 1) ls (.int (x * y) :: st) G Q) : cc_R cy Y z pc ls (.int y :: .int x :: st) G Q := by
  intro p l e s m args below meth c D A H locs la C hM hS hl
  exact lv_imul C.1 C.2.1 hd (k C hM hS hl)
theorem cc_iand {x y : Int32} (hd : decode Y.2.1 pc = .ok (.iand, 1)) (k : cc_R cy Y z (pc + 1) ls (.int (x &&& y) :: st) G Q) : cc_R cy Y z pc ls (.int y :: .int x :: st) G Q := by
  intro p l e s m args below meth c D A H locs la C hM hS hl
  exact lv_iand C.1 C.2.1 hd (k C hM hS hl)
theorem cc_irem {x y : Int32} (hd : decode Y.2.1 pc = .ok (.irem, 1)) (hne : ¬ y = 0) (k : cc_R cy Y z (pc + 1) ls (.int (cc_rm x y) :: st) G Q) : cc_R cy Y z pc ls (.int y :: .int x :: st) G Q := by
  intro p l e s m args below meth c D A H locs la C hM hS hl
  exact lv_irem C.1 C.2.1 hd hne (k C hM hS hl)
theorem cc_i2c {x v : Int32} (hd : decode Y.2.1 pc = .ok (.i2c, 1)) (hv : (x.toUInt32 % 65536).toInt32 = v) (k : cc_R cy Y z (pc + 1) ls (.int v :: st) G Q) : cc_R cy Y z pc ls (.int x :: st) G Q := by
  intro p l e s m args below meth c D A H locs la C hM hS hl
  exact lv_i2c C.1 C.2.1 hd hv (k C hM hS hl)
theorem cc_dup {v : Value} (hd : decode Y.2.1 pc = .ok (.dup, 1)) (hv : v.category = 1) (k : cc_R cy Y z (pc + 1) ls (v :: v :: st) G Q) : cc_R cy Y z pc ls (v :: st) G Q := by
  intro p l e s m args below meth c D A H locs la C hM hS hl
  exact lv_dup C.1 C.2.1 hd hv (k C hM hS hl)
theorem cc_pop {v : Value} (hd : decode Y.2.1 pc = .ok (.pop, 1)) (hv : v.category = 1) (k : cc_R cy Y z (pc + 1) ls st G Q) : cc_R cy Y z pc ls (v :: st) G Q := by
  intro p l e s m args below meth c D A H locs la C hM hS hl
  exact lv_pop C.1 C.2.1 hd hv (k C hM hS hl)
theorem cc_dup_x1 {v w : Value} (hd : decode Y.2.1 pc = .ok (.dup_x1, 1)) (hv : v.category = 1) (hw : w.category = 1) (k : cc_R cy Y z (pc + 1) ls (v :: w :: v :: st) G Q) : cc_R cy Y z pc ls (v :: w :: st) G Q := by
  intro p l e s m args below meth c D A H locs la C hM hS hl
  exact lv_dup_x1 C.1 C.2.1 hd hv hw (k C hM hS hl)
theorem cc_dup2 {v w : Value} (hd : decode Y.2.1 pc = .ok (.dup2, 1)) (hv : v.category = 1) (hw : w.category = 1) (k : cc_R cy Y z (pc + 1) ls (v :: w :: v :: w :: st) G Q) : cc_R cy Y z pc ls (v :: w :: st) G Q := by
  intro p l e s m args below meth c D A H locs la C hM hS hl
  exact lv_dup2_11 C.1 C.2.1 hd hv hw (k C hM hS hl)
theorem cc_goto {off : Int} {tgt : Nat} (hd : decode Y.2.1 pc = .ok (.goto off, 3)) (ht : (pc : Int) + off = (tgt : Int)) (k : cc_R cy Y z tgt ls st G Q) : cc_R cy Y z pc ls st G Q := by
  intro p l e s m args below meth c D A H locs la C hM hS hl
  exact lv_goto C.1 C.2.1 hd ht (k C hM hS hl)
theorem cc_if_eq {x : Int32} {off : Int} {tgt : Nat} (hd : decode Y.2.1 pc = .ok (.ifCond .eq off, 3)) (ht : (pc : Int) + off = (tgt : Int)) (kt : x = 0 → cc_R cy Y z tgt ls st G Q) (kf : ¬ x = 0 → cc_R cy Y z (pc + 3) ls st G Q) : cc_R cy Y z pc ls (.int x :: st) G Q := by
  intro p l e s m args below meth c D A H locs la C hM hS hl
  exact lv_if_eq C.1 C.2.1 hd ht (fun q => kt q C hM hS hl) (fun q => kf q C hM hS hl)
theorem cc_if_ne {x : Int32} {off : Int} {tgt : Nat} (hd : decode Y.2.1 pc = .ok (.ifCond .ne off, 3)) (ht : (pc : Int) + off = (tgt : Int)) (kt : ¬ x = 0 → cc_R cy Y z tgt ls st G Q) (kf : x = 0 → cc_R cy Y z (pc + 3) ls st G Q) : cc_R cy Y z pc ls (.int x :: st) G Q := by
  intro p l e s m args below meth c D A H locs la C hM hS hl
  exact lv_if_ne C.1 C.2.1 hd ht (fun q => kt q C hM hS hl) (fun q => kf q C hM hS hl)
theorem cc_if_lt {x : Int32} {off : Int} {tgt : Nat} (hd : decode Y.2.1 pc = .ok (.ifCond .lt off, 3)) (ht : (pc : Int) + off = (tgt : Int)) (kt : x < 0 → cc_R cy Y z tgt ls st G Q) (kf : ¬ x < 0 → cc_R cy Y z (pc + 3) ls st G Q) : cc_R cy Y z pc ls (.int x :: st) G Q := by
  intro p l e s m args below meth c D A H locs la C hM hS hl
  exact lv_if_lt C.1 C.2.1 hd ht (fun q => kt q C hM hS hl) (fun q => kf q C hM hS hl)
theorem cc_if_ge {x : Int32} {off : Int} {tgt : Nat} (hd : decode Y.2.1 pc = .ok (.ifCond .ge off, 3)) (ht : (pc : Int) + off = (tgt : Int)) (kt : 0 ≤ x → cc_R cy Y z tgt ls st G Q) (kf : ¬ 0 ≤ x → cc_R cy Y z (pc + 3) ls st G Q) : cc_R cy Y z pc ls (.int x :: st) G Q := by
  intro p l e s m args below meth c D A H locs la C hM hS hl
  exact lv_if_ge C.1 C.2.1 hd ht (fun q => kt q C hM hS hl) (fun q => kf q C hM hS hl)
theorem cc_if_gt {x : Int32} {off : Int} {tgt : Nat} (hd : decode Y.2.1 pc = .ok (.ifCond .gt off, 3)) (ht : (pc : Int) + off = (tgt : Int)) (kt : 0 < x → cc_R cy Y z tgt ls st G Q) (kf : ¬ 0 < x → cc_R cy Y z (pc + 3) ls st G Q) : cc_R cy Y z pc ls (.int x :: st) G Q := by
  intro p l e s m args below meth c D A H locs la C hM hS hl
  exact lv_if_gt C.1 C.2.1 hd ht (fun q => kt q C hM hS hl) (fun q => kf q C hM hS hl)
theorem cc_if_le {x : Int32} {off : Int} {tgt : Nat} (hd : decode Y.2.1 pc = .ok (.ifCond .le off, 3)) (ht : (pc : Int) + off = (tgt : Int)) (kt : x ≤ 0 → cc_R cy Y z tgt ls st G Q) (kf : ¬ x ≤ 0 → cc_R cy Y z (pc + 3) ls st G Q) : cc_R cy Y z pc ls (.int x :: st) G Q := by
  intro p l e s m args below meth c D A H locs la C hM hS hl
  exact lv_if_le C.1 C.2.1 hd ht (fun q => kt q C hM hS hl) (fun q => kf q C hM hS hl)
theorem cc_icmp_eq {x y : Int32} {off : Int} {tgt : Nat} (hd : decode Y.2.1 pc = .ok (.if_icmp .eq off, 3)) (ht : (pc : Int) + off = (tgt : Int)) (kt : x = y → cc_R cy Y z tgt ls st G Q) (kf : ¬ x = y → cc_R cy Y z (pc + 3) ls st G Q) : cc_R cy Y z pc ls (.int y :: .int x :: st) G Q := by
  intro p l e s m args below meth c D A H locs la C hM hS hl
  exact lv_icmp_eq C.1 C.2.1 hd ht (fun q => kt q C hM hS hl) (fun q => kf q C hM hS hl)
theorem cc_icmp_ne {x y : Int32} {off : Int} {tgt : Nat} (hd : decode Y.2.1 pc = .ok (.if_icmp .ne off, 3)) (ht : (pc : Int) + off = (tgt : Int)) (kt : ¬ x = y → cc_R cy Y z tgt ls st G Q) (kf : x = y → cc_R cy Y z (pc + 3) ls st G Q) : cc_R cy Y z pc ls (.int y :: .int x :: st) G Q := by
  intro p l e s m args below meth c D A H locs la C hM hS hl
  exact lv_icmp_ne C.1 C.2.1 hd ht (fun q => kt q C hM hS hl) (fun q => kf q C hM hS hl)
theorem cc_icmp_lt {x y : Int32} {off : Int} {tgt : Nat} (hd : decode Y.2.1 pc = .ok (.if_icmp .lt off, 3)) (ht : (pc : Int) + off = (tgt : Int)) (kt : x < y → cc_R cy Y z tgt ls st G Q) (kf : ¬ x < y → cc_R cy Y z (pc + 3) ls st G Q) : cc_R cy Y z pc ls (.int y :: .int x :: st) G Q := by
  intro p l e s m args below meth c D A H locs la C hM hS hl
  exact lv_icmp_lt C.1 C.2.1 hd ht (fun q => kt q C hM hS hl) (fun q => kf q C hM hS hl)
theorem cc_icmp_ge {x y : Int32} {off : Int} {tgt : Nat} (hd : decode Y.2.1 pc = .ok (.if_icmp .ge off, 3)) (ht : (pc : Int) + off = (tgt : Int)) (kt : y ≤ x → cc_R cy Y z tgt ls st G Q) (kf : ¬ y ≤ x → cc_R cy Y z (pc + 3) ls st G Q) : cc_R cy Y z pc ls (.int y :: .int x :: st) G Q := by
  intro p l e s m args below meth c D A H locs la C hM hS hl
  exact lv_icmp_ge C.1 C.2.1 hd ht (fun q => kt q C hM hS hl) (fun q => kf q C hM hS hl)
theorem cc_icmp_gt {x y : Int32} {off : Int} {tgt : Nat} (hd : decode Y.2.1 pc = .ok (.if_icmp .gt off, 3)) (ht : (pc : Int) + off = (tgt : Int)) (kt : y < x → cc_R cy Y z tgt ls st G Q) (kf : ¬ y < x → cc_R cy Y z (pc + 3) ls st G Q) : cc_R cy Y z pc ls (.int y :: .int x :: st) G Q := by
  intro p l e s m args below meth c D A H locs la C hM hS hl
  exact lv_icmp_gt C.1 C.2.1 hd ht (fun q => kt q C hM hS hl) (fun q => kf q C hM hS hl)
theorem cc_icmp_le {x y : Int32} {off : Int} {tgt : Nat} (hd : decode Y.2.1 pc = .ok (.if_icmp .le off, 3)) (ht : (pc : Int) + off = (tgt : Int)) (kt : x ≤ y → cc_R cy Y z tgt ls st G Q) (kf : ¬ x ≤ y → cc_R cy Y z (pc + 3) ls st G Q) : cc_R cy Y z pc ls (.int y :: .int x :: st) G Q := by
  intro p l e s m args below meth c D A H locs la C hM hS hl
  exact lv_icmp_le C.1 C.2.1 hd ht (fun q => kt q C hM hS hl) (fun q => kf q C hM hS hl)
theorem cc_tableOut {dflt lo hi : Int} {offs : Array Int} {len : Nat} {x : Int32} {tgt : Nat} (hd : decode Y.2.1 pc = .ok (.tableswitch dflt lo hi offs, len)) (h : x.toInt < lo ∨ hi < x.toInt) (ht : (pc : Int) + dflt = (tgt : Int)) (k : cc_R cy Y z tgt ls st G Q) : cc_R cy Y z pc ls (.int x :: st) G Q := by
  intro p l e s m args below meth c D A H locs la C hM hS hl
  exact lv_tableOut C.1 C.2.1 hd h ht (k C hM hS hl)
theorem cc_tableIn {dflt lo hi : Int} {offs : Array Int} {len : Nat} {x : Int32} {off : Int} {tgt : Nat} (hd : decode Y.2.1 pc = .ok (.tableswitch dflt lo hi offs, len)) (h1 : ¬ x.toInt < lo) (h2 : ¬ hi < x.toInt) (ho : offs[(x.toInt - lo).toNat]? = some off) (ht : (pc : Int) + off = (tgt : Int)) (k : cc_R cy Y z tgt ls st G Q) : cc_R cy Y z pc ls (.int x :: st) G Q := by
  intro p l e s m args below meth c D A H locs la C hM hS hl
  exact lv_tableIn C.1 C.2.1 hd h1 h2 ho ht (k C hM hS hl)
theorem cc_lookup {dflt : Int} {ps : Array (Int × Int)} {len : Nat} {x : Int32} {off : Int} {tgt : Nat} (hd : decode Y.2.1 pc = .ok (.lookupswitch dflt ps, len)) (hp : (ps.toList.zip (ps.toList.drop 1)).all (fun (a, next) => a.1 < next.1) = true) (ho : Op.lookupswitch.offset ps.toList dflt x.toInt = off) (ht : (pc : Int) + off = (tgt : Int)) (k : cc_R cy Y z tgt ls st G Q) : cc_R cy Y z pc ls (.int x :: st) G Q := by
  intro p l e s m args below meth c D A H locs la C hM hS hl
  exact lv_lookup C.1 C.2.1 hd hp ho ht (k C hM hS hl)
theorem cc_topi {x : Int32} (k : ∀ y : Int32, y = x → cc_R cy Y z pc ls (.int y :: st) G Q) : cc_R cy Y z pc ls (.int x :: st) G Q := k x rfl
theorem cc_get {a ci N idx : Nat} {T : u_T} {ty0 : Nat → FieldType} {fs : List Value} {v : Value} (hG : G a = some (.inr (ci, fs))) (hcl : cc_Cl ci Y.1.cls T N ty0) (k0 : Nat) (hk0 : k0 < N) (hln : Cond.fieldLink Y.1.cls idx (T k0).1 (T k0).2.1 (T k0).2.2.1 ∈ cc_GT) (hv : fs[k0]? = some v) (hd : decode Y.2.1 pc = .ok (.getfield idx, 3)) (k : cc_R cy Y z (pc + 3) ls (v :: st) G Q) : cc_R cy Y z pc ls (.ref a :: st) G Q := by
  intro p l e s m args below meth c D A H locs la C hM hS hl
  exact vm_get C.1 C.2.1 C.2.2.2.2.2.2.1 C.2.2.2.2.2.1 C.2.2.2.2.2.2.2.1 hM hG hcl k0 hk0 hln hv hd (k C hM hS hl)
theorem cc_put {a ci N idx : Nat} {T : u_T} {ty0 : Nat → FieldType} {fs : List Value} {v : Value} {ty : FieldType} (hG : G a = some (.inr (ci, fs))) (hcl : cc_Cl ci Y.1.cls T N ty0) (k0 : Nat) (hk0 : k0 < N) (hln : Cond.fieldLink Y.1.cls idx (T k0).1 (T k0).2.1 (T k0).2.2.1 ∈ cc_GT) (hfin : (T k0).2.2.2 = false) (hdt : parseFieldDescriptor (T k0).2.2.1 = some ty) (hn : narrow ty v = v) (hfit : fits ty v = true) (hlen : k0 < fs.length) (hd : decode Y.2.1 pc = .ok (.putfield idx, 3)) (k : cc_R cy Y z (pc + 3) ls st (va_up G a (some (.inr (ci, fs.set k0 v)))) Q) : cc_R cy Y z pc ls (v :: .ref a :: st) G Q := by
  intro p l e s m args below meth c D A H locs la C hM hS hl
  exact vm_put C.1 C.2.1 C.2.2.2.2.2.2.1 C.2.2.2.2.2.1 C.2.2.2.2.2.2.2.1 hM hS hG hcl k0 hk0 hln hfin hdt hn hfit hlen hd (fun H1 locs1 hM hS => k C hM hS hl)
theorem cc_getN {a ci N idx : Nat} {T : u_T} {ty0 : Nat → FieldType} {fs : List Value} {CC host : String} {v : Value} (hG : G a = some (.inr (ci, fs))) (hcl : cc_Cl ci CC T N ty0) (k0 : Nat) (hk0 : k0 < N) (hln : Cond.fieldLinkNest Y.1.cls idx (T k0).1 (T k0).2.1 (T k0).2.2.1 host ∈ cc_NT) (hv : fs[k0]? = some v) (hd : decode Y.2.1 pc = .ok (.getfield idx, 3)) (k : cc_R cy Y z (pc + 3) ls (v :: st) G Q) : cc_R cy Y z pc ls (.ref a :: st) G Q := by
  intro p l e s m args below meth c D A H locs la C hM hS hl
  exact vm_getN C.1 C.2.1 C.2.2.2.2.2.2.1 C.2.2.2.2.2.1 C.2.2.2.2.2.2.2.1 hM hG hcl k0 hk0 hln C.2.2.2.2.2.2.2.2 hv hd (k C hM hS hl)
theorem cc_putN {a ci N idx : Nat} {T : u_T} {ty0 : Nat → FieldType} {fs : List Value} {CC host : String} {v : Value} {ty : FieldType} (hG : G a = some (.inr (ci, fs))) (hcl : cc_Cl ci CC T N ty0) (k0 : Nat) (hk0 : k0 < N) (hln : Cond.fieldLinkNest Y.1.cls idx (T k0).1 (T k0).2.1 (T k0).2.2.1 host ∈ cc_NT) (hfin : (T k0).2.2.2 = false) (hdt : parseFieldDescriptor (T k0).2.2.1 = some ty) (hn : narrow ty v = v) (hfit : fits ty v = true) (hlen : k0 < fs.length) (hd : decode Y.2.1 pc = .ok (.putfield idx, 3)) (k : cc_R cy Y z (pc + 3) ls st (va_up G a (some (.inr (ci, fs.set k0 v)))) Q) : cc_R cy Y z pc ls (v :: .ref a :: st) G Q := by
  intro p l e s m args below meth c D A H locs la C hM hS hl
  exact vm_putN C.1 C.2.1 C.2.2.2.2.2.2.1 C.2.2.2.2.2.1 C.2.2.2.2.2.2.2.1 hM hS hG hcl k0 hk0 hln C.2.2.2.2.2.2.2.2 hfin hdt hn hfit hlen hd (fun H1 locs1 hM hS => k C hM hS hl)
theorem cc_iald {a n : Nat} {f : Nat → Int32} {i : Int32} {x : Int32} (hG : G a = some (.inl (cy 1, n, .inl f))) (hin : vp_in i n) (hx : f i.toNatClampNeg = x) (hd : decode Y.2.1 pc = .ok (.iaload, 1)) (k : cc_R cy Y z (pc + 1) ls (.int x :: st) G Q) : cc_R cy Y z pc ls (.int i :: .ref a :: st) G Q := by
  intro p l e s m args below meth c D A H locs la C hM hS hl
  subst hx
  exact vm_iald C.1 C.2.1 C.2.2.2.2.2.2.2.1 hM 1 hG rfl hin hd (k C hM hS hl)
theorem cc_cald {a n : Nat} {f : Nat → Int32} {i : Int32} {x : Int32} (hG : G a = some (.inl (cy 0, n, .inl f))) (hin : vp_in i n) (hx : f i.toNatClampNeg = x) (hd : decode Y.2.1 pc = .ok (.caload, 1)) (k : cc_R cy Y z (pc + 1) ls (.int x :: st) G Q) : cc_R cy Y z pc ls (.int i :: .ref a :: st) G Q := by
  intro p l e s m args below meth c D A H locs la C hM hS hl
  subst hx
  exact vm_cald C.1 C.2.1 C.2.2.2.2.2.2.2.1 hM 0 hG rfl hin hd (k C hM hS hl)
theorem cc_zald {a n : Nat} {f : Nat → Int32} {i : Int32} {x : Int32} (hG : G a = some (.inl (cy 2, n, .inl f))) (hin : vp_in i n) (hx : f i.toNatClampNeg = x) (hd : decode Y.2.1 pc = .ok (.baload, 1)) (k : cc_R cy Y z (pc + 1) ls (.int x :: st) G Q) : cc_R cy Y z pc ls (.int i :: .ref a :: st) G Q := by
  intro p l e s m args below meth c D A H locs la C hM hS hl
  subst hx
  exact vm_zald C.1 C.2.1 C.2.2.2.2.2.2.2.1 hM 2 hG rfl hin hd (k C hM hS hl)
theorem cc_iast {a n : Nat} {f : Nat → Int32} {i x : Int32} {j : Nat} (hG : G a = some (.inl (cy 1, n, .inl f))) (hin : vp_in i n) (hj : i.toNatClampNeg = j) (hd : decode Y.2.1 pc = .ok (.iastore, 1)) (k : cc_R cy Y z (pc + 1) ls st (va_up G a (some (.inl (cy 1, n, .inl (upd f j x))))) Q) : cc_R cy Y z pc ls (.int x :: .int i :: .ref a :: st) G Q := by
  intro p l e s m args below meth c D A H locs la C hM hS hl
  subst hj
  exact vm_iast C.1 C.2.1 C.2.2.2.2.2.2.2.1 hM hS 1 hG rfl hin hd (fun H1 locs1 hM hS => k C hM hS hl)
theorem cc_cast {a n : Nat} {f : Nat → Int32} {i x : Int32} {j : Nat} (hG : G a = some (.inl (cy 0, n, .inl f))) (hin : vp_in i n) (hj : i.toNatClampNeg = j) (hd : decode Y.2.1 pc = .ok (.castore, 1)) (k : cc_R cy Y z (pc + 1) ls st (va_up G a (some (.inl (cy 0, n, .inl (upd f j (vp_nar .char x)))))) Q) : cc_R cy Y z pc ls (.int x :: .int i :: .ref a :: st) G Q := by
  intro p l e s m args below meth c D A H locs la C hM hS hl
  subst hj
  exact vm_cast C.1 C.2.1 C.2.2.2.2.2.2.2.1 hM hS 0 hG rfl hin hd (fun H1 locs1 hM hS => k C hM hS hl)
theorem cc_zast {a n : Nat} {f : Nat → Int32} {i x : Int32} {j : Nat} (hG : G a = some (.inl (cy 2, n, .inl f))) (hin : vp_in i n) (hj : i.toNatClampNeg = j) (hd : decode Y.2.1 pc = .ok (.bastore, 1)) (k : cc_R cy Y z (pc + 1) ls st (va_up G a (some (.inl (cy 2, n, .inl (upd f j (vp_nar .boolean x)))))) Q) : cc_R cy Y z pc ls (.int x :: .int i :: .ref a :: st) G Q := by
  intro p l e s m args below meth c D A H locs la C hM hS hl
  subst hj
  exact vm_zast C.1 C.2.1 C.2.2.2.2.2.2.2.1 hM hS 2 hG rfl hin hd (fun H1 locs1 hM hS => k C hM hS hl)
theorem cc_aald3 {a n x : Nat} {f : Nat → Option Nat} {i : Int32} (hG : G a = some (.inl (cy 3, n, .inr (.inr (.inr (.inr f)))))) (hin : vp_in i n) (hx : f i.toNatClampNeg = some x) (hd : decode Y.2.1 pc = .ok (.aaload, 1)) (k : cc_R cy Y z (pc + 1) ls (.ref x :: st) G Q) : cc_R cy Y z pc ls (.int i :: .ref a :: st) G Q := by
  intro p l e s m args below meth c D A H locs la C hM hS hl
  exact vm_aald (C := RX0) C.1 C.2.1 C.2.2.2.2.2.2.2.1 hM 3 hG rfl hin hx hd (k C hM hS hl)
theorem cc_aald4 {a n x : Nat} {f : Nat → Option Nat} {i : Int32} (hG : G a = some (.inl (cy 4, n, .inr (.inr (.inr (.inr f)))))) (hin : vp_in i n) (hx : f i.toNatClampNeg = some x) (hd : decode Y.2.1 pc = .ok (.aaload, 1)) (k : cc_R cy Y z (pc + 1) ls (.ref x :: st) G Q) : cc_R cy Y z pc ls (.int i :: .ref a :: st) G Q := by
  intro p l e s m args below meth c D A H locs la C hM hS hl
  exact vm_aald (C := RX1) C.1 C.2.1 C.2.2.2.2.2.2.2.1 hM 4 hG rfl hin hx hd (k C hM hS hl)
theorem cc_aald5 {a n x : Nat} {f : Nat → Option Nat} {i : Int32} (hG : G a = some (.inl (cy 5, n, .inr (.inr (.inr (.inr f)))))) (hin : vp_in i n) (hx : f i.toNatClampNeg = some x) (hd : decode Y.2.1 pc = .ok (.aaload, 1)) (k : cc_R cy Y z (pc + 1) ls (.ref x :: st) G Q) : cc_R cy Y z pc ls (.int i :: .ref a :: st) G Q := by
  intro p l e s m args below meth c D A H locs la C hM hS hl
  exact vm_aald (C := RX2) C.1 C.2.1 C.2.2.2.2.2.2.2.1 hM 5 hG rfl hin hx hd (k C hM hS hl)
theorem cc_aast3 {a n v j : Nat} {vs : List Value} {f : Nat → Option Nat} {i : Int32} (hG : G a = some (.inl (cy 3, n, .inr (.inr (.inr (.inr f)))))) (hv : G v = some (.inr (0, vs))) (hin : vp_in i n) (hj : i.toNatClampNeg = j) (hd : decode Y.2.1 pc = .ok (.aastore, 1)) (k : cc_R cy Y z (pc + 1) ls st (va_up G a (some (.inl (cy 3, n, .inr (.inr (.inr (.inr (va_up f j (some v))))))))) Q) : cc_R cy Y z pc ls (.ref v :: .int i :: .ref a :: st) G Q := by
  intro p l e s m args below meth c D A H locs la C hM hS hl
  subst hj
  exact vm_aast (r := (RX0, TX0, 6)) C.1 C.2.1 C.2.2.2.2.2.2.2.1 hM hS 3 0 hG rfl hv rfl hin hd (fun H1 locs1 hM hS => k C hM hS hl)
theorem cc_copy {a a0 idx n0 n1 k0 : Nat} {f g : Nat → Int32} {n : Int32} (hln : Cond.methodLink Y.1.cls idx arraycopyName ∈ cc_GT) (hG0 : G a0 = some (.inl (cy 1, n0, .inl f))) (hG1 : G a = some (.inl (cy 1, n1, .inl g))) (hne : a0 ≠ a) (hk : n = nI k0) (hk2 : k0 < 2 ^ 31) (h4 : k0 ≤ n0) (h5 : k0 ≤ n1) (hR : 1 ≤ Y.2.2.2.2.frames ∧ (st.map fun v => v.category).sum + (nativeFrameWords "java/lang/System" "arraycopy" 5 + 11) ≤ Y.2.2.2.2.locals) (hd : decode Y.2.1 pc = .ok (.invokestatic idx, 3)) (k : cc_R cy Y z (pc + 3) ls st (va_up G a (some (.inl (cy 1, n1, .inl (va_cpy f g 0 0 k0))))) Q) : cc_R cy Y z pc ls (.int n :: .int 0 :: .ref a :: .int 0 :: .ref a0 :: st) G Q := by
  intro p l e s m args below meth c D A H locs la C hM hS hl
  subst hk
  have hz : ((0 : Int32)).toNatClampNeg = 0 := rfl
  have hc := nI_clamp hk2
  refine vm_copy C.1 C.2.1 (C.2.2.1.trans hl.1.symm) C.2.2.2.2.2.1 (C.2.2.2.2.2.2.1 _ hln) (C.2.2.2.2.2.2.1 _ nt_arraycopy) (C.2.2.2.2.2.2.1 _ st_arraycopy) (C.2.2.2.2.2.2.1 _ in_J10) C.2.2.2.2.2.2.2.1 hM hS 1 hG0 hG1 hne rfl (by decide) (by decide) (nI_pos hk2) (by rw [hz, hc]; omega) (by rw [hz, hc]; omega) hR.1 hR.2 hd (fun H1 locs1 hM hS => ?_)
  rw [hz, hc] at hM
  exact k C hM hS hl
theorem cc_min {idx : Nat} {x y : Int32} (hln : Cond.methodLink Y.1.cls idx yJ9_min_7cf53 ∈ cc_GT) (hR : 1 ≤ Y.2.2.2.2.frames ∧ (st.map fun v => v.category).sum + 13 ≤ Y.2.2.2.2.locals) (hd : decode Y.2.1 pc = .ok (.invokestatic idx, 3)) (k : cc_R cy Y z (pc + 3) ls (.int (if y < x then y else x) :: st) G Q) : cc_R cy Y z pc ls (.int y :: .int x :: st) G Q := by
  intro p l e s m args below meth c D A H locs la C hM hS hl
  exact va_mmin C.1 C.2.1 (C.2.2.1.trans hl.1.symm) C.2.2.2.2.2.1 (C.2.2.2.2.2.2.1 _ hln) (C.2.2.2.2.2.2.1 _ st_J9_min_7cf53) (C.2.2.2.2.2.2.1 _ in_J9) (C.2.2.2.2.2.2.1 _ cd_J9_min_7cf53) hR.1 hR.2 (Nat.zero_le _) (Nat.zero_le _) hd (k C hM hS hl)
theorem cc_iret {x : Int32} {ty : FieldType} (hY : Y.2.2.2.1 = some ty) (hn : narrow ty (.int x) = .int x) (hd : decode Y.2.1 pc = .ok (.ireturn, 1)) (h : Q (some (.int x)) G) : cc_R cy Y z pc ls [.int x] G Q := by
  intro p l e s m args below meth c D A H locs la C hM hS hl
  exact W.zret C.1 C.2.1 (C.2.2.2.1.trans hY) hn (fun t ht hW => ⟨⟨_, G, rfl, h, by rw [ht]; exact hM⟩, hS.F ht⟩) hS.2.2 hd C.2.2.2.2.1
theorem cc_vret (hY : Y.2.2.2.1 = none) (hd : decode Y.2.1 pc = .ok (.return_, 1)) (h : Q none G) : cc_R cy Y z pc ls [] G Q := by
  intro p l e s m args below meth c D A H locs la C hM hS hl
  exact W.vret C.1 C.2.1 (C.2.2.2.1.trans hY) (fun t ht hW => ⟨⟨_, G, rfl, h, by rw [ht]; exact hM⟩, hS.F ht⟩) hS.2.2 hd C.2.2.2.2.1
theorem cc_callVi {Y' : cc_Y} {idx : Nat} {As rest : List Value} {P : Int32 → cc_G → Prop} {ci N b : Nat} {T : u_T} {fs : List Value} (hC : cc_Cn cy Y' (.ref b :: As) z G (cc_qi P)) (ok : cc_Ok Y') (hbx : G b = some (.inr (ci, fs))) (hc : vwCl[ci]? = some (Y'.1.cls, T, N)) (him : Cond.instanceMethod Y'.1 ∈ cc_GT) (hsl : Cond.selects Y'.1.cls Y'.1 Y'.1 ∈ cc_GT) (hln : Cond.methodLink Y.1.cls idx Y'.1 ∈ cc_GT) (hn : (parseMethodDescriptor Y'.1.desc).map (fun d => d.parameters.length) = some As.length) (hR : Y'.2.2.2.2.frames + 1 ≤ Y.2.2.2.2.frames ∧ 8 + (Y'.2.2.1 + 11) + Y'.2.2.2.2.locals ≤ Y.2.2.2.2.locals) (hcat : (rest.map fun v => v.category).sum ≤ 8) (hst : st = As.reverse ++ .ref b :: rest) (hd : decode Y.2.1 pc = .ok (.invokevirtual idx, 3)) (k : ∀ (r : Int32) (G' : cc_G), P r G' → cc_R cy Y z (pc + 3) ls (.int r :: rest) G' Q) : cc_R cy Y z pc ls st G Q := by
  intro p l e s m args below meth c D A H locs la C hM hS hl
  exact vm_callV C.1 C.2.1 C.2.2.1 hl.1 C.2.2.2.2.2.1 C.2.2.2.2.2.2.1 C.2.2.2.2.2.2.2 hM hS hC ok hbx hc him hsl hln hn hR ⟨Nat.zero_le _, Nat.zero_le _⟩ hcat hst hd (fun v G' H1 locs1 hq hM hS => by
    obtain ⟨r, rfl, hp⟩ := hq
    exact k r G' hp C hM hS hl)
theorem cc_callVv {Y' : cc_Y} {idx : Nat} {As rest : List Value} {P : cc_G → Prop} {ci N b : Nat} {T : u_T} {fs : List Value} (hC : cc_Cn cy Y' (.ref b :: As) z G (cc_qv P)) (ok : cc_Ok Y') (hbx : G b = some (.inr (ci, fs))) (hc : vwCl[ci]? = some (Y'.1.cls, T, N)) (him : Cond.instanceMethod Y'.1 ∈ cc_GT) (hsl : Cond.selects Y'.1.cls Y'.1 Y'.1 ∈ cc_GT) (hln : Cond.methodLink Y.1.cls idx Y'.1 ∈ cc_GT) (hn : (parseMethodDescriptor Y'.1.desc).map (fun d => d.parameters.length) = some As.length) (hR : Y'.2.2.2.2.frames + 1 ≤ Y.2.2.2.2.frames ∧ 8 + (Y'.2.2.1 + 11) + Y'.2.2.2.2.locals ≤ Y.2.2.2.2.locals) (hcat : (rest.map fun v => v.category).sum ≤ 8) (hst : st = As.reverse ++ .ref b :: rest) (hd : decode Y.2.1 pc = .ok (.invokevirtual idx, 3)) (k : ∀ (G' : cc_G), P G' → cc_R cy Y z (pc + 3) ls rest G' Q) : cc_R cy Y z pc ls st G Q := by
  intro p l e s m args below meth c D A H locs la C hM hS hl
  exact vm_callV C.1 C.2.1 C.2.2.1 hl.1 C.2.2.2.2.2.1 C.2.2.2.2.2.2.1 C.2.2.2.2.2.2.2 hM hS hC ok hbx hc him hsl hln hn hR ⟨Nat.zero_le _, Nat.zero_le _⟩ hcat hst hd (fun v G' H1 locs1 hq hM hS => by
    obtain ⟨rfl, hp⟩ := hq
    exact k G' hp C hM hS hl)
theorem cc_callNi {Y' : cc_Y} {idx : Nat} {As rest : List Value} {P : Int32 → cc_G → Prop} {ci N b : Nat} {T : u_T} {fs : List Value} {host : String} (hC : cc_Cn cy Y' (.ref b :: As) z G (cc_qi P)) (ok : cc_Ok Y') (hbx : G b = some (.inr (ci, fs))) (hc : vwCl[ci]? = some (Y'.1.cls, T, N)) (him : Cond.instanceMethod Y'.1 ∈ cc_GT) (hsl : Cond.selects Y'.1.cls Y'.1 Y'.1 ∈ cc_GT) (hln : Cond.methodLinkNest Y.1.cls idx Y'.1 host ∈ cc_NT) (hn : (parseMethodDescriptor Y'.1.desc).map (fun d => d.parameters.length) = some As.length) (hR : Y'.2.2.2.2.frames + 1 ≤ Y.2.2.2.2.frames ∧ 8 + (Y'.2.2.1 + 11) + Y'.2.2.2.2.locals ≤ Y.2.2.2.2.locals) (hcat : (rest.map fun v => v.category).sum ≤ 8) (hst : st = As.reverse ++ .ref b :: rest) (hd : decode Y.2.1 pc = .ok (.invokevirtual idx, 3)) (k : ∀ (r : Int32) (G' : cc_G), P r G' → cc_R cy Y z (pc + 3) ls (.int r :: rest) G' Q) : cc_R cy Y z pc ls st G Q := by
  intro p l e s m args below meth c D A H locs la C hM hS hl
  exact vm_callVN C.1 C.2.1 C.2.2.1 hl.1 C.2.2.2.2.2.1 C.2.2.2.2.2.2.1 C.2.2.2.2.2.2.2 hM hS hC ok hbx hc him hsl hln hn hR ⟨Nat.zero_le _, Nat.zero_le _⟩ hcat hst hd (fun v G' H1 locs1 hq hM hS => by
    obtain ⟨r, rfl, hp⟩ := hq
    exact k r G' hp C hM hS hl)
theorem cc_callNv {Y' : cc_Y} {idx : Nat} {As rest : List Value} {P : cc_G → Prop} {ci N b : Nat} {T : u_T} {fs : List Value} {host : String} (hC : cc_Cn cy Y' (.ref b :: As) z G (cc_qv P)) (ok : cc_Ok Y') (hbx : G b = some (.inr (ci, fs))) (hc : vwCl[ci]? = some (Y'.1.cls, T, N)) (him : Cond.instanceMethod Y'.1 ∈ cc_GT) (hsl : Cond.selects Y'.1.cls Y'.1 Y'.1 ∈ cc_GT) (hln : Cond.methodLinkNest Y.1.cls idx Y'.1 host ∈ cc_NT) (hn : (parseMethodDescriptor Y'.1.desc).map (fun d => d.parameters.length) = some As.length) (hR : Y'.2.2.2.2.frames + 1 ≤ Y.2.2.2.2.frames ∧ 8 + (Y'.2.2.1 + 11) + Y'.2.2.2.2.locals ≤ Y.2.2.2.2.locals) (hcat : (rest.map fun v => v.category).sum ≤ 8) (hst : st = As.reverse ++ .ref b :: rest) (hd : decode Y.2.1 pc = .ok (.invokevirtual idx, 3)) (k : ∀ (G' : cc_G), P G' → cc_R cy Y z (pc + 3) ls rest G' Q) : cc_R cy Y z pc ls st G Q := by
  intro p l e s m args below meth c D A H locs la C hM hS hl
  exact vm_callVN C.1 C.2.1 C.2.2.1 hl.1 C.2.2.2.2.2.1 C.2.2.2.2.2.2.1 C.2.2.2.2.2.2.2 hM hS hC ok hbx hc him hsl hln hn hR ⟨Nat.zero_le _, Nat.zero_le _⟩ hcat hst hd (fun v G' H1 locs1 hq hM hS => by
    obtain ⟨rfl, hp⟩ := hq
    exact k G' hp C hM hS hl)
theorem cc_callSi {Y' : cc_Y} {idx : Nat} {As rest : List Value} {P : Int32 → cc_G → Prop}  (hC : cc_Cn cy Y' As z G (cc_qi P)) (ok : cc_Ok Y') (hstc : Cond.static Y'.1 ∈ cc_GT) (hln : Cond.methodLink Y.1.cls idx Y'.1 ∈ cc_GT) (hn : (parseMethodDescriptor Y'.1.desc).map (fun d => d.parameters.length) = some As.length) (hR : Y'.2.2.2.2.frames + 1 ≤ Y.2.2.2.2.frames ∧ 8 + (Y'.2.2.1 + 11) + Y'.2.2.2.2.locals ≤ Y.2.2.2.2.locals) (hcat : (rest.map fun v => v.category).sum ≤ 8) (hst : st = As.reverse ++ rest) (hd : decode Y.2.1 pc = .ok (.invokestatic idx, 3)) (k : ∀ (r : Int32) (G' : cc_G), P r G' → cc_R cy Y z (pc + 3) ls (.int r :: rest) G' Q) : cc_R cy Y z pc ls st G Q := by
  intro p l e s m args below meth c D A H locs la C hM hS hl
  exact vm_callS C.1 C.2.1 C.2.2.1 hl.1 C.2.2.2.2.2.1 C.2.2.2.2.2.2.1 C.2.2.2.2.2.2.2 hM hS hC ok hstc hln hn hR ⟨Nat.zero_le _, Nat.zero_le _⟩ hcat hst hd (fun v G' H1 locs1 hq hM hS => by
    obtain ⟨r, rfl, hp⟩ := hq
    exact k r G' hp C hM hS hl)
theorem cc_callSv {Y' : cc_Y} {idx : Nat} {As rest : List Value} {P : cc_G → Prop}  (hC : cc_Cn cy Y' As z G (cc_qv P)) (ok : cc_Ok Y') (hstc : Cond.static Y'.1 ∈ cc_GT) (hln : Cond.methodLink Y.1.cls idx Y'.1 ∈ cc_GT) (hn : (parseMethodDescriptor Y'.1.desc).map (fun d => d.parameters.length) = some As.length) (hR : Y'.2.2.2.2.frames + 1 ≤ Y.2.2.2.2.frames ∧ 8 + (Y'.2.2.1 + 11) + Y'.2.2.2.2.locals ≤ Y.2.2.2.2.locals) (hcat : (rest.map fun v => v.category).sum ≤ 8) (hst : st = As.reverse ++ rest) (hd : decode Y.2.1 pc = .ok (.invokestatic idx, 3)) (k : ∀ (G' : cc_G), P G' → cc_R cy Y z (pc + 3) ls rest G' Q) : cc_R cy Y z pc ls st G Q := by
  intro p l e s m args below meth c D A H locs la C hM hS hl
  exact vm_callS C.1 C.2.1 C.2.2.1 hl.1 C.2.2.2.2.2.1 C.2.2.2.2.2.2.1 C.2.2.2.2.2.2.2 hM hS hC ok hstc hln hn hR ⟨Nat.zero_le _, Nat.zero_le _⟩ hcat hst hd (fun v G' H1 locs1 hq hM hS => by
    obtain ⟨rfl, hp⟩ := hq
    exact k G' hp C hM hS hl)
theorem cc_callTi {Y' : cc_Y} {idx : Nat} {As rest : List Value} {P : Int32 → cc_G → Prop} {host : String} (hC : cc_Cn cy Y' As z G (cc_qi P)) (ok : cc_Ok Y') (hstc : Cond.static Y'.1 ∈ cc_GT) (hln : Cond.methodLinkNest Y.1.cls idx Y'.1 host ∈ cc_NT) (hn : (parseMethodDescriptor Y'.1.desc).map (fun d => d.parameters.length) = some As.length) (hR : Y'.2.2.2.2.frames + 1 ≤ Y.2.2.2.2.frames ∧ 8 + (Y'.2.2.1 + 11) + Y'.2.2.2.2.locals ≤ Y.2.2.2.2.locals) (hcat : (rest.map fun v => v.category).sum ≤ 8) (hst : st = As.reverse ++ rest) (hd : decode Y.2.1 pc = .ok (.invokestatic idx, 3)) (k : ∀ (r : Int32) (G' : cc_G), P r G' → cc_R cy Y z (pc + 3) ls (.int r :: rest) G' Q) : cc_R cy Y z pc ls st G Q := by
  intro p l e s m args below meth c D A H locs la C hM hS hl
  exact vm_callSN C.1 C.2.1 C.2.2.1 hl.1 C.2.2.2.2.2.1 C.2.2.2.2.2.2.1 C.2.2.2.2.2.2.2 hM hS hC ok hstc hln hn hR ⟨Nat.zero_le _, Nat.zero_le _⟩ hcat hst hd (fun v G' H1 locs1 hq hM hS => by
    obtain ⟨r, rfl, hp⟩ := hq
    exact k r G' hp C hM hS hl)
theorem cc_callTv {Y' : cc_Y} {idx : Nat} {As rest : List Value} {P : cc_G → Prop} {host : String} (hC : cc_Cn cy Y' As z G (cc_qv P)) (ok : cc_Ok Y') (hstc : Cond.static Y'.1 ∈ cc_GT) (hln : Cond.methodLinkNest Y.1.cls idx Y'.1 host ∈ cc_NT) (hn : (parseMethodDescriptor Y'.1.desc).map (fun d => d.parameters.length) = some As.length) (hR : Y'.2.2.2.2.frames + 1 ≤ Y.2.2.2.2.frames ∧ 8 + (Y'.2.2.1 + 11) + Y'.2.2.2.2.locals ≤ Y.2.2.2.2.locals) (hcat : (rest.map fun v => v.category).sum ≤ 8) (hst : st = As.reverse ++ rest) (hd : decode Y.2.1 pc = .ok (.invokestatic idx, 3)) (k : ∀ (G' : cc_G), P G' → cc_R cy Y z (pc + 3) ls rest G' Q) : cc_R cy Y z pc ls st G Q := by
  intro p l e s m args below meth c D A H locs la C hM hS hl
  exact vm_callSN C.1 C.2.1 C.2.2.1 hl.1 C.2.2.2.2.2.1 C.2.2.2.2.2.2.1 C.2.2.2.2.2.2.2 hM hS hC ok hstc hln hn hR ⟨Nat.zero_le _, Nat.zero_le _⟩ hcat hst hd (fun v G' H1 locs1 hq hM hS => by
    obtain ⟨rfl, hp⟩ := hq
    exact k G' hp C hM hS hl)
end CCR
