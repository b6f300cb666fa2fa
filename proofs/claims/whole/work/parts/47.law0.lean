/-! THE CLAIM OUT OF ONE WALK OF THE LAW'S BODY. Your part is whole_start (and what it stands on); all else here is the same for every law, but numbers. -/
def R_law : String := "ChairCreditsLaw"
def lw_P (b : Addr) (xs : List Int32) (args : Array Value) (s : State) : Prop := args = #[.ref b] ∧ s.IntsAt b xs ∧ xs.length ≤ 2048 ∧ (Jvm.Cond.and given_1 narrow_1).before args s = true
def lw_Q (_ : Array Value) (s : State) (o : Outcome) (t : State) : Prop := o = .returned (some (.int 1)) ∧ Framed s o t [] 600000 7302250
def lw_Z (below : List Frame) (a : Array Value) (s : State) : State → Prop := fun t => ∃ o, t.status = .running ∧ Ended t below o ∧ lw_Q a s o t
/-- the law's own end, with 1 on the stack, nothing written that was there before, its room as the claim has it -/
theorem lw_ret {p : Program} {l : Launch} {e : Env} {s : State} {m : MethodId} {below : List Frame} {meth : Method} {c : Code} {b : Nat} (hx : p.tables.exec = Jvm.exec) (hb : c.code = code) (hr : meth.sig.returnType = ret) (hlocks : meth.locks = false) {pc : Nat} {H : Heap} {ls : Array Slot} (hdg : decode code pc = .ok (.ireturn, 1)) : W p l e room_1 s m #[Value.ref b] below meth c H [] 600000 7302250 (lw_Z below #[Value.ref b] s) (F0 m pc ls [.int 1]) := by
  intro T hT X
  obtain ⟨fs, hret, hrun, hended, hW, hframe⟩ := X.leave (v := some (.int 1)) (hlocks := hlocks) (fun h => by rw [hr] at h; cases h)
  have hmeth' : T.vm.method? m = some meth := X.method'
  refine ⟨T.setFrames fs, ?_, .returned (some (.int 1)), hrun, hended, rfl, ⟨_, rfl⟩, hW, hframe⟩
  jvm_step X.here [X.here.top, hx, hb, hdg, hmeth', hr, ret, narrow_b1]
  (try refine ⟨rfl, ?_⟩); (try refine ⟨rfl, ?_⟩)
  first | (intro acts; rw [hret _ acts rfl rfl rfl]) | rw [hret _ _ rfl rfl rfl]
  exact Steps.refl _
/-- what holds at the law's entry: the machine, the code, the tables' words (any of lw_tbl by 'hts w (by decide +kernel)'), the script of L ints xs at the cell b, what the Statement gives of the start (any of its parts by flat_of_before) -/
def lw_At (p : Program) (s : State) (m : MethodId) (meth : Method) (c : Code) (b L : Nat) (xs : Nat → Int32) : Prop :=
  p.tables.exec = Jvm.exec ∧ c.code = code ∧ meth.sig.returnType = ret ∧ c.maxLocals = 4 ∧ s.vm.findClass R_law = some m.cls ∧ (∀ w ∈ lw_tbl, w.before #[Value.ref b] s = true) ∧ va_X b L xs s s.heap ∧ b < s.heap.size ∧ meth.locks = false ∧ (Jvm.Cond.and given_1 narrow_1).before #[Value.ref b] s = true
theorem cc_sw21 (x : Int32) : x = 0 ∨ x = 1 ∨ x = 2 ∨ x = 3 ∨ x = 4 ∨ x = 5 ∨ x = 6 ∨ x = 7 ∨ x = 8 ∨ x = 9 ∨ x = 10 ∨ x = 11 ∨ x = 12 ∨ x = 13 ∨ x = 14 ∨ x = 15 ∨ x = 16 ∨ x = 17 ∨ x = 18 ∨ x = 19 ∨ x = 20 ∨ x = 21 ∨ (x.toInt < 0 ∨ 21 < x.toInt) := by
  by_cases h : x.toInt < 0 ∨ 21 < x.toInt
  · exact Or.inr (Or.inr (Or.inr (Or.inr (Or.inr (Or.inr (Or.inr (Or.inr (Or.inr (Or.inr (Or.inr (Or.inr (Or.inr (Or.inr (Or.inr (Or.inr (Or.inr (Or.inr (Or.inr (Or.inr (Or.inr (Or.inr (h))))))))))))))))))))))
  · have h1 : 0 ≤ x.toInt := by omega
    have h2 : x.toInt ≤ 21 := by omega
    have key : ∀ k : Int32, x.toInt = k.toInt → x = k := fun k e => Int32.toInt_inj.mp e
    have : x.toInt = 0 ∨ x.toInt = 1 ∨ x.toInt = 2 ∨ x.toInt = 3 ∨ x.toInt = 4 ∨ x.toInt = 5 ∨ x.toInt = 6 ∨ x.toInt = 7 ∨ x.toInt = 8 ∨ x.toInt = 9 ∨ x.toInt = 10 ∨ x.toInt = 11 ∨ x.toInt = 12 ∨ x.toInt = 13 ∨ x.toInt = 14 ∨ x.toInt = 15 ∨ x.toInt = 16 ∨ x.toInt = 17 ∨ x.toInt = 18 ∨ x.toInt = 19 ∨ x.toInt = 20 ∨ x.toInt = 21 := by omega
    rcases this with e | e | e | e | e | e | e | e | e | e | e | e | e | e | e | e | e | e | e | e | e | e
    · exact Or.inl (key 0 (e.trans (by decide)))
    · exact Or.inr (Or.inl (key 1 (e.trans (by decide))))
    · exact Or.inr (Or.inr (Or.inl (key 2 (e.trans (by decide)))))
    · exact Or.inr (Or.inr (Or.inr (Or.inl (key 3 (e.trans (by decide))))))
    · exact Or.inr (Or.inr (Or.inr (Or.inr (Or.inl (key 4 (e.trans (by decide)))))))
    · exact Or.inr (Or.inr (Or.inr (Or.inr (Or.inr (Or.inl (key 5 (e.trans (by decide))))))))
    · exact Or.inr (Or.inr (Or.inr (Or.inr (Or.inr (Or.inr (Or.inl (key 6 (e.trans (by decide)))))))))
    · exact Or.inr (Or.inr (Or.inr (Or.inr (Or.inr (Or.inr (Or.inr (Or.inl (key 7 (e.trans (by decide))))))))))
    · exact Or.inr (Or.inr (Or.inr (Or.inr (Or.inr (Or.inr (Or.inr (Or.inr (Or.inl (key 8 (e.trans (by decide)))))))))))
    · exact Or.inr (Or.inr (Or.inr (Or.inr (Or.inr (Or.inr (Or.inr (Or.inr (Or.inr (Or.inl (key 9 (e.trans (by decide))))))))))))
    · exact Or.inr (Or.inr (Or.inr (Or.inr (Or.inr (Or.inr (Or.inr (Or.inr (Or.inr (Or.inr (Or.inl (key 10 (e.trans (by decide)))))))))))))
    · exact Or.inr (Or.inr (Or.inr (Or.inr (Or.inr (Or.inr (Or.inr (Or.inr (Or.inr (Or.inr (Or.inr (Or.inl (key 11 (e.trans (by decide))))))))))))))
    · exact Or.inr (Or.inr (Or.inr (Or.inr (Or.inr (Or.inr (Or.inr (Or.inr (Or.inr (Or.inr (Or.inr (Or.inr (Or.inl (key 12 (e.trans (by decide)))))))))))))))
    · exact Or.inr (Or.inr (Or.inr (Or.inr (Or.inr (Or.inr (Or.inr (Or.inr (Or.inr (Or.inr (Or.inr (Or.inr (Or.inr (Or.inl (key 13 (e.trans (by decide))))))))))))))))
    · exact Or.inr (Or.inr (Or.inr (Or.inr (Or.inr (Or.inr (Or.inr (Or.inr (Or.inr (Or.inr (Or.inr (Or.inr (Or.inr (Or.inr (Or.inl (key 14 (e.trans (by decide)))))))))))))))))
    · exact Or.inr (Or.inr (Or.inr (Or.inr (Or.inr (Or.inr (Or.inr (Or.inr (Or.inr (Or.inr (Or.inr (Or.inr (Or.inr (Or.inr (Or.inr (Or.inl (key 15 (e.trans (by decide))))))))))))))))))
    · exact Or.inr (Or.inr (Or.inr (Or.inr (Or.inr (Or.inr (Or.inr (Or.inr (Or.inr (Or.inr (Or.inr (Or.inr (Or.inr (Or.inr (Or.inr (Or.inr (Or.inl (key 16 (e.trans (by decide)))))))))))))))))))
    · exact Or.inr (Or.inr (Or.inr (Or.inr (Or.inr (Or.inr (Or.inr (Or.inr (Or.inr (Or.inr (Or.inr (Or.inr (Or.inr (Or.inr (Or.inr (Or.inr (Or.inr (Or.inl (key 17 (e.trans (by decide))))))))))))))))))))
    · exact Or.inr (Or.inr (Or.inr (Or.inr (Or.inr (Or.inr (Or.inr (Or.inr (Or.inr (Or.inr (Or.inr (Or.inr (Or.inr (Or.inr (Or.inr (Or.inr (Or.inr (Or.inr (Or.inl (key 18 (e.trans (by decide)))))))))))))))))))))
    · exact Or.inr (Or.inr (Or.inr (Or.inr (Or.inr (Or.inr (Or.inr (Or.inr (Or.inr (Or.inr (Or.inr (Or.inr (Or.inr (Or.inr (Or.inr (Or.inr (Or.inr (Or.inr (Or.inr (Or.inl (key 19 (e.trans (by decide))))))))))))))))))))))
    · exact Or.inr (Or.inr (Or.inr (Or.inr (Or.inr (Or.inr (Or.inr (Or.inr (Or.inr (Or.inr (Or.inr (Or.inr (Or.inr (Or.inr (Or.inr (Or.inr (Or.inr (Or.inr (Or.inr (Or.inr (Or.inl (key 20 (e.trans (by decide)))))))))))))))))))))))
    · exact Or.inr (Or.inr (Or.inr (Or.inr (Or.inr (Or.inr (Or.inr (Or.inr (Or.inr (Or.inr (Or.inr (Or.inr (Or.inr (Or.inr (Or.inr (Or.inr (Or.inr (Or.inr (Or.inr (Or.inr (Or.inr (Or.inl (key 21 (e.trans (by decide))))))))))))))))))))))))

theorem lw_arr {args : Array Value} {s : State} {ty : FieldType} (h : (Cond.arrayClass ty).before args s = true) : ∃ cA, ArrOfT s cA ty ∧ s.vm.findClass ("[" ++ ty.toString) = some cA := by
  obtain ⟨c, k, comp, h1, h2, h3⟩ := Cond.arrayClass_spec h
  exact ⟨c, fun n z => ⟨(fun q hq => by cases hq), k, h2, comp, h3⟩, h1⟩
theorem lw_arq {args : Array Value} {s : State} {C : String} (h : (Cond.arrayOver (.object C)).before args s = true) : ∃ cA, ArrOfT s cA (.object C) ∧ va_RA s cA (.object C) := by
  obtain ⟨comp, c, k, h1, -, h2, h3, h4⟩ := Cond.arrayOver_spec h
  exact ⟨c, fun n z => ⟨(fun q hq => by cases hq), k, h2, comp, h3⟩, k, comp, h2, h3, h1, h4⟩
theorem lw_start {args : Array Value} {s : State} (hts : ∀ w ∈ lw_tbl, w.before args s = true) : ∃ D cy, ci_X D cy s := by
  have hg : ∀ w ∈ cc_GT, w.before args s = true := fun w hw => hts w (List.mem_filter.mp hw).1
  obtain ⟨c0, i0, k0⟩ := u_known hg uw_X0 (hg _ ib_X0)
  obtain ⟨c1, i1, k1⟩ := u_known hg uw_X1 (hg _ ib_X1)
  obtain ⟨c2, i2, k2⟩ := u_known hg uw_X2 (hg _ ib_X2)
  obtain ⟨c3, i3, k3⟩ := u_known hg uw_X3 (hg _ ib_X3)
  obtain ⟨c4, i4, k4⟩ := u_known hg uw_X4 (hg _ ib_X4)
  obtain ⟨a0, e0, f0⟩ := lw_arr (hg _ ac_char)
  obtain ⟨a1, e1, f1⟩ := lw_arr (hg _ ac_int)
  obtain ⟨a2, e2, f2⟩ := lw_arr (hg _ ac_boolean)
  obtain ⟨a3, e3, f3⟩ := lw_arq (hts _ ao_objectChairCreditsBox)
  obtain ⟨a4, e4, f4⟩ := lw_arq (hts _ ao_objectChairCreditsLane)
  obtain ⟨a5, e5, f5⟩ := lw_arq (hts _ ao_objectChairCreditsQueue)
  refine ⟨(fun ci => match ci with | 0 => c0 | 1 => c1 | 2 => c2 | 3 => c3 | _ => c4, fun ci => match ci with | 0 => i0 | 1 => i1 | 2 => i2 | 3 => i3 | _ => i4), (fun k => match k with | 0 => a0 | 1 => a1 | 2 => a2 | 3 => a3 | 4 => a4 | _ => a5), ⟨⟨fun ci q hq => ?_, fun k q hk => ?_⟩, fun w hw => ?_⟩, va_AO.of (hts _ ao_objectChairCreditsBox), va_AO.of (hts _ ao_objectChairCreditsLane), va_AO.of (hts _ ao_objectChairCreditsQueue)⟩
  · match ci, hq with
    | 0, hq => cases hq; exact k0
    | 1, hq => cases hq; exact k1
    | 2, hq => cases hq; exact k2
    | 3, hq => cases hq; exact k3
    | 4, hq => cases hq; exact k4
    | k + 5, hq => simp at hq
  · match k, hk with
    | 0, hk => cases hk; exact ⟨e0, f0⟩
    | 1, hk => cases hk; exact ⟨e1, f1⟩
    | 2, hk => cases hk; exact ⟨e2, f2⟩
    | 3, hk => cases hk; exact ⟨e3, f3⟩
    | 4, hk => cases hk; exact ⟨e4, f4⟩
    | 5, hk => cases hk; exact ⟨e5, f5⟩
    | k + 6, hk => simp at hk
  · have hw0 := hts w (List.mem_append_right _ (List.mem_filter.mp hw).1)
    rcases cc_nest hw with ⟨a, i, b, n, d, x, rfl⟩ | ⟨a, i, y, x, rfl⟩
    · exact va_Nw.of rfl hw0
    · exact va_Nw.of rfl hw0
theorem ca_I.keep {cy : Nat → ClassId} {G0 G G1 : cc_G} {h : Nat} {c : CS_} (H : ca_I cy G0 G h c) (hk : ∀ q : Nat, h ≤ q → q < h + 220 → G1 q = G q) : ca_I cy G1 G1 h c := by
  obtain ⟨BS, hS, π, tx, ⟨-, h1, h2, h3, h4⟩, h5⟩ := H
  refine ⟨BS, hS, π, tx, ⟨fun _ _ => rfl, (hk _ (by omega) (by omega)).trans h1, fun k hk7 => (h2 k hk7).keep (fun q q1 q2 => hk q (by have := cb_in h hk7; omega) (by have := cb_in h hk7; omega)), (hk _ (by omega) (by omega)).trans h3, (hk _ (by omega) (by omega)).trans h4⟩, h5⟩
theorem ma_I.keep {cy : Nat → ClassId} {G0 G G1 : cc_G} {o : Nat} {c : CS_} (H : ma_I cy G0 G o c) (hk : ∀ q : Nat, o ≤ q → q < o + 8 → G1 q = G q) : ma_I cy G1 G1 o c := by
  obtain ⟨r, pa, qa, be, nn, ia, tx, le, ay, hs, so, ⟨-, h1, h2, h3, h4, h5, h6, h7, h8⟩, hr⟩ := H
  exact ⟨r, pa, qa, be, nn, ia, tx, le, ay, hs, so, ⟨fun _ _ => rfl, (hk _ (by omega) (by omega)).trans h1, (hk _ (by omega) (by omega)).trans h2, (hk _ (by omega) (by omega)).trans h3, (hk _ (by omega) (by omega)).trans h4, (hk _ (by omega) (by omega)).trans h5, (hk _ (by omega) (by omega)).trans h6, (hk _ (by omega) (by omega)).trans h7, (hk _ (by omega) (by omega)).trans h8⟩, hr⟩
theorem ca_I.fr {cy : Nat → ClassId} {G0 G : cc_G} {h : Nat} {c : CS_} (H : ca_I cy G0 G h c) : ∀ q : Nat, (q < h ∨ h + 220 ≤ q) → G q = G0 q := by
  obtain ⟨BS, hS, π, tx, h1, -⟩ := H
  exact h1.1
theorem ma_I.fr {cy : Nat → ClassId} {G0 G : cc_G} {o : Nat} {c : CS_} (H : ma_I cy G0 G o c) : ∀ q : Nat, (q < o ∨ o + 8 ≤ q) → G q = G0 q := by
  obtain ⟨r, pa, qa, be, nn, ia, tx, le, ay, hs, so, h1, -⟩ := H
  exact h1.1
theorem ma_I.obj {cy : Nat → ClassId} {G0 G : cc_G} {o : Nat} {c : CS_} (H : ma_I cy G0 G o c) : ∃ fs, G o = some (.inr (4, fs)) := by
  obtain ⟨r, pa, qa, be, nn, ia, tx, le, ay, hs, so, h1, -⟩ := H
  exact ⟨_, h1.2.1⟩
theorem C_ok_0 : C_ok 0 (B0_, none, [], []) := by
  refine ⟨⟨0, by omega, rfl, Or.inl rfl, ⟨0, Nat.le_refl 0, rfl⟩, fun j hj => ⟨⟨3, by omega, by omega, rfl⟩, ⟨2, by omega, by omega, rfl⟩, ⟨2, by omega, by omega, rfl⟩, ⟨0, by omega, rfl⟩, Nat.zero_le _, fun k hk => absurd hk (Nat.not_lt_zero k)⟩, fun j hj => ⟨Nat.zero_le _, fun p hp => (by cases hp)⟩⟩, fun s hs => (by cases hs), fun s hs => (by cases hs)⟩
theorem lw_char (x : Int32) : vp_nar .char ((x.toUInt32 % 65536).toInt32) = (x.toUInt32 % 65536).toInt32 := by
  show (((x.toUInt32 % 65536).toInt32).toUInt32 % 65536).toInt32 = _
  congr 1
  rw [UInt32.toUInt32_toInt32]
  apply UInt32.toNat_inj.mp
  simp
