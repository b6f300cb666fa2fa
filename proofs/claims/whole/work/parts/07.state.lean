theorem cc_sw1 (x : Int32) : x = 0 ∨ x = 1 ∨ (x.toInt < 0 ∨ 1 < x.toInt) := by
  by_cases h0 : x.toInt = 0
  · exact Or.inl (Int32.toInt_inj.mp h0)
  by_cases h1 : x.toInt = 1
  · exact Or.inr (Or.inl (Int32.toInt_inj.mp h1))
  exact Or.inr (Or.inr (by omega))
theorem cc_sw2 (x : Int32) : x = 0 ∨ x = 1 ∨ x = 2 ∨ (x.toInt < 0 ∨ 2 < x.toInt) := by
  by_cases h0 : x.toInt = 0
  · exact Or.inl (Int32.toInt_inj.mp h0)
  by_cases h1 : x.toInt = 1
  · exact Or.inr (Or.inl (Int32.toInt_inj.mp h1))
  by_cases h2 : x.toInt = 2
  · exact Or.inr (Or.inr (Or.inl (Int32.toInt_inj.mp h2)))
  exact Or.inr (Or.inr (Or.inr (by omega)))
theorem cc_sw3 (x : Int32) : x = 0 ∨ x = 1 ∨ x = 2 ∨ x = 3 ∨ (x.toInt < 0 ∨ 3 < x.toInt) := by
  by_cases h0 : x.toInt = 0
  · exact Or.inl (Int32.toInt_inj.mp h0)
  by_cases h1 : x.toInt = 1
  · exact Or.inr (Or.inl (Int32.toInt_inj.mp h1))
  by_cases h2 : x.toInt = 2
  · exact Or.inr (Or.inr (Or.inl (Int32.toInt_inj.mp h2)))
  by_cases h3 : x.toInt = 3
  · exact Or.inr (Or.inr (Or.inr (Or.inl (Int32.toInt_inj.mp h3))))
  exact Or.inr (Or.inr (Or.inr (Or.inr (by omega))))
theorem cc_sw4 (x : Int32) : x = 0 ∨ x = 1 ∨ x = 2 ∨ x = 3 ∨ x = 4 ∨ (x.toInt < 0 ∨ 4 < x.toInt) := by
  by_cases h0 : x.toInt = 0
  · exact Or.inl (Int32.toInt_inj.mp h0)
  by_cases h1 : x.toInt = 1
  · exact Or.inr (Or.inl (Int32.toInt_inj.mp h1))
  by_cases h2 : x.toInt = 2
  · exact Or.inr (Or.inr (Or.inl (Int32.toInt_inj.mp h2)))
  by_cases h3 : x.toInt = 3
  · exact Or.inr (Or.inr (Or.inr (Or.inl (Int32.toInt_inj.mp h3))))
  by_cases h4 : x.toInt = 4
  · exact Or.inr (Or.inr (Or.inr (Or.inr (Or.inl (Int32.toInt_inj.mp h4)))))
  exact Or.inr (Or.inr (Or.inr (Or.inr (Or.inr (by omega)))))
theorem cc_sw10 (x : Int32) : x = 0 ∨ x = 1 ∨ x = 2 ∨ x = 3 ∨ x = 4 ∨ x = 5 ∨ x = 6 ∨ x = 7 ∨ x = 8 ∨ x = 9 ∨ x = 10 ∨ (x.toInt < 0 ∨ 10 < x.toInt) := by
  by_cases h0 : x.toInt = 0
  · exact Or.inl (Int32.toInt_inj.mp h0)
  by_cases h1 : x.toInt = 1
  · exact Or.inr (Or.inl (Int32.toInt_inj.mp h1))
  by_cases h2 : x.toInt = 2
  · exact Or.inr (Or.inr (Or.inl (Int32.toInt_inj.mp h2)))
  by_cases h3 : x.toInt = 3
  · exact Or.inr (Or.inr (Or.inr (Or.inl (Int32.toInt_inj.mp h3))))
  by_cases h4 : x.toInt = 4
  · exact Or.inr (Or.inr (Or.inr (Or.inr (Or.inl (Int32.toInt_inj.mp h4)))))
  by_cases h5 : x.toInt = 5
  · exact Or.inr (Or.inr (Or.inr (Or.inr (Or.inr (Or.inl (Int32.toInt_inj.mp h5))))))
  by_cases h6 : x.toInt = 6
  · exact Or.inr (Or.inr (Or.inr (Or.inr (Or.inr (Or.inr (Or.inl (Int32.toInt_inj.mp h6)))))))
  by_cases h7 : x.toInt = 7
  · exact Or.inr (Or.inr (Or.inr (Or.inr (Or.inr (Or.inr (Or.inr (Or.inl (Int32.toInt_inj.mp h7))))))))
  by_cases h8 : x.toInt = 8
  · exact Or.inr (Or.inr (Or.inr (Or.inr (Or.inr (Or.inr (Or.inr (Or.inr (Or.inl (Int32.toInt_inj.mp h8)))))))))
  by_cases h9 : x.toInt = 9
  · exact Or.inr (Or.inr (Or.inr (Or.inr (Or.inr (Or.inr (Or.inr (Or.inr (Or.inr (Or.inl (Int32.toInt_inj.mp h9))))))))))
  by_cases h10 : x.toInt = 10
  · exact Or.inr (Or.inr (Or.inr (Or.inr (Or.inr (Or.inr (Or.inr (Or.inr (Or.inr (Or.inr (Or.inl (Int32.toInt_inj.mp h10)))))))))))
  exact Or.inr (Or.inr (Or.inr (Or.inr (Or.inr (Or.inr (Or.inr (Or.inr (Or.inr (Or.inr (Or.inr (by omega)))))))))))
theorem cc_sw11 (x : Int32) : x = 0 ∨ x = 1 ∨ x = 2 ∨ x = 3 ∨ x = 4 ∨ x = 5 ∨ x = 6 ∨ x = 7 ∨ x = 8 ∨ x = 9 ∨ x = 10 ∨ x = 11 ∨ (x.toInt < 0 ∨ 11 < x.toInt) := by
  by_cases h0 : x.toInt = 0
  · exact Or.inl (Int32.toInt_inj.mp h0)
  by_cases h1 : x.toInt = 1
  · exact Or.inr (Or.inl (Int32.toInt_inj.mp h1))
  by_cases h2 : x.toInt = 2
  · exact Or.inr (Or.inr (Or.inl (Int32.toInt_inj.mp h2)))
  by_cases h3 : x.toInt = 3
  · exact Or.inr (Or.inr (Or.inr (Or.inl (Int32.toInt_inj.mp h3))))
  by_cases h4 : x.toInt = 4
  · exact Or.inr (Or.inr (Or.inr (Or.inr (Or.inl (Int32.toInt_inj.mp h4)))))
  by_cases h5 : x.toInt = 5
  · exact Or.inr (Or.inr (Or.inr (Or.inr (Or.inr (Or.inl (Int32.toInt_inj.mp h5))))))
  by_cases h6 : x.toInt = 6
  · exact Or.inr (Or.inr (Or.inr (Or.inr (Or.inr (Or.inr (Or.inl (Int32.toInt_inj.mp h6)))))))
  by_cases h7 : x.toInt = 7
  · exact Or.inr (Or.inr (Or.inr (Or.inr (Or.inr (Or.inr (Or.inr (Or.inl (Int32.toInt_inj.mp h7))))))))
  by_cases h8 : x.toInt = 8
  · exact Or.inr (Or.inr (Or.inr (Or.inr (Or.inr (Or.inr (Or.inr (Or.inr (Or.inl (Int32.toInt_inj.mp h8)))))))))
  by_cases h9 : x.toInt = 9
  · exact Or.inr (Or.inr (Or.inr (Or.inr (Or.inr (Or.inr (Or.inr (Or.inr (Or.inr (Or.inl (Int32.toInt_inj.mp h9))))))))))
  by_cases h10 : x.toInt = 10
  · exact Or.inr (Or.inr (Or.inr (Or.inr (Or.inr (Or.inr (Or.inr (Or.inr (Or.inr (Or.inr (Or.inl (Int32.toInt_inj.mp h10)))))))))))
  by_cases h11 : x.toInt = 11
  · exact Or.inr (Or.inr (Or.inr (Or.inr (Or.inr (Or.inr (Or.inr (Or.inr (Or.inr (Or.inr (Or.inr (Or.inl (Int32.toInt_inj.mp h11))))))))))))
  exact Or.inr (Or.inr (Or.inr (Or.inr (Or.inr (Or.inr (Or.inr (Or.inr (Or.inr (Or.inr (Or.inr (Or.inr (by omega))))))))))))
theorem cc_sw12 (x : Int32) : x = 0 ∨ x = 1 ∨ x = 2 ∨ x = 3 ∨ x = 4 ∨ x = 5 ∨ x = 6 ∨ x = 7 ∨ x = 8 ∨ x = 9 ∨ x = 10 ∨ x = 11 ∨ x = 12 ∨ (x.toInt < 0 ∨ 12 < x.toInt) := by
  by_cases h0 : x.toInt = 0
  · exact Or.inl (Int32.toInt_inj.mp h0)
  by_cases h1 : x.toInt = 1
  · exact Or.inr (Or.inl (Int32.toInt_inj.mp h1))
  by_cases h2 : x.toInt = 2
  · exact Or.inr (Or.inr (Or.inl (Int32.toInt_inj.mp h2)))
  by_cases h3 : x.toInt = 3
  · exact Or.inr (Or.inr (Or.inr (Or.inl (Int32.toInt_inj.mp h3))))
  by_cases h4 : x.toInt = 4
  · exact Or.inr (Or.inr (Or.inr (Or.inr (Or.inl (Int32.toInt_inj.mp h4)))))
  by_cases h5 : x.toInt = 5
  · exact Or.inr (Or.inr (Or.inr (Or.inr (Or.inr (Or.inl (Int32.toInt_inj.mp h5))))))
  by_cases h6 : x.toInt = 6
  · exact Or.inr (Or.inr (Or.inr (Or.inr (Or.inr (Or.inr (Or.inl (Int32.toInt_inj.mp h6)))))))
  by_cases h7 : x.toInt = 7
  · exact Or.inr (Or.inr (Or.inr (Or.inr (Or.inr (Or.inr (Or.inr (Or.inl (Int32.toInt_inj.mp h7))))))))
  by_cases h8 : x.toInt = 8
  · exact Or.inr (Or.inr (Or.inr (Or.inr (Or.inr (Or.inr (Or.inr (Or.inr (Or.inl (Int32.toInt_inj.mp h8)))))))))
  by_cases h9 : x.toInt = 9
  · exact Or.inr (Or.inr (Or.inr (Or.inr (Or.inr (Or.inr (Or.inr (Or.inr (Or.inr (Or.inl (Int32.toInt_inj.mp h9))))))))))
  by_cases h10 : x.toInt = 10
  · exact Or.inr (Or.inr (Or.inr (Or.inr (Or.inr (Or.inr (Or.inr (Or.inr (Or.inr (Or.inr (Or.inl (Int32.toInt_inj.mp h10)))))))))))
  by_cases h11 : x.toInt = 11
  · exact Or.inr (Or.inr (Or.inr (Or.inr (Or.inr (Or.inr (Or.inr (Or.inr (Or.inr (Or.inr (Or.inr (Or.inl (Int32.toInt_inj.mp h11))))))))))))
  by_cases h12 : x.toInt = 12
  · exact Or.inr (Or.inr (Or.inr (Or.inr (Or.inr (Or.inr (Or.inr (Or.inr (Or.inr (Or.inr (Or.inr (Or.inr (Or.inl (Int32.toInt_inj.mp h12)))))))))))))
  exact Or.inr (Or.inr (Or.inr (Or.inr (Or.inr (Or.inr (Or.inr (Or.inr (Or.inr (Or.inr (Or.inr (Or.inr (Or.inr (by omega)))))))))))))
theorem cc_sw13 (x : Int32) : x = 0 ∨ x = 1 ∨ x = 2 ∨ x = 3 ∨ x = 4 ∨ x = 5 ∨ x = 6 ∨ x = 7 ∨ x = 8 ∨ x = 9 ∨ x = 10 ∨ x = 11 ∨ x = 12 ∨ x = 13 ∨ (x.toInt < 0 ∨ 13 < x.toInt) := by
  by_cases h0 : x.toInt = 0
  · exact Or.inl (Int32.toInt_inj.mp h0)
  by_cases h1 : x.toInt = 1
  · exact Or.inr (Or.inl (Int32.toInt_inj.mp h1))
  by_cases h2 : x.toInt = 2
  · exact Or.inr (Or.inr (Or.inl (Int32.toInt_inj.mp h2)))
  by_cases h3 : x.toInt = 3
  · exact Or.inr (Or.inr (Or.inr (Or.inl (Int32.toInt_inj.mp h3))))
  by_cases h4 : x.toInt = 4
  · exact Or.inr (Or.inr (Or.inr (Or.inr (Or.inl (Int32.toInt_inj.mp h4)))))
  by_cases h5 : x.toInt = 5
  · exact Or.inr (Or.inr (Or.inr (Or.inr (Or.inr (Or.inl (Int32.toInt_inj.mp h5))))))
  by_cases h6 : x.toInt = 6
  · exact Or.inr (Or.inr (Or.inr (Or.inr (Or.inr (Or.inr (Or.inl (Int32.toInt_inj.mp h6)))))))
  by_cases h7 : x.toInt = 7
  · exact Or.inr (Or.inr (Or.inr (Or.inr (Or.inr (Or.inr (Or.inr (Or.inl (Int32.toInt_inj.mp h7))))))))
  by_cases h8 : x.toInt = 8
  · exact Or.inr (Or.inr (Or.inr (Or.inr (Or.inr (Or.inr (Or.inr (Or.inr (Or.inl (Int32.toInt_inj.mp h8)))))))))
  by_cases h9 : x.toInt = 9
  · exact Or.inr (Or.inr (Or.inr (Or.inr (Or.inr (Or.inr (Or.inr (Or.inr (Or.inr (Or.inl (Int32.toInt_inj.mp h9))))))))))
  by_cases h10 : x.toInt = 10
  · exact Or.inr (Or.inr (Or.inr (Or.inr (Or.inr (Or.inr (Or.inr (Or.inr (Or.inr (Or.inr (Or.inl (Int32.toInt_inj.mp h10)))))))))))
  by_cases h11 : x.toInt = 11
  · exact Or.inr (Or.inr (Or.inr (Or.inr (Or.inr (Or.inr (Or.inr (Or.inr (Or.inr (Or.inr (Or.inr (Or.inl (Int32.toInt_inj.mp h11))))))))))))
  by_cases h12 : x.toInt = 12
  · exact Or.inr (Or.inr (Or.inr (Or.inr (Or.inr (Or.inr (Or.inr (Or.inr (Or.inr (Or.inr (Or.inr (Or.inr (Or.inl (Int32.toInt_inj.mp h12)))))))))))))
  by_cases h13 : x.toInt = 13
  · exact Or.inr (Or.inr (Or.inr (Or.inr (Or.inr (Or.inr (Or.inr (Or.inr (Or.inr (Or.inr (Or.inr (Or.inr (Or.inr (Or.inl (Int32.toInt_inj.mp h13))))))))))))))
  exact Or.inr (Or.inr (Or.inr (Or.inr (Or.inr (Or.inr (Or.inr (Or.inr (Or.inr (Or.inr (Or.inr (Or.inr (Or.inr (Or.inr (by omega))))))))))))))
theorem cc_lk1 {x : Int32} {o0 o1 d : Int} (h : x.toInt < 0 ∨ 1 < x.toInt) : Op.lookupswitch.offset [(0, o0), (1, o1)] d x.toInt = d := by
  rw [Op.lookupswitch.offset_cons, if_neg (by omega), Op.lookupswitch.offset_cons, if_neg (by omega)]
  rfl
/-- the first places of a row hold a list -/
def ar_ (f : Nat → Int32) (l : List Int32) : Prop := ∀ (k : Nat) (h : k < l.length), f k = l[k]
theorem ar_.push {f : Nat → Int32} {l : List Int32} (h : ar_ f l) (x : Int32) : ar_ (upd f l.length x) (l ++ [x]) := by
  intro k hk
  by_cases hq : k = l.length
  · subst hq
    simp [upd]
  · have hk2 : k < l.length := by simp at hk; omega
    rw [List.getElem_append_left hk2]
    simp [upd, hq, h k hk2]
theorem ar_.shift {f f' : Nat → Int32} {l : List Int32} (h : ar_ f l) (hf : ∀ k, k + 1 < l.length → f' k = f (k + 1)) : ar_ f' l.tail := by
  intro k hk
  simp at hk
  rw [hf k (by omega), h (k + 1) (by omega)]
  simp
theorem ar_.eq {f f' : Nat → Int32} {l : List Int32} (h : ar_ f l) (hf : ∀ k, k < l.length → f' k = f k) : ar_ f' l := fun k hk => (hf k hk).trans (h k hk)
theorem ar_.nil {f : Nat → Int32} : ar_ f [] := fun k hk => absurd hk (by simp)
/-! a lane: nine numbers, the packets that are seated, the credits on their way -/
def ln_fs (a : Nat) (v : Nat → Int32) (nS nW : Int32) : List Value := [.int (v 0), .int (v 1), .int (v 2), .int (v 3), .int (v 4), .int (v 5), .int (v 6), .int (v 7), .int (v 8), .ref (a + 1), .int nS, .ref (a + 2), .int nW]
/-- the cells of a lane from a on, and nothing but them differs from the world G0 -/
def ln_R (cy : Nat → ClassId) (G0 G : cc_G) (a : Nat) (v : Nat → Int32) (nS : Int32) (f : Nat → Int32) (nW : Int32) (g : Nat → Int32) : Prop :=
  (∀ q : Nat, (q < a ∨ a + 3 ≤ q) → G q = G0 q) ∧ G a = some (.inr (1, ln_fs a v nS nW)) ∧ G (a + 1) = some (.inl (cy 1, 8, .inl f)) ∧ G (a + 2) = some (.inl (cy 1, 6, .inl g))
abbrev Ln_ : Type := (Nat → Int32) × List Int32 × List Int32
def ln_I (cy : Nat → ClassId) (G0 G : cc_G) (a : Nat) (L : Ln_) : Prop := ∃ f g, ln_R cy G0 G a L.1 (nI L.2.1.length) f (nI L.2.2.length) g ∧ ar_ f L.2.1 ∧ ar_ g L.2.2 ∧ L.2.1.length ≤ 8 ∧ L.2.2.length ≤ 6
theorem ln_R.self {cy : Nat → ClassId} {G0 G : cc_G} {a : Nat} {v f g : Nat → Int32} {nS nW : Int32} (h : ln_R cy G0 G a v nS f nW g) : ln_R cy G G a v nS f nW g := ⟨fun _ _ => rfl, h.2⟩
theorem ln_R.tr {cy : Nat → ClassId} {G0 G1 G2 : cc_G} {a : Nat} {v v' f f' g g' : Nat → Int32} {nS nS' nW nW' : Int32} (h : ln_R cy G0 G1 a v nS f nW g) (h2 : ln_R cy G1 G2 a v' nS' f' nW' g') : ln_R cy G0 G2 a v' nS' f' nW' g' := ⟨fun q hq => (h2.1 q hq).trans (h.1 q hq), h2.2⟩
theorem ln_I.self {cy : Nat → ClassId} {G0 G : cc_G} {a : Nat} {L : Ln_} (h : ln_I cy G0 G a L) : ln_I cy G G a L := by
  obtain ⟨f, g, h1, h2⟩ := h
  exact ⟨f, g, h1.self, h2⟩
theorem ln_I.tr {cy : Nat → ClassId} {G0 G1 G2 : cc_G} {a : Nat} {L L' : Ln_} (h : ln_I cy G0 G1 a L) (h2 : ln_I cy G1 G2 a L') : ln_I cy G0 G2 a L' := by
  obtain ⟨f, g, h1, -⟩ := h
  obtain ⟨f', g', h3, h4⟩ := h2
  exact ⟨f', g', h1.tr h3, h4⟩
section LNR
variable {cy : Nat → ClassId} {Y : cc_Y} {z pc : Nat} {ls : List (Nat × Value)} {st : List Value} {G0 G : cc_G} {Q : Option Value → cc_G → Prop} {a idx : Nat} {v v' f g : Nat → Int32} {nS nS' nW nW' x : Int32}
theorem ln_rput (hL : ln_R cy G0 G a v nS f nW g) (hcl : cc_Cl 1 Y.1.cls TX1 13 tyX1) (k0 : Nat) (hk0 : k0 < 13) (hln : Cond.fieldLink Y.1.cls idx (TX1 k0).1 (TX1 k0).2.1 (TX1 k0).2.2.1 ∈ cc_GT) (hfin : (TX1 k0).2.2.2 = false) (hdt : parseFieldDescriptor (TX1 k0).2.2.1 = some .int) (hset : (ln_fs a v nS nW).set k0 (.int x) = ln_fs a v' nS' nW') (hd : decode Y.2.1 pc = .ok (.putfield idx, 3)) (k : ∀ G1, ln_R cy G0 G1 a v' nS' f nW' g → cc_R cy Y z (pc + 3) ls st G1 Q) : cc_R cy Y z pc ls (.int x :: .ref a :: st) G Q := by
  refine cc_put hL.2.1 hcl k0 hk0 hln hfin hdt rfl rfl hk0 hd ?_
  rw [hset]
  exact k _ ⟨fun q hq => by rw [va_up_ne _ _ (by omega)]; exact hL.1 q hq, va_up_self _ _ _, by rw [va_up_ne _ _ (by omega)]; exact hL.2.2.1, by rw [va_up_ne _ _ (by omega)]; exact hL.2.2.2⟩
theorem ln_rputN {host : String} (hL : ln_R cy G0 G a v nS f nW g) (k0 : Nat) (hk0 : k0 < 13) (hln : Cond.fieldLinkNest Y.1.cls idx (TX1 k0).1 (TX1 k0).2.1 (TX1 k0).2.2.1 host ∈ cc_NT) (hfin : (TX1 k0).2.2.2 = false) (hdt : parseFieldDescriptor (TX1 k0).2.2.1 = some .int) (hset : (ln_fs a v nS nW).set k0 (.int x) = ln_fs a v' nS' nW') (hd : decode Y.2.1 pc = .ok (.putfield idx, 3)) (k : ∀ G1, ln_R cy G0 G1 a v' nS' f nW' g → cc_R cy Y z (pc + 3) ls st G1 Q) : cc_R cy Y z pc ls (.int x :: .ref a :: st) G Q := by
  refine cc_putN hL.2.1 cc_c1 k0 hk0 hln hfin hdt rfl rfl hk0 hd ?_
  rw [hset]
  exact k _ ⟨fun q hq => by rw [va_up_ne _ _ (by omega)]; exact hL.1 q hq, va_up_self _ _ _, by rw [va_up_ne _ _ (by omega)]; exact hL.2.2.1, by rw [va_up_ne _ _ (by omega)]; exact hL.2.2.2⟩
theorem ln_rastS {i : Int32} {j : Nat} (hL : ln_R cy G0 G a v nS f nW g) (hin : vp_in i 8) (hj : i.toNatClampNeg = j) (hd : decode Y.2.1 pc = .ok (.iastore, 1)) (k : ∀ G1, ln_R cy G0 G1 a v nS (upd f j x) nW g → cc_R cy Y z (pc + 1) ls st G1 Q) : cc_R cy Y z pc ls (.int x :: .int i :: .ref (a + 1) :: st) G Q := by
  refine cc_iast hL.2.2.1 hin hj hd ?_
  exact k _ ⟨fun q hq => by rw [va_up_ne _ _ (by omega)]; exact hL.1 q hq, by rw [va_up_ne _ _ (by omega)]; exact hL.2.1, va_up_self _ _ _, by rw [va_up_ne _ _ (by omega)]; exact hL.2.2.2⟩
theorem ln_rastW {i : Int32} {j : Nat} (hL : ln_R cy G0 G a v nS f nW g) (hin : vp_in i 6) (hj : i.toNatClampNeg = j) (hd : decode Y.2.1 pc = .ok (.iastore, 1)) (k : ∀ G1, ln_R cy G0 G1 a v nS f nW (upd g j x) → cc_R cy Y z (pc + 1) ls st G1 Q) : cc_R cy Y z pc ls (.int x :: .int i :: .ref (a + 2) :: st) G Q := by
  refine cc_iast hL.2.2.2 hin hj hd ?_
  exact k _ ⟨fun q hq => by rw [va_up_ne _ _ (by omega)]; exact hL.1 q hq, by rw [va_up_ne _ _ (by omega)]; exact hL.2.1, by rw [va_up_ne _ _ (by omega)]; exact hL.2.2.1, va_up_self _ _ _⟩
end LNR
/-! each method: its name, code, locals, answer, room -/
def Y_X3_setLane : cc_Y := (yX3_setLane, cX3_setLane, 6, (some .int), { frames := 4, cells := 0, slots := 0, locals := 103 })
theorem nd_X3_setLane : (parseMethodDescriptor yX3_setLane.desc).map (fun d => d.parameters.length) = some 3 := by decide +kernel
theorem ok_X3_setLane : cc_Ok Y_X3_setLane := ⟨cd_X3_setLane, in_X3, by decide +kernel, ⟨by decide +kernel, by decide +kernel⟩, rfl, rfl⟩
def Y_X3_isPort : cc_Y := (yX3_isPort, cX3_isPort, 1, (some .boolean), { frames := 0, cells := 0, slots := 0, locals := 0 })
theorem nd_X3_isPort : (parseMethodDescriptor yX3_isPort.desc).map (fun d => d.parameters.length) = some 1 := by decide +kernel
theorem ok_X3_isPort : cc_Ok Y_X3_isPort := ⟨cd_X3_isPort, in_X3, by decide +kernel, ⟨by decide +kernel, by decide +kernel⟩, rfl, rfl⟩
def Y_X3_mostOfLane : cc_Y := (yX3_mostOfLane, cX3_mostOfLane, 1, (some .int), { frames := 0, cells := 0, slots := 0, locals := 0 })
theorem nd_X3_mostOfLane : (parseMethodDescriptor yX3_mostOfLane.desc).map (fun d => d.parameters.length) = some 1 := by decide +kernel
theorem ok_X3_mostOfLane : cc_Ok Y_X3_mostOfLane := ⟨cd_X3_mostOfLane, in_X3, by decide +kernel, ⟨by decide +kernel, by decide +kernel⟩, rfl, rfl⟩
def Y_X1_setting : cc_Y := (yX1_setting, cX1_setting, 2, (some .int), { frames := 0, cells := 0, slots := 0, locals := 0 })
theorem nd_X1_setting : (parseMethodDescriptor yX1_setting.desc).map (fun d => d.parameters.length) = some 1 := by decide +kernel
theorem ok_X1_setting : cc_Ok Y_X1_setting := ⟨cd_X1_setting, in_X1, by decide +kernel, ⟨by decide +kernel, by decide +kernel⟩, rfl, rfl⟩
def Y_X3_remember : cc_Y := (yX3_remember, cX3_remember, 1, none, { frames := 3, cells := 0, slots := 0, locals := 83 })
theorem nd_X3_remember : (parseMethodDescriptor yX3_remember.desc).map (fun d => d.parameters.length) = some 0 := by decide +kernel
theorem ok_X3_remember : cc_Ok Y_X3_remember := ⟨cd_X3_remember, in_X3, by decide +kernel, ⟨by decide +kernel, by decide +kernel⟩, rfl, rfl⟩
def Y_X3_dropOldest : cc_Y := (yX3_dropOldest, cX3_dropOldest, 3, none, { frames := 0, cells := 0, slots := 0, locals := 0 })
theorem nd_X3_dropOldest : (parseMethodDescriptor yX3_dropOldest.desc).map (fun d => d.parameters.length) = some 0 := by decide +kernel
theorem ok_X3_dropOldest : cc_Ok Y_X3_dropOldest := ⟨cd_X3_dropOldest, in_X3, by decide +kernel, ⟨by decide +kernel, by decide +kernel⟩, rfl, rfl⟩
def Y_X0_copyFrom : cc_Y := (yX0_copyFrom, cX0_copyFrom, 3, none, { frames := 2, cells := 0, slots := 0, locals := 61 })
theorem nd_X0_copyFrom : (parseMethodDescriptor yX0_copyFrom.desc).map (fun d => d.parameters.length) = some 1 := by decide +kernel
theorem ok_X0_copyFrom : cc_Ok Y_X0_copyFrom := ⟨cd_X0_copyFrom, in_X0, by decide +kernel, ⟨by decide +kernel, by decide +kernel⟩, rfl, rfl⟩
def Y_X1_copyFrom : cc_Y := (yX1_copyFrom, cX1_copyFrom, 2, none, { frames := 1, cells := 0, slots := 0, locals := 40 })
theorem nd_X1_copyFrom : (parseMethodDescriptor yX1_copyFrom.desc).map (fun d => d.parameters.length) = some 1 := by decide +kernel
theorem ok_X1_copyFrom : cc_Ok Y_X1_copyFrom := ⟨cd_X1_copyFrom, in_X1, by decide +kernel, ⟨by decide +kernel, by decide +kernel⟩, rfl, rfl⟩
def Y_X2_copyFrom : cc_Y := (yX2_copyFrom, cX2_copyFrom, 2, none, { frames := 1, cells := 0, slots := 0, locals := 40 })
theorem nd_X2_copyFrom : (parseMethodDescriptor yX2_copyFrom.desc).map (fun d => d.parameters.length) = some 1 := by decide +kernel
theorem ok_X2_copyFrom : cc_Ok Y_X2_copyFrom := ⟨cd_X2_copyFrom, in_X2, by decide +kernel, ⟨by decide +kernel, by decide +kernel⟩, rfl, rfl⟩
def Y_X1_change : cc_Y := (yX1_change, cX1_change, 3, none, { frames := 0, cells := 0, slots := 0, locals := 0 })
theorem nd_X1_change : (parseMethodDescriptor yX1_change.desc).map (fun d => d.parameters.length) = some 2 := by decide +kernel
theorem ok_X1_change : cc_Ok Y_X1_change := ⟨cd_X1_change, in_X1, by decide +kernel, ⟨by decide +kernel, by decide +kernel⟩, rfl, rfl⟩
def Y_X3_set : cc_Y := (yX3_set, cX3_set, 4, (some .int), { frames := 4, cells := 0, slots := 0, locals := 103 })
theorem nd_X3_set : (parseMethodDescriptor yX3_set.desc).map (fun d => d.parameters.length) = some 2 := by decide +kernel
theorem ok_X3_set : cc_Ok Y_X3_set := ⟨cd_X3_set, in_X3, by decide +kernel, ⟨by decide +kernel, by decide +kernel⟩, rfl, rfl⟩
def Y_X3_mostOfBox : cc_Y := (yX3_mostOfBox, cX3_mostOfBox, 1, (some .int), { frames := 0, cells := 0, slots := 0, locals := 0 })
theorem nd_X3_mostOfBox : (parseMethodDescriptor yX3_mostOfBox.desc).map (fun d => d.parameters.length) = some 1 := by decide +kernel
theorem ok_X3_mostOfBox : cc_Ok Y_X3_mostOfBox := ⟨cd_X3_mostOfBox, in_X3, by decide +kernel, ⟨by decide +kernel, by decide +kernel⟩, rfl, rfl⟩
def Y_X3_arrive : cc_Y := (yX3_arrive, cX3_arrive, 3, (some .int), { frames := 4, cells := 0, slots := 0, locals := 103 })
theorem nd_X3_arrive : (parseMethodDescriptor yX3_arrive.desc).map (fun d => d.parameters.length) = some 2 := by decide +kernel
theorem ok_X3_arrive : cc_Ok Y_X3_arrive := ⟨cd_X3_arrive, in_X3, by decide +kernel, ⟨by decide +kernel, by decide +kernel⟩, rfl, rfl⟩
def Y_X0_hasRoom : cc_Y := (yX0_hasRoom, cX0_hasRoom, 3, (some .boolean), { frames := 1, cells := 0, slots := 0, locals := 20 })
theorem nd_X0_hasRoom : (parseMethodDescriptor yX0_hasRoom.desc).map (fun d => d.parameters.length) = some 2 := by decide +kernel
theorem ok_X0_hasRoom : cc_Ok Y_X0_hasRoom := ⟨cd_X0_hasRoom, in_X0, by decide +kernel, ⟨by decide +kernel, by decide +kernel⟩, rfl, rfl⟩
def Y_X0_admit : cc_Y := (yX0_admit, cX0_admit, 4, (some .int), { frames := 1, cells := 0, slots := 0, locals := 23 })
theorem nd_X0_admit : (parseMethodDescriptor yX0_admit.desc).map (fun d => d.parameters.length) = some 2 := by decide +kernel
theorem ok_X0_admit : cc_Ok Y_X0_admit := ⟨cd_X0_admit, in_X0, by decide +kernel, ⟨by decide +kernel, by decide +kernel⟩, rfl, rfl⟩
def Y_X2_append : cc_Y := (yX2_append, cX2_append, 4, none, { frames := 0, cells := 0, slots := 0, locals := 0 })
theorem nd_X2_append : (parseMethodDescriptor yX2_append.desc).map (fun d => d.parameters.length) = some 3 := by decide +kernel
theorem ok_X2_append : cc_Ok Y_X2_append := ⟨cd_X2_append, in_X2, by decide +kernel, ⟨by decide +kernel, by decide +kernel⟩, rfl, rfl⟩
def Y_X3_readArrivals : cc_Y := (yX3_readArrivals, cX3_readArrivals, 3, (some .int), { frames := 4, cells := 0, slots := 0, locals := 103 })
theorem nd_X3_readArrivals : (parseMethodDescriptor yX3_readArrivals.desc).map (fun d => d.parameters.length) = some 0 := by decide +kernel
theorem ok_X3_readArrivals : cc_Ok Y_X3_readArrivals := ⟨cd_X3_readArrivals, in_X3, by decide +kernel, ⟨by decide +kernel, by decide +kernel⟩, rfl, rfl⟩
def Y_X3_faultOfText : cc_Y := (yX3_faultOfText, cX3_faultOfText, 3, (some .int), { frames := 2, cells := 0, slots := 0, locals := 41 })
theorem nd_X3_faultOfText : (parseMethodDescriptor yX3_faultOfText.desc).map (fun d => d.parameters.length) = some 0 := by decide +kernel
theorem ok_X3_faultOfText : cc_Ok Y_X3_faultOfText := ⟨cd_X3_faultOfText, in_X3, by decide +kernel, ⟨by decide +kernel, by decide +kernel⟩, rfl, rfl⟩
def Y_X3_dueBehind : cc_Y := (yX3_dueBehind, cX3_dueBehind, 2, (some .int), { frames := 1, cells := 0, slots := 0, locals := 20 })
theorem nd_X3_dueBehind : (parseMethodDescriptor yX3_dueBehind.desc).map (fun d => d.parameters.length) = some 2 := by decide +kernel
theorem ok_X3_dueBehind : cc_Ok Y_X3_dueBehind := ⟨cd_X3_dueBehind, in_X3, by decide +kernel, ⟨by decide +kernel, by decide +kernel⟩, rfl, rfl⟩
def Y_X3_admitTextToTrial : cc_Y := (yX3_admitTextToTrial, cX3_admitTextToTrial, 7, (some .int), { frames := 2, cells := 0, slots := 0, locals := 46 })
theorem nd_X3_admitTextToTrial : (parseMethodDescriptor yX3_admitTextToTrial.desc).map (fun d => d.parameters.length) = some 0 := by decide +kernel
theorem ok_X3_admitTextToTrial : cc_Ok Y_X3_admitTextToTrial := ⟨cd_X3_admitTextToTrial, in_X3, by decide +kernel, ⟨by decide +kernel, by decide +kernel⟩, rfl, rfl⟩
def Y_X3_tellsTimes : cc_Y := (yX3_tellsTimes, cX3_tellsTimes, 2, (some .boolean), { frames := 0, cells := 0, slots := 0, locals := 0 })
theorem nd_X3_tellsTimes : (parseMethodDescriptor yX3_tellsTimes.desc).map (fun d => d.parameters.length) = some 1 := by decide +kernel
theorem ok_X3_tellsTimes : cc_Ok Y_X3_tellsTimes := ⟨cd_X3_tellsTimes, in_X3, by decide +kernel, ⟨by decide +kernel, by decide +kernel⟩, rfl, rfl⟩
def Y_X3_pass : cc_Y := (yX3_pass, cX3_pass, 2, (some .int), { frames := 5, cells := 0, slots := 0, locals := 125 })
theorem nd_X3_pass : (parseMethodDescriptor yX3_pass.desc).map (fun d => d.parameters.length) = some 1 := by decide +kernel
theorem ok_X3_pass : cc_Ok Y_X3_pass := ⟨cd_X3_pass, in_X3, by decide +kernel, ⟨by decide +kernel, by decide +kernel⟩, rfl, rfl⟩
def Y_X3_isTickCount : cc_Y := (yX3_isTickCount, cX3_isTickCount, 1, (some .boolean), { frames := 0, cells := 0, slots := 0, locals := 0 })
theorem nd_X3_isTickCount : (parseMethodDescriptor yX3_isTickCount.desc).map (fun d => d.parameters.length) = some 1 := by decide +kernel
theorem ok_X3_isTickCount : cc_Ok Y_X3_isTickCount := ⟨cd_X3_isTickCount, in_X3, by decide +kernel, ⟨by decide +kernel, by decide +kernel⟩, rfl, rfl⟩
def Y_X0_passTicks : cc_Y := (yX0_passTicks, cX0_passTicks, 4, (some .int), { frames := 4, cells := 0, slots := 0, locals := 102 })
theorem nd_X0_passTicks : (parseMethodDescriptor yX0_passTicks.desc).map (fun d => d.parameters.length) = some 1 := by decide +kernel
theorem ok_X0_passTicks : cc_Ok Y_X0_passTicks := ⟨cd_X0_passTicks, in_X0, by decide +kernel, ⟨by decide +kernel, by decide +kernel⟩, rfl, rfl⟩
def Y_X0_passTick : cc_Y := (yX0_passTick, cX0_passTick, 3, (some .int), { frames := 3, cells := 0, slots := 0, locals := 80 })
theorem nd_X0_passTick : (parseMethodDescriptor yX0_passTick.desc).map (fun d => d.parameters.length) = some 0 := by decide +kernel
theorem ok_X0_passTick : cc_Ok Y_X0_passTick := ⟨cd_X0_passTick, in_X0, by decide +kernel, ⟨by decide +kernel, by decide +kernel⟩, rfl, rfl⟩
def Y_X0_beginTick : cc_Y := (yX0_beginTick, cX0_beginTick, 3, none, { frames := 2, cells := 0, slots := 0, locals := 43 })
theorem nd_X0_beginTick : (parseMethodDescriptor yX0_beginTick.desc).map (fun d => d.parameters.length) = some 0 := by decide +kernel
theorem ok_X0_beginTick : cc_Ok Y_X0_beginTick := ⟨cd_X0_beginTick, in_X0, by decide +kernel, ⟨by decide +kernel, by decide +kernel⟩, rfl, rfl⟩
def Y_X1_letCreditsCome : cc_Y := (yX1_letCreditsCome, cX1_letCreditsCome, 3, none, { frames := 1, cells := 0, slots := 0, locals := 21 })
theorem nd_X1_letCreditsCome : (parseMethodDescriptor yX1_letCreditsCome.desc).map (fun d => d.parameters.length) = some 1 := by decide +kernel
theorem ok_X1_letCreditsCome : cc_Ok Y_X1_letCreditsCome := ⟨cd_X1_letCreditsCome, in_X1, by decide +kernel, ⟨by decide +kernel, by decide +kernel⟩, rfl, rfl⟩
def Y_X1_creditComes : cc_Y := (yX1_creditComes, cX1_creditComes, 2, (some .boolean), { frames := 0, cells := 0, slots := 0, locals := 0 })
theorem nd_X1_creditComes : (parseMethodDescriptor yX1_creditComes.desc).map (fun d => d.parameters.length) = some 1 := by decide +kernel
theorem ok_X1_creditComes : cc_Ok Y_X1_creditComes := ⟨cd_X1_creditComes, in_X1, by decide +kernel, ⟨by decide +kernel, by decide +kernel⟩, rfl, rfl⟩
def Y_X1_dropFirstOnTheWay : cc_Y := (yX1_dropFirstOnTheWay, cX1_dropFirstOnTheWay, 2, none, { frames := 0, cells := 0, slots := 0, locals := 0 })
theorem nd_X1_dropFirstOnTheWay : (parseMethodDescriptor yX1_dropFirstOnTheWay.desc).map (fun d => d.parameters.length) = some 0 := by decide +kernel
theorem ok_X1_dropFirstOnTheWay : cc_Ok Y_X1_dropFirstOnTheWay := ⟨cd_X1_dropFirstOnTheWay, in_X1, by decide +kernel, ⟨by decide +kernel, by decide +kernel⟩, rfl, rfl⟩
def Y_X1_mend : cc_Y := (yX1_mend, cX1_mend, 1, none, { frames := 1, cells := 0, slots := 0, locals := 20 })
theorem nd_X1_mend : (parseMethodDescriptor yX1_mend.desc).map (fun d => d.parameters.length) = some 0 := by decide +kernel
theorem ok_X1_mend : cc_Ok Y_X1_mend := ⟨cd_X1_mend, in_X1, by decide +kernel, ⟨by decide +kernel, by decide +kernel⟩, rfl, rfl⟩
def Y_X1_missing : cc_Y := (yX1_missing, cX1_missing, 1, (some .int), { frames := 0, cells := 0, slots := 0, locals := 0 })
theorem nd_X1_missing : (parseMethodDescriptor yX1_missing.desc).map (fun d => d.parameters.length) = some 0 := by decide +kernel
theorem ok_X1_missing : cc_Ok Y_X1_missing := ⟨cd_X1_missing, in_X1, by decide +kernel, ⟨by decide +kernel, by decide +kernel⟩, rfl, rfl⟩
def Y_X0_sendTo : cc_Y := (yX0_sendTo, cX0_sendTo, 7, (some .int), { frames := 2, cells := 0, slots := 0, locals := 54 })
theorem nd_X0_sendTo : (parseMethodDescriptor yX0_sendTo.desc).map (fun d => d.parameters.length) = some 1 := by decide +kernel
theorem ok_X0_sendTo : cc_Ok Y_X0_sendTo := ⟨cd_X0_sendTo, in_X0, by decide +kernel, ⟨by decide +kernel, by decide +kernel⟩, rfl, rfl⟩
def Y_X2_offerFor : cc_Y := (yX2_offerFor, cX2_offerFor, 5, (some .int), { frames := 1, cells := 0, slots := 0, locals := 30 })
theorem nd_X2_offerFor : (parseMethodDescriptor yX2_offerFor.desc).map (fun d => d.parameters.length) = some 2 := by decide +kernel
theorem ok_X2_offerFor : cc_Ok Y_X2_offerFor := ⟨cd_X2_offerFor, in_X2, by decide +kernel, ⟨by decide +kernel, by decide +kernel⟩, rfl, rfl⟩
def Y_X2_sendFrom : cc_Y := (yX2_sendFrom, cX2_sendFrom, 4, (some .int), { frames := 0, cells := 0, slots := 0, locals := 0 })
theorem nd_X2_sendFrom : (parseMethodDescriptor yX2_sendFrom.desc).map (fun d => d.parameters.length) = some 1 := by decide +kernel
theorem ok_X2_sendFrom : cc_Ok Y_X2_sendFrom := ⟨cd_X2_sendFrom, in_X2, by decide +kernel, ⟨by decide +kernel, by decide +kernel⟩, rfl, rfl⟩
def Y_X1_receive : cc_Y := (yX1_receive, cX1_receive, 2, none, { frames := 0, cells := 0, slots := 0, locals := 0 })
theorem nd_X1_receive : (parseMethodDescriptor yX1_receive.desc).map (fun d => d.parameters.length) = some 1 := by decide +kernel
theorem ok_X1_receive : cc_Ok Y_X1_receive := ⟨cd_X1_receive, in_X1, by decide +kernel, ⟨by decide +kernel, by decide +kernel⟩, rfl, rfl⟩
def Y_X1_takeIfDue : cc_Y := (yX1_takeIfDue, cX1_takeIfDue, 4, none, { frames := 1, cells := 0, slots := 0, locals := 22 })
theorem nd_X1_takeIfDue : (parseMethodDescriptor yX1_takeIfDue.desc).map (fun d => d.parameters.length) = some 1 := by decide +kernel
theorem ok_X1_takeIfDue : cc_Ok Y_X1_takeIfDue := ⟨cd_X1_takeIfDue, in_X1, by decide +kernel, ⟨by decide +kernel, by decide +kernel⟩, rfl, rfl⟩
def Y_X1_sendCreditBack : cc_Y := (yX1_sendCreditBack, cX1_sendCreditBack, 3, none, { frames := 0, cells := 0, slots := 0, locals := 0 })
theorem nd_X1_sendCreditBack : (parseMethodDescriptor yX1_sendCreditBack.desc).map (fun d => d.parameters.length) = some 1 := by decide +kernel
theorem ok_X1_sendCreditBack : cc_Ok Y_X1_sendCreditBack := ⟨cd_X1_sendCreditBack, in_X1, by decide +kernel, ⟨by decide +kernel, by decide +kernel⟩, rfl, rfl⟩
def Y_X2_countBlocked : cc_Y := (yX2_countBlocked, cX2_countBlocked, 1, none, { frames := 0, cells := 0, slots := 0, locals := 0 })
theorem nd_X2_countBlocked : (parseMethodDescriptor yX2_countBlocked.desc).map (fun d => d.parameters.length) = some 0 := by decide +kernel
theorem ok_X2_countBlocked : cc_Ok Y_X2_countBlocked := ⟨cd_X2_countBlocked, in_X2, by decide +kernel, ⟨by decide +kernel, by decide +kernel⟩, rfl, rfl⟩
def Y_X3_lose : cc_Y := (yX3_lose, cX3_lose, 3, (some .int), { frames := 4, cells := 0, slots := 0, locals := 103 })
theorem nd_X3_lose : (parseMethodDescriptor yX3_lose.desc).map (fun d => d.parameters.length) = some 1 := by decide +kernel
theorem ok_X3_lose : cc_Ok Y_X3_lose := ⟨cd_X3_lose, in_X3, by decide +kernel, ⟨by decide +kernel, by decide +kernel⟩, rfl, rfl⟩
def Y_X1_loseFirst : cc_Y := (yX1_loseFirst, cX1_loseFirst, 1, none, { frames := 1, cells := 0, slots := 0, locals := 21 })
theorem nd_X1_loseFirst : (parseMethodDescriptor yX1_loseFirst.desc).map (fun d => d.parameters.length) = some 0 := by decide +kernel
theorem ok_X1_loseFirst : cc_Ok Y_X1_loseFirst := ⟨cd_X1_loseFirst, in_X1, by decide +kernel, ⟨by decide +kernel, by decide +kernel⟩, rfl, rfl⟩
def Y_X3_forge : cc_Y := (yX3_forge, cX3_forge, 3, (some .int), { frames := 4, cells := 0, slots := 0, locals := 103 })
theorem nd_X3_forge : (parseMethodDescriptor yX3_forge.desc).map (fun d => d.parameters.length) = some 1 := by decide +kernel
theorem ok_X3_forge : cc_Ok Y_X3_forge := ⟨cd_X3_forge, in_X3, by decide +kernel, ⟨by decide +kernel, by decide +kernel⟩, rfl, rfl⟩
def Y_X3_repair : cc_Y := (yX3_repair, cX3_repair, 4, (some .int), { frames := 4, cells := 0, slots := 0, locals := 103 })
theorem nd_X3_repair : (parseMethodDescriptor yX3_repair.desc).map (fun d => d.parameters.length) = some 1 := by decide +kernel
theorem ok_X3_repair : cc_Ok Y_X3_repair := ⟨cd_X3_repair, in_X3, by decide +kernel, ⟨by decide +kernel, by decide +kernel⟩, rfl, rfl⟩
def Y_X3_type : cc_Y := (yX3_type, cX3_type, 2, (some .int), { frames := 0, cells := 0, slots := 0, locals := 0 })
theorem nd_X3_type : (parseMethodDescriptor yX3_type.desc).map (fun d => d.parameters.length) = some 1 := by decide +kernel
theorem ok_X3_type : cc_Ok Y_X3_type := ⟨cd_X3_type, in_X3, by decide +kernel, ⟨by decide +kernel, by decide +kernel⟩, rfl, rfl⟩
def Y_X3_clearText : cc_Y := (yX3_clearText, cX3_clearText, 2, (some .int), { frames := 0, cells := 0, slots := 0, locals := 0 })
theorem nd_X3_clearText : (parseMethodDescriptor yX3_clearText.desc).map (fun d => d.parameters.length) = some 0 := by decide +kernel
theorem ok_X3_clearText : cc_Ok Y_X3_clearText := ⟨cd_X3_clearText, in_X3, by decide +kernel, ⟨by decide +kernel, by decide +kernel⟩, rfl, rfl⟩
def Y_X3_undo : cc_Y := (yX3_undo, cX3_undo, 1, (some .int), { frames := 3, cells := 0, slots := 0, locals := 83 })
theorem nd_X3_undo : (parseMethodDescriptor yX3_undo.desc).map (fun d => d.parameters.length) = some 0 := by decide +kernel
theorem ok_X3_undo : cc_Ok Y_X3_undo := ⟨cd_X3_undo, in_X3, by decide +kernel, ⟨by decide +kernel, by decide +kernel⟩, rfl, rfl⟩
def Y_X3_keep : cc_Y := (yX3_keep, cX3_keep, 1, (some .int), { frames := 3, cells := 0, slots := 0, locals := 83 })
theorem nd_X3_keep : (parseMethodDescriptor yX3_keep.desc).map (fun d => d.parameters.length) = some 0 := by decide +kernel
theorem ok_X3_keep : cc_Ok Y_X3_keep := ⟨cd_X3_keep, in_X3, by decide +kernel, ⟨by decide +kernel, by decide +kernel⟩, rfl, rfl⟩
def Y_X3_restore : cc_Y := (yX3_restore, cX3_restore, 1, (some .int), { frames := 4, cells := 0, slots := 0, locals := 103 })
theorem nd_X3_restore : (parseMethodDescriptor yX3_restore.desc).map (fun d => d.parameters.length) = some 0 := by decide +kernel
theorem ok_X3_restore : cc_Ok Y_X3_restore := ⟨cd_X3_restore, in_X3, by decide +kernel, ⟨by decide +kernel, by decide +kernel⟩, rfl, rfl⟩
def Y_X3_lane : cc_Y := (yX3_lane, cX3_lane, 3, (some .int), { frames := 3, cells := 0, slots := 0, locals := 67 })
theorem nd_X3_lane : (parseMethodDescriptor yX3_lane.desc).map (fun d => d.parameters.length) = some 2 := by decide +kernel
theorem ok_X3_lane : cc_Ok Y_X3_lane := ⟨cd_X3_lane, in_X3, by decide +kernel, ⟨by decide +kernel, by decide +kernel⟩, rfl, rfl⟩
def Y_X0_waitingFor : cc_Y := (yX0_waitingFor, cX0_waitingFor, 4, (some .int), { frames := 1, cells := 0, slots := 0, locals := 23 })
theorem nd_X0_waitingFor : (parseMethodDescriptor yX0_waitingFor.desc).map (fun d => d.parameters.length) = some 1 := by decide +kernel
theorem ok_X0_waitingFor : cc_Ok Y_X0_waitingFor := ⟨cd_X0_waitingFor, in_X0, by decide +kernel, ⟨by decide +kernel, by decide +kernel⟩, rfl, rfl⟩
def Y_X2_waitingFor : cc_Y := (yX2_waitingFor, cX2_waitingFor, 4, (some .int), { frames := 0, cells := 0, slots := 0, locals := 0 })
theorem nd_X2_waitingFor : (parseMethodDescriptor yX2_waitingFor.desc).map (fun d => d.parameters.length) = some 1 := by decide +kernel
theorem ok_X2_waitingFor : cc_Ok Y_X2_waitingFor := ⟨cd_X2_waitingFor, in_X2, by decide +kernel, ⟨by decide +kernel, by decide +kernel⟩, rfl, rfl⟩
def Y_X0_isStuck : cc_Y := (yX0_isStuck, cX0_isStuck, 2, (some .boolean), { frames := 2, cells := 0, slots := 0, locals := 46 })
theorem nd_X0_isStuck : (parseMethodDescriptor yX0_isStuck.desc).map (fun d => d.parameters.length) = some 1 := by decide +kernel
theorem ok_X0_isStuck : cc_Ok Y_X0_isStuck := ⟨cd_X0_isStuck, in_X0, by decide +kernel, ⟨by decide +kernel, by decide +kernel⟩, rfl, rfl⟩
def Y_X1_isDry : cc_Y := (yX1_isDry, cX1_isDry, 1, (some .boolean), { frames := 0, cells := 0, slots := 0, locals := 0 })
theorem nd_X1_isDry : (parseMethodDescriptor yX1_isDry.desc).map (fun d => d.parameters.length) = some 0 := by decide +kernel
theorem ok_X1_isDry : cc_Ok Y_X1_isDry := ⟨cd_X1_isDry, in_X1, by decide +kernel, ⟨by decide +kernel, by decide +kernel⟩, rfl, rfl⟩
def Y_X1_figure : cc_Y := (yX1_figure, cX1_figure, 2, (some .int), { frames := 1, cells := 0, slots := 0, locals := 20 })
theorem nd_X1_figure : (parseMethodDescriptor yX1_figure.desc).map (fun d => d.parameters.length) = some 1 := by decide +kernel
theorem ok_X1_figure : cc_Ok Y_X1_figure := ⟨cd_X1_figure, in_X1, by decide +kernel, ⟨by decide +kernel, by decide +kernel⟩, rfl, rfl⟩
def Y_X3_seated : cc_Y := (yX3_seated, cX3_seated, 4, (some .int), { frames := 1, cells := 0, slots := 0, locals := 20 })
theorem nd_X3_seated : (parseMethodDescriptor yX3_seated.desc).map (fun d => d.parameters.length) = some 2 := by decide +kernel
theorem ok_X3_seated : cc_Ok Y_X3_seated := ⟨cd_X3_seated, in_X3, by decide +kernel, ⟨by decide +kernel, by decide +kernel⟩, rfl, rfl⟩
def Y_X3_onTheWay : cc_Y := (yX3_onTheWay, cX3_onTheWay, 4, (some .int), { frames := 1, cells := 0, slots := 0, locals := 20 })
theorem nd_X3_onTheWay : (parseMethodDescriptor yX3_onTheWay.desc).map (fun d => d.parameters.length) = some 2 := by decide +kernel
theorem ok_X3_onTheWay : cc_Ok Y_X3_onTheWay := ⟨cd_X3_onTheWay, in_X3, by decide +kernel, ⟨by decide +kernel, by decide +kernel⟩, rfl, rfl⟩
def Y_X3_input : cc_Y := (yX3_input, cX3_input, 3, (some .int), { frames := 1, cells := 0, slots := 0, locals := 21 })
theorem nd_X3_input : (parseMethodDescriptor yX3_input.desc).map (fun d => d.parameters.length) = some 2 := by decide +kernel
theorem ok_X3_input : cc_Ok Y_X3_input := ⟨cd_X3_input, in_X3, by decide +kernel, ⟨by decide +kernel, by decide +kernel⟩, rfl, rfl⟩
def Y_X2_figure : cc_Y := (yX2_figure, cX2_figure, 2, (some .int), { frames := 0, cells := 0, slots := 0, locals := 0 })
theorem nd_X2_figure : (parseMethodDescriptor yX2_figure.desc).map (fun d => d.parameters.length) = some 1 := by decide +kernel
theorem ok_X2_figure : cc_Ok Y_X2_figure := ⟨cd_X2_figure, in_X2, by decide +kernel, ⟨by decide +kernel, by decide +kernel⟩, rfl, rfl⟩
def Y_X3_packet : cc_Y := (yX3_packet, cX3_packet, 4, (some .int), { frames := 1, cells := 0, slots := 0, locals := 22 })
theorem nd_X3_packet : (parseMethodDescriptor yX3_packet.desc).map (fun d => d.parameters.length) = some 3 := by decide +kernel
theorem ok_X3_packet : cc_Ok Y_X3_packet := ⟨cd_X3_packet, in_X3, by decide +kernel, ⟨by decide +kernel, by decide +kernel⟩, rfl, rfl⟩
def Y_X2_packetFigure : cc_Y := (yX2_packetFigure, cX2_packetFigure, 3, (some .int), { frames := 0, cells := 0, slots := 0, locals := 0 })
theorem nd_X2_packetFigure : (parseMethodDescriptor yX2_packetFigure.desc).map (fun d => d.parameters.length) = some 2 := by decide +kernel
theorem ok_X2_packetFigure : cc_Ok Y_X2_packetFigure := ⟨cd_X2_packetFigure, in_X2, by decide +kernel, ⟨by decide +kernel, by decide +kernel⟩, rfl, rfl⟩
def Y_X3_next : cc_Y := (yX3_next, cX3_next, 4, (some .int), { frames := 3, cells := 0, slots := 0, locals := 83 })
theorem nd_X3_next : (parseMethodDescriptor yX3_next.desc).map (fun d => d.parameters.length) = some 1 := by decide +kernel
theorem ok_X3_next : cc_Ok Y_X3_next := ⟨cd_X3_next, in_X3, by decide +kernel, ⟨by decide +kernel, by decide +kernel⟩, rfl, rfl⟩
def Y_X3_leavesIn : cc_Y := (yX3_leavesIn, cX3_leavesIn, 5, (some .int), { frames := 4, cells := 0, slots := 0, locals := 102 })
theorem nd_X3_leavesIn : (parseMethodDescriptor yX3_leavesIn.desc).map (fun d => d.parameters.length) = some 2 := by decide +kernel
theorem ok_X3_leavesIn : cc_Ok Y_X3_leavesIn := ⟨cd_X3_leavesIn, in_X3, by decide +kernel, ⟨by decide +kernel, by decide +kernel⟩, rfl, rfl⟩
def Y_X2_holds : cc_Y := (yX2_holds, cX2_holds, 3, (some .boolean), { frames := 0, cells := 0, slots := 0, locals := 0 })
theorem nd_X2_holds : (parseMethodDescriptor yX2_holds.desc).map (fun d => d.parameters.length) = some 1 := by decide +kernel
theorem ok_X2_holds : cc_Ok Y_X2_holds := ⟨cd_X2_holds, in_X2, by decide +kernel, ⟨by decide +kernel, by decide +kernel⟩, rfl, rfl⟩
def Y_X3_wouldSend : cc_Y := (yX3_wouldSend, cX3_wouldSend, 3, (some .int), { frames := 5, cells := 0, slots := 0, locals := 125 })
theorem nd_X3_wouldSend : (parseMethodDescriptor yX3_wouldSend.desc).map (fun d => d.parameters.length) = some 2 := by decide +kernel
theorem ok_X3_wouldSend : cc_Ok Y_X3_wouldSend := ⟨cd_X3_wouldSend, in_X3, by decide +kernel, ⟨by decide +kernel, by decide +kernel⟩, rfl, rfl⟩
def Y_X3_count : cc_Y := (yX3_count, cX3_count, 2, (some .int), { frames := 5, cells := 0, slots := 0, locals := 110 })
theorem nd_X3_count : (parseMethodDescriptor yX3_count.desc).map (fun d => d.parameters.length) = some 1 := by decide +kernel
theorem ok_X3_count : cc_Ok Y_X3_count := ⟨cd_X3_count, in_X3, by decide +kernel, ⟨by decide +kernel, by decide +kernel⟩, rfl, rfl⟩
def Y_X0_figure : cc_Y := (yX0_figure, cX0_figure, 2, (some .int), { frames := 4, cells := 0, slots := 0, locals := 89 })
theorem nd_X0_figure : (parseMethodDescriptor yX0_figure.desc).map (fun d => d.parameters.length) = some 1 := by decide +kernel
theorem ok_X0_figure : cc_Ok Y_X0_figure := ⟨cd_X0_figure, in_X0, by decide +kernel, ⟨by decide +kernel, by decide +kernel⟩, rfl, rfl⟩
def Y_X0_sumOfQueues : cc_Y := (yX0_sumOfQueues, cX0_sumOfQueues, 4, (some .int), { frames := 1, cells := 0, slots := 0, locals := 21 })
theorem nd_X0_sumOfQueues : (parseMethodDescriptor yX0_sumOfQueues.desc).map (fun d => d.parameters.length) = some 1 := by decide +kernel
theorem ok_X0_sumOfQueues : cc_Ok Y_X0_sumOfQueues := ⟨cd_X0_sumOfQueues, in_X0, by decide +kernel, ⟨by decide +kernel, by decide +kernel⟩, rfl, rfl⟩
def Y_X0_sumOfLanes : cc_Y := (yX0_sumOfLanes, cX0_sumOfLanes, 4, (some .int), { frames := 2, cells := 0, slots := 0, locals := 41 })
theorem nd_X0_sumOfLanes : (parseMethodDescriptor yX0_sumOfLanes.desc).map (fun d => d.parameters.length) = some 1 := by decide +kernel
theorem ok_X0_sumOfLanes : cc_Ok Y_X0_sumOfLanes := ⟨cd_X0_sumOfLanes, in_X0, by decide +kernel, ⟨by decide +kernel, by decide +kernel⟩, rfl, rfl⟩
def Y_X0_stuckLanes : cc_Y := (yX0_stuckLanes, cX0_stuckLanes, 3, (some .int), { frames := 3, cells := 0, slots := 0, locals := 67 })
theorem nd_X0_stuckLanes : (parseMethodDescriptor yX0_stuckLanes.desc).map (fun d => d.parameters.length) = some 0 := by decide +kernel
theorem ok_X0_stuckLanes : cc_Ok Y_X0_stuckLanes := ⟨cd_X0_stuckLanes, in_X0, by decide +kernel, ⟨by decide +kernel, by decide +kernel⟩, rfl, rfl⟩
def Y_X4_lay : cc_Y := (yX4_lay, cX4_lay, 4, none, { frames := 0, cells := 0, slots := 0, locals := 0 })
theorem nd_X4_lay : (parseMethodDescriptor yX4_lay.desc).map (fun d => d.parameters.length) = some 3 := by decide +kernel
theorem ok_X4_lay : cc_Ok Y_X4_lay := ⟨cd_X4_lay, in_X4, by decide +kernel, ⟨by decide +kernel, by decide +kernel⟩, rfl, rfl⟩
def Y_X4_undo : cc_Y := (yX4_undo, cX4_undo, 2, (some .int), { frames := 0, cells := 0, slots := 0, locals := 0 })
theorem nd_X4_undo : (parseMethodDescriptor yX4_undo.desc).map (fun d => d.parameters.length) = some 0 := by decide +kernel
theorem ok_X4_undo : cc_Ok Y_X4_undo := ⟨cd_X4_undo, in_X4, by decide +kernel, ⟨by decide +kernel, by decide +kernel⟩, rfl, rfl⟩
def Y_X4_keep : cc_Y := (yX4_keep, cX4_keep, 2, (some .int), { frames := 0, cells := 0, slots := 0, locals := 0 })
theorem nd_X4_keep : (parseMethodDescriptor yX4_keep.desc).map (fun d => d.parameters.length) = some 0 := by decide +kernel
theorem ok_X4_keep : cc_Ok Y_X4_keep := ⟨cd_X4_keep, in_X4, by decide +kernel, ⟨by decide +kernel, by decide +kernel⟩, rfl, rfl⟩
def Y_X4_restore : cc_Y := (yX4_restore, cX4_restore, 2, (some .int), { frames := 2, cells := 0, slots := 0, locals := 41 })
theorem nd_X4_restore : (parseMethodDescriptor yX4_restore.desc).map (fun d => d.parameters.length) = some 0 := by decide +kernel
theorem ok_X4_restore : cc_Ok Y_X4_restore := ⟨cd_X4_restore, in_X4, by decide +kernel, ⟨by decide +kernel, by decide +kernel⟩, rfl, rfl⟩
def Y_X4_open : cc_Y := (yX4_open, cX4_open, 1, none, { frames := 1, cells := 0, slots := 0, locals := 21 })
theorem nd_X4_open : (parseMethodDescriptor yX4_open.desc).map (fun d => d.parameters.length) = some 0 := by decide +kernel
theorem ok_X4_open : cc_Ok Y_X4_open := ⟨cd_X4_open, in_X4, by decide +kernel, ⟨by decide +kernel, by decide +kernel⟩, rfl, rfl⟩
def Y_X4_remember : cc_Y := (yX4_remember, cX4_remember, 2, none, { frames := 0, cells := 0, slots := 0, locals := 0 })
theorem nd_X4_remember : (parseMethodDescriptor yX4_remember.desc).map (fun d => d.parameters.length) = some 0 := by decide +kernel
theorem ok_X4_remember : cc_Ok Y_X4_remember := ⟨cd_X4_remember, in_X4, by decide +kernel, ⟨by decide +kernel, by decide +kernel⟩, rfl, rfl⟩
def Y_X4_record : cc_Y := (yX4_record, cX4_record, 2, none, { frames := 0, cells := 0, slots := 0, locals := 0 })
theorem nd_X4_record : (parseMethodDescriptor yX4_record.desc).map (fun d => d.parameters.length) = some 0 := by decide +kernel
theorem ok_X4_record : cc_Ok Y_X4_record := ⟨cd_X4_record, in_X4, by decide +kernel, ⟨by decide +kernel, by decide +kernel⟩, rfl, rfl⟩
def Y_X4_setLane : cc_Y := (yX4_setLane, cX4_setLane, 5, (some .int), { frames := 2, cells := 0, slots := 0, locals := 42 })
theorem nd_X4_setLane : (parseMethodDescriptor yX4_setLane.desc).map (fun d => d.parameters.length) = some 3 := by decide +kernel
theorem ok_X4_setLane : cc_Ok Y_X4_setLane := ⟨cd_X4_setLane, in_X4, by decide +kernel, ⟨by decide +kernel, by decide +kernel⟩, rfl, rfl⟩
def Y_X4_noPort : cc_Y := (yX4_noPort, cX4_noPort, 1, (some .boolean), { frames := 1, cells := 0, slots := 0, locals := 22 })
theorem nd_X4_noPort : (parseMethodDescriptor yX4_noPort.desc).map (fun d => d.parameters.length) = some 1 := by decide +kernel
theorem ok_X4_noPort : cc_Ok Y_X4_noPort := ⟨cd_X4_noPort, in_X4, by decide +kernel, ⟨by decide +kernel, by decide +kernel⟩, rfl, rfl⟩
def Y_X4_in : cc_Y := (yX4_in, cX4_in, 3, (some .boolean), { frames := 0, cells := 0, slots := 0, locals := 0 })
theorem nd_X4_in : (parseMethodDescriptor yX4_in.desc).map (fun d => d.parameters.length) = some 3 := by decide +kernel
theorem ok_X4_in : cc_Ok Y_X4_in := ⟨cd_X4_in, in_X4, by decide +kernel, ⟨by decide +kernel, by decide +kernel⟩, rfl, rfl⟩
def Y_X4_of : cc_Y := (yX4_of, cX4_of, 3, (some .int), { frames := 0, cells := 0, slots := 0, locals := 0 })
theorem nd_X4_of : (parseMethodDescriptor yX4_of.desc).map (fun d => d.parameters.length) = some 2 := by decide +kernel
theorem ok_X4_of : cc_Ok Y_X4_of := ⟨cd_X4_of, in_X4, by decide +kernel, ⟨by decide +kernel, by decide +kernel⟩, rfl, rfl⟩
def Y_X4_more : cc_Y := (yX4_more, cX4_more, 4, none, { frames := 0, cells := 0, slots := 0, locals := 0 })
theorem nd_X4_more : (parseMethodDescriptor yX4_more.desc).map (fun d => d.parameters.length) = some 3 := by decide +kernel
theorem ok_X4_more : cc_Ok Y_X4_more := ⟨cd_X4_more, in_X4, by decide +kernel, ⟨by decide +kernel, by decide +kernel⟩, rfl, rfl⟩
def Y_X4_set : cc_Y := (yX4_set, cX4_set, 4, (some .int), { frames := 2, cells := 0, slots := 0, locals := 41 })
theorem nd_X4_set : (parseMethodDescriptor yX4_set.desc).map (fun d => d.parameters.length) = some 2 := by decide +kernel
theorem ok_X4_set : cc_Ok Y_X4_set := ⟨cd_X4_set, in_X4, by decide +kernel, ⟨by decide +kernel, by decide +kernel⟩, rfl, rfl⟩
def Y_X4_arrive : cc_Y := (yX4_arrive, cX4_arrive, 3, (some .int), { frames := 2, cells := 0, slots := 0, locals := 45 })
theorem nd_X4_arrive : (parseMethodDescriptor yX4_arrive.desc).map (fun d => d.parameters.length) = some 2 := by decide +kernel
theorem ok_X4_arrive : cc_Ok Y_X4_arrive := ⟨cd_X4_arrive, in_X4, by decide +kernel, ⟨by decide +kernel, by decide +kernel⟩, rfl, rfl⟩
def Y_X4_by : cc_Y := (yX4_by, cX4_by, 3, (some .int), { frames := 0, cells := 0, slots := 0, locals := 0 })
theorem nd_X4_by : (parseMethodDescriptor yX4_by.desc).map (fun d => d.parameters.length) = some 2 := by decide +kernel
theorem ok_X4_by : cc_Ok Y_X4_by := ⟨cd_X4_by, in_X4, by decide +kernel, ⟨by decide +kernel, by decide +kernel⟩, rfl, rfl⟩
def Y_X4_bring : cc_Y := (yX4_bring, cX4_bring, 4, none, { frames := 1, cells := 0, slots := 0, locals := 22 })
theorem nd_X4_bring : (parseMethodDescriptor yX4_bring.desc).map (fun d => d.parameters.length) = some 2 := by decide +kernel
theorem ok_X4_bring : cc_Ok Y_X4_bring := ⟨cd_X4_bring, in_X4, by decide +kernel, ⟨by decide +kernel, by decide +kernel⟩, rfl, rfl⟩
def Y_X4_readArrivals : cc_Y := (yX4_readArrivals, cX4_readArrivals, 2, (some .int), { frames := 4, cells := 0, slots := 0, locals := 94 })
theorem nd_X4_readArrivals : (parseMethodDescriptor yX4_readArrivals.desc).map (fun d => d.parameters.length) = some 0 := by decide +kernel
theorem ok_X4_readArrivals : cc_Ok Y_X4_readArrivals := ⟨cd_X4_readArrivals, in_X4, by decide +kernel, ⟨by decide +kernel, by decide +kernel⟩, rfl, rfl⟩
def Y_X4_arrivals : cc_Y := (yX4_arrivals, cX4_arrivals, 5, (some .int), { frames := 3, cells := 0, slots := 0, locals := 70 })
theorem nd_X4_arrivals : (parseMethodDescriptor yX4_arrivals.desc).map (fun d => d.parameters.length) = some 1 := by decide +kernel
theorem ok_X4_arrivals : cc_Ok Y_X4_arrivals := ⟨cd_X4_arrivals, in_X4, by decide +kernel, ⟨by decide +kernel, by decide +kernel⟩, rfl, rfl⟩
def Y_X4_arrival : cc_Y := (yX4_arrival, cX4_arrival, 6, (some .int), { frames := 2, cells := 0, slots := 0, locals := 45 })
theorem nd_X4_arrival : (parseMethodDescriptor yX4_arrival.desc).map (fun d => d.parameters.length) = some 1 := by decide +kernel
theorem ok_X4_arrival : cc_Ok Y_X4_arrival := ⟨cd_X4_arrival, in_X4, by decide +kernel, ⟨by decide +kernel, by decide +kernel⟩, rfl, rfl⟩
def Y_X4_sees : cc_Y := (yX4_sees, cX4_sees, 3, (some .boolean), { frames := 1, cells := 0, slots := 0, locals := 22 })
theorem nd_X4_sees : (parseMethodDescriptor yX4_sees.desc).map (fun d => d.parameters.length) = some 2 := by decide +kernel
theorem ok_X4_sees : cc_Ok Y_X4_sees := ⟨cd_X4_sees, in_X4, by decide +kernel, ⟨by decide +kernel, by decide +kernel⟩, rfl, rfl⟩
def Y_X4_goBack : cc_Y := (yX4_goBack, cX4_goBack, 2, none, { frames := 0, cells := 0, slots := 0, locals := 0 })
theorem nd_X4_goBack : (parseMethodDescriptor yX4_goBack.desc).map (fun d => d.parameters.length) = some 0 := by decide +kernel
theorem ok_X4_goBack : cc_Ok Y_X4_goBack := ⟨cd_X4_goBack, in_X4, by decide +kernel, ⟨by decide +kernel, by decide +kernel⟩, rfl, rfl⟩
def Y_X4_pass : cc_Y := (yX4_pass, cX4_pass, 2, (some .int), { frames := 5, cells := 0, slots := 0, locals := 116 })
theorem nd_X4_pass : (parseMethodDescriptor yX4_pass.desc).map (fun d => d.parameters.length) = some 1 := by decide +kernel
theorem ok_X4_pass : cc_Ok Y_X4_pass := ⟨cd_X4_pass, in_X4, by decide +kernel, ⟨by decide +kernel, by decide +kernel⟩, rfl, rfl⟩
def Y_X4_passAll : cc_Y := (yX4_passAll, cX4_passAll, 4, (some .int), { frames := 4, cells := 0, slots := 0, locals := 93 })
theorem nd_X4_passAll : (parseMethodDescriptor yX4_passAll.desc).map (fun d => d.parameters.length) = some 1 := by decide +kernel
theorem ok_X4_passAll : cc_Ok Y_X4_passAll := ⟨cd_X4_passAll, in_X4, by decide +kernel, ⟨by decide +kernel, by decide +kernel⟩, rfl, rfl⟩
def Y_X4_tick : cc_Y := (yX4_tick, cX4_tick, 3, (some .int), { frames := 3, cells := 0, slots := 0, locals := 71 })
theorem nd_X4_tick : (parseMethodDescriptor yX4_tick.desc).map (fun d => d.parameters.length) = some 0 := by decide +kernel
theorem ok_X4_tick : cc_Ok Y_X4_tick := ⟨cd_X4_tick, in_X4, by decide +kernel, ⟨by decide +kernel, by decide +kernel⟩, rfl, rfl⟩
def Y_X4_come : cc_Y := (yX4_come, cX4_come, 2, none, { frames := 2, cells := 0, slots := 0, locals := 45 })
theorem nd_X4_come : (parseMethodDescriptor yX4_come.desc).map (fun d => d.parameters.length) = some 1 := by decide +kernel
theorem ok_X4_come : cc_Ok Y_X4_come := ⟨cd_X4_come, in_X4, by decide +kernel, ⟨by decide +kernel, by decide +kernel⟩, rfl, rfl⟩
def Y_X4_dropFirst : cc_Y := (yX4_dropFirst, cX4_dropFirst, 3, none, { frames := 1, cells := 0, slots := 0, locals := 23 })
theorem nd_X4_dropFirst : (parseMethodDescriptor yX4_dropFirst.desc).map (fun d => d.parameters.length) = some 1 := by decide +kernel
theorem ok_X4_dropFirst : cc_Ok Y_X4_dropFirst := ⟨cd_X4_dropFirst, in_X4, by decide +kernel, ⟨by decide +kernel, by decide +kernel⟩, rfl, rfl⟩
def Y_X4_missing : cc_Y := (yX4_missing, cX4_missing, 2, (some .int), { frames := 1, cells := 0, slots := 0, locals := 22 })
theorem nd_X4_missing : (parseMethodDescriptor yX4_missing.desc).map (fun d => d.parameters.length) = some 1 := by decide +kernel
theorem ok_X4_missing : cc_Ok Y_X4_missing := ⟨cd_X4_missing, in_X4, by decide +kernel, ⟨by decide +kernel, by decide +kernel⟩, rfl, rfl⟩
def Y_X4_send : cc_Y := (yX4_send, cX4_send, 6, (some .int), { frames := 2, cells := 0, slots := 0, locals := 46 })
theorem nd_X4_send : (parseMethodDescriptor yX4_send.desc).map (fun d => d.parameters.length) = some 1 := by decide +kernel
theorem ok_X4_send : cc_Ok Y_X4_send := ⟨cd_X4_send, in_X4, by decide +kernel, ⟨by decide +kernel, by decide +kernel⟩, rfl, rfl⟩
def Y_X4_offer : cc_Y := (yX4_offer, cX4_offer, 5, (some .int), { frames := 1, cells := 0, slots := 0, locals := 22 })
theorem nd_X4_offer : (parseMethodDescriptor yX4_offer.desc).map (fun d => d.parameters.length) = some 2 := by decide +kernel
theorem ok_X4_offer : cc_Ok Y_X4_offer := ⟨cd_X4_offer, in_X4, by decide +kernel, ⟨by decide +kernel, by decide +kernel⟩, rfl, rfl⟩
def Y_X4_leave : cc_Y := (yX4_leave, cX4_leave, 6, (some .int), { frames := 0, cells := 0, slots := 0, locals := 0 })
theorem nd_X4_leave : (parseMethodDescriptor yX4_leave.desc).map (fun d => d.parameters.length) = some 2 := by decide +kernel
theorem ok_X4_leave : cc_Ok Y_X4_leave := ⟨cd_X4_leave, in_X4, by decide +kernel, ⟨by decide +kernel, by decide +kernel⟩, rfl, rfl⟩
def Y_X4_take : cc_Y := (yX4_take, cX4_take, 4, none, { frames := 1, cells := 0, slots := 0, locals := 23 })
theorem nd_X4_take : (parseMethodDescriptor yX4_take.desc).map (fun d => d.parameters.length) = some 1 := by decide +kernel
theorem ok_X4_take : cc_Ok Y_X4_take := ⟨cd_X4_take, in_X4, by decide +kernel, ⟨by decide +kernel, by decide +kernel⟩, rfl, rfl⟩
def Y_X4_lose : cc_Y := (yX4_lose, cX4_lose, 2, (some .int), { frames := 2, cells := 0, slots := 0, locals := 45 })
theorem nd_X4_lose : (parseMethodDescriptor yX4_lose.desc).map (fun d => d.parameters.length) = some 1 := by decide +kernel
theorem ok_X4_lose : cc_Ok Y_X4_lose := ⟨cd_X4_lose, in_X4, by decide +kernel, ⟨by decide +kernel, by decide +kernel⟩, rfl, rfl⟩
def Y_X4_forge : cc_Y := (yX4_forge, cX4_forge, 2, (some .int), { frames := 2, cells := 0, slots := 0, locals := 42 })
theorem nd_X4_forge : (parseMethodDescriptor yX4_forge.desc).map (fun d => d.parameters.length) = some 1 := by decide +kernel
theorem ok_X4_forge : cc_Ok Y_X4_forge := ⟨cd_X4_forge, in_X4, by decide +kernel, ⟨by decide +kernel, by decide +kernel⟩, rfl, rfl⟩
def Y_X4_repair : cc_Y := (yX4_repair, cX4_repair, 3, (some .int), { frames := 2, cells := 0, slots := 0, locals := 43 })
theorem nd_X4_repair : (parseMethodDescriptor yX4_repair.desc).map (fun d => d.parameters.length) = some 1 := by decide +kernel
theorem ok_X4_repair : cc_Ok Y_X4_repair := ⟨cd_X4_repair, in_X4, by decide +kernel, ⟨by decide +kernel, by decide +kernel⟩, rfl, rfl⟩
def Y_X4_type : cc_Y := (yX4_type, cX4_type, 2, (some .int), { frames := 0, cells := 0, slots := 0, locals := 0 })
theorem nd_X4_type : (parseMethodDescriptor yX4_type.desc).map (fun d => d.parameters.length) = some 1 := by decide +kernel
theorem ok_X4_type : cc_Ok Y_X4_type := ⟨cd_X4_type, in_X4, by decide +kernel, ⟨by decide +kernel, by decide +kernel⟩, rfl, rfl⟩
def Y_X4_clearText : cc_Y := (yX4_clearText, cX4_clearText, 2, (some .int), { frames := 0, cells := 0, slots := 0, locals := 0 })
theorem nd_X4_clearText : (parseMethodDescriptor yX4_clearText.desc).map (fun d => d.parameters.length) = some 0 := by decide +kernel
theorem ok_X4_clearText : cc_Ok Y_X4_clearText := ⟨cd_X4_clearText, in_X4, by decide +kernel, ⟨by decide +kernel, by decide +kernel⟩, rfl, rfl⟩
def Y_X4_lane : cc_Y := (yX4_lane, cX4_lane, 3, (some .int), { frames := 3, cells := 0, slots := 0, locals := 67 })
theorem nd_X4_lane : (parseMethodDescriptor yX4_lane.desc).map (fun d => d.parameters.length) = some 2 := by decide +kernel
theorem ok_X4_lane : cc_Ok Y_X4_lane := ⟨cd_X4_lane, in_X4, by decide +kernel, ⟨by decide +kernel, by decide +kernel⟩, rfl, rfl⟩
def Y_X4_waiting : cc_Y := (yX4_waiting, cX4_waiting, 5, (some .int), { frames := 1, cells := 0, slots := 0, locals := 22 })
theorem nd_X4_waiting : (parseMethodDescriptor yX4_waiting.desc).map (fun d => d.parameters.length) = some 1 := by decide +kernel
theorem ok_X4_waiting : cc_Ok Y_X4_waiting := ⟨cd_X4_waiting, in_X4, by decide +kernel, ⟨by decide +kernel, by decide +kernel⟩, rfl, rfl⟩
def Y_X4_isStuck : cc_Y := (yX4_isStuck, cX4_isStuck, 2, (some .boolean), { frames := 2, cells := 0, slots := 0, locals := 46 })
theorem nd_X4_isStuck : (parseMethodDescriptor yX4_isStuck.desc).map (fun d => d.parameters.length) = some 1 := by decide +kernel
theorem ok_X4_isStuck : cc_Ok Y_X4_isStuck := ⟨cd_X4_isStuck, in_X4, by decide +kernel, ⟨by decide +kernel, by decide +kernel⟩, rfl, rfl⟩
def Y_X4_seated : cc_Y := (yX4_seated, cX4_seated, 3, (some .int), { frames := 2, cells := 0, slots := 0, locals := 42 })
theorem nd_X4_seated : (parseMethodDescriptor yX4_seated.desc).map (fun d => d.parameters.length) = some 2 := by decide +kernel
theorem ok_X4_seated : cc_Ok Y_X4_seated := ⟨cd_X4_seated, in_X4, by decide +kernel, ⟨by decide +kernel, by decide +kernel⟩, rfl, rfl⟩
def Y_X4_onTheWay : cc_Y := (yX4_onTheWay, cX4_onTheWay, 3, (some .int), { frames := 2, cells := 0, slots := 0, locals := 42 })
theorem nd_X4_onTheWay : (parseMethodDescriptor yX4_onTheWay.desc).map (fun d => d.parameters.length) = some 2 := by decide +kernel
theorem ok_X4_onTheWay : cc_Ok Y_X4_onTheWay := ⟨cd_X4_onTheWay, in_X4, by decide +kernel, ⟨by decide +kernel, by decide +kernel⟩, rfl, rfl⟩
def Y_X4_input : cc_Y := (yX4_input, cX4_input, 3, (some .int), { frames := 2, cells := 0, slots := 0, locals := 42 })
theorem nd_X4_input : (parseMethodDescriptor yX4_input.desc).map (fun d => d.parameters.length) = some 2 := by decide +kernel
theorem ok_X4_input : cc_Ok Y_X4_input := ⟨cd_X4_input, in_X4, by decide +kernel, ⟨by decide +kernel, by decide +kernel⟩, rfl, rfl⟩
def Y_X4_packet : cc_Y := (yX4_packet, cX4_packet, 4, (some .int), { frames := 2, cells := 0, slots := 0, locals := 42 })
theorem nd_X4_packet : (parseMethodDescriptor yX4_packet.desc).map (fun d => d.parameters.length) = some 3 := by decide +kernel
theorem ok_X4_packet : cc_Ok Y_X4_packet := ⟨cd_X4_packet, in_X4, by decide +kernel, ⟨by decide +kernel, by decide +kernel⟩, rfl, rfl⟩
def Y_X4_next : cc_Y := (yX4_next, cX4_next, 2, (some .int), { frames := 4, cells := 0, slots := 0, locals := 93 })
theorem nd_X4_next : (parseMethodDescriptor yX4_next.desc).map (fun d => d.parameters.length) = some 1 := by decide +kernel
theorem ok_X4_next : cc_Ok Y_X4_next := ⟨cd_X4_next, in_X4, by decide +kernel, ⟨by decide +kernel, by decide +kernel⟩, rfl, rfl⟩
def Y_X4_leavesIn : cc_Y := (yX4_leavesIn, cX4_leavesIn, 6, (some .int), { frames := 4, cells := 0, slots := 0, locals := 93 })
theorem nd_X4_leavesIn : (parseMethodDescriptor yX4_leavesIn.desc).map (fun d => d.parameters.length) = some 2 := by decide +kernel
theorem ok_X4_leavesIn : cc_Ok Y_X4_leavesIn := ⟨cd_X4_leavesIn, in_X4, by decide +kernel, ⟨by decide +kernel, by decide +kernel⟩, rfl, rfl⟩
def Y_X4_waits : cc_Y := (yX4_waits, cX4_waits, 5, (some .boolean), { frames := 1, cells := 0, slots := 0, locals := 22 })
theorem nd_X4_waits : (parseMethodDescriptor yX4_waits.desc).map (fun d => d.parameters.length) = some 2 := by decide +kernel
theorem ok_X4_waits : cc_Ok Y_X4_waits := ⟨cd_X4_waits, in_X4, by decide +kernel, ⟨by decide +kernel, by decide +kernel⟩, rfl, rfl⟩
def Y_X4_wouldSend : cc_Y := (yX4_wouldSend, cX4_wouldSend, 4, (some .int), { frames := 5, cells := 0, slots := 0, locals := 116 })
theorem nd_X4_wouldSend : (parseMethodDescriptor yX4_wouldSend.desc).map (fun d => d.parameters.length) = some 2 := by decide +kernel
theorem ok_X4_wouldSend : cc_Ok Y_X4_wouldSend := ⟨cd_X4_wouldSend, in_X4, by decide +kernel, ⟨by decide +kernel, by decide +kernel⟩, rfl, rfl⟩
def Y_X4_count : cc_Y := (yX4_count, cX4_count, 2, (some .int), { frames := 4, cells := 0, slots := 0, locals := 89 })
theorem nd_X4_count : (parseMethodDescriptor yX4_count.desc).map (fun d => d.parameters.length) = some 1 := by decide +kernel
theorem ok_X4_count : cc_Ok Y_X4_count := ⟨cd_X4_count, in_X4, by decide +kernel, ⟨by decide +kernel, by decide +kernel⟩, rfl, rfl⟩
def Y_X4_over : cc_Y := (yX4_over, cX4_over, 5, (some .int), { frames := 1, cells := 0, slots := 0, locals := 22 })
theorem nd_X4_over : (parseMethodDescriptor yX4_over.desc).map (fun d => d.parameters.length) = some 2 := by decide +kernel
theorem ok_X4_over : cc_Ok Y_X4_over := ⟨cd_X4_over, in_X4, by decide +kernel, ⟨by decide +kernel, by decide +kernel⟩, rfl, rfl⟩
def Y_X4_stuckOnes : cc_Y := (yX4_stuckOnes, cX4_stuckOnes, 3, (some .int), { frames := 3, cells := 0, slots := 0, locals := 67 })
theorem nd_X4_stuckOnes : (parseMethodDescriptor yX4_stuckOnes.desc).map (fun d => d.parameters.length) = some 0 := by decide +kernel
theorem ok_X4_stuckOnes : cc_Ok Y_X4_stuckOnes := ⟨cd_X4_stuckOnes, in_X4, by decide +kernel, ⟨by decide +kernel, by decide +kernel⟩, rfl, rfl⟩

