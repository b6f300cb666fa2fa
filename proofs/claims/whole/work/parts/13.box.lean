theorem cc_nlt {i : Nat} (N : Nat) (h : ¬ nI N ≤ nI i) (hi : i < 2 ^ 31) : i < N := by
  rcases Nat.lt_or_ge i N with q | q
  · exact q
  · exact absurd (nI_le q hi) h
theorem cc_ngt {i : Nat} (N : Nat) (h : nI N ≤ nI i) (hi : i < 2 ^ 31) (hN : N < 2 ^ 31) : N ≤ i := (nI_leI hN hi).mp h
/-! a box: the tick, the mode, the watch, how many arrived; four lanes; four queues. It lies in 31 cells from b on. -/
abbrev St_ : Type := (Nat → Int32) × (Nat → Ln_) × (Nat → Qu_)
def bx_fs (b : Nat) (g : Nat → Int32) : List Value := [.int (g 0), .int (g 1), .int (g 2), .int (g 3), .ref (b + 1), .ref (b + 2)]
def bx_l (b : Nat) : Nat → Option Nat := fun i => some (b + 3 + 7 * i)
def bx_q (b : Nat) : Nat → Option Nat := fun i => some (b + 6 + 7 * i)
def bx_I (cy : Nat → ClassId) (G0 G : cc_G) (b : Nat) (hs : Nat → Int32) (S : St_) : Prop :=
  (∀ q : Nat, (q < b ∨ b + 31 ≤ q) → G q = G0 q) ∧ G b = some (.inr (0, bx_fs b S.1)) ∧ G (b + 1) = some (.inl (cy 4, 4, .inr (.inr (.inr (.inr (bx_l b)))))) ∧ G (b + 2) = some (.inl (cy 5, 4, .inr (.inr (.inr (.inr (bx_q b)))))) ∧ (∀ j, j < 4 → ln_I cy G G (b + 3 + 7 * j) (S.2.1 j)) ∧ (∀ j, j < 4 → qu_I cy G G (b + 6 + 7 * j) (hs j) (S.2.2 j))
theorem ln_I.keep {cy : Nat → ClassId} {G0 G G1 : cc_G} {a : Nat} {L : Ln_} (h : ln_I cy G0 G a L) (hk : ∀ q, a ≤ q → q < a + 3 → G1 q = G q) : ln_I cy G1 G1 a L := by
  obtain ⟨f, g, ⟨-, h1, h2, h3⟩, h4⟩ := h
  exact ⟨f, g, ⟨fun _ _ => rfl, (hk a (by omega) (by omega)).trans h1, (hk _ (by omega) (by omega)).trans h2, (hk _ (by omega) (by omega)).trans h3⟩, h4⟩
theorem qu_I.keep {cy : Nat → ClassId} {G0 G G1 : cc_G} {a : Nat} {hs : Int32} {q : Qu_} (h : qu_I cy G0 G a hs q) (hk : ∀ x, a ≤ x → x < a + 4 → G1 x = G x) : qu_I cy G1 G1 a hs q := by
  obtain ⟨n1, n2, n3, ⟨-, h1, h2, h3, h5⟩, h4⟩ := h
  exact ⟨n1, n2, n3, ⟨fun _ _ => rfl, (hk a (by omega) (by omega)).trans h1, (hk _ (by omega) (by omega)).trans h2, (hk _ (by omega) (by omega)).trans h3, (hk _ (by omega) (by omega)).trans h5⟩, h4⟩
theorem ln_I.fr {cy : Nat → ClassId} {G0 G : cc_G} {a : Nat} {L : Ln_} (h : ln_I cy G0 G a L) : ∀ q : Nat, (q < a ∨ a + 3 ≤ q) → G q = G0 q := by
  obtain ⟨f, g, h1, -⟩ := h
  exact h1.1
theorem qu_I.fr {cy : Nat → ClassId} {G0 G : cc_G} {a : Nat} {hs : Int32} {q : Qu_} (h : qu_I cy G0 G a hs q) : ∀ x : Nat, (x < a ∨ a + 4 ≤ x) → G x = G0 x := by
  obtain ⟨n1, n2, n3, h1, -⟩ := h
  exact h1.1
theorem bx_I.self {cy : Nat → ClassId} {G0 G : cc_G} {b : Nat} {hs : Nat → Int32} {S : St_} (h : bx_I cy G0 G b hs S) : bx_I cy G G b hs S := ⟨fun _ _ => rfl, h.2⟩
theorem bx_I.tr {cy : Nat → ClassId} {G0 G1 G2 : cc_G} {b : Nat} {hs hs' : Nat → Int32} {S S' : St_} (h : bx_I cy G0 G1 b hs S) (h2 : bx_I cy G1 G2 b hs' S') : bx_I cy G0 G2 b hs' S' := ⟨fun q hq => (h2.1 q hq).trans (h.1 q hq), h2.2⟩
theorem bx_I.keep {cy : Nat → ClassId} {G0 G G1 : cc_G} {b : Nat} {hs : Nat → Int32} {S : St_} (h : bx_I cy G0 G b hs S) (hk : ∀ q, b ≤ q → q < b + 31 → G1 q = G q) : bx_I cy G1 G1 b hs S :=
  ⟨fun _ _ => rfl, (hk _ (by omega) (by omega)).trans h.2.1, (hk _ (by omega) (by omega)).trans h.2.2.1, (hk _ (by omega) (by omega)).trans h.2.2.2.1, fun j hj => (h.2.2.2.2.1 j hj).keep (fun q h1 h2 => hk q (by omega) (by omega)), fun j hj => (h.2.2.2.2.2 j hj).keep (fun q h1 h2 => hk q (by omega) (by omega))⟩
theorem bx_I.to {cy : Nat → ClassId} {G0 G : cc_G} {b : Nat} {hs hs' : Nat → Int32} {S S' : St_} (h : bx_I cy G0 G b hs S) (h0 : ∀ k, k < 4 → S.1 k = S'.1 k) (h1 : ∀ j, j < 4 → S.2.1 j = S'.2.1 j) (h2 : ∀ j, j < 4 → S.2.2 j = S'.2.2 j) (h3 : ∀ j, j < 4 → hs j = hs' j) : bx_I cy G0 G b hs' S' := by
  refine ⟨h.1, ?_, h.2.2.1, h.2.2.2.1, fun j hj => by rw [← h1 j hj]; exact h.2.2.2.2.1 j hj, fun j hj => by rw [← h2 j hj, ← h3 j hj]; exact h.2.2.2.2.2 j hj⟩
  rw [h.2.1]
  unfold bx_fs
  rw [h0 0 (by omega), h0 1 (by omega), h0 2 (by omega), h0 3 (by omega)]
theorem bx_I.lane {cy : Nat → ClassId} {G0 G G1 : cc_G} {b : Nat} {hs : Nat → Int32} {S : St_} (h : bx_I cy G0 G b hs S) {j : Nat} (hj : j < 4) {L : Ln_} (hL : ln_I cy G G1 (b + 3 + 7 * j) L) : bx_I cy G0 G1 b hs (S.1, va_up S.2.1 j L, S.2.2) := by
  have fr := hL.fr
  refine ⟨fun q hq => (fr q (by omega)).trans (h.1 q hq), (fr _ (by omega)).trans h.2.1, (fr _ (by omega)).trans h.2.2.1, (fr _ (by omega)).trans h.2.2.2.1, fun i hi => ?_, fun i hi => (h.2.2.2.2.2 i hi).keep (fun q h1 h2 => fr q (by omega))⟩
  by_cases hq : i = j
  · subst hq
    show ln_I cy G1 G1 _ (va_up S.2.1 i L i)
    rw [va_up_self]
    exact hL.self
  · show ln_I cy G1 G1 _ (va_up S.2.1 j L i)
    rw [va_up_ne _ _ hq]
    exact (h.2.2.2.2.1 i hi).keep (fun q h1 h2 => fr q (by omega))
theorem bx_I.queue {cy : Nat → ClassId} {G0 G G1 : cc_G} {b : Nat} {hs : Nat → Int32} {S : St_} (h : bx_I cy G0 G b hs S) {j : Nat} (hj : j < 4) {h' : Int32} {q' : Qu_} (hL : qu_I cy G G1 (b + 6 + 7 * j) h' q') : bx_I cy G0 G1 b (va_up hs j h') (S.1, S.2.1, va_up S.2.2 j q') := by
  have fr := hL.fr
  refine ⟨fun q hq => (fr q (by omega)).trans (h.1 q hq), (fr _ (by omega)).trans h.2.1, (fr _ (by omega)).trans h.2.2.1, (fr _ (by omega)).trans h.2.2.2.1, fun i hi => (h.2.2.2.2.1 i hi).keep (fun q h1 h2 => fr q (by omega)), fun i hi => ?_⟩
  by_cases hq : i = j
  · subst hq
    show qu_I cy G1 G1 _ (va_up hs i h' i) (va_up S.2.2 i q' i)
    rw [va_up_self, va_up_self]
    exact hL.self
  · show qu_I cy G1 G1 _ (va_up hs j h' i) (va_up S.2.2 j q' i)
    rw [va_up_ne _ _ hq, va_up_ne _ _ hq]
    exact (h.2.2.2.2.2 i hi).keep (fun q h1 h2 => fr q (by omega))
section BXR
variable {cy : Nat → ClassId} {Y : cc_Y} {z pc : Nat} {ls : List (Nat × Value)} {st : List Value} {G0 G : cc_G} {Q : Option Value → cc_G → Prop} {b idx : Nat} {hs : Nat → Int32} {S : St_} {x : Int32}
theorem bx_rput (hB : bx_I cy G0 G b hs S) (hcl : cc_Cl 0 Y.1.cls TX0 6 tyX0) (k0 : Nat) (hk0 : k0 < 6) (hln : Cond.fieldLink Y.1.cls idx (TX0 k0).1 (TX0 k0).2.1 (TX0 k0).2.2.1 ∈ cc_GT) (hfin : (TX0 k0).2.2.2 = false) (hdt : parseFieldDescriptor (TX0 k0).2.2.1 = some .int) {g' : Nat → Int32} (hset : (bx_fs b S.1).set k0 (.int x) = bx_fs b g') (hd : decode Y.2.1 pc = .ok (.putfield idx, 3)) (k : ∀ G1, bx_I cy G0 G1 b hs (g', S.2) → cc_R cy Y z (pc + 3) ls st G1 Q) : cc_R cy Y z pc ls (.int x :: .ref b :: st) G Q := by
  refine cc_put hB.2.1 hcl k0 hk0 hln hfin hdt rfl rfl hk0 hd ?_
  rw [hset]
  exact k _ ⟨fun q hq => by rw [va_up_ne _ _ (by omega)]; exact hB.1 q hq, va_up_self _ _ _, by rw [va_up_ne _ _ (by omega)]; exact hB.2.2.1, by rw [va_up_ne _ _ (by omega)]; exact hB.2.2.2.1, fun j hj => (hB.2.2.2.2.1 j hj).keep (fun q h1 h2 => va_up_ne _ _ (by omega)), fun j hj => (hB.2.2.2.2.2 j hj).keep (fun q h1 h2 => va_up_ne _ _ (by omega))⟩
theorem bx_rputN {host : String} (hB : bx_I cy G0 G b hs S) (k0 : Nat) (hk0 : k0 < 6) (hln : Cond.fieldLinkNest Y.1.cls idx (TX0 k0).1 (TX0 k0).2.1 (TX0 k0).2.2.1 host ∈ cc_NT) (hfin : (TX0 k0).2.2.2 = false) (hdt : parseFieldDescriptor (TX0 k0).2.2.1 = some .int) {g' : Nat → Int32} (hset : (bx_fs b S.1).set k0 (.int x) = bx_fs b g') (hd : decode Y.2.1 pc = .ok (.putfield idx, 3)) (k : ∀ G1, bx_I cy G0 G1 b hs (g', S.2) → cc_R cy Y z (pc + 3) ls st G1 Q) : cc_R cy Y z pc ls (.int x :: .ref b :: st) G Q := by
  refine cc_putN hB.2.1 cc_c0 k0 hk0 hln hfin hdt rfl rfl hk0 hd ?_
  rw [hset]
  exact k _ ⟨fun q hq => by rw [va_up_ne _ _ (by omega)]; exact hB.1 q hq, va_up_self _ _ _, by rw [va_up_ne _ _ (by omega)]; exact hB.2.2.1, by rw [va_up_ne _ _ (by omega)]; exact hB.2.2.2.1, fun j hj => (hB.2.2.2.2.1 j hj).keep (fun q h1 h2 => va_up_ne _ _ (by omega)), fun j hj => (hB.2.2.2.2.2 j hj).keep (fun q h1 h2 => va_up_ne _ _ (by omega))⟩
/-- a number of a lane, written from outside -/
theorem bx_rlane {host : String} {o : Nat} (hB : bx_I cy G0 G b hs S) (ho : o < 4) (k0 : Nat) (hk0 : k0 < 9) (hln : Cond.fieldLinkNest Y.1.cls idx (TX1 k0).1 (TX1 k0).2.1 (TX1 k0).2.2.1 host ∈ cc_NT) (hfin : (TX1 k0).2.2.2 = false) (hdt : parseFieldDescriptor (TX1 k0).2.2.1 = some .int) (hset : ∀ (a : Nat) (v : Nat → Int32) (nS nW : Int32), (ln_fs a v nS nW).set k0 (.int x) = ln_fs a (upd v k0 x) nS nW) (hd : decode Y.2.1 pc = .ok (.putfield idx, 3)) (k : ∀ G1, bx_I cy G0 G1 b hs (S.1, va_up S.2.1 o (upd (S.2.1 o).1 k0 x, (S.2.1 o).2), S.2.2) → cc_R cy Y z (pc + 3) ls st G1 Q) : cc_R cy Y z pc ls (.int x :: .ref (b + 3 + 7 * o) :: st) G Q := by
  obtain ⟨f, g, hL, h1, h2, h3, h4⟩ := hB.2.2.2.2.1 o ho
  refine ln_rputN hL k0 (by omega) hln hfin hdt (hset _ _ _ _) hd (fun G1 hL1 => ?_)
  exact k G1 (hB.lane ho ⟨f, g, hL1, h1, h2, h3, h4⟩)
/-- whether a queue has sent in this tick, written from outside -/
theorem bx_rsent {host : String} {j : Nat} (hB : bx_I cy G0 G b hs S) (hj : j < 4) (hln : Cond.fieldLinkNest Y.1.cls idx (TX2 6).1 (TX2 6).2.1 (TX2 6).2.2.1 host ∈ cc_NT) (hd : decode Y.2.1 pc = .ok (.putfield idx, 3)) (k : ∀ G1, bx_I cy G0 G1 b (va_up hs j 0) S → cc_R cy Y z (pc + 3) ls st G1 Q) : cc_R cy Y z pc ls (.int 0 :: .ref (b + 6 + 7 * j) :: st) G Q := by
  obtain ⟨n1, n2, n3, hL, h1, h2⟩ := hB.2.2.2.2.2 j hj
  refine qu_rputN (sz' := _) (bl' := _) (se' := _) (hs' := 0) hL 6 (by decide) hln rfl rfl rfl rfl rfl hd (fun G1 hL1 => ?_)
  refine k G1 ((hB.queue hj (q' := S.2.2 j) ⟨n1, n2, n3, hL1, h1, h2⟩).to (fun _ _ => rfl) (fun _ _ => rfl) (fun i hi => ?_) (fun _ _ => rfl))
  by_cases hq : i = j
  · subst hq; exact va_up_self _ _ _
  · exact va_up_ne _ _ hq
end BXR
def B_mapI {α : Type} (n : Nat) (F : Nat → α → α) (X : Nat → α) : Nat → α := fun j => if j < n then F j (X j) else X j
theorem B_mapI_at {α : Type} {F : Nat → α → α} {X : Nat → α} {i : Nat} : B_mapI i F X i = X i := if_neg (Nat.lt_irrefl i)
theorem B_mapI_0 {α : Type} {F : Nat → α → α} {X : Nat → α} : B_mapI 0 F X = X := funext fun j => if_neg (Nat.not_lt_zero j)
theorem B_mapI_s {α : Type} {F : Nat → α → α} {X : Nat → α} {i : Nat} : va_up (B_mapI i F X) i (F i (X i)) = B_mapI (i + 1) F X := by
  funext j
  by_cases hq : j = i
  · subst hq
    rw [va_up_self]
    exact (if_pos (Nat.lt_succ_self j)).symm
  · rw [va_up_ne _ _ hq]
    unfold B_mapI
    by_cases hl : j < i
    · rw [if_pos hl, if_pos (by omega)]
    · rw [if_neg hl, if_neg (by omega)]
theorem B_mapI_in {α : Type} {F : Nat → α → α} {X : Nat → α} {n j : Nat} (h : j < n) : B_mapI n F X j = F j (X j) := if_pos h
theorem bx_lane_at {cy : Nat → ClassId} {G0 G : cc_G} {b i : Nat} {hs g : Nat → Int32} {F : Nat → Ln_ → Ln_} {Ls : Nat → Ln_} {Qs : Nat → Qu_} (hB : bx_I cy G0 G b hs (g, B_mapI i F Ls, Qs)) (hi : i < 4) : ln_I cy G G (b + 3 + 7 * i) (Ls i) := by
  have h := hB.2.2.2.2.1 i hi
  rw [show (g, B_mapI i F Ls, Qs).2.1 i = Ls i from B_mapI_at] at h
  exact h
theorem bx_lane_up {cy : Nat → ClassId} {G0 G G1 : cc_G} {b i : Nat} {hs g : Nat → Int32} {F : Nat → Ln_ → Ln_} {Ls : Nat → Ln_} {Qs : Nat → Qu_} (hB : bx_I cy G0 G b hs (g, B_mapI i F Ls, Qs)) (hi : i < 4) (hq : ln_I cy G G1 (b + 3 + 7 * i) (F i (Ls i))) : bx_I cy G0 G1 b hs (g, B_mapI (i + 1) F Ls, Qs) := by
  have h := hB.lane hi hq
  rw [show va_up (g, B_mapI i F Ls, Qs).2.1 i (F i (Ls i)) = B_mapI (i + 1) F Ls from B_mapI_s] at h
  exact h
theorem bx_queue_at {cy : Nat → ClassId} {G0 G : cc_G} {b i : Nat} {hs g : Nat → Int32} {F : Nat → Qu_ → Qu_} {Ls : Nat → Ln_} {Qs : Nat → Qu_} (hB : bx_I cy G0 G b hs (g, Ls, B_mapI i F Qs)) (hi : i < 4) : qu_I cy G G (b + 6 + 7 * i) (hs i) (Qs i) := by
  have h := hB.2.2.2.2.2 i hi
  rw [show (g, Ls, B_mapI i F Qs).2.2 i = Qs i from B_mapI_at] at h
  exact h
theorem bx_queue_up {cy : Nat → ClassId} {G0 G G1 : cc_G} {b i : Nat} {hs g : Nat → Int32} {F : Nat → Qu_ → Qu_} {Ls : Nat → Ln_} {Qs : Nat → Qu_} (hB : bx_I cy G0 G b hs (g, Ls, B_mapI i F Qs)) (hi : i < 4) (hq : qu_I cy G G1 (b + 6 + 7 * i) (hs i) (F i (Qs i))) : bx_I cy G0 G1 b hs (g, Ls, B_mapI (i + 1) F Qs) := by
  have h := hB.queue hi hq
  rw [show va_up (g, Ls, B_mapI i F Qs).2.2 i (F i (Qs i)) = B_mapI (i + 1) F Qs from B_mapI_s] at h
  exact h.to (fun _ _ => rfl) (fun _ _ => rfl) (fun _ _ => rfl) (fun j hj => by
    by_cases hq : j = i
    · subst hq; exact va_up_self _ _ _
    · exact va_up_ne _ _ hq)
def B_begF (S : St_) (L : Ln_) : Ln_ := if 0 < S.1 2 ∧ cc_rm (S.1 0) (S.1 2) = 0 then L_mend (L_come (S.1 0) L) else L_come (S.1 0) L
/-- what happens ahead of the sending -/
def B_beg (S : St_) : St_ := (S.1, B_mapI 4 (fun _ L => B_begF S L) S.2.1, S.2.2)
/-- the input that sends to an output, and the place of its packet: n steps are left, from the step s on -/
def B_try (o m : Int32) (Qs : Nat → Qu_) (hs : Nat → Int32) (t : Nat) : Nat → Nat → Option (Nat × Nat)
  | 0, _ => none
  | n + 1, s => if hs ((t + s) % 4) = 0 then (match Q_off o m (Qs ((t + s) % 4)).2.2 with
    | some k => some ((t + s) % 4, k)
    | none => B_try o m Qs hs t n (s + 1)) else B_try o m Qs hs t n (s + 1)
def B_put (o j k : Nat) (X : St_ × (Nat → Int32)) : St_ × (Nat → Int32) :=
  ((X.1.1, va_up X.1.2.1 o (upd (L_recv ((X.1.2.2 j).2.2.getD k (0, 0, 0)).1 (X.1.2.1 o)).1 4 (nI ((j + 1) % 4)), (L_recv ((X.1.2.2 j).2.2.getD k (0, 0, 0)).1 (X.1.2.1 o)).2), va_up X.1.2.2 j ((X.1.2.2 j).1, (X.1.2.2 j).2.1 + 1, (X.1.2.2 j).2.2.eraseIdx k)), va_up X.2 j 1)
/-- what is sent to the output o, with the turn t; and the state then -/
def B_send (o t : Nat) (X : St_ × (Nat → Int32)) : Option Int32 × (St_ × (Nat → Int32)) :=
  if (X.1.2.1 o).1 3 ≤ 0 then (none, X) else match B_try (nI o) (X.1.1 1) X.1.2.2 X.2 t 4 0 with
    | none => (none, X)
    | some (j, k) => (some ((X.1.2.2 j).2.2.getD k (0, 0, 0)).1, B_put o j k X)
def B_turn (S : St_) (o : Nat) : Nat := ((S.2.1 o).1 4).toNatClampNeg
def B_sends : Nat → St_ × (Nat → Int32) → Nat × (St_ × (Nat → Int32))
  | 0, X => (0, X)
  | i + 1, X => ((if (B_send i (B_turn (B_sends i X).2.1 i) (B_sends i X).2).1.isSome then (B_sends i X).1 + 1 else (B_sends i X).1), (B_send i (B_turn (B_sends i X).2.1 i) (B_sends i X).2).2)
def B_end (X : St_ × (Nat → Int32)) : St_ := (upd X.1.1 0 (X.1.1 0 + 1), B_mapI 4 (fun _ L => L_take (X.1.1 0) L) X.1.2.1, B_mapI 4 (fun j q => (if q.2.2 ≠ [] ∧ X.2 j = 0 then q.1 + 1 else q.1, q.2.1, q.2.2)) X.1.2.2)
/-- a tick passes: how many packets are sent, and the state then -/
def B_tick (S : St_) : Nat × St_ := ((B_sends 4 (B_beg S, fun _ => 0)).1, B_end (B_sends 4 (B_beg S, fun _ => 0)).2)
theorem B_tick_eq {S : St_} {X : Nat × (St_ × (Nat → Int32))} (h : X = B_sends 4 (B_beg S, fun _ => 0)) : B_tick S = (X.1, B_end X.2) := by
  subst h
  rfl
def B_pass : Nat → St_ → Nat × St_
  | 0, S => (0, S)
  | n + 1, S => ((B_pass n S).1 + (B_tick (B_pass n S).2).1, (B_tick (B_pass n S).2).2)
def B_wt (o : Int32) (S : St_) : Nat → Nat
  | 0 => 0
  | i + 1 => B_wt o S i + Q_cn o (S.2.2 i).2.2 (S.2.2 i).2.2.length
noncomputable def B_stb (S : St_) (o : Nat) : Nat := if S.1 2 = 0 ∧ ((S.2.1 o).1 3 ≤ 0 ∧ nI (S.2.1 o).2.1.length = 0 ∧ nI (S.2.1 o).2.2.length = 0) ∧ 0 < nI (B_wt (nI o) S 4) then 1 else 0
noncomputable def B_stn (S : St_) : Nat → Nat
  | 0 => 0
  | i + 1 => B_stn S i + B_stb S i
def L_fig (x1 : Int32) (L : Ln_) : Int32 := (if x1 = 0 then L.1 0 else if x1 = 1 then L.1 1 else if x1 = 2 then L.1 2 else if x1 = 3 then L.1 3 + 100 else if x1 = 4 then nI L.2.1.length else if x1 = 5 then nI L.2.2.length else if x1 = 6 then L.1 0 - L.1 3 - nI L.2.1.length - nI L.2.2.length + 100 else if x1 = 7 then L.1 4 else if x1 = 8 then L.1 5 else if x1 = 9 then L.1 6 else if x1 = 10 then L.1 7 else if x1 = 11 then L.1 8 else (-2))
def Q_fig (x1 : Int32) (q : Qu_) : Int32 := (if x1 = 0 then nI q.2.2.length else if x1 = 1 then q.1 else if x1 = 2 then q.2.1 else if x1 = 3 then (if q.2.2.length = 0 then (-5) else (q.2.2.getD 0 (0, 0, 0)).2.1) else (-2))
def B_sl (x : Int32) (S : St_) : Nat → Int32
  | 0 => 0
  | i + 1 => B_sl x S i + L_fig x (S.2.1 i)
def B_sq (x : Int32) (S : St_) : Nat → Int32
  | 0 => 0
  | i + 1 => B_sq x S i + Q_fig x (S.2.2 i)
noncomputable def B_fig (x : Int32) (S : St_) : Int32 := if x = 0 then S.1 0 else if x = 1 then S.1 3 else if x = 2 then B_sq 0 S 4 else if x = 3 then B_sl 8 S 4 else if x = 4 then B_sl 9 S 4 else if x = 5 then B_sl 10 S 4 else if x = 6 then B_sl 4 S 4 else if x = 7 then B_sq 1 S 4 else if x = 8 then S.1 1 else if x = 9 then S.1 2 else if x = 10 then nI (B_stn S 4) else (-2)
def bx_E (cy : Nat → ClassId) (G0 G : cc_G) (b : Nat) (S : St_) : Prop := ∃ hs, bx_I cy G0 G b hs S
/-- what a tick needs of a box when its credits have come -/
def B_mid (S : St_) : Prop := ∀ j, j < 4 → (S.2.1 j).1 0 ≤ 8 ∧ 0 < (S.2.1 j).1 1 ∧ (∃ t, t < 4 ∧ (S.2.1 j).1 4 = nI t) ∧ (S.2.1 j).2.2.length ≤ 5 ∧ ∀ p ∈ (S.2.2 j).2.2, p.1 ≠ -5
theorem L_recv_k (n : Int32) (L : Ln_) : (L_recv n L).1 0 = L.1 0 ∧ (L_recv n L).1 1 = L.1 1 ∧ (L_recv n L).2.2 = L.2.2 := by
  unfold L_recv
  split <;> exact ⟨rfl, rfl, rfl⟩
theorem B_try_lt {o m : Int32} {Qs : Nat → Qu_} {hs : Nat → Int32} {t : Nat} : ∀ {n s : Nat} {j k : Nat}, B_try o m Qs hs t n s = some (j, k) → j < 4 ∧ k < (Qs j).2.2.length ∧ ((Qs j).2.2.getD k (0, 0, 0)).2.1 = o ∧ hs j = 0
  | 0, s, j, k, h => by cases h
  | n + 1, s, j, k, h => by
    unfold B_try at h
    split at h
    next h0 =>
      split at h
      next k0 hq =>
        cases h
        exact ⟨Nat.mod_lt _ (by decide), (Q_off_lt hq).1, (Q_off_lt hq).2, h0⟩
      next hq => exact B_try_lt h
    next h0 => exact B_try_lt h
/-- the two ends of a sending -/
theorem B_send_cases (o t : Nat) (X : St_ × (Nat → Int32)) : B_send o t X = (none, X) ∨ ∃ j k, j < 4 ∧ k < (X.1.2.2 j).2.2.length ∧ ((X.1.2.2 j).2.2.getD k (0, 0, 0)).2.1 = nI o ∧ X.2 j = 0 ∧ B_send o t X = (some ((X.1.2.2 j).2.2.getD k (0, 0, 0)).1, B_put o j k X) := by
  unfold B_send
  split
  · exact Or.inl rfl
  · split
    · exact Or.inl rfl
    next j k h =>
      obtain ⟨h1, h2, h3, h4⟩ := B_try_lt h
      exact Or.inr ⟨j, k, h1, h2, h3, h4, rfl⟩
theorem cc_getD_mem {α : Type} {l : List α} {k : Nat} {d : α} (h : k < l.length) : l.getD k d ∈ l := by
  rw [List.getD_eq_getElem?_getD, List.getElem?_eq_getElem h]
  exact List.getElem_mem _
theorem B_mid.send {X : St_ × (Nat → Int32)} (h : B_mid X.1) (hh : ∀ j, j < 4 → X.2 j = 0 ∨ X.2 j = 1) (o t : Nat) : B_mid (B_send o t X).2.1 ∧ (∀ j, j < 4 → (B_send o t X).2.2 j = 0 ∨ (B_send o t X).2.2 j = 1) ∧ ∀ n, (B_send o t X).1 = some n → n ≠ -5 := by
  rcases B_send_cases o t X with e | ⟨j, k, h1, h2, h3, h4, e⟩
  · rw [e]
    exact ⟨h, hh, fun n hn => by cases hn⟩
  · rw [e]
    refine ⟨fun i hi => ?_, fun i hi => ?_, fun n hn => ?_⟩
    · obtain ⟨a1, a2, a3, a4, a5⟩ := h i hi
      have hq : ∀ p ∈ ((B_put o j k X).1.2.2 i).2.2, p.1 ≠ -5 := by
        intro p hp
        by_cases hij : i = j
        · subst hij
          have hp : p ∈ (va_up X.1.2.2 i ((X.1.2.2 i).1, (X.1.2.2 i).2.1 + 1, (X.1.2.2 i).2.2.eraseIdx k) i).2.2 := hp
          rw [va_up_self] at hp
          exact a5 p (List.mem_of_mem_eraseIdx hp)
        · have hp : p ∈ (va_up X.1.2.2 j ((X.1.2.2 j).1, (X.1.2.2 j).2.1 + 1, (X.1.2.2 j).2.2.eraseIdx k) i).2.2 := hp
          rw [va_up_ne _ _ hij] at hp
          exact a5 p hp
      by_cases hio : i = o
      · subst hio
        have e2 : (B_put i j k X).1.2.1 i = (upd (L_recv ((X.1.2.2 j).2.2.getD k (0, 0, 0)).1 (X.1.2.1 i)).1 4 (nI ((j + 1) % 4)), (L_recv ((X.1.2.2 j).2.2.getD k (0, 0, 0)).1 (X.1.2.1 i)).2) := va_up_self _ _ _
        obtain ⟨r1, r2, r3⟩ := L_recv_k ((X.1.2.2 j).2.2.getD k (0, 0, 0)).1 (X.1.2.1 i)
        dsimp only
        rw [e2]
        have u0 : (upd (L_recv ((X.1.2.2 j).2.2.getD k (0, 0, 0)).1 (X.1.2.1 i)).1 4 (nI ((j + 1) % 4))) 0 = (X.1.2.1 i).1 0 := (pk_un (by decide)).trans r1
        have u1 : (upd (L_recv ((X.1.2.2 j).2.2.getD k (0, 0, 0)).1 (X.1.2.1 i)).1 4 (nI ((j + 1) % 4))) 1 = (X.1.2.1 i).1 1 := (pk_un (by decide)).trans r2
        rw [← u0] at a1
        rw [← u1] at a2
        rw [← r3] at a4
        exact ⟨a1, a2, ⟨(j + 1) % 4, Nat.mod_lt _ (by decide), pk_us (f := (L_recv ((X.1.2.2 j).2.2.getD k (0, 0, 0)).1 (X.1.2.1 i)).1) (k := 4) (x := nI ((j + 1) % 4))⟩, a4, hq⟩
      · have e2 : (B_put o j k X).1.2.1 i = X.1.2.1 i := va_up_ne _ _ hio
        dsimp only
        rw [e2]
        exact ⟨a1, a2, a3, a4, hq⟩
    · by_cases hij : i = j
      · subst hij
        exact Or.inr (va_up_self _ _ _)
      · show va_up X.2 j 1 i = 0 ∨ va_up X.2 j 1 i = 1
        rw [va_up_ne _ _ hij]
        exact hh i hi
    · cases hn
      exact (h j h1).2.2.2.2 _ (cc_getD_mem h2)
theorem B_mid.sends {X : St_ × (Nat → Int32)} (h : B_mid X.1) (hh : ∀ j, j < 4 → X.2 j = 0 ∨ X.2 j = 1) : ∀ i, B_mid (B_sends i X).2.1 ∧ ∀ j, j < 4 → (B_sends i X).2.2 j = 0 ∨ (B_sends i X).2.2 j = 1 := by
  intro i
  induction i with
  | zero => exact ⟨h, hh⟩
  | succ i ih =>
    have := B_mid.send ih.1 ih.2 i (B_turn (B_sends i X).2.1 i)
    exact ⟨this.1, this.2.1⟩
theorem B_mid.turn {S : St_} (h : B_mid S) {o : Nat} (ho : o < 4) : (S.2.1 o).1 4 = nI (B_turn S o) ∧ B_turn S o < 4 := by
  obtain ⟨-, -, ⟨t, h1, h2⟩, -⟩ := h o ho
  have e : B_turn S o = t := by unfold B_turn; rw [h2]; exact nI_clamp (by omega)
  rw [e]
  exact ⟨h2, h1⟩
theorem B_sends_le (X : St_ × (Nat → Int32)) : ∀ i, (B_sends i X).1 ≤ i := by
  intro i
  induction i with
  | zero => exact Nat.le_refl 0
  | succ i ih =>
    have e : (B_sends (i + 1) X).1 = if (B_send i (B_turn (B_sends i X).2.1 i) (B_sends i X).2).1.isSome then (B_sends i X).1 + 1 else (B_sends i X).1 := rfl
    rw [e]
    split
    · omega
    · omega
def B_adm (i : Nat) (o : Int32) (S : St_) : St_ := (upd S.1 3 (S.1 3 + 1), S.2.1, va_up S.2.2 i ((S.2.2 i).1, (S.2.2 i).2.1, (S.2.2 i).2.2 ++ [(S.1 3, o, S.1 0)]))
theorem cc_rm4 {n : Nat} (h : n < 2 ^ 31) : cc_rm (nI n) 4 = nI (n % 4) := pk_rem (d := 4) h (by decide) (by decide)
theorem Q_wt_le (o : Int32) (S : St_) (h : ∀ j, j < 4 → (S.2.2 j).2.2.length ≤ 8) : ∀ i, i ≤ 4 → B_wt o S i ≤ 8 * i := by
  intro i
  induction i with
  | zero => intro _; exact Nat.le_refl 0
  | succ i ih =>
    intro hi
    have h1 := Q_cn_le o (S.2.2 i).2.2 (S.2.2 i).2.2.length
    have h2 := h i (by omega)
    have h3 := ih (by omega)
    show B_wt o S i + _ ≤ _
    omega
