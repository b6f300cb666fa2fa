/-! the reference: one object and seven rows, in eight cells from o on -/
def mo_fs (o : Nat) (nn ia le ay : Int32) : List Value := [.ref (o + 1), .ref (o + 2), .ref (o + 3), .ref (o + 4), .int nn, .int ia, .ref (o + 5), .int le, .int ay, .ref (o + 6), .ref (o + 7)]
def mo_R (cy : Nat → ClassId) (G0 G : cc_G) (o : Nat) (r pa qa be : Nat → Int32) (nn ia : Int32) (tx : Nat → Int32) (le ay : Int32) (hs so : Nat → Int32) : Prop :=
  (∀ q : Nat, (q < o ∨ o + 8 ≤ q) → G q = G0 q) ∧ G o = some (.inr (4, mo_fs o nn ia le ay)) ∧ G (o + 1) = some (.inl (cy 1, 232, .inl r)) ∧ G (o + 2) = some (.inl (cy 1, 928, .inl pa)) ∧ G (o + 3) = some (.inl (cy 1, 232, .inl qa)) ∧ G (o + 4) = some (.inl (cy 1, 232, .inl be)) ∧ G (o + 5) = some (.inl (cy 0, 60, .inl tx)) ∧ G (o + 6) = some (.inl (cy 2, 4, .inl hs)) ∧ G (o + 7) = some (.inl (cy 1, 4, .inl so))
theorem mo_R.self {cy : Nat → ClassId} {G0 G : cc_G} {o : Nat} {r pa qa be tx hs so : Nat → Int32} {nn ia le ay : Int32} (H : mo_R cy G0 G o r pa qa be nn ia tx le ay hs so) : mo_R cy G G o r pa qa be nn ia tx le ay hs so := ⟨fun _ _ => rfl, H.2⟩
theorem mo_R.tr {cy : Nat → ClassId} {G0 G1 G2 : cc_G} {o : Nat} {r pa qa be tx hs so : Nat → Int32} {nn ia le ay : Int32} {r' pa' qa' be' tx' hs' so' : Nat → Int32} {nn' ia' le' ay' : Int32} (H : mo_R cy G0 G1 o r pa qa be nn ia tx le ay hs so) (H2 : mo_R cy G1 G2 o r' pa' qa' be' nn' ia' tx' le' ay' hs' so') : mo_R cy G0 G2 o r' pa' qa' be' nn' ia' tx' le' ay' hs' so' := ⟨fun q hq => (H2.1 q hq).trans (H.1 q hq), H2.2⟩
section MOR
variable {cy : Nat → ClassId} {Y : cc_Y} {z pc : Nat} {ls : List (Nat × Value)} {st : List Value} {G0 G : cc_G} {Q : Option Value → cc_G → Prop} {o idx : Nat} {r pa qa be tx hs so : Nat → Int32} {nn ia le ay : Int32} {nn' ia' le' ay' x : Int32}
theorem mo_rput (H : mo_R cy G0 G o r pa qa be nn ia tx le ay hs so) (hcl : cc_Cl 4 Y.1.cls TX4 11 tyX4) (k0 : Nat) (hk0 : k0 < 11) (hln : Cond.fieldLink Y.1.cls idx (TX4 k0).1 (TX4 k0).2.1 (TX4 k0).2.2.1 ∈ cc_GT) (hfin : (TX4 k0).2.2.2 = false) {ty : FieldType} (hdt : parseFieldDescriptor (TX4 k0).2.2.1 = some ty) (hn : narrow ty (.int x) = .int x) (hfit : fits ty (.int x) = true) (hset : (mo_fs o nn ia le ay).set k0 (.int x) = mo_fs o nn' ia' le' ay') (hd : decode Y.2.1 pc = .ok (.putfield idx, 3)) (k : ∀ G1, mo_R cy G0 G1 o r pa qa be nn' ia' tx le' ay' hs so → cc_R cy Y z (pc + 3) ls st G1 Q) : cc_R cy Y z pc ls (.int x :: .ref o :: st) G Q := by
  refine cc_put H.2.1 hcl k0 hk0 hln hfin hdt hn hfit hk0 hd ?_
  rw [hset]
  exact k _ ⟨fun q hq => by rw [va_up_ne _ _ (by omega)]; exact H.1 q hq, va_up_self _ _ _, by rw [va_up_ne _ _ (by omega)]; exact H.2.2.1, by rw [va_up_ne _ _ (by omega)]; exact H.2.2.2.1, by rw [va_up_ne _ _ (by omega)]; exact H.2.2.2.2.1, by rw [va_up_ne _ _ (by omega)]; exact H.2.2.2.2.2.1, by rw [va_up_ne _ _ (by omega)]; exact H.2.2.2.2.2.2.1, by rw [va_up_ne _ _ (by omega)]; exact H.2.2.2.2.2.2.2.1, by rw [va_up_ne _ _ (by omega)]; exact H.2.2.2.2.2.2.2.2⟩
theorem mo_rast_r {i : Int32} {j : Nat} (H : mo_R cy G0 G o r pa qa be nn ia tx le ay hs so) (hin : vp_in i 232) (hj : i.toNatClampNeg = j) (hd : decode Y.2.1 pc = .ok (.iastore, 1)) (k : ∀ G1, mo_R cy G0 G1 o (upd r j x) pa qa be nn ia tx le ay hs so → cc_R cy Y z (pc + 1) ls st G1 Q) : cc_R cy Y z pc ls (.int x :: .int i :: .ref (o + 1) :: st) G Q := by
  refine cc_iast H.2.2.1 hin hj hd ?_
  
  exact k _ ⟨fun q hq => by rw [va_up_ne _ _ (by omega)]; exact H.1 q hq, by rw [va_up_ne _ _ (by omega)]; exact H.2.1, va_up_self _ _ _, by rw [va_up_ne _ _ (by omega)]; exact H.2.2.2.1, by rw [va_up_ne _ _ (by omega)]; exact H.2.2.2.2.1, by rw [va_up_ne _ _ (by omega)]; exact H.2.2.2.2.2.1, by rw [va_up_ne _ _ (by omega)]; exact H.2.2.2.2.2.2.1, by rw [va_up_ne _ _ (by omega)]; exact H.2.2.2.2.2.2.2.1, by rw [va_up_ne _ _ (by omega)]; exact H.2.2.2.2.2.2.2.2⟩
theorem mo_rast_pa {i : Int32} {j : Nat} (H : mo_R cy G0 G o r pa qa be nn ia tx le ay hs so) (hin : vp_in i 928) (hj : i.toNatClampNeg = j) (hd : decode Y.2.1 pc = .ok (.iastore, 1)) (k : ∀ G1, mo_R cy G0 G1 o r (upd pa j x) qa be nn ia tx le ay hs so → cc_R cy Y z (pc + 1) ls st G1 Q) : cc_R cy Y z pc ls (.int x :: .int i :: .ref (o + 2) :: st) G Q := by
  refine cc_iast H.2.2.2.1 hin hj hd ?_
  
  exact k _ ⟨fun q hq => by rw [va_up_ne _ _ (by omega)]; exact H.1 q hq, by rw [va_up_ne _ _ (by omega)]; exact H.2.1, by rw [va_up_ne _ _ (by omega)]; exact H.2.2.1, va_up_self _ _ _, by rw [va_up_ne _ _ (by omega)]; exact H.2.2.2.2.1, by rw [va_up_ne _ _ (by omega)]; exact H.2.2.2.2.2.1, by rw [va_up_ne _ _ (by omega)]; exact H.2.2.2.2.2.2.1, by rw [va_up_ne _ _ (by omega)]; exact H.2.2.2.2.2.2.2.1, by rw [va_up_ne _ _ (by omega)]; exact H.2.2.2.2.2.2.2.2⟩
theorem mo_rast_qa {i : Int32} {j : Nat} (H : mo_R cy G0 G o r pa qa be nn ia tx le ay hs so) (hin : vp_in i 232) (hj : i.toNatClampNeg = j) (hd : decode Y.2.1 pc = .ok (.iastore, 1)) (k : ∀ G1, mo_R cy G0 G1 o r pa (upd qa j x) be nn ia tx le ay hs so → cc_R cy Y z (pc + 1) ls st G1 Q) : cc_R cy Y z pc ls (.int x :: .int i :: .ref (o + 3) :: st) G Q := by
  refine cc_iast H.2.2.2.2.1 hin hj hd ?_
  
  exact k _ ⟨fun q hq => by rw [va_up_ne _ _ (by omega)]; exact H.1 q hq, by rw [va_up_ne _ _ (by omega)]; exact H.2.1, by rw [va_up_ne _ _ (by omega)]; exact H.2.2.1, by rw [va_up_ne _ _ (by omega)]; exact H.2.2.2.1, va_up_self _ _ _, by rw [va_up_ne _ _ (by omega)]; exact H.2.2.2.2.2.1, by rw [va_up_ne _ _ (by omega)]; exact H.2.2.2.2.2.2.1, by rw [va_up_ne _ _ (by omega)]; exact H.2.2.2.2.2.2.2.1, by rw [va_up_ne _ _ (by omega)]; exact H.2.2.2.2.2.2.2.2⟩
theorem mo_rast_be {i : Int32} {j : Nat} (H : mo_R cy G0 G o r pa qa be nn ia tx le ay hs so) (hin : vp_in i 232) (hj : i.toNatClampNeg = j) (hd : decode Y.2.1 pc = .ok (.iastore, 1)) (k : ∀ G1, mo_R cy G0 G1 o r pa qa (upd be j x) nn ia tx le ay hs so → cc_R cy Y z (pc + 1) ls st G1 Q) : cc_R cy Y z pc ls (.int x :: .int i :: .ref (o + 4) :: st) G Q := by
  refine cc_iast H.2.2.2.2.2.1 hin hj hd ?_
  
  exact k _ ⟨fun q hq => by rw [va_up_ne _ _ (by omega)]; exact H.1 q hq, by rw [va_up_ne _ _ (by omega)]; exact H.2.1, by rw [va_up_ne _ _ (by omega)]; exact H.2.2.1, by rw [va_up_ne _ _ (by omega)]; exact H.2.2.2.1, by rw [va_up_ne _ _ (by omega)]; exact H.2.2.2.2.1, va_up_self _ _ _, by rw [va_up_ne _ _ (by omega)]; exact H.2.2.2.2.2.2.1, by rw [va_up_ne _ _ (by omega)]; exact H.2.2.2.2.2.2.2.1, by rw [va_up_ne _ _ (by omega)]; exact H.2.2.2.2.2.2.2.2⟩
theorem mo_rast_tx {i : Int32} {j : Nat} (H : mo_R cy G0 G o r pa qa be nn ia tx le ay hs so) (hin : vp_in i 60) (hj : i.toNatClampNeg = j) (hx : vp_nar .char x = x) (hd : decode Y.2.1 pc = .ok (.castore, 1)) (k : ∀ G1, mo_R cy G0 G1 o r pa qa be nn ia (upd tx j x) le ay hs so → cc_R cy Y z (pc + 1) ls st G1 Q) : cc_R cy Y z pc ls (.int x :: .int i :: .ref (o + 5) :: st) G Q := by
  refine cc_cast H.2.2.2.2.2.2.1 hin hj hd ?_
  rw [hx]
  exact k _ ⟨fun q hq => by rw [va_up_ne _ _ (by omega)]; exact H.1 q hq, by rw [va_up_ne _ _ (by omega)]; exact H.2.1, by rw [va_up_ne _ _ (by omega)]; exact H.2.2.1, by rw [va_up_ne _ _ (by omega)]; exact H.2.2.2.1, by rw [va_up_ne _ _ (by omega)]; exact H.2.2.2.2.1, by rw [va_up_ne _ _ (by omega)]; exact H.2.2.2.2.2.1, va_up_self _ _ _, by rw [va_up_ne _ _ (by omega)]; exact H.2.2.2.2.2.2.2.1, by rw [va_up_ne _ _ (by omega)]; exact H.2.2.2.2.2.2.2.2⟩
theorem mo_rast_hs {i : Int32} {j : Nat} (H : mo_R cy G0 G o r pa qa be nn ia tx le ay hs so) (hin : vp_in i 4) (hj : i.toNatClampNeg = j) (hx : vp_nar .boolean x = x) (hd : decode Y.2.1 pc = .ok (.bastore, 1)) (k : ∀ G1, mo_R cy G0 G1 o r pa qa be nn ia tx le ay (upd hs j x) so → cc_R cy Y z (pc + 1) ls st G1 Q) : cc_R cy Y z pc ls (.int x :: .int i :: .ref (o + 6) :: st) G Q := by
  refine cc_zast H.2.2.2.2.2.2.2.1 hin hj hd ?_
  rw [hx]
  exact k _ ⟨fun q hq => by rw [va_up_ne _ _ (by omega)]; exact H.1 q hq, by rw [va_up_ne _ _ (by omega)]; exact H.2.1, by rw [va_up_ne _ _ (by omega)]; exact H.2.2.1, by rw [va_up_ne _ _ (by omega)]; exact H.2.2.2.1, by rw [va_up_ne _ _ (by omega)]; exact H.2.2.2.2.1, by rw [va_up_ne _ _ (by omega)]; exact H.2.2.2.2.2.1, by rw [va_up_ne _ _ (by omega)]; exact H.2.2.2.2.2.2.1, va_up_self _ _ _, by rw [va_up_ne _ _ (by omega)]; exact H.2.2.2.2.2.2.2.2⟩
theorem mo_rast_so {i : Int32} {j : Nat} (H : mo_R cy G0 G o r pa qa be nn ia tx le ay hs so) (hin : vp_in i 4) (hj : i.toNatClampNeg = j) (hd : decode Y.2.1 pc = .ok (.iastore, 1)) (k : ∀ G1, mo_R cy G0 G1 o r pa qa be nn ia tx le ay hs (upd so j x) → cc_R cy Y z (pc + 1) ls st G1 Q) : cc_R cy Y z pc ls (.int x :: .int i :: .ref (o + 7) :: st) G Q := by
  refine cc_iast H.2.2.2.2.2.2.2.2 hin hj hd ?_
  
  exact k _ ⟨fun q hq => by rw [va_up_ne _ _ (by omega)]; exact H.1 q hq, by rw [va_up_ne _ _ (by omega)]; exact H.2.1, by rw [va_up_ne _ _ (by omega)]; exact H.2.2.1, by rw [va_up_ne _ _ (by omega)]; exact H.2.2.2.1, by rw [va_up_ne _ _ (by omega)]; exact H.2.2.2.2.1, by rw [va_up_ne _ _ (by omega)]; exact H.2.2.2.2.2.1, by rw [va_up_ne _ _ (by omega)]; exact H.2.2.2.2.2.2.1, by rw [va_up_ne _ _ (by omega)]; exact H.2.2.2.2.2.2.2.1, va_up_self _ _ _⟩
end MOR
/-! what a row of the reference says of a box -/
def rl_I (r : Nat → Int32) (b : Nat) (L : Ln_) : Prop := (∀ k, k < 9 → r (b + k) = L.1 k) ∧ r (b + 9) = nI L.2.1.length ∧ r (b + 10) = nI L.2.2.length ∧ ar_ (fun k => r (b + (11 + k))) L.2.1 ∧ ar_ (fun k => r (b + (19 + k))) L.2.2 ∧ L.2.1.length ≤ 8 ∧ L.2.2.length ≤ 6
def rq_I (r : Nat → Int32) (b : Nat) (q : Qu_) : Prop := r (b + 0) = nI q.2.2.length ∧ r (b + 1) = q.1 ∧ r (b + 2) = q.2.1 ∧ qu_A (fun k => r (b + (3 + 3 * k))) (fun k => r (b + (3 + 3 * k + 1))) (fun k => r (b + (3 + 3 * k + 2))) q.2.2 ∧ q.2.2.length ≤ 8
def rw_I (r : Nat → Int32) (S : St_) : Prop := r 0 = S.1 0 ∧ r 1 = S.1 1 ∧ r 2 = S.1 2 ∧ r 3 = S.1 3 ∧ (∀ o, o < 4 → rl_I r (4 + 30 * o) (S.2.1 o)) ∧ ∀ i, i < 4 → rq_I r (124 + 27 * i) (S.2.2 i)
theorem rl_I.keep {r r' : Nat → Int32} {b : Nat} {L : Ln_} (h : rl_I r b L) (hk : ∀ q, b ≤ q → q < b + 30 → r' q = r q) : rl_I r' b L := by
  obtain ⟨h1, h2, h3, h4, h5, h6, h7⟩ := h
  exact ⟨fun k hq => (hk _ (by omega) (by omega)).trans (h1 k hq), (hk _ (by omega) (by omega)).trans h2, (hk _ (by omega) (by omega)).trans h3, h4.eq (fun k hq => hk _ (by omega) (by omega)), h5.eq (fun k hq => hk _ (by omega) (by omega)), h6, h7⟩
theorem rq_I.keep {r r' : Nat → Int32} {b : Nat} {q : Qu_} (h : rq_I r b q) (hk : ∀ x, b ≤ x → x < b + 27 → r' x = r x) : rq_I r' b q := by
  obtain ⟨h1, h2, h3, ⟨h4, h5, h6⟩, h7⟩ := h
  exact ⟨(hk _ (by omega) (by omega)).trans h1, (hk _ (by omega) (by omega)).trans h2, (hk _ (by omega) (by omega)).trans h3, ⟨h4.eq (fun k hq => hk _ (by omega) (by simp at hq; omega)), h5.eq (fun k hq => hk _ (by omega) (by simp at hq; omega)), h6.eq (fun k hq => hk _ (by omega) (by simp at hq; omega))⟩, h7⟩
theorem rw_I.lane {r r' : Nat → Int32} {S : St_} (h : rw_I r S) {o : Nat} (ho : o < 4) {L : Ln_} (hL : rl_I r' (4 + 30 * o) L) (hk : ∀ q, (q < 4 + 30 * o ∨ 4 + 30 * o + 30 ≤ q) → r' q = r q) : rw_I r' (S_lane S o L) := by
  refine ⟨(hk _ (by omega)).trans h.1, (hk _ (by omega)).trans h.2.1, (hk _ (by omega)).trans h.2.2.1, (hk _ (by omega)).trans h.2.2.2.1, fun i hi => ?_, fun i hi => (h.2.2.2.2.2 i hi).keep (fun q h1 h2 => hk q (by omega))⟩
  show rl_I r' _ (va_up S.2.1 o L i)
  by_cases hq : i = o
  · subst hq
    rw [va_up_self]
    exact hL
  · rw [va_up_ne _ _ hq]
    exact (h.2.2.2.2.1 i hi).keep (fun q h1 h2 => hk q (by omega))
theorem rw_I.queue {r r' : Nat → Int32} {S : St_} (h : rw_I r S) {i : Nat} (hi : i < 4) {q' : Qu_} (hL : rq_I r' (124 + 27 * i) q') (hk : ∀ q, (q < 124 + 27 * i ∨ 124 + 27 * i + 27 ≤ q) → r' q = r q) : rw_I r' (S.1, S.2.1, va_up S.2.2 i q') := by
  refine ⟨(hk _ (by omega)).trans h.1, (hk _ (by omega)).trans h.2.1, (hk _ (by omega)).trans h.2.2.1, (hk _ (by omega)).trans h.2.2.2.1, fun j hj => (h.2.2.2.2.1 j hj).keep (fun q h1 h2 => hk q (by omega)), fun j hj => ?_⟩
  show rq_I r' _ (va_up S.2.2 i q' j)
  by_cases hq : j = i
  · subst hq
    rw [va_up_self]
    exact hL
  · rw [va_up_ne _ _ hq]
    exact (h.2.2.2.2.2 j hj).keep (fun q h1 h2 => hk q (by omega))
theorem rw_I.top {r : Nat → Int32} {S : St_} (h : rw_I r S) {k : Nat} (hk : k < 4) (x : Int32) : rw_I (upd r k x) (upd S.1 k x, S.2) := by
  refine ⟨?_, ?_, ?_, ?_, fun o ho => (h.2.2.2.2.1 o ho).keep (fun q h1 h2 => pk_un (by omega)), fun i hi => (h.2.2.2.2.2 i hi).keep (fun q h1 h2 => pk_un (by omega))⟩
  all_goals
    show upd r k x _ = upd S.1 k x _
    unfold upd
    split
    · rfl
    · first | exact h.1 | exact h.2.1 | exact h.2.2.1 | exact h.2.2.2.1
/-- a number of a lane is laid -/
theorem rw_I.num {r : Nat → Int32} {S : St_} (h : rw_I r S) {o w : Nat} (ho : o < 4) (hw : w < 9) (x : Int32) : rw_I (upd r (4 + 30 * o + w) x) (S_lane S o (upd (S.2.1 o).1 w x, (S.2.1 o).2)) := by
  obtain ⟨h1, h2, h3, h4, h5, h6, h7⟩ := h.2.2.2.2.1 o ho
  refine h.lane ho ⟨fun k hk => ?_, ?_, ?_, h4.eq (fun k hk => pk_un (by omega)), h5.eq (fun k hk => pk_un (by omega)), h6, h7⟩ (fun q hq => pk_un (by omega))
  · show upd r _ x _ = upd (S.2.1 o).1 w x k
    by_cases hq : k = w
    · subst hq
      rw [pk_us, pk_us]
    · rw [pk_un (by omega), pk_un hq]
      exact h1 k hk
  · exact (pk_un (by omega)).trans h2
  · exact (pk_un (by omega)).trans h3
theorem rw_I.to {r : Nat → Int32} {S S' : St_} (h : rw_I r S) (h0 : ∀ k, k < 4 → S.1 k = S'.1 k) (h1 : ∀ j, j < 4 → S.2.1 j = S'.2.1 j) (h2 : ∀ j, j < 4 → S.2.2 j = S'.2.2 j) : rw_I r S' := by
  refine ⟨h.1.trans (h0 0 (by decide)), h.2.1.trans (h0 1 (by decide)), h.2.2.1.trans (h0 2 (by decide)), h.2.2.2.1.trans (h0 3 (by decide)), fun o ho => ?_, fun i hi => ?_⟩
  · rw [← h1 o ho]; exact h.2.2.2.2.1 o ho
  · rw [← h2 i hi]; exact h.2.2.2.2.2 i hi
theorem rw_I.eq {r r' : Nat → Int32} {S : St_} (h : rw_I r S) (hk : ∀ k, k < 232 → r' k = r k) : rw_I r' S :=
  ⟨(hk _ (by omega)).trans h.1, (hk _ (by omega)).trans h.2.1, (hk _ (by omega)).trans h.2.2.1, (hk _ (by omega)).trans h.2.2.2.1, fun o ho => (h.2.2.2.2.1 o ho).keep (fun q h1 h2 => hk q (by omega)), fun i hi => (h.2.2.2.2.2 i hi).keep (fun q h1 h2 => hk q (by omega))⟩
