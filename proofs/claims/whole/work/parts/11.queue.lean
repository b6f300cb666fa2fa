/-! a queue: its packets (number, output, tick), how long it was blocked, how many it sent; and whether it has sent in this tick -/
def qu_fs (a : Nat) (sz bl se hs : Int32) : List Value := [.ref (a + 1), .ref (a + 2), .ref (a + 3), .int sz, .int bl, .int se, .int hs]
def qu_R (cy : Nat → ClassId) (G0 G : cc_G) (a : Nat) (n1 n2 n3 : Nat → Int32) (sz bl se hs : Int32) : Prop :=
  (∀ q : Nat, (q < a ∨ a + 4 ≤ q) → G q = G0 q) ∧ G a = some (.inr (2, qu_fs a sz bl se hs)) ∧ G (a + 1) = some (.inl (cy 1, 8, .inl n1)) ∧ G (a + 2) = some (.inl (cy 1, 8, .inl n2)) ∧ G (a + 3) = some (.inl (cy 1, 8, .inl n3))
abbrev Pk_ : Type := Int32 × Int32 × Int32
abbrev Qu_ : Type := Int32 × Int32 × List Pk_
def qu_A (n1 n2 n3 : Nat → Int32) (l : List Pk_) : Prop := ar_ n1 (l.map (fun p => p.1)) ∧ ar_ n2 (l.map (fun p => p.2.1)) ∧ ar_ n3 (l.map (fun p => p.2.2))
def qu_I (cy : Nat → ClassId) (G0 G : cc_G) (a : Nat) (hs : Int32) (q : Qu_) : Prop := ∃ n1 n2 n3, qu_R cy G0 G a n1 n2 n3 (nI q.2.2.length) q.1 q.2.1 hs ∧ qu_A n1 n2 n3 q.2.2 ∧ q.2.2.length ≤ 8
theorem qu_R.self {cy : Nat → ClassId} {G0 G : cc_G} {a : Nat} {n1 n2 n3 : Nat → Int32} {sz bl se hs : Int32} (h : qu_R cy G0 G a n1 n2 n3 sz bl se hs) : qu_R cy G G a n1 n2 n3 sz bl se hs := ⟨fun _ _ => rfl, h.2⟩
theorem qu_R.tr {cy : Nat → ClassId} {G0 G1 G2 : cc_G} {a : Nat} {n1 n2 n3 m1 m2 m3 : Nat → Int32} {sz bl se hs sz' bl' se' hs' : Int32} (h : qu_R cy G0 G1 a n1 n2 n3 sz bl se hs) (h2 : qu_R cy G1 G2 a m1 m2 m3 sz' bl' se' hs') : qu_R cy G0 G2 a m1 m2 m3 sz' bl' se' hs' := ⟨fun q hq => (h2.1 q hq).trans (h.1 q hq), h2.2⟩
theorem qu_I.self {cy : Nat → ClassId} {G0 G : cc_G} {a : Nat} {hs : Int32} {q : Qu_} (h : qu_I cy G0 G a hs q) : qu_I cy G G a hs q := by
  obtain ⟨n1, n2, n3, h1, h2⟩ := h
  exact ⟨n1, n2, n3, h1.self, h2⟩
theorem qu_I.tr {cy : Nat → ClassId} {G0 G1 G2 : cc_G} {a : Nat} {hs hs' : Int32} {q q' : Qu_} (h : qu_I cy G0 G1 a hs q) (h2 : qu_I cy G1 G2 a hs' q') : qu_I cy G0 G2 a hs' q' := by
  obtain ⟨_, _, _, h1, -⟩ := h
  obtain ⟨n1, n2, n3, h3, h4⟩ := h2
  exact ⟨n1, n2, n3, h1.tr h3, h4⟩
section QUR
variable {cy : Nat → ClassId} {Y : cc_Y} {z pc : Nat} {ls : List (Nat × Value)} {st : List Value} {G0 G : cc_G} {Q : Option Value → cc_G → Prop} {a idx : Nat} {n1 n2 n3 : Nat → Int32} {sz bl se hs sz' bl' se' hs' x : Int32}
theorem qu_rput (hL : qu_R cy G0 G a n1 n2 n3 sz bl se hs) (hcl : cc_Cl 2 Y.1.cls TX2 7 tyX2) (k0 : Nat) (hk0 : k0 < 7) (hln : Cond.fieldLink Y.1.cls idx (TX2 k0).1 (TX2 k0).2.1 (TX2 k0).2.2.1 ∈ cc_GT) (hfin : (TX2 k0).2.2.2 = false) {ty : FieldType} (hdt : parseFieldDescriptor (TX2 k0).2.2.1 = some ty) (hn : narrow ty (.int x) = .int x) (hfit : fits ty (.int x) = true) (hset : (qu_fs a sz bl se hs).set k0 (.int x) = qu_fs a sz' bl' se' hs') (hd : decode Y.2.1 pc = .ok (.putfield idx, 3)) (k : ∀ G1, qu_R cy G0 G1 a n1 n2 n3 sz' bl' se' hs' → cc_R cy Y z (pc + 3) ls st G1 Q) : cc_R cy Y z pc ls (.int x :: .ref a :: st) G Q := by
  refine cc_put hL.2.1 hcl k0 hk0 hln hfin hdt hn hfit hk0 hd ?_
  rw [hset]
  exact k _ ⟨fun q hq => by rw [va_up_ne _ _ (by omega)]; exact hL.1 q hq, va_up_self _ _ _, by rw [va_up_ne _ _ (by omega)]; exact hL.2.2.1, by rw [va_up_ne _ _ (by omega)]; exact hL.2.2.2.1, by rw [va_up_ne _ _ (by omega)]; exact hL.2.2.2.2⟩
theorem qu_rputN {host : String} (hL : qu_R cy G0 G a n1 n2 n3 sz bl se hs) (k0 : Nat) (hk0 : k0 < 7) (hln : Cond.fieldLinkNest Y.1.cls idx (TX2 k0).1 (TX2 k0).2.1 (TX2 k0).2.2.1 host ∈ cc_NT) (hfin : (TX2 k0).2.2.2 = false) {ty : FieldType} (hdt : parseFieldDescriptor (TX2 k0).2.2.1 = some ty) (hn : narrow ty (.int x) = .int x) (hfit : fits ty (.int x) = true) (hset : (qu_fs a sz bl se hs).set k0 (.int x) = qu_fs a sz' bl' se' hs') (hd : decode Y.2.1 pc = .ok (.putfield idx, 3)) (k : ∀ G1, qu_R cy G0 G1 a n1 n2 n3 sz' bl' se' hs' → cc_R cy Y z (pc + 3) ls st G1 Q) : cc_R cy Y z pc ls (.int x :: .ref a :: st) G Q := by
  refine cc_putN hL.2.1 cc_c2 k0 hk0 hln hfin hdt hn hfit hk0 hd ?_
  rw [hset]
  exact k _ ⟨fun q hq => by rw [va_up_ne _ _ (by omega)]; exact hL.1 q hq, va_up_self _ _ _, by rw [va_up_ne _ _ (by omega)]; exact hL.2.2.1, by rw [va_up_ne _ _ (by omega)]; exact hL.2.2.2.1, by rw [va_up_ne _ _ (by omega)]; exact hL.2.2.2.2⟩
theorem qu_rast1 {i : Int32} {j : Nat} (hL : qu_R cy G0 G a n1 n2 n3 sz bl se hs) (hin : vp_in i 8) (hj : i.toNatClampNeg = j) (hd : decode Y.2.1 pc = .ok (.iastore, 1)) (k : ∀ G1, qu_R cy G0 G1 a (upd n1 j x) n2 n3 sz bl se hs → cc_R cy Y z (pc + 1) ls st G1 Q) : cc_R cy Y z pc ls (.int x :: .int i :: .ref (a + 1) :: st) G Q := by
  refine cc_iast hL.2.2.1 hin hj hd ?_
  exact k _ ⟨fun q hq => by rw [va_up_ne _ _ (by omega)]; exact hL.1 q hq, by rw [va_up_ne _ _ (by omega)]; exact hL.2.1, va_up_self _ _ _, by rw [va_up_ne _ _ (by omega)]; exact hL.2.2.2.1, by rw [va_up_ne _ _ (by omega)]; exact hL.2.2.2.2⟩
theorem qu_rast2 {i : Int32} {j : Nat} (hL : qu_R cy G0 G a n1 n2 n3 sz bl se hs) (hin : vp_in i 8) (hj : i.toNatClampNeg = j) (hd : decode Y.2.1 pc = .ok (.iastore, 1)) (k : ∀ G1, qu_R cy G0 G1 a n1 (upd n2 j x) n3 sz bl se hs → cc_R cy Y z (pc + 1) ls st G1 Q) : cc_R cy Y z pc ls (.int x :: .int i :: .ref (a + 2) :: st) G Q := by
  refine cc_iast hL.2.2.2.1 hin hj hd ?_
  exact k _ ⟨fun q hq => by rw [va_up_ne _ _ (by omega)]; exact hL.1 q hq, by rw [va_up_ne _ _ (by omega)]; exact hL.2.1, by rw [va_up_ne _ _ (by omega)]; exact hL.2.2.1, va_up_self _ _ _, by rw [va_up_ne _ _ (by omega)]; exact hL.2.2.2.2⟩
theorem qu_rast3 {i : Int32} {j : Nat} (hL : qu_R cy G0 G a n1 n2 n3 sz bl se hs) (hin : vp_in i 8) (hj : i.toNatClampNeg = j) (hd : decode Y.2.1 pc = .ok (.iastore, 1)) (k : ∀ G1, qu_R cy G0 G1 a n1 n2 (upd n3 j x) sz bl se hs → cc_R cy Y z (pc + 1) ls st G1 Q) : cc_R cy Y z pc ls (.int x :: .int i :: .ref (a + 3) :: st) G Q := by
  refine cc_iast hL.2.2.2.2 hin hj hd ?_
  exact k _ ⟨fun q hq => by rw [va_up_ne _ _ (by omega)]; exact hL.1 q hq, by rw [va_up_ne _ _ (by omega)]; exact hL.2.1, by rw [va_up_ne _ _ (by omega)]; exact hL.2.2.1, by rw [va_up_ne _ _ (by omega)]; exact hL.2.2.2.1, va_up_self _ _ _⟩
end QUR
theorem qu_up1 {cy : Nat → ClassId} {G0 G : cc_G} {a : Nat} {n1 n2 n3 : Nat → Int32} {sz bl se hs : Int32} (hL : qu_R cy G0 G a n1 n2 n3 sz bl se hs) (n' : Nat → Int32) : qu_R cy G0 (va_up G (a + 1) (some (.inl (cy 1, 8, .inl n')))) a n' n2 n3 sz bl se hs :=
  ⟨fun q hq => by rw [va_up_ne _ _ (by omega)]; exact hL.1 q hq, by rw [va_up_ne _ _ (by omega)]; exact hL.2.1, va_up_self _ _ _, by rw [va_up_ne _ _ (by omega)]; exact hL.2.2.2.1, by rw [va_up_ne _ _ (by omega)]; exact hL.2.2.2.2⟩
theorem qu_up2 {cy : Nat → ClassId} {G0 G : cc_G} {a : Nat} {n1 n2 n3 : Nat → Int32} {sz bl se hs : Int32} (hL : qu_R cy G0 G a n1 n2 n3 sz bl se hs) (n' : Nat → Int32) : qu_R cy G0 (va_up G (a + 2) (some (.inl (cy 1, 8, .inl n')))) a n1 n' n3 sz bl se hs :=
  ⟨fun q hq => by rw [va_up_ne _ _ (by omega)]; exact hL.1 q hq, by rw [va_up_ne _ _ (by omega)]; exact hL.2.1, by rw [va_up_ne _ _ (by omega)]; exact hL.2.2.1, va_up_self _ _ _, by rw [va_up_ne _ _ (by omega)]; exact hL.2.2.2.2⟩
theorem qu_up3 {cy : Nat → ClassId} {G0 G : cc_G} {a : Nat} {n1 n2 n3 : Nat → Int32} {sz bl se hs : Int32} (hL : qu_R cy G0 G a n1 n2 n3 sz bl se hs) (n' : Nat → Int32) : qu_R cy G0 (va_up G (a + 3) (some (.inl (cy 1, 8, .inl n')))) a n1 n2 n' sz bl se hs :=
  ⟨fun q hq => by rw [va_up_ne _ _ (by omega)]; exact hL.1 q hq, by rw [va_up_ne _ _ (by omega)]; exact hL.2.1, by rw [va_up_ne _ _ (by omega)]; exact hL.2.2.1, by rw [va_up_ne _ _ (by omega)]; exact hL.2.2.2.1, va_up_self _ _ _⟩
/-- the place of the first packet for an output (how many there are, if none is) -/
def Q_pos (o : Int32) : List Pk_ → Nat
  | [] => 0
  | p :: r => if p.2.1 = o then 0 else Q_pos o r + 1
theorem Q_pos_hit {o : Int32} : ∀ {l : List Pk_} {i : Nat}, (∀ j, j < i → (l.getD j (0, 0, 0)).2.1 ≠ o) → i < l.length → (l.getD i (0, 0, 0)).2.1 = o → Q_pos o l = i
  | [], i, _, h, _ => absurd h (by simp)
  | p :: r, 0, _, _, h => by simp at h; simp [Q_pos, h]
  | p :: r, i + 1, h0, h1, h => by
    have hp : p.2.1 ≠ o := by simpa using h0 0 (by omega)
    rw [Q_pos, if_neg hp, Q_pos_hit (l := r) (i := i) (fun j hj => by simpa using h0 (j + 1) (by omega)) (by simpa using h1) (by simpa using h)]
theorem Q_pos_no {o : Int32} : ∀ {l : List Pk_}, (∀ j, j < l.length → (l.getD j (0, 0, 0)).2.1 ≠ o) → Q_pos o l = l.length
  | [], _ => rfl
  | p :: r, h0 => by
    have hp : p.2.1 ≠ o := by simpa using h0 0 (by simp)
    rw [Q_pos, if_neg hp, Q_pos_no (l := r) (fun j hj => by simpa using h0 (j + 1) (by simpa using hj))]
    rfl
def Q_rch (m : Int32) (l : List Pk_) : List Pk_ := if m = 0 then l.take 1 else l
/-- the place of the packet that a queue offers for an output in a mode -/
def Q_off (o m : Int32) (l : List Pk_) : Option Nat := if Q_pos o (Q_rch m l) < (Q_rch m l).length then some (Q_pos o (Q_rch m l)) else none
def Q_cn (o : Int32) (l : List Pk_) : Nat → Nat
  | 0 => 0
  | i + 1 => Q_cn o l i + if (l.getD i (0, 0, 0)).2.1 = o then 1 else 0
theorem Q_cn_no {o : Int32} {l : List Pk_} {i : Nat} (h : ¬ (l.getD i (0, 0, 0)).2.1 = o) : Q_cn o l (i + 1) = Q_cn o l i := by
  show Q_cn o l i + _ = _
  rw [if_neg h, Nat.add_zero]
theorem Q_cn_yes {o : Int32} {l : List Pk_} {i : Nat} (h : (l.getD i (0, 0, 0)).2.1 = o) : Q_cn o l (i + 1) = Q_cn o l i + 1 := by
  show Q_cn o l i + _ = _
  rw [if_pos h]
theorem Q_cn_le (o : Int32) (l : List Pk_) (i : Nat) : Q_cn o l i ≤ i := by
  induction i with
  | zero => exact Nat.le_refl 0
  | succ i ih =>
    unfold Q_cn
    split <;> omega
theorem Q_off_lt {o m : Int32} {l : List Pk_} {k : Nat} (h : Q_off o m l = some k) : k < l.length ∧ (l.getD k (0, 0, 0)).2.1 = o := by
  have pos : ∀ (r : List Pk_), Q_pos o r < r.length → (r.getD (Q_pos o r) (0, 0, 0)).2.1 = o := by
    intro r
    induction r with
    | nil => intro h; exact absurd h (by simp [Q_pos])
    | cons p r ih =>
      intro h
      by_cases hp : p.2.1 = o
      · simp [Q_pos, hp]
      · rw [Q_pos, if_neg hp] at h ⊢
        simpa using ih (by simpa using h)
  unfold Q_off at h
  split at h
  next hlt =>
    cases h
    have h2 := pos _ hlt
    unfold Q_rch at hlt h2 ⊢
    split at hlt
    next hm =>
      rw [if_pos hm] at h2 ⊢
      cases l with
      | nil => exact absurd hlt (by simp)
      | cons p r =>
        simp only [List.take_succ_cons, List.take_zero, List.length_cons, List.length_nil] at hlt h2 ⊢
        have hz : Q_pos o [p] = 0 := by omega
        rw [hz] at h2 ⊢
        exact ⟨by simp, by simpa using h2⟩
    next hm =>
      rw [if_neg hm] at h2 ⊢
      exact ⟨hlt, h2⟩
  next => cases h
theorem qu_at {n1 n2 n3 : Nat → Int32} {l : List Pk_} (h : qu_A n1 n2 n3 l) {k : Nat} (hk : k < l.length) : n1 k = (l.getD k (0, 0, 0)).1 ∧ n2 k = (l.getD k (0, 0, 0)).2.1 ∧ n3 k = (l.getD k (0, 0, 0)).2.2 := by
  have e : l.getD k (0, 0, 0) = l[k] := by rw [List.getD_eq_getElem?_getD, List.getElem?_eq_getElem hk]; rfl
  rw [e]
  refine ⟨?_, ?_, ?_⟩
  · rw [h.1 k (by simpa using hk)]; simp
  · rw [h.2.1 k (by simpa using hk)]; simp
  · rw [h.2.2 k (by simpa using hk)]; simp
theorem qu_A.push {n1 n2 n3 : Nat → Int32} {l : List Pk_} (h : qu_A n1 n2 n3 l) (p : Pk_) : qu_A (upd n1 l.length p.1) (upd n2 l.length p.2.1) (upd n3 l.length p.2.2) (l ++ [p]) := by
  refine ⟨?_, ?_, ?_⟩
  · rw [List.map_append]; simpa using h.1.push p.1
  · rw [List.map_append]; simpa using h.2.1.push p.2.1
  · rw [List.map_append]; simpa using h.2.2.push p.2.2
theorem ar_erase {f f' : Nat → Int32} {l : List Int32} {r : Nat} (h : ar_ f l) (h1 : ∀ j, j < r → f' j = f j) (h2 : ∀ j, r ≤ j → j + 1 < l.length → f' j = f (j + 1)) : ar_ f' (l.eraseIdx r) := by
  intro k hk
  rw [List.getElem_eraseIdx]
  rw [List.length_eraseIdx] at hk
  split
  next hq => rw [h1 k hq, h k (by split at hk <;> omega)]
  next hq =>
    split at hk
    next hr => rw [h2 k (by omega) (by omega), h (k + 1) (by omega)]
    next hr => omega
theorem cc_erase_map {α β : Type} (f : α → β) : ∀ (l : List α) (r : Nat), (l.eraseIdx r).map f = (l.map f).eraseIdx r
  | [], r => by simp
  | x :: l, 0 => by simp
  | x :: l, r + 1 => by simp [cc_erase_map f l r]
theorem qu_A.erase {n1 n2 n3 m1 m2 m3 : Nat → Int32} {l : List Pk_} {r : Nat} (h : qu_A n1 n2 n3 l) (h1 : ∀ j, j < r → m1 j = n1 j ∧ m2 j = n2 j ∧ m3 j = n3 j) (h2 : ∀ j, r ≤ j → j + 1 < l.length → m1 j = n1 (j + 1) ∧ m2 j = n2 (j + 1) ∧ m3 j = n3 (j + 1)) : qu_A m1 m2 m3 (l.eraseIdx r) := by
  refine ⟨?_, ?_, ?_⟩
  · rw [cc_erase_map]; exact ar_erase h.1 (fun j hj => (h1 j hj).1) (fun j hj hj2 => (h2 j hj (by simpa using hj2)).1)
  · rw [cc_erase_map]; exact ar_erase h.2.1 (fun j hj => (h1 j hj).2.1) (fun j hj hj2 => (h2 j hj (by simpa using hj2)).2.1)
  · rw [cc_erase_map]; exact ar_erase h.2.2 (fun j hj => (h1 j hj).2.2) (fun j hj hj2 => (h2 j hj (by simpa using hj2)).2.2)
