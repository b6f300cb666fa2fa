theorem cc_loc {cy : Nat → ClassId} {Y : cc_Y} {z pc : Nat} {ls ls' : List (Nat × Value)} {st : List Value} {G : cc_G} {Q : Option Value → cc_G → Prop} (ps : List Nat) (hp : lv_pick ls ps = ls') (k : cc_R cy Y z pc ls' st G Q) : cc_R cy Y z pc ls st G Q := by
  intro p l e s m args below meth c D A H locs la C hM hS hl
  exact k C hM hS (lv_sub hl ps hp)
/-! what the calls do to a lane, as plain functions -/
def L_comeW (t : Int32) (v : Nat → Int32) : List Int32 → (Nat → Int32) × List Int32
  | [] => (v, [])
  | w :: ws => if w ≤ t then L_comeW t (upd v 3 (v 3 + 1)) ws else (v, w :: ws)
def L_come (t : Int32) (L : Ln_) : Ln_ := ((L_comeW t L.1 L.2.2).1, L.2.1, (L_comeW t L.1 L.2.2).2)
def L_drop (L : Ln_) : Ln_ := (L.1, L.2.1, L.2.2.tail)
def L_lose (L : Ln_) : Ln_ := (upd L.1 8 (L.1 8 + 1), L.2.1, L.2.2.tail)
def L_mend (L : Ln_) : Ln_ := (upd L.1 3 (L.1 3 + (L.1 0 - L.1 3 - nI L.2.1.length - nI L.2.2.length)), L.2.1, L.2.2)
def L_recv (n : Int32) (L : Ln_) : Ln_ := if L.1 0 ≤ nI L.2.1.length then (upd (upd (upd L.1 3 (L.1 3 - 1)) 5 (L.1 5 + 1)) 7 (L.1 7 + 1), L.2.1, L.2.2) else (upd (upd L.1 3 (L.1 3 - 1)) 5 (L.1 5 + 1), L.2.1 ++ [n], L.2.2)
def L_rank (c : Int32) (l : List Int32) : Nat → Nat
  | 0 => 0
  | r + 1 => if c < l.getD r 0 then L_rank c l r else r + 1
def L_ins (c : Int32) (l : List Int32) : List Int32 := l.take (L_rank c l l.length) ++ c :: l.drop (L_rank c l l.length)
def L_take (t : Int32) (L : Ln_) : Ln_ := if cc_rm (t + 1) (L.1 1) = 0 ∧ L.2.1 ≠ [] then (upd L.1 6 (L.1 6 + 1), L.2.1.tail, L_ins (t + L.1 2) L.2.2) else L
theorem L_rank_le (c : Int32) (l : List Int32) (n : Nat) : L_rank c l n ≤ n := by
  induction n with
  | zero => exact Nat.le_refl 0
  | succ r ih =>
    unfold L_rank
    split
    · omega
    · omega
theorem L_ins_len (c : Int32) (l : List Int32) : (L_ins c l).length = l.length + 1 := by
  have := L_rank_le c l l.length
  simp [L_ins]
  omega
/-- a row behind an insertion at the place r -/
theorem ar_ins {g g' : Nat → Int32} {l : List Int32} {c : Int32} {r : Nat} (h : ar_ g l) (hr : r ≤ l.length) (h1 : ∀ j, j < r → g' j = g j) (h2 : g' r = c) (h3 : ∀ j, r < j → j ≤ l.length → g' j = g (j - 1)) : ar_ g' (l.take r ++ c :: l.drop r) := by
  intro k hk
  have hkl : k < l.length + 1 := by simp at hk; omega
  have ht : (l.take r).length = r := by simp; omega
  by_cases hq : k < r
  · rw [h1 k hq, h k (by omega), List.getElem_append_left (by omega)]
    simp
  · rw [List.getElem_append_right (by omega)]
    by_cases hq2 : k = r
    · subst hq2
      simp [ht, h2]
    · rw [h3 k (by omega) (by omega), h (k - 1) (by omega)]
      simp only [ht]
      rw [List.getElem_cons]
      rw [dif_neg (by omega)]
      simp
      congr 1
      omega
theorem ar_hd {g : Nat → Int32} {w : Int32} {ws : List Int32} (h : ar_ g (w :: ws)) : g 0 = w := h 0 (by simp)
theorem ar_at {g : Nat → Int32} {l : List Int32} (h : ar_ g l) {k : Nat} (hk : k < l.length) : g k = l.getD k 0 := by
  rw [h k hk, List.getD_eq_getElem?_getD, List.getElem?_eq_getElem hk]
  rfl
theorem cc_p0 {n : Nat} (h : n < 2 ^ 31) : 0 < nI n ↔ 0 < n := nI_ltI (a := 0) (by decide) h
theorem cc_e0 {n : Nat} (h : n < 2 ^ 31) : nI n = 0 ↔ n = 0 := nI_eq (b := 0) h (by decide)
theorem cc_dec (r : Nat) : nI (r + 1) + Int32.ofInt (-1) = nI r := by
  rw [show Int32.ofInt (-1) = -1 by decide]
  exact pk_m1 r
theorem cc_m1 {n : Nat} (h : 1 ≤ n) : nI n - 1 = nI (n - 1) := pk_sub (b := 1) h
