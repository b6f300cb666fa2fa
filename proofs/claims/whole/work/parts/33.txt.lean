/-! the text of arrivals: what is due, where its fault lies, what it lets arrive -/
theorem nI_s48 {j : Nat} (h : 48 ≤ j) : nI j - 48 = nI (j - 48) := by
  have e : nI j = nI (j - 48) + 48 := by
    rw [show (48 : Int32) = nI 48 from rfl, nI_add, Nat.sub_add_cancel h]
  rw [e]
  exact Int32.add_sub_cancel _ _
theorem T_rng {c : Int32} {a b : Nat} (hb : b < 2 ^ 31) (h : nI a ≤ c ∧ c ≤ nI b) (ha : a < 2 ^ 31) : ∃ j, a ≤ j ∧ j ≤ b ∧ c = nI j := by
  obtain ⟨j, hj, e⟩ := nI_of (x := c) (fun q => absurd (Int32.lt_of_le_of_lt h.1 q) (Int32.not_lt.mpr (nI_pos' ha)))
  subst e
  exact ⟨j, (nI_leI ha hj).mp h.1, (nI_leI hj hb).mp h.2, rfl⟩
theorem T_dig (c : Int32) : (0 ≤ c - 48 ∧ c - 48 < 4) ↔ (48 ≤ c ∧ c ≤ 51) := by
  constructor
  · intro h
    obtain ⟨j, hj, e⟩ := nI_of (x := c - 48) (Int32.not_lt.mpr h.1)
    rw [e] at h
    have h4 := (nI_ltI (b := 4) hj (by decide)).mp h.2
    have e2 : c = nI (j + 48) := by
      have : c = (c - 48) + 48 := (Int32.sub_add_cancel _ _).symm
      rw [this, e]
      exact nI_add _ 48
    rw [e2]
    exact ⟨nI_le (a := 48) (by omega) (by omega), nI_le (b := 51) (by omega) (by decide)⟩
  · intro h
    obtain ⟨j, h1, h2, e⟩ := T_rng (a := 48) (b := 51) (by decide) h (by decide)
    subst e
    rw [nI_s48 h1]
    exact ⟨nI_pos' (by omega), nI_lt (b := 4) (by omega) (by decide)⟩
def T_d (d c : Int32) : Int32 := if d = 0 then (if 48 ≤ c ∧ c ≤ 51 then 1 else (-1)) else if d = 1 then (if c = 62 then 2 else (-1)) else if d = 2 then (if 48 ≤ c ∧ c ≤ 51 then 3 else (-1)) else if d = 3 then (if c = 42 then 4 else if c = 44 then 0 else (-1)) else if d = 4 then (if 49 ≤ c ∧ c ≤ 57 then 5 else (-1)) else (if c = 44 then 0 else (-1))
def T_s (u : Nat → Int32) : Nat → Int32
  | 0 => 0
  | k + 1 => T_d (T_s u k) (u k)
def T_F (u : Nat → Int32) : Nat → Nat → Option Nat
  | 0, k => if T_s u k = 3 ∨ T_s u k = 5 then none else some k
  | f + 1, k => if T_s u (k + 1) = -1 then some k else T_F u f (k + 1)
/-- the fault of the text of n characters from the place k on -/
def T_flt (u : Nat → Int32) (n k : Nat) : Option Nat := T_F u (n - k) k
theorem T_bad {u : Nat → Int32} {n k : Nat} (h : k < n) (hs : T_s u (k + 1) = -1) : T_flt u n k = some k := by
  unfold T_flt
  rw [show n - k = (n - (k + 1)) + 1 by omega]
  unfold T_F
  rw [if_pos hs]
theorem T_go {u : Nat → Int32} {n k : Nat} (h : k < n) (hs : ¬ T_s u (k + 1) = -1) : T_flt u n k = T_flt u n (k + 1) := by
  unfold T_flt
  rw [show n - k = (n - (k + 1)) + 1 by omega]
  conv => { lhs; unfold T_F }
  rw [if_neg hs]
theorem T_early {u : Nat → Int32} {n : Nat} (hs : ¬ (T_s u n = 3 ∨ T_s u n = 5)) : T_flt u n n = some n := by
  unfold T_flt
  rw [Nat.sub_self]
  unfold T_F
  rw [if_neg hs]
theorem T_done {u : Nat → Int32} {n : Nat} (hs : T_s u n = 3 ∨ T_s u n = 5) : T_flt u n n = none := by
  unfold T_flt
  rw [Nat.sub_self]
  unfold T_F
  rw [if_pos hs]
theorem T_next {u : Nat → Int32} {n k : Nat} (hF : T_flt u n k = none) (h : k < n) : ¬ T_s u (k + 1) = -1 ∧ T_flt u n (k + 1) = none := by
  by_cases q : T_s u (k + 1) = -1
  · rw [T_bad h q] at hF
    cases hF
  · exact ⟨q, (T_go h q).symm.trans hF⟩
theorem T_fin {u : Nat → Int32} {n : Nat} (hF : T_flt u n n = none) : T_s u n = 3 ∨ T_s u n = 5 := by
  by_cases q : T_s u n = 3 ∨ T_s u n = 5
  · exact q
  · rw [T_early q] at hF
    cases hF
theorem T_d0 {c : Int32} (h : 48 ≤ c ∧ c ≤ 51) : T_d 0 c = 1 := by
  unfold T_d
  rw [if_pos rfl, if_pos h]
theorem T_d0n {c : Int32} (h : ¬ (48 ≤ c ∧ c ≤ 51)) : T_d 0 c = -1 := by
  unfold T_d
  rw [if_pos rfl, if_neg h]
theorem T_d1 {c : Int32} (h : c = 62) : T_d 1 c = 2 := by
  unfold T_d
  rw [if_neg (by decide), if_pos rfl, if_pos h]
theorem T_d1n {c : Int32} (h : ¬ c = 62) : T_d 1 c = -1 := by
  unfold T_d
  rw [if_neg (by decide), if_pos rfl, if_neg h]
theorem T_d2 {c : Int32} (h : 48 ≤ c ∧ c ≤ 51) : T_d 2 c = 3 := by
  unfold T_d
  rw [if_neg (by decide), if_neg (by decide), if_pos rfl, if_pos h]
theorem T_d2n {c : Int32} (h : ¬ (48 ≤ c ∧ c ≤ 51)) : T_d 2 c = -1 := by
  unfold T_d
  rw [if_neg (by decide), if_neg (by decide), if_pos rfl, if_neg h]
theorem T_d3s {c : Int32} (h : c = 42) : T_d 3 c = 4 := by
  unfold T_d
  rw [if_neg (by decide), if_neg (by decide), if_neg (by decide), if_pos rfl, if_pos h]
theorem T_d3c {c : Int32} (h : c = 44) : T_d 3 c = 0 := by
  subst h
  unfold T_d
  rw [if_neg (by decide), if_neg (by decide), if_neg (by decide), if_pos rfl, if_neg (by decide), if_pos rfl]
theorem T_d3n {c : Int32} (h : ¬ c = 42) (h2 : ¬ c = 44) : T_d 3 c = -1 := by
  unfold T_d
  rw [if_neg (by decide), if_neg (by decide), if_neg (by decide), if_pos rfl, if_neg h, if_neg h2]
theorem T_d4 {c : Int32} (h : 49 ≤ c ∧ c ≤ 57) : T_d 4 c = 5 := by
  unfold T_d
  rw [if_neg (by decide), if_neg (by decide), if_neg (by decide), if_neg (by decide), if_pos rfl, if_pos h]
theorem T_d4n {c : Int32} (h : ¬ (49 ≤ c ∧ c ≤ 57)) : T_d 4 c = -1 := by
  unfold T_d
  rw [if_neg (by decide), if_neg (by decide), if_neg (by decide), if_neg (by decide), if_pos rfl, if_neg h]
theorem T_d5 {c : Int32} (h : c = 44) : T_d 5 c = 0 := by
  unfold T_d
  rw [if_neg (by decide), if_neg (by decide), if_neg (by decide), if_neg (by decide), if_neg (by decide), if_pos h]
theorem T_d5n {c : Int32} (h : ¬ c = 44) : T_d 5 c = -1 := by
  unfold T_d
  rw [if_neg (by decide), if_neg (by decide), if_neg (by decide), if_neg (by decide), if_neg (by decide), if_neg h]
theorem T_ss {u : Nat → Int32} {k : Nat} {d : Int32} (h : T_s u k = d) : T_s u (k + 1) = T_d d (u k) := by
  show T_d (T_s u k) (u k) = _
  rw [h]
/-- whether the arrival at a tells how many packets, and how many they are -/
abbrev T_tl (u : Nat → Int32) (n a : Nat) : Prop := a + 4 < n ∧ u (a + 3) = 42
def T_m (u : Nat → Int32) (n a : Nat) : Nat := if T_tl u n a then C_i (u (a + 4) - 48) else 1
def T_w (u : Nat → Int32) (n a : Nat) : Nat := if T_tl u n a then 6 else 4
def A_many (i : Nat) (o : Int32) : Nat → St_ → St_
  | 0, S => S
  | m + 1, S => B_adm i o (A_many i o m S)
def A_go (u : Nat → Int32) (n : Nat) : Nat → Nat → Nat → St_ → Option (Nat × St_)
  | 0, _, acc, S => some (acc, S)
  | f + 1, a, acc, S => if a + 2 < n then (if (S.2.2 (C_i (u a - 48))).2.2.length + T_m u n a ≤ 8 then A_go u n f (a + T_w u n a) (acc + T_m u n a) (A_many (C_i (u a - 48)) (u (a + 2) - 48) (T_m u n a) S) else none) else some (acc, S)
def C_u (c : CS_) : Nat → Int32 := fun k => c.2.2.2.getD k 0
def C_readArrivals (c : CS_) : Int32 × CS_ := match T_flt (C_u c) c.2.2.2.length 0 with
  | some k => (-100 - nI k, c)
  | none => match A_go (C_u c) c.2.2.2.length 20 0 0 c.1 with
    | none => (-3, c)
    | some (m, S) => (nI m, C_box (C_rem c) S)
theorem T_head {u : Nat → Int32} {n a : Nat} (hF : T_flt u n a = none) (han : a ≤ n) (h0 : T_s u a = 0) : ∃ i o : Nat, i < 4 ∧ o < 4 ∧ u a = nI (48 + i) ∧ u (a + 2) = nI (48 + o) ∧ a + 2 < n ∧ u (a + 1) = 62 ∧ T_s u (a + 3) = 3 ∧ ((¬ T_tl u n a ∧ ((a + 4 < n ∧ u (a + 3) = 44 ∧ T_s u (a + 4) = 0 ∧ T_flt u n (a + 4) = none) ∨ a + 3 = n)) ∨ ∃ m : Nat, 1 ≤ m ∧ m ≤ 9 ∧ T_tl u n a ∧ u (a + 4) = nI (48 + m) ∧ ((a + 6 < n ∧ u (a + 5) = 44 ∧ T_s u (a + 6) = 0 ∧ T_flt u n (a + 6) = none) ∨ a + 5 = n)) := by
  have l0 : a < n := by
    rcases Nat.lt_or_ge a n with q | q
    · exact q
    · have e : a = n := by omega
      subst e
      rcases T_fin hF with q | q
      · rw [h0] at q; exact absurd q (by decide)
      · rw [h0] at q; exact absurd q (by decide)
  obtain ⟨n0, F1⟩ := T_next hF l0
  rw [T_ss h0] at n0
  have d0 : 48 ≤ u a ∧ u a ≤ 51 := by
    by_cases q : 48 ≤ u a ∧ u a ≤ 51
    · exact q
    · exact absurd (T_d0n q) n0
  have s1 : T_s u (a + 1) = 1 := (T_ss h0).trans (T_d0 d0)
  have l1 : a + 1 < n := by
    rcases Nat.lt_or_ge (a + 1) n with q | q
    · exact q
    · have e : a + 1 = n := by omega
      subst e
      rcases T_fin F1 with q | q
      · rw [s1] at q; exact absurd q (by decide)
      · rw [s1] at q; exact absurd q (by decide)
  obtain ⟨n1, F2⟩ := T_next F1 l1
  rw [T_ss s1] at n1
  have d1 : u (a + 1) = 62 := by
    by_cases q : u (a + 1) = 62
    · exact q
    · exact absurd (T_d1n q) n1
  have s2 : T_s u (a + 2) = 2 := (T_ss s1).trans (T_d1 d1)
  have l2 : a + 2 < n := by
    rcases Nat.lt_or_ge (a + 2) n with q | q
    · exact q
    · have e : a + 2 = n := by omega
      subst e
      rcases T_fin F2 with q | q
      · rw [s2] at q; exact absurd q (by decide)
      · rw [s2] at q; exact absurd q (by decide)
  obtain ⟨n2, F3⟩ := T_next F2 l2
  rw [T_ss s2] at n2
  have d2 : 48 ≤ u (a + 2) ∧ u (a + 2) ≤ 51 := by
    by_cases q : 48 ≤ u (a + 2) ∧ u (a + 2) ≤ 51
    · exact q
    · exact absurd (T_d2n q) n2
  have s3 : T_s u (a + 3) = 3 := (T_ss s2).trans (T_d2 d2)
  obtain ⟨i, i1, i2, ei⟩ := T_rng (a := 48) (b := 51) (by decide) d0 (by decide)
  obtain ⟨o, o1, o2, eo⟩ := T_rng (a := 48) (b := 51) (by decide) d2 (by decide)
  refine ⟨i - 48, o - 48, by omega, by omega, by rw [ei]; congr 1; omega, by rw [eo]; congr 1; omega, l2, d1, s3, ?_⟩
  rcases Nat.lt_or_ge (a + 3) n with l3 | l3
  · obtain ⟨n3, F4⟩ := T_next F3 l3
    rw [T_ss s3] at n3
    by_cases q : u (a + 3) = 42
    · have s4 : T_s u (a + 4) = 4 := (T_ss s3).trans (T_d3s q)
      have l4 : a + 4 < n := by
        rcases Nat.lt_or_ge (a + 4) n with q | q
        · exact q
        · have e : a + 4 = n := by omega
          subst e
          rcases T_fin F4 with q | q
          · rw [s4] at q; exact absurd q (by decide)
          · rw [s4] at q; exact absurd q (by decide)
      obtain ⟨n4, F5⟩ := T_next F4 l4
      rw [T_ss s4] at n4
      have d4 : 49 ≤ u (a + 4) ∧ u (a + 4) ≤ 57 := by
        by_cases q : 49 ≤ u (a + 4) ∧ u (a + 4) ≤ 57
        · exact q
        · exact absurd (T_d4n q) n4
      have s5 : T_s u (a + 5) = 5 := (T_ss s4).trans (T_d4 d4)
      obtain ⟨m, m1, m2, em⟩ := T_rng (a := 49) (b := 57) (by decide) d4 (by decide)
      refine Or.inr ⟨m - 48, by omega, by omega, ⟨l4, q⟩, by rw [em]; congr 1; omega, ?_⟩
      rcases Nat.lt_or_ge (a + 5) n with l5 | l5
      · obtain ⟨n5, F6⟩ := T_next F5 l5
        rw [T_ss s5] at n5
        have d5 : u (a + 5) = 44 := by
          by_cases q : u (a + 5) = 44
          · exact q
          · exact absurd (T_d5n q) n5
        have s6 : T_s u (a + 6) = 0 := (T_ss s5).trans (T_d5 d5)
        refine Or.inl ⟨?_, d5, s6, F6⟩
        rcases Nat.lt_or_ge (a + 6) n with q | q
        · exact q
        · have e : a + 6 = n := by omega
          subst e
          rcases T_fin F6 with q | q
          · rw [s6] at q; exact absurd q (by decide)
          · rw [s6] at q; exact absurd q (by decide)
      · exact Or.inr (by omega)
    · have d3 : u (a + 3) = 44 := by
        by_cases q2 : u (a + 3) = 44
        · exact q2
        · exact absurd (T_d3n q q2) n3
      have s4 : T_s u (a + 4) = 0 := (T_ss s3).trans (T_d3c d3)
      refine Or.inl ⟨fun q2 => q q2.2, Or.inl ⟨?_, d3, s4, F4⟩⟩
      rcases Nat.lt_or_ge (a + 4) n with q | q
      · exact q
      · have e : a + 4 = n := by omega
        subst e
        rcases T_fin F4 with q | q
        · rw [s4] at q; exact absurd q (by decide)
        · rw [s4] at q; exact absurd q (by decide)
  · exact Or.inl ⟨fun q => absurd q.1 (by omega), Or.inr (by omega)⟩
theorem T_ci {j : Nat} (h : j < 2 ^ 30) : C_i (nI (48 + j) - 48) = j := by
  rw [nI_s48 (by omega)]
  show (nI _).toNatClampNeg = j
  rw [nI_clamp (by omega)]
  omega
theorem T_c48 {j : Nat} : nI (48 + j) - 48 = nI j := by
  rw [nI_s48 (by omega)]
  congr 1
  omega
theorem A_many_len {i : Nat} {o : Int32} {S : St_} : ∀ m, ((A_many i o m S).2.2 i).2.2.length = (S.2.2 i).2.2.length + m
  | 0 => rfl
  | m + 1 => by
    have h := A_many_len (i := i) (o := o) (S := S) m
    show ((B_adm i o (A_many i o m S)).2.2 i).2.2.length = _
    show (va_up (A_many i o m S).2.2 i _ i).2.2.length = _
    rw [va_up_self]
    show (((A_many i o m S).2.2 i).2.2 ++ [_]).length = _
    rw [List.length_append, List.length_singleton, h]
    omega
