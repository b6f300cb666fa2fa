/-! what always holds is kept by every call -/
theorem B_k.mono {M M' : Nat} {S : St_} (h : B_k M S) (hM : M ≤ M') : B_k M' S := by
  obtain ⟨T, hT, h⟩ := h
  exact ⟨T, hT, h.mono hM⟩
theorem C_ok.mono {M M' : Nat} {c : CS_} (h : C_ok M c) (hM : M ≤ M') : C_ok M' c := ⟨h.1.mono hM, fun s hs => (h.2.1 s hs).mono hM, fun s hs => (h.2.2 s hs).mono hM⟩
theorem C_ok.box {M : Nat} {c : CS_} {S : St_} (h : C_ok M c) (hS : B_k M S) : C_ok M (C_box (C_rem c) S) := by
  refine ⟨hS, h.2.1, fun s hs => ?_⟩
  have hs : s ∈ (if 4 ≤ c.2.2.1.length then c.2.2.1.tail else c.2.2.1) ++ [c.1] := hs
  rcases List.mem_append.mp hs with q | q
  · split at q
    · exact h.2.2 s (List.mem_of_mem_tail q)
    · exact h.2.2 s q
  · rw [List.mem_singleton.mp q]
    exact h.1
theorem B_k.lane {M : Nat} {S : St_} (h : B_k M S) {i : Nat} {L : Ln_} (hL : ∀ T, ln_ok T (S.2.1 i) → ln_ok T L) (hi : i < 4) : B_k M (S_lane S i L) := by
  obtain ⟨T, hT, h0, h1, h2, h3, h4⟩ := h
  refine ⟨T, hT, h0, h1, h2, fun j hj => ?_, h4⟩
  show ln_ok T (va_up S.2.1 i L j)
  by_cases e : j = i
  · subst e
    rw [va_up_self]
    exact hL T (h3 j hj)
  · rw [va_up_ne _ _ e]
    exact h3 j hj
theorem ln_ok.lose {T : Nat} {L : Ln_} (h : ln_ok T L) : ln_ok T (L_lose L) := by
  obtain ⟨⟨c, a, b, e⟩, ⟨c2, a2, b2, e2⟩, ⟨c3, a3, b3, e3⟩, ⟨c4, a4, e4⟩, h5, h6⟩ := h
  refine ⟨⟨c, a, b, e⟩, ⟨c2, a2, b2, e2⟩, ⟨c3, a3, b3, e3⟩, ⟨c4, a4, e4⟩, h5, fun k hk => ?_⟩
  have hk : k < L.2.2.tail.length := hk
  show (L.2.2.tail.getD k 0).toInt + (L.2.2.tail.length : Int) ≤ _
  rw [List.length_tail] at hk ⊢
  have h7 := h6 (k + 1) (by omega)
  rw [show L.2.2.tail.getD k 0 = L.2.2.getD (k + 1) 0 by rw [List.getD_eq_getElem?_getD, List.getD_eq_getElem?_getD, List.getElem?_tail]]
  push_cast at h7
  omega
theorem ln_ok.chg {T : Nat} {L : Ln_} (h : ln_ok T L) {w y : Int32} (hy : ¬ (y < 1 ∨ C_mostL w < y)) : ln_ok T (L_chg w y L) := by
  obtain ⟨⟨c, a, b, e⟩, ⟨c2, a2, b2, e2⟩, ⟨c3, a3, b3, e3⟩, ⟨c4, a4, e4⟩, h5, h6⟩ := h
  have h1 : 1 ≤ y := Int32.not_lt.mp (fun q => hy (Or.inl q))
  have h2 : y ≤ C_mostL w := Int32.not_lt.mp (fun q => hy (Or.inr q))
  rcases mo_w2 w with rfl | rfl | rfl | hw
  · obtain ⟨j, j1, j2, ej⟩ := T_rng (a := 1) (b := 8) (by decide) ⟨h1, by rw [show C_mostL 0 = 8 from by decide] at h2; exact h2⟩ (by decide)
    rw [mo_chg0]
    exact ⟨⟨j, j1, j2, ej⟩, ⟨c2, a2, b2, e2⟩, ⟨c3, a3, b3, e3⟩, ⟨c4, a4, e4⟩, h5, h6⟩
  · obtain ⟨j, j1, j2, ej⟩ := T_rng (a := 1) (b := 9) (by decide) ⟨h1, by rw [show C_mostL 1 = 9 from by decide] at h2; exact h2⟩ (by decide)
    rw [mo_chg1]
    exact ⟨⟨c, a, b, e⟩, ⟨j, j1, j2, ej⟩, ⟨c3, a3, b3, e3⟩, ⟨c4, a4, e4⟩, h5, h6⟩
  · obtain ⟨j, j1, j2, ej⟩ := T_rng (a := 1) (b := 6) (by decide) ⟨h1, by rw [show C_mostL 2 = 6 from by decide] at h2; exact h2⟩ (by decide)
    rw [mo_chg2]
    exact ⟨⟨c, a, b, e⟩, ⟨c2, a2, b2, e2⟩, ⟨j, j1, j2, ej⟩, ⟨c4, a4, e4⟩, h5, h6⟩
  · rw [mo_ml hw] at h2
    exact absurd (Int32.le_trans h1 h2) (by decide)
theorem C_i_lt {x : Int32} (h : 0 ≤ x ∧ x < 4) : C_i x < 4 := by
  rcases cc_port x with ⟨i, hi, e⟩ | q
  · subst e
    rw [C_i_n (by omega)]
    exact hi
  · exact absurd h q
theorem K_setLane {M : Nat} {c : CS_} (h : C_ok M c) (x w y : Int32) : C_ok M (C_setLane x w y c).2 := by
  unfold C_setLane
  split
  next hx =>
    split
    · exact h
    next hy =>
      split
      · exact h
      · split
        · exact h
        · exact h.box (h.1.lane (fun T hT => hT.chg hy) (C_i_lt hx))
  next => exact h
theorem K_set {M : Nat} {c : CS_} (h : C_ok M c) (w y : Int32) : C_ok M (C_set w y c).2 := by
  unfold C_set
  split
  · exact h
  next hy =>
    split
    next hw =>
      subst hw
      split
      · exact h
      · obtain ⟨T, hT, h0, h1, h2, h3, h4⟩ := h.1
        refine h.box ⟨T, hT, h0, ?_, h2, h3, h4⟩
        have a1 : 0 ≤ y := Int32.not_lt.mp (fun q => hy (Or.inl q))
        have a2 : y ≤ 1 := Int32.not_lt.mp (fun q => hy (Or.inr (by rw [show C_mostB 0 = 1 from by decide]; exact q)))
        show y = 0 ∨ y = 1
        rcases mo_w1 y with q | q | q
        · exact Or.inl q
        · exact Or.inr q
        · exact absurd ⟨a1, a2⟩ q
    next hw =>
      split
      · exact h
      · obtain ⟨T, hT, h0, h1, h2, h3, h4⟩ := h.1
        exact h.box ⟨T, hT, h0, h1, h2, h3, h4⟩
theorem K_arrive {M : Nat} {c : CS_} (h : C_ok M c) (x o : Int32) : C_ok (M + 1) (C_arrive x o c).2 := by
  unfold C_arrive
  have hm := h.mono (Nat.le_succ M)
  split
  next hx =>
    split
    next hl =>
      obtain ⟨T, hT, hb⟩ := h.1
      exact hm.box ⟨T, hT, hb.adm (C_i_lt hx.1) o hl⟩
    · exact hm
  · exact hm
theorem B_k.many {M : Nat} {S : St_} {i : Nat} (hi : i < 4) (o : Int32) (h : B_k M S) : ∀ m, (S.2.2 i).2.2.length + m ≤ 8 → B_k (M + m) (A_many i o m S)
  | 0, _ => h
  | m + 1, hl => by
    obtain ⟨T, hT, hb⟩ := B_k.many hi o h m (by omega)
    have hlen := A_many_len (i := i) (o := o) (S := S) m
    exact ⟨T, hT, hb.adm hi o (by omega)⟩
theorem K_go {u : Nat → Int32} {n : Nat} : ∀ {f a acc M : Nat} {S : St_} {m : Nat} {S' : St_}, T_s u a = 0 ∧ a ≤ n ∧ T_flt u n a = none ∨ n ≤ a → B_k M S → A_go u n f a acc S = some (m, S') → B_k (M + 8 * f) S'
  | 0, a, acc, M, S, m, S', _, hk, h => by
    unfold A_go at h
    cases h
    exact hk
  | f + 1, a, acc, M, S, m, S', hF, hk, h => by
    by_cases hlt : a + 2 < n
    · have hF := hF.resolve_right (by omega)
      obtain ⟨i, o, hi4, ho4, ei, eo, -, -, -, hcase⟩ := T_head hF.2.2 hF.2.1 hF.1
      rcases hcase with ⟨htl, hnx⟩ | ⟨m1, hm1, hm9, htl, em, hnx⟩
      · obtain ⟨tm, tw⟩ := T_m_n htl
        rw [A_go_s hlt ei eo tm tw hi4] at h
        split at h
        next h8 =>
          have := K_go (M := M + 1) (by
            rcases hnx with ⟨q1, -, q3, q4⟩ | q1
            · exact Or.inl ⟨q3, by omega, q4⟩
            · exact Or.inr (by omega)) (hk.many hi4 (nI o) 1 h8) h
          exact this.mono (by omega)
        next => cases h
      · obtain ⟨tm, tw⟩ := T_m_y htl em hm9
        rw [A_go_s hlt ei eo tm tw hi4] at h
        split at h
        next h8 =>
          have := K_go (M := M + m1) (by
            rcases hnx with ⟨q1, -, q3, q4⟩ | q1
            · exact Or.inl ⟨q3, by omega, q4⟩
            · exact Or.inr (by omega)) (hk.many hi4 (nI o) m1 h8) h
          exact this.mono (by omega)
        next => cases h
    · unfold A_go at h
      rw [if_neg hlt] at h
      cases h
      exact hk.mono (by omega)
theorem K_readArrivals {M : Nat} {c : CS_} (h : C_ok M c) : C_ok (M + 160) (C_readArrivals c).2 := by
  have hm := h.mono (Nat.le_add_right M 160)
  unfold C_readArrivals
  split
  · exact hm
  next hF =>
    split
    · exact hm
    next m S' hg => exact hm.box (K_go (Or.inl ⟨rfl, Nat.zero_le _, hF⟩) h.1 hg)
theorem K_pass {M : Nat} {c : CS_} (h : C_ok M c) (x : Int32) : C_ok M (C_pass x c).2 := by
  unfold C_pass
  split
  next hx =>
    obtain ⟨n, rfl, hn1, hn2⟩ := cc_ticks hx
    split
    · exact h
    next hT9 =>
      obtain ⟨T, hT, hb⟩ := h.1
      rw [C_i_n (by omega)]
      have e : c.1.1 0 + nI n = nI (T + n) := by rw [hb.1]; exact nI_add _ _
      rw [e] at hT9
      have hTn : T + n ≤ 9999 := by
        rcases Nat.lt_or_ge 9999 (T + n) with q | q
        · exact absurd (nI_lt (a := 9999) q (by omega)) hT9
        · exact q
      exact h.box ⟨T + n, hTn, hb.pass n (by omega)⟩
  · exact h
theorem K_lose {M : Nat} {c : CS_} (h : C_ok M c) (x : Int32) : C_ok M (C_lose x c).2 := by
  unfold C_lose
  split
  next hx =>
    split
    · exact h
    · exact h.box (h.1.lane (fun T hT => hT.lose) (C_i_lt hx))
  · exact h
theorem K_forge {M : Nat} {c : CS_} (h : C_ok M c) (x : Int32) : C_ok M (C_forge x c).2 := by
  unfold C_forge
  split
  next hx =>
    split
    · exact h
    · exact h.box (h.1.lane (fun T hT => hT.same3 _) (C_i_lt hx))
  · exact h
theorem K_repair {M : Nat} {c : CS_} (h : C_ok M c) (x : Int32) : C_ok M (C_repair x c).2 := by
  unfold C_repair
  split
  next hx =>
    split
    · exact h
    · exact h.box (h.1.lane (fun T hT => hT.same3 _) (C_i_lt hx))
  · exact h
theorem K_type {M : Nat} {c : CS_} (h : C_ok M c) (x : Int32) : C_ok M (C_type x c).2 := by
  unfold C_type
  split
  · exact h
  · exact h
theorem K_clearText {M : Nat} {c : CS_} (h : C_ok M c) : C_ok M (C_clearText c).2 := h
theorem K_undo {M : Nat} {c : CS_} (h : C_ok M c) : C_ok M (C_undo c).2 := by
  unfold C_undo
  split
  · exact h
  next hn =>
    refine ⟨?_, h.2.1, fun s hs => h.2.2 s (List.mem_of_mem_take hs)⟩
    show B_k M (c.2.2.1.getD (c.2.2.1.length - 1) c.1)
    exact h.2.2 _ (cc_getD_mem (by omega))
theorem K_keep {M : Nat} {c : CS_} (h : C_ok M c) : C_ok M (C_keep c).2 := ⟨h.1, fun s hs => by cases hs; exact h.1, h.2.2⟩
theorem K_restore {M : Nat} {c : CS_} (h : C_ok M c) : C_ok M (C_restore c).2 := by
  unfold C_restore
  split
  · exact h
  next s hs => exact h.box (h.2.1 s hs)
