/-! what always holds of a box -/
def ln_ok (T : Nat) (L : Ln_) : Prop := (∃ c : Nat, 1 ≤ c ∧ c ≤ 8 ∧ L.1 0 = nI c) ∧ (∃ p : Nat, 1 ≤ p ∧ p ≤ 9 ∧ L.1 1 = nI p) ∧ (∃ d : Nat, 1 ≤ d ∧ d ≤ 6 ∧ L.1 2 = nI d) ∧ (∃ t : Nat, t < 4 ∧ L.1 4 = nI t) ∧ L.2.1.length ≤ 8 ∧ ∀ k : Nat, k < L.2.2.length → (L.2.2.getD k 0).toInt + (L.2.2.length : Int) ≤ (T : Int) + 6 + k
def qu_ok (M : Nat) (q : Qu_) : Prop := q.2.2.length ≤ 8 ∧ ∀ p ∈ q.2.2, ∃ n : Nat, n < M ∧ p.1 = nI n
def B_ok (T M : Nat) (S : St_) : Prop := S.1 0 = nI T ∧ (S.1 1 = 0 ∨ S.1 1 = 1) ∧ (∃ a : Nat, a ≤ M ∧ S.1 3 = nI a) ∧ (∀ j, j < 4 → ln_ok T (S.2.1 j)) ∧ ∀ j, j < 4 → qu_ok M (S.2.2 j)
def B_mo (T M : Nat) (S : St_) : Prop := B_ok T M S ∧ ∀ j, j < 4 → (S.2.1 j).2.2.length ≤ 5
theorem B_mo.mid {T M : Nat} {S : St_} (h : B_mo T M S) (hM : M < 2 ^ 20) : B_mid S := by
  intro j hj
  obtain ⟨⟨c, hc1, hc2, hc⟩, ⟨p, hp1, hp2, hp⟩, -, ht, -⟩ := h.1.2.2.2.1 j hj
  refine ⟨by rw [hc]; exact nI_le (b := 8) hc2 (by decide), by rw [hp]; exact (cc_p0 (by omega)).mpr (by omega), ht, h.2 j hj, fun q hq => ?_⟩
  obtain ⟨n, hn, e⟩ := (h.1.2.2.2.2 j hj).2 q hq
  rw [e]
  intro q2
  exact nI_pos (n := n) (by omega) (by rw [q2]; decide)
theorem L_comeW_spec (t : Int32) : ∀ (wy : List Int32) (v : Nat → Int32), (∀ k, k ≠ 3 → (L_comeW t v wy).1 k = v k) ∧ (∃ pre, wy = pre ++ (L_comeW t v wy).2) ∧ ∀ w ws, (L_comeW t v wy).2 = w :: ws → t < w
  | [], v => ⟨fun _ _ => rfl, ⟨[], rfl⟩, fun w ws h => by cases h⟩
  | x :: xs, v => by
    unfold L_comeW
    split
    next hx =>
      obtain ⟨h1, ⟨pre, h2⟩, h3⟩ := L_comeW_spec t xs (upd v 3 (v 3 + 1))
      refine ⟨fun k hk => (h1 k hk).trans (pk_un hk), ⟨x :: pre, by rw [List.cons_append, ← h2]⟩, h3⟩
    next hx =>
      refine ⟨fun _ _ => rfl, ⟨[], rfl⟩, fun w ws h => ?_⟩
      cases h
      exact Int32.not_le.mp hx
theorem cc_getD_app {pre ws : List Int32} (k : Nat) : (pre ++ ws).getD (pre.length + k) 0 = ws.getD k 0 := by
  rw [List.getD_eq_getElem?_getD, List.getD_eq_getElem?_getD, List.getElem?_append_right (by omega), Nat.add_sub_cancel_left]
theorem ln_ok.come {T : Nat} {L : Ln_} (h : ln_ok T L) (hT : T < 2 ^ 20) : ln_ok T (L_come (nI T) L) ∧ (L_come (nI T) L).2.2.length ≤ 5 := by
  obtain ⟨h1, h2, h3, h4, h5, h6⟩ := h
  obtain ⟨e1, ⟨pre, e2⟩, e3⟩ := L_comeW_spec (nI T) L.2.2 L.1
  have hb : ∀ k : Nat, k < (L_comeW (nI T) L.1 L.2.2).2.length → ((L_comeW (nI T) L.1 L.2.2).2.getD k 0).toInt + ((L_comeW (nI T) L.1 L.2.2).2.length : Int) ≤ (T : Int) + 6 + k := by
    intro k hk
    have hl : L.2.2.length = pre.length + (L_comeW (nI T) L.1 L.2.2).2.length := by
      have := congrArg List.length e2
      rw [List.length_append] at this
      exact this
    have h7 := h6 (pre.length + k) (by omega)
    rw [show L.2.2.getD (pre.length + k) 0 = (L_comeW (nI T) L.1 L.2.2).2.getD k 0 by conv => { lhs; rw [e2] }; exact cc_getD_app k] at h7
    rw [hl] at h7
    push_cast at h7
    omega
  refine ⟨⟨?_, ?_, ?_, ?_, h5, hb⟩, ?_⟩
  · obtain ⟨c, a, b, e⟩ := h1
    exact ⟨c, a, b, (e1 0 (by decide)).trans e⟩
  · obtain ⟨c, a, b, e⟩ := h2
    exact ⟨c, a, b, (e1 1 (by decide)).trans e⟩
  · obtain ⟨c, a, b, e⟩ := h3
    exact ⟨c, a, b, (e1 2 (by decide)).trans e⟩
  · obtain ⟨c, a, e⟩ := h4
    exact ⟨c, a, (e1 4 (by decide)).trans e⟩
  · show (L_comeW (nI T) L.1 L.2.2).2.length ≤ 5
    cases hw : (L_comeW (nI T) L.1 L.2.2).2 with
    | nil => simp
    | cons w ws =>
      have h8 := Int32.lt_iff_toInt_lt.mp (e3 w ws hw)
      rw [nI_toInt (by omega)] at h8
      have h7 := hb 0 (by rw [hw]; simp)
      rw [hw] at h7
      simp only [List.getD_cons_zero] at h7
      have : ((w :: ws).length : Int) ≤ 5 := by omega
      omega
theorem ln_ok.same3 {T : Nat} {L : Ln_} (h : ln_ok T L) (x : Int32) : ln_ok T (upd L.1 3 x, L.2.1, L.2.2) := by
  obtain ⟨⟨c, a, b, e⟩, ⟨c2, a2, b2, e2⟩, ⟨c3, a3, b3, e3⟩, ⟨c4, a4, e4⟩, h5, h6⟩ := h
  exact ⟨⟨c, a, b, e⟩, ⟨c2, a2, b2, e2⟩, ⟨c3, a3, b3, e3⟩, ⟨c4, a4, e4⟩, h5, h6⟩
theorem B_ok.beg {T M : Nat} {S : St_} (h : B_ok T M S) (hT : T < 2 ^ 20) : B_mo T M (B_beg S) := by
  have hl : ∀ j, j < 4 → ln_ok T ((B_beg S).2.1 j) ∧ ((B_beg S).2.1 j).2.2.length ≤ 5 := by
    intro j hj
    have h0 : S.1 0 = nI T := h.1
    have h1 := (h.2.2.2.1 j hj).come hT
    have e : (B_beg S).2.1 j = B_begF S (S.2.1 j) := B_mapI_in (F := fun _ L => B_begF S L) (X := S.2.1) hj
    rw [e]
    unfold B_begF
    rw [h0]
    split
    · exact ⟨h1.1.same3 _, h1.2⟩
    · exact h1
  exact ⟨⟨h.1, h.2.1, h.2.2.1, fun j hj => (hl j hj).1, h.2.2.2.2⟩, fun j hj => (hl j hj).2⟩
theorem ln_ok.recv {T : Nat} {L : Ln_} (h : ln_ok T L) (n : Int32) (t : Nat) (ht : t < 4) : ln_ok T (upd (L_recv n L).1 4 (nI t), (L_recv n L).2) := by
  obtain ⟨⟨c, a, b, e⟩, ⟨c2, a2, b2, e2⟩, ⟨c3, a3, b3, e3⟩, -, h5, h6⟩ := h
  unfold L_recv
  split
  next hq => exact ⟨⟨c, a, b, e⟩, ⟨c2, a2, b2, e2⟩, ⟨c3, a3, b3, e3⟩, ⟨t, ht, rfl⟩, h5, h6⟩
  next hq =>
    refine ⟨⟨c, a, b, e⟩, ⟨c2, a2, b2, e2⟩, ⟨c3, a3, b3, e3⟩, ⟨t, ht, rfl⟩, ?_, h6⟩
    rw [e] at hq
    have : L.2.1.length < c := by
      rcases Nat.lt_or_ge L.2.1.length c with q | q
      · exact q
      · exact absurd (nI_le q (by omega)) hq
    show (L.2.1 ++ [n]).length ≤ 8
    rw [List.length_append, List.length_singleton]
    omega
theorem qu_ok.erase {M : Nat} {q : Qu_} (h : qu_ok M q) (x y : Int32) (k : Nat) : qu_ok M (x, y, q.2.2.eraseIdx k) :=
  ⟨Nat.le_trans (List.length_eraseIdx_le ..) h.1, fun p hp => h.2 p (List.mem_of_mem_eraseIdx hp)⟩
theorem B_mo.send {T M : Nat} {X : St_ × (Nat → Int32)} (h : B_mo T M X.1) (o t : Nat) : B_mo T M (B_send o t X).2.1 := by
  rcases B_send_cases o t X with e | ⟨j, k, h1, h2, h3, h4, e⟩
  · rw [e]
    exact h
  · rw [e]
    refine ⟨⟨h.1.1, h.1.2.1, h.1.2.2.1, fun i hi => ?_, fun i hi => ?_⟩, fun i hi => ?_⟩
    · show ln_ok T (va_up X.1.2.1 o _ i)
      by_cases hio : i = o
      · subst hio
        rw [va_up_self]
        exact (h.1.2.2.2.1 i hi).recv _ _ (Nat.mod_lt _ (by decide))
      · rw [va_up_ne _ _ hio]
        exact h.1.2.2.2.1 i hi
    · show qu_ok M (va_up X.1.2.2 j _ i)
      by_cases hij : i = j
      · subst hij
        rw [va_up_self]
        exact (h.1.2.2.2.2 i hi).erase _ _ _
      · rw [va_up_ne _ _ hij]
        exact h.1.2.2.2.2 i hi
    · show (va_up X.1.2.1 o _ i).2.2.length ≤ 5
      by_cases hio : i = o
      · subst hio
        rw [va_up_self]
        show (L_recv _ _).2.2.length ≤ 5
        rw [(L_recv_k _ _).2.2]
        exact h.2 i hi
      · rw [va_up_ne _ _ hio]
        exact h.2 i hi
theorem B_mo.sends {T M : Nat} {X : St_ × (Nat → Int32)} (h : B_mo T M X.1) : ∀ i, B_mo T M (B_sends i X).2.1 := by
  intro i
  induction i with
  | zero => exact h
  | succ i ih => exact B_mo.send ih i _
theorem L_rank_lt {c : Int32} {l : List Int32} : ∀ {n : Nat}, L_rank c l n < n → c < l.getD (L_rank c l n) 0
  | 0, h => absurd h (by omega)
  | n + 1, h => by
    unfold L_rank at h ⊢
    split
    next hc =>
      rw [if_pos hc] at h
      by_cases hq : L_rank c l n = n
      · rw [hq]; exact hc
      · exact L_rank_lt (by have := L_rank_le c l n; omega)
    next hc =>
      rw [if_neg hc] at h
      exact absurd h (by omega)
theorem cc_getD_ins {l : List Int32} {c : Int32} {r : Nat} (hr : r ≤ l.length) (k : Nat) : (l.take r ++ c :: l.drop r).getD k 0 = if k < r then l.getD k 0 else if k = r then c else l.getD (k - 1) 0 := by
  have ht : (l.take r).length = r := by rw [List.length_take]; omega
  simp only [List.getD_eq_getElem?_getD]
  by_cases h1 : k < r
  · rw [if_pos h1, List.getElem?_append_left (by omega), List.getElem?_take, if_pos h1]
  · rw [if_neg h1, List.getElem?_append_right (by omega), ht]
    by_cases h2 : k = r
    · subst h2
      simp
    · rw [if_neg h2]
      obtain ⟨m, hm⟩ : ∃ m, k - r = m + 1 := ⟨k - r - 1, by omega⟩
      rw [hm, List.getElem?_cons_succ, List.getElem?_drop, show r + m = k - 1 by omega]
theorem ln_ok.take {T : Nat} {L : Ln_} (h : ln_ok T L) (hT : T < 2 ^ 20) : ln_ok (T + 1) (L_take (nI T) L) := by
  obtain ⟨h1, h2, ⟨d, d1, d2, hd⟩, h4, h5, h6⟩ := h
  unfold L_take
  split
  next hq =>
    have hc : nI T + L.1 2 = nI (T + d) := by rw [hd]; exact nI_add _ _
    refine ⟨h1, h2, ⟨d, d1, d2, hd⟩, h4, ?_, fun k hk => ?_⟩
    · show L.2.1.tail.length ≤ 8
      rw [List.length_tail]
      omega
    · have hk : k < (L_ins (nI T + L.1 2) L.2.2).length := hk
      show ((L_ins (nI T + L.1 2) L.2.2).getD k 0).toInt + ((L_ins (nI T + L.1 2) L.2.2).length : Int) ≤ _
      rw [L_ins_len] at hk ⊢
      rw [hc]
      have hr := L_rank_le (nI (T + d)) L.2.2 L.2.2.length
      have hlt := @L_rank_lt (nI (T + d)) L.2.2 L.2.2.length
      unfold L_ins
      rw [cc_getD_ins hr]
      generalize L_rank (nI (T + d)) L.2.2 L.2.2.length = r at hr hlt ⊢
      push_cast
      split
      next hkr =>
        have := h6 k (by omega)
        omega
      next hkr =>
        split
        next hke =>
          subst hke
          rw [nI_toInt (by omega)]
          by_cases hkl : k < L.2.2.length
          · have h7 := Int32.lt_iff_toInt_lt.mp (hlt hkl)
            rw [nI_toInt (by omega)] at h7
            have := h6 k hkl
            push_cast at h7 ⊢
            omega
          · have : k = L.2.2.length := by omega
            push_cast
            omega
        next hke =>
          have := h6 (k - 1) (by omega)
          omega
  next hq =>
    exact ⟨h1, h2, ⟨d, d1, d2, hd⟩, h4, h5, fun k hk => by have := h6 k hk; push_cast; omega⟩
theorem B_ok.tick {T M : Nat} {S : St_} (h : B_ok T M S) (hT : T < 2 ^ 20) : B_ok (T + 1) M (B_tick S).2 := by
  have h0 : B_mo T M (B_beg S) := h.beg hT
  have h1 := h0.sends (X := (B_beg S, fun _ => 0)) 4
  obtain ⟨X4, hX4⟩ : ∃ X, X = B_sends 4 (B_beg S, fun _ => 0) := ⟨_, rfl⟩
  rw [B_tick_eq hX4]
  rw [← hX4] at h1
  obtain ⟨⟨a0, a1, a2, a3, a4⟩, -⟩ := h1
  refine ⟨?_, ?_, ?_, fun j hj => ?_, fun j hj => ?_⟩
  · show upd X4.2.1.1 0 (X4.2.1.1 0 + 1) 0 = _
    rw [pk_us, a0]
    exact nI_1 T
  · show upd X4.2.1.1 0 (X4.2.1.1 0 + 1) 1 = 0 ∨ upd X4.2.1.1 0 (X4.2.1.1 0 + 1) 1 = 1
    rw [pk_un (by decide)]
    exact a1
  · obtain ⟨a, ha, e⟩ := a2
    exact ⟨a, ha, e⟩
  · show ln_ok (T + 1) (B_mapI 4 (fun _ L => L_take (X4.2.1.1 0) L) X4.2.1.2.1 j)
    rw [B_mapI_in hj, a0]
    exact (a3 j hj).take hT
  · show qu_ok M (B_mapI 4 _ X4.2.1.2.2 j)
    rw [B_mapI_in hj]
    exact a4 j hj
theorem B_ok.pass {T M : Nat} {S : St_} (h : B_ok T M S) : ∀ n, T + n < 2 ^ 20 → B_ok (T + n) M (B_pass n S).2 := by
  intro n
  induction n with
  | zero => exact fun _ => h
  | succ n ih => exact fun hn => (ih (by omega)).tick (by omega)
theorem B_ok.mids {T M : Nat} {S : St_} (h : B_ok T M S) (hM : M < 2 ^ 20) {n : Nat} (hn : T + n < 2 ^ 20) : ∀ k, k < n → B_mid (B_beg (B_pass k S).2) := fun k hk => ((h.pass k (by omega)).beg (by omega)).mid hM
theorem B_ok.mono {T M M' : Nat} {S : St_} (h : B_ok T M S) (hM : M ≤ M') : B_ok T M' S := by
  obtain ⟨a0, a1, ⟨a, ha, e⟩, a3, a4⟩ := h
  refine ⟨a0, a1, ⟨a, by omega, e⟩, a3, fun j hj => ⟨(a4 j hj).1, fun p hp => ?_⟩⟩
  obtain ⟨n, hn, e⟩ := (a4 j hj).2 p hp
  exact ⟨n, by omega, e⟩
theorem B_ok.adm {T M : Nat} {S : St_} (h : B_ok T M S) {i : Nat} (hi : i < 4) (o : Int32) (hlt : (S.2.2 i).2.2.length < 8) : B_ok T (M + 1) (B_adm i o S) := by
  obtain ⟨a0, a1, ⟨a, ha, e⟩, a3, a4⟩ := h
  refine ⟨a0, ?_, ⟨a + 1, by omega, ?_⟩, a3, fun j hj => ?_⟩
  · show upd S.1 3 (S.1 3 + 1) 1 = 0 ∨ upd S.1 3 (S.1 3 + 1) 1 = 1
    rw [pk_un (by decide)]
    exact a1
  · show upd S.1 3 (S.1 3 + 1) 3 = _
    rw [pk_us, e]
    exact nI_1 a
  · show qu_ok (M + 1) (va_up S.2.2 i _ j)
    by_cases hq : j = i
    · subst hq
      rw [va_up_self]
      refine ⟨?_, fun p hp => ?_⟩
      · show ((S.2.2 j).2.2 ++ [_]).length ≤ 8
        rw [List.length_append, List.length_singleton]
        omega
      · rcases List.mem_append.mp hp with hp | hp
        · obtain ⟨n, hn, e2⟩ := (a4 j hj).2 p hp
          exact ⟨n, by omega, e2⟩
        · rw [List.mem_singleton.mp hp]
          exact ⟨a, by omega, e⟩
    · rw [va_up_ne _ _ hq]
      refine ⟨(a4 j hj).1, fun p hp => ?_⟩
      obtain ⟨n, hn, e2⟩ := (a4 j hj).2 p hp
      exact ⟨n, by omega, e2⟩
