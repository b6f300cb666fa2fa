theorem cc_inl {x n : Int32} {N : Nat} (h0 : ¬ x < 0) (h1 : x < n) (h2 : n ≤ nI N) (hN : N < 2 ^ 31 := by decide) : vp_in x N := by
  refine vp_in_iff.mpr ⟨?_, ?_⟩
  · have := Int32.le_iff_toInt_le.mp (Int32.not_lt.mp h0)
    simpa using this
  · have h3 := Int32.lt_iff_toInt_lt.mp h1
    have h4 := Int32.le_iff_toInt_le.mp h2
    rw [nI_toInt hN] at h4
    omega
set_option maxHeartbeats 4000000 in
set_option maxRecDepth 100000 in
theorem ct_X2_append (cy : Nat → ClassId) (z : Nat) (G : cc_G) (a : Nat) (bl se hs : Int32) (l : List Pk_) (x1 x2 x3 : Int32) (hlt : l.length < 8) (hI : qu_I cy G G a hs (bl, se, l)) : cc_Cn cy Y_X2_append [.ref a, .int x1, .int x2, .int x3] z G (cc_qv (fun G' => qu_I cy G G' a hs (bl, se, l ++ [(x1, x2, x3)]))) := by
  obtain ⟨n1, n2, n3, hL, hA, h8⟩ := hI
  have hL : qu_R cy G G a n1 n2 n3 (nI l.length) bl se hs := hL
  have hA : qu_A n1 n2 n3 l := hA
  have h8 : l.length ≤ 8 := h8
  refine cc_enter ok_X2_append (Nat.le_of_ble_eq_true rfl) (ls := [(0, .ref a), (1, .int x1), (2, .int x2), (3, .int x3)]) rfl ?_
  refine cc_aload_n (j := 0) dX2_append_0 rfl rfl ?_
  refine cc_get (v := .int (nI l.length)) hL.2.1 cc_c2 3 (by decide) fl_X2_21 rfl dX2_append_1 ?_
  refine cc_bipush (v := 8) dX2_append_4 (by decide) ?_
  refine cc_icmp_lt (tgt := 10) dX2_append_6 (by decide) (fun c_6 => ?_) (fun c_6 => ?_)
  · refine cc_aload_n (j := 0) dX2_append_10 rfl rfl ?_
    refine cc_get (v := .ref (a + 1)) hL.2.1 cc_c2 0 (by decide) fl_X2_9 rfl dX2_append_11 ?_
    refine cc_aload_n (j := 0) dX2_append_14 rfl rfl ?_
    refine cc_get (v := .int (nI l.length)) hL.2.1 cc_c2 3 (by decide) fl_X2_21 rfl dX2_append_15 ?_
    refine cc_iload_n (j := 1) dX2_append_18 rfl rfl ?_
    refine qu_rast1 (j := l.length) hL (vp_in_nI (n := l.length) (by omega) (by decide)) (nI_clamp (by omega)) dX2_append_19 (fun G1 hL2 => ?_)
    refine cc_aload_n (j := 0) dX2_append_20 rfl rfl ?_
    refine cc_get (v := .ref (a + 2)) hL2.2.1 cc_c2 1 (by decide) fl_X2_15 rfl dX2_append_21 ?_
    refine cc_aload_n (j := 0) dX2_append_24 rfl rfl ?_
    refine cc_get (v := .int (nI l.length)) hL2.2.1 cc_c2 3 (by decide) fl_X2_21 rfl dX2_append_25 ?_
    refine cc_iload_n (j := 2) dX2_append_28 rfl rfl ?_
    refine qu_rast2 (j := l.length) hL2 (vp_in_nI (n := l.length) (by omega) (by decide)) (nI_clamp (by omega)) dX2_append_29 (fun G3 hL4 => ?_)
    refine cc_aload_n (j := 0) dX2_append_30 rfl rfl ?_
    refine cc_get (v := .ref (a + 3)) hL4.2.1 cc_c2 2 (by decide) fl_X2_18 rfl dX2_append_31 ?_
    refine cc_aload_n (j := 0) dX2_append_34 rfl rfl ?_
    refine cc_get (v := .int (nI l.length)) hL4.2.1 cc_c2 3 (by decide) fl_X2_21 rfl dX2_append_35 ?_
    refine cc_iload_n (j := 3) dX2_append_38 rfl rfl ?_
    refine qu_rast3 (j := l.length) hL4 (vp_in_nI (n := l.length) (by omega) (by decide)) (nI_clamp (by omega)) dX2_append_39 (fun G5 hL6 => ?_)
    refine cc_aload_n (j := 0) dX2_append_40 rfl rfl ?_
    refine cc_dup dX2_append_41 rfl ?_
    refine cc_get (v := .int (nI l.length)) hL6.2.1 cc_c2 3 (by decide) fl_X2_21 rfl dX2_append_42 ?_
    refine cc_iconst (v := 1) dX2_append_45 (by decide) ?_
    refine cc_iadd dX2_append_46 ?_
    rw [show (nI l.length) + 1 = nI (l ++ [(x1, x2, x3)]).length from (by rw [List.length_append]; exact nI_1 _)]
    refine qu_rput (sz' := (nI (l ++ [(x1, x2, x3)]).length)) (bl' := bl) (se' := se) (hs' := hs) hL6 cc_c2 3 (by decide) fl_X2_21 rfl rfl rfl rfl rfl dX2_append_47 (fun G7 hL8 => ?_)
    refine cc_vret rfl dX2_append_50 ?_
    exact ⟨rfl, _, _, _, hL8, hA.push (x1, x2, x3), by simp; omega⟩
  · exact absurd (nI_lt (b := 8) hlt (by decide)) c_6

set_option maxHeartbeats 4000000 in
set_option maxRecDepth 100000 in
theorem ct_X2_offerFor (cy : Nat → ClassId) (z : Nat) (G : cc_G) (a : Nat) (bl se hs : Int32) (l : List Pk_) (x1 x2 : Int32) (h0s : hs = 0) (hI : qu_I cy G G a hs (bl, se, l)) : cc_Cn cy Y_X2_offerFor [.ref a, .int x1, .int x2] z G (cc_qi (fun r G' => r = (match Q_off x1 x2 l with | some k => nI k | none => (-1)) ∧ G' = G)) := by
  obtain ⟨n1, n2, n3, hL, hA, h8⟩ := hI
  have hL : qu_R cy G G a n1 n2 n3 (nI l.length) bl se hs := hL
  have hA : qu_A n1 n2 n3 l := hA
  have h8 : l.length ≤ 8 := h8
  have hrl : (Q_rch x2 l).length ≤ l.length ∧ ∀ j, j < (Q_rch x2 l).length → (Q_rch x2 l).getD j (0, 0, 0) = l.getD j (0, 0, 0) := by
    unfold Q_rch
    split
    · cases l with
      | nil => exact ⟨Nat.le_refl _, fun j hj => rfl⟩
      | cons p r => exact ⟨by simp, fun j hj => by simp at hj; subst hj; simp⟩
    · exact ⟨Nat.le_refl _, fun j hj => rfl⟩
  have loop_32 : ∀ (n i : Nat), (Q_rch x2 l).length < i + n → i ≤ (Q_rch x2 l).length → (∀ j, j < i → ((Q_rch x2 l).getD j (0, 0, 0)).2.1 ≠ x1) → cc_R cy Y_X2_offerFor z 32 [(4, .int (nI i)), (3, .int (nI (Q_rch x2 l).length)), (0, .ref a), (1, .int x1), (2, .int x2)] [] G (cc_qi (fun r G' => r = (match Q_off x1 x2 l with | some k => nI k | none => (-1)) ∧ G' = G)) := by
    intro n
    induction n with
    | zero => intro i h1 h2; exact absurd h1 (by omega)
    | succ n ih =>
      intro i hn hi h0
      refine cc_iload (j := 0) dX2_offerFor_32 rfl ?_
      refine cc_iload_n (j := 1) dX2_offerFor_34 rfl rfl ?_
      refine cc_icmp_ge (tgt := 58) dX2_offerFor_35 (by decide) (fun c_35 => ?_) (fun c_35 => ?_)
      · have hge : (Q_rch x2 l).length ≤ i := (nI_leI (by omega) (by omega)).mp c_35
        refine cc_iconst (v := (-1)) dX2_offerFor_58 (by decide) ?_
        refine cc_iret rfl rfl dX2_offerFor_59 ?_
        refine ⟨_, rfl, ?_, rfl⟩
        have hh : Q_pos x1 (Q_rch x2 l) = (Q_rch x2 l).length := Q_pos_no (fun j hj => h0 j (by omega))
        have ho : Q_off x1 x2 l = none := by unfold Q_off; rw [hh, if_neg (Nat.lt_irrefl _)]
        rw [ho]
      · have hlt : i < (Q_rch x2 l).length := by
          rcases Nat.lt_or_ge i (Q_rch x2 l).length with q | q
          · exact q
          · exact absurd (nI_le q (by omega)) c_35
        refine cc_aload_n (j := 2) dX2_offerFor_38 rfl rfl ?_
        refine cc_get (v := .ref (a + 2)) hL.2.1 cc_c2 1 (by decide) fl_X2_15 rfl dX2_offerFor_39 ?_
        refine cc_iload (j := 0) dX2_offerFor_42 rfl ?_
        refine cc_iald (x := n2 i) hL.2.2.2.1 (vp_in_nI (n := i) (by omega) (by decide)) (by rw [(nI_clamp (by omega))]) dX2_offerFor_44 ?_
        refine cc_iload_n (j := 3) dX2_offerFor_45 rfl rfl ?_
        refine cc_icmp_ne (tgt := 52) dX2_offerFor_46 (by decide) (fun c_46 => ?_) (fun c_46 => ?_)
        · refine cc_iinc (j := 0) (v := nI (i + 1)) (ls' := [(4, .int (nI (i + 1))), (3, .int (nI (Q_rch x2 l).length)), (0, .ref a), (1, .int x1), (2, .int x2)]) dX2_offerFor_52 rfl (nI_1 i) (Nat.le_of_ble_eq_true rfl) rfl ?_
          refine cc_goto (tgt := 32) dX2_offerFor_55 (by decide) ?_
          exact ih (i + 1) (by omega) (by omega) (fun j hj => by
            by_cases hq : j = i
            · subst hq
              rw [hrl.2 j hlt, ← (qu_at hA (by omega)).2.1]
              simpa using c_46
            · exact h0 j (by omega))
        · refine cc_iload (j := 0) dX2_offerFor_49 rfl ?_
          refine cc_iret rfl rfl dX2_offerFor_51 ?_
          refine ⟨_, rfl, ?_, rfl⟩
          have hh : Q_pos x1 (Q_rch x2 l) = i := Q_pos_hit h0 hlt (by rw [hrl.2 i hlt, ← (qu_at hA (by omega)).2.1]; simpa using c_46)
          have ho : Q_off x1 x2 l = some i := by unfold Q_off; rw [hh, if_pos hlt]
          rw [ho]
  refine cc_enter ok_X2_offerFor (Nat.le_of_ble_eq_true rfl) (ls := [(0, .ref a), (1, .int x1), (2, .int x2)]) rfl ?_
  refine cc_aload_n (j := 0) dX2_offerFor_0 rfl rfl ?_
  refine cc_get (v := .int hs) hL.2.1 cc_c2 6 (by decide) fl_X2_31 rfl dX2_offerFor_1 ?_
  refine cc_if_eq (tgt := 9) dX2_offerFor_4 (by decide) (fun c_4 => ?_) (fun c_4 => ?_)
  · refine cc_iload_n (j := 2) dX2_offerFor_9 rfl rfl ?_
    refine cc_if_ne (tgt := 24) dX2_offerFor_10 (by decide) (fun c_10 => ?_) (fun c_10 => ?_)
    · have hm2 : Q_rch x2 l = l := if_neg (by simpa using c_10)
      refine cc_aload_n (j := 0) dX2_offerFor_24 rfl rfl ?_
      refine cc_get (v := .int (nI l.length)) hL.2.1 cc_c2 3 (by decide) fl_X2_21 rfl dX2_offerFor_25 ?_
      refine cc_istore_n (ls' := [(3, .int (nI l.length)), (0, .ref a), (1, .int x1), (2, .int x2)]) dX2_offerFor_28 rfl (Nat.le_of_ble_eq_true rfl) rfl ?_
      rw [show nI l.length = nI (Q_rch x2 l).length by rw [hm2]]
      refine cc_iconst (v := 0) dX2_offerFor_29 (by decide) ?_
      refine cc_istore (ls' := [(4, .int 0), (3, .int (nI (Q_rch x2 l).length)), (0, .ref a), (1, .int x1), (2, .int x2)]) dX2_offerFor_30 (Nat.le_of_ble_eq_true rfl) rfl ?_
      exact loop_32 ((Q_rch x2 l).length + 1) 0 (by omega) (Nat.zero_le _) (fun j hj => absurd hj (by omega))
    · refine cc_aload_n (j := 0) dX2_offerFor_13 rfl rfl ?_
      refine cc_get (v := .int (nI l.length)) hL.2.1 cc_c2 3 (by decide) fl_X2_21 rfl dX2_offerFor_14 ?_
      refine cc_iconst (v := 1) dX2_offerFor_17 (by decide) ?_
      refine cc_min ml_X2_41 (by decide +kernel) dX2_offerFor_18 ?_
      rw [show (if (1 : Int32) < nI l.length then (1 : Int32) else nI l.length) = nI (Q_rch x2 l).length from by
        have hm : Q_rch x2 l = l.take 1 := if_pos (by simpa using c_10)
        rw [hm]
        cases l with
        | nil => rfl
        | cons p r =>
          simp only [List.take_succ_cons, List.take_zero, List.length_cons, List.length_nil]
          by_cases hq : (1 : Int32) < nI (r.length + 1)
          · rw [if_pos hq]; rfl
          · rw [if_neg hq]
            have : r.length + 1 ≤ 1 := by
              rcases Nat.lt_or_ge 1 (r.length + 1) with e | e
              · exact absurd (nI_lt (a := 1) e (by simp at h8; omega)) hq
              · exact e
            rw [show r.length = 0 by omega]]
      refine cc_goto (tgt := 28) dX2_offerFor_21 (by decide) ?_
      refine cc_istore_n (ls' := [(3, .int (nI (Q_rch x2 l).length)), (0, .ref a), (1, .int x1), (2, .int x2)]) dX2_offerFor_28 rfl (Nat.le_of_ble_eq_true rfl) rfl ?_
      refine cc_iconst (v := 0) dX2_offerFor_29 (by decide) ?_
      refine cc_istore (ls' := [(4, .int 0), (3, .int (nI (Q_rch x2 l).length)), (0, .ref a), (1, .int x1), (2, .int x2)]) dX2_offerFor_30 (Nat.le_of_ble_eq_true rfl) rfl ?_
      exact loop_32 ((Q_rch x2 l).length + 1) 0 (by omega) (Nat.zero_le _) (fun j hj => absurd hj (by omega))
  · exact absurd h0s c_4

theorem ct_X2_offerFor_sent (cy : Nat → ClassId) (z : Nat) (G : cc_G) (a : Nat) (bl se hs : Int32) (l : List Pk_) (x1 x2 : Int32) (h0s : hs = 1) (hI : qu_I cy G G a hs (bl, se, l)) : cc_Cn cy Y_X2_offerFor [.ref a, .int x1, .int x2] z G (cc_qi (fun r G' => r = (-1) ∧ G' = G)) := by
  obtain ⟨n1, n2, n3, hL, hA, h8⟩ := hI
  have hL : qu_R cy G G a n1 n2 n3 (nI l.length) bl se hs := hL
  refine cc_enter ok_X2_offerFor (Nat.le_of_ble_eq_true rfl) (ls := [(0, .ref a), (1, .int x1), (2, .int x2)]) rfl ?_
  refine cc_aload_n (j := 0) dX2_offerFor_0 rfl rfl ?_
  refine cc_get (v := .int hs) hL.2.1 cc_c2 6 (by decide) fl_X2_31 rfl dX2_offerFor_1 ?_
  refine cc_if_eq (tgt := 9) dX2_offerFor_4 (by decide) (fun c_4 => absurd (h0s.symm.trans c_4) (by decide)) (fun c_4 => ?_)
  refine cc_iconst (v := (-1)) dX2_offerFor_7 (by decide) ?_
  refine cc_iret rfl rfl dX2_offerFor_8 ?_
  exact ⟨_, rfl, rfl, rfl⟩

set_option maxHeartbeats 4000000 in
set_option maxRecDepth 100000 in
theorem ct_X2_sendFrom (cy : Nat → ClassId) (z : Nat) (G : cc_G) (a : Nat) (bl se hs : Int32) (l : List Pk_) (r0 : Nat) (hr0 : r0 < l.length) (hI : qu_I cy G G a hs (bl, se, l)) : cc_Cn cy Y_X2_sendFrom [.ref a, .int (nI r0)] z G (cc_qi (fun r G' => r = (l.getD r0 (0, 0, 0)).1 ∧ qu_I cy G G' a 1 (bl, se + 1, l.eraseIdx r0))) := by
  obtain ⟨n1, n2, n3, hL, hA, h8⟩ := hI
  have hL : qu_R cy G G a n1 n2 n3 (nI l.length) bl se hs := hL
  have hA : qu_A n1 n2 n3 l := hA
  have h8 : l.length ≤ 8 := h8
  have loop_11 : ∀ (n i : Nat) (m1 m2 m3 : Nat → Int32) (G1 : cc_G), l.length < i + n → r0 + 1 ≤ i → i ≤ l.length → qu_R cy G G1 a m1 m2 m3 (nI l.length) bl se hs → (∀ j, j < r0 → m1 j = n1 j ∧ m2 j = n2 j ∧ m3 j = n3 j) → (∀ j, r0 ≤ j → j + 1 < i → m1 j = n1 (j + 1) ∧ m2 j = n2 (j + 1) ∧ m3 j = n3 (j + 1)) → (∀ j, i ≤ j + 1 → r0 ≤ j → m1 j = n1 j ∧ m2 j = n2 j ∧ m3 j = n3 j) → cc_R cy Y_X2_sendFrom z 11 [(3, .int (nI i)), (2, .int (n1 r0)), (0, .ref a), (1, .int (nI r0))] [] G1 (cc_qi (fun r G' => r = (l.getD r0 (0, 0, 0)).1 ∧ qu_I cy G G' a 1 (bl, se + 1, l.eraseIdx r0))) := by
    intro n
    induction n with
    | zero => intro i m1 m2 m3 G1 h1 h2 h3; exact absurd h1 (by omega)
    | succ n ih =>
      intro i m1 m2 m3 G1 hn hi1 hi2 hL h1 h2 h3
      refine cc_iload_n (j := 0) dX2_sendFrom_11 rfl rfl ?_
      refine cc_aload_n (j := 2) dX2_sendFrom_12 rfl rfl ?_
      refine cc_get (v := .int (nI l.length)) hL.2.1 cc_c2 3 (by decide) fl_X2_21 rfl dX2_sendFrom_13 ?_
      refine cc_icmp_ge (tgt := 67) dX2_sendFrom_16 (by decide) (fun c_16 => ?_) (fun c_16 => ?_)
      · have hge : l.length ≤ i := (nI_leI (by omega) (by omega)).mp c_16
        refine cc_aload_n (j := 2) dX2_sendFrom_67 rfl rfl ?_
        refine cc_dup dX2_sendFrom_68 rfl ?_
        refine cc_get (v := .int (nI l.length)) hL.2.1 cc_c2 3 (by decide) fl_X2_21 rfl dX2_sendFrom_69 ?_
        refine cc_iconst (v := 1) dX2_sendFrom_72 (by decide) ?_
        refine cc_isub dX2_sendFrom_73 ?_
        rw [show (nI l.length) - 1 = nI (l.eraseIdx r0).length from (by rw [List.length_eraseIdx, if_pos hr0]; exact cc_m1 (by omega))]
        refine qu_rput (sz' := (nI (l.eraseIdx r0).length)) (bl' := bl) (se' := se) (hs' := hs) hL cc_c2 3 (by decide) fl_X2_21 rfl rfl rfl rfl rfl dX2_sendFrom_74 (fun G1 hL2 => ?_)
        refine cc_aload_n (j := 2) dX2_sendFrom_77 rfl rfl ?_
        refine cc_dup dX2_sendFrom_78 rfl ?_
        refine cc_get (v := .int se) hL2.2.1 cc_c2 5 (by decide) fl_X2_28 rfl dX2_sendFrom_79 ?_
        refine cc_iconst (v := 1) dX2_sendFrom_82 (by decide) ?_
        refine cc_iadd dX2_sendFrom_83 ?_
        refine qu_rput (sz' := (nI (l.eraseIdx r0).length)) (bl' := bl) (se' := (se + 1)) (hs' := hs) hL2 cc_c2 5 (by decide) fl_X2_28 rfl rfl rfl rfl rfl dX2_sendFrom_84 (fun G3 hL4 => ?_)
        refine cc_aload_n (j := 2) dX2_sendFrom_87 rfl rfl ?_
        refine cc_iconst (v := 1) dX2_sendFrom_88 (by decide) ?_
        refine qu_rput (sz' := (nI (l.eraseIdx r0).length)) (bl' := bl) (se' := (se + 1)) (hs' := 1) hL4 cc_c2 6 (by decide) fl_X2_31 rfl rfl rfl rfl rfl dX2_sendFrom_89 (fun G5 hL6 => ?_)
        refine cc_iload_n (j := 1) dX2_sendFrom_92 rfl rfl ?_
        refine cc_iret rfl rfl dX2_sendFrom_93 ?_
        exact ⟨_, rfl, (qu_at hA hr0).1, m1, m2, m3, hL6, hA.erase h1 (fun j hj hj2 => h2 j hj (by omega)), by show (l.eraseIdx r0).length ≤ 8; rw [List.length_eraseIdx]; split <;> omega⟩
      · have hlt : i < l.length := by
          rcases Nat.lt_or_ge i l.length with q | q
          · exact q
          · exact absurd (nI_le q (by omega)) c_16
        refine cc_aload_n (j := 2) dX2_sendFrom_19 rfl rfl ?_
        refine cc_get (v := .ref (a + 1)) hL.2.1 cc_c2 0 (by decide) fl_X2_9 rfl dX2_sendFrom_20 ?_
        refine cc_iload_n (j := 0) dX2_sendFrom_23 rfl rfl ?_
        refine cc_iconst (v := 1) dX2_sendFrom_24 (by decide) ?_
        refine cc_isub dX2_sendFrom_25 ?_
        rw [show (nI i) - 1 = nI (i - 1) from cc_m1 (by omega)]
        refine cc_aload_n (j := 2) dX2_sendFrom_26 rfl rfl ?_
        refine cc_get (v := .ref (a + 1)) hL.2.1 cc_c2 0 (by decide) fl_X2_9 rfl dX2_sendFrom_27 ?_
        refine cc_iload_n (j := 0) dX2_sendFrom_30 rfl rfl ?_
        refine cc_iald (x := m1 i) hL.2.2.1 (vp_in_nI (n := i) (by omega) (by decide)) (by rw [(nI_clamp (by omega))]) dX2_sendFrom_31 ?_
        refine qu_rast1 (j := (i - 1)) hL (vp_in_nI (n := (i - 1)) (by omega) (by decide)) (nI_clamp (by omega)) dX2_sendFrom_32 (fun G7 hL8 => ?_)
        refine cc_aload_n (j := 2) dX2_sendFrom_33 rfl rfl ?_
        refine cc_get (v := .ref (a + 2)) hL8.2.1 cc_c2 1 (by decide) fl_X2_15 rfl dX2_sendFrom_34 ?_
        refine cc_iload_n (j := 0) dX2_sendFrom_37 rfl rfl ?_
        refine cc_iconst (v := 1) dX2_sendFrom_38 (by decide) ?_
        refine cc_isub dX2_sendFrom_39 ?_
        rw [show (nI i) - 1 = nI (i - 1) from cc_m1 (by omega)]
        refine cc_aload_n (j := 2) dX2_sendFrom_40 rfl rfl ?_
        refine cc_get (v := .ref (a + 2)) hL8.2.1 cc_c2 1 (by decide) fl_X2_15 rfl dX2_sendFrom_41 ?_
        refine cc_iload_n (j := 0) dX2_sendFrom_44 rfl rfl ?_
        refine cc_iald (x := m2 i) hL8.2.2.2.1 (vp_in_nI (n := i) (by omega) (by decide)) (by rw [(nI_clamp (by omega))]) dX2_sendFrom_45 ?_
        refine qu_rast2 (j := (i - 1)) hL8 (vp_in_nI (n := (i - 1)) (by omega) (by decide)) (nI_clamp (by omega)) dX2_sendFrom_46 (fun G9 hL10 => ?_)
        refine cc_aload_n (j := 2) dX2_sendFrom_47 rfl rfl ?_
        refine cc_get (v := .ref (a + 3)) hL10.2.1 cc_c2 2 (by decide) fl_X2_18 rfl dX2_sendFrom_48 ?_
        refine cc_iload_n (j := 0) dX2_sendFrom_51 rfl rfl ?_
        refine cc_iconst (v := 1) dX2_sendFrom_52 (by decide) ?_
        refine cc_isub dX2_sendFrom_53 ?_
        rw [show (nI i) - 1 = nI (i - 1) from cc_m1 (by omega)]
        refine cc_aload_n (j := 2) dX2_sendFrom_54 rfl rfl ?_
        refine cc_get (v := .ref (a + 3)) hL10.2.1 cc_c2 2 (by decide) fl_X2_18 rfl dX2_sendFrom_55 ?_
        refine cc_iload_n (j := 0) dX2_sendFrom_58 rfl rfl ?_
        refine cc_iald (x := m3 i) hL10.2.2.2.2 (vp_in_nI (n := i) (by omega) (by decide)) (by rw [(nI_clamp (by omega))]) dX2_sendFrom_59 ?_
        refine qu_rast3 (j := (i - 1)) hL10 (vp_in_nI (n := (i - 1)) (by omega) (by decide)) (nI_clamp (by omega)) dX2_sendFrom_60 (fun G11 hL12 => ?_)
        refine cc_iinc (j := 0) (v := nI (i + 1)) (ls' := [(3, .int (nI (i + 1))), (2, .int (n1 r0)), (0, .ref a), (1, .int (nI r0))]) dX2_sendFrom_61 rfl (nI_1 i) (Nat.le_of_ble_eq_true rfl) rfl ?_
        refine cc_goto (tgt := 11) dX2_sendFrom_64 (by decide) ?_
        refine ih (i + 1) _ _ _ _ (by omega) (by omega) (by omega) hL12 (fun j hj => ?_) (fun j hj hj2 => ?_) (fun j hj hj2 => ?_)
        · have := h1 j hj
          refine ⟨?_, ?_, ?_⟩
          · rw [← this.1]; simp [upd]; omega
          · rw [← this.2.1]; simp [upd]; omega
          · rw [← this.2.2]; simp [upd]; omega
        · by_cases hq : j = i - 1
          · subst hq
            have := h3 i (by omega) (by omega)
            rw [show i - 1 + 1 = i by omega]
            refine ⟨?_, ?_, ?_⟩
            · rw [← this.1]; simp [upd]
            · rw [← this.2.1]; simp [upd]
            · rw [← this.2.2]; simp [upd]
          · have := h2 j hj (by omega)
            refine ⟨?_, ?_, ?_⟩
            · rw [← this.1]; simp [upd]; omega
            · rw [← this.2.1]; simp [upd]; omega
            · rw [← this.2.2]; simp [upd]; omega
        · have := h3 j (by omega) hj2
          refine ⟨?_, ?_, ?_⟩
          · rw [← this.1]; simp [upd]; omega
          · rw [← this.2.1]; simp [upd]; omega
          · rw [← this.2.2]; simp [upd]; omega
  refine cc_enter ok_X2_sendFrom (Nat.le_of_ble_eq_true rfl) (ls := [(0, .ref a), (1, .int (nI r0))]) rfl ?_
  refine cc_aload_n (j := 0) dX2_sendFrom_0 rfl rfl ?_
  refine cc_get (v := .ref (a + 1)) hL.2.1 cc_c2 0 (by decide) fl_X2_9 rfl dX2_sendFrom_1 ?_
  refine cc_iload_n (j := 1) dX2_sendFrom_4 rfl rfl ?_
  refine cc_iald (x := n1 r0) hL.2.2.1 (vp_in_nI (n := r0) (by omega) (by decide)) (by rw [(nI_clamp (by omega))]) dX2_sendFrom_5 ?_
  refine cc_istore_n (ls' := [(2, .int (n1 r0)), (0, .ref a), (1, .int (nI r0))]) dX2_sendFrom_6 rfl (Nat.le_of_ble_eq_true rfl) rfl ?_
  refine cc_iload_n (j := 2) dX2_sendFrom_7 rfl rfl ?_
  refine cc_iconst (v := 1) dX2_sendFrom_8 (by decide) ?_
  refine cc_iadd dX2_sendFrom_9 ?_
  rw [show (nI r0) + 1 = nI (r0 + 1) from nI_1 r0]
  refine cc_istore_n (ls' := [(3, .int (nI (r0 + 1))), (2, .int (n1 r0)), (0, .ref a), (1, .int (nI r0))]) dX2_sendFrom_10 rfl (Nat.le_of_ble_eq_true rfl) rfl ?_
  exact loop_11 (l.length + 1) (r0 + 1) n1 n2 n3 _ (by omega) (by omega) (by omega) hL (fun j _ => ⟨rfl, rfl, rfl⟩) (fun j hj hj2 => absurd hj2 (by omega)) (fun j _ _ => ⟨rfl, rfl, rfl⟩)

set_option maxHeartbeats 4000000 in
set_option maxRecDepth 100000 in
theorem ct_X2_countBlocked (cy : Nat → ClassId) (z : Nat) (G : cc_G) (a : Nat) (bl se hs : Int32) (l : List Pk_)  (hI : qu_I cy G G a hs (bl, se, l)) : cc_Cn cy Y_X2_countBlocked [.ref a] z G (cc_qv (fun G' => qu_I cy G G' a hs (if l ≠ [] ∧ hs = 0 then bl + 1 else bl, se, l))) := by
  obtain ⟨n1, n2, n3, hL, hA, h8⟩ := hI
  have hL : qu_R cy G G a n1 n2 n3 (nI l.length) bl se hs := hL
  have hA : qu_A n1 n2 n3 l := hA
  have h8 : l.length ≤ 8 := h8
  refine cc_enter ok_X2_countBlocked (Nat.le_of_ble_eq_true rfl) (ls := [(0, .ref a)]) rfl ?_
  refine cc_aload_n (j := 0) dX2_countBlocked_0 rfl rfl ?_
  refine cc_get (v := .int (nI l.length)) hL.2.1 cc_c2 3 (by decide) fl_X2_21 rfl dX2_countBlocked_1 ?_
  refine cc_if_le (tgt := 24) dX2_countBlocked_4 (by decide) (fun c_4 => ?_) (fun c_4 => ?_)
  · refine cc_vret rfl dX2_countBlocked_24 ?_
    refine ⟨rfl, ?_⟩
    rw [show (if l ≠ [] ∧ hs = 0 then bl + 1 else bl) = _ from if_neg (fun h => h.1 (List.length_eq_zero_iff.mp (by rcases Nat.eq_zero_or_pos l.length with e | e; exact e; exact absurd ((cc_p0 (by omega)).mpr e) (Int32.not_lt.mpr c_4))))]
    exact ⟨n1, n2, n3, hL, hA, h8⟩
  · refine cc_aload_n (j := 0) dX2_countBlocked_7 rfl rfl ?_
    refine cc_get (v := .int hs) hL.2.1 cc_c2 6 (by decide) fl_X2_31 rfl dX2_countBlocked_8 ?_
    refine cc_if_ne (tgt := 24) dX2_countBlocked_11 (by decide) (fun c_11 => ?_) (fun c_11 => ?_)
    · refine cc_vret rfl dX2_countBlocked_24 ?_
      refine ⟨rfl, ?_⟩
      rw [show (if l ≠ [] ∧ hs = 0 then bl + 1 else bl) = _ from if_neg (fun h => c_11 h.2)]
      exact ⟨n1, n2, n3, hL, hA, h8⟩
    · refine cc_aload_n (j := 0) dX2_countBlocked_14 rfl rfl ?_
      refine cc_dup dX2_countBlocked_15 rfl ?_
      refine cc_get (v := .int bl) hL.2.1 cc_c2 4 (by decide) fl_X2_25 rfl dX2_countBlocked_16 ?_
      refine cc_iconst (v := 1) dX2_countBlocked_19 (by decide) ?_
      refine cc_iadd dX2_countBlocked_20 ?_
      refine qu_rput (sz' := (nI l.length)) (bl' := (bl + 1)) (se' := se) (hs' := hs) hL cc_c2 4 (by decide) fl_X2_25 rfl rfl rfl rfl rfl dX2_countBlocked_21 (fun G1 hL2 => ?_)
      refine cc_vret rfl dX2_countBlocked_24 ?_
      refine ⟨rfl, ?_⟩
      rw [show (if l ≠ [] ∧ hs = 0 then bl + 1 else bl) = _ from if_pos ⟨fun h => by subst h; exact c_4 (by decide), c_11⟩]
      exact ⟨n1, n2, n3, hL2, hA, h8⟩

set_option maxHeartbeats 4000000 in
set_option maxRecDepth 100000 in
theorem ct_X2_waitingFor (cy : Nat → ClassId) (z : Nat) (G : cc_G) (a : Nat) (bl se hs : Int32) (l : List Pk_) (x1 : Int32) (hI : qu_I cy G G a hs (bl, se, l)) : cc_Cn cy Y_X2_waitingFor [.ref a, .int x1] z G (cc_qi (fun r G' => r = nI (Q_cn x1 l l.length) ∧ G' = G)) := by
  obtain ⟨n1, n2, n3, hL, hA, h8⟩ := hI
  have hL : qu_R cy G G a n1 n2 n3 (nI l.length) bl se hs := hL
  have hA : qu_A n1 n2 n3 l := hA
  have h8 : l.length ≤ 8 := h8
  have loop_4 : ∀ (n i : Nat), l.length < i + n → i ≤ l.length → cc_R cy Y_X2_waitingFor z 4 [(3, .int (nI i)), (2, .int (nI (Q_cn x1 l i))), (0, .ref a), (1, .int x1)] [] G (cc_qi (fun r G' => r = nI (Q_cn x1 l l.length) ∧ G' = G)) := by
    intro n
    induction n with
    | zero => intro i h1 h2; exact absurd h1 (by omega)
    | succ n ih =>
      intro i hn hi
      refine cc_iload_n (j := 0) dX2_waitingFor_4 rfl rfl ?_
      refine cc_aload_n (j := 2) dX2_waitingFor_5 rfl rfl ?_
      refine cc_get (v := .int (nI l.length)) hL.2.1 cc_c2 3 (by decide) fl_X2_21 rfl dX2_waitingFor_6 ?_
      refine cc_icmp_ge (tgt := 31) dX2_waitingFor_9 (by decide) (fun c_9 => ?_) (fun c_9 => ?_)
      · have hge : l.length ≤ i := (nI_leI (by omega) (by omega)).mp c_9
        refine cc_iload_n (j := 1) dX2_waitingFor_31 rfl rfl ?_
        refine cc_iret rfl rfl dX2_waitingFor_32 ?_
        exact ⟨_, rfl, by rw [show i = l.length by omega], rfl⟩
      · have hlt : i < l.length := by
          rcases Nat.lt_or_ge i l.length with q | q
          · exact q
          · exact absurd (nI_le q (by omega)) c_9
        refine cc_aload_n (j := 2) dX2_waitingFor_12 rfl rfl ?_
        refine cc_get (v := .ref (a + 2)) hL.2.1 cc_c2 1 (by decide) fl_X2_15 rfl dX2_waitingFor_13 ?_
        refine cc_iload_n (j := 0) dX2_waitingFor_16 rfl rfl ?_
        refine cc_iald (x := n2 i) hL.2.2.2.1 (vp_in_nI (n := i) (by omega) (by decide)) (by rw [(nI_clamp (by omega))]) dX2_waitingFor_17 ?_
        refine cc_iload_n (j := 3) dX2_waitingFor_18 rfl rfl ?_
        refine cc_icmp_ne (tgt := 25) dX2_waitingFor_19 (by decide) (fun c_19 => ?_) (fun c_19 => ?_)
        · rw [show nI (Q_cn x1 l i) = nI (Q_cn x1 l (i + 1)) by rw [Q_cn_no (by rw [← (qu_at hA hlt).2.1]; exact c_19)]]
          refine cc_iinc (j := 0) (v := nI (i + 1)) (ls' := [(3, .int (nI (i + 1))), (2, .int (nI (Q_cn x1 l (i + 1)))), (0, .ref a), (1, .int x1)]) dX2_waitingFor_25 rfl (nI_1 i) (Nat.le_of_ble_eq_true rfl) rfl ?_
          refine cc_goto (tgt := 4) dX2_waitingFor_28 (by decide) ?_
          exact ih (i + 1) (by omega) (by omega)
        · refine cc_iinc (j := 1) (v := nI (Q_cn x1 l (i + 1))) (ls' := [(2, .int (nI (Q_cn x1 l (i + 1)))), (3, .int (nI i)), (0, .ref a), (1, .int x1)]) dX2_waitingFor_22 rfl (by rw [Q_cn_yes (by rw [← (qu_at hA hlt).2.1]; simpa using c_19)]; exact nI_1 _) (Nat.le_of_ble_eq_true rfl) rfl ?_
          refine cc_iinc (j := 1) (v := nI (i + 1)) (ls' := [(3, .int (nI (i + 1))), (2, .int (nI (Q_cn x1 l (i + 1)))), (0, .ref a), (1, .int x1)]) dX2_waitingFor_25 rfl (nI_1 i) (Nat.le_of_ble_eq_true rfl) rfl ?_
          refine cc_goto (tgt := 4) dX2_waitingFor_28 (by decide) ?_
          exact ih (i + 1) (by omega) (by omega)
  refine cc_enter ok_X2_waitingFor (Nat.le_of_ble_eq_true rfl) (ls := [(0, .ref a), (1, .int x1)]) rfl ?_
  refine cc_iconst (v := 0) dX2_waitingFor_0 (by decide) ?_
  refine cc_istore_n (ls' := [(2, .int 0), (0, .ref a), (1, .int x1)]) dX2_waitingFor_1 rfl (Nat.le_of_ble_eq_true rfl) rfl ?_
  refine cc_iconst (v := 0) dX2_waitingFor_2 (by decide) ?_
  refine cc_istore_n (ls' := [(3, .int 0), (2, .int 0), (0, .ref a), (1, .int x1)]) dX2_waitingFor_3 rfl (Nat.le_of_ble_eq_true rfl) rfl ?_
  exact loop_4 (l.length + 1) 0 (by omega) (Nat.zero_le _)

set_option maxHeartbeats 4000000 in
set_option maxRecDepth 100000 in
theorem ct_X2_holds (cy : Nat → ClassId) (z : Nat) (G : cc_G) (a : Nat) (bl se hs : Int32) (l : List Pk_) (x1 : Int32) (hI : qu_I cy G G a hs (bl, se, l)) : cc_Cn cy Y_X2_holds [.ref a, .int x1] z G (cc_qi (fun r G' => r = (if x1 ∈ l.map (fun p => p.1) then 1 else 0) ∧ G' = G)) := by
  obtain ⟨n1, n2, n3, hL, hA, h8⟩ := hI
  have hL : qu_R cy G G a n1 n2 n3 (nI l.length) bl se hs := hL
  have hA : qu_A n1 n2 n3 l := hA
  have h8 : l.length ≤ 8 := h8
  have loop_2 : ∀ (n i : Nat), l.length < i + n → i ≤ l.length → (∀ j, j < i → (l.getD j (0, 0, 0)).1 ≠ x1) → cc_R cy Y_X2_holds z 2 [(2, .int (nI i)), (0, .ref a), (1, .int x1)] [] G (cc_qi (fun r G' => r = (if x1 ∈ l.map (fun p => p.1) then 1 else 0) ∧ G' = G)) := by
    intro n
    induction n with
    | zero => intro i h1 h2; exact absurd h1 (by omega)
    | succ n ih =>
      intro i hn hi h0
      refine cc_iload_n (j := 0) dX2_holds_2 rfl rfl ?_
      refine cc_aload_n (j := 1) dX2_holds_3 rfl rfl ?_
      refine cc_get (v := .int (nI l.length)) hL.2.1 cc_c2 3 (by decide) fl_X2_21 rfl dX2_holds_4 ?_
      refine cc_icmp_ge (tgt := 28) dX2_holds_7 (by decide) (fun c_7 => ?_) (fun c_7 => ?_)
      · have hge : l.length ≤ i := (nI_leI (by omega) (by omega)).mp c_7
        refine cc_iconst (v := 0) dX2_holds_28 (by decide) ?_
        refine cc_iret rfl rfl dX2_holds_29 ?_
        refine ⟨_, rfl, (if_neg (fun h => ?_)).symm, rfl⟩
        obtain ⟨p, hp, he⟩ := List.mem_map.mp h
        obtain ⟨k, hk, hp2⟩ := List.getElem_of_mem hp
        refine h0 k (by omega) ?_
        rw [List.getD_eq_getElem?_getD, List.getElem?_eq_getElem hk]
        show l[k].1 = x1
        rw [hp2]; exact he
      · have hlt : i < l.length := by
          rcases Nat.lt_or_ge i l.length with q | q
          · exact q
          · exact absurd (nI_le q (by omega)) c_7
        refine cc_aload_n (j := 1) dX2_holds_10 rfl rfl ?_
        refine cc_get (v := .ref (a + 1)) hL.2.1 cc_c2 0 (by decide) fl_X2_9 rfl dX2_holds_11 ?_
        refine cc_iload_n (j := 0) dX2_holds_14 rfl rfl ?_
        refine cc_iald (x := n1 i) hL.2.2.1 (vp_in_nI (n := i) (by omega) (by decide)) (by rw [(nI_clamp (by omega))]) dX2_holds_15 ?_
        refine cc_iload_n (j := 2) dX2_holds_16 rfl rfl ?_
        refine cc_icmp_ne (tgt := 22) dX2_holds_17 (by decide) (fun c_17 => ?_) (fun c_17 => ?_)
        · refine cc_iinc (j := 0) (v := nI (i + 1)) (ls' := [(2, .int (nI (i + 1))), (0, .ref a), (1, .int x1)]) dX2_holds_22 rfl (nI_1 i) (Nat.le_of_ble_eq_true rfl) rfl ?_
          refine cc_goto (tgt := 2) dX2_holds_25 (by decide) ?_
          exact ih (i + 1) (by omega) (by omega) (fun j hj => by
            by_cases hq : j = i
            · subst hq
              rw [← (qu_at hA hlt).1]
              exact c_17
            · exact h0 j (by omega))
        · refine cc_iconst (v := 1) dX2_holds_20 (by decide) ?_
          refine cc_iret rfl rfl dX2_holds_21 ?_
          have he : l.getD i (0, 0, 0) ∈ l := by rw [List.getD_eq_getElem?_getD, List.getElem?_eq_getElem hlt]; exact List.getElem_mem _
          exact ⟨_, rfl, (if_pos (List.mem_map.mpr ⟨_, he, by show (l.getD i (0, 0, 0)).1 = x1; rw [← (qu_at hA hlt).1]; simpa using c_17⟩)).symm, rfl⟩
  refine cc_enter ok_X2_holds (Nat.le_of_ble_eq_true rfl) (ls := [(0, .ref a), (1, .int x1)]) rfl ?_
  refine cc_iconst (v := 0) dX2_holds_0 (by decide) ?_
  refine cc_istore_n (ls' := [(2, .int 0), (0, .ref a), (1, .int x1)]) dX2_holds_1 rfl (Nat.le_of_ble_eq_true rfl) rfl ?_
  exact loop_2 (l.length + 1) 0 (by omega) (Nat.zero_le _) (fun j hj => absurd hj (by omega))

set_option maxHeartbeats 4000000 in
set_option maxRecDepth 100000 in
theorem ct_X2_figure (cy : Nat → ClassId) (z : Nat) (G : cc_G) (a : Nat) (n1 n2 n3 : Nat → Int32) (sz bl se hs : Int32) (x1 : Int32) (hL : qu_R cy G G a n1 n2 n3 sz bl se hs) : cc_Cn cy Y_X2_figure [.ref a, .int x1] z G (cc_qi (fun r G' => r = (if x1 = 0 then sz else if x1 = 1 then bl else if x1 = 2 then se else if x1 = 3 then (if 0 < sz then n2 0 else (-5)) else (-2)) ∧ G' = G)) := by
  
  refine cc_enter ok_X2_figure (Nat.le_of_ble_eq_true rfl) (ls := [(0, .ref a), (1, .int x1)]) rfl ?_
  refine cc_iload_n (j := 1) dX2_figure_0 rfl rfl ?_
  rcases cc_sw3 x1 with rfl | rfl | rfl | rfl | c_1
  · refine cc_tableIn (off := 31) (tgt := 32) dX2_figure_1 (by decide) (by decide) rfl (by decide) ?_
    refine cc_aload_n (j := 0) dX2_figure_32 rfl rfl ?_
    refine cc_get (v := .int sz) hL.2.1 cc_c2 3 (by decide) fl_X2_21 rfl dX2_figure_33 ?_
    refine cc_iret rfl rfl dX2_figure_36 ?_
    exact ⟨_, rfl, by simp, rfl⟩
  · refine cc_tableIn (off := 36) (tgt := 37) dX2_figure_1 (by decide) (by decide) rfl (by decide) ?_
    refine cc_aload_n (j := 0) dX2_figure_37 rfl rfl ?_
    refine cc_get (v := .int bl) hL.2.1 cc_c2 4 (by decide) fl_X2_25 rfl dX2_figure_38 ?_
    refine cc_iret rfl rfl dX2_figure_41 ?_
    exact ⟨_, rfl, by simp, rfl⟩
  · refine cc_tableIn (off := 41) (tgt := 42) dX2_figure_1 (by decide) (by decide) rfl (by decide) ?_
    refine cc_aload_n (j := 0) dX2_figure_42 rfl rfl ?_
    refine cc_get (v := .int se) hL.2.1 cc_c2 5 (by decide) fl_X2_28 rfl dX2_figure_43 ?_
    refine cc_iret rfl rfl dX2_figure_46 ?_
    exact ⟨_, rfl, by simp, rfl⟩
  · refine cc_tableIn (off := 46) (tgt := 47) dX2_figure_1 (by decide) (by decide) rfl (by decide) ?_
    refine cc_aload_n (j := 0) dX2_figure_47 rfl rfl ?_
    refine cc_get (v := .int sz) hL.2.1 cc_c2 3 (by decide) fl_X2_21 rfl dX2_figure_48 ?_
    refine cc_if_le (tgt := 63) dX2_figure_51 (by decide) (fun c_51 => ?_) (fun c_51 => ?_)
    · refine cc_bipush (v := (-5)) dX2_figure_63 (by decide) ?_
      refine cc_iret rfl rfl dX2_figure_65 ?_
      exact ⟨_, rfl, by simpa using fun h => absurd h (Int32.not_lt.mpr c_51), rfl⟩
    · refine cc_aload_n (j := 0) dX2_figure_54 rfl rfl ?_
      refine cc_get (v := .ref (a + 2)) hL.2.1 cc_c2 1 (by decide) fl_X2_15 rfl dX2_figure_55 ?_
      refine cc_iconst (v := 0) dX2_figure_58 (by decide) ?_
      refine cc_iald (x := n2 0) hL.2.2.2.1 (vp_in_nI (n := 0) (by decide) (by decide)) (by rw [show (0 : Int32).toNatClampNeg = 0 from rfl]) dX2_figure_59 ?_
      refine cc_goto (tgt := 65) dX2_figure_60 (by decide) ?_
      refine cc_iret rfl rfl dX2_figure_65 ?_
      exact ⟨_, rfl, by simpa using fun h => absurd h c_51, rfl⟩
  · refine cc_tableOut (tgt := 66) dX2_figure_1 c_1 (by decide) ?_
    refine cc_bipush (v := (-2)) dX2_figure_66 (by decide) ?_
    refine cc_iret rfl rfl dX2_figure_68 ?_
    exact ⟨_, rfl, by rw [if_neg (fun q => by subst q; exact absurd c_1 (by decide)), if_neg (fun q => by subst q; exact absurd c_1 (by decide)), if_neg (fun q => by subst q; exact absurd c_1 (by decide)), if_neg (fun q => by subst q; exact absurd c_1 (by decide))], rfl⟩

set_option maxHeartbeats 4000000 in
set_option maxRecDepth 100000 in
theorem ct_X2_packetFigure (cy : Nat → ClassId) (z : Nat) (G : cc_G) (a : Nat) (n1 n2 n3 : Nat → Int32) (sz bl se hs : Int32) (x1 x2 : Int32) (h0 : ¬ x1 < 0) (hsz : sz ≤ 8) (hL : qu_R cy G G a n1 n2 n3 sz bl se hs) : cc_Cn cy Y_X2_packetFigure [.ref a, .int x1, .int x2] z G (cc_qi (fun r G' => r = (if sz ≤ x1 then (-5) else if x2 = 0 then n1 x1.toNatClampNeg else if x2 = 1 then n2 x1.toNatClampNeg else n3 x1.toNatClampNeg) ∧ G' = G)) := by
  
  refine cc_enter ok_X2_packetFigure (Nat.le_of_ble_eq_true rfl) (ls := [(0, .ref a), (1, .int x1), (2, .int x2)]) rfl ?_
  refine cc_iload_n (j := 1) dX2_packetFigure_0 rfl rfl ?_
  refine cc_aload_n (j := 0) dX2_packetFigure_1 rfl rfl ?_
  refine cc_get (v := .int sz) hL.2.1 cc_c2 3 (by decide) fl_X2_21 rfl dX2_packetFigure_2 ?_
  refine cc_icmp_lt (tgt := 11) dX2_packetFigure_5 (by decide) (fun c_5 => ?_) (fun c_5 => ?_)
  · refine cc_iload_n (j := 2) dX2_packetFigure_11 rfl rfl ?_
    rcases cc_sw1 x2 with rfl | rfl | c_12
    · refine cc_lookup (off := 28) (tgt := 40) dX2_packetFigure_12 (by decide) (by decide) (by decide) ?_
      refine cc_aload_n (j := 0) dX2_packetFigure_40 rfl rfl ?_
      refine cc_get (v := .ref (a + 1)) hL.2.1 cc_c2 0 (by decide) fl_X2_9 rfl dX2_packetFigure_41 ?_
      refine cc_iload_n (j := 1) dX2_packetFigure_44 rfl rfl ?_
      refine cc_iald (x := n1 x1.toNatClampNeg) hL.2.2.1 (cc_inl h0 c_5 hsz) (by rw [show (x1 : Int32).toNatClampNeg = x1.toNatClampNeg from rfl]) dX2_packetFigure_45 ?_
      refine cc_iret rfl rfl dX2_packetFigure_46 ?_
      exact ⟨_, rfl, by rw [if_neg (Int32.not_le.mpr c_5)]; simp, rfl⟩
    · refine cc_lookup (off := 35) (tgt := 47) dX2_packetFigure_12 (by decide) (by decide) (by decide) ?_
      refine cc_aload_n (j := 0) dX2_packetFigure_47 rfl rfl ?_
      refine cc_get (v := .ref (a + 2)) hL.2.1 cc_c2 1 (by decide) fl_X2_15 rfl dX2_packetFigure_48 ?_
      refine cc_iload_n (j := 1) dX2_packetFigure_51 rfl rfl ?_
      refine cc_iald (x := n2 x1.toNatClampNeg) hL.2.2.2.1 (cc_inl h0 c_5 hsz) (by rw [show (x1 : Int32).toNatClampNeg = x1.toNatClampNeg from rfl]) dX2_packetFigure_52 ?_
      refine cc_iret rfl rfl dX2_packetFigure_53 ?_
      exact ⟨_, rfl, by rw [if_neg (Int32.not_le.mpr c_5)]; simp, rfl⟩
    · refine cc_lookup (off := 42) (tgt := 54) dX2_packetFigure_12 (by decide) (cc_lk1 c_12) (by decide) ?_
      refine cc_aload_n (j := 0) dX2_packetFigure_54 rfl rfl ?_
      refine cc_get (v := .ref (a + 3)) hL.2.1 cc_c2 2 (by decide) fl_X2_18 rfl dX2_packetFigure_55 ?_
      refine cc_iload_n (j := 1) dX2_packetFigure_58 rfl rfl ?_
      refine cc_iald (x := n3 x1.toNatClampNeg) hL.2.2.2.2 (cc_inl h0 c_5 hsz) (by rw [show (x1 : Int32).toNatClampNeg = x1.toNatClampNeg from rfl]) dX2_packetFigure_59 ?_
      refine cc_iret rfl rfl dX2_packetFigure_60 ?_
      exact ⟨_, rfl, by rw [if_neg (Int32.not_le.mpr c_5), if_neg (fun q => by subst q; exact absurd c_12 (by decide)), if_neg (fun q => by subst q; exact absurd c_12 (by decide))], rfl⟩
  · refine cc_bipush (v := (-5)) dX2_packetFigure_8 (by decide) ?_
    refine cc_iret rfl rfl dX2_packetFigure_10 ?_
    exact ⟨_, rfl, (if_pos (Int32.not_lt.mp c_5)).symm, rfl⟩

set_option maxHeartbeats 4000000 in
set_option maxRecDepth 100000 in
theorem ct_X2_copyFrom (cy : Nat → ClassId) (z : Nat) (G : cc_G) (a : Nat) (bl se hs : Int32) (l : List Pk_) (o : Nat) (hs2 : Int32) (q2 : Qu_) (hao : a + 4 ≤ o ∨ o + 4 ≤ a) (hI2 : qu_I cy G G o hs2 q2) (hI : qu_I cy G G a hs (bl, se, l)) : cc_Cn cy Y_X2_copyFrom [.ref a, .ref o] z G (cc_qv (fun G' => qu_I cy G G' a hs q2)) := by
  obtain ⟨n1, n2, n3, hL, hA, h8⟩ := hI
  have hL : qu_R cy G G a n1 n2 n3 (nI l.length) bl se hs := hL
  have hA : qu_A n1 n2 n3 l := hA
  have h8 : l.length ≤ 8 := h8
  obtain ⟨bl2, se2, l2⟩ := q2
  obtain ⟨m1, m2, m3, hO, hA2, h82⟩ := hI2
  have hO : qu_R cy G G o m1 m2 m3 (nI l2.length) bl2 se2 hs2 := hO
  have hA2 : qu_A m1 m2 m3 l2 := hA2
  have h82 : l2.length ≤ 8 := h82
  refine cc_enter ok_X2_copyFrom (Nat.le_of_ble_eq_true rfl) (ls := [(0, .ref a), (1, .ref o)]) rfl ?_
  refine cc_aload_n (j := 0) dX2_copyFrom_0 rfl rfl ?_
  refine cc_aload_n (j := 1) dX2_copyFrom_1 rfl rfl ?_
  refine cc_get (v := .int (nI l2.length)) (((hL).1 o (by omega)).trans hO.2.1) cc_c2 3 (by decide) fl_X2_21 rfl dX2_copyFrom_2 ?_
  refine qu_rput (sz' := (nI l2.length)) (bl' := bl) (se' := se) (hs' := hs) hL cc_c2 3 (by decide) fl_X2_21 rfl rfl rfl rfl rfl dX2_copyFrom_5 (fun G1 hL2 => ?_)
  refine cc_aload_n (j := 0) dX2_copyFrom_8 rfl rfl ?_
  refine cc_aload_n (j := 1) dX2_copyFrom_9 rfl rfl ?_
  refine cc_get (v := .int bl2) (((hL2).1 o (by omega)).trans hO.2.1) cc_c2 4 (by decide) fl_X2_25 rfl dX2_copyFrom_10 ?_
  refine qu_rput (sz' := (nI l2.length)) (bl' := bl2) (se' := se) (hs' := hs) hL2 cc_c2 4 (by decide) fl_X2_25 rfl rfl rfl rfl rfl dX2_copyFrom_13 (fun G3 hL4 => ?_)
  refine cc_aload_n (j := 0) dX2_copyFrom_16 rfl rfl ?_
  refine cc_aload_n (j := 1) dX2_copyFrom_17 rfl rfl ?_
  refine cc_get (v := .int se2) (((hL4).1 o (by omega)).trans hO.2.1) cc_c2 5 (by decide) fl_X2_28 rfl dX2_copyFrom_18 ?_
  refine qu_rput (sz' := (nI l2.length)) (bl' := bl2) (se' := se2) (hs' := hs) hL4 cc_c2 5 (by decide) fl_X2_28 rfl rfl rfl rfl rfl dX2_copyFrom_21 (fun G5 hL6 => ?_)
  refine cc_aload_n (j := 1) dX2_copyFrom_24 rfl rfl ?_
  refine cc_get (v := .ref (o + 1)) (((hL6).1 o (by omega)).trans hO.2.1) cc_c2 0 (by decide) fl_X2_9 rfl dX2_copyFrom_25 ?_
  refine cc_iconst (v := 0) dX2_copyFrom_28 (by decide) ?_
  refine cc_aload_n (j := 0) dX2_copyFrom_29 rfl rfl ?_
  refine cc_get (v := .ref (a + 1)) hL6.2.1 cc_c2 0 (by decide) fl_X2_9 rfl dX2_copyFrom_30 ?_
  refine cc_iconst (v := 0) dX2_copyFrom_33 (by decide) ?_
  refine cc_bipush (v := 8) dX2_copyFrom_34 (by decide) ?_
  refine cc_copy (k0 := 8) ml_X2_35 (((hL6).1 _ (by omega)).trans hO.2.2.1) hL6.2.2.1 (by omega) rfl (by decide) (by decide) (by decide) (by decide +kernel) dX2_copyFrom_36 ?_
  have hL8 := qu_up1 hL6 (va_cpy m1 n1 0 0 8)
  generalize va_up _ _ _ = G7 at hL8 ⊢
  refine cc_aload_n (j := 1) dX2_copyFrom_39 rfl rfl ?_
  refine cc_get (v := .ref (o + 2)) (((hL8).1 o (by omega)).trans hO.2.1) cc_c2 1 (by decide) fl_X2_15 rfl dX2_copyFrom_40 ?_
  refine cc_iconst (v := 0) dX2_copyFrom_43 (by decide) ?_
  refine cc_aload_n (j := 0) dX2_copyFrom_44 rfl rfl ?_
  refine cc_get (v := .ref (a + 2)) hL8.2.1 cc_c2 1 (by decide) fl_X2_15 rfl dX2_copyFrom_45 ?_
  refine cc_iconst (v := 0) dX2_copyFrom_48 (by decide) ?_
  refine cc_bipush (v := 8) dX2_copyFrom_49 (by decide) ?_
  refine cc_copy (k0 := 8) ml_X2_35 (((hL8).1 _ (by omega)).trans hO.2.2.2.1) hL8.2.2.2.1 (by omega) rfl (by decide) (by decide) (by decide) (by decide +kernel) dX2_copyFrom_51 ?_
  have hL10 := qu_up2 hL8 (va_cpy m2 n2 0 0 8)
  generalize va_up _ _ _ = G9 at hL10 ⊢
  refine cc_aload_n (j := 1) dX2_copyFrom_54 rfl rfl ?_
  refine cc_get (v := .ref (o + 3)) (((hL10).1 o (by omega)).trans hO.2.1) cc_c2 2 (by decide) fl_X2_18 rfl dX2_copyFrom_55 ?_
  refine cc_iconst (v := 0) dX2_copyFrom_58 (by decide) ?_
  refine cc_aload_n (j := 0) dX2_copyFrom_59 rfl rfl ?_
  refine cc_get (v := .ref (a + 3)) hL10.2.1 cc_c2 2 (by decide) fl_X2_18 rfl dX2_copyFrom_60 ?_
  refine cc_iconst (v := 0) dX2_copyFrom_63 (by decide) ?_
  refine cc_bipush (v := 8) dX2_copyFrom_64 (by decide) ?_
  refine cc_copy (k0 := 8) ml_X2_35 (((hL10).1 _ (by omega)).trans hO.2.2.2.2) hL10.2.2.2.2 (by omega) rfl (by decide) (by decide) (by decide) (by decide +kernel) dX2_copyFrom_66 ?_
  have hL12 := qu_up3 hL10 (va_cpy m3 n3 0 0 8)
  generalize va_up _ _ _ = G11 at hL12 ⊢
  refine cc_vret rfl dX2_copyFrom_69 ?_
  exact ⟨rfl, _, _, _, hL12, ⟨hA2.1.eq (fun k hk => (pk_cpy_in (by omega) (by simp at hk; omega)).trans (by rw [show 0 + (k - 0) = k by omega])), hA2.2.1.eq (fun k hk => (pk_cpy_in (by omega) (by simp at hk; omega)).trans (by rw [show 0 + (k - 0) = k by omega])), hA2.2.2.eq (fun k hk => (pk_cpy_in (by omega) (by simp at hk; omega)).trans (by rw [show 0 + (k - 0) = k by omega]))⟩, h82⟩
