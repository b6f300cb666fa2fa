set_option maxHeartbeats 4000000 in
set_option maxRecDepth 100000 in
theorem ct_X4_type (cy : Nat → ClassId) (z : Nat) (G : cc_G) (o : Nat) (c : CS_) (x1 : Int32) (hx1 : vp_nar .char x1 = x1) (hI : ma_I cy G G o c) : cc_Cn cy Y_X4_type [.ref o, .int x1] z G (cc_qi (fun r9 G' => r9 = (C_type x1 c).1 ∧ ma_I cy G G' o (C_type x1 c).2)) := by
  obtain ⟨S, sn, hi, t⟩ := c
  obtain ⟨r, pa, qa, be, nn, ia, tx, le, ay, hs, so, H, hw, hS, hnn, hP, hl, hle, hT, h60⟩ := hI
  have H : mo_R cy G G o r pa qa be nn ia tx le ay hs so := H
  have hw : rw_I r S := hw
  have hS : ma_S ia qa sn := hS
  have hnn : nn = nI hi.length := hnn
  have hP : ma_P pa hi := hP
  have hl : hi.length ≤ 4 := hl
  have hle : le = nI t.length := hle
  have hT : ar_ tx t := hT
  have h60 : t.length ≤ 60 := h60
  subst hnn
  subst hle
  refine cc_enter ok_X4_type (Nat.le_of_ble_eq_true rfl) (ls := [(0, .ref o), (1, .int x1)]) rfl ?_
  refine cc_aload_n (j := 0) dX4_type_0 rfl rfl ?_
  refine cc_get (v := .int (nI t.length)) H.2.1 cc_c4 7 (by decide) fl_X4_79 rfl dX4_type_1 ?_
  refine cc_bipush (v := 60) dX4_type_4 (by decide) ?_
  refine cc_icmp_ne (tgt := 12) dX4_type_6 (by decide) (fun c_6 => ?_) (fun c_6 => ?_)
  · have hlt : t.length < 60 := by
      rcases Nat.lt_or_ge t.length 60 with q | q
      · exact q
      · exact absurd (by rw [show t.length = 60 by omega]; rfl) c_6
    refine cc_aload_n (j := 0) dX4_type_12 rfl rfl ?_
    refine cc_get (v := .ref (o + 5)) H.2.1 cc_c4 6 (by decide) fl_X4_22 rfl dX4_type_13 ?_
    refine cc_aload_n (j := 0) dX4_type_16 rfl rfl ?_
    refine cc_get (v := .int (nI t.length)) H.2.1 cc_c4 7 (by decide) fl_X4_79 rfl dX4_type_17 ?_
    refine cc_iload_n (j := 1) dX4_type_20 rfl rfl ?_
    refine mo_rast_tx (j := t.length) H (vp_in_nI (n := t.length) (by omega) (by decide)) (nI_clamp (by omega)) hx1 dX4_type_21 (fun G1 H2 => ?_)
    refine cc_aload_n (j := 0) dX4_type_22 rfl rfl ?_
    refine cc_dup dX4_type_23 rfl ?_
    refine cc_get (v := .int (nI t.length)) H2.2.1 cc_c4 7 (by decide) fl_X4_79 rfl dX4_type_24 ?_
    refine cc_iconst (v := 1) dX4_type_27 (by decide) ?_
    refine cc_iadd dX4_type_28 ?_
    rw [show (nI t.length) + 1 = nI (t.length + 1) from nI_1 _]
    refine mo_rput (nn' := (nI hi.length)) (ia' := ia) (le' := (nI (t.length + 1))) (ay' := ay) H2 cc_c4 7 (by decide) fl_X4_79 rfl rfl rfl rfl rfl dX4_type_29 (fun G3 H4 => ?_)
    refine cc_aload_n (j := 0) dX4_type_32 rfl rfl ?_
    refine cc_get (v := .int (nI (t.length + 1))) H4.2.1 cc_c4 7 (by decide) fl_X4_79 rfl dX4_type_33 ?_
    refine cc_iret rfl rfl dX4_type_36 ?_
    have e : C_type x1 (S, sn, hi, t) = (nI (t.length + 1), (S, sn, hi, t ++ [x1])) := if_pos hlt
    have elen : nI (t.length + 1) = nI (t ++ [x1]).length := by rw [List.length_append, List.length_singleton]
    rw [e]
    exact ⟨_, rfl, rfl, ⟨_, _, _, _, _, _, _, _, _, _, _, H4, hw, hS, rfl, hP, hl, elen, (hT.push x1), (by show (t ++ [x1]).length ≤ 60; rw [List.length_append, List.length_singleton]; omega)⟩⟩
  · have h66 : t.length = 60 := by
      rcases Nat.lt_or_ge t.length 60 with q | q
      · exact absurd (show (60 : Int32) < 60 from by
          have q2 := nI_lt (b := 60) q (by decide)
          rw [c_6] at q2
          exact q2) (by decide)
      · omega
    refine cc_bipush (v := (-3)) dX4_type_9 (by decide) ?_
    refine cc_iret rfl rfl dX4_type_11 ?_
    have e : C_type x1 (S, sn, hi, t) = (-3, (S, sn, hi, t)) := if_neg (show ¬ t.length < 60 by omega)
    rw [e]
    exact ⟨_, rfl, rfl, ⟨_, _, _, _, _, _, _, _, _, _, _, H, hw, hS, rfl, hP, hl, rfl, hT, h60⟩⟩

set_option maxHeartbeats 4000000 in
set_option maxRecDepth 100000 in
theorem ct_X4_clearText (cy : Nat → ClassId) (z : Nat) (G : cc_G) (o : Nat) (c : CS_)   (hI : ma_I cy G G o c) : cc_Cn cy Y_X4_clearText [.ref o] z G (cc_qi (fun r9 G' => r9 = (C_clearText c).1 ∧ ma_I cy G G' o (C_clearText c).2)) := by
  obtain ⟨S, sn, hi, t⟩ := c
  obtain ⟨r, pa, qa, be, nn, ia, tx, le, ay, hs, so, H, hw, hS, hnn, hP, hl, hle, hT, h60⟩ := hI
  have H : mo_R cy G G o r pa qa be nn ia tx le ay hs so := H
  have hw : rw_I r S := hw
  have hS : ma_S ia qa sn := hS
  have hnn : nn = nI hi.length := hnn
  have hP : ma_P pa hi := hP
  have hl : hi.length ≤ 4 := hl
  have hle : le = nI t.length := hle
  have hT : ar_ tx t := hT
  have h60 : t.length ≤ 60 := h60
  subst hnn
  subst hle
  refine cc_enter ok_X4_clearText (Nat.le_of_ble_eq_true rfl) (ls := [(0, .ref o)]) rfl ?_
  refine cc_aload_n (j := 0) dX4_clearText_0 rfl rfl ?_
  refine cc_get (v := .int (nI t.length)) H.2.1 cc_c4 7 (by decide) fl_X4_79 rfl dX4_clearText_1 ?_
  refine cc_istore_n (ls' := [(1, .int (nI t.length)), (0, .ref o)]) dX4_clearText_4 rfl (Nat.le_of_ble_eq_true rfl) rfl ?_
  refine cc_aload_n (j := 1) dX4_clearText_5 rfl rfl ?_
  refine cc_iconst (v := 0) dX4_clearText_6 (by decide) ?_
  refine mo_rput (nn' := (nI hi.length)) (ia' := ia) (le' := 0) (ay' := ay) H cc_c4 7 (by decide) fl_X4_79 rfl rfl rfl rfl rfl dX4_clearText_7 (fun G1 H2 => ?_)
  refine cc_iload_n (j := 0) dX4_clearText_10 rfl rfl ?_
  refine cc_iret rfl rfl dX4_clearText_11 ?_
  exact ⟨_, rfl, rfl, ⟨_, _, _, _, _, _, _, _, _, _, _, H2, hw, hS, rfl, hP, hl, rfl, ar_.nil, (Nat.zero_le _)⟩⟩

set_option maxHeartbeats 4000000 in
set_option maxRecDepth 100000 in
theorem ct_X4_undo (cy : Nat → ClassId) (z : Nat) (G : cc_G) (o : Nat) (c : CS_)   (hI : ma_I cy G G o c) : cc_Cn cy Y_X4_undo [.ref o] z G (cc_qi (fun r9 G' => r9 = (C_undo c).1 ∧ ma_I cy G G' o (C_undo c).2)) := by
  obtain ⟨S, sn, hi, t⟩ := c
  obtain ⟨r, pa, qa, be, nn, ia, tx, le, ay, hs, so, H, hw, hS, hnn, hP, hl, hle, hT, h60⟩ := hI
  have H : mo_R cy G G o r pa qa be nn ia tx le ay hs so := H
  have hw : rw_I r S := hw
  have hS : ma_S ia qa sn := hS
  have hnn : nn = nI hi.length := hnn
  have hP : ma_P pa hi := hP
  have hl : hi.length ≤ 4 := hl
  have hle : le = nI t.length := hle
  have hT : ar_ tx t := hT
  have h60 : t.length ≤ 60 := h60
  subst hnn
  subst hle
  have loop_22 : 1 ≤ hi.length → ∀ (f k : Nat) (r1 : Nat → Int32) (G1 : cc_G), 232 < k + f → k ≤ 232 → mo_R cy G G1 o r1 pa qa be (nI (hi.length - 1)) ia tx (nI t.length) ay hs so → (∀ q, q < k → r1 q = pa (232 * (hi.length - 1) + q)) → cc_R cy Y_X4_undo z 22 [(1, .int (nI k)), (0, .ref o)] [] G1 (cc_qi (fun r9 G' => r9 = (C_undo (S, sn, hi, t)).1 ∧ ma_I cy G G' o (C_undo (S, sn, hi, t)).2)) := by
    intro hn1 f
    induction f with
    | zero => intro k r1 G1 h1 h2; exact absurd h1 (by omega)
    | succ f ih =>
      intro k r1 G1 hf hk H hc
      refine cc_iload_n (j := 0) dX4_undo_22 rfl rfl ?_
      refine cc_sipush (v := 232) dX4_undo_23 (by decide) ?_
      refine cc_icmp_ge (tgt := 56) dX4_undo_26 (by decide) (fun c_26 => ?_) (fun c_26 => ?_)
      · have hge : k = 232 := by have := cc_ngt 232 c_26 (by omega) (by decide); omega
        subst hge
        refine cc_aload_n (j := 1) dX4_undo_56 rfl rfl ?_
        refine cc_get (v := .int (nI (hi.length - 1))) H.2.1 cc_c4 4 (by decide) fl_X4_41 rfl dX4_undo_57 ?_
        refine cc_iret rfl rfl dX4_undo_60 ?_
        have e : C_undo (S, sn, hi, t) = (nI (hi.length - 1), (hi.getD (hi.length - 1) S, sn, hi.take (hi.length - 1), t)) := if_neg (show ¬ hi.length = 0 by omega)
        have el : (hi.take (hi.length - 1)).length = hi.length - 1 := by rw [List.length_take]; omega
        have hw2 : rw_I r1 (hi.getD (hi.length - 1) S) := by
          rw [List.getD_eq_getElem?_getD, List.getElem?_eq_getElem (by omega)]
          exact (hP (hi.length - 1) (by omega)).eq hc
        rw [e]
        refine ⟨_, rfl, rfl, _, _, _, _, _, _, _, _, _, _, _, H, hw2, hS, ?_, hP.take _, ?_, rfl, hT, h60⟩
        · show nI (hi.length - 1) = nI (hi.take (hi.length - 1)).length
          rw [el]
        · show (hi.take (hi.length - 1)).length ≤ 4
          omega
      · have hlt : k < 232 := cc_nlt 232 c_26 (by omega)
        refine cc_aload_n (j := 1) dX4_undo_29 rfl rfl ?_
        refine cc_get (v := .ref (o + 1)) H.2.1 cc_c4 0 (by decide) fl_X4_7 rfl dX4_undo_30 ?_
        refine cc_iload_n (j := 0) dX4_undo_33 rfl rfl ?_
        refine cc_aload_n (j := 1) dX4_undo_34 rfl rfl ?_
        refine cc_get (v := .ref (o + 2)) H.2.1 cc_c4 1 (by decide) fl_X4_13 rfl dX4_undo_35 ?_
        refine cc_sipush (v := 232) dX4_undo_38 (by decide) ?_
        refine cc_aload_n (j := 1) dX4_undo_41 rfl rfl ?_
        refine cc_get (v := .int (nI (hi.length - 1))) H.2.1 cc_c4 4 (by decide) fl_X4_41 rfl dX4_undo_42 ?_
        refine cc_imul dX4_undo_45 ?_
        rw [show 232 * (nI (hi.length - 1)) = nI (232 * (hi.length - 1)) from pk_mul 232 (hi.length - 1)]
        refine cc_iload_n (j := 0) dX4_undo_46 rfl rfl ?_
        refine cc_iadd dX4_undo_47 ?_
        rw [show (nI (232 * (hi.length - 1))) + (nI k) = nI ((232 * (hi.length - 1)) + k) from nI_add (232 * (hi.length - 1)) k]
        refine cc_iald (x := pa ((232 * (hi.length - 1)) + k)) H.2.2.2.1 (vp_in_nI (n := ((232 * (hi.length - 1)) + k)) (by omega) (by decide)) (by rw [(nI_clamp (by omega))]) dX4_undo_48 ?_
        refine mo_rast_r (j := k) H (vp_in_nI (n := k) (by omega) (by decide)) (nI_clamp (by omega)) dX4_undo_49 (fun G1 H2 => ?_)
        refine cc_iinc (j := 0) (v := nI (k + 1)) (ls' := [(1, .int (nI (k + 1))), (0, .ref o)]) dX4_undo_50 rfl (nI_1 k) (Nat.le_of_ble_eq_true rfl) rfl ?_
        refine cc_goto (tgt := 22) dX4_undo_53 (by decide) ?_
        refine ih (k + 1) _ _ (by omega) (by omega) H2 (fun q hq => ?_)
        by_cases e : q = k
        · subst e
          exact pk_us
        · exact (pk_un e).trans (hc q (by omega))
  refine cc_enter ok_X4_undo (Nat.le_of_ble_eq_true rfl) (ls := [(0, .ref o)]) rfl ?_
  refine cc_aload_n (j := 0) dX4_undo_0 rfl rfl ?_
  refine cc_get (v := .int (nI hi.length)) H.2.1 cc_c4 4 (by decide) fl_X4_41 rfl dX4_undo_1 ?_
  refine cc_if_ne (tgt := 10) dX4_undo_4 (by decide) (fun c_4 => ?_) (fun c_4 => ?_)
  · have hne : ¬ hi.length = 0 := fun q => c_4 (by rw [q]; rfl)
    refine cc_aload_n (j := 0) dX4_undo_10 rfl rfl ?_
    refine cc_dup dX4_undo_11 rfl ?_
    refine cc_get (v := .int (nI hi.length)) H.2.1 cc_c4 4 (by decide) fl_X4_41 rfl dX4_undo_12 ?_
    refine cc_iconst (v := 1) dX4_undo_15 (by decide) ?_
    refine cc_isub dX4_undo_16 ?_
    rw [show (nI hi.length) - 1 = nI (hi.length - 1) from cc_m1 (by omega)]
    refine mo_rput (nn' := (nI (hi.length - 1))) (ia' := ia) (le' := (nI t.length)) (ay' := ay) H cc_c4 4 (by decide) fl_X4_41 rfl rfl rfl rfl rfl dX4_undo_17 (fun G3 H4 => ?_)
    refine cc_iconst (v := 0) dX4_undo_20 (by decide) ?_
    refine cc_istore_n (ls' := [(1, .int 0), (0, .ref o)]) dX4_undo_21 rfl (Nat.le_of_ble_eq_true rfl) rfl ?_
    exact loop_22 (by omega) 233 0 _ _ (by omega) (by omega) H4 (fun q hq => absurd hq (by omega))
  · have hze : hi.length = 0 := (cc_e0 (by omega)).mp c_4
    refine cc_bipush (v := (-5)) dX4_undo_7 (by decide) ?_
    refine cc_iret rfl rfl dX4_undo_9 ?_
    have e : C_undo (S, sn, hi, t) = (-5, (S, sn, hi, t)) := if_pos hze
    rw [e]
    exact ⟨_, rfl, rfl, ⟨_, _, _, _, _, _, _, _, _, _, _, H, hw, hS, rfl, hP, hl, rfl, hT, h60⟩⟩

set_option maxHeartbeats 4000000 in
set_option maxRecDepth 100000 in
theorem ct_X4_keep (cy : Nat → ClassId) (z : Nat) (G : cc_G) (o : Nat) (c : CS_)   (hI : ma_I cy G G o c) : cc_Cn cy Y_X4_keep [.ref o] z G (cc_qi (fun r9 G' => r9 = (C_keep c).1 ∧ ma_I cy G G' o (C_keep c).2)) := by
  obtain ⟨S, sn, hi, t⟩ := c
  obtain ⟨r, pa, qa, be, nn, ia, tx, le, ay, hs, so, H, hw, hS, hnn, hP, hl, hle, hT, h60⟩ := hI
  have H : mo_R cy G G o r pa qa be nn ia tx le ay hs so := H
  have hw : rw_I r S := hw
  have hS : ma_S ia qa sn := hS
  have hnn : nn = nI hi.length := hnn
  have hP : ma_P pa hi := hP
  have hl : hi.length ≤ 4 := hl
  have hle : le = nI t.length := hle
  have hT : ar_ tx t := hT
  have h60 : t.length ≤ 60 := h60
  subst hnn
  subst hle
  have loop_2 : ∀ (f k : Nat) (q1 : Nat → Int32) (G1 : cc_G), 232 < k + f → k ≤ 232 → mo_R cy G G1 o r pa q1 be (nI hi.length) ia tx (nI t.length) ay hs so → (∀ q, q < k → q1 q = r q) → cc_R cy Y_X4_keep z 2 [(1, .int (nI k)), (0, .ref o)] [] G1 (cc_qi (fun r9 G' => r9 = (C_keep (S, sn, hi, t)).1 ∧ ma_I cy G G' o (C_keep (S, sn, hi, t)).2)) := by
    intro f
    induction f with
    | zero => intro k q1 G1 h1 h2; exact absurd h1 (by omega)
    | succ f ih =>
      intro k q1 G1 hf hk H hc
      refine cc_iload_n (j := 0) dX4_keep_2 rfl rfl ?_
      refine cc_sipush (v := 232) dX4_keep_3 (by decide) ?_
      refine cc_icmp_ge (tgt := 27) dX4_keep_6 (by decide) (fun c_6 => ?_) (fun c_6 => ?_)
      · have hge : k = 232 := by have := cc_ngt 232 c_6 (by omega) (by decide); omega
        subst hge
        refine cc_aload_n (j := 1) dX4_keep_27 rfl rfl ?_
        refine cc_iconst (v := 1) dX4_keep_28 (by decide) ?_
        refine mo_rput (nn' := (nI hi.length)) (ia' := 1) (le' := (nI t.length)) (ay' := ay) H cc_c4 5 (by decide) fl_X4_51 rfl rfl rfl rfl rfl dX4_keep_29 (fun G1 H2 => ?_)
        refine cc_aload_n (j := 1) dX4_keep_32 rfl rfl ?_
        refine cc_get (v := .ref (o + 1)) H2.2.1 cc_c4 0 (by decide) fl_X4_7 rfl dX4_keep_33 ?_
        refine cc_iconst (v := 0) dX4_keep_36 (by decide) ?_
        refine cc_iald (x := r 0) H2.2.2.1 (vp_in_nI (n := 0) (by decide) (by decide)) (by rw [show (0 : Int32).toNatClampNeg = 0 from rfl]) dX4_keep_37 ?_
        rw [show r 0 = S.1 0 from hw.1]
        refine cc_iret rfl rfl dX4_keep_38 ?_
        exact ⟨_, rfl, rfl, ⟨_, _, _, _, _, _, _, _, _, _, _, H2, hw, (Or.inr ⟨S, rfl, rfl, hw.eq hc⟩), rfl, hP, hl, rfl, hT, h60⟩⟩
      · have hlt : k < 232 := cc_nlt 232 c_6 (by omega)
        refine cc_aload_n (j := 1) dX4_keep_9 rfl rfl ?_
        refine cc_get (v := .ref (o + 3)) H.2.1 cc_c4 2 (by decide) fl_X4_16 rfl dX4_keep_10 ?_
        refine cc_iload_n (j := 0) dX4_keep_13 rfl rfl ?_
        refine cc_aload_n (j := 1) dX4_keep_14 rfl rfl ?_
        refine cc_get (v := .ref (o + 1)) H.2.1 cc_c4 0 (by decide) fl_X4_7 rfl dX4_keep_15 ?_
        refine cc_iload_n (j := 0) dX4_keep_18 rfl rfl ?_
        refine cc_iald (x := r k) H.2.2.1 (vp_in_nI (n := k) (by omega) (by decide)) (by rw [(nI_clamp (by omega))]) dX4_keep_19 ?_
        refine mo_rast_qa (j := k) H (vp_in_nI (n := k) (by omega) (by decide)) (nI_clamp (by omega)) dX4_keep_20 (fun G3 H4 => ?_)
        refine cc_iinc (j := 0) (v := nI (k + 1)) (ls' := [(1, .int (nI (k + 1))), (0, .ref o)]) dX4_keep_21 rfl (nI_1 k) (Nat.le_of_ble_eq_true rfl) rfl ?_
        refine cc_goto (tgt := 2) dX4_keep_24 (by decide) ?_
        refine ih (k + 1) _ _ (by omega) (by omega) H4 (fun q hq => ?_)
        by_cases e : q = k
        · subst e
          exact pk_us
        · exact (pk_un e).trans (hc q (by omega))
  refine cc_enter ok_X4_keep (Nat.le_of_ble_eq_true rfl) (ls := [(0, .ref o)]) rfl ?_
  refine cc_iconst (v := 0) dX4_keep_0 (by decide) ?_
  refine cc_istore_n (ls' := [(1, .int 0), (0, .ref o)]) dX4_keep_1 rfl (Nat.le_of_ble_eq_true rfl) rfl ?_
  exact loop_2 233 0 _ _ (by omega) (by omega) H (fun q hq => absurd hq (by omega))

set_option maxHeartbeats 4000000 in
set_option maxRecDepth 100000 in
theorem ct_X4_restore (cy : Nat → ClassId) (z : Nat) (G : cc_G) (o : Nat) (c : CS_)   (hI : ma_I cy G G o c) : cc_Cn cy Y_X4_restore [.ref o] z G (cc_qi (fun r9 G' => r9 = (C_restore c).1 ∧ ma_I cy G G' o (C_restore c).2)) := by
  obtain ⟨S, sn, hi, t⟩ := c
  obtain ⟨r, pa, qa, be, nn, ia, tx, le, ay, hs, so, H, hw, hS, hnn, hP, hl, hle, hT, h60⟩ := hI
  have H : mo_R cy G G o r pa qa be nn ia tx le ay hs so := H
  have hw : rw_I r S := hw
  have hS : ma_S ia qa sn := hS
  have hnn : nn = nI hi.length := hnn
  have hP : ma_P pa hi := hP
  have hl : hi.length ≤ 4 := hl
  have hle : le = nI t.length := hle
  have hT : ar_ tx t := hT
  have h60 : t.length ≤ 60 := h60
  subst hnn
  subst hle
  have loop_16 : ∀ (s : St_), sn = some s → rw_I qa s → ma_S ia qa sn → ∀ (p2 b2 : Nat → Int32), ma_P p2 (ma_hi hi S) → ∀ (f k : Nat) (r1 : Nat → Int32) (G1 : cc_G), 232 < k + f → k ≤ 232 → mo_R cy G G1 o r1 p2 qa b2 (nI (ma_hi hi S).length) ia tx (nI t.length) ay hs so → (∀ q, q < k → r1 q = qa q) → cc_R cy Y_X4_restore z 16 [(1, .int (nI k)), (0, .ref o)] [] G1 (cc_qi (fun r9 G' => r9 = (C_restore (S, sn, hi, t)).1 ∧ ma_I cy G G' o (C_restore (S, sn, hi, t)).2)) := by
    intro s hsn hqs hS2 p2 b2 hP2 f
    induction f with
    | zero => intro k r1 G1 h1 h2; exact absurd h1 (by omega)
    | succ f ih =>
      intro k r1 G1 hf hk H hc
      refine cc_iload_n (j := 0) dX4_restore_16 rfl rfl ?_
      refine cc_sipush (v := 232) dX4_restore_17 (by decide) ?_
      refine cc_icmp_ge (tgt := 41) dX4_restore_20 (by decide) (fun c_20 => ?_) (fun c_20 => ?_)
      · have hge : k = 232 := by have := cc_ngt 232 c_20 (by omega) (by decide); omega
        subst hge
        refine cc_aload_n (j := 1) dX4_restore_41 rfl rfl ?_
        refine cc_get (v := .ref (o + 1)) H.2.1 cc_c4 0 (by decide) fl_X4_7 rfl dX4_restore_42 ?_
        refine cc_iconst (v := 0) dX4_restore_45 (by decide) ?_
        refine cc_iald (x := r1 0) H.2.2.1 (vp_in_nI (n := 0) (by decide) (by decide)) (by rw [show (0 : Int32).toNatClampNeg = 0 from rfl]) dX4_restore_46 ?_
        rw [show r1 0 = s.1 0 from (hqs.eq hc).1]
        refine cc_iret rfl rfl dX4_restore_47 ?_
        rw [hsn]
        rw [hsn] at hS2
        exact ⟨_, rfl, rfl, ⟨_, _, _, _, _, _, _, _, _, _, _, H, (hqs.eq hc), hS2, rfl, hP2, (ma_hi_le hi S hl), rfl, hT, h60⟩⟩
      · have hlt : k < 232 := cc_nlt 232 c_20 (by omega)
        refine cc_aload_n (j := 1) dX4_restore_23 rfl rfl ?_
        refine cc_get (v := .ref (o + 1)) H.2.1 cc_c4 0 (by decide) fl_X4_7 rfl dX4_restore_24 ?_
        refine cc_iload_n (j := 0) dX4_restore_27 rfl rfl ?_
        refine cc_aload_n (j := 1) dX4_restore_28 rfl rfl ?_
        refine cc_get (v := .ref (o + 3)) H.2.1 cc_c4 2 (by decide) fl_X4_16 rfl dX4_restore_29 ?_
        refine cc_iload_n (j := 0) dX4_restore_32 rfl rfl ?_
        refine cc_iald (x := qa k) H.2.2.2.2.1 (vp_in_nI (n := k) (by omega) (by decide)) (by rw [(nI_clamp (by omega))]) dX4_restore_33 ?_
        refine mo_rast_r (j := k) H (vp_in_nI (n := k) (by omega) (by decide)) (nI_clamp (by omega)) dX4_restore_34 (fun G1 H2 => ?_)
        refine cc_iinc (j := 0) (v := nI (k + 1)) (ls' := [(1, .int (nI (k + 1))), (0, .ref o)]) dX4_restore_35 rfl (nI_1 k) (Nat.le_of_ble_eq_true rfl) rfl ?_
        refine cc_goto (tgt := 16) dX4_restore_38 (by decide) ?_
        refine ih (k + 1) _ _ (by omega) (by omega) H2 (fun q hq => ?_)
        by_cases e : q = k
        · subst e
          exact pk_us
        · exact (pk_un e).trans (hc q (by omega))
  refine cc_enter ok_X4_restore (Nat.le_of_ble_eq_true rfl) (ls := [(0, .ref o)]) rfl ?_
  rcases hS with ⟨hs1, hs2⟩ | ⟨s9, hs1, hs2, hs3⟩
  · subst hs1
    subst hs2
    refine cc_aload_n (j := 0) dX4_restore_0 rfl rfl ?_
    refine cc_get (v := .int 0) H.2.1 cc_c4 5 (by decide) fl_X4_51 rfl dX4_restore_1 ?_
    refine cc_if_ne (tgt := 10) dX4_restore_4 (by decide) (fun c_4 => ?_) (fun c_4 => ?_)
    · exact absurd c_4 (by decide)
    · refine cc_bipush (v := (-5)) dX4_restore_7 (by decide) ?_
      refine cc_iret rfl rfl dX4_restore_9 ?_
      exact ⟨_, rfl, rfl, ⟨_, _, _, _, _, _, _, _, _, _, _, H, hw, (Or.inl ⟨rfl, rfl⟩), rfl, hP, hl, rfl, hT, h60⟩⟩
  · subst hs1
    subst hs2
    refine cc_aload_n (j := 0) dX4_restore_0 rfl rfl ?_
    refine cc_get (v := .int 1) H.2.1 cc_c4 5 (by decide) fl_X4_51 rfl dX4_restore_1 ?_
    refine cc_if_ne (tgt := 10) dX4_restore_4 (by decide) (fun c_4_1 => ?_) (fun c_4_1 => ?_)
    · refine cc_aload_n (j := 0) dX4_restore_10 rfl rfl ?_
      refine cc_callVv (As := []) (rest := []) (ct_X4_open cy z _ _ _ _ _ _ _ _ _ _ _ _ _ hi S hl hP hw rfl H.self) ok_X4_open (H.2.1) rfl im_X4_open sl_X4_open ml_X4_55 nd_X4_open (by decide +kernel) (Nat.le_of_ble_eq_true rfl) rfl dX4_restore_11 (fun G3 q5 => ?_)
      obtain ⟨p2, b2, H6, hP2⟩ := q5
      have H6 := H.tr H6
      refine cc_iconst (v := 0) dX4_restore_14 (by decide) ?_
      refine cc_istore_n (ls' := [(1, .int 0), (0, .ref o)]) dX4_restore_15 rfl (Nat.le_of_ble_eq_true rfl) rfl ?_
      exact loop_16 s9 rfl hs3 (Or.inr ⟨s9, rfl, rfl, hs3⟩) _ _ hP2 233 0 _ _ (by omega) (by omega) H6 (fun q hq => absurd hq (by omega))
    · exact absurd c_4_1 (by decide)

set_option maxHeartbeats 4000000 in
set_option maxRecDepth 100000 in
theorem ct_X4_lane (cy : Nat → ClassId) (z : Nat) (G : cc_G) (o : Nat) (c : CS_) (x1 x2 : Int32)  (hI : ma_I cy G G o c) : cc_Cn cy Y_X4_lane [.ref o, .int x1, .int x2] z G (cc_qi (fun r9 G' => r9 = C_lane x1 x2 c ∧ ma_I cy G G' o c)) := by
  obtain ⟨S, sn, hi, t⟩ := c
  obtain ⟨r, pa, qa, be, nn, ia, tx, le, ay, hs, so, H, hw, hS, hnn, hP, hl, hle, hT, h60⟩ := hI
  have H : mo_R cy G G o r pa qa be nn ia tx le ay hs so := H
  have hw : rw_I r S := hw
  have hS : ma_S ia qa sn := hS
  have hnn : nn = nI hi.length := hnn
  have hP : ma_P pa hi := hP
  have hl : hi.length ≤ 4 := hl
  have hle : le = nI t.length := hle
  have hT : ar_ tx t := hT
  have h60 : t.length ≤ 60 := h60
  subst hnn
  subst hle
  refine cc_enter ok_X4_lane (Nat.le_of_ble_eq_true rfl) (ls := [(0, .ref o), (1, .int x1), (2, .int x2)]) rfl ?_
  rcases cc_port x1 with ⟨i, hi4, rfl⟩ | hx
  · have hl0 := hw.2.2.2.2.1 i hi4
    have hq0 := hw.2.2.2.2.2 i hi4
    have h8 : (S.2.1 i).2.1.length ≤ 8 := hl0.2.2.2.2.2.1
    have h6 : (S.2.1 i).2.2.length ≤ 6 := hl0.2.2.2.2.2.2
    have h8q : (S.2.2 i).2.2.length ≤ 8 := hq0.2.2.2.2
    refine cc_iload_n (j := 1) dX4_lane_0 rfl rfl ?_
    refine cc_callSi (As := [.int (nI i)]) (rest := []) (ct_X4_noPort cy z _ (nI i)) ok_X4_noPort st_X4_noPort ml_X4_58 nd_X4_noPort (by decide +kernel) (Nat.le_of_ble_eq_true rfl) rfl dX4_lane_1 (fun r2 G1 q3 => ?_)
    obtain ⟨rfl, rfl⟩ := q3
    rw [if_pos (cc_pt hi4)]
    refine cc_if_eq (tgt := 9) dX4_lane_4 (by decide) (fun c_4 => ?_) (fun c_4 => ?_)
    · refine cc_iload_n (j := 2) dX4_lane_9 rfl rfl ?_
      rcases cc_sw13 x2 with rfl | rfl | rfl | rfl | rfl | rfl | rfl | rfl | rfl | rfl | rfl | rfl | rfl | rfl | c_10
      · refine cc_tableIn (off := 70) (tgt := 80) dX4_lane_10 (by decide) (by decide) rfl (by decide) ?_
        refine cc_aload_n (j := 0) dX4_lane_80 rfl rfl ?_
        refine cc_iload_n (j := 1) dX4_lane_81 rfl rfl ?_
        refine cc_iload_n (j := 2) dX4_lane_82 rfl rfl ?_
        refine cc_callVi (As := [.int (nI i), .int 0]) (rest := []) (ct_X4_of cy z _ _ _ _ _ _ _ _ _ _ _ _ _ i 0 (by omega) H.self) ok_X4_of (H.2.1) rfl im_X4_of sl_X4_of ml_X4_62 nd_X4_of (by decide +kernel) (Nat.le_of_ble_eq_true rfl) rfl dX4_lane_83 (fun r5 G4 q6 => ?_)
        obtain ⟨rfl, rfl⟩ := q6
        rw [show r (4 + 30 * i + 0) = (S.2.1 i).1 0 from hl0.1 0 (by decide)]
        refine cc_iret rfl rfl dX4_lane_86 ?_
        have e : C_lane (nI i) 0 (S, sn, hi, t) = (S.2.1 i).1 0 := by
          unfold C_lane
          rw [if_pos (cc_pt hi4), if_neg (by decide), if_neg (by decide), C_i_n (by omega)]
          show L_fig 0 (S.2.1 i) = _
          unfold L_fig
          rw [if_pos rfl]
        rw [e]
        exact ⟨_, rfl, rfl, ⟨_, _, _, _, _, _, _, _, _, _, _, H, hw, hS, rfl, hP, hl, rfl, hT, h60⟩⟩
      · refine cc_tableIn (off := 70) (tgt := 80) dX4_lane_10 (by decide) (by decide) rfl (by decide) ?_
        refine cc_aload_n (j := 0) dX4_lane_80 rfl rfl ?_
        refine cc_iload_n (j := 1) dX4_lane_81 rfl rfl ?_
        refine cc_iload_n (j := 2) dX4_lane_82 rfl rfl ?_
        refine cc_callVi (As := [.int (nI i), .int 1]) (rest := []) (ct_X4_of cy z _ _ _ _ _ _ _ _ _ _ _ _ _ i 1 (by omega) H.self) ok_X4_of (H.2.1) rfl im_X4_of sl_X4_of ml_X4_62 nd_X4_of (by decide +kernel) (Nat.le_of_ble_eq_true rfl) rfl dX4_lane_83 (fun r8 G7 q9 => ?_)
        obtain ⟨rfl, rfl⟩ := q9
        rw [show r (4 + 30 * i + 1) = (S.2.1 i).1 1 from hl0.1 1 (by decide)]
        refine cc_iret rfl rfl dX4_lane_86 ?_
        have e : C_lane (nI i) 1 (S, sn, hi, t) = (S.2.1 i).1 1 := by
          unfold C_lane
          rw [if_pos (cc_pt hi4), if_neg (by decide), if_neg (by decide), C_i_n (by omega)]
          show L_fig 1 (S.2.1 i) = _
          unfold L_fig
          rw [if_neg (by decide), if_pos rfl]
        rw [e]
        exact ⟨_, rfl, rfl, ⟨_, _, _, _, _, _, _, _, _, _, _, H, hw, hS, rfl, hP, hl, rfl, hT, h60⟩⟩
      · refine cc_tableIn (off := 70) (tgt := 80) dX4_lane_10 (by decide) (by decide) rfl (by decide) ?_
        refine cc_aload_n (j := 0) dX4_lane_80 rfl rfl ?_
        refine cc_iload_n (j := 1) dX4_lane_81 rfl rfl ?_
        refine cc_iload_n (j := 2) dX4_lane_82 rfl rfl ?_
        refine cc_callVi (As := [.int (nI i), .int 2]) (rest := []) (ct_X4_of cy z _ _ _ _ _ _ _ _ _ _ _ _ _ i 2 (by omega) H.self) ok_X4_of (H.2.1) rfl im_X4_of sl_X4_of ml_X4_62 nd_X4_of (by decide +kernel) (Nat.le_of_ble_eq_true rfl) rfl dX4_lane_83 (fun r11 G10 q12 => ?_)
        obtain ⟨rfl, rfl⟩ := q12
        rw [show r (4 + 30 * i + 2) = (S.2.1 i).1 2 from hl0.1 2 (by decide)]
        refine cc_iret rfl rfl dX4_lane_86 ?_
        have e : C_lane (nI i) 2 (S, sn, hi, t) = (S.2.1 i).1 2 := by
          unfold C_lane
          rw [if_pos (cc_pt hi4), if_neg (by decide), if_neg (by decide), C_i_n (by omega)]
          show L_fig 2 (S.2.1 i) = _
          unfold L_fig
          rw [if_neg (by decide), if_neg (by decide), if_pos rfl]
        rw [e]
        exact ⟨_, rfl, rfl, ⟨_, _, _, _, _, _, _, _, _, _, _, H, hw, hS, rfl, hP, hl, rfl, hT, h60⟩⟩
      · refine cc_tableIn (off := 77) (tgt := 87) dX4_lane_10 (by decide) (by decide) rfl (by decide) ?_
        refine cc_bipush (v := 100) dX4_lane_87 (by decide) ?_
        refine cc_aload_n (j := 0) dX4_lane_89 rfl rfl ?_
        refine cc_iload_n (j := 1) dX4_lane_90 rfl rfl ?_
        refine cc_iconst (v := 3) dX4_lane_91 (by decide) ?_
        refine cc_callVi (As := [.int (nI i), .int 3]) (rest := [.int 100]) (ct_X4_of cy z _ _ _ _ _ _ _ _ _ _ _ _ _ i 3 (by omega) H.self) ok_X4_of (H.2.1) rfl im_X4_of sl_X4_of ml_X4_62 nd_X4_of (by decide +kernel) (Nat.le_of_ble_eq_true rfl) rfl dX4_lane_92 (fun r14 G13 q15 => ?_)
        obtain ⟨rfl, rfl⟩ := q15
        rw [show r (4 + 30 * i + 3) = (S.2.1 i).1 3 from hl0.1 3 (by decide)]
        refine cc_iadd dX4_lane_95 ?_
        refine cc_iret rfl rfl dX4_lane_96 ?_
        have e : C_lane (nI i) 3 (S, sn, hi, t) = (S.2.1 i).1 3 + 100 := by
          unfold C_lane
          rw [if_pos (cc_pt hi4), if_neg (by decide), if_neg (by decide), C_i_n (by omega)]
          show L_fig 3 (S.2.1 i) = _
          unfold L_fig
          rw [if_neg (by decide), if_neg (by decide), if_neg (by decide), if_pos rfl]
        rw [e]
        exact ⟨_, rfl, (Int32.add_comm _ _), ⟨_, _, _, _, _, _, _, _, _, _, _, H, hw, hS, rfl, hP, hl, rfl, hT, h60⟩⟩
      · refine cc_tableIn (off := 87) (tgt := 97) dX4_lane_10 (by decide) (by decide) rfl (by decide) ?_
        refine cc_aload_n (j := 0) dX4_lane_97 rfl rfl ?_
        refine cc_iload_n (j := 1) dX4_lane_98 rfl rfl ?_
        refine cc_bipush (v := 9) dX4_lane_99 (by decide) ?_
        refine cc_callVi (As := [.int (nI i), .int 9]) (rest := []) (ct_X4_of cy z _ _ _ _ _ _ _ _ _ _ _ _ _ i 9 (by omega) H.self) ok_X4_of (H.2.1) rfl im_X4_of sl_X4_of ml_X4_62 nd_X4_of (by decide +kernel) (Nat.le_of_ble_eq_true rfl) rfl dX4_lane_101 (fun r17 G16 q18 => ?_)
        obtain ⟨rfl, rfl⟩ := q18
        rw [show r (4 + 30 * i + 9) = nI (S.2.1 i).2.1.length from hl0.2.1]
        refine cc_iret rfl rfl dX4_lane_104 ?_
        have e : C_lane (nI i) 4 (S, sn, hi, t) = nI (S.2.1 i).2.1.length := by
          unfold C_lane
          rw [if_pos (cc_pt hi4), if_neg (by decide), if_neg (by decide), C_i_n (by omega)]
          show L_fig 4 (S.2.1 i) = _
          unfold L_fig
          rw [if_neg (by decide), if_neg (by decide), if_neg (by decide), if_neg (by decide), if_pos rfl]
        rw [e]
        exact ⟨_, rfl, rfl, ⟨_, _, _, _, _, _, _, _, _, _, _, H, hw, hS, rfl, hP, hl, rfl, hT, h60⟩⟩
      · refine cc_tableIn (off := 95) (tgt := 105) dX4_lane_10 (by decide) (by decide) rfl (by decide) ?_
        refine cc_aload_n (j := 0) dX4_lane_105 rfl rfl ?_
        refine cc_iload_n (j := 1) dX4_lane_106 rfl rfl ?_
        refine cc_bipush (v := 10) dX4_lane_107 (by decide) ?_
        refine cc_callVi (As := [.int (nI i), .int 10]) (rest := []) (ct_X4_of cy z _ _ _ _ _ _ _ _ _ _ _ _ _ i 10 (by omega) H.self) ok_X4_of (H.2.1) rfl im_X4_of sl_X4_of ml_X4_62 nd_X4_of (by decide +kernel) (Nat.le_of_ble_eq_true rfl) rfl dX4_lane_109 (fun r20 G19 q21 => ?_)
        obtain ⟨rfl, rfl⟩ := q21
        rw [show r (4 + 30 * i + 10) = nI (S.2.1 i).2.2.length from hl0.2.2.1]
        refine cc_iret rfl rfl dX4_lane_112 ?_
        have e : C_lane (nI i) 5 (S, sn, hi, t) = nI (S.2.1 i).2.2.length := by
          unfold C_lane
          rw [if_pos (cc_pt hi4), if_neg (by decide), if_neg (by decide), C_i_n (by omega)]
          show L_fig 5 (S.2.1 i) = _
          unfold L_fig
          rw [if_neg (by decide), if_neg (by decide), if_neg (by decide), if_neg (by decide), if_neg (by decide), if_pos rfl]
        rw [e]
        exact ⟨_, rfl, rfl, ⟨_, _, _, _, _, _, _, _, _, _, _, H, hw, hS, rfl, hP, hl, rfl, hT, h60⟩⟩
      · refine cc_tableIn (off := 103) (tgt := 113) dX4_lane_10 (by decide) (by decide) rfl (by decide) ?_
        refine cc_bipush (v := 100) dX4_lane_113 (by decide) ?_
        refine cc_aload_n (j := 0) dX4_lane_115 rfl rfl ?_
        refine cc_iload_n (j := 1) dX4_lane_116 rfl rfl ?_
        refine cc_callVi (As := [.int (nI i)]) (rest := [.int 100]) (ct_X4_missing cy z _ _ _ _ _ _ _ _ _ _ _ _ _ i hi4 H.self) ok_X4_missing (H.2.1) rfl im_X4_missing sl_X4_missing ml_X4_109 nd_X4_missing (by decide +kernel) (Nat.le_of_ble_eq_true rfl) rfl dX4_lane_117 (fun r23 G22 q24 => ?_)
        obtain ⟨rfl, rfl⟩ := q24
        rw [show r (4 + 30 * i + 0) - r (4 + 30 * i + 3) - r (4 + 30 * i + 9) - r (4 + 30 * i + 10) = L_mis (S.2.1 i) from by rw [hl0.1 0 (by decide), hl0.1 3 (by decide), hl0.2.1, hl0.2.2.1]; rfl]
        refine cc_iadd dX4_lane_120 ?_
        refine cc_iret rfl rfl dX4_lane_121 ?_
        have e : C_lane (nI i) 6 (S, sn, hi, t) = L_mis (S.2.1 i) + 100 := by
          unfold C_lane
          rw [if_pos (cc_pt hi4), if_neg (by decide), if_neg (by decide), C_i_n (by omega)]
          show L_fig 6 (S.2.1 i) = _
          unfold L_fig
          rw [if_neg (by decide), if_neg (by decide), if_neg (by decide), if_neg (by decide), if_neg (by decide), if_neg (by decide), if_pos rfl]
          rfl
        rw [e]
        exact ⟨_, rfl, (Int32.add_comm _ _), ⟨_, _, _, _, _, _, _, _, _, _, _, H, hw, hS, rfl, hP, hl, rfl, hT, h60⟩⟩
      · refine cc_tableIn (off := 112) (tgt := 122) dX4_lane_10 (by decide) (by decide) rfl (by decide) ?_
        refine cc_aload_n (j := 0) dX4_lane_122 rfl rfl ?_
        refine cc_iload_n (j := 1) dX4_lane_123 rfl rfl ?_
        refine cc_iconst (v := 4) dX4_lane_124 (by decide) ?_
        refine cc_callVi (As := [.int (nI i), .int 4]) (rest := []) (ct_X4_of cy z _ _ _ _ _ _ _ _ _ _ _ _ _ i 4 (by omega) H.self) ok_X4_of (H.2.1) rfl im_X4_of sl_X4_of ml_X4_62 nd_X4_of (by decide +kernel) (Nat.le_of_ble_eq_true rfl) rfl dX4_lane_125 (fun r26 G25 q27 => ?_)
        obtain ⟨rfl, rfl⟩ := q27
        rw [show r (4 + 30 * i + 4) = (S.2.1 i).1 4 from hl0.1 4 (by decide)]
        refine cc_iret rfl rfl dX4_lane_128 ?_
        have e : C_lane (nI i) 7 (S, sn, hi, t) = (S.2.1 i).1 4 := by
          unfold C_lane
          rw [if_pos (cc_pt hi4), if_neg (by decide), if_neg (by decide), C_i_n (by omega)]
          show L_fig 7 (S.2.1 i) = _
          unfold L_fig
          rw [if_neg (by decide), if_neg (by decide), if_neg (by decide), if_neg (by decide), if_neg (by decide), if_neg (by decide), if_neg (by decide), if_pos rfl]
        rw [e]
        exact ⟨_, rfl, rfl, ⟨_, _, _, _, _, _, _, _, _, _, _, H, hw, hS, rfl, hP, hl, rfl, hT, h60⟩⟩
      · refine cc_tableIn (off := 119) (tgt := 129) dX4_lane_10 (by decide) (by decide) rfl (by decide) ?_
        refine cc_aload_n (j := 0) dX4_lane_129 rfl rfl ?_
        refine cc_iload_n (j := 1) dX4_lane_130 rfl rfl ?_
        refine cc_iload_n (j := 2) dX4_lane_131 rfl rfl ?_
        refine cc_iconst (v := 3) dX4_lane_132 (by decide) ?_
        refine cc_isub dX4_lane_133 ?_
        rw [show (8 : Int32) - 3 = 5 by decide]
        refine cc_callVi (As := [.int (nI i), .int 5]) (rest := []) (ct_X4_of cy z _ _ _ _ _ _ _ _ _ _ _ _ _ i 5 (by omega) H.self) ok_X4_of (H.2.1) rfl im_X4_of sl_X4_of ml_X4_62 nd_X4_of (by decide +kernel) (Nat.le_of_ble_eq_true rfl) rfl dX4_lane_134 (fun r29 G28 q30 => ?_)
        obtain ⟨rfl, rfl⟩ := q30
        rw [show r (4 + 30 * i + 5) = (S.2.1 i).1 5 from hl0.1 5 (by decide)]
        refine cc_iret rfl rfl dX4_lane_137 ?_
        have e : C_lane (nI i) 8 (S, sn, hi, t) = (S.2.1 i).1 5 := by
          unfold C_lane
          rw [if_pos (cc_pt hi4), if_neg (by decide), if_neg (by decide), C_i_n (by omega)]
          show L_fig 8 (S.2.1 i) = _
          unfold L_fig
          rw [if_neg (by decide), if_neg (by decide), if_neg (by decide), if_neg (by decide), if_neg (by decide), if_neg (by decide), if_neg (by decide), if_neg (by decide), if_pos rfl]
        rw [e]
        exact ⟨_, rfl, rfl, ⟨_, _, _, _, _, _, _, _, _, _, _, H, hw, hS, rfl, hP, hl, rfl, hT, h60⟩⟩
      · refine cc_tableIn (off := 119) (tgt := 129) dX4_lane_10 (by decide) (by decide) rfl (by decide) ?_
        refine cc_aload_n (j := 0) dX4_lane_129 rfl rfl ?_
        refine cc_iload_n (j := 1) dX4_lane_130 rfl rfl ?_
        refine cc_iload_n (j := 2) dX4_lane_131 rfl rfl ?_
        refine cc_iconst (v := 3) dX4_lane_132 (by decide) ?_
        refine cc_isub dX4_lane_133 ?_
        rw [show (9 : Int32) - 3 = 6 by decide]
        refine cc_callVi (As := [.int (nI i), .int 6]) (rest := []) (ct_X4_of cy z _ _ _ _ _ _ _ _ _ _ _ _ _ i 6 (by omega) H.self) ok_X4_of (H.2.1) rfl im_X4_of sl_X4_of ml_X4_62 nd_X4_of (by decide +kernel) (Nat.le_of_ble_eq_true rfl) rfl dX4_lane_134 (fun r32 G31 q33 => ?_)
        obtain ⟨rfl, rfl⟩ := q33
        rw [show r (4 + 30 * i + 6) = (S.2.1 i).1 6 from hl0.1 6 (by decide)]
        refine cc_iret rfl rfl dX4_lane_137 ?_
        have e : C_lane (nI i) 9 (S, sn, hi, t) = (S.2.1 i).1 6 := by
          unfold C_lane
          rw [if_pos (cc_pt hi4), if_neg (by decide), if_neg (by decide), C_i_n (by omega)]
          show L_fig 9 (S.2.1 i) = _
          unfold L_fig
          rw [if_neg (by decide), if_neg (by decide), if_neg (by decide), if_neg (by decide), if_neg (by decide), if_neg (by decide), if_neg (by decide), if_neg (by decide), if_neg (by decide), if_pos rfl]
        rw [e]
        exact ⟨_, rfl, rfl, ⟨_, _, _, _, _, _, _, _, _, _, _, H, hw, hS, rfl, hP, hl, rfl, hT, h60⟩⟩
      · refine cc_tableIn (off := 119) (tgt := 129) dX4_lane_10 (by decide) (by decide) rfl (by decide) ?_
        refine cc_aload_n (j := 0) dX4_lane_129 rfl rfl ?_
        refine cc_iload_n (j := 1) dX4_lane_130 rfl rfl ?_
        refine cc_iload_n (j := 2) dX4_lane_131 rfl rfl ?_
        refine cc_iconst (v := 3) dX4_lane_132 (by decide) ?_
        refine cc_isub dX4_lane_133 ?_
        rw [show (10 : Int32) - 3 = 7 by decide]
        refine cc_callVi (As := [.int (nI i), .int 7]) (rest := []) (ct_X4_of cy z _ _ _ _ _ _ _ _ _ _ _ _ _ i 7 (by omega) H.self) ok_X4_of (H.2.1) rfl im_X4_of sl_X4_of ml_X4_62 nd_X4_of (by decide +kernel) (Nat.le_of_ble_eq_true rfl) rfl dX4_lane_134 (fun r35 G34 q36 => ?_)
        obtain ⟨rfl, rfl⟩ := q36
        rw [show r (4 + 30 * i + 7) = (S.2.1 i).1 7 from hl0.1 7 (by decide)]
        refine cc_iret rfl rfl dX4_lane_137 ?_
        have e : C_lane (nI i) 10 (S, sn, hi, t) = (S.2.1 i).1 7 := by
          unfold C_lane
          rw [if_pos (cc_pt hi4), if_neg (by decide), if_neg (by decide), C_i_n (by omega)]
          show L_fig 10 (S.2.1 i) = _
          unfold L_fig
          rw [if_neg (by decide), if_neg (by decide), if_neg (by decide), if_neg (by decide), if_neg (by decide), if_neg (by decide), if_neg (by decide), if_neg (by decide), if_neg (by decide), if_neg (by decide), if_pos rfl]
        rw [e]
        exact ⟨_, rfl, rfl, ⟨_, _, _, _, _, _, _, _, _, _, _, H, hw, hS, rfl, hP, hl, rfl, hT, h60⟩⟩
      · refine cc_tableIn (off := 119) (tgt := 129) dX4_lane_10 (by decide) (by decide) rfl (by decide) ?_
        refine cc_aload_n (j := 0) dX4_lane_129 rfl rfl ?_
        refine cc_iload_n (j := 1) dX4_lane_130 rfl rfl ?_
        refine cc_iload_n (j := 2) dX4_lane_131 rfl rfl ?_
        refine cc_iconst (v := 3) dX4_lane_132 (by decide) ?_
        refine cc_isub dX4_lane_133 ?_
        rw [show (11 : Int32) - 3 = 8 by decide]
        refine cc_callVi (As := [.int (nI i), .int 8]) (rest := []) (ct_X4_of cy z _ _ _ _ _ _ _ _ _ _ _ _ _ i 8 (by omega) H.self) ok_X4_of (H.2.1) rfl im_X4_of sl_X4_of ml_X4_62 nd_X4_of (by decide +kernel) (Nat.le_of_ble_eq_true rfl) rfl dX4_lane_134 (fun r38 G37 q39 => ?_)
        obtain ⟨rfl, rfl⟩ := q39
        rw [show r (4 + 30 * i + 8) = (S.2.1 i).1 8 from hl0.1 8 (by decide)]
        refine cc_iret rfl rfl dX4_lane_137 ?_
        have e : C_lane (nI i) 11 (S, sn, hi, t) = (S.2.1 i).1 8 := by
          unfold C_lane
          rw [if_pos (cc_pt hi4), if_neg (by decide), if_neg (by decide), C_i_n (by omega)]
          show L_fig 11 (S.2.1 i) = _
          unfold L_fig
          rw [if_neg (by decide), if_neg (by decide), if_neg (by decide), if_neg (by decide), if_neg (by decide), if_neg (by decide), if_neg (by decide), if_neg (by decide), if_neg (by decide), if_neg (by decide), if_neg (by decide), if_pos rfl]
        rw [e]
        exact ⟨_, rfl, rfl, ⟨_, _, _, _, _, _, _, _, _, _, _, H, hw, hS, rfl, hP, hl, rfl, hT, h60⟩⟩
      · refine cc_tableIn (off := 128) (tgt := 138) dX4_lane_10 (by decide) (by decide) rfl (by decide) ?_
        refine cc_aload_n (j := 0) dX4_lane_138 rfl rfl ?_
        refine cc_iload_n (j := 1) dX4_lane_139 rfl rfl ?_
        refine cc_callVi (As := [.int (nI i)]) (rest := []) (ct_X4_waiting cy z _ _ _ _ _ _ _ _ _ _ _ _ _ S hw (nI i) H.self) ok_X4_waiting (H.2.1) rfl im_X4_waiting sl_X4_waiting ml_X4_126 nd_X4_waiting (by decide +kernel) (Nat.le_of_ble_eq_true rfl) rfl dX4_lane_140 (fun r41 G40 q42 => ?_)
        obtain ⟨rfl, rfl⟩ := q42
        refine cc_iret rfl rfl dX4_lane_143 ?_
        have e : C_lane (nI i) 12 (S, sn, hi, t) = nI (B_wt (nI i) S 4) := by
          unfold C_lane
          rw [if_pos (cc_pt hi4), if_pos rfl]
        rw [e]
        exact ⟨_, rfl, rfl, ⟨_, _, _, _, _, _, _, _, _, _, _, H, hw, hS, rfl, hP, hl, rfl, hT, h60⟩⟩
      · refine cc_tableIn (off := 134) (tgt := 144) dX4_lane_10 (by decide) (by decide) rfl (by decide) ?_
        refine cc_aload_n (j := 0) dX4_lane_144 rfl rfl ?_
        refine cc_iload_n (j := 1) dX4_lane_145 rfl rfl ?_
        refine cc_callVi (As := [.int (nI i)]) (rest := []) (ct_X4_isStuck cy z _ _ _ _ _ _ _ _ _ _ _ _ _ S hw i hi4 H.self) ok_X4_isStuck (H.2.1) rfl im_X4_isStuck sl_X4_isStuck ml_X4_129 nd_X4_isStuck (by decide +kernel) (Nat.le_of_ble_eq_true rfl) rfl dX4_lane_146 (fun r44 G43 q45 => ?_)
        obtain ⟨rfl, rfl⟩ := q45
        rcases B_stb_01 S i with hsb | hsb
        · rw [show nI (B_stb S i) = 0 by rw [hsb]; rfl]
          refine cc_if_eq (tgt := 156) dX4_lane_149 (by decide) (fun c_149 => ?_) (fun c_149 => ?_)
          · refine cc_iconst (v := 0) dX4_lane_156 (by decide) ?_
            refine cc_iret rfl rfl dX4_lane_157 ?_
            have e : C_lane (nI i) 13 (S, sn, hi, t) = 0 := by
              unfold C_lane
              rw [if_pos (cc_pt hi4), if_neg (by decide), if_pos rfl, C_i_n (by omega)]
              show nI (B_stb S i) = _
              rw [hsb]; rfl
            rw [e]
            exact ⟨_, rfl, rfl, ⟨_, _, _, _, _, _, _, _, _, _, _, H, hw, hS, rfl, hP, hl, rfl, hT, h60⟩⟩
          · exact absurd c_149 (by decide)
        · rw [show nI (B_stb S i) = 1 by rw [hsb]; rfl]
          refine cc_if_eq (tgt := 156) dX4_lane_149 (by decide) (fun c_149_1 => ?_) (fun c_149_1 => ?_)
          · exact absurd c_149_1 (by decide)
          · refine cc_iconst (v := 1) dX4_lane_152 (by decide) ?_
            refine cc_goto (tgt := 157) dX4_lane_153 (by decide) ?_
            refine cc_iret rfl rfl dX4_lane_157 ?_
            have e : C_lane (nI i) 13 (S, sn, hi, t) = 1 := by
              unfold C_lane
              rw [if_pos (cc_pt hi4), if_neg (by decide), if_pos rfl, C_i_n (by omega)]
              show nI (B_stb S i) = _
              rw [hsb]; rfl
            rw [e]
            exact ⟨_, rfl, rfl, ⟨_, _, _, _, _, _, _, _, _, _, _, H, hw, hS, rfl, hP, hl, rfl, hT, h60⟩⟩
      · refine cc_tableOut (tgt := 158) dX4_lane_10 c_10 (by decide) ?_
        refine cc_bipush (v := (-2)) dX4_lane_158 (by decide) ?_
        refine cc_iret rfl rfl dX4_lane_160 ?_
        have e : C_lane (nI i) x2 (S, sn, hi, t) = (-2) := by
          unfold C_lane
          rw [if_pos (cc_pt hi4), if_neg (fun q => by subst q; exact absurd c_10 (by decide)), if_neg (fun q => by subst q; exact absurd c_10 (by decide))]
          unfold L_fig
          rw [if_neg (fun q => by subst q; exact absurd c_10 (by decide)), if_neg (fun q => by subst q; exact absurd c_10 (by decide)), if_neg (fun q => by subst q; exact absurd c_10 (by decide)), if_neg (fun q => by subst q; exact absurd c_10 (by decide)), if_neg (fun q => by subst q; exact absurd c_10 (by decide)), if_neg (fun q => by subst q; exact absurd c_10 (by decide)), if_neg (fun q => by subst q; exact absurd c_10 (by decide)), if_neg (fun q => by subst q; exact absurd c_10 (by decide)), if_neg (fun q => by subst q; exact absurd c_10 (by decide)), if_neg (fun q => by subst q; exact absurd c_10 (by decide)), if_neg (fun q => by subst q; exact absurd c_10 (by decide)), if_neg (fun q => by subst q; exact absurd c_10 (by decide))]
        rw [e]
        exact ⟨_, rfl, rfl, ⟨_, _, _, _, _, _, _, _, _, _, _, H, hw, hS, rfl, hP, hl, rfl, hT, h60⟩⟩
    · exact absurd c_4 (by decide)
  · refine cc_iload_n (j := 1) dX4_lane_0 rfl rfl ?_
    refine cc_callSi (As := [.int x1]) (rest := []) (ct_X4_noPort cy z _ x1) ok_X4_noPort st_X4_noPort ml_X4_58 nd_X4_noPort (by decide +kernel) (Nat.le_of_ble_eq_true rfl) rfl dX4_lane_1 (fun r47 G46 q48 => ?_)
    obtain ⟨rfl, rfl⟩ := q48
    rw [if_neg hx]
    refine cc_if_eq (tgt := 9) dX4_lane_4 (by decide) (fun c_4_1 => ?_) (fun c_4_1 => ?_)
    · exact absurd c_4_1 (by decide)
    · refine cc_iconst (v := (-1)) dX4_lane_7 (by decide) ?_
      refine cc_iret rfl rfl dX4_lane_8 ?_
      have e : C_lane x1 x2 (S, sn, hi, t) = (-1) := by
        unfold C_lane
        
        rw [if_neg hx]
      rw [e]
      
      exact ⟨_, rfl, rfl, ⟨_, _, _, _, _, _, _, _, _, _, _, H, hw, hS, rfl, hP, hl, rfl, hT, h60⟩⟩

set_option maxHeartbeats 4000000 in
set_option maxRecDepth 100000 in
theorem ct_X4_seated (cy : Nat → ClassId) (z : Nat) (G : cc_G) (o : Nat) (c : CS_) (x1 x2 : Int32)  (hI : ma_I cy G G o c) : cc_Cn cy Y_X4_seated [.ref o, .int x1, .int x2] z G (cc_qi (fun r9 G' => r9 = C_seated x1 x2 c ∧ ma_I cy G G' o c)) := by
  obtain ⟨S, sn, hi, t⟩ := c
  obtain ⟨r, pa, qa, be, nn, ia, tx, le, ay, hs, so, H, hw, hS, hnn, hP, hl, hle, hT, h60⟩ := hI
  have H : mo_R cy G G o r pa qa be nn ia tx le ay hs so := H
  have hw : rw_I r S := hw
  have hS : ma_S ia qa sn := hS
  have hnn : nn = nI hi.length := hnn
  have hP : ma_P pa hi := hP
  have hl : hi.length ≤ 4 := hl
  have hle : le = nI t.length := hle
  have hT : ar_ tx t := hT
  have h60 : t.length ≤ 60 := h60
  subst hnn
  subst hle
  refine cc_enter ok_X4_seated (Nat.le_of_ble_eq_true rfl) (ls := [(0, .ref o), (1, .int x1), (2, .int x2)]) rfl ?_
  rcases cc_port x1 with ⟨i, hi4, rfl⟩ | hx
  · have hl0 := hw.2.2.2.2.1 i hi4
    have hq0 := hw.2.2.2.2.2 i hi4
    have h8 : (S.2.1 i).2.1.length ≤ 8 := hl0.2.2.2.2.2.1
    have h6 : (S.2.1 i).2.2.length ≤ 6 := hl0.2.2.2.2.2.2
    have h8q : (S.2.2 i).2.2.length ≤ 8 := hq0.2.2.2.2
    refine cc_iload_n (j := 1) dX4_seated_0 rfl rfl ?_
    refine cc_callSi (As := [.int (nI i)]) (rest := []) (ct_X4_noPort cy z _ (nI i)) ok_X4_noPort st_X4_noPort ml_X4_58 nd_X4_noPort (by decide +kernel) (Nat.le_of_ble_eq_true rfl) rfl dX4_seated_1 (fun r2 G1 q3 => ?_)
    obtain ⟨rfl, rfl⟩ := q3
    rw [if_pos (cc_pt hi4)]
    refine cc_if_eq (tgt := 9) dX4_seated_4 (by decide) (fun c_4 => ?_) (fun c_4 => ?_)
    · by_cases hp_ : x2 < 0
      · refine cc_iload_n (j := 2) dX4_seated_9 rfl rfl ?_
        refine cc_if_ge (tgt := 18) dX4_seated_10 (by decide) (fun c_10 => ?_) (fun c_10 => ?_)
        · exact absurd hp_ (Int32.not_lt.mpr c_10)
        · refine cc_bipush (v := (-2)) dX4_seated_13 (by decide) ?_
          refine cc_goto (tgt := 43) dX4_seated_15 (by decide) ?_
          refine cc_iret rfl rfl dX4_seated_43 ?_
          have e : C_seated (nI i) x2 (S, sn, hi, t) = (-2) := by
            unfold C_seated
            rw [if_pos (cc_pt hi4), C_i_n (by omega)]
            dsimp only
            rw [if_pos hp_]
          rw [e]
          
          exact ⟨_, rfl, rfl, ⟨_, _, _, _, _, _, _, _, _, _, _, H, hw, hS, rfl, hP, hl, rfl, hT, h60⟩⟩
      · obtain ⟨p, hpj, rfl⟩ := nI_of hp_
        refine cc_iload_n (j := 2) dX4_seated_9 rfl rfl ?_
        refine cc_if_ge (tgt := 18) dX4_seated_10 (by decide) (fun c_10_1 => ?_) (fun c_10_1 => ?_)
        · refine cc_iload_n (j := 2) dX4_seated_18 rfl rfl ?_
          refine cc_aload_n (j := 0) dX4_seated_19 rfl rfl ?_
          refine cc_iload_n (j := 1) dX4_seated_20 rfl rfl ?_
          refine cc_bipush (v := 9) dX4_seated_21 (by decide) ?_
          refine cc_callVi (As := [.int (nI i), .int 9]) (rest := [.int (nI p)]) (ct_X4_of cy z _ _ _ _ _ _ _ _ _ _ _ _ _ i 9 (by omega) H.self) ok_X4_of (H.2.1) rfl im_X4_of sl_X4_of ml_X4_62 nd_X4_of (by decide +kernel) (Nat.le_of_ble_eq_true rfl) rfl dX4_seated_23 (fun r5 G4 q6 => ?_)
          obtain ⟨rfl, rfl⟩ := q6
          rw [show r (4 + 30 * i + 9) = nI (S.2.1 i).2.1.length from hl0.2.1]
          refine cc_icmp_ge (tgt := 41) dX4_seated_26 (by decide) (fun c_26 => ?_) (fun c_26 => ?_)
          · refine cc_bipush (v := (-5)) dX4_seated_41 (by decide) ?_
            refine cc_iret rfl rfl dX4_seated_43 ?_
            have e : C_seated (nI i) (nI p) (S, sn, hi, t) = (-5) := by
              unfold C_seated
              rw [if_pos (cc_pt hi4), C_i_n (by omega)]
              dsimp only
              rw [if_neg hp_, if_neg (Int32.not_lt.mpr c_26)]
            rw [e]
            
            exact ⟨_, rfl, rfl, ⟨_, _, _, _, _, _, _, _, _, _, _, H, hw, hS, rfl, hP, hl, rfl, hT, h60⟩⟩
          · have hlt : p < (S.2.1 i).2.1.length := cc_nlt _ c_26 (by omega)
            refine cc_aload_n (j := 0) dX4_seated_29 rfl rfl ?_
            refine cc_iload_n (j := 1) dX4_seated_30 rfl rfl ?_
            refine cc_bipush (v := 11) dX4_seated_31 (by decide) ?_
            refine cc_iload_n (j := 2) dX4_seated_33 rfl rfl ?_
            refine cc_iadd dX4_seated_34 ?_
            rw [show 11 + (nI p) = nI (11 + p) from nI_add 11 p]
            refine cc_callVi (As := [.int (nI i), .int (nI (11 + p))]) (rest := []) (ct_X4_of cy z _ _ _ _ _ _ _ _ _ _ _ _ _ i (11 + p) (by omega) H.self) ok_X4_of (H.2.1) rfl im_X4_of sl_X4_of ml_X4_62 nd_X4_of (by decide +kernel) (Nat.le_of_ble_eq_true rfl) rfl dX4_seated_35 (fun r8 G7 q9 => ?_)
            obtain ⟨rfl, rfl⟩ := q9
            rw [show r (4 + 30 * i + (11 + p)) = (S.2.1 i).2.1.getD p 0 from ar_at (hl0.2.2.2.1 : ar_ (fun k => r (4 + 30 * i + (11 + k))) (S.2.1 i).2.1) hlt]
            refine cc_goto (tgt := 43) dX4_seated_38 (by decide) ?_
            refine cc_iret rfl rfl dX4_seated_43 ?_
            have e : C_seated (nI i) (nI p) (S, sn, hi, t) = (S.2.1 i).2.1.getD p 0 := by
              unfold C_seated
              rw [if_pos (cc_pt hi4), C_i_n (by omega)]
              dsimp only
              rw [if_neg hp_, if_pos (Int32.not_le.mp c_26), C_i_n hpj]
            rw [e]
            
            exact ⟨_, rfl, rfl, ⟨_, _, _, _, _, _, _, _, _, _, _, H, hw, hS, rfl, hP, hl, rfl, hT, h60⟩⟩
        · exact absurd (Int32.not_le.mp c_10_1) hp_
    · exact absurd c_4 (by decide)
  · refine cc_iload_n (j := 1) dX4_seated_0 rfl rfl ?_
    refine cc_callSi (As := [.int x1]) (rest := []) (ct_X4_noPort cy z _ x1) ok_X4_noPort st_X4_noPort ml_X4_58 nd_X4_noPort (by decide +kernel) (Nat.le_of_ble_eq_true rfl) rfl dX4_seated_1 (fun r11 G10 q12 => ?_)
    obtain ⟨rfl, rfl⟩ := q12
    rw [if_neg hx]
    refine cc_if_eq (tgt := 9) dX4_seated_4 (by decide) (fun c_4_1 => ?_) (fun c_4_1 => ?_)
    · exact absurd c_4_1 (by decide)
    · refine cc_iconst (v := (-1)) dX4_seated_7 (by decide) ?_
      refine cc_iret rfl rfl dX4_seated_8 ?_
      have e : C_seated x1 x2 (S, sn, hi, t) = (-1) := by
        unfold C_seated
        
        rw [if_neg hx]
      rw [e]
      
      exact ⟨_, rfl, rfl, ⟨_, _, _, _, _, _, _, _, _, _, _, H, hw, hS, rfl, hP, hl, rfl, hT, h60⟩⟩

set_option maxHeartbeats 4000000 in
set_option maxRecDepth 100000 in
theorem ct_X4_onTheWay (cy : Nat → ClassId) (z : Nat) (G : cc_G) (o : Nat) (c : CS_) (x1 x2 : Int32)  (hI : ma_I cy G G o c) : cc_Cn cy Y_X4_onTheWay [.ref o, .int x1, .int x2] z G (cc_qi (fun r9 G' => r9 = C_onTheWay x1 x2 c ∧ ma_I cy G G' o c)) := by
  obtain ⟨S, sn, hi, t⟩ := c
  obtain ⟨r, pa, qa, be, nn, ia, tx, le, ay, hs, so, H, hw, hS, hnn, hP, hl, hle, hT, h60⟩ := hI
  have H : mo_R cy G G o r pa qa be nn ia tx le ay hs so := H
  have hw : rw_I r S := hw
  have hS : ma_S ia qa sn := hS
  have hnn : nn = nI hi.length := hnn
  have hP : ma_P pa hi := hP
  have hl : hi.length ≤ 4 := hl
  have hle : le = nI t.length := hle
  have hT : ar_ tx t := hT
  have h60 : t.length ≤ 60 := h60
  subst hnn
  subst hle
  refine cc_enter ok_X4_onTheWay (Nat.le_of_ble_eq_true rfl) (ls := [(0, .ref o), (1, .int x1), (2, .int x2)]) rfl ?_
  rcases cc_port x1 with ⟨i, hi4, rfl⟩ | hx
  · have hl0 := hw.2.2.2.2.1 i hi4
    have hq0 := hw.2.2.2.2.2 i hi4
    have h8 : (S.2.1 i).2.1.length ≤ 8 := hl0.2.2.2.2.2.1
    have h6 : (S.2.1 i).2.2.length ≤ 6 := hl0.2.2.2.2.2.2
    have h8q : (S.2.2 i).2.2.length ≤ 8 := hq0.2.2.2.2
    refine cc_iload_n (j := 1) dX4_onTheWay_0 rfl rfl ?_
    refine cc_callSi (As := [.int (nI i)]) (rest := []) (ct_X4_noPort cy z _ (nI i)) ok_X4_noPort st_X4_noPort ml_X4_58 nd_X4_noPort (by decide +kernel) (Nat.le_of_ble_eq_true rfl) rfl dX4_onTheWay_1 (fun r2 G1 q3 => ?_)
    obtain ⟨rfl, rfl⟩ := q3
    rw [if_pos (cc_pt hi4)]
    refine cc_if_eq (tgt := 9) dX4_onTheWay_4 (by decide) (fun c_4 => ?_) (fun c_4 => ?_)
    · by_cases hp_ : x2 < 0
      · refine cc_iload_n (j := 2) dX4_onTheWay_9 rfl rfl ?_
        refine cc_if_ge (tgt := 18) dX4_onTheWay_10 (by decide) (fun c_10 => ?_) (fun c_10 => ?_)
        · exact absurd hp_ (Int32.not_lt.mpr c_10)
        · refine cc_bipush (v := (-2)) dX4_onTheWay_13 (by decide) ?_
          refine cc_goto (tgt := 52) dX4_onTheWay_15 (by decide) ?_
          refine cc_iret rfl rfl dX4_onTheWay_52 ?_
          have e : C_onTheWay (nI i) x2 (S, sn, hi, t) = (-2) := by
            unfold C_onTheWay
            rw [if_pos (cc_pt hi4), C_i_n (by omega)]
            dsimp only
            rw [if_pos hp_]
          rw [e]
          
          exact ⟨_, rfl, rfl, ⟨_, _, _, _, _, _, _, _, _, _, _, H, hw, hS, rfl, hP, hl, rfl, hT, h60⟩⟩
      · obtain ⟨p, hpj, rfl⟩ := nI_of hp_
        refine cc_iload_n (j := 2) dX4_onTheWay_9 rfl rfl ?_
        refine cc_if_ge (tgt := 18) dX4_onTheWay_10 (by decide) (fun c_10_1 => ?_) (fun c_10_1 => ?_)
        · refine cc_iload_n (j := 2) dX4_onTheWay_18 rfl rfl ?_
          refine cc_aload_n (j := 0) dX4_onTheWay_19 rfl rfl ?_
          refine cc_iload_n (j := 1) dX4_onTheWay_20 rfl rfl ?_
          refine cc_bipush (v := 10) dX4_onTheWay_21 (by decide) ?_
          refine cc_callVi (As := [.int (nI i), .int 10]) (rest := [.int (nI p)]) (ct_X4_of cy z _ _ _ _ _ _ _ _ _ _ _ _ _ i 10 (by omega) H.self) ok_X4_of (H.2.1) rfl im_X4_of sl_X4_of ml_X4_62 nd_X4_of (by decide +kernel) (Nat.le_of_ble_eq_true rfl) rfl dX4_onTheWay_23 (fun r5 G4 q6 => ?_)
          obtain ⟨rfl, rfl⟩ := q6
          rw [show r (4 + 30 * i + 10) = nI (S.2.1 i).2.2.length from hl0.2.2.1]
          refine cc_icmp_ge (tgt := 50) dX4_onTheWay_26 (by decide) (fun c_26 => ?_) (fun c_26 => ?_)
          · refine cc_bipush (v := (-5)) dX4_onTheWay_50 (by decide) ?_
            refine cc_iret rfl rfl dX4_onTheWay_52 ?_
            have e : C_onTheWay (nI i) (nI p) (S, sn, hi, t) = (-5) := by
              unfold C_onTheWay
              rw [if_pos (cc_pt hi4), C_i_n (by omega)]
              dsimp only
              rw [if_neg hp_, if_neg (Int32.not_lt.mpr c_26)]
            rw [e]
            
            exact ⟨_, rfl, rfl, ⟨_, _, _, _, _, _, _, _, _, _, _, H, hw, hS, rfl, hP, hl, rfl, hT, h60⟩⟩
          · have hlt : p < (S.2.1 i).2.2.length := cc_nlt _ c_26 (by omega)
            refine cc_aload_n (j := 0) dX4_onTheWay_29 rfl rfl ?_
            refine cc_iload_n (j := 1) dX4_onTheWay_30 rfl rfl ?_
            refine cc_bipush (v := 19) dX4_onTheWay_31 (by decide) ?_
            refine cc_iload_n (j := 2) dX4_onTheWay_33 rfl rfl ?_
            refine cc_iadd dX4_onTheWay_34 ?_
            rw [show 19 + (nI p) = nI (19 + p) from nI_add 19 p]
            refine cc_callVi (As := [.int (nI i), .int (nI (19 + p))]) (rest := []) (ct_X4_of cy z _ _ _ _ _ _ _ _ _ _ _ _ _ i (19 + p) (by omega) H.self) ok_X4_of (H.2.1) rfl im_X4_of sl_X4_of ml_X4_62 nd_X4_of (by decide +kernel) (Nat.le_of_ble_eq_true rfl) rfl dX4_onTheWay_35 (fun r8 G7 q9 => ?_)
            obtain ⟨rfl, rfl⟩ := q9
            rw [show r (4 + 30 * i + (19 + p)) = (S.2.1 i).2.2.getD p 0 from ar_at (hl0.2.2.2.2.1 : ar_ (fun k => r (4 + 30 * i + (19 + k))) (S.2.1 i).2.2) hlt]
            refine cc_aload_n (j := 0) dX4_onTheWay_38 rfl rfl ?_
            refine cc_get (v := .ref (o + 1)) H.2.1 cc_c4 0 (by decide) fl_X4_7 rfl dX4_onTheWay_39 ?_
            refine cc_iconst (v := 0) dX4_onTheWay_42 (by decide) ?_
            refine cc_iald (x := r 0) H.2.2.1 (vp_in_nI (n := 0) (by decide) (by decide)) (by rw [show (0 : Int32).toNatClampNeg = 0 from rfl]) dX4_onTheWay_43 ?_
            rw [show r 0 = S.1 0 from hw.1]
            refine cc_isub dX4_onTheWay_44 ?_
            refine cc_iconst (v := 1) dX4_onTheWay_45 (by decide) ?_
            refine cc_iadd dX4_onTheWay_46 ?_
            refine cc_goto (tgt := 52) dX4_onTheWay_47 (by decide) ?_
            refine cc_iret rfl rfl dX4_onTheWay_52 ?_
            have e : C_onTheWay (nI i) (nI p) (S, sn, hi, t) = (S.2.1 i).2.2.getD p 0 - S.1 0 + 1 := by
              unfold C_onTheWay
              rw [if_pos (cc_pt hi4), C_i_n (by omega)]
              dsimp only
              rw [if_neg hp_, if_pos (Int32.not_le.mp c_26), C_i_n hpj]
            rw [e]
            
            exact ⟨_, rfl, rfl, ⟨_, _, _, _, _, _, _, _, _, _, _, H, hw, hS, rfl, hP, hl, rfl, hT, h60⟩⟩
        · exact absurd (Int32.not_le.mp c_10_1) hp_
    · exact absurd c_4 (by decide)
  · refine cc_iload_n (j := 1) dX4_onTheWay_0 rfl rfl ?_
    refine cc_callSi (As := [.int x1]) (rest := []) (ct_X4_noPort cy z _ x1) ok_X4_noPort st_X4_noPort ml_X4_58 nd_X4_noPort (by decide +kernel) (Nat.le_of_ble_eq_true rfl) rfl dX4_onTheWay_1 (fun r11 G10 q12 => ?_)
    obtain ⟨rfl, rfl⟩ := q12
    rw [if_neg hx]
    refine cc_if_eq (tgt := 9) dX4_onTheWay_4 (by decide) (fun c_4_1 => ?_) (fun c_4_1 => ?_)
    · exact absurd c_4_1 (by decide)
    · refine cc_iconst (v := (-1)) dX4_onTheWay_7 (by decide) ?_
      refine cc_iret rfl rfl dX4_onTheWay_8 ?_
      have e : C_onTheWay x1 x2 (S, sn, hi, t) = (-1) := by
        unfold C_onTheWay
        
        rw [if_neg hx]
      rw [e]
      
      exact ⟨_, rfl, rfl, ⟨_, _, _, _, _, _, _, _, _, _, _, H, hw, hS, rfl, hP, hl, rfl, hT, h60⟩⟩

set_option maxHeartbeats 4000000 in
set_option maxRecDepth 100000 in
theorem ct_X4_input (cy : Nat → ClassId) (z : Nat) (G : cc_G) (o : Nat) (c : CS_) (x1 x2 : Int32)  (hI : ma_I cy G G o c) : cc_Cn cy Y_X4_input [.ref o, .int x1, .int x2] z G (cc_qi (fun r9 G' => r9 = C_input x1 x2 c ∧ ma_I cy G G' o c)) := by
  obtain ⟨S, sn, hi, t⟩ := c
  obtain ⟨r, pa, qa, be, nn, ia, tx, le, ay, hs, so, H, hw, hS, hnn, hP, hl, hle, hT, h60⟩ := hI
  have H : mo_R cy G G o r pa qa be nn ia tx le ay hs so := H
  have hw : rw_I r S := hw
  have hS : ma_S ia qa sn := hS
  have hnn : nn = nI hi.length := hnn
  have hP : ma_P pa hi := hP
  have hl : hi.length ≤ 4 := hl
  have hle : le = nI t.length := hle
  have hT : ar_ tx t := hT
  have h60 : t.length ≤ 60 := h60
  subst hnn
  subst hle
  refine cc_enter ok_X4_input (Nat.le_of_ble_eq_true rfl) (ls := [(0, .ref o), (1, .int x1), (2, .int x2)]) rfl ?_
  rcases cc_port x1 with ⟨i, hi4, rfl⟩ | hx
  · have hl0 := hw.2.2.2.2.1 i hi4
    have hq0 := hw.2.2.2.2.2 i hi4
    have h8 : (S.2.1 i).2.1.length ≤ 8 := hl0.2.2.2.2.2.1
    have h6 : (S.2.1 i).2.2.length ≤ 6 := hl0.2.2.2.2.2.2
    have h8q : (S.2.2 i).2.2.length ≤ 8 := hq0.2.2.2.2
    refine cc_iload_n (j := 1) dX4_input_0 rfl rfl ?_
    refine cc_callSi (As := [.int (nI i)]) (rest := []) (ct_X4_noPort cy z _ (nI i)) ok_X4_noPort st_X4_noPort ml_X4_58 nd_X4_noPort (by decide +kernel) (Nat.le_of_ble_eq_true rfl) rfl dX4_input_1 (fun r2 G1 q3 => ?_)
    obtain ⟨rfl, rfl⟩ := q3
    rw [if_pos (cc_pt hi4)]
    refine cc_if_eq (tgt := 9) dX4_input_4 (by decide) (fun c_4 => ?_) (fun c_4 => ?_)
    · refine cc_iload_n (j := 2) dX4_input_9 rfl rfl ?_
      rcases cc_sw3 x2 with rfl | rfl | rfl | rfl | c_10
      · refine cc_tableIn (off := 30) (tgt := 40) dX4_input_10 (by decide) (by decide) rfl (by decide) ?_
        refine cc_aload_n (j := 0) dX4_input_40 rfl rfl ?_
        refine cc_iload_n (j := 1) dX4_input_41 rfl rfl ?_
        refine cc_iconst (v := 0) dX4_input_42 (by decide) ?_
        refine cc_callVi (As := [.int (nI i), .int 0]) (rest := []) (ct_X4_by cy z _ _ _ _ _ _ _ _ _ _ _ _ _ i 0 (by omega) H.self) ok_X4_by (H.2.1) rfl im_X4_by sl_X4_by ml_X4_69 nd_X4_by (by decide +kernel) (Nat.le_of_ble_eq_true rfl) rfl dX4_input_43 (fun r5 G4 q6 => ?_)
        obtain ⟨rfl, rfl⟩ := q6
        rw [show r (124 + 27 * i + 0) = nI (S.2.2 i).2.2.length from hq0.1]
        refine cc_iret rfl rfl dX4_input_46 ?_
        have e : C_input (nI i) 0 (S, sn, hi, t) = nI (S.2.2 i).2.2.length := by
          unfold C_input
          rw [if_pos (cc_pt hi4), C_i_n (by omega)]
          show Q_fig 0 (S.2.2 i) = _
          unfold Q_fig
          rw [if_pos rfl]
        rw [e]
        exact ⟨_, rfl, rfl, ⟨_, _, _, _, _, _, _, _, _, _, _, H, hw, hS, rfl, hP, hl, rfl, hT, h60⟩⟩
      · refine cc_tableIn (off := 37) (tgt := 47) dX4_input_10 (by decide) (by decide) rfl (by decide) ?_
        refine cc_aload_n (j := 0) dX4_input_47 rfl rfl ?_
        refine cc_iload_n (j := 1) dX4_input_48 rfl rfl ?_
        refine cc_iconst (v := 1) dX4_input_49 (by decide) ?_
        refine cc_callVi (As := [.int (nI i), .int 1]) (rest := []) (ct_X4_by cy z _ _ _ _ _ _ _ _ _ _ _ _ _ i 1 (by omega) H.self) ok_X4_by (H.2.1) rfl im_X4_by sl_X4_by ml_X4_69 nd_X4_by (by decide +kernel) (Nat.le_of_ble_eq_true rfl) rfl dX4_input_50 (fun r8 G7 q9 => ?_)
        obtain ⟨rfl, rfl⟩ := q9
        rw [show r (124 + 27 * i + 1) = (S.2.2 i).1 from hq0.2.1]
        refine cc_iret rfl rfl dX4_input_53 ?_
        have e : C_input (nI i) 1 (S, sn, hi, t) = (S.2.2 i).1 := by
          unfold C_input
          rw [if_pos (cc_pt hi4), C_i_n (by omega)]
          show Q_fig 1 (S.2.2 i) = _
          unfold Q_fig
          rw [if_neg (by decide), if_pos rfl]
        rw [e]
        exact ⟨_, rfl, rfl, ⟨_, _, _, _, _, _, _, _, _, _, _, H, hw, hS, rfl, hP, hl, rfl, hT, h60⟩⟩
      · refine cc_tableIn (off := 44) (tgt := 54) dX4_input_10 (by decide) (by decide) rfl (by decide) ?_
        refine cc_aload_n (j := 0) dX4_input_54 rfl rfl ?_
        refine cc_iload_n (j := 1) dX4_input_55 rfl rfl ?_
        refine cc_iconst (v := 2) dX4_input_56 (by decide) ?_
        refine cc_callVi (As := [.int (nI i), .int 2]) (rest := []) (ct_X4_by cy z _ _ _ _ _ _ _ _ _ _ _ _ _ i 2 (by omega) H.self) ok_X4_by (H.2.1) rfl im_X4_by sl_X4_by ml_X4_69 nd_X4_by (by decide +kernel) (Nat.le_of_ble_eq_true rfl) rfl dX4_input_57 (fun r11 G10 q12 => ?_)
        obtain ⟨rfl, rfl⟩ := q12
        rw [show r (124 + 27 * i + 2) = (S.2.2 i).2.1 from hq0.2.2.1]
        refine cc_iret rfl rfl dX4_input_60 ?_
        have e : C_input (nI i) 2 (S, sn, hi, t) = (S.2.2 i).2.1 := by
          unfold C_input
          rw [if_pos (cc_pt hi4), C_i_n (by omega)]
          show Q_fig 2 (S.2.2 i) = _
          unfold Q_fig
          rw [if_neg (by decide), if_neg (by decide), if_pos rfl]
        rw [e]
        exact ⟨_, rfl, rfl, ⟨_, _, _, _, _, _, _, _, _, _, _, H, hw, hS, rfl, hP, hl, rfl, hT, h60⟩⟩
      · refine cc_tableIn (off := 51) (tgt := 61) dX4_input_10 (by decide) (by decide) rfl (by decide) ?_
        refine cc_aload_n (j := 0) dX4_input_61 rfl rfl ?_
        refine cc_iload_n (j := 1) dX4_input_62 rfl rfl ?_
        refine cc_iconst (v := 0) dX4_input_63 (by decide) ?_
        refine cc_callVi (As := [.int (nI i), .int 0]) (rest := []) (ct_X4_by cy z _ _ _ _ _ _ _ _ _ _ _ _ _ i 0 (by omega) H.self) ok_X4_by (H.2.1) rfl im_X4_by sl_X4_by ml_X4_69 nd_X4_by (by decide +kernel) (Nat.le_of_ble_eq_true rfl) rfl dX4_input_64 (fun r14 G13 q15 => ?_)
        obtain ⟨rfl, rfl⟩ := q15
        rw [show r (124 + 27 * i + 0) = nI (S.2.2 i).2.2.length from hq0.1]
        refine cc_if_ne (tgt := 75) dX4_input_67 (by decide) (fun c_67 => ?_) (fun c_67 => ?_)
        · have hz : ¬ (S.2.2 i).2.2.length = 0 := fun q => c_67 (by rw [q]; rfl)
          refine cc_aload_n (j := 0) dX4_input_75 rfl rfl ?_
          refine cc_iload_n (j := 1) dX4_input_76 rfl rfl ?_
          refine cc_iconst (v := 4) dX4_input_77 (by decide) ?_
          refine cc_callVi (As := [.int (nI i), .int 4]) (rest := []) (ct_X4_by cy z _ _ _ _ _ _ _ _ _ _ _ _ _ i 4 (by omega) H.self) ok_X4_by (H.2.1) rfl im_X4_by sl_X4_by ml_X4_69 nd_X4_by (by decide +kernel) (Nat.le_of_ble_eq_true rfl) rfl dX4_input_78 (fun r17 G16 q18 => ?_)
          obtain ⟨rfl, rfl⟩ := q18
          rw [show r (124 + 27 * i + 4) = ((S.2.2 i).2.2.getD 0 (0, 0, 0)).2.1 from (rq_at hq0 (k := 0) (show 0 < (S.2.2 i).2.2.length by omega)).2.1]
          refine cc_iret rfl rfl dX4_input_81 ?_
          have e : C_input (nI i) 3 (S, sn, hi, t) = ((S.2.2 i).2.2.getD 0 (0, 0, 0)).2.1 := by
            unfold C_input
            rw [if_pos (cc_pt hi4), C_i_n (by omega)]
            show Q_fig 3 (S.2.2 i) = _
            unfold Q_fig
            rw [if_neg (by decide), if_neg (by decide), if_neg (by decide), if_pos rfl, if_neg hz]
          rw [e]
          exact ⟨_, rfl, rfl, ⟨_, _, _, _, _, _, _, _, _, _, _, H, hw, hS, rfl, hP, hl, rfl, hT, h60⟩⟩
        · have hz : (S.2.2 i).2.2.length = 0 := (cc_e0 (by omega)).mp c_67
          refine cc_bipush (v := (-5)) dX4_input_70 (by decide) ?_
          refine cc_goto (tgt := 81) dX4_input_72 (by decide) ?_
          refine cc_iret rfl rfl dX4_input_81 ?_
          have e : C_input (nI i) 3 (S, sn, hi, t) = (-5) := by
            unfold C_input
            rw [if_pos (cc_pt hi4), C_i_n (by omega)]
            show Q_fig 3 (S.2.2 i) = _
            unfold Q_fig
            rw [if_neg (by decide), if_neg (by decide), if_neg (by decide), if_pos rfl, if_pos hz]
          rw [e]
          exact ⟨_, rfl, rfl, ⟨_, _, _, _, _, _, _, _, _, _, _, H, hw, hS, rfl, hP, hl, rfl, hT, h60⟩⟩
      · refine cc_tableOut (tgt := 82) dX4_input_10 c_10 (by decide) ?_
        refine cc_bipush (v := (-2)) dX4_input_82 (by decide) ?_
        refine cc_iret rfl rfl dX4_input_84 ?_
        have e : C_input (nI i) x2 (S, sn, hi, t) = (-2) := by
          unfold C_input Q_fig
          rw [if_pos (cc_pt hi4), if_neg (fun q => by subst q; exact absurd c_10 (by decide)), if_neg (fun q => by subst q; exact absurd c_10 (by decide)), if_neg (fun q => by subst q; exact absurd c_10 (by decide)), if_neg (fun q => by subst q; exact absurd c_10 (by decide))]
        rw [e]
        exact ⟨_, rfl, rfl, ⟨_, _, _, _, _, _, _, _, _, _, _, H, hw, hS, rfl, hP, hl, rfl, hT, h60⟩⟩
    · exact absurd c_4 (by decide)
  · refine cc_iload_n (j := 1) dX4_input_0 rfl rfl ?_
    refine cc_callSi (As := [.int x1]) (rest := []) (ct_X4_noPort cy z _ x1) ok_X4_noPort st_X4_noPort ml_X4_58 nd_X4_noPort (by decide +kernel) (Nat.le_of_ble_eq_true rfl) rfl dX4_input_1 (fun r20 G19 q21 => ?_)
    obtain ⟨rfl, rfl⟩ := q21
    rw [if_neg hx]
    refine cc_if_eq (tgt := 9) dX4_input_4 (by decide) (fun c_4_1 => ?_) (fun c_4_1 => ?_)
    · exact absurd c_4_1 (by decide)
    · refine cc_iconst (v := (-1)) dX4_input_7 (by decide) ?_
      refine cc_iret rfl rfl dX4_input_8 ?_
      have e : C_input x1 x2 (S, sn, hi, t) = (-1) := by
        unfold C_input
        
        rw [if_neg hx]
      rw [e]
      
      exact ⟨_, rfl, rfl, ⟨_, _, _, _, _, _, _, _, _, _, _, H, hw, hS, rfl, hP, hl, rfl, hT, h60⟩⟩

set_option maxHeartbeats 4000000 in
set_option maxRecDepth 100000 in
theorem ct_X4_packet (cy : Nat → ClassId) (z : Nat) (G : cc_G) (o : Nat) (c : CS_) (x1 x2 x3 : Int32)  (hI : ma_I cy G G o c) : cc_Cn cy Y_X4_packet [.ref o, .int x1, .int x2, .int x3] z G (cc_qi (fun r9 G' => r9 = C_packet x1 x2 x3 c ∧ ma_I cy G G' o c)) := by
  obtain ⟨S, sn, hi, t⟩ := c
  obtain ⟨r, pa, qa, be, nn, ia, tx, le, ay, hs, so, H, hw, hS, hnn, hP, hl, hle, hT, h60⟩ := hI
  have H : mo_R cy G G o r pa qa be nn ia tx le ay hs so := H
  have hw : rw_I r S := hw
  have hS : ma_S ia qa sn := hS
  have hnn : nn = nI hi.length := hnn
  have hP : ma_P pa hi := hP
  have hl : hi.length ≤ 4 := hl
  have hle : le = nI t.length := hle
  have hT : ar_ tx t := hT
  have h60 : t.length ≤ 60 := h60
  subst hnn
  subst hle
  refine cc_enter ok_X4_packet (Nat.le_of_ble_eq_true rfl) (ls := [(0, .ref o), (1, .int x1), (2, .int x2), (3, .int x3)]) rfl ?_
  rcases cc_port x1 with ⟨i, hi4, rfl⟩ | hx
  · have hl0 := hw.2.2.2.2.1 i hi4
    have hq0 := hw.2.2.2.2.2 i hi4
    have h8 : (S.2.1 i).2.1.length ≤ 8 := hl0.2.2.2.2.2.1
    have h6 : (S.2.1 i).2.2.length ≤ 6 := hl0.2.2.2.2.2.2
    have h8q : (S.2.2 i).2.2.length ≤ 8 := hq0.2.2.2.2
    refine cc_iload_n (j := 1) dX4_packet_0 rfl rfl ?_
    refine cc_callSi (As := [.int (nI i)]) (rest := []) (ct_X4_noPort cy z _ (nI i)) ok_X4_noPort st_X4_noPort ml_X4_58 nd_X4_noPort (by decide +kernel) (Nat.le_of_ble_eq_true rfl) rfl dX4_packet_1 (fun r2 G1 q3 => ?_)
    obtain ⟨rfl, rfl⟩ := q3
    rw [if_pos (cc_pt hi4)]
    refine cc_if_eq (tgt := 9) dX4_packet_4 (by decide) (fun c_4 => ?_) (fun c_4 => ?_)
    · by_cases hp_ : x2 < 0
      · refine cc_iload_n (j := 2) dX4_packet_9 rfl rfl ?_
        refine cc_if_lt (tgt := 22) dX4_packet_10 (by decide) (fun c_10 => ?_) (fun c_10 => ?_)
        · refine cc_bipush (v := (-2)) dX4_packet_22 (by decide) ?_
          refine cc_iret rfl rfl dX4_packet_24 ?_
          have e : C_packet (nI i) x2 x3 (S, sn, hi, t) = (-2) := by
            unfold C_packet
            rw [if_pos (cc_pt hi4), C_i_n (by omega)]
            dsimp only
            rw [if_pos (Or.inl hp_)]
          rw [e]
          
          exact ⟨_, rfl, rfl, ⟨_, _, _, _, _, _, _, _, _, _, _, H, hw, hS, rfl, hP, hl, rfl, hT, h60⟩⟩
        · exact absurd hp_ c_10
      · obtain ⟨p, hpj, rfl⟩ := nI_of hp_
        refine cc_iload_n (j := 2) dX4_packet_9 rfl rfl ?_
        refine cc_if_lt (tgt := 22) dX4_packet_10 (by decide) (fun c_10_1 => ?_) (fun c_10_1 => ?_)
        · exact absurd c_10_1 hp_
        · rcases mo_w2 x3 with rfl | rfl | rfl | hw_
          · refine cc_iload_n (j := 3) dX4_packet_13 rfl rfl ?_
            refine cc_iconst (v := 0) dX4_packet_14 (by decide) ?_
            refine cc_iconst (v := 2) dX4_packet_15 (by decide) ?_
            refine cc_callSi (As := [.int 0, .int 0, .int 2]) (rest := []) (ct_X4_in cy z _ 0 0 2) ok_X4_in st_X4_in ml_X4_37 nd_X4_in (by decide +kernel) (Nat.le_of_ble_eq_true rfl) rfl dX4_packet_16 (fun r5 G4 q6 => ?_)
            obtain ⟨rfl, rfl⟩ := q6
            rw [if_pos (show ((0 : Int32) ≤ 0 ∧ (0 : Int32) ≤ 2) from (by decide))]
            refine cc_if_ne (tgt := 25) dX4_packet_19 (by decide) (fun c_19 => ?_) (fun c_19 => ?_)
            · refine cc_iload_n (j := 2) dX4_packet_25 rfl rfl ?_
              refine cc_aload_n (j := 0) dX4_packet_26 rfl rfl ?_
              refine cc_iload_n (j := 1) dX4_packet_27 rfl rfl ?_
              refine cc_iconst (v := 0) dX4_packet_28 (by decide) ?_
              refine cc_callVi (As := [.int (nI i), .int 0]) (rest := [.int (nI p)]) (ct_X4_by cy z _ _ _ _ _ _ _ _ _ _ _ _ _ i 0 (by omega) H.self) ok_X4_by (H.2.1) rfl im_X4_by sl_X4_by ml_X4_69 nd_X4_by (by decide +kernel) (Nat.le_of_ble_eq_true rfl) rfl dX4_packet_29 (fun r8 G7 q9 => ?_)
              obtain ⟨rfl, rfl⟩ := q9
              rw [show r (124 + 27 * i + 0) = nI (S.2.2 i).2.2.length from hq0.1]
              refine cc_icmp_ge (tgt := 50) dX4_packet_32 (by decide) (fun c_32 => ?_) (fun c_32 => ?_)
              · refine cc_bipush (v := (-5)) dX4_packet_50 (by decide) ?_
                refine cc_iret rfl rfl dX4_packet_52 ?_
                have e : C_packet (nI i) (nI p) 0 (S, sn, hi, t) = (-5) := by
                  unfold C_packet
                  rw [if_pos (cc_pt hi4), C_i_n (by omega)]
                  dsimp only
                  rw [if_neg (show ¬ (nI p < 0 ∨ (0 : Int32) < 0 ∨ (2 : Int32) < 0) from fun h => h.elim hp_ (fun h => absurd h (by decide))), if_pos c_32]
                rw [e]
                
                exact ⟨_, rfl, rfl, ⟨_, _, _, _, _, _, _, _, _, _, _, H, hw, hS, rfl, hP, hl, rfl, hT, h60⟩⟩
              · have hlt : p < (S.2.2 i).2.2.length := cc_nlt _ c_32 (by omega)
                refine cc_aload_n (j := 0) dX4_packet_35 rfl rfl ?_
                refine cc_iload_n (j := 1) dX4_packet_36 rfl rfl ?_
                refine cc_iconst (v := 3) dX4_packet_37 (by decide) ?_
                refine cc_iconst (v := 3) dX4_packet_38 (by decide) ?_
                refine cc_iload_n (j := 2) dX4_packet_39 rfl rfl ?_
                refine cc_imul dX4_packet_40 ?_
                rw [show 3 * (nI p) = nI (3 * p) from pk_mul 3 p]
                refine cc_iadd dX4_packet_41 ?_
                rw [show 3 + (nI (3 * p)) = nI (3 + 3 * p) from nI_add 3 (3 * p)]
                refine cc_iload_n (j := 3) dX4_packet_42 rfl rfl ?_
                refine cc_iadd dX4_packet_43 ?_
                rw [show (nI (3 + 3 * p)) + 0 = nI (3 + 3 * p + 0) from nI_add (3 + 3 * p) 0]
                refine cc_callVi (As := [.int (nI i), .int (nI (3 + 3 * p + 0))]) (rest := []) (ct_X4_by cy z _ _ _ _ _ _ _ _ _ _ _ _ _ i (3 + 3 * p + 0) (by omega) H.self) ok_X4_by (H.2.1) rfl im_X4_by sl_X4_by ml_X4_69 nd_X4_by (by decide +kernel) (Nat.le_of_ble_eq_true rfl) rfl dX4_packet_44 (fun r11 G10 q12 => ?_)
                obtain ⟨rfl, rfl⟩ := q12
                rw [show r (124 + 27 * i + (3 + 3 * p + 0)) = ((S.2.2 i).2.2.getD p (0, 0, 0)).1 from (rq_at hq0 hlt).1]
                refine cc_goto (tgt := 52) dX4_packet_47 (by decide) ?_
                refine cc_iret rfl rfl dX4_packet_52 ?_
                have e : C_packet (nI i) (nI p) 0 (S, sn, hi, t) = ((S.2.2 i).2.2.getD p (0, 0, 0)).1 := by
                  unfold C_packet
                  rw [if_pos (cc_pt hi4), C_i_n (by omega)]
                  dsimp only
                  rw [if_neg (show ¬ (nI p < 0 ∨ (0 : Int32) < 0 ∨ (2 : Int32) < 0) from fun h => h.elim hp_ (fun h => absurd h (by decide))), if_neg c_32, if_pos rfl, C_i_n hpj]
                rw [e]
                
                exact ⟨_, rfl, rfl, ⟨_, _, _, _, _, _, _, _, _, _, _, H, hw, hS, rfl, hP, hl, rfl, hT, h60⟩⟩
            · exact absurd c_19 (by decide)
          · refine cc_iload_n (j := 3) dX4_packet_13 rfl rfl ?_
            refine cc_iconst (v := 0) dX4_packet_14 (by decide) ?_
            refine cc_iconst (v := 2) dX4_packet_15 (by decide) ?_
            refine cc_callSi (As := [.int 1, .int 0, .int 2]) (rest := []) (ct_X4_in cy z _ 1 0 2) ok_X4_in st_X4_in ml_X4_37 nd_X4_in (by decide +kernel) (Nat.le_of_ble_eq_true rfl) rfl dX4_packet_16 (fun r14 G13 q15 => ?_)
            obtain ⟨rfl, rfl⟩ := q15
            rw [if_pos (show ((0 : Int32) ≤ 1 ∧ (1 : Int32) ≤ 2) from (by decide))]
            refine cc_if_ne (tgt := 25) dX4_packet_19 (by decide) (fun c_19_1 => ?_) (fun c_19_1 => ?_)
            · refine cc_iload_n (j := 2) dX4_packet_25 rfl rfl ?_
              refine cc_aload_n (j := 0) dX4_packet_26 rfl rfl ?_
              refine cc_iload_n (j := 1) dX4_packet_27 rfl rfl ?_
              refine cc_iconst (v := 0) dX4_packet_28 (by decide) ?_
              refine cc_callVi (As := [.int (nI i), .int 0]) (rest := [.int (nI p)]) (ct_X4_by cy z _ _ _ _ _ _ _ _ _ _ _ _ _ i 0 (by omega) H.self) ok_X4_by (H.2.1) rfl im_X4_by sl_X4_by ml_X4_69 nd_X4_by (by decide +kernel) (Nat.le_of_ble_eq_true rfl) rfl dX4_packet_29 (fun r17 G16 q18 => ?_)
              obtain ⟨rfl, rfl⟩ := q18
              rw [show r (124 + 27 * i + 0) = nI (S.2.2 i).2.2.length from hq0.1]
              refine cc_icmp_ge (tgt := 50) dX4_packet_32 (by decide) (fun c_32_1 => ?_) (fun c_32_1 => ?_)
              · refine cc_bipush (v := (-5)) dX4_packet_50 (by decide) ?_
                refine cc_iret rfl rfl dX4_packet_52 ?_
                have e : C_packet (nI i) (nI p) 1 (S, sn, hi, t) = (-5) := by
                  unfold C_packet
                  rw [if_pos (cc_pt hi4), C_i_n (by omega)]
                  dsimp only
                  rw [if_neg (show ¬ (nI p < 0 ∨ (1 : Int32) < 0 ∨ (2 : Int32) < 1) from fun h => h.elim hp_ (fun h => absurd h (by decide))), if_pos c_32_1]
                rw [e]
                
                exact ⟨_, rfl, rfl, ⟨_, _, _, _, _, _, _, _, _, _, _, H, hw, hS, rfl, hP, hl, rfl, hT, h60⟩⟩
              · have hlt : p < (S.2.2 i).2.2.length := cc_nlt _ c_32_1 (by omega)
                refine cc_aload_n (j := 0) dX4_packet_35 rfl rfl ?_
                refine cc_iload_n (j := 1) dX4_packet_36 rfl rfl ?_
                refine cc_iconst (v := 3) dX4_packet_37 (by decide) ?_
                refine cc_iconst (v := 3) dX4_packet_38 (by decide) ?_
                refine cc_iload_n (j := 2) dX4_packet_39 rfl rfl ?_
                refine cc_imul dX4_packet_40 ?_
                rw [show 3 * (nI p) = nI (3 * p) from pk_mul 3 p]
                refine cc_iadd dX4_packet_41 ?_
                rw [show 3 + (nI (3 * p)) = nI (3 + 3 * p) from nI_add 3 (3 * p)]
                refine cc_iload_n (j := 3) dX4_packet_42 rfl rfl ?_
                refine cc_iadd dX4_packet_43 ?_
                rw [show (nI (3 + 3 * p)) + 1 = nI (3 + 3 * p + 1) from nI_add (3 + 3 * p) 1]
                refine cc_callVi (As := [.int (nI i), .int (nI (3 + 3 * p + 1))]) (rest := []) (ct_X4_by cy z _ _ _ _ _ _ _ _ _ _ _ _ _ i (3 + 3 * p + 1) (by omega) H.self) ok_X4_by (H.2.1) rfl im_X4_by sl_X4_by ml_X4_69 nd_X4_by (by decide +kernel) (Nat.le_of_ble_eq_true rfl) rfl dX4_packet_44 (fun r20 G19 q21 => ?_)
                obtain ⟨rfl, rfl⟩ := q21
                rw [show r (124 + 27 * i + (3 + 3 * p + 1)) = ((S.2.2 i).2.2.getD p (0, 0, 0)).2.1 from (rq_at hq0 hlt).2.1]
                refine cc_goto (tgt := 52) dX4_packet_47 (by decide) ?_
                refine cc_iret rfl rfl dX4_packet_52 ?_
                have e : C_packet (nI i) (nI p) 1 (S, sn, hi, t) = ((S.2.2 i).2.2.getD p (0, 0, 0)).2.1 := by
                  unfold C_packet
                  rw [if_pos (cc_pt hi4), C_i_n (by omega)]
                  dsimp only
                  rw [if_neg (show ¬ (nI p < 0 ∨ (1 : Int32) < 0 ∨ (2 : Int32) < 1) from fun h => h.elim hp_ (fun h => absurd h (by decide))), if_neg c_32_1, if_neg (by decide), if_pos rfl, C_i_n hpj]
                rw [e]
                
                exact ⟨_, rfl, rfl, ⟨_, _, _, _, _, _, _, _, _, _, _, H, hw, hS, rfl, hP, hl, rfl, hT, h60⟩⟩
            · exact absurd c_19_1 (by decide)
          · refine cc_iload_n (j := 3) dX4_packet_13 rfl rfl ?_
            refine cc_iconst (v := 0) dX4_packet_14 (by decide) ?_
            refine cc_iconst (v := 2) dX4_packet_15 (by decide) ?_
            refine cc_callSi (As := [.int 2, .int 0, .int 2]) (rest := []) (ct_X4_in cy z _ 2 0 2) ok_X4_in st_X4_in ml_X4_37 nd_X4_in (by decide +kernel) (Nat.le_of_ble_eq_true rfl) rfl dX4_packet_16 (fun r23 G22 q24 => ?_)
            obtain ⟨rfl, rfl⟩ := q24
            rw [if_pos (show ((0 : Int32) ≤ 2 ∧ (2 : Int32) ≤ 2) from (by decide))]
            refine cc_if_ne (tgt := 25) dX4_packet_19 (by decide) (fun c_19_2 => ?_) (fun c_19_2 => ?_)
            · refine cc_iload_n (j := 2) dX4_packet_25 rfl rfl ?_
              refine cc_aload_n (j := 0) dX4_packet_26 rfl rfl ?_
              refine cc_iload_n (j := 1) dX4_packet_27 rfl rfl ?_
              refine cc_iconst (v := 0) dX4_packet_28 (by decide) ?_
              refine cc_callVi (As := [.int (nI i), .int 0]) (rest := [.int (nI p)]) (ct_X4_by cy z _ _ _ _ _ _ _ _ _ _ _ _ _ i 0 (by omega) H.self) ok_X4_by (H.2.1) rfl im_X4_by sl_X4_by ml_X4_69 nd_X4_by (by decide +kernel) (Nat.le_of_ble_eq_true rfl) rfl dX4_packet_29 (fun r26 G25 q27 => ?_)
              obtain ⟨rfl, rfl⟩ := q27
              rw [show r (124 + 27 * i + 0) = nI (S.2.2 i).2.2.length from hq0.1]
              refine cc_icmp_ge (tgt := 50) dX4_packet_32 (by decide) (fun c_32_2 => ?_) (fun c_32_2 => ?_)
              · refine cc_bipush (v := (-5)) dX4_packet_50 (by decide) ?_
                refine cc_iret rfl rfl dX4_packet_52 ?_
                have e : C_packet (nI i) (nI p) 2 (S, sn, hi, t) = (-5) := by
                  unfold C_packet
                  rw [if_pos (cc_pt hi4), C_i_n (by omega)]
                  dsimp only
                  rw [if_neg (show ¬ (nI p < 0 ∨ (2 : Int32) < 0 ∨ (2 : Int32) < 2) from fun h => h.elim hp_ (fun h => absurd h (by decide))), if_pos c_32_2]
                rw [e]
                
                exact ⟨_, rfl, rfl, ⟨_, _, _, _, _, _, _, _, _, _, _, H, hw, hS, rfl, hP, hl, rfl, hT, h60⟩⟩
              · have hlt : p < (S.2.2 i).2.2.length := cc_nlt _ c_32_2 (by omega)
                refine cc_aload_n (j := 0) dX4_packet_35 rfl rfl ?_
                refine cc_iload_n (j := 1) dX4_packet_36 rfl rfl ?_
                refine cc_iconst (v := 3) dX4_packet_37 (by decide) ?_
                refine cc_iconst (v := 3) dX4_packet_38 (by decide) ?_
                refine cc_iload_n (j := 2) dX4_packet_39 rfl rfl ?_
                refine cc_imul dX4_packet_40 ?_
                rw [show 3 * (nI p) = nI (3 * p) from pk_mul 3 p]
                refine cc_iadd dX4_packet_41 ?_
                rw [show 3 + (nI (3 * p)) = nI (3 + 3 * p) from nI_add 3 (3 * p)]
                refine cc_iload_n (j := 3) dX4_packet_42 rfl rfl ?_
                refine cc_iadd dX4_packet_43 ?_
                rw [show (nI (3 + 3 * p)) + 2 = nI (3 + 3 * p + 2) from nI_add (3 + 3 * p) 2]
                refine cc_callVi (As := [.int (nI i), .int (nI (3 + 3 * p + 2))]) (rest := []) (ct_X4_by cy z _ _ _ _ _ _ _ _ _ _ _ _ _ i (3 + 3 * p + 2) (by omega) H.self) ok_X4_by (H.2.1) rfl im_X4_by sl_X4_by ml_X4_69 nd_X4_by (by decide +kernel) (Nat.le_of_ble_eq_true rfl) rfl dX4_packet_44 (fun r29 G28 q30 => ?_)
                obtain ⟨rfl, rfl⟩ := q30
                rw [show r (124 + 27 * i + (3 + 3 * p + 2)) = ((S.2.2 i).2.2.getD p (0, 0, 0)).2.2 from (rq_at hq0 hlt).2.2]
                refine cc_goto (tgt := 52) dX4_packet_47 (by decide) ?_
                refine cc_iret rfl rfl dX4_packet_52 ?_
                have e : C_packet (nI i) (nI p) 2 (S, sn, hi, t) = ((S.2.2 i).2.2.getD p (0, 0, 0)).2.2 := by
                  unfold C_packet
                  rw [if_pos (cc_pt hi4), C_i_n (by omega)]
                  dsimp only
                  rw [if_neg (show ¬ (nI p < 0 ∨ (2 : Int32) < 0 ∨ (2 : Int32) < 2) from fun h => h.elim hp_ (fun h => absurd h (by decide))), if_neg c_32_2, if_neg (by decide), if_neg (by decide), C_i_n hpj]
                rw [e]
                
                exact ⟨_, rfl, rfl, ⟨_, _, _, _, _, _, _, _, _, _, _, H, hw, hS, rfl, hP, hl, rfl, hT, h60⟩⟩
            · exact absurd c_19_2 (by decide)
          · refine cc_iload_n (j := 3) dX4_packet_13 rfl rfl ?_
            refine cc_iconst (v := 0) dX4_packet_14 (by decide) ?_
            refine cc_iconst (v := 2) dX4_packet_15 (by decide) ?_
            refine cc_callSi (As := [.int x3, .int 0, .int 2]) (rest := []) (ct_X4_in cy z _ x3 0 2) ok_X4_in st_X4_in ml_X4_37 nd_X4_in (by decide +kernel) (Nat.le_of_ble_eq_true rfl) rfl dX4_packet_16 (fun r32 G31 q33 => ?_)
            obtain ⟨rfl, rfl⟩ := q33
            rw [if_neg (show ¬ ((0 : Int32) ≤ x3 ∧ (x3 : Int32) ≤ 2) from hw_)]
            refine cc_if_ne (tgt := 25) dX4_packet_19 (by decide) (fun c_19_3 => ?_) (fun c_19_3 => ?_)
            · exact absurd c_19_3 (by decide)
            · refine cc_bipush (v := (-2)) dX4_packet_22 (by decide) ?_
              refine cc_iret rfl rfl dX4_packet_24 ?_
              have e : C_packet (nI i) (nI p) x3 (S, sn, hi, t) = (-2) := by
                unfold C_packet
                rw [if_pos (cc_pt hi4), C_i_n (by omega)]
                dsimp only
                rw [if_pos (Or.inr (mo_out hw_))]
              rw [e]
              
              exact ⟨_, rfl, rfl, ⟨_, _, _, _, _, _, _, _, _, _, _, H, hw, hS, rfl, hP, hl, rfl, hT, h60⟩⟩
    · exact absurd c_4 (by decide)
  · refine cc_iload_n (j := 1) dX4_packet_0 rfl rfl ?_
    refine cc_callSi (As := [.int x1]) (rest := []) (ct_X4_noPort cy z _ x1) ok_X4_noPort st_X4_noPort ml_X4_58 nd_X4_noPort (by decide +kernel) (Nat.le_of_ble_eq_true rfl) rfl dX4_packet_1 (fun r35 G34 q36 => ?_)
    obtain ⟨rfl, rfl⟩ := q36
    rw [if_neg hx]
    refine cc_if_eq (tgt := 9) dX4_packet_4 (by decide) (fun c_4_1 => ?_) (fun c_4_1 => ?_)
    · exact absurd c_4_1 (by decide)
    · refine cc_iconst (v := (-1)) dX4_packet_7 (by decide) ?_
      refine cc_iret rfl rfl dX4_packet_8 ?_
      have e : C_packet x1 x2 x3 (S, sn, hi, t) = (-1) := by
        unfold C_packet
        
        rw [if_neg hx]
      rw [e]
      
      exact ⟨_, rfl, rfl, ⟨_, _, _, _, _, _, _, _, _, _, _, H, hw, hS, rfl, hP, hl, rfl, hT, h60⟩⟩
