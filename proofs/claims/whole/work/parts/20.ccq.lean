theorem cc_inn {x : Int32} {n : Nat} (h0 : ¬ x < 0) (h : x < nI n) (hn : n < 2 ^ 31) : x.toNatClampNeg < n := by
  obtain ⟨j, hj, rfl⟩ := nI_of h0
  rw [nI_clamp hj]
  exact (nI_ltI hj hn).mp h

set_option maxHeartbeats 4000000 in
set_option maxRecDepth 100000 in
theorem ct_X3_type (cy : Nat → ClassId) (z : Nat) (G : cc_G) (h : Nat) (c : CS_) (x1 : Int32) (hx1 : vp_nar .char x1 = x1) (hI : ca_I cy G G h c) : cc_Cn cy Y_X3_type [.ref h, .int x1] z G (cc_qi (fun r G' => r = (C_type x1 c).1 ∧ ca_I cy G G' h (C_type x1 c).2)) := by
  obtain ⟨S, sn, hi, t⟩ := c
  obtain ⟨BS, hS, π, tx, H, e0, eS, hP, hH, hl, hT, h60⟩ := hI
  have e0 : S = BS 0 := e0
  have H : ca_R cy G G h BS hS π (nI hi.length) tx (nI t.length) := H
  have eS : ca_S hS BS sn := eS
  have hH : ∀ (i : Nat) (hq : i < hi.length), BS (3 + π i) = hi[i] := hH
  have hl : hi.length ≤ 4 := hl
  have hT : ar_ tx t := hT
  have h60 : t.length ≤ 60 := h60
  refine cc_enter ok_X3_type (Nat.le_of_ble_eq_true rfl) (ls := [(0, .ref h), (1, .int x1)]) rfl ?_
  refine cc_aload_n (j := 0) dX3_type_0 rfl rfl ?_
  refine cc_get (v := .int (nI t.length)) H.2.1 cc_c3 7 (by decide) fl_X3_38 rfl dX3_type_1 ?_
  refine cc_bipush (v := 60) dX3_type_4 (by decide) ?_
  refine cc_icmp_lt (tgt := 12) dX3_type_6 (by decide) (fun c_6 => ?_) (fun c_6 => ?_)
  · have hlt : t.length < 60 := (nI_ltI (b := 60) (by omega) (by decide)).mp c_6
    refine cc_aload_n (j := 0) dX3_type_12 rfl rfl ?_
    refine cc_get (v := .ref (h + 95)) H.2.1 cc_c3 6 (by decide) fl_X3_34 rfl dX3_type_13 ?_
    refine cc_aload_n (j := 0) dX3_type_16 rfl rfl ?_
    refine cc_get (v := .int (nI t.length)) H.2.1 cc_c3 7 (by decide) fl_X3_38 rfl dX3_type_17 ?_
    refine cc_iload_n (j := 1) dX3_type_20 rfl rfl ?_
    refine ca_rchar (j := t.length) H (vp_in_nI (n := t.length) (by omega) (by decide)) (nI_clamp (by omega)) hx1 dX3_type_21 (fun G1 H2 => ?_)
    refine cc_aload_n (j := 0) dX3_type_22 rfl rfl ?_
    refine cc_dup dX3_type_23 rfl ?_
    refine cc_get (v := .int (nI t.length)) H2.2.1 cc_c3 7 (by decide) fl_X3_38 rfl dX3_type_24 ?_
    refine cc_iconst (v := 1) dX3_type_27 (by decide) ?_
    refine cc_iadd dX3_type_28 ?_
    rw [show (nI t.length) + 1 = nI (t ++ [x1]).length from (by rw [List.length_append]; exact nI_1 _)]
    refine ca_rput (hS' := hS) (nH' := (nI hi.length)) (nT' := (nI (t ++ [x1]).length)) H2 cc_c3 7 (by decide) fl_X3_38 rfl rfl rfl rfl rfl dX3_type_29 (fun G3 H4 => ?_)
    refine cc_aload_n (j := 0) dX3_type_32 rfl rfl ?_
    refine cc_get (v := .int (nI (t ++ [x1]).length)) H4.2.1 cc_c3 7 (by decide) fl_X3_38 rfl dX3_type_33 ?_
    refine cc_iret rfl rfl dX3_type_36 ?_
    have e : C_type x1 (S, sn, hi, t) = (nI (t.length + 1), (S, sn, hi, t ++ [x1])) := if_pos hlt
    rw [e]
    refine ⟨_, rfl, ?_, BS, hS, π, _, H4, e0, eS, hP, hH, hl, hT.push x1, ?_⟩
    · show nI (t ++ [x1]).length = nI (t.length + 1)
      rw [List.length_append, List.length_singleton]
    · show (t ++ [x1]).length ≤ 60
      rw [List.length_append, List.length_singleton]
      omega
  · have hlt : ¬ t.length < 60 := fun q => c_6 (nI_lt (b := 60) q (by decide))
    refine cc_bipush (v := (-3)) dX3_type_9 (by decide) ?_
    refine cc_iret rfl rfl dX3_type_11 ?_
    have e : C_type x1 (S, sn, hi, t) = (-3, (S, sn, hi, t)) := if_neg hlt
    rw [e]
    exact ⟨_, rfl, rfl, BS, hS, π, tx, H, e0, eS, hP, hH, hl, hT, h60⟩

set_option maxHeartbeats 4000000 in
set_option maxRecDepth 100000 in
theorem ct_X3_clearText (cy : Nat → ClassId) (z : Nat) (G : cc_G) (h : Nat) (c : CS_)  (hI : ca_I cy G G h c) : cc_Cn cy Y_X3_clearText [.ref h] z G (cc_qi (fun r G' => r = (C_clearText c).1 ∧ ca_I cy G G' h (C_clearText c).2)) := by
  obtain ⟨S, sn, hi, t⟩ := c
  obtain ⟨BS, hS, π, tx, H, e0, eS, hP, hH, hl, hT, h60⟩ := hI
  have e0 : S = BS 0 := e0
  have H : ca_R cy G G h BS hS π (nI hi.length) tx (nI t.length) := H
  have eS : ca_S hS BS sn := eS
  have hH : ∀ (i : Nat) (hq : i < hi.length), BS (3 + π i) = hi[i] := hH
  have hl : hi.length ≤ 4 := hl
  have hT : ar_ tx t := hT
  have h60 : t.length ≤ 60 := h60
  refine cc_enter ok_X3_clearText (Nat.le_of_ble_eq_true rfl) (ls := [(0, .ref h)]) rfl ?_
  refine cc_aload_n (j := 0) dX3_clearText_0 rfl rfl ?_
  refine cc_get (v := .int (nI t.length)) H.2.1 cc_c3 7 (by decide) fl_X3_38 rfl dX3_clearText_1 ?_
  refine cc_istore_n (ls' := [(1, .int (nI t.length)), (0, .ref h)]) dX3_clearText_4 rfl (Nat.le_of_ble_eq_true rfl) rfl ?_
  refine cc_aload_n (j := 1) dX3_clearText_5 rfl rfl ?_
  refine cc_iconst (v := 0) dX3_clearText_6 (by decide) ?_
  refine ca_rput (hS' := hS) (nH' := (nI hi.length)) (nT' := 0) H cc_c3 7 (by decide) fl_X3_38 rfl rfl rfl rfl rfl dX3_clearText_7 (fun G1 H2 => ?_)
  refine cc_iload_n (j := 0) dX3_clearText_10 rfl rfl ?_
  refine cc_iret rfl rfl dX3_clearText_11 ?_
  exact ⟨_, rfl, rfl, BS, hS, π, tx, H2, e0, eS, hP, hH, hl, ar_.nil, Nat.zero_le _⟩

set_option maxHeartbeats 4000000 in
set_option maxRecDepth 100000 in
theorem ct_X3_undo (cy : Nat → ClassId) (z : Nat) (G : cc_G) (h : Nat) (c : CS_)  (hI : ca_I cy G G h c) : cc_Cn cy Y_X3_undo [.ref h] z G (cc_qi (fun r G' => r = (C_undo c).1 ∧ ca_I cy G G' h (C_undo c).2)) := by
  obtain ⟨S, sn, hi, t⟩ := c
  obtain ⟨BS, hS, π, tx, H, e0, eS, hP, hH, hl, hT, h60⟩ := hI
  have e0 : S = BS 0 := e0
  have H : ca_R cy G G h BS hS π (nI hi.length) tx (nI t.length) := H
  have eS : ca_S hS BS sn := eS
  have hH : ∀ (i : Nat) (hq : i < hi.length), BS (3 + π i) = hi[i] := hH
  have hl : hi.length ≤ 4 := hl
  have hT : ar_ tx t := hT
  have h60 : t.length ≤ 60 := h60
  refine cc_enter ok_X3_undo (Nat.le_of_ble_eq_true rfl) (ls := [(0, .ref h)]) rfl ?_
  refine cc_aload_n (j := 0) dX3_undo_0 rfl rfl ?_
  refine cc_get (v := .int (nI hi.length)) H.2.1 cc_c3 5 (by decide) fl_X3_30 rfl dX3_undo_1 ?_
  refine cc_if_ne (tgt := 10) dX3_undo_4 (by decide) (fun c_4 => ?_) (fun c_4 => ?_)
  · have hne : ¬ hi.length = 0 := fun q => c_4 (by rw [q]; rfl)
    refine cc_aload_n (j := 0) dX3_undo_10 rfl rfl ?_
    refine cc_dup dX3_undo_11 rfl ?_
    refine cc_get (v := .int (nI hi.length)) H.2.1 cc_c3 5 (by decide) fl_X3_30 rfl dX3_undo_12 ?_
    refine cc_iconst (v := 1) dX3_undo_15 (by decide) ?_
    refine cc_isub dX3_undo_16 ?_
    rw [show (nI hi.length) - 1 = nI (hi.length - 1) from cc_m1 (by omega)]
    refine ca_rput (hS' := hS) (nH' := (nI (hi.length - 1))) (nT' := (nI t.length)) H cc_c3 5 (by decide) fl_X3_30 rfl rfl rfl rfl rfl dX3_undo_17 (fun G1 H2 => ?_)
    refine cc_aload_n (j := 0) dX3_undo_20 rfl rfl ?_
    refine cc_get (v := .ref (h + 1)) H2.2.1 cc_c3 0 (by decide) fl_X3_10 rfl dX3_undo_21 ?_
    refine cc_aload_n (j := 0) dX3_undo_24 rfl rfl ?_
    refine cc_get (v := .ref (h + 94)) H2.2.1 cc_c3 4 (by decide) fl_X3_26 rfl dX3_undo_25 ?_
    refine cc_aload_n (j := 0) dX3_undo_28 rfl rfl ?_
    refine cc_get (v := .int (nI (hi.length - 1))) H2.2.1 cc_c3 5 (by decide) fl_X3_30 rfl dX3_undo_29 ?_
    refine cc_aald3 (x := cb h (3 + π (hi.length - 1))) H2.2.2.2.1 (vp_in_nI (n := (hi.length - 1)) (by omega) (by decide)) (by rw [(nI_clamp (by omega))]; rfl) dX3_undo_32 ?_
    refine cc_callNv (As := [.ref (cb h (3 + π (hi.length - 1)))]) (rest := []) (ct_X0_copyFrom cy z _ _ _ _ _ (cb_ap h (k := 0) (j := 3 + π (hi.length - 1)) (by omega)) (H2.2.2.1 (3 + π (hi.length - 1)) (by have := hP.1 (hi.length - 1) (by omega); omega)) H2.b0) ok_X0_copyFrom (H2.b0.obj) rfl im_X0_copyFrom sl_X0_copyFrom mn_X3_89 nd_X0_copyFrom (by decide +kernel) (Nat.le_of_ble_eq_true rfl) rfl dX3_undo_33 (fun G3 q5 => ?_)
    have H6 := H2.slot (k := 0) (by decide) rfl q5
    refine cc_aload_n (j := 0) dX3_undo_36 rfl rfl ?_
    refine cc_get (v := .int (nI (hi.length - 1))) H6.2.1 cc_c3 5 (by decide) fl_X3_30 rfl dX3_undo_37 ?_
    refine cc_iret rfl rfl dX3_undo_40 ?_
    have e : C_undo (S, sn, hi, t) = (nI (hi.length - 1), (hi.getD (hi.length - 1) S, sn, hi.take (hi.length - 1), t)) := if_neg hne
    have el : (hi.take (hi.length - 1)).length = hi.length - 1 := by rw [List.length_take]; omega
    rw [e]
    refine ⟨_, rfl, rfl, va_up BS 0 (BS (3 + π (hi.length - 1))), hS, π, tx, ?_, ?_, ?_, hP, fun i hq => ?_, ?_, hT, h60⟩
    · show ca_R cy G _ h _ hS π (nI (hi.take (hi.length - 1)).length) tx (nI t.length)
      rw [el]
      exact H6
    · show hi.getD (hi.length - 1) S = va_up BS 0 _ 0
      rw [va_up_self, hH (hi.length - 1) (by omega), List.getD_eq_getElem?_getD, List.getElem?_eq_getElem (by omega)]
      rfl
    · rcases eS with ⟨a, b⟩ | ⟨a, b⟩
      · exact Or.inl ⟨a, b⟩
      · exact Or.inr ⟨by rw [va_up_ne _ _ (by decide)]; exact a, b⟩
    · have hq2 : i < (hi.take (hi.length - 1)).length := hq
      rw [va_up_ne _ _ (by omega), hH i (by omega)]
      show hi[i] = (hi.take (hi.length - 1))[i]
      rw [List.getElem_take]
    · show (hi.take (hi.length - 1)).length ≤ 4
      omega
  · have hze : hi.length = 0 := (cc_e0 (by omega)).mp c_4
    refine cc_bipush (v := (-5)) dX3_undo_7 (by decide) ?_
    refine cc_iret rfl rfl dX3_undo_9 ?_
    have e : C_undo (S, sn, hi, t) = (-5, (S, sn, hi, t)) := if_pos hze
    rw [e]
    exact ⟨_, rfl, rfl, BS, hS, π, tx, H, e0, eS, hP, hH, hl, hT, h60⟩

set_option maxHeartbeats 4000000 in
set_option maxRecDepth 100000 in
theorem ct_X3_keep (cy : Nat → ClassId) (z : Nat) (G : cc_G) (h : Nat) (c : CS_)  (hI : ca_I cy G G h c) : cc_Cn cy Y_X3_keep [.ref h] z G (cc_qi (fun r G' => r = (C_keep c).1 ∧ ca_I cy G G' h (C_keep c).2)) := by
  obtain ⟨S, sn, hi, t⟩ := c
  obtain ⟨BS, hS, π, tx, H, e0, eS, hP, hH, hl, hT, h60⟩ := hI
  have e0 : S = BS 0 := e0
  have H : ca_R cy G G h BS hS π (nI hi.length) tx (nI t.length) := H
  have eS : ca_S hS BS sn := eS
  have hH : ∀ (i : Nat) (hq : i < hi.length), BS (3 + π i) = hi[i] := hH
  have hl : hi.length ≤ 4 := hl
  have hT : ar_ tx t := hT
  have h60 : t.length ≤ 60 := h60
  refine cc_enter ok_X3_keep (Nat.le_of_ble_eq_true rfl) (ls := [(0, .ref h)]) rfl ?_
  refine cc_aload_n (j := 0) dX3_keep_0 rfl rfl ?_
  refine cc_get (v := .ref (h + 63)) H.2.1 cc_c3 2 (by decide) fl_X3_19 rfl dX3_keep_1 ?_
  refine cc_aload_n (j := 0) dX3_keep_4 rfl rfl ?_
  refine cc_get (v := .ref (h + 1)) H.2.1 cc_c3 0 (by decide) fl_X3_10 rfl dX3_keep_5 ?_
  refine cc_callNv (As := [.ref (h + 1)]) (rest := []) (ct_X0_copyFrom cy z _ _ _ _ _ (cb_ap h (k := 2) (j := 0) (by decide)) H.b0 H.b2) ok_X0_copyFrom (H.b2.obj) rfl im_X0_copyFrom sl_X0_copyFrom mn_X3_89 nd_X0_copyFrom (by decide +kernel) (Nat.le_of_ble_eq_true rfl) rfl dX3_keep_8 (fun G1 q3 => ?_)
  have H4 := H.slot (k := 2) (by decide) rfl q3
  refine cc_aload_n (j := 0) dX3_keep_11 rfl rfl ?_
  refine cc_iconst (v := 1) dX3_keep_12 (by decide) ?_
  refine ca_rput (hS' := 1) (nH' := (nI hi.length)) (nT' := (nI t.length)) H4 cc_c3 3 (by decide) fl_X3_22 rfl rfl rfl rfl rfl dX3_keep_13 (fun G5 H6 => ?_)
  refine cc_aload_n (j := 0) dX3_keep_16 rfl rfl ?_
  refine cc_get (v := .ref (h + 1)) H6.2.1 cc_c3 0 (by decide) fl_X3_10 rfl dX3_keep_17 ?_
  obtain ⟨_, hB7⟩ := H6.b0
  refine cc_getN (v := .int (((BS 0).1) 0)) hB7.2.1 cc_c0 0 (by decide) fn_X3_99 rfl dX3_keep_20 ?_
  refine cc_iret rfl rfl dX3_keep_23 ?_
  subst e0
  refine ⟨_, rfl, rfl, va_up BS 2 (BS 0), 1, π, tx, H6, (va_up_ne _ _ (by decide)).symm, Or.inr ⟨by rw [va_up_self]; rfl, rfl⟩, hP, fun i hq => ?_, hl, hT, h60⟩
  rw [va_up_ne _ _ (by omega)]
  exact hH i hq

set_option maxHeartbeats 4000000 in
set_option maxRecDepth 100000 in
theorem ct_X3_restore (cy : Nat → ClassId) (z : Nat) (G : cc_G) (h : Nat) (c : CS_)  (hI : ca_I cy G G h c) : cc_Cn cy Y_X3_restore [.ref h] z G (cc_qi (fun r G' => r = (C_restore c).1 ∧ ca_I cy G G' h (C_restore c).2)) := by
  have hI0 := hI
  obtain ⟨S, sn, hi, t⟩ := c
  obtain ⟨BS, hS, π, tx, H, e0, eS, hP, hH, hl, hT, h60⟩ := hI
  have e0 : S = BS 0 := e0
  have H : ca_R cy G G h BS hS π (nI hi.length) tx (nI t.length) := H
  have eS : ca_S hS BS sn := eS
  have hH : ∀ (i : Nat) (hq : i < hi.length), BS (3 + π i) = hi[i] := hH
  have hl : hi.length ≤ 4 := hl
  have hT : ar_ tx t := hT
  have h60 : t.length ≤ 60 := h60
  refine cc_enter ok_X3_restore (Nat.le_of_ble_eq_true rfl) (ls := [(0, .ref h)]) rfl ?_
  rcases eS with ⟨rfl, rfl⟩ | ⟨rfl, rfl⟩
  · refine cc_aload_n (j := 0) dX3_restore_0 rfl rfl ?_
    refine cc_get (v := .int 0) H.2.1 cc_c3 3 (by decide) fl_X3_22 rfl dX3_restore_1 ?_
    refine cc_if_ne (tgt := 10) dX3_restore_4 (by decide) (fun c_4 => ?_) (fun c_4 => ?_)
    · exact absurd c_4 (by decide)
    · refine cc_bipush (v := (-5)) dX3_restore_7 (by decide) ?_
      refine cc_iret rfl rfl dX3_restore_9 ?_
      exact ⟨_, rfl, rfl, hI0⟩
  · refine cc_aload_n (j := 0) dX3_restore_0 rfl rfl ?_
    refine cc_get (v := .int 1) H.2.1 cc_c3 3 (by decide) fl_X3_22 rfl dX3_restore_1 ?_
    refine cc_if_ne (tgt := 10) dX3_restore_4 (by decide) (fun c_4_1 => ?_) (fun c_4_1 => ?_)
    · refine cc_aload_n (j := 0) dX3_restore_10 rfl rfl ?_
      refine cc_callVv (As := []) (rest := []) (ct_X3_remember cy z _ h _ hI0) ok_X3_remember (H.2.1) rfl im_X3_remember sl_X3_remember ml_X3_61 nd_X3_remember (by decide +kernel) (Nat.le_of_ble_eq_true rfl) rfl dX3_restore_11 (fun G1 q3 => ?_)
      obtain ⟨BS2, hS2, π2, tx2, H2, e02, eS2, -⟩ := id q3
      have hs2 : BS 2 = BS2 2 := by
        rcases eS2 with ⟨a, -⟩ | ⟨a, -⟩
        · cases a
        · exact Option.some.inj a
      refine cc_aload_n (j := 0) dX3_restore_14 rfl rfl ?_
      obtain ⟨hs4, hO5⟩ := q3.obj
      refine cc_get (v := .ref (h + 1)) hO5 cc_c3 0 (by decide) fl_X3_10 rfl dX3_restore_15 ?_
      refine cc_aload_n (j := 0) dX3_restore_18 rfl rfl ?_
      refine cc_get (v := .ref (h + 63)) hO5 cc_c3 2 (by decide) fl_X3_19 rfl dX3_restore_19 ?_
      refine cc_callNv (As := [.ref (h + 63)]) (rest := []) (ct_X0_copyFrom cy z _ _ _ _ _ (cb_ap h (k := 0) (j := 2) (by decide)) H2.self.b2 H2.self.b0) ok_X0_copyFrom (H2.b0.obj) rfl im_X0_copyFrom sl_X0_copyFrom mn_X3_89 nd_X0_copyFrom (by decide +kernel) (Nat.le_of_ble_eq_true rfl) rfl dX3_restore_22 (fun G6 q8 => ?_)
      have hI9 := q3.box q8
      refine cc_aload_n (j := 0) dX3_restore_25 rfl rfl ?_
      obtain ⟨hs10, hO11⟩ := hI9.obj
      refine cc_get (v := .ref (h + 1)) hO11 cc_c3 0 (by decide) fl_X3_10 rfl dX3_restore_26 ?_
      obtain ⟨_, hB12⟩ := hI9.box0
      refine cc_getN (v := .int (((BS2 2).1) 0)) hB12.2.1 cc_c0 0 (by decide) fn_X3_99 rfl dX3_restore_29 ?_
      refine cc_iret rfl rfl dX3_restore_32 ?_
      refine ⟨_, rfl, ?_, ?_⟩
      · show (BS2 2).1 0 = (BS 2).1 0
        rw [hs2]
      · show ca_I cy G _ h (BS 2, (C_rem (S, some (BS 2), hi, t)).2)
        have hf := hI9
        rw [← hs2] at hf
        exact hf
    · exact absurd c_4_1 (by decide)

set_option maxHeartbeats 4000000 in
set_option maxRecDepth 100000 in
theorem ct_X3_lane (cy : Nat → ClassId) (z : Nat) (G : cc_G) (h : Nat) (c : CS_) (x1 x2 : Int32)  (hI : ca_I cy G G h c) : cc_Cn cy Y_X3_lane [.ref h, .int x1, .int x2] z G (cc_qi (fun r G' => r = C_lane x1 x2 c ∧ ca_I cy G G' h c)) := by
  obtain ⟨S, sn, hi, t⟩ := c
  refine cc_enter ok_X3_lane (Nat.le_of_ble_eq_true rfl) (ls := [(0, .ref h), (1, .int x1), (2, .int x2)]) rfl ?_
  rcases cc_port x1 with ⟨i, hi4, rfl⟩ | hx
  · refine cc_iload_n (j := 1) dX3_lane_0 rfl rfl ?_
    refine cc_callSi (As := [.int (nI i)]) (rest := []) (ct_X3_isPort cy z _ (nI i)) ok_X3_isPort st_X3_isPort ml_X3_41 nd_X3_isPort (by decide +kernel) (Nat.le_of_ble_eq_true rfl) rfl dX3_lane_1 (fun r2 G1 q3 => ?_)
    obtain ⟨rfl, rfl⟩ := q3
    rw [if_pos (cc_pt hi4)]
    refine cc_if_ne (tgt := 9) dX3_lane_4 (by decide) (fun c_4 => ?_) (fun c_4 => ?_)
    · refine cc_iload_n (j := 2) dX3_lane_9 rfl rfl ?_
      refine cc_bipush (v := 12) dX3_lane_10 (by decide) ?_
      refine cc_icmp_ne (tgt := 24) dX3_lane_12 (by decide) (fun c_12 => ?_) (fun c_12 => ?_)
      · refine cc_iload_n (j := 2) dX3_lane_24 rfl rfl ?_
        refine cc_bipush (v := 13) dX3_lane_25 (by decide) ?_
        refine cc_icmp_ne (tgt := 47) dX3_lane_27 (by decide) (fun c_27 => ?_) (fun c_27 => ?_)
        · refine cc_aload_n (j := 0) dX3_lane_47 rfl rfl ?_
          obtain ⟨hs4, hO5⟩ := hI.obj
          refine cc_get (v := .ref (h + 1)) hO5 cc_c3 0 (by decide) fl_X3_10 rfl dX3_lane_48 ?_
          obtain ⟨_, hB6⟩ := hI.box0
          refine cc_getN (v := .ref (h + 1 + 1)) hB6.2.1 cc_c0 4 (by decide) fn_X3_49 rfl dX3_lane_51 ?_
          refine cc_iload_n (j := 1) dX3_lane_54 rfl rfl ?_
          refine cc_aald4 (x := h + 1 + 3 + 7 * i) hB6.2.2.1 (vp_in_nI (n := i) (by omega) (by decide)) (by rw [(nI_clamp (by omega))]; rfl) dX3_lane_55 ?_
          refine cc_iload_n (j := 2) dX3_lane_56 rfl rfl ?_
          obtain ⟨fL, gL, hL, hfL, hgL, h8L, h6L⟩ := hB6.2.2.2.2.1 i hi4
          refine cc_callNi (As := [.int x2]) (rest := []) (ct_X1_figure cy z _ _ _ _ _ _ _ x2 hL) ok_X1_figure (hL.2.1) rfl im_X1_figure sl_X1_figure mn_X3_126 nd_X1_figure (by decide +kernel) (Nat.le_of_ble_eq_true rfl) rfl dX3_lane_57 (fun r8 G7 q9 => ?_)
          obtain ⟨hr, rfl⟩ := q9
          have hr : r8 = L_fig x2 (S.2.1 i) := hr
          subst hr
          refine cc_iret rfl rfl dX3_lane_60 ?_
          have e : C_lane (nI i) x2 (S, sn, hi, t) = L_fig x2 (S.2.1 i) := by
            unfold C_lane
            rw [if_pos (cc_pt hi4), C_i_n (by omega)]
            dsimp only
            rw [if_neg c_12, if_neg c_27]
          rw [e]
          exact ⟨_, rfl, rfl, hI⟩
        · refine cc_aload_n (j := 0) dX3_lane_30 rfl rfl ?_
          obtain ⟨hs10, hO11⟩ := hI.obj
          refine cc_get (v := .ref (h + 1)) hO11 cc_c3 0 (by decide) fl_X3_10 rfl dX3_lane_31 ?_
          refine cc_iload_n (j := 1) dX3_lane_34 rfl rfl ?_
          obtain ⟨_, hB12⟩ := hI.box0
          refine cc_callNi (As := [.int (nI i)]) (rest := []) (ct_X0_isStuck cy z _ _ S i hi4 ⟨_, hB12⟩) ok_X0_isStuck (hB12.2.1) rfl im_X0_isStuck sl_X0_isStuck mn_X3_123 nd_X0_isStuck (by decide +kernel) (Nat.le_of_ble_eq_true rfl) rfl dX3_lane_35 (fun r14 G13 q15 => ?_)
          obtain ⟨rfl, rfl⟩ := q15
          rcases B_stb_01 S i with hsb | hsb
          · rw [show nI (B_stb S i) = 0 by rw [hsb]; rfl]
            refine cc_if_eq (tgt := 45) dX3_lane_38 (by decide) (fun c_38 => ?_) (fun c_38 => ?_)
            · refine cc_iconst (v := 0) dX3_lane_45 (by decide) ?_
              refine cc_iret rfl rfl dX3_lane_46 ?_
              have e : C_lane (nI i) x2 (S, sn, hi, t) = nI 0 := by
                unfold C_lane
                rw [if_pos (cc_pt hi4), C_i_n (by omega)]
                dsimp only
                rw [if_neg c_12, if_pos c_27, hsb]
              rw [e]
              exact ⟨_, rfl, rfl, hI⟩
            · exact absurd c_38 (by decide)
          · rw [show nI (B_stb S i) = 1 by rw [hsb]; rfl]
            refine cc_if_eq (tgt := 45) dX3_lane_38 (by decide) (fun c_38_1 => ?_) (fun c_38_1 => ?_)
            · exact absurd c_38_1 (by decide)
            · refine cc_iconst (v := 1) dX3_lane_41 (by decide) ?_
              refine cc_goto (tgt := 46) dX3_lane_42 (by decide) ?_
              refine cc_iret rfl rfl dX3_lane_46 ?_
              have e : C_lane (nI i) x2 (S, sn, hi, t) = nI 1 := by
                unfold C_lane
                rw [if_pos (cc_pt hi4), C_i_n (by omega)]
                dsimp only
                rw [if_neg c_12, if_pos c_27, hsb]
              rw [e]
              exact ⟨_, rfl, rfl, hI⟩
      · refine cc_aload_n (j := 0) dX3_lane_15 rfl rfl ?_
        obtain ⟨hs16, hO17⟩ := hI.obj
        refine cc_get (v := .ref (h + 1)) hO17 cc_c3 0 (by decide) fl_X3_10 rfl dX3_lane_16 ?_
        refine cc_iload_n (j := 1) dX3_lane_19 rfl rfl ?_
        obtain ⟨_, hB18⟩ := hI.box0
        refine cc_callNi (As := [.int (nI i)]) (rest := []) (ct_X0_waitingFor cy z _ _ S (nI i) ⟨_, hB18⟩) ok_X0_waitingFor (hB18.2.1) rfl im_X0_waitingFor sl_X0_waitingFor mn_X3_120 nd_X0_waitingFor (by decide +kernel) (Nat.le_of_ble_eq_true rfl) rfl dX3_lane_20 (fun r20 G19 q21 => ?_)
        obtain ⟨rfl, rfl⟩ := q21
        refine cc_iret rfl rfl dX3_lane_23 ?_
        have e : C_lane (nI i) x2 (S, sn, hi, t) = nI (B_wt (nI i) S 4) := by
          unfold C_lane
          rw [if_pos (cc_pt hi4), C_i_n (by omega)]
          dsimp only
          rw [if_pos c_12]
        rw [e]
        exact ⟨_, rfl, rfl, hI⟩
    · exact absurd c_4 (by decide)
  · refine cc_iload_n (j := 1) dX3_lane_0 rfl rfl ?_
    refine cc_callSi (As := [.int x1]) (rest := []) (ct_X3_isPort cy z _ x1) ok_X3_isPort st_X3_isPort ml_X3_41 nd_X3_isPort (by decide +kernel) (Nat.le_of_ble_eq_true rfl) rfl dX3_lane_1 (fun r23 G22 q24 => ?_)
    obtain ⟨rfl, rfl⟩ := q24
    rw [if_neg hx]
    refine cc_if_ne (tgt := 9) dX3_lane_4 (by decide) (fun c_4_1 => ?_) (fun c_4_1 => ?_)
    · exact absurd c_4_1 (by decide)
    · refine cc_iconst (v := (-1)) dX3_lane_7 (by decide) ?_
      refine cc_iret rfl rfl dX3_lane_8 ?_
      have e : C_lane x1 x2 (S, sn, hi, t) = (-1) := by
        unfold C_lane
        
        rw [if_neg hx]
      rw [e]
      exact ⟨_, rfl, rfl, hI⟩

set_option maxHeartbeats 4000000 in
set_option maxRecDepth 100000 in
theorem ct_X3_seated (cy : Nat → ClassId) (z : Nat) (G : cc_G) (h : Nat) (c : CS_) (x1 x2 : Int32)  (hI : ca_I cy G G h c) : cc_Cn cy Y_X3_seated [.ref h, .int x1, .int x2] z G (cc_qi (fun r G' => r = C_seated x1 x2 c ∧ ca_I cy G G' h c)) := by
  obtain ⟨S, sn, hi, t⟩ := c
  refine cc_enter ok_X3_seated (Nat.le_of_ble_eq_true rfl) (ls := [(0, .ref h), (1, .int x1), (2, .int x2)]) rfl ?_
  rcases cc_port x1 with ⟨i, hi4, rfl⟩ | hx
  · refine cc_iload_n (j := 1) dX3_seated_0 rfl rfl ?_
    refine cc_callSi (As := [.int (nI i)]) (rest := []) (ct_X3_isPort cy z _ (nI i)) ok_X3_isPort st_X3_isPort ml_X3_41 nd_X3_isPort (by decide +kernel) (Nat.le_of_ble_eq_true rfl) rfl dX3_seated_1 (fun r2 G1 q3 => ?_)
    obtain ⟨rfl, rfl⟩ := q3
    rw [if_pos (cc_pt hi4)]
    refine cc_if_ne (tgt := 9) dX3_seated_4 (by decide) (fun c_4 => ?_) (fun c_4 => ?_)
    · refine cc_iload_n (j := 2) dX3_seated_9 rfl rfl ?_
      refine cc_if_ge (tgt := 16) dX3_seated_10 (by decide) (fun c_10 => ?_) (fun c_10 => ?_)
      · have hx0 : ¬ x2 < 0 := Int32.not_lt.mpr c_10
        refine cc_aload_n (j := 0) dX3_seated_16 rfl rfl ?_
        obtain ⟨hs4, hO5⟩ := hI.obj
        refine cc_get (v := .ref (h + 1)) hO5 cc_c3 0 (by decide) fl_X3_10 rfl dX3_seated_17 ?_
        obtain ⟨_, hB6⟩ := hI.box0
        refine cc_getN (v := .ref (h + 1 + 1)) hB6.2.1 cc_c0 4 (by decide) fn_X3_49 rfl dX3_seated_20 ?_
        refine cc_iload_n (j := 1) dX3_seated_23 rfl rfl ?_
        refine cc_aald4 (x := h + 1 + 3 + 7 * i) hB6.2.2.1 (vp_in_nI (n := i) (by omega) (by decide)) (by rw [(nI_clamp (by omega))]; rfl) dX3_seated_24 ?_
        refine cc_astore_n (ls' := [(3, .ref (h + 1 + 3 + 7 * i)), (0, .ref h), (1, .int (nI i)), (2, .int x2)]) dX3_seated_25 rfl (Nat.le_of_ble_eq_true rfl) rfl ?_
        refine cc_iload_n (j := 3) dX3_seated_26 rfl rfl ?_
        refine cc_aload_n (j := 0) dX3_seated_27 rfl rfl ?_
        obtain ⟨_, _, hLr7, -⟩ := hB6.2.2.2.2.1 i hi4
        refine cc_getN (v := .int (nI (S.2.1 i).2.1.length)) hLr7.2.1 cc_c1 10 (by decide) fn_X3_53 rfl dX3_seated_28 ?_
        refine cc_icmp_ge (tgt := 43) dX3_seated_31 (by decide) (fun c_31 => ?_) (fun c_31 => ?_)
        · refine cc_bipush (v := (-5)) dX3_seated_43 (by decide) ?_
          refine cc_iret rfl rfl dX3_seated_45 ?_
          have e : C_seated (nI i) x2 (S, sn, hi, t) = (-5) := by
            unfold C_seated
            rw [if_pos (cc_pt hi4), C_i_n (by omega)]
            dsimp only
            rw [if_neg hx0, if_neg (Int32.not_lt.mpr c_31)]
          rw [e]
          exact ⟨_, rfl, rfl, hI⟩
        · have hxl : x2 < nI (S.2.1 i).2.1.length := Int32.not_le.mp c_31
          refine cc_aload_n (j := 0) dX3_seated_34 rfl rfl ?_
          obtain ⟨_, _, hLr8, -⟩ := hB6.2.2.2.2.1 i hi4
          refine cc_getN (v := .ref (h + 1 + 3 + 7 * i + 1)) hLr8.2.1 cc_c1 9 (by decide) fn_X3_129 rfl dX3_seated_35 ?_
          obtain ⟨fL, gL, hL, hfL, hgL, h8L, h6L⟩ := hB6.2.2.2.2.1 i hi4
          refine cc_iload_n (j := 3) dX3_seated_38 rfl rfl ?_
          refine cc_iald (x := fL x2.toNatClampNeg) hL.2.2.1 (cc_inl hx0 hxl (nI_le h8L (by decide))) rfl dX3_seated_39 ?_
          refine cc_goto (tgt := 45) dX3_seated_40 (by decide) ?_
          refine cc_iret rfl rfl dX3_seated_45 ?_
          have e : C_seated (nI i) x2 (S, sn, hi, t) = (S.2.1 i).2.1.getD (C_i x2) 0 := by
            unfold C_seated
            rw [if_pos (cc_pt hi4), C_i_n (by omega)]
            dsimp only
            rw [if_neg hx0, if_pos hxl]
          rw [e]
          refine ⟨_, rfl, ?_, hI⟩
          rw [ar_at hfL (cc_inn hx0 hxl (Nat.lt_of_le_of_lt h8L (by decide)))]
          rfl
      · have hxn : x2 < 0 := Int32.not_le.mp c_10
        refine cc_bipush (v := (-2)) dX3_seated_13 (by decide) ?_
        refine cc_iret rfl rfl dX3_seated_15 ?_
        have e : C_seated (nI i) x2 (S, sn, hi, t) = (-2) := by
          unfold C_seated
          rw [if_pos (cc_pt hi4), C_i_n (by omega)]
          dsimp only
          rw [if_pos hxn]
        rw [e]
        exact ⟨_, rfl, rfl, hI⟩
    · exact absurd c_4 (by decide)
  · refine cc_iload_n (j := 1) dX3_seated_0 rfl rfl ?_
    refine cc_callSi (As := [.int x1]) (rest := []) (ct_X3_isPort cy z _ x1) ok_X3_isPort st_X3_isPort ml_X3_41 nd_X3_isPort (by decide +kernel) (Nat.le_of_ble_eq_true rfl) rfl dX3_seated_1 (fun r10 G9 q11 => ?_)
    obtain ⟨rfl, rfl⟩ := q11
    rw [if_neg hx]
    refine cc_if_ne (tgt := 9) dX3_seated_4 (by decide) (fun c_4_1 => ?_) (fun c_4_1 => ?_)
    · exact absurd c_4_1 (by decide)
    · refine cc_iconst (v := (-1)) dX3_seated_7 (by decide) ?_
      refine cc_iret rfl rfl dX3_seated_8 ?_
      have e : C_seated x1 x2 (S, sn, hi, t) = (-1) := by
        unfold C_seated
        
        rw [if_neg hx]
      rw [e]
      exact ⟨_, rfl, rfl, hI⟩

set_option maxHeartbeats 4000000 in
set_option maxRecDepth 100000 in
theorem ct_X3_onTheWay (cy : Nat → ClassId) (z : Nat) (G : cc_G) (h : Nat) (c : CS_) (x1 x2 : Int32)  (hI : ca_I cy G G h c) : cc_Cn cy Y_X3_onTheWay [.ref h, .int x1, .int x2] z G (cc_qi (fun r G' => r = C_onTheWay x1 x2 c ∧ ca_I cy G G' h c)) := by
  obtain ⟨S, sn, hi, t⟩ := c
  refine cc_enter ok_X3_onTheWay (Nat.le_of_ble_eq_true rfl) (ls := [(0, .ref h), (1, .int x1), (2, .int x2)]) rfl ?_
  rcases cc_port x1 with ⟨i, hi4, rfl⟩ | hx
  · refine cc_iload_n (j := 1) dX3_onTheWay_0 rfl rfl ?_
    refine cc_callSi (As := [.int (nI i)]) (rest := []) (ct_X3_isPort cy z _ (nI i)) ok_X3_isPort st_X3_isPort ml_X3_41 nd_X3_isPort (by decide +kernel) (Nat.le_of_ble_eq_true rfl) rfl dX3_onTheWay_1 (fun r2 G1 q3 => ?_)
    obtain ⟨rfl, rfl⟩ := q3
    rw [if_pos (cc_pt hi4)]
    refine cc_if_ne (tgt := 9) dX3_onTheWay_4 (by decide) (fun c_4 => ?_) (fun c_4 => ?_)
    · refine cc_iload_n (j := 2) dX3_onTheWay_9 rfl rfl ?_
      refine cc_if_ge (tgt := 16) dX3_onTheWay_10 (by decide) (fun c_10 => ?_) (fun c_10 => ?_)
      · have hx0 : ¬ x2 < 0 := Int32.not_lt.mpr c_10
        refine cc_aload_n (j := 0) dX3_onTheWay_16 rfl rfl ?_
        obtain ⟨hs4, hO5⟩ := hI.obj
        refine cc_get (v := .ref (h + 1)) hO5 cc_c3 0 (by decide) fl_X3_10 rfl dX3_onTheWay_17 ?_
        obtain ⟨_, hB6⟩ := hI.box0
        refine cc_getN (v := .ref (h + 1 + 1)) hB6.2.1 cc_c0 4 (by decide) fn_X3_49 rfl dX3_onTheWay_20 ?_
        refine cc_iload_n (j := 1) dX3_onTheWay_23 rfl rfl ?_
        refine cc_aald4 (x := h + 1 + 3 + 7 * i) hB6.2.2.1 (vp_in_nI (n := i) (by omega) (by decide)) (by rw [(nI_clamp (by omega))]; rfl) dX3_onTheWay_24 ?_
        refine cc_astore_n (ls' := [(3, .ref (h + 1 + 3 + 7 * i)), (0, .ref h), (1, .int (nI i)), (2, .int x2)]) dX3_onTheWay_25 rfl (Nat.le_of_ble_eq_true rfl) rfl ?_
        refine cc_iload_n (j := 3) dX3_onTheWay_26 rfl rfl ?_
        refine cc_aload_n (j := 0) dX3_onTheWay_27 rfl rfl ?_
        obtain ⟨_, _, hLr7, -⟩ := hB6.2.2.2.2.1 i hi4
        refine cc_getN (v := .int (nI (S.2.1 i).2.2.length)) hLr7.2.1 cc_c1 12 (by decide) fn_X3_105 rfl dX3_onTheWay_28 ?_
        refine cc_icmp_ge (tgt := 53) dX3_onTheWay_31 (by decide) (fun c_31 => ?_) (fun c_31 => ?_)
        · refine cc_bipush (v := (-5)) dX3_onTheWay_53 (by decide) ?_
          refine cc_iret rfl rfl dX3_onTheWay_55 ?_
          have e : C_onTheWay (nI i) x2 (S, sn, hi, t) = (-5) := by
            unfold C_onTheWay
            rw [if_pos (cc_pt hi4), C_i_n (by omega)]
            dsimp only
            rw [if_neg hx0, if_neg (Int32.not_lt.mpr c_31)]
          rw [e]
          exact ⟨_, rfl, rfl, hI⟩
        · have hxl : x2 < nI (S.2.1 i).2.2.length := Int32.not_le.mp c_31
          refine cc_aload_n (j := 0) dX3_onTheWay_34 rfl rfl ?_
          obtain ⟨_, _, hLr8, -⟩ := hB6.2.2.2.2.1 i hi4
          refine cc_getN (v := .ref (h + 1 + 3 + 7 * i + 2)) hLr8.2.1 cc_c1 11 (by decide) fn_X3_133 rfl dX3_onTheWay_35 ?_
          obtain ⟨fL, gL, hL, hfL, hgL, h8L, h6L⟩ := hB6.2.2.2.2.1 i hi4
          refine cc_iload_n (j := 3) dX3_onTheWay_38 rfl rfl ?_
          refine cc_iald (x := gL x2.toNatClampNeg) hL.2.2.2 (cc_inl hx0 hxl (nI_le h6L (by decide))) rfl dX3_onTheWay_39 ?_
          refine cc_aload_n (j := 1) dX3_onTheWay_40 rfl rfl ?_
          refine cc_get (v := .ref (h + 1)) hO5 cc_c3 0 (by decide) fl_X3_10 rfl dX3_onTheWay_41 ?_
          refine cc_getN (v := .int (S.1 0)) hB6.2.1 cc_c0 0 (by decide) fn_X3_99 rfl dX3_onTheWay_44 ?_
          refine cc_isub dX3_onTheWay_47 ?_
          refine cc_iconst (v := 1) dX3_onTheWay_48 (by decide) ?_
          refine cc_iadd dX3_onTheWay_49 ?_
          refine cc_goto (tgt := 55) dX3_onTheWay_50 (by decide) ?_
          refine cc_iret rfl rfl dX3_onTheWay_55 ?_
          have e : C_onTheWay (nI i) x2 (S, sn, hi, t) = (S.2.1 i).2.2.getD (C_i x2) 0 - S.1 0 + 1 := by
            unfold C_onTheWay
            rw [if_pos (cc_pt hi4), C_i_n (by omega)]
            dsimp only
            rw [if_neg hx0, if_pos hxl]
          rw [e]
          refine ⟨_, rfl, ?_, hI⟩
          rw [ar_at hgL (cc_inn hx0 hxl (Nat.lt_of_le_of_lt h6L (by decide)))]
          rfl
      · have hxn : x2 < 0 := Int32.not_le.mp c_10
        refine cc_bipush (v := (-2)) dX3_onTheWay_13 (by decide) ?_
        refine cc_iret rfl rfl dX3_onTheWay_15 ?_
        have e : C_onTheWay (nI i) x2 (S, sn, hi, t) = (-2) := by
          unfold C_onTheWay
          rw [if_pos (cc_pt hi4), C_i_n (by omega)]
          dsimp only
          rw [if_pos hxn]
        rw [e]
        exact ⟨_, rfl, rfl, hI⟩
    · exact absurd c_4 (by decide)
  · refine cc_iload_n (j := 1) dX3_onTheWay_0 rfl rfl ?_
    refine cc_callSi (As := [.int x1]) (rest := []) (ct_X3_isPort cy z _ x1) ok_X3_isPort st_X3_isPort ml_X3_41 nd_X3_isPort (by decide +kernel) (Nat.le_of_ble_eq_true rfl) rfl dX3_onTheWay_1 (fun r10 G9 q11 => ?_)
    obtain ⟨rfl, rfl⟩ := q11
    rw [if_neg hx]
    refine cc_if_ne (tgt := 9) dX3_onTheWay_4 (by decide) (fun c_4_1 => ?_) (fun c_4_1 => ?_)
    · exact absurd c_4_1 (by decide)
    · refine cc_iconst (v := (-1)) dX3_onTheWay_7 (by decide) ?_
      refine cc_iret rfl rfl dX3_onTheWay_8 ?_
      have e : C_onTheWay x1 x2 (S, sn, hi, t) = (-1) := by
        unfold C_onTheWay
        
        rw [if_neg hx]
      rw [e]
      exact ⟨_, rfl, rfl, hI⟩

set_option maxHeartbeats 4000000 in
set_option maxRecDepth 100000 in
theorem ct_X3_input (cy : Nat → ClassId) (z : Nat) (G : cc_G) (h : Nat) (c : CS_) (x1 x2 : Int32)  (hI : ca_I cy G G h c) : cc_Cn cy Y_X3_input [.ref h, .int x1, .int x2] z G (cc_qi (fun r G' => r = C_input x1 x2 c ∧ ca_I cy G G' h c)) := by
  obtain ⟨S, sn, hi, t⟩ := c
  refine cc_enter ok_X3_input (Nat.le_of_ble_eq_true rfl) (ls := [(0, .ref h), (1, .int x1), (2, .int x2)]) rfl ?_
  rcases cc_port x1 with ⟨i, hi4, rfl⟩ | hx
  · refine cc_iload_n (j := 1) dX3_input_0 rfl rfl ?_
    refine cc_callSi (As := [.int (nI i)]) (rest := []) (ct_X3_isPort cy z _ (nI i)) ok_X3_isPort st_X3_isPort ml_X3_41 nd_X3_isPort (by decide +kernel) (Nat.le_of_ble_eq_true rfl) rfl dX3_input_1 (fun r2 G1 q3 => ?_)
    obtain ⟨rfl, rfl⟩ := q3
    rw [if_pos (cc_pt hi4)]
    refine cc_if_ne (tgt := 9) dX3_input_4 (by decide) (fun c_4 => ?_) (fun c_4 => ?_)
    · refine cc_aload_n (j := 0) dX3_input_9 rfl rfl ?_
      obtain ⟨hs4, hO5⟩ := hI.obj
      refine cc_get (v := .ref (h + 1)) hO5 cc_c3 0 (by decide) fl_X3_10 rfl dX3_input_10 ?_
      obtain ⟨_, hB6⟩ := hI.box0
      refine cc_getN (v := .ref (h + 1 + 2)) hB6.2.1 cc_c0 5 (by decide) fn_X3_136 rfl dX3_input_13 ?_
      refine cc_iload_n (j := 1) dX3_input_16 rfl rfl ?_
      refine cc_aald5 (x := h + 1 + 6 + 7 * i) hB6.2.2.2.1 (vp_in_nI (n := i) (by omega) (by decide)) (by rw [(nI_clamp (by omega))]; rfl) dX3_input_17 ?_
      refine cc_iload_n (j := 2) dX3_input_18 rfl rfl ?_
      obtain ⟨m1, m2, m3, hQ, hAq, h8q⟩ := hB6.2.2.2.2.2 i hi4
      refine cc_callNi (As := [.int x2]) (rest := []) (ct_X2_figure cy z _ _ _ _ _ _ _ _ _ x2 hQ) ok_X2_figure (hQ.2.1) rfl im_X2_figure sl_X2_figure mn_X3_140 nd_X2_figure (by decide +kernel) (Nat.le_of_ble_eq_true rfl) rfl dX3_input_19 (fun r8 G7 q9 => ?_)
      obtain ⟨hr, rfl⟩ := q9
      have hr : r8 = Q_fig x2 (S.2.2 i) := hr.trans (Q_fig_eq hAq h8q x2)
      subst hr
      refine cc_iret rfl rfl dX3_input_22 ?_
      have e : C_input (nI i) x2 (S, sn, hi, t) = Q_fig x2 (S.2.2 i) := by
        unfold C_input
        rw [if_pos (cc_pt hi4), C_i_n (by omega)]
        
      rw [e]
      exact ⟨_, rfl, rfl, hI⟩
    · exact absurd c_4 (by decide)
  · refine cc_iload_n (j := 1) dX3_input_0 rfl rfl ?_
    refine cc_callSi (As := [.int x1]) (rest := []) (ct_X3_isPort cy z _ x1) ok_X3_isPort st_X3_isPort ml_X3_41 nd_X3_isPort (by decide +kernel) (Nat.le_of_ble_eq_true rfl) rfl dX3_input_1 (fun r11 G10 q12 => ?_)
    obtain ⟨rfl, rfl⟩ := q12
    rw [if_neg hx]
    refine cc_if_ne (tgt := 9) dX3_input_4 (by decide) (fun c_4_1 => ?_) (fun c_4_1 => ?_)
    · exact absurd c_4_1 (by decide)
    · refine cc_iconst (v := (-1)) dX3_input_7 (by decide) ?_
      refine cc_iret rfl rfl dX3_input_8 ?_
      have e : C_input x1 x2 (S, sn, hi, t) = (-1) := by
        unfold C_input
        
        rw [if_neg hx]
      rw [e]
      exact ⟨_, rfl, rfl, hI⟩

set_option maxHeartbeats 4000000 in
set_option maxRecDepth 100000 in
theorem ct_X3_packet (cy : Nat → ClassId) (z : Nat) (G : cc_G) (h : Nat) (c : CS_) (x1 x2 x3 : Int32)  (hI : ca_I cy G G h c) : cc_Cn cy Y_X3_packet [.ref h, .int x1, .int x2, .int x3] z G (cc_qi (fun r G' => r = C_packet x1 x2 x3 c ∧ ca_I cy G G' h c)) := by
  obtain ⟨S, sn, hi, t⟩ := c
  refine cc_enter ok_X3_packet (Nat.le_of_ble_eq_true rfl) (ls := [(0, .ref h), (1, .int x1), (2, .int x2), (3, .int x3)]) rfl ?_
  rcases cc_port x1 with ⟨i, hi4, rfl⟩ | hx
  · refine cc_iload_n (j := 1) dX3_packet_0 rfl rfl ?_
    refine cc_callSi (As := [.int (nI i)]) (rest := []) (ct_X3_isPort cy z _ (nI i)) ok_X3_isPort st_X3_isPort ml_X3_41 nd_X3_isPort (by decide +kernel) (Nat.le_of_ble_eq_true rfl) rfl dX3_packet_1 (fun r2 G1 q3 => ?_)
    obtain ⟨rfl, rfl⟩ := q3
    rw [if_pos (cc_pt hi4)]
    refine cc_if_ne (tgt := 9) dX3_packet_4 (by decide) (fun c_4 => ?_) (fun c_4 => ?_)
    · refine cc_iload_n (j := 2) dX3_packet_9 rfl rfl ?_
      refine cc_if_lt (tgt := 22) dX3_packet_10 (by decide) (fun c_10 => ?_) (fun c_10 => ?_)
      · refine cc_bipush (v := (-2)) dX3_packet_22 (by decide) ?_
        refine cc_iret rfl rfl dX3_packet_24 ?_
        have e : C_packet (nI i) x2 x3 (S, sn, hi, t) = (-2) := by
          unfold C_packet
          rw [if_pos (cc_pt hi4), C_i_n (by omega)]
          dsimp only
          rw [if_pos (Or.inl c_10)]
        rw [e]
        exact ⟨_, rfl, rfl, hI⟩
      · have hx0 : ¬ x2 < 0 := c_10
        refine cc_iload_n (j := 3) dX3_packet_13 rfl rfl ?_
        refine cc_if_lt (tgt := 22) dX3_packet_14 (by decide) (fun c_14 => ?_) (fun c_14 => ?_)
        · refine cc_bipush (v := (-2)) dX3_packet_22 (by decide) ?_
          refine cc_iret rfl rfl dX3_packet_24 ?_
          have e : C_packet (nI i) x2 x3 (S, sn, hi, t) = (-2) := by
            unfold C_packet
            rw [if_pos (cc_pt hi4), C_i_n (by omega)]
            dsimp only
            rw [if_pos (Or.inr (Or.inl c_14))]
          rw [e]
          exact ⟨_, rfl, rfl, hI⟩
        · refine cc_iload_n (j := 3) dX3_packet_17 rfl rfl ?_
          refine cc_iconst (v := 2) dX3_packet_18 (by decide) ?_
          refine cc_icmp_le (tgt := 25) dX3_packet_19 (by decide) (fun c_19 => ?_) (fun c_19 => ?_)
          · refine cc_aload_n (j := 0) dX3_packet_25 rfl rfl ?_
            obtain ⟨hs4, hO5⟩ := hI.obj
            refine cc_get (v := .ref (h + 1)) hO5 cc_c3 0 (by decide) fl_X3_10 rfl dX3_packet_26 ?_
            obtain ⟨_, hB6⟩ := hI.box0
            refine cc_getN (v := .ref (h + 1 + 2)) hB6.2.1 cc_c0 5 (by decide) fn_X3_136 rfl dX3_packet_29 ?_
            refine cc_iload_n (j := 1) dX3_packet_32 rfl rfl ?_
            refine cc_aald5 (x := h + 1 + 6 + 7 * i) hB6.2.2.2.1 (vp_in_nI (n := i) (by omega) (by decide)) (by rw [(nI_clamp (by omega))]; rfl) dX3_packet_33 ?_
            refine cc_iload_n (j := 2) dX3_packet_34 rfl rfl ?_
            refine cc_iload_n (j := 3) dX3_packet_35 rfl rfl ?_
            obtain ⟨m1, m2, m3, hQ, hAq, h8q⟩ := hB6.2.2.2.2.2 i hi4
            refine cc_callNi (As := [.int x2, .int x3]) (rest := []) (ct_X2_packetFigure cy z _ _ _ _ _ _ _ _ _ x2 x3 hx0 (nI_le h8q (by decide)) hQ) ok_X2_packetFigure (hQ.2.1) rfl im_X2_packetFigure sl_X2_packetFigure mn_X3_143 nd_X2_packetFigure (by decide +kernel) (Nat.le_of_ble_eq_true rfl) rfl dX3_packet_36 (fun r8 G7 q9 => ?_)
            obtain ⟨hr, rfl⟩ := q9
            refine cc_iret rfl rfl dX3_packet_39 ?_
            have e : C_packet (nI i) x2 x3 (S, sn, hi, t) = r8 := by
              rw [hr]
              unfold C_packet
              rw [if_pos (cc_pt hi4), C_i_n (by omega)]
              dsimp only
              rw [if_neg (fun h => h.elim hx0 (fun h => h.elim c_14 (fun q => absurd c_19 (Int32.not_le.mpr q))))]
              by_cases hle : nI (S.2.2 i).2.2.length ≤ x2
              · rw [if_pos hle, if_pos hle]
              · have hx := cc_inn hx0 (Int32.not_le.mp hle) (Nat.lt_of_le_of_lt h8q (by decide))
                have ha := qu_at hAq hx
                rw [if_neg hle, if_neg hle]
                show (if x3 = 0 then _ else if x3 = 1 then _ else _) = (if x3 = 0 then m1 _ else if x3 = 1 then m2 _ else m3 _)
                rw [ha.1, ha.2.1, ha.2.2]
                rfl
            rw [e]
            exact ⟨_, rfl, rfl, hI⟩
          · refine cc_bipush (v := (-2)) dX3_packet_22 (by decide) ?_
            refine cc_iret rfl rfl dX3_packet_24 ?_
            have e : C_packet (nI i) x2 x3 (S, sn, hi, t) = (-2) := by
              unfold C_packet
              rw [if_pos (cc_pt hi4), C_i_n (by omega)]
              dsimp only
              rw [if_pos (Or.inr (Or.inr (Int32.not_le.mp c_19)))]
            rw [e]
            exact ⟨_, rfl, rfl, hI⟩
    · exact absurd c_4 (by decide)
  · refine cc_iload_n (j := 1) dX3_packet_0 rfl rfl ?_
    refine cc_callSi (As := [.int x1]) (rest := []) (ct_X3_isPort cy z _ x1) ok_X3_isPort st_X3_isPort ml_X3_41 nd_X3_isPort (by decide +kernel) (Nat.le_of_ble_eq_true rfl) rfl dX3_packet_1 (fun r11 G10 q12 => ?_)
    obtain ⟨rfl, rfl⟩ := q12
    rw [if_neg hx]
    refine cc_if_ne (tgt := 9) dX3_packet_4 (by decide) (fun c_4_1 => ?_) (fun c_4_1 => ?_)
    · exact absurd c_4_1 (by decide)
    · refine cc_iconst (v := (-1)) dX3_packet_7 (by decide) ?_
      refine cc_iret rfl rfl dX3_packet_8 ?_
      have e : C_packet x1 x2 x3 (S, sn, hi, t) = (-1) := by
        unfold C_packet
        
        rw [if_neg hx]
      rw [e]
      exact ⟨_, rfl, rfl, hI⟩

set_option maxHeartbeats 4000000 in
set_option maxRecDepth 100000 in
theorem ct_X3_count (cy : Nat → ClassId) (z : Nat) (G : cc_G) (h : Nat) (c : CS_) (x1 : Int32)  (hI : ca_I cy G G h c) : cc_Cn cy Y_X3_count [.ref h, .int x1] z G (cc_qi (fun r G' => r = C_count x1 c ∧ ca_I cy G G' h c)) := by
  obtain ⟨S, sn, hi, t⟩ := c
  refine cc_enter ok_X3_count (Nat.le_of_ble_eq_true rfl) (ls := [(0, .ref h), (1, .int x1)]) rfl ?_
  refine cc_iload_n (j := 1) dX3_count_0 rfl rfl ?_
  refine cc_bipush (v := 11) dX3_count_1 (by decide) ?_
  refine cc_icmp_ne (tgt := 11) dX3_count_3 (by decide) (fun c_3 => ?_) (fun c_3 => ?_)
  · refine cc_iload_n (j := 1) dX3_count_11 rfl rfl ?_
    refine cc_bipush (v := 12) dX3_count_12 (by decide) ?_
    refine cc_icmp_ne (tgt := 22) dX3_count_14 (by decide) (fun c_14 => ?_) (fun c_14 => ?_)
    · refine cc_aload_n (j := 0) dX3_count_22 rfl rfl ?_
      obtain ⟨hs1, hO2⟩ := hI.obj
      refine cc_get (v := .ref (h + 1)) hO2 cc_c3 0 (by decide) fl_X3_10 rfl dX3_count_23 ?_
      refine cc_iload_n (j := 1) dX3_count_26 rfl rfl ?_
      obtain ⟨_, hB3⟩ := hI.box0
      refine cc_callNi (As := [.int x1]) (rest := []) (ct_X0_figure cy z _ _ S x1 ⟨_, hB3⟩) ok_X0_figure (hB3.2.1) rfl im_X0_figure sl_X0_figure mn_X3_164 nd_X0_figure (by decide +kernel) (Nat.le_of_ble_eq_true rfl) rfl dX3_count_27 (fun r5 G4 q6 => ?_)
      obtain ⟨rfl, rfl⟩ := q6
      refine cc_iret rfl rfl dX3_count_30 ?_
      have e : C_count x1 (S, sn, hi, t) = B_fig x1 S := by
        unfold C_count
        
        rw [if_neg c_3, if_neg c_14]
      rw [e]
      exact ⟨_, rfl, rfl, hI⟩
    · refine cc_aload_n (j := 0) dX3_count_17 rfl rfl ?_
      obtain ⟨hs7, hO8⟩ := hI.obj
      refine cc_get (v := .int (nI t.length)) hO8 cc_c3 7 (by decide) fl_X3_38 rfl dX3_count_18 ?_
      refine cc_iret rfl rfl dX3_count_21 ?_
      have e : C_count x1 (S, sn, hi, t) = nI t.length := by
        unfold C_count
        
        rw [if_neg c_3, if_pos c_14]
      rw [e]
      exact ⟨_, rfl, rfl, hI⟩
  · refine cc_aload_n (j := 0) dX3_count_6 rfl rfl ?_
    obtain ⟨hs9, hO10⟩ := hI.obj
    refine cc_get (v := .int (nI hi.length)) hO10 cc_c3 5 (by decide) fl_X3_30 rfl dX3_count_7 ?_
    refine cc_iret rfl rfl dX3_count_10 ?_
    have e : C_count x1 (S, sn, hi, t) = nI hi.length := by
      unfold C_count
      
      rw [if_pos c_3]
    rw [e]
    exact ⟨_, rfl, rfl, hI⟩
