set_option maxHeartbeats 4000000 in
set_option maxRecDepth 100000 in
theorem ct_X3_isPort (cy : Nat → ClassId) (z : Nat) (G : cc_G) (x1 : Int32) : cc_Cn cy Y_X3_isPort [.int x1] z G (cc_qi (fun r G' => r = (if 0 ≤ x1 ∧ x1 < 4 then 1 else 0) ∧ G' = G)) := by
  
  refine cc_enter ok_X3_isPort (Nat.le_of_ble_eq_true rfl) (ls := [(0, .int x1)]) rfl ?_
  refine cc_iload_n (j := 0) dX3_isPort_0 rfl rfl ?_
  refine cc_if_lt (tgt := 13) dX3_isPort_1 (by decide) (fun c_1 => ?_) (fun c_1 => ?_)
  · refine cc_iconst (v := 0) dX3_isPort_13 (by decide) ?_
    refine cc_iret rfl rfl dX3_isPort_14 ?_
    exact ⟨_, rfl, (if_neg (fun h => absurd c_1 (Int32.not_lt.mpr h.1))).symm, rfl⟩
  · refine cc_iload_n (j := 0) dX3_isPort_4 rfl rfl ?_
    refine cc_iconst (v := 4) dX3_isPort_5 (by decide) ?_
    refine cc_icmp_ge (tgt := 13) dX3_isPort_6 (by decide) (fun c_6 => ?_) (fun c_6 => ?_)
    · refine cc_iconst (v := 0) dX3_isPort_13 (by decide) ?_
      refine cc_iret rfl rfl dX3_isPort_14 ?_
      exact ⟨_, rfl, (if_neg (fun h => absurd h.2 (Int32.not_lt.mpr c_6))).symm, rfl⟩
    · refine cc_iconst (v := 1) dX3_isPort_9 (by decide) ?_
      refine cc_goto (tgt := 14) dX3_isPort_10 (by decide) ?_
      refine cc_iret rfl rfl dX3_isPort_14 ?_
      exact ⟨_, rfl, (if_pos ⟨Int32.not_lt.mp c_1, Int32.not_le.mp c_6⟩).symm, rfl⟩

set_option maxHeartbeats 4000000 in
set_option maxRecDepth 100000 in
theorem ct_X3_isTickCount (cy : Nat → ClassId) (z : Nat) (G : cc_G) (x1 : Int32) : cc_Cn cy Y_X3_isTickCount [.int x1] z G (cc_qi (fun r G' => r = (if 1 ≤ x1 ∧ x1 ≤ 50 then 1 else 0) ∧ G' = G)) := by
  
  refine cc_enter ok_X3_isTickCount (Nat.le_of_ble_eq_true rfl) (ls := [(0, .int x1)]) rfl ?_
  refine cc_iload_n (j := 0) dX3_isTickCount_0 rfl rfl ?_
  refine cc_iconst (v := 1) dX3_isTickCount_1 (by decide) ?_
  refine cc_icmp_lt (tgt := 15) dX3_isTickCount_2 (by decide) (fun c_2 => ?_) (fun c_2 => ?_)
  · refine cc_iconst (v := 0) dX3_isTickCount_15 (by decide) ?_
    refine cc_iret rfl rfl dX3_isTickCount_16 ?_
    exact ⟨_, rfl, (if_neg (fun h => absurd c_2 (Int32.not_lt.mpr h.1))).symm, rfl⟩
  · refine cc_iload_n (j := 0) dX3_isTickCount_5 rfl rfl ?_
    refine cc_bipush (v := 50) dX3_isTickCount_6 (by decide) ?_
    refine cc_icmp_gt (tgt := 15) dX3_isTickCount_8 (by decide) (fun c_8 => ?_) (fun c_8 => ?_)
    · refine cc_iconst (v := 0) dX3_isTickCount_15 (by decide) ?_
      refine cc_iret rfl rfl dX3_isTickCount_16 ?_
      exact ⟨_, rfl, (if_neg (fun h => absurd c_8 (Int32.not_lt.mpr h.2))).symm, rfl⟩
    · refine cc_iconst (v := 1) dX3_isTickCount_11 (by decide) ?_
      refine cc_goto (tgt := 16) dX3_isTickCount_12 (by decide) ?_
      refine cc_iret rfl rfl dX3_isTickCount_16 ?_
      exact ⟨_, rfl, (if_pos ⟨Int32.not_lt.mp c_2, Int32.not_lt.mp c_8⟩).symm, rfl⟩

set_option maxHeartbeats 4000000 in
set_option maxRecDepth 100000 in
theorem ct_X3_mostOfLane (cy : Nat → ClassId) (z : Nat) (G : cc_G) (x1 : Int32) : cc_Cn cy Y_X3_mostOfLane [.int x1] z G (cc_qi (fun r G' => r = C_mostL x1 ∧ G' = G)) := by
  
  refine cc_enter ok_X3_mostOfLane (Nat.le_of_ble_eq_true rfl) (ls := [(0, .int x1)]) rfl ?_
  refine cc_iload_n (j := 0) dX3_mostOfLane_0 rfl rfl ?_
  rcases cc_sw2 x1 with rfl | rfl | rfl | c_1
  · refine cc_tableIn (off := 27) (tgt := 28) dX3_mostOfLane_1 (by decide) (by decide) rfl (by decide) ?_
    refine cc_bipush (v := 8) dX3_mostOfLane_28 (by decide) ?_
    refine cc_iret rfl rfl dX3_mostOfLane_30 ?_
    exact ⟨_, rfl, rfl, rfl⟩
  · refine cc_tableIn (off := 30) (tgt := 31) dX3_mostOfLane_1 (by decide) (by decide) rfl (by decide) ?_
    refine cc_bipush (v := 9) dX3_mostOfLane_31 (by decide) ?_
    refine cc_iret rfl rfl dX3_mostOfLane_33 ?_
    exact ⟨_, rfl, rfl, rfl⟩
  · refine cc_tableIn (off := 33) (tgt := 34) dX3_mostOfLane_1 (by decide) (by decide) rfl (by decide) ?_
    refine cc_bipush (v := 6) dX3_mostOfLane_34 (by decide) ?_
    refine cc_iret rfl rfl dX3_mostOfLane_36 ?_
    exact ⟨_, rfl, rfl, rfl⟩
  · refine cc_tableOut (tgt := 37) dX3_mostOfLane_1 c_1 (by decide) ?_
    refine cc_iconst (v := (-1)) dX3_mostOfLane_37 (by decide) ?_
    refine cc_iret rfl rfl dX3_mostOfLane_38 ?_
    exact ⟨_, rfl, by unfold C_mostL; rw [if_neg (fun q => by subst q; exact absurd c_1 (by decide)), if_neg (fun q => by subst q; exact absurd c_1 (by decide)), if_neg (fun q => by subst q; exact absurd c_1 (by decide))], rfl⟩

set_option maxHeartbeats 4000000 in
set_option maxRecDepth 100000 in
theorem ct_X3_mostOfBox (cy : Nat → ClassId) (z : Nat) (G : cc_G) (x1 : Int32) : cc_Cn cy Y_X3_mostOfBox [.int x1] z G (cc_qi (fun r G' => r = C_mostB x1 ∧ G' = G)) := by
  
  refine cc_enter ok_X3_mostOfBox (Nat.le_of_ble_eq_true rfl) (ls := [(0, .int x1)]) rfl ?_
  refine cc_iload_n (j := 0) dX3_mostOfBox_0 rfl rfl ?_
  rcases cc_sw1 x1 with rfl | rfl | c_1
  · refine cc_lookup (off := 27) (tgt := 28) dX3_mostOfBox_1 (by decide) (by decide) (by decide) ?_
    refine cc_iconst (v := 1) dX3_mostOfBox_28 (by decide) ?_
    refine cc_iret rfl rfl dX3_mostOfBox_29 ?_
    exact ⟨_, rfl, rfl, rfl⟩
  · refine cc_lookup (off := 29) (tgt := 30) dX3_mostOfBox_1 (by decide) (by decide) (by decide) ?_
    refine cc_bipush (v := 60) dX3_mostOfBox_30 (by decide) ?_
    refine cc_iret rfl rfl dX3_mostOfBox_32 ?_
    exact ⟨_, rfl, rfl, rfl⟩
  · refine cc_lookup (off := 32) (tgt := 33) dX3_mostOfBox_1 (by decide) (cc_lk1 c_1) (by decide) ?_
    refine cc_iconst (v := (-1)) dX3_mostOfBox_33 (by decide) ?_
    refine cc_iret rfl rfl dX3_mostOfBox_34 ?_
    exact ⟨_, rfl, by unfold C_mostB; rw [if_neg (fun q => by subst q; exact absurd c_1 (by decide)), if_neg (fun q => by subst q; exact absurd c_1 (by decide))], rfl⟩

set_option maxHeartbeats 4000000 in
set_option maxRecDepth 100000 in
theorem ct_X0_hasRoom (cy : Nat → ClassId) (z : Nat) (G : cc_G) (b : Nat) (hs : Nat → Int32) (S : St_) (i : Nat) (hi4 : i < 4) (k : Nat) (hk : k ≤ 9) (x2 : Int32) (hx2 : x2 = nI k) (hB : bx_I cy G G b hs S) : cc_Cn cy Y_X0_hasRoom [.ref b, .int (nI i), .int x2] z G (cc_qi (fun r G' => r = (if (S.2.2 i).2.2.length + k ≤ 8 then 1 else 0) ∧ G' = G)) := by
  subst hx2
  have h8 : (S.2.2 i).2.2.length ≤ 8 := by
    obtain ⟨_, _, _, _, _, h8⟩ := hB.2.2.2.2.2 i hi4
    exact h8
  refine cc_enter ok_X0_hasRoom (Nat.le_of_ble_eq_true rfl) (ls := [(0, .ref b), (1, .int (nI i)), (2, .int (nI k))]) rfl ?_
  refine cc_iload_n (j := 1) dX0_hasRoom_0 rfl rfl ?_
  refine cc_callTi (As := [.int (nI i)]) (rest := []) (ct_X3_isPort cy z _ (nI i)) ok_X3_isPort st_X3_isPort mn_X0_45 nd_X3_isPort (by decide +kernel) (Nat.le_of_ble_eq_true rfl) rfl dX0_hasRoom_1 (fun r2 G1 q3 => ?_)
  obtain ⟨rfl, rfl⟩ := q3
  rw [if_pos (cc_pt hi4)]
  refine cc_if_eq (tgt := 27) dX0_hasRoom_4 (by decide) (fun c_4 => ?_) (fun c_4 => ?_)
  · exact absurd c_4 (by decide)
  · refine cc_aload_n (j := 0) dX0_hasRoom_7 rfl rfl ?_
    refine cc_get (v := .ref (b + 2)) hB.2.1 cc_c0 5 (by decide) fl_X0_32 rfl dX0_hasRoom_8 ?_
    refine cc_iload_n (j := 1) dX0_hasRoom_11 rfl rfl ?_
    refine cc_aald5 (x := b + 6 + 7 * i) hB.2.2.2.1 (vp_in_nI (n := i) (by omega) (by decide)) (by rw [(nI_clamp (by omega))]; rfl) dX0_hasRoom_12 ?_
    obtain ⟨_, _, _, hLr4, -⟩ := hB.2.2.2.2.2 i hi4
    refine cc_getN (v := .int (nI (S.2.2 i).2.2.length)) hLr4.2.1 cc_c2 3 (by decide) fn_X0_49 rfl dX0_hasRoom_13 ?_
    refine cc_iload_n (j := 2) dX0_hasRoom_16 rfl rfl ?_
    refine cc_iadd dX0_hasRoom_17 ?_
    rw [show (nI (S.2.2 i).2.2.length) + (nI k) = nI ((S.2.2 i).2.2.length + k) from nI_add ((S.2.2 i).2.2.length) k]
    refine cc_bipush (v := 8) dX0_hasRoom_18 (by decide) ?_
    refine cc_icmp_gt (tgt := 27) dX0_hasRoom_20 (by decide) (fun c_20 => ?_) (fun c_20 => ?_)
    · refine cc_iconst (v := 0) dX0_hasRoom_27 (by decide) ?_
      refine cc_iret rfl rfl dX0_hasRoom_28 ?_
      exact ⟨_, rfl, (if_neg (fun q => absurd ((nI_ltI (a := 8) (by decide) (by omega)).mp c_20) (by omega))).symm, rfl⟩
    · refine cc_iconst (v := 1) dX0_hasRoom_23 (by decide) ?_
      refine cc_goto (tgt := 28) dX0_hasRoom_24 (by decide) ?_
      refine cc_iret rfl rfl dX0_hasRoom_28 ?_
      exact ⟨_, rfl, (if_pos (Nat.not_lt.mp (fun q => c_20 (nI_lt (a := 8) q (by omega))))).symm, rfl⟩

set_option maxHeartbeats 4000000 in
set_option maxRecDepth 100000 in
theorem ct_X3_dropOldest (cy : Nat → ClassId) (z : Nat) (G : cc_G) (h : Nat) (c : CS_) (BS : Nat → St_) (hS : Int32) (π : Nat → Nat) (nH : Int32) (tx : Nat → Int32) (nT : Int32) (hP : ca_P π) (H : ca_R cy G G h BS hS π nH tx nT) : cc_Cn cy Y_X3_dropOldest [.ref h] z G (cc_qv (fun G' => ca_R cy G G' h BS hS (ca_rot π) 3 tx nT)) := by
  
  refine cc_enter ok_X3_dropOldest (Nat.le_of_ble_eq_true rfl) (ls := [(0, .ref h)]) rfl ?_
  refine cc_aload_n (j := 0) dX3_dropOldest_0 rfl rfl ?_
  refine cc_get (v := .ref (h + 94)) H.2.1 cc_c3 4 (by decide) fl_X3_26 rfl dX3_dropOldest_1 ?_
  refine cc_iconst (v := 0) dX3_dropOldest_4 (by decide) ?_
  refine cc_aald3 (x := cb h (3 + π 0)) H.2.2.2.1 (vp_in_nI (n := 0) (by decide) (by decide)) rfl dX3_dropOldest_5 ?_
  refine cc_astore_n (ls' := [(1, .ref (cb h (3 + π 0))), (0, .ref h)]) dX3_dropOldest_6 rfl (Nat.le_of_ble_eq_true rfl) rfl ?_
  refine cc_iconst (v := 1) dX3_dropOldest_7 (by decide) ?_
  refine cc_istore_n (ls' := [(2, .int 1), (1, .ref (cb h (3 + π 0))), (0, .ref h)]) dX3_dropOldest_8 rfl (Nat.le_of_ble_eq_true rfl) rfl ?_
  refine cc_iload_n (j := 0) dX3_dropOldest_9 rfl rfl ?_
  refine cc_iconst (v := 4) dX3_dropOldest_10 (by decide) ?_
  refine cc_icmp_ge (tgt := 34) dX3_dropOldest_11 (by decide) (fun c_11 => ?_) (fun c_11 => ?_)
  · exact absurd c_11 (by decide)
  · refine cc_aload_n (j := 2) dX3_dropOldest_14 rfl rfl ?_
    refine cc_get (v := .ref (h + 94)) H.2.1 cc_c3 4 (by decide) fl_X3_26 rfl dX3_dropOldest_15 ?_
    refine cc_iload_n (j := 0) dX3_dropOldest_18 rfl rfl ?_
    refine cc_iconst (v := 1) dX3_dropOldest_19 (by decide) ?_
    refine cc_isub dX3_dropOldest_20 ?_
    rw [show (1 : Int32) - 1 = 0 by decide]
    refine cc_aload_n (j := 2) dX3_dropOldest_21 rfl rfl ?_
    refine cc_get (v := .ref (h + 94)) H.2.1 cc_c3 4 (by decide) fl_X3_26 rfl dX3_dropOldest_22 ?_
    refine cc_iload_n (j := 0) dX3_dropOldest_25 rfl rfl ?_
    refine cc_aald3 (x := cb h (3 + π 1)) H.2.2.2.1 (vp_in_nI (n := 1) (by decide) (by decide)) rfl dX3_dropOldest_26 ?_
    refine ca_rhist (p := π 1) (j := 0) H (hP.1 1 (by decide)) (vp_in_nI (n := 0) (by decide) (by decide)) rfl dX3_dropOldest_27 (fun G1 H2 => ?_)
    refine cc_iinc (j := 0) (v := 2) (ls' := [(2, .int 2), (1, .ref (cb h (3 + π 0))), (0, .ref h)]) dX3_dropOldest_28 rfl (by decide) (Nat.le_of_ble_eq_true rfl) rfl ?_
    refine cc_goto (tgt := 9) dX3_dropOldest_31 (by decide) ?_
    refine cc_iload_n (j := 0) dX3_dropOldest_9 rfl rfl ?_
    refine cc_iconst (v := 4) dX3_dropOldest_10 (by decide) ?_
    refine cc_icmp_ge (tgt := 34) dX3_dropOldest_11 (by decide) (fun c_11_1 => ?_) (fun c_11_1 => ?_)
    · exact absurd c_11_1 (by decide)
    · refine cc_aload_n (j := 2) dX3_dropOldest_14 rfl rfl ?_
      refine cc_get (v := .ref (h + 94)) H2.2.1 cc_c3 4 (by decide) fl_X3_26 rfl dX3_dropOldest_15 ?_
      refine cc_iload_n (j := 0) dX3_dropOldest_18 rfl rfl ?_
      refine cc_iconst (v := 1) dX3_dropOldest_19 (by decide) ?_
      refine cc_isub dX3_dropOldest_20 ?_
      rw [show (2 : Int32) - 1 = 1 by decide]
      refine cc_aload_n (j := 2) dX3_dropOldest_21 rfl rfl ?_
      refine cc_get (v := .ref (h + 94)) H2.2.1 cc_c3 4 (by decide) fl_X3_26 rfl dX3_dropOldest_22 ?_
      refine cc_iload_n (j := 0) dX3_dropOldest_25 rfl rfl ?_
      refine cc_aald3 (x := cb h (3 + (va_up π 0 (π 1)) 2)) H2.2.2.2.1 (vp_in_nI (n := 2) (by decide) (by decide)) rfl dX3_dropOldest_26 ?_
      refine ca_rhist (p := (va_up π 0 (π 1)) 2) (j := 1) H2 (hP.1 2 (by decide)) (vp_in_nI (n := 1) (by decide) (by decide)) rfl dX3_dropOldest_27 (fun G3 H4 => ?_)
      refine cc_iinc (j := 0) (v := 3) (ls' := [(2, .int 3), (1, .ref (cb h (3 + π 0))), (0, .ref h)]) dX3_dropOldest_28 rfl (by decide) (Nat.le_of_ble_eq_true rfl) rfl ?_
      refine cc_goto (tgt := 9) dX3_dropOldest_31 (by decide) ?_
      refine cc_iload_n (j := 0) dX3_dropOldest_9 rfl rfl ?_
      refine cc_iconst (v := 4) dX3_dropOldest_10 (by decide) ?_
      refine cc_icmp_ge (tgt := 34) dX3_dropOldest_11 (by decide) (fun c_11_2 => ?_) (fun c_11_2 => ?_)
      · exact absurd c_11_2 (by decide)
      · refine cc_aload_n (j := 2) dX3_dropOldest_14 rfl rfl ?_
        refine cc_get (v := .ref (h + 94)) H4.2.1 cc_c3 4 (by decide) fl_X3_26 rfl dX3_dropOldest_15 ?_
        refine cc_iload_n (j := 0) dX3_dropOldest_18 rfl rfl ?_
        refine cc_iconst (v := 1) dX3_dropOldest_19 (by decide) ?_
        refine cc_isub dX3_dropOldest_20 ?_
        rw [show (3 : Int32) - 1 = 2 by decide]
        refine cc_aload_n (j := 2) dX3_dropOldest_21 rfl rfl ?_
        refine cc_get (v := .ref (h + 94)) H4.2.1 cc_c3 4 (by decide) fl_X3_26 rfl dX3_dropOldest_22 ?_
        refine cc_iload_n (j := 0) dX3_dropOldest_25 rfl rfl ?_
        refine cc_aald3 (x := cb h (3 + (va_up (va_up π 0 (π 1)) 1 ((va_up π 0 (π 1)) 2)) 3)) H4.2.2.2.1 (vp_in_nI (n := 3) (by decide) (by decide)) rfl dX3_dropOldest_26 ?_
        refine ca_rhist (p := (va_up (va_up π 0 (π 1)) 1 ((va_up π 0 (π 1)) 2)) 3) (j := 2) H4 (hP.1 3 (by decide)) (vp_in_nI (n := 2) (by decide) (by decide)) rfl dX3_dropOldest_27 (fun G5 H6 => ?_)
        refine cc_iinc (j := 0) (v := 4) (ls' := [(2, .int 4), (1, .ref (cb h (3 + π 0))), (0, .ref h)]) dX3_dropOldest_28 rfl (by decide) (Nat.le_of_ble_eq_true rfl) rfl ?_
        refine cc_goto (tgt := 9) dX3_dropOldest_31 (by decide) ?_
        refine cc_iload_n (j := 0) dX3_dropOldest_9 rfl rfl ?_
        refine cc_iconst (v := 4) dX3_dropOldest_10 (by decide) ?_
        refine cc_icmp_ge (tgt := 34) dX3_dropOldest_11 (by decide) (fun c_11_3 => ?_) (fun c_11_3 => ?_)
        · refine cc_aload_n (j := 2) dX3_dropOldest_34 rfl rfl ?_
          refine cc_get (v := .ref (h + 94)) H6.2.1 cc_c3 4 (by decide) fl_X3_26 rfl dX3_dropOldest_35 ?_
          refine cc_iconst (v := 3) dX3_dropOldest_38 (by decide) ?_
          refine cc_aload_n (j := 1) dX3_dropOldest_39 rfl rfl ?_
          refine ca_rhist (p := π 0) (j := 3) H6 (hP.1 0 (by decide)) (vp_in_nI (n := 3) (by decide) (by decide)) rfl dX3_dropOldest_40 (fun G7 H8 => ?_)
          refine cc_aload_n (j := 2) dX3_dropOldest_41 rfl rfl ?_
          refine cc_iconst (v := 3) dX3_dropOldest_42 (by decide) ?_
          refine ca_rput (hS' := hS) (nH' := 3) (nT' := nT) H8 cc_c3 5 (by decide) fl_X3_30 rfl rfl rfl rfl rfl dX3_dropOldest_43 (fun G9 H10 => ?_)
          refine cc_vret rfl dX3_dropOldest_46 ?_
          exact ⟨rfl, H10⟩
        · exact absurd c_11_3 (by decide)

set_option maxHeartbeats 4000000 in
set_option maxRecDepth 100000 in
theorem ct_X3_remember (cy : Nat → ClassId) (z : Nat) (G : cc_G) (h : Nat) (c : CS_)  (hI : ca_I cy G G h c) : cc_Cn cy Y_X3_remember [.ref h] z G (cc_qv (fun G' => ca_I cy G G' h (C_rem c))) := by
  obtain ⟨S, sn, hi, t⟩ := c
  obtain ⟨BS, hS, π, tx, H, e0, eS, hP, hH, hl, hT, h60⟩ := hI
  have e0 : S = BS 0 := e0
  have H : ca_R cy G G h BS hS π (nI hi.length) tx (nI t.length) := H
  have eS : ca_S hS BS sn := eS
  have hH : ∀ (i : Nat) (hq : i < hi.length), BS (3 + π i) = hi[i] := hH
  have hl : hi.length ≤ 4 := hl
  have hT : ar_ tx t := hT
  have h60 : t.length ≤ 60 := h60
  refine cc_enter ok_X3_remember (Nat.le_of_ble_eq_true rfl) (ls := [(0, .ref h)]) rfl ?_
  refine cc_aload_n (j := 0) dX3_remember_0 rfl rfl ?_
  refine cc_get (v := .int (nI hi.length)) H.2.1 cc_c3 5 (by decide) fl_X3_30 rfl dX3_remember_1 ?_
  refine cc_iconst (v := 4) dX3_remember_4 (by decide) ?_
  refine cc_icmp_lt (tgt := 12) dX3_remember_5 (by decide) (fun c_5 => ?_) (fun c_5 => ?_)
  · have hlt : hi.length < 4 := (nI_ltI (b := 4) (by omega) (by decide)).mp c_5
    refine cc_aload_n (j := 0) dX3_remember_12 rfl rfl ?_
    refine cc_get (v := .ref (h + 94)) H.2.1 cc_c3 4 (by decide) fl_X3_26 rfl dX3_remember_13 ?_
    refine cc_aload_n (j := 0) dX3_remember_16 rfl rfl ?_
    refine cc_get (v := .int (nI hi.length)) H.2.1 cc_c3 5 (by decide) fl_X3_30 rfl dX3_remember_17 ?_
    refine cc_aald3 (x := cb h (3 + π hi.length)) H.2.2.2.1 (vp_in_nI (n := hi.length) (by omega) (by decide)) (by rw [(nI_clamp (by omega))]; rfl) dX3_remember_20 ?_
    refine cc_aload_n (j := 0) dX3_remember_21 rfl rfl ?_
    refine cc_get (v := .ref (h + 1)) H.2.1 cc_c3 0 (by decide) fl_X3_10 rfl dX3_remember_22 ?_
    refine cc_callNv (As := [.ref (h + 1)]) (rest := []) (ct_X0_copyFrom cy z _ _ _ _ _ (cb_ap h (k := 3 + π hi.length) (j := 0) (by omega)) H.b0 (H.2.2.1 (3 + π hi.length) (by have := hP.1 hi.length (by omega); omega))) ok_X0_copyFrom ((H.2.2.1 (3 + π hi.length) (by have := hP.1 hi.length (by omega); omega)).obj) rfl im_X0_copyFrom sl_X0_copyFrom mn_X3_89 nd_X0_copyFrom (by decide +kernel) (Nat.le_of_ble_eq_true rfl) rfl dX3_remember_25 (fun G1 q3 => ?_)
    have H4 := H.slot (k := 3 + π hi.length) (by have := hP.1 hi.length (by omega); omega) rfl q3
    refine cc_aload_n (j := 0) dX3_remember_28 rfl rfl ?_
    refine cc_dup dX3_remember_29 rfl ?_
    refine cc_get (v := .int (nI hi.length)) H4.2.1 cc_c3 5 (by decide) fl_X3_30 rfl dX3_remember_30 ?_
    refine cc_iconst (v := 1) dX3_remember_33 (by decide) ?_
    refine cc_iadd dX3_remember_34 ?_
    rw [show (nI hi.length) + 1 = nI (hi.length + 1) from nI_1 _]
    refine ca_rput (hS' := hS) (nH' := (nI (hi.length + 1))) (nT' := (nI t.length)) H4 cc_c3 5 (by decide) fl_X3_30 rfl rfl rfl rfl rfl dX3_remember_35 (fun G5 H6 => ?_)
    refine cc_vret rfl dX3_remember_38 ?_
    have e : C_rem (S, sn, hi, t) = (S, sn, hi ++ [S], t) := by
      show (S, sn, (if 4 ≤ hi.length then hi.tail else hi) ++ [S], t) = _
      rw [if_neg (by omega)]
    subst e0
    refine ⟨rfl, ?_⟩
    rw [e]
    exact ca_I.push H6 rfl rfl eS hP hH hlt hT h60
  · have hge : hi.length = 4 := by
      rcases Nat.lt_or_ge hi.length 4 with q | q
      · exact absurd (nI_lt (b := 4) q (by decide)) c_5
      · omega
    refine cc_aload_n (j := 0) dX3_remember_8 rfl rfl ?_
    refine cc_callVv (As := []) (rest := []) (ct_X3_dropOldest cy z _ h (S, sn, hi, t) _ _ _ _ _ _ hP H.self) ok_X3_dropOldest (H.2.1) rfl im_X3_dropOldest sl_X3_dropOldest ml_X3_165 nd_X3_dropOldest (by decide +kernel) (Nat.le_of_ble_eq_true rfl) rfl dX3_remember_9 (fun G7 q9 => ?_)
    refine cc_aload_n (j := 0) dX3_remember_12 rfl rfl ?_
    refine cc_get (v := .ref (h + 94)) q9.2.1 cc_c3 4 (by decide) fl_X3_26 rfl dX3_remember_13 ?_
    refine cc_aload_n (j := 0) dX3_remember_16 rfl rfl ?_
    refine cc_get (v := .int 3) q9.2.1 cc_c3 5 (by decide) fl_X3_30 rfl dX3_remember_17 ?_
    refine cc_aald3 (x := cb h (3 + (ca_rot π) 3)) q9.2.2.2.1 (vp_in_nI (n := 3) (by decide) (by decide)) rfl dX3_remember_20 ?_
    refine cc_aload_n (j := 0) dX3_remember_21 rfl rfl ?_
    refine cc_get (v := .ref (h + 1)) q9.2.1 cc_c3 0 (by decide) fl_X3_10 rfl dX3_remember_22 ?_
    refine cc_callNv (As := [.ref (h + 1)]) (rest := []) (ct_X0_copyFrom cy z _ _ _ _ _ (cb_ap h (k := 3 + (ca_rot π) 3) (j := 0) (by omega)) q9.b0 (q9.2.2.1 (3 + (ca_rot π) 3) (by have := hP.rot.1 3 (by omega); omega))) ok_X0_copyFrom ((q9.2.2.1 (3 + (ca_rot π) 3) (by have := hP.rot.1 3 (by omega); omega)).obj) rfl im_X0_copyFrom sl_X0_copyFrom mn_X3_89 nd_X0_copyFrom (by decide +kernel) (Nat.le_of_ble_eq_true rfl) rfl dX3_remember_25 (fun G10 q12 => ?_)
    have H13 := q9.slot (k := 3 + (ca_rot π) 3) (by have := hP.rot.1 3 (by omega); omega) rfl q12
    refine cc_aload_n (j := 0) dX3_remember_28 rfl rfl ?_
    refine cc_dup dX3_remember_29 rfl ?_
    refine cc_get (v := .int 3) H13.2.1 cc_c3 5 (by decide) fl_X3_30 rfl dX3_remember_30 ?_
    refine cc_iconst (v := 1) dX3_remember_33 (by decide) ?_
    refine cc_iadd dX3_remember_34 ?_
    rw [show (3 : Int32) + 1 = 4 by decide]
    refine ca_rput (hS' := hS) (nH' := 4) (nT' := (nI t.length)) H13 cc_c3 5 (by decide) fl_X3_30 rfl rfl rfl rfl rfl dX3_remember_35 (fun G14 H15 => ?_)
    refine cc_vret rfl dX3_remember_38 ?_
    have e : C_rem (S, sn, hi, t) = (S, sn, hi.tail ++ [S], t) := by
      show (S, sn, (if 4 ≤ hi.length then hi.tail else hi) ++ [S], t) = _
      rw [if_pos (by omega)]
    subst e0
    refine ⟨rfl, ?_⟩
    rw [e]
    have h3 : hi.tail.length = 3 := by rw [List.length_tail]; omega
    refine ca_I.push (π := ca_rot π) (by rw [h3]; exact H15) (by rw [h3]; rfl) rfl eS hP.rot (fun i hq => ?_) (by omega) hT h60
    have hi3 : i < 3 := by omega
    have hr : ca_rot π i = π (i + 1) := by
      match i, hi3 with
      | 0, _ => rfl
      | 1, _ => rfl
      | 2, _ => rfl
    have hi4 : i + 1 < hi.length := by rw [hge]; omega
    rw [hr, hH (i + 1) hi4, List.getElem_tail]
