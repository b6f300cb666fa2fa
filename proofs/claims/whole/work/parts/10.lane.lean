set_option maxHeartbeats 4000000 in
set_option maxRecDepth 100000 in
theorem ct_X1_missing (cy : Nat → ClassId) (z : Nat) (G : cc_G) (a : Nat) (v : Nat → Int32) (nS : Int32) (f : Nat → Int32) (nW : Int32) (g : Nat → Int32)  (hL : ln_R cy G G a v nS f nW g) : cc_Cn cy Y_X1_missing [.ref a] z G (cc_qi (fun r G' => r = v 0 - v 3 - nS - nW ∧ G' = G)) := by
  
  refine cc_enter ok_X1_missing (Nat.le_of_ble_eq_true rfl) (ls := [(0, .ref a)]) rfl ?_
  refine cc_aload_n (j := 0) dX1_missing_0 rfl rfl ?_
  refine cc_get (v := .int (v 0)) hL.2.1 cc_c1 0 (by decide) fl_X1_9 rfl dX1_missing_1 ?_
  refine cc_aload_n (j := 0) dX1_missing_4 rfl rfl ?_
  refine cc_get (v := .int (v 3)) hL.2.1 cc_c1 3 (by decide) fl_X1_21 rfl dX1_missing_5 ?_
  refine cc_isub dX1_missing_8 ?_
  refine cc_aload_n (j := 0) dX1_missing_9 rfl rfl ?_
  refine cc_get (v := .int nS) hL.2.1 cc_c1 10 (by decide) fl_X1_43 rfl dX1_missing_10 ?_
  refine cc_isub dX1_missing_13 ?_
  refine cc_aload_n (j := 0) dX1_missing_14 rfl rfl ?_
  refine cc_get (v := .int nW) hL.2.1 cc_c1 12 (by decide) fl_X1_49 rfl dX1_missing_15 ?_
  refine cc_isub dX1_missing_18 ?_
  refine cc_iret rfl rfl dX1_missing_19 ?_
  exact ⟨_, rfl, rfl, rfl⟩

set_option maxHeartbeats 4000000 in
set_option maxRecDepth 100000 in
theorem ct_X1_mend (cy : Nat → ClassId) (z : Nat) (G : cc_G) (a : Nat) (v : Nat → Int32) (nS : Int32) (f : Nat → Int32) (nW : Int32) (g : Nat → Int32)  (hL : ln_R cy G G a v nS f nW g) : cc_Cn cy Y_X1_mend [.ref a] z G (cc_qv (fun G' => ln_R cy G G' a (upd v 3 (v 3 + (v 0 - v 3 - nS - nW))) nS f nW g)) := by
  
  refine cc_enter ok_X1_mend (Nat.le_of_ble_eq_true rfl) (ls := [(0, .ref a)]) rfl ?_
  refine cc_aload_n (j := 0) dX1_mend_0 rfl rfl ?_
  refine cc_dup dX1_mend_1 rfl ?_
  refine cc_get (v := .int (v 3)) hL.2.1 cc_c1 3 (by decide) fl_X1_21 rfl dX1_mend_2 ?_
  refine cc_aload_n (j := 0) dX1_mend_5 rfl rfl ?_
  refine cc_callVi (As := []) (rest := [.int (v 3), .ref a]) (ct_X1_missing cy z _ a _ _ _ _ _ hL.self) ok_X1_missing (hL.2.1) rfl im_X1_missing sl_X1_missing ml_X1_58 nd_X1_missing (by decide +kernel) (Nat.le_of_ble_eq_true rfl) rfl dX1_mend_6 (fun r2 G1 q3 => ?_)
  obtain ⟨rfl, rfl⟩ := q3
  refine cc_iadd dX1_mend_9 ?_
  refine ln_rput (v' := upd v 3 ((v 3) + (v 0 - (v 3) - nS - nW))) (nS' := nS) (nW' := nW) hL cc_c1 3 (by decide) fl_X1_21 rfl rfl rfl dX1_mend_10 (fun G4 hL5 => ?_)
  refine cc_vret rfl dX1_mend_13 ?_
  exact ⟨rfl, hL5⟩

set_option maxHeartbeats 4000000 in
set_option maxRecDepth 100000 in
theorem ct_X1_setting (cy : Nat → ClassId) (z : Nat) (G : cc_G) (a : Nat) (v : Nat → Int32) (nS : Int32) (f : Nat → Int32) (nW : Int32) (g : Nat → Int32) (x1 : Int32) (hL : ln_R cy G G a v nS f nW g) : cc_Cn cy Y_X1_setting [.ref a, .int x1] z G (cc_qi (fun r G' => r = (if x1 = 0 then v 0 else if x1 = 1 then v 1 else v 2) ∧ G' = G)) := by
  
  refine cc_enter ok_X1_setting (Nat.le_of_ble_eq_true rfl) (ls := [(0, .ref a), (1, .int x1)]) rfl ?_
  refine cc_iload_n (j := 1) dX1_setting_0 rfl rfl ?_
  rcases cc_sw1 x1 with rfl | rfl | c_1
  · refine cc_lookup (off := 27) (tgt := 28) dX1_setting_1 (by decide) (by decide) (by decide) ?_
    refine cc_aload_n (j := 0) dX1_setting_28 rfl rfl ?_
    refine cc_get (v := .int (v 0)) hL.2.1 cc_c1 0 (by decide) fl_X1_9 rfl dX1_setting_29 ?_
    refine cc_iret rfl rfl dX1_setting_32 ?_
    exact ⟨_, rfl, by simp, rfl⟩
  · refine cc_lookup (off := 32) (tgt := 33) dX1_setting_1 (by decide) (by decide) (by decide) ?_
    refine cc_aload_n (j := 0) dX1_setting_33 rfl rfl ?_
    refine cc_get (v := .int (v 1)) hL.2.1 cc_c1 1 (by decide) fl_X1_15 rfl dX1_setting_34 ?_
    refine cc_iret rfl rfl dX1_setting_37 ?_
    exact ⟨_, rfl, by simp, rfl⟩
  · refine cc_lookup (off := 37) (tgt := 38) dX1_setting_1 (by decide) (cc_lk1 c_1) (by decide) ?_
    refine cc_aload_n (j := 0) dX1_setting_38 rfl rfl ?_
    refine cc_get (v := .int (v 2)) hL.2.1 cc_c1 2 (by decide) fl_X1_18 rfl dX1_setting_39 ?_
    refine cc_iret rfl rfl dX1_setting_42 ?_
    exact ⟨_, rfl, by rw [if_neg (fun q => by subst q; exact absurd c_1 (by decide)), if_neg (fun q => by subst q; exact absurd c_1 (by decide))], rfl⟩

set_option maxHeartbeats 4000000 in
set_option maxRecDepth 100000 in
theorem ct_X1_change (cy : Nat → ClassId) (z : Nat) (G : cc_G) (a : Nat) (v : Nat → Int32) (nS : Int32) (f : Nat → Int32) (nW : Int32) (g : Nat → Int32) (x1 x2 : Int32) (hL : ln_R cy G G a v nS f nW g) : cc_Cn cy Y_X1_change [.ref a, .int x1, .int x2] z G (cc_qv (fun G' => ln_R cy G G' a (if x1 = 0 then upd (upd v 3 (v 3 + (x2 - v 0))) 0 x2 else if x1 = 1 then upd v 1 x2 else upd v 2 x2) nS f nW g)) := by
  
  refine cc_enter ok_X1_change (Nat.le_of_ble_eq_true rfl) (ls := [(0, .ref a), (1, .int x1), (2, .int x2)]) rfl ?_
  refine cc_iload_n (j := 1) dX1_change_0 rfl rfl ?_
  rcases cc_sw1 x1 with rfl | rfl | c_1
  · refine cc_lookup (off := 27) (tgt := 28) dX1_change_1 (by decide) (by decide) (by decide) ?_
    refine cc_aload_n (j := 0) dX1_change_28 rfl rfl ?_
    refine cc_dup dX1_change_29 rfl ?_
    refine cc_get (v := .int (v 3)) hL.2.1 cc_c1 3 (by decide) fl_X1_21 rfl dX1_change_30 ?_
    refine cc_iload_n (j := 2) dX1_change_33 rfl rfl ?_
    refine cc_aload_n (j := 0) dX1_change_34 rfl rfl ?_
    refine cc_get (v := .int (v 0)) hL.2.1 cc_c1 0 (by decide) fl_X1_9 rfl dX1_change_35 ?_
    refine cc_isub dX1_change_38 ?_
    refine cc_iadd dX1_change_39 ?_
    refine ln_rput (v' := upd v 3 ((v 3) + (x2 - (v 0)))) (nS' := nS) (nW' := nW) hL cc_c1 3 (by decide) fl_X1_21 rfl rfl rfl dX1_change_40 (fun G1 hL2 => ?_)
    refine cc_aload_n (j := 0) dX1_change_43 rfl rfl ?_
    refine cc_iload_n (j := 2) dX1_change_44 rfl rfl ?_
    refine ln_rput (v' := upd (upd v 3 ((v 3) + (x2 - (v 0)))) 0 x2) (nS' := nS) (nW' := nW) hL2 cc_c1 0 (by decide) fl_X1_9 rfl rfl rfl dX1_change_45 (fun G3 hL4 => ?_)
    refine cc_goto (tgt := 64) dX1_change_48 (by decide) ?_
    refine cc_vret rfl dX1_change_64 ?_
    exact ⟨rfl, by simpa using hL4⟩
  · refine cc_lookup (off := 50) (tgt := 51) dX1_change_1 (by decide) (by decide) (by decide) ?_
    refine cc_aload_n (j := 0) dX1_change_51 rfl rfl ?_
    refine cc_iload_n (j := 2) dX1_change_52 rfl rfl ?_
    refine ln_rput (v' := upd v 1 x2) (nS' := nS) (nW' := nW) hL cc_c1 1 (by decide) fl_X1_15 rfl rfl rfl dX1_change_53 (fun G5 hL6 => ?_)
    refine cc_goto (tgt := 64) dX1_change_56 (by decide) ?_
    refine cc_vret rfl dX1_change_64 ?_
    exact ⟨rfl, by simpa using hL6⟩
  · refine cc_lookup (off := 58) (tgt := 59) dX1_change_1 (by decide) (cc_lk1 c_1) (by decide) ?_
    refine cc_aload_n (j := 0) dX1_change_59 rfl rfl ?_
    refine cc_iload_n (j := 2) dX1_change_60 rfl rfl ?_
    refine ln_rput (v' := upd v 2 x2) (nS' := nS) (nW' := nW) hL cc_c1 2 (by decide) fl_X1_18 rfl rfl rfl dX1_change_61 (fun G7 hL8 => ?_)
    refine cc_vret rfl dX1_change_64 ?_
    refine ⟨rfl, ?_⟩
    rw [if_neg (fun q => by subst q; exact absurd c_1 (by decide)), if_neg (fun q => by subst q; exact absurd c_1 (by decide))]
    exact hL8

set_option maxHeartbeats 4000000 in
set_option maxRecDepth 100000 in
theorem ct_X1_isDry (cy : Nat → ClassId) (z : Nat) (G : cc_G) (a : Nat) (v : Nat → Int32) (nS : Int32) (f : Nat → Int32) (nW : Int32) (g : Nat → Int32)  (hL : ln_R cy G G a v nS f nW g) : cc_Cn cy Y_X1_isDry [.ref a] z G (cc_qi (fun r G' => r = (if v 3 ≤ 0 ∧ nS = 0 ∧ nW = 0 then 1 else 0) ∧ G' = G)) := by
  
  refine cc_enter ok_X1_isDry (Nat.le_of_ble_eq_true rfl) (ls := [(0, .ref a)]) rfl ?_
  refine cc_aload_n (j := 0) dX1_isDry_0 rfl rfl ?_
  refine cc_get (v := .int (v 3)) hL.2.1 cc_c1 3 (by decide) fl_X1_21 rfl dX1_isDry_1 ?_
  refine cc_if_gt (tgt := 25) dX1_isDry_4 (by decide) (fun c_4 => ?_) (fun c_4 => ?_)
  · refine cc_iconst (v := 0) dX1_isDry_25 (by decide) ?_
    refine cc_iret rfl rfl dX1_isDry_26 ?_
    exact ⟨_, rfl, (if_neg (fun h => absurd c_4 (Int32.not_lt.mpr h.1))).symm, rfl⟩
  · refine cc_aload_n (j := 0) dX1_isDry_7 rfl rfl ?_
    refine cc_get (v := .int nS) hL.2.1 cc_c1 10 (by decide) fl_X1_43 rfl dX1_isDry_8 ?_
    refine cc_if_ne (tgt := 25) dX1_isDry_11 (by decide) (fun c_11 => ?_) (fun c_11 => ?_)
    · refine cc_iconst (v := 0) dX1_isDry_25 (by decide) ?_
      refine cc_iret rfl rfl dX1_isDry_26 ?_
      exact ⟨_, rfl, (if_neg (fun h => c_11 h.2.1)).symm, rfl⟩
    · refine cc_aload_n (j := 0) dX1_isDry_14 rfl rfl ?_
      refine cc_get (v := .int nW) hL.2.1 cc_c1 12 (by decide) fl_X1_49 rfl dX1_isDry_15 ?_
      refine cc_if_ne (tgt := 25) dX1_isDry_18 (by decide) (fun c_18 => ?_) (fun c_18 => ?_)
      · refine cc_iconst (v := 0) dX1_isDry_25 (by decide) ?_
        refine cc_iret rfl rfl dX1_isDry_26 ?_
        exact ⟨_, rfl, (if_neg (fun h => c_18 h.2.2)).symm, rfl⟩
      · refine cc_iconst (v := 1) dX1_isDry_21 (by decide) ?_
        refine cc_goto (tgt := 26) dX1_isDry_22 (by decide) ?_
        refine cc_iret rfl rfl dX1_isDry_26 ?_
        exact ⟨_, rfl, (if_pos ⟨Int32.not_lt.mp c_4, c_11, c_18⟩).symm, rfl⟩

set_option maxHeartbeats 4000000 in
set_option maxRecDepth 100000 in
theorem ct_X1_creditComes (cy : Nat → ClassId) (z : Nat) (G : cc_G) (a : Nat) (v : Nat → Int32) (nS : Int32) (f : Nat → Int32) (nW : Int32) (g : Nat → Int32) (x1 : Int32) (hL : ln_R cy G G a v nS f nW g) : cc_Cn cy Y_X1_creditComes [.ref a, .int x1] z G (cc_qi (fun r G' => r = (if 0 < nW ∧ g 0 ≤ x1 then 1 else 0) ∧ G' = G)) := by
  
  refine cc_enter ok_X1_creditComes (Nat.le_of_ble_eq_true rfl) (ls := [(0, .ref a), (1, .int x1)]) rfl ?_
  refine cc_aload_n (j := 0) dX1_creditComes_0 rfl rfl ?_
  refine cc_get (v := .int nW) hL.2.1 cc_c1 12 (by decide) fl_X1_49 rfl dX1_creditComes_1 ?_
  refine cc_if_le (tgt := 21) dX1_creditComes_4 (by decide) (fun c_4 => ?_) (fun c_4 => ?_)
  · refine cc_iconst (v := 0) dX1_creditComes_21 (by decide) ?_
    refine cc_iret rfl rfl dX1_creditComes_22 ?_
    exact ⟨_, rfl, (if_neg (fun h => absurd h.1 (Int32.not_lt.mpr c_4))).symm, rfl⟩
  · refine cc_aload_n (j := 0) dX1_creditComes_7 rfl rfl ?_
    refine cc_get (v := .ref (a + 2)) hL.2.1 cc_c1 11 (by decide) fl_X1_46 rfl dX1_creditComes_8 ?_
    refine cc_iconst (v := 0) dX1_creditComes_11 (by decide) ?_
    refine cc_iald (x := g 0) hL.2.2.2 (vp_in_nI (n := 0) (by decide) (by decide)) (by rw [show (0 : Int32).toNatClampNeg = 0 from rfl]) dX1_creditComes_12 ?_
    refine cc_iload_n (j := 1) dX1_creditComes_13 rfl rfl ?_
    refine cc_icmp_gt (tgt := 21) dX1_creditComes_14 (by decide) (fun c_14 => ?_) (fun c_14 => ?_)
    · refine cc_iconst (v := 0) dX1_creditComes_21 (by decide) ?_
      refine cc_iret rfl rfl dX1_creditComes_22 ?_
      exact ⟨_, rfl, (if_neg (fun h => absurd c_14 (Int32.not_lt.mpr h.2))).symm, rfl⟩
    · refine cc_iconst (v := 1) dX1_creditComes_17 (by decide) ?_
      refine cc_goto (tgt := 22) dX1_creditComes_18 (by decide) ?_
      refine cc_iret rfl rfl dX1_creditComes_22 ?_
      exact ⟨_, rfl, (if_pos ⟨Int32.not_le.mp c_4, Int32.not_lt.mp c_14⟩).symm, rfl⟩

set_option maxHeartbeats 4000000 in
set_option maxRecDepth 100000 in
theorem ct_X1_figure (cy : Nat → ClassId) (z : Nat) (G : cc_G) (a : Nat) (v : Nat → Int32) (nS : Int32) (f : Nat → Int32) (nW : Int32) (g : Nat → Int32) (x1 : Int32) (hL : ln_R cy G G a v nS f nW g) : cc_Cn cy Y_X1_figure [.ref a, .int x1] z G (cc_qi (fun r G' => r = (if x1 = 0 then v 0 else if x1 = 1 then v 1 else if x1 = 2 then v 2 else if x1 = 3 then v 3 + 100 else if x1 = 4 then nS else if x1 = 5 then nW else if x1 = 6 then v 0 - v 3 - nS - nW + 100 else if x1 = 7 then v 4 else if x1 = 8 then v 5 else if x1 = 9 then v 6 else if x1 = 10 then v 7 else if x1 = 11 then v 8 else (-2)) ∧ G' = G)) := by
  
  refine cc_enter ok_X1_figure (Nat.le_of_ble_eq_true rfl) (ls := [(0, .ref a), (1, .int x1)]) rfl ?_
  refine cc_iload_n (j := 1) dX1_figure_0 rfl rfl ?_
  rcases cc_sw11 x1 with rfl | rfl | rfl | rfl | rfl | rfl | rfl | rfl | rfl | rfl | rfl | rfl | c_1
  · refine cc_tableIn (off := 63) (tgt := 64) dX1_figure_1 (by decide) (by decide) rfl (by decide) ?_
    refine cc_aload_n (j := 0) dX1_figure_64 rfl rfl ?_
    refine cc_get (v := .int (v 0)) hL.2.1 cc_c1 0 (by decide) fl_X1_9 rfl dX1_figure_65 ?_
    refine cc_iret rfl rfl dX1_figure_68 ?_
    exact ⟨_, rfl, by simp, rfl⟩
  · refine cc_tableIn (off := 68) (tgt := 69) dX1_figure_1 (by decide) (by decide) rfl (by decide) ?_
    refine cc_aload_n (j := 0) dX1_figure_69 rfl rfl ?_
    refine cc_get (v := .int (v 1)) hL.2.1 cc_c1 1 (by decide) fl_X1_15 rfl dX1_figure_70 ?_
    refine cc_iret rfl rfl dX1_figure_73 ?_
    exact ⟨_, rfl, by simp, rfl⟩
  · refine cc_tableIn (off := 73) (tgt := 74) dX1_figure_1 (by decide) (by decide) rfl (by decide) ?_
    refine cc_aload_n (j := 0) dX1_figure_74 rfl rfl ?_
    refine cc_get (v := .int (v 2)) hL.2.1 cc_c1 2 (by decide) fl_X1_18 rfl dX1_figure_75 ?_
    refine cc_iret rfl rfl dX1_figure_78 ?_
    exact ⟨_, rfl, by simp, rfl⟩
  · refine cc_tableIn (off := 78) (tgt := 79) dX1_figure_1 (by decide) (by decide) rfl (by decide) ?_
    refine cc_aload_n (j := 0) dX1_figure_79 rfl rfl ?_
    refine cc_get (v := .int (v 3)) hL.2.1 cc_c1 3 (by decide) fl_X1_21 rfl dX1_figure_80 ?_
    refine cc_bipush (v := 100) dX1_figure_83 (by decide) ?_
    refine cc_iadd dX1_figure_85 ?_
    refine cc_iret rfl rfl dX1_figure_86 ?_
    exact ⟨_, rfl, by simp, rfl⟩
  · refine cc_tableIn (off := 86) (tgt := 87) dX1_figure_1 (by decide) (by decide) rfl (by decide) ?_
    refine cc_aload_n (j := 0) dX1_figure_87 rfl rfl ?_
    refine cc_get (v := .int nS) hL.2.1 cc_c1 10 (by decide) fl_X1_43 rfl dX1_figure_88 ?_
    refine cc_iret rfl rfl dX1_figure_91 ?_
    exact ⟨_, rfl, by simp, rfl⟩
  · refine cc_tableIn (off := 91) (tgt := 92) dX1_figure_1 (by decide) (by decide) rfl (by decide) ?_
    refine cc_aload_n (j := 0) dX1_figure_92 rfl rfl ?_
    refine cc_get (v := .int nW) hL.2.1 cc_c1 12 (by decide) fl_X1_49 rfl dX1_figure_93 ?_
    refine cc_iret rfl rfl dX1_figure_96 ?_
    exact ⟨_, rfl, by simp, rfl⟩
  · refine cc_tableIn (off := 96) (tgt := 97) dX1_figure_1 (by decide) (by decide) rfl (by decide) ?_
    refine cc_aload_n (j := 0) dX1_figure_97 rfl rfl ?_
    refine cc_callVi (As := []) (rest := []) (ct_X1_missing cy z _ a _ _ _ _ _ hL.self) ok_X1_missing (hL.2.1) rfl im_X1_missing sl_X1_missing ml_X1_58 nd_X1_missing (by decide +kernel) (Nat.le_of_ble_eq_true rfl) rfl dX1_figure_98 (fun r2 G1 q3 => ?_)
    obtain ⟨rfl, rfl⟩ := q3
    refine cc_bipush (v := 100) dX1_figure_101 (by decide) ?_
    refine cc_iadd dX1_figure_103 ?_
    refine cc_iret rfl rfl dX1_figure_104 ?_
    exact ⟨_, rfl, by simp, rfl⟩
  · refine cc_tableIn (off := 104) (tgt := 105) dX1_figure_1 (by decide) (by decide) rfl (by decide) ?_
    refine cc_aload_n (j := 0) dX1_figure_105 rfl rfl ?_
    refine cc_get (v := .int (v 4)) hL.2.1 cc_c1 4 (by decide) fl_X1_24 rfl dX1_figure_106 ?_
    refine cc_iret rfl rfl dX1_figure_109 ?_
    exact ⟨_, rfl, by simp, rfl⟩
  · refine cc_tableIn (off := 109) (tgt := 110) dX1_figure_1 (by decide) (by decide) rfl (by decide) ?_
    refine cc_aload_n (j := 0) dX1_figure_110 rfl rfl ?_
    refine cc_get (v := .int (v 5)) hL.2.1 cc_c1 5 (by decide) fl_X1_27 rfl dX1_figure_111 ?_
    refine cc_iret rfl rfl dX1_figure_114 ?_
    exact ⟨_, rfl, by simp, rfl⟩
  · refine cc_tableIn (off := 114) (tgt := 115) dX1_figure_1 (by decide) (by decide) rfl (by decide) ?_
    refine cc_aload_n (j := 0) dX1_figure_115 rfl rfl ?_
    refine cc_get (v := .int (v 6)) hL.2.1 cc_c1 6 (by decide) fl_X1_30 rfl dX1_figure_116 ?_
    refine cc_iret rfl rfl dX1_figure_119 ?_
    exact ⟨_, rfl, by simp, rfl⟩
  · refine cc_tableIn (off := 119) (tgt := 120) dX1_figure_1 (by decide) (by decide) rfl (by decide) ?_
    refine cc_aload_n (j := 0) dX1_figure_120 rfl rfl ?_
    refine cc_get (v := .int (v 7)) hL.2.1 cc_c1 7 (by decide) fl_X1_33 rfl dX1_figure_121 ?_
    refine cc_iret rfl rfl dX1_figure_124 ?_
    exact ⟨_, rfl, by simp, rfl⟩
  · refine cc_tableIn (off := 124) (tgt := 125) dX1_figure_1 (by decide) (by decide) rfl (by decide) ?_
    refine cc_aload_n (j := 0) dX1_figure_125 rfl rfl ?_
    refine cc_get (v := .int (v 8)) hL.2.1 cc_c1 8 (by decide) fl_X1_36 rfl dX1_figure_126 ?_
    refine cc_iret rfl rfl dX1_figure_129 ?_
    exact ⟨_, rfl, by simp, rfl⟩
  · refine cc_tableOut (tgt := 130) dX1_figure_1 c_1 (by decide) ?_
    refine cc_bipush (v := (-2)) dX1_figure_130 (by decide) ?_
    refine cc_iret rfl rfl dX1_figure_132 ?_
    exact ⟨_, rfl, by rw [if_neg (fun q => by subst q; exact absurd c_1 (by decide)), if_neg (fun q => by subst q; exact absurd c_1 (by decide)), if_neg (fun q => by subst q; exact absurd c_1 (by decide)), if_neg (fun q => by subst q; exact absurd c_1 (by decide)), if_neg (fun q => by subst q; exact absurd c_1 (by decide)), if_neg (fun q => by subst q; exact absurd c_1 (by decide)), if_neg (fun q => by subst q; exact absurd c_1 (by decide)), if_neg (fun q => by subst q; exact absurd c_1 (by decide)), if_neg (fun q => by subst q; exact absurd c_1 (by decide)), if_neg (fun q => by subst q; exact absurd c_1 (by decide)), if_neg (fun q => by subst q; exact absurd c_1 (by decide)), if_neg (fun q => by subst q; exact absurd c_1 (by decide))], rfl⟩

set_option maxHeartbeats 4000000 in
set_option maxRecDepth 100000 in
theorem ct_X1_dropFirstOnTheWay (cy : Nat → ClassId) (z : Nat) (G : cc_G) (a : Nat) (v : Nat → Int32) (sd wy : List Int32)  (hI : ln_I cy G G a (v, sd, wy)) : cc_Cn cy Y_X1_dropFirstOnTheWay [.ref a] z G (cc_qv (fun G' => ln_I cy G G' a (L_drop (v, sd, wy)))) := by
  obtain ⟨f, g, hL, hf, hg, h8, h6⟩ := hI
  have hL : ln_R cy G G a v (nI sd.length) f (nI wy.length) g := hL
  have hf : ar_ f sd := hf
  have hg : ar_ g wy := hg
  have h8 : sd.length ≤ 8 := h8
  have h6 : wy.length ≤ 6 := h6
  have loop_10 : ∀ (n i : Nat) (f' : Nat → Int32) (G1 : cc_G), wy.length < i + n → 1 ≤ i → i ≤ wy.length → ln_R cy G G1 a v (nI sd.length) f (nI wy.length) f' → (∀ j, j + 1 < i → f' j = g (j + 1)) → (∀ j, i ≤ j + 1 → f' j = g j) → cc_R cy Y_X1_dropFirstOnTheWay z 10 [(1, .int (nI i)), (0, .ref a)] [] G1 (cc_qv (fun G' => ln_I cy G G' a (L_drop (v, sd, wy)))) := by
    intro n
    induction n with
    | zero => intro i f' G1 h1 h2 h3; exact absurd h1 (by omega)
    | succ n ih =>
      intro i f' G1 hn hi1 hi2 hL h1 h2
      refine cc_iload_n (j := 0) dX1_dropFirstOnTheWay_10 rfl rfl ?_
      refine cc_aload_n (j := 1) dX1_dropFirstOnTheWay_11 rfl rfl ?_
      refine cc_get (v := .int (nI wy.length)) hL.2.1 cc_c1 12 (by decide) fl_X1_49 rfl dX1_dropFirstOnTheWay_12 ?_
      refine cc_icmp_ge (tgt := 38) dX1_dropFirstOnTheWay_15 (by decide) (fun c_15 => ?_) (fun c_15 => ?_)
      · have hge : wy.length ≤ i := (nI_leI (by omega) (by omega)).mp c_15
        refine cc_aload_n (j := 1) dX1_dropFirstOnTheWay_38 rfl rfl ?_
        refine cc_dup dX1_dropFirstOnTheWay_39 rfl ?_
        refine cc_get (v := .int (nI wy.length)) hL.2.1 cc_c1 12 (by decide) fl_X1_49 rfl dX1_dropFirstOnTheWay_40 ?_
        refine cc_iconst (v := 1) dX1_dropFirstOnTheWay_43 (by decide) ?_
        refine cc_isub dX1_dropFirstOnTheWay_44 ?_
        rw [show (nI wy.length) - 1 = nI wy.tail.length from (by rw [List.length_tail]; exact cc_m1 (by omega))]
        refine ln_rput (v' := v) (nS' := (nI sd.length)) (nW' := (nI wy.tail.length)) hL cc_c1 12 (by decide) fl_X1_49 rfl rfl rfl dX1_dropFirstOnTheWay_45 (fun G1 hL2 => ?_)
        refine cc_vret rfl dX1_dropFirstOnTheWay_48 ?_
        exact ⟨rfl, f, f', hL2, hf, hg.shift (fun k hk => h1 k (by omega)), h8, by show wy.tail.length ≤ 6; simp; omega⟩
      · have hlt : i < wy.length := by
          rcases Nat.lt_or_ge i wy.length with q | q
          · exact q
          · exact absurd (nI_le q (by omega)) c_15
        refine cc_aload_n (j := 1) dX1_dropFirstOnTheWay_18 rfl rfl ?_
        refine cc_get (v := .ref (a + 2)) hL.2.1 cc_c1 11 (by decide) fl_X1_46 rfl dX1_dropFirstOnTheWay_19 ?_
        refine cc_iload_n (j := 0) dX1_dropFirstOnTheWay_22 rfl rfl ?_
        refine cc_iconst (v := 1) dX1_dropFirstOnTheWay_23 (by decide) ?_
        refine cc_isub dX1_dropFirstOnTheWay_24 ?_
        rw [show (nI i) - 1 = nI (i - 1) from cc_m1 hi1]
        refine cc_aload_n (j := 1) dX1_dropFirstOnTheWay_25 rfl rfl ?_
        refine cc_get (v := .ref (a + 2)) hL.2.1 cc_c1 11 (by decide) fl_X1_46 rfl dX1_dropFirstOnTheWay_26 ?_
        refine cc_iload_n (j := 0) dX1_dropFirstOnTheWay_29 rfl rfl ?_
        refine cc_iald (x := f' i) hL.2.2.2 (vp_in_nI (n := i) (by omega) (by decide)) (by rw [(nI_clamp (by omega))]) dX1_dropFirstOnTheWay_30 ?_
        refine ln_rastW (j := (i - 1)) hL (vp_in_nI (n := (i - 1)) (by omega) (by decide)) (nI_clamp (by omega)) dX1_dropFirstOnTheWay_31 (fun G3 hL4 => ?_)
        refine cc_iinc (j := 0) (v := nI (i + 1)) (ls' := [(1, .int (nI (i + 1))), (0, .ref a)]) dX1_dropFirstOnTheWay_32 rfl (nI_1 i) (Nat.le_of_ble_eq_true rfl) rfl ?_
        refine cc_goto (tgt := 10) dX1_dropFirstOnTheWay_35 (by decide) ?_
        refine ih (i + 1) _ _ (by omega) (by omega) (by omega) hL4 (fun j hj => ?_) (fun j hj => ?_)
        · by_cases hq : j = i - 1
          · subst hq
            rw [show upd f' (i - 1) (f' i) (i - 1) = f' i by simp [upd], h2 i (by omega), show i - 1 + 1 = i by omega]
          · rw [show upd f' (i - 1) (f' i) j = f' j by simp [upd, hq], h1 j (by omega)]
        · rw [show upd f' (i - 1) (f' i) j = f' j by simp [upd]; omega, h2 j (by omega)]
  refine cc_enter ok_X1_dropFirstOnTheWay (Nat.le_of_ble_eq_true rfl) (ls := [(0, .ref a)]) rfl ?_
  refine cc_aload_n (j := 0) dX1_dropFirstOnTheWay_0 rfl rfl ?_
  refine cc_get (v := .int (nI wy.length)) hL.2.1 cc_c1 12 (by decide) fl_X1_49 rfl dX1_dropFirstOnTheWay_1 ?_
  refine cc_if_gt (tgt := 8) dX1_dropFirstOnTheWay_4 (by decide) (fun c_4 => ?_) (fun c_4 => ?_)
  · refine cc_iconst (v := 1) dX1_dropFirstOnTheWay_8 (by decide) ?_
    refine cc_istore_n (ls' := [(1, .int 1), (0, .ref a)]) dX1_dropFirstOnTheWay_9 rfl (Nat.le_of_ble_eq_true rfl) rfl ?_
    exact loop_10 (wy.length + 1) 1 g _ (by omega) (by omega) (by have := (cc_p0 (n := wy.length) (by omega)).mp c_4; omega) hL (fun j hj => absurd hj (by omega)) (fun j hj => rfl)
  · refine cc_vret rfl dX1_dropFirstOnTheWay_7 ?_
    have hz : wy = [] := by
      cases wy with
      | nil => rfl
      | cons w ws => exact absurd ((cc_p0 (by omega)).mpr (by simp)) c_4
    subst hz
    exact ⟨rfl, f, g, hL, hf, hg, h8, h6⟩

set_option maxHeartbeats 4000000 in
set_option maxRecDepth 100000 in
theorem ct_X1_loseFirst (cy : Nat → ClassId) (z : Nat) (G : cc_G) (a : Nat) (v : Nat → Int32) (sd wy : List Int32)  (hI : ln_I cy G G a (v, sd, wy)) : cc_Cn cy Y_X1_loseFirst [.ref a] z G (cc_qv (fun G' => ln_I cy G G' a (L_lose (v, sd, wy)))) := by
  obtain ⟨f, g, hL, hf, hg, h8, h6⟩ := hI
  have hL : ln_R cy G G a v (nI sd.length) f (nI wy.length) g := hL
  have hf : ar_ f sd := hf
  have hg : ar_ g wy := hg
  have h8 : sd.length ≤ 8 := h8
  have h6 : wy.length ≤ 6 := h6
  refine cc_enter ok_X1_loseFirst (Nat.le_of_ble_eq_true rfl) (ls := [(0, .ref a)]) rfl ?_
  refine cc_aload_n (j := 0) dX1_loseFirst_0 rfl rfl ?_
  refine cc_callVv (As := []) (rest := []) (ct_X1_dropFirstOnTheWay cy z _ a v sd wy ⟨_, _, hL.self, hf, hg, h8, h6⟩) ok_X1_dropFirstOnTheWay (hL.2.1) rfl im_X1_dropFirstOnTheWay sl_X1_dropFirstOnTheWay ml_X1_66 nd_X1_dropFirstOnTheWay (by decide +kernel) (Nat.le_of_ble_eq_true rfl) rfl dX1_loseFirst_1 (fun G1 q3 => ?_)
  obtain ⟨f4, g5, hL6, hfhL6, hghL6, h8hL6, h6hL6⟩ := q3
  have hL6 : ln_R cy _ G1 a v (nI sd.length) f4 (nI wy.tail.length) g5 := hL.tr hL6
  refine cc_aload_n (j := 0) dX1_loseFirst_4 rfl rfl ?_
  refine cc_dup dX1_loseFirst_5 rfl ?_
  refine cc_get (v := .int (v 8)) hL6.2.1 cc_c1 8 (by decide) fl_X1_36 rfl dX1_loseFirst_6 ?_
  refine cc_iconst (v := 1) dX1_loseFirst_9 (by decide) ?_
  refine cc_iadd dX1_loseFirst_10 ?_
  refine ln_rput (v' := upd v 8 ((v 8) + 1)) (nS' := (nI sd.length)) (nW' := (nI wy.tail.length)) hL6 cc_c1 8 (by decide) fl_X1_36 rfl rfl rfl dX1_loseFirst_11 (fun G7 hL8 => ?_)
  refine cc_vret rfl dX1_loseFirst_14 ?_
  exact ⟨rfl, _, _, hL8, hfhL6, hghL6, h8hL6, h6hL6⟩

set_option maxHeartbeats 4000000 in
set_option maxRecDepth 100000 in
theorem ct_X1_receive (cy : Nat → ClassId) (z : Nat) (G : cc_G) (a : Nat) (v : Nat → Int32) (sd wy : List Int32) (x1 : Int32) (hch : v 0 ≤ 8) (hI : ln_I cy G G a (v, sd, wy)) : cc_Cn cy Y_X1_receive [.ref a, .int x1] z G (cc_qv (fun G' => ln_I cy G G' a (L_recv x1 (v, sd, wy)))) := by
  obtain ⟨f, g, hL, hf, hg, h8, h6⟩ := hI
  have hL : ln_R cy G G a v (nI sd.length) f (nI wy.length) g := hL
  have hf : ar_ f sd := hf
  have hg : ar_ g wy := hg
  have h8 : sd.length ≤ 8 := h8
  have h6 : wy.length ≤ 6 := h6
  refine cc_enter ok_X1_receive (Nat.le_of_ble_eq_true rfl) (ls := [(0, .ref a), (1, .int x1)]) rfl ?_
  refine cc_aload_n (j := 0) dX1_receive_0 rfl rfl ?_
  refine cc_dup dX1_receive_1 rfl ?_
  refine cc_get (v := .int (v 3)) hL.2.1 cc_c1 3 (by decide) fl_X1_21 rfl dX1_receive_2 ?_
  refine cc_iconst (v := 1) dX1_receive_5 (by decide) ?_
  refine cc_isub dX1_receive_6 ?_
  refine ln_rput (v' := upd v 3 ((v 3) - 1)) (nS' := (nI sd.length)) (nW' := (nI wy.length)) hL cc_c1 3 (by decide) fl_X1_21 rfl rfl rfl dX1_receive_7 (fun G1 hL2 => ?_)
  refine cc_aload_n (j := 0) dX1_receive_10 rfl rfl ?_
  refine cc_dup dX1_receive_11 rfl ?_
  refine cc_get (v := .int (v 5)) hL2.2.1 cc_c1 5 (by decide) fl_X1_27 rfl dX1_receive_12 ?_
  refine cc_iconst (v := 1) dX1_receive_15 (by decide) ?_
  refine cc_iadd dX1_receive_16 ?_
  refine ln_rput (v' := upd (upd v 3 ((v 3) - 1)) 5 ((v 5) + 1)) (nS' := (nI sd.length)) (nW' := (nI wy.length)) hL2 cc_c1 5 (by decide) fl_X1_27 rfl rfl rfl dX1_receive_17 (fun G3 hL4 => ?_)
  refine cc_aload_n (j := 0) dX1_receive_20 rfl rfl ?_
  refine cc_get (v := .int (nI sd.length)) hL4.2.1 cc_c1 10 (by decide) fl_X1_43 rfl dX1_receive_21 ?_
  refine cc_aload_n (j := 0) dX1_receive_24 rfl rfl ?_
  refine cc_get (v := .int (v 0)) hL4.2.1 cc_c1 0 (by decide) fl_X1_9 rfl dX1_receive_25 ?_
  refine cc_icmp_ge (tgt := 63) dX1_receive_28 (by decide) (fun c_28 => ?_) (fun c_28 => ?_)
  · refine cc_aload_n (j := 0) dX1_receive_63 rfl rfl ?_
    refine cc_dup dX1_receive_64 rfl ?_
    refine cc_get (v := .int (v 7)) hL4.2.1 cc_c1 7 (by decide) fl_X1_33 rfl dX1_receive_65 ?_
    refine cc_iconst (v := 1) dX1_receive_68 (by decide) ?_
    refine cc_iadd dX1_receive_69 ?_
    refine ln_rput (v' := upd (upd (upd v 3 ((v 3) - 1)) 5 ((v 5) + 1)) 7 ((v 7) + 1)) (nS' := (nI sd.length)) (nW' := (nI wy.length)) hL4 cc_c1 7 (by decide) fl_X1_33 rfl rfl rfl dX1_receive_70 (fun G5 hL6 => ?_)
    refine cc_vret rfl dX1_receive_73 ?_
    refine ⟨rfl, ?_⟩
    rw [show L_recv x1 (v, sd, wy) = _ from if_pos c_28]
    exact ⟨_, _, hL6, hf, hg, h8, h6⟩
  · refine cc_aload_n (j := 0) dX1_receive_31 rfl rfl ?_
    refine cc_get (v := .int (nI sd.length)) hL4.2.1 cc_c1 10 (by decide) fl_X1_43 rfl dX1_receive_32 ?_
    refine cc_bipush (v := 8) dX1_receive_35 (by decide) ?_
    refine cc_icmp_ge (tgt := 63) dX1_receive_37 (by decide) (fun c_37 => ?_) (fun c_37 => ?_)
    · exact absurd (Int32.le_trans hch c_37) c_28
    · have hlt : sd.length < 8 := by
        rcases Nat.lt_or_ge sd.length 8 with q | q
        · exact q
        · exact absurd (nI_le (a := 8) q (by omega)) c_37
      refine cc_aload_n (j := 0) dX1_receive_40 rfl rfl ?_
      refine cc_get (v := .ref (a + 1)) hL4.2.1 cc_c1 9 (by decide) fl_X1_39 rfl dX1_receive_41 ?_
      refine cc_aload_n (j := 0) dX1_receive_44 rfl rfl ?_
      refine cc_get (v := .int (nI sd.length)) hL4.2.1 cc_c1 10 (by decide) fl_X1_43 rfl dX1_receive_45 ?_
      refine cc_iload_n (j := 1) dX1_receive_48 rfl rfl ?_
      refine ln_rastS (j := sd.length) hL4 (vp_in_nI (n := sd.length) (by omega) (by decide)) (nI_clamp (by omega)) dX1_receive_49 (fun G7 hL8 => ?_)
      refine cc_aload_n (j := 0) dX1_receive_50 rfl rfl ?_
      refine cc_dup dX1_receive_51 rfl ?_
      refine cc_get (v := .int (nI sd.length)) hL8.2.1 cc_c1 10 (by decide) fl_X1_43 rfl dX1_receive_52 ?_
      refine cc_iconst (v := 1) dX1_receive_55 (by decide) ?_
      refine cc_iadd dX1_receive_56 ?_
      rw [show (nI sd.length) + 1 = nI (sd ++ [x1]).length from (by rw [List.length_append]; exact nI_1 _)]
      refine ln_rput (v' := upd (upd v 3 ((v 3) - 1)) 5 ((v 5) + 1)) (nS' := (nI (sd ++ [x1]).length)) (nW' := (nI wy.length)) hL8 cc_c1 10 (by decide) fl_X1_43 rfl rfl rfl dX1_receive_57 (fun G9 hL10 => ?_)
      refine cc_goto (tgt := 73) dX1_receive_60 (by decide) ?_
      refine cc_vret rfl dX1_receive_73 ?_
      refine ⟨rfl, ?_⟩
      rw [show L_recv x1 (v, sd, wy) = _ from if_neg c_28]
      exact ⟨_, _, hL10, hf.push x1, hg, by simp; omega, h6⟩

set_option maxHeartbeats 4000000 in
set_option maxRecDepth 100000 in
theorem ct_X1_sendCreditBack (cy : Nat → ClassId) (z : Nat) (G : cc_G) (a : Nat) (v : Nat → Int32) (sd wy : List Int32) (x1 : Int32) (h5 : wy.length ≤ 5) (hI : ln_I cy G G a (v, sd, wy)) : cc_Cn cy Y_X1_sendCreditBack [.ref a, .int x1] z G (cc_qv (fun G' => ln_I cy G G' a (v, sd, L_ins x1 wy))) := by
  obtain ⟨f, g, hL, hf, hg, h8, h6⟩ := hI
  have hL : ln_R cy G G a v (nI sd.length) f (nI wy.length) g := hL
  have hf : ar_ f sd := hf
  have hg : ar_ g wy := hg
  have h8 : sd.length ≤ 8 := h8
  have h6 : wy.length ≤ 6 := h6
  have loop_15 : ∀ (r : Nat) (g' : Nat → Int32) (G1 : cc_G), r ≤ wy.length → ln_R cy G G1 a v (nI sd.length) f (nI wy.length) g' → (∀ j, j < r → g' j = g j) → (∀ j, r < j → j ≤ wy.length → g' j = g (j - 1)) → L_rank x1 wy wy.length = L_rank x1 wy r → cc_R cy Y_X1_sendCreditBack z 15 [(2, .int (nI r)), (0, .ref a), (1, .int x1)] [] G1 (cc_qv (fun G' => ln_I cy G G' a (v, sd, L_ins x1 wy))) := by
    intro r
    induction r with
    | zero =>
      intro g' G1 hr hL h1 h2 h3
      have h3 : L_rank x1 wy wy.length = 0 := h3
      refine cc_iload_n (j := 0) dX1_sendCreditBack_15 rfl rfl ?_
      refine cc_if_le (tgt := 51) dX1_sendCreditBack_16 (by decide) (fun c_16 => ?_) (fun c_16 => ?_)
      · refine cc_aload_n (j := 1) dX1_sendCreditBack_51 rfl rfl ?_
        refine cc_get (v := .ref (a + 2)) hL.2.1 cc_c1 11 (by decide) fl_X1_46 rfl dX1_sendCreditBack_52 ?_
        refine cc_iload_n (j := 0) dX1_sendCreditBack_55 rfl rfl ?_
        refine cc_iload_n (j := 2) dX1_sendCreditBack_56 rfl rfl ?_
        refine ln_rastW (j := 0) hL (vp_in_nI (n := 0) (by omega) (by decide)) (nI_clamp (by omega)) dX1_sendCreditBack_57 (fun G1 hL2 => ?_)
        refine cc_aload_n (j := 1) dX1_sendCreditBack_58 rfl rfl ?_
        refine cc_dup dX1_sendCreditBack_59 rfl ?_
        refine cc_get (v := .int (nI wy.length)) hL2.2.1 cc_c1 12 (by decide) fl_X1_49 rfl dX1_sendCreditBack_60 ?_
        refine cc_iconst (v := 1) dX1_sendCreditBack_63 (by decide) ?_
        refine cc_iadd dX1_sendCreditBack_64 ?_
        rw [show (nI wy.length) + 1 = nI (L_ins x1 wy).length from (by rw [L_ins_len]; exact nI_1 _)]
        refine ln_rput (v' := v) (nS' := (nI sd.length)) (nW' := (nI (L_ins x1 wy).length)) hL2 cc_c1 12 (by decide) fl_X1_49 rfl rfl rfl dX1_sendCreditBack_65 (fun G3 hL4 => ?_)
        refine cc_vret rfl dX1_sendCreditBack_68 ?_
        have hk : L_rank x1 wy wy.length = 0 := h3
        refine ⟨rfl, f, _, hL4, hf, ?_, h8, by show (L_ins x1 wy).length ≤ 6; rw [L_ins_len]; omega⟩
        show ar_ _ (L_ins x1 wy)
        unfold L_ins
        rw [hk]
        refine ar_ins hg (by omega) (fun j hj => ?_) (by simp [upd]) (fun j hj hj2 => ?_)
        · rw [← h1 j (by omega)]; simp [upd]; omega
        · rw [← h2 j (by omega) hj2]; simp [upd]; omega
      · exact absurd (by decide) c_16
    | succ r ih =>
      intro g' G1 hr hL h1 h2 h3
      refine cc_iload_n (j := 0) dX1_sendCreditBack_15 rfl rfl ?_
      refine cc_if_le (tgt := 51) dX1_sendCreditBack_16 (by decide) (fun c_16 => ?_) (fun c_16 => ?_)
      · exact absurd c_16 (nI_nle (by omega) (by omega))
      · refine cc_aload_n (j := 1) dX1_sendCreditBack_19 rfl rfl ?_
        refine cc_get (v := .ref (a + 2)) hL.2.1 cc_c1 11 (by decide) fl_X1_46 rfl dX1_sendCreditBack_20 ?_
        refine cc_iload_n (j := 0) dX1_sendCreditBack_23 rfl rfl ?_
        refine cc_iconst (v := 1) dX1_sendCreditBack_24 (by decide) ?_
        refine cc_isub dX1_sendCreditBack_25 ?_
        rw [show (nI (r + 1)) - 1 = nI r from cc_m1 (n := r + 1) (by omega)]
        refine cc_iald (x := g' r) hL.2.2.2 (vp_in_nI (n := r) (by omega) (by decide)) (by rw [(nI_clamp (by omega))]) dX1_sendCreditBack_26 ?_
        refine cc_iload_n (j := 2) dX1_sendCreditBack_27 rfl rfl ?_
        refine cc_icmp_le (tgt := 51) dX1_sendCreditBack_28 (by decide) (fun c_28 => ?_) (fun c_28 => ?_)
        · have hgt : ¬ x1 < wy.getD r 0 := by
            rw [← ar_at hg (by omega), ← h1 r (by omega)]
            exact Int32.not_lt.mpr c_28
          refine cc_aload_n (j := 1) dX1_sendCreditBack_51 rfl rfl ?_
          refine cc_get (v := .ref (a + 2)) hL.2.1 cc_c1 11 (by decide) fl_X1_46 rfl dX1_sendCreditBack_52 ?_
          refine cc_iload_n (j := 0) dX1_sendCreditBack_55 rfl rfl ?_
          refine cc_iload_n (j := 2) dX1_sendCreditBack_56 rfl rfl ?_
          refine ln_rastW (j := (r + 1)) hL (vp_in_nI (n := (r + 1)) (by omega) (by decide)) (nI_clamp (by omega)) dX1_sendCreditBack_57 (fun G1 hL2 => ?_)
          refine cc_aload_n (j := 1) dX1_sendCreditBack_58 rfl rfl ?_
          refine cc_dup dX1_sendCreditBack_59 rfl ?_
          refine cc_get (v := .int (nI wy.length)) hL2.2.1 cc_c1 12 (by decide) fl_X1_49 rfl dX1_sendCreditBack_60 ?_
          refine cc_iconst (v := 1) dX1_sendCreditBack_63 (by decide) ?_
          refine cc_iadd dX1_sendCreditBack_64 ?_
          rw [show (nI wy.length) + 1 = nI (L_ins x1 wy).length from (by rw [L_ins_len]; exact nI_1 _)]
          refine ln_rput (v' := v) (nS' := (nI sd.length)) (nW' := (nI (L_ins x1 wy).length)) hL2 cc_c1 12 (by decide) fl_X1_49 rfl rfl rfl dX1_sendCreditBack_65 (fun G3 hL4 => ?_)
          refine cc_vret rfl dX1_sendCreditBack_68 ?_
          have hk : L_rank x1 wy wy.length = (r + 1) := (h3.trans (by unfold L_rank; rw [if_neg hgt]))
          refine ⟨rfl, f, _, hL4, hf, ?_, h8, by show (L_ins x1 wy).length ≤ 6; rw [L_ins_len]; omega⟩
          show ar_ _ (L_ins x1 wy)
          unfold L_ins
          rw [hk]
          refine ar_ins hg (by omega) (fun j hj => ?_) (by simp [upd]) (fun j hj hj2 => ?_)
          · rw [← h1 j (by omega)]; simp [upd]; omega
          · rw [← h2 j (by omega) hj2]; simp [upd]; omega
        · have hgt : x1 < wy.getD r 0 := by
            rw [← ar_at hg (by omega), ← h1 r (by omega)]
            exact Int32.not_le.mp c_28
          refine cc_aload_n (j := 1) dX1_sendCreditBack_31 rfl rfl ?_
          refine cc_get (v := .ref (a + 2)) hL.2.1 cc_c1 11 (by decide) fl_X1_46 rfl dX1_sendCreditBack_32 ?_
          refine cc_iload_n (j := 0) dX1_sendCreditBack_35 rfl rfl ?_
          refine cc_aload_n (j := 1) dX1_sendCreditBack_36 rfl rfl ?_
          refine cc_get (v := .ref (a + 2)) hL.2.1 cc_c1 11 (by decide) fl_X1_46 rfl dX1_sendCreditBack_37 ?_
          refine cc_iload_n (j := 0) dX1_sendCreditBack_40 rfl rfl ?_
          refine cc_iconst (v := 1) dX1_sendCreditBack_41 (by decide) ?_
          refine cc_isub dX1_sendCreditBack_42 ?_
          rw [show (nI (r + 1)) - 1 = nI r from cc_m1 (n := r + 1) (by omega)]
          refine cc_iald (x := g' r) hL.2.2.2 (vp_in_nI (n := r) (by omega) (by decide)) (by rw [(nI_clamp (by omega))]) dX1_sendCreditBack_43 ?_
          refine ln_rastW (j := (r + 1)) hL (vp_in_nI (n := (r + 1)) (by omega) (by decide)) (nI_clamp (by omega)) dX1_sendCreditBack_44 (fun G5 hL6 => ?_)
          refine cc_iinc (j := 0) (v := nI r) (ls' := [(2, .int (nI r)), (0, .ref a), (1, .int x1)]) dX1_sendCreditBack_45 rfl (cc_dec r) (Nat.le_of_ble_eq_true rfl) rfl ?_
          refine cc_goto (tgt := 15) dX1_sendCreditBack_48 (by decide) ?_
          refine ih _ _ (by omega) hL6 (fun j hj => ?_) (fun j hj hj2 => ?_) (h3.trans (by conv => lhs; unfold L_rank; rw [if_pos hgt]))
          · rw [← h1 j (by omega)]; simp [upd]; omega
          · by_cases hq : j = r + 1
            · subst hq
              rw [show r + 1 - 1 = r by omega, ← h1 r (by omega)]; simp [upd]
            · rw [← h2 j (by omega) hj2]; simp [upd]; omega
  refine cc_enter ok_X1_sendCreditBack (Nat.le_of_ble_eq_true rfl) (ls := [(0, .ref a), (1, .int x1)]) rfl ?_
  refine cc_aload_n (j := 0) dX1_sendCreditBack_0 rfl rfl ?_
  refine cc_get (v := .int (nI wy.length)) hL.2.1 cc_c1 12 (by decide) fl_X1_49 rfl dX1_sendCreditBack_1 ?_
  refine cc_bipush (v := 6) dX1_sendCreditBack_4 (by decide) ?_
  refine cc_icmp_lt (tgt := 10) dX1_sendCreditBack_6 (by decide) (fun c_6 => ?_) (fun c_6 => ?_)
  · refine cc_aload_n (j := 0) dX1_sendCreditBack_10 rfl rfl ?_
    refine cc_get (v := .int (nI wy.length)) hL.2.1 cc_c1 12 (by decide) fl_X1_49 rfl dX1_sendCreditBack_11 ?_
    refine cc_istore_n (ls' := [(2, .int (nI wy.length)), (0, .ref a), (1, .int x1)]) dX1_sendCreditBack_14 rfl (Nat.le_of_ble_eq_true rfl) rfl ?_
    exact loop_15 wy.length g _ (Nat.le_refl _) hL (fun j _ => rfl) (fun j hj hj2 => absurd hj (by omega)) rfl
  · exact absurd (nI_lt (b := 6) (by omega) (by decide)) c_6

set_option maxHeartbeats 4000000 in
set_option maxRecDepth 100000 in
theorem ct_X1_takeIfDue (cy : Nat → ClassId) (z : Nat) (G : cc_G) (a : Nat) (v : Nat → Int32) (sd wy : List Int32) (x1 : Int32) (h5 : wy.length ≤ 5) (hper : 0 < v 1) (hI : ln_I cy G G a (v, sd, wy)) : cc_Cn cy Y_X1_takeIfDue [.ref a, .int x1] z G (cc_qv (fun G' => ln_I cy G G' a (L_take x1 (v, sd, wy)))) := by
  obtain ⟨f, g, hL, hf, hg, h8, h6⟩ := hI
  have hL : ln_R cy G G a v (nI sd.length) f (nI wy.length) g := hL
  have hf : ar_ f sd := hf
  have hg : ar_ g wy := hg
  have h8 : sd.length ≤ 8 := h8
  have h6 : wy.length ≤ 6 := h6
  have loop_38 : ∀ (n i : Nat) (f' : Nat → Int32) (G1 : cc_G), sd.length < i + n → 1 ≤ i → i ≤ sd.length → ln_R cy G G1 a v (nI sd.length) f' (nI wy.length) g → (∀ j, j + 1 < i → f' j = f (j + 1)) → (∀ j, i ≤ j + 1 → f' j = f j) → cc_rm (x1 + 1) (v 1) = 0 → cc_R cy Y_X1_takeIfDue z 38 [(3, .int (nI i)), (2, .int 1), (0, .ref a), (1, .int x1)] [] G1 (cc_qv (fun G' => ln_I cy G G' a (L_take x1 (v, sd, wy)))) := by
    intro n
    induction n with
    | zero => intro i f' G1 h1 h2 h3; exact absurd h1 (by omega)
    | succ n ih =>
      intro i f' G1 hn hi1 hi2 hL h1 h2 hz
      refine cc_iload_n (j := 0) dX1_takeIfDue_38 rfl rfl ?_
      refine cc_aload_n (j := 2) dX1_takeIfDue_39 rfl rfl ?_
      refine cc_get (v := .int (nI sd.length)) hL.2.1 cc_c1 10 (by decide) fl_X1_43 rfl dX1_takeIfDue_40 ?_
      refine cc_icmp_ge (tgt := 66) dX1_takeIfDue_43 (by decide) (fun c_43 => ?_) (fun c_43 => ?_)
      · have hge : sd.length ≤ i := (nI_leI (by omega) (by omega)).mp c_43
        have hge2 : 1 ≤ sd.length := by omega
        refine cc_aload_n (j := 2) dX1_takeIfDue_66 rfl rfl ?_
        refine cc_dup dX1_takeIfDue_67 rfl ?_
        refine cc_get (v := .int (nI sd.length)) hL.2.1 cc_c1 10 (by decide) fl_X1_43 rfl dX1_takeIfDue_68 ?_
        refine cc_iconst (v := 1) dX1_takeIfDue_71 (by decide) ?_
        refine cc_isub dX1_takeIfDue_72 ?_
        rw [show (nI sd.length) - 1 = nI sd.tail.length from (by rw [List.length_tail]; exact cc_m1 (by omega))]
        refine ln_rput (v' := v) (nS' := (nI sd.tail.length)) (nW' := (nI wy.length)) hL cc_c1 10 (by decide) fl_X1_43 rfl rfl rfl dX1_takeIfDue_73 (fun G1 hL2 => ?_)
        refine cc_aload_n (j := 2) dX1_takeIfDue_76 rfl rfl ?_
        refine cc_dup dX1_takeIfDue_77 rfl ?_
        refine cc_get (v := .int (v 6)) hL2.2.1 cc_c1 6 (by decide) fl_X1_30 rfl dX1_takeIfDue_78 ?_
        refine cc_iconst (v := 1) dX1_takeIfDue_81 (by decide) ?_
        refine cc_iadd dX1_takeIfDue_82 ?_
        refine ln_rput (v' := upd v 6 ((v 6) + 1)) (nS' := (nI sd.tail.length)) (nW' := (nI wy.length)) hL2 cc_c1 6 (by decide) fl_X1_30 rfl rfl rfl dX1_takeIfDue_83 (fun G3 hL4 => ?_)
        refine cc_aload_n (j := 2) dX1_takeIfDue_86 rfl rfl ?_
        refine cc_iload_n (j := 3) dX1_takeIfDue_87 rfl rfl ?_
        refine cc_aload_n (j := 2) dX1_takeIfDue_88 rfl rfl ?_
        refine cc_get (v := .int (v 2)) hL4.2.1 cc_c1 2 (by decide) fl_X1_18 rfl dX1_takeIfDue_89 ?_
        refine cc_iadd dX1_takeIfDue_92 ?_
        refine cc_callVv (As := [.int (x1 + (v 2))]) (rest := []) (ct_X1_sendCreditBack cy z _ a (upd v 6 ((v 6) + 1)) sd.tail wy (x1 + (v 2)) h5 ⟨_, _, hL4.self, hf.shift (fun k hk => h1 k (by omega)), hg, by show sd.tail.length ≤ 8; simp; omega, h6⟩) ok_X1_sendCreditBack (hL4.2.1) rfl im_X1_sendCreditBack sl_X1_sendCreditBack ml_X1_69 nd_X1_sendCreditBack (by decide +kernel) (Nat.le_of_ble_eq_true rfl) rfl dX1_takeIfDue_93 (fun G5 q7 => ?_)
        obtain ⟨f8, g9, hL10, hfhL10, hghL10, h8hL10, h6hL10⟩ := q7
        have hL10 : ln_R cy _ G5 a (upd v 6 ((v 6) + 1)) (nI sd.tail.length) f8 (nI (L_ins (x1 + (v 2)) wy).length) g9 := hL4.tr hL10
        refine cc_vret rfl dX1_takeIfDue_96 ?_
        refine ⟨rfl, ?_⟩
        rw [show L_take x1 (v, sd, wy) = _ from if_pos ⟨hz, fun q => by have q : sd = [] := q; subst q; exact absurd hge2 (by decide)⟩]
        exact ⟨_, _, hL10, hfhL10, hghL10, h8hL10, h6hL10⟩
      · have hlt : i < sd.length := by
          rcases Nat.lt_or_ge i sd.length with q | q
          · exact q
          · exact absurd (nI_le q (by omega)) c_43
        refine cc_aload_n (j := 2) dX1_takeIfDue_46 rfl rfl ?_
        refine cc_get (v := .ref (a + 1)) hL.2.1 cc_c1 9 (by decide) fl_X1_39 rfl dX1_takeIfDue_47 ?_
        refine cc_iload_n (j := 0) dX1_takeIfDue_50 rfl rfl ?_
        refine cc_iconst (v := 1) dX1_takeIfDue_51 (by decide) ?_
        refine cc_isub dX1_takeIfDue_52 ?_
        rw [show (nI i) - 1 = nI (i - 1) from cc_m1 hi1]
        refine cc_aload_n (j := 2) dX1_takeIfDue_53 rfl rfl ?_
        refine cc_get (v := .ref (a + 1)) hL.2.1 cc_c1 9 (by decide) fl_X1_39 rfl dX1_takeIfDue_54 ?_
        refine cc_iload_n (j := 0) dX1_takeIfDue_57 rfl rfl ?_
        refine cc_iald (x := f' i) hL.2.2.1 (vp_in_nI (n := i) (by omega) (by decide)) (by rw [(nI_clamp (by omega))]) dX1_takeIfDue_58 ?_
        refine ln_rastS (j := (i - 1)) hL (vp_in_nI (n := (i - 1)) (by omega) (by decide)) (nI_clamp (by omega)) dX1_takeIfDue_59 (fun G11 hL12 => ?_)
        refine cc_iinc (j := 0) (v := nI (i + 1)) (ls' := [(3, .int (nI (i + 1))), (2, .int 1), (0, .ref a), (1, .int x1)]) dX1_takeIfDue_60 rfl (nI_1 i) (Nat.le_of_ble_eq_true rfl) rfl ?_
        refine cc_goto (tgt := 38) dX1_takeIfDue_63 (by decide) ?_
        refine ih (i + 1) _ _ (by omega) (by omega) (by omega) hL12 (fun j hj => ?_) (fun j hj => ?_) hz
        · by_cases hq : j = i - 1
          · subst hq
            rw [show upd f' (i - 1) (f' i) (i - 1) = f' i by simp [upd], h2 i (by omega), show i - 1 + 1 = i by omega]
          · rw [show upd f' (i - 1) (f' i) j = f' j by simp [upd, hq], h1 j (by omega)]
        · rw [show upd f' (i - 1) (f' i) j = f' j by simp [upd]; omega, h2 j (by omega)]
  refine cc_enter ok_X1_takeIfDue (Nat.le_of_ble_eq_true rfl) (ls := [(0, .ref a), (1, .int x1)]) rfl ?_
  refine cc_aload_n (j := 0) dX1_takeIfDue_0 rfl rfl ?_
  refine cc_get (v := .int (v 1)) hL.2.1 cc_c1 1 (by decide) fl_X1_15 rfl dX1_takeIfDue_1 ?_
  refine cc_if_le (tgt := 22) dX1_takeIfDue_4 (by decide) (fun c_4 => ?_) (fun c_4 => ?_)
  · exact absurd hper (Int32.not_lt.mpr c_4)
  · refine cc_iload_n (j := 1) dX1_takeIfDue_7 rfl rfl ?_
    refine cc_iconst (v := 1) dX1_takeIfDue_8 (by decide) ?_
    refine cc_iadd dX1_takeIfDue_9 ?_
    refine cc_aload_n (j := 0) dX1_takeIfDue_10 rfl rfl ?_
    refine cc_get (v := .int (v 1)) hL.2.1 cc_c1 1 (by decide) fl_X1_15 rfl dX1_takeIfDue_11 ?_
    refine cc_irem dX1_takeIfDue_14 (fun q => by rw [q] at hper; exact absurd hper (by decide)) ?_
    refine cc_if_ne (tgt := 22) dX1_takeIfDue_15 (by decide) (fun c_15 => ?_) (fun c_15 => ?_)
    · refine cc_iconst (v := 0) dX1_takeIfDue_22 (by decide) ?_
      refine cc_istore_n (ls' := [(2, .int 0), (0, .ref a), (1, .int x1)]) dX1_takeIfDue_23 rfl (Nat.le_of_ble_eq_true rfl) rfl ?_
      refine cc_iload_n (j := 0) dX1_takeIfDue_24 rfl rfl ?_
      refine cc_if_eq (tgt := 35) dX1_takeIfDue_25 (by decide) (fun c_25 => ?_) (fun c_25 => ?_)
      · refine cc_vret rfl dX1_takeIfDue_35 ?_
        refine ⟨rfl, ?_⟩
        rw [show L_take x1 (v, sd, wy) = _ from if_neg (fun q => c_15 q.1)]
        exact ⟨_, _, hL, hf, hg, h8, h6⟩
      · exact absurd c_25 (by decide)
    · refine cc_iconst (v := 1) dX1_takeIfDue_18 (by decide) ?_
      refine cc_goto (tgt := 23) dX1_takeIfDue_19 (by decide) ?_
      refine cc_istore_n (ls' := [(2, .int 1), (0, .ref a), (1, .int x1)]) dX1_takeIfDue_23 rfl (Nat.le_of_ble_eq_true rfl) rfl ?_
      refine cc_iload_n (j := 0) dX1_takeIfDue_24 rfl rfl ?_
      refine cc_if_eq (tgt := 35) dX1_takeIfDue_25 (by decide) (fun c_25_1 => ?_) (fun c_25_1 => ?_)
      · exact absurd c_25_1 (by decide)
      · refine cc_aload_n (j := 1) dX1_takeIfDue_28 rfl rfl ?_
        refine cc_get (v := .int (nI sd.length)) hL.2.1 cc_c1 10 (by decide) fl_X1_43 rfl dX1_takeIfDue_29 ?_
        refine cc_if_gt (tgt := 36) dX1_takeIfDue_32 (by decide) (fun c_32 => ?_) (fun c_32 => ?_)
        · refine cc_iconst (v := 1) dX1_takeIfDue_36 (by decide) ?_
          refine cc_istore_n (ls' := [(3, .int 1), (2, .int 1), (0, .ref a), (1, .int x1)]) dX1_takeIfDue_37 rfl (Nat.le_of_ble_eq_true rfl) rfl ?_
          exact loop_38 (sd.length + 1) 1 f _ (by omega) (by omega) (by have := (cc_p0 (n := sd.length) (by omega)).mp c_32; omega) hL (fun j hj => absurd hj (by omega)) (fun j hj => rfl) (by simpa using c_15)
        · refine cc_vret rfl dX1_takeIfDue_35 ?_
          refine ⟨rfl, ?_⟩
          rw [show L_take x1 (v, sd, wy) = _ from if_neg (fun q => q.2 (List.length_eq_zero_iff.mp (by rcases Nat.eq_zero_or_pos sd.length with e | e; exact e; exact absurd ((cc_p0 (by omega)).mpr e) c_32)))]
          exact ⟨_, _, hL, hf, hg, h8, h6⟩

set_option maxHeartbeats 4000000 in
set_option maxRecDepth 100000 in
theorem ct_X1_letCreditsCome (cy : Nat → ClassId) (z : Nat) (G : cc_G) (a : Nat) (v : Nat → Int32) (sd wy : List Int32) (x1 : Int32) (hI : ln_I cy G G a (v, sd, wy)) : cc_Cn cy Y_X1_letCreditsCome [.ref a, .int x1] z G (cc_qv (fun G' => ln_I cy G G' a (L_come x1 (v, sd, wy)))) := by
  obtain ⟨f, g, hL, hf, hg, h8, h6⟩ := hI
  have hL : ln_R cy G G a v (nI sd.length) f (nI wy.length) g := hL
  have hf : ar_ f sd := hf
  have hg : ar_ g wy := hg
  have h8 : sd.length ≤ 8 := h8
  have h6 : wy.length ≤ 6 := h6
  have loop_2 : ∀ (n i : Nat) (v' : Nat → Int32) (wy' : List Int32) (G1 : cc_G), 6 < i + n → i ≤ 6 → wy'.length + i ≤ 6 → ln_I cy G G1 a (v', sd, wy') → L_comeW x1 v' wy' = L_comeW x1 v wy → cc_R cy Y_X1_letCreditsCome z 2 [(2, .int (nI i)), (0, .ref a), (1, .int x1)] [] G1 (cc_qv (fun G' => ln_I cy G G' a (L_come x1 (v, sd, wy)))) := by
    intro n
    induction n with
    | zero => intro i v' wy' G1 h1 h2; exact absurd h1 (by omega)
    | succ n ih =>
      intro i v' wy' G1 hn hi hlen hI hw
      obtain ⟨f, g, hL, hf, hg, h8, h6⟩ := hI
      have hL : ln_R cy G G1 a v' (nI sd.length) f (nI wy'.length) g := hL
      have hf : ar_ f sd := hf
      have hg : ar_ g wy' := hg
      have h8 : sd.length ≤ 8 := h8
      have h6 : wy'.length ≤ 6 := h6
      refine cc_iload_n (j := 0) dX1_letCreditsCome_2 rfl rfl ?_
      refine cc_bipush (v := 6) dX1_letCreditsCome_3 (by decide) ?_
      refine cc_icmp_ge (tgt := 36) dX1_letCreditsCome_5 (by decide) (fun c_5 => ?_) (fun c_5 => ?_)
      · refine cc_vret rfl dX1_letCreditsCome_36 ?_
        refine ⟨rfl, f, g, ?_, hf, ?_, h8, ?_⟩
        all_goals (show _; have hz : wy' = [] := List.length_eq_zero_iff.mp (by have := (nI_leI (a := 6) (b := i) (by decide) (by omega)).mp c_5; omega); subst hz; unfold L_come; dsimp only; rw [← hw])
        · exact hL
        · exact hg
        · exact h6
      · have hlt : i < 6 := by
          rcases Nat.lt_or_ge i 6 with q | q
          · exact q
          · exact absurd (nI_le (a := 6) q (by omega)) c_5
        refine cc_aload_n (j := 1) dX1_letCreditsCome_8 rfl rfl ?_
        refine cc_iload_n (j := 2) dX1_letCreditsCome_9 rfl rfl ?_
        refine cc_callVi (As := [.int x1]) (rest := []) (ct_X1_creditComes cy z _ a _ _ _ _ _ x1 hL.self) ok_X1_creditComes (hL.2.1) rfl im_X1_creditComes sl_X1_creditComes ml_X1_62 nd_X1_creditComes (by decide +kernel) (Nat.le_of_ble_eq_true rfl) rfl dX1_letCreditsCome_10 (fun r2 G1 q3 => ?_)
        obtain ⟨rfl, rfl⟩ := q3
        refine cc_if_eq (tgt := 36) dX1_letCreditsCome_13 (by decide) (fun c_13 => ?_) (fun c_13 => ?_)
        · refine cc_vret rfl dX1_letCreditsCome_36 ?_
          have hcw : L_comeW x1 v' wy' = (v', wy') := by
            cases wy' with
            | nil => rfl
            | cons wd ws =>
              have hw2 : ¬ wd ≤ x1 := fun q => by
                rw [if_pos ⟨(cc_p0 (by omega)).mpr (by simp), by rw [ar_hd hg]; exact q⟩] at c_13
                exact absurd c_13 (by decide)
              unfold L_comeW
              rw [if_neg hw2]
          refine ⟨rfl, f, g, ?_, hf, ?_, h8, ?_⟩
          all_goals (unfold L_come; dsimp only; rw [← hw, hcw])
          · exact hL
          · exact hg
          · exact h6
        · have hp : 0 < nI wy'.length ∧ g 0 ≤ x1 := by
            by_cases q : 0 < nI wy'.length ∧ g 0 ≤ x1
            · exact q
            · exact absurd (if_neg q) c_13
          obtain ⟨wd, ws, rfl⟩ : ∃ wd ws, wy' = wd :: ws := by
            cases wy' with
            | nil => exact absurd hp.1 (by decide)
            | cons wd ws => exact ⟨wd, ws, rfl⟩
          have hw2 : wd ≤ x1 := by rw [← ar_hd hg]; exact hp.2
          refine cc_aload_n (j := 1) dX1_letCreditsCome_16 rfl rfl ?_
          refine cc_callVv (As := []) (rest := []) (ct_X1_dropFirstOnTheWay cy z _ a v' sd (wd :: ws) ⟨_, _, hL.self, hf, hg, h8, h6⟩) ok_X1_dropFirstOnTheWay (hL.2.1) rfl im_X1_dropFirstOnTheWay sl_X1_dropFirstOnTheWay ml_X1_66 nd_X1_dropFirstOnTheWay (by decide +kernel) (Nat.le_of_ble_eq_true rfl) rfl dX1_letCreditsCome_17 (fun G4 q6 => ?_)
          obtain ⟨f7, g8, hL9, hfhL9, hghL9, h8hL9, h6hL9⟩ := q6
          have hL9 : ln_R cy _ G4 a v' (nI sd.length) f7 (nI ws.length) g8 := hL.tr hL9
          refine cc_aload_n (j := 1) dX1_letCreditsCome_20 rfl rfl ?_
          refine cc_dup dX1_letCreditsCome_21 rfl ?_
          refine cc_get (v := .int (v' 3)) hL9.2.1 cc_c1 3 (by decide) fl_X1_21 rfl dX1_letCreditsCome_22 ?_
          refine cc_iconst (v := 1) dX1_letCreditsCome_25 (by decide) ?_
          refine cc_iadd dX1_letCreditsCome_26 ?_
          refine ln_rput (v' := upd v' 3 ((v' 3) + 1)) (nS' := (nI sd.length)) (nW' := (nI ws.length)) hL9 cc_c1 3 (by decide) fl_X1_21 rfl rfl rfl dX1_letCreditsCome_27 (fun G10 hL11 => ?_)
          refine cc_iinc (j := 0) (v := nI (i + 1)) (ls' := [(2, .int (nI (i + 1))), (0, .ref a), (1, .int x1)]) dX1_letCreditsCome_30 rfl (nI_1 i) (Nat.le_of_ble_eq_true rfl) rfl ?_
          refine cc_goto (tgt := 2) dX1_letCreditsCome_33 (by decide) ?_
          exact ih (i + 1) (upd v' 3 (v' 3 + 1)) ws _ (by omega) (by omega) (by simp at hlen ⊢; omega) ⟨_, _, hL11, hfhL9, hghL9, h8hL9, h6hL9⟩ (by rw [← hw]; conv => { rhs; rw [L_comeW, if_pos hw2] })
  refine cc_enter ok_X1_letCreditsCome (Nat.le_of_ble_eq_true rfl) (ls := [(0, .ref a), (1, .int x1)]) rfl ?_
  refine cc_iconst (v := 0) dX1_letCreditsCome_0 (by decide) ?_
  refine cc_istore_n (ls' := [(2, .int 0), (0, .ref a), (1, .int x1)]) dX1_letCreditsCome_1 rfl (Nat.le_of_ble_eq_true rfl) rfl ?_
  exact loop_2 7 0 v wy _ (by omega) (by omega) (by omega) ⟨f, g, hL, hf, hg, h8, h6⟩ rfl

theorem ln_upS {cy : Nat → ClassId} {G0 G : cc_G} {a : Nat} {v f g : Nat → Int32} {nS nW : Int32} (hL : ln_R cy G0 G a v nS f nW g) (f' : Nat → Int32) : ln_R cy G0 (va_up G (a + 1) (some (.inl (cy 1, 8, .inl f')))) a v nS f' nW g :=
  ⟨fun q hq => by rw [va_up_ne _ _ (by omega)]; exact hL.1 q hq, by rw [va_up_ne _ _ (by omega)]; exact hL.2.1, va_up_self _ _ _, by rw [va_up_ne _ _ (by omega)]; exact hL.2.2.2⟩
theorem ln_upW {cy : Nat → ClassId} {G0 G : cc_G} {a : Nat} {v f g : Nat → Int32} {nS nW : Int32} (hL : ln_R cy G0 G a v nS f nW g) (g' : Nat → Int32) : ln_R cy G0 (va_up G (a + 2) (some (.inl (cy 1, 6, .inl g')))) a v nS f nW g' :=
  ⟨fun q hq => by rw [va_up_ne _ _ (by omega)]; exact hL.1 q hq, by rw [va_up_ne _ _ (by omega)]; exact hL.2.1, by rw [va_up_ne _ _ (by omega)]; exact hL.2.2.1, va_up_self _ _ _⟩
theorem ln_same {cy : Nat → ClassId} {G0 G : cc_G} {a : Nat} {v v' f g : Nat → Int32} {nS nW : Int32} (hL : ln_R cy G0 G a v nS f nW g) (h : ∀ k, k < 9 → v k = v' k) : ln_R cy G0 G a v' nS f nW g := by
  refine ⟨hL.1, ?_, hL.2.2⟩
  rw [hL.2.1]
  unfold ln_fs
  rw [h 0 (by omega), h 1 (by omega), h 2 (by omega), h 3 (by omega), h 4 (by omega), h 5 (by omega), h 6 (by omega), h 7 (by omega), h 8 (by omega)]

set_option maxHeartbeats 4000000 in
set_option maxRecDepth 100000 in
theorem ct_X1_copyFrom (cy : Nat → ClassId) (z : Nat) (G : cc_G) (a : Nat) (v : Nat → Int32) (sd wy : List Int32) (o : Nat) (L2 : Ln_) (hao : a + 3 ≤ o ∨ o + 3 ≤ a) (hI2 : ln_I cy G G o L2) (hI : ln_I cy G G a (v, sd, wy)) : cc_Cn cy Y_X1_copyFrom [.ref a, .ref o] z G (cc_qv (fun G' => ln_I cy G G' a L2)) := by
  obtain ⟨f, g, hL, hf, hg, h8, h6⟩ := hI
  have hL : ln_R cy G G a v (nI sd.length) f (nI wy.length) g := hL
  have hf : ar_ f sd := hf
  have hg : ar_ g wy := hg
  have h8 : sd.length ≤ 8 := h8
  have h6 : wy.length ≤ 6 := h6
  obtain ⟨v2, sd2, wy2⟩ := L2
  obtain ⟨f2, g2, hO, hf2, hg2, h82, h62⟩ := hI2
  have hO : ln_R cy G G o v2 (nI sd2.length) f2 (nI wy2.length) g2 := hO
  have hf2 : ar_ f2 sd2 := hf2
  have hg2 : ar_ g2 wy2 := hg2
  have h82 : sd2.length ≤ 8 := h82
  have h62 : wy2.length ≤ 6 := h62
  refine cc_enter ok_X1_copyFrom (Nat.le_of_ble_eq_true rfl) (ls := [(0, .ref a), (1, .ref o)]) rfl ?_
  refine cc_aload_n (j := 0) dX1_copyFrom_0 rfl rfl ?_
  refine cc_aload_n (j := 1) dX1_copyFrom_1 rfl rfl ?_
  refine cc_get (v := .int (v2 0)) (((hL).1 o (by omega)).trans hO.2.1) cc_c1 0 (by decide) fl_X1_9 rfl dX1_copyFrom_2 ?_
  refine ln_rput (v' := upd v 0 (v2 0)) (nS' := (nI sd.length)) (nW' := (nI wy.length)) hL cc_c1 0 (by decide) fl_X1_9 rfl rfl rfl dX1_copyFrom_5 (fun G1 hL2 => ?_)
  refine cc_aload_n (j := 0) dX1_copyFrom_8 rfl rfl ?_
  refine cc_aload_n (j := 1) dX1_copyFrom_9 rfl rfl ?_
  refine cc_get (v := .int (v2 1)) (((hL2).1 o (by omega)).trans hO.2.1) cc_c1 1 (by decide) fl_X1_15 rfl dX1_copyFrom_10 ?_
  refine ln_rput (v' := upd (upd v 0 (v2 0)) 1 (v2 1)) (nS' := (nI sd.length)) (nW' := (nI wy.length)) hL2 cc_c1 1 (by decide) fl_X1_15 rfl rfl rfl dX1_copyFrom_13 (fun G3 hL4 => ?_)
  refine cc_aload_n (j := 0) dX1_copyFrom_16 rfl rfl ?_
  refine cc_aload_n (j := 1) dX1_copyFrom_17 rfl rfl ?_
  refine cc_get (v := .int (v2 2)) (((hL4).1 o (by omega)).trans hO.2.1) cc_c1 2 (by decide) fl_X1_18 rfl dX1_copyFrom_18 ?_
  refine ln_rput (v' := upd (upd (upd v 0 (v2 0)) 1 (v2 1)) 2 (v2 2)) (nS' := (nI sd.length)) (nW' := (nI wy.length)) hL4 cc_c1 2 (by decide) fl_X1_18 rfl rfl rfl dX1_copyFrom_21 (fun G5 hL6 => ?_)
  refine cc_aload_n (j := 0) dX1_copyFrom_24 rfl rfl ?_
  refine cc_aload_n (j := 1) dX1_copyFrom_25 rfl rfl ?_
  refine cc_get (v := .int (v2 3)) (((hL6).1 o (by omega)).trans hO.2.1) cc_c1 3 (by decide) fl_X1_21 rfl dX1_copyFrom_26 ?_
  refine ln_rput (v' := upd (upd (upd (upd v 0 (v2 0)) 1 (v2 1)) 2 (v2 2)) 3 (v2 3)) (nS' := (nI sd.length)) (nW' := (nI wy.length)) hL6 cc_c1 3 (by decide) fl_X1_21 rfl rfl rfl dX1_copyFrom_29 (fun G7 hL8 => ?_)
  refine cc_aload_n (j := 0) dX1_copyFrom_32 rfl rfl ?_
  refine cc_aload_n (j := 1) dX1_copyFrom_33 rfl rfl ?_
  refine cc_get (v := .int (v2 4)) (((hL8).1 o (by omega)).trans hO.2.1) cc_c1 4 (by decide) fl_X1_24 rfl dX1_copyFrom_34 ?_
  refine ln_rput (v' := upd (upd (upd (upd (upd v 0 (v2 0)) 1 (v2 1)) 2 (v2 2)) 3 (v2 3)) 4 (v2 4)) (nS' := (nI sd.length)) (nW' := (nI wy.length)) hL8 cc_c1 4 (by decide) fl_X1_24 rfl rfl rfl dX1_copyFrom_37 (fun G9 hL10 => ?_)
  refine cc_aload_n (j := 0) dX1_copyFrom_40 rfl rfl ?_
  refine cc_aload_n (j := 1) dX1_copyFrom_41 rfl rfl ?_
  refine cc_get (v := .int (v2 5)) (((hL10).1 o (by omega)).trans hO.2.1) cc_c1 5 (by decide) fl_X1_27 rfl dX1_copyFrom_42 ?_
  refine ln_rput (v' := upd (upd (upd (upd (upd (upd v 0 (v2 0)) 1 (v2 1)) 2 (v2 2)) 3 (v2 3)) 4 (v2 4)) 5 (v2 5)) (nS' := (nI sd.length)) (nW' := (nI wy.length)) hL10 cc_c1 5 (by decide) fl_X1_27 rfl rfl rfl dX1_copyFrom_45 (fun G11 hL12 => ?_)
  refine cc_aload_n (j := 0) dX1_copyFrom_48 rfl rfl ?_
  refine cc_aload_n (j := 1) dX1_copyFrom_49 rfl rfl ?_
  refine cc_get (v := .int (v2 6)) (((hL12).1 o (by omega)).trans hO.2.1) cc_c1 6 (by decide) fl_X1_30 rfl dX1_copyFrom_50 ?_
  refine ln_rput (v' := upd (upd (upd (upd (upd (upd (upd v 0 (v2 0)) 1 (v2 1)) 2 (v2 2)) 3 (v2 3)) 4 (v2 4)) 5 (v2 5)) 6 (v2 6)) (nS' := (nI sd.length)) (nW' := (nI wy.length)) hL12 cc_c1 6 (by decide) fl_X1_30 rfl rfl rfl dX1_copyFrom_53 (fun G13 hL14 => ?_)
  refine cc_aload_n (j := 0) dX1_copyFrom_56 rfl rfl ?_
  refine cc_aload_n (j := 1) dX1_copyFrom_57 rfl rfl ?_
  refine cc_get (v := .int (v2 7)) (((hL14).1 o (by omega)).trans hO.2.1) cc_c1 7 (by decide) fl_X1_33 rfl dX1_copyFrom_58 ?_
  refine ln_rput (v' := upd (upd (upd (upd (upd (upd (upd (upd v 0 (v2 0)) 1 (v2 1)) 2 (v2 2)) 3 (v2 3)) 4 (v2 4)) 5 (v2 5)) 6 (v2 6)) 7 (v2 7)) (nS' := (nI sd.length)) (nW' := (nI wy.length)) hL14 cc_c1 7 (by decide) fl_X1_33 rfl rfl rfl dX1_copyFrom_61 (fun G15 hL16 => ?_)
  refine cc_aload_n (j := 0) dX1_copyFrom_64 rfl rfl ?_
  refine cc_aload_n (j := 1) dX1_copyFrom_65 rfl rfl ?_
  refine cc_get (v := .int (v2 8)) (((hL16).1 o (by omega)).trans hO.2.1) cc_c1 8 (by decide) fl_X1_36 rfl dX1_copyFrom_66 ?_
  refine ln_rput (v' := upd (upd (upd (upd (upd (upd (upd (upd (upd v 0 (v2 0)) 1 (v2 1)) 2 (v2 2)) 3 (v2 3)) 4 (v2 4)) 5 (v2 5)) 6 (v2 6)) 7 (v2 7)) 8 (v2 8)) (nS' := (nI sd.length)) (nW' := (nI wy.length)) hL16 cc_c1 8 (by decide) fl_X1_36 rfl rfl rfl dX1_copyFrom_69 (fun G17 hL18 => ?_)
  refine cc_aload_n (j := 0) dX1_copyFrom_72 rfl rfl ?_
  refine cc_aload_n (j := 1) dX1_copyFrom_73 rfl rfl ?_
  refine cc_get (v := .int (nI sd2.length)) (((hL18).1 o (by omega)).trans hO.2.1) cc_c1 10 (by decide) fl_X1_43 rfl dX1_copyFrom_74 ?_
  refine ln_rput (v' := upd (upd (upd (upd (upd (upd (upd (upd (upd v 0 (v2 0)) 1 (v2 1)) 2 (v2 2)) 3 (v2 3)) 4 (v2 4)) 5 (v2 5)) 6 (v2 6)) 7 (v2 7)) 8 (v2 8)) (nS' := (nI sd2.length)) (nW' := (nI wy.length)) hL18 cc_c1 10 (by decide) fl_X1_43 rfl rfl rfl dX1_copyFrom_77 (fun G19 hL20 => ?_)
  refine cc_aload_n (j := 0) dX1_copyFrom_80 rfl rfl ?_
  refine cc_aload_n (j := 1) dX1_copyFrom_81 rfl rfl ?_
  refine cc_get (v := .int (nI wy2.length)) (((hL20).1 o (by omega)).trans hO.2.1) cc_c1 12 (by decide) fl_X1_49 rfl dX1_copyFrom_82 ?_
  refine ln_rput (v' := upd (upd (upd (upd (upd (upd (upd (upd (upd v 0 (v2 0)) 1 (v2 1)) 2 (v2 2)) 3 (v2 3)) 4 (v2 4)) 5 (v2 5)) 6 (v2 6)) 7 (v2 7)) 8 (v2 8)) (nS' := (nI sd2.length)) (nW' := (nI wy2.length)) hL20 cc_c1 12 (by decide) fl_X1_49 rfl rfl rfl dX1_copyFrom_85 (fun G21 hL22 => ?_)
  refine cc_aload_n (j := 1) dX1_copyFrom_88 rfl rfl ?_
  refine cc_get (v := .ref (o + 1)) (((hL22).1 o (by omega)).trans hO.2.1) cc_c1 9 (by decide) fl_X1_39 rfl dX1_copyFrom_89 ?_
  refine cc_iconst (v := 0) dX1_copyFrom_92 (by decide) ?_
  refine cc_aload_n (j := 0) dX1_copyFrom_93 rfl rfl ?_
  refine cc_get (v := .ref (a + 1)) hL22.2.1 cc_c1 9 (by decide) fl_X1_39 rfl dX1_copyFrom_94 ?_
  refine cc_iconst (v := 0) dX1_copyFrom_97 (by decide) ?_
  refine cc_bipush (v := 8) dX1_copyFrom_98 (by decide) ?_
  refine cc_copy (k0 := 8) ml_X1_52 (((hL22).1 _ (by omega)).trans hO.2.2.1) hL22.2.2.1 (by omega) rfl (by decide) (by decide) (by decide) (by decide +kernel) dX1_copyFrom_100 ?_
  have hL24 := ln_upS hL22 (va_cpy f2 f 0 0 8)
  generalize va_up _ _ _ = G23 at hL24 ⊢
  refine cc_aload_n (j := 1) dX1_copyFrom_103 rfl rfl ?_
  refine cc_get (v := .ref (o + 2)) (((hL24).1 o (by omega)).trans hO.2.1) cc_c1 11 (by decide) fl_X1_46 rfl dX1_copyFrom_104 ?_
  refine cc_iconst (v := 0) dX1_copyFrom_107 (by decide) ?_
  refine cc_aload_n (j := 0) dX1_copyFrom_108 rfl rfl ?_
  refine cc_get (v := .ref (a + 2)) hL24.2.1 cc_c1 11 (by decide) fl_X1_46 rfl dX1_copyFrom_109 ?_
  refine cc_iconst (v := 0) dX1_copyFrom_112 (by decide) ?_
  refine cc_bipush (v := 6) dX1_copyFrom_113 (by decide) ?_
  refine cc_copy (k0 := 6) ml_X1_52 (((hL24).1 _ (by omega)).trans hO.2.2.2) hL24.2.2.2 (by omega) rfl (by decide) (by decide) (by decide) (by decide +kernel) dX1_copyFrom_115 ?_
  have hL26 := ln_upW hL24 (va_cpy g2 g 0 0 6)
  generalize va_up _ _ _ = G25 at hL26 ⊢
  refine cc_vret rfl dX1_copyFrom_118 ?_
  refine ⟨rfl, _, _, ln_same hL26 (fun k hk => ?_), hf2.eq (fun k hk => pk_cpy_in (by omega) (by omega) |>.trans (by rw [show 0 + (k - 0) = k by omega])), hg2.eq (fun k hk => pk_cpy_in (by omega) (by omega) |>.trans (by rw [show 0 + (k - 0) = k by omega])), h82, h62⟩
  match k, hk with
  | 0, _ => rfl
  | 1, _ => rfl
  | 2, _ => rfl
  | 3, _ => rfl
  | 4, _ => rfl
  | 5, _ => rfl
  | 6, _ => rfl
  | 7, _ => rfl
  | 8, _ => rfl
