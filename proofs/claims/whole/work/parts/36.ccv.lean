theorem C_rd_bad {S : St_} {sn : Option St_} {hi : List St_} {t : List Int32} {k : Nat} (h : T_flt (C_u (S, sn, hi, t)) t.length 0 = some k) : C_readArrivals (S, sn, hi, t) = (-100 - nI k, (S, sn, hi, t)) := by
  show (match T_flt (C_u (S, sn, hi, t)) t.length 0 with | some k => (-100 - nI k, (S, sn, hi, t)) | none => _) = _
  rw [h]
theorem C_rd_full {S : St_} {sn : Option St_} {hi : List St_} {t : List Int32} (h : T_flt (C_u (S, sn, hi, t)) t.length 0 = none) (hg : A_go (C_u (S, sn, hi, t)) t.length 20 0 0 S = none) : C_readArrivals (S, sn, hi, t) = (-3, (S, sn, hi, t)) := by
  show (match T_flt (C_u (S, sn, hi, t)) t.length 0 with | some k => (-100 - nI k, (S, sn, hi, t)) | none => (match A_go (C_u (S, sn, hi, t)) t.length 20 0 0 S with | none => (-3, (S, sn, hi, t)) | some (m, S') => (nI m, C_box (C_rem (S, sn, hi, t)) S'))) = _
  rw [h, hg]
theorem C_rd_ok {S S' : St_} {sn : Option St_} {hi : List St_} {t : List Int32} {m : Nat} (h : T_flt (C_u (S, sn, hi, t)) t.length 0 = none) (hg : A_go (C_u (S, sn, hi, t)) t.length 20 0 0 S = some (m, S')) : C_readArrivals (S, sn, hi, t) = (nI m, C_box (C_rem (S, sn, hi, t)) S') := by
  show (match T_flt (C_u (S, sn, hi, t)) t.length 0 with | some k => (-100 - nI k, (S, sn, hi, t)) | none => (match A_go (C_u (S, sn, hi, t)) t.length 20 0 0 S with | none => (-3, (S, sn, hi, t)) | some (m, S') => (nI m, C_box (C_rem (S, sn, hi, t)) S'))) = _
  rw [h, hg]

set_option maxHeartbeats 4000000 in
set_option maxRecDepth 100000 in
theorem ct_X3_readArrivals (cy : Nat → ClassId) (z : Nat) (G : cc_G) (h : Nat) (c : CS_)   (hI : ca_I cy G G h c) : cc_Cn cy Y_X3_readArrivals [.ref h] z G (cc_qi (fun r G' => r = (C_readArrivals c).1 ∧ ca_I cy G G' h (C_readArrivals c).2)) := by
  obtain ⟨S, sn, hi, t⟩ := c
  refine cc_enter ok_X3_readArrivals (Nat.le_of_ble_eq_true rfl) (ls := [(0, .ref h)]) rfl ?_
  refine cc_aload_n (j := 0) dX3_readArrivals_0 rfl rfl ?_
  rcases hflt : T_flt (C_u (S, sn, hi, t)) t.length 0 with _ | k0
  · obtain ⟨_, hOt⟩ := hI.obj
    refine cc_callVi (As := []) (rest := []) (ct_X3_faultOfText cy z _ h (S, sn, hi, t) hI.self) ok_X3_faultOfText (hOt) rfl im_X3_faultOfText sl_X3_faultOfText ml_X3_85 nd_X3_faultOfText (by decide +kernel) (Nat.le_of_ble_eq_true rfl) rfl dX3_readArrivals_1 (fun r2 G1 q3 => ?_)
    obtain ⟨hr, rfl⟩ := q3
    have hr : r2 = (match T_flt (C_u (S, sn, hi, t)) t.length 0 with | some k => nI k | none => (-1)) := hr
    rw [hflt] at hr
    have hr : r2 = (-1) := hr
    subst hr
    refine cc_istore_n (ls' := [(1, .int (-1)), (0, .ref h)]) dX3_readArrivals_4 rfl (Nat.le_of_ble_eq_true rfl) rfl ?_
    refine cc_iload_n (j := 0) dX3_readArrivals_5 rfl rfl ?_
    refine cc_iconst (v := (-1)) dX3_readArrivals_6 (by decide) ?_
    refine cc_icmp_eq (tgt := 15) dX3_readArrivals_7 (by decide) (fun c_7 => ?_) (fun c_7 => ?_)
    · refine cc_aload_n (j := 1) dX3_readArrivals_15 rfl rfl ?_
      obtain ⟨hs4, hO5⟩ := hI.obj
      refine cc_get (v := .ref (h + 32)) hO5 cc_c3 1 (by decide) fl_X3_16 rfl dX3_readArrivals_16 ?_
      refine cc_aload_n (j := 1) dX3_readArrivals_19 rfl rfl ?_
      refine cc_get (v := .ref (h + 1)) hO5 cc_c3 0 (by decide) fl_X3_10 rfl dX3_readArrivals_20 ?_
      obtain ⟨Tr, hTr⟩ := hI.trial
      refine cc_callNv (As := [.ref (h + 1)]) (rest := []) (ct_X0_copyFrom cy z _ _ _ _ _ (cb_ap h (k := 1) (j := 0) (by decide)) hI.box0 hTr) ok_X0_copyFrom (hTr.obj) rfl im_X0_copyFrom sl_X0_copyFrom mn_X3_89 nd_X0_copyFrom (by decide +kernel) (Nat.le_of_ble_eq_true rfl) rfl dX3_readArrivals_23 (fun G6 q8 => ?_)
      have hI9 := hI.trialup q8
      have hEt : bx_E cy _ _ (h + 32) S := q8.self
      refine cc_aload_n (j := 1) dX3_readArrivals_26 rfl rfl ?_
      obtain ⟨_, hOt⟩ := hI9.obj
      refine cc_callVi (As := []) (rest := []) (ct_X3_admitTextToTrial cy z _ h S sn hi t S hflt hEt hI9.self) ok_X3_admitTextToTrial (hOt) rfl im_X3_admitTextToTrial sl_X3_admitTextToTrial ml_X3_93 nd_X3_admitTextToTrial (by decide +kernel) (Nat.le_of_ble_eq_true rfl) rfl dX3_readArrivals_27 (fun r11 G10 q12 => ?_)
      obtain ⟨hI13, hres⟩ := q12
      have hI13 := hI9.tr hI13
      rcases hres with ⟨hg, hr⟩ | ⟨m, S9, hg, hr, hE9⟩
      · subst hr
        refine cc_istore_n (ls' := [(2, .int (-3)), (1, .int (-1)), (0, .ref h)]) dX3_readArrivals_30 rfl (Nat.le_of_ble_eq_true rfl) rfl ?_
        refine cc_iload_n (j := 0) dX3_readArrivals_31 rfl rfl ?_
        refine cc_bipush (v := (-3)) dX3_readArrivals_32 (by decide) ?_
        refine cc_icmp_ne (tgt := 40) dX3_readArrivals_34 (by decide) (fun c_34 => ?_) (fun c_34 => ?_)
        · exact absurd c_34 (by decide)
        · refine cc_bipush (v := (-3)) dX3_readArrivals_37 (by decide) ?_
          refine cc_iret rfl rfl dX3_readArrivals_39 ?_
          rw [C_rd_full hflt hg]
          exact ⟨_, rfl, rfl, hI13⟩
      · subst hr
        have hm160 := A_go_le hg
        refine cc_istore_n (ls' := [(2, .int (nI m)), (1, .int (-1)), (0, .ref h)]) dX3_readArrivals_30 rfl (Nat.le_of_ble_eq_true rfl) rfl ?_
        refine cc_iload_n (j := 0) dX3_readArrivals_31 rfl rfl ?_
        refine cc_bipush (v := (-3)) dX3_readArrivals_32 (by decide) ?_
        refine cc_icmp_ne (tgt := 40) dX3_readArrivals_34 (by decide) (fun c_34_1 => ?_) (fun c_34_1 => ?_)
        · refine cc_aload_n (j := 2) dX3_readArrivals_40 rfl rfl ?_
          obtain ⟨_, hOt⟩ := hI13.obj
          have hTT := hI13.trialT hE9
          refine cc_callVv (As := []) (rest := []) (ct_X3_remember_T cy z _ h (S, sn, hi, t) S9 hTT.self) ok_X3_remember (hOt) rfl im_X3_remember sl_X3_remember ml_X3_61 nd_X3_remember (by decide +kernel) (Nat.le_of_ble_eq_true rfl) rfl dX3_readArrivals_41 (fun G14 q16 => ?_)
          have hTT2 := q16
          have hI17 := hI13.tr q16.I
          refine cc_aload_n (j := 2) dX3_readArrivals_44 rfl rfl ?_
          obtain ⟨hs18, hO19⟩ := hI17.obj
          refine cc_get (v := .ref (h + 1)) hO19 cc_c3 0 (by decide) fl_X3_10 rfl dX3_readArrivals_45 ?_
          refine cc_aload_n (j := 2) dX3_readArrivals_48 rfl rfl ?_
          refine cc_get (v := .ref (h + 32)) hO19 cc_c3 1 (by decide) fl_X3_16 rfl dX3_readArrivals_49 ?_
          refine cc_callNv (As := [.ref (h + 32)]) (rest := []) (ct_X0_copyFrom cy z _ _ _ _ _ (cb_ap h (k := 0) (j := 1) (by decide)) hTT2.b hI17.box0) ok_X0_copyFrom (hI17.box0.obj) rfl im_X0_copyFrom sl_X0_copyFrom mn_X3_89 nd_X0_copyFrom (by decide +kernel) (Nat.le_of_ble_eq_true rfl) rfl dX3_readArrivals_52 (fun G20 q22 => ?_)
          have hI23 := hI17.box q22
          refine cc_iload_n (j := 0) dX3_readArrivals_55 rfl rfl ?_
          refine cc_iret rfl rfl dX3_readArrivals_56 ?_
          rw [C_rd_ok hflt hg]
          exact ⟨_, rfl, rfl, hI23⟩
        · exact False.elim (nI_pos (n := m) (by omega) (by rw [c_34_1]; decide))
    · exact absurd c_7 (by decide)
  · have hk0 := T_flt_le hflt
    obtain ⟨_, hOt⟩ := hI.obj
    refine cc_callVi (As := []) (rest := []) (ct_X3_faultOfText cy z _ h (S, sn, hi, t) hI.self) ok_X3_faultOfText (hOt) rfl im_X3_faultOfText sl_X3_faultOfText ml_X3_85 nd_X3_faultOfText (by decide +kernel) (Nat.le_of_ble_eq_true rfl) rfl dX3_readArrivals_1 (fun r25 G24 q26 => ?_)
    obtain ⟨hr, rfl⟩ := q26
    have hr : r25 = (match T_flt (C_u (S, sn, hi, t)) t.length 0 with | some k => nI k | none => (-1)) := hr
    rw [hflt] at hr
    have hr : r25 = nI k0 := hr
    subst hr
    refine cc_istore_n (ls' := [(1, .int (nI k0)), (0, .ref h)]) dX3_readArrivals_4 rfl (Nat.le_of_ble_eq_true rfl) rfl ?_
    refine cc_iload_n (j := 0) dX3_readArrivals_5 rfl rfl ?_
    refine cc_iconst (v := (-1)) dX3_readArrivals_6 (by decide) ?_
    refine cc_icmp_eq (tgt := 15) dX3_readArrivals_7 (by decide) (fun c_7_1 => ?_) (fun c_7_1 => ?_)
    · exact False.elim (nI_pos (n := k0) (by have h60 : t.length ≤ 60 := hI.text.elim (fun _ q => q.2.2); omega) (by rw [c_7_1]; decide))
    · refine cc_bipush (v := (-100)) dX3_readArrivals_10 (by decide) ?_
      refine cc_iload_n (j := 0) dX3_readArrivals_12 rfl rfl ?_
      refine cc_isub dX3_readArrivals_13 ?_
      refine cc_iret rfl rfl dX3_readArrivals_14 ?_
      rw [C_rd_bad hflt]
      exact ⟨_, rfl, rfl, hI⟩
