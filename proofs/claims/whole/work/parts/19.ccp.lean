theorem cc_ticks {x : Int32} (h : 1 ≤ x ∧ x ≤ 50) : ∃ n : Nat, x = nI n ∧ 1 ≤ n ∧ n ≤ 50 := by
  have h0 : ¬ x < 0 := fun q => absurd (Int32.lt_of_le_of_lt h.1 q) (by decide)
  obtain ⟨j, hj, e⟩ := nI_of h0
  subst e
  exact ⟨j, rfl, (nI_leI (a := 1) (by decide) hj).mp h.1, (nI_leI (b := 50) hj (by decide)).mp h.2⟩
set_option maxHeartbeats 4000000 in
set_option maxRecDepth 100000 in
theorem ct_X3_setLane (cy : Nat → ClassId) (z : Nat) (G : cc_G) (h : Nat) (c : CS_) (x1 x2 x3 : Int32)  (hI : ca_I cy G G h c) : cc_Cn cy Y_X3_setLane [.ref h, .int x1, .int x2, .int x3] z G (cc_qi (fun r G' => r = (C_setLane x1 x2 x3 c).1 ∧ ca_I cy G G' h (C_setLane x1 x2 x3 c).2)) := by
  obtain ⟨S, sn, hi, t⟩ := c
  refine cc_enter ok_X3_setLane (Nat.le_of_ble_eq_true rfl) (ls := [(0, .ref h), (1, .int x1), (2, .int x2), (3, .int x3)]) rfl ?_
  rcases cc_port x1 with ⟨i, hi4, rfl⟩ | hx
  · refine cc_iload_n (j := 1) dX3_setLane_0 rfl rfl ?_
    refine cc_callSi (As := [.int (nI i)]) (rest := []) (ct_X3_isPort cy z _ (nI i)) ok_X3_isPort st_X3_isPort ml_X3_41 nd_X3_isPort (by decide +kernel) (Nat.le_of_ble_eq_true rfl) rfl dX3_setLane_1 (fun r2 G1 q3 => ?_)
    obtain ⟨rfl, rfl⟩ := q3
    rw [if_pos (cc_pt hi4)]
    refine cc_if_ne (tgt := 9) dX3_setLane_4 (by decide) (fun c_4 => ?_) (fun c_4 => ?_)
    · refine cc_iload_n (j := 3) dX3_setLane_9 rfl rfl ?_
      refine cc_iconst (v := 1) dX3_setLane_10 (by decide) ?_
      refine cc_icmp_lt (tgt := 22) dX3_setLane_11 (by decide) (fun c_11 => ?_) (fun c_11 => ?_)
      · refine cc_bipush (v := (-2)) dX3_setLane_22 (by decide) ?_
        refine cc_iret rfl rfl dX3_setLane_24 ?_
        have e : C_setLane (nI i) x2 x3 (S, sn, hi, t) = ((-2), (S, sn, hi, t)) := by
          unfold C_setLane
          rw [if_pos (cc_pt hi4), C_i_n (by omega)]
          dsimp only
          rw [if_pos (Or.inl c_11)]
        rw [e]
        exact ⟨_, rfl, rfl, hI⟩
      · refine cc_iload_n (j := 3) dX3_setLane_14 rfl rfl ?_
        refine cc_iload_n (j := 2) dX3_setLane_15 rfl rfl ?_
        refine cc_callSi (As := [.int x2]) (rest := [.int x3]) (ct_X3_mostOfLane cy z _ x2) ok_X3_mostOfLane st_X3_mostOfLane ml_X3_45 nd_X3_mostOfLane (by decide +kernel) (Nat.le_of_ble_eq_true rfl) rfl dX3_setLane_16 (fun r5 G4 q6 => ?_)
        obtain ⟨rfl, rfl⟩ := q6
        refine cc_icmp_le (tgt := 25) dX3_setLane_19 (by decide) (fun c_19 => ?_) (fun c_19 => ?_)
        · refine cc_aload_n (j := 0) dX3_setLane_25 rfl rfl ?_
          obtain ⟨hs7, hO8⟩ := hI.obj
          refine cc_get (v := .ref (h + 1)) hO8 cc_c3 0 (by decide) fl_X3_10 rfl dX3_setLane_26 ?_
          obtain ⟨_, hB9⟩ := hI.box0
          refine cc_getN (v := .ref (h + 1 + 1)) hB9.2.1 cc_c0 4 (by decide) fn_X3_49 rfl dX3_setLane_29 ?_
          refine cc_iload_n (j := 1) dX3_setLane_32 rfl rfl ?_
          refine cc_aald4 (x := h + 1 + 3 + 7 * i) hB9.2.2.1 (vp_in_nI (n := i) (by omega) (by decide)) (by rw [(nI_clamp (by omega))]; rfl) dX3_setLane_33 ?_
          refine cc_astore (ls' := [(4, .ref (h + 1 + 3 + 7 * i)), (0, .ref h), (1, .int (nI i)), (2, .int x2), (3, .int x3)]) dX3_setLane_34 (Nat.le_of_ble_eq_true rfl) rfl ?_
          refine cc_iload_n (j := 3) dX3_setLane_36 rfl rfl ?_
          refine cc_if_ne (tgt := 52) dX3_setLane_37 (by decide) (fun c_37 => ?_) (fun c_37 => ?_)
          · refine cc_aload (j := 0) dX3_setLane_52 rfl ?_
            refine cc_iload_n (j := 3) dX3_setLane_54 rfl rfl ?_
            obtain ⟨fL, gL, hL, hfL, hgL, h8L, h6L⟩ := hB9.2.2.2.2.1 i hi4
            refine cc_callNi (As := [.int x2]) (rest := []) (ct_X1_setting cy z _ _ _ _ _ _ _ x2 hL) ok_X1_setting (hL.2.1) rfl im_X1_setting sl_X1_setting mn_X3_58 nd_X1_setting (by decide +kernel) (Nat.le_of_ble_eq_true rfl) rfl dX3_setLane_55 (fun r11 G10 q12 => ?_)
            obtain ⟨hr, rfl⟩ := q12
            have hr : r11 = L_set x2 (S.2.1 i) := hr
            subst hr
            refine cc_istore (ls' := [(5, .int (L_set x2 (S.2.1 i))), (4, .ref (h + 1 + 3 + 7 * i)), (0, .ref h), (1, .int (nI i)), (2, .int x2), (3, .int x3)]) dX3_setLane_58 (Nat.le_of_ble_eq_true rfl) rfl ?_
            refine cc_iload (j := 0) dX3_setLane_60 rfl ?_
            refine cc_iload_n (j := 5) dX3_setLane_62 rfl rfl ?_
            refine cc_icmp_ne (tgt := 69) dX3_setLane_63 (by decide) (fun c_63 => ?_) (fun c_63 => ?_)
            · refine cc_aload_n (j := 2) dX3_setLane_69 rfl rfl ?_
              obtain ⟨_, hOr⟩ := hI.obj
              refine cc_callVv (As := []) (rest := []) (ct_X3_remember cy z _ h _ hI.self) ok_X3_remember (hOr) rfl im_X3_remember sl_X3_remember ml_X3_61 nd_X3_remember (by decide +kernel) (Nat.le_of_ble_eq_true rfl) rfl dX3_setLane_70 (fun G13 q15 => ?_)
              refine cc_aload (j := 1) dX3_setLane_73 rfl ?_
              refine cc_iload_n (j := 4) dX3_setLane_75 rfl rfl ?_
              refine cc_iload_n (j := 5) dX3_setLane_76 rfl rfl ?_
              obtain ⟨_, hB16⟩ := q15.box0
              obtain ⟨fL, gL, hL, hfL, hgL, h8L, h6L⟩ := hB16.2.2.2.2.1 i hi4
              refine cc_callNv (As := [.int x2, .int x3]) (rest := []) (ct_X1_change cy z _ _ _ _ _ _ _ x2 x3 hL) ok_X1_change (hL.2.1) rfl im_X1_change sl_X1_change mn_X3_64 nd_X1_change (by decide +kernel) (Nat.le_of_ble_eq_true rfl) rfl dX3_setLane_77 (fun G17 q19 => ?_)
              have hI20 := q15.box ⟨_, hB16.lane hi4 (L := L_chg x2 x3 (S.2.1 i)) ⟨_, _, q19, hfL, hgL, h8L, h6L⟩⟩
              refine cc_iload (j := 0) dX3_setLane_80 rfl ?_
              refine cc_iret rfl rfl dX3_setLane_82 ?_
              have e : C_setLane (nI i) x2 x3 (S, sn, hi, t) = (L_set x2 (S.2.1 i), C_box (C_rem (S, sn, hi, t)) (S_lane S i (L_chg x2 x3 (S.2.1 i)))) := by
                unfold C_setLane
                rw [if_pos (cc_pt hi4), C_i_n (by omega)]
                dsimp only
                rw [if_neg (fun h => h.elim c_11 (fun q => absurd c_19 (Int32.not_le.mpr q))), if_neg (fun h => c_37 h.1), if_neg c_63]
              rw [e]
              exact ⟨_, rfl, rfl, hI20⟩
            · refine cc_bipush (v := (-5)) dX3_setLane_66 (by decide) ?_
              refine cc_iret rfl rfl dX3_setLane_68 ?_
              have e : C_setLane (nI i) x2 x3 (S, sn, hi, t) = ((-5), (S, sn, hi, t)) := by
                unfold C_setLane
                rw [if_pos (cc_pt hi4), C_i_n (by omega)]
                dsimp only
                rw [if_neg (fun h => h.elim c_11 (fun q => absurd c_19 (Int32.not_le.mpr q))), if_neg (fun h => c_37 h.1), if_pos c_63]
              rw [e]
              exact ⟨_, rfl, rfl, hI⟩
          · refine cc_aload (j := 0) dX3_setLane_40 rfl ?_
            obtain ⟨_, _, hLr21, -⟩ := hB9.2.2.2.2.1 i hi4
            refine cc_getN (v := .int (nI (S.2.1 i).2.1.length)) hLr21.2.1 cc_c1 10 (by decide) fn_X3_53 rfl dX3_setLane_42 ?_
            refine cc_iload_n (j := 4) dX3_setLane_45 rfl rfl ?_
            refine cc_icmp_le (tgt := 52) dX3_setLane_46 (by decide) (fun c_46 => ?_) (fun c_46 => ?_)
            · refine cc_aload (j := 0) dX3_setLane_52 rfl ?_
              refine cc_iload_n (j := 3) dX3_setLane_54 rfl rfl ?_
              obtain ⟨fL, gL, hL, hfL, hgL, h8L, h6L⟩ := hB9.2.2.2.2.1 i hi4
              refine cc_callNi (As := [.int x2]) (rest := []) (ct_X1_setting cy z _ _ _ _ _ _ _ x2 hL) ok_X1_setting (hL.2.1) rfl im_X1_setting sl_X1_setting mn_X3_58 nd_X1_setting (by decide +kernel) (Nat.le_of_ble_eq_true rfl) rfl dX3_setLane_55 (fun r23 G22 q24 => ?_)
              obtain ⟨hr, rfl⟩ := q24
              have hr : r23 = L_set x2 (S.2.1 i) := hr
              subst hr
              refine cc_istore (ls' := [(5, .int (L_set x2 (S.2.1 i))), (4, .ref (h + 1 + 3 + 7 * i)), (0, .ref h), (1, .int (nI i)), (2, .int x2), (3, .int x3)]) dX3_setLane_58 (Nat.le_of_ble_eq_true rfl) rfl ?_
              refine cc_iload (j := 0) dX3_setLane_60 rfl ?_
              refine cc_iload_n (j := 5) dX3_setLane_62 rfl rfl ?_
              refine cc_icmp_ne (tgt := 69) dX3_setLane_63 (by decide) (fun c_63_1 => ?_) (fun c_63_1 => ?_)
              · refine cc_aload_n (j := 2) dX3_setLane_69 rfl rfl ?_
                obtain ⟨_, hOr⟩ := hI.obj
                refine cc_callVv (As := []) (rest := []) (ct_X3_remember cy z _ h _ hI.self) ok_X3_remember (hOr) rfl im_X3_remember sl_X3_remember ml_X3_61 nd_X3_remember (by decide +kernel) (Nat.le_of_ble_eq_true rfl) rfl dX3_setLane_70 (fun G25 q27 => ?_)
                refine cc_aload (j := 1) dX3_setLane_73 rfl ?_
                refine cc_iload_n (j := 4) dX3_setLane_75 rfl rfl ?_
                refine cc_iload_n (j := 5) dX3_setLane_76 rfl rfl ?_
                obtain ⟨_, hB28⟩ := q27.box0
                obtain ⟨fL, gL, hL, hfL, hgL, h8L, h6L⟩ := hB28.2.2.2.2.1 i hi4
                refine cc_callNv (As := [.int x2, .int x3]) (rest := []) (ct_X1_change cy z _ _ _ _ _ _ _ x2 x3 hL) ok_X1_change (hL.2.1) rfl im_X1_change sl_X1_change mn_X3_64 nd_X1_change (by decide +kernel) (Nat.le_of_ble_eq_true rfl) rfl dX3_setLane_77 (fun G29 q31 => ?_)
                have hI32 := q27.box ⟨_, hB28.lane hi4 (L := L_chg x2 x3 (S.2.1 i)) ⟨_, _, q31, hfL, hgL, h8L, h6L⟩⟩
                refine cc_iload (j := 0) dX3_setLane_80 rfl ?_
                refine cc_iret rfl rfl dX3_setLane_82 ?_
                have e : C_setLane (nI i) x2 x3 (S, sn, hi, t) = (L_set x2 (S.2.1 i), C_box (C_rem (S, sn, hi, t)) (S_lane S i (L_chg x2 x3 (S.2.1 i)))) := by
                  unfold C_setLane
                  rw [if_pos (cc_pt hi4), C_i_n (by omega)]
                  dsimp only
                  rw [if_neg (fun h => h.elim c_11 (fun q => absurd c_19 (Int32.not_le.mpr q))), if_neg (fun h => absurd c_46 (Int32.not_le.mpr h.2)), if_neg c_63_1]
                rw [e]
                exact ⟨_, rfl, rfl, hI32⟩
              · refine cc_bipush (v := (-5)) dX3_setLane_66 (by decide) ?_
                refine cc_iret rfl rfl dX3_setLane_68 ?_
                have e : C_setLane (nI i) x2 x3 (S, sn, hi, t) = ((-5), (S, sn, hi, t)) := by
                  unfold C_setLane
                  rw [if_pos (cc_pt hi4), C_i_n (by omega)]
                  dsimp only
                  rw [if_neg (fun h => h.elim c_11 (fun q => absurd c_19 (Int32.not_le.mpr q))), if_neg (fun h => absurd c_46 (Int32.not_le.mpr h.2)), if_pos c_63_1]
                rw [e]
                exact ⟨_, rfl, rfl, hI⟩
            · refine cc_bipush (v := (-4)) dX3_setLane_49 (by decide) ?_
              refine cc_iret rfl rfl dX3_setLane_51 ?_
              have e : C_setLane (nI i) x2 x3 (S, sn, hi, t) = ((-4), (S, sn, hi, t)) := by
                unfold C_setLane
                rw [if_pos (cc_pt hi4), C_i_n (by omega)]
                dsimp only
                rw [if_neg (fun h => h.elim c_11 (fun q => absurd c_19 (Int32.not_le.mpr q))), if_pos ⟨c_37, Int32.not_le.mp c_46⟩]
              rw [e]
              exact ⟨_, rfl, rfl, hI⟩
        · refine cc_bipush (v := (-2)) dX3_setLane_22 (by decide) ?_
          refine cc_iret rfl rfl dX3_setLane_24 ?_
          have e : C_setLane (nI i) x2 x3 (S, sn, hi, t) = ((-2), (S, sn, hi, t)) := by
            unfold C_setLane
            rw [if_pos (cc_pt hi4), C_i_n (by omega)]
            dsimp only
            rw [if_pos (Or.inr (Int32.not_le.mp c_19))]
          rw [e]
          exact ⟨_, rfl, rfl, hI⟩
    · exact absurd c_4 (by decide)
  · refine cc_iload_n (j := 1) dX3_setLane_0 rfl rfl ?_
    refine cc_callSi (As := [.int x1]) (rest := []) (ct_X3_isPort cy z _ x1) ok_X3_isPort st_X3_isPort ml_X3_41 nd_X3_isPort (by decide +kernel) (Nat.le_of_ble_eq_true rfl) rfl dX3_setLane_1 (fun r34 G33 q35 => ?_)
    obtain ⟨rfl, rfl⟩ := q35
    rw [if_neg hx]
    refine cc_if_ne (tgt := 9) dX3_setLane_4 (by decide) (fun c_4_1 => ?_) (fun c_4_1 => ?_)
    · exact absurd c_4_1 (by decide)
    · refine cc_iconst (v := (-1)) dX3_setLane_7 (by decide) ?_
      refine cc_iret rfl rfl dX3_setLane_8 ?_
      have e : C_setLane x1 x2 x3 (S, sn, hi, t) = ((-1), (S, sn, hi, t)) := by
        unfold C_setLane
        
        rw [if_neg hx]
      rw [e]
      exact ⟨_, rfl, rfl, hI⟩

set_option maxHeartbeats 4000000 in
set_option maxRecDepth 100000 in
theorem ct_X3_set (cy : Nat → ClassId) (z : Nat) (G : cc_G) (h : Nat) (c : CS_) (x1 x2 : Int32)  (hI : ca_I cy G G h c) : cc_Cn cy Y_X3_set [.ref h, .int x1, .int x2] z G (cc_qi (fun r G' => r = (C_set x1 x2 c).1 ∧ ca_I cy G G' h (C_set x1 x2 c).2)) := by
  obtain ⟨S, sn, hi, t⟩ := c
  refine cc_enter ok_X3_set (Nat.le_of_ble_eq_true rfl) (ls := [(0, .ref h), (1, .int x1), (2, .int x2)]) rfl ?_
  refine cc_iload_n (j := 2) dX3_set_0 rfl rfl ?_
  refine cc_if_lt (tgt := 12) dX3_set_1 (by decide) (fun c_1 => ?_) (fun c_1 => ?_)
  · refine cc_bipush (v := (-2)) dX3_set_12 (by decide) ?_
    refine cc_iret rfl rfl dX3_set_14 ?_
    have e : C_set x1 x2 (S, sn, hi, t) = ((-2), (S, sn, hi, t)) := by
      unfold C_set
      
      rw [if_pos (Or.inl c_1)]
    rw [e]
    exact ⟨_, rfl, rfl, hI⟩
  · refine cc_iload_n (j := 2) dX3_set_4 rfl rfl ?_
    refine cc_iload_n (j := 1) dX3_set_5 rfl rfl ?_
    refine cc_callSi (As := [.int x1]) (rest := [.int x2]) (ct_X3_mostOfBox cy z _ x1) ok_X3_mostOfBox st_X3_mostOfBox ml_X3_68 nd_X3_mostOfBox (by decide +kernel) (Nat.le_of_ble_eq_true rfl) rfl dX3_set_6 (fun r2 G1 q3 => ?_)
    obtain ⟨rfl, rfl⟩ := q3
    refine cc_icmp_le (tgt := 15) dX3_set_9 (by decide) (fun c_9 => ?_) (fun c_9 => ?_)
    · refine cc_iload_n (j := 1) dX3_set_15 rfl rfl ?_
      refine cc_if_ne (tgt := 29) dX3_set_16 (by decide) (fun c_16 => ?_) (fun c_16 => ?_)
      · refine cc_aload_n (j := 0) dX3_set_29 rfl rfl ?_
        obtain ⟨hs4, hO5⟩ := hI.obj
        refine cc_get (v := .ref (h + 1)) hO5 cc_c3 0 (by decide) fl_X3_10 rfl dX3_set_30 ?_
        obtain ⟨_, hB6⟩ := hI.box0
        refine cc_getN (v := .int (S.1 2)) hB6.2.1 cc_c0 2 (by decide) fn_X3_74 rfl dX3_set_33 ?_
        refine cc_istore_n (ls' := [(3, .int (S.1 2)), (0, .ref h), (1, .int x1), (2, .int x2)]) dX3_set_36 rfl (Nat.le_of_ble_eq_true rfl) rfl ?_
        refine cc_iload_n (j := 0) dX3_set_37 rfl rfl ?_
        refine cc_iload_n (j := 3) dX3_set_38 rfl rfl ?_
        refine cc_icmp_ne (tgt := 45) dX3_set_39 (by decide) (fun c_39 => ?_) (fun c_39 => ?_)
        · refine cc_aload_n (j := 1) dX3_set_45 rfl rfl ?_
          obtain ⟨_, hOr⟩ := hI.obj
          refine cc_callVv (As := []) (rest := []) (ct_X3_remember cy z _ h _ hI.self) ok_X3_remember (hOr) rfl im_X3_remember sl_X3_remember ml_X3_61 nd_X3_remember (by decide +kernel) (Nat.le_of_ble_eq_true rfl) rfl dX3_set_46 (fun G7 q9 => ?_)
          refine cc_iload_n (j := 2) dX3_set_49 rfl rfl ?_
          refine cc_if_ne (tgt := 64) dX3_set_50 (by decide) (fun c_50 => ?_) (fun c_50 => ?_)
          · refine cc_aload_n (j := 1) dX3_set_64 rfl rfl ?_
            obtain ⟨hs10, hO11⟩ := q9.obj
            refine cc_get (v := .ref (h + 1)) hO11 cc_c3 0 (by decide) fl_X3_10 rfl dX3_set_65 ?_
            refine cc_iload_n (j := 3) dX3_set_68 rfl rfl ?_
            obtain ⟨_, hB12⟩ := q9.box0
            refine bx_rputN (g' := upd S.1 2 x2) hB12 2 (by decide) fn_X3_74 rfl rfl rfl dX3_set_69 (fun G14 hB13 => ?_)
            have hI15 := q9.box ⟨_, hB13⟩
            refine cc_iload_n (j := 0) dX3_set_72 rfl rfl ?_
            refine cc_iret rfl rfl dX3_set_73 ?_
            have e : C_set x1 x2 (S, sn, hi, t) = (S.1 2, C_box (C_rem (S, sn, hi, t)) (upd S.1 2 x2, S.2)) := by
              unfold C_set
              
              rw [if_neg (fun h => h.elim (fun q => absurd q c_1) (fun q => absurd c_9 (Int32.not_le.mpr q))), if_neg c_16, if_neg c_39]
            rw [e]
            exact ⟨_, rfl, rfl, hI15⟩
          · exact absurd c_50 c_16
        · refine cc_bipush (v := (-5)) dX3_set_42 (by decide) ?_
          refine cc_iret rfl rfl dX3_set_44 ?_
          have e : C_set x1 x2 (S, sn, hi, t) = ((-5), (S, sn, hi, t)) := by
            unfold C_set
            
            rw [if_neg (fun h => h.elim (fun q => absurd q c_1) (fun q => absurd c_9 (Int32.not_le.mpr q))), if_neg c_16, if_pos c_39]
          rw [e]
          exact ⟨_, rfl, rfl, hI⟩
      · refine cc_aload_n (j := 0) dX3_set_19 rfl rfl ?_
        obtain ⟨hs16, hO17⟩ := hI.obj
        refine cc_get (v := .ref (h + 1)) hO17 cc_c3 0 (by decide) fl_X3_10 rfl dX3_set_20 ?_
        obtain ⟨_, hB18⟩ := hI.box0
        refine cc_getN (v := .int (S.1 1)) hB18.2.1 cc_c0 1 (by decide) fn_X3_71 rfl dX3_set_23 ?_
        refine cc_goto (tgt := 36) dX3_set_26 (by decide) ?_
        refine cc_istore_n (ls' := [(3, .int (S.1 1)), (0, .ref h), (1, .int x1), (2, .int x2)]) dX3_set_36 rfl (Nat.le_of_ble_eq_true rfl) rfl ?_
        refine cc_iload_n (j := 0) dX3_set_37 rfl rfl ?_
        refine cc_iload_n (j := 3) dX3_set_38 rfl rfl ?_
        refine cc_icmp_ne (tgt := 45) dX3_set_39 (by decide) (fun c_39_1 => ?_) (fun c_39_1 => ?_)
        · refine cc_aload_n (j := 1) dX3_set_45 rfl rfl ?_
          obtain ⟨_, hOr⟩ := hI.obj
          refine cc_callVv (As := []) (rest := []) (ct_X3_remember cy z _ h _ hI.self) ok_X3_remember (hOr) rfl im_X3_remember sl_X3_remember ml_X3_61 nd_X3_remember (by decide +kernel) (Nat.le_of_ble_eq_true rfl) rfl dX3_set_46 (fun G19 q21 => ?_)
          refine cc_iload_n (j := 2) dX3_set_49 rfl rfl ?_
          refine cc_if_ne (tgt := 64) dX3_set_50 (by decide) (fun c_50_1 => ?_) (fun c_50_1 => ?_)
          · exact absurd c_16 c_50_1
          · refine cc_aload_n (j := 1) dX3_set_53 rfl rfl ?_
            obtain ⟨hs22, hO23⟩ := q21.obj
            refine cc_get (v := .ref (h + 1)) hO23 cc_c3 0 (by decide) fl_X3_10 rfl dX3_set_54 ?_
            refine cc_iload_n (j := 3) dX3_set_57 rfl rfl ?_
            obtain ⟨_, hB24⟩ := q21.box0
            refine bx_rputN (g' := upd S.1 1 x2) hB24 1 (by decide) fn_X3_71 rfl rfl rfl dX3_set_58 (fun G26 hB25 => ?_)
            have hI27 := q21.box ⟨_, hB25⟩
            refine cc_goto (tgt := 72) dX3_set_61 (by decide) ?_
            refine cc_iload_n (j := 0) dX3_set_72 rfl rfl ?_
            refine cc_iret rfl rfl dX3_set_73 ?_
            have e : C_set x1 x2 (S, sn, hi, t) = (S.1 1, C_box (C_rem (S, sn, hi, t)) (upd S.1 1 x2, S.2)) := by
              unfold C_set
              
              rw [if_neg (fun h => h.elim (fun q => absurd q c_1) (fun q => absurd c_9 (Int32.not_le.mpr q))), if_pos c_16, if_neg c_39_1]
            rw [e]
            exact ⟨_, rfl, rfl, hI27⟩
        · refine cc_bipush (v := (-5)) dX3_set_42 (by decide) ?_
          refine cc_iret rfl rfl dX3_set_44 ?_
          have e : C_set x1 x2 (S, sn, hi, t) = ((-5), (S, sn, hi, t)) := by
            unfold C_set
            
            rw [if_neg (fun h => h.elim (fun q => absurd q c_1) (fun q => absurd c_9 (Int32.not_le.mpr q))), if_pos c_16, if_pos c_39_1]
          rw [e]
          exact ⟨_, rfl, rfl, hI⟩
    · refine cc_bipush (v := (-2)) dX3_set_12 (by decide) ?_
      refine cc_iret rfl rfl dX3_set_14 ?_
      have e : C_set x1 x2 (S, sn, hi, t) = ((-2), (S, sn, hi, t)) := by
        unfold C_set
        
        rw [if_pos (Or.inr (Int32.not_le.mp c_9))]
      rw [e]
      exact ⟨_, rfl, rfl, hI⟩

set_option maxHeartbeats 4000000 in
set_option maxRecDepth 100000 in
theorem ct_X3_arrive (cy : Nat → ClassId) (z : Nat) (G : cc_G) (h : Nat) (c : CS_) (x1 x2 : Int32)  (hI : ca_I cy G G h c) : cc_Cn cy Y_X3_arrive [.ref h, .int x1, .int x2] z G (cc_qi (fun r G' => r = (C_arrive x1 x2 c).1 ∧ ca_I cy G G' h (C_arrive x1 x2 c).2)) := by
  obtain ⟨S, sn, hi, t⟩ := c
  refine cc_enter ok_X3_arrive (Nat.le_of_ble_eq_true rfl) (ls := [(0, .ref h), (1, .int x1), (2, .int x2)]) rfl ?_
  rcases cc_port x1 with ⟨i, hi4, rfl⟩ | hx
  · refine cc_iload_n (j := 1) dX3_arrive_0 rfl rfl ?_
    refine cc_callSi (As := [.int (nI i)]) (rest := []) (ct_X3_isPort cy z _ (nI i)) ok_X3_isPort st_X3_isPort ml_X3_41 nd_X3_isPort (by decide +kernel) (Nat.le_of_ble_eq_true rfl) rfl dX3_arrive_1 (fun r2 G1 q3 => ?_)
    obtain ⟨rfl, rfl⟩ := q3
    rw [if_pos (cc_pt hi4)]
    refine cc_if_eq (tgt := 14) dX3_arrive_4 (by decide) (fun c_4 => ?_) (fun c_4 => ?_)
    · exact absurd c_4 (by decide)
    · by_cases hx2 : 0 ≤ x2 ∧ x2 < 4
      · refine cc_iload_n (j := 2) dX3_arrive_7 rfl rfl ?_
        refine cc_callSi (As := [.int x2]) (rest := []) (ct_X3_isPort cy z _ x2) ok_X3_isPort st_X3_isPort ml_X3_41 nd_X3_isPort (by decide +kernel) (Nat.le_of_ble_eq_true rfl) rfl dX3_arrive_8 (fun r5 G4 q6 => ?_)
        obtain ⟨rfl, rfl⟩ := q6
        rw [if_pos hx2]
        refine cc_if_ne (tgt := 16) dX3_arrive_11 (by decide) (fun c_11 => ?_) (fun c_11 => ?_)
        · by_cases hlt : (S.2.2 i).2.2.length < 8
          · refine cc_aload_n (j := 0) dX3_arrive_16 rfl rfl ?_
            obtain ⟨hs7, hO8⟩ := hI.obj
            refine cc_get (v := .ref (h + 1)) hO8 cc_c3 0 (by decide) fl_X3_10 rfl dX3_arrive_17 ?_
            refine cc_iload_n (j := 1) dX3_arrive_20 rfl rfl ?_
            refine cc_iconst (v := 1) dX3_arrive_21 (by decide) ?_
            obtain ⟨_, hB9⟩ := hI.box0
            refine cc_callNi (As := [.int (nI i), .int 1]) (rest := []) (ct_X0_hasRoom cy z _ _ _ S i hi4 1 (by decide) _ rfl hB9) ok_X0_hasRoom (hB9.2.1) rfl im_X0_hasRoom sl_X0_hasRoom mn_X3_77 nd_X0_hasRoom (by decide +kernel) (Nat.le_of_ble_eq_true rfl) rfl dX3_arrive_22 (fun r11 G10 q12 => ?_)
            obtain ⟨hr, rfl⟩ := q12
            have hr : r11 = 1 := hr.trans (if_pos (by omega))
            subst hr
            refine cc_if_ne (tgt := 31) dX3_arrive_25 (by decide) (fun c_25 => ?_) (fun c_25 => ?_)
            · refine cc_aload_n (j := 0) dX3_arrive_31 rfl rfl ?_
              obtain ⟨_, hOr⟩ := hI.obj
              refine cc_callVv (As := []) (rest := []) (ct_X3_remember cy z _ h _ hI.self) ok_X3_remember (hOr) rfl im_X3_remember sl_X3_remember ml_X3_61 nd_X3_remember (by decide +kernel) (Nat.le_of_ble_eq_true rfl) rfl dX3_arrive_32 (fun G13 q15 => ?_)
              refine cc_aload_n (j := 0) dX3_arrive_35 rfl rfl ?_
              obtain ⟨hs16, hO17⟩ := q15.obj
              refine cc_get (v := .ref (h + 1)) hO17 cc_c3 0 (by decide) fl_X3_10 rfl dX3_arrive_36 ?_
              refine cc_iload_n (j := 1) dX3_arrive_39 rfl rfl ?_
              refine cc_iload_n (j := 2) dX3_arrive_40 rfl rfl ?_
              obtain ⟨_, hB18⟩ := q15.box0
              refine cc_callNi (As := [.int (nI i), .int x2]) (rest := []) (ct_X0_admit cy z _ _ S i hi4 x2 hlt ⟨_, hB18⟩) ok_X0_admit (hB18.2.1) rfl im_X0_admit sl_X0_admit mn_X3_81 nd_X0_admit (by decide +kernel) (Nat.le_of_ble_eq_true rfl) rfl dX3_arrive_41 (fun r20 G19 q21 => ?_)
              obtain ⟨rfl, q21⟩ := q21
              have hI22 := q15.box q21
              refine cc_iret rfl rfl dX3_arrive_44 ?_
              have e : C_arrive (nI i) x2 (S, sn, hi, t) = (S.1 3, C_box (C_rem (S, sn, hi, t)) (B_adm i x2 S)) := by
                unfold C_arrive
                rw [if_pos ⟨cc_pt hi4, hx2⟩, C_i_n (by omega)]
                dsimp only
                rw [if_pos hlt]
              rw [e]
              exact ⟨_, rfl, rfl, hI22⟩
            · exact absurd c_25 (by decide)
          · refine cc_aload_n (j := 0) dX3_arrive_16 rfl rfl ?_
            obtain ⟨hs23, hO24⟩ := hI.obj
            refine cc_get (v := .ref (h + 1)) hO24 cc_c3 0 (by decide) fl_X3_10 rfl dX3_arrive_17 ?_
            refine cc_iload_n (j := 1) dX3_arrive_20 rfl rfl ?_
            refine cc_iconst (v := 1) dX3_arrive_21 (by decide) ?_
            obtain ⟨_, hB25⟩ := hI.box0
            refine cc_callNi (As := [.int (nI i), .int 1]) (rest := []) (ct_X0_hasRoom cy z _ _ _ S i hi4 1 (by decide) _ rfl hB25) ok_X0_hasRoom (hB25.2.1) rfl im_X0_hasRoom sl_X0_hasRoom mn_X3_77 nd_X0_hasRoom (by decide +kernel) (Nat.le_of_ble_eq_true rfl) rfl dX3_arrive_22 (fun r27 G26 q28 => ?_)
            obtain ⟨hr, rfl⟩ := q28
            have hr : r27 = 0 := hr.trans (if_neg (by omega))
            subst hr
            refine cc_if_ne (tgt := 31) dX3_arrive_25 (by decide) (fun c_25_1 => ?_) (fun c_25_1 => ?_)
            · exact absurd c_25_1 (by decide)
            · refine cc_bipush (v := (-3)) dX3_arrive_28 (by decide) ?_
              refine cc_iret rfl rfl dX3_arrive_30 ?_
              have e : C_arrive (nI i) x2 (S, sn, hi, t) = ((-3), (S, sn, hi, t)) := by
                unfold C_arrive
                rw [if_pos ⟨cc_pt hi4, hx2⟩, C_i_n (by omega)]
                dsimp only
                rw [if_neg hlt]
              rw [e]
              exact ⟨_, rfl, rfl, hI⟩
        · exact absurd c_11 (by decide)
      · refine cc_iload_n (j := 2) dX3_arrive_7 rfl rfl ?_
        refine cc_callSi (As := [.int x2]) (rest := []) (ct_X3_isPort cy z _ x2) ok_X3_isPort st_X3_isPort ml_X3_41 nd_X3_isPort (by decide +kernel) (Nat.le_of_ble_eq_true rfl) rfl dX3_arrive_8 (fun r30 G29 q31 => ?_)
        obtain ⟨rfl, rfl⟩ := q31
        rw [if_neg hx2]
        refine cc_if_ne (tgt := 16) dX3_arrive_11 (by decide) (fun c_11_1 => ?_) (fun c_11_1 => ?_)
        · exact absurd c_11_1 (by decide)
        · refine cc_iconst (v := (-1)) dX3_arrive_14 (by decide) ?_
          refine cc_iret rfl rfl dX3_arrive_15 ?_
          have e : C_arrive (nI i) x2 (S, sn, hi, t) = ((-1), (S, sn, hi, t)) := by
            unfold C_arrive
            
            rw [if_neg (fun h => hx2 h.2)]
          rw [e]
          exact ⟨_, rfl, rfl, hI⟩
  · refine cc_iload_n (j := 1) dX3_arrive_0 rfl rfl ?_
    refine cc_callSi (As := [.int x1]) (rest := []) (ct_X3_isPort cy z _ x1) ok_X3_isPort st_X3_isPort ml_X3_41 nd_X3_isPort (by decide +kernel) (Nat.le_of_ble_eq_true rfl) rfl dX3_arrive_1 (fun r33 G32 q34 => ?_)
    obtain ⟨rfl, rfl⟩ := q34
    rw [if_neg hx]
    refine cc_if_eq (tgt := 14) dX3_arrive_4 (by decide) (fun c_4_1 => ?_) (fun c_4_1 => ?_)
    · refine cc_iconst (v := (-1)) dX3_arrive_14 (by decide) ?_
      refine cc_iret rfl rfl dX3_arrive_15 ?_
      have e : C_arrive x1 x2 (S, sn, hi, t) = ((-1), (S, sn, hi, t)) := by
        unfold C_arrive
        
        rw [if_neg (fun h => hx h.1)]
      rw [e]
      exact ⟨_, rfl, rfl, hI⟩
    · exact absurd c_4_1 (by decide)

set_option maxHeartbeats 4000000 in
set_option maxRecDepth 100000 in
theorem ct_X3_lose (cy : Nat → ClassId) (z : Nat) (G : cc_G) (h : Nat) (c : CS_) (x1 : Int32)  (hI : ca_I cy G G h c) : cc_Cn cy Y_X3_lose [.ref h, .int x1] z G (cc_qi (fun r G' => r = (C_lose x1 c).1 ∧ ca_I cy G G' h (C_lose x1 c).2)) := by
  obtain ⟨S, sn, hi, t⟩ := c
  refine cc_enter ok_X3_lose (Nat.le_of_ble_eq_true rfl) (ls := [(0, .ref h), (1, .int x1)]) rfl ?_
  rcases cc_port x1 with ⟨i, hi4, rfl⟩ | hx
  · refine cc_iload_n (j := 1) dX3_lose_0 rfl rfl ?_
    refine cc_callSi (As := [.int (nI i)]) (rest := []) (ct_X3_isPort cy z _ (nI i)) ok_X3_isPort st_X3_isPort ml_X3_41 nd_X3_isPort (by decide +kernel) (Nat.le_of_ble_eq_true rfl) rfl dX3_lose_1 (fun r2 G1 q3 => ?_)
    obtain ⟨rfl, rfl⟩ := q3
    rw [if_pos (cc_pt hi4)]
    refine cc_if_ne (tgt := 9) dX3_lose_4 (by decide) (fun c_4 => ?_) (fun c_4 => ?_)
    · refine cc_aload_n (j := 0) dX3_lose_9 rfl rfl ?_
      obtain ⟨hs4, hO5⟩ := hI.obj
      refine cc_get (v := .ref (h + 1)) hO5 cc_c3 0 (by decide) fl_X3_10 rfl dX3_lose_10 ?_
      obtain ⟨_, hB6⟩ := hI.box0
      refine cc_getN (v := .ref (h + 1 + 1)) hB6.2.1 cc_c0 4 (by decide) fn_X3_49 rfl dX3_lose_13 ?_
      refine cc_iload_n (j := 1) dX3_lose_16 rfl rfl ?_
      refine cc_aald4 (x := h + 1 + 3 + 7 * i) hB6.2.2.1 (vp_in_nI (n := i) (by omega) (by decide)) (by rw [(nI_clamp (by omega))]; rfl) dX3_lose_17 ?_
      refine cc_astore_n (ls' := [(2, .ref (h + 1 + 3 + 7 * i)), (0, .ref h), (1, .int (nI i))]) dX3_lose_18 rfl (Nat.le_of_ble_eq_true rfl) rfl ?_
      refine cc_aload_n (j := 0) dX3_lose_19 rfl rfl ?_
      obtain ⟨_, _, hLr7, -⟩ := hB6.2.2.2.2.1 i hi4
      refine cc_getN (v := .int (nI (S.2.1 i).2.2.length)) hLr7.2.1 cc_c1 12 (by decide) fn_X3_105 rfl dX3_lose_20 ?_
      have h6w : (S.2.1 i).2.2.length ≤ 6 := by
        obtain ⟨_, _, _, _, _, _, h6⟩ := hB6.2.2.2.2.1 i hi4
        exact h6
      refine cc_if_ne (tgt := 29) dX3_lose_23 (by decide) (fun c_23 => ?_) (fun c_23 => ?_)
      · refine cc_aload_n (j := 1) dX3_lose_29 rfl rfl ?_
        obtain ⟨_, hOr⟩ := hI.obj
        refine cc_callVv (As := []) (rest := []) (ct_X3_remember cy z _ h _ hI.self) ok_X3_remember (hOr) rfl im_X3_remember sl_X3_remember ml_X3_61 nd_X3_remember (by decide +kernel) (Nat.le_of_ble_eq_true rfl) rfl dX3_lose_30 (fun G8 q10 => ?_)
        refine cc_aload_n (j := 0) dX3_lose_33 rfl rfl ?_
        obtain ⟨_, hB11⟩ := q10.box0
        have hBl := hB11
        obtain ⟨fL, gL, hL, hfL, hgL, h8L, h6L⟩ := hB11.2.2.2.2.1 i hi4
        refine cc_callNv (As := []) (rest := []) (ct_X1_loseFirst cy z _ _ (S.2.1 i).1 (S.2.1 i).2.1 (S.2.1 i).2.2 (hBl.2.2.2.2.1 i hi4)) ok_X1_loseFirst (hL.2.1) rfl im_X1_loseFirst sl_X1_loseFirst mn_X3_108 nd_X1_loseFirst (by decide +kernel) (Nat.le_of_ble_eq_true rfl) rfl dX3_lose_34 (fun G12 q14 => ?_)
        have hI15 := q10.box ⟨_, hB11.lane hi4 (L := L_lose (S.2.1 i)) q14⟩
        refine cc_aload_n (j := 0) dX3_lose_37 rfl rfl ?_
        obtain ⟨_, hB16⟩ := hI15.box0
        obtain ⟨_, _, hLr17, -⟩ := hB16.2.2.2.2.1 i hi4
        refine cc_getN (v := .int (nI (((S_lane S i (L_lose (S.2.1 i))).2.1) i).2.2.length)) hLr17.2.1 cc_c1 12 (by decide) fn_X3_105 rfl dX3_lose_38 ?_
        refine cc_iret rfl rfl dX3_lose_41 ?_
        have e : C_lose (nI i) (S, sn, hi, t) = (nI ((S.2.1 i).2.2.length - 1), C_box (C_rem (S, sn, hi, t)) (S_lane S i (L_lose (S.2.1 i)))) := by
          unfold C_lose
          rw [if_pos (cc_pt hi4), C_i_n (by omega)]
          dsimp only
          rw [if_neg (fun q => c_23 (by rw [q]; rfl))]
        rw [e]
        refine ⟨_, rfl, ?_, hI15⟩
        show nI (va_up S.2.1 i (L_lose (S.2.1 i)) i).2.2.length = _
        rw [va_up_self]
        show nI (S.2.1 i).2.2.tail.length = _
        rw [List.length_tail]
      · refine cc_bipush (v := (-4)) dX3_lose_26 (by decide) ?_
        refine cc_iret rfl rfl dX3_lose_28 ?_
        have e : C_lose (nI i) (S, sn, hi, t) = ((-4), (S, sn, hi, t)) := by
          unfold C_lose
          rw [if_pos (cc_pt hi4), C_i_n (by omega)]
          dsimp only
          rw [if_pos ((cc_e0 (by omega)).mp c_23)]
        rw [e]
        exact ⟨_, rfl, rfl, hI⟩
    · exact absurd c_4 (by decide)
  · refine cc_iload_n (j := 1) dX3_lose_0 rfl rfl ?_
    refine cc_callSi (As := [.int x1]) (rest := []) (ct_X3_isPort cy z _ x1) ok_X3_isPort st_X3_isPort ml_X3_41 nd_X3_isPort (by decide +kernel) (Nat.le_of_ble_eq_true rfl) rfl dX3_lose_1 (fun r19 G18 q20 => ?_)
    obtain ⟨rfl, rfl⟩ := q20
    rw [if_neg hx]
    refine cc_if_ne (tgt := 9) dX3_lose_4 (by decide) (fun c_4_1 => ?_) (fun c_4_1 => ?_)
    · exact absurd c_4_1 (by decide)
    · refine cc_iconst (v := (-1)) dX3_lose_7 (by decide) ?_
      refine cc_iret rfl rfl dX3_lose_8 ?_
      have e : C_lose x1 (S, sn, hi, t) = ((-1), (S, sn, hi, t)) := by
        unfold C_lose
        
        rw [if_neg hx]
      rw [e]
      exact ⟨_, rfl, rfl, hI⟩

set_option maxHeartbeats 4000000 in
set_option maxRecDepth 100000 in
theorem ct_X3_forge (cy : Nat → ClassId) (z : Nat) (G : cc_G) (h : Nat) (c : CS_) (x1 : Int32)  (hI : ca_I cy G G h c) : cc_Cn cy Y_X3_forge [.ref h, .int x1] z G (cc_qi (fun r G' => r = (C_forge x1 c).1 ∧ ca_I cy G G' h (C_forge x1 c).2)) := by
  obtain ⟨S, sn, hi, t⟩ := c
  refine cc_enter ok_X3_forge (Nat.le_of_ble_eq_true rfl) (ls := [(0, .ref h), (1, .int x1)]) rfl ?_
  rcases cc_port x1 with ⟨i, hi4, rfl⟩ | hx
  · refine cc_iload_n (j := 1) dX3_forge_0 rfl rfl ?_
    refine cc_callSi (As := [.int (nI i)]) (rest := []) (ct_X3_isPort cy z _ (nI i)) ok_X3_isPort st_X3_isPort ml_X3_41 nd_X3_isPort (by decide +kernel) (Nat.le_of_ble_eq_true rfl) rfl dX3_forge_1 (fun r2 G1 q3 => ?_)
    obtain ⟨rfl, rfl⟩ := q3
    rw [if_pos (cc_pt hi4)]
    refine cc_if_ne (tgt := 9) dX3_forge_4 (by decide) (fun c_4 => ?_) (fun c_4 => ?_)
    · refine cc_aload_n (j := 0) dX3_forge_9 rfl rfl ?_
      obtain ⟨hs4, hO5⟩ := hI.obj
      refine cc_get (v := .ref (h + 1)) hO5 cc_c3 0 (by decide) fl_X3_10 rfl dX3_forge_10 ?_
      obtain ⟨_, hB6⟩ := hI.box0
      refine cc_getN (v := .ref (h + 1 + 1)) hB6.2.1 cc_c0 4 (by decide) fn_X3_49 rfl dX3_forge_13 ?_
      refine cc_iload_n (j := 1) dX3_forge_16 rfl rfl ?_
      refine cc_aald4 (x := h + 1 + 3 + 7 * i) hB6.2.2.1 (vp_in_nI (n := i) (by omega) (by decide)) (by rw [(nI_clamp (by omega))]; rfl) dX3_forge_17 ?_
      refine cc_astore_n (ls' := [(2, .ref (h + 1 + 3 + 7 * i)), (0, .ref h), (1, .int (nI i))]) dX3_forge_18 rfl (Nat.le_of_ble_eq_true rfl) rfl ?_
      refine cc_aload_n (j := 0) dX3_forge_19 rfl rfl ?_
      obtain ⟨_, _, hLr7, -⟩ := hB6.2.2.2.2.1 i hi4
      refine cc_getN (v := .int ((S.2.1 i).1 3)) hLr7.2.1 cc_c1 3 (by decide) fn_X3_111 rfl dX3_forge_20 ?_
      refine cc_bipush (v := 16) dX3_forge_23 (by decide) ?_
      refine cc_icmp_lt (tgt := 31) dX3_forge_25 (by decide) (fun c_25 => ?_) (fun c_25 => ?_)
      · refine cc_aload_n (j := 1) dX3_forge_31 rfl rfl ?_
        obtain ⟨_, hOr⟩ := hI.obj
        refine cc_callVv (As := []) (rest := []) (ct_X3_remember cy z _ h _ hI.self) ok_X3_remember (hOr) rfl im_X3_remember sl_X3_remember ml_X3_61 nd_X3_remember (by decide +kernel) (Nat.le_of_ble_eq_true rfl) rfl dX3_forge_32 (fun G8 q10 => ?_)
        refine cc_aload_n (j := 0) dX3_forge_35 rfl rfl ?_
        refine cc_dup dX3_forge_36 rfl ?_
        obtain ⟨_, hB11⟩ := q10.box0
        obtain ⟨_, _, hLr12, -⟩ := hB11.2.2.2.2.1 i hi4
        refine cc_getN (v := .int ((S.2.1 i).1 3)) hLr12.2.1 cc_c1 3 (by decide) fn_X3_111 rfl dX3_forge_37 ?_
        refine cc_iconst (v := 1) dX3_forge_40 (by decide) ?_
        refine cc_iadd dX3_forge_41 ?_
        refine bx_rlane hB11 hi4 3 (by decide) fn_X3_111 rfl rfl (fun _ _ _ _ => rfl) dX3_forge_42 (fun G14 hB13 => ?_)
        have hI15 := q10.box ⟨_, hB13⟩
        refine cc_aload_n (j := 0) dX3_forge_45 rfl rfl ?_
        obtain ⟨_, hB16⟩ := hI15.box0
        obtain ⟨_, _, hLr17, -⟩ := hB16.2.2.2.2.1 i hi4
        refine cc_getN (v := .int ((((S.1, va_up S.2.1 i (upd (S.2.1 i).1 3 (((S.2.1 i).1 3) + 1), (S.2.1 i).2), S.2.2).2.1) i).1 3)) hLr17.2.1 cc_c1 3 (by decide) fn_X3_111 rfl dX3_forge_46 ?_
        refine cc_bipush (v := 100) dX3_forge_49 (by decide) ?_
        refine cc_iadd dX3_forge_51 ?_
        refine cc_iret rfl rfl dX3_forge_52 ?_
        have e : C_forge (nI i) (S, sn, hi, t) = ((S.2.1 i).1 3 + 1 + 100, C_box (C_rem (S, sn, hi, t)) (S_lane S i (upd (S.2.1 i).1 3 ((S.2.1 i).1 3 + 1), (S.2.1 i).2))) := by
          unfold C_forge
          rw [if_pos (cc_pt hi4), C_i_n (by omega)]
          dsimp only
          rw [if_neg (Int32.not_le.mpr c_25)]
        rw [e]
        refine ⟨_, rfl, ?_, hI15⟩
        show (va_up S.2.1 i (upd (S.2.1 i).1 3 ((S.2.1 i).1 3 + 1), (S.2.1 i).2) i).1 3 + 100 = _
        rw [va_up_self]
        rfl
      · refine cc_bipush (v := (-3)) dX3_forge_28 (by decide) ?_
        refine cc_iret rfl rfl dX3_forge_30 ?_
        have e : C_forge (nI i) (S, sn, hi, t) = ((-3), (S, sn, hi, t)) := by
          unfold C_forge
          rw [if_pos (cc_pt hi4), C_i_n (by omega)]
          dsimp only
          rw [if_pos (Int32.not_lt.mp c_25)]
        rw [e]
        exact ⟨_, rfl, rfl, hI⟩
    · exact absurd c_4 (by decide)
  · refine cc_iload_n (j := 1) dX3_forge_0 rfl rfl ?_
    refine cc_callSi (As := [.int x1]) (rest := []) (ct_X3_isPort cy z _ x1) ok_X3_isPort st_X3_isPort ml_X3_41 nd_X3_isPort (by decide +kernel) (Nat.le_of_ble_eq_true rfl) rfl dX3_forge_1 (fun r19 G18 q20 => ?_)
    obtain ⟨rfl, rfl⟩ := q20
    rw [if_neg hx]
    refine cc_if_ne (tgt := 9) dX3_forge_4 (by decide) (fun c_4_1 => ?_) (fun c_4_1 => ?_)
    · exact absurd c_4_1 (by decide)
    · refine cc_iconst (v := (-1)) dX3_forge_7 (by decide) ?_
      refine cc_iret rfl rfl dX3_forge_8 ?_
      have e : C_forge x1 (S, sn, hi, t) = ((-1), (S, sn, hi, t)) := by
        unfold C_forge
        
        rw [if_neg hx]
      rw [e]
      exact ⟨_, rfl, rfl, hI⟩

set_option maxHeartbeats 4000000 in
set_option maxRecDepth 100000 in
theorem ct_X3_repair (cy : Nat → ClassId) (z : Nat) (G : cc_G) (h : Nat) (c : CS_) (x1 : Int32)  (hI : ca_I cy G G h c) : cc_Cn cy Y_X3_repair [.ref h, .int x1] z G (cc_qi (fun r G' => r = (C_repair x1 c).1 ∧ ca_I cy G G' h (C_repair x1 c).2)) := by
  obtain ⟨S, sn, hi, t⟩ := c
  refine cc_enter ok_X3_repair (Nat.le_of_ble_eq_true rfl) (ls := [(0, .ref h), (1, .int x1)]) rfl ?_
  rcases cc_port x1 with ⟨i, hi4, rfl⟩ | hx
  · refine cc_iload_n (j := 1) dX3_repair_0 rfl rfl ?_
    refine cc_callSi (As := [.int (nI i)]) (rest := []) (ct_X3_isPort cy z _ (nI i)) ok_X3_isPort st_X3_isPort ml_X3_41 nd_X3_isPort (by decide +kernel) (Nat.le_of_ble_eq_true rfl) rfl dX3_repair_1 (fun r2 G1 q3 => ?_)
    obtain ⟨rfl, rfl⟩ := q3
    rw [if_pos (cc_pt hi4)]
    refine cc_if_ne (tgt := 9) dX3_repair_4 (by decide) (fun c_4 => ?_) (fun c_4 => ?_)
    · refine cc_aload_n (j := 0) dX3_repair_9 rfl rfl ?_
      obtain ⟨hs4, hO5⟩ := hI.obj
      refine cc_get (v := .ref (h + 1)) hO5 cc_c3 0 (by decide) fl_X3_10 rfl dX3_repair_10 ?_
      obtain ⟨_, hB6⟩ := hI.box0
      refine cc_getN (v := .ref (h + 1 + 1)) hB6.2.1 cc_c0 4 (by decide) fn_X3_49 rfl dX3_repair_13 ?_
      refine cc_iload_n (j := 1) dX3_repair_16 rfl rfl ?_
      refine cc_aald4 (x := h + 1 + 3 + 7 * i) hB6.2.2.1 (vp_in_nI (n := i) (by omega) (by decide)) (by rw [(nI_clamp (by omega))]; rfl) dX3_repair_17 ?_
      refine cc_astore_n (ls' := [(2, .ref (h + 1 + 3 + 7 * i)), (0, .ref h), (1, .int (nI i))]) dX3_repair_18 rfl (Nat.le_of_ble_eq_true rfl) rfl ?_
      refine cc_aload_n (j := 0) dX3_repair_19 rfl rfl ?_
      obtain ⟨fL, gL, hL, hfL, hgL, h8L, h6L⟩ := hB6.2.2.2.2.1 i hi4
      refine cc_callNi (As := []) (rest := []) (ct_X1_missing cy z _ _ _ _ _ _ _ hL) ok_X1_missing (hL.2.1) rfl im_X1_missing sl_X1_missing mn_X3_114 nd_X1_missing (by decide +kernel) (Nat.le_of_ble_eq_true rfl) rfl dX3_repair_20 (fun r8 G7 q9 => ?_)
      obtain ⟨hr, rfl⟩ := q9
      have hr : r8 = L_mis (S.2.1 i) := hr
      subst hr
      refine cc_istore_n (ls' := [(3, .int (L_mis (S.2.1 i))), (2, .ref (h + 1 + 3 + 7 * i)), (0, .ref h), (1, .int (nI i))]) dX3_repair_23 rfl (Nat.le_of_ble_eq_true rfl) rfl ?_
      refine cc_iload_n (j := 0) dX3_repair_24 rfl rfl ?_
      refine cc_if_ne (tgt := 31) dX3_repair_25 (by decide) (fun c_25 => ?_) (fun c_25 => ?_)
      · refine cc_aload_n (j := 2) dX3_repair_31 rfl rfl ?_
        obtain ⟨_, hOr⟩ := hI.obj
        refine cc_callVv (As := []) (rest := []) (ct_X3_remember cy z _ h _ hI.self) ok_X3_remember (hOr) rfl im_X3_remember sl_X3_remember ml_X3_61 nd_X3_remember (by decide +kernel) (Nat.le_of_ble_eq_true rfl) rfl dX3_repair_32 (fun G10 q12 => ?_)
        refine cc_aload_n (j := 1) dX3_repair_35 rfl rfl ?_
        obtain ⟨_, hB13⟩ := q12.box0
        obtain ⟨fL, gL, hL, hfL, hgL, h8L, h6L⟩ := hB13.2.2.2.2.1 i hi4
        refine cc_callNv (As := []) (rest := []) (ct_X1_mend cy z _ _ _ _ _ _ _ hL) ok_X1_mend (hL.2.1) rfl im_X1_mend sl_X1_mend mn_X3_117 nd_X1_mend (by decide +kernel) (Nat.le_of_ble_eq_true rfl) rfl dX3_repair_36 (fun G14 q16 => ?_)
        have hI17 := q12.box ⟨_, hB13.lane hi4 (L := L_mend (S.2.1 i)) ⟨_, _, q16, hfL, hgL, h8L, h6L⟩⟩
        refine cc_iload_n (j := 0) dX3_repair_39 rfl rfl ?_
        refine cc_bipush (v := 100) dX3_repair_40 (by decide) ?_
        refine cc_iadd dX3_repair_42 ?_
        refine cc_iret rfl rfl dX3_repair_43 ?_
        have e : C_repair (nI i) (S, sn, hi, t) = (L_mis (S.2.1 i) + 100, C_box (C_rem (S, sn, hi, t)) (S_lane S i (L_mend (S.2.1 i)))) := by
          unfold C_repair
          rw [if_pos (cc_pt hi4), C_i_n (by omega)]
          dsimp only
          rw [if_neg c_25]
        rw [e]
        exact ⟨_, rfl, rfl, hI17⟩
      · refine cc_bipush (v := (-5)) dX3_repair_28 (by decide) ?_
        refine cc_iret rfl rfl dX3_repair_30 ?_
        have e : C_repair (nI i) (S, sn, hi, t) = ((-5), (S, sn, hi, t)) := by
          unfold C_repair
          rw [if_pos (cc_pt hi4), C_i_n (by omega)]
          dsimp only
          rw [if_pos c_25]
        rw [e]
        exact ⟨_, rfl, rfl, hI⟩
    · exact absurd c_4 (by decide)
  · refine cc_iload_n (j := 1) dX3_repair_0 rfl rfl ?_
    refine cc_callSi (As := [.int x1]) (rest := []) (ct_X3_isPort cy z _ x1) ok_X3_isPort st_X3_isPort ml_X3_41 nd_X3_isPort (by decide +kernel) (Nat.le_of_ble_eq_true rfl) rfl dX3_repair_1 (fun r19 G18 q20 => ?_)
    obtain ⟨rfl, rfl⟩ := q20
    rw [if_neg hx]
    refine cc_if_ne (tgt := 9) dX3_repair_4 (by decide) (fun c_4_1 => ?_) (fun c_4_1 => ?_)
    · exact absurd c_4_1 (by decide)
    · refine cc_iconst (v := (-1)) dX3_repair_7 (by decide) ?_
      refine cc_iret rfl rfl dX3_repair_8 ?_
      have e : C_repair x1 (S, sn, hi, t) = ((-1), (S, sn, hi, t)) := by
        unfold C_repair
        
        rw [if_neg hx]
      rw [e]
      exact ⟨_, rfl, rfl, hI⟩

set_option maxHeartbeats 4000000 in
set_option maxRecDepth 100000 in
theorem ct_X3_pass (cy : Nat → ClassId) (z : Nat) (G : cc_G) (h : Nat) (c : CS_) (x1 : Int32) (M : Nat) (hM : M < 2 ^ 20) (hok : C_ok M c) (hI : ca_I cy G G h c) : cc_Cn cy Y_X3_pass [.ref h, .int x1] z G (cc_qi (fun r G' => r = (C_pass x1 c).1 ∧ ca_I cy G G' h (C_pass x1 c).2)) := by
  obtain ⟨S, sn, hi, t⟩ := c
  obtain ⟨T, hTk⟩ := hok.1
  have hTk : T ≤ 9999 ∧ B_ok T M S := hTk
  refine cc_enter ok_X3_pass (Nat.le_of_ble_eq_true rfl) (ls := [(0, .ref h), (1, .int x1)]) rfl ?_
  by_cases htc : 1 ≤ x1 ∧ x1 ≤ 50
  · obtain ⟨n, rfl, hn1, hn2⟩ := cc_ticks htc
    refine cc_iload_n (j := 1) dX3_pass_0 rfl rfl ?_
    refine cc_callSi (As := [.int (nI n)]) (rest := []) (ct_X3_isTickCount cy z _ _) ok_X3_isTickCount st_X3_isTickCount ml_X3_96 nd_X3_isTickCount (by decide +kernel) (Nat.le_of_ble_eq_true rfl) rfl dX3_pass_1 (fun r2 G1 q3 => ?_)
    obtain ⟨rfl, rfl⟩ := q3
    rw [if_pos htc]
    refine cc_if_ne (tgt := 10) dX3_pass_4 (by decide) (fun c_4 => ?_) (fun c_4 => ?_)
    · refine cc_aload_n (j := 0) dX3_pass_10 rfl rfl ?_
      obtain ⟨hs4, hO5⟩ := hI.obj
      refine cc_get (v := .ref (h + 1)) hO5 cc_c3 0 (by decide) fl_X3_10 rfl dX3_pass_11 ?_
      obtain ⟨_, hB6⟩ := hI.box0
      refine cc_getN (v := .int (S.1 0)) hB6.2.1 cc_c0 0 (by decide) fn_X3_99 rfl dX3_pass_14 ?_
      refine cc_iload_n (j := 1) dX3_pass_17 rfl rfl ?_
      refine cc_iadd dX3_pass_18 ?_
      refine cc_sipush (v := 9999) dX3_pass_19 (by decide) ?_
      refine cc_icmp_le (tgt := 28) dX3_pass_22 (by decide) (fun c_22 => ?_) (fun c_22 => ?_)
      · refine cc_aload_n (j := 0) dX3_pass_28 rfl rfl ?_
        obtain ⟨_, hOr⟩ := hI.obj
        refine cc_callVv (As := []) (rest := []) (ct_X3_remember cy z _ h _ hI.self) ok_X3_remember (hOr) rfl im_X3_remember sl_X3_remember ml_X3_61 nd_X3_remember (by decide +kernel) (Nat.le_of_ble_eq_true rfl) rfl dX3_pass_29 (fun G7 q9 => ?_)
        refine cc_aload_n (j := 0) dX3_pass_32 rfl rfl ?_
        obtain ⟨hs10, hO11⟩ := q9.obj
        refine cc_get (v := .ref (h + 1)) hO11 cc_c3 0 (by decide) fl_X3_10 rfl dX3_pass_33 ?_
        refine cc_iload_n (j := 1) dX3_pass_36 rfl rfl ?_
        obtain ⟨_, hB12⟩ := q9.box0
        refine cc_callNi (As := [.int (nI n)]) (rest := []) (ct_X0_passTicks cy z _ _ S n (by omega) (hTk.2.mids hM (by omega)) ⟨_, hB12⟩) ok_X0_passTicks (hB12.2.1) rfl im_X0_passTicks sl_X0_passTicks mn_X3_102 nd_X0_passTicks (by decide +kernel) (Nat.le_of_ble_eq_true rfl) rfl dX3_pass_37 (fun r14 G13 q15 => ?_)
        obtain ⟨rfl, q15⟩ := q15
        have hI16 := q9.box q15
        refine cc_iret rfl rfl dX3_pass_40 ?_
        have e : C_pass (nI n) (S, sn, hi, t) = (nI (B_pass n S).1, C_box (C_rem (S, sn, hi, t)) (B_pass n S).2) := by
          unfold C_pass
          rw [if_pos htc, C_i_n (by omega)]
          dsimp only
          rw [if_neg (Int32.not_lt.mpr c_22)]
        rw [e]
        exact ⟨_, rfl, rfl, hI16⟩
      · refine cc_bipush (v := (-4)) dX3_pass_25 (by decide) ?_
        refine cc_iret rfl rfl dX3_pass_27 ?_
        have e : C_pass (nI n) (S, sn, hi, t) = ((-4), (S, sn, hi, t)) := by
          unfold C_pass
          rw [if_pos htc, C_i_n (by omega)]
          dsimp only
          rw [if_pos (Int32.not_le.mp c_22)]
        rw [e]
        exact ⟨_, rfl, rfl, hI⟩
    · exact absurd c_4 (by decide)
  · refine cc_iload_n (j := 1) dX3_pass_0 rfl rfl ?_
    refine cc_callSi (As := [.int x1]) (rest := []) (ct_X3_isTickCount cy z _ _) ok_X3_isTickCount st_X3_isTickCount ml_X3_96 nd_X3_isTickCount (by decide +kernel) (Nat.le_of_ble_eq_true rfl) rfl dX3_pass_1 (fun r18 G17 q19 => ?_)
    obtain ⟨rfl, rfl⟩ := q19
    rw [if_neg htc]
    refine cc_if_ne (tgt := 10) dX3_pass_4 (by decide) (fun c_4_1 => ?_) (fun c_4_1 => ?_)
    · exact absurd c_4_1 (by decide)
    · refine cc_bipush (v := (-2)) dX3_pass_7 (by decide) ?_
      refine cc_iret rfl rfl dX3_pass_9 ?_
      have e : C_pass x1 (S, sn, hi, t) = ((-2), (S, sn, hi, t)) := by
        unfold C_pass
        
        rw [if_neg htc]
      rw [e]
      exact ⟨_, rfl, rfl, hI⟩
