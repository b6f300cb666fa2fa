def B_nx (S : St_) : Nat → Int32
  | 0 => (-5)
  | k + 1 => B_next S k

set_option maxHeartbeats 4000000 in
set_option maxRecDepth 100000 in
theorem ct_X3_next (cy : Nat → ClassId) (z : Nat) (G : cc_G) (h : Nat) (c : CS_) (x1 : Int32) (M : Nat) (hM : M < 2 ^ 20) (hok : C_ok M c) (hI : ca_I cy G G h c) : cc_Cn cy Y_X3_next [.ref h, .int x1] z G (cc_qi (fun r G' => r = C_next x1 c ∧ ca_I cy G G' h c)) := by
  obtain ⟨S, sn, hi, t⟩ := c
  obtain ⟨T, hTk⟩ := hok.1
  have hTk : T ≤ 9999 ∧ B_ok T M S := hTk
  have loop_32 : ∀ (i : Nat), i < 4 → ∀ (f k : Nat) (G1 : cc_G), i + 1 < k + f → k ≤ i + 1 → ca_I cy G G1 h (S, sn, hi, t) → bx_I cy G1 G1 (h + 32) (B_sends k (B_beg S, fun _ => 0)).2.2 (B_sends k (B_beg S, fun _ => 0)).2.1 → cc_R cy Y_X3_next z 32 [(3, .int (nI k)), (2, .int (B_nx S k)), (0, .ref h), (1, .int (nI i))] [] G1 (cc_qi (fun r G' => r = C_next (nI i) (S, sn, hi, t) ∧ ca_I cy G G' h (S, sn, hi, t))) := by
    intro i hi4
    intro f
    induction f with
    | zero => intro k G1 h1 h2; exact absurd h1 (by omega)
    | succ f ih =>
      intro k G1 hf hk hI hT
      have hm2 := B_mid.sends (X := (B_beg S, fun _ => 0)) ((hTk.2.beg (by omega)).mid hM) (fun _ _ => Or.inl rfl) k
      refine cc_iload_n (j := 0) dX3_next_32 rfl rfl ?_
      refine cc_iload_n (j := 3) dX3_next_33 rfl rfl ?_
      refine cc_icmp_gt (tgt := 52) dX3_next_34 (by decide) (fun c_34 => ?_) (fun c_34 => ?_)
      · have hge : k = i + 1 := by
          rcases Nat.lt_or_ge i k with q | q
          · omega
          · exact absurd c_34 (nI_nlt q (by omega))
        subst hge
        refine cc_iload_n (j := 1) dX3_next_52 rfl rfl ?_
        refine cc_iret rfl rfl dX3_next_53 ?_
        have e : C_next (nI i) (S, sn, hi, t) = B_next S i := by
          unfold C_next
          rw [if_pos (cc_pt hi4), C_i_n (by omega)]
          
        rw [e]
        exact ⟨_, rfl, rfl, hI⟩
      · have hk4 : k < 4 := by
          rcases Nat.lt_or_ge i k with q | q
          · exact absurd (nI_lt q (by omega)) c_34
          · omega
        have hki : k ≤ i := by
          rcases Nat.lt_or_ge i k with q | q
          · exact absurd (nI_lt q (by omega)) c_34
          · exact q
        refine cc_aload_n (j := 2) dX3_next_37 rfl rfl ?_
        obtain ⟨hs1, hO2⟩ := hI.obj
        refine cc_get (v := .ref (h + 32)) hO2 cc_c3 1 (by decide) fl_X3_16 rfl dX3_next_38 ?_
        refine cc_iload_n (j := 0) dX3_next_41 rfl rfl ?_
        refine cc_callNi (As := [.int (nI k)]) (rest := []) (ct_X0_sendTo cy z _ _ _ _ k (B_turn (B_sends k (B_beg S, fun _ => 0)).2.1 k) hk4 (hm2.1.turn hk4).1 (hm2.1.turn hk4).2 (hm2.1 k hk4).1 hm2.2 hT) ok_X0_sendTo (hT.2.1) rfl im_X0_sendTo sl_X0_sendTo mn_X3_149 nd_X0_sendTo (by decide +kernel) (Nat.le_of_ble_eq_true rfl) rfl dX3_next_42 (fun r4 G3 q5 => ?_)
        obtain ⟨hr, q5⟩ := q5
        have hr : r4 = B_nx S (k + 1) := hr
        subst hr
        have hI6 := hI.trialup ⟨_, q5⟩
        have hT7 := q5.self
        refine cc_istore_n (ls' := [(2, .int (B_nx S (k + 1))), (3, .int (nI k)), (0, .ref h), (1, .int (nI i))]) dX3_next_45 rfl (Nat.le_of_ble_eq_true rfl) rfl ?_
        refine cc_iinc (j := 1) (v := nI (k + 1)) (ls' := [(3, .int (nI (k + 1))), (2, .int (B_nx S (k + 1))), (0, .ref h), (1, .int (nI i))]) dX3_next_46 rfl (nI_1 k) (Nat.le_of_ble_eq_true rfl) rfl ?_
        refine cc_goto (tgt := 32) dX3_next_49 (by decide) ?_
        exact ih (k + 1) _ (by omega) (by omega) hI6 hT7
  refine cc_enter ok_X3_next (Nat.le_of_ble_eq_true rfl) (ls := [(0, .ref h), (1, .int x1)]) rfl ?_
  rcases cc_port x1 with ⟨i, hi4, rfl⟩ | hx
  · refine cc_iload_n (j := 1) dX3_next_0 rfl rfl ?_
    refine cc_callSi (As := [.int (nI i)]) (rest := []) (ct_X3_isPort cy z _ (nI i)) ok_X3_isPort st_X3_isPort ml_X3_41 nd_X3_isPort (by decide +kernel) (Nat.le_of_ble_eq_true rfl) rfl dX3_next_1 (fun r9 G8 q10 => ?_)
    obtain ⟨rfl, rfl⟩ := q10
    rw [if_pos (cc_pt hi4)]
    refine cc_if_ne (tgt := 9) dX3_next_4 (by decide) (fun c_4 => ?_) (fun c_4 => ?_)
    · refine cc_aload_n (j := 0) dX3_next_9 rfl rfl ?_
      obtain ⟨hs11, hO12⟩ := hI.obj
      refine cc_get (v := .ref (h + 32)) hO12 cc_c3 1 (by decide) fl_X3_16 rfl dX3_next_10 ?_
      refine cc_aload_n (j := 0) dX3_next_13 rfl rfl ?_
      refine cc_get (v := .ref (h + 1)) hO12 cc_c3 0 (by decide) fl_X3_10 rfl dX3_next_14 ?_
      obtain ⟨Tr, hTr⟩ := hI.trial
      refine cc_callNv (As := [.ref (h + 1)]) (rest := []) (ct_X0_copyFrom cy z _ _ _ _ _ (cb_ap h (k := 1) (j := 0) (by decide)) hI.box0 hTr) ok_X0_copyFrom (hTr.obj) rfl im_X0_copyFrom sl_X0_copyFrom mn_X3_89 nd_X0_copyFrom (by decide +kernel) (Nat.le_of_ble_eq_true rfl) rfl dX3_next_17 (fun G13 q15 => ?_)
      have hI16 := hI.trialup q15
      obtain ⟨hsT, hT17⟩ := q15.self
      refine cc_aload_n (j := 0) dX3_next_20 rfl rfl ?_
      obtain ⟨hs18, hO19⟩ := hI16.obj
      refine cc_get (v := .ref (h + 32)) hO19 cc_c3 1 (by decide) fl_X3_16 rfl dX3_next_21 ?_
      refine cc_callNv (As := []) (rest := []) (ct_X0_beginTick cy z _ _ _ S hT17) ok_X0_beginTick (hT17.2.1) rfl im_X0_beginTick sl_X0_beginTick mn_X3_146 nd_X0_beginTick (by decide +kernel) (Nat.le_of_ble_eq_true rfl) rfl dX3_next_24 (fun G20 q22 => ?_)
      have hI23 := hI16.trialup ⟨_, q22⟩
      have hT24 := q22.self
      refine cc_bipush (v := (-5)) dX3_next_27 (by decide) ?_
      refine cc_istore_n (ls' := [(2, .int (-5)), (0, .ref h), (1, .int (nI i))]) dX3_next_29 rfl (Nat.le_of_ble_eq_true rfl) rfl ?_
      refine cc_iconst (v := 0) dX3_next_30 (by decide) ?_
      refine cc_istore_n (ls' := [(3, .int 0), (2, .int (-5)), (0, .ref h), (1, .int (nI i))]) dX3_next_31 rfl (Nat.le_of_ble_eq_true rfl) rfl ?_
      exact loop_32 i hi4 (i + 2) 0 _ (by omega) (by omega) hI23 hT24
    · exact absurd c_4 (by decide)
  · refine cc_iload_n (j := 1) dX3_next_0 rfl rfl ?_
    refine cc_callSi (As := [.int x1]) (rest := []) (ct_X3_isPort cy z _ x1) ok_X3_isPort st_X3_isPort ml_X3_41 nd_X3_isPort (by decide +kernel) (Nat.le_of_ble_eq_true rfl) rfl dX3_next_1 (fun r26 G25 q27 => ?_)
    obtain ⟨rfl, rfl⟩ := q27
    rw [if_neg hx]
    refine cc_if_ne (tgt := 9) dX3_next_4 (by decide) (fun c_4_1 => ?_) (fun c_4_1 => ?_)
    · exact absurd c_4_1 (by decide)
    · refine cc_iconst (v := (-1)) dX3_next_7 (by decide) ?_
      refine cc_iret rfl rfl dX3_next_8 ?_
      have e : C_next x1 (S, sn, hi, t) = (-1) := by
        unfold C_next
        
        rw [if_neg hx]
      rw [e]
      exact ⟨_, rfl, rfl, hI⟩

set_option maxHeartbeats 4000000 in
set_option maxRecDepth 100000 in
theorem ct_X3_leavesIn (cy : Nat → ClassId) (z : Nat) (G : cc_G) (h : Nat) (c : CS_) (x1 x2 : Int32) (M : Nat) (hM : M < 2 ^ 20) (hok : C_ok M c) (hI : ca_I cy G G h c) : cc_Cn cy Y_X3_leavesIn [.ref h, .int x1, .int x2] z G (cc_qi (fun r G' => r = C_leavesIn x1 x2 c ∧ ca_I cy G G' h c)) := by
  obtain ⟨S, sn, hi, t⟩ := c
  obtain ⟨T, hTk⟩ := hok.1
  have hTk : T ≤ 9999 ∧ B_ok T M S := hTk
  have loop_61 : ∀ (i : Nat), i < 4 → ∀ (num : Int32) (f k : Nat) (G1 : cc_G), k + f = 200 → B_leaves i num S 200 0 = B_leaves i num S f k → ca_I cy G G1 h (S, sn, hi, t) → bx_E cy G1 G1 (h + 32) (B_pass k S).2 → cc_R cy Y_X3_leavesIn z 61 [(4, .int (nI (k + 1))), (3, .int num), (0, .ref h), (1, .int (nI i)), (2, .int x2)] [] G1 (cc_qi (fun r G' => r = (match B_leaves i num S 200 0 with | some k => nI k | none => (-5)) ∧ ca_I cy G G' h (S, sn, hi, t))) := by
    intro i hi4 num f
    induction f with
    | zero =>
      intro k G1 hk hL hI hT
      have hk : k = 200 := by omega
      subst hk
      refine cc_iload (j := 0) dX3_leavesIn_61 rfl ?_
      refine cc_sipush (v := 200) dX3_leavesIn_63 (by decide) ?_
      refine cc_icmp_gt (tgt := 102) dX3_leavesIn_66 (by decide) (fun c_66 => ?_) (fun c_66 => ?_)
      · refine cc_bipush (v := (-5)) dX3_leavesIn_102 (by decide) ?_
        refine cc_iret rfl rfl dX3_leavesIn_104 ?_
        rw [show B_leaves i num S 200 0 = none from hL]
        exact ⟨_, rfl, rfl, hI⟩
      · exact absurd (nI_lt (a := 200) (b := 201) (by decide) (by decide)) c_66
    | succ f ih =>
      intro k G1 hk hL hI hE
      refine cc_iload (j := 0) dX3_leavesIn_61 rfl ?_
      refine cc_sipush (v := 200) dX3_leavesIn_63 (by decide) ?_
      refine cc_icmp_gt (tgt := 102) dX3_leavesIn_66 (by decide) (fun c_66 => ?_) (fun c_66 => ?_)
      · exact absurd c_66 (nI_nlt (a := 200) (b := k + 1) (by omega) (by decide))
      · refine cc_aload_n (j := 2) dX3_leavesIn_69 rfl rfl ?_
        obtain ⟨hs1, hO2⟩ := hI.obj
        refine cc_get (v := .ref (h + 32)) hO2 cc_c3 1 (by decide) fl_X3_16 rfl dX3_leavesIn_70 ?_
        refine cc_callNi (As := []) (rest := []) (ct_X0_passTick cy z _ _ _ ((hTk.2.mids hM (n := 200) (by omega)) k (by omega)) hE) ok_X0_passTick (hE.obj) rfl im_X0_passTick sl_X0_passTick mn_X3_158 nd_X0_passTick (by decide +kernel) (Nat.le_of_ble_eq_true rfl) rfl dX3_leavesIn_73 (fun r4 G3 q5 => ?_)
        obtain ⟨rfl, q5⟩ := q5
        have hI6 := hI.trialup q5
        have hE2 : bx_E cy _ _ (h + 32) (B_pass (k + 1) S).2 := q5.self
        obtain ⟨hsT, hT7⟩ := hE2
        refine cc_pop dX3_leavesIn_76 rfl ?_
        refine cc_aload_n (j := 2) dX3_leavesIn_77 rfl rfl ?_
        obtain ⟨hs8, hO9⟩ := hI6.obj
        refine cc_get (v := .ref (h + 32)) hO9 cc_c3 1 (by decide) fl_X3_16 rfl dX3_leavesIn_78 ?_
        refine cc_getN (v := .ref (h + 32 + 2)) hT7.2.1 cc_c0 5 (by decide) fn_X3_136 rfl dX3_leavesIn_81 ?_
        refine cc_iload_n (j := 3) dX3_leavesIn_84 rfl rfl ?_
        refine cc_aald5 (x := h + 32 + 6 + 7 * i) hT7.2.2.2.1 (vp_in_nI (n := i) (by omega) (by decide)) (by rw [(nI_clamp (by omega))]; rfl) dX3_leavesIn_85 ?_
        refine cc_iload_n (j := 1) dX3_leavesIn_86 rfl rfl ?_
        obtain ⟨_, _, _, hLr, -⟩ := hT7.2.2.2.2.2 i hi4
        refine cc_callNi (As := [.int num]) (rest := []) (ct_X2_holds cy z _ _ ((B_pass (k + 1) S).2.2.2 i).1 ((B_pass (k + 1) S).2.2.2 i).2.1 _ ((B_pass (k + 1) S).2.2.2 i).2.2 num (hT7.2.2.2.2.2 i hi4)) ok_X2_holds (hLr.2.1) rfl im_X2_holds sl_X2_holds mn_X3_161 nd_X2_holds (by decide +kernel) (Nat.le_of_ble_eq_true rfl) rfl dX3_leavesIn_87 (fun r11 G10 q12 => ?_)
        obtain ⟨rfl, rfl⟩ := q12
        refine cc_if_ne (tgt := 96) dX3_leavesIn_90 (by decide) (fun c_90 => ?_) (fun c_90 => ?_)
        · refine cc_iinc (j := 0) (v := nI (k + 1 + 1)) (ls' := [(4, .int (nI (k + 1 + 1))), (3, .int num), (0, .ref h), (1, .int (nI i)), (2, .int x2)]) dX3_leavesIn_96 rfl (nI_1 _) (Nat.le_of_ble_eq_true rfl) rfl ?_
          refine cc_goto (tgt := 61) dX3_leavesIn_99 (by decide) ?_
          have hn : num ∈ ((B_pass (k + 1) S).2.2.2 i).2.2.map (fun p => p.1) := by
            by_cases q : num ∈ ((B_pass (k + 1) S).2.2.2 i).2.2.map (fun p => p.1)
            · exact q
            · rw [if_neg q] at c_90; exact absurd rfl c_90
          exact ih (k + 1) _ (by omega) (hL.trans (by conv => { lhs; unfold B_leaves; rw [if_pos hn] })) hI6 ⟨_, hT7⟩
        · refine cc_iload (j := 0) dX3_leavesIn_93 rfl ?_
          refine cc_iret rfl rfl dX3_leavesIn_95 ?_
          have hn : ¬ num ∈ ((B_pass (k + 1) S).2.2.2 i).2.2.map (fun p => p.1) := fun q => by rw [if_pos q] at c_90; exact absurd c_90 (by decide)
          have e : B_leaves i num S 200 0 = some (k + 1) := by rw [hL]; unfold B_leaves; rw [if_neg hn]
          rw [e]
          exact ⟨_, rfl, rfl, hI6⟩
  refine cc_enter ok_X3_leavesIn (Nat.le_of_ble_eq_true rfl) (ls := [(0, .ref h), (1, .int x1), (2, .int x2)]) rfl ?_
  rcases cc_port x1 with ⟨i, hi4, rfl⟩ | hx
  · refine cc_iload_n (j := 1) dX3_leavesIn_0 rfl rfl ?_
    refine cc_callSi (As := [.int (nI i)]) (rest := []) (ct_X3_isPort cy z _ (nI i)) ok_X3_isPort st_X3_isPort ml_X3_41 nd_X3_isPort (by decide +kernel) (Nat.le_of_ble_eq_true rfl) rfl dX3_leavesIn_1 (fun r14 G13 q15 => ?_)
    obtain ⟨rfl, rfl⟩ := q15
    rw [if_pos (cc_pt hi4)]
    refine cc_if_ne (tgt := 9) dX3_leavesIn_4 (by decide) (fun c_4 => ?_) (fun c_4 => ?_)
    · refine cc_iload_n (j := 2) dX3_leavesIn_9 rfl rfl ?_
      refine cc_if_lt (tgt := 29) dX3_leavesIn_10 (by decide) (fun c_10 => ?_) (fun c_10 => ?_)
      · refine cc_bipush (v := (-2)) dX3_leavesIn_29 (by decide) ?_
        refine cc_iret rfl rfl dX3_leavesIn_31 ?_
        have e : C_leavesIn (nI i) x2 (S, sn, hi, t) = (-2) := by
          unfold C_leavesIn
          rw [if_pos (cc_pt hi4), C_i_n (by omega)]
          dsimp only
          rw [if_pos (Or.inl c_10)]
        rw [e]
        exact ⟨_, rfl, rfl, hI⟩
      · have hx0 : ¬ x2 < 0 := c_10
        refine cc_iload_n (j := 2) dX3_leavesIn_13 rfl rfl ?_
        refine cc_aload_n (j := 0) dX3_leavesIn_14 rfl rfl ?_
        obtain ⟨hs16, hO17⟩ := hI.obj
        refine cc_get (v := .ref (h + 1)) hO17 cc_c3 0 (by decide) fl_X3_10 rfl dX3_leavesIn_15 ?_
        obtain ⟨_, hB18⟩ := hI.box0
        refine cc_getN (v := .ref (h + 1 + 2)) hB18.2.1 cc_c0 5 (by decide) fn_X3_136 rfl dX3_leavesIn_18 ?_
        refine cc_iload_n (j := 1) dX3_leavesIn_21 rfl rfl ?_
        refine cc_aald5 (x := h + 1 + 6 + 7 * i) hB18.2.2.2.1 (vp_in_nI (n := i) (by omega) (by decide)) (by rw [(nI_clamp (by omega))]; rfl) dX3_leavesIn_22 ?_
        obtain ⟨_, _, _, hLr19, -⟩ := hB18.2.2.2.2.2 i hi4
        refine cc_getN (v := .int (nI (S.2.2 i).2.2.length)) hLr19.2.1 cc_c2 3 (by decide) fn_X3_152 rfl dX3_leavesIn_23 ?_
        refine cc_icmp_lt (tgt := 32) dX3_leavesIn_26 (by decide) (fun c_26 => ?_) (fun c_26 => ?_)
        · have hxl : x2 < nI (S.2.2 i).2.2.length := c_26
          refine cc_aload_n (j := 0) dX3_leavesIn_32 rfl rfl ?_
          refine cc_get (v := .ref (h + 1)) hO17 cc_c3 0 (by decide) fl_X3_10 rfl dX3_leavesIn_33 ?_
          refine cc_getN (v := .ref (h + 1 + 2)) hB18.2.1 cc_c0 5 (by decide) fn_X3_136 rfl dX3_leavesIn_36 ?_
          refine cc_iload_n (j := 1) dX3_leavesIn_39 rfl rfl ?_
          refine cc_aald5 (x := h + 1 + 6 + 7 * i) hB18.2.2.2.1 (vp_in_nI (n := i) (by omega) (by decide)) (by rw [(nI_clamp (by omega))]; rfl) dX3_leavesIn_40 ?_
          obtain ⟨_, _, _, hLr20, -⟩ := hB18.2.2.2.2.2 i hi4
          refine cc_getN (v := .ref (h + 1 + 6 + 7 * i + 1)) hLr20.2.1 cc_c2 0 (by decide) fn_X3_155 rfl dX3_leavesIn_41 ?_
          obtain ⟨m1, m2, m3, hQ, hAq, h8q⟩ := hB18.2.2.2.2.2 i hi4
          refine cc_iload_n (j := 2) dX3_leavesIn_44 rfl rfl ?_
          refine cc_iald (x := m1 x2.toNatClampNeg) hQ.2.2.1 (cc_inl hx0 hxl (nI_le h8q (by decide))) rfl dX3_leavesIn_45 ?_
          rw [show m1 x2.toNatClampNeg = ((S.2.2 i).2.2.getD (C_i x2) (0, 0, 0)).1 from (qu_at hAq (cc_inn hx0 hxl (Nat.lt_of_le_of_lt h8q (by decide)))).1]
          refine cc_istore_n (ls' := [(3, .int (((S.2.2 i).2.2.getD (C_i x2) (0, 0, 0)).1)), (0, .ref h), (1, .int (nI i)), (2, .int x2)]) dX3_leavesIn_46 rfl (Nat.le_of_ble_eq_true rfl) rfl ?_
          refine cc_aload_n (j := 1) dX3_leavesIn_47 rfl rfl ?_
          refine cc_get (v := .ref (h + 32)) hO17 cc_c3 1 (by decide) fl_X3_16 rfl dX3_leavesIn_48 ?_
          refine cc_aload_n (j := 1) dX3_leavesIn_51 rfl rfl ?_
          refine cc_get (v := .ref (h + 1)) hO17 cc_c3 0 (by decide) fl_X3_10 rfl dX3_leavesIn_52 ?_
          obtain ⟨Tr, hTr⟩ := hI.trial
          refine cc_callNv (As := [.ref (h + 1)]) (rest := []) (ct_X0_copyFrom cy z _ _ _ _ _ (cb_ap h (k := 1) (j := 0) (by decide)) hI.box0 hTr) ok_X0_copyFrom (hTr.obj) rfl im_X0_copyFrom sl_X0_copyFrom mn_X3_89 nd_X0_copyFrom (by decide +kernel) (Nat.le_of_ble_eq_true rfl) rfl dX3_leavesIn_55 (fun G21 q23 => ?_)
          have hI24 := hI.trialup q23
          obtain ⟨hsT, hT25⟩ := q23.self
          refine cc_iconst (v := 1) dX3_leavesIn_58 (by decide) ?_
          refine cc_istore (ls' := [(4, .int 1), (3, .int (((S.2.2 i).2.2.getD (C_i x2) (0, 0, 0)).1)), (0, .ref h), (1, .int (nI i)), (2, .int x2)]) dX3_leavesIn_59 (Nat.le_of_ble_eq_true rfl) rfl ?_
          have e : C_leavesIn (nI i) x2 (S, sn, hi, t) = (match B_leaves i ((S.2.2 i).2.2.getD (C_i x2) (0, 0, 0)).1 S 200 0 with | some k => nI k | none => (-5)) := by
            unfold C_leavesIn
            rw [if_pos (cc_pt hi4), C_i_n (by omega)]
            dsimp only
            rw [if_neg (fun h => h.elim hx0 (fun q => absurd hxl (Int32.not_lt.mpr q)))]
            rfl
          rw [e]
          exact loop_61 i hi4 ((S.2.2 i).2.2.getD (C_i x2) (0, 0, 0)).1 200 0 _ (by omega) rfl hI24 ⟨_, hT25⟩
        · refine cc_bipush (v := (-2)) dX3_leavesIn_29 (by decide) ?_
          refine cc_iret rfl rfl dX3_leavesIn_31 ?_
          have e : C_leavesIn (nI i) x2 (S, sn, hi, t) = (-2) := by
            unfold C_leavesIn
            rw [if_pos (cc_pt hi4), C_i_n (by omega)]
            dsimp only
            rw [if_pos (Or.inr (Int32.not_lt.mp c_26))]
          rw [e]
          exact ⟨_, rfl, rfl, hI⟩
    · exact absurd c_4 (by decide)
  · refine cc_iload_n (j := 1) dX3_leavesIn_0 rfl rfl ?_
    refine cc_callSi (As := [.int x1]) (rest := []) (ct_X3_isPort cy z _ x1) ok_X3_isPort st_X3_isPort ml_X3_41 nd_X3_isPort (by decide +kernel) (Nat.le_of_ble_eq_true rfl) rfl dX3_leavesIn_1 (fun r27 G26 q28 => ?_)
    obtain ⟨rfl, rfl⟩ := q28
    rw [if_neg hx]
    refine cc_if_ne (tgt := 9) dX3_leavesIn_4 (by decide) (fun c_4_1 => ?_) (fun c_4_1 => ?_)
    · exact absurd c_4_1 (by decide)
    · refine cc_iconst (v := (-1)) dX3_leavesIn_7 (by decide) ?_
      refine cc_iret rfl rfl dX3_leavesIn_8 ?_
      have e : C_leavesIn x1 x2 (S, sn, hi, t) = (-1) := by
        unfold C_leavesIn
        
        rw [if_neg hx]
      rw [e]
      exact ⟨_, rfl, rfl, hI⟩

set_option maxHeartbeats 4000000 in
set_option maxRecDepth 100000 in
theorem ct_X3_wouldSend (cy : Nat → ClassId) (z : Nat) (G : cc_G) (h : Nat) (c : CS_) (x1 x2 : Int32) (M : Nat) (hM : M < 2 ^ 20) (hok : C_ok M c) (hI : ca_I cy G G h c) : cc_Cn cy Y_X3_wouldSend [.ref h, .int x1, .int x2] z G (cc_qi (fun r G' => r = C_wouldSend x1 x2 c ∧ ca_I cy G G' h c)) := by
  obtain ⟨S, sn, hi, t⟩ := c
  obtain ⟨T, hTk⟩ := hok.1
  have hTk : T ≤ 9999 ∧ B_ok T M S := hTk
  refine cc_enter ok_X3_wouldSend (Nat.le_of_ble_eq_true rfl) (ls := [(0, .ref h), (1, .int x1), (2, .int x2)]) rfl ?_
  by_cases htc : 1 ≤ x1 ∧ x1 ≤ 50
  · obtain ⟨n, rfl, hn1, hn2⟩ := cc_ticks htc
    refine cc_iload_n (j := 1) dX3_wouldSend_0 rfl rfl ?_
    refine cc_callSi (As := [.int (nI n)]) (rest := []) (ct_X3_isTickCount cy z _ _) ok_X3_isTickCount st_X3_isTickCount ml_X3_96 nd_X3_isTickCount (by decide +kernel) (Nat.le_of_ble_eq_true rfl) rfl dX3_wouldSend_1 (fun r2 G1 q3 => ?_)
    obtain ⟨rfl, rfl⟩ := q3
    rw [if_pos htc]
    refine cc_if_eq (tgt := 19) dX3_wouldSend_4 (by decide) (fun c_4 => ?_) (fun c_4 => ?_)
    · exact absurd c_4 (by decide)
    · refine cc_iload_n (j := 2) dX3_wouldSend_7 rfl rfl ?_
      refine cc_if_lt (tgt := 19) dX3_wouldSend_8 (by decide) (fun c_8 => ?_) (fun c_8 => ?_)
      · refine cc_bipush (v := (-2)) dX3_wouldSend_19 (by decide) ?_
        refine cc_iret rfl rfl dX3_wouldSend_21 ?_
        have e : C_wouldSend (nI n) x2 (S, sn, hi, t) = (-2) := by
          unfold C_wouldSend
          
          rw [if_neg (fun h => absurd c_8 (Int32.not_lt.mpr h.2.1))]
        rw [e]
        exact ⟨_, rfl, rfl, hI⟩
      · refine cc_iload_n (j := 2) dX3_wouldSend_11 rfl rfl ?_
        refine cc_iconst (v := 0) dX3_wouldSend_12 (by decide) ?_
        refine cc_callSi (As := [.int 0]) (rest := [.int x2]) (ct_X3_mostOfBox cy z _ 0) ok_X3_mostOfBox st_X3_mostOfBox ml_X3_68 nd_X3_mostOfBox (by decide +kernel) (Nat.le_of_ble_eq_true rfl) rfl dX3_wouldSend_13 (fun r5 G4 q6 => ?_)
        obtain ⟨hr, rfl⟩ := q6
        have hr : r5 = 1 := hr
        subst hr
        refine cc_icmp_le (tgt := 22) dX3_wouldSend_16 (by decide) (fun c_16 => ?_) (fun c_16 => ?_)
        · have hmd : B_ok T M (upd S.1 1 x2, S.2) := by
            refine ⟨hTk.2.1, ?_, hTk.2.2.2.1, hTk.2.2.2.2⟩
            show x2 = 0 ∨ x2 = 1
            obtain ⟨j, hj, rfl⟩ := nI_of c_8
            have := (nI_leI (b := 1) hj (by decide)).mp c_16
            rcases Nat.le_one_iff_eq_zero_or_eq_one.mp this with rfl | rfl
            · exact Or.inl rfl
            · exact Or.inr rfl
          refine cc_aload_n (j := 0) dX3_wouldSend_22 rfl rfl ?_
          obtain ⟨hs7, hO8⟩ := hI.obj
          refine cc_get (v := .ref (h + 32)) hO8 cc_c3 1 (by decide) fl_X3_16 rfl dX3_wouldSend_23 ?_
          refine cc_aload_n (j := 0) dX3_wouldSend_26 rfl rfl ?_
          refine cc_get (v := .ref (h + 1)) hO8 cc_c3 0 (by decide) fl_X3_10 rfl dX3_wouldSend_27 ?_
          obtain ⟨Tr, hTr⟩ := hI.trial
          refine cc_callNv (As := [.ref (h + 1)]) (rest := []) (ct_X0_copyFrom cy z _ _ _ _ _ (cb_ap h (k := 1) (j := 0) (by decide)) hI.box0 hTr) ok_X0_copyFrom (hTr.obj) rfl im_X0_copyFrom sl_X0_copyFrom mn_X3_89 nd_X0_copyFrom (by decide +kernel) (Nat.le_of_ble_eq_true rfl) rfl dX3_wouldSend_30 (fun G9 q11 => ?_)
          have hI12 := hI.trialup q11
          obtain ⟨hsT, hT13⟩ := q11.self
          refine cc_aload_n (j := 0) dX3_wouldSend_33 rfl rfl ?_
          obtain ⟨hs14, hO15⟩ := hI12.obj
          refine cc_get (v := .ref (h + 32)) hO15 cc_c3 1 (by decide) fl_X3_16 rfl dX3_wouldSend_34 ?_
          refine cc_iload_n (j := 2) dX3_wouldSend_37 rfl rfl ?_
          refine bx_rputN (g' := upd S.1 1 x2) hT13 1 (by decide) fn_X3_71 rfl rfl rfl dX3_wouldSend_38 (fun G17 hB16 => ?_)
          have hI18 := hI12.trialup ⟨_, hB16⟩
          have hB16 := hB16.self
          refine cc_aload_n (j := 0) dX3_wouldSend_41 rfl rfl ?_
          obtain ⟨hs19, hO20⟩ := hI18.obj
          refine cc_get (v := .ref (h + 32)) hO20 cc_c3 1 (by decide) fl_X3_16 rfl dX3_wouldSend_42 ?_
          refine cc_iload_n (j := 1) dX3_wouldSend_45 rfl rfl ?_
          refine cc_callNi (As := [.int (nI n)]) (rest := []) (ct_X0_passTicks cy z _ _ (upd S.1 1 x2, S.2) n (by omega) (hmd.mids hM (by omega)) ⟨_, hB16⟩) ok_X0_passTicks (hB16.2.1) rfl im_X0_passTicks sl_X0_passTicks mn_X3_102 nd_X0_passTicks (by decide +kernel) (Nat.le_of_ble_eq_true rfl) rfl dX3_wouldSend_46 (fun r22 G21 q23 => ?_)
          obtain ⟨rfl, q23⟩ := q23
          have hI24 := hI18.trialup q23
          refine cc_iret rfl rfl dX3_wouldSend_49 ?_
          have e : C_wouldSend (nI n) x2 (S, sn, hi, t) = nI (B_pass n (upd S.1 1 x2, S.2)).1 := by
            unfold C_wouldSend
            rw [if_pos ⟨htc, Int32.not_lt.mp c_8, c_16⟩, C_i_n (by omega)]
          rw [e]
          exact ⟨_, rfl, rfl, hI24⟩
        · refine cc_bipush (v := (-2)) dX3_wouldSend_19 (by decide) ?_
          refine cc_iret rfl rfl dX3_wouldSend_21 ?_
          have e : C_wouldSend (nI n) x2 (S, sn, hi, t) = (-2) := by
            unfold C_wouldSend
            
            rw [if_neg (fun h => c_16 h.2.2)]
          rw [e]
          exact ⟨_, rfl, rfl, hI⟩
  · refine cc_iload_n (j := 1) dX3_wouldSend_0 rfl rfl ?_
    refine cc_callSi (As := [.int x1]) (rest := []) (ct_X3_isTickCount cy z _ _) ok_X3_isTickCount st_X3_isTickCount ml_X3_96 nd_X3_isTickCount (by decide +kernel) (Nat.le_of_ble_eq_true rfl) rfl dX3_wouldSend_1 (fun r26 G25 q27 => ?_)
    obtain ⟨rfl, rfl⟩ := q27
    rw [if_neg htc]
    refine cc_if_eq (tgt := 19) dX3_wouldSend_4 (by decide) (fun c_4_1 => ?_) (fun c_4_1 => ?_)
    · refine cc_bipush (v := (-2)) dX3_wouldSend_19 (by decide) ?_
      refine cc_iret rfl rfl dX3_wouldSend_21 ?_
      have e : C_wouldSend x1 x2 (S, sn, hi, t) = (-2) := by
        unfold C_wouldSend
        
        rw [if_neg (fun h => htc h.1)]
      rw [e]
      exact ⟨_, rfl, rfl, hI⟩
    · exact absurd c_4_1 (by decide)
