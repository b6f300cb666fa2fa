set_option maxHeartbeats 4000000 in
set_option maxRecDepth 100000 in
theorem ct_X0_beginTick (cy : Nat → ClassId) (z : Nat) (G : cc_G) (b : Nat) (hs : Nat → Int32) (S : St_)  (hB : bx_I cy G G b hs S) : cc_Cn cy Y_X0_beginTick [.ref b] z G (cc_qv (fun G' => bx_I cy G G' b (fun _ => 0) (B_beg S))) := by
  
  have loop_27 : ∀ (n i : Nat) (mn : Int32) (G1 : cc_G), 4 < i + n → i ≤ 4 → ((mn = 1 ∧ (0 < S.1 2 ∧ cc_rm (S.1 0) (S.1 2) = 0)) ∨ (mn = 0 ∧ ¬ (0 < S.1 2 ∧ cc_rm (S.1 0) (S.1 2) = 0))) → bx_I cy G G1 b (B_mapI i (fun _ _ => 0) hs) (S.1, B_mapI i (fun _ L => B_begF S L) S.2.1, S.2.2) → cc_R cy Y_X0_beginTick z 27 [(2, .int (nI i)), (1, .int mn), (0, .ref b)] [] G1 (cc_qv (fun G' => bx_I cy G G' b (fun _ => 0) (B_beg S))) := by
    intro n
    induction n with
    | zero => intro i mn G1 h1 h2; exact absurd h1 (by omega)
    | succ n ih =>
      intro i mn G1 hn hi hmn hB
      refine cc_iload_n (j := 0) dX0_beginTick_27 rfl rfl ?_
      refine cc_iconst (v := 4) dX0_beginTick_28 (by decide) ?_
      refine cc_icmp_ge (tgt := 74) dX0_beginTick_29 (by decide) (fun c_29 => ?_) (fun c_29 => ?_)
      · have hge : i = 4 := by have := cc_ngt 4 c_29 (by omega) (by decide); omega
        subst hge
        refine cc_vret rfl dX0_beginTick_74 ?_
        exact ⟨rfl, hB.to (fun _ _ => rfl) (fun _ _ => rfl) (fun _ _ => rfl) (fun j hj => B_mapI_in hj)⟩
      · have hlt : i < 4 := cc_nlt 4 c_29 (by omega)
        refine cc_aload_n (j := 2) dX0_beginTick_32 rfl rfl ?_
        refine cc_get (v := .ref (b + 2)) hB.2.1 cc_c0 5 (by decide) fl_X0_32 rfl dX0_beginTick_33 ?_
        refine cc_iload_n (j := 0) dX0_beginTick_36 rfl rfl ?_
        refine cc_aald5 (x := b + 6 + 7 * i) hB.2.2.2.1 (vp_in_nI (n := i) (by omega) (by decide)) (by rw [(nI_clamp (by omega))]; rfl) dX0_beginTick_37 ?_
        refine cc_iconst (v := 0) dX0_beginTick_38 (by decide) ?_
        refine bx_rsent hB hlt fn_X0_74 dX0_beginTick_39 (fun G2 hB1 => ?_)
        have hB3 : bx_I cy G G2 b (B_mapI (i + 1) (fun _ _ => 0) hs) (S.1, B_mapI i (fun _ L => B_begF S L) S.2.1, S.2.2) := by
          rw [← B_mapI_s]; exact hB1
        refine cc_aload_n (j := 2) dX0_beginTick_42 rfl rfl ?_
        refine cc_get (v := .ref (b + 1)) hB3.2.1 cc_c0 4 (by decide) fl_X0_26 rfl dX0_beginTick_43 ?_
        refine cc_iload_n (j := 0) dX0_beginTick_46 rfl rfl ?_
        refine cc_aald4 (x := b + 3 + 7 * i) hB3.2.2.1 (vp_in_nI (n := i) (by omega) (by decide)) (by rw [(nI_clamp (by omega))]; rfl) dX0_beginTick_47 ?_
        refine cc_aload_n (j := 2) dX0_beginTick_48 rfl rfl ?_
        refine cc_get (v := .int (S.1 0)) hB3.2.1 cc_c0 0 (by decide) fl_X0_9 rfl dX0_beginTick_49 ?_
        obtain ⟨_, _, hLr, -⟩ := bx_lane_at hB3 hlt
        refine cc_callNv (As := [.int (S.1 0)]) (rest := []) (ct_X1_letCreditsCome cy z _ _ (S.2.1 i).1 (S.2.1 i).2.1 (S.2.1 i).2.2 _ (bx_lane_at hB3 hlt)) ok_X1_letCreditsCome (hLr.2.1) rfl im_X1_letCreditsCome sl_X1_letCreditsCome mn_X0_78 nd_X1_letCreditsCome (by decide +kernel) (Nat.le_of_ble_eq_true rfl) rfl dX0_beginTick_52 (fun G4 q6 => ?_)
        have q6 : ln_I cy _ G4 (b + 3 + 7 * i) (L_come (S.1 0) (S.2.1 i)) := q6
        have hB7 := hB3.lane hlt q6
        refine cc_iload_n (j := 1) dX0_beginTick_55 rfl rfl ?_
        refine cc_if_eq (tgt := 68) dX0_beginTick_56 (by decide) (fun c_56 => ?_) (fun c_56 => ?_)
        · refine cc_iinc (j := 0) (v := nI (i + 1)) (ls' := [(2, .int (nI (i + 1))), (1, .int mn), (0, .ref b)]) dX0_beginTick_68 rfl (nI_1 i) (Nat.le_of_ble_eq_true rfl) rfl ?_
          refine cc_goto (tgt := 27) dX0_beginTick_71 (by decide) ?_
          have hC : ¬ (0 < S.1 2 ∧ cc_rm (S.1 0) (S.1 2) = 0) := by
            rcases hmn with h | h
            · exact absurd (h.1.symm.trans c_56) (by decide)
            · exact h.2
          exact ih (i + 1) mn _ (by omega) (by omega) hmn (bx_lane_up hB3 hlt (by show ln_I cy _ _ _ (B_begF S (S.2.1 i)); unfold B_begF; rw [if_neg hC]; exact q6))
        · refine cc_aload_n (j := 2) dX0_beginTick_59 rfl rfl ?_
          refine cc_get (v := .ref (b + 1)) hB7.2.1 cc_c0 4 (by decide) fl_X0_26 rfl dX0_beginTick_60 ?_
          refine cc_iload_n (j := 0) dX0_beginTick_63 rfl rfl ?_
          refine cc_aald4 (x := b + 3 + 7 * i) hB7.2.2.1 (vp_in_nI (n := i) (by omega) (by decide)) (by rw [(nI_clamp (by omega))]; rfl) dX0_beginTick_64 ?_
          obtain ⟨_, _, hL2, hf2, hg2, h82, h62⟩ := q6.self
          refine cc_callNv (As := []) (rest := []) (ct_X1_mend cy z _ _ _ _ _ _ _ hL2) ok_X1_mend (hL2.2.1) rfl im_X1_mend sl_X1_mend mn_X0_81 nd_X1_mend (by decide +kernel) (Nat.le_of_ble_eq_true rfl) rfl dX0_beginTick_65 (fun G8 q10 => ?_)
          have q10 : ln_I cy _ G8 (b + 3 + 7 * i) (L_mend (L_come (S.1 0) (S.2.1 i))) := q6.tr ⟨_, _, q10, hf2, hg2, h82, h62⟩
          have hB11 := hB3.lane hlt q10
          refine cc_iinc (j := 0) (v := nI (i + 1)) (ls' := [(2, .int (nI (i + 1))), (1, .int mn), (0, .ref b)]) dX0_beginTick_68 rfl (nI_1 i) (Nat.le_of_ble_eq_true rfl) rfl ?_
          refine cc_goto (tgt := 27) dX0_beginTick_71 (by decide) ?_
          have hC : 0 < S.1 2 ∧ cc_rm (S.1 0) (S.1 2) = 0 := by
            rcases hmn with h | h
            · exact h.2
            · exact absurd h.1 c_56
          exact ih (i + 1) mn _ (by omega) (by omega) hmn (bx_lane_up hB3 hlt (by show ln_I cy _ _ _ (B_begF S (S.2.1 i)); unfold B_begF; rw [if_pos hC]; exact q10))
  refine cc_enter ok_X0_beginTick (Nat.le_of_ble_eq_true rfl) (ls := [(0, .ref b)]) rfl ?_
  refine cc_aload_n (j := 0) dX0_beginTick_0 rfl rfl ?_
  refine cc_get (v := .int (S.1 2)) hB.2.1 cc_c0 2 (by decide) fl_X0_18 rfl dX0_beginTick_1 ?_
  refine cc_if_le (tgt := 23) dX0_beginTick_4 (by decide) (fun c_4 => ?_) (fun c_4 => ?_)
  · refine cc_iconst (v := 0) dX0_beginTick_23 (by decide) ?_
    refine cc_istore_n (ls' := [(1, .int 0), (0, .ref b)]) dX0_beginTick_24 rfl (Nat.le_of_ble_eq_true rfl) rfl ?_
    refine cc_iconst (v := 0) dX0_beginTick_25 (by decide) ?_
    refine cc_istore_n (ls' := [(2, .int 0), (1, .int 0), (0, .ref b)]) dX0_beginTick_26 rfl (Nat.le_of_ble_eq_true rfl) rfl ?_
    exact loop_27 5 0 0 _ (by omega) (by omega) (Or.inr ⟨rfl, fun q => absurd q.1 (Int32.not_lt.mpr c_4)⟩) (by rw [B_mapI_0, B_mapI_0]; exact hB)
  · refine cc_aload_n (j := 0) dX0_beginTick_7 rfl rfl ?_
    refine cc_get (v := .int (S.1 0)) hB.2.1 cc_c0 0 (by decide) fl_X0_9 rfl dX0_beginTick_8 ?_
    refine cc_aload_n (j := 0) dX0_beginTick_11 rfl rfl ?_
    refine cc_get (v := .int (S.1 2)) hB.2.1 cc_c0 2 (by decide) fl_X0_18 rfl dX0_beginTick_12 ?_
    refine cc_irem dX0_beginTick_15 (fun q => c_4 (by rw [q]; decide)) ?_
    refine cc_if_ne (tgt := 23) dX0_beginTick_16 (by decide) (fun c_16 => ?_) (fun c_16 => ?_)
    · refine cc_iconst (v := 0) dX0_beginTick_23 (by decide) ?_
      refine cc_istore_n (ls' := [(1, .int 0), (0, .ref b)]) dX0_beginTick_24 rfl (Nat.le_of_ble_eq_true rfl) rfl ?_
      refine cc_iconst (v := 0) dX0_beginTick_25 (by decide) ?_
      refine cc_istore_n (ls' := [(2, .int 0), (1, .int 0), (0, .ref b)]) dX0_beginTick_26 rfl (Nat.le_of_ble_eq_true rfl) rfl ?_
      exact loop_27 5 0 0 _ (by omega) (by omega) (Or.inr ⟨rfl, fun q => c_16 q.2⟩) (by rw [B_mapI_0, B_mapI_0]; exact hB)
    · refine cc_iconst (v := 1) dX0_beginTick_19 (by decide) ?_
      refine cc_goto (tgt := 24) dX0_beginTick_20 (by decide) ?_
      refine cc_istore_n (ls' := [(1, .int 1), (0, .ref b)]) dX0_beginTick_24 rfl (Nat.le_of_ble_eq_true rfl) rfl ?_
      refine cc_iconst (v := 0) dX0_beginTick_25 (by decide) ?_
      refine cc_istore_n (ls' := [(2, .int 0), (1, .int 1), (0, .ref b)]) dX0_beginTick_26 rfl (Nat.le_of_ble_eq_true rfl) rfl ?_
      exact loop_27 5 0 1 _ (by omega) (by omega) (Or.inl ⟨rfl, Int32.not_le.mp c_4, by simpa using c_16⟩) (by rw [B_mapI_0, B_mapI_0]; exact hB)

set_option maxHeartbeats 4000000 in
set_option maxRecDepth 100000 in
theorem ct_X0_sendTo (cy : Nat → ClassId) (z : Nat) (G : cc_G) (b : Nat) (hs : Nat → Int32) (S : St_) (o t : Nat) (ho : o < 4) (ht : (S.2.1 o).1 4 = nI t) (ht4 : t < 4) (hch : (S.2.1 o).1 0 ≤ 8) (hhs : ∀ j, j < 4 → hs j = 0 ∨ hs j = 1) (hB : bx_I cy G G b hs S) : cc_Cn cy Y_X0_sendTo [.ref b, .int (nI o)] z G (cc_qi (fun r G' => r = (match (B_send o t (S, hs)).1 with | some n => n | none => (-5)) ∧ bx_I cy G G' b (B_send o t (S, hs)).2.2 (B_send o t (S, hs)).2.1)) := by
  
  have loop_19 : 0 < (S.2.1 o).1 3 → ∀ (n s : Nat), s + n = 4 → B_try (nI o) (S.1 1) S.2.2 hs t 4 0 = B_try (nI o) (S.1 1) S.2.2 hs t n s → cc_R cy Y_X0_sendTo z 19 [(3, .int (nI s)), (2, .ref (b + 3 + 7 * o)), (0, .ref b), (1, .int (nI o))] [] G (cc_qi (fun r G' => r = (match (B_send o t (S, hs)).1 with | some n => n | none => (-5)) ∧ bx_I cy G G' b (B_send o t (S, hs)).2.2 (B_send o t (S, hs)).2.1)) := by
    intro hcr
    intro n
    induction n with
    | zero =>
      intro s hsn hT
      have hs4 : s = 4 := by omega
      subst hs4
      have hT : B_try (nI o) (S.1 1) S.2.2 hs t 4 0 = none := hT
      refine cc_iload_n (j := 0) dX0_sendTo_19 rfl rfl ?_
      refine cc_iconst (v := 4) dX0_sendTo_20 (by decide) ?_
      refine cc_icmp_ge (tgt := 96) dX0_sendTo_21 (by decide) (fun c_21 => ?_) (fun c_21 => ?_)
      · refine cc_bipush (v := (-5)) dX0_sendTo_96 (by decide) ?_
        refine cc_iret rfl rfl dX0_sendTo_98 ?_
        have hS : B_send o t (S, hs) = (none, S, hs) := by
          unfold B_send; rw [if_neg (Int32.not_le.mpr hcr), hT]
        rw [hS]
        exact ⟨_, rfl, rfl, hB⟩
      · exact absurd (by decide) c_21
    | succ n ih =>
      intro s hsn hT
      have hj : (t + s) % 4 < 4 := Nat.mod_lt _ (by decide)
      refine cc_iload_n (j := 0) dX0_sendTo_19 rfl rfl ?_
      refine cc_iconst (v := 4) dX0_sendTo_20 (by decide) ?_
      refine cc_icmp_ge (tgt := 96) dX0_sendTo_21 (by decide) (fun c_21 => ?_) (fun c_21 => ?_)
      · exact absurd (cc_ngt 4 c_21 (by omega) (by decide)) (by omega)
      · refine cc_aload_n (j := 1) dX0_sendTo_24 rfl rfl ?_
        obtain ⟨_, _, hLr1, -⟩ := hB.2.2.2.2.1 o ho
        refine cc_getN (v := .int ((S.2.1 o).1 4)) hLr1.2.1 cc_c1 4 (by decide) fn_X0_87 rfl dX0_sendTo_25 ?_
        refine cc_iload_n (j := 0) dX0_sendTo_28 rfl rfl ?_
        refine cc_iadd dX0_sendTo_29 ?_
        rw [show ((S.2.1 o).1 4) + (nI s) = nI (t + s) from (by rw [ht]; exact nI_add _ _)]
        refine cc_iconst (v := 4) dX0_sendTo_30 (by decide) ?_
        refine cc_irem dX0_sendTo_31 (by decide) ?_
        rw [show cc_rm (nI (t + s)) 4 = nI ((t + s) % 4) from cc_rm4 (by omega)]
        refine cc_istore (ls' := [(4, .int (nI ((t + s) % 4))), (3, .int (nI s)), (2, .ref (b + 3 + 7 * o)), (0, .ref b), (1, .int (nI o))]) dX0_sendTo_32 (Nat.le_of_ble_eq_true rfl) rfl ?_
        refine cc_aload_n (j := 3) dX0_sendTo_34 rfl rfl ?_
        refine cc_get (v := .ref (b + 2)) hB.2.1 cc_c0 5 (by decide) fl_X0_32 rfl dX0_sendTo_35 ?_
        refine cc_iload (j := 0) dX0_sendTo_38 rfl ?_
        refine cc_aald5 (x := b + 6 + 7 * ((t + s) % 4)) hB.2.2.2.1 (vp_in_nI (n := ((t + s) % 4)) (by omega) (by decide)) (by rw [(nI_clamp (by omega))]; rfl) dX0_sendTo_40 ?_
        rcases hhs ((t + s) % 4) hj with h0 | h0
        · refine cc_iload_n (j := 4) dX0_sendTo_41 rfl rfl ?_
          refine cc_aload_n (j := 3) dX0_sendTo_42 rfl rfl ?_
          refine cc_get (v := .int (S.1 1)) hB.2.1 cc_c0 1 (by decide) fl_X0_15 rfl dX0_sendTo_43 ?_
          rcases hqo : Q_off (nI o) (S.1 1) (S.2.2 ((t + s) % 4)).2.2 with _ | k0
          · obtain ⟨_, _, _, hLr, -, hl8hLr⟩ := hB.2.2.2.2.2 ((t + s) % 4) hj
            refine cc_callNi (As := [.int (nI o), .int (S.1 1)]) (rest := []) (ct_X2_offerFor cy z _ _ (S.2.2 ((t + s) % 4)).1 (S.2.2 ((t + s) % 4)).2.1 _ (S.2.2 ((t + s) % 4)).2.2 _ _ h0 (hB.2.2.2.2.2 ((t + s) % 4) hj)) ok_X2_offerFor (hLr.2.1) rfl im_X2_offerFor sl_X2_offerFor mn_X0_90 nd_X2_offerFor (by decide +kernel) (Nat.le_of_ble_eq_true rfl) rfl dX0_sendTo_46 (fun r3 G2 q4 => ?_)
            obtain ⟨hr, rfl⟩ := q4
            rw [hqo] at hr
            have hr : r3 = (-1) := hr
            subst hr
            refine cc_istore (ls' := [(5, .int (-1)), (4, .int (nI ((t + s) % 4))), (3, .int (nI s)), (2, .ref (b + 3 + 7 * o)), (0, .ref b), (1, .int (nI o))]) dX0_sendTo_49 (Nat.le_of_ble_eq_true rfl) rfl ?_
            refine cc_iload (j := 0) dX0_sendTo_51 rfl ?_
            refine cc_iconst (v := (-1)) dX0_sendTo_53 (by decide) ?_
            refine cc_icmp_eq (tgt := 90) dX0_sendTo_54 (by decide) (fun c_54 => ?_) (fun c_54 => ?_)
            · refine cc_iinc (j := 2) (v := nI (s + 1)) (ls' := [(3, .int (nI (s + 1))), (5, .int (-1)), (4, .int (nI ((t + s) % 4))), (2, .ref (b + 3 + 7 * o)), (0, .ref b), (1, .int (nI o))]) dX0_sendTo_90 rfl (nI_1 s) (Nat.le_of_ble_eq_true rfl) rfl ?_
              refine cc_goto (tgt := 19) dX0_sendTo_93 (by decide) ?_
              refine cc_loc (ls' := [(3, .int (nI (s + 1))), (2, .ref (b + 3 + 7 * o)), (0, .ref b), (1, .int (nI o))]) [0, 3, 4, 5] rfl ?_
              exact ih (s + 1) (by omega) (hT.trans (by conv => { lhs; unfold B_try; rw [if_pos h0, hqo] }))
            · exact absurd c_54 (by decide)
          · obtain ⟨_, _, _, hLr, -, hl8hLr⟩ := hB.2.2.2.2.2 ((t + s) % 4) hj
            refine cc_callNi (As := [.int (nI o), .int (S.1 1)]) (rest := []) (ct_X2_offerFor cy z _ _ (S.2.2 ((t + s) % 4)).1 (S.2.2 ((t + s) % 4)).2.1 _ (S.2.2 ((t + s) % 4)).2.2 _ _ h0 (hB.2.2.2.2.2 ((t + s) % 4) hj)) ok_X2_offerFor (hLr.2.1) rfl im_X2_offerFor sl_X2_offerFor mn_X0_90 nd_X2_offerFor (by decide +kernel) (Nat.le_of_ble_eq_true rfl) rfl dX0_sendTo_46 (fun r6 G5 q7 => ?_)
            obtain ⟨hr, rfl⟩ := q7
            rw [hqo] at hr
            have hr : r6 = nI k0 := hr
            subst hr
            have hk0 := (Q_off_lt hqo).1
            refine cc_istore (ls' := [(5, .int (nI k0)), (4, .int (nI ((t + s) % 4))), (3, .int (nI s)), (2, .ref (b + 3 + 7 * o)), (0, .ref b), (1, .int (nI o))]) dX0_sendTo_49 (Nat.le_of_ble_eq_true rfl) rfl ?_
            refine cc_iload (j := 0) dX0_sendTo_51 rfl ?_
            refine cc_iconst (v := (-1)) dX0_sendTo_53 (by decide) ?_
            refine cc_icmp_eq (tgt := 90) dX0_sendTo_54 (by decide) (fun c_54_1 => ?_) (fun c_54_1 => ?_)
            · exact False.elim (nI_pos (n := k0) (by omega) (by rw [c_54_1]; decide))
            · refine cc_aload_n (j := 4) dX0_sendTo_57 rfl rfl ?_
              refine cc_get (v := .ref (b + 2)) hB.2.1 cc_c0 5 (by decide) fl_X0_32 rfl dX0_sendTo_58 ?_
              refine cc_iload (j := 1) dX0_sendTo_61 rfl ?_
              refine cc_aald5 (x := b + 6 + 7 * ((t + s) % 4)) hB.2.2.2.1 (vp_in_nI (n := ((t + s) % 4)) (by omega) (by decide)) (by rw [(nI_clamp (by omega))]; rfl) dX0_sendTo_63 ?_
              refine cc_iload (j := 0) dX0_sendTo_64 rfl ?_
              obtain ⟨_, _, _, hLr2, -, hl8hLr2⟩ := hB.2.2.2.2.2 ((t + s) % 4) hj
              refine cc_callNi (As := [.int (nI k0)]) (rest := []) (ct_X2_sendFrom cy z _ _ (S.2.2 ((t + s) % 4)).1 (S.2.2 ((t + s) % 4)).2.1 _ (S.2.2 ((t + s) % 4)).2.2 k0 hk0 (hB.2.2.2.2.2 ((t + s) % 4) hj)) ok_X2_sendFrom (hLr2.2.1) rfl im_X2_sendFrom sl_X2_sendFrom mn_X0_94 nd_X2_sendFrom (by decide +kernel) (Nat.le_of_ble_eq_true rfl) rfl dX0_sendTo_66 (fun r9 G8 q10 => ?_)
              obtain ⟨hr2, hq2⟩ := q10
              subst hr2
              have hB11 := hB.queue hj hq2
              refine cc_istore (ls' := [(6, .int (((S.2.2 ((t + s) % 4)).2.2.getD k0 (0, 0, 0)).1)), (5, .int (nI k0)), (4, .int (nI ((t + s) % 4))), (3, .int (nI s)), (2, .ref (b + 3 + 7 * o)), (0, .ref b), (1, .int (nI o))]) dX0_sendTo_69 (Nat.le_of_ble_eq_true rfl) rfl ?_
              refine cc_aload_n (j := 4) dX0_sendTo_71 rfl rfl ?_
              refine cc_iload (j := 0) dX0_sendTo_72 rfl ?_
              obtain ⟨_, _, hLr3, -⟩ := hB11.2.2.2.2.1 o ho
              refine cc_callNv (As := [.int (((S.2.2 ((t + s) % 4)).2.2.getD k0 (0, 0, 0)).1)]) (rest := []) (ct_X1_receive cy z _ _ (S.2.1 o).1 (S.2.1 o).2.1 (S.2.1 o).2.2 (((S.2.2 ((t + s) % 4)).2.2.getD k0 (0, 0, 0)).1) hch (hB11.2.2.2.2.1 o ho)) ok_X1_receive (hLr3.2.1) rfl im_X1_receive sl_X1_receive mn_X0_97 nd_X1_receive (by decide +kernel) (Nat.le_of_ble_eq_true rfl) rfl dX0_sendTo_74 (fun G12 q14 => ?_)
              have hB15 := hB11.lane ho q14
              refine cc_aload_n (j := 4) dX0_sendTo_77 rfl rfl ?_
              refine cc_iload (j := 2) dX0_sendTo_78 rfl ?_
              refine cc_iconst (v := 1) dX0_sendTo_80 (by decide) ?_
              refine cc_iadd dX0_sendTo_81 ?_
              rw [show (nI ((t + s) % 4)) + 1 = nI (((t + s) % 4) + 1) from nI_1 _]
              refine cc_iconst (v := 4) dX0_sendTo_82 (by decide) ?_
              refine cc_irem dX0_sendTo_83 (by decide) ?_
              rw [show cc_rm (nI (((t + s) % 4) + 1)) 4 = nI ((((t + s) % 4) + 1) % 4) from cc_rm4 (by omega)]
              refine bx_rlane hB15 ho 4 (by decide) fn_X0_87 rfl rfl (fun _ _ _ _ => rfl) dX0_sendTo_84 (fun G17 hB16 => ?_)
              refine cc_iload (j := 0) dX0_sendTo_87 rfl ?_
              refine cc_iret rfl rfl dX0_sendTo_89 ?_
              have hok := Q_off_lt hqo
              have hT2 : B_try (nI o) (S.1 1) S.2.2 hs t 4 0 = some (((t + s) % 4), k0) := by
                rw [hT]; unfold B_try; rw [if_pos h0, hqo]
              have hS : B_send o t (S, hs) = (some ((S.2.2 ((t + s) % 4)).2.2.getD k0 (0, 0, 0)).1, B_put o ((t + s) % 4) k0 (S, hs)) := by
                unfold B_send; rw [if_neg (Int32.not_le.mpr hcr), hT2]
              rw [hS]
              refine ⟨_, rfl, rfl, hB16.to (fun _ _ => rfl) (fun j hj => ?_) (fun _ _ => rfl) (fun _ _ => rfl)⟩
              show va_up (va_up S.2.1 o _) o (upd (va_up S.2.1 o _ o).1 4 _, (va_up S.2.1 o _ o).2) j = va_up S.2.1 o _ j
              rw [va_up_self]
              by_cases hq : j = o
              · subst hq; rw [va_up_self, va_up_self]
              · rw [va_up_ne _ _ hq, va_up_ne _ _ hq, va_up_ne _ _ hq]
        · refine cc_iload_n (j := 4) dX0_sendTo_41 rfl rfl ?_
          refine cc_aload_n (j := 3) dX0_sendTo_42 rfl rfl ?_
          refine cc_get (v := .int (S.1 1)) hB.2.1 cc_c0 1 (by decide) fl_X0_15 rfl dX0_sendTo_43 ?_
          obtain ⟨_, _, _, hLr, -, hl8hLr⟩ := hB.2.2.2.2.2 ((t + s) % 4) hj
          refine cc_callNi (As := [.int (nI o), .int (S.1 1)]) (rest := []) (ct_X2_offerFor_sent cy z _ _ (S.2.2 ((t + s) % 4)).1 (S.2.2 ((t + s) % 4)).2.1 _ (S.2.2 ((t + s) % 4)).2.2 _ _ h0 (hB.2.2.2.2.2 ((t + s) % 4) hj)) ok_X2_offerFor (hLr.2.1) rfl im_X2_offerFor sl_X2_offerFor mn_X0_90 nd_X2_offerFor (by decide +kernel) (Nat.le_of_ble_eq_true rfl) rfl dX0_sendTo_46 (fun r19 G18 q20 => ?_)
          obtain ⟨rfl, rfl⟩ := q20
          refine cc_istore (ls' := [(5, .int (-1)), (4, .int (nI ((t + s) % 4))), (3, .int (nI s)), (2, .ref (b + 3 + 7 * o)), (0, .ref b), (1, .int (nI o))]) dX0_sendTo_49 (Nat.le_of_ble_eq_true rfl) rfl ?_
          refine cc_iload (j := 0) dX0_sendTo_51 rfl ?_
          refine cc_iconst (v := (-1)) dX0_sendTo_53 (by decide) ?_
          refine cc_icmp_eq (tgt := 90) dX0_sendTo_54 (by decide) (fun c_54_2 => ?_) (fun c_54_2 => ?_)
          · refine cc_iinc (j := 2) (v := nI (s + 1)) (ls' := [(3, .int (nI (s + 1))), (5, .int (-1)), (4, .int (nI ((t + s) % 4))), (2, .ref (b + 3 + 7 * o)), (0, .ref b), (1, .int (nI o))]) dX0_sendTo_90 rfl (nI_1 s) (Nat.le_of_ble_eq_true rfl) rfl ?_
            refine cc_goto (tgt := 19) dX0_sendTo_93 (by decide) ?_
            refine cc_loc (ls' := [(3, .int (nI (s + 1))), (2, .ref (b + 3 + 7 * o)), (0, .ref b), (1, .int (nI o))]) [0, 3, 4, 5] rfl ?_
            exact ih (s + 1) (by omega) (hT.trans (by conv => { lhs; unfold B_try; rw [if_neg (by rw [h0]; decide)] }))
          · exact absurd c_54_2 (by decide)
  refine cc_enter ok_X0_sendTo (Nat.le_of_ble_eq_true rfl) (ls := [(0, .ref b), (1, .int (nI o))]) rfl ?_
  refine cc_aload_n (j := 0) dX0_sendTo_0 rfl rfl ?_
  refine cc_get (v := .ref (b + 1)) hB.2.1 cc_c0 4 (by decide) fl_X0_26 rfl dX0_sendTo_1 ?_
  refine cc_iload_n (j := 1) dX0_sendTo_4 rfl rfl ?_
  refine cc_aald4 (x := b + 3 + 7 * o) hB.2.2.1 (vp_in_nI (n := o) (by omega) (by decide)) (by rw [(nI_clamp (by omega))]; rfl) dX0_sendTo_5 ?_
  refine cc_astore_n (ls' := [(2, .ref (b + 3 + 7 * o)), (0, .ref b), (1, .int (nI o))]) dX0_sendTo_6 rfl (Nat.le_of_ble_eq_true rfl) rfl ?_
  refine cc_aload_n (j := 0) dX0_sendTo_7 rfl rfl ?_
  obtain ⟨_, _, hLr21, -⟩ := hB.2.2.2.2.1 o ho
  refine cc_getN (v := .int ((S.2.1 o).1 3)) hLr21.2.1 cc_c1 3 (by decide) fn_X0_84 rfl dX0_sendTo_8 ?_
  refine cc_if_gt (tgt := 17) dX0_sendTo_11 (by decide) (fun c_11 => ?_) (fun c_11 => ?_)
  · refine cc_iconst (v := 0) dX0_sendTo_17 (by decide) ?_
    refine cc_istore_n (ls' := [(3, .int 0), (2, .ref (b + 3 + 7 * o)), (0, .ref b), (1, .int (nI o))]) dX0_sendTo_18 rfl (Nat.le_of_ble_eq_true rfl) rfl ?_
    exact loop_19 c_11 4 0 (by omega) rfl
  · refine cc_bipush (v := (-5)) dX0_sendTo_14 (by decide) ?_
    refine cc_iret rfl rfl dX0_sendTo_16 ?_
    have hS : B_send o t (S, hs) = (none, S, hs) := by
      unfold B_send; rw [if_pos (Int32.not_lt.mp c_11)]
    rw [hS]
    exact ⟨_, rfl, rfl, hB⟩

set_option maxHeartbeats 4000000 in
set_option maxRecDepth 100000 in
theorem ct_X0_passTick (cy : Nat → ClassId) (z : Nat) (G : cc_G) (b : Nat) (S : St_) (hm : B_mid (B_beg S)) (hE : bx_E cy G G b S) : cc_Cn cy Y_X0_passTick [.ref b] z G (cc_qi (fun r G' => r = nI (B_tick S).1 ∧ bx_E cy G G' b (B_tick S).2)) := by
  obtain ⟨hs, hB⟩ := hE
  have hmz : ∀ j, j < 4 → (fun _ => 0 : Nat → Int32) j = 0 ∨ (fun _ => 0 : Nat → Int32) j = 1 := fun _ _ => Or.inl rfl
  obtain ⟨X4, hX4⟩ : ∃ X, X = B_sends 4 (B_beg S, fun _ => 0) := ⟨_, rfl⟩
  have hm4 : B_mid X4.2.1 ∧ ∀ j, j < 4 → X4.2.2 j = 0 ∨ X4.2.2 j = 1 := by rw [hX4]; exact B_mid.sends (X := (B_beg S, fun _ => 0)) hm hmz 4
  have loop_60 : ∀ (n i : Nat) (G1 : cc_G), 4 < i + n → i ≤ 4 → bx_I cy G G1 b X4.2.2 (X4.2.1.1, B_mapI 4 (fun _ L => L_take (X4.2.1.1 0) L) X4.2.1.2.1, B_mapI i (fun j q => (if q.2.2 ≠ [] ∧ X4.2.2 j = 0 then q.1 + 1 else q.1, q.2.1, q.2.2)) X4.2.1.2.2) → cc_R cy Y_X0_passTick z 60 [(2, .int (nI i)), (1, .int (nI X4.1)), (0, .ref b)] [] G1 (cc_qi (fun r G' => r = nI (B_tick S).1 ∧ bx_E cy G G' b (B_tick S).2)) := by
    intro n
    induction n with
    | zero => intro i G1 h1 h2; exact absurd h1 (by omega)
    | succ n ih =>
      intro i G1 hn hi hB
      refine cc_iload_n (j := 0) dX0_passTick_60 rfl rfl ?_
      refine cc_iconst (v := 4) dX0_passTick_61 (by decide) ?_
      refine cc_icmp_ge (tgt := 80) dX0_passTick_62 (by decide) (fun c_62 => ?_) (fun c_62 => ?_)
      · have hge : i = 4 := by have := cc_ngt 4 c_62 (by omega) (by decide); omega
        subst hge
        refine cc_aload_n (j := 2) dX0_passTick_80 rfl rfl ?_
        refine cc_dup dX0_passTick_81 rfl ?_
        refine cc_get (v := .int (X4.2.1.1 0)) hB.2.1 cc_c0 0 (by decide) fl_X0_9 rfl dX0_passTick_82 ?_
        refine cc_iconst (v := 1) dX0_passTick_85 (by decide) ?_
        refine cc_iadd dX0_passTick_86 ?_
        refine bx_rput (g' := upd X4.2.1.1 0 ((X4.2.1.1 0) + 1)) hB cc_c0 0 (by decide) fl_X0_9 rfl rfl rfl dX0_passTick_87 (fun G2 hB1 => ?_)
        refine cc_iload_n (j := 1) dX0_passTick_90 rfl rfl ?_
        refine cc_iret rfl rfl dX0_passTick_91 ?_
        rw [B_tick_eq hX4]
        exact ⟨_, rfl, rfl, _, hB1⟩
      · have hlt : i < 4 := cc_nlt 4 c_62 (by omega)
        refine cc_aload_n (j := 2) dX0_passTick_65 rfl rfl ?_
        refine cc_get (v := .ref (b + 2)) hB.2.1 cc_c0 5 (by decide) fl_X0_32 rfl dX0_passTick_66 ?_
        refine cc_iload_n (j := 0) dX0_passTick_69 rfl rfl ?_
        refine cc_aald5 (x := b + 6 + 7 * i) hB.2.2.2.1 (vp_in_nI (n := i) (by omega) (by decide)) (by rw [(nI_clamp (by omega))]; rfl) dX0_passTick_70 ?_
        obtain ⟨_, _, _, hLr, -⟩ := bx_queue_at hB hlt
        refine cc_callNv (As := []) (rest := []) (ct_X2_countBlocked cy z _ _ (X4.2.1.2.2 i).1 (X4.2.1.2.2 i).2.1 _ (X4.2.1.2.2 i).2.2 (bx_queue_at hB hlt)) ok_X2_countBlocked (hLr.2.1) rfl im_X2_countBlocked sl_X2_countBlocked mn_X0_71 nd_X2_countBlocked (by decide +kernel) (Nat.le_of_ble_eq_true rfl) rfl dX0_passTick_71 (fun G3 q5 => ?_)
        have hB6 := bx_queue_up hB hlt q5
        refine cc_iinc (j := 0) (v := nI (i + 1)) (ls' := [(2, .int (nI (i + 1))), (1, .int (nI X4.1)), (0, .ref b)]) dX0_passTick_74 rfl (nI_1 i) (Nat.le_of_ble_eq_true rfl) rfl ?_
        refine cc_goto (tgt := 60) dX0_passTick_77 (by decide) ?_
        exact ih (i + 1) _ (by omega) (by omega) hB6
  have loop_34 : ∀ (n i : Nat) (G1 : cc_G), 4 < i + n → i ≤ 4 → bx_I cy G G1 b X4.2.2 (X4.2.1.1, B_mapI i (fun _ L => L_take (X4.2.1.1 0) L) X4.2.1.2.1, X4.2.1.2.2) → cc_R cy Y_X0_passTick z 34 [(2, .int (nI i)), (1, .int (nI X4.1)), (0, .ref b)] [] G1 (cc_qi (fun r G' => r = nI (B_tick S).1 ∧ bx_E cy G G' b (B_tick S).2)) := by
    intro n
    induction n with
    | zero => intro i G1 h1 h2; exact absurd h1 (by omega)
    | succ n ih =>
      intro i G1 hn hi hB
      refine cc_iload_n (j := 0) dX0_passTick_34 rfl rfl ?_
      refine cc_iconst (v := 4) dX0_passTick_35 (by decide) ?_
      refine cc_icmp_ge (tgt := 58) dX0_passTick_36 (by decide) (fun c_36 => ?_) (fun c_36 => ?_)
      · have hge : i = 4 := by have := cc_ngt 4 c_36 (by omega) (by decide); omega
        subst hge
        refine cc_iconst (v := 0) dX0_passTick_58 (by decide) ?_
        refine cc_istore_n (ls' := [(2, .int 0), (1, .int (nI X4.1)), (0, .ref b)]) dX0_passTick_59 rfl (Nat.le_of_ble_eq_true rfl) rfl ?_
        exact loop_60 5 0 _ (by omega) (by omega) (by rw [B_mapI_0]; exact hB)
      · have hlt : i < 4 := cc_nlt 4 c_36 (by omega)
        refine cc_aload_n (j := 2) dX0_passTick_39 rfl rfl ?_
        refine cc_get (v := .ref (b + 1)) hB.2.1 cc_c0 4 (by decide) fl_X0_26 rfl dX0_passTick_40 ?_
        refine cc_iload_n (j := 0) dX0_passTick_43 rfl rfl ?_
        refine cc_aald4 (x := b + 3 + 7 * i) hB.2.2.1 (vp_in_nI (n := i) (by omega) (by decide)) (by rw [(nI_clamp (by omega))]; rfl) dX0_passTick_44 ?_
        refine cc_aload_n (j := 2) dX0_passTick_45 rfl rfl ?_
        refine cc_get (v := .int (X4.2.1.1 0)) hB.2.1 cc_c0 0 (by decide) fl_X0_9 rfl dX0_passTick_46 ?_
        obtain ⟨_, _, hLr, -⟩ := bx_lane_at hB hlt
        refine cc_callNv (As := [.int (X4.2.1.1 0)]) (rest := []) (ct_X1_takeIfDue cy z _ _ (X4.2.1.2.1 i).1 (X4.2.1.2.1 i).2.1 (X4.2.1.2.1 i).2.2 _ (hm4.1 i hlt).2.2.2.1 (hm4.1 i hlt).2.1 (bx_lane_at hB hlt)) ok_X1_takeIfDue (hLr.2.1) rfl im_X1_takeIfDue sl_X1_takeIfDue mn_X0_67 nd_X1_takeIfDue (by decide +kernel) (Nat.le_of_ble_eq_true rfl) rfl dX0_passTick_49 (fun G7 q9 => ?_)
        have hB10 := bx_lane_up hB hlt q9
        refine cc_iinc (j := 0) (v := nI (i + 1)) (ls' := [(2, .int (nI (i + 1))), (1, .int (nI X4.1)), (0, .ref b)]) dX0_passTick_52 rfl (nI_1 i) (Nat.le_of_ble_eq_true rfl) rfl ?_
        refine cc_goto (tgt := 34) dX0_passTick_55 (by decide) ?_
        exact ih (i + 1) _ (by omega) (by omega) hB10
  have loop_8 : ∀ (n i : Nat) (G1 : cc_G), 4 < i + n → i ≤ 4 → bx_I cy G G1 b (B_sends i (B_beg S, fun _ => 0)).2.2 (B_sends i (B_beg S, fun _ => 0)).2.1 → cc_R cy Y_X0_passTick z 8 [(2, .int (nI i)), (1, .int (nI (B_sends i (B_beg S, fun _ => 0)).1)), (0, .ref b)] [] G1 (cc_qi (fun r G' => r = nI (B_tick S).1 ∧ bx_E cy G G' b (B_tick S).2)) := by
    intro n
    induction n with
    | zero => intro i G1 h1 h2; exact absurd h1 (by omega)
    | succ n ih =>
      intro i G1 hn hi hB
      have hm2 := B_mid.sends (X := (B_beg S, fun _ => 0)) hm hmz i
      refine cc_iload_n (j := 0) dX0_passTick_8 rfl rfl ?_
      refine cc_iconst (v := 4) dX0_passTick_9 (by decide) ?_
      refine cc_icmp_ge (tgt := 32) dX0_passTick_10 (by decide) (fun c_10 => ?_) (fun c_10 => ?_)
      · have hge : i = 4 := by have := cc_ngt 4 c_10 (by omega) (by decide); omega
        subst hge
        rw [← hX4] at hB ⊢
        refine cc_iconst (v := 0) dX0_passTick_32 (by decide) ?_
        refine cc_istore_n (ls' := [(2, .int 0), (1, .int (nI X4.1)), (0, .ref b)]) dX0_passTick_33 rfl (Nat.le_of_ble_eq_true rfl) rfl ?_
        exact loop_34 5 0 _ (by omega) (by omega) (by rw [B_mapI_0]; exact hB)
      · have hlt : i < 4 := cc_nlt 4 c_10 (by omega)
        refine cc_aload_n (j := 2) dX0_passTick_13 rfl rfl ?_
        refine cc_iload_n (j := 0) dX0_passTick_14 rfl rfl ?_
        refine cc_callVi (As := [.int (nI i)]) (rest := []) (ct_X0_sendTo cy z _ b _ _ i (B_turn (B_sends i (B_beg S, fun _ => 0)).2.1 i) hlt (hm2.1.turn hlt).1 (hm2.1.turn hlt).2 (hm2.1 i hlt).1 hm2.2 hB.self) ok_X0_sendTo (hB.2.1) rfl im_X0_sendTo sl_X0_sendTo ml_X0_63 nd_X0_sendTo (by decide +kernel) (Nat.le_of_ble_eq_true rfl) rfl dX0_passTick_15 (fun r12 G11 q13 => ?_)
        obtain ⟨hr, hB14⟩ := q13
        have hB14 := hB.tr hB14
        rcases hsd : (B_send i (B_turn (B_sends i (B_beg S, fun _ => 0)).2.1 i) (B_sends i (B_beg S, fun _ => 0)).2).1 with _ | n0
        · have hr : r12 = (-5) := hr.trans (by rw [show (B_send i (B_turn (B_sends i (B_beg S, fun _ => 0)).2.1 i) ((B_sends i (B_beg S, fun _ => 0)).2.1, (B_sends i (B_beg S, fun _ => 0)).2.2)).1 = none from hsd])
          subst hr
          refine cc_bipush (v := (-5)) dX0_passTick_18 (by decide) ?_
          refine cc_icmp_eq (tgt := 26) dX0_passTick_20 (by decide) (fun c_20 => ?_) (fun c_20 => ?_)
          · rw [show nI (B_sends i (B_beg S, fun _ => 0)).1 = nI (B_sends (i + 1) (B_beg S, fun _ => 0)).1 from by show _ = nI (if _ then _ else _); rw [hsd]; rfl]
            refine cc_iinc (j := 0) (v := nI (i + 1)) (ls' := [(2, .int (nI (i + 1))), (1, .int (nI (B_sends (i + 1) (B_beg S, fun _ => 0)).1)), (0, .ref b)]) dX0_passTick_26 rfl (nI_1 i) (Nat.le_of_ble_eq_true rfl) rfl ?_
            refine cc_goto (tgt := 8) dX0_passTick_29 (by decide) ?_
            exact ih (i + 1) _ (by omega) (by omega) hB14
          · exact absurd c_20 (by decide)
        · have hr : r12 = n0 := hr.trans (by rw [show (B_send i (B_turn (B_sends i (B_beg S, fun _ => 0)).2.1 i) ((B_sends i (B_beg S, fun _ => 0)).2.1, (B_sends i (B_beg S, fun _ => 0)).2.2)).1 = some n0 from hsd])
          subst hr
          have hn5 := (B_mid.send hm2.1 hm2.2 i (B_turn (B_sends i (B_beg S, fun _ => 0)).2.1 i)).2.2 r12 hsd
          refine cc_bipush (v := (-5)) dX0_passTick_18 (by decide) ?_
          refine cc_icmp_eq (tgt := 26) dX0_passTick_20 (by decide) (fun c_20_1 => ?_) (fun c_20_1 => ?_)
          · exact absurd c_20_1 hn5
          · refine cc_iinc (j := 1) (v := nI (B_sends (i + 1) (B_beg S, fun _ => 0)).1) (ls' := [(1, .int (nI (B_sends (i + 1) (B_beg S, fun _ => 0)).1)), (2, .int (nI i)), (0, .ref b)]) dX0_passTick_23 rfl (by rw [show (B_sends (i + 1) (B_beg S, fun _ => 0)).1 = (B_sends i (B_beg S, fun _ => 0)).1 + 1 from by show (if _ then _ else _) = _; rw [hsd]; rfl]; exact nI_1 _) (Nat.le_of_ble_eq_true rfl) rfl ?_
            refine cc_iinc (j := 1) (v := nI (i + 1)) (ls' := [(2, .int (nI (i + 1))), (1, .int (nI (B_sends (i + 1) (B_beg S, fun _ => 0)).1)), (0, .ref b)]) dX0_passTick_26 rfl (nI_1 i) (Nat.le_of_ble_eq_true rfl) rfl ?_
            refine cc_goto (tgt := 8) dX0_passTick_29 (by decide) ?_
            exact ih (i + 1) _ (by omega) (by omega) hB14
  refine cc_enter ok_X0_passTick (Nat.le_of_ble_eq_true rfl) (ls := [(0, .ref b)]) rfl ?_
  refine cc_aload_n (j := 0) dX0_passTick_0 rfl rfl ?_
  refine cc_callVv (As := []) (rest := []) (ct_X0_beginTick cy z _ b _ S hB) ok_X0_beginTick (hB.2.1) rfl im_X0_beginTick sl_X0_beginTick ml_X0_60 nd_X0_beginTick (by decide +kernel) (Nat.le_of_ble_eq_true rfl) rfl dX0_passTick_1 (fun G15 q17 => ?_)
  refine cc_iconst (v := 0) dX0_passTick_4 (by decide) ?_
  refine cc_istore_n (ls' := [(1, .int 0), (0, .ref b)]) dX0_passTick_5 rfl (Nat.le_of_ble_eq_true rfl) rfl ?_
  refine cc_iconst (v := 0) dX0_passTick_6 (by decide) ?_
  refine cc_istore_n (ls' := [(2, .int 0), (1, .int 0), (0, .ref b)]) dX0_passTick_7 rfl (Nat.le_of_ble_eq_true rfl) rfl ?_
  exact loop_8 5 0 _ (by omega) (by omega) q17
