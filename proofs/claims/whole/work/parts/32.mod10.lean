set_option maxHeartbeats 4000000 in
set_option maxRecDepth 100000 in
theorem ct_X4_next (cy : Nat → ClassId) (z : Nat) (G : cc_G) (o : Nat) (c : CS_) (x1 : Int32) (M : Nat) (hM : M < 2 ^ 20) (hok : C_ok M c) (hI : ma_I cy G G o c) : cc_Cn cy Y_X4_next [.ref o, .int x1] z G (cc_qi (fun r9 G' => r9 = C_next x1 c ∧ ma_I cy G G' o c)) := by
  obtain ⟨S, sn, hi, t⟩ := c
  obtain ⟨r, pa, qa, be, nn, ia, tx, le, ay, hs, so, H, hw, hS, hnn, hP, hl, hle, hT, h60⟩ := hI
  have H : mo_R cy G G o r pa qa be nn ia tx le ay hs so := H
  have hw : rw_I r S := hw
  have hS : ma_S ia qa sn := hS
  have hnn : nn = nI hi.length := hnn
  have hP : ma_P pa hi := hP
  have hl : hi.length ≤ 4 := hl
  have hle : le = nI t.length := hle
  have hT : ar_ tx t := hT
  have h60 : t.length ≤ 60 := h60
  subst hnn
  subst hle
  obtain ⟨T, hTk⟩ := hok.1
  have hTk : T ≤ 9999 ∧ B_ok T M S := hTk
  refine cc_enter ok_X4_next (Nat.le_of_ble_eq_true rfl) (ls := [(0, .ref o), (1, .int x1)]) rfl ?_
  rcases cc_port x1 with ⟨i, hi4, rfl⟩ | hx
  · have hl0 := hw.2.2.2.2.1 i hi4
    have hq0 := hw.2.2.2.2.2 i hi4
    have h8 : (S.2.1 i).2.1.length ≤ 8 := hl0.2.2.2.2.2.1
    have h6 : (S.2.1 i).2.2.length ≤ 6 := hl0.2.2.2.2.2.2
    have h8q : (S.2.2 i).2.2.length ≤ 8 := hq0.2.2.2.2
    refine cc_iload_n (j := 1) dX4_next_0 rfl rfl ?_
    refine cc_callSi (As := [.int (nI i)]) (rest := []) (ct_X4_noPort cy z _ (nI i)) ok_X4_noPort st_X4_noPort ml_X4_58 nd_X4_noPort (by decide +kernel) (Nat.le_of_ble_eq_true rfl) rfl dX4_next_1 (fun r2 G1 q3 => ?_)
    obtain ⟨rfl, rfl⟩ := q3
    rw [if_pos (cc_pt hi4)]
    refine cc_if_eq (tgt := 9) dX4_next_4 (by decide) (fun c_4 => ?_) (fun c_4 => ?_)
    · refine cc_aload_n (j := 0) dX4_next_9 rfl rfl ?_
      refine cc_callVv (As := []) (rest := []) (ct_X4_remember cy z _ _ _ _ _ _ _ _ _ _ _ _ _ H.self) ok_X4_remember (H.2.1) rfl im_X4_remember sl_X4_remember ml_X4_45 nd_X4_remember (by decide +kernel) (Nat.le_of_ble_eq_true rfl) rfl dX4_next_10 (fun G4 q6 => ?_)
      obtain ⟨b2, H7, hb2⟩ := q6
      have H7 := H.tr H7
      refine cc_aload_n (j := 0) dX4_next_13 rfl rfl ?_
      refine cc_callVi (As := []) (rest := []) (ct_X4_tick cy z _ _ _ _ _ _ _ _ _ _ _ _ _ S hw ((hTk.2.beg (by omega)).mid hM) hTk.2.2.1 H7.self) ok_X4_tick (H7.2.1) rfl im_X4_tick sl_X4_tick ml_X4_119 nd_X4_tick (by decide +kernel) (Nat.le_of_ble_eq_true rfl) rfl dX4_next_14 (fun r9 G8 q10 => ?_)
      obtain ⟨hr, rt, hst, sot, H11, hwt, hso⟩ := q10
      subst hr
      have H11 := H7.tr H11
      refine cc_pop dX4_next_17 rfl ?_
      refine cc_aload_n (j := 0) dX4_next_18 rfl rfl ?_
      refine cc_callVv (As := []) (rest := []) (ct_X4_goBack cy z _ _ _ _ _ _ _ _ _ _ _ _ _ H11.self) ok_X4_goBack (H11.2.1) rfl im_X4_goBack sl_X4_goBack ml_X4_93 nd_X4_goBack (by decide +kernel) (Nat.le_of_ble_eq_true rfl) rfl dX4_next_19 (fun G12 q14 => ?_)
      obtain ⟨rg, H15, hrg⟩ := q14
      have H15 := H11.tr H15
      refine cc_aload_n (j := 0) dX4_next_22 rfl rfl ?_
      refine cc_get (v := .ref (o + 7)) H15.2.1 cc_c4 10 (by decide) fl_X4_30 rfl dX4_next_23 ?_
      refine cc_iload_n (j := 1) dX4_next_26 rfl rfl ?_
      refine cc_iald (x := sot i) H15.2.2.2.2.2.2.2.2 (vp_in_nI (n := i) (by omega) (by decide)) (by rw [(nI_clamp (by omega))]) dX4_next_27 ?_
      rw [show sot i = B_next S i from hso i hi4]
      refine cc_iret rfl rfl dX4_next_28 ?_
      have e : C_next (nI i) (S, sn, hi, t) = B_next S i := by
        unfold C_next
        rw [if_pos (cc_pt hi4), C_i_n (by omega)]
        
      rw [e]
      
      exact ⟨_, rfl, rfl, ⟨_, _, _, _, _, _, _, _, _, _, _, H15, (hw.eq (fun q hq => (hrg q hq).trans (hb2 q hq))), hS, rfl, hP, hl, rfl, hT, h60⟩⟩
    · exact absurd c_4 (by decide)
  · refine cc_iload_n (j := 1) dX4_next_0 rfl rfl ?_
    refine cc_callSi (As := [.int x1]) (rest := []) (ct_X4_noPort cy z _ x1) ok_X4_noPort st_X4_noPort ml_X4_58 nd_X4_noPort (by decide +kernel) (Nat.le_of_ble_eq_true rfl) rfl dX4_next_1 (fun r17 G16 q18 => ?_)
    obtain ⟨rfl, rfl⟩ := q18
    rw [if_neg hx]
    refine cc_if_eq (tgt := 9) dX4_next_4 (by decide) (fun c_4_1 => ?_) (fun c_4_1 => ?_)
    · exact absurd c_4_1 (by decide)
    · refine cc_iconst (v := (-1)) dX4_next_7 (by decide) ?_
      refine cc_iret rfl rfl dX4_next_8 ?_
      have e : C_next x1 (S, sn, hi, t) = (-1) := by
        unfold C_next
        
        rw [if_neg hx]
      rw [e]
      
      exact ⟨_, rfl, rfl, ⟨_, _, _, _, _, _, _, _, _, _, _, H, hw, hS, rfl, hP, hl, rfl, hT, h60⟩⟩

theorem mo_inl {p n : Nat} (h : p < n) (hn : n < 2 ^ 31) : (0 : Int32) ≤ nI p ∧ nI p ≤ nI n - 1 := by
  refine ⟨nI_pos' (by omega), ?_⟩
  rw [cc_m1 (by omega)]
  exact nI_le (by omega) (by omega)
theorem mo_outl {p n : Nat} (h : ¬ p < n) (hn : n < 2 ^ 31) (hp : p < 2 ^ 31) : ¬ ((0 : Int32) ≤ nI p ∧ nI p ≤ nI n - 1) := by
  intro q
  rcases Nat.eq_zero_or_pos n with e | e
  · subst e
    exact absurd (Int32.le_trans q.1 q.2) (by decide)
  · have h2 := q.2
    rw [cc_m1 (by omega)] at h2
    have := (nI_leI hp (by omega)).mp h2
    omega

set_option maxHeartbeats 4000000 in
set_option maxRecDepth 100000 in
theorem ct_X4_leavesIn (cy : Nat → ClassId) (z : Nat) (G : cc_G) (o : Nat) (c : CS_) (x1 x2 : Int32) (M : Nat) (hM : M < 2 ^ 20) (hok : C_ok M c) (hI : ma_I cy G G o c) : cc_Cn cy Y_X4_leavesIn [.ref o, .int x1, .int x2] z G (cc_qi (fun r9 G' => r9 = C_leavesIn x1 x2 c ∧ ma_I cy G G' o c)) := by
  obtain ⟨S, sn, hi, t⟩ := c
  obtain ⟨r, pa, qa, be, nn, ia, tx, le, ay, hs, so, H, hw, hS, hnn, hP, hl, hle, hT, h60⟩ := hI
  have H : mo_R cy G G o r pa qa be nn ia tx le ay hs so := H
  have hw : rw_I r S := hw
  have hS : ma_S ia qa sn := hS
  have hnn : nn = nI hi.length := hnn
  have hP : ma_P pa hi := hP
  have hl : hi.length ≤ 4 := hl
  have hle : le = nI t.length := hle
  have hT : ar_ tx t := hT
  have h60 : t.length ≤ 60 := h60
  subst hnn
  subst hle
  obtain ⟨T, hTk⟩ := hok.1
  have hTk : T ≤ 9999 ∧ B_ok T M S := hTk
  have loop_46 : ∀ (i p : Nat) (num : Int32) (b2 : Nat → Int32), i < 4 → (∀ q, q < 232 → b2 q = r q) → ∀ (f k : Nat) (r1 hs1 so1 : Nat → Int32) (G1 : cc_G), 200 < k + f → k ≤ 200 → mo_R cy G G1 o r1 pa qa b2 (nI hi.length) ia tx (nI t.length) ay hs1 so1 → rw_I r1 (B_pass k S).2 → (B_leaves i num S 200 0 = (if num ∈ ((B_pass k S).2.2.2 i).2.2.map (fun p => p.1) then B_leaves i num S (200 - k) k else some k)) → cc_R cy Y_X4_leavesIn z 46 [(4, .int (nI k)), (3, .int num), (0, .ref o), (1, .int (nI i)), (2, .int (nI p))] [] G1 (cc_qi (fun r9 G' => r9 = (match B_leaves i num S 200 0 with | some k => nI k | none => (-5)) ∧ ma_I cy G G' o (S, sn, hi, t))) := by
    intro i p num b2 hi4 hb2 f
    induction f with
    | zero => intro k r1 hs1 so1 G1 h1 h2; exact absurd h1 (by omega)
    | succ f ih =>
      intro k r1 hs1 so1 G1 hf hk H hwk hL
      refine cc_iload (j := 0) dX4_leavesIn_46 rfl ?_
      refine cc_sipush (v := 200) dX4_leavesIn_48 (by decide) ?_
      refine cc_icmp_ge (tgt := 74) dX4_leavesIn_51 (by decide) (fun c_51 => ?_) (fun c_51 => ?_)
      · have hge : k = 200 := by have := cc_ngt 200 c_51 (by omega) (by decide); omega
        refine cc_aload_n (j := 2) dX4_leavesIn_74 rfl rfl ?_
        refine cc_iload_n (j := 3) dX4_leavesIn_75 rfl rfl ?_
        refine cc_iload_n (j := 1) dX4_leavesIn_76 rfl rfl ?_
        by_cases hmem : num ∈ ((B_pass k S).2.2.2 i).2.2.map (fun p => p.1)
        · refine cc_callVi (As := [.int (nI i), .int num]) (rest := []) (ct_X4_waits cy z _ _ _ _ _ _ _ _ _ _ _ _ _ (B_pass k S).2 hwk i hi4 num H.self) ok_X4_waits (H.2.1) rfl im_X4_waits sl_X4_waits ml_X4_132 nd_X4_waits (by decide +kernel) (Nat.le_of_ble_eq_true rfl) rfl dX4_leavesIn_77 (fun r2 G1 q3 => ?_)
          obtain ⟨rfl, rfl⟩ := q3
          rw [if_pos hmem]
          refine cc_istore (ls' := [(5, .int 1), (4, .int (nI k)), (3, .int num), (0, .ref o), (1, .int (nI i)), (2, .int (nI p))]) dX4_leavesIn_80 (Nat.le_of_ble_eq_true rfl) rfl ?_
          refine cc_aload_n (j := 3) dX4_leavesIn_82 rfl rfl ?_
          refine cc_callVv (As := []) (rest := []) (ct_X4_goBack cy z _ _ _ _ _ _ _ _ _ _ _ _ _ H.self) ok_X4_goBack (H.2.1) rfl im_X4_goBack sl_X4_goBack ml_X4_93 nd_X4_goBack (by decide +kernel) (Nat.le_of_ble_eq_true rfl) rfl dX4_leavesIn_83 (fun G4 q6 => ?_)
          obtain ⟨rg, H7, hrg⟩ := q6
          have H7 := H.tr H7
          refine cc_iload (j := 0) dX4_leavesIn_86 rfl ?_
          refine cc_if_eq (tgt := 96) dX4_leavesIn_88 (by decide) (fun c_88 => ?_) (fun c_88 => ?_)
          · exact absurd c_88 (by decide)
          · refine cc_bipush (v := (-5)) dX4_leavesIn_91 (by decide) ?_
            refine cc_goto (tgt := 98) dX4_leavesIn_93 (by decide) ?_
            refine cc_iret rfl rfl dX4_leavesIn_98 ?_
            have e : B_leaves i num S 200 0 = none := by
              rw [hL, if_pos hmem, show 200 - k = 0 by omega]
              rfl
            rw [e]
            exact ⟨_, rfl, rfl, ⟨_, _, _, _, _, _, _, _, _, _, _, H7, (hw.eq (fun q hq => (hrg q hq).trans (hb2 q hq))), hS, rfl, hP, hl, rfl, hT, h60⟩⟩
        · refine cc_callVi (As := [.int (nI i), .int num]) (rest := []) (ct_X4_waits cy z _ _ _ _ _ _ _ _ _ _ _ _ _ (B_pass k S).2 hwk i hi4 num H.self) ok_X4_waits (H.2.1) rfl im_X4_waits sl_X4_waits ml_X4_132 nd_X4_waits (by decide +kernel) (Nat.le_of_ble_eq_true rfl) rfl dX4_leavesIn_77 (fun r9 G8 q10 => ?_)
          obtain ⟨rfl, rfl⟩ := q10
          rw [if_neg hmem]
          refine cc_istore (ls' := [(5, .int 0), (4, .int (nI k)), (3, .int num), (0, .ref o), (1, .int (nI i)), (2, .int (nI p))]) dX4_leavesIn_80 (Nat.le_of_ble_eq_true rfl) rfl ?_
          refine cc_aload_n (j := 3) dX4_leavesIn_82 rfl rfl ?_
          refine cc_callVv (As := []) (rest := []) (ct_X4_goBack cy z _ _ _ _ _ _ _ _ _ _ _ _ _ H.self) ok_X4_goBack (H.2.1) rfl im_X4_goBack sl_X4_goBack ml_X4_93 nd_X4_goBack (by decide +kernel) (Nat.le_of_ble_eq_true rfl) rfl dX4_leavesIn_83 (fun G11 q13 => ?_)
          obtain ⟨rg, H14, hrg⟩ := q13
          have H14 := H.tr H14
          refine cc_iload (j := 0) dX4_leavesIn_86 rfl ?_
          refine cc_if_eq (tgt := 96) dX4_leavesIn_88 (by decide) (fun c_88_1 => ?_) (fun c_88_1 => ?_)
          · refine cc_iload (j := 1) dX4_leavesIn_96 rfl ?_
            refine cc_iret rfl rfl dX4_leavesIn_98 ?_
            have e : B_leaves i num S 200 0 = some k := by rw [hL, if_neg hmem]
            rw [e]
            exact ⟨_, rfl, rfl, ⟨_, _, _, _, _, _, _, _, _, _, _, H14, (hw.eq (fun q hq => (hrg q hq).trans (hb2 q hq))), hS, rfl, hP, hl, rfl, hT, h60⟩⟩
          · exact absurd c_88_1 (by decide)
      · have hlt : k < 200 := cc_nlt 200 c_51 (by omega)
        refine cc_aload_n (j := 2) dX4_leavesIn_54 rfl rfl ?_
        refine cc_iload_n (j := 3) dX4_leavesIn_55 rfl rfl ?_
        refine cc_iload_n (j := 1) dX4_leavesIn_56 rfl rfl ?_
        by_cases hmem : num ∈ ((B_pass k S).2.2.2 i).2.2.map (fun p => p.1)
        · refine cc_callVi (As := [.int (nI i), .int num]) (rest := []) (ct_X4_waits cy z _ _ _ _ _ _ _ _ _ _ _ _ _ (B_pass k S).2 hwk i hi4 num H.self) ok_X4_waits (H.2.1) rfl im_X4_waits sl_X4_waits ml_X4_132 nd_X4_waits (by decide +kernel) (Nat.le_of_ble_eq_true rfl) rfl dX4_leavesIn_57 (fun r16 G15 q17 => ?_)
          obtain ⟨rfl, rfl⟩ := q17
          rw [if_pos hmem]
          refine cc_if_eq (tgt := 74) dX4_leavesIn_60 (by decide) (fun c_60 => ?_) (fun c_60 => ?_)
          · exact absurd c_60 (by decide)
          · refine cc_aload_n (j := 2) dX4_leavesIn_63 rfl rfl ?_
            refine cc_callVi (As := []) (rest := []) (ct_X4_tick cy z _ _ _ _ _ _ _ _ _ _ _ _ _ (B_pass k S).2 hwk ((hTk.2.midm hM (n := 200) (by omega)) k (by omega)).1 ((hTk.2.midm hM (n := 200) (by omega)) k (by omega)).2 H.self) ok_X4_tick (H.2.1) rfl im_X4_tick sl_X4_tick ml_X4_119 nd_X4_tick (by decide +kernel) (Nat.le_of_ble_eq_true rfl) rfl dX4_leavesIn_64 (fun r19 G18 q20 => ?_)
            obtain ⟨hr, rt, hst, sot, H21, hwt, hso⟩ := q20
            subst hr
            have H21 := H.tr H21
            refine cc_pop dX4_leavesIn_67 rfl ?_
            refine cc_iinc (j := 0) (v := nI (k + 1)) (ls' := [(4, .int (nI (k + 1))), (3, .int num), (0, .ref o), (1, .int (nI i)), (2, .int (nI p))]) dX4_leavesIn_68 rfl (nI_1 k) (Nat.le_of_ble_eq_true rfl) rfl ?_
            refine cc_goto (tgt := 46) dX4_leavesIn_71 (by decide) ?_
            refine cc_loc (ls' := [(4, .int (nI (k + 1))), (3, .int num), (0, .ref o), (1, .int (nI i)), (2, .int (nI p))]) [0, 1, 2, 3, 4] rfl ?_
            refine ih (k + 1) _ _ _ _ (by omega) (by omega) H21 hwt ?_
            rw [hL, if_pos hmem, show 200 - k = (200 - (k + 1)) + 1 by omega]
            conv => { lhs; unfold B_leaves }
        · refine cc_callVi (As := [.int (nI i), .int num]) (rest := []) (ct_X4_waits cy z _ _ _ _ _ _ _ _ _ _ _ _ _ (B_pass k S).2 hwk i hi4 num H.self) ok_X4_waits (H.2.1) rfl im_X4_waits sl_X4_waits ml_X4_132 nd_X4_waits (by decide +kernel) (Nat.le_of_ble_eq_true rfl) rfl dX4_leavesIn_57 (fun r23 G22 q24 => ?_)
          obtain ⟨rfl, rfl⟩ := q24
          rw [if_neg hmem]
          refine cc_if_eq (tgt := 74) dX4_leavesIn_60 (by decide) (fun c_60_1 => ?_) (fun c_60_1 => ?_)
          · refine cc_aload_n (j := 2) dX4_leavesIn_74 rfl rfl ?_
            refine cc_iload_n (j := 3) dX4_leavesIn_75 rfl rfl ?_
            refine cc_iload_n (j := 1) dX4_leavesIn_76 rfl rfl ?_
            refine cc_callVi (As := [.int (nI i), .int num]) (rest := []) (ct_X4_waits cy z _ _ _ _ _ _ _ _ _ _ _ _ _ (B_pass k S).2 hwk i hi4 num H.self) ok_X4_waits (H.2.1) rfl im_X4_waits sl_X4_waits ml_X4_132 nd_X4_waits (by decide +kernel) (Nat.le_of_ble_eq_true rfl) rfl dX4_leavesIn_77 (fun r26 G25 q27 => ?_)
            obtain ⟨rfl, rfl⟩ := q27
            rw [if_neg hmem]
            refine cc_istore (ls' := [(5, .int 0), (4, .int (nI k)), (3, .int num), (0, .ref o), (1, .int (nI i)), (2, .int (nI p))]) dX4_leavesIn_80 (Nat.le_of_ble_eq_true rfl) rfl ?_
            refine cc_aload_n (j := 3) dX4_leavesIn_82 rfl rfl ?_
            refine cc_callVv (As := []) (rest := []) (ct_X4_goBack cy z _ _ _ _ _ _ _ _ _ _ _ _ _ H.self) ok_X4_goBack (H.2.1) rfl im_X4_goBack sl_X4_goBack ml_X4_93 nd_X4_goBack (by decide +kernel) (Nat.le_of_ble_eq_true rfl) rfl dX4_leavesIn_83 (fun G28 q30 => ?_)
            obtain ⟨rg, H31, hrg⟩ := q30
            have H31 := H.tr H31
            refine cc_iload (j := 0) dX4_leavesIn_86 rfl ?_
            refine cc_if_eq (tgt := 96) dX4_leavesIn_88 (by decide) (fun c_88_2 => ?_) (fun c_88_2 => ?_)
            · refine cc_iload (j := 1) dX4_leavesIn_96 rfl ?_
              refine cc_iret rfl rfl dX4_leavesIn_98 ?_
              have e : B_leaves i num S 200 0 = some k := by rw [hL, if_neg hmem]
              rw [e]
              exact ⟨_, rfl, rfl, ⟨_, _, _, _, _, _, _, _, _, _, _, H31, (hw.eq (fun q hq => (hrg q hq).trans (hb2 q hq))), hS, rfl, hP, hl, rfl, hT, h60⟩⟩
            · exact absurd c_88_2 (by decide)
          · exact absurd c_60_1 (by decide)
  refine cc_enter ok_X4_leavesIn (Nat.le_of_ble_eq_true rfl) (ls := [(0, .ref o), (1, .int x1), (2, .int x2)]) rfl ?_
  rcases cc_port x1 with ⟨i, hi4, rfl⟩ | hx
  · have hl0 := hw.2.2.2.2.1 i hi4
    have hq0 := hw.2.2.2.2.2 i hi4
    have h8 : (S.2.1 i).2.1.length ≤ 8 := hl0.2.2.2.2.2.1
    have h6 : (S.2.1 i).2.2.length ≤ 6 := hl0.2.2.2.2.2.2
    have h8q : (S.2.2 i).2.2.length ≤ 8 := hq0.2.2.2.2
    refine cc_iload_n (j := 1) dX4_leavesIn_0 rfl rfl ?_
    refine cc_callSi (As := [.int (nI i)]) (rest := []) (ct_X4_noPort cy z _ (nI i)) ok_X4_noPort st_X4_noPort ml_X4_58 nd_X4_noPort (by decide +kernel) (Nat.le_of_ble_eq_true rfl) rfl dX4_leavesIn_1 (fun r33 G32 q34 => ?_)
    obtain ⟨rfl, rfl⟩ := q34
    rw [if_pos (cc_pt hi4)]
    refine cc_if_eq (tgt := 9) dX4_leavesIn_4 (by decide) (fun c_4 => ?_) (fun c_4 => ?_)
    · by_cases hp_ : x2 < 0
      · refine cc_iload_n (j := 2) dX4_leavesIn_9 rfl rfl ?_
        refine cc_iconst (v := 0) dX4_leavesIn_10 (by decide) ?_
        refine cc_aload_n (j := 0) dX4_leavesIn_11 rfl rfl ?_
        refine cc_iload_n (j := 1) dX4_leavesIn_12 rfl rfl ?_
        refine cc_iconst (v := 0) dX4_leavesIn_13 (by decide) ?_
        refine cc_callVi (As := [.int (nI i), .int 0]) (rest := [.int 0, .int x2]) (ct_X4_by cy z _ _ _ _ _ _ _ _ _ _ _ _ _ i 0 (by omega) H.self) ok_X4_by (H.2.1) rfl im_X4_by sl_X4_by ml_X4_69 nd_X4_by (by decide +kernel) (Nat.le_of_ble_eq_true rfl) rfl dX4_leavesIn_14 (fun r36 G35 q37 => ?_)
        obtain ⟨rfl, rfl⟩ := q37
        rw [show r (124 + 27 * i + 0) = nI (S.2.2 i).2.2.length from hq0.1]
        refine cc_iconst (v := 1) dX4_leavesIn_17 (by decide) ?_
        refine cc_isub dX4_leavesIn_18 ?_
        refine cc_callSi (As := [.int x2, .int 0, .int ((nI (S.2.2 i).2.2.length) - 1)]) (rest := []) (ct_X4_in cy z _ x2 0 ((nI (S.2.2 i).2.2.length) - 1)) ok_X4_in st_X4_in ml_X4_37 nd_X4_in (by decide +kernel) (Nat.le_of_ble_eq_true rfl) rfl dX4_leavesIn_19 (fun r39 G38 q40 => ?_)
        obtain ⟨rfl, rfl⟩ := q40
        rw [if_neg (show ¬ ((0 : Int32) ≤ x2 ∧ (x2 : Int32) ≤ (nI (S.2.2 i).2.2.length) - 1) from (fun q => absurd hp_ (Int32.not_lt.mpr q.1)))]
        refine cc_if_ne (tgt := 28) dX4_leavesIn_22 (by decide) (fun c_22 => ?_) (fun c_22 => ?_)
        · exact absurd c_22 (by decide)
        · refine cc_bipush (v := (-2)) dX4_leavesIn_25 (by decide) ?_
          refine cc_iret rfl rfl dX4_leavesIn_27 ?_
          have e : C_leavesIn (nI i) x2 (S, sn, hi, t) = (-2) := by
            unfold C_leavesIn
            rw [if_pos (cc_pt hi4), C_i_n (by omega)]
            dsimp only
            rw [if_pos (Or.inl hp_)]
          rw [e]
          
          exact ⟨_, rfl, rfl, ⟨_, _, _, _, _, _, _, _, _, _, _, H, hw, hS, rfl, hP, hl, rfl, hT, h60⟩⟩
      · obtain ⟨p, hpj, rfl⟩ := nI_of hp_
        refine cc_iload_n (j := 2) dX4_leavesIn_9 rfl rfl ?_
        by_cases hlt : p < (S.2.2 i).2.2.length
        · refine cc_iconst (v := 0) dX4_leavesIn_10 (by decide) ?_
          refine cc_aload_n (j := 0) dX4_leavesIn_11 rfl rfl ?_
          refine cc_iload_n (j := 1) dX4_leavesIn_12 rfl rfl ?_
          refine cc_iconst (v := 0) dX4_leavesIn_13 (by decide) ?_
          refine cc_callVi (As := [.int (nI i), .int 0]) (rest := [.int 0, .int (nI p)]) (ct_X4_by cy z _ _ _ _ _ _ _ _ _ _ _ _ _ i 0 (by omega) H.self) ok_X4_by (H.2.1) rfl im_X4_by sl_X4_by ml_X4_69 nd_X4_by (by decide +kernel) (Nat.le_of_ble_eq_true rfl) rfl dX4_leavesIn_14 (fun r42 G41 q43 => ?_)
          obtain ⟨rfl, rfl⟩ := q43
          rw [show r (124 + 27 * i + 0) = nI (S.2.2 i).2.2.length from hq0.1]
          refine cc_iconst (v := 1) dX4_leavesIn_17 (by decide) ?_
          refine cc_isub dX4_leavesIn_18 ?_
          refine cc_callSi (As := [.int (nI p), .int 0, .int ((nI (S.2.2 i).2.2.length) - 1)]) (rest := []) (ct_X4_in cy z _ (nI p) 0 ((nI (S.2.2 i).2.2.length) - 1)) ok_X4_in st_X4_in ml_X4_37 nd_X4_in (by decide +kernel) (Nat.le_of_ble_eq_true rfl) rfl dX4_leavesIn_19 (fun r45 G44 q46 => ?_)
          obtain ⟨rfl, rfl⟩ := q46
          rw [if_pos (show ((0 : Int32) ≤ nI p ∧ (nI p : Int32) ≤ (nI (S.2.2 i).2.2.length) - 1) from (mo_inl hlt (by omega)))]
          refine cc_if_ne (tgt := 28) dX4_leavesIn_22 (by decide) (fun c_22_1 => ?_) (fun c_22_1 => ?_)
          · refine cc_aload_n (j := 0) dX4_leavesIn_28 rfl rfl ?_
            refine cc_iload_n (j := 1) dX4_leavesIn_29 rfl rfl ?_
            refine cc_iconst (v := 3) dX4_leavesIn_30 (by decide) ?_
            refine cc_iconst (v := 3) dX4_leavesIn_31 (by decide) ?_
            refine cc_iload_n (j := 2) dX4_leavesIn_32 rfl rfl ?_
            refine cc_imul dX4_leavesIn_33 ?_
            rw [show 3 * (nI p) = nI (3 * p) from pk_mul 3 p]
            refine cc_iadd dX4_leavesIn_34 ?_
            rw [show 3 + (nI (3 * p)) = nI (3 + 3 * p) from nI_add 3 (3 * p)]
            refine cc_callVi (As := [.int (nI i), .int (nI (3 + 3 * p))]) (rest := []) (ct_X4_by cy z _ _ _ _ _ _ _ _ _ _ _ _ _ i (3 + 3 * p) (by omega) H.self) ok_X4_by (H.2.1) rfl im_X4_by sl_X4_by ml_X4_69 nd_X4_by (by decide +kernel) (Nat.le_of_ble_eq_true rfl) rfl dX4_leavesIn_35 (fun r48 G47 q49 => ?_)
            obtain ⟨rfl, rfl⟩ := q49
            rw [show r (124 + 27 * i + (3 + 3 * p)) = ((S.2.2 i).2.2.getD p (0, 0, 0)).1 from (rq_at hq0 hlt).1]
            refine cc_istore_n (ls' := [(3, .int (((S.2.2 i).2.2.getD p (0, 0, 0)).1)), (0, .ref o), (1, .int (nI i)), (2, .int (nI p))]) dX4_leavesIn_38 rfl (Nat.le_of_ble_eq_true rfl) rfl ?_
            refine cc_aload_n (j := 1) dX4_leavesIn_39 rfl rfl ?_
            refine cc_callVv (As := []) (rest := []) (ct_X4_remember cy z _ _ _ _ _ _ _ _ _ _ _ _ _ H.self) ok_X4_remember (H.2.1) rfl im_X4_remember sl_X4_remember ml_X4_45 nd_X4_remember (by decide +kernel) (Nat.le_of_ble_eq_true rfl) rfl dX4_leavesIn_40 (fun G50 q52 => ?_)
            obtain ⟨b2, H53, hb2⟩ := q52
            have H53 := H.tr H53
            refine cc_iconst (v := 0) dX4_leavesIn_43 (by decide) ?_
            refine cc_istore (ls' := [(4, .int 0), (3, .int (((S.2.2 i).2.2.getD p (0, 0, 0)).1)), (0, .ref o), (1, .int (nI i)), (2, .int (nI p))]) dX4_leavesIn_44 (Nat.le_of_ble_eq_true rfl) rfl ?_
            have e : C_leavesIn (nI i) (nI p) (S, sn, hi, t) = (match B_leaves i ((S.2.2 i).2.2.getD p (0, 0, 0)).1 S 200 0 with | some k => nI k | none => (-5)) := by
              unfold C_leavesIn
              rw [if_pos (cc_pt hi4), C_i_n (by omega)]
              dsimp only
              rw [if_neg (show ¬ (nI p < 0 ∨ nI (S.2.2 i).2.2.length ≤ nI p) from fun h => h.elim hp_ (fun q => absurd hlt (by have := (nI_leI (by omega) hpj).mp q; omega))), C_i_n hpj]
              rfl
            rw [e]
            refine loop_46 i p ((S.2.2 i).2.2.getD p (0, 0, 0)).1 b2 hi4 hb2 201 0 _ _ _ _ (by omega) (by omega) H53 hw ?_
            have hmem : ((S.2.2 i).2.2.getD p (0, 0, 0)).1 ∈ (S.2.2 i).2.2.map (fun p => p.1) := List.mem_map.mpr ⟨_, cc_getD_mem hlt, rfl⟩
            exact (if_pos hmem).symm
          · exact absurd c_22_1 (by decide)
        · refine cc_iconst (v := 0) dX4_leavesIn_10 (by decide) ?_
          refine cc_aload_n (j := 0) dX4_leavesIn_11 rfl rfl ?_
          refine cc_iload_n (j := 1) dX4_leavesIn_12 rfl rfl ?_
          refine cc_iconst (v := 0) dX4_leavesIn_13 (by decide) ?_
          refine cc_callVi (As := [.int (nI i), .int 0]) (rest := [.int 0, .int (nI p)]) (ct_X4_by cy z _ _ _ _ _ _ _ _ _ _ _ _ _ i 0 (by omega) H.self) ok_X4_by (H.2.1) rfl im_X4_by sl_X4_by ml_X4_69 nd_X4_by (by decide +kernel) (Nat.le_of_ble_eq_true rfl) rfl dX4_leavesIn_14 (fun r55 G54 q56 => ?_)
          obtain ⟨rfl, rfl⟩ := q56
          rw [show r (124 + 27 * i + 0) = nI (S.2.2 i).2.2.length from hq0.1]
          refine cc_iconst (v := 1) dX4_leavesIn_17 (by decide) ?_
          refine cc_isub dX4_leavesIn_18 ?_
          refine cc_callSi (As := [.int (nI p), .int 0, .int ((nI (S.2.2 i).2.2.length) - 1)]) (rest := []) (ct_X4_in cy z _ (nI p) 0 ((nI (S.2.2 i).2.2.length) - 1)) ok_X4_in st_X4_in ml_X4_37 nd_X4_in (by decide +kernel) (Nat.le_of_ble_eq_true rfl) rfl dX4_leavesIn_19 (fun r58 G57 q59 => ?_)
          obtain ⟨rfl, rfl⟩ := q59
          rw [if_neg (show ¬ ((0 : Int32) ≤ nI p ∧ (nI p : Int32) ≤ (nI (S.2.2 i).2.2.length) - 1) from (mo_outl hlt (by omega) hpj))]
          refine cc_if_ne (tgt := 28) dX4_leavesIn_22 (by decide) (fun c_22_2 => ?_) (fun c_22_2 => ?_)
          · exact absurd c_22_2 (by decide)
          · refine cc_bipush (v := (-2)) dX4_leavesIn_25 (by decide) ?_
            refine cc_iret rfl rfl dX4_leavesIn_27 ?_
            have e : C_leavesIn (nI i) (nI p) (S, sn, hi, t) = (-2) := by
              unfold C_leavesIn
              rw [if_pos (cc_pt hi4), C_i_n (by omega)]
              dsimp only
              rw [if_pos (show nI p < 0 ∨ nI (S.2.2 i).2.2.length ≤ nI p from Or.inr (nI_le (by omega) hpj))]
            rw [e]
            
            exact ⟨_, rfl, rfl, ⟨_, _, _, _, _, _, _, _, _, _, _, H, hw, hS, rfl, hP, hl, rfl, hT, h60⟩⟩
    · exact absurd c_4 (by decide)
  · refine cc_iload_n (j := 1) dX4_leavesIn_0 rfl rfl ?_
    refine cc_callSi (As := [.int x1]) (rest := []) (ct_X4_noPort cy z _ x1) ok_X4_noPort st_X4_noPort ml_X4_58 nd_X4_noPort (by decide +kernel) (Nat.le_of_ble_eq_true rfl) rfl dX4_leavesIn_1 (fun r61 G60 q62 => ?_)
    obtain ⟨rfl, rfl⟩ := q62
    rw [if_neg hx]
    refine cc_if_eq (tgt := 9) dX4_leavesIn_4 (by decide) (fun c_4_1 => ?_) (fun c_4_1 => ?_)
    · exact absurd c_4_1 (by decide)
    · refine cc_iconst (v := (-1)) dX4_leavesIn_7 (by decide) ?_
      refine cc_iret rfl rfl dX4_leavesIn_8 ?_
      have e : C_leavesIn x1 x2 (S, sn, hi, t) = (-1) := by
        unfold C_leavesIn
        
        rw [if_neg hx]
      rw [e]
      
      exact ⟨_, rfl, rfl, ⟨_, _, _, _, _, _, _, _, _, _, _, H, hw, hS, rfl, hP, hl, rfl, hT, h60⟩⟩

set_option maxHeartbeats 4000000 in
set_option maxRecDepth 100000 in
theorem ct_X4_wouldSend (cy : Nat → ClassId) (z : Nat) (G : cc_G) (o : Nat) (c : CS_) (x1 x2 : Int32) (M : Nat) (hM : M < 2 ^ 20) (hok : C_ok M c) (hI : ma_I cy G G o c) : cc_Cn cy Y_X4_wouldSend [.ref o, .int x1, .int x2] z G (cc_qi (fun r9 G' => r9 = C_wouldSend x1 x2 c ∧ ma_I cy G G' o c)) := by
  obtain ⟨S, sn, hi, t⟩ := c
  obtain ⟨r, pa, qa, be, nn, ia, tx, le, ay, hs, so, H, hw, hS, hnn, hP, hl, hle, hT, h60⟩ := hI
  have H : mo_R cy G G o r pa qa be nn ia tx le ay hs so := H
  have hw : rw_I r S := hw
  have hS : ma_S ia qa sn := hS
  have hnn : nn = nI hi.length := hnn
  have hP : ma_P pa hi := hP
  have hl : hi.length ≤ 4 := hl
  have hle : le = nI t.length := hle
  have hT : ar_ tx t := hT
  have h60 : t.length ≤ 60 := h60
  subst hnn
  subst hle
  obtain ⟨T, hTk⟩ := hok.1
  have hTk : T ≤ 9999 ∧ B_ok T M S := hTk
  refine cc_enter ok_X4_wouldSend (Nat.le_of_ble_eq_true rfl) (ls := [(0, .ref o), (1, .int x1), (2, .int x2)]) rfl ?_
  by_cases htc : 1 ≤ x1 ∧ x1 ≤ 50
  · obtain ⟨n, rfl, hn1, hn2⟩ := cc_ticks htc
    refine cc_iload_n (j := 1) dX4_wouldSend_0 rfl rfl ?_
    refine cc_iconst (v := 1) dX4_wouldSend_1 (by decide) ?_
    refine cc_bipush (v := 50) dX4_wouldSend_2 (by decide) ?_
    refine cc_callSi (As := [.int (nI n), .int 1, .int 50]) (rest := []) (ct_X4_in cy z _ (nI n) 1 50) ok_X4_in st_X4_in ml_X4_37 nd_X4_in (by decide +kernel) (Nat.le_of_ble_eq_true rfl) rfl dX4_wouldSend_4 (fun r2 G1 q3 => ?_)
    obtain ⟨rfl, rfl⟩ := q3
    rw [if_pos (show ((1 : Int32) ≤ nI n ∧ (nI n : Int32) ≤ 50) from htc)]
    refine cc_if_eq (tgt := 19) dX4_wouldSend_7 (by decide) (fun c_7 => ?_) (fun c_7 => ?_)
    · exact absurd c_7 (by decide)
    · refine cc_iload_n (j := 2) dX4_wouldSend_10 rfl rfl ?_
      refine cc_iconst (v := 0) dX4_wouldSend_11 (by decide) ?_
      refine cc_iconst (v := 1) dX4_wouldSend_12 (by decide) ?_
      by_cases hin13 : 0 ≤ x2 ∧ x2 ≤ 1
      · refine cc_callSi (As := [.int x2, .int 0, .int 1]) (rest := []) (ct_X4_in cy z _ x2 0 1) ok_X4_in st_X4_in ml_X4_37 nd_X4_in (by decide +kernel) (Nat.le_of_ble_eq_true rfl) rfl dX4_wouldSend_13 (fun r5 G4 q6 => ?_)
        obtain ⟨rfl, rfl⟩ := q6
        rw [if_pos (show ((0 : Int32) ≤ x2 ∧ (x2 : Int32) ≤ 1) from hin13)]
        refine cc_if_ne (tgt := 22) dX4_wouldSend_16 (by decide) (fun c_16 => ?_) (fun c_16 => ?_)
        · refine cc_aload_n (j := 0) dX4_wouldSend_22 rfl rfl ?_
          refine cc_callVv (As := []) (rest := []) (ct_X4_remember cy z _ _ _ _ _ _ _ _ _ _ _ _ _ H.self) ok_X4_remember (H.2.1) rfl im_X4_remember sl_X4_remember ml_X4_45 nd_X4_remember (by decide +kernel) (Nat.le_of_ble_eq_true rfl) rfl dX4_wouldSend_23 (fun G7 q9 => ?_)
          obtain ⟨b2, H10, hb2⟩ := q9
          have H10 := H.tr H10
          refine cc_aload_n (j := 0) dX4_wouldSend_26 rfl rfl ?_
          refine cc_get (v := .ref (o + 1)) H10.2.1 cc_c4 0 (by decide) fl_X4_7 rfl dX4_wouldSend_27 ?_
          refine cc_iconst (v := 1) dX4_wouldSend_30 (by decide) ?_
          refine cc_iload_n (j := 2) dX4_wouldSend_31 rfl rfl ?_
          refine mo_rast_r (j := 1) H10 (vp_in_nI (n := 1) (by decide) (by decide)) rfl dX4_wouldSend_32 (fun G11 H12 => ?_)
          have hmd : B_ok T M (upd S.1 1 x2, S.2) := by
            refine ⟨hTk.2.1, ?_, hTk.2.2.2.1, hTk.2.2.2.2⟩
            show x2 = 0 ∨ x2 = 1
            rcases mo_w1 x2 with q | q | q
            · exact Or.inl q
            · exact Or.inr q
            · exact absurd hin13 q
          refine cc_aload_n (j := 0) dX4_wouldSend_33 rfl rfl ?_
          refine cc_iload_n (j := 1) dX4_wouldSend_34 rfl rfl ?_
          refine cc_callVi (As := [.int (nI n)]) (rest := []) (ct_X4_passAll cy z _ _ _ _ _ _ _ _ _ _ _ _ _ (upd S.1 1 x2, S.2) ((hw.eq (fun q _ => rfl)).top (k := 1) (by decide) x2) n (by omega) (hmd.midm hM (by omega)) H12.self) ok_X4_passAll (H12.2.1) rfl im_X4_passAll sl_X4_passAll ml_X4_123 nd_X4_passAll (by decide +kernel) (Nat.le_of_ble_eq_true rfl) rfl dX4_wouldSend_35 (fun r14 G13 q15 => ?_)
          obtain ⟨hr, rb, hsb, sob, H16, hwb⟩ := q15
          subst hr
          have H16 := H12.tr H16
          refine cc_istore_n (ls' := [(3, .int (nI (B_pass n (upd S.1 1 x2, S.2)).1)), (0, .ref o), (1, .int (nI n)), (2, .int x2)]) dX4_wouldSend_38 rfl (Nat.le_of_ble_eq_true rfl) rfl ?_
          refine cc_aload_n (j := 1) dX4_wouldSend_39 rfl rfl ?_
          refine cc_callVv (As := []) (rest := []) (ct_X4_goBack cy z _ _ _ _ _ _ _ _ _ _ _ _ _ H16.self) ok_X4_goBack (H16.2.1) rfl im_X4_goBack sl_X4_goBack ml_X4_93 nd_X4_goBack (by decide +kernel) (Nat.le_of_ble_eq_true rfl) rfl dX4_wouldSend_40 (fun G17 q19 => ?_)
          obtain ⟨rg, H20, hrg⟩ := q19
          have H20 := H16.tr H20
          refine cc_iload_n (j := 0) dX4_wouldSend_43 rfl rfl ?_
          refine cc_iret rfl rfl dX4_wouldSend_44 ?_
          have e : C_wouldSend (nI n) x2 (S, sn, hi, t) = nI (B_pass n (upd S.1 1 x2, S.2)).1 := by
            unfold C_wouldSend
            
            rw [if_pos ⟨htc, hin13⟩, C_i_n (by omega)]
          rw [e]
          
          exact ⟨_, rfl, rfl, ⟨_, _, _, _, _, _, _, _, _, _, _, H20, (hw.eq (fun q hq => (hrg q hq).trans (hb2 q hq))), hS, rfl, hP, hl, rfl, hT, h60⟩⟩
        · exact absurd c_16 (by decide)
      · refine cc_callSi (As := [.int x2, .int 0, .int 1]) (rest := []) (ct_X4_in cy z _ x2 0 1) ok_X4_in st_X4_in ml_X4_37 nd_X4_in (by decide +kernel) (Nat.le_of_ble_eq_true rfl) rfl dX4_wouldSend_13 (fun r22 G21 q23 => ?_)
        obtain ⟨rfl, rfl⟩ := q23
        rw [if_neg (show ¬ ((0 : Int32) ≤ x2 ∧ (x2 : Int32) ≤ 1) from hin13)]
        refine cc_if_ne (tgt := 22) dX4_wouldSend_16 (by decide) (fun c_16_1 => ?_) (fun c_16_1 => ?_)
        · exact absurd c_16_1 (by decide)
        · refine cc_bipush (v := (-2)) dX4_wouldSend_19 (by decide) ?_
          refine cc_iret rfl rfl dX4_wouldSend_21 ?_
          have e : C_wouldSend (nI n) x2 (S, sn, hi, t) = (-2) := by
            unfold C_wouldSend
            
            rw [if_neg (fun h => hin13 h.2)]
          rw [e]
          
          exact ⟨_, rfl, rfl, ⟨_, _, _, _, _, _, _, _, _, _, _, H, hw, hS, rfl, hP, hl, rfl, hT, h60⟩⟩
  · refine cc_iload_n (j := 1) dX4_wouldSend_0 rfl rfl ?_
    refine cc_iconst (v := 1) dX4_wouldSend_1 (by decide) ?_
    refine cc_bipush (v := 50) dX4_wouldSend_2 (by decide) ?_
    refine cc_callSi (As := [.int x1, .int 1, .int 50]) (rest := []) (ct_X4_in cy z _ x1 1 50) ok_X4_in st_X4_in ml_X4_37 nd_X4_in (by decide +kernel) (Nat.le_of_ble_eq_true rfl) rfl dX4_wouldSend_4 (fun r25 G24 q26 => ?_)
    obtain ⟨rfl, rfl⟩ := q26
    rw [if_neg (show ¬ ((1 : Int32) ≤ x1 ∧ (x1 : Int32) ≤ 50) from htc)]
    refine cc_if_eq (tgt := 19) dX4_wouldSend_7 (by decide) (fun c_7_1 => ?_) (fun c_7_1 => ?_)
    · refine cc_bipush (v := (-2)) dX4_wouldSend_19 (by decide) ?_
      refine cc_iret rfl rfl dX4_wouldSend_21 ?_
      have e : C_wouldSend x1 x2 (S, sn, hi, t) = (-2) := by
        unfold C_wouldSend
        
        rw [if_neg (fun h => htc h.1)]
      rw [e]
      
      exact ⟨_, rfl, rfl, ⟨_, _, _, _, _, _, _, _, _, _, _, H, hw, hS, rfl, hP, hl, rfl, hT, h60⟩⟩
    · exact absurd c_7_1 (by decide)

set_option maxHeartbeats 4000000 in
set_option maxRecDepth 100000 in
theorem ct_X4_count (cy : Nat → ClassId) (z : Nat) (G : cc_G) (o : Nat) (c : CS_) (x1 : Int32)  (hI : ma_I cy G G o c) : cc_Cn cy Y_X4_count [.ref o, .int x1] z G (cc_qi (fun r9 G' => r9 = C_count x1 c ∧ ma_I cy G G' o c)) := by
  obtain ⟨S, sn, hi, t⟩ := c
  obtain ⟨r, pa, qa, be, nn, ia, tx, le, ay, hs, so, H, hw, hS, hnn, hP, hl, hle, hT, h60⟩ := hI
  have H : mo_R cy G G o r pa qa be nn ia tx le ay hs so := H
  have hw : rw_I r S := hw
  have hS : ma_S ia qa sn := hS
  have hnn : nn = nI hi.length := hnn
  have hP : ma_P pa hi := hP
  have hl : hi.length ≤ 4 := hl
  have hle : le = nI t.length := hle
  have hT : ar_ tx t := hT
  have h60 : t.length ≤ 60 := h60
  subst hnn
  subst hle
  refine cc_enter ok_X4_count (Nat.le_of_ble_eq_true rfl) (ls := [(0, .ref o), (1, .int x1)]) rfl ?_
  refine cc_iload_n (j := 1) dX4_count_0 rfl rfl ?_
  rcases cc_sw12 x1 with rfl | rfl | rfl | rfl | rfl | rfl | rfl | rfl | rfl | rfl | rfl | rfl | rfl | c_1
  · refine cc_tableIn (off := 67) (tgt := 68) dX4_count_1 (by decide) (by decide) rfl (by decide) ?_
    refine cc_aload_n (j := 0) dX4_count_68 rfl rfl ?_
    refine cc_get (v := .ref (o + 1)) H.2.1 cc_c4 0 (by decide) fl_X4_7 rfl dX4_count_69 ?_
    refine cc_iconst (v := 0) dX4_count_72 (by decide) ?_
    refine cc_iald (x := r 0) H.2.2.1 (vp_in_nI (n := 0) (by decide) (by decide)) (by rw [show (0 : Int32).toNatClampNeg = 0 from rfl]) dX4_count_73 ?_
    rw [show r 0 = S.1 0 from hw.1]
    refine cc_iret rfl rfl dX4_count_74 ?_
    have e : C_count 0 (S, sn, hi, t) = S.1 0 := by
      unfold C_count
      rw [if_neg (by decide), if_neg (by decide)]
      unfold B_fig
      rw [if_pos rfl]
    rw [e]
    exact ⟨_, rfl, rfl, ⟨_, _, _, _, _, _, _, _, _, _, _, H, hw, hS, rfl, hP, hl, rfl, hT, h60⟩⟩
  · refine cc_tableIn (off := 74) (tgt := 75) dX4_count_1 (by decide) (by decide) rfl (by decide) ?_
    refine cc_aload_n (j := 0) dX4_count_75 rfl rfl ?_
    refine cc_get (v := .ref (o + 1)) H.2.1 cc_c4 0 (by decide) fl_X4_7 rfl dX4_count_76 ?_
    refine cc_iconst (v := 3) dX4_count_79 (by decide) ?_
    refine cc_iald (x := r 3) H.2.2.1 (vp_in_nI (n := 3) (by decide) (by decide)) (by rw [show (3 : Int32).toNatClampNeg = 3 from rfl]) dX4_count_80 ?_
    rw [show r 3 = S.1 3 from hw.2.2.2.1]
    refine cc_iret rfl rfl dX4_count_81 ?_
    have e : C_count 1 (S, sn, hi, t) = S.1 3 := by
      unfold C_count
      rw [if_neg (by decide), if_neg (by decide)]
      unfold B_fig
      rw [if_neg (by decide), if_pos rfl]
    rw [e]
    exact ⟨_, rfl, rfl, ⟨_, _, _, _, _, _, _, _, _, _, _, H, hw, hS, rfl, hP, hl, rfl, hT, h60⟩⟩
  · refine cc_tableIn (off := 81) (tgt := 82) dX4_count_1 (by decide) (by decide) rfl (by decide) ?_
    refine cc_aload_n (j := 0) dX4_count_82 rfl rfl ?_
    refine cc_iconst (v := 0) dX4_count_83 (by decide) ?_
    refine cc_iconst (v := 1) dX4_count_84 (by decide) ?_
    refine cc_callVi (As := [.int 0, .int 1]) (rest := []) (ct_X4_over_q cy z _ _ _ _ _ _ _ _ _ _ _ _ _ (fun i => Q_fig 0 (S.2.2 i)) 0 (by decide) (fun i hi => (hw.2.2.2.2.2 i hi).1) H.self) ok_X4_over (H.2.1) rfl im_X4_over sl_X4_over ml_X4_136 nd_X4_over (by decide +kernel) (Nat.le_of_ble_eq_true rfl) rfl dX4_count_85 (fun r2 G1 q3 => ?_)
    obtain ⟨hr, rfl⟩ := q3
    have hr : r2 = B_sq 0 S 4 := hr
    subst hr
    refine cc_iret rfl rfl dX4_count_88 ?_
    have e : C_count 2 (S, sn, hi, t) = B_sq 0 S 4 := by
      unfold C_count
      rw [if_neg (by decide), if_neg (by decide)]
      unfold B_fig
      rw [if_neg (by decide), if_neg (by decide), if_pos rfl]
    rw [e]
    exact ⟨_, rfl, rfl, ⟨_, _, _, _, _, _, _, _, _, _, _, H, hw, hS, rfl, hP, hl, rfl, hT, h60⟩⟩
  · refine cc_tableIn (off := 88) (tgt := 89) dX4_count_1 (by decide) (by decide) rfl (by decide) ?_
    refine cc_aload_n (j := 0) dX4_count_89 rfl rfl ?_
    refine cc_iconst (v := 5) dX4_count_90 (by decide) ?_
    refine cc_iconst (v := 0) dX4_count_91 (by decide) ?_
    refine cc_callVi (As := [.int 5, .int 0]) (rest := []) (ct_X4_over_l cy z _ _ _ _ _ _ _ _ _ _ _ _ _ (fun i => L_fig 8 (S.2.1 i)) 5 (by decide) (fun i hi => (hw.2.2.2.2.1 i hi).1 5 (by decide)) H.self) ok_X4_over (H.2.1) rfl im_X4_over sl_X4_over ml_X4_136 nd_X4_over (by decide +kernel) (Nat.le_of_ble_eq_true rfl) rfl dX4_count_92 (fun r5 G4 q6 => ?_)
    obtain ⟨hr, rfl⟩ := q6
    have hr : r5 = B_sl 8 S 4 := hr
    subst hr
    refine cc_iret rfl rfl dX4_count_95 ?_
    have e : C_count 3 (S, sn, hi, t) = B_sl 8 S 4 := by
      unfold C_count
      rw [if_neg (by decide), if_neg (by decide)]
      unfold B_fig
      rw [if_neg (by decide), if_neg (by decide), if_neg (by decide), if_pos rfl]
    rw [e]
    exact ⟨_, rfl, rfl, ⟨_, _, _, _, _, _, _, _, _, _, _, H, hw, hS, rfl, hP, hl, rfl, hT, h60⟩⟩
  · refine cc_tableIn (off := 95) (tgt := 96) dX4_count_1 (by decide) (by decide) rfl (by decide) ?_
    refine cc_aload_n (j := 0) dX4_count_96 rfl rfl ?_
    refine cc_bipush (v := 6) dX4_count_97 (by decide) ?_
    refine cc_iconst (v := 0) dX4_count_99 (by decide) ?_
    refine cc_callVi (As := [.int 6, .int 0]) (rest := []) (ct_X4_over_l cy z _ _ _ _ _ _ _ _ _ _ _ _ _ (fun i => L_fig 9 (S.2.1 i)) 6 (by decide) (fun i hi => (hw.2.2.2.2.1 i hi).1 6 (by decide)) H.self) ok_X4_over (H.2.1) rfl im_X4_over sl_X4_over ml_X4_136 nd_X4_over (by decide +kernel) (Nat.le_of_ble_eq_true rfl) rfl dX4_count_100 (fun r8 G7 q9 => ?_)
    obtain ⟨hr, rfl⟩ := q9
    have hr : r8 = B_sl 9 S 4 := hr
    subst hr
    refine cc_iret rfl rfl dX4_count_103 ?_
    have e : C_count 4 (S, sn, hi, t) = B_sl 9 S 4 := by
      unfold C_count
      rw [if_neg (by decide), if_neg (by decide)]
      unfold B_fig
      rw [if_neg (by decide), if_neg (by decide), if_neg (by decide), if_neg (by decide), if_pos rfl]
    rw [e]
    exact ⟨_, rfl, rfl, ⟨_, _, _, _, _, _, _, _, _, _, _, H, hw, hS, rfl, hP, hl, rfl, hT, h60⟩⟩
  · refine cc_tableIn (off := 103) (tgt := 104) dX4_count_1 (by decide) (by decide) rfl (by decide) ?_
    refine cc_aload_n (j := 0) dX4_count_104 rfl rfl ?_
    refine cc_bipush (v := 7) dX4_count_105 (by decide) ?_
    refine cc_iconst (v := 0) dX4_count_107 (by decide) ?_
    refine cc_callVi (As := [.int 7, .int 0]) (rest := []) (ct_X4_over_l cy z _ _ _ _ _ _ _ _ _ _ _ _ _ (fun i => L_fig 10 (S.2.1 i)) 7 (by decide) (fun i hi => (hw.2.2.2.2.1 i hi).1 7 (by decide)) H.self) ok_X4_over (H.2.1) rfl im_X4_over sl_X4_over ml_X4_136 nd_X4_over (by decide +kernel) (Nat.le_of_ble_eq_true rfl) rfl dX4_count_108 (fun r11 G10 q12 => ?_)
    obtain ⟨hr, rfl⟩ := q12
    have hr : r11 = B_sl 10 S 4 := hr
    subst hr
    refine cc_iret rfl rfl dX4_count_111 ?_
    have e : C_count 5 (S, sn, hi, t) = B_sl 10 S 4 := by
      unfold C_count
      rw [if_neg (by decide), if_neg (by decide)]
      unfold B_fig
      rw [if_neg (by decide), if_neg (by decide), if_neg (by decide), if_neg (by decide), if_neg (by decide), if_pos rfl]
    rw [e]
    exact ⟨_, rfl, rfl, ⟨_, _, _, _, _, _, _, _, _, _, _, H, hw, hS, rfl, hP, hl, rfl, hT, h60⟩⟩
  · refine cc_tableIn (off := 111) (tgt := 112) dX4_count_1 (by decide) (by decide) rfl (by decide) ?_
    refine cc_aload_n (j := 0) dX4_count_112 rfl rfl ?_
    refine cc_bipush (v := 9) dX4_count_113 (by decide) ?_
    refine cc_iconst (v := 0) dX4_count_115 (by decide) ?_
    refine cc_callVi (As := [.int 9, .int 0]) (rest := []) (ct_X4_over_l cy z _ _ _ _ _ _ _ _ _ _ _ _ _ (fun i => L_fig 4 (S.2.1 i)) 9 (by decide) (fun i hi => (hw.2.2.2.2.1 i hi).2.1) H.self) ok_X4_over (H.2.1) rfl im_X4_over sl_X4_over ml_X4_136 nd_X4_over (by decide +kernel) (Nat.le_of_ble_eq_true rfl) rfl dX4_count_116 (fun r14 G13 q15 => ?_)
    obtain ⟨hr, rfl⟩ := q15
    have hr : r14 = B_sl 4 S 4 := hr
    subst hr
    refine cc_iret rfl rfl dX4_count_119 ?_
    have e : C_count 6 (S, sn, hi, t) = B_sl 4 S 4 := by
      unfold C_count
      rw [if_neg (by decide), if_neg (by decide)]
      unfold B_fig
      rw [if_neg (by decide), if_neg (by decide), if_neg (by decide), if_neg (by decide), if_neg (by decide), if_neg (by decide), if_pos rfl]
    rw [e]
    exact ⟨_, rfl, rfl, ⟨_, _, _, _, _, _, _, _, _, _, _, H, hw, hS, rfl, hP, hl, rfl, hT, h60⟩⟩
  · refine cc_tableIn (off := 119) (tgt := 120) dX4_count_1 (by decide) (by decide) rfl (by decide) ?_
    refine cc_aload_n (j := 0) dX4_count_120 rfl rfl ?_
    refine cc_iconst (v := 1) dX4_count_121 (by decide) ?_
    refine cc_iconst (v := 1) dX4_count_122 (by decide) ?_
    refine cc_callVi (As := [.int 1, .int 1]) (rest := []) (ct_X4_over_q cy z _ _ _ _ _ _ _ _ _ _ _ _ _ (fun i => Q_fig 1 (S.2.2 i)) 1 (by decide) (fun i hi => (hw.2.2.2.2.2 i hi).2.1) H.self) ok_X4_over (H.2.1) rfl im_X4_over sl_X4_over ml_X4_136 nd_X4_over (by decide +kernel) (Nat.le_of_ble_eq_true rfl) rfl dX4_count_123 (fun r17 G16 q18 => ?_)
    obtain ⟨hr, rfl⟩ := q18
    have hr : r17 = B_sq 1 S 4 := hr
    subst hr
    refine cc_iret rfl rfl dX4_count_126 ?_
    have e : C_count 7 (S, sn, hi, t) = B_sq 1 S 4 := by
      unfold C_count
      rw [if_neg (by decide), if_neg (by decide)]
      unfold B_fig
      rw [if_neg (by decide), if_neg (by decide), if_neg (by decide), if_neg (by decide), if_neg (by decide), if_neg (by decide), if_neg (by decide), if_pos rfl]
    rw [e]
    exact ⟨_, rfl, rfl, ⟨_, _, _, _, _, _, _, _, _, _, _, H, hw, hS, rfl, hP, hl, rfl, hT, h60⟩⟩
  · refine cc_tableIn (off := 126) (tgt := 127) dX4_count_1 (by decide) (by decide) rfl (by decide) ?_
    refine cc_aload_n (j := 0) dX4_count_127 rfl rfl ?_
    refine cc_get (v := .ref (o + 1)) H.2.1 cc_c4 0 (by decide) fl_X4_7 rfl dX4_count_128 ?_
    refine cc_iconst (v := 1) dX4_count_131 (by decide) ?_
    refine cc_iald (x := r 1) H.2.2.1 (vp_in_nI (n := 1) (by decide) (by decide)) (by rw [show (1 : Int32).toNatClampNeg = 1 from rfl]) dX4_count_132 ?_
    rw [show r 1 = S.1 1 from hw.2.1]
    refine cc_iret rfl rfl dX4_count_133 ?_
    have e : C_count 8 (S, sn, hi, t) = S.1 1 := by
      unfold C_count
      rw [if_neg (by decide), if_neg (by decide)]
      unfold B_fig
      rw [if_neg (by decide), if_neg (by decide), if_neg (by decide), if_neg (by decide), if_neg (by decide), if_neg (by decide), if_neg (by decide), if_neg (by decide), if_pos rfl]
    rw [e]
    exact ⟨_, rfl, rfl, ⟨_, _, _, _, _, _, _, _, _, _, _, H, hw, hS, rfl, hP, hl, rfl, hT, h60⟩⟩
  · refine cc_tableIn (off := 133) (tgt := 134) dX4_count_1 (by decide) (by decide) rfl (by decide) ?_
    refine cc_aload_n (j := 0) dX4_count_134 rfl rfl ?_
    refine cc_get (v := .ref (o + 1)) H.2.1 cc_c4 0 (by decide) fl_X4_7 rfl dX4_count_135 ?_
    refine cc_iconst (v := 2) dX4_count_138 (by decide) ?_
    refine cc_iald (x := r 2) H.2.2.1 (vp_in_nI (n := 2) (by decide) (by decide)) (by rw [show (2 : Int32).toNatClampNeg = 2 from rfl]) dX4_count_139 ?_
    rw [show r 2 = S.1 2 from hw.2.2.1]
    refine cc_iret rfl rfl dX4_count_140 ?_
    have e : C_count 9 (S, sn, hi, t) = S.1 2 := by
      unfold C_count
      rw [if_neg (by decide), if_neg (by decide)]
      unfold B_fig
      rw [if_neg (by decide), if_neg (by decide), if_neg (by decide), if_neg (by decide), if_neg (by decide), if_neg (by decide), if_neg (by decide), if_neg (by decide), if_neg (by decide), if_pos rfl]
    rw [e]
    exact ⟨_, rfl, rfl, ⟨_, _, _, _, _, _, _, _, _, _, _, H, hw, hS, rfl, hP, hl, rfl, hT, h60⟩⟩
  · refine cc_tableIn (off := 140) (tgt := 141) dX4_count_1 (by decide) (by decide) rfl (by decide) ?_
    refine cc_aload_n (j := 0) dX4_count_141 rfl rfl ?_
    refine cc_callVi (As := []) (rest := []) (ct_X4_stuckOnes cy z _ _ _ _ _ _ _ _ _ _ _ _ _ S hw H.self) ok_X4_stuckOnes (H.2.1) rfl im_X4_stuckOnes sl_X4_stuckOnes ml_X4_140 nd_X4_stuckOnes (by decide +kernel) (Nat.le_of_ble_eq_true rfl) rfl dX4_count_142 (fun r20 G19 q21 => ?_)
    obtain ⟨rfl, rfl⟩ := q21
    refine cc_iret rfl rfl dX4_count_145 ?_
    have e : C_count 10 (S, sn, hi, t) = nI (B_stn S 4) := by
      unfold C_count
      rw [if_neg (by decide), if_neg (by decide)]
      unfold B_fig
      rw [if_neg (by decide), if_neg (by decide), if_neg (by decide), if_neg (by decide), if_neg (by decide), if_neg (by decide), if_neg (by decide), if_neg (by decide), if_neg (by decide), if_neg (by decide), if_pos rfl]
    rw [e]
    exact ⟨_, rfl, rfl, ⟨_, _, _, _, _, _, _, _, _, _, _, H, hw, hS, rfl, hP, hl, rfl, hT, h60⟩⟩
  · refine cc_tableIn (off := 145) (tgt := 146) dX4_count_1 (by decide) (by decide) rfl (by decide) ?_
    refine cc_aload_n (j := 0) dX4_count_146 rfl rfl ?_
    refine cc_get (v := .int (nI hi.length)) H.2.1 cc_c4 4 (by decide) fl_X4_41 rfl dX4_count_147 ?_
    refine cc_iret rfl rfl dX4_count_150 ?_
    have e : C_count 11 (S, sn, hi, t) = nI hi.length := by
      unfold C_count
      rw [if_pos rfl]
    rw [e]
    exact ⟨_, rfl, rfl, ⟨_, _, _, _, _, _, _, _, _, _, _, H, hw, hS, rfl, hP, hl, rfl, hT, h60⟩⟩
  · refine cc_tableIn (off := 150) (tgt := 151) dX4_count_1 (by decide) (by decide) rfl (by decide) ?_
    refine cc_aload_n (j := 0) dX4_count_151 rfl rfl ?_
    refine cc_get (v := .int (nI t.length)) H.2.1 cc_c4 7 (by decide) fl_X4_79 rfl dX4_count_152 ?_
    refine cc_iret rfl rfl dX4_count_155 ?_
    have e : C_count 12 (S, sn, hi, t) = nI t.length := by
      unfold C_count
      rw [if_neg (by decide), if_pos rfl]
    rw [e]
    exact ⟨_, rfl, rfl, ⟨_, _, _, _, _, _, _, _, _, _, _, H, hw, hS, rfl, hP, hl, rfl, hT, h60⟩⟩
  · refine cc_tableOut (tgt := 156) dX4_count_1 c_1 (by decide) ?_
    refine cc_bipush (v := (-2)) dX4_count_156 (by decide) ?_
    refine cc_iret rfl rfl dX4_count_158 ?_
    have e : C_count x1 (S, sn, hi, t) = (-2) := by
      unfold C_count
      rw [if_neg (fun q => by subst q; exact absurd c_1 (by decide)), if_neg (fun q => by subst q; exact absurd c_1 (by decide))]
      unfold B_fig
      rw [if_neg (fun q => by subst q; exact absurd c_1 (by decide)), if_neg (fun q => by subst q; exact absurd c_1 (by decide)), if_neg (fun q => by subst q; exact absurd c_1 (by decide)), if_neg (fun q => by subst q; exact absurd c_1 (by decide)), if_neg (fun q => by subst q; exact absurd c_1 (by decide)), if_neg (fun q => by subst q; exact absurd c_1 (by decide)), if_neg (fun q => by subst q; exact absurd c_1 (by decide)), if_neg (fun q => by subst q; exact absurd c_1 (by decide)), if_neg (fun q => by subst q; exact absurd c_1 (by decide)), if_neg (fun q => by subst q; exact absurd c_1 (by decide)), if_neg (fun q => by subst q; exact absurd c_1 (by decide))]
    rw [e]
    exact ⟨_, rfl, rfl, ⟨_, _, _, _, _, _, _, _, _, _, _, H, hw, hS, rfl, hP, hl, rfl, hT, h60⟩⟩
