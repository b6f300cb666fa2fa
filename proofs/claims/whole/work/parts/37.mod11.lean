theorem T_f0 {u : Nat → Int32} {n a : Nat} (h0 : T_s u a = 0) (ha : a ≤ n) (h : ¬ (a < n ∧ 48 ≤ u a ∧ u a ≤ 51)) : T_flt u n a = some a := by
  rcases Nat.lt_or_ge a n with q | q
  · exact T_bad q ((T_ss h0).trans (T_d0n (fun q2 => h ⟨q, q2⟩)))
  · have e : a = n := by omega
    subst e
    exact T_early (fun q => by rw [h0] at q; exact absurd q (by decide))
theorem T_f1 {u : Nat → Int32} {n a : Nat} (h0 : T_s u a = 1) (ha : a ≤ n) (h : ¬ (a < n ∧ 62 ≤ u a ∧ u a ≤ 62)) : T_flt u n a = some a := by
  rcases Nat.lt_or_ge a n with q | q
  · exact T_bad q ((T_ss h0).trans (T_d1n (fun q2 => h ⟨q, by rw [q2]; decide⟩)))
  · have e : a = n := by omega
    subst e
    exact T_early (fun q => by rw [h0] at q; exact absurd q (by decide))
theorem T_f2 {u : Nat → Int32} {n a : Nat} (h0 : T_s u a = 2) (ha : a ≤ n) (h : ¬ (a < n ∧ 48 ≤ u a ∧ u a ≤ 51)) : T_flt u n a = some a := by
  rcases Nat.lt_or_ge a n with q | q
  · exact T_bad q ((T_ss h0).trans (T_d2n (fun q2 => h ⟨q, q2⟩)))
  · have e : a = n := by omega
    subst e
    exact T_early (fun q => by rw [h0] at q; exact absurd q (by decide))
theorem T_f4 {u : Nat → Int32} {n a : Nat} (h0 : T_s u a = 4) (ha : a ≤ n) (h : ¬ (a < n ∧ 49 ≤ u a ∧ u a ≤ 57)) : T_flt u n a = some a := by
  rcases Nat.lt_or_ge a n with q | q
  · exact T_bad q ((T_ss h0).trans (T_d4n (fun q2 => h ⟨q, q2⟩)))
  · have e : a = n := by omega
    subst e
    exact T_early (fun q => by rw [h0] at q; exact absurd q (by decide))
theorem T_st {u : Nat → Int32} {n a : Nat} {d d' : Int32} (h0 : T_s u a = d) (h : a < n) (e : T_d d (u a) = d') (hd : ¬ d' = -1) : T_s u (a + 1) = d' ∧ T_flt u n a = T_flt u n (a + 1) := by
  have h1 : T_s u (a + 1) = d' := (T_ss h0).trans e
  exact ⟨h1, T_go h (by rw [h1]; exact hd)⟩
theorem T_one {c x : Int32} (h : c ≤ x ∧ x ≤ c) : x = c := Int32.le_antisymm h.2 h.1

set_option maxHeartbeats 4000000 in
set_option maxRecDepth 100000 in
theorem ct_X4_sees (cy : Nat → ClassId) (z : Nat) (G : cc_G) (o : Nat) (r pa qa be : Nat → Int32) (nn ia : Int32) (tx : Nat → Int32) (le ay : Int32) (hs so : Nat → Int32) (u : Nat → Int32) (n a : Nat) (hn : n ≤ 60) (ha : a ≤ n) (hu : ∀ k, k < n → tx k = u k) (x1 x2 : Int32) (H : mo_R cy G G o r pa qa be nn ia tx le ay hs so) (hay : ay = nI a) (hle : le = nI n) : cc_Cn cy Y_X4_sees [.ref o, .int x1, .int x2] z G (cc_qi (fun r9 G' => r9 = (if a < n ∧ x1 ≤ u a ∧ u a ≤ x2 then 1 else 0) ∧ G' = G)) := by
  subst hay
  subst hle
  refine cc_enter ok_X4_sees (Nat.le_of_ble_eq_true rfl) (ls := [(0, .ref o), (1, .int x1), (2, .int x2)]) rfl ?_
  refine cc_aload_n (j := 0) dX4_sees_0 rfl rfl ?_
  refine cc_get (v := .int (nI a)) H.2.1 cc_c4 8 (by decide) fl_X4_76 rfl dX4_sees_1 ?_
  refine cc_aload_n (j := 0) dX4_sees_4 rfl rfl ?_
  refine cc_get (v := .int (nI n)) H.2.1 cc_c4 7 (by decide) fl_X4_79 rfl dX4_sees_5 ?_
  refine cc_icmp_ge (tgt := 32) dX4_sees_8 (by decide) (fun c_8 => ?_) (fun c_8 => ?_)
  · have hge : n ≤ a := cc_ngt _ c_8 (by omega) (by omega)
    refine cc_iconst (v := 0) dX4_sees_32 (by decide) ?_
    refine cc_iret rfl rfl dX4_sees_33 ?_
    exact ⟨_, rfl, (if_neg (fun q => absurd q.1 (by omega))).symm, rfl⟩
  · have hlt : a < n := cc_nlt _ c_8 (by omega)
    refine cc_aload_n (j := 0) dX4_sees_11 rfl rfl ?_
    refine cc_get (v := .ref (o + 5)) H.2.1 cc_c4 6 (by decide) fl_X4_22 rfl dX4_sees_12 ?_
    refine cc_aload_n (j := 0) dX4_sees_15 rfl rfl ?_
    refine cc_get (v := .int (nI a)) H.2.1 cc_c4 8 (by decide) fl_X4_76 rfl dX4_sees_16 ?_
    refine cc_cald (x := tx a) H.2.2.2.2.2.2.1 (vp_in_nI (n := a) (by omega) (by decide)) (by rw [(nI_clamp (by omega))]) dX4_sees_19 ?_
    rw [show tx a = u a from hu a hlt]
    refine cc_iload_n (j := 1) dX4_sees_20 rfl rfl ?_
    refine cc_iload_n (j := 2) dX4_sees_21 rfl rfl ?_
    by_cases hin22 : x1 ≤ u a ∧ u a ≤ x2
    · refine cc_callSi (As := [.int (u a), .int x1, .int x2]) (rest := []) (ct_X4_in cy z _ (u a) x1 x2) ok_X4_in st_X4_in ml_X4_37 nd_X4_in (by decide +kernel) (Nat.le_of_ble_eq_true rfl) rfl dX4_sees_22 (fun r2 G1 q3 => ?_)
      obtain ⟨rfl, rfl⟩ := q3
      rw [if_pos (show ((x1 : Int32) ≤ u a ∧ (u a : Int32) ≤ x2) from hin22)]
      refine cc_if_eq (tgt := 32) dX4_sees_25 (by decide) (fun c_25 => ?_) (fun c_25 => ?_)
      · exact absurd c_25 (by decide)
      · refine cc_iconst (v := 1) dX4_sees_28 (by decide) ?_
        refine cc_goto (tgt := 33) dX4_sees_29 (by decide) ?_
        refine cc_iret rfl rfl dX4_sees_33 ?_
        exact ⟨_, rfl, (if_pos ⟨hlt, hin22⟩).symm, rfl⟩
    · refine cc_callSi (As := [.int (u a), .int x1, .int x2]) (rest := []) (ct_X4_in cy z _ (u a) x1 x2) ok_X4_in st_X4_in ml_X4_37 nd_X4_in (by decide +kernel) (Nat.le_of_ble_eq_true rfl) rfl dX4_sees_22 (fun r5 G4 q6 => ?_)
      obtain ⟨rfl, rfl⟩ := q6
      rw [if_neg (show ¬ ((x1 : Int32) ≤ u a ∧ (u a : Int32) ≤ x2) from hin22)]
      refine cc_if_eq (tgt := 32) dX4_sees_25 (by decide) (fun c_25_1 => ?_) (fun c_25_1 => ?_)
      · refine cc_iconst (v := 0) dX4_sees_32 (by decide) ?_
        refine cc_iret rfl rfl dX4_sees_33 ?_
        exact ⟨_, rfl, (if_neg (fun q => hin22 q.2)).symm, rfl⟩
      · exact absurd c_25_1 (by decide)

set_option maxHeartbeats 4000000 in
set_option maxRecDepth 100000 in
theorem ct_X4_arrival_0 (cy : Nat → ClassId) (z : Nat) (G : cc_G) (o : Nat) (r pa qa be : Nat → Int32) (nn ia : Int32) (tx : Nat → Int32) (le ay : Int32) (hs so : Nat → Int32) (u : Nat → Int32) (n a : Nat) (hn : n ≤ 60) (ha : a ≤ n) (hu : ∀ k, k < n → tx k = u k) (h0 : T_s u a = 0) (H : mo_R cy G G o r pa qa be nn ia tx le ay hs so) (hay : ay = nI a) (hle : le = nI n) : cc_Cn cy Y_X4_arrival [.ref o, .int 0] z G (cc_qi (fun r9 G' => ∃ ay', mo_R cy G G' o r pa qa be nn ia tx le ay' hs so ∧ ((r9 = (-100) ∧ ∃ k, ay' = nI k ∧ k ≤ n ∧ T_flt u n a = some k) ∨ ∃ m e : Nat, r9 = nI m ∧ 1 ≤ m ∧ m ≤ 9 ∧ ay' = nI e ∧ e ≤ n ∧ a < e ∧ T_flt u n a = T_flt u n e ∧ ((T_s u e = 3 ∧ ¬ (e < n ∧ u e = 42)) ∨ T_s u e = 5)))) := by
  subst hay
  subst hle
  refine cc_enter ok_X4_arrival (Nat.le_of_ble_eq_true rfl) (ls := [(0, .ref o), (1, .int 0)]) rfl ?_
  refine cc_aload_n (j := 0) dX4_arrival_0 rfl rfl ?_
  refine cc_bipush (v := 48) dX4_arrival_1 (by decide) ?_
  refine cc_bipush (v := 51) dX4_arrival_3 (by decide) ?_
  by_cases hse5 : a < n ∧ 48 ≤ u a ∧ u a ≤ 51
  · obtain ⟨s1, F1⟩ := T_st h0 hse5.1 (T_d0 hse5.2) (by decide)
    obtain ⟨i0, hi1, hi2, ei0⟩ := T_rng (a := 48) (b := 51) (by decide) hse5.2 (by decide)
    obtain ⟨i, rfl⟩ : ∃ i, i0 = 48 + i := ⟨i0 - 48, by omega⟩
    refine cc_callVi (As := [.int 48, .int 51]) (rest := []) (ct_X4_sees cy z _ _ _ _ _ _ _ _ _ _ _ _ _ u n a hn (by omega) hu 48 51 H.self rfl rfl) ok_X4_sees (H.2.1) rfl im_X4_sees sl_X4_sees ml_X4_82 nd_X4_sees (by decide +kernel) (Nat.le_of_ble_eq_true rfl) rfl dX4_arrival_5 (fun r2 G1 q3 => ?_)
    obtain ⟨rfl, rfl⟩ := q3
    rw [if_pos (show (a < n ∧ (48 : Int32) ≤ u a ∧ u a ≤ (51 : Int32)) from hse5)]
    refine cc_if_ne (tgt := 14) dX4_arrival_8 (by decide) (fun c_8 => ?_) (fun c_8 => ?_)
    · refine cc_aload_n (j := 0) dX4_arrival_14 rfl rfl ?_
      refine cc_get (v := .ref (o + 5)) H.2.1 cc_c4 6 (by decide) fl_X4_22 rfl dX4_arrival_15 ?_
      refine cc_aload_n (j := 0) dX4_arrival_18 rfl rfl ?_
      refine cc_get (v := .int (nI a)) H.2.1 cc_c4 8 (by decide) fl_X4_76 rfl dX4_arrival_19 ?_
      refine cc_cald (x := tx a) H.2.2.2.2.2.2.1 (vp_in_nI (n := a) (by omega) (by decide)) (by rw [(nI_clamp (by omega))]) dX4_arrival_22 ?_
      rw [show tx a = nI (48 + i) from (hu _ (by omega)).trans ei0]
      refine cc_bipush (v := 48) dX4_arrival_23 (by decide) ?_
      refine cc_isub dX4_arrival_25 ?_
      rw [show (nI (48 + i)) - 48 = nI i from T_c48]
      refine cc_istore_n (ls' := [(2, .int (nI i)), (0, .ref o), (1, .int 0)]) dX4_arrival_26 rfl (Nat.le_of_ble_eq_true rfl) rfl ?_
      refine cc_aload_n (j := 1) dX4_arrival_27 rfl rfl ?_
      refine cc_dup dX4_arrival_28 rfl ?_
      refine cc_get (v := .int (nI a)) H.2.1 cc_c4 8 (by decide) fl_X4_76 rfl dX4_arrival_29 ?_
      refine cc_iconst (v := 1) dX4_arrival_32 (by decide) ?_
      refine cc_iadd dX4_arrival_33 ?_
      rw [show (nI a) + 1 = nI (a + 1) from nI_1 _]
      refine mo_rput (nn' := nn) (ia' := ia) (le' := (nI n)) (ay' := (nI (a + 1))) H cc_c4 8 (by decide) fl_X4_76 rfl rfl rfl rfl rfl dX4_arrival_34 (fun G4 H5 => ?_)
      refine cc_aload_n (j := 1) dX4_arrival_37 rfl rfl ?_
      refine cc_bipush (v := 62) dX4_arrival_38 (by decide) ?_
      refine cc_bipush (v := 62) dX4_arrival_40 (by decide) ?_
      by_cases hse42 : a + 1 < n ∧ 62 ≤ u (a + 1) ∧ u (a + 1) ≤ 62
      · obtain ⟨s2, F2⟩ := T_st s1 hse42.1 (T_d1 (T_one hse42.2)) (by decide)
        refine cc_callVi (As := [.int 62, .int 62]) (rest := []) (ct_X4_sees cy z _ _ _ _ _ _ _ _ _ _ _ _ _ u n (a + 1) hn (by omega) hu 62 62 H5.self rfl rfl) ok_X4_sees (H5.2.1) rfl im_X4_sees sl_X4_sees ml_X4_82 nd_X4_sees (by decide +kernel) (Nat.le_of_ble_eq_true rfl) rfl dX4_arrival_42 (fun r7 G6 q8 => ?_)
        obtain ⟨rfl, rfl⟩ := q8
        rw [if_pos (show (a + 1 < n ∧ (62 : Int32) ≤ u (a + 1) ∧ u (a + 1) ≤ (62 : Int32)) from hse42)]
        refine cc_if_ne (tgt := 51) dX4_arrival_45 (by decide) (fun c_45 => ?_) (fun c_45 => ?_)
        · refine cc_aload_n (j := 1) dX4_arrival_51 rfl rfl ?_
          refine cc_dup dX4_arrival_52 rfl ?_
          refine cc_get (v := .int (nI (a + 1))) H5.2.1 cc_c4 8 (by decide) fl_X4_76 rfl dX4_arrival_53 ?_
          refine cc_iconst (v := 1) dX4_arrival_56 (by decide) ?_
          refine cc_iadd dX4_arrival_57 ?_
          rw [show (nI (a + 1)) + 1 = nI (a + 1 + 1) from nI_1 _]
          refine mo_rput (nn' := nn) (ia' := ia) (le' := (nI n)) (ay' := (nI (a + 1 + 1))) H5 cc_c4 8 (by decide) fl_X4_76 rfl rfl rfl rfl rfl dX4_arrival_58 (fun G9 H10 => ?_)
          refine cc_aload_n (j := 1) dX4_arrival_61 rfl rfl ?_
          refine cc_bipush (v := 48) dX4_arrival_62 (by decide) ?_
          refine cc_bipush (v := 51) dX4_arrival_64 (by decide) ?_
          by_cases hse66 : a + 1 + 1 < n ∧ 48 ≤ u (a + 1 + 1) ∧ u (a + 1 + 1) ≤ 51
          · obtain ⟨s3, F3⟩ := T_st s2 hse66.1 (T_d2 hse66.2) (by decide)
            obtain ⟨o0, ho1, ho2, eo0⟩ := T_rng (a := 48) (b := 51) (by decide) hse66.2 (by decide)
            obtain ⟨o9, rfl⟩ : ∃ i, o0 = 48 + i := ⟨o0 - 48, by omega⟩
            refine cc_callVi (As := [.int 48, .int 51]) (rest := []) (ct_X4_sees cy z _ _ _ _ _ _ _ _ _ _ _ _ _ u n (a + 1 + 1) hn (by omega) hu 48 51 H10.self rfl rfl) ok_X4_sees (H10.2.1) rfl im_X4_sees sl_X4_sees ml_X4_82 nd_X4_sees (by decide +kernel) (Nat.le_of_ble_eq_true rfl) rfl dX4_arrival_66 (fun r12 G11 q13 => ?_)
            obtain ⟨rfl, rfl⟩ := q13
            rw [if_pos (show (a + 1 + 1 < n ∧ (48 : Int32) ≤ u (a + 1 + 1) ∧ u (a + 1 + 1) ≤ (51 : Int32)) from hse66)]
            refine cc_if_ne (tgt := 75) dX4_arrival_69 (by decide) (fun c_69 => ?_) (fun c_69 => ?_)
            · refine cc_aload_n (j := 1) dX4_arrival_75 rfl rfl ?_
              refine cc_get (v := .ref (o + 5)) H10.2.1 cc_c4 6 (by decide) fl_X4_22 rfl dX4_arrival_76 ?_
              refine cc_aload_n (j := 1) dX4_arrival_79 rfl rfl ?_
              refine cc_get (v := .int (nI (a + 1 + 1))) H10.2.1 cc_c4 8 (by decide) fl_X4_76 rfl dX4_arrival_80 ?_
              refine cc_cald (x := tx (a + 1 + 1)) H10.2.2.2.2.2.2.1 (vp_in_nI (n := (a + 1 + 1)) (by omega) (by decide)) (by rw [(nI_clamp (by omega))]) dX4_arrival_83 ?_
              rw [show tx (a + 1 + 1) = nI (48 + o9) from (hu _ (by omega)).trans eo0]
              refine cc_bipush (v := 48) dX4_arrival_84 (by decide) ?_
              refine cc_isub dX4_arrival_86 ?_
              rw [show (nI (48 + o9)) - 48 = nI o9 from T_c48]
              refine cc_istore_n (ls' := [(3, .int (nI o9)), (2, .int (nI i)), (0, .ref o), (1, .int 0)]) dX4_arrival_87 rfl (Nat.le_of_ble_eq_true rfl) rfl ?_
              refine cc_aload_n (j := 2) dX4_arrival_88 rfl rfl ?_
              refine cc_dup dX4_arrival_89 rfl ?_
              refine cc_get (v := .int (nI (a + 1 + 1))) H10.2.1 cc_c4 8 (by decide) fl_X4_76 rfl dX4_arrival_90 ?_
              refine cc_iconst (v := 1) dX4_arrival_93 (by decide) ?_
              refine cc_iadd dX4_arrival_94 ?_
              rw [show (nI (a + 1 + 1)) + 1 = nI (a + 1 + 1 + 1) from nI_add (a + 1 + 1) 1]
              refine mo_rput (nn' := nn) (ia' := ia) (le' := (nI n)) (ay' := (nI (a + 1 + 1 + 1))) H10 cc_c4 8 (by decide) fl_X4_76 rfl rfl rfl rfl rfl dX4_arrival_95 (fun G14 H15 => ?_)
              refine cc_iconst (v := 1) dX4_arrival_98 (by decide) ?_
              refine cc_istore (ls' := [(4, .int 1), (3, .int (nI o9)), (2, .int (nI i)), (0, .ref o), (1, .int 0)]) dX4_arrival_99 (Nat.le_of_ble_eq_true rfl) rfl ?_
              refine cc_aload_n (j := 3) dX4_arrival_101 rfl rfl ?_
              refine cc_bipush (v := 42) dX4_arrival_102 (by decide) ?_
              refine cc_bipush (v := 42) dX4_arrival_104 (by decide) ?_
              by_cases hse106 : a + 1 + 1 + 1 < n ∧ 42 ≤ u (a + 1 + 1 + 1) ∧ u (a + 1 + 1 + 1) ≤ 42
              · obtain ⟨s4, F4⟩ := T_st s3 hse106.1 (T_d3s (T_one hse106.2)) (by decide)
                refine cc_callVi (As := [.int 42, .int 42]) (rest := []) (ct_X4_sees cy z _ _ _ _ _ _ _ _ _ _ _ _ _ u n (a + 1 + 1 + 1) hn (by omega) hu 42 42 H15.self rfl rfl) ok_X4_sees (H15.2.1) rfl im_X4_sees sl_X4_sees ml_X4_82 nd_X4_sees (by decide +kernel) (Nat.le_of_ble_eq_true rfl) rfl dX4_arrival_106 (fun r17 G16 q18 => ?_)
                obtain ⟨rfl, rfl⟩ := q18
                rw [if_pos (show (a + 1 + 1 + 1 < n ∧ (42 : Int32) ≤ u (a + 1 + 1 + 1) ∧ u (a + 1 + 1 + 1) ≤ (42 : Int32)) from hse106)]
                refine cc_if_eq (tgt := 160) dX4_arrival_109 (by decide) (fun c_109 => ?_) (fun c_109 => ?_)
                · exact absurd c_109 (by decide)
                · refine cc_aload_n (j := 3) dX4_arrival_112 rfl rfl ?_
                  refine cc_dup dX4_arrival_113 rfl ?_
                  refine cc_get (v := .int (nI (a + 1 + 1 + 1))) H15.2.1 cc_c4 8 (by decide) fl_X4_76 rfl dX4_arrival_114 ?_
                  refine cc_iconst (v := 1) dX4_arrival_117 (by decide) ?_
                  refine cc_iadd dX4_arrival_118 ?_
                  rw [show (nI (a + 1 + 1 + 1)) + 1 = nI (a + 1 + 1 + 1 + 1) from nI_add (a + 1 + 1 + 1) 1]
                  refine mo_rput (nn' := nn) (ia' := ia) (le' := (nI n)) (ay' := (nI (a + 1 + 1 + 1 + 1))) H15 cc_c4 8 (by decide) fl_X4_76 rfl rfl rfl rfl rfl dX4_arrival_119 (fun G19 H20 => ?_)
                  refine cc_aload_n (j := 3) dX4_arrival_122 rfl rfl ?_
                  refine cc_bipush (v := 49) dX4_arrival_123 (by decide) ?_
                  refine cc_bipush (v := 57) dX4_arrival_125 (by decide) ?_
                  by_cases hse127 : a + 1 + 1 + 1 + 1 < n ∧ 49 ≤ u (a + 1 + 1 + 1 + 1) ∧ u (a + 1 + 1 + 1 + 1) ≤ 57
                  · obtain ⟨s5, F5⟩ := T_st s4 hse127.1 (T_d4 hse127.2) (by decide)
                    obtain ⟨m0, hm1, hm2, em0⟩ := T_rng (a := 49) (b := 57) (by decide) hse127.2 (by decide)
                    obtain ⟨m, rfl⟩ : ∃ i, m0 = 48 + i := ⟨m0 - 48, by omega⟩
                    refine cc_callVi (As := [.int 49, .int 57]) (rest := []) (ct_X4_sees cy z _ _ _ _ _ _ _ _ _ _ _ _ _ u n (a + 1 + 1 + 1 + 1) hn (by omega) hu 49 57 H20.self rfl rfl) ok_X4_sees (H20.2.1) rfl im_X4_sees sl_X4_sees ml_X4_82 nd_X4_sees (by decide +kernel) (Nat.le_of_ble_eq_true rfl) rfl dX4_arrival_127 (fun r22 G21 q23 => ?_)
                    obtain ⟨rfl, rfl⟩ := q23
                    rw [if_pos (show (a + 1 + 1 + 1 + 1 < n ∧ (49 : Int32) ≤ u (a + 1 + 1 + 1 + 1) ∧ u (a + 1 + 1 + 1 + 1) ≤ (57 : Int32)) from hse127)]
                    refine cc_if_ne (tgt := 136) dX4_arrival_130 (by decide) (fun c_130 => ?_) (fun c_130 => ?_)
                    · refine cc_aload_n (j := 3) dX4_arrival_136 rfl rfl ?_
                      refine cc_get (v := .ref (o + 5)) H20.2.1 cc_c4 6 (by decide) fl_X4_22 rfl dX4_arrival_137 ?_
                      refine cc_aload_n (j := 3) dX4_arrival_140 rfl rfl ?_
                      refine cc_get (v := .int (nI (a + 1 + 1 + 1 + 1))) H20.2.1 cc_c4 8 (by decide) fl_X4_76 rfl dX4_arrival_141 ?_
                      refine cc_cald (x := tx (a + 1 + 1 + 1 + 1)) H20.2.2.2.2.2.2.1 (vp_in_nI (n := (a + 1 + 1 + 1 + 1)) (by omega) (by decide)) (by rw [(nI_clamp (by omega))]) dX4_arrival_144 ?_
                      rw [show tx (a + 1 + 1 + 1 + 1) = nI (48 + m) from (hu _ (by omega)).trans em0]
                      refine cc_bipush (v := 48) dX4_arrival_145 (by decide) ?_
                      refine cc_isub dX4_arrival_147 ?_
                      rw [show (nI (48 + m)) - 48 = nI m from T_c48]
                      refine cc_istore (ls' := [(4, .int (nI m)), (3, .int (nI o9)), (2, .int (nI i)), (0, .ref o), (1, .int 0)]) dX4_arrival_148 (Nat.le_of_ble_eq_true rfl) rfl ?_
                      refine cc_aload_n (j := 3) dX4_arrival_150 rfl rfl ?_
                      refine cc_dup dX4_arrival_151 rfl ?_
                      refine cc_get (v := .int (nI (a + 1 + 1 + 1 + 1))) H20.2.1 cc_c4 8 (by decide) fl_X4_76 rfl dX4_arrival_152 ?_
                      refine cc_iconst (v := 1) dX4_arrival_155 (by decide) ?_
                      refine cc_iadd dX4_arrival_156 ?_
                      rw [show (nI (a + 1 + 1 + 1 + 1)) + 1 = nI (a + 1 + 1 + 1 + 1 + 1) from nI_1 _]
                      refine mo_rput (nn' := nn) (ia' := ia) (le' := (nI n)) (ay' := (nI (a + 1 + 1 + 1 + 1 + 1))) H20 cc_c4 8 (by decide) fl_X4_76 rfl rfl rfl rfl rfl dX4_arrival_157 (fun G24 H25 => ?_)
                      refine cc_iload_n (j := 4) dX4_arrival_160 rfl rfl ?_
                      refine cc_if_eq (tgt := 181) dX4_arrival_161 (by decide) (fun c_161 => ?_) (fun c_161 => ?_)
                      · refine cc_iconst (v := 0) dX4_arrival_181 (by decide) ?_
                        refine cc_istore (ls' := [(5, .int 0), (4, .int (nI m)), (3, .int (nI o9)), (2, .int (nI i)), (0, .ref o), (1, .int 0)]) dX4_arrival_182 (Nat.le_of_ble_eq_true rfl) rfl ?_
                        refine cc_iload (j := 0) dX4_arrival_184 rfl ?_
                        refine cc_iload (j := 1) dX4_arrival_186 rfl ?_
                        refine cc_icmp_ge (tgt := 207) dX4_arrival_188 (by decide) (fun c_188 => ?_) (fun c_188 => ?_)
                        · refine cc_iload (j := 1) dX4_arrival_207 rfl ?_
                          refine cc_iret rfl rfl dX4_arrival_209 ?_
                          exact ⟨_, rfl, _, H25, Or.inr ⟨m, _, rfl, by omega, by omega, rfl, by omega, by omega, F1.trans (F2.trans (F3.trans (F4.trans F5))), Or.inr s5⟩⟩
                        · refine cc_iload_n (j := 5) dX4_arrival_191 rfl rfl ?_
                          refine cc_if_eq (tgt := 207) dX4_arrival_192 (by decide) (fun c_192 => ?_) (fun c_192 => ?_)
                          · refine cc_iload (j := 1) dX4_arrival_207 rfl ?_
                            refine cc_iret rfl rfl dX4_arrival_209 ?_
                            exact ⟨_, rfl, _, H25, Or.inr ⟨m, _, rfl, by omega, by omega, rfl, by omega, by omega, F1.trans (F2.trans (F3.trans (F4.trans F5))), Or.inr s5⟩⟩
                          · exact absurd c_192 (by decide)
                      · exact absurd c_161 (by decide)
                    · exact absurd c_130 (by decide)
                  · refine cc_callVi (As := [.int 49, .int 57]) (rest := []) (ct_X4_sees cy z _ _ _ _ _ _ _ _ _ _ _ _ _ u n (a + 1 + 1 + 1 + 1) hn (by omega) hu 49 57 H20.self rfl rfl) ok_X4_sees (H20.2.1) rfl im_X4_sees sl_X4_sees ml_X4_82 nd_X4_sees (by decide +kernel) (Nat.le_of_ble_eq_true rfl) rfl dX4_arrival_127 (fun r27 G26 q28 => ?_)
                    obtain ⟨rfl, rfl⟩ := q28
                    rw [if_neg (show ¬ (a + 1 + 1 + 1 + 1 < n ∧ (49 : Int32) ≤ u (a + 1 + 1 + 1 + 1) ∧ u (a + 1 + 1 + 1 + 1) ≤ (57 : Int32)) from hse127)]
                    refine cc_if_ne (tgt := 136) dX4_arrival_130 (by decide) (fun c_130_1 => ?_) (fun c_130_1 => ?_)
                    · exact absurd c_130_1 (by decide)
                    · refine cc_bipush (v := (-100)) dX4_arrival_133 (by decide) ?_
                      refine cc_iret rfl rfl dX4_arrival_135 ?_
                      exact ⟨_, rfl, _, H20, Or.inl ⟨rfl, _, rfl, by omega, F1.trans (F2.trans (F3.trans (F4.trans (T_f4 s4 (by omega) hse127))))⟩⟩
              · refine cc_callVi (As := [.int 42, .int 42]) (rest := []) (ct_X4_sees cy z _ _ _ _ _ _ _ _ _ _ _ _ _ u n (a + 1 + 1 + 1) hn (by omega) hu 42 42 H15.self rfl rfl) ok_X4_sees (H15.2.1) rfl im_X4_sees sl_X4_sees ml_X4_82 nd_X4_sees (by decide +kernel) (Nat.le_of_ble_eq_true rfl) rfl dX4_arrival_106 (fun r30 G29 q31 => ?_)
                obtain ⟨rfl, rfl⟩ := q31
                rw [if_neg (show ¬ (a + 1 + 1 + 1 < n ∧ (42 : Int32) ≤ u (a + 1 + 1 + 1) ∧ u (a + 1 + 1 + 1) ≤ (42 : Int32)) from hse106)]
                refine cc_if_eq (tgt := 160) dX4_arrival_109 (by decide) (fun c_109_1 => ?_) (fun c_109_1 => ?_)
                · refine cc_iload_n (j := 4) dX4_arrival_160 rfl rfl ?_
                  refine cc_if_eq (tgt := 181) dX4_arrival_161 (by decide) (fun c_161_1 => ?_) (fun c_161_1 => ?_)
                  · refine cc_iconst (v := 0) dX4_arrival_181 (by decide) ?_
                    refine cc_istore (ls' := [(5, .int 0), (4, .int 1), (3, .int (nI o9)), (2, .int (nI i)), (0, .ref o), (1, .int 0)]) dX4_arrival_182 (Nat.le_of_ble_eq_true rfl) rfl ?_
                    refine cc_iload (j := 0) dX4_arrival_184 rfl ?_
                    refine cc_iload (j := 1) dX4_arrival_186 rfl ?_
                    refine cc_icmp_ge (tgt := 207) dX4_arrival_188 (by decide) (fun c_188_1 => ?_) (fun c_188_1 => ?_)
                    · refine cc_iload (j := 1) dX4_arrival_207 rfl ?_
                      refine cc_iret rfl rfl dX4_arrival_209 ?_
                      exact ⟨_, rfl, _, H15, Or.inr ⟨1, _, rfl, by omega, by omega, rfl, by omega, by omega, F1.trans (F2.trans F3), Or.inl ⟨s3, fun q => hse106 ⟨q.1, by rw [q.2]; decide⟩⟩⟩⟩
                    · refine cc_iload_n (j := 5) dX4_arrival_191 rfl rfl ?_
                      refine cc_if_eq (tgt := 207) dX4_arrival_192 (by decide) (fun c_192_1 => ?_) (fun c_192_1 => ?_)
                      · refine cc_iload (j := 1) dX4_arrival_207 rfl ?_
                        refine cc_iret rfl rfl dX4_arrival_209 ?_
                        exact ⟨_, rfl, _, H15, Or.inr ⟨1, _, rfl, by omega, by omega, rfl, by omega, by omega, F1.trans (F2.trans F3), Or.inl ⟨s3, fun q => hse106 ⟨q.1, by rw [q.2]; decide⟩⟩⟩⟩
                      · exact absurd c_192_1 (by decide)
                  · exact absurd c_161_1 (by decide)
                · exact absurd c_109_1 (by decide)
            · exact absurd c_69 (by decide)
          · refine cc_callVi (As := [.int 48, .int 51]) (rest := []) (ct_X4_sees cy z _ _ _ _ _ _ _ _ _ _ _ _ _ u n (a + 1 + 1) hn (by omega) hu 48 51 H10.self rfl rfl) ok_X4_sees (H10.2.1) rfl im_X4_sees sl_X4_sees ml_X4_82 nd_X4_sees (by decide +kernel) (Nat.le_of_ble_eq_true rfl) rfl dX4_arrival_66 (fun r33 G32 q34 => ?_)
            obtain ⟨rfl, rfl⟩ := q34
            rw [if_neg (show ¬ (a + 1 + 1 < n ∧ (48 : Int32) ≤ u (a + 1 + 1) ∧ u (a + 1 + 1) ≤ (51 : Int32)) from hse66)]
            refine cc_if_ne (tgt := 75) dX4_arrival_69 (by decide) (fun c_69_1 => ?_) (fun c_69_1 => ?_)
            · exact absurd c_69_1 (by decide)
            · refine cc_bipush (v := (-100)) dX4_arrival_72 (by decide) ?_
              refine cc_iret rfl rfl dX4_arrival_74 ?_
              exact ⟨_, rfl, _, H10, Or.inl ⟨rfl, _, rfl, by omega, F1.trans (F2.trans (T_f2 s2 (by omega) hse66))⟩⟩
        · exact absurd c_45 (by decide)
      · refine cc_callVi (As := [.int 62, .int 62]) (rest := []) (ct_X4_sees cy z _ _ _ _ _ _ _ _ _ _ _ _ _ u n (a + 1) hn (by omega) hu 62 62 H5.self rfl rfl) ok_X4_sees (H5.2.1) rfl im_X4_sees sl_X4_sees ml_X4_82 nd_X4_sees (by decide +kernel) (Nat.le_of_ble_eq_true rfl) rfl dX4_arrival_42 (fun r36 G35 q37 => ?_)
        obtain ⟨rfl, rfl⟩ := q37
        rw [if_neg (show ¬ (a + 1 < n ∧ (62 : Int32) ≤ u (a + 1) ∧ u (a + 1) ≤ (62 : Int32)) from hse42)]
        refine cc_if_ne (tgt := 51) dX4_arrival_45 (by decide) (fun c_45_1 => ?_) (fun c_45_1 => ?_)
        · exact absurd c_45_1 (by decide)
        · refine cc_bipush (v := (-100)) dX4_arrival_48 (by decide) ?_
          refine cc_iret rfl rfl dX4_arrival_50 ?_
          exact ⟨_, rfl, _, H5, Or.inl ⟨rfl, _, rfl, by omega, F1.trans (T_f1 s1 (by omega) hse42)⟩⟩
    · exact absurd c_8 (by decide)
  · refine cc_callVi (As := [.int 48, .int 51]) (rest := []) (ct_X4_sees cy z _ _ _ _ _ _ _ _ _ _ _ _ _ u n a hn (by omega) hu 48 51 H.self rfl rfl) ok_X4_sees (H.2.1) rfl im_X4_sees sl_X4_sees ml_X4_82 nd_X4_sees (by decide +kernel) (Nat.le_of_ble_eq_true rfl) rfl dX4_arrival_5 (fun r39 G38 q40 => ?_)
    obtain ⟨rfl, rfl⟩ := q40
    rw [if_neg (show ¬ (a < n ∧ (48 : Int32) ≤ u a ∧ u a ≤ (51 : Int32)) from hse5)]
    refine cc_if_ne (tgt := 14) dX4_arrival_8 (by decide) (fun c_8_1 => ?_) (fun c_8_1 => ?_)
    · exact absurd c_8_1 (by decide)
    · refine cc_bipush (v := (-100)) dX4_arrival_11 (by decide) ?_
      refine cc_iret rfl rfl dX4_arrival_13 ?_
      exact ⟨_, rfl, _, H, Or.inl ⟨rfl, _, rfl, by omega, T_f0 h0 ha hse5⟩⟩

set_option maxHeartbeats 4000000 in
set_option maxRecDepth 100000 in
theorem ct_X4_arrivals_0 (cy : Nat → ClassId) (z : Nat) (G : cc_G) (o : Nat) (r pa qa be : Nat → Int32) (nn ia : Int32) (tx : Nat → Int32) (le ay : Int32) (hs so : Nat → Int32) (u : Nat → Int32) (n : Nat) (hn : n ≤ 60) (hu : ∀ k, k < n → tx k = u k) (H : mo_R cy G G o r pa qa be nn ia tx le ay hs so) (hle : le = nI n) : cc_Cn cy Y_X4_arrivals [.ref o, .int 0] z G (cc_qi (fun r9 G' => ∃ ay', mo_R cy G G' o r pa qa be nn ia tx (nI n) ay' hs so ∧ ((r9 = (-100) ∧ ∃ k, ay' = nI k ∧ k ≤ n ∧ T_flt u n 0 = some k) ∨ ∃ m : Nat, r9 = nI m ∧ m ≤ 9 * 61 ∧ T_flt u n 0 = none))) := by
  subst hle
  have loop_9 : ∀ (f a acc : Nat) (G1 : cc_G), n < a + f → a ≤ n → acc ≤ 9 * a → T_s u a = 0 → T_flt u n 0 = T_flt u n a → mo_R cy G G1 o r pa qa be nn ia tx (nI n) (nI a) hs so → cc_R cy Y_X4_arrivals z 9 [(3, .int 1), (2, .int (nI acc)), (0, .ref o), (1, .int 0)] [] G1 (cc_qi (fun r9 G' => ∃ ay', mo_R cy G G' o r pa qa be nn ia tx (nI n) ay' hs so ∧ ((r9 = (-100) ∧ ∃ k, ay' = nI k ∧ k ≤ n ∧ T_flt u n 0 = some k) ∨ ∃ m : Nat, r9 = nI m ∧ m ≤ 9 * 61 ∧ T_flt u n 0 = none))) := by
    intro f
    induction f with
    | zero => intro a acc G1 h1 h2; exact absurd h1 (by omega)
    | succ f ih =>
      intro a acc G1 hf ha hacc h0 hF H
      refine cc_iload_n (j := 0) dX4_arrivals_9 rfl rfl ?_
      refine cc_if_eq (tgt := 63) dX4_arrivals_10 (by decide) (fun c_10 => ?_) (fun c_10 => ?_)
      · exact absurd c_10 (by decide)
      · refine cc_aload_n (j := 2) dX4_arrivals_13 rfl rfl ?_
        refine cc_iload_n (j := 3) dX4_arrivals_14 rfl rfl ?_
        refine cc_callVi (As := [.int 0]) (rest := []) (ct_X4_arrival_0 cy z _ _ _ _ _ _ _ _ _ _ _ _ _ u n a hn ha hu h0 H.self rfl rfl) ok_X4_arrival (H.2.1) rfl im_X4_arrival sl_X4_arrival ml_X4_86 nd_X4_arrival (by decide +kernel) (Nat.le_of_ble_eq_true rfl) rfl dX4_arrivals_15 (fun r2 G1 q3 => ?_)
        obtain ⟨ay2, H4, hres⟩ := q3
        have H4 := H.tr H4
        rcases hres with ⟨hr, k, hay2, hk, hfk⟩ | ⟨m, e, hr, hm1, hm9, hay2, hen, hae, hFe, hse⟩
        · subst hr
          subst hay2
          refine cc_istore (ls' := [(4, .int (-100)), (3, .int 1), (2, .int (nI acc)), (0, .ref o), (1, .int 0)]) dX4_arrivals_18 (Nat.le_of_ble_eq_true rfl) rfl ?_
          refine cc_iload (j := 0) dX4_arrivals_20 rfl ?_
          refine cc_if_ge (tgt := 28) dX4_arrivals_22 (by decide) (fun c_22 => ?_) (fun c_22 => ?_)
          · exact absurd c_22 (by decide)
          · refine cc_iload (j := 0) dX4_arrivals_25 rfl ?_
            refine cc_iret rfl rfl dX4_arrivals_27 ?_
            exact ⟨_, rfl, _, H4, Or.inl ⟨rfl, _, rfl, hk, hF.trans hfk⟩⟩
        · subst hr
          subst hay2
          refine cc_istore (ls' := [(4, .int (nI m)), (3, .int 1), (2, .int (nI acc)), (0, .ref o), (1, .int 0)]) dX4_arrivals_18 (Nat.le_of_ble_eq_true rfl) rfl ?_
          refine cc_iload (j := 0) dX4_arrivals_20 rfl ?_
          refine cc_if_ge (tgt := 28) dX4_arrivals_22 (by decide) (fun c_22_1 => ?_) (fun c_22_1 => ?_)
          · refine cc_iload_n (j := 2) dX4_arrivals_28 rfl rfl ?_
            refine cc_iload (j := 0) dX4_arrivals_29 rfl ?_
            refine cc_iadd dX4_arrivals_31 ?_
            rw [show (nI acc) + (nI m) = nI (acc + m) from nI_add _ _]
            refine cc_istore_n (ls' := [(2, .int (nI (acc + m))), (4, .int (nI m)), (3, .int 1), (0, .ref o), (1, .int 0)]) dX4_arrivals_32 rfl (Nat.le_of_ble_eq_true rfl) rfl ?_
            refine cc_aload_n (j := 3) dX4_arrivals_33 rfl rfl ?_
            refine cc_bipush (v := 44) dX4_arrivals_34 (by decide) ?_
            refine cc_bipush (v := 44) dX4_arrivals_36 (by decide) ?_
            by_cases hse38 : e < n ∧ 44 ≤ u e ∧ u e ≤ 44
            · refine cc_callVi (As := [.int 44, .int 44]) (rest := []) (ct_X4_sees cy z _ _ _ _ _ _ _ _ _ _ _ _ _ u n e hn (by omega) hu 44 44 H4.self rfl rfl) ok_X4_sees (H4.2.1) rfl im_X4_sees sl_X4_sees ml_X4_82 nd_X4_sees (by decide +kernel) (Nat.le_of_ble_eq_true rfl) rfl dX4_arrivals_38 (fun r6 G5 q7 => ?_)
              obtain ⟨rfl, rfl⟩ := q7
              rw [if_pos (show (e < n ∧ (44 : Int32) ≤ u e ∧ u e ≤ (44 : Int32)) from hse38)]
              refine cc_istore_n (ls' := [(3, .int 1), (2, .int (nI (acc + m))), (4, .int (nI m)), (0, .ref o), (1, .int 0)]) dX4_arrivals_41 rfl (Nat.le_of_ble_eq_true rfl) rfl ?_
              refine cc_aload_n (j := 3) dX4_arrivals_42 rfl rfl ?_
              refine cc_dup dX4_arrivals_43 rfl ?_
              refine cc_get (v := .int (nI e)) H4.2.1 cc_c4 8 (by decide) fl_X4_76 rfl dX4_arrivals_44 ?_
              refine cc_iload_n (j := 0) dX4_arrivals_47 rfl rfl ?_
              refine cc_if_eq (tgt := 55) dX4_arrivals_48 (by decide) (fun c_48 => ?_) (fun c_48 => ?_)
              · exact absurd c_48 (by decide)
              · refine cc_iconst (v := 1) dX4_arrivals_51 (by decide) ?_
                refine cc_goto (tgt := 56) dX4_arrivals_52 (by decide) ?_
                refine cc_iadd dX4_arrivals_56 ?_
                rw [show (nI e) + 1 = nI (e + 1) from nI_1 _]
                refine mo_rput (nn' := nn) (ia' := ia) (le' := (nI n)) (ay' := (nI (e + 1))) H4 cc_c4 8 (by decide) fl_X4_76 rfl rfl rfl rfl rfl dX4_arrivals_57 (fun G8 H9 => ?_)
                refine cc_goto (tgt := 9) dX4_arrivals_60 (by decide) ?_
                refine cc_loc (ls' := [(3, .int 1), (2, .int (nI (acc + m))), (0, .ref o), (1, .int 0)]) [0, 1, 3, 4] rfl ?_
                have hc44 := T_one hse38.2
                have hs6 : T_s u (e + 1) = 0 ∧ T_flt u n e = T_flt u n (e + 1) := by
                  rcases hse with ⟨q, -⟩ | q
                  · exact T_st q hse38.1 (T_d3c hc44) (by decide)
                  · exact T_st q hse38.1 (T_d5 hc44) (by decide)
                exact ih (e + 1) (acc + m) _ (by omega) (by omega) (by omega) hs6.1 (hF.trans (hFe.trans hs6.2)) H9
            · refine cc_callVi (As := [.int 44, .int 44]) (rest := []) (ct_X4_sees cy z _ _ _ _ _ _ _ _ _ _ _ _ _ u n e hn (by omega) hu 44 44 H4.self rfl rfl) ok_X4_sees (H4.2.1) rfl im_X4_sees sl_X4_sees ml_X4_82 nd_X4_sees (by decide +kernel) (Nat.le_of_ble_eq_true rfl) rfl dX4_arrivals_38 (fun r11 G10 q12 => ?_)
              obtain ⟨rfl, rfl⟩ := q12
              rw [if_neg (show ¬ (e < n ∧ (44 : Int32) ≤ u e ∧ u e ≤ (44 : Int32)) from hse38)]
              refine cc_istore_n (ls' := [(3, .int 0), (2, .int (nI (acc + m))), (4, .int (nI m)), (0, .ref o), (1, .int 0)]) dX4_arrivals_41 rfl (Nat.le_of_ble_eq_true rfl) rfl ?_
              refine cc_aload_n (j := 3) dX4_arrivals_42 rfl rfl ?_
              refine cc_dup dX4_arrivals_43 rfl ?_
              refine cc_get (v := .int (nI e)) H4.2.1 cc_c4 8 (by decide) fl_X4_76 rfl dX4_arrivals_44 ?_
              refine cc_iload_n (j := 0) dX4_arrivals_47 rfl rfl ?_
              refine cc_if_eq (tgt := 55) dX4_arrivals_48 (by decide) (fun c_48_1 => ?_) (fun c_48_1 => ?_)
              · refine cc_iconst (v := 0) dX4_arrivals_55 (by decide) ?_
                refine cc_iadd dX4_arrivals_56 ?_
                rw [show (nI e) + 0 = nI e from by simp]
                refine mo_rput (nn' := nn) (ia' := ia) (le' := (nI n)) (ay' := (nI e)) H4 cc_c4 8 (by decide) fl_X4_76 rfl rfl rfl rfl rfl dX4_arrivals_57 (fun G13 H14 => ?_)
                refine cc_goto (tgt := 9) dX4_arrivals_60 (by decide) ?_
                refine cc_iload_n (j := 0) dX4_arrivals_9 rfl rfl ?_
                refine cc_if_eq (tgt := 63) dX4_arrivals_10 (by decide) (fun c_10_1 => ?_) (fun c_10_1 => ?_)
                · refine cc_aload_n (j := 3) dX4_arrivals_63 rfl rfl ?_
                  refine cc_get (v := .int (nI e)) H14.2.1 cc_c4 8 (by decide) fl_X4_76 rfl dX4_arrivals_64 ?_
                  refine cc_aload_n (j := 3) dX4_arrivals_67 rfl rfl ?_
                  refine cc_get (v := .int (nI n)) H14.2.1 cc_c4 7 (by decide) fl_X4_79 rfl dX4_arrivals_68 ?_
                  refine cc_icmp_ge (tgt := 79) dX4_arrivals_71 (by decide) (fun c_71 => ?_) (fun c_71 => ?_)
                  · have hge : n ≤ e := cc_ngt _ c_71 (by omega) (by omega)
                    refine cc_iload_n (j := 1) dX4_arrivals_79 rfl rfl ?_
                    refine cc_iret rfl rfl dX4_arrivals_80 ?_
                    have hee : e = n := by omega
                    subst hee
                    have hok : T_flt u e e = none := T_done (hse.elim (fun q => Or.inl q.1) Or.inr)
                    exact ⟨_, rfl, _, H14, Or.inr ⟨acc + m, rfl, by omega, hF.trans (hFe.trans hok)⟩⟩
                  · have hlt : e < n := cc_nlt _ c_71 (by omega)
                    refine cc_bipush (v := (-100)) dX4_arrivals_74 (by decide) ?_
                    refine cc_goto (tgt := 80) dX4_arrivals_76 (by decide) ?_
                    refine cc_iret rfl rfl dX4_arrivals_80 ?_
                    have hbad : T_flt u n e = some e := by
                      have hne : ¬ u e = 44 := fun q => hse38 ⟨hlt, by rw [q]; decide⟩
                      rcases hse with ⟨q, q2⟩ | q
                      · exact T_bad hlt ((T_ss q).trans (T_d3n (fun q3 => q2 ⟨hlt, q3⟩) hne))
                      · exact T_bad hlt ((T_ss q).trans (T_d5n hne))
                    exact ⟨_, rfl, _, H14, Or.inl ⟨rfl, _, rfl, by omega, hF.trans (hFe.trans hbad)⟩⟩
                · exact absurd c_10_1 (by decide)
                
              · exact absurd c_48_1 (by decide)
          · exact absurd (nI_pos' (by omega)) c_22_1
  refine cc_enter ok_X4_arrivals (Nat.le_of_ble_eq_true rfl) (ls := [(0, .ref o), (1, .int 0)]) rfl ?_
  refine cc_aload_n (j := 0) dX4_arrivals_0 rfl rfl ?_
  refine cc_iconst (v := 0) dX4_arrivals_1 (by decide) ?_
  refine mo_rput (nn' := nn) (ia' := ia) (le' := (nI n)) (ay' := 0) H cc_c4 8 (by decide) fl_X4_76 rfl rfl rfl rfl rfl dX4_arrivals_2 (fun G15 H16 => ?_)
  refine cc_iconst (v := 0) dX4_arrivals_5 (by decide) ?_
  refine cc_istore_n (ls' := [(2, .int 0), (0, .ref o), (1, .int 0)]) dX4_arrivals_6 rfl (Nat.le_of_ble_eq_true rfl) rfl ?_
  refine cc_iconst (v := 1) dX4_arrivals_7 (by decide) ?_
  refine cc_istore_n (ls' := [(3, .int 1), (2, .int 0), (0, .ref o), (1, .int 0)]) dX4_arrivals_8 rfl (Nat.le_of_ble_eq_true rfl) rfl ?_
  exact loop_9 61 0 0 _ (by omega) (Nat.zero_le _) (by omega) rfl rfl H16
