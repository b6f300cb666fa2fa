set_option maxHeartbeats 4000000 in
set_option maxRecDepth 100000 in
theorem ct_X4_in (cy : Nat → ClassId) (z : Nat) (G : cc_G) (x0 x1 x2 : Int32) : cc_Cn cy Y_X4_in [.int x0, .int x1, .int x2] z G (cc_qi (fun r G' => r = (if x1 ≤ x0 ∧ x0 ≤ x2 then 1 else 0) ∧ G' = G)) := by
  
  refine cc_enter ok_X4_in (Nat.le_of_ble_eq_true rfl) (ls := [(0, .int x0), (1, .int x1), (2, .int x2)]) rfl ?_
  refine cc_iload_n (j := 0) dX4_in_0 rfl rfl ?_
  refine cc_iload_n (j := 1) dX4_in_1 rfl rfl ?_
  refine cc_icmp_lt (tgt := 14) dX4_in_2 (by decide) (fun c_2 => ?_) (fun c_2 => ?_)
  · refine cc_iconst (v := 0) dX4_in_14 (by decide) ?_
    refine cc_iret rfl rfl dX4_in_15 ?_
    exact ⟨_, rfl, (if_neg (fun h => absurd c_2 (Int32.not_lt.mpr h.1))).symm, rfl⟩
  · refine cc_iload_n (j := 0) dX4_in_5 rfl rfl ?_
    refine cc_iload_n (j := 2) dX4_in_6 rfl rfl ?_
    refine cc_icmp_gt (tgt := 14) dX4_in_7 (by decide) (fun c_7 => ?_) (fun c_7 => ?_)
    · refine cc_iconst (v := 0) dX4_in_14 (by decide) ?_
      refine cc_iret rfl rfl dX4_in_15 ?_
      exact ⟨_, rfl, (if_neg (fun h => absurd c_7 (Int32.not_lt.mpr h.2))).symm, rfl⟩
    · refine cc_iconst (v := 1) dX4_in_10 (by decide) ?_
      refine cc_goto (tgt := 15) dX4_in_11 (by decide) ?_
      refine cc_iret rfl rfl dX4_in_15 ?_
      exact ⟨_, rfl, (if_pos ⟨Int32.not_lt.mp c_2, Int32.not_lt.mp c_7⟩).symm, rfl⟩

theorem cc_in03 (x : Int32) : (0 ≤ x ∧ x ≤ 3) ↔ (0 ≤ x ∧ x < 4) := by
  constructor
  · intro h
    exact ⟨h.1, Int32.lt_of_le_of_lt h.2 (by decide)⟩
  · intro h
    refine ⟨h.1, ?_⟩
    obtain ⟨j, hj, rfl⟩ := nI_of (Int32.not_lt.mpr h.1)
    have := (nI_ltI (b := 4) hj (by decide)).mp h.2
    exact nI_le (b := 3) (by omega) (by decide)

set_option maxHeartbeats 4000000 in
set_option maxRecDepth 100000 in
theorem ct_X4_noPort (cy : Nat → ClassId) (z : Nat) (G : cc_G) (x1 : Int32) : cc_Cn cy Y_X4_noPort [.int x1] z G (cc_qi (fun r G' => r = (if 0 ≤ x1 ∧ x1 < 4 then 0 else 1) ∧ G' = G)) := by
  
  refine cc_enter ok_X4_noPort (Nat.le_of_ble_eq_true rfl) (ls := [(0, .int x1)]) rfl ?_
  refine cc_iload_n (j := 0) dX4_noPort_0 rfl rfl ?_
  refine cc_iconst (v := 0) dX4_noPort_1 (by decide) ?_
  refine cc_iconst (v := 3) dX4_noPort_2 (by decide) ?_
  refine cc_callSi (As := [.int x1, .int 0, .int 3]) (rest := []) (ct_X4_in cy z _ x1 0 3) ok_X4_in st_X4_in ml_X4_37 nd_X4_in (by decide +kernel) (Nat.le_of_ble_eq_true rfl) rfl dX4_noPort_3 (fun r2 G1 q3 => ?_)
  obtain ⟨rfl, rfl⟩ := q3
  refine cc_if_ne (tgt := 13) dX4_noPort_6 (by decide) (fun c_6 => ?_) (fun c_6 => ?_)
  · refine cc_iconst (v := 0) dX4_noPort_13 (by decide) ?_
    refine cc_iret rfl rfl dX4_noPort_14 ?_
    exact ⟨_, rfl, (if_pos ((cc_in03 x1).mp (by by_cases q : 0 ≤ x1 ∧ x1 ≤ 3; exact q; rw [if_neg q] at c_6; exact absurd rfl c_6))).symm, rfl⟩
  · refine cc_iconst (v := 1) dX4_noPort_9 (by decide) ?_
    refine cc_goto (tgt := 14) dX4_noPort_10 (by decide) ?_
    refine cc_iret rfl rfl dX4_noPort_14 ?_
    exact ⟨_, rfl, (if_neg (fun h => by rw [if_pos ((cc_in03 x1).mpr h)] at c_6; exact absurd c_6 (by decide))).symm, rfl⟩

set_option maxHeartbeats 4000000 in
set_option maxRecDepth 100000 in
theorem ct_X4_of (cy : Nat → ClassId) (z : Nat) (G : cc_G) (o : Nat) (r pa qa be : Nat → Int32) (nn ia : Int32) (tx : Nat → Int32) (le ay : Int32) (hs so : Nat → Int32) (a b : Nat) (hb : 4 + 30 * a + b < 232) (H : mo_R cy G G o r pa qa be nn ia tx le ay hs so)  : cc_Cn cy Y_X4_of [.ref o, .int (nI a), .int (nI b)] z G (cc_qi (fun r9 G' => r9 = r (4 + 30 * a + b) ∧ G' = G)) := by
  
  refine cc_enter ok_X4_of (Nat.le_of_ble_eq_true rfl) (ls := [(0, .ref o), (1, .int (nI a)), (2, .int (nI b))]) rfl ?_
  refine cc_aload_n (j := 0) dX4_of_0 rfl rfl ?_
  refine cc_get (v := .ref (o + 1)) H.2.1 cc_c4 0 (by decide) fl_X4_7 rfl dX4_of_1 ?_
  refine cc_iconst (v := 4) dX4_of_4 (by decide) ?_
  refine cc_bipush (v := 30) dX4_of_5 (by decide) ?_
  refine cc_iload_n (j := 1) dX4_of_7 rfl rfl ?_
  refine cc_imul dX4_of_8 ?_
  rw [show 30 * (nI a) = nI (30 * a) from pk_mul 30 a]
  refine cc_iadd dX4_of_9 ?_
  rw [show 4 + (nI (30 * a)) = nI (4 + 30 * a) from nI_add 4 (30 * a)]
  refine cc_iload_n (j := 2) dX4_of_10 rfl rfl ?_
  refine cc_iadd dX4_of_11 ?_
  rw [show (nI (4 + 30 * a)) + (nI b) = nI (4 + 30 * a + b) from nI_add (4 + 30 * a) b]
  refine cc_iald (x := r (4 + 30 * a + b)) H.2.2.1 (vp_in_nI (n := (4 + 30 * a + b)) (by omega) (by decide)) (by rw [(nI_clamp (by omega))]) dX4_of_12 ?_
  refine cc_iret rfl rfl dX4_of_13 ?_
  exact ⟨_, rfl, rfl, rfl⟩

set_option maxHeartbeats 4000000 in
set_option maxRecDepth 100000 in
theorem ct_X4_lay (cy : Nat → ClassId) (z : Nat) (G : cc_G) (o : Nat) (r pa qa be : Nat → Int32) (nn ia : Int32) (tx : Nat → Int32) (le ay : Int32) (hs so : Nat → Int32) (a b : Nat) (x : Int32) (hb : 4 + 30 * a + b < 232) (H : mo_R cy G G o r pa qa be nn ia tx le ay hs so)  : cc_Cn cy Y_X4_lay [.ref o, .int (nI a), .int (nI b), .int x] z G (cc_qv (fun G' => mo_R cy G G' o (upd r (4 + 30 * a + b) x) pa qa be nn ia tx le ay hs so)) := by
  
  refine cc_enter ok_X4_lay (Nat.le_of_ble_eq_true rfl) (ls := [(0, .ref o), (1, .int (nI a)), (2, .int (nI b)), (3, .int x)]) rfl ?_
  refine cc_aload_n (j := 0) dX4_lay_0 rfl rfl ?_
  refine cc_get (v := .ref (o + 1)) H.2.1 cc_c4 0 (by decide) fl_X4_7 rfl dX4_lay_1 ?_
  refine cc_iconst (v := 4) dX4_lay_4 (by decide) ?_
  refine cc_bipush (v := 30) dX4_lay_5 (by decide) ?_
  refine cc_iload_n (j := 1) dX4_lay_7 rfl rfl ?_
  refine cc_imul dX4_lay_8 ?_
  rw [show 30 * (nI a) = nI (30 * a) from pk_mul 30 a]
  refine cc_iadd dX4_lay_9 ?_
  rw [show 4 + (nI (30 * a)) = nI (4 + 30 * a) from nI_add 4 (30 * a)]
  refine cc_iload_n (j := 2) dX4_lay_10 rfl rfl ?_
  refine cc_iadd dX4_lay_11 ?_
  rw [show (nI (4 + 30 * a)) + (nI b) = nI (4 + 30 * a + b) from nI_add (4 + 30 * a) b]
  refine cc_iload_n (j := 3) dX4_lay_12 rfl rfl ?_
  refine mo_rast_r (j := (4 + 30 * a + b)) H (vp_in_nI (n := (4 + 30 * a + b)) (by omega) (by decide)) (nI_clamp (by omega)) dX4_lay_13 (fun G1 H2 => ?_)
  refine cc_vret rfl dX4_lay_14 ?_
  exact ⟨rfl, H2⟩

set_option maxHeartbeats 4000000 in
set_option maxRecDepth 100000 in
theorem ct_X4_more (cy : Nat → ClassId) (z : Nat) (G : cc_G) (o : Nat) (r pa qa be : Nat → Int32) (nn ia : Int32) (tx : Nat → Int32) (le ay : Int32) (hs so : Nat → Int32) (a b : Nat) (x : Int32) (hb : 4 + 30 * a + b < 232) (H : mo_R cy G G o r pa qa be nn ia tx le ay hs so)  : cc_Cn cy Y_X4_more [.ref o, .int (nI a), .int (nI b), .int x] z G (cc_qv (fun G' => mo_R cy G G' o (upd r (4 + 30 * a + b) (r (4 + 30 * a + b) + x)) pa qa be nn ia tx le ay hs so)) := by
  
  refine cc_enter ok_X4_more (Nat.le_of_ble_eq_true rfl) (ls := [(0, .ref o), (1, .int (nI a)), (2, .int (nI b)), (3, .int x)]) rfl ?_
  refine cc_aload_n (j := 0) dX4_more_0 rfl rfl ?_
  refine cc_get (v := .ref (o + 1)) H.2.1 cc_c4 0 (by decide) fl_X4_7 rfl dX4_more_1 ?_
  refine cc_iconst (v := 4) dX4_more_4 (by decide) ?_
  refine cc_bipush (v := 30) dX4_more_5 (by decide) ?_
  refine cc_iload_n (j := 1) dX4_more_7 rfl rfl ?_
  refine cc_imul dX4_more_8 ?_
  rw [show 30 * (nI a) = nI (30 * a) from pk_mul 30 a]
  refine cc_iadd dX4_more_9 ?_
  rw [show 4 + (nI (30 * a)) = nI (4 + 30 * a) from nI_add 4 (30 * a)]
  refine cc_iload_n (j := 2) dX4_more_10 rfl rfl ?_
  refine cc_iadd dX4_more_11 ?_
  rw [show (nI (4 + 30 * a)) + (nI b) = nI (4 + 30 * a + b) from nI_add (4 + 30 * a) b]
  refine cc_dup2 dX4_more_12 rfl rfl ?_
  refine cc_iald (x := r (4 + 30 * a + b)) H.2.2.1 (vp_in_nI (n := (4 + 30 * a + b)) (by omega) (by decide)) (by rw [(nI_clamp (by omega))]) dX4_more_13 ?_
  refine cc_iload_n (j := 3) dX4_more_14 rfl rfl ?_
  refine cc_iadd dX4_more_15 ?_
  refine mo_rast_r (j := (4 + 30 * a + b)) H (vp_in_nI (n := (4 + 30 * a + b)) (by omega) (by decide)) (nI_clamp (by omega)) dX4_more_16 (fun G1 H2 => ?_)
  refine cc_vret rfl dX4_more_17 ?_
  exact ⟨rfl, H2⟩

set_option maxHeartbeats 4000000 in
set_option maxRecDepth 100000 in
theorem ct_X4_by (cy : Nat → ClassId) (z : Nat) (G : cc_G) (o : Nat) (r pa qa be : Nat → Int32) (nn ia : Int32) (tx : Nat → Int32) (le ay : Int32) (hs so : Nat → Int32) (a b : Nat) (hb : 124 + 27 * a + b < 232) (H : mo_R cy G G o r pa qa be nn ia tx le ay hs so)  : cc_Cn cy Y_X4_by [.ref o, .int (nI a), .int (nI b)] z G (cc_qi (fun r9 G' => r9 = r (124 + 27 * a + b) ∧ G' = G)) := by
  
  refine cc_enter ok_X4_by (Nat.le_of_ble_eq_true rfl) (ls := [(0, .ref o), (1, .int (nI a)), (2, .int (nI b))]) rfl ?_
  refine cc_aload_n (j := 0) dX4_by_0 rfl rfl ?_
  refine cc_get (v := .ref (o + 1)) H.2.1 cc_c4 0 (by decide) fl_X4_7 rfl dX4_by_1 ?_
  refine cc_bipush (v := 124) dX4_by_4 (by decide) ?_
  refine cc_bipush (v := 27) dX4_by_6 (by decide) ?_
  refine cc_iload_n (j := 1) dX4_by_8 rfl rfl ?_
  refine cc_imul dX4_by_9 ?_
  rw [show 27 * (nI a) = nI (27 * a) from pk_mul 27 a]
  refine cc_iadd dX4_by_10 ?_
  rw [show 124 + (nI (27 * a)) = nI (124 + 27 * a) from nI_add 124 (27 * a)]
  refine cc_iload_n (j := 2) dX4_by_11 rfl rfl ?_
  refine cc_iadd dX4_by_12 ?_
  rw [show (nI (124 + 27 * a)) + (nI b) = nI (124 + 27 * a + b) from nI_add (124 + 27 * a) b]
  refine cc_iald (x := r (124 + 27 * a + b)) H.2.2.1 (vp_in_nI (n := (124 + 27 * a + b)) (by omega) (by decide)) (by rw [(nI_clamp (by omega))]) dX4_by_13 ?_
  refine cc_iret rfl rfl dX4_by_14 ?_
  exact ⟨_, rfl, rfl, rfl⟩

set_option maxHeartbeats 4000000 in
set_option maxRecDepth 100000 in
theorem ct_X4_missing (cy : Nat → ClassId) (z : Nat) (G : cc_G) (o : Nat) (r pa qa be : Nat → Int32) (nn ia : Int32) (tx : Nat → Int32) (le ay : Int32) (hs so : Nat → Int32) (a : Nat) (ha : a < 4) (H : mo_R cy G G o r pa qa be nn ia tx le ay hs so)  : cc_Cn cy Y_X4_missing [.ref o, .int (nI a)] z G (cc_qi (fun r9 G' => r9 = r (4 + 30 * a + 0) - r (4 + 30 * a + 3) - r (4 + 30 * a + 9) - r (4 + 30 * a + 10) ∧ G' = G)) := by
  
  refine cc_enter ok_X4_missing (Nat.le_of_ble_eq_true rfl) (ls := [(0, .ref o), (1, .int (nI a))]) rfl ?_
  refine cc_aload_n (j := 0) dX4_missing_0 rfl rfl ?_
  refine cc_iload_n (j := 1) dX4_missing_1 rfl rfl ?_
  refine cc_iconst (v := 0) dX4_missing_2 (by decide) ?_
  refine cc_callVi (As := [.int (nI a), .int 0]) (rest := []) (ct_X4_of cy z _ _ _ _ _ _ _ _ _ _ _ _ _ a 0 (by omega) H.self) ok_X4_of (H.2.1) rfl im_X4_of sl_X4_of ml_X4_62 nd_X4_of (by decide +kernel) (Nat.le_of_ble_eq_true rfl) rfl dX4_missing_3 (fun r2 G1 q3 => ?_)
  obtain ⟨rfl, rfl⟩ := q3
  refine cc_aload_n (j := 0) dX4_missing_6 rfl rfl ?_
  refine cc_iload_n (j := 1) dX4_missing_7 rfl rfl ?_
  refine cc_iconst (v := 3) dX4_missing_8 (by decide) ?_
  refine cc_callVi (As := [.int (nI a), .int 3]) (rest := [.int (r (4 + 30 * a + 0))]) (ct_X4_of cy z _ _ _ _ _ _ _ _ _ _ _ _ _ a 3 (by omega) H.self) ok_X4_of (H.2.1) rfl im_X4_of sl_X4_of ml_X4_62 nd_X4_of (by decide +kernel) (Nat.le_of_ble_eq_true rfl) rfl dX4_missing_9 (fun r5 G4 q6 => ?_)
  obtain ⟨rfl, rfl⟩ := q6
  refine cc_isub dX4_missing_12 ?_
  refine cc_aload_n (j := 0) dX4_missing_13 rfl rfl ?_
  refine cc_iload_n (j := 1) dX4_missing_14 rfl rfl ?_
  refine cc_bipush (v := 9) dX4_missing_15 (by decide) ?_
  refine cc_callVi (As := [.int (nI a), .int 9]) (rest := [.int ((r (4 + 30 * a + 0)) - (r (4 + 30 * a + 3)))]) (ct_X4_of cy z _ _ _ _ _ _ _ _ _ _ _ _ _ a 9 (by omega) H.self) ok_X4_of (H.2.1) rfl im_X4_of sl_X4_of ml_X4_62 nd_X4_of (by decide +kernel) (Nat.le_of_ble_eq_true rfl) rfl dX4_missing_17 (fun r8 G7 q9 => ?_)
  obtain ⟨rfl, rfl⟩ := q9
  refine cc_isub dX4_missing_20 ?_
  refine cc_aload_n (j := 0) dX4_missing_21 rfl rfl ?_
  refine cc_iload_n (j := 1) dX4_missing_22 rfl rfl ?_
  refine cc_bipush (v := 10) dX4_missing_23 (by decide) ?_
  refine cc_callVi (As := [.int (nI a), .int 10]) (rest := [.int (((r (4 + 30 * a + 0)) - (r (4 + 30 * a + 3))) - (r (4 + 30 * a + 9)))]) (ct_X4_of cy z _ _ _ _ _ _ _ _ _ _ _ _ _ a 10 (by omega) H.self) ok_X4_of (H.2.1) rfl im_X4_of sl_X4_of ml_X4_62 nd_X4_of (by decide +kernel) (Nat.le_of_ble_eq_true rfl) rfl dX4_missing_25 (fun r11 G10 q12 => ?_)
  obtain ⟨rfl, rfl⟩ := q12
  refine cc_isub dX4_missing_28 ?_
  refine cc_iret rfl rfl dX4_missing_29 ?_
  exact ⟨_, rfl, rfl, rfl⟩

set_option maxHeartbeats 4000000 in
set_option maxRecDepth 100000 in
theorem ct_X4_dropFirst (cy : Nat → ClassId) (z : Nat) (G : cc_G) (o : Nat) (r pa qa be : Nat → Int32) (nn ia : Int32) (tx : Nat → Int32) (le ay : Int32) (hs so : Nat → Int32) (v : Nat → Int32) (sd wy : List Int32) (a : Nat) (ha : a < 4) (hn : 1 ≤ wy.length) (H : mo_R cy G G o r pa qa be nn ia tx le ay hs so) (hl : rl_I r (4 + 30 * a) (v, sd, wy)) : cc_Cn cy Y_X4_dropFirst [.ref o, .int (nI a)] z G (cc_qv (fun G' => ∃ r', mo_R cy G G' o r' pa qa be nn ia tx le ay hs so ∧ rl_I r' (4 + 30 * a) (L_drop (v, sd, wy)) ∧ ∀ q, (q < 4 + 30 * a ∨ 4 + 30 * a + 30 ≤ q) → r' q = r q)) := by
  obtain ⟨l1, l2, l3, l4, l5, l6, l7⟩ := hl
  have l1 : ∀ k, k < 9 → r (4 + 30 * a + k) = v k := l1
  have l2 : r (4 + 30 * a + 9) = nI sd.length := l2
  have l3 : r (4 + 30 * a + 10) = nI wy.length := l3
  have l4 : ar_ (fun k => r (4 + 30 * a + (11 + k))) sd := l4
  have l5 : ar_ (fun k => r (4 + 30 * a + (19 + k))) wy := l5
  have l6 : sd.length ≤ 8 := l6
  have l7 : wy.length ≤ 6 := l7
  have loop_10 : ∀ (f k : Nat) (r1 : Nat → Int32) (G1 : cc_G), wy.length - 1 < k + f → k ≤ wy.length - 1 → mo_R cy G G1 o r1 pa qa be nn ia tx le ay hs so → (∀ q, (q < 4 + 30 * a + 19 ∨ 4 + 30 * a + 30 ≤ q) → r1 q = upd r (4 + 30 * a + 10) (nI (wy.length - 1)) q) → (∀ j, j < k → r1 (4 + 30 * a + (19 + j)) = r (4 + 30 * a + (19 + j + 1))) → (∀ j, k ≤ j → j < 11 → r1 (4 + 30 * a + (19 + j)) = r (4 + 30 * a + (19 + j))) → cc_R cy Y_X4_dropFirst z 10 [(2, .int (nI k)), (0, .ref o), (1, .int (nI a))] [] G1 (cc_qv (fun G' => ∃ r', mo_R cy G G' o r' pa qa be nn ia tx le ay hs so ∧ rl_I r' (4 + 30 * a) (L_drop (v, sd, wy)) ∧ ∀ q, (q < 4 + 30 * a ∨ 4 + 30 * a + 30 ≤ q) → r' q = r q)) := by
    intro f
    induction f with
    | zero => intro k r1 G1 h1 h2; exact absurd h1 (by omega)
    | succ f ih =>
      intro k r1 G1 hf hk H k1 k2 k3
      have kw : r1 (4 + 30 * a + 10) = nI (wy.length - 1) := (k1 _ (by omega)).trans pk_us
      refine cc_iload_n (j := 0) dX4_dropFirst_10 rfl rfl ?_
      refine cc_aload_n (j := 1) dX4_dropFirst_11 rfl rfl ?_
      refine cc_iload_n (j := 2) dX4_dropFirst_12 rfl rfl ?_
      refine cc_bipush (v := 10) dX4_dropFirst_13 (by decide) ?_
      refine cc_callVi (As := [.int (nI a), .int 10]) (rest := [.int (nI k)]) (ct_X4_of cy z _ _ _ _ _ _ _ _ _ _ _ _ _ a 10 (by omega) H.self) ok_X4_of (H.2.1) rfl im_X4_of sl_X4_of ml_X4_62 nd_X4_of (by decide +kernel) (Nat.le_of_ble_eq_true rfl) rfl dX4_dropFirst_15 (fun r2 G1 q3 => ?_)
      obtain ⟨rfl, rfl⟩ := q3
      rw [show r1 (4 + 30 * a + 10) = nI (wy.length - 1) from kw]
      refine cc_icmp_ge (tgt := 47) dX4_dropFirst_18 (by decide) (fun c_18 => ?_) (fun c_18 => ?_)
      · have hge : k = wy.length - 1 := by have := cc_ngt _ c_18 (by omega) (by omega); omega
        subst hge
        refine cc_aload_n (j := 1) dX4_dropFirst_47 rfl rfl ?_
        refine cc_iload_n (j := 2) dX4_dropFirst_48 rfl rfl ?_
        refine cc_bipush (v := 19) dX4_dropFirst_49 (by decide) ?_
        refine cc_aload_n (j := 1) dX4_dropFirst_51 rfl rfl ?_
        refine cc_iload_n (j := 2) dX4_dropFirst_52 rfl rfl ?_
        refine cc_bipush (v := 10) dX4_dropFirst_53 (by decide) ?_
        refine cc_callVi (As := [.int (nI a), .int 10]) (rest := [.int 19, .int (nI a), .ref o]) (ct_X4_of cy z _ _ _ _ _ _ _ _ _ _ _ _ _ a 10 (by omega) H.self) ok_X4_of (H.2.1) rfl im_X4_of sl_X4_of ml_X4_62 nd_X4_of (by decide +kernel) (Nat.le_of_ble_eq_true rfl) rfl dX4_dropFirst_55 (fun r5 G4 q6 => ?_)
        obtain ⟨rfl, rfl⟩ := q6
        rw [show r1 (4 + 30 * a + 10) = nI (wy.length - 1) from kw]
        refine cc_iadd dX4_dropFirst_58 ?_
        rw [show 19 + (nI (wy.length - 1)) = nI (19 + (wy.length - 1)) from nI_add 19 (wy.length - 1)]
        refine cc_iconst (v := 0) dX4_dropFirst_59 (by decide) ?_
        refine cc_callVv (As := [.int (nI a), .int (nI (19 + (wy.length - 1))), .int 0]) (rest := []) (ct_X4_lay cy z _ _ _ _ _ _ _ _ _ _ _ _ _ a (19 + (wy.length - 1)) 0 (by omega) H.self) ok_X4_lay (H.2.1) rfl im_X4_lay sl_X4_lay ml_X4_33 nd_X4_lay (by decide +kernel) (Nat.le_of_ble_eq_true rfl) rfl dX4_dropFirst_60 (fun G7 q9 => ?_)
        have H10 := H.tr q9
        refine cc_vret rfl dX4_dropFirst_63 ?_
        refine ⟨rfl, _, H10, ⟨fun k9 hk9 => ?_, ?_, ?_, ?_, ?_, l6, ?_⟩, fun q hq => ?_⟩
        · exact (pk_un (by omega)).trans ((k1 _ (by omega)).trans ((pk_un (by omega)).trans (l1 k9 hk9)))
        · exact (pk_un (by omega)).trans ((k1 _ (by omega)).trans ((pk_un (by omega)).trans l2))
        · show _ = nI wy.tail.length
          rw [List.length_tail]
          exact (pk_un (by omega)).trans kw
        · exact l4.eq (fun k9 hk9 => (pk_un (by omega)).trans ((k1 _ (by omega)).trans (pk_un (by omega))))
        · refine l5.shift (fun k9 hk9 => ?_)
          exact (pk_un (by omega)).trans ((k2 k9 (by omega)).trans (by rw [show 19 + k9 + 1 = 19 + (k9 + 1) by omega]))
        · show wy.tail.length ≤ 6
          rw [List.length_tail]
          omega
        · exact (pk_un (by omega)).trans ((k1 q (by omega)).trans (pk_un (by omega)))
      · have hlt : k < wy.length - 1 := cc_nlt _ c_18 (by omega)
        refine cc_aload_n (j := 1) dX4_dropFirst_21 rfl rfl ?_
        refine cc_iload_n (j := 2) dX4_dropFirst_22 rfl rfl ?_
        refine cc_bipush (v := 19) dX4_dropFirst_23 (by decide) ?_
        refine cc_iload_n (j := 0) dX4_dropFirst_25 rfl rfl ?_
        refine cc_iadd dX4_dropFirst_26 ?_
        rw [show 19 + (nI k) = nI (19 + k) from nI_add 19 k]
        refine cc_aload_n (j := 1) dX4_dropFirst_27 rfl rfl ?_
        refine cc_iload_n (j := 2) dX4_dropFirst_28 rfl rfl ?_
        refine cc_bipush (v := 19) dX4_dropFirst_29 (by decide) ?_
        refine cc_iload_n (j := 0) dX4_dropFirst_31 rfl rfl ?_
        refine cc_iadd dX4_dropFirst_32 ?_
        rw [show 19 + (nI k) = nI (19 + k) from nI_add 19 k]
        refine cc_iconst (v := 1) dX4_dropFirst_33 (by decide) ?_
        refine cc_iadd dX4_dropFirst_34 ?_
        rw [show (nI (19 + k)) + 1 = nI (19 + k + 1) from nI_add (19 + k) 1]
        refine cc_callVi (As := [.int (nI a), .int (nI (19 + k + 1))]) (rest := [.int (nI (19 + k)), .int (nI a), .ref o]) (ct_X4_of cy z _ _ _ _ _ _ _ _ _ _ _ _ _ a (19 + k + 1) (by omega) H.self) ok_X4_of (H.2.1) rfl im_X4_of sl_X4_of ml_X4_62 nd_X4_of (by decide +kernel) (Nat.le_of_ble_eq_true rfl) rfl dX4_dropFirst_35 (fun r12 G11 q13 => ?_)
        obtain ⟨rfl, rfl⟩ := q13
        refine cc_callVv (As := [.int (nI a), .int (nI (19 + k)), .int (r1 (4 + 30 * a + (19 + k + 1)))]) (rest := []) (ct_X4_lay cy z _ _ _ _ _ _ _ _ _ _ _ _ _ a (19 + k) (r1 (4 + 30 * a + (19 + k + 1))) (by omega) H.self) ok_X4_lay (H.2.1) rfl im_X4_lay sl_X4_lay ml_X4_33 nd_X4_lay (by decide +kernel) (Nat.le_of_ble_eq_true rfl) rfl dX4_dropFirst_38 (fun G14 q16 => ?_)
        have H17 := H.tr q16
        refine cc_iinc (j := 0) (v := nI (k + 1)) (ls' := [(2, .int (nI (k + 1))), (0, .ref o), (1, .int (nI a))]) dX4_dropFirst_41 rfl (nI_1 k) (Nat.le_of_ble_eq_true rfl) rfl ?_
        refine cc_goto (tgt := 10) dX4_dropFirst_44 (by decide) ?_
        refine ih (k + 1) _ _ (by omega) (by omega) H17 (fun q hq => (pk_un (by omega)).trans (k1 q hq)) (fun j hj => ?_) (fun j hj hj2 => (pk_un (by omega)).trans (k3 j (by omega) hj2))
        by_cases hq : j = k
        · subst hq
          rw [show 4 + 30 * a + (19 + j) = 4 + 30 * a + (19 + j) from rfl, pk_us]
          rw [show 4 + 30 * a + (19 + j + 1) = 4 + 30 * a + (19 + (j + 1)) by omega]
          exact k3 (j + 1) (by omega) (by omega)
        · rw [pk_un (by omega)]
          exact k2 j (by omega)
  refine cc_enter ok_X4_dropFirst (Nat.le_of_ble_eq_true rfl) (ls := [(0, .ref o), (1, .int (nI a))]) rfl ?_
  refine cc_aload_n (j := 0) dX4_dropFirst_0 rfl rfl ?_
  refine cc_iload_n (j := 1) dX4_dropFirst_1 rfl rfl ?_
  refine cc_bipush (v := 10) dX4_dropFirst_2 (by decide) ?_
  refine cc_iconst (v := (-1)) dX4_dropFirst_4 (by decide) ?_
  refine cc_callVv (As := [.int (nI a), .int 10, .int (-1)]) (rest := []) (ct_X4_more cy z _ _ _ _ _ _ _ _ _ _ _ _ _ a 10 (-1) (by omega) H.self) ok_X4_more (H.2.1) rfl im_X4_more sl_X4_more ml_X4_66 nd_X4_more (by decide +kernel) (Nat.le_of_ble_eq_true rfl) rfl dX4_dropFirst_5 (fun G18 q20 => ?_)
  have H21 := H.tr q20
  rw [l3, show nI wy.length + (-1) = nI (wy.length - 1) from by obtain ⟨m, hm⟩ : ∃ m, wy.length = m + 1 := ⟨wy.length - 1, by omega⟩; rw [hm]; exact pk_m1 m] at H21
  refine cc_iconst (v := 0) dX4_dropFirst_8 (by decide) ?_
  refine cc_istore_n (ls' := [(2, .int 0), (0, .ref o), (1, .int (nI a))]) dX4_dropFirst_9 rfl (Nat.le_of_ble_eq_true rfl) rfl ?_
  exact loop_10 wy.length 0 _ _ (by omega) (by omega) H21 (fun q _ => rfl) (fun j hj => absurd hj (by omega)) (fun j _ _ => pk_un (by omega))
