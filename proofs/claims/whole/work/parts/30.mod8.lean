theorem mo_w1 (x : Int32) : x = 0 ∨ x = 1 ∨ ¬ (0 ≤ x ∧ x ≤ 1) := by
  rcases cc_sw1 x with h | h | h
  · exact Or.inl h
  · exact Or.inr (Or.inl h)
  · refine Or.inr (Or.inr (fun q => ?_))
    have h1 := Int32.le_iff_toInt_le.mp q.1
    have h2 := Int32.le_iff_toInt_le.mp q.2
    rw [show (0 : Int32).toInt = 0 from by decide] at h1
    rw [show (1 : Int32).toInt = 1 from by decide] at h2
    omega
theorem mo_w2 (x : Int32) : x = 0 ∨ x = 1 ∨ x = 2 ∨ ¬ (0 ≤ x ∧ x ≤ 2) := by
  rcases cc_sw2 x with h | h | h | h
  · exact Or.inl h
  · exact Or.inr (Or.inl h)
  · exact Or.inr (Or.inr (Or.inl h))
  · refine Or.inr (Or.inr (Or.inr (fun q => ?_)))
    have h1 := Int32.le_iff_toInt_le.mp q.1
    have h2 := Int32.le_iff_toInt_le.mp q.2
    rw [show (0 : Int32).toInt = 0 from by decide] at h1
    rw [show (2 : Int32).toInt = 2 from by decide] at h2
    omega
theorem mo_out {x a b : Int32} (h : ¬ (a ≤ x ∧ x ≤ b)) : x < a ∨ b < x := by
  by_cases q : a ≤ x
  · exact Or.inr (Int32.not_le.mp (fun q2 => h ⟨q, q2⟩))
  · exact Or.inl (Int32.not_le.mp q)
theorem mo_inn {x a b : Int32} (h : a ≤ x ∧ x ≤ b) : ¬ (x < a ∨ b < x) := fun q => q.elim (fun q => absurd h.1 (Int32.not_le.mpr q)) (fun q => absurd h.2 (Int32.not_le.mpr q))
theorem mo_any (x : Int32) {a : Int32} (h : -1 < a) : x < a ∨ -1 < x := by
  by_cases q : x < a
  · exact Or.inl q
  · exact Or.inr (Int32.lt_of_lt_of_le h (Int32.not_lt.mp q))
theorem mo_ml {x : Int32} (h : ¬ (0 ≤ x ∧ x ≤ 2)) : C_mostL x = -1 := by
  unfold C_mostL
  rw [if_neg (fun q => h (by subst q; decide)), if_neg (fun q => h (by subst q; decide)), if_neg (fun q => h (by subst q; decide))]
theorem mo_mb {x : Int32} (h : ¬ (0 ≤ x ∧ x ≤ 1)) : C_mostB x = -1 := by
  unfold C_mostB
  rw [if_neg (fun q => h (by subst q; decide)), if_neg (fun q => h (by subst q; decide))]
theorem mo_set0 (L : Ln_) : L_set 0 L = L.1 0 := if_pos rfl
theorem mo_set1 (L : Ln_) : L_set 1 L = L.1 1 := (if_neg (by decide)).trans (if_pos rfl)
theorem mo_set2 (L : Ln_) : L_set 2 L = L.1 2 := (if_neg (by decide)).trans (if_neg (by decide))
theorem mo_chg0 (y : Int32) (L : Ln_) : L_chg 0 y L = (upd (upd L.1 3 (L.1 3 + (y - L.1 0))) 0 y, L.2) := by
  unfold L_chg
  rw [if_pos rfl]
theorem mo_chg1 (y : Int32) (L : Ln_) : L_chg 1 y L = (upd L.1 1 y, L.2) := by
  unfold L_chg
  rw [if_neg (by decide), if_pos rfl]
theorem mo_chg2 (y : Int32) (L : Ln_) : L_chg 2 y L = (upd L.1 2 y, L.2) := by
  unfold L_chg
  rw [if_neg (by decide), if_neg (by decide)]

set_option maxHeartbeats 4000000 in
set_option maxRecDepth 100000 in
theorem ct_X4_setLane (cy : Nat → ClassId) (z : Nat) (G : cc_G) (o : Nat) (c : CS_) (x1 x2 x3 : Int32)  (hI : ma_I cy G G o c) : cc_Cn cy Y_X4_setLane [.ref o, .int x1, .int x2, .int x3] z G (cc_qi (fun r9 G' => r9 = (C_setLane x1 x2 x3 c).1 ∧ ma_I cy G G' o (C_setLane x1 x2 x3 c).2)) := by
  obtain ⟨S, sn, hi, t⟩ := c
  obtain ⟨r, pa, qa, be, nn, ia, tx, le, ay, hs, so, H, hw, hS, hnn, hP, hl, hle, hT, h60⟩ := hI
  have H : mo_R cy G G o r pa qa be nn ia tx le ay hs so := H
  have hw : rw_I r S := hw
  have hS : ma_S ia qa sn := hS
  have hnn : nn = nI hi.length := hnn
  have hP : ma_P pa hi := hP
  have hl : hi.length ≤ 4 := hl
  have hle : le = nI t.length := hle
  have hT : ar_ tx t := hT
  have h60 : t.length ≤ 60 := h60
  subst hnn
  subst hle
  refine cc_enter ok_X4_setLane (Nat.le_of_ble_eq_true rfl) (ls := [(0, .ref o), (1, .int x1), (2, .int x2), (3, .int x3)]) rfl ?_
  rcases cc_port x1 with ⟨i, hi4, rfl⟩ | hx
  · have hl0 := hw.2.2.2.2.1 i hi4
    have hq0 := hw.2.2.2.2.2 i hi4
    have h8 : (S.2.1 i).2.1.length ≤ 8 := hl0.2.2.2.2.2.1
    have h6 : (S.2.1 i).2.2.length ≤ 6 := hl0.2.2.2.2.2.2
    have h8q : (S.2.2 i).2.2.length ≤ 8 := hq0.2.2.2.2
    refine cc_iload_n (j := 1) dX4_setLane_0 rfl rfl ?_
    refine cc_callSi (As := [.int (nI i)]) (rest := []) (ct_X4_noPort cy z _ (nI i)) ok_X4_noPort st_X4_noPort ml_X4_58 nd_X4_noPort (by decide +kernel) (Nat.le_of_ble_eq_true rfl) rfl dX4_setLane_1 (fun r2 G1 q3 => ?_)
    obtain ⟨rfl, rfl⟩ := q3
    rw [if_pos (cc_pt hi4)]
    refine cc_if_eq (tgt := 9) dX4_setLane_4 (by decide) (fun c_4 => ?_) (fun c_4 => ?_)
    · rcases mo_w2 x2 with rfl | rfl | rfl | hw_
      · refine cc_iload_n (j := 2) dX4_setLane_9 rfl rfl ?_
        refine cc_iconst (v := 0) dX4_setLane_10 (by decide) ?_
        refine cc_iconst (v := 2) dX4_setLane_11 (by decide) ?_
        refine cc_callSi (As := [.int 0, .int 0, .int 2]) (rest := []) (ct_X4_in cy z _ 0 0 2) ok_X4_in st_X4_in ml_X4_37 nd_X4_in (by decide +kernel) (Nat.le_of_ble_eq_true rfl) rfl dX4_setLane_12 (fun r5 G4 q6 => ?_)
        obtain ⟨rfl, rfl⟩ := q6
        rw [if_pos (show ((0 : Int32) ≤ 0 ∧ (0 : Int32) ≤ 2) from (by decide))]
        refine cc_if_eq (tgt := 47) dX4_setLane_15 (by decide) (fun c_15 => ?_) (fun c_15 => ?_)
        · exact absurd c_15 (by decide)
        · refine cc_iload_n (j := 3) dX4_setLane_18 rfl rfl ?_
          refine cc_iconst (v := 1) dX4_setLane_19 (by decide) ?_
          refine cc_iload_n (j := 2) dX4_setLane_20 rfl rfl ?_
          refine cc_if_ne (tgt := 29) dX4_setLane_21 (by decide) (fun c_21 => ?_) (fun c_21 => ?_)
          · exact absurd c_21 (by decide)
          · refine cc_bipush (v := 8) dX4_setLane_24 (by decide) ?_
            refine cc_goto (tgt := 41) dX4_setLane_26 (by decide) ?_
            by_cases hin41 : 1 ≤ x3 ∧ x3 ≤ 8
            · refine cc_callSi (As := [.int x3, .int 1, .int 8]) (rest := []) (ct_X4_in cy z _ x3 1 8) ok_X4_in st_X4_in ml_X4_37 nd_X4_in (by decide +kernel) (Nat.le_of_ble_eq_true rfl) rfl dX4_setLane_41 (fun r8 G7 q9 => ?_)
              obtain ⟨rfl, rfl⟩ := q9
              rw [if_pos (show ((1 : Int32) ≤ x3 ∧ (x3 : Int32) ≤ 8) from hin41)]
              refine cc_if_ne (tgt := 50) dX4_setLane_44 (by decide) (fun c_44 => ?_) (fun c_44 => ?_)
              · refine cc_iload_n (j := 2) dX4_setLane_50 rfl rfl ?_
                refine cc_if_ne (tgt := 68) dX4_setLane_51 (by decide) (fun c_51 => ?_) (fun c_51 => ?_)
                · exact absurd c_51 (by decide)
                · refine cc_aload_n (j := 0) dX4_setLane_54 rfl rfl ?_
                  refine cc_iload_n (j := 1) dX4_setLane_55 rfl rfl ?_
                  refine cc_bipush (v := 9) dX4_setLane_56 (by decide) ?_
                  refine cc_callVi (As := [.int (nI i), .int 9]) (rest := []) (ct_X4_of cy z _ _ _ _ _ _ _ _ _ _ _ _ _ i 9 (by omega) H.self) ok_X4_of (H.2.1) rfl im_X4_of sl_X4_of ml_X4_62 nd_X4_of (by decide +kernel) (Nat.le_of_ble_eq_true rfl) rfl dX4_setLane_58 (fun r11 G10 q12 => ?_)
                  obtain ⟨rfl, rfl⟩ := q12
                  rw [show r (4 + 30 * i + 9) = nI (S.2.1 i).2.1.length from hl0.2.1]
                  refine cc_iload_n (j := 3) dX4_setLane_61 rfl rfl ?_
                  refine cc_icmp_le (tgt := 68) dX4_setLane_62 (by decide) (fun c_62 => ?_) (fun c_62 => ?_)
                  · refine cc_aload_n (j := 0) dX4_setLane_68 rfl rfl ?_
                    refine cc_iload_n (j := 1) dX4_setLane_69 rfl rfl ?_
                    refine cc_iload_n (j := 2) dX4_setLane_70 rfl rfl ?_
                    refine cc_callVi (As := [.int (nI i), .int 0]) (rest := []) (ct_X4_of cy z _ _ _ _ _ _ _ _ _ _ _ _ _ i 0 (by omega) H.self) ok_X4_of (H.2.1) rfl im_X4_of sl_X4_of ml_X4_62 nd_X4_of (by decide +kernel) (Nat.le_of_ble_eq_true rfl) rfl dX4_setLane_71 (fun r14 G13 q15 => ?_)
                    obtain ⟨rfl, rfl⟩ := q15
                    rw [show r (4 + 30 * i + 0) = (S.2.1 i).1 0 from hl0.1 0 (by decide)]
                    refine cc_istore (ls' := [(4, .int ((S.2.1 i).1 0)), (0, .ref o), (1, .int (nI i)), (2, .int 0), (3, .int x3)]) dX4_setLane_74 (Nat.le_of_ble_eq_true rfl) rfl ?_
                    refine cc_iload (j := 0) dX4_setLane_76 rfl ?_
                    refine cc_iload_n (j := 4) dX4_setLane_78 rfl rfl ?_
                    refine cc_icmp_ne (tgt := 85) dX4_setLane_79 (by decide) (fun c_79 => ?_) (fun c_79 => ?_)
                    · refine cc_aload_n (j := 1) dX4_setLane_85 rfl rfl ?_
                      refine cc_callVv (As := []) (rest := []) (ct_X4_open cy z _ _ _ _ _ _ _ _ _ _ _ _ _ hi S hl hP hw rfl H.self) ok_X4_open (H.2.1) rfl im_X4_open sl_X4_open ml_X4_55 nd_X4_open (by decide +kernel) (Nat.le_of_ble_eq_true rfl) rfl dX4_setLane_86 (fun G16 q18 => ?_)
                      obtain ⟨p2, b2, H19, hP2⟩ := q18
                      have H19 := H.tr H19
                      refine cc_aload_n (j := 1) dX4_setLane_89 rfl rfl ?_
                      refine cc_iload_n (j := 2) dX4_setLane_90 rfl rfl ?_
                      refine cc_iload_n (j := 3) dX4_setLane_91 rfl rfl ?_
                      refine cc_iload_n (j := 4) dX4_setLane_92 rfl rfl ?_
                      refine cc_callVv (As := [.int (nI i), .int 0, .int x3]) (rest := []) (ct_X4_lay cy z _ _ _ _ _ _ _ _ _ _ _ _ _ i 0 x3 (by omega) H19.self) ok_X4_lay (H19.2.1) rfl im_X4_lay sl_X4_lay ml_X4_33 nd_X4_lay (by decide +kernel) (Nat.le_of_ble_eq_true rfl) rfl dX4_setLane_93 (fun G20 q22 => ?_)
                      have H23 := H19.tr q22
                      have hla1 := hl0.num (w := 0) (by decide) (x3)
                      have hka1 : ∀ q, (q < 4 + 30 * i ∨ 4 + 30 * i + 30 ≤ q) → upd r (4 + 30 * i + 0) (x3) q = r q := fun q hq => (pk_un (by omega)).trans rfl
                      generalize upd r (4 + 30 * i + 0) (x3) = ra1 at H23 hla1 hka1
                      refine cc_iload_n (j := 3) dX4_setLane_96 rfl rfl ?_
                      refine cc_if_ne (tgt := 110) dX4_setLane_97 (by decide) (fun c_97 => ?_) (fun c_97 => ?_)
                      · exact absurd c_97 (by decide)
                      · refine cc_aload_n (j := 1) dX4_setLane_100 rfl rfl ?_
                        refine cc_iload_n (j := 2) dX4_setLane_101 rfl rfl ?_
                        refine cc_iconst (v := 3) dX4_setLane_102 (by decide) ?_
                        refine cc_iload_n (j := 4) dX4_setLane_103 rfl rfl ?_
                        refine cc_iload (j := 0) dX4_setLane_104 rfl ?_
                        refine cc_isub dX4_setLane_106 ?_
                        refine cc_callVv (As := [.int (nI i), .int 3, .int (x3 - ((S.2.1 i).1 0))]) (rest := []) (ct_X4_more cy z _ _ _ _ _ _ _ _ _ _ _ _ _ i 3 (x3 - ((S.2.1 i).1 0)) (by omega) H23.self) ok_X4_more (H23.2.1) rfl im_X4_more sl_X4_more ml_X4_66 nd_X4_more (by decide +kernel) (Nat.le_of_ble_eq_true rfl) rfl dX4_setLane_107 (fun G24 q26 => ?_)
                        have H27 := H23.tr q26
                        rw [show ra1 (4 + 30 * i + 3) = (S.2.1 i).1 3 from hla1.1 3 (by decide)] at H27
                        have hla2 := hla1.num (w := 3) (by decide) ((S.2.1 i).1 3 + (x3 - (S.2.1 i).1 0))
                        have hka2 : ∀ q, (q < 4 + 30 * i ∨ 4 + 30 * i + 30 ≤ q) → upd ra1 (4 + 30 * i + 3) ((S.2.1 i).1 3 + (x3 - (S.2.1 i).1 0)) q = r q := fun q hq => (pk_un (by omega)).trans (hka1 q hq)
                        generalize upd ra1 (4 + 30 * i + 3) ((S.2.1 i).1 3 + (x3 - (S.2.1 i).1 0)) = ra2 at H27 hla2 hka2
                        refine cc_iload (j := 0) dX4_setLane_110 rfl ?_
                        refine cc_iret rfl rfl dX4_setLane_112 ?_
                        have e : C_setLane (nI i) 0 x3 (S, sn, hi, t) = (L_set 0 (S.2.1 i), C_box (C_rem (S, sn, hi, t)) (S_lane S i (L_chg 0 x3 (S.2.1 i)))) := by
                          unfold C_setLane
                          rw [if_pos (cc_pt hi4), C_i_n (by omega)]
                          dsimp only
                          rw [if_neg (show ¬ (x3 < 1 ∨ C_mostL 0 < x3) from by rw [show C_mostL 0 = 8 from by decide]; exact mo_inn hin41), if_neg (fun h => absurd c_62 (Int32.not_le.mpr h.2)), if_neg (show ¬ L_set 0 (S.2.1 i) = x3 from fun q => c_79 ((mo_set0 (S.2.1 i)).symm.trans q))]
                        rw [e]
                        have hw9 : rw_I ra2 (S_lane S i (L_chg 0 x3 (S.2.1 i))) := by
                          rw [mo_chg0, upd_sw (i := 3) (j := 0) (by decide)]
                          exact (hw.lane hi4 hla2 hka2)
                        exact ⟨_, rfl, (mo_set0 (S.2.1 i)).symm, ⟨_, _, _, _, _, _, _, _, _, _, _, H27, hw9, hS, rfl, hP2, (ma_hi_le hi S hl), rfl, hT, h60⟩⟩
                    · refine cc_bipush (v := (-5)) dX4_setLane_82 (by decide) ?_
                      refine cc_iret rfl rfl dX4_setLane_84 ?_
                      have e : C_setLane (nI i) 0 x3 (S, sn, hi, t) = ((-5), (S, sn, hi, t)) := by
                        unfold C_setLane
                        rw [if_pos (cc_pt hi4), C_i_n (by omega)]
                        dsimp only
                        rw [if_neg (show ¬ (x3 < 1 ∨ C_mostL 0 < x3) from by rw [show C_mostL 0 = 8 from by decide]; exact mo_inn hin41), if_neg (fun h => absurd c_62 (Int32.not_le.mpr h.2)), if_pos ((mo_set0 (S.2.1 i)).trans c_79)]
                      rw [e]
                      
                      exact ⟨_, rfl, rfl, ⟨_, _, _, _, _, _, _, _, _, _, _, H, hw, hS, rfl, hP, hl, rfl, hT, h60⟩⟩
                  · refine cc_bipush (v := (-4)) dX4_setLane_65 (by decide) ?_
                    refine cc_iret rfl rfl dX4_setLane_67 ?_
                    have e : C_setLane (nI i) 0 x3 (S, sn, hi, t) = ((-4), (S, sn, hi, t)) := by
                      unfold C_setLane
                      rw [if_pos (cc_pt hi4), C_i_n (by omega)]
                      dsimp only
                      rw [if_neg (show ¬ (x3 < 1 ∨ C_mostL 0 < x3) from by rw [show C_mostL 0 = 8 from by decide]; exact mo_inn hin41), if_pos ⟨rfl, Int32.not_le.mp c_62⟩]
                    rw [e]
                    
                    exact ⟨_, rfl, rfl, ⟨_, _, _, _, _, _, _, _, _, _, _, H, hw, hS, rfl, hP, hl, rfl, hT, h60⟩⟩
              · exact absurd c_44 (by decide)
            · refine cc_callSi (As := [.int x3, .int 1, .int 8]) (rest := []) (ct_X4_in cy z _ x3 1 8) ok_X4_in st_X4_in ml_X4_37 nd_X4_in (by decide +kernel) (Nat.le_of_ble_eq_true rfl) rfl dX4_setLane_41 (fun r29 G28 q30 => ?_)
              obtain ⟨rfl, rfl⟩ := q30
              rw [if_neg (show ¬ ((1 : Int32) ≤ x3 ∧ (x3 : Int32) ≤ 8) from hin41)]
              refine cc_if_ne (tgt := 50) dX4_setLane_44 (by decide) (fun c_44_1 => ?_) (fun c_44_1 => ?_)
              · exact absurd c_44_1 (by decide)
              · refine cc_bipush (v := (-2)) dX4_setLane_47 (by decide) ?_
                refine cc_iret rfl rfl dX4_setLane_49 ?_
                have e : C_setLane (nI i) 0 x3 (S, sn, hi, t) = ((-2), (S, sn, hi, t)) := by
                  unfold C_setLane
                  rw [if_pos (cc_pt hi4), C_i_n (by omega)]
                  dsimp only
                  rw [if_pos (show x3 < 1 ∨ C_mostL 0 < x3 from by rw [show C_mostL 0 = 8 from by decide]; exact mo_out hin41)]
                rw [e]
                
                exact ⟨_, rfl, rfl, ⟨_, _, _, _, _, _, _, _, _, _, _, H, hw, hS, rfl, hP, hl, rfl, hT, h60⟩⟩
      · refine cc_iload_n (j := 2) dX4_setLane_9 rfl rfl ?_
        refine cc_iconst (v := 0) dX4_setLane_10 (by decide) ?_
        refine cc_iconst (v := 2) dX4_setLane_11 (by decide) ?_
        refine cc_callSi (As := [.int 1, .int 0, .int 2]) (rest := []) (ct_X4_in cy z _ 1 0 2) ok_X4_in st_X4_in ml_X4_37 nd_X4_in (by decide +kernel) (Nat.le_of_ble_eq_true rfl) rfl dX4_setLane_12 (fun r32 G31 q33 => ?_)
        obtain ⟨rfl, rfl⟩ := q33
        rw [if_pos (show ((0 : Int32) ≤ 1 ∧ (1 : Int32) ≤ 2) from (by decide))]
        refine cc_if_eq (tgt := 47) dX4_setLane_15 (by decide) (fun c_15_1 => ?_) (fun c_15_1 => ?_)
        · exact absurd c_15_1 (by decide)
        · refine cc_iload_n (j := 3) dX4_setLane_18 rfl rfl ?_
          refine cc_iconst (v := 1) dX4_setLane_19 (by decide) ?_
          refine cc_iload_n (j := 2) dX4_setLane_20 rfl rfl ?_
          refine cc_if_ne (tgt := 29) dX4_setLane_21 (by decide) (fun c_21_1 => ?_) (fun c_21_1 => ?_)
          · refine cc_iload_n (j := 2) dX4_setLane_29 rfl rfl ?_
            refine cc_iconst (v := 1) dX4_setLane_30 (by decide) ?_
            refine cc_icmp_ne (tgt := 39) dX4_setLane_31 (by decide) (fun c_31 => ?_) (fun c_31 => ?_)
            · exact absurd c_31 (by decide)
            · refine cc_bipush (v := 9) dX4_setLane_34 (by decide) ?_
              refine cc_goto (tgt := 41) dX4_setLane_36 (by decide) ?_
              by_cases hin41 : 1 ≤ x3 ∧ x3 ≤ 9
              · refine cc_callSi (As := [.int x3, .int 1, .int 9]) (rest := []) (ct_X4_in cy z _ x3 1 9) ok_X4_in st_X4_in ml_X4_37 nd_X4_in (by decide +kernel) (Nat.le_of_ble_eq_true rfl) rfl dX4_setLane_41 (fun r35 G34 q36 => ?_)
                obtain ⟨rfl, rfl⟩ := q36
                rw [if_pos (show ((1 : Int32) ≤ x3 ∧ (x3 : Int32) ≤ 9) from hin41)]
                refine cc_if_ne (tgt := 50) dX4_setLane_44 (by decide) (fun c_44_2 => ?_) (fun c_44_2 => ?_)
                · refine cc_iload_n (j := 2) dX4_setLane_50 rfl rfl ?_
                  refine cc_if_ne (tgt := 68) dX4_setLane_51 (by decide) (fun c_51_1 => ?_) (fun c_51_1 => ?_)
                  · refine cc_aload_n (j := 0) dX4_setLane_68 rfl rfl ?_
                    refine cc_iload_n (j := 1) dX4_setLane_69 rfl rfl ?_
                    refine cc_iload_n (j := 2) dX4_setLane_70 rfl rfl ?_
                    refine cc_callVi (As := [.int (nI i), .int 1]) (rest := []) (ct_X4_of cy z _ _ _ _ _ _ _ _ _ _ _ _ _ i 1 (by omega) H.self) ok_X4_of (H.2.1) rfl im_X4_of sl_X4_of ml_X4_62 nd_X4_of (by decide +kernel) (Nat.le_of_ble_eq_true rfl) rfl dX4_setLane_71 (fun r38 G37 q39 => ?_)
                    obtain ⟨rfl, rfl⟩ := q39
                    rw [show r (4 + 30 * i + 1) = (S.2.1 i).1 1 from hl0.1 1 (by decide)]
                    refine cc_istore (ls' := [(4, .int ((S.2.1 i).1 1)), (0, .ref o), (1, .int (nI i)), (2, .int 1), (3, .int x3)]) dX4_setLane_74 (Nat.le_of_ble_eq_true rfl) rfl ?_
                    refine cc_iload (j := 0) dX4_setLane_76 rfl ?_
                    refine cc_iload_n (j := 4) dX4_setLane_78 rfl rfl ?_
                    refine cc_icmp_ne (tgt := 85) dX4_setLane_79 (by decide) (fun c_79_1 => ?_) (fun c_79_1 => ?_)
                    · refine cc_aload_n (j := 1) dX4_setLane_85 rfl rfl ?_
                      refine cc_callVv (As := []) (rest := []) (ct_X4_open cy z _ _ _ _ _ _ _ _ _ _ _ _ _ hi S hl hP hw rfl H.self) ok_X4_open (H.2.1) rfl im_X4_open sl_X4_open ml_X4_55 nd_X4_open (by decide +kernel) (Nat.le_of_ble_eq_true rfl) rfl dX4_setLane_86 (fun G40 q42 => ?_)
                      obtain ⟨p2, b2, H43, hP2⟩ := q42
                      have H43 := H.tr H43
                      refine cc_aload_n (j := 1) dX4_setLane_89 rfl rfl ?_
                      refine cc_iload_n (j := 2) dX4_setLane_90 rfl rfl ?_
                      refine cc_iload_n (j := 3) dX4_setLane_91 rfl rfl ?_
                      refine cc_iload_n (j := 4) dX4_setLane_92 rfl rfl ?_
                      refine cc_callVv (As := [.int (nI i), .int 1, .int x3]) (rest := []) (ct_X4_lay cy z _ _ _ _ _ _ _ _ _ _ _ _ _ i 1 x3 (by omega) H43.self) ok_X4_lay (H43.2.1) rfl im_X4_lay sl_X4_lay ml_X4_33 nd_X4_lay (by decide +kernel) (Nat.le_of_ble_eq_true rfl) rfl dX4_setLane_93 (fun G44 q46 => ?_)
                      have H47 := H43.tr q46
                      have hla1 := hl0.num (w := 1) (by decide) (x3)
                      have hka1 : ∀ q, (q < 4 + 30 * i ∨ 4 + 30 * i + 30 ≤ q) → upd r (4 + 30 * i + 1) (x3) q = r q := fun q hq => (pk_un (by omega)).trans rfl
                      generalize upd r (4 + 30 * i + 1) (x3) = ra1 at H47 hla1 hka1
                      refine cc_iload_n (j := 3) dX4_setLane_96 rfl rfl ?_
                      refine cc_if_ne (tgt := 110) dX4_setLane_97 (by decide) (fun c_97_1 => ?_) (fun c_97_1 => ?_)
                      · refine cc_iload (j := 0) dX4_setLane_110 rfl ?_
                        refine cc_iret rfl rfl dX4_setLane_112 ?_
                        have e : C_setLane (nI i) 1 x3 (S, sn, hi, t) = (L_set 1 (S.2.1 i), C_box (C_rem (S, sn, hi, t)) (S_lane S i (L_chg 1 x3 (S.2.1 i)))) := by
                          unfold C_setLane
                          rw [if_pos (cc_pt hi4), C_i_n (by omega)]
                          dsimp only
                          rw [if_neg (show ¬ (x3 < 1 ∨ C_mostL 1 < x3) from by rw [show C_mostL 1 = 9 from by decide]; exact mo_inn hin41), if_neg (fun h => absurd h.1 (by decide)), if_neg (show ¬ L_set 1 (S.2.1 i) = x3 from fun q => c_79_1 ((mo_set1 (S.2.1 i)).symm.trans q))]
                        rw [e]
                        have hw9 : rw_I ra1 (S_lane S i (L_chg 1 x3 (S.2.1 i))) := by
                          rw [mo_chg1]
                          exact (hw.lane hi4 hla1 hka1)
                        exact ⟨_, rfl, (mo_set1 (S.2.1 i)).symm, ⟨_, _, _, _, _, _, _, _, _, _, _, H47, hw9, hS, rfl, hP2, (ma_hi_le hi S hl), rfl, hT, h60⟩⟩
                      · exact absurd c_97_1 (by decide)
                    · refine cc_bipush (v := (-5)) dX4_setLane_82 (by decide) ?_
                      refine cc_iret rfl rfl dX4_setLane_84 ?_
                      have e : C_setLane (nI i) 1 x3 (S, sn, hi, t) = ((-5), (S, sn, hi, t)) := by
                        unfold C_setLane
                        rw [if_pos (cc_pt hi4), C_i_n (by omega)]
                        dsimp only
                        rw [if_neg (show ¬ (x3 < 1 ∨ C_mostL 1 < x3) from by rw [show C_mostL 1 = 9 from by decide]; exact mo_inn hin41), if_neg (fun h => absurd h.1 (by decide)), if_pos ((mo_set1 (S.2.1 i)).trans c_79_1)]
                      rw [e]
                      
                      exact ⟨_, rfl, rfl, ⟨_, _, _, _, _, _, _, _, _, _, _, H, hw, hS, rfl, hP, hl, rfl, hT, h60⟩⟩
                  · exact absurd c_51_1 (by decide)
                · exact absurd c_44_2 (by decide)
              · refine cc_callSi (As := [.int x3, .int 1, .int 9]) (rest := []) (ct_X4_in cy z _ x3 1 9) ok_X4_in st_X4_in ml_X4_37 nd_X4_in (by decide +kernel) (Nat.le_of_ble_eq_true rfl) rfl dX4_setLane_41 (fun r49 G48 q50 => ?_)
                obtain ⟨rfl, rfl⟩ := q50
                rw [if_neg (show ¬ ((1 : Int32) ≤ x3 ∧ (x3 : Int32) ≤ 9) from hin41)]
                refine cc_if_ne (tgt := 50) dX4_setLane_44 (by decide) (fun c_44_3 => ?_) (fun c_44_3 => ?_)
                · exact absurd c_44_3 (by decide)
                · refine cc_bipush (v := (-2)) dX4_setLane_47 (by decide) ?_
                  refine cc_iret rfl rfl dX4_setLane_49 ?_
                  have e : C_setLane (nI i) 1 x3 (S, sn, hi, t) = ((-2), (S, sn, hi, t)) := by
                    unfold C_setLane
                    rw [if_pos (cc_pt hi4), C_i_n (by omega)]
                    dsimp only
                    rw [if_pos (show x3 < 1 ∨ C_mostL 1 < x3 from by rw [show C_mostL 1 = 9 from by decide]; exact mo_out hin41)]
                  rw [e]
                  
                  exact ⟨_, rfl, rfl, ⟨_, _, _, _, _, _, _, _, _, _, _, H, hw, hS, rfl, hP, hl, rfl, hT, h60⟩⟩
          · exact absurd c_21_1 (by decide)
      · refine cc_iload_n (j := 2) dX4_setLane_9 rfl rfl ?_
        refine cc_iconst (v := 0) dX4_setLane_10 (by decide) ?_
        refine cc_iconst (v := 2) dX4_setLane_11 (by decide) ?_
        refine cc_callSi (As := [.int 2, .int 0, .int 2]) (rest := []) (ct_X4_in cy z _ 2 0 2) ok_X4_in st_X4_in ml_X4_37 nd_X4_in (by decide +kernel) (Nat.le_of_ble_eq_true rfl) rfl dX4_setLane_12 (fun r52 G51 q53 => ?_)
        obtain ⟨rfl, rfl⟩ := q53
        rw [if_pos (show ((0 : Int32) ≤ 2 ∧ (2 : Int32) ≤ 2) from (by decide))]
        refine cc_if_eq (tgt := 47) dX4_setLane_15 (by decide) (fun c_15_2 => ?_) (fun c_15_2 => ?_)
        · exact absurd c_15_2 (by decide)
        · refine cc_iload_n (j := 3) dX4_setLane_18 rfl rfl ?_
          refine cc_iconst (v := 1) dX4_setLane_19 (by decide) ?_
          refine cc_iload_n (j := 2) dX4_setLane_20 rfl rfl ?_
          refine cc_if_ne (tgt := 29) dX4_setLane_21 (by decide) (fun c_21_2 => ?_) (fun c_21_2 => ?_)
          · refine cc_iload_n (j := 2) dX4_setLane_29 rfl rfl ?_
            refine cc_iconst (v := 1) dX4_setLane_30 (by decide) ?_
            refine cc_icmp_ne (tgt := 39) dX4_setLane_31 (by decide) (fun c_31_1 => ?_) (fun c_31_1 => ?_)
            · refine cc_bipush (v := 6) dX4_setLane_39 (by decide) ?_
              by_cases hin41 : 1 ≤ x3 ∧ x3 ≤ 6
              · refine cc_callSi (As := [.int x3, .int 1, .int 6]) (rest := []) (ct_X4_in cy z _ x3 1 6) ok_X4_in st_X4_in ml_X4_37 nd_X4_in (by decide +kernel) (Nat.le_of_ble_eq_true rfl) rfl dX4_setLane_41 (fun r55 G54 q56 => ?_)
                obtain ⟨rfl, rfl⟩ := q56
                rw [if_pos (show ((1 : Int32) ≤ x3 ∧ (x3 : Int32) ≤ 6) from hin41)]
                refine cc_if_ne (tgt := 50) dX4_setLane_44 (by decide) (fun c_44_4 => ?_) (fun c_44_4 => ?_)
                · refine cc_iload_n (j := 2) dX4_setLane_50 rfl rfl ?_
                  refine cc_if_ne (tgt := 68) dX4_setLane_51 (by decide) (fun c_51_2 => ?_) (fun c_51_2 => ?_)
                  · refine cc_aload_n (j := 0) dX4_setLane_68 rfl rfl ?_
                    refine cc_iload_n (j := 1) dX4_setLane_69 rfl rfl ?_
                    refine cc_iload_n (j := 2) dX4_setLane_70 rfl rfl ?_
                    refine cc_callVi (As := [.int (nI i), .int 2]) (rest := []) (ct_X4_of cy z _ _ _ _ _ _ _ _ _ _ _ _ _ i 2 (by omega) H.self) ok_X4_of (H.2.1) rfl im_X4_of sl_X4_of ml_X4_62 nd_X4_of (by decide +kernel) (Nat.le_of_ble_eq_true rfl) rfl dX4_setLane_71 (fun r58 G57 q59 => ?_)
                    obtain ⟨rfl, rfl⟩ := q59
                    rw [show r (4 + 30 * i + 2) = (S.2.1 i).1 2 from hl0.1 2 (by decide)]
                    refine cc_istore (ls' := [(4, .int ((S.2.1 i).1 2)), (0, .ref o), (1, .int (nI i)), (2, .int 2), (3, .int x3)]) dX4_setLane_74 (Nat.le_of_ble_eq_true rfl) rfl ?_
                    refine cc_iload (j := 0) dX4_setLane_76 rfl ?_
                    refine cc_iload_n (j := 4) dX4_setLane_78 rfl rfl ?_
                    refine cc_icmp_ne (tgt := 85) dX4_setLane_79 (by decide) (fun c_79_2 => ?_) (fun c_79_2 => ?_)
                    · refine cc_aload_n (j := 1) dX4_setLane_85 rfl rfl ?_
                      refine cc_callVv (As := []) (rest := []) (ct_X4_open cy z _ _ _ _ _ _ _ _ _ _ _ _ _ hi S hl hP hw rfl H.self) ok_X4_open (H.2.1) rfl im_X4_open sl_X4_open ml_X4_55 nd_X4_open (by decide +kernel) (Nat.le_of_ble_eq_true rfl) rfl dX4_setLane_86 (fun G60 q62 => ?_)
                      obtain ⟨p2, b2, H63, hP2⟩ := q62
                      have H63 := H.tr H63
                      refine cc_aload_n (j := 1) dX4_setLane_89 rfl rfl ?_
                      refine cc_iload_n (j := 2) dX4_setLane_90 rfl rfl ?_
                      refine cc_iload_n (j := 3) dX4_setLane_91 rfl rfl ?_
                      refine cc_iload_n (j := 4) dX4_setLane_92 rfl rfl ?_
                      refine cc_callVv (As := [.int (nI i), .int 2, .int x3]) (rest := []) (ct_X4_lay cy z _ _ _ _ _ _ _ _ _ _ _ _ _ i 2 x3 (by omega) H63.self) ok_X4_lay (H63.2.1) rfl im_X4_lay sl_X4_lay ml_X4_33 nd_X4_lay (by decide +kernel) (Nat.le_of_ble_eq_true rfl) rfl dX4_setLane_93 (fun G64 q66 => ?_)
                      have H67 := H63.tr q66
                      have hla1 := hl0.num (w := 2) (by decide) (x3)
                      have hka1 : ∀ q, (q < 4 + 30 * i ∨ 4 + 30 * i + 30 ≤ q) → upd r (4 + 30 * i + 2) (x3) q = r q := fun q hq => (pk_un (by omega)).trans rfl
                      generalize upd r (4 + 30 * i + 2) (x3) = ra1 at H67 hla1 hka1
                      refine cc_iload_n (j := 3) dX4_setLane_96 rfl rfl ?_
                      refine cc_if_ne (tgt := 110) dX4_setLane_97 (by decide) (fun c_97_2 => ?_) (fun c_97_2 => ?_)
                      · refine cc_iload (j := 0) dX4_setLane_110 rfl ?_
                        refine cc_iret rfl rfl dX4_setLane_112 ?_
                        have e : C_setLane (nI i) 2 x3 (S, sn, hi, t) = (L_set 2 (S.2.1 i), C_box (C_rem (S, sn, hi, t)) (S_lane S i (L_chg 2 x3 (S.2.1 i)))) := by
                          unfold C_setLane
                          rw [if_pos (cc_pt hi4), C_i_n (by omega)]
                          dsimp only
                          rw [if_neg (show ¬ (x3 < 1 ∨ C_mostL 2 < x3) from by rw [show C_mostL 2 = 6 from by decide]; exact mo_inn hin41), if_neg (fun h => absurd h.1 (by decide)), if_neg (show ¬ L_set 2 (S.2.1 i) = x3 from fun q => c_79_2 ((mo_set2 (S.2.1 i)).symm.trans q))]
                        rw [e]
                        have hw9 : rw_I ra1 (S_lane S i (L_chg 2 x3 (S.2.1 i))) := by
                          rw [mo_chg2]
                          exact (hw.lane hi4 hla1 hka1)
                        exact ⟨_, rfl, (mo_set2 (S.2.1 i)).symm, ⟨_, _, _, _, _, _, _, _, _, _, _, H67, hw9, hS, rfl, hP2, (ma_hi_le hi S hl), rfl, hT, h60⟩⟩
                      · exact absurd c_97_2 (by decide)
                    · refine cc_bipush (v := (-5)) dX4_setLane_82 (by decide) ?_
                      refine cc_iret rfl rfl dX4_setLane_84 ?_
                      have e : C_setLane (nI i) 2 x3 (S, sn, hi, t) = ((-5), (S, sn, hi, t)) := by
                        unfold C_setLane
                        rw [if_pos (cc_pt hi4), C_i_n (by omega)]
                        dsimp only
                        rw [if_neg (show ¬ (x3 < 1 ∨ C_mostL 2 < x3) from by rw [show C_mostL 2 = 6 from by decide]; exact mo_inn hin41), if_neg (fun h => absurd h.1 (by decide)), if_pos ((mo_set2 (S.2.1 i)).trans c_79_2)]
                      rw [e]
                      
                      exact ⟨_, rfl, rfl, ⟨_, _, _, _, _, _, _, _, _, _, _, H, hw, hS, rfl, hP, hl, rfl, hT, h60⟩⟩
                  · exact absurd c_51_2 (by decide)
                · exact absurd c_44_4 (by decide)
              · refine cc_callSi (As := [.int x3, .int 1, .int 6]) (rest := []) (ct_X4_in cy z _ x3 1 6) ok_X4_in st_X4_in ml_X4_37 nd_X4_in (by decide +kernel) (Nat.le_of_ble_eq_true rfl) rfl dX4_setLane_41 (fun r69 G68 q70 => ?_)
                obtain ⟨rfl, rfl⟩ := q70
                rw [if_neg (show ¬ ((1 : Int32) ≤ x3 ∧ (x3 : Int32) ≤ 6) from hin41)]
                refine cc_if_ne (tgt := 50) dX4_setLane_44 (by decide) (fun c_44_5 => ?_) (fun c_44_5 => ?_)
                · exact absurd c_44_5 (by decide)
                · refine cc_bipush (v := (-2)) dX4_setLane_47 (by decide) ?_
                  refine cc_iret rfl rfl dX4_setLane_49 ?_
                  have e : C_setLane (nI i) 2 x3 (S, sn, hi, t) = ((-2), (S, sn, hi, t)) := by
                    unfold C_setLane
                    rw [if_pos (cc_pt hi4), C_i_n (by omega)]
                    dsimp only
                    rw [if_pos (show x3 < 1 ∨ C_mostL 2 < x3 from by rw [show C_mostL 2 = 6 from by decide]; exact mo_out hin41)]
                  rw [e]
                  
                  exact ⟨_, rfl, rfl, ⟨_, _, _, _, _, _, _, _, _, _, _, H, hw, hS, rfl, hP, hl, rfl, hT, h60⟩⟩
            · exact absurd c_31_1 (by decide)
          · exact absurd c_21_2 (by decide)
      · refine cc_iload_n (j := 2) dX4_setLane_9 rfl rfl ?_
        refine cc_iconst (v := 0) dX4_setLane_10 (by decide) ?_
        refine cc_iconst (v := 2) dX4_setLane_11 (by decide) ?_
        refine cc_callSi (As := [.int x2, .int 0, .int 2]) (rest := []) (ct_X4_in cy z _ x2 0 2) ok_X4_in st_X4_in ml_X4_37 nd_X4_in (by decide +kernel) (Nat.le_of_ble_eq_true rfl) rfl dX4_setLane_12 (fun r72 G71 q73 => ?_)
        obtain ⟨rfl, rfl⟩ := q73
        rw [if_neg (show ¬ ((0 : Int32) ≤ x2 ∧ (x2 : Int32) ≤ 2) from hw_)]
        refine cc_if_eq (tgt := 47) dX4_setLane_15 (by decide) (fun c_15_3 => ?_) (fun c_15_3 => ?_)
        · refine cc_bipush (v := (-2)) dX4_setLane_47 (by decide) ?_
          refine cc_iret rfl rfl dX4_setLane_49 ?_
          have e : C_setLane (nI i) x2 x3 (S, sn, hi, t) = ((-2), (S, sn, hi, t)) := by
            unfold C_setLane
            rw [if_pos (cc_pt hi4), C_i_n (by omega)]
            dsimp only
            rw [if_pos (show x3 < 1 ∨ C_mostL x2 < x3 from by rw [mo_ml hw_]; exact mo_any x3 (by decide))]
          rw [e]
          
          exact ⟨_, rfl, rfl, ⟨_, _, _, _, _, _, _, _, _, _, _, H, hw, hS, rfl, hP, hl, rfl, hT, h60⟩⟩
        · exact absurd c_15_3 (by decide)
    · exact absurd c_4 (by decide)
  · refine cc_iload_n (j := 1) dX4_setLane_0 rfl rfl ?_
    refine cc_callSi (As := [.int x1]) (rest := []) (ct_X4_noPort cy z _ x1) ok_X4_noPort st_X4_noPort ml_X4_58 nd_X4_noPort (by decide +kernel) (Nat.le_of_ble_eq_true rfl) rfl dX4_setLane_1 (fun r75 G74 q76 => ?_)
    obtain ⟨rfl, rfl⟩ := q76
    rw [if_neg hx]
    refine cc_if_eq (tgt := 9) dX4_setLane_4 (by decide) (fun c_4_1 => ?_) (fun c_4_1 => ?_)
    · exact absurd c_4_1 (by decide)
    · refine cc_iconst (v := (-1)) dX4_setLane_7 (by decide) ?_
      refine cc_iret rfl rfl dX4_setLane_8 ?_
      have e : C_setLane x1 x2 x3 (S, sn, hi, t) = ((-1), (S, sn, hi, t)) := by
        unfold C_setLane
        
        rw [if_neg hx]
      rw [e]
      
      exact ⟨_, rfl, rfl, ⟨_, _, _, _, _, _, _, _, _, _, _, H, hw, hS, rfl, hP, hl, rfl, hT, h60⟩⟩

set_option maxHeartbeats 4000000 in
set_option maxRecDepth 100000 in
theorem ct_X4_set (cy : Nat → ClassId) (z : Nat) (G : cc_G) (o : Nat) (c : CS_) (x1 x2 : Int32)  (hI : ma_I cy G G o c) : cc_Cn cy Y_X4_set [.ref o, .int x1, .int x2] z G (cc_qi (fun r9 G' => r9 = (C_set x1 x2 c).1 ∧ ma_I cy G G' o (C_set x1 x2 c).2)) := by
  obtain ⟨S, sn, hi, t⟩ := c
  obtain ⟨r, pa, qa, be, nn, ia, tx, le, ay, hs, so, H, hw, hS, hnn, hP, hl, hle, hT, h60⟩ := hI
  have H : mo_R cy G G o r pa qa be nn ia tx le ay hs so := H
  have hw : rw_I r S := hw
  have hS : ma_S ia qa sn := hS
  have hnn : nn = nI hi.length := hnn
  have hP : ma_P pa hi := hP
  have hl : hi.length ≤ 4 := hl
  have hle : le = nI t.length := hle
  have hT : ar_ tx t := hT
  have h60 : t.length ≤ 60 := h60
  subst hnn
  subst hle
  refine cc_enter ok_X4_set (Nat.le_of_ble_eq_true rfl) (ls := [(0, .ref o), (1, .int x1), (2, .int x2)]) rfl ?_
  rcases mo_w1 x1 with rfl | rfl | hw_
  · refine cc_iload_n (j := 1) dX4_set_0 rfl rfl ?_
    refine cc_iconst (v := 0) dX4_set_1 (by decide) ?_
    refine cc_iconst (v := 1) dX4_set_2 (by decide) ?_
    refine cc_callSi (As := [.int 0, .int 0, .int 1]) (rest := []) (ct_X4_in cy z _ 0 0 1) ok_X4_in st_X4_in ml_X4_37 nd_X4_in (by decide +kernel) (Nat.le_of_ble_eq_true rfl) rfl dX4_set_3 (fun r2 G1 q3 => ?_)
    obtain ⟨rfl, rfl⟩ := q3
    rw [if_pos (show ((0 : Int32) ≤ 0 ∧ (0 : Int32) ≤ 1) from (by decide))]
    refine cc_if_eq (tgt := 27) dX4_set_6 (by decide) (fun c_6 => ?_) (fun c_6 => ?_)
    · exact absurd c_6 (by decide)
    · refine cc_iload_n (j := 2) dX4_set_9 rfl rfl ?_
      refine cc_iconst (v := 0) dX4_set_10 (by decide) ?_
      refine cc_iload_n (j := 1) dX4_set_11 rfl rfl ?_
      refine cc_if_ne (tgt := 19) dX4_set_12 (by decide) (fun c_12 => ?_) (fun c_12 => ?_)
      · exact absurd c_12 (by decide)
      · refine cc_iconst (v := 1) dX4_set_15 (by decide) ?_
        refine cc_goto (tgt := 21) dX4_set_16 (by decide) ?_
        by_cases hin21 : 0 ≤ x2 ∧ x2 ≤ 1
        · refine cc_callSi (As := [.int x2, .int 0, .int 1]) (rest := []) (ct_X4_in cy z _ x2 0 1) ok_X4_in st_X4_in ml_X4_37 nd_X4_in (by decide +kernel) (Nat.le_of_ble_eq_true rfl) rfl dX4_set_21 (fun r5 G4 q6 => ?_)
          obtain ⟨rfl, rfl⟩ := q6
          rw [if_pos (show ((0 : Int32) ≤ x2 ∧ (x2 : Int32) ≤ 1) from hin21)]
          refine cc_if_ne (tgt := 30) dX4_set_24 (by decide) (fun c_24 => ?_) (fun c_24 => ?_)
          · refine cc_aload_n (j := 0) dX4_set_30 rfl rfl ?_
            refine cc_get (v := .ref (o + 1)) H.2.1 cc_c4 0 (by decide) fl_X4_7 rfl dX4_set_31 ?_
            refine cc_iconst (v := 1) dX4_set_34 (by decide) ?_
            refine cc_iload_n (j := 1) dX4_set_35 rfl rfl ?_
            refine cc_iadd dX4_set_36 ?_
            rw [show (1 : Int32) + 0 = 1 by decide]
            refine cc_iald (x := r 1) H.2.2.1 (vp_in_nI (n := 1) (by decide) (by decide)) (by rw [show (1 : Int32).toNatClampNeg = 1 from rfl]) dX4_set_37 ?_
            rw [show r 1 = S.1 1 from hw.2.1]
            refine cc_istore_n (ls' := [(3, .int (S.1 1)), (0, .ref o), (1, .int 0), (2, .int x2)]) dX4_set_38 rfl (Nat.le_of_ble_eq_true rfl) rfl ?_
            refine cc_iload_n (j := 0) dX4_set_39 rfl rfl ?_
            refine cc_iload_n (j := 3) dX4_set_40 rfl rfl ?_
            refine cc_icmp_ne (tgt := 47) dX4_set_41 (by decide) (fun c_41 => ?_) (fun c_41 => ?_)
            · refine cc_aload_n (j := 1) dX4_set_47 rfl rfl ?_
              refine cc_callVv (As := []) (rest := []) (ct_X4_open cy z _ _ _ _ _ _ _ _ _ _ _ _ _ hi S hl hP hw rfl H.self) ok_X4_open (H.2.1) rfl im_X4_open sl_X4_open ml_X4_55 nd_X4_open (by decide +kernel) (Nat.le_of_ble_eq_true rfl) rfl dX4_set_48 (fun G7 q9 => ?_)
              obtain ⟨p2, b2, H10, hP2⟩ := q9
              have H10 := H.tr H10
              refine cc_aload_n (j := 1) dX4_set_51 rfl rfl ?_
              refine cc_get (v := .ref (o + 1)) H10.2.1 cc_c4 0 (by decide) fl_X4_7 rfl dX4_set_52 ?_
              refine cc_iconst (v := 1) dX4_set_55 (by decide) ?_
              refine cc_iload_n (j := 2) dX4_set_56 rfl rfl ?_
              refine cc_iadd dX4_set_57 ?_
              rw [show (1 : Int32) + 0 = 1 by decide]
              refine cc_iload_n (j := 3) dX4_set_58 rfl rfl ?_
              refine mo_rast_r (j := 1) H10 (vp_in_nI (n := 1) (by decide) (by decide)) rfl dX4_set_59 (fun G11 H12 => ?_)
              refine cc_iload_n (j := 0) dX4_set_60 rfl rfl ?_
              refine cc_iret rfl rfl dX4_set_61 ?_
              have e : C_set 0 x2 (S, sn, hi, t) = (S.1 1, C_box (C_rem (S, sn, hi, t)) (upd S.1 1 x2, S.2)) := by
                unfold C_set
                
                rw [if_neg (show ¬ (x2 < 0 ∨ C_mostB 0 < x2) from by rw [show C_mostB 0 = 1 from by decide]; exact mo_inn hin21), if_pos rfl, if_neg c_41]
              rw [e]
              
              exact ⟨_, rfl, rfl, ⟨_, _, _, _, _, _, _, _, _, _, _, H12, (hw.top (k := 1) (by decide) x2), hS, rfl, hP2, (ma_hi_le hi S hl), rfl, hT, h60⟩⟩
            · refine cc_bipush (v := (-5)) dX4_set_44 (by decide) ?_
              refine cc_iret rfl rfl dX4_set_46 ?_
              have e : C_set 0 x2 (S, sn, hi, t) = ((-5), (S, sn, hi, t)) := by
                unfold C_set
                
                rw [if_neg (show ¬ (x2 < 0 ∨ C_mostB 0 < x2) from by rw [show C_mostB 0 = 1 from by decide]; exact mo_inn hin21), if_pos rfl, if_pos c_41]
              rw [e]
              
              exact ⟨_, rfl, rfl, ⟨_, _, _, _, _, _, _, _, _, _, _, H, hw, hS, rfl, hP, hl, rfl, hT, h60⟩⟩
          · exact absurd c_24 (by decide)
        · refine cc_callSi (As := [.int x2, .int 0, .int 1]) (rest := []) (ct_X4_in cy z _ x2 0 1) ok_X4_in st_X4_in ml_X4_37 nd_X4_in (by decide +kernel) (Nat.le_of_ble_eq_true rfl) rfl dX4_set_21 (fun r14 G13 q15 => ?_)
          obtain ⟨rfl, rfl⟩ := q15
          rw [if_neg (show ¬ ((0 : Int32) ≤ x2 ∧ (x2 : Int32) ≤ 1) from hin21)]
          refine cc_if_ne (tgt := 30) dX4_set_24 (by decide) (fun c_24_1 => ?_) (fun c_24_1 => ?_)
          · exact absurd c_24_1 (by decide)
          · refine cc_bipush (v := (-2)) dX4_set_27 (by decide) ?_
            refine cc_iret rfl rfl dX4_set_29 ?_
            have e : C_set 0 x2 (S, sn, hi, t) = ((-2), (S, sn, hi, t)) := by
              unfold C_set
              
              rw [if_pos (show x2 < 0 ∨ C_mostB 0 < x2 from by rw [show C_mostB 0 = 1 from by decide]; exact mo_out hin21)]
            rw [e]
            
            exact ⟨_, rfl, rfl, ⟨_, _, _, _, _, _, _, _, _, _, _, H, hw, hS, rfl, hP, hl, rfl, hT, h60⟩⟩
  · refine cc_iload_n (j := 1) dX4_set_0 rfl rfl ?_
    refine cc_iconst (v := 0) dX4_set_1 (by decide) ?_
    refine cc_iconst (v := 1) dX4_set_2 (by decide) ?_
    refine cc_callSi (As := [.int 1, .int 0, .int 1]) (rest := []) (ct_X4_in cy z _ 1 0 1) ok_X4_in st_X4_in ml_X4_37 nd_X4_in (by decide +kernel) (Nat.le_of_ble_eq_true rfl) rfl dX4_set_3 (fun r17 G16 q18 => ?_)
    obtain ⟨rfl, rfl⟩ := q18
    rw [if_pos (show ((0 : Int32) ≤ 1 ∧ (1 : Int32) ≤ 1) from (by decide))]
    refine cc_if_eq (tgt := 27) dX4_set_6 (by decide) (fun c_6_1 => ?_) (fun c_6_1 => ?_)
    · exact absurd c_6_1 (by decide)
    · refine cc_iload_n (j := 2) dX4_set_9 rfl rfl ?_
      refine cc_iconst (v := 0) dX4_set_10 (by decide) ?_
      refine cc_iload_n (j := 1) dX4_set_11 rfl rfl ?_
      refine cc_if_ne (tgt := 19) dX4_set_12 (by decide) (fun c_12_1 => ?_) (fun c_12_1 => ?_)
      · refine cc_bipush (v := 60) dX4_set_19 (by decide) ?_
        by_cases hin21 : 0 ≤ x2 ∧ x2 ≤ 60
        · refine cc_callSi (As := [.int x2, .int 0, .int 60]) (rest := []) (ct_X4_in cy z _ x2 0 60) ok_X4_in st_X4_in ml_X4_37 nd_X4_in (by decide +kernel) (Nat.le_of_ble_eq_true rfl) rfl dX4_set_21 (fun r20 G19 q21 => ?_)
          obtain ⟨rfl, rfl⟩ := q21
          rw [if_pos (show ((0 : Int32) ≤ x2 ∧ (x2 : Int32) ≤ 60) from hin21)]
          refine cc_if_ne (tgt := 30) dX4_set_24 (by decide) (fun c_24_2 => ?_) (fun c_24_2 => ?_)
          · refine cc_aload_n (j := 0) dX4_set_30 rfl rfl ?_
            refine cc_get (v := .ref (o + 1)) H.2.1 cc_c4 0 (by decide) fl_X4_7 rfl dX4_set_31 ?_
            refine cc_iconst (v := 1) dX4_set_34 (by decide) ?_
            refine cc_iload_n (j := 1) dX4_set_35 rfl rfl ?_
            refine cc_iadd dX4_set_36 ?_
            rw [show (1 : Int32) + 1 = 2 by decide]
            refine cc_iald (x := r 2) H.2.2.1 (vp_in_nI (n := 2) (by decide) (by decide)) (by rw [show (2 : Int32).toNatClampNeg = 2 from rfl]) dX4_set_37 ?_
            rw [show r 2 = S.1 2 from hw.2.2.1]
            refine cc_istore_n (ls' := [(3, .int (S.1 2)), (0, .ref o), (1, .int 1), (2, .int x2)]) dX4_set_38 rfl (Nat.le_of_ble_eq_true rfl) rfl ?_
            refine cc_iload_n (j := 0) dX4_set_39 rfl rfl ?_
            refine cc_iload_n (j := 3) dX4_set_40 rfl rfl ?_
            refine cc_icmp_ne (tgt := 47) dX4_set_41 (by decide) (fun c_41_1 => ?_) (fun c_41_1 => ?_)
            · refine cc_aload_n (j := 1) dX4_set_47 rfl rfl ?_
              refine cc_callVv (As := []) (rest := []) (ct_X4_open cy z _ _ _ _ _ _ _ _ _ _ _ _ _ hi S hl hP hw rfl H.self) ok_X4_open (H.2.1) rfl im_X4_open sl_X4_open ml_X4_55 nd_X4_open (by decide +kernel) (Nat.le_of_ble_eq_true rfl) rfl dX4_set_48 (fun G22 q24 => ?_)
              obtain ⟨p2, b2, H25, hP2⟩ := q24
              have H25 := H.tr H25
              refine cc_aload_n (j := 1) dX4_set_51 rfl rfl ?_
              refine cc_get (v := .ref (o + 1)) H25.2.1 cc_c4 0 (by decide) fl_X4_7 rfl dX4_set_52 ?_
              refine cc_iconst (v := 1) dX4_set_55 (by decide) ?_
              refine cc_iload_n (j := 2) dX4_set_56 rfl rfl ?_
              refine cc_iadd dX4_set_57 ?_
              rw [show (1 : Int32) + 1 = 2 by decide]
              refine cc_iload_n (j := 3) dX4_set_58 rfl rfl ?_
              refine mo_rast_r (j := 2) H25 (vp_in_nI (n := 2) (by decide) (by decide)) rfl dX4_set_59 (fun G26 H27 => ?_)
              refine cc_iload_n (j := 0) dX4_set_60 rfl rfl ?_
              refine cc_iret rfl rfl dX4_set_61 ?_
              have e : C_set 1 x2 (S, sn, hi, t) = (S.1 2, C_box (C_rem (S, sn, hi, t)) (upd S.1 2 x2, S.2)) := by
                unfold C_set
                
                rw [if_neg (show ¬ (x2 < 0 ∨ C_mostB 1 < x2) from by rw [show C_mostB 1 = 60 from by decide]; exact mo_inn hin21), if_neg (by decide), if_neg c_41_1]
              rw [e]
              
              exact ⟨_, rfl, rfl, ⟨_, _, _, _, _, _, _, _, _, _, _, H27, (hw.top (k := 2) (by decide) x2), hS, rfl, hP2, (ma_hi_le hi S hl), rfl, hT, h60⟩⟩
            · refine cc_bipush (v := (-5)) dX4_set_44 (by decide) ?_
              refine cc_iret rfl rfl dX4_set_46 ?_
              have e : C_set 1 x2 (S, sn, hi, t) = ((-5), (S, sn, hi, t)) := by
                unfold C_set
                
                rw [if_neg (show ¬ (x2 < 0 ∨ C_mostB 1 < x2) from by rw [show C_mostB 1 = 60 from by decide]; exact mo_inn hin21), if_neg (by decide), if_pos c_41_1]
              rw [e]
              
              exact ⟨_, rfl, rfl, ⟨_, _, _, _, _, _, _, _, _, _, _, H, hw, hS, rfl, hP, hl, rfl, hT, h60⟩⟩
          · exact absurd c_24_2 (by decide)
        · refine cc_callSi (As := [.int x2, .int 0, .int 60]) (rest := []) (ct_X4_in cy z _ x2 0 60) ok_X4_in st_X4_in ml_X4_37 nd_X4_in (by decide +kernel) (Nat.le_of_ble_eq_true rfl) rfl dX4_set_21 (fun r29 G28 q30 => ?_)
          obtain ⟨rfl, rfl⟩ := q30
          rw [if_neg (show ¬ ((0 : Int32) ≤ x2 ∧ (x2 : Int32) ≤ 60) from hin21)]
          refine cc_if_ne (tgt := 30) dX4_set_24 (by decide) (fun c_24_3 => ?_) (fun c_24_3 => ?_)
          · exact absurd c_24_3 (by decide)
          · refine cc_bipush (v := (-2)) dX4_set_27 (by decide) ?_
            refine cc_iret rfl rfl dX4_set_29 ?_
            have e : C_set 1 x2 (S, sn, hi, t) = ((-2), (S, sn, hi, t)) := by
              unfold C_set
              
              rw [if_pos (show x2 < 0 ∨ C_mostB 1 < x2 from by rw [show C_mostB 1 = 60 from by decide]; exact mo_out hin21)]
            rw [e]
            
            exact ⟨_, rfl, rfl, ⟨_, _, _, _, _, _, _, _, _, _, _, H, hw, hS, rfl, hP, hl, rfl, hT, h60⟩⟩
      · exact absurd c_12_1 (by decide)
  · refine cc_iload_n (j := 1) dX4_set_0 rfl rfl ?_
    refine cc_iconst (v := 0) dX4_set_1 (by decide) ?_
    refine cc_iconst (v := 1) dX4_set_2 (by decide) ?_
    refine cc_callSi (As := [.int x1, .int 0, .int 1]) (rest := []) (ct_X4_in cy z _ x1 0 1) ok_X4_in st_X4_in ml_X4_37 nd_X4_in (by decide +kernel) (Nat.le_of_ble_eq_true rfl) rfl dX4_set_3 (fun r32 G31 q33 => ?_)
    obtain ⟨rfl, rfl⟩ := q33
    rw [if_neg (show ¬ ((0 : Int32) ≤ x1 ∧ (x1 : Int32) ≤ 1) from hw_)]
    refine cc_if_eq (tgt := 27) dX4_set_6 (by decide) (fun c_6_2 => ?_) (fun c_6_2 => ?_)
    · refine cc_bipush (v := (-2)) dX4_set_27 (by decide) ?_
      refine cc_iret rfl rfl dX4_set_29 ?_
      have e : C_set x1 x2 (S, sn, hi, t) = ((-2), (S, sn, hi, t)) := by
        unfold C_set
        
        rw [if_pos (show x2 < 0 ∨ C_mostB x1 < x2 from by rw [mo_mb hw_]; exact mo_any x2 (by decide))]
      rw [e]
      
      exact ⟨_, rfl, rfl, ⟨_, _, _, _, _, _, _, _, _, _, _, H, hw, hS, rfl, hP, hl, rfl, hT, h60⟩⟩
    · exact absurd c_6_2 (by decide)

set_option maxHeartbeats 4000000 in
set_option maxRecDepth 100000 in
theorem ct_X4_arrive (cy : Nat → ClassId) (z : Nat) (G : cc_G) (o : Nat) (c : CS_) (x1 x2 : Int32)  (hI : ma_I cy G G o c) : cc_Cn cy Y_X4_arrive [.ref o, .int x1, .int x2] z G (cc_qi (fun r9 G' => r9 = (C_arrive x1 x2 c).1 ∧ ma_I cy G G' o (C_arrive x1 x2 c).2)) := by
  obtain ⟨S, sn, hi, t⟩ := c
  obtain ⟨r, pa, qa, be, nn, ia, tx, le, ay, hs, so, H, hw, hS, hnn, hP, hl, hle, hT, h60⟩ := hI
  have H : mo_R cy G G o r pa qa be nn ia tx le ay hs so := H
  have hw : rw_I r S := hw
  have hS : ma_S ia qa sn := hS
  have hnn : nn = nI hi.length := hnn
  have hP : ma_P pa hi := hP
  have hl : hi.length ≤ 4 := hl
  have hle : le = nI t.length := hle
  have hT : ar_ tx t := hT
  have h60 : t.length ≤ 60 := h60
  subst hnn
  subst hle
  refine cc_enter ok_X4_arrive (Nat.le_of_ble_eq_true rfl) (ls := [(0, .ref o), (1, .int x1), (2, .int x2)]) rfl ?_
  rcases cc_port x1 with ⟨i, hi4, rfl⟩ | hx
  · have hl0 := hw.2.2.2.2.1 i hi4
    have hq0 := hw.2.2.2.2.2 i hi4
    have h8 : (S.2.1 i).2.1.length ≤ 8 := hl0.2.2.2.2.2.1
    have h6 : (S.2.1 i).2.2.length ≤ 6 := hl0.2.2.2.2.2.2
    have h8q : (S.2.2 i).2.2.length ≤ 8 := hq0.2.2.2.2
    refine cc_iload_n (j := 1) dX4_arrive_0 rfl rfl ?_
    refine cc_callSi (As := [.int (nI i)]) (rest := []) (ct_X4_noPort cy z _ (nI i)) ok_X4_noPort st_X4_noPort ml_X4_58 nd_X4_noPort (by decide +kernel) (Nat.le_of_ble_eq_true rfl) rfl dX4_arrive_1 (fun r2 G1 q3 => ?_)
    obtain ⟨rfl, rfl⟩ := q3
    rw [if_pos (cc_pt hi4)]
    refine cc_if_ne (tgt := 14) dX4_arrive_4 (by decide) (fun c_4 => ?_) (fun c_4 => ?_)
    · exact absurd c_4 (by decide)
    · by_cases hx2 : 0 ≤ x2 ∧ x2 < 4
      · refine cc_iload_n (j := 2) dX4_arrive_7 rfl rfl ?_
        refine cc_callSi (As := [.int x2]) (rest := []) (ct_X4_noPort cy z _ x2) ok_X4_noPort st_X4_noPort ml_X4_58 nd_X4_noPort (by decide +kernel) (Nat.le_of_ble_eq_true rfl) rfl dX4_arrive_8 (fun r5 G4 q6 => ?_)
        obtain ⟨rfl, rfl⟩ := q6
        rw [if_pos hx2]
        refine cc_if_eq (tgt := 16) dX4_arrive_11 (by decide) (fun c_11 => ?_) (fun c_11 => ?_)
        · refine cc_aload_n (j := 0) dX4_arrive_16 rfl rfl ?_
          refine cc_iload_n (j := 1) dX4_arrive_17 rfl rfl ?_
          refine cc_iconst (v := 0) dX4_arrive_18 (by decide) ?_
          refine cc_callVi (As := [.int (nI i), .int 0]) (rest := []) (ct_X4_by cy z _ _ _ _ _ _ _ _ _ _ _ _ _ i 0 (by omega) H.self) ok_X4_by (H.2.1) rfl im_X4_by sl_X4_by ml_X4_69 nd_X4_by (by decide +kernel) (Nat.le_of_ble_eq_true rfl) rfl dX4_arrive_19 (fun r8 G7 q9 => ?_)
          obtain ⟨rfl, rfl⟩ := q9
          rw [show r (124 + 27 * i + 0) = nI (S.2.2 i).2.2.length from hq0.1]
          refine cc_bipush (v := 8) dX4_arrive_22 (by decide) ?_
          refine cc_icmp_ne (tgt := 30) dX4_arrive_24 (by decide) (fun c_24 => ?_) (fun c_24 => ?_)
          · have hlt : (S.2.2 i).2.2.length < 8 := by
              rcases Nat.lt_or_ge (S.2.2 i).2.2.length 8 with q | q
              · exact q
              · exact absurd (by rw [show (S.2.2 i).2.2.length = 8 by omega]; rfl) c_24
            refine cc_aload_n (j := 0) dX4_arrive_30 rfl rfl ?_
            refine cc_callVv (As := []) (rest := []) (ct_X4_open cy z _ _ _ _ _ _ _ _ _ _ _ _ _ hi S hl hP hw rfl H.self) ok_X4_open (H.2.1) rfl im_X4_open sl_X4_open ml_X4_55 nd_X4_open (by decide +kernel) (Nat.le_of_ble_eq_true rfl) rfl dX4_arrive_31 (fun G10 q12 => ?_)
            obtain ⟨p2, b2, H13, hP2⟩ := q12
            have H13 := H.tr H13
            refine cc_aload_n (j := 0) dX4_arrive_34 rfl rfl ?_
            refine cc_iload_n (j := 1) dX4_arrive_35 rfl rfl ?_
            refine cc_iload_n (j := 2) dX4_arrive_36 rfl rfl ?_
            refine cc_callVv (As := [.int (nI i), .int x2]) (rest := []) (ct_X4_bring cy z _ _ _ _ _ _ _ _ _ _ _ _ _ S hw i hi4 x2 hlt H13.self) ok_X4_bring (H13.2.1) rfl im_X4_bring sl_X4_bring ml_X4_72 nd_X4_bring (by decide +kernel) (Nat.le_of_ble_eq_true rfl) rfl dX4_arrive_37 (fun G14 q16 => ?_)
            obtain ⟨rb, H17, hwb⟩ := q16
            have H17 := H13.tr H17
            refine cc_aload_n (j := 0) dX4_arrive_40 rfl rfl ?_
            refine cc_get (v := .ref (o + 1)) H17.2.1 cc_c4 0 (by decide) fl_X4_7 rfl dX4_arrive_41 ?_
            refine cc_iconst (v := 3) dX4_arrive_44 (by decide) ?_
            refine cc_iald (x := rb 3) H17.2.2.1 (vp_in_nI (n := 3) (by decide) (by decide)) (by rw [show (3 : Int32).toNatClampNeg = 3 from rfl]) dX4_arrive_45 ?_
            rw [show rb 3 = S.1 3 + 1 from hwb.2.2.2.1]
            refine cc_iconst (v := 1) dX4_arrive_46 (by decide) ?_
            refine cc_isub dX4_arrive_47 ?_
            rw [show (S.1 3 + 1) - 1 = S.1 3 from Int32.add_sub_cancel _ _]
            refine cc_iret rfl rfl dX4_arrive_48 ?_
            have e : C_arrive (nI i) x2 (S, sn, hi, t) = (S.1 3, C_box (C_rem (S, sn, hi, t)) (B_adm i x2 S)) := by
              unfold C_arrive
              
              rw [if_pos ⟨cc_pt hi4, hx2⟩, C_i_n (by omega)]
              dsimp only
              rw [if_pos hlt]
            rw [e]
            
            exact ⟨_, rfl, rfl, ⟨_, _, _, _, _, _, _, _, _, _, _, H17, hwb, hS, rfl, hP2, (ma_hi_le hi S hl), rfl, hT, h60⟩⟩
          · have h88 : (S.2.2 i).2.2.length = 8 := by
              rcases Nat.lt_or_ge (S.2.2 i).2.2.length 8 with q | q
              · exact absurd (show (8 : Int32) < 8 from by
                  have q2 := nI_lt (b := 8) q (by decide)
                  rw [c_24] at q2
                  exact q2) (by decide)
              · omega
            refine cc_bipush (v := (-3)) dX4_arrive_27 (by decide) ?_
            refine cc_iret rfl rfl dX4_arrive_29 ?_
            have e : C_arrive (nI i) x2 (S, sn, hi, t) = ((-3), (S, sn, hi, t)) := by
              unfold C_arrive
              
              rw [if_pos ⟨cc_pt hi4, hx2⟩, C_i_n (by omega)]
              dsimp only
              rw [if_neg (by omega)]
            rw [e]
            
            exact ⟨_, rfl, rfl, ⟨_, _, _, _, _, _, _, _, _, _, _, H, hw, hS, rfl, hP, hl, rfl, hT, h60⟩⟩
        · exact absurd c_11 (by decide)
      · refine cc_iload_n (j := 2) dX4_arrive_7 rfl rfl ?_
        refine cc_callSi (As := [.int x2]) (rest := []) (ct_X4_noPort cy z _ x2) ok_X4_noPort st_X4_noPort ml_X4_58 nd_X4_noPort (by decide +kernel) (Nat.le_of_ble_eq_true rfl) rfl dX4_arrive_8 (fun r19 G18 q20 => ?_)
        obtain ⟨rfl, rfl⟩ := q20
        rw [if_neg hx2]
        refine cc_if_eq (tgt := 16) dX4_arrive_11 (by decide) (fun c_11_1 => ?_) (fun c_11_1 => ?_)
        · exact absurd c_11_1 (by decide)
        · refine cc_iconst (v := (-1)) dX4_arrive_14 (by decide) ?_
          refine cc_iret rfl rfl dX4_arrive_15 ?_
          have e : C_arrive (nI i) x2 (S, sn, hi, t) = ((-1), (S, sn, hi, t)) := by
            unfold C_arrive
            
            rw [if_neg (fun h => hx2 h.2)]
          rw [e]
          
          exact ⟨_, rfl, rfl, ⟨_, _, _, _, _, _, _, _, _, _, _, H, hw, hS, rfl, hP, hl, rfl, hT, h60⟩⟩
  · refine cc_iload_n (j := 1) dX4_arrive_0 rfl rfl ?_
    refine cc_callSi (As := [.int x1]) (rest := []) (ct_X4_noPort cy z _ x1) ok_X4_noPort st_X4_noPort ml_X4_58 nd_X4_noPort (by decide +kernel) (Nat.le_of_ble_eq_true rfl) rfl dX4_arrive_1 (fun r22 G21 q23 => ?_)
    obtain ⟨rfl, rfl⟩ := q23
    rw [if_neg hx]
    refine cc_if_ne (tgt := 14) dX4_arrive_4 (by decide) (fun c_4_1 => ?_) (fun c_4_1 => ?_)
    · refine cc_iconst (v := (-1)) dX4_arrive_14 (by decide) ?_
      refine cc_iret rfl rfl dX4_arrive_15 ?_
      have e : C_arrive x1 x2 (S, sn, hi, t) = ((-1), (S, sn, hi, t)) := by
        unfold C_arrive
        
        rw [if_neg (fun h => hx h.1)]
      rw [e]
      
      exact ⟨_, rfl, rfl, ⟨_, _, _, _, _, _, _, _, _, _, _, H, hw, hS, rfl, hP, hl, rfl, hT, h60⟩⟩
    · exact absurd c_4_1 (by decide)

set_option maxHeartbeats 4000000 in
set_option maxRecDepth 100000 in
theorem ct_X4_pass (cy : Nat → ClassId) (z : Nat) (G : cc_G) (o : Nat) (c : CS_) (x1 : Int32) (M : Nat) (hM : M < 2 ^ 20) (hok : C_ok M c) (hI : ma_I cy G G o c) : cc_Cn cy Y_X4_pass [.ref o, .int x1] z G (cc_qi (fun r9 G' => r9 = (C_pass x1 c).1 ∧ ma_I cy G G' o (C_pass x1 c).2)) := by
  obtain ⟨S, sn, hi, t⟩ := c
  obtain ⟨r, pa, qa, be, nn, ia, tx, le, ay, hs, so, H, hw, hS, hnn, hP, hl, hle, hT, h60⟩ := hI
  have H : mo_R cy G G o r pa qa be nn ia tx le ay hs so := H
  have hw : rw_I r S := hw
  have hS : ma_S ia qa sn := hS
  have hnn : nn = nI hi.length := hnn
  have hP : ma_P pa hi := hP
  have hl : hi.length ≤ 4 := hl
  have hle : le = nI t.length := hle
  have hT : ar_ tx t := hT
  have h60 : t.length ≤ 60 := h60
  subst hnn
  subst hle
  obtain ⟨T, hTk⟩ := hok.1
  have hTk : T ≤ 9999 ∧ B_ok T M S := hTk
  refine cc_enter ok_X4_pass (Nat.le_of_ble_eq_true rfl) (ls := [(0, .ref o), (1, .int x1)]) rfl ?_
  by_cases htc : 1 ≤ x1 ∧ x1 ≤ 50
  · obtain ⟨n, rfl, hn1, hn2⟩ := cc_ticks htc
    refine cc_iload_n (j := 1) dX4_pass_0 rfl rfl ?_
    refine cc_iconst (v := 1) dX4_pass_1 (by decide) ?_
    refine cc_bipush (v := 50) dX4_pass_2 (by decide) ?_
    refine cc_callSi (As := [.int (nI n), .int 1, .int 50]) (rest := []) (ct_X4_in cy z _ (nI n) 1 50) ok_X4_in st_X4_in ml_X4_37 nd_X4_in (by decide +kernel) (Nat.le_of_ble_eq_true rfl) rfl dX4_pass_4 (fun r2 G1 q3 => ?_)
    obtain ⟨rfl, rfl⟩ := q3
    rw [if_pos (show ((1 : Int32) ≤ nI n ∧ (nI n : Int32) ≤ 50) from htc)]
    refine cc_if_ne (tgt := 13) dX4_pass_7 (by decide) (fun c_7 => ?_) (fun c_7 => ?_)
    · refine cc_aload_n (j := 0) dX4_pass_13 rfl rfl ?_
      refine cc_get (v := .ref (o + 1)) H.2.1 cc_c4 0 (by decide) fl_X4_7 rfl dX4_pass_14 ?_
      refine cc_iconst (v := 0) dX4_pass_17 (by decide) ?_
      refine cc_iald (x := r 0) H.2.2.1 (vp_in_nI (n := 0) (by decide) (by decide)) (by rw [show (0 : Int32).toNatClampNeg = 0 from rfl]) dX4_pass_18 ?_
      rw [show r 0 = S.1 0 from hw.1]
      refine cc_iload_n (j := 1) dX4_pass_19 rfl rfl ?_
      refine cc_iadd dX4_pass_20 ?_
      refine cc_sipush (v := 9999) dX4_pass_21 (by decide) ?_
      refine cc_icmp_le (tgt := 30) dX4_pass_24 (by decide) (fun c_24 => ?_) (fun c_24 => ?_)
      · refine cc_aload_n (j := 0) dX4_pass_30 rfl rfl ?_
        refine cc_callVv (As := []) (rest := []) (ct_X4_open cy z _ _ _ _ _ _ _ _ _ _ _ _ _ hi S hl hP hw rfl H.self) ok_X4_open (H.2.1) rfl im_X4_open sl_X4_open ml_X4_55 nd_X4_open (by decide +kernel) (Nat.le_of_ble_eq_true rfl) rfl dX4_pass_31 (fun G4 q6 => ?_)
        obtain ⟨p2, b2, H7, hP2⟩ := q6
        have H7 := H.tr H7
        refine cc_aload_n (j := 0) dX4_pass_34 rfl rfl ?_
        refine cc_iload_n (j := 1) dX4_pass_35 rfl rfl ?_
        refine cc_callVi (As := [.int (nI n)]) (rest := []) (ct_X4_passAll cy z _ _ _ _ _ _ _ _ _ _ _ _ _ S hw n (by omega) (hTk.2.midm hM (by omega)) H7.self) ok_X4_passAll (H7.2.1) rfl im_X4_passAll sl_X4_passAll ml_X4_123 nd_X4_passAll (by decide +kernel) (Nat.le_of_ble_eq_true rfl) rfl dX4_pass_36 (fun r9 G8 q10 => ?_)
        obtain ⟨hr, rb, hsb, sob, H11, hwb⟩ := q10
        subst hr
        have H11 := H7.tr H11
        refine cc_iret rfl rfl dX4_pass_39 ?_
        have e : C_pass (nI n) (S, sn, hi, t) = (nI (B_pass n S).1, C_box (C_rem (S, sn, hi, t)) (B_pass n S).2) := by
          unfold C_pass
          
          rw [if_pos htc, if_neg (Int32.not_lt.mpr c_24), C_i_n (by omega)]
        rw [e]
        
        exact ⟨_, rfl, rfl, ⟨_, _, _, _, _, _, _, _, _, _, _, H11, hwb, hS, rfl, hP2, (ma_hi_le hi S hl), rfl, hT, h60⟩⟩
      · refine cc_bipush (v := (-4)) dX4_pass_27 (by decide) ?_
        refine cc_iret rfl rfl dX4_pass_29 ?_
        have e : C_pass (nI n) (S, sn, hi, t) = ((-4), (S, sn, hi, t)) := by
          unfold C_pass
          
          rw [if_pos htc, if_pos (Int32.not_le.mp c_24)]
        rw [e]
        
        exact ⟨_, rfl, rfl, ⟨_, _, _, _, _, _, _, _, _, _, _, H, hw, hS, rfl, hP, hl, rfl, hT, h60⟩⟩
    · exact absurd c_7 (by decide)
  · refine cc_iload_n (j := 1) dX4_pass_0 rfl rfl ?_
    refine cc_iconst (v := 1) dX4_pass_1 (by decide) ?_
    refine cc_bipush (v := 50) dX4_pass_2 (by decide) ?_
    refine cc_callSi (As := [.int x1, .int 1, .int 50]) (rest := []) (ct_X4_in cy z _ x1 1 50) ok_X4_in st_X4_in ml_X4_37 nd_X4_in (by decide +kernel) (Nat.le_of_ble_eq_true rfl) rfl dX4_pass_4 (fun r13 G12 q14 => ?_)
    obtain ⟨rfl, rfl⟩ := q14
    rw [if_neg (show ¬ ((1 : Int32) ≤ x1 ∧ (x1 : Int32) ≤ 50) from htc)]
    refine cc_if_ne (tgt := 13) dX4_pass_7 (by decide) (fun c_7_1 => ?_) (fun c_7_1 => ?_)
    · exact absurd c_7_1 (by decide)
    · refine cc_bipush (v := (-2)) dX4_pass_10 (by decide) ?_
      refine cc_iret rfl rfl dX4_pass_12 ?_
      have e : C_pass x1 (S, sn, hi, t) = ((-2), (S, sn, hi, t)) := by
        unfold C_pass
        
        rw [if_neg htc]
      rw [e]
      
      exact ⟨_, rfl, rfl, ⟨_, _, _, _, _, _, _, _, _, _, _, H, hw, hS, rfl, hP, hl, rfl, hT, h60⟩⟩

set_option maxHeartbeats 4000000 in
set_option maxRecDepth 100000 in
theorem ct_X4_lose (cy : Nat → ClassId) (z : Nat) (G : cc_G) (o : Nat) (c : CS_) (x1 : Int32)  (hI : ma_I cy G G o c) : cc_Cn cy Y_X4_lose [.ref o, .int x1] z G (cc_qi (fun r9 G' => r9 = (C_lose x1 c).1 ∧ ma_I cy G G' o (C_lose x1 c).2)) := by
  obtain ⟨S, sn, hi, t⟩ := c
  obtain ⟨r, pa, qa, be, nn, ia, tx, le, ay, hs, so, H, hw, hS, hnn, hP, hl, hle, hT, h60⟩ := hI
  have H : mo_R cy G G o r pa qa be nn ia tx le ay hs so := H
  have hw : rw_I r S := hw
  have hS : ma_S ia qa sn := hS
  have hnn : nn = nI hi.length := hnn
  have hP : ma_P pa hi := hP
  have hl : hi.length ≤ 4 := hl
  have hle : le = nI t.length := hle
  have hT : ar_ tx t := hT
  have h60 : t.length ≤ 60 := h60
  subst hnn
  subst hle
  refine cc_enter ok_X4_lose (Nat.le_of_ble_eq_true rfl) (ls := [(0, .ref o), (1, .int x1)]) rfl ?_
  rcases cc_port x1 with ⟨i, hi4, rfl⟩ | hx
  · have hl0 := hw.2.2.2.2.1 i hi4
    have hq0 := hw.2.2.2.2.2 i hi4
    have h8 : (S.2.1 i).2.1.length ≤ 8 := hl0.2.2.2.2.2.1
    have h6 : (S.2.1 i).2.2.length ≤ 6 := hl0.2.2.2.2.2.2
    have h8q : (S.2.2 i).2.2.length ≤ 8 := hq0.2.2.2.2
    refine cc_iload_n (j := 1) dX4_lose_0 rfl rfl ?_
    refine cc_callSi (As := [.int (nI i)]) (rest := []) (ct_X4_noPort cy z _ (nI i)) ok_X4_noPort st_X4_noPort ml_X4_58 nd_X4_noPort (by decide +kernel) (Nat.le_of_ble_eq_true rfl) rfl dX4_lose_1 (fun r2 G1 q3 => ?_)
    obtain ⟨rfl, rfl⟩ := q3
    rw [if_pos (cc_pt hi4)]
    refine cc_if_eq (tgt := 9) dX4_lose_4 (by decide) (fun c_4 => ?_) (fun c_4 => ?_)
    · refine cc_aload_n (j := 0) dX4_lose_9 rfl rfl ?_
      refine cc_iload_n (j := 1) dX4_lose_10 rfl rfl ?_
      refine cc_bipush (v := 10) dX4_lose_11 (by decide) ?_
      refine cc_callVi (As := [.int (nI i), .int 10]) (rest := []) (ct_X4_of cy z _ _ _ _ _ _ _ _ _ _ _ _ _ i 10 (by omega) H.self) ok_X4_of (H.2.1) rfl im_X4_of sl_X4_of ml_X4_62 nd_X4_of (by decide +kernel) (Nat.le_of_ble_eq_true rfl) rfl dX4_lose_13 (fun r5 G4 q6 => ?_)
      obtain ⟨rfl, rfl⟩ := q6
      rw [show r (4 + 30 * i + 10) = nI (S.2.1 i).2.2.length from hl0.2.2.1]
      refine cc_if_ne (tgt := 22) dX4_lose_16 (by decide) (fun c_16 => ?_) (fun c_16 => ?_)
      · have hz6 : ¬ (S.2.1 i).2.2.length = 0 := fun q => c_16 (by rw [q]; rfl)
        refine cc_aload_n (j := 0) dX4_lose_22 rfl rfl ?_
        refine cc_callVv (As := []) (rest := []) (ct_X4_open cy z _ _ _ _ _ _ _ _ _ _ _ _ _ hi S hl hP hw rfl H.self) ok_X4_open (H.2.1) rfl im_X4_open sl_X4_open ml_X4_55 nd_X4_open (by decide +kernel) (Nat.le_of_ble_eq_true rfl) rfl dX4_lose_23 (fun G7 q9 => ?_)
        obtain ⟨p2, b2, H10, hP2⟩ := q9
        have H10 := H.tr H10
        refine cc_aload_n (j := 0) dX4_lose_26 rfl rfl ?_
        refine cc_iload_n (j := 1) dX4_lose_27 rfl rfl ?_
        refine cc_callVv (As := [.int (nI i)]) (rest := []) (ct_X4_dropFirst cy z _ _ _ _ _ _ _ _ _ _ _ _ _ (S.2.1 i).1 (S.2.1 i).2.1 (S.2.1 i).2.2 i hi4 (by omega) H10.self hl0) ok_X4_dropFirst (H10.2.1) rfl im_X4_dropFirst sl_X4_dropFirst ml_X4_96 nd_X4_dropFirst (by decide +kernel) (Nat.le_of_ble_eq_true rfl) rfl dX4_lose_28 (fun G11 q13 => ?_)
        obtain ⟨rb, H14, hlb, hkb⟩ := q13
        have H14 := H10.tr H14
        refine cc_aload_n (j := 0) dX4_lose_31 rfl rfl ?_
        refine cc_iload_n (j := 1) dX4_lose_32 rfl rfl ?_
        refine cc_bipush (v := 8) dX4_lose_33 (by decide) ?_
        refine cc_iconst (v := 1) dX4_lose_35 (by decide) ?_
        refine cc_callVv (As := [.int (nI i), .int 8, .int 1]) (rest := []) (ct_X4_more cy z _ _ _ _ _ _ _ _ _ _ _ _ _ i 8 1 (by omega) H14.self) ok_X4_more (H14.2.1) rfl im_X4_more sl_X4_more ml_X4_66 nd_X4_more (by decide +kernel) (Nat.le_of_ble_eq_true rfl) rfl dX4_lose_36 (fun G15 q17 => ?_)
        have H18 := H14.tr q17
        rw [show rb (4 + 30 * i + 8) = (S.2.1 i).1 8 from hlb.1 8 (by decide)] at H18
        have hla1 := hlb.num (w := 8) (by decide) ((S.2.1 i).1 8 + 1)
        have hka1 : ∀ q, (q < 4 + 30 * i ∨ 4 + 30 * i + 30 ≤ q) → upd rb (4 + 30 * i + 8) ((S.2.1 i).1 8 + 1) q = r q := fun q hq => (pk_un (by omega)).trans (hkb q hq)
        generalize upd rb (4 + 30 * i + 8) ((S.2.1 i).1 8 + 1) = ra1 at H18 hla1 hka1
        refine cc_aload_n (j := 0) dX4_lose_39 rfl rfl ?_
        refine cc_iload_n (j := 1) dX4_lose_40 rfl rfl ?_
        refine cc_bipush (v := 10) dX4_lose_41 (by decide) ?_
        refine cc_callVi (As := [.int (nI i), .int 10]) (rest := []) (ct_X4_of cy z _ _ _ _ _ _ _ _ _ _ _ _ _ i 10 (by omega) H18.self) ok_X4_of (H18.2.1) rfl im_X4_of sl_X4_of ml_X4_62 nd_X4_of (by decide +kernel) (Nat.le_of_ble_eq_true rfl) rfl dX4_lose_43 (fun r20 G19 q21 => ?_)
        obtain ⟨rfl, rfl⟩ := q21
        rw [show ra1 (4 + 30 * i + 10) = nI ((S.2.1 i).2.2.length - 1) from hla1.2.2.1.trans (by show nI (S.2.1 i).2.2.tail.length = _; rw [List.length_tail])]
        refine cc_iret rfl rfl dX4_lose_46 ?_
        have e : C_lose (nI i) (S, sn, hi, t) = (nI ((S.2.1 i).2.2.length - 1), C_box (C_rem (S, sn, hi, t)) (S_lane S i (L_lose (S.2.1 i)))) := by
          unfold C_lose
          rw [if_pos (cc_pt hi4), C_i_n (by omega)]
          dsimp only
          rw [if_neg hz6]
        rw [e]
        
        exact ⟨_, rfl, rfl, ⟨_, _, _, _, _, _, _, _, _, _, _, H18, (hw.lane hi4 hla1 hka1), hS, rfl, hP2, (ma_hi_le hi S hl), rfl, hT, h60⟩⟩
      · have hz6 : (S.2.1 i).2.2.length = 0 := (cc_e0 (by omega)).mp c_16
        refine cc_bipush (v := (-4)) dX4_lose_19 (by decide) ?_
        refine cc_iret rfl rfl dX4_lose_21 ?_
        have e : C_lose (nI i) (S, sn, hi, t) = ((-4), (S, sn, hi, t)) := by
          unfold C_lose
          rw [if_pos (cc_pt hi4), C_i_n (by omega)]
          dsimp only
          rw [if_pos hz6]
        rw [e]
        
        exact ⟨_, rfl, rfl, ⟨_, _, _, _, _, _, _, _, _, _, _, H, hw, hS, rfl, hP, hl, rfl, hT, h60⟩⟩
    · exact absurd c_4 (by decide)
  · refine cc_iload_n (j := 1) dX4_lose_0 rfl rfl ?_
    refine cc_callSi (As := [.int x1]) (rest := []) (ct_X4_noPort cy z _ x1) ok_X4_noPort st_X4_noPort ml_X4_58 nd_X4_noPort (by decide +kernel) (Nat.le_of_ble_eq_true rfl) rfl dX4_lose_1 (fun r23 G22 q24 => ?_)
    obtain ⟨rfl, rfl⟩ := q24
    rw [if_neg hx]
    refine cc_if_eq (tgt := 9) dX4_lose_4 (by decide) (fun c_4_1 => ?_) (fun c_4_1 => ?_)
    · exact absurd c_4_1 (by decide)
    · refine cc_iconst (v := (-1)) dX4_lose_7 (by decide) ?_
      refine cc_iret rfl rfl dX4_lose_8 ?_
      have e : C_lose x1 (S, sn, hi, t) = ((-1), (S, sn, hi, t)) := by
        unfold C_lose
        
        rw [if_neg hx]
      rw [e]
      
      exact ⟨_, rfl, rfl, ⟨_, _, _, _, _, _, _, _, _, _, _, H, hw, hS, rfl, hP, hl, rfl, hT, h60⟩⟩

set_option maxHeartbeats 4000000 in
set_option maxRecDepth 100000 in
theorem ct_X4_forge (cy : Nat → ClassId) (z : Nat) (G : cc_G) (o : Nat) (c : CS_) (x1 : Int32)  (hI : ma_I cy G G o c) : cc_Cn cy Y_X4_forge [.ref o, .int x1] z G (cc_qi (fun r9 G' => r9 = (C_forge x1 c).1 ∧ ma_I cy G G' o (C_forge x1 c).2)) := by
  obtain ⟨S, sn, hi, t⟩ := c
  obtain ⟨r, pa, qa, be, nn, ia, tx, le, ay, hs, so, H, hw, hS, hnn, hP, hl, hle, hT, h60⟩ := hI
  have H : mo_R cy G G o r pa qa be nn ia tx le ay hs so := H
  have hw : rw_I r S := hw
  have hS : ma_S ia qa sn := hS
  have hnn : nn = nI hi.length := hnn
  have hP : ma_P pa hi := hP
  have hl : hi.length ≤ 4 := hl
  have hle : le = nI t.length := hle
  have hT : ar_ tx t := hT
  have h60 : t.length ≤ 60 := h60
  subst hnn
  subst hle
  refine cc_enter ok_X4_forge (Nat.le_of_ble_eq_true rfl) (ls := [(0, .ref o), (1, .int x1)]) rfl ?_
  rcases cc_port x1 with ⟨i, hi4, rfl⟩ | hx
  · have hl0 := hw.2.2.2.2.1 i hi4
    have hq0 := hw.2.2.2.2.2 i hi4
    have h8 : (S.2.1 i).2.1.length ≤ 8 := hl0.2.2.2.2.2.1
    have h6 : (S.2.1 i).2.2.length ≤ 6 := hl0.2.2.2.2.2.2
    have h8q : (S.2.2 i).2.2.length ≤ 8 := hq0.2.2.2.2
    refine cc_iload_n (j := 1) dX4_forge_0 rfl rfl ?_
    refine cc_callSi (As := [.int (nI i)]) (rest := []) (ct_X4_noPort cy z _ (nI i)) ok_X4_noPort st_X4_noPort ml_X4_58 nd_X4_noPort (by decide +kernel) (Nat.le_of_ble_eq_true rfl) rfl dX4_forge_1 (fun r2 G1 q3 => ?_)
    obtain ⟨rfl, rfl⟩ := q3
    rw [if_pos (cc_pt hi4)]
    refine cc_if_eq (tgt := 9) dX4_forge_4 (by decide) (fun c_4 => ?_) (fun c_4 => ?_)
    · refine cc_aload_n (j := 0) dX4_forge_9 rfl rfl ?_
      refine cc_iload_n (j := 1) dX4_forge_10 rfl rfl ?_
      refine cc_iconst (v := 3) dX4_forge_11 (by decide) ?_
      refine cc_callVi (As := [.int (nI i), .int 3]) (rest := []) (ct_X4_of cy z _ _ _ _ _ _ _ _ _ _ _ _ _ i 3 (by omega) H.self) ok_X4_of (H.2.1) rfl im_X4_of sl_X4_of ml_X4_62 nd_X4_of (by decide +kernel) (Nat.le_of_ble_eq_true rfl) rfl dX4_forge_12 (fun r5 G4 q6 => ?_)
      obtain ⟨rfl, rfl⟩ := q6
      rw [show r (4 + 30 * i + 3) = (S.2.1 i).1 3 from hl0.1 3 (by decide)]
      refine cc_bipush (v := 16) dX4_forge_15 (by decide) ?_
      refine cc_icmp_lt (tgt := 23) dX4_forge_17 (by decide) (fun c_17 => ?_) (fun c_17 => ?_)
      · refine cc_aload_n (j := 0) dX4_forge_23 rfl rfl ?_
        refine cc_callVv (As := []) (rest := []) (ct_X4_open cy z _ _ _ _ _ _ _ _ _ _ _ _ _ hi S hl hP hw rfl H.self) ok_X4_open (H.2.1) rfl im_X4_open sl_X4_open ml_X4_55 nd_X4_open (by decide +kernel) (Nat.le_of_ble_eq_true rfl) rfl dX4_forge_24 (fun G7 q9 => ?_)
        obtain ⟨p2, b2, H10, hP2⟩ := q9
        have H10 := H.tr H10
        refine cc_aload_n (j := 0) dX4_forge_27 rfl rfl ?_
        refine cc_iload_n (j := 1) dX4_forge_28 rfl rfl ?_
        refine cc_iconst (v := 3) dX4_forge_29 (by decide) ?_
        refine cc_iconst (v := 1) dX4_forge_30 (by decide) ?_
        refine cc_callVv (As := [.int (nI i), .int 3, .int 1]) (rest := []) (ct_X4_more cy z _ _ _ _ _ _ _ _ _ _ _ _ _ i 3 1 (by omega) H10.self) ok_X4_more (H10.2.1) rfl im_X4_more sl_X4_more ml_X4_66 nd_X4_more (by decide +kernel) (Nat.le_of_ble_eq_true rfl) rfl dX4_forge_31 (fun G11 q13 => ?_)
        have H14 := H10.tr q13
        rw [show r (4 + 30 * i + 3) = (S.2.1 i).1 3 from hl0.1 3 (by decide)] at H14
        have hla1 := hl0.num (w := 3) (by decide) ((S.2.1 i).1 3 + 1)
        have hka1 : ∀ q, (q < 4 + 30 * i ∨ 4 + 30 * i + 30 ≤ q) → upd r (4 + 30 * i + 3) ((S.2.1 i).1 3 + 1) q = r q := fun q hq => (pk_un (by omega)).trans rfl
        generalize upd r (4 + 30 * i + 3) ((S.2.1 i).1 3 + 1) = ra1 at H14 hla1 hka1
        refine cc_bipush (v := 100) dX4_forge_34 (by decide) ?_
        refine cc_aload_n (j := 0) dX4_forge_36 rfl rfl ?_
        refine cc_iload_n (j := 1) dX4_forge_37 rfl rfl ?_
        refine cc_iconst (v := 3) dX4_forge_38 (by decide) ?_
        refine cc_callVi (As := [.int (nI i), .int 3]) (rest := [.int 100]) (ct_X4_of cy z _ _ _ _ _ _ _ _ _ _ _ _ _ i 3 (by omega) H14.self) ok_X4_of (H14.2.1) rfl im_X4_of sl_X4_of ml_X4_62 nd_X4_of (by decide +kernel) (Nat.le_of_ble_eq_true rfl) rfl dX4_forge_39 (fun r16 G15 q17 => ?_)
        obtain ⟨rfl, rfl⟩ := q17
        rw [show ra1 (4 + 30 * i + 3) = (S.2.1 i).1 3 + 1 from hla1.1 3 (by decide)]
        refine cc_iadd dX4_forge_42 ?_
        refine cc_iret rfl rfl dX4_forge_43 ?_
        have e : C_forge (nI i) (S, sn, hi, t) = ((S.2.1 i).1 3 + 1 + 100, C_box (C_rem (S, sn, hi, t)) (S_lane S i (upd (S.2.1 i).1 3 ((S.2.1 i).1 3 + 1), (S.2.1 i).2))) := by
          unfold C_forge
          rw [if_pos (cc_pt hi4), C_i_n (by omega)]
          dsimp only
          rw [if_neg (Int32.not_le.mpr c_17)]
        rw [e]
        
        exact ⟨_, rfl, (Int32.add_comm _ _), ⟨_, _, _, _, _, _, _, _, _, _, _, H14, (hw.lane hi4 hla1 hka1), hS, rfl, hP2, (ma_hi_le hi S hl), rfl, hT, h60⟩⟩
      · refine cc_bipush (v := (-3)) dX4_forge_20 (by decide) ?_
        refine cc_iret rfl rfl dX4_forge_22 ?_
        have e : C_forge (nI i) (S, sn, hi, t) = ((-3), (S, sn, hi, t)) := by
          unfold C_forge
          rw [if_pos (cc_pt hi4), C_i_n (by omega)]
          dsimp only
          rw [if_pos (Int32.not_lt.mp c_17)]
        rw [e]
        
        exact ⟨_, rfl, rfl, ⟨_, _, _, _, _, _, _, _, _, _, _, H, hw, hS, rfl, hP, hl, rfl, hT, h60⟩⟩
    · exact absurd c_4 (by decide)
  · refine cc_iload_n (j := 1) dX4_forge_0 rfl rfl ?_
    refine cc_callSi (As := [.int x1]) (rest := []) (ct_X4_noPort cy z _ x1) ok_X4_noPort st_X4_noPort ml_X4_58 nd_X4_noPort (by decide +kernel) (Nat.le_of_ble_eq_true rfl) rfl dX4_forge_1 (fun r19 G18 q20 => ?_)
    obtain ⟨rfl, rfl⟩ := q20
    rw [if_neg hx]
    refine cc_if_eq (tgt := 9) dX4_forge_4 (by decide) (fun c_4_1 => ?_) (fun c_4_1 => ?_)
    · exact absurd c_4_1 (by decide)
    · refine cc_iconst (v := (-1)) dX4_forge_7 (by decide) ?_
      refine cc_iret rfl rfl dX4_forge_8 ?_
      have e : C_forge x1 (S, sn, hi, t) = ((-1), (S, sn, hi, t)) := by
        unfold C_forge
        
        rw [if_neg hx]
      rw [e]
      
      exact ⟨_, rfl, rfl, ⟨_, _, _, _, _, _, _, _, _, _, _, H, hw, hS, rfl, hP, hl, rfl, hT, h60⟩⟩

set_option maxHeartbeats 4000000 in
set_option maxRecDepth 100000 in
theorem ct_X4_repair (cy : Nat → ClassId) (z : Nat) (G : cc_G) (o : Nat) (c : CS_) (x1 : Int32)  (hI : ma_I cy G G o c) : cc_Cn cy Y_X4_repair [.ref o, .int x1] z G (cc_qi (fun r9 G' => r9 = (C_repair x1 c).1 ∧ ma_I cy G G' o (C_repair x1 c).2)) := by
  obtain ⟨S, sn, hi, t⟩ := c
  obtain ⟨r, pa, qa, be, nn, ia, tx, le, ay, hs, so, H, hw, hS, hnn, hP, hl, hle, hT, h60⟩ := hI
  have H : mo_R cy G G o r pa qa be nn ia tx le ay hs so := H
  have hw : rw_I r S := hw
  have hS : ma_S ia qa sn := hS
  have hnn : nn = nI hi.length := hnn
  have hP : ma_P pa hi := hP
  have hl : hi.length ≤ 4 := hl
  have hle : le = nI t.length := hle
  have hT : ar_ tx t := hT
  have h60 : t.length ≤ 60 := h60
  subst hnn
  subst hle
  refine cc_enter ok_X4_repair (Nat.le_of_ble_eq_true rfl) (ls := [(0, .ref o), (1, .int x1)]) rfl ?_
  rcases cc_port x1 with ⟨i, hi4, rfl⟩ | hx
  · have hl0 := hw.2.2.2.2.1 i hi4
    have hq0 := hw.2.2.2.2.2 i hi4
    have h8 : (S.2.1 i).2.1.length ≤ 8 := hl0.2.2.2.2.2.1
    have h6 : (S.2.1 i).2.2.length ≤ 6 := hl0.2.2.2.2.2.2
    have h8q : (S.2.2 i).2.2.length ≤ 8 := hq0.2.2.2.2
    refine cc_iload_n (j := 1) dX4_repair_0 rfl rfl ?_
    refine cc_callSi (As := [.int (nI i)]) (rest := []) (ct_X4_noPort cy z _ (nI i)) ok_X4_noPort st_X4_noPort ml_X4_58 nd_X4_noPort (by decide +kernel) (Nat.le_of_ble_eq_true rfl) rfl dX4_repair_1 (fun r2 G1 q3 => ?_)
    obtain ⟨rfl, rfl⟩ := q3
    rw [if_pos (cc_pt hi4)]
    refine cc_if_eq (tgt := 9) dX4_repair_4 (by decide) (fun c_4 => ?_) (fun c_4 => ?_)
    · refine cc_aload_n (j := 0) dX4_repair_9 rfl rfl ?_
      refine cc_iload_n (j := 1) dX4_repair_10 rfl rfl ?_
      refine cc_callVi (As := [.int (nI i)]) (rest := []) (ct_X4_missing cy z _ _ _ _ _ _ _ _ _ _ _ _ _ i hi4 H.self) ok_X4_missing (H.2.1) rfl im_X4_missing sl_X4_missing ml_X4_109 nd_X4_missing (by decide +kernel) (Nat.le_of_ble_eq_true rfl) rfl dX4_repair_11 (fun r5 G4 q6 => ?_)
      obtain ⟨rfl, rfl⟩ := q6
      rw [show r (4 + 30 * i + 0) - r (4 + 30 * i + 3) - r (4 + 30 * i + 9) - r (4 + 30 * i + 10) = L_mis (S.2.1 i) from by rw [hl0.1 0 (by decide), hl0.1 3 (by decide), hl0.2.1, hl0.2.2.1]; rfl]
      refine cc_istore_n (ls' := [(2, .int (L_mis (S.2.1 i))), (0, .ref o), (1, .int (nI i))]) dX4_repair_14 rfl (Nat.le_of_ble_eq_true rfl) rfl ?_
      refine cc_iload_n (j := 0) dX4_repair_15 rfl rfl ?_
      refine cc_if_ne (tgt := 22) dX4_repair_16 (by decide) (fun c_16 => ?_) (fun c_16 => ?_)
      · refine cc_aload_n (j := 1) dX4_repair_22 rfl rfl ?_
        refine cc_callVv (As := []) (rest := []) (ct_X4_open cy z _ _ _ _ _ _ _ _ _ _ _ _ _ hi S hl hP hw rfl H.self) ok_X4_open (H.2.1) rfl im_X4_open sl_X4_open ml_X4_55 nd_X4_open (by decide +kernel) (Nat.le_of_ble_eq_true rfl) rfl dX4_repair_23 (fun G7 q9 => ?_)
        obtain ⟨p2, b2, H10, hP2⟩ := q9
        have H10 := H.tr H10
        refine cc_aload_n (j := 1) dX4_repair_26 rfl rfl ?_
        refine cc_iload_n (j := 2) dX4_repair_27 rfl rfl ?_
        refine cc_iconst (v := 3) dX4_repair_28 (by decide) ?_
        refine cc_iload_n (j := 0) dX4_repair_29 rfl rfl ?_
        refine cc_callVv (As := [.int (nI i), .int 3, .int (L_mis (S.2.1 i))]) (rest := []) (ct_X4_more cy z _ _ _ _ _ _ _ _ _ _ _ _ _ i 3 (L_mis (S.2.1 i)) (by omega) H10.self) ok_X4_more (H10.2.1) rfl im_X4_more sl_X4_more ml_X4_66 nd_X4_more (by decide +kernel) (Nat.le_of_ble_eq_true rfl) rfl dX4_repair_30 (fun G11 q13 => ?_)
        have H14 := H10.tr q13
        rw [show r (4 + 30 * i + 3) = (S.2.1 i).1 3 from hl0.1 3 (by decide)] at H14
        have hla1 := hl0.num (w := 3) (by decide) ((S.2.1 i).1 3 + L_mis (S.2.1 i))
        have hka1 : ∀ q, (q < 4 + 30 * i ∨ 4 + 30 * i + 30 ≤ q) → upd r (4 + 30 * i + 3) ((S.2.1 i).1 3 + L_mis (S.2.1 i)) q = r q := fun q hq => (pk_un (by omega)).trans rfl
        generalize upd r (4 + 30 * i + 3) ((S.2.1 i).1 3 + L_mis (S.2.1 i)) = ra1 at H14 hla1 hka1
        refine cc_bipush (v := 100) dX4_repair_33 (by decide) ?_
        refine cc_iload_n (j := 0) dX4_repair_35 rfl rfl ?_
        refine cc_iadd dX4_repair_36 ?_
        refine cc_iret rfl rfl dX4_repair_37 ?_
        have e : C_repair (nI i) (S, sn, hi, t) = (L_mis (S.2.1 i) + 100, C_box (C_rem (S, sn, hi, t)) (S_lane S i (L_mend (S.2.1 i)))) := by
          unfold C_repair
          rw [if_pos (cc_pt hi4), C_i_n (by omega)]
          dsimp only
          rw [if_neg c_16]
        rw [e]
        
        exact ⟨_, rfl, (Int32.add_comm _ _), ⟨_, _, _, _, _, _, _, _, _, _, _, H14, (hw.lane hi4 hla1 hka1), hS, rfl, hP2, (ma_hi_le hi S hl), rfl, hT, h60⟩⟩
      · refine cc_bipush (v := (-5)) dX4_repair_19 (by decide) ?_
        refine cc_iret rfl rfl dX4_repair_21 ?_
        have e : C_repair (nI i) (S, sn, hi, t) = ((-5), (S, sn, hi, t)) := by
          unfold C_repair
          rw [if_pos (cc_pt hi4), C_i_n (by omega)]
          dsimp only
          rw [if_pos c_16]
        rw [e]
        
        exact ⟨_, rfl, rfl, ⟨_, _, _, _, _, _, _, _, _, _, _, H, hw, hS, rfl, hP, hl, rfl, hT, h60⟩⟩
    · exact absurd c_4 (by decide)
  · refine cc_iload_n (j := 1) dX4_repair_0 rfl rfl ?_
    refine cc_callSi (As := [.int x1]) (rest := []) (ct_X4_noPort cy z _ x1) ok_X4_noPort st_X4_noPort ml_X4_58 nd_X4_noPort (by decide +kernel) (Nat.le_of_ble_eq_true rfl) rfl dX4_repair_1 (fun r16 G15 q17 => ?_)
    obtain ⟨rfl, rfl⟩ := q17
    rw [if_neg hx]
    refine cc_if_eq (tgt := 9) dX4_repair_4 (by decide) (fun c_4_1 => ?_) (fun c_4_1 => ?_)
    · exact absurd c_4_1 (by decide)
    · refine cc_iconst (v := (-1)) dX4_repair_7 (by decide) ?_
      refine cc_iret rfl rfl dX4_repair_8 ?_
      have e : C_repair x1 (S, sn, hi, t) = ((-1), (S, sn, hi, t)) := by
        unfold C_repair
        
        rw [if_neg hx]
      rw [e]
      
      exact ⟨_, rfl, rfl, ⟨_, _, _, _, _, _, _, _, _, _, _, H, hw, hS, rfl, hP, hl, rfl, hT, h60⟩⟩
