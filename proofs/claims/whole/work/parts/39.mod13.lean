set_option maxHeartbeats 4000000 in
set_option maxRecDepth 100000 in
theorem ct_X4_arrivals_1 (cy : Nat → ClassId) (z : Nat) (G : cc_G) (o : Nat) (r pa qa be : Nat → Int32) (nn ia : Int32) (tx : Nat → Int32) (le ay : Int32) (hs so : Nat → Int32) (u : Nat → Int32) (n : Nat) (hn : n ≤ 60) (hu : ∀ k, k < n → tx k = u k) (S0 : St_) (hw : rw_I r S0) (hF : T_flt u n 0 = none) (H : mo_R cy G G o r pa qa be nn ia tx le ay hs so) (hle : le = nI n) : cc_Cn cy Y_X4_arrivals [.ref o, .int 1] z G (cc_qi (fun r9 G' => ∃ r' ay', mo_R cy G G' o r' pa qa be nn ia tx (nI n) ay' hs so ∧ ((A_go u n 20 0 0 S0 = none ∧ r9 = (-3)) ∨ ∃ m S', A_go u n 20 0 0 S0 = some (m, S') ∧ r9 = nI m ∧ rw_I r' S'))) := by
  subst hle
  have loop_9 : ∀ (g f a acc : Nat) (St : St_) (r1 : Nat → Int32) (G1 : cc_G), n < a + g → a ≤ n → n ≤ a + 4 * f → T_s u a = 0 → T_flt u n a = none → mo_R cy G G1 o r1 pa qa be nn ia tx (nI n) (nI a) hs so → rw_I r1 St → A_go u n 20 0 0 S0 = A_go u n f a acc St → cc_R cy Y_X4_arrivals z 9 [(3, .int 1), (2, .int (nI acc)), (0, .ref o), (1, .int 1)] [] G1 (cc_qi (fun r9 G' => ∃ r' ay', mo_R cy G G' o r' pa qa be nn ia tx (nI n) ay' hs so ∧ ((A_go u n 20 0 0 S0 = none ∧ r9 = (-3)) ∨ ∃ m S', A_go u n 20 0 0 S0 = some (m, S') ∧ r9 = nI m ∧ rw_I r' S'))) := by
    intro g
    induction g with
    | zero => intro f a acc St r1 G1 h1 h2; exact absurd h1 (by omega)
    | succ g ih =>
      intro f a acc St r1 G1 hg ha hf4 h0 hF H hw hgo
      obtain ⟨i, o9, hi4, ho4, ei, eo, hlt, e1, -, hcase⟩ := T_head hF ha h0
      obtain ⟨f, rfl⟩ : ∃ f', f = f' + 1 := ⟨f - 1, by omega⟩
      refine cc_iload_n (j := 0) dX4_arrivals_9 rfl rfl ?_
      refine cc_if_eq (tgt := 63) dX4_arrivals_10 (by decide) (fun c_10 => ?_) (fun c_10 => ?_)
      · exact absurd c_10 (by decide)
      · refine cc_aload_n (j := 2) dX4_arrivals_13 rfl rfl ?_
        refine cc_iload_n (j := 3) dX4_arrivals_14 rfl rfl ?_
        rcases hcase with ⟨htl, hnx⟩ | ⟨m, hm1, hm9, htl, em, hnx⟩
        · obtain ⟨tm, tw⟩ := T_m_n htl
          have hgs := hgo.trans (A_go_s hlt ei eo tm tw hi4)
          have hcn : ¬ (a + 3 < n ∧ u (a + 3) = 42) := fun q => by
            rcases hnx with ⟨-, q2, -⟩ | q2
            · exact absurd (q2.symm.trans q.2) (by decide)
            · omega
          refine cc_callVi (As := [.int 1]) (rest := []) (ct_X4_arrival_1 cy z _ _ _ _ _ _ _ _ _ _ _ _ _ u n a hn hlt hu St hw i o9 1 3 hi4 ho4 (by omega) (by omega) ei e1 eo (Or.inl ⟨hcn, rfl, rfl⟩) H.self rfl rfl) ok_X4_arrival (H.2.1) rfl im_X4_arrival sl_X4_arrival ml_X4_86 nd_X4_arrival (by decide +kernel) (Nat.le_of_ble_eq_true rfl) rfl dX4_arrivals_15 (fun r2 G1 q3 => ?_)
          obtain ⟨r2, ay2, H4, hres⟩ := q3
          have H4 := H.tr H4
          rcases hres with ⟨h8m, hr, hay2, hwt⟩ | ⟨h8m, hr⟩
          · subst hr
            subst hay2
            refine cc_istore (ls' := [(4, .int (nI 1)), (3, .int 1), (2, .int (nI acc)), (0, .ref o), (1, .int 1)]) dX4_arrivals_18 (Nat.le_of_ble_eq_true rfl) rfl ?_
            refine cc_iload (j := 0) dX4_arrivals_20 rfl ?_
            refine cc_if_ge (tgt := 28) dX4_arrivals_22 (by decide) (fun c_22 => ?_) (fun c_22 => ?_)
            · refine cc_iload_n (j := 2) dX4_arrivals_28 rfl rfl ?_
              refine cc_iload (j := 0) dX4_arrivals_29 rfl ?_
              refine cc_iadd dX4_arrivals_31 ?_
              rw [show (nI acc) + (nI 1) = nI (acc + 1) from nI_add _ 1]
              refine cc_istore_n (ls' := [(2, .int (nI (acc + 1))), (4, .int (nI 1)), (3, .int 1), (0, .ref o), (1, .int 1)]) dX4_arrivals_32 rfl (Nat.le_of_ble_eq_true rfl) rfl ?_
              refine cc_aload_n (j := 3) dX4_arrivals_33 rfl rfl ?_
              refine cc_bipush (v := 44) dX4_arrivals_34 (by decide) ?_
              refine cc_bipush (v := 44) dX4_arrivals_36 (by decide) ?_
              by_cases hse38 : a + 3 < n ∧ 44 ≤ u (a + 3) ∧ u (a + 3) ≤ 44
              · refine cc_callVi (As := [.int 44, .int 44]) (rest := []) (ct_X4_sees cy z _ _ _ _ _ _ _ _ _ _ _ _ _ u n (a + 3) hn (by omega) hu 44 44 H4.self rfl rfl) ok_X4_sees (H4.2.1) rfl im_X4_sees sl_X4_sees ml_X4_82 nd_X4_sees (by decide +kernel) (Nat.le_of_ble_eq_true rfl) rfl dX4_arrivals_38 (fun r6 G5 q7 => ?_)
                obtain ⟨rfl, rfl⟩ := q7
                rw [if_pos (show (a + 3 < n ∧ (44 : Int32) ≤ u (a + 3) ∧ u (a + 3) ≤ (44 : Int32)) from hse38)]
                refine cc_istore_n (ls' := [(3, .int 1), (2, .int (nI (acc + 1))), (4, .int (nI 1)), (0, .ref o), (1, .int 1)]) dX4_arrivals_41 rfl (Nat.le_of_ble_eq_true rfl) rfl ?_
                refine cc_aload_n (j := 3) dX4_arrivals_42 rfl rfl ?_
                refine cc_dup dX4_arrivals_43 rfl ?_
                refine cc_get (v := .int (nI (a + 3))) H4.2.1 cc_c4 8 (by decide) fl_X4_76 rfl dX4_arrivals_44 ?_
                refine cc_iload_n (j := 0) dX4_arrivals_47 rfl rfl ?_
                refine cc_if_eq (tgt := 55) dX4_arrivals_48 (by decide) (fun c_48 => ?_) (fun c_48 => ?_)
                · exact absurd c_48 (by decide)
                · refine cc_iconst (v := 1) dX4_arrivals_51 (by decide) ?_
                  refine cc_goto (tgt := 56) dX4_arrivals_52 (by decide) ?_
                  refine cc_iadd dX4_arrivals_56 ?_
                  rw [show (nI (a + 3)) + 1 = nI (a + 3 + 1) from nI_1 _]
                  refine mo_rput (nn' := nn) (ia' := ia) (le' := (nI n)) (ay' := (nI (a + 3 + 1))) H4 cc_c4 8 (by decide) fl_X4_76 rfl rfl rfl rfl rfl dX4_arrivals_57 (fun G8 H9 => ?_)
                  refine cc_goto (tgt := 9) dX4_arrivals_60 (by decide) ?_
                  refine cc_loc (ls' := [(3, .int 1), (2, .int (nI (acc + 1))), (0, .ref o), (1, .int 1)]) [0, 1, 3, 4] rfl ?_
                  rcases hnx with ⟨q1, q2, q3, q4⟩ | q1
                  · exact ih f (a + 3 + 1) (acc + 1) _ _ _ (by omega) (by omega) (by omega) q3 q4 H9 hwt (hgs.trans (if_pos h8m))
                  · exact absurd hse38.1 (by omega)
              · refine cc_callVi (As := [.int 44, .int 44]) (rest := []) (ct_X4_sees cy z _ _ _ _ _ _ _ _ _ _ _ _ _ u n (a + 3) hn (by omega) hu 44 44 H4.self rfl rfl) ok_X4_sees (H4.2.1) rfl im_X4_sees sl_X4_sees ml_X4_82 nd_X4_sees (by decide +kernel) (Nat.le_of_ble_eq_true rfl) rfl dX4_arrivals_38 (fun r11 G10 q12 => ?_)
                obtain ⟨rfl, rfl⟩ := q12
                rw [if_neg (show ¬ (a + 3 < n ∧ (44 : Int32) ≤ u (a + 3) ∧ u (a + 3) ≤ (44 : Int32)) from hse38)]
                refine cc_istore_n (ls' := [(3, .int 0), (2, .int (nI (acc + 1))), (4, .int (nI 1)), (0, .ref o), (1, .int 1)]) dX4_arrivals_41 rfl (Nat.le_of_ble_eq_true rfl) rfl ?_
                refine cc_aload_n (j := 3) dX4_arrivals_42 rfl rfl ?_
                refine cc_dup dX4_arrivals_43 rfl ?_
                refine cc_get (v := .int (nI (a + 3))) H4.2.1 cc_c4 8 (by decide) fl_X4_76 rfl dX4_arrivals_44 ?_
                refine cc_iload_n (j := 0) dX4_arrivals_47 rfl rfl ?_
                refine cc_if_eq (tgt := 55) dX4_arrivals_48 (by decide) (fun c_48_1 => ?_) (fun c_48_1 => ?_)
                · refine cc_iconst (v := 0) dX4_arrivals_55 (by decide) ?_
                  refine cc_iadd dX4_arrivals_56 ?_
                  rw [show (nI (a + 3)) + 0 = nI (a + 3) from by simp]
                  refine mo_rput (nn' := nn) (ia' := ia) (le' := (nI n)) (ay' := (nI (a + 3))) H4 cc_c4 8 (by decide) fl_X4_76 rfl rfl rfl rfl rfl dX4_arrivals_57 (fun G13 H14 => ?_)
                  refine cc_goto (tgt := 9) dX4_arrivals_60 (by decide) ?_
                  refine cc_iload_n (j := 0) dX4_arrivals_9 rfl rfl ?_
                  refine cc_if_eq (tgt := 63) dX4_arrivals_10 (by decide) (fun c_10_1 => ?_) (fun c_10_1 => ?_)
                  · refine cc_aload_n (j := 3) dX4_arrivals_63 rfl rfl ?_
                    refine cc_get (v := .int (nI (a + 3))) H14.2.1 cc_c4 8 (by decide) fl_X4_76 rfl dX4_arrivals_64 ?_
                    refine cc_aload_n (j := 3) dX4_arrivals_67 rfl rfl ?_
                    refine cc_get (v := .int (nI n)) H14.2.1 cc_c4 7 (by decide) fl_X4_79 rfl dX4_arrivals_68 ?_
                    refine cc_icmp_ge (tgt := 79) dX4_arrivals_71 (by decide) (fun c_71 => ?_) (fun c_71 => ?_)
                    · have hge := cc_ngt _ c_71 (by omega) (by omega)
                      refine cc_iload_n (j := 1) dX4_arrivals_79 rfl rfl ?_
                      refine cc_iret rfl rfl dX4_arrivals_80 ?_
                      have e : A_go u n f (a + 4) (acc + 1) (A_many i (nI o9) 1 St) = some (acc + 1, A_many i (nI o9) 1 St) := by
                        cases f with
                        | zero => rfl
                        | succ f => exact if_neg (by omega)
                      exact ⟨_, rfl, _, _, H14, Or.inr ⟨_, _, (hgs.trans (if_pos h8m)).trans e, rfl, hwt⟩⟩
                    · exact absurd (cc_nlt _ c_71 (by omega)) (fun q => by
                        rcases hnx with ⟨q1, q2, -⟩ | q1
                        · exact hse38 ⟨q, by rw [q2]; decide⟩
                        · omega)
                  · exact absurd c_10_1 (by decide)
                  
                · exact absurd c_48_1 (by decide)
            · exact absurd (nI_pos' (by omega)) c_22
          · subst hr
            refine cc_istore (ls' := [(4, .int (-3)), (3, .int 1), (2, .int (nI acc)), (0, .ref o), (1, .int 1)]) dX4_arrivals_18 (Nat.le_of_ble_eq_true rfl) rfl ?_
            refine cc_iload (j := 0) dX4_arrivals_20 rfl ?_
            refine cc_if_ge (tgt := 28) dX4_arrivals_22 (by decide) (fun c_22_1 => ?_) (fun c_22_1 => ?_)
            · exact absurd c_22_1 (by decide)
            · refine cc_iload (j := 0) dX4_arrivals_25 rfl ?_
              refine cc_iret rfl rfl dX4_arrivals_27 ?_
              exact ⟨_, rfl, _, _, H4, Or.inl ⟨hgs.trans (if_neg h8m), rfl⟩⟩
        · obtain ⟨tm, tw⟩ := T_m_y htl em hm9
          have hgs := hgo.trans (A_go_s hlt ei eo tm tw hi4)
          have htl4 : a + 4 < n := htl.1
          refine cc_callVi (As := [.int 1]) (rest := []) (ct_X4_arrival_1 cy z _ _ _ _ _ _ _ _ _ _ _ _ _ u n a hn hlt hu St hw i o9 m 5 hi4 ho4 (by omega) (by omega) ei e1 eo (Or.inr ⟨htl.1, htl.2, em, rfl⟩) H.self rfl rfl) ok_X4_arrival (H.2.1) rfl im_X4_arrival sl_X4_arrival ml_X4_86 nd_X4_arrival (by decide +kernel) (Nat.le_of_ble_eq_true rfl) rfl dX4_arrivals_15 (fun r16 G15 q17 => ?_)
          obtain ⟨r2, ay2, H18, hres⟩ := q17
          have H18 := H.tr H18
          rcases hres with ⟨h8m, hr, hay2, hwt⟩ | ⟨h8m, hr⟩
          · subst hr
            subst hay2
            refine cc_istore (ls' := [(4, .int (nI m)), (3, .int 1), (2, .int (nI acc)), (0, .ref o), (1, .int 1)]) dX4_arrivals_18 (Nat.le_of_ble_eq_true rfl) rfl ?_
            refine cc_iload (j := 0) dX4_arrivals_20 rfl ?_
            refine cc_if_ge (tgt := 28) dX4_arrivals_22 (by decide) (fun c_22_2 => ?_) (fun c_22_2 => ?_)
            · refine cc_iload_n (j := 2) dX4_arrivals_28 rfl rfl ?_
              refine cc_iload (j := 0) dX4_arrivals_29 rfl ?_
              refine cc_iadd dX4_arrivals_31 ?_
              rw [show (nI acc) + (nI m) = nI (acc + m) from nI_add _ _]
              refine cc_istore_n (ls' := [(2, .int (nI (acc + m))), (4, .int (nI m)), (3, .int 1), (0, .ref o), (1, .int 1)]) dX4_arrivals_32 rfl (Nat.le_of_ble_eq_true rfl) rfl ?_
              refine cc_aload_n (j := 3) dX4_arrivals_33 rfl rfl ?_
              refine cc_bipush (v := 44) dX4_arrivals_34 (by decide) ?_
              refine cc_bipush (v := 44) dX4_arrivals_36 (by decide) ?_
              by_cases hse38 : a + 5 < n ∧ 44 ≤ u (a + 5) ∧ u (a + 5) ≤ 44
              · refine cc_callVi (As := [.int 44, .int 44]) (rest := []) (ct_X4_sees cy z _ _ _ _ _ _ _ _ _ _ _ _ _ u n (a + 5) hn (by omega) hu 44 44 H18.self rfl rfl) ok_X4_sees (H18.2.1) rfl im_X4_sees sl_X4_sees ml_X4_82 nd_X4_sees (by decide +kernel) (Nat.le_of_ble_eq_true rfl) rfl dX4_arrivals_38 (fun r20 G19 q21 => ?_)
                obtain ⟨rfl, rfl⟩ := q21
                rw [if_pos (show (a + 5 < n ∧ (44 : Int32) ≤ u (a + 5) ∧ u (a + 5) ≤ (44 : Int32)) from hse38)]
                refine cc_istore_n (ls' := [(3, .int 1), (2, .int (nI (acc + m))), (4, .int (nI m)), (0, .ref o), (1, .int 1)]) dX4_arrivals_41 rfl (Nat.le_of_ble_eq_true rfl) rfl ?_
                refine cc_aload_n (j := 3) dX4_arrivals_42 rfl rfl ?_
                refine cc_dup dX4_arrivals_43 rfl ?_
                refine cc_get (v := .int (nI (a + 5))) H18.2.1 cc_c4 8 (by decide) fl_X4_76 rfl dX4_arrivals_44 ?_
                refine cc_iload_n (j := 0) dX4_arrivals_47 rfl rfl ?_
                refine cc_if_eq (tgt := 55) dX4_arrivals_48 (by decide) (fun c_48_2 => ?_) (fun c_48_2 => ?_)
                · exact absurd c_48_2 (by decide)
                · refine cc_iconst (v := 1) dX4_arrivals_51 (by decide) ?_
                  refine cc_goto (tgt := 56) dX4_arrivals_52 (by decide) ?_
                  refine cc_iadd dX4_arrivals_56 ?_
                  rw [show (nI (a + 5)) + 1 = nI (a + 5 + 1) from nI_1 _]
                  refine mo_rput (nn' := nn) (ia' := ia) (le' := (nI n)) (ay' := (nI (a + 5 + 1))) H18 cc_c4 8 (by decide) fl_X4_76 rfl rfl rfl rfl rfl dX4_arrivals_57 (fun G22 H23 => ?_)
                  refine cc_goto (tgt := 9) dX4_arrivals_60 (by decide) ?_
                  refine cc_loc (ls' := [(3, .int 1), (2, .int (nI (acc + m))), (0, .ref o), (1, .int 1)]) [0, 1, 3, 4] rfl ?_
                  rcases hnx with ⟨q1, q2, q3, q4⟩ | q1
                  · exact ih f (a + 5 + 1) (acc + m) _ _ _ (by omega) (by omega) (by omega) q3 q4 H23 hwt (hgs.trans (if_pos h8m))
                  · exact absurd hse38.1 (by omega)
              · refine cc_callVi (As := [.int 44, .int 44]) (rest := []) (ct_X4_sees cy z _ _ _ _ _ _ _ _ _ _ _ _ _ u n (a + 5) hn (by omega) hu 44 44 H18.self rfl rfl) ok_X4_sees (H18.2.1) rfl im_X4_sees sl_X4_sees ml_X4_82 nd_X4_sees (by decide +kernel) (Nat.le_of_ble_eq_true rfl) rfl dX4_arrivals_38 (fun r25 G24 q26 => ?_)
                obtain ⟨rfl, rfl⟩ := q26
                rw [if_neg (show ¬ (a + 5 < n ∧ (44 : Int32) ≤ u (a + 5) ∧ u (a + 5) ≤ (44 : Int32)) from hse38)]
                refine cc_istore_n (ls' := [(3, .int 0), (2, .int (nI (acc + m))), (4, .int (nI m)), (0, .ref o), (1, .int 1)]) dX4_arrivals_41 rfl (Nat.le_of_ble_eq_true rfl) rfl ?_
                refine cc_aload_n (j := 3) dX4_arrivals_42 rfl rfl ?_
                refine cc_dup dX4_arrivals_43 rfl ?_
                refine cc_get (v := .int (nI (a + 5))) H18.2.1 cc_c4 8 (by decide) fl_X4_76 rfl dX4_arrivals_44 ?_
                refine cc_iload_n (j := 0) dX4_arrivals_47 rfl rfl ?_
                refine cc_if_eq (tgt := 55) dX4_arrivals_48 (by decide) (fun c_48_3 => ?_) (fun c_48_3 => ?_)
                · refine cc_iconst (v := 0) dX4_arrivals_55 (by decide) ?_
                  refine cc_iadd dX4_arrivals_56 ?_
                  rw [show (nI (a + 5)) + 0 = nI (a + 5) from by simp]
                  refine mo_rput (nn' := nn) (ia' := ia) (le' := (nI n)) (ay' := (nI (a + 5))) H18 cc_c4 8 (by decide) fl_X4_76 rfl rfl rfl rfl rfl dX4_arrivals_57 (fun G27 H28 => ?_)
                  refine cc_goto (tgt := 9) dX4_arrivals_60 (by decide) ?_
                  refine cc_iload_n (j := 0) dX4_arrivals_9 rfl rfl ?_
                  refine cc_if_eq (tgt := 63) dX4_arrivals_10 (by decide) (fun c_10_2 => ?_) (fun c_10_2 => ?_)
                  · refine cc_aload_n (j := 3) dX4_arrivals_63 rfl rfl ?_
                    refine cc_get (v := .int (nI (a + 5))) H28.2.1 cc_c4 8 (by decide) fl_X4_76 rfl dX4_arrivals_64 ?_
                    refine cc_aload_n (j := 3) dX4_arrivals_67 rfl rfl ?_
                    refine cc_get (v := .int (nI n)) H28.2.1 cc_c4 7 (by decide) fl_X4_79 rfl dX4_arrivals_68 ?_
                    refine cc_icmp_ge (tgt := 79) dX4_arrivals_71 (by decide) (fun c_71_1 => ?_) (fun c_71_1 => ?_)
                    · have hge := cc_ngt _ c_71_1 (by omega) (by omega)
                      refine cc_iload_n (j := 1) dX4_arrivals_79 rfl rfl ?_
                      refine cc_iret rfl rfl dX4_arrivals_80 ?_
                      have e : A_go u n f (a + 6) (acc + m) (A_many i (nI o9) m St) = some (acc + m, A_many i (nI o9) m St) := by
                        cases f with
                        | zero => rfl
                        | succ f => exact if_neg (by omega)
                      exact ⟨_, rfl, _, _, H28, Or.inr ⟨_, _, (hgs.trans (if_pos h8m)).trans e, rfl, hwt⟩⟩
                    · exact absurd (cc_nlt _ c_71_1 (by omega)) (fun q => by
                        rcases hnx with ⟨q1, q2, -⟩ | q1
                        · exact hse38 ⟨q, by rw [q2]; decide⟩
                        · omega)
                  · exact absurd c_10_2 (by decide)
                  
                · exact absurd c_48_3 (by decide)
            · exact absurd (nI_pos' (by omega)) c_22_2
          · subst hr
            refine cc_istore (ls' := [(4, .int (-3)), (3, .int 1), (2, .int (nI acc)), (0, .ref o), (1, .int 1)]) dX4_arrivals_18 (Nat.le_of_ble_eq_true rfl) rfl ?_
            refine cc_iload (j := 0) dX4_arrivals_20 rfl ?_
            refine cc_if_ge (tgt := 28) dX4_arrivals_22 (by decide) (fun c_22_3 => ?_) (fun c_22_3 => ?_)
            · exact absurd c_22_3 (by decide)
            · refine cc_iload (j := 0) dX4_arrivals_25 rfl ?_
              refine cc_iret rfl rfl dX4_arrivals_27 ?_
              exact ⟨_, rfl, _, _, H18, Or.inl ⟨hgs.trans (if_neg h8m), rfl⟩⟩
  refine cc_enter ok_X4_arrivals (Nat.le_of_ble_eq_true rfl) (ls := [(0, .ref o), (1, .int 1)]) rfl ?_
  refine cc_aload_n (j := 0) dX4_arrivals_0 rfl rfl ?_
  refine cc_iconst (v := 0) dX4_arrivals_1 (by decide) ?_
  refine mo_rput (nn' := nn) (ia' := ia) (le' := (nI n)) (ay' := 0) H cc_c4 8 (by decide) fl_X4_76 rfl rfl rfl rfl rfl dX4_arrivals_2 (fun G29 H30 => ?_)
  refine cc_iconst (v := 0) dX4_arrivals_5 (by decide) ?_
  refine cc_istore_n (ls' := [(2, .int 0), (0, .ref o), (1, .int 1)]) dX4_arrivals_6 rfl (Nat.le_of_ble_eq_true rfl) rfl ?_
  refine cc_iconst (v := 1) dX4_arrivals_7 (by decide) ?_
  refine cc_istore_n (ls' := [(3, .int 1), (2, .int 0), (0, .ref o), (1, .int 1)]) dX4_arrivals_8 rfl (Nat.le_of_ble_eq_true rfl) rfl ?_
  exact loop_9 61 20 0 0 _ _ _ (by omega) (Nat.zero_le _) (by omega) rfl hF H30 hw rfl

set_option maxHeartbeats 4000000 in
set_option maxRecDepth 100000 in
theorem ct_X4_readArrivals (cy : Nat → ClassId) (z : Nat) (G : cc_G) (o : Nat) (c : CS_)   (hI : ma_I cy G G o c) : cc_Cn cy Y_X4_readArrivals [.ref o] z G (cc_qi (fun r9 G' => r9 = (C_readArrivals c).1 ∧ ma_I cy G G' o (C_readArrivals c).2)) := by
  obtain ⟨S, sn, hi, t⟩ := c
  obtain ⟨r, pa, qa, be, nn, ia, tx, le, ay, hs, so, H, hw, hS, hnn, hP, hl, hle, hT, h60⟩ := hI
  have H : mo_R cy G G o r pa qa be nn ia tx le ay hs so := H
  have hw : rw_I r S := hw
  have hS : ma_S ia qa sn := hS
  have hnn : nn = nI hi.length := hnn
  have hP : ma_P pa hi := hP
  have hl : hi.length ≤ 4 := hl
  have hle : le = nI t.length := hle
  have hT : ar_ tx t := hT
  have h60 : t.length ≤ 60 := h60
  subst hnn
  subst hle
  refine cc_enter ok_X4_readArrivals (Nat.le_of_ble_eq_true rfl) (ls := [(0, .ref o)]) rfl ?_
  refine cc_aload_n (j := 0) dX4_readArrivals_0 rfl rfl ?_
  refine cc_iconst (v := 0) dX4_readArrivals_1 (by decide) ?_
  refine cc_callVi (As := [.int 0]) (rest := []) (ct_X4_arrivals_0 cy z _ _ _ _ _ _ _ _ _ _ _ _ _ (C_u (S, sn, hi, t)) t.length h60 (fun k hk => ar_at hT hk) H.self rfl) ok_X4_arrivals (H.2.1) rfl im_X4_arrivals sl_X4_arrivals ml_X4_90 nd_X4_arrivals (by decide +kernel) (Nat.le_of_ble_eq_true rfl) rfl dX4_readArrivals_2 (fun r2 G1 q3 => ?_)
  obtain ⟨ay2, H4, hres⟩ := q3
  have H4 := H.tr H4
  rcases hres with ⟨hr, k, hay2, hk, hfk⟩ | ⟨m0, hr, hm0, hok⟩
  · subst hr
    subst hay2
    refine cc_if_ge (tgt := 16) dX4_readArrivals_5 (by decide) (fun c_5 => ?_) (fun c_5 => ?_)
    · exact absurd c_5 (by decide)
    · refine cc_bipush (v := (-100)) dX4_readArrivals_8 (by decide) ?_
      refine cc_aload_n (j := 0) dX4_readArrivals_10 rfl rfl ?_
      refine cc_get (v := .int (nI k)) H4.2.1 cc_c4 8 (by decide) fl_X4_76 rfl dX4_readArrivals_11 ?_
      refine cc_isub dX4_readArrivals_14 ?_
      refine cc_iret rfl rfl dX4_readArrivals_15 ?_
      rw [C_rd_bad hfk]
      exact ⟨_, rfl, rfl, ⟨_, _, _, _, _, _, _, _, _, _, _, H4, hw, hS, rfl, hP, hl, rfl, hT, h60⟩⟩
  · subst hr
    refine cc_if_ge (tgt := 16) dX4_readArrivals_5 (by decide) (fun c_5_1 => ?_) (fun c_5_1 => ?_)
    · refine cc_aload_n (j := 0) dX4_readArrivals_16 rfl rfl ?_
      refine cc_callVv (As := []) (rest := []) (ct_X4_remember cy z _ _ _ _ _ _ _ _ _ _ _ _ _ H4.self) ok_X4_remember (H4.2.1) rfl im_X4_remember sl_X4_remember ml_X4_45 nd_X4_remember (by decide +kernel) (Nat.le_of_ble_eq_true rfl) rfl dX4_readArrivals_17 (fun G5 q7 => ?_)
      obtain ⟨b2, H8, hb2⟩ := q7
      have H8 := H4.tr H8
      refine cc_aload_n (j := 0) dX4_readArrivals_20 rfl rfl ?_
      refine cc_iconst (v := 1) dX4_readArrivals_21 (by decide) ?_
      refine cc_callVi (As := [.int 1]) (rest := []) (ct_X4_arrivals_1 cy z _ _ _ _ _ _ _ _ _ _ _ _ _ (C_u (S, sn, hi, t)) t.length h60 (fun k hk => ar_at hT hk) S hw hok H8.self rfl) ok_X4_arrivals (H8.2.1) rfl im_X4_arrivals sl_X4_arrivals ml_X4_90 nd_X4_arrivals (by decide +kernel) (Nat.le_of_ble_eq_true rfl) rfl dX4_readArrivals_22 (fun r10 G9 q11 => ?_)
      obtain ⟨r3, ay3, H12, hres⟩ := q11
      have H12 := H8.tr H12
      rcases hres with ⟨hg, hr⟩ | ⟨m, S9, hg, hr, hw3⟩
      · subst hr
        refine cc_istore_n (ls' := [(1, .int (-3)), (0, .ref o)]) dX4_readArrivals_25 rfl (Nat.le_of_ble_eq_true rfl) rfl ?_
        refine cc_iload_n (j := 0) dX4_readArrivals_26 rfl rfl ?_
        refine cc_if_ge (tgt := 36) dX4_readArrivals_27 (by decide) (fun c_27 => ?_) (fun c_27 => ?_)
        · exact absurd c_27 (by decide)
        · refine cc_aload_n (j := 1) dX4_readArrivals_30 rfl rfl ?_
          refine cc_callVv (As := []) (rest := []) (ct_X4_goBack cy z _ _ _ _ _ _ _ _ _ _ _ _ _ H12.self) ok_X4_goBack (H12.2.1) rfl im_X4_goBack sl_X4_goBack ml_X4_93 nd_X4_goBack (by decide +kernel) (Nat.le_of_ble_eq_true rfl) rfl dX4_readArrivals_31 (fun G13 q15 => ?_)
          obtain ⟨rg, H16, hrg⟩ := q15
          have H16 := H12.tr H16
          refine cc_iload_n (j := 0) dX4_readArrivals_34 rfl rfl ?_
          refine cc_iret rfl rfl dX4_readArrivals_35 ?_
          rw [C_rd_full hok hg]
          exact ⟨_, rfl, rfl, ⟨_, _, _, _, _, _, _, _, _, _, _, H16, (hw.eq (fun q hq => (hrg q hq).trans (hb2 q hq))), hS, rfl, hP, hl, rfl, hT, h60⟩⟩
      · subst hr
        have hm160 := A_go_le hg
        refine cc_istore_n (ls' := [(1, .int (nI m)), (0, .ref o)]) dX4_readArrivals_25 rfl (Nat.le_of_ble_eq_true rfl) rfl ?_
        refine cc_iload_n (j := 0) dX4_readArrivals_26 rfl rfl ?_
        refine cc_if_ge (tgt := 36) dX4_readArrivals_27 (by decide) (fun c_27_1 => ?_) (fun c_27_1 => ?_)
        · refine cc_aload_n (j := 1) dX4_readArrivals_36 rfl rfl ?_
          refine cc_callVv (As := []) (rest := []) (ct_X4_record cy z _ _ _ _ _ _ _ _ _ _ _ _ _ hi S hl hP (hw.eq hb2) rfl H12.self) ok_X4_record (H12.2.1) rfl im_X4_record sl_X4_record ml_X4_48 nd_X4_record (by decide +kernel) (Nat.le_of_ble_eq_true rfl) rfl dX4_readArrivals_37 (fun G17 q19 => ?_)
          obtain ⟨p2, H20, hP2⟩ := q19
          have H20 := H12.tr H20
          refine cc_iload_n (j := 0) dX4_readArrivals_40 rfl rfl ?_
          refine cc_iret rfl rfl dX4_readArrivals_41 ?_
          rw [C_rd_ok hok hg]
          exact ⟨_, rfl, rfl, ⟨_, _, _, _, _, _, _, _, _, _, _, H20, hw3, hS, rfl, hP2, (ma_hi_le hi S hl), rfl, hT, h60⟩⟩
        · exact absurd (nI_pos' (by omega)) c_27_1
    · exact absurd (nI_pos' (by omega)) c_5_1
