set_option maxHeartbeats 4000000 in
set_option maxRecDepth 100000 in
theorem ct_X4_arrival_1 (cy : Nat → ClassId) (z : Nat) (G : cc_G) (o : Nat) (r pa qa be : Nat → Int32) (nn ia : Int32) (tx : Nat → Int32) (le ay : Int32) (hs so : Nat → Int32) (u : Nat → Int32) (n a : Nat) (hn : n ≤ 60) (ha : a + 2 < n) (hu : ∀ k, k < n → tx k = u k) (S : St_) (hw : rw_I r S) (i o9 m w : Nat) (hi4 : i < 4) (ho4 : o9 < 4) (hm1 : 1 ≤ m) (hm9 : m ≤ 9) (ei : u a = nI (48 + i)) (e1 : u (a + 1) = 62) (eo : u (a + 2) = nI (48 + o9)) (hcase : ((¬ (a + 3 < n ∧ u (a + 3) = 42) ∧ m = 1 ∧ w = 3) ∨ (a + 4 < n ∧ u (a + 3) = 42 ∧ u (a + 4) = nI (48 + m) ∧ w = 5))) (H : mo_R cy G G o r pa qa be nn ia tx le ay hs so) (hay : ay = nI a) (hle : le = nI n) : cc_Cn cy Y_X4_arrival [.ref o, .int 1] z G (cc_qi (fun r9 G' => ∃ r' ay', mo_R cy G G' o r' pa qa be nn ia tx le ay' hs so ∧ (((S.2.2 i).2.2.length + m ≤ 8 ∧ r9 = nI m ∧ ay' = nI (a + w) ∧ rw_I r' (A_many i (nI o9) m S)) ∨ (¬ (S.2.2 i).2.2.length + m ≤ 8 ∧ r9 = (-3))))) := by
  subst hay
  subst hle
  have hq0 := hw.2.2.2.2.2 i hi4
  have h8q : (S.2.2 i).2.2.length ≤ 8 := hq0.2.2.2.2
  have loop_184 : (S.2.2 i).2.2.length + m ≤ 8 → ∀ (f k : Nat) (r1 : Nat → Int32) (ay1 : Int32) (G1 : cc_G), ay1 = nI (a + w) → m < k + f → k ≤ m → mo_R cy G G1 o r1 pa qa be nn ia tx (nI n) ay1 hs so → rw_I r1 (A_many i (nI o9) k S) → cc_R cy Y_X4_arrival z 184 [(5, .int (nI k)), (4, .int (nI m)), (3, .int (nI o9)), (2, .int (nI i)), (0, .ref o), (1, .int 1)] [] G1 (cc_qi (fun r9 G' => ∃ r' ay', mo_R cy G G' o r' pa qa be nn ia tx (nI n) ay' hs so ∧ (((S.2.2 i).2.2.length + m ≤ 8 ∧ r9 = nI m ∧ ay' = nI (a + w) ∧ rw_I r' (A_many i (nI o9) m S)) ∨ (¬ (S.2.2 i).2.2.length + m ≤ 8 ∧ r9 = (-3))))) := by
    intro h8m f
    induction f with
    | zero => intro k r1 ay1 G1 hay h1 h2; exact absurd h1 (by omega)
    | succ f ih =>
      intro k r1 ay1 G1 hay hf hk H hwk
      have hlen := A_many_len (i := i) (o := nI o9) (S := S) k
      refine cc_iload (j := 0) dX4_arrival_184 rfl ?_
      refine cc_iload (j := 1) dX4_arrival_186 rfl ?_
      refine cc_icmp_ge (tgt := 207) dX4_arrival_188 (by decide) (fun c_188 => ?_) (fun c_188 => ?_)
      · have hge : k = m := by have := cc_ngt _ c_188 (by omega) (by omega); omega
        subst hge
        refine cc_iload (j := 1) dX4_arrival_207 rfl ?_
        refine cc_iret rfl rfl dX4_arrival_209 ?_
        exact ⟨_, rfl, _, _, H, Or.inl ⟨h8m, rfl, hay, hwk⟩⟩
      · have hlk : k < m := cc_nlt _ c_188 (by omega)
        refine cc_iload_n (j := 5) dX4_arrival_191 rfl rfl ?_
        refine cc_if_eq (tgt := 207) dX4_arrival_192 (by decide) (fun c_192 => ?_) (fun c_192 => ?_)
        · exact absurd c_192 (by decide)
        · refine cc_aload_n (j := 4) dX4_arrival_195 rfl rfl ?_
          refine cc_iload_n (j := 3) dX4_arrival_196 rfl rfl ?_
          refine cc_iload_n (j := 2) dX4_arrival_197 rfl rfl ?_
          refine cc_callVv (As := [.int (nI i), .int (nI o9)]) (rest := []) (ct_X4_bring cy z _ _ _ _ _ _ _ _ _ _ _ _ _ (A_many i (nI o9) k S) hwk i hi4 (nI o9) (by omega) H.self) ok_X4_bring (H.2.1) rfl im_X4_bring sl_X4_bring ml_X4_72 nd_X4_bring (by decide +kernel) (Nat.le_of_ble_eq_true rfl) rfl dX4_arrival_198 (fun G1 q3 => ?_)
          obtain ⟨r2, H4, hw2⟩ := q3
          have H4 := H.tr H4
          refine cc_iinc (j := 0) (v := nI (k + 1)) (ls' := [(5, .int (nI (k + 1))), (4, .int (nI m)), (3, .int (nI o9)), (2, .int (nI i)), (0, .ref o), (1, .int 1)]) dX4_arrival_201 rfl (nI_1 k) (Nat.le_of_ble_eq_true rfl) rfl ?_
          refine cc_goto (tgt := 184) dX4_arrival_204 (by decide) ?_
          refine cc_loc (ls' := [(5, .int (nI (k + 1))), (4, .int (nI m)), (3, .int (nI o9)), (2, .int (nI i)), (0, .ref o), (1, .int 1)]) [0, 1, 2, 3, 4, 5] rfl ?_
          exact ih (k + 1) _ _ _ hay (by omega) (by omega) H4 hw2
  refine cc_enter ok_X4_arrival (Nat.le_of_ble_eq_true rfl) (ls := [(0, .ref o), (1, .int 1)]) rfl ?_
  refine cc_aload_n (j := 0) dX4_arrival_0 rfl rfl ?_
  refine cc_bipush (v := 48) dX4_arrival_1 (by decide) ?_
  refine cc_bipush (v := 51) dX4_arrival_3 (by decide) ?_
  refine cc_callVi (As := [.int 48, .int 51]) (rest := []) (ct_X4_sees cy z _ _ _ _ _ _ _ _ _ _ _ _ _ u n a hn (by omega) hu 48 51 H.self rfl rfl) ok_X4_sees (H.2.1) rfl im_X4_sees sl_X4_sees ml_X4_82 nd_X4_sees (by decide +kernel) (Nat.le_of_ble_eq_true rfl) rfl dX4_arrival_5 (fun r6 G5 q7 => ?_)
  obtain ⟨rfl, rfl⟩ := q7
  rw [if_pos (show (a < n ∧ (48 : Int32) ≤ u a ∧ u a ≤ (51 : Int32)) from ⟨by omega, by rw [ei]; exact ⟨nI_le (a := 48) (by omega) (by omega), nI_le (b := 51) (by omega) (by decide)⟩⟩)]
  refine cc_if_ne (tgt := 14) dX4_arrival_8 (by decide) (fun c_8 => ?_) (fun c_8 => ?_)
  · refine cc_aload_n (j := 0) dX4_arrival_14 rfl rfl ?_
    refine cc_get (v := .ref (o + 5)) H.2.1 cc_c4 6 (by decide) fl_X4_22 rfl dX4_arrival_15 ?_
    refine cc_aload_n (j := 0) dX4_arrival_18 rfl rfl ?_
    refine cc_get (v := .int (nI a)) H.2.1 cc_c4 8 (by decide) fl_X4_76 rfl dX4_arrival_19 ?_
    refine cc_cald (x := tx a) H.2.2.2.2.2.2.1 (vp_in_nI (n := a) (by omega) (by decide)) (by rw [(nI_clamp (by omega))]) dX4_arrival_22 ?_
    rw [show tx a = nI (48 + i) from (hu _ (by omega)).trans ei]
    refine cc_bipush (v := 48) dX4_arrival_23 (by decide) ?_
    refine cc_isub dX4_arrival_25 ?_
    rw [show (nI (48 + i)) - 48 = nI i from T_c48]
    refine cc_istore_n (ls' := [(2, .int (nI i)), (0, .ref o), (1, .int 1)]) dX4_arrival_26 rfl (Nat.le_of_ble_eq_true rfl) rfl ?_
    refine cc_aload_n (j := 1) dX4_arrival_27 rfl rfl ?_
    refine cc_dup dX4_arrival_28 rfl ?_
    refine cc_get (v := .int (nI a)) H.2.1 cc_c4 8 (by decide) fl_X4_76 rfl dX4_arrival_29 ?_
    refine cc_iconst (v := 1) dX4_arrival_32 (by decide) ?_
    refine cc_iadd dX4_arrival_33 ?_
    rw [show (nI a) + 1 = nI (a + 1) from nI_1 _]
    refine mo_rput (nn' := nn) (ia' := ia) (le' := (nI n)) (ay' := (nI (a + 1))) H cc_c4 8 (by decide) fl_X4_76 rfl rfl rfl rfl rfl dX4_arrival_34 (fun G8 H9 => ?_)
    refine cc_aload_n (j := 1) dX4_arrival_37 rfl rfl ?_
    refine cc_bipush (v := 62) dX4_arrival_38 (by decide) ?_
    refine cc_bipush (v := 62) dX4_arrival_40 (by decide) ?_
    refine cc_callVi (As := [.int 62, .int 62]) (rest := []) (ct_X4_sees cy z _ _ _ _ _ _ _ _ _ _ _ _ _ u n (a + 1) hn (by omega) hu 62 62 H9.self rfl rfl) ok_X4_sees (H9.2.1) rfl im_X4_sees sl_X4_sees ml_X4_82 nd_X4_sees (by decide +kernel) (Nat.le_of_ble_eq_true rfl) rfl dX4_arrival_42 (fun r11 G10 q12 => ?_)
    obtain ⟨rfl, rfl⟩ := q12
    rw [if_pos (show (a + 1 < n ∧ (62 : Int32) ≤ u (a + 1) ∧ u (a + 1) ≤ (62 : Int32)) from ⟨by omega, by rw [e1]; decide⟩)]
    refine cc_if_ne (tgt := 51) dX4_arrival_45 (by decide) (fun c_45 => ?_) (fun c_45 => ?_)
    · refine cc_aload_n (j := 1) dX4_arrival_51 rfl rfl ?_
      refine cc_dup dX4_arrival_52 rfl ?_
      refine cc_get (v := .int (nI (a + 1))) H9.2.1 cc_c4 8 (by decide) fl_X4_76 rfl dX4_arrival_53 ?_
      refine cc_iconst (v := 1) dX4_arrival_56 (by decide) ?_
      refine cc_iadd dX4_arrival_57 ?_
      rw [show (nI (a + 1)) + 1 = nI (a + 1 + 1) from nI_1 _]
      refine mo_rput (nn' := nn) (ia' := ia) (le' := (nI n)) (ay' := (nI (a + 1 + 1))) H9 cc_c4 8 (by decide) fl_X4_76 rfl rfl rfl rfl rfl dX4_arrival_58 (fun G13 H14 => ?_)
      refine cc_aload_n (j := 1) dX4_arrival_61 rfl rfl ?_
      refine cc_bipush (v := 48) dX4_arrival_62 (by decide) ?_
      refine cc_bipush (v := 51) dX4_arrival_64 (by decide) ?_
      refine cc_callVi (As := [.int 48, .int 51]) (rest := []) (ct_X4_sees cy z _ _ _ _ _ _ _ _ _ _ _ _ _ u n (a + 1 + 1) hn (by omega) hu 48 51 H14.self rfl rfl) ok_X4_sees (H14.2.1) rfl im_X4_sees sl_X4_sees ml_X4_82 nd_X4_sees (by decide +kernel) (Nat.le_of_ble_eq_true rfl) rfl dX4_arrival_66 (fun r16 G15 q17 => ?_)
      obtain ⟨rfl, rfl⟩ := q17
      rw [if_pos (show (a + 1 + 1 < n ∧ (48 : Int32) ≤ u (a + 1 + 1) ∧ u (a + 1 + 1) ≤ (51 : Int32)) from ⟨by omega, by rw [show u (a + 1 + 1) = nI (48 + o9) from eo]; exact ⟨nI_le (a := 48) (by omega) (by omega), nI_le (b := 51) (by omega) (by decide)⟩⟩)]
      refine cc_if_ne (tgt := 75) dX4_arrival_69 (by decide) (fun c_69 => ?_) (fun c_69 => ?_)
      · refine cc_aload_n (j := 1) dX4_arrival_75 rfl rfl ?_
        refine cc_get (v := .ref (o + 5)) H14.2.1 cc_c4 6 (by decide) fl_X4_22 rfl dX4_arrival_76 ?_
        refine cc_aload_n (j := 1) dX4_arrival_79 rfl rfl ?_
        refine cc_get (v := .int (nI (a + 1 + 1))) H14.2.1 cc_c4 8 (by decide) fl_X4_76 rfl dX4_arrival_80 ?_
        refine cc_cald (x := tx (a + 1 + 1)) H14.2.2.2.2.2.2.1 (vp_in_nI (n := (a + 1 + 1)) (by omega) (by decide)) (by rw [(nI_clamp (by omega))]) dX4_arrival_83 ?_
        rw [show tx (a + 1 + 1) = nI (48 + o9) from (hu _ (by omega)).trans eo]
        refine cc_bipush (v := 48) dX4_arrival_84 (by decide) ?_
        refine cc_isub dX4_arrival_86 ?_
        rw [show (nI (48 + o9)) - 48 = nI o9 from T_c48]
        refine cc_istore_n (ls' := [(3, .int (nI o9)), (2, .int (nI i)), (0, .ref o), (1, .int 1)]) dX4_arrival_87 rfl (Nat.le_of_ble_eq_true rfl) rfl ?_
        refine cc_aload_n (j := 2) dX4_arrival_88 rfl rfl ?_
        refine cc_dup dX4_arrival_89 rfl ?_
        refine cc_get (v := .int (nI (a + 1 + 1))) H14.2.1 cc_c4 8 (by decide) fl_X4_76 rfl dX4_arrival_90 ?_
        refine cc_iconst (v := 1) dX4_arrival_93 (by decide) ?_
        refine cc_iadd dX4_arrival_94 ?_
        rw [show (nI (a + 1 + 1)) + 1 = nI (a + 1 + 1 + 1) from nI_add (a + 1 + 1) 1]
        refine mo_rput (nn' := nn) (ia' := ia) (le' := (nI n)) (ay' := (nI (a + 1 + 1 + 1))) H14 cc_c4 8 (by decide) fl_X4_76 rfl rfl rfl rfl rfl dX4_arrival_95 (fun G18 H19 => ?_)
        refine cc_iconst (v := 1) dX4_arrival_98 (by decide) ?_
        refine cc_istore (ls' := [(4, .int 1), (3, .int (nI o9)), (2, .int (nI i)), (0, .ref o), (1, .int 1)]) dX4_arrival_99 (Nat.le_of_ble_eq_true rfl) rfl ?_
        rcases hcase with ⟨hcn, rfl, rfl⟩ | ⟨hc4, hc42, em, rfl⟩
        · refine cc_aload_n (j := 3) dX4_arrival_101 rfl rfl ?_
          refine cc_bipush (v := 42) dX4_arrival_102 (by decide) ?_
          refine cc_bipush (v := 42) dX4_arrival_104 (by decide) ?_
          refine cc_callVi (As := [.int 42, .int 42]) (rest := []) (ct_X4_sees cy z _ _ _ _ _ _ _ _ _ _ _ _ _ u n (a + 1 + 1 + 1) hn (by omega) hu 42 42 H19.self rfl rfl) ok_X4_sees (H19.2.1) rfl im_X4_sees sl_X4_sees ml_X4_82 nd_X4_sees (by decide +kernel) (Nat.le_of_ble_eq_true rfl) rfl dX4_arrival_106 (fun r21 G20 q22 => ?_)
          obtain ⟨rfl, rfl⟩ := q22
          rw [if_neg (show ¬ (a + 1 + 1 + 1 < n ∧ (42 : Int32) ≤ u (a + 1 + 1 + 1) ∧ u (a + 1 + 1 + 1) ≤ (42 : Int32)) from (fun q => hcn ⟨q.1, T_one q.2⟩))]
          refine cc_if_eq (tgt := 160) dX4_arrival_109 (by decide) (fun c_109 => ?_) (fun c_109 => ?_)
          · refine cc_iload_n (j := 4) dX4_arrival_160 rfl rfl ?_
            refine cc_if_eq (tgt := 181) dX4_arrival_161 (by decide) (fun c_161 => ?_) (fun c_161 => ?_)
            · exact absurd c_161 (by decide)
            · refine cc_aload_n (j := 3) dX4_arrival_164 rfl rfl ?_
              refine cc_iload_n (j := 2) dX4_arrival_165 rfl rfl ?_
              refine cc_iconst (v := 0) dX4_arrival_166 (by decide) ?_
              refine cc_callVi (As := [.int (nI i), .int 0]) (rest := []) (ct_X4_by cy z _ _ _ _ _ _ _ _ _ _ _ _ _ i 0 (by omega) H19.self) ok_X4_by (H19.2.1) rfl im_X4_by sl_X4_by ml_X4_69 nd_X4_by (by decide +kernel) (Nat.le_of_ble_eq_true rfl) rfl dX4_arrival_167 (fun r24 G23 q25 => ?_)
              obtain ⟨rfl, rfl⟩ := q25
              rw [show r (124 + 27 * i + 0) = nI (S.2.2 i).2.2.length from hq0.1]
              refine cc_iload (j := 0) dX4_arrival_170 rfl ?_
              refine cc_iadd dX4_arrival_172 ?_
              rw [show (nI (S.2.2 i).2.2.length) + 1 = nI ((S.2.2 i).2.2.length + 1) from nI_1 _]
              refine cc_bipush (v := 8) dX4_arrival_173 (by decide) ?_
              refine cc_icmp_le (tgt := 181) dX4_arrival_175 (by decide) (fun c_175 => ?_) (fun c_175 => ?_)
              · refine cc_iconst (v := 0) dX4_arrival_181 (by decide) ?_
                refine cc_istore (ls' := [(5, .int 0), (4, .int 1), (3, .int (nI o9)), (2, .int (nI i)), (0, .ref o), (1, .int 1)]) dX4_arrival_182 (Nat.le_of_ble_eq_true rfl) rfl ?_
                have h8m : (S.2.2 i).2.2.length + 1 ≤ 8 := (nI_leI (b := 8) (by omega) (by decide)).mp c_175
                exact loop_184 h8m (1 + 1) 0 _ _ _ rfl (by omega) (Nat.zero_le _) H19 hw
              · refine cc_bipush (v := (-3)) dX4_arrival_178 (by decide) ?_
                refine cc_iret rfl rfl dX4_arrival_180 ?_
                exact ⟨_, rfl, _, _, H19, Or.inr ⟨fun q => c_175 (nI_le (b := 8) q (by decide)), rfl⟩⟩
          · exact absurd c_109 (by decide)
        · refine cc_aload_n (j := 3) dX4_arrival_101 rfl rfl ?_
          refine cc_bipush (v := 42) dX4_arrival_102 (by decide) ?_
          refine cc_bipush (v := 42) dX4_arrival_104 (by decide) ?_
          refine cc_callVi (As := [.int 42, .int 42]) (rest := []) (ct_X4_sees cy z _ _ _ _ _ _ _ _ _ _ _ _ _ u n (a + 1 + 1 + 1) hn (by omega) hu 42 42 H19.self rfl rfl) ok_X4_sees (H19.2.1) rfl im_X4_sees sl_X4_sees ml_X4_82 nd_X4_sees (by decide +kernel) (Nat.le_of_ble_eq_true rfl) rfl dX4_arrival_106 (fun r27 G26 q28 => ?_)
          obtain ⟨rfl, rfl⟩ := q28
          rw [if_pos (show (a + 1 + 1 + 1 < n ∧ (42 : Int32) ≤ u (a + 1 + 1 + 1) ∧ u (a + 1 + 1 + 1) ≤ (42 : Int32)) from ⟨by omega, by rw [show u (a + 1 + 1 + 1) = 42 from hc42]; decide⟩)]
          refine cc_if_eq (tgt := 160) dX4_arrival_109 (by decide) (fun c_109_1 => ?_) (fun c_109_1 => ?_)
          · exact absurd c_109_1 (by decide)
          · refine cc_aload_n (j := 3) dX4_arrival_112 rfl rfl ?_
            refine cc_dup dX4_arrival_113 rfl ?_
            refine cc_get (v := .int (nI (a + 1 + 1 + 1))) H19.2.1 cc_c4 8 (by decide) fl_X4_76 rfl dX4_arrival_114 ?_
            refine cc_iconst (v := 1) dX4_arrival_117 (by decide) ?_
            refine cc_iadd dX4_arrival_118 ?_
            rw [show (nI (a + 1 + 1 + 1)) + 1 = nI (a + 1 + 1 + 1 + 1) from nI_add (a + 1 + 1 + 1) 1]
            refine mo_rput (nn' := nn) (ia' := ia) (le' := (nI n)) (ay' := (nI (a + 1 + 1 + 1 + 1))) H19 cc_c4 8 (by decide) fl_X4_76 rfl rfl rfl rfl rfl dX4_arrival_119 (fun G29 H30 => ?_)
            refine cc_aload_n (j := 3) dX4_arrival_122 rfl rfl ?_
            refine cc_bipush (v := 49) dX4_arrival_123 (by decide) ?_
            refine cc_bipush (v := 57) dX4_arrival_125 (by decide) ?_
            refine cc_callVi (As := [.int 49, .int 57]) (rest := []) (ct_X4_sees cy z _ _ _ _ _ _ _ _ _ _ _ _ _ u n (a + 1 + 1 + 1 + 1) hn (by omega) hu 49 57 H30.self rfl rfl) ok_X4_sees (H30.2.1) rfl im_X4_sees sl_X4_sees ml_X4_82 nd_X4_sees (by decide +kernel) (Nat.le_of_ble_eq_true rfl) rfl dX4_arrival_127 (fun r32 G31 q33 => ?_)
            obtain ⟨rfl, rfl⟩ := q33
            rw [if_pos (show (a + 1 + 1 + 1 + 1 < n ∧ (49 : Int32) ≤ u (a + 1 + 1 + 1 + 1) ∧ u (a + 1 + 1 + 1 + 1) ≤ (57 : Int32)) from ⟨hc4, by rw [show u (a + 1 + 1 + 1 + 1) = nI (48 + m) from em]; exact ⟨nI_le (a := 49) (by omega) (by omega), nI_le (b := 57) (by omega) (by decide)⟩⟩)]
            refine cc_if_ne (tgt := 136) dX4_arrival_130 (by decide) (fun c_130 => ?_) (fun c_130 => ?_)
            · refine cc_aload_n (j := 3) dX4_arrival_136 rfl rfl ?_
              refine cc_get (v := .ref (o + 5)) H30.2.1 cc_c4 6 (by decide) fl_X4_22 rfl dX4_arrival_137 ?_
              refine cc_aload_n (j := 3) dX4_arrival_140 rfl rfl ?_
              refine cc_get (v := .int (nI (a + 1 + 1 + 1 + 1))) H30.2.1 cc_c4 8 (by decide) fl_X4_76 rfl dX4_arrival_141 ?_
              refine cc_cald (x := tx (a + 1 + 1 + 1 + 1)) H30.2.2.2.2.2.2.1 (vp_in_nI (n := (a + 1 + 1 + 1 + 1)) (by omega) (by decide)) (by rw [(nI_clamp (by omega))]) dX4_arrival_144 ?_
              rw [show tx (a + 1 + 1 + 1 + 1) = nI (48 + m) from (hu _ (by omega)).trans em]
              refine cc_bipush (v := 48) dX4_arrival_145 (by decide) ?_
              refine cc_isub dX4_arrival_147 ?_
              rw [show (nI (48 + m)) - 48 = nI m from T_c48]
              refine cc_istore (ls' := [(4, .int (nI m)), (3, .int (nI o9)), (2, .int (nI i)), (0, .ref o), (1, .int 1)]) dX4_arrival_148 (Nat.le_of_ble_eq_true rfl) rfl ?_
              refine cc_aload_n (j := 3) dX4_arrival_150 rfl rfl ?_
              refine cc_dup dX4_arrival_151 rfl ?_
              refine cc_get (v := .int (nI (a + 1 + 1 + 1 + 1))) H30.2.1 cc_c4 8 (by decide) fl_X4_76 rfl dX4_arrival_152 ?_
              refine cc_iconst (v := 1) dX4_arrival_155 (by decide) ?_
              refine cc_iadd dX4_arrival_156 ?_
              rw [show (nI (a + 1 + 1 + 1 + 1)) + 1 = nI (a + 1 + 1 + 1 + 1 + 1) from nI_1 _]
              refine mo_rput (nn' := nn) (ia' := ia) (le' := (nI n)) (ay' := (nI (a + 1 + 1 + 1 + 1 + 1))) H30 cc_c4 8 (by decide) fl_X4_76 rfl rfl rfl rfl rfl dX4_arrival_157 (fun G34 H35 => ?_)
              refine cc_iload_n (j := 4) dX4_arrival_160 rfl rfl ?_
              refine cc_if_eq (tgt := 181) dX4_arrival_161 (by decide) (fun c_161_1 => ?_) (fun c_161_1 => ?_)
              · exact absurd c_161_1 (by decide)
              · refine cc_aload_n (j := 3) dX4_arrival_164 rfl rfl ?_
                refine cc_iload_n (j := 2) dX4_arrival_165 rfl rfl ?_
                refine cc_iconst (v := 0) dX4_arrival_166 (by decide) ?_
                refine cc_callVi (As := [.int (nI i), .int 0]) (rest := []) (ct_X4_by cy z _ _ _ _ _ _ _ _ _ _ _ _ _ i 0 (by omega) H35.self) ok_X4_by (H35.2.1) rfl im_X4_by sl_X4_by ml_X4_69 nd_X4_by (by decide +kernel) (Nat.le_of_ble_eq_true rfl) rfl dX4_arrival_167 (fun r37 G36 q38 => ?_)
                obtain ⟨rfl, rfl⟩ := q38
                rw [show r (124 + 27 * i + 0) = nI (S.2.2 i).2.2.length from hq0.1]
                refine cc_iload (j := 0) dX4_arrival_170 rfl ?_
                refine cc_iadd dX4_arrival_172 ?_
                rw [show (nI (S.2.2 i).2.2.length) + (nI m) = nI ((S.2.2 i).2.2.length + m) from nI_add _ _]
                refine cc_bipush (v := 8) dX4_arrival_173 (by decide) ?_
                refine cc_icmp_le (tgt := 181) dX4_arrival_175 (by decide) (fun c_175_1 => ?_) (fun c_175_1 => ?_)
                · refine cc_iconst (v := 0) dX4_arrival_181 (by decide) ?_
                  refine cc_istore (ls' := [(5, .int 0), (4, .int (nI m)), (3, .int (nI o9)), (2, .int (nI i)), (0, .ref o), (1, .int 1)]) dX4_arrival_182 (Nat.le_of_ble_eq_true rfl) rfl ?_
                  have h8m : (S.2.2 i).2.2.length + m ≤ 8 := (nI_leI (b := 8) (by omega) (by decide)).mp c_175_1
                  exact loop_184 h8m (m + 1) 0 _ _ _ rfl (by omega) (Nat.zero_le _) H35 hw
                · refine cc_bipush (v := (-3)) dX4_arrival_178 (by decide) ?_
                  refine cc_iret rfl rfl dX4_arrival_180 ?_
                  exact ⟨_, rfl, _, _, H35, Or.inr ⟨fun q => c_175_1 (nI_le (b := 8) q (by decide)), rfl⟩⟩
            · exact absurd c_130 (by decide)
      · exact absurd c_69 (by decide)
    · exact absurd c_45 (by decide)
  · exact absurd c_8 (by decide)
