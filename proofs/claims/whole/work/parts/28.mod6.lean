theorem rw_lane_at {r : Nat → Int32} {i : Nat} {g : Nat → Int32} {F : Nat → Ln_ → Ln_} {Ls : Nat → Ln_} {Qs : Nat → Qu_} (h : rw_I r (g, B_mapI i F Ls, Qs)) (hi : i < 4) : rl_I r (4 + 30 * i) (Ls i) := by
  have h := h.2.2.2.2.1 i hi
  rw [show (g, B_mapI i F Ls, Qs).2.1 i = Ls i from B_mapI_at] at h
  exact h
theorem rw_lane_up {r r' : Nat → Int32} {i : Nat} {g : Nat → Int32} {F : Nat → Ln_ → Ln_} {Ls : Nat → Ln_} {Qs : Nat → Qu_} (h : rw_I r (g, B_mapI i F Ls, Qs)) (hi : i < 4) (hL : rl_I r' (4 + 30 * i) (F i (Ls i))) (hk : ∀ q, (q < 4 + 30 * i ∨ 4 + 30 * i + 30 ≤ q) → r' q = r q) : rw_I r' (g, B_mapI (i + 1) F Ls, Qs) := by
  have h := h.lane hi hL hk
  rw [show S_lane (g, B_mapI i F Ls, Qs) i (F i (Ls i)) = (g, B_mapI (i + 1) F Ls, Qs) by show (g, va_up (B_mapI i F Ls) i (F i (Ls i)), Qs) = _; rw [B_mapI_s]] at h
  exact h
theorem rw_queue_at {r : Nat → Int32} {i : Nat} {g : Nat → Int32} {F : Nat → Qu_ → Qu_} {Ls : Nat → Ln_} {Qs : Nat → Qu_} (h : rw_I r (g, Ls, B_mapI i F Qs)) (hi : i < 4) : rq_I r (124 + 27 * i) (Qs i) := by
  have h := h.2.2.2.2.2 i hi
  rw [show (g, Ls, B_mapI i F Qs).2.2 i = Qs i from B_mapI_at] at h
  exact h
theorem rw_queue_up {r r' : Nat → Int32} {i : Nat} {g : Nat → Int32} {F : Nat → Qu_ → Qu_} {Ls : Nat → Ln_} {Qs : Nat → Qu_} (h : rw_I r (g, Ls, B_mapI i F Qs)) (hi : i < 4) (hL : rq_I r' (124 + 27 * i) (F i (Qs i))) (hk : ∀ q, (q < 124 + 27 * i ∨ 124 + 27 * i + 27 ≤ q) → r' q = r q) : rw_I r' (g, Ls, B_mapI (i + 1) F Qs) := by
  have h := h.queue hi hL hk
  have e : va_up (B_mapI i F Qs) i (F i (Qs i)) = B_mapI (i + 1) F Qs := B_mapI_s
  have h : rw_I r' (g, Ls, va_up (B_mapI i F Qs) i (F i (Qs i))) := h
  rw [e] at h
  exact h
theorem rq_I.bl {r : Nat → Int32} {b : Nat} {q : Qu_} (h : rq_I r b q) (x : Int32) : rq_I (upd r (b + 1) x) b (x, q.2) := by
  obtain ⟨q0, q1, q2, q3, q4⟩ := h
  exact ⟨(pk_un (by omega)).trans q0, pk_us, (pk_un (by omega)).trans q2, ⟨q3.1.eq (fun k hk => pk_un (by omega)), q3.2.1.eq (fun k hk => pk_un (by omega)), q3.2.2.eq (fun k hk => pk_un (by omega))⟩, q4⟩
theorem B_send_top (o t : Nat) (X : St_ × (Nat → Int32)) : (B_send o t X).2.1.1 = X.1.1 := by
  rcases B_send_cases o t X with e | ⟨j, k, -, -, -, -, e⟩
  · rw [e]
  · rw [e]
    rfl
theorem B_sends_top (X : St_ × (Nat → Int32)) : ∀ i, (B_sends i X).2.1.1 = X.1.1 := by
  intro i
  induction i with
  | zero => rfl
  | succ i ih => exact (B_send_top i _ _).trans ih

set_option maxHeartbeats 4000000 in
set_option maxRecDepth 100000 in
theorem ct_X4_tick (cy : Nat → ClassId) (z : Nat) (G : cc_G) (o : Nat) (r pa qa be : Nat → Int32) (nn ia : Int32) (tx : Nat → Int32) (le ay : Int32) (hs so : Nat → Int32) (S : St_) (hw : rw_I r S) (hm : B_mid (B_beg S)) (hmd : S.1 1 = 0 ∨ S.1 1 = 1) (H : mo_R cy G G o r pa qa be nn ia tx le ay hs so)  : cc_Cn cy Y_X4_tick [.ref o] z G (cc_qi (fun r9 G' => r9 = nI (B_tick S).1 ∧ ∃ r' hs' so', mo_R cy G G' o r' pa qa be nn ia tx le ay hs' so' ∧ rw_I r' (B_tick S).2 ∧ ∀ j, j < 4 → so' j = B_next S j)) := by
  have hmz : ∀ j, j < 4 → (fun _ => 0 : Nat → Int32) j = 0 ∨ (fun _ => 0 : Nat → Int32) j = 1 := fun _ _ => Or.inl rfl
  obtain ⟨X4, hX4⟩ : ∃ X, X = B_sends 4 (B_beg S, fun _ => 0) := ⟨_, rfl⟩
  have hm4 : B_mid X4.2.1 ∧ ∀ j, j < 4 → X4.2.2 j = 0 ∨ X4.2.2 j = 1 := by rw [hX4]; exact B_mid.sends (X := (B_beg S, fun _ => 0)) hm hmz 4
  have loop_99 : ∀ (n i : Nat) (r1 hs1 so1 : Nat → Int32) (G1 : cc_G), 4 < i + n → i ≤ 4 → mo_R cy G G1 o r1 pa qa be nn ia tx le ay hs1 so1 → rw_I r1 (X4.2.1.1, B_mapI i (fun _ L => L_take (X4.2.1.1 0) L) X4.2.1.2.1, B_mapI i (fun j q => (if q.2.2 ≠ [] ∧ X4.2.2 j = 0 then q.1 + 1 else q.1, q.2.1, q.2.2)) X4.2.1.2.2) → (∀ j, j < 4 → hs1 j = X4.2.2 j) → (∀ j, j < 4 → so1 j = B_next S j) → cc_R cy Y_X4_tick z 99 [(2, .int (nI i)), (1, .int (nI X4.1)), (0, .ref o)] [] G1 (cc_qi (fun r9 G' => r9 = nI (B_tick S).1 ∧ ∃ r' hs' so', mo_R cy G G' o r' pa qa be nn ia tx le ay hs' so' ∧ rw_I r' (B_tick S).2 ∧ ∀ j, j < 4 → so' j = B_next S j)) := by
    intro n
    induction n with
    | zero => intro i r1 hs1 so1 G1 h1 h2; exact absurd h1 (by omega)
    | succ n ih =>
      intro i r1 hs1 so1 G1 hn hi H hw hz hso
      refine cc_iload_n (j := 0) dX4_tick_99 rfl rfl ?_
      refine cc_iconst (v := 4) dX4_tick_100 (by decide) ?_
      refine cc_icmp_ge (tgt := 155) dX4_tick_101 (by decide) (fun c_101 => ?_) (fun c_101 => ?_)
      · have hge : i = 4 := by have := cc_ngt 4 c_101 (by omega) (by decide); omega
        subst hge
        refine cc_aload_n (j := 2) dX4_tick_155 rfl rfl ?_
        refine cc_get (v := .ref (o + 1)) H.2.1 cc_c4 0 (by decide) fl_X4_7 rfl dX4_tick_156 ?_
        refine cc_iconst (v := 0) dX4_tick_159 (by decide) ?_
        refine cc_dup2 dX4_tick_160 rfl rfl ?_
        refine cc_iald (x := r1 0) H.2.2.1 (vp_in_nI (n := 0) (by decide) (by decide)) (by rw [show (0 : Int32).toNatClampNeg = 0 from rfl]) dX4_tick_161 ?_
        rw [show r1 0 = X4.2.1.1 0 from hw.1]
        refine cc_iconst (v := 1) dX4_tick_162 (by decide) ?_
        refine cc_iadd dX4_tick_163 ?_
        rw [show (X4.2.1.1 0) + 1 = X4.2.1.1 0 + 1 from rfl]
        refine mo_rast_r (j := 0) H (vp_in_nI (n := 0) (by decide) (by decide)) rfl dX4_tick_164 (fun G1 H2 => ?_)
        refine cc_iload_n (j := 1) dX4_tick_165 rfl rfl ?_
        refine cc_iret rfl rfl dX4_tick_166 ?_
        rw [B_tick_eq hX4]
        exact ⟨_, rfl, rfl, _, _, _, H2, hw.top (k := 0) (by decide) (X4.2.1.1 0 + 1), hso⟩
      · have hlt : i < 4 := cc_nlt 4 c_101 (by omega)
        refine cc_aload_n (j := 2) dX4_tick_104 rfl rfl ?_
        refine cc_iload_n (j := 0) dX4_tick_105 rfl rfl ?_
        refine cc_callVv (As := [.int (nI i)]) (rest := []) (ct_X4_take cy z _ _ _ _ _ _ _ _ _ _ _ _ _ (X4.2.1.2.1 i).1 (X4.2.1.2.1 i).2.1 (X4.2.1.2.1 i).2.2 i hlt (X4.2.1.1 0) hw.1 (fun q => absurd (hm4.1 i hlt).2.1 (by rw [q]; decide)) (hm4.1 i hlt).2.2.2.1 H.self (rw_lane_at hw hlt)) ok_X4_take (H.2.1) rfl im_X4_take sl_X4_take ml_X4_116 nd_X4_take (by decide +kernel) (Nat.le_of_ble_eq_true rfl) rfl dX4_tick_106 (fun G3 q5 => ?_)
        obtain ⟨r2, H6, hl2, hk2⟩ := q5
        have H6 := H.tr H6
        have hw2 := rw_lane_up (F := (fun _ L => L_take (X4.2.1.1 0) L)) hw hlt hl2 hk2
        have hq2 := rw_queue_at hw2 hlt
        have h8 : (X4.2.1.2.2 i).2.2.length ≤ 8 := hq2.2.2.2.2
        refine cc_aload_n (j := 2) dX4_tick_109 rfl rfl ?_
        refine cc_get (v := .ref (o + 1)) H6.2.1 cc_c4 0 (by decide) fl_X4_7 rfl dX4_tick_110 ?_
        refine cc_bipush (v := 124) dX4_tick_113 (by decide) ?_
        refine cc_bipush (v := 27) dX4_tick_115 (by decide) ?_
        refine cc_iload_n (j := 0) dX4_tick_117 rfl rfl ?_
        refine cc_imul dX4_tick_118 ?_
        rw [show 27 * (nI i) = nI (27 * i) from pk_mul 27 i]
        refine cc_iadd dX4_tick_119 ?_
        rw [show 124 + (nI (27 * i)) = nI (124 + 27 * i) from nI_add 124 (27 * i)]
        refine cc_iconst (v := 1) dX4_tick_120 (by decide) ?_
        refine cc_iadd dX4_tick_121 ?_
        rw [show (nI (124 + 27 * i)) + 1 = nI (124 + 27 * i + 1) from nI_add (124 + 27 * i) 1]
        refine cc_dup2 dX4_tick_122 rfl rfl ?_
        refine cc_iald (x := r2 (124 + 27 * i + 1)) H6.2.2.1 (vp_in_nI (n := (124 + 27 * i + 1)) (by omega) (by decide)) (by rw [(nI_clamp (by omega))]) dX4_tick_123 ?_
        rw [show r2 (124 + 27 * i + 1) = (X4.2.1.2.2 i).1 from hq2.2.1]
        refine cc_aload_n (j := 2) dX4_tick_124 rfl rfl ?_
        refine cc_iload_n (j := 0) dX4_tick_125 rfl rfl ?_
        refine cc_iconst (v := 0) dX4_tick_126 (by decide) ?_
        refine cc_callVi (As := [.int (nI i), .int 0]) (rest := [.int ((X4.2.1.2.2 i).1), .int (nI (124 + 27 * i + 1)), .ref (o + 1)]) (ct_X4_by cy z _ _ _ _ _ _ _ _ _ _ _ _ _ i 0 (by omega) H6.self) ok_X4_by (H6.2.1) rfl im_X4_by sl_X4_by ml_X4_69 nd_X4_by (by decide +kernel) (Nat.le_of_ble_eq_true rfl) rfl dX4_tick_127 (fun r8 G7 q9 => ?_)
        obtain ⟨rfl, rfl⟩ := q9
        rw [show r2 (124 + 27 * i + 0) = nI (X4.2.1.2.2 i).2.2.length from hq2.1]
        refine cc_if_le (tgt := 146) dX4_tick_130 (by decide) (fun c_130 => ?_) (fun c_130 => ?_)
        · refine cc_iconst (v := 0) dX4_tick_146 (by decide) ?_
          refine cc_iadd dX4_tick_147 ?_
          rw [show ((X4.2.1.2.2 i).1) + 0 = (if (X4.2.1.2.2 i).2.2 ≠ [] ∧ X4.2.2 i = 0 then (X4.2.1.2.2 i).1 + 1 else (X4.2.1.2.2 i).1) from by rw [show (if (X4.2.1.2.2 i).2.2 ≠ [] ∧ X4.2.2 i = 0 then (X4.2.1.2.2 i).1 + 1 else (X4.2.1.2.2 i).1) = _ from if_neg (fun q => q.1 (List.length_eq_zero_iff.mp (by rcases Nat.eq_zero_or_pos (X4.2.1.2.2 i).2.2.length with e | e; exact e; exact absurd ((cc_p0 (by omega)).mpr e) (Int32.not_lt.mpr c_130))))]; simp]
          refine mo_rast_r (j := (124 + 27 * i + 1)) H6 (vp_in_nI (n := (124 + 27 * i + 1)) (by omega) (by decide)) (nI_clamp (by omega)) dX4_tick_148 (fun G10 H11 => ?_)
          have hw3 := rw_queue_up (F := (fun j q => (if q.2.2 ≠ [] ∧ X4.2.2 j = 0 then q.1 + 1 else q.1, q.2.1, q.2.2))) hw2 hlt (hq2.bl (if (X4.2.1.2.2 i).2.2 ≠ [] ∧ X4.2.2 i = 0 then (X4.2.1.2.2 i).1 + 1 else (X4.2.1.2.2 i).1)) (fun q hq => pk_un (by omega))
          generalize upd r2 (124 + 27 * i + 1) (if (X4.2.1.2.2 i).2.2 ≠ [] ∧ X4.2.2 i = 0 then (X4.2.1.2.2 i).1 + 1 else (X4.2.1.2.2 i).1) = r3 at H11 hw3
          refine cc_iinc (j := 0) (v := nI (i + 1)) (ls' := [(2, .int (nI (i + 1))), (1, .int (nI X4.1)), (0, .ref o)]) dX4_tick_149 rfl (nI_1 i) (Nat.le_of_ble_eq_true rfl) rfl ?_
          refine cc_goto (tgt := 99) dX4_tick_152 (by decide) ?_
          exact ih (i + 1) _ _ _ _ (by omega) (by omega) H11 hw3 hz hso
        · refine cc_aload_n (j := 2) dX4_tick_133 rfl rfl ?_
          refine cc_get (v := .ref (o + 6)) H6.2.1 cc_c4 9 (by decide) fl_X4_26 rfl dX4_tick_134 ?_
          refine cc_iload_n (j := 0) dX4_tick_137 rfl rfl ?_
          refine cc_zald (x := hs1 i) H6.2.2.2.2.2.2.2.1 (vp_in_nI (n := i) (by omega) (by decide)) (by rw [(nI_clamp (by omega))]) dX4_tick_138 ?_
          rw [show hs1 i = X4.2.2 i from hz i hlt]
          refine cc_if_ne (tgt := 146) dX4_tick_139 (by decide) (fun c_139 => ?_) (fun c_139 => ?_)
          · refine cc_iconst (v := 0) dX4_tick_146 (by decide) ?_
            refine cc_iadd dX4_tick_147 ?_
            rw [show ((X4.2.1.2.2 i).1) + 0 = (if (X4.2.1.2.2 i).2.2 ≠ [] ∧ X4.2.2 i = 0 then (X4.2.1.2.2 i).1 + 1 else (X4.2.1.2.2 i).1) from by rw [show (if (X4.2.1.2.2 i).2.2 ≠ [] ∧ X4.2.2 i = 0 then (X4.2.1.2.2 i).1 + 1 else (X4.2.1.2.2 i).1) = _ from if_neg (fun q => c_139 q.2)]; simp]
            refine mo_rast_r (j := (124 + 27 * i + 1)) H6 (vp_in_nI (n := (124 + 27 * i + 1)) (by omega) (by decide)) (nI_clamp (by omega)) dX4_tick_148 (fun G12 H13 => ?_)
            have hw3 := rw_queue_up (F := (fun j q => (if q.2.2 ≠ [] ∧ X4.2.2 j = 0 then q.1 + 1 else q.1, q.2.1, q.2.2))) hw2 hlt (hq2.bl (if (X4.2.1.2.2 i).2.2 ≠ [] ∧ X4.2.2 i = 0 then (X4.2.1.2.2 i).1 + 1 else (X4.2.1.2.2 i).1)) (fun q hq => pk_un (by omega))
            generalize upd r2 (124 + 27 * i + 1) (if (X4.2.1.2.2 i).2.2 ≠ [] ∧ X4.2.2 i = 0 then (X4.2.1.2.2 i).1 + 1 else (X4.2.1.2.2 i).1) = r3 at H13 hw3
            refine cc_iinc (j := 0) (v := nI (i + 1)) (ls' := [(2, .int (nI (i + 1))), (1, .int (nI X4.1)), (0, .ref o)]) dX4_tick_149 rfl (nI_1 i) (Nat.le_of_ble_eq_true rfl) rfl ?_
            refine cc_goto (tgt := 99) dX4_tick_152 (by decide) ?_
            exact ih (i + 1) _ _ _ _ (by omega) (by omega) H13 hw3 hz hso
          · refine cc_iconst (v := 1) dX4_tick_142 (by decide) ?_
            refine cc_goto (tgt := 147) dX4_tick_143 (by decide) ?_
            refine cc_iadd dX4_tick_147 ?_
            rw [show ((X4.2.1.2.2 i).1) + 1 = (if (X4.2.1.2.2 i).2.2 ≠ [] ∧ X4.2.2 i = 0 then (X4.2.1.2.2 i).1 + 1 else (X4.2.1.2.2 i).1) from by rw [show (if (X4.2.1.2.2 i).2.2 ≠ [] ∧ X4.2.2 i = 0 then (X4.2.1.2.2 i).1 + 1 else (X4.2.1.2.2 i).1) = _ from if_pos ⟨fun q => absurd (by rw [q]; decide) c_130, c_139⟩]]
            refine mo_rast_r (j := (124 + 27 * i + 1)) H6 (vp_in_nI (n := (124 + 27 * i + 1)) (by omega) (by decide)) (nI_clamp (by omega)) dX4_tick_148 (fun G14 H15 => ?_)
            have hw3 := rw_queue_up (F := (fun j q => (if q.2.2 ≠ [] ∧ X4.2.2 j = 0 then q.1 + 1 else q.1, q.2.1, q.2.2))) hw2 hlt (hq2.bl (if (X4.2.1.2.2 i).2.2 ≠ [] ∧ X4.2.2 i = 0 then (X4.2.1.2.2 i).1 + 1 else (X4.2.1.2.2 i).1)) (fun q hq => pk_un (by omega))
            generalize upd r2 (124 + 27 * i + 1) (if (X4.2.1.2.2 i).2.2 ≠ [] ∧ X4.2.2 i = 0 then (X4.2.1.2.2 i).1 + 1 else (X4.2.1.2.2 i).1) = r3 at H15 hw3
            refine cc_iinc (j := 0) (v := nI (i + 1)) (ls' := [(2, .int (nI (i + 1))), (1, .int (nI X4.1)), (0, .ref o)]) dX4_tick_149 rfl (nI_1 i) (Nat.le_of_ble_eq_true rfl) rfl ?_
            refine cc_goto (tgt := 99) dX4_tick_152 (by decide) ?_
            exact ih (i + 1) _ _ _ _ (by omega) (by omega) H15 hw3 hz hso
  have loop_78 : ∀ (n i : Nat) (r1 hs1 so1 : Nat → Int32) (G1 : cc_G), 4 < i + n → i ≤ 4 → mo_R cy G G1 o r1 pa qa be nn ia tx le ay hs1 so1 → rw_I r1 (B_sends i (B_beg S, fun _ => 0)).2.1 → (∀ j, j < 4 → hs1 j = (B_sends i (B_beg S, fun _ => 0)).2.2 j) → (∀ j, j < i → so1 j = B_next S j) → cc_R cy Y_X4_tick z 78 [(2, .int (nI i)), (1, .int (nI (B_sends i (B_beg S, fun _ => 0)).1)), (0, .ref o)] [] G1 (cc_qi (fun r9 G' => r9 = nI (B_tick S).1 ∧ ∃ r' hs' so', mo_R cy G G' o r' pa qa be nn ia tx le ay hs' so' ∧ rw_I r' (B_tick S).2 ∧ ∀ j, j < 4 → so' j = B_next S j)) := by
    intro n
    induction n with
    | zero => intro i r1 hs1 so1 G1 h1 h2; exact absurd h1 (by omega)
    | succ n ih =>
      intro i r1 hs1 so1 G1 hn hi H hw hz hso
      have hm2 := B_mid.sends (X := (B_beg S, fun _ => 0)) hm hmz i
      refine cc_iload_n (j := 0) dX4_tick_78 rfl rfl ?_
      refine cc_iconst (v := 4) dX4_tick_79 (by decide) ?_
      refine cc_icmp_ge (tgt := 97) dX4_tick_80 (by decide) (fun c_80 => ?_) (fun c_80 => ?_)
      · have hge : i = 4 := by have := cc_ngt 4 c_80 (by omega) (by decide); omega
        subst hge
        rw [← hX4] at hw hz ⊢
        refine cc_iconst (v := 0) dX4_tick_97 (by decide) ?_
        refine cc_istore_n (ls' := [(2, .int 0), (1, .int (nI X4.1)), (0, .ref o)]) dX4_tick_98 rfl (Nat.le_of_ble_eq_true rfl) rfl ?_
        exact loop_99 5 0 _ _ _ _ (by omega) (by omega) H (by rw [B_mapI_0, B_mapI_0]; exact hw) hz hso
      · have hlt : i < 4 := cc_nlt 4 c_80 (by omega)
        refine cc_iload_n (j := 1) dX4_tick_83 rfl rfl ?_
        refine cc_aload_n (j := 2) dX4_tick_84 rfl rfl ?_
        refine cc_iload_n (j := 0) dX4_tick_85 rfl rfl ?_
        refine cc_callVi (As := [.int (nI i)]) (rest := [.int (nI (B_sends i (B_beg S, fun _ => 0)).1)]) (ct_X4_send cy z _ _ _ _ _ _ _ _ _ _ _ _ _ _ hw (B_sends i (B_beg S, fun _ => 0)).2.2 hz hm2.2 (by rw [B_sends_top]; exact hmd) i (B_turn (B_sends i (B_beg S, fun _ => 0)).2.1 i) hlt (hm2.1.turn hlt).1 (hm2.1.turn hlt).2 (hm2.1 i hlt).1 H.self) ok_X4_send (H.2.1) rfl im_X4_send sl_X4_send ml_X4_113 nd_X4_send (by decide +kernel) (Nat.le_of_ble_eq_true rfl) rfl dX4_tick_86 (fun r17 G16 q18 => ?_)
        obtain ⟨hr, r2, hs2, so2, H19, hw2, hz2, hs2i, hs2k⟩ := q18
        subst hr
        have H19 := H.tr H19
        refine cc_iadd dX4_tick_89 ?_
        rw [show (nI (B_sends i (B_beg S, fun _ => 0)).1) + (if (B_send i (B_turn (B_sends i (B_beg S, fun _ => 0)).2.1 i) ((B_sends i (B_beg S, fun _ => 0)).2.1, (B_sends i (B_beg S, fun _ => 0)).2.2)).1.isSome then 1 else 0) = nI (B_sends (i + 1) (B_beg S, fun _ => 0)).1 from by
          rw [show (B_sends (i + 1) (B_beg S, fun _ => 0)).1 = (if (B_send i (B_turn (B_sends i (B_beg S, fun _ => 0)).2.1 i) (B_sends i (B_beg S, fun _ => 0)).2).1.isSome then (B_sends i (B_beg S, fun _ => 0)).1 + 1 else (B_sends i (B_beg S, fun _ => 0)).1) from rfl]
          by_cases q : (B_send i (B_turn (B_sends i (B_beg S, fun _ => 0)).2.1 i) (B_sends i (B_beg S, fun _ => 0)).2).1.isSome = true
          · rw [if_pos q, if_pos q]; exact nI_1 _
          · rw [if_neg q, if_neg q]; simp]
        refine cc_istore_n (ls' := [(1, .int (nI (B_sends (i + 1) (B_beg S, fun _ => 0)).1)), (2, .int (nI i)), (0, .ref o)]) dX4_tick_90 rfl (Nat.le_of_ble_eq_true rfl) rfl ?_
        refine cc_iinc (j := 1) (v := nI (i + 1)) (ls' := [(2, .int (nI (i + 1))), (1, .int (nI (B_sends (i + 1) (B_beg S, fun _ => 0)).1)), (0, .ref o)]) dX4_tick_91 rfl (nI_1 i) (Nat.le_of_ble_eq_true rfl) rfl ?_
        refine cc_goto (tgt := 78) dX4_tick_94 (by decide) ?_
        refine cc_loc (ls' := [(2, .int (nI (i + 1))), (1, .int (nI (B_sends (i + 1) (B_beg S, fun _ => 0)).1)), (0, .ref o)]) [0, 1, 2] rfl ?_
        exact ih (i + 1) _ _ _ _ (by omega) (by omega) H19 hw2 hz2 (fun j hj => by
          by_cases e : j = i
          · subst e
            exact hs2i
          · exact (hs2k j e).trans (hso j (by omega)))
  have loop_27 : ∀ (n i : Nat) (r1 hs1 so1 : Nat → Int32) (G1 : cc_G), 4 < i + n → i ≤ 4 → mo_R cy G G1 o r1 pa qa be nn ia tx le ay hs1 so1 → rw_I r1 (S.1, B_mapI i (fun _ L => L_mend L) (B_mapI 4 (fun _ L => L_come (S.1 0) L) S.2.1), S.2.2) → (∀ j, j < 4 → hs1 j = 0) → (i = 0 ∨ (0 < S.1 2 ∧ cc_rm (S.1 0) (S.1 2) = 0)) → cc_R cy Y_X4_tick z 27 [(1, .int (nI i)), (0, .ref o)] [] G1 (cc_qi (fun r9 G' => r9 = nI (B_tick S).1 ∧ ∃ r' hs' so', mo_R cy G G' o r' pa qa be nn ia tx le ay hs' so' ∧ rw_I r' (B_tick S).2 ∧ ∀ j, j < 4 → so' j = B_next S j)) := by
    intro n
    induction n with
    | zero => intro i r1 hs1 so1 G1 h1 h2; exact absurd h1 (by omega)
    | succ n ih =>
      intro i r1 hs1 so1 G1 hn hi H hw hz hC
      refine cc_iload_n (j := 0) dX4_tick_27 rfl rfl ?_
      refine cc_iconst (v := 4) dX4_tick_28 (by decide) ?_
      refine cc_icmp_ge (tgt := 74) dX4_tick_29 (by decide) (fun c_29 => ?_) (fun c_29 => ?_)
      · have hge : i = 4 := by have := cc_ngt 4 c_29 (by omega) (by decide); omega
        subst hge
        refine cc_iconst (v := 0) dX4_tick_74 (by decide) ?_
        refine cc_istore_n (ls' := [(1, .int 0), (0, .ref o)]) dX4_tick_75 rfl (Nat.le_of_ble_eq_true rfl) rfl ?_
        refine cc_iconst (v := 0) dX4_tick_76 (by decide) ?_
        refine cc_istore_n (ls' := [(2, .int 0), (1, .int 0), (0, .ref o)]) dX4_tick_77 rfl (Nat.le_of_ble_eq_true rfl) rfl ?_
        have hCC : 0 < S.1 2 ∧ cc_rm (S.1 0) (S.1 2) = 0 := hC.resolve_left (by decide)
        have hlan : ∀ j, j < 4 → B_mapI 4 (fun _ L => L_mend L) (B_mapI 4 (fun _ L => L_come (S.1 0) L) S.2.1) j = (B_beg S).2.1 j := fun j hj => by
          rw [B_mapI_in hj, B_mapI_in hj, show (B_beg S).2.1 j = B_begF S (S.2.1 j) from B_mapI_in (F := fun _ L => B_begF S L) (X := S.2.1) hj]
          unfold B_begF
          rw [if_pos hCC]
        exact loop_78 5 0 _ _ _ _ (by omega) (by omega) H (hw.to (fun _ _ => rfl) hlan (fun _ _ => rfl)) hz (fun j hj => absurd hj (by omega))
      · have hlt : i < 4 := cc_nlt 4 c_29 (by omega)
        refine cc_aload_n (j := 1) dX4_tick_32 rfl rfl ?_
        refine cc_get (v := .ref (o + 1)) H.2.1 cc_c4 0 (by decide) fl_X4_7 rfl dX4_tick_33 ?_
        refine cc_iconst (v := 2) dX4_tick_36 (by decide) ?_
        refine cc_iald (x := r1 2) H.2.2.1 (vp_in_nI (n := 2) (by decide) (by decide)) (by rw [show (2 : Int32).toNatClampNeg = 2 from rfl]) dX4_tick_37 ?_
        rw [show r1 2 = S.1 2 from hw.2.2.1]
        refine cc_if_le (tgt := 74) dX4_tick_38 (by decide) (fun c_38 => ?_) (fun c_38 => ?_)
        · refine cc_iconst (v := 0) dX4_tick_74 (by decide) ?_
          refine cc_istore_n (ls' := [(1, .int 0), (0, .ref o)]) dX4_tick_75 rfl (Nat.le_of_ble_eq_true rfl) rfl ?_
          refine cc_iconst (v := 0) dX4_tick_76 (by decide) ?_
          refine cc_istore_n (ls' := [(2, .int 0), (1, .int 0), (0, .ref o)]) dX4_tick_77 rfl (Nat.le_of_ble_eq_true rfl) rfl ?_
          have hCC : ¬ (0 < S.1 2 ∧ cc_rm (S.1 0) (S.1 2) = 0) := fun q => absurd q.1 (Int32.not_lt.mpr c_38)
          have hi0 : i = 0 := hC.resolve_right hCC
          subst hi0
          have hlan : ∀ j, j < 4 → B_mapI 0 (fun _ L => L_mend L) (B_mapI 4 (fun _ L => L_come (S.1 0) L) S.2.1) j = (B_beg S).2.1 j := fun j hj => by
            rw [B_mapI_0, B_mapI_in hj, show (B_beg S).2.1 j = B_begF S (S.2.1 j) from B_mapI_in (F := fun _ L => B_begF S L) (X := S.2.1) hj]
            unfold B_begF
            rw [if_neg hCC]
          exact loop_78 5 0 _ _ _ _ (by omega) (by omega) H (hw.to (fun _ _ => rfl) hlan (fun _ _ => rfl)) hz (fun j hj => absurd hj (by omega))
        · refine cc_aload_n (j := 1) dX4_tick_41 rfl rfl ?_
          refine cc_get (v := .ref (o + 1)) H.2.1 cc_c4 0 (by decide) fl_X4_7 rfl dX4_tick_42 ?_
          refine cc_iconst (v := 0) dX4_tick_45 (by decide) ?_
          refine cc_iald (x := r1 0) H.2.2.1 (vp_in_nI (n := 0) (by decide) (by decide)) (by rw [show (0 : Int32).toNatClampNeg = 0 from rfl]) dX4_tick_46 ?_
          rw [show r1 0 = S.1 0 from hw.1]
          refine cc_aload_n (j := 1) dX4_tick_47 rfl rfl ?_
          refine cc_get (v := .ref (o + 1)) H.2.1 cc_c4 0 (by decide) fl_X4_7 rfl dX4_tick_48 ?_
          refine cc_iconst (v := 2) dX4_tick_51 (by decide) ?_
          refine cc_iald (x := r1 2) H.2.2.1 (vp_in_nI (n := 2) (by decide) (by decide)) (by rw [show (2 : Int32).toNatClampNeg = 2 from rfl]) dX4_tick_52 ?_
          rw [show r1 2 = S.1 2 from hw.2.2.1]
          refine cc_irem dX4_tick_53 (fun q => c_38 (by rw [q]; decide)) ?_
          refine cc_if_ne (tgt := 74) dX4_tick_54 (by decide) (fun c_54 => ?_) (fun c_54 => ?_)
          · refine cc_iconst (v := 0) dX4_tick_74 (by decide) ?_
            refine cc_istore_n (ls' := [(1, .int 0), (0, .ref o)]) dX4_tick_75 rfl (Nat.le_of_ble_eq_true rfl) rfl ?_
            refine cc_iconst (v := 0) dX4_tick_76 (by decide) ?_
            refine cc_istore_n (ls' := [(2, .int 0), (1, .int 0), (0, .ref o)]) dX4_tick_77 rfl (Nat.le_of_ble_eq_true rfl) rfl ?_
            have hCC : ¬ (0 < S.1 2 ∧ cc_rm (S.1 0) (S.1 2) = 0) := fun q => c_54 q.2
            have hi0 : i = 0 := hC.resolve_right hCC
            subst hi0
            have hlan : ∀ j, j < 4 → B_mapI 0 (fun _ L => L_mend L) (B_mapI 4 (fun _ L => L_come (S.1 0) L) S.2.1) j = (B_beg S).2.1 j := fun j hj => by
              rw [B_mapI_0, B_mapI_in hj, show (B_beg S).2.1 j = B_begF S (S.2.1 j) from B_mapI_in (F := fun _ L => B_begF S L) (X := S.2.1) hj]
              unfold B_begF
              rw [if_neg hCC]
            exact loop_78 5 0 _ _ _ _ (by omega) (by omega) H (hw.to (fun _ _ => rfl) hlan (fun _ _ => rfl)) hz (fun j hj => absurd hj (by omega))
          · refine cc_aload_n (j := 1) dX4_tick_57 rfl rfl ?_
            refine cc_iload_n (j := 0) dX4_tick_58 rfl rfl ?_
            refine cc_iconst (v := 3) dX4_tick_59 (by decide) ?_
            refine cc_aload_n (j := 1) dX4_tick_60 rfl rfl ?_
            refine cc_iload_n (j := 0) dX4_tick_61 rfl rfl ?_
            refine cc_callVi (As := [.int (nI i)]) (rest := [.int 3, .int (nI i), .ref o]) (ct_X4_missing cy z _ _ _ _ _ _ _ _ _ _ _ _ _ i hlt H.self) ok_X4_missing (H.2.1) rfl im_X4_missing sl_X4_missing ml_X4_109 nd_X4_missing (by decide +kernel) (Nat.le_of_ble_eq_true rfl) rfl dX4_tick_62 (fun r21 G20 q22 => ?_)
            obtain ⟨rfl, rfl⟩ := q22
            have hl1 := rw_lane_at hw hlt
            rw [show r1 (4 + 30 * i + 0) - r1 (4 + 30 * i + 3) - r1 (4 + 30 * i + 9) - r1 (4 + 30 * i + 10) = L_mis ((B_mapI 4 (fun _ L => L_come (S.1 0) L) S.2.1) i) from by rw [hl1.1 0 (by decide), hl1.1 3 (by decide), hl1.2.1, hl1.2.2.1]; rfl]
            refine cc_callVv (As := [.int (nI i), .int 3, .int (L_mis ((B_mapI 4 (fun _ L => L_come (S.1 0) L) S.2.1) i))]) (rest := []) (ct_X4_more cy z _ _ _ _ _ _ _ _ _ _ _ _ _ i 3 (L_mis ((B_mapI 4 (fun _ L => L_come (S.1 0) L) S.2.1) i)) (by omega) H.self) ok_X4_more (H.2.1) rfl im_X4_more sl_X4_more ml_X4_66 nd_X4_more (by decide +kernel) (Nat.le_of_ble_eq_true rfl) rfl dX4_tick_65 (fun G23 q25 => ?_)
            have H26 := H.tr q25
            rw [show r1 (4 + 30 * i + 3) = ((B_mapI 4 (fun _ L => L_come (S.1 0) L) S.2.1) i).1 3 from hl1.1 3 (by decide)] at H26
            have hl2 : rl_I _ (4 + 30 * i) (L_mend ((B_mapI 4 (fun _ L => L_come (S.1 0) L) S.2.1) i)) := hl1.num (w := 3) (by decide) (((B_mapI 4 (fun _ L => L_come (S.1 0) L) S.2.1) i).1 3 + L_mis ((B_mapI 4 (fun _ L => L_come (S.1 0) L) S.2.1) i))
            have hk2 : ∀ q, (q < 4 + 30 * i ∨ 4 + 30 * i + 30 ≤ q) → upd r1 (4 + 30 * i + 3) (((B_mapI 4 (fun _ L => L_come (S.1 0) L) S.2.1) i).1 3 + L_mis ((B_mapI 4 (fun _ L => L_come (S.1 0) L) S.2.1) i)) q = r1 q := fun q hq => pk_un (by omega)
            have hw2 := rw_lane_up (F := (fun _ L => L_mend L)) hw hlt hl2 hk2
            generalize upd r1 (4 + 30 * i + 3) (((B_mapI 4 (fun _ L => L_come (S.1 0) L) S.2.1) i).1 3 + L_mis ((B_mapI 4 (fun _ L => L_come (S.1 0) L) S.2.1) i)) = r2 at H26 hw2
            refine cc_iinc (j := 0) (v := nI (i + 1)) (ls' := [(1, .int (nI (i + 1))), (0, .ref o)]) dX4_tick_68 rfl (nI_1 i) (Nat.le_of_ble_eq_true rfl) rfl ?_
            refine cc_goto (tgt := 27) dX4_tick_71 (by decide) ?_
            exact ih (i + 1) _ _ _ _ (by omega) (by omega) H26 hw2 hz (Or.inr ⟨Int32.not_le.mp c_38, c_54⟩)
  have loop_2 : ∀ (n i : Nat) (r1 hs1 so1 : Nat → Int32) (G1 : cc_G), 4 < i + n → i ≤ 4 → mo_R cy G G1 o r1 pa qa be nn ia tx le ay hs1 so1 → rw_I r1 (S.1, B_mapI i (fun _ L => L_come (S.1 0) L) S.2.1, S.2.2) → (∀ j, j < i → hs1 j = 0) → cc_R cy Y_X4_tick z 2 [(1, .int (nI i)), (0, .ref o)] [] G1 (cc_qi (fun r9 G' => r9 = nI (B_tick S).1 ∧ ∃ r' hs' so', mo_R cy G G' o r' pa qa be nn ia tx le ay hs' so' ∧ rw_I r' (B_tick S).2 ∧ ∀ j, j < 4 → so' j = B_next S j)) := by
    intro n
    induction n with
    | zero => intro i r1 hs1 so1 G1 h1 h2; exact absurd h1 (by omega)
    | succ n ih =>
      intro i r1 hs1 so1 G1 hn hi H hw hz
      refine cc_iload_n (j := 0) dX4_tick_2 rfl rfl ?_
      refine cc_iconst (v := 4) dX4_tick_3 (by decide) ?_
      refine cc_icmp_ge (tgt := 25) dX4_tick_4 (by decide) (fun c_4 => ?_) (fun c_4 => ?_)
      · have hge : i = 4 := by have := cc_ngt 4 c_4 (by omega) (by decide); omega
        subst hge
        refine cc_iconst (v := 0) dX4_tick_25 (by decide) ?_
        refine cc_istore_n (ls' := [(1, .int 0), (0, .ref o)]) dX4_tick_26 rfl (Nat.le_of_ble_eq_true rfl) rfl ?_
        exact loop_27 5 0 _ _ _ _ (by omega) (by omega) H (by rw [B_mapI_0]; exact hw) hz (Or.inl rfl)
      · have hlt : i < 4 := cc_nlt 4 c_4 (by omega)
        refine cc_aload_n (j := 1) dX4_tick_7 rfl rfl ?_
        refine cc_get (v := .ref (o + 6)) H.2.1 cc_c4 9 (by decide) fl_X4_26 rfl dX4_tick_8 ?_
        refine cc_iload_n (j := 0) dX4_tick_11 rfl rfl ?_
        refine cc_iconst (v := 0) dX4_tick_12 (by decide) ?_
        refine mo_rast_hs (j := i) H (vp_in_nI (n := i) (by omega) (by decide)) (nI_clamp (by omega)) rfl dX4_tick_13 (fun G27 H28 => ?_)
        refine cc_aload_n (j := 1) dX4_tick_14 rfl rfl ?_
        refine cc_iload_n (j := 0) dX4_tick_15 rfl rfl ?_
        refine cc_callVv (As := [.int (nI i)]) (rest := []) (ct_X4_come cy z _ _ _ _ _ _ _ _ _ _ _ _ _ (S.2.1 i).1 (S.2.1 i).2.1 (S.2.1 i).2.2 i hlt (S.1 0) hw.1 H28.self (rw_lane_at hw hlt)) ok_X4_come (H28.2.1) rfl im_X4_come sl_X4_come ml_X4_106 nd_X4_come (by decide +kernel) (Nat.le_of_ble_eq_true rfl) rfl dX4_tick_16 (fun G29 q31 => ?_)
        obtain ⟨r2, H32, hl2, hk2⟩ := q31
        have H32 := H28.tr H32
        have hw2 := rw_lane_up (F := (fun _ L => L_come (S.1 0) L)) hw hlt hl2 hk2
        refine cc_iinc (j := 0) (v := nI (i + 1)) (ls' := [(1, .int (nI (i + 1))), (0, .ref o)]) dX4_tick_19 rfl (nI_1 i) (Nat.le_of_ble_eq_true rfl) rfl ?_
        refine cc_goto (tgt := 2) dX4_tick_22 (by decide) ?_
        exact ih (i + 1) _ _ _ _ (by omega) (by omega) H32 hw2 (fun j hj => by
          by_cases e : j = i
          · subst e
            exact pk_us
          · exact (pk_un e).trans (hz j (by omega)))
  refine cc_enter ok_X4_tick (Nat.le_of_ble_eq_true rfl) (ls := [(0, .ref o)]) rfl ?_
  refine cc_iconst (v := 0) dX4_tick_0 (by decide) ?_
  refine cc_istore_n (ls' := [(1, .int 0), (0, .ref o)]) dX4_tick_1 rfl (Nat.le_of_ble_eq_true rfl) rfl ?_
  exact loop_2 5 0 _ _ _ _ (by omega) (by omega) H (by rw [B_mapI_0]; exact hw) (fun j hj => absurd hj (by omega))

set_option maxHeartbeats 4000000 in
set_option maxRecDepth 100000 in
theorem ct_X4_passAll (cy : Nat → ClassId) (z : Nat) (G : cc_G) (o : Nat) (r pa qa be : Nat → Int32) (nn ia : Int32) (tx : Nat → Int32) (le ay : Int32) (hs so : Nat → Int32) (S : St_) (hw : rw_I r S) (n : Nat) (hn : n < 2 ^ 20) (hm : ∀ k, k < n → B_mid (B_beg (B_pass k S).2) ∧ ((B_pass k S).2.1 1 = 0 ∨ (B_pass k S).2.1 1 = 1)) (H : mo_R cy G G o r pa qa be nn ia tx le ay hs so)  : cc_Cn cy Y_X4_passAll [.ref o, .int (nI n)] z G (cc_qi (fun r9 G' => r9 = nI (B_pass n S).1 ∧ ∃ r' hs' so', mo_R cy G G' o r' pa qa be nn ia tx le ay hs' so' ∧ rw_I r' (B_pass n S).2)) := by
  
  have loop_4 : ∀ (f i : Nat) (r1 hs1 so1 : Nat → Int32) (G1 : cc_G), n < i + f → i ≤ n → mo_R cy G G1 o r1 pa qa be nn ia tx le ay hs1 so1 → rw_I r1 (B_pass i S).2 → cc_R cy Y_X4_passAll z 4 [(3, .int (nI i)), (2, .int (nI (B_pass i S).1)), (0, .ref o), (1, .int (nI n))] [] G1 (cc_qi (fun r9 G' => r9 = nI (B_pass n S).1 ∧ ∃ r' hs' so', mo_R cy G G' o r' pa qa be nn ia tx le ay hs' so' ∧ rw_I r' (B_pass n S).2)) := by
    intro f
    induction f with
    | zero => intro i r1 hs1 so1 G1 h1 h2; exact absurd h1 (by omega)
    | succ f ih =>
      intro i r1 hs1 so1 G1 hf hi H hw
      refine cc_iload_n (j := 0) dX4_passAll_4 rfl rfl ?_
      refine cc_iload_n (j := 3) dX4_passAll_5 rfl rfl ?_
      refine cc_icmp_ge (tgt := 22) dX4_passAll_6 (by decide) (fun c_6 => ?_) (fun c_6 => ?_)
      · have hge : i = n := by have := cc_ngt n c_6 (by omega) (by omega); omega
        subst hge
        refine cc_iload_n (j := 1) dX4_passAll_22 rfl rfl ?_
        refine cc_iret rfl rfl dX4_passAll_23 ?_
        exact ⟨_, rfl, rfl, _, _, _, H, hw⟩
      · have hlt : i < n := cc_nlt n c_6 (by omega)
        refine cc_iload_n (j := 1) dX4_passAll_9 rfl rfl ?_
        refine cc_aload_n (j := 2) dX4_passAll_10 rfl rfl ?_
        refine cc_callVi (As := []) (rest := [.int (nI (B_pass i S).1)]) (ct_X4_tick cy z _ _ _ _ _ _ _ _ _ _ _ _ _ _ hw (hm i hlt).1 (hm i hlt).2 H.self) ok_X4_tick (H.2.1) rfl im_X4_tick sl_X4_tick ml_X4_119 nd_X4_tick (by decide +kernel) (Nat.le_of_ble_eq_true rfl) rfl dX4_passAll_11 (fun r2 G1 q3 => ?_)
        obtain ⟨hr, r2, hs2, so2, H4, hw2, hso2⟩ := q3
        subst hr
        have H4 := H.tr H4
        refine cc_iadd dX4_passAll_14 ?_
        rw [show (nI (B_pass i S).1) + (nI (B_tick (B_pass i S).2).1) = nI (B_pass (i + 1) S).1 from nI_add _ _]
        refine cc_istore_n (ls' := [(2, .int (nI (B_pass (i + 1) S).1)), (3, .int (nI i)), (0, .ref o), (1, .int (nI n))]) dX4_passAll_15 rfl (Nat.le_of_ble_eq_true rfl) rfl ?_
        refine cc_iinc (j := 1) (v := nI (i + 1)) (ls' := [(3, .int (nI (i + 1))), (2, .int (nI (B_pass (i + 1) S).1)), (0, .ref o), (1, .int (nI n))]) dX4_passAll_16 rfl (nI_1 i) (Nat.le_of_ble_eq_true rfl) rfl ?_
        refine cc_goto (tgt := 4) dX4_passAll_19 (by decide) ?_
        refine cc_loc (ls' := [(3, .int (nI (i + 1))), (2, .int (nI (B_pass (i + 1) S).1)), (0, .ref o), (1, .int (nI n))]) [0, 1, 2, 3] rfl ?_
        exact ih (i + 1) _ _ _ _ (by omega) (by omega) H4 hw2
  refine cc_enter ok_X4_passAll (Nat.le_of_ble_eq_true rfl) (ls := [(0, .ref o), (1, .int (nI n))]) rfl ?_
  refine cc_iconst (v := 0) dX4_passAll_0 (by decide) ?_
  refine cc_istore_n (ls' := [(2, .int 0), (0, .ref o), (1, .int (nI n))]) dX4_passAll_1 rfl (Nat.le_of_ble_eq_true rfl) rfl ?_
  refine cc_iconst (v := 0) dX4_passAll_2 (by decide) ?_
  refine cc_istore_n (ls' := [(3, .int 0), (2, .int 0), (0, .ref o), (1, .int (nI n))]) dX4_passAll_3 rfl (Nat.le_of_ble_eq_true rfl) rfl ?_
  exact loop_4 (n + 1) 0 _ _ _ _ (by omega) (by omega) H hw

theorem B_ok.midm {T M : Nat} {S : St_} (h : B_ok T M S) (hM : M < 2 ^ 20) {n : Nat} (hn : T + n < 2 ^ 20) : ∀ k, k < n → B_mid (B_beg (B_pass k S).2) ∧ ((B_pass k S).2.1 1 = 0 ∨ (B_pass k S).2.1 1 = 1) := fun k hk => ⟨h.mids hM hn k hk, (h.pass k (by omega)).2.1⟩
