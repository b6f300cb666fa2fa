theorem bx_E.self {cy : Nat → ClassId} {G0 G : cc_G} {b : Nat} {S : St_} (h : bx_E cy G0 G b S) : bx_E cy G G b S := by
  obtain ⟨hs, h⟩ := h
  exact ⟨hs, h.self⟩
theorem bx_E.tr {cy : Nat → ClassId} {G0 G1 G2 : cc_G} {b : Nat} {S S' : St_} (h : bx_E cy G0 G1 b S) (h2 : bx_E cy G1 G2 b S') : bx_E cy G0 G2 b S' := by
  obtain ⟨_, h⟩ := h
  obtain ⟨hs, h2⟩ := h2
  exact ⟨hs, h.tr h2⟩
theorem bx_E.obj {cy : Nat → ClassId} {G0 G : cc_G} {b : Nat} {S : St_} (h : bx_E cy G0 G b S) : G b = some (.inr (0, bx_fs b S.1)) := by
  obtain ⟨_, h⟩ := h
  exact h.2.1
theorem bx_E.fr {cy : Nat → ClassId} {G0 G : cc_G} {b : Nat} {S : St_} (h : bx_E cy G0 G b S) : ∀ q : Nat, (q < b ∨ b + 31 ≤ q) → G q = G0 q := by
  obtain ⟨_, h⟩ := h
  exact h.1
theorem bx_E.keep {cy : Nat → ClassId} {G0 G G1 : cc_G} {b : Nat} {S : St_} (h : bx_E cy G0 G b S) (hk : ∀ q, b ≤ q → q < b + 31 → G1 q = G q) : bx_E cy G1 G1 b S := by
  obtain ⟨hs, h⟩ := h
  exact ⟨hs, h.keep hk⟩
theorem Q_fig_eq {n1 n2 n3 : Nat → Int32} {q : Qu_} (hA : qu_A n1 n2 n3 q.2.2) (h8 : q.2.2.length ≤ 8) (x1 : Int32) : (if x1 = 0 then nI q.2.2.length else if x1 = 1 then q.1 else if x1 = 2 then q.2.1 else if x1 = 3 then (if 0 < nI q.2.2.length then n2 0 else (-5)) else (-2)) = Q_fig x1 q := by
  unfold Q_fig
  by_cases h : q.2.2.length = 0
  · rw [if_neg (show ¬ 0 < nI q.2.2.length by rw [h]; decide), if_pos h]
  · rw [if_pos ((cc_p0 (by omega)).mpr (by omega)), if_neg h, (qu_at hA (by omega)).2.1]
theorem B_stb_01 (S : St_) (o : Nat) : B_stb S o = 0 ∨ B_stb S o = 1 := by
  unfold B_stb
  split
  · exact Or.inr rfl
  · exact Or.inl rfl
theorem B_stn_le (S : St_) : ∀ i, B_stn S i ≤ i := by
  intro i
  induction i with
  | zero => exact Nat.le_refl 0
  | succ i ih =>
    have e : B_stn S (i + 1) = B_stn S i + B_stb S i := rfl
    have h := B_stb_01 S i
    omega

set_option maxHeartbeats 4000000 in
set_option maxRecDepth 100000 in
theorem ct_X0_admit (cy : Nat → ClassId) (z : Nat) (G : cc_G) (b : Nat) (S : St_) (i : Nat) (hi : i < 4) (x2 : Int32) (hlt : (S.2.2 i).2.2.length < 8) (hE : bx_E cy G G b S) : cc_Cn cy Y_X0_admit [.ref b, .int (nI i), .int x2] z G (cc_qi (fun r G' => r = S.1 3 ∧ bx_E cy G G' b (B_adm i x2 S))) := by
  obtain ⟨hs, hB⟩ := hE
  refine cc_enter ok_X0_admit (Nat.le_of_ble_eq_true rfl) (ls := [(0, .ref b), (1, .int (nI i)), (2, .int x2)]) rfl ?_
  refine cc_aload_n (j := 0) dX0_admit_0 rfl rfl ?_
  refine cc_get (v := .int (S.1 3)) hB.2.1 cc_c0 3 (by decide) fl_X0_21 rfl dX0_admit_1 ?_
  refine cc_istore_n (ls' := [(3, .int (S.1 3)), (0, .ref b), (1, .int (nI i)), (2, .int x2)]) dX0_admit_4 rfl (Nat.le_of_ble_eq_true rfl) rfl ?_
  refine cc_aload_n (j := 1) dX0_admit_5 rfl rfl ?_
  refine cc_get (v := .ref (b + 2)) hB.2.1 cc_c0 5 (by decide) fl_X0_32 rfl dX0_admit_6 ?_
  refine cc_iload_n (j := 2) dX0_admit_9 rfl rfl ?_
  refine cc_aald5 (x := b + 6 + 7 * i) hB.2.2.2.1 (vp_in_nI (n := i) (by omega) (by decide)) (by rw [(nI_clamp (by omega))]; rfl) dX0_admit_10 ?_
  refine cc_iload_n (j := 0) dX0_admit_11 rfl rfl ?_
  refine cc_iload_n (j := 3) dX0_admit_12 rfl rfl ?_
  refine cc_aload_n (j := 1) dX0_admit_13 rfl rfl ?_
  refine cc_get (v := .int (S.1 0)) hB.2.1 cc_c0 0 (by decide) fl_X0_9 rfl dX0_admit_14 ?_
  obtain ⟨_, _, _, hLr, -⟩ := hB.2.2.2.2.2 i hi
  refine cc_callNv (As := [.int (S.1 3), .int x2, .int (S.1 0)]) (rest := []) (ct_X2_append cy z _ _ (S.2.2 i).1 (S.2.2 i).2.1 _ (S.2.2 i).2.2 _ _ _ hlt (hB.2.2.2.2.2 i hi)) ok_X2_append (hLr.2.1) rfl im_X2_append sl_X2_append mn_X0_52 nd_X2_append (by decide +kernel) (Nat.le_of_ble_eq_true rfl) rfl dX0_admit_17 (fun G1 q3 => ?_)
  have hB4 := hB.queue hi q3
  refine cc_aload_n (j := 1) dX0_admit_20 rfl rfl ?_
  refine cc_dup dX0_admit_21 rfl ?_
  refine cc_get (v := .int (S.1 3)) hB4.2.1 cc_c0 3 (by decide) fl_X0_21 rfl dX0_admit_22 ?_
  refine cc_iconst (v := 1) dX0_admit_25 (by decide) ?_
  refine cc_iadd dX0_admit_26 ?_
  refine bx_rput (g' := upd S.1 3 ((S.1 3) + 1)) hB4 cc_c0 3 (by decide) fl_X0_21 rfl rfl rfl dX0_admit_27 (fun G6 hB5 => ?_)
  refine cc_iload_n (j := 0) dX0_admit_30 rfl rfl ?_
  refine cc_iret rfl rfl dX0_admit_31 ?_
  exact ⟨_, rfl, rfl, _, hB5⟩

set_option maxHeartbeats 4000000 in
set_option maxRecDepth 100000 in
theorem ct_X0_passTicks (cy : Nat → ClassId) (z : Nat) (G : cc_G) (b : Nat) (S : St_) (n : Nat) (hn : n < 2 ^ 20) (hm : ∀ k, k < n → B_mid (B_beg (B_pass k S).2)) (hE : bx_E cy G G b S) : cc_Cn cy Y_X0_passTicks [.ref b, .int (nI n)] z G (cc_qi (fun r G' => r = nI (B_pass n S).1 ∧ bx_E cy G G' b (B_pass n S).2)) := by
  
  have loop_4 : ∀ (f i : Nat) (G1 : cc_G), n < i + f → i ≤ n → bx_E cy G G1 b (B_pass i S).2 → cc_R cy Y_X0_passTicks z 4 [(3, .int (nI i)), (2, .int (nI (B_pass i S).1)), (0, .ref b), (1, .int (nI n))] [] G1 (cc_qi (fun r G' => r = nI (B_pass n S).1 ∧ bx_E cy G G' b (B_pass n S).2)) := by
    intro f
    induction f with
    | zero => intro i G1 h1 h2; exact absurd h1 (by omega)
    | succ f ih =>
      intro i G1 hn2 hi hE
      refine cc_iload_n (j := 0) dX0_passTicks_4 rfl rfl ?_
      refine cc_iload_n (j := 3) dX0_passTicks_5 rfl rfl ?_
      refine cc_icmp_ge (tgt := 22) dX0_passTicks_6 (by decide) (fun c_6 => ?_) (fun c_6 => ?_)
      · have hge : i = n := by have := cc_ngt n c_6 (by omega) (by omega); omega
        subst hge
        refine cc_iload_n (j := 1) dX0_passTicks_22 rfl rfl ?_
        refine cc_iret rfl rfl dX0_passTicks_23 ?_
        exact ⟨_, rfl, rfl, hE⟩
      · have hlt : i < n := cc_nlt n c_6 (by omega)
        refine cc_iload_n (j := 1) dX0_passTicks_9 rfl rfl ?_
        refine cc_aload_n (j := 2) dX0_passTicks_10 rfl rfl ?_
        refine cc_callVi (As := []) (rest := [.int (nI (B_pass i S).1)]) (ct_X0_passTick cy z _ b _ (hm i hlt) hE.self) ok_X0_passTick (hE.obj) rfl im_X0_passTick sl_X0_passTick ml_X0_56 nd_X0_passTick (by decide +kernel) (Nat.le_of_ble_eq_true rfl) rfl dX0_passTicks_11 (fun r2 G1 q3 => ?_)
        obtain ⟨hr, hE4⟩ := q3
        subst hr
        have hE4 := hE.tr hE4
        refine cc_iadd dX0_passTicks_14 ?_
        rw [show (nI (B_pass i S).1) + (nI (B_tick (B_pass i S).2).1) = nI (B_pass (i + 1) S).1 from nI_add _ _]
        refine cc_istore_n (ls' := [(2, .int (nI (B_pass (i + 1) S).1)), (3, .int (nI i)), (0, .ref b), (1, .int (nI n))]) dX0_passTicks_15 rfl (Nat.le_of_ble_eq_true rfl) rfl ?_
        refine cc_iinc (j := 1) (v := nI (i + 1)) (ls' := [(3, .int (nI (i + 1))), (2, .int (nI (B_pass (i + 1) S).1)), (0, .ref b), (1, .int (nI n))]) dX0_passTicks_16 rfl (nI_1 i) (Nat.le_of_ble_eq_true rfl) rfl ?_
        refine cc_goto (tgt := 4) dX0_passTicks_19 (by decide) ?_
        exact ih (i + 1) _ (by omega) (by omega) hE4
  refine cc_enter ok_X0_passTicks (Nat.le_of_ble_eq_true rfl) (ls := [(0, .ref b), (1, .int (nI n))]) rfl ?_
  refine cc_iconst (v := 0) dX0_passTicks_0 (by decide) ?_
  refine cc_istore_n (ls' := [(2, .int 0), (0, .ref b), (1, .int (nI n))]) dX0_passTicks_1 rfl (Nat.le_of_ble_eq_true rfl) rfl ?_
  refine cc_iconst (v := 0) dX0_passTicks_2 (by decide) ?_
  refine cc_istore_n (ls' := [(3, .int 0), (2, .int 0), (0, .ref b), (1, .int (nI n))]) dX0_passTicks_3 rfl (Nat.le_of_ble_eq_true rfl) rfl ?_
  exact loop_4 (n + 1) 0 _ (by omega) (by omega) hE

set_option maxHeartbeats 4000000 in
set_option maxRecDepth 100000 in
theorem ct_X0_waitingFor (cy : Nat → ClassId) (z : Nat) (G : cc_G) (b : Nat) (S : St_) (x1 : Int32) (hE : bx_E cy G G b S) : cc_Cn cy Y_X0_waitingFor [.ref b, .int x1] z G (cc_qi (fun r G' => r = nI (B_wt x1 S 4) ∧ G' = G)) := by
  obtain ⟨hs, hB⟩ := hE
  have loop_4 : ∀ (n i : Nat), 4 < i + n → i ≤ 4 → cc_R cy Y_X0_waitingFor z 4 [(3, .int (nI i)), (2, .int (nI (B_wt x1 S i))), (0, .ref b), (1, .int x1)] [] G (cc_qi (fun r G' => r = nI (B_wt x1 S 4) ∧ G' = G)) := by
    intro n
    induction n with
    | zero => intro i h1 h2; exact absurd h1 (by omega)
    | succ n ih =>
      intro i hn hi
      refine cc_iload_n (j := 0) dX0_waitingFor_4 rfl rfl ?_
      refine cc_iconst (v := 4) dX0_waitingFor_5 (by decide) ?_
      refine cc_icmp_ge (tgt := 28) dX0_waitingFor_6 (by decide) (fun c_6 => ?_) (fun c_6 => ?_)
      · have hge : i = 4 := by have := cc_ngt 4 c_6 (by omega) (by decide); omega
        subst hge
        refine cc_iload_n (j := 1) dX0_waitingFor_28 rfl rfl ?_
        refine cc_iret rfl rfl dX0_waitingFor_29 ?_
        exact ⟨_, rfl, rfl, rfl⟩
      · have hlt : i < 4 := cc_nlt 4 c_6 (by omega)
        refine cc_iload_n (j := 1) dX0_waitingFor_9 rfl rfl ?_
        refine cc_aload_n (j := 2) dX0_waitingFor_10 rfl rfl ?_
        refine cc_get (v := .ref (b + 2)) hB.2.1 cc_c0 5 (by decide) fl_X0_32 rfl dX0_waitingFor_11 ?_
        refine cc_iload_n (j := 0) dX0_waitingFor_14 rfl rfl ?_
        refine cc_aald5 (x := b + 6 + 7 * i) hB.2.2.2.1 (vp_in_nI (n := i) (by omega) (by decide)) (by rw [(nI_clamp (by omega))]; rfl) dX0_waitingFor_15 ?_
        refine cc_iload_n (j := 3) dX0_waitingFor_16 rfl rfl ?_
        obtain ⟨_, _, _, hLr, hAr, h8r⟩ := hB.2.2.2.2.2 i hlt
        refine cc_callNi (As := [.int x1]) (rest := [.int (nI (B_wt x1 S i))]) (ct_X2_waitingFor cy z _ _ (S.2.2 i).1 (S.2.2 i).2.1 _ (S.2.2 i).2.2 x1 (hB.2.2.2.2.2 i hlt)) ok_X2_waitingFor (hLr.2.1) rfl im_X2_waitingFor sl_X2_waitingFor mn_X0_100 nd_X2_waitingFor (by decide +kernel) (Nat.le_of_ble_eq_true rfl) rfl dX0_waitingFor_17 (fun r2 G1 q3 => ?_)
        obtain ⟨rfl, rfl⟩ := q3
        refine cc_iadd dX0_waitingFor_20 ?_
        rw [show (nI (B_wt x1 S i)) + (nI (Q_cn x1 (S.2.2 i).2.2 (S.2.2 i).2.2.length)) = nI (B_wt x1 S (i + 1)) from nI_add _ _]
        refine cc_istore_n (ls' := [(2, .int (nI (B_wt x1 S (i + 1)))), (3, .int (nI i)), (0, .ref b), (1, .int x1)]) dX0_waitingFor_21 rfl (Nat.le_of_ble_eq_true rfl) rfl ?_
        refine cc_iinc (j := 1) (v := nI (i + 1)) (ls' := [(3, .int (nI (i + 1))), (2, .int (nI (B_wt x1 S (i + 1)))), (0, .ref b), (1, .int x1)]) dX0_waitingFor_22 rfl (nI_1 i) (Nat.le_of_ble_eq_true rfl) rfl ?_
        refine cc_goto (tgt := 4) dX0_waitingFor_25 (by decide) ?_
        exact ih (i + 1) (by omega) (by omega)
  refine cc_enter ok_X0_waitingFor (Nat.le_of_ble_eq_true rfl) (ls := [(0, .ref b), (1, .int x1)]) rfl ?_
  refine cc_iconst (v := 0) dX0_waitingFor_0 (by decide) ?_
  refine cc_istore_n (ls' := [(2, .int 0), (0, .ref b), (1, .int x1)]) dX0_waitingFor_1 rfl (Nat.le_of_ble_eq_true rfl) rfl ?_
  refine cc_iconst (v := 0) dX0_waitingFor_2 (by decide) ?_
  refine cc_istore_n (ls' := [(3, .int 0), (2, .int 0), (0, .ref b), (1, .int x1)]) dX0_waitingFor_3 rfl (Nat.le_of_ble_eq_true rfl) rfl ?_
  exact loop_4 5 0 (by omega) (by omega)

set_option maxHeartbeats 4000000 in
set_option maxRecDepth 100000 in
theorem ct_X0_sumOfLanes (cy : Nat → ClassId) (z : Nat) (G : cc_G) (b : Nat) (S : St_) (x1 : Int32) (hE : bx_E cy G G b S) : cc_Cn cy Y_X0_sumOfLanes [.ref b, .int x1] z G (cc_qi (fun r G' => r = B_sl x1 S 4 ∧ G' = G)) := by
  obtain ⟨hs, hB⟩ := hE
  have loop_4 : ∀ (n i : Nat), 4 < i + n → i ≤ 4 → cc_R cy Y_X0_sumOfLanes z 4 [(3, .int (nI i)), (2, .int (B_sl x1 S i)), (0, .ref b), (1, .int x1)] [] G (cc_qi (fun r G' => r = B_sl x1 S 4 ∧ G' = G)) := by
    intro n
    induction n with
    | zero => intro i h1 h2; exact absurd h1 (by omega)
    | succ n ih =>
      intro i hn hi
      refine cc_iload_n (j := 0) dX0_sumOfLanes_4 rfl rfl ?_
      refine cc_iconst (v := 4) dX0_sumOfLanes_5 (by decide) ?_
      refine cc_icmp_ge (tgt := 28) dX0_sumOfLanes_6 (by decide) (fun c_6 => ?_) (fun c_6 => ?_)
      · have hge : i = 4 := by have := cc_ngt 4 c_6 (by omega) (by decide); omega
        subst hge
        refine cc_iload_n (j := 1) dX0_sumOfLanes_28 rfl rfl ?_
        refine cc_iret rfl rfl dX0_sumOfLanes_29 ?_
        exact ⟨_, rfl, rfl, rfl⟩
      · have hlt : i < 4 := cc_nlt 4 c_6 (by omega)
        refine cc_iload_n (j := 1) dX0_sumOfLanes_9 rfl rfl ?_
        refine cc_aload_n (j := 2) dX0_sumOfLanes_10 rfl rfl ?_
        refine cc_get (v := .ref (b + 1)) hB.2.1 cc_c0 4 (by decide) fl_X0_26 rfl dX0_sumOfLanes_11 ?_
        refine cc_iload_n (j := 0) dX0_sumOfLanes_14 rfl rfl ?_
        refine cc_aald4 (x := b + 3 + 7 * i) hB.2.2.1 (vp_in_nI (n := i) (by omega) (by decide)) (by rw [(nI_clamp (by omega))]; rfl) dX0_sumOfLanes_15 ?_
        refine cc_iload_n (j := 3) dX0_sumOfLanes_16 rfl rfl ?_
        obtain ⟨_, _, hLr, -⟩ := hB.2.2.2.2.1 i hlt
        refine cc_callNi (As := [.int x1]) (rest := [.int (B_sl x1 S i)]) (ct_X1_figure cy z _ _ _ _ _ _ _ x1 hLr) ok_X1_figure (hLr.2.1) rfl im_X1_figure sl_X1_figure mn_X0_120 nd_X1_figure (by decide +kernel) (Nat.le_of_ble_eq_true rfl) rfl dX0_sumOfLanes_17 (fun r2 G1 q3 => ?_)
        obtain ⟨hr, rfl⟩ := q3
        have hr : r2 = L_fig x1 (S.2.1 i) := hr
        subst hr
        refine cc_iadd dX0_sumOfLanes_20 ?_
        rw [show (B_sl x1 S i) + (L_fig x1 (S.2.1 i)) = B_sl x1 S (i + 1) from rfl]
        refine cc_istore_n (ls' := [(2, .int (B_sl x1 S (i + 1))), (3, .int (nI i)), (0, .ref b), (1, .int x1)]) dX0_sumOfLanes_21 rfl (Nat.le_of_ble_eq_true rfl) rfl ?_
        refine cc_iinc (j := 1) (v := nI (i + 1)) (ls' := [(3, .int (nI (i + 1))), (2, .int (B_sl x1 S (i + 1))), (0, .ref b), (1, .int x1)]) dX0_sumOfLanes_22 rfl (nI_1 i) (Nat.le_of_ble_eq_true rfl) rfl ?_
        refine cc_goto (tgt := 4) dX0_sumOfLanes_25 (by decide) ?_
        exact ih (i + 1) (by omega) (by omega)
  refine cc_enter ok_X0_sumOfLanes (Nat.le_of_ble_eq_true rfl) (ls := [(0, .ref b), (1, .int x1)]) rfl ?_
  refine cc_iconst (v := 0) dX0_sumOfLanes_0 (by decide) ?_
  refine cc_istore_n (ls' := [(2, .int 0), (0, .ref b), (1, .int x1)]) dX0_sumOfLanes_1 rfl (Nat.le_of_ble_eq_true rfl) rfl ?_
  refine cc_iconst (v := 0) dX0_sumOfLanes_2 (by decide) ?_
  refine cc_istore_n (ls' := [(3, .int 0), (2, .int 0), (0, .ref b), (1, .int x1)]) dX0_sumOfLanes_3 rfl (Nat.le_of_ble_eq_true rfl) rfl ?_
  exact loop_4 5 0 (by omega) (by omega)

set_option maxHeartbeats 4000000 in
set_option maxRecDepth 100000 in
theorem ct_X0_sumOfQueues (cy : Nat → ClassId) (z : Nat) (G : cc_G) (b : Nat) (S : St_) (x1 : Int32) (hE : bx_E cy G G b S) : cc_Cn cy Y_X0_sumOfQueues [.ref b, .int x1] z G (cc_qi (fun r G' => r = B_sq x1 S 4 ∧ G' = G)) := by
  obtain ⟨hs, hB⟩ := hE
  have loop_4 : ∀ (n i : Nat), 4 < i + n → i ≤ 4 → cc_R cy Y_X0_sumOfQueues z 4 [(3, .int (nI i)), (2, .int (B_sq x1 S i)), (0, .ref b), (1, .int x1)] [] G (cc_qi (fun r G' => r = B_sq x1 S 4 ∧ G' = G)) := by
    intro n
    induction n with
    | zero => intro i h1 h2; exact absurd h1 (by omega)
    | succ n ih =>
      intro i hn hi
      refine cc_iload_n (j := 0) dX0_sumOfQueues_4 rfl rfl ?_
      refine cc_iconst (v := 4) dX0_sumOfQueues_5 (by decide) ?_
      refine cc_icmp_ge (tgt := 28) dX0_sumOfQueues_6 (by decide) (fun c_6 => ?_) (fun c_6 => ?_)
      · have hge : i = 4 := by have := cc_ngt 4 c_6 (by omega) (by decide); omega
        subst hge
        refine cc_iload_n (j := 1) dX0_sumOfQueues_28 rfl rfl ?_
        refine cc_iret rfl rfl dX0_sumOfQueues_29 ?_
        exact ⟨_, rfl, rfl, rfl⟩
      · have hlt : i < 4 := cc_nlt 4 c_6 (by omega)
        refine cc_iload_n (j := 1) dX0_sumOfQueues_9 rfl rfl ?_
        refine cc_aload_n (j := 2) dX0_sumOfQueues_10 rfl rfl ?_
        refine cc_get (v := .ref (b + 2)) hB.2.1 cc_c0 5 (by decide) fl_X0_32 rfl dX0_sumOfQueues_11 ?_
        refine cc_iload_n (j := 0) dX0_sumOfQueues_14 rfl rfl ?_
        refine cc_aald5 (x := b + 6 + 7 * i) hB.2.2.2.1 (vp_in_nI (n := i) (by omega) (by decide)) (by rw [(nI_clamp (by omega))]; rfl) dX0_sumOfQueues_15 ?_
        refine cc_iload_n (j := 3) dX0_sumOfQueues_16 rfl rfl ?_
        obtain ⟨_, _, _, hLr, hAr, h8r⟩ := hB.2.2.2.2.2 i hlt
        refine cc_callNi (As := [.int x1]) (rest := [.int (B_sq x1 S i)]) (ct_X2_figure cy z _ _ _ _ _ _ _ _ _ x1 hLr) ok_X2_figure (hLr.2.1) rfl im_X2_figure sl_X2_figure mn_X0_123 nd_X2_figure (by decide +kernel) (Nat.le_of_ble_eq_true rfl) rfl dX0_sumOfQueues_17 (fun r2 G1 q3 => ?_)
        obtain ⟨hr, rfl⟩ := q3
        have hr : r2 = Q_fig x1 (S.2.2 i) := hr.trans (Q_fig_eq hAr h8r x1)
        subst hr
        refine cc_iadd dX0_sumOfQueues_20 ?_
        rw [show (B_sq x1 S i) + (Q_fig x1 (S.2.2 i)) = B_sq x1 S (i + 1) from rfl]
        refine cc_istore_n (ls' := [(2, .int (B_sq x1 S (i + 1))), (3, .int (nI i)), (0, .ref b), (1, .int x1)]) dX0_sumOfQueues_21 rfl (Nat.le_of_ble_eq_true rfl) rfl ?_
        refine cc_iinc (j := 1) (v := nI (i + 1)) (ls' := [(3, .int (nI (i + 1))), (2, .int (B_sq x1 S (i + 1))), (0, .ref b), (1, .int x1)]) dX0_sumOfQueues_22 rfl (nI_1 i) (Nat.le_of_ble_eq_true rfl) rfl ?_
        refine cc_goto (tgt := 4) dX0_sumOfQueues_25 (by decide) ?_
        exact ih (i + 1) (by omega) (by omega)
  refine cc_enter ok_X0_sumOfQueues (Nat.le_of_ble_eq_true rfl) (ls := [(0, .ref b), (1, .int x1)]) rfl ?_
  refine cc_iconst (v := 0) dX0_sumOfQueues_0 (by decide) ?_
  refine cc_istore_n (ls' := [(2, .int 0), (0, .ref b), (1, .int x1)]) dX0_sumOfQueues_1 rfl (Nat.le_of_ble_eq_true rfl) rfl ?_
  refine cc_iconst (v := 0) dX0_sumOfQueues_2 (by decide) ?_
  refine cc_istore_n (ls' := [(3, .int 0), (2, .int 0), (0, .ref b), (1, .int x1)]) dX0_sumOfQueues_3 rfl (Nat.le_of_ble_eq_true rfl) rfl ?_
  exact loop_4 5 0 (by omega) (by omega)

set_option maxHeartbeats 4000000 in
set_option maxRecDepth 100000 in
theorem ct_X0_isStuck (cy : Nat → ClassId) (z : Nat) (G : cc_G) (b : Nat) (S : St_) (o : Nat) (ho : o < 4) (hE : bx_E cy G G b S) : cc_Cn cy Y_X0_isStuck [.ref b, .int (nI o)] z G (cc_qi (fun r G' => r = nI (B_stb S o) ∧ G' = G)) := by
  obtain ⟨hs, hB⟩ := hE
  refine cc_enter ok_X0_isStuck (Nat.le_of_ble_eq_true rfl) (ls := [(0, .ref b), (1, .int (nI o))]) rfl ?_
  refine cc_aload_n (j := 0) dX0_isStuck_0 rfl rfl ?_
  refine cc_get (v := .int (S.1 2)) hB.2.1 cc_c0 2 (by decide) fl_X0_18 rfl dX0_isStuck_1 ?_
  refine cc_if_ne (tgt := 31) dX0_isStuck_4 (by decide) (fun c_4 => ?_) (fun c_4 => ?_)
  · refine cc_iconst (v := 0) dX0_isStuck_31 (by decide) ?_
    refine cc_iret rfl rfl dX0_isStuck_32 ?_
    refine ⟨_, rfl, ?_, rfl⟩
    rw [show B_stb S o = 0 from if_neg (fun h => c_4 h.1)]
    rfl
  · refine cc_aload_n (j := 0) dX0_isStuck_7 rfl rfl ?_
    refine cc_get (v := .ref (b + 1)) hB.2.1 cc_c0 4 (by decide) fl_X0_26 rfl dX0_isStuck_8 ?_
    refine cc_iload_n (j := 1) dX0_isStuck_11 rfl rfl ?_
    refine cc_aald4 (x := b + 3 + 7 * o) hB.2.2.1 (vp_in_nI (n := o) (by omega) (by decide)) (by rw [(nI_clamp (by omega))]; rfl) dX0_isStuck_12 ?_
    obtain ⟨_, _, hLr, -⟩ := hB.2.2.2.2.1 o ho
    refine cc_callNi (As := []) (rest := []) (ct_X1_isDry cy z _ _ _ _ _ _ _ hLr) ok_X1_isDry (hLr.2.1) rfl im_X1_isDry sl_X1_isDry mn_X0_103 nd_X1_isDry (by decide +kernel) (Nat.le_of_ble_eq_true rfl) rfl dX0_isStuck_13 (fun r2 G1 q3 => ?_)
    obtain ⟨rfl, rfl⟩ := q3
    refine cc_if_eq (tgt := 31) dX0_isStuck_16 (by decide) (fun c_16 => ?_) (fun c_16 => ?_)
    · refine cc_iconst (v := 0) dX0_isStuck_31 (by decide) ?_
      refine cc_iret rfl rfl dX0_isStuck_32 ?_
      refine ⟨_, rfl, ?_, rfl⟩
      rw [show B_stb S o = 0 from if_neg (fun h => by rw [if_pos h.2.1] at c_16; exact absurd c_16 (by decide))]
      rfl
    · refine cc_aload_n (j := 0) dX0_isStuck_19 rfl rfl ?_
      refine cc_iload_n (j := 1) dX0_isStuck_20 rfl rfl ?_
      refine cc_callVi (As := [.int (nI o)]) (rest := []) (ct_X0_waitingFor cy z _ b S (nI o) ⟨_, hB⟩) ok_X0_waitingFor (hB.2.1) rfl im_X0_waitingFor sl_X0_waitingFor ml_X0_107 nd_X0_waitingFor (by decide +kernel) (Nat.le_of_ble_eq_true rfl) rfl dX0_isStuck_21 (fun r5 G4 q6 => ?_)
      obtain ⟨rfl, rfl⟩ := q6
      refine cc_if_le (tgt := 31) dX0_isStuck_24 (by decide) (fun c_24 => ?_) (fun c_24 => ?_)
      · refine cc_iconst (v := 0) dX0_isStuck_31 (by decide) ?_
        refine cc_iret rfl rfl dX0_isStuck_32 ?_
        refine ⟨_, rfl, ?_, rfl⟩
        rw [show B_stb S o = 0 from if_neg (fun h => absurd h.2.2 (Int32.not_lt.mpr c_24))]
        rfl
      · refine cc_iconst (v := 1) dX0_isStuck_27 (by decide) ?_
        refine cc_goto (tgt := 32) dX0_isStuck_28 (by decide) ?_
        refine cc_iret rfl rfl dX0_isStuck_32 ?_
        refine ⟨_, rfl, ?_, rfl⟩
        rw [show B_stb S o = 1 from if_pos ⟨c_4, by by_cases h : (S.2.1 o).1 3 ≤ 0 ∧ nI (S.2.1 o).2.1.length = 0 ∧ nI (S.2.1 o).2.2.length = 0; exact h; rw [if_neg h] at c_16; exact absurd rfl c_16, Int32.not_le.mp c_24⟩]
        rfl

set_option maxHeartbeats 4000000 in
set_option maxRecDepth 100000 in
theorem ct_X0_stuckLanes (cy : Nat → ClassId) (z : Nat) (G : cc_G) (b : Nat) (S : St_)  (hE : bx_E cy G G b S) : cc_Cn cy Y_X0_stuckLanes [.ref b] z G (cc_qi (fun r G' => r = nI (B_stn S 4) ∧ G' = G)) := by
  obtain ⟨hs, hB⟩ := hE
  have loop_4 : ∀ (n i : Nat), 4 < i + n → i ≤ 4 → cc_R cy Y_X0_stuckLanes z 4 [(2, .int (nI i)), (1, .int (nI (B_stn S i))), (0, .ref b)] [] G (cc_qi (fun r G' => r = nI (B_stn S 4) ∧ G' = G)) := by
    intro n
    induction n with
    | zero => intro i h1 h2; exact absurd h1 (by omega)
    | succ n ih =>
      intro i hn hi
      refine cc_iload_n (j := 0) dX0_stuckLanes_4 rfl rfl ?_
      refine cc_iconst (v := 4) dX0_stuckLanes_5 (by decide) ?_
      refine cc_icmp_ge (tgt := 26) dX0_stuckLanes_6 (by decide) (fun c_6 => ?_) (fun c_6 => ?_)
      · have hge : i = 4 := by have := cc_ngt 4 c_6 (by omega) (by decide); omega
        subst hge
        refine cc_iload_n (j := 1) dX0_stuckLanes_26 rfl rfl ?_
        refine cc_iret rfl rfl dX0_stuckLanes_27 ?_
        exact ⟨_, rfl, rfl, rfl⟩
      · have hlt : i < 4 := cc_nlt 4 c_6 (by omega)
        refine cc_aload_n (j := 2) dX0_stuckLanes_9 rfl rfl ?_
        refine cc_iload_n (j := 0) dX0_stuckLanes_10 rfl rfl ?_
        refine cc_callVi (As := [.int (nI i)]) (rest := []) (ct_X0_isStuck cy z _ b S i hlt ⟨_, hB⟩) ok_X0_isStuck (hB.2.1) rfl im_X0_isStuck sl_X0_isStuck ml_X0_108 nd_X0_isStuck (by decide +kernel) (Nat.le_of_ble_eq_true rfl) rfl dX0_stuckLanes_11 (fun r2 G1 q3 => ?_)
        obtain ⟨rfl, rfl⟩ := q3
        rcases B_stb_01 S i with hsb | hsb
        · rw [show nI (B_stb S i) = 0 by rw [hsb]; rfl]
          refine cc_if_eq (tgt := 20) dX0_stuckLanes_14 (by decide) (fun c_14 => ?_) (fun c_14 => ?_)
          · rw [show nI (B_stn S i) = nI (B_stn S (i + 1)) from by show _ = nI (B_stn S i + B_stb S i); rw [hsb]; rfl]
            refine cc_iinc (j := 0) (v := nI (i + 1)) (ls' := [(2, .int (nI (i + 1))), (1, .int (nI (B_stn S (i + 1)))), (0, .ref b)]) dX0_stuckLanes_20 rfl (nI_1 i) (Nat.le_of_ble_eq_true rfl) rfl ?_
            refine cc_goto (tgt := 4) dX0_stuckLanes_23 (by decide) ?_
            exact ih (i + 1) (by omega) (by omega)
          · exact absurd c_14 (by decide)
        · rw [show nI (B_stb S i) = 1 by rw [hsb]; rfl]
          refine cc_if_eq (tgt := 20) dX0_stuckLanes_14 (by decide) (fun c_14_1 => ?_) (fun c_14_1 => ?_)
          · exact absurd c_14_1 (by decide)
          · refine cc_iinc (j := 1) (v := nI (B_stn S (i + 1))) (ls' := [(1, .int (nI (B_stn S (i + 1)))), (2, .int (nI i)), (0, .ref b)]) dX0_stuckLanes_17 rfl (by rw [show B_stn S (i + 1) = B_stn S i + 1 from by show B_stn S i + B_stb S i = _; rw [hsb]]; exact nI_1 _) (Nat.le_of_ble_eq_true rfl) rfl ?_
            refine cc_iinc (j := 1) (v := nI (i + 1)) (ls' := [(2, .int (nI (i + 1))), (1, .int (nI (B_stn S (i + 1)))), (0, .ref b)]) dX0_stuckLanes_20 rfl (nI_1 i) (Nat.le_of_ble_eq_true rfl) rfl ?_
            refine cc_goto (tgt := 4) dX0_stuckLanes_23 (by decide) ?_
            exact ih (i + 1) (by omega) (by omega)
  refine cc_enter ok_X0_stuckLanes (Nat.le_of_ble_eq_true rfl) (ls := [(0, .ref b)]) rfl ?_
  refine cc_iconst (v := 0) dX0_stuckLanes_0 (by decide) ?_
  refine cc_istore_n (ls' := [(1, .int 0), (0, .ref b)]) dX0_stuckLanes_1 rfl (Nat.le_of_ble_eq_true rfl) rfl ?_
  refine cc_iconst (v := 0) dX0_stuckLanes_2 (by decide) ?_
  refine cc_istore_n (ls' := [(2, .int 0), (1, .int 0), (0, .ref b)]) dX0_stuckLanes_3 rfl (Nat.le_of_ble_eq_true rfl) rfl ?_
  exact loop_4 5 0 (by omega) (by omega)

set_option maxHeartbeats 4000000 in
set_option maxRecDepth 100000 in
theorem ct_X0_figure (cy : Nat → ClassId) (z : Nat) (G : cc_G) (b : Nat) (S : St_) (x1 : Int32) (hE : bx_E cy G G b S) : cc_Cn cy Y_X0_figure [.ref b, .int x1] z G (cc_qi (fun r G' => r = B_fig x1 S ∧ G' = G)) := by
  obtain ⟨hs, hB⟩ := hE
  refine cc_enter ok_X0_figure (Nat.le_of_ble_eq_true rfl) (ls := [(0, .ref b), (1, .int x1)]) rfl ?_
  refine cc_iload_n (j := 1) dX0_figure_0 rfl rfl ?_
  rcases cc_sw10 x1 with rfl | rfl | rfl | rfl | rfl | rfl | rfl | rfl | rfl | rfl | rfl | c_1
  · refine cc_tableIn (off := 59) (tgt := 60) dX0_figure_1 (by decide) (by decide) rfl (by decide) ?_
    refine cc_aload_n (j := 0) dX0_figure_60 rfl rfl ?_
    refine cc_get (v := .int (S.1 0)) hB.2.1 cc_c0 0 (by decide) fl_X0_9 rfl dX0_figure_61 ?_
    refine cc_iret rfl rfl dX0_figure_64 ?_
    exact ⟨_, rfl, by simp [B_fig], rfl⟩
  · refine cc_tableIn (off := 64) (tgt := 65) dX0_figure_1 (by decide) (by decide) rfl (by decide) ?_
    refine cc_aload_n (j := 0) dX0_figure_65 rfl rfl ?_
    refine cc_get (v := .int (S.1 3)) hB.2.1 cc_c0 3 (by decide) fl_X0_21 rfl dX0_figure_66 ?_
    refine cc_iret rfl rfl dX0_figure_69 ?_
    exact ⟨_, rfl, by simp [B_fig], rfl⟩
  · refine cc_tableIn (off := 69) (tgt := 70) dX0_figure_1 (by decide) (by decide) rfl (by decide) ?_
    refine cc_aload_n (j := 0) dX0_figure_70 rfl rfl ?_
    refine cc_iconst (v := 0) dX0_figure_71 (by decide) ?_
    refine cc_callVi (As := [.int 0]) (rest := []) (ct_X0_sumOfQueues cy z _ b S 0 ⟨_, hB⟩) ok_X0_sumOfQueues (hB.2.1) rfl im_X0_sumOfQueues sl_X0_sumOfQueues ml_X0_111 nd_X0_sumOfQueues (by decide +kernel) (Nat.le_of_ble_eq_true rfl) rfl dX0_figure_72 (fun r2 G1 q3 => ?_)
    obtain ⟨rfl, rfl⟩ := q3
    refine cc_iret rfl rfl dX0_figure_75 ?_
    exact ⟨_, rfl, by simp [B_fig], rfl⟩
  · refine cc_tableIn (off := 75) (tgt := 76) dX0_figure_1 (by decide) (by decide) rfl (by decide) ?_
    refine cc_aload_n (j := 0) dX0_figure_76 rfl rfl ?_
    refine cc_bipush (v := 8) dX0_figure_77 (by decide) ?_
    refine cc_callVi (As := [.int 8]) (rest := []) (ct_X0_sumOfLanes cy z _ b S 8 ⟨_, hB⟩) ok_X0_sumOfLanes (hB.2.1) rfl im_X0_sumOfLanes sl_X0_sumOfLanes ml_X0_114 nd_X0_sumOfLanes (by decide +kernel) (Nat.le_of_ble_eq_true rfl) rfl dX0_figure_79 (fun r5 G4 q6 => ?_)
    obtain ⟨rfl, rfl⟩ := q6
    refine cc_iret rfl rfl dX0_figure_82 ?_
    exact ⟨_, rfl, by simp [B_fig], rfl⟩
  · refine cc_tableIn (off := 82) (tgt := 83) dX0_figure_1 (by decide) (by decide) rfl (by decide) ?_
    refine cc_aload_n (j := 0) dX0_figure_83 rfl rfl ?_
    refine cc_bipush (v := 9) dX0_figure_84 (by decide) ?_
    refine cc_callVi (As := [.int 9]) (rest := []) (ct_X0_sumOfLanes cy z _ b S 9 ⟨_, hB⟩) ok_X0_sumOfLanes (hB.2.1) rfl im_X0_sumOfLanes sl_X0_sumOfLanes ml_X0_114 nd_X0_sumOfLanes (by decide +kernel) (Nat.le_of_ble_eq_true rfl) rfl dX0_figure_86 (fun r8 G7 q9 => ?_)
    obtain ⟨rfl, rfl⟩ := q9
    refine cc_iret rfl rfl dX0_figure_89 ?_
    exact ⟨_, rfl, by simp [B_fig], rfl⟩
  · refine cc_tableIn (off := 89) (tgt := 90) dX0_figure_1 (by decide) (by decide) rfl (by decide) ?_
    refine cc_aload_n (j := 0) dX0_figure_90 rfl rfl ?_
    refine cc_bipush (v := 10) dX0_figure_91 (by decide) ?_
    refine cc_callVi (As := [.int 10]) (rest := []) (ct_X0_sumOfLanes cy z _ b S 10 ⟨_, hB⟩) ok_X0_sumOfLanes (hB.2.1) rfl im_X0_sumOfLanes sl_X0_sumOfLanes ml_X0_114 nd_X0_sumOfLanes (by decide +kernel) (Nat.le_of_ble_eq_true rfl) rfl dX0_figure_93 (fun r11 G10 q12 => ?_)
    obtain ⟨rfl, rfl⟩ := q12
    refine cc_iret rfl rfl dX0_figure_96 ?_
    exact ⟨_, rfl, by simp [B_fig], rfl⟩
  · refine cc_tableIn (off := 96) (tgt := 97) dX0_figure_1 (by decide) (by decide) rfl (by decide) ?_
    refine cc_aload_n (j := 0) dX0_figure_97 rfl rfl ?_
    refine cc_iconst (v := 4) dX0_figure_98 (by decide) ?_
    refine cc_callVi (As := [.int 4]) (rest := []) (ct_X0_sumOfLanes cy z _ b S 4 ⟨_, hB⟩) ok_X0_sumOfLanes (hB.2.1) rfl im_X0_sumOfLanes sl_X0_sumOfLanes ml_X0_114 nd_X0_sumOfLanes (by decide +kernel) (Nat.le_of_ble_eq_true rfl) rfl dX0_figure_99 (fun r14 G13 q15 => ?_)
    obtain ⟨rfl, rfl⟩ := q15
    refine cc_iret rfl rfl dX0_figure_102 ?_
    exact ⟨_, rfl, by simp [B_fig], rfl⟩
  · refine cc_tableIn (off := 102) (tgt := 103) dX0_figure_1 (by decide) (by decide) rfl (by decide) ?_
    refine cc_aload_n (j := 0) dX0_figure_103 rfl rfl ?_
    refine cc_iconst (v := 1) dX0_figure_104 (by decide) ?_
    refine cc_callVi (As := [.int 1]) (rest := []) (ct_X0_sumOfQueues cy z _ b S 1 ⟨_, hB⟩) ok_X0_sumOfQueues (hB.2.1) rfl im_X0_sumOfQueues sl_X0_sumOfQueues ml_X0_111 nd_X0_sumOfQueues (by decide +kernel) (Nat.le_of_ble_eq_true rfl) rfl dX0_figure_105 (fun r17 G16 q18 => ?_)
    obtain ⟨rfl, rfl⟩ := q18
    refine cc_iret rfl rfl dX0_figure_108 ?_
    exact ⟨_, rfl, by simp [B_fig], rfl⟩
  · refine cc_tableIn (off := 108) (tgt := 109) dX0_figure_1 (by decide) (by decide) rfl (by decide) ?_
    refine cc_aload_n (j := 0) dX0_figure_109 rfl rfl ?_
    refine cc_get (v := .int (S.1 1)) hB.2.1 cc_c0 1 (by decide) fl_X0_15 rfl dX0_figure_110 ?_
    refine cc_iret rfl rfl dX0_figure_113 ?_
    exact ⟨_, rfl, by simp [B_fig], rfl⟩
  · refine cc_tableIn (off := 113) (tgt := 114) dX0_figure_1 (by decide) (by decide) rfl (by decide) ?_
    refine cc_aload_n (j := 0) dX0_figure_114 rfl rfl ?_
    refine cc_get (v := .int (S.1 2)) hB.2.1 cc_c0 2 (by decide) fl_X0_18 rfl dX0_figure_115 ?_
    refine cc_iret rfl rfl dX0_figure_118 ?_
    exact ⟨_, rfl, by simp [B_fig], rfl⟩
  · refine cc_tableIn (off := 118) (tgt := 119) dX0_figure_1 (by decide) (by decide) rfl (by decide) ?_
    refine cc_aload_n (j := 0) dX0_figure_119 rfl rfl ?_
    refine cc_callVi (As := []) (rest := []) (ct_X0_stuckLanes cy z _ b S  ⟨_, hB⟩) ok_X0_stuckLanes (hB.2.1) rfl im_X0_stuckLanes sl_X0_stuckLanes ml_X0_117 nd_X0_stuckLanes (by decide +kernel) (Nat.le_of_ble_eq_true rfl) rfl dX0_figure_120 (fun r20 G19 q21 => ?_)
    obtain ⟨rfl, rfl⟩ := q21
    refine cc_iret rfl rfl dX0_figure_123 ?_
    exact ⟨_, rfl, by simp [B_fig], rfl⟩
  · refine cc_tableOut (tgt := 124) dX0_figure_1 c_1 (by decide) ?_
    refine cc_bipush (v := (-2)) dX0_figure_124 (by decide) ?_
    refine cc_iret rfl rfl dX0_figure_126 ?_
    exact ⟨_, rfl, by unfold B_fig; rw [if_neg (fun q => by subst q; exact absurd c_1 (by decide)), if_neg (fun q => by subst q; exact absurd c_1 (by decide)), if_neg (fun q => by subst q; exact absurd c_1 (by decide)), if_neg (fun q => by subst q; exact absurd c_1 (by decide)), if_neg (fun q => by subst q; exact absurd c_1 (by decide)), if_neg (fun q => by subst q; exact absurd c_1 (by decide)), if_neg (fun q => by subst q; exact absurd c_1 (by decide)), if_neg (fun q => by subst q; exact absurd c_1 (by decide)), if_neg (fun q => by subst q; exact absurd c_1 (by decide)), if_neg (fun q => by subst q; exact absurd c_1 (by decide)), if_neg (fun q => by subst q; exact absurd c_1 (by decide))], rfl⟩

set_option maxHeartbeats 4000000 in
set_option maxRecDepth 100000 in
theorem ct_X0_copyFrom (cy : Nat → ClassId) (z : Nat) (G : cc_G) (b : Nat) (S : St_) (o : Nat) (S2 : St_) (hbo : b + 31 ≤ o ∨ o + 31 ≤ b) (hE2 : bx_E cy G G o S2) (hE : bx_E cy G G b S) : cc_Cn cy Y_X0_copyFrom [.ref b, .ref o] z G (cc_qv (fun G' => bx_E cy G G' b S2)) := by
  obtain ⟨hs, hB⟩ := hE
  obtain ⟨hs2, hO⟩ := hE2
  have loop_34 : ∀ (n i : Nat) (G1 : cc_G), 4 < i + n → i ≤ 4 → bx_I cy G G1 b hs ((upd (upd (upd (upd S.1 0 (S2.1 0)) 1 (S2.1 1)) 2 (S2.1 2)) 3 (S2.1 3)), B_mapI i (fun j _ => S2.2.1 j) S.2.1, B_mapI i (fun j _ => S2.2.2 j) S.2.2) → cc_R cy Y_X0_copyFrom z 34 [(2, .int (nI i)), (0, .ref b), (1, .ref o)] [] G1 (cc_qv (fun G' => bx_E cy G G' b S2)) := by
    intro n
    induction n with
    | zero => intro i G1 h1 h2; exact absurd h1 (by omega)
    | succ n ih =>
      intro i G1 hn hi hB
      refine cc_iload_n (j := 0) dX0_copyFrom_34 rfl rfl ?_
      refine cc_iconst (v := 4) dX0_copyFrom_35 (by decide) ?_
      refine cc_icmp_ge (tgt := 75) dX0_copyFrom_36 (by decide) (fun c_36 => ?_) (fun c_36 => ?_)
      · have hge : i = 4 := by have := cc_ngt 4 c_36 (by omega) (by decide); omega
        subst hge
        refine cc_vret rfl dX0_copyFrom_75 ?_
        refine ⟨rfl, hs, hB.to (fun k hk => ?_) (fun j hj => B_mapI_in (F := (fun j _ => S2.2.1 j)) (X := S.2.1) hj) (fun j hj => B_mapI_in (F := (fun j _ => S2.2.2 j)) (X := S.2.2) hj) (fun _ _ => rfl)⟩
        match k, hk with
        | 0, _ => rfl
        | 1, _ => rfl
        | 2, _ => rfl
        | 3, _ => rfl
      · have hlt : i < 4 := cc_nlt 4 c_36 (by omega)
        refine cc_aload_n (j := 1) dX0_copyFrom_39 rfl rfl ?_
        refine cc_get (v := .ref (b + 1)) hB.2.1 cc_c0 4 (by decide) fl_X0_26 rfl dX0_copyFrom_40 ?_
        refine cc_iload_n (j := 0) dX0_copyFrom_43 rfl rfl ?_
        refine cc_aald4 (x := b + 3 + 7 * i) hB.2.2.1 (vp_in_nI (n := i) (by omega) (by decide)) (by rw [(nI_clamp (by omega))]; rfl) dX0_copyFrom_44 ?_
        refine cc_aload_n (j := 2) dX0_copyFrom_45 rfl rfl ?_
        refine cc_get (v := .ref (o + 1)) (((hB).1 o (by omega)).trans hO.2.1) cc_c0 4 (by decide) fl_X0_26 rfl dX0_copyFrom_46 ?_
        refine cc_iload_n (j := 0) dX0_copyFrom_49 rfl rfl ?_
        refine cc_aald4 (x := o + 3 + 7 * i) (((hB).1 _ (by omega)).trans hO.2.2.1) (vp_in_nI (n := i) (by omega) (by decide)) (by rw [(nI_clamp (by omega))]; rfl) dX0_copyFrom_50 ?_
        obtain ⟨_, _, hLr, -⟩ := bx_lane_at hB hlt
        refine cc_callNv (As := [.ref (o + 3 + 7 * i)]) (rest := []) (ct_X1_copyFrom cy z _ _ (S.2.1 i).1 (S.2.1 i).2.1 (S.2.1 i).2.2 _ (S2.2.1 i) (by omega) ((hO.2.2.2.2.1 i hlt).keep (fun q h1 h2 => hB.1 q (by omega))) (bx_lane_at hB hlt)) ok_X1_copyFrom (hLr.2.1) rfl im_X1_copyFrom sl_X1_copyFrom mn_X0_38 nd_X1_copyFrom (by decide +kernel) (Nat.le_of_ble_eq_true rfl) rfl dX0_copyFrom_51 (fun G1 q3 => ?_)
        have hB4 := bx_lane_up (F := (fun j _ => S2.2.1 j)) hB hlt q3
        refine cc_aload_n (j := 1) dX0_copyFrom_54 rfl rfl ?_
        refine cc_get (v := .ref (b + 2)) hB4.2.1 cc_c0 5 (by decide) fl_X0_32 rfl dX0_copyFrom_55 ?_
        refine cc_iload_n (j := 0) dX0_copyFrom_58 rfl rfl ?_
        refine cc_aald5 (x := b + 6 + 7 * i) hB4.2.2.2.1 (vp_in_nI (n := i) (by omega) (by decide)) (by rw [(nI_clamp (by omega))]; rfl) dX0_copyFrom_59 ?_
        refine cc_aload_n (j := 2) dX0_copyFrom_60 rfl rfl ?_
        refine cc_get (v := .ref (o + 2)) (((hB4).1 o (by omega)).trans hO.2.1) cc_c0 5 (by decide) fl_X0_32 rfl dX0_copyFrom_61 ?_
        refine cc_iload_n (j := 0) dX0_copyFrom_64 rfl rfl ?_
        refine cc_aald5 (x := o + 6 + 7 * i) (((hB4).1 _ (by omega)).trans hO.2.2.2.1) (vp_in_nI (n := i) (by omega) (by decide)) (by rw [(nI_clamp (by omega))]; rfl) dX0_copyFrom_65 ?_
        obtain ⟨_, _, _, hLr2, -⟩ := bx_queue_at hB4 hlt
        refine cc_callNv (As := [.ref (o + 6 + 7 * i)]) (rest := []) (ct_X2_copyFrom cy z _ _ (S.2.2 i).1 (S.2.2 i).2.1 _ (S.2.2 i).2.2 _ (hs2 i) (S2.2.2 i) (by omega) ((hO.2.2.2.2.2 i hlt).keep (fun q h1 h2 => hB4.1 q (by omega))) (bx_queue_at hB4 hlt)) ok_X2_copyFrom (hLr2.2.1) rfl im_X2_copyFrom sl_X2_copyFrom mn_X0_42 nd_X2_copyFrom (by decide +kernel) (Nat.le_of_ble_eq_true rfl) rfl dX0_copyFrom_66 (fun G5 q7 => ?_)
        have hB8 := bx_queue_up (F := (fun j _ => S2.2.2 j)) hB4 hlt q7
        refine cc_iinc (j := 0) (v := nI (i + 1)) (ls' := [(2, .int (nI (i + 1))), (0, .ref b), (1, .ref o)]) dX0_copyFrom_69 rfl (nI_1 i) (Nat.le_of_ble_eq_true rfl) rfl ?_
        refine cc_goto (tgt := 34) dX0_copyFrom_72 (by decide) ?_
        exact ih (i + 1) _ (by omega) (by omega) hB8
  refine cc_enter ok_X0_copyFrom (Nat.le_of_ble_eq_true rfl) (ls := [(0, .ref b), (1, .ref o)]) rfl ?_
  refine cc_aload_n (j := 0) dX0_copyFrom_0 rfl rfl ?_
  refine cc_aload_n (j := 1) dX0_copyFrom_1 rfl rfl ?_
  refine cc_get (v := .int (S2.1 0)) (((hB).1 o (by omega)).trans hO.2.1) cc_c0 0 (by decide) fl_X0_9 rfl dX0_copyFrom_2 ?_
  refine bx_rput (g' := upd S.1 0 (S2.1 0)) hB cc_c0 0 (by decide) fl_X0_9 rfl rfl rfl dX0_copyFrom_5 (fun G10 hB9 => ?_)
  refine cc_aload_n (j := 0) dX0_copyFrom_8 rfl rfl ?_
  refine cc_aload_n (j := 1) dX0_copyFrom_9 rfl rfl ?_
  refine cc_get (v := .int (S2.1 1)) (((hB9).1 o (by omega)).trans hO.2.1) cc_c0 1 (by decide) fl_X0_15 rfl dX0_copyFrom_10 ?_
  refine bx_rput (g' := upd (upd S.1 0 (S2.1 0)) 1 (S2.1 1)) hB9 cc_c0 1 (by decide) fl_X0_15 rfl rfl rfl dX0_copyFrom_13 (fun G12 hB11 => ?_)
  refine cc_aload_n (j := 0) dX0_copyFrom_16 rfl rfl ?_
  refine cc_aload_n (j := 1) dX0_copyFrom_17 rfl rfl ?_
  refine cc_get (v := .int (S2.1 2)) (((hB11).1 o (by omega)).trans hO.2.1) cc_c0 2 (by decide) fl_X0_18 rfl dX0_copyFrom_18 ?_
  refine bx_rput (g' := upd (upd (upd S.1 0 (S2.1 0)) 1 (S2.1 1)) 2 (S2.1 2)) hB11 cc_c0 2 (by decide) fl_X0_18 rfl rfl rfl dX0_copyFrom_21 (fun G14 hB13 => ?_)
  refine cc_aload_n (j := 0) dX0_copyFrom_24 rfl rfl ?_
  refine cc_aload_n (j := 1) dX0_copyFrom_25 rfl rfl ?_
  refine cc_get (v := .int (S2.1 3)) (((hB13).1 o (by omega)).trans hO.2.1) cc_c0 3 (by decide) fl_X0_21 rfl dX0_copyFrom_26 ?_
  refine bx_rput (g' := upd (upd (upd (upd S.1 0 (S2.1 0)) 1 (S2.1 1)) 2 (S2.1 2)) 3 (S2.1 3)) hB13 cc_c0 3 (by decide) fl_X0_21 rfl rfl rfl dX0_copyFrom_29 (fun G16 hB15 => ?_)
  refine cc_iconst (v := 0) dX0_copyFrom_32 (by decide) ?_
  refine cc_istore_n (ls' := [(2, .int 0), (0, .ref b), (1, .ref o)]) dX0_copyFrom_33 rfl (Nat.le_of_ble_eq_true rfl) rfl ?_
  exact loop_34 5 0 _ (by omega) (by omega) (by rw [B_mapI_0, B_mapI_0]; exact hB15)
