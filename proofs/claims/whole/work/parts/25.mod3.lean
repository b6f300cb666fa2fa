theorem pk_ue {f : Nat → Int32} {j k : Nat} {x : Int32} (h : j = k) : upd f k x j = x := by
  subst h
  exact pk_us
theorem Q_rch_spec (m : Int32) (l : List Pk_) : (Q_rch m l).length ≤ l.length ∧ ∀ j, j < (Q_rch m l).length → (Q_rch m l).getD j (0, 0, 0) = l.getD j (0, 0, 0) := by
  unfold Q_rch
  split
  · cases l with
    | nil => exact ⟨Nat.le_refl _, fun j hj => rfl⟩
    | cons p r => exact ⟨by simp, fun j hj => by simp at hj; subst hj; simp⟩
  · exact ⟨Nat.le_refl _, fun j hj => rfl⟩
theorem rq_at {r : Nat → Int32} {b : Nat} {q : Qu_} (h : rq_I r b q) {k : Nat} (hk : k < q.2.2.length) : r (b + (3 + 3 * k)) = (q.2.2.getD k (0, 0, 0)).1 ∧ r (b + (3 + 3 * k + 1)) = (q.2.2.getD k (0, 0, 0)).2.1 ∧ r (b + (3 + 3 * k + 2)) = (q.2.2.getD k (0, 0, 0)).2.2 := qu_at h.2.2.2.1 hk

set_option maxHeartbeats 4000000 in
set_option maxRecDepth 100000 in
theorem ct_X4_offer (cy : Nat → ClassId) (z : Nat) (G : cc_G) (o : Nat) (r pa qa be : Nat → Int32) (nn ia : Int32) (tx : Nat → Int32) (le ay : Int32) (hs so : Nat → Int32) (i : Nat) (hi : i < 4) (o2 m : Int32) (hm : m = 0 ∨ m = 1) (h1 : r 1 = m) (bl se : Int32) (l : List Pk_) (H : mo_R cy G G o r pa qa be nn ia tx le ay hs so) (hq : rq_I r (124 + 27 * i) (bl, se, l)) (h0 : hs i = 0) : cc_Cn cy Y_X4_offer [.ref o, .int (nI i), .int o2] z G (cc_qi (fun r9 G' => r9 = (match Q_off o2 m l with | some k => nI k | none => (-5)) ∧ G' = G)) := by
  have h8 : l.length ≤ 8 := hq.2.2.2.2
  have hsz : r (124 + 27 * i + 0) = nI l.length := hq.1
  have hrl := Q_rch_spec m l
  have loop_50 : ∀ (f k : Nat), (Q_rch m l).length < k + f → k ≤ (Q_rch m l).length → (∀ j, j < k → ((Q_rch m l).getD j (0, 0, 0)).2.1 ≠ o2) → cc_R cy Y_X4_offer z 50 [(4, .int (nI k)), (3, .int (nI (Q_rch m l).length)), (0, .ref o), (1, .int (nI i)), (2, .int o2)] [] G (cc_qi (fun r9 G' => r9 = (match Q_off o2 m l with | some k => nI k | none => (-5)) ∧ G' = G)) := by
    intro f
    induction f with
    | zero => intro k h1 h2; exact absurd h1 (by omega)
    | succ f ih =>
      intro k hf hk h0
      have hl0 := hrl.1
      refine cc_iload (j := 0) dX4_offer_50 rfl ?_
      refine cc_iload_n (j := 1) dX4_offer_52 rfl rfl ?_
      refine cc_icmp_ge (tgt := 82) dX4_offer_53 (by decide) (fun c_53 => ?_) (fun c_53 => ?_)
      · have hge : k = (Q_rch m l).length := by have := cc_ngt _ c_53 (by omega) (by omega); omega
        refine cc_bipush (v := (-5)) dX4_offer_82 (by decide) ?_
        refine cc_iret rfl rfl dX4_offer_84 ?_
        refine ⟨_, rfl, ?_, rfl⟩
        have hh : Q_pos o2 (Q_rch m l) = (Q_rch m l).length := Q_pos_no (fun j hj => h0 j (by omega))
        rw [show Q_off o2 m l = none by unfold Q_off; rw [hh, if_neg (Nat.lt_irrefl _)]]
      · have hlt : k < (Q_rch m l).length := cc_nlt _ c_53 (by omega)
        refine cc_aload_n (j := 2) dX4_offer_56 rfl rfl ?_
        refine cc_iload_n (j := 3) dX4_offer_57 rfl rfl ?_
        refine cc_iconst (v := 3) dX4_offer_58 (by decide) ?_
        refine cc_iconst (v := 3) dX4_offer_59 (by decide) ?_
        refine cc_iload (j := 0) dX4_offer_60 rfl ?_
        refine cc_imul dX4_offer_62 ?_
        rw [show 3 * (nI k) = nI (3 * k) from pk_mul 3 k]
        refine cc_iadd dX4_offer_63 ?_
        rw [show 3 + (nI (3 * k)) = nI (3 + 3 * k) from nI_add 3 (3 * k)]
        refine cc_iconst (v := 1) dX4_offer_64 (by decide) ?_
        refine cc_iadd dX4_offer_65 ?_
        rw [show (nI (3 + 3 * k)) + 1 = nI (3 + 3 * k + 1) from nI_add (3 + 3 * k) 1]
        refine cc_callVi (As := [.int (nI i), .int (nI (3 + 3 * k + 1))]) (rest := []) (ct_X4_by cy z _ _ _ _ _ _ _ _ _ _ _ _ _ i (3 + 3 * k + 1) (by omega) H.self) ok_X4_by (H.2.1) rfl im_X4_by sl_X4_by ml_X4_69 nd_X4_by (by decide +kernel) (Nat.le_of_ble_eq_true rfl) rfl dX4_offer_66 (fun r2 G1 q3 => ?_)
        obtain ⟨rfl, rfl⟩ := q3
        rw [show r (124 + 27 * i + (3 + 3 * k + 1)) = (l.getD k (0, 0, 0)).2.1 from (rq_at hq (k := k) (show k < l.length by omega)).2.1]
        refine cc_iload_n (j := 4) dX4_offer_69 rfl rfl ?_
        refine cc_icmp_ne (tgt := 76) dX4_offer_70 (by decide) (fun c_70 => ?_) (fun c_70 => ?_)
        · refine cc_iinc (j := 0) (v := nI (k + 1)) (ls' := [(4, .int (nI (k + 1))), (3, .int (nI (Q_rch m l).length)), (0, .ref o), (1, .int (nI i)), (2, .int o2)]) dX4_offer_76 rfl (nI_1 k) (Nat.le_of_ble_eq_true rfl) rfl ?_
          refine cc_goto (tgt := 50) dX4_offer_79 (by decide) ?_
          exact ih (k + 1) (by omega) (by omega) (fun j hj => by
            by_cases hq2 : j = k
            · subst hq2
              rw [hrl.2 j hlt]
              exact c_70
            · exact h0 j (by omega))
        · refine cc_iload (j := 0) dX4_offer_73 rfl ?_
          refine cc_iret rfl rfl dX4_offer_75 ?_
          refine ⟨_, rfl, ?_, rfl⟩
          have hh : Q_pos o2 (Q_rch m l) = k := Q_pos_hit h0 hlt (by rw [hrl.2 k hlt]; simpa using c_70)
          rw [show Q_off o2 m l = some k by unfold Q_off; rw [hh, if_pos hlt]]
  refine cc_enter ok_X4_offer (Nat.le_of_ble_eq_true rfl) (ls := [(0, .ref o), (1, .int (nI i)), (2, .int o2)]) rfl ?_
  refine cc_aload_n (j := 0) dX4_offer_0 rfl rfl ?_
  refine cc_get (v := .ref (o + 6)) H.2.1 cc_c4 9 (by decide) fl_X4_26 rfl dX4_offer_1 ?_
  refine cc_iload_n (j := 1) dX4_offer_4 rfl rfl ?_
  refine cc_zald (x := hs i) H.2.2.2.2.2.2.2.1 (vp_in_nI (n := i) (by omega) (by decide)) (by rw [(nI_clamp (by omega))]) dX4_offer_5 ?_
  rw [show hs i = 0 from h0]
  refine cc_if_eq (tgt := 12) dX4_offer_6 (by decide) (fun c_6 => ?_) (fun c_6 => ?_)
  · refine cc_aload_n (j := 0) dX4_offer_12 rfl rfl ?_
    refine cc_get (v := .ref (o + 1)) H.2.1 cc_c4 0 (by decide) fl_X4_7 rfl dX4_offer_13 ?_
    refine cc_iconst (v := 1) dX4_offer_16 (by decide) ?_
    refine cc_iald (x := r 1) H.2.2.1 (vp_in_nI (n := 1) (by decide) (by decide)) (by rw [show (1 : Int32).toNatClampNeg = 1 from rfl]) dX4_offer_17 ?_
    rw [show r 1 = m from h1]
    refine cc_iconst (v := 1) dX4_offer_18 (by decide) ?_
    refine cc_icmp_ne (tgt := 31) dX4_offer_19 (by decide) (fun c_19 => ?_) (fun c_19 => ?_)
    · refine cc_aload_n (j := 0) dX4_offer_31 rfl rfl ?_
      refine cc_iload_n (j := 1) dX4_offer_32 rfl rfl ?_
      refine cc_iconst (v := 0) dX4_offer_33 (by decide) ?_
      refine cc_callVi (As := [.int (nI i), .int 0]) (rest := []) (ct_X4_by cy z _ _ _ _ _ _ _ _ _ _ _ _ _ i 0 (by omega) H.self) ok_X4_by (H.2.1) rfl im_X4_by sl_X4_by ml_X4_69 nd_X4_by (by decide +kernel) (Nat.le_of_ble_eq_true rfl) rfl dX4_offer_34 (fun r5 G4 q6 => ?_)
      obtain ⟨rfl, rfl⟩ := q6
      rw [show r (124 + 27 * i + 0) = nI l.length from hsz]
      refine cc_iconst (v := 1) dX4_offer_37 (by decide) ?_
      refine cc_icmp_ge (tgt := 45) dX4_offer_38 (by decide) (fun c_38 => ?_) (fun c_38 => ?_)
      · refine cc_iconst (v := 1) dX4_offer_45 (by decide) ?_
        have hm0 : m = 0 := by
          rcases hm with q | q
          · exact q
          · exact absurd q (by simpa using c_19)
        have hm2 : Q_rch m l = l.take 1 := if_pos hm0
        have hlp : 1 ≤ l.length := (nI_leI (a := 1) (by decide) (by omega)).mp c_38
        rw [show (1 : Int32) = nI (Q_rch m l).length by rw [hm2, List.length_take, Nat.min_eq_left hlp]; rfl]
        refine cc_istore_n (ls' := [(3, .int (nI (Q_rch m l).length)), (0, .ref o), (1, .int (nI i)), (2, .int o2)]) dX4_offer_46 rfl (Nat.le_of_ble_eq_true rfl) rfl ?_
        refine cc_iconst (v := 0) dX4_offer_47 (by decide) ?_
        refine cc_istore (ls' := [(4, .int 0), (3, .int (nI (Q_rch m l).length)), (0, .ref o), (1, .int (nI i)), (2, .int o2)]) dX4_offer_48 (Nat.le_of_ble_eq_true rfl) rfl ?_
        exact loop_50 ((Q_rch m l).length + 1) 0 (by have := hrl.1; omega) (Nat.zero_le _) (fun j hj => absurd hj (by omega))
      · refine cc_iconst (v := 0) dX4_offer_41 (by decide) ?_
        refine cc_goto (tgt := 46) dX4_offer_42 (by decide) ?_
        have hm0 : m = 0 := by
          rcases hm with q | q
          · exact q
          · exact absurd q (by simpa using c_19)
        have hm2 : Q_rch m l = l.take 1 := if_pos hm0
        have hlz : l = [] := List.length_eq_zero_iff.mp (by rcases Nat.eq_zero_or_pos l.length with e | e; exact e; exact absurd (nI_le (a := 1) e (by omega)) c_38)
        rw [show (0 : Int32) = nI (Q_rch m l).length by rw [hm2, hlz]; rfl]
        refine cc_istore_n (ls' := [(3, .int (nI (Q_rch m l).length)), (0, .ref o), (1, .int (nI i)), (2, .int o2)]) dX4_offer_46 rfl (Nat.le_of_ble_eq_true rfl) rfl ?_
        refine cc_iconst (v := 0) dX4_offer_47 (by decide) ?_
        refine cc_istore (ls' := [(4, .int 0), (3, .int (nI (Q_rch m l).length)), (0, .ref o), (1, .int (nI i)), (2, .int o2)]) dX4_offer_48 (Nat.le_of_ble_eq_true rfl) rfl ?_
        exact loop_50 ((Q_rch m l).length + 1) 0 (by have := hrl.1; omega) (Nat.zero_le _) (fun j hj => absurd hj (by omega))
    · refine cc_aload_n (j := 0) dX4_offer_22 rfl rfl ?_
      refine cc_iload_n (j := 1) dX4_offer_23 rfl rfl ?_
      refine cc_iconst (v := 0) dX4_offer_24 (by decide) ?_
      refine cc_callVi (As := [.int (nI i), .int 0]) (rest := []) (ct_X4_by cy z _ _ _ _ _ _ _ _ _ _ _ _ _ i 0 (by omega) H.self) ok_X4_by (H.2.1) rfl im_X4_by sl_X4_by ml_X4_69 nd_X4_by (by decide +kernel) (Nat.le_of_ble_eq_true rfl) rfl dX4_offer_25 (fun r8 G7 q9 => ?_)
      obtain ⟨rfl, rfl⟩ := q9
      rw [show r (124 + 27 * i + 0) = nI l.length from hsz]
      refine cc_goto (tgt := 46) dX4_offer_28 (by decide) ?_
      have hm2 : Q_rch m l = l := if_neg (by rcases hm with q | q; exact absurd (q.symm.trans (by simpa using c_19)) (by decide); rw [q]; decide)
      rw [show nI l.length = nI (Q_rch m l).length by rw [hm2]]
      refine cc_istore_n (ls' := [(3, .int (nI (Q_rch m l).length)), (0, .ref o), (1, .int (nI i)), (2, .int o2)]) dX4_offer_46 rfl (Nat.le_of_ble_eq_true rfl) rfl ?_
      refine cc_iconst (v := 0) dX4_offer_47 (by decide) ?_
      refine cc_istore (ls' := [(4, .int 0), (3, .int (nI (Q_rch m l).length)), (0, .ref o), (1, .int (nI i)), (2, .int o2)]) dX4_offer_48 (Nat.le_of_ble_eq_true rfl) rfl ?_
      exact loop_50 ((Q_rch m l).length + 1) 0 (by have := hrl.1; omega) (Nat.zero_le _) (fun j hj => absurd hj (by omega))
  · exact absurd c_6 (by decide)

set_option maxHeartbeats 4000000 in
set_option maxRecDepth 100000 in
theorem ct_X4_offer_sent (cy : Nat → ClassId) (z : Nat) (G : cc_G) (o : Nat) (r pa qa be : Nat → Int32) (nn ia : Int32) (tx : Nat → Int32) (le ay : Int32) (hs so : Nat → Int32) (i : Nat) (hi : i < 4) (o2 : Int32) (H : mo_R cy G G o r pa qa be nn ia tx le ay hs so) (h0 : ¬ hs i = 0) : cc_Cn cy Y_X4_offer [.ref o, .int (nI i), .int o2] z G (cc_qi (fun r9 G' => r9 = (-5) ∧ G' = G)) := by
  
  refine cc_enter ok_X4_offer (Nat.le_of_ble_eq_true rfl) (ls := [(0, .ref o), (1, .int (nI i)), (2, .int o2)]) rfl ?_
  refine cc_aload_n (j := 0) dX4_offer_0 rfl rfl ?_
  refine cc_get (v := .ref (o + 6)) H.2.1 cc_c4 9 (by decide) fl_X4_26 rfl dX4_offer_1 ?_
  refine cc_iload_n (j := 1) dX4_offer_4 rfl rfl ?_
  refine cc_zald (x := hs i) H.2.2.2.2.2.2.2.1 (vp_in_nI (n := i) (by omega) (by decide)) (by rw [(nI_clamp (by omega))]) dX4_offer_5 ?_
  refine cc_if_eq (tgt := 12) dX4_offer_6 (by decide) (fun c_6 => ?_) (fun c_6 => ?_)
  · exact absurd c_6 h0
  · refine cc_bipush (v := (-5)) dX4_offer_9 (by decide) ?_
    refine cc_iret rfl rfl dX4_offer_11 ?_
    exact ⟨_, rfl, rfl, rfl⟩

theorem rq_I.erase {r r' : Nat → Int32} {b : Nat} {bl se : Int32} {l : List Pk_} {k : Nat} (h : rq_I r b (bl, se, l)) (hk : k < l.length) (h0 : r' (b + 0) = nI (l.length - 1)) (h1 : r' (b + 1) = r (b + 1)) (h2 : r' (b + 2) = r (b + 2) + 1) (a1 : ∀ x, x < 3 + 3 * k → 3 ≤ x → r' (b + x) = r (b + x)) (a2 : ∀ x, 3 + 3 * k ≤ x → x < 3 + 3 * (l.length - 1) → r' (b + x) = r (b + x + 3)) : rq_I r' b (bl, se + 1, l.eraseIdx k) := by
  obtain ⟨q0, q1, q2, q3, q4⟩ := h
  have q2 : r (b + 2) = se := q2
  have q1 : r (b + 1) = bl := q1
  have q4 : l.length ≤ 8 := q4
  refine ⟨?_, h1.trans q1, h2.trans (by rw [q2]), q3.erase (fun j hj => ⟨a1 _ (by omega) (by omega), a1 _ (by omega) (by omega), a1 _ (by omega) (by omega)⟩) (fun j hj hj2 => ⟨?_, ?_, ?_⟩), ?_⟩
  · show _ = nI (l.eraseIdx k).length
    rw [List.length_eraseIdx, if_pos hk]
    exact h0
  · have hj3 : j + 1 < l.length := hj2
    show r' _ = r _
    rw [a2 _ (by omega) (by omega), show b + (3 + 3 * j) + 3 = b + (3 + 3 * (j + 1)) by omega]
  · have hj3 : j + 1 < l.length := hj2
    show r' _ = r _
    rw [a2 _ (by omega) (by omega), show b + (3 + 3 * j + 1) + 3 = b + (3 + 3 * (j + 1) + 1) by omega]
  · have hj3 : j + 1 < l.length := hj2
    show r' _ = r _
    rw [a2 _ (by omega) (by omega), show b + (3 + 3 * j + 2) + 3 = b + (3 + 3 * (j + 1) + 2) by omega]
  · show (l.eraseIdx k).length ≤ 8
    rw [List.length_eraseIdx, if_pos hk]
    omega

set_option maxHeartbeats 4000000 in
set_option maxRecDepth 100000 in
theorem ct_X4_leave (cy : Nat → ClassId) (z : Nat) (G : cc_G) (o : Nat) (r pa qa be : Nat → Int32) (nn ia : Int32) (tx : Nat → Int32) (le ay : Int32) (hs so : Nat → Int32) (i k : Nat) (hi : i < 4) (bl se : Int32) (l : List Pk_) (hk : k < l.length) (H : mo_R cy G G o r pa qa be nn ia tx le ay hs so) (hq : rq_I r (124 + 27 * i) (bl, se, l)) : cc_Cn cy Y_X4_leave [.ref o, .int (nI i), .int (nI k)] z G (cc_qi (fun r9 G' => r9 = (l.getD k (0, 0, 0)).1 ∧ ∃ r', mo_R cy G G' o r' pa qa be nn ia tx le ay (upd hs i 1) so ∧ rq_I r' (124 + 27 * i) (bl, se + 1, l.eraseIdx k) ∧ ∀ q, (q < 124 + 27 * i ∨ 124 + 27 * i + 27 ≤ q) → r' q = r q)) := by
  have h8 : l.length ≤ 8 := hq.2.2.2.2
  have hsz : r (124 + 27 * i + 0) = nI l.length := hq.1
  have loop_41 : ∀ (f q : Nat) (r1 : Nat → Int32) (G1 : cc_G), 3 + 3 * l.length < q + f → 3 + 3 * k ≤ q → q ≤ 3 + 3 * (l.length - 1) → mo_R cy G G1 o r1 pa qa be nn ia tx le ay hs so → (∀ x, (x < 124 + 27 * i + (3 + 3 * k) ∨ 124 + 27 * i + q ≤ x) → r1 x = (upd r (124 + 27 * i + 0) (nI (l.length - 1))) x) → (∀ x, 3 + 3 * k ≤ x → x < q → r1 (124 + 27 * i + x) = r (124 + 27 * i + x + 3)) → cc_R cy Y_X4_leave z 41 [(5, .int (nI q)), (4, .int (l.getD k (0, 0, 0)).1), (3, .int (nI (124 + 27 * i))), (0, .ref o), (1, .int (nI i)), (2, .int (nI k))] [] G1 (cc_qi (fun r9 G' => r9 = (l.getD k (0, 0, 0)).1 ∧ ∃ r', mo_R cy G G' o r' pa qa be nn ia tx le ay (upd hs i 1) so ∧ rq_I r' (124 + 27 * i) (bl, se + 1, l.eraseIdx k) ∧ ∀ q, (q < 124 + 27 * i ∨ 124 + 27 * i + 27 ≤ q) → r' q = r q)) := by
    intro f
    induction f with
    | zero => intro q r1 G1 h1 h2 h3; exact absurd h1 (by omega)
    | succ f ih =>
      intro q r1 G1 hf hq1 hq2 H k1 k2
      refine cc_iload (j := 0) dX4_leave_41 rfl ?_
      refine cc_iconst (v := 3) dX4_leave_43 (by decide) ?_
      refine cc_iconst (v := 3) dX4_leave_44 (by decide) ?_
      refine cc_aload_n (j := 3) dX4_leave_45 rfl rfl ?_
      refine cc_get (v := .ref (o + 1)) H.2.1 cc_c4 0 (by decide) fl_X4_7 rfl dX4_leave_46 ?_
      refine cc_iload_n (j := 2) dX4_leave_49 rfl rfl ?_
      refine cc_iconst (v := 0) dX4_leave_50 (by decide) ?_
      refine cc_iadd dX4_leave_51 ?_
      rw [show (nI (124 + 27 * i)) + 0 = nI (124 + 27 * i + 0) from nI_add (124 + 27 * i) 0]
      refine cc_iald (x := r1 (124 + 27 * i + 0)) H.2.2.1 (vp_in_nI (n := (124 + 27 * i + 0)) (by omega) (by decide)) (by rw [(nI_clamp (by omega))]) dX4_leave_52 ?_
      rw [show r1 (124 + 27 * i + 0) = nI (l.length - 1) from (k1 _ (by omega)).trans pk_us]
      refine cc_imul dX4_leave_53 ?_
      rw [show 3 * (nI (l.length - 1)) = nI (3 * (l.length - 1)) from pk_mul 3 (l.length - 1)]
      refine cc_iadd dX4_leave_54 ?_
      rw [show 3 + (nI (3 * (l.length - 1))) = nI (3 + (3 * (l.length - 1))) from nI_add 3 (3 * (l.length - 1))]
      refine cc_icmp_ge (tgt := 84) dX4_leave_55 (by decide) (fun c_55 => ?_) (fun c_55 => ?_)
      · have hge : q = 3 + 3 * (l.length - 1) := by have := cc_ngt _ c_55 (by omega) (by omega); omega
        subst hge
        refine cc_iconst (v := 0) dX4_leave_84 (by decide) ?_
        refine cc_istore (ls' := [(5, .int 0), (4, .int ((l.getD k (0, 0, 0)).1)), (3, .int (nI (124 + 27 * i))), (0, .ref o), (1, .int (nI i)), (2, .int (nI k))]) dX4_leave_85 (Nat.le_of_ble_eq_true rfl) rfl ?_
        refine cc_iload (j := 0) dX4_leave_87 rfl ?_
        refine cc_iconst (v := 3) dX4_leave_89 (by decide) ?_
        refine cc_icmp_ge (tgt := 122) dX4_leave_90 (by decide) (fun c_90 => ?_) (fun c_90 => ?_)
        · exact absurd c_90 (by decide)
        · refine cc_aload_n (j := 3) dX4_leave_93 rfl rfl ?_
          refine cc_get (v := .ref (o + 1)) H.2.1 cc_c4 0 (by decide) fl_X4_7 rfl dX4_leave_94 ?_
          refine cc_iload_n (j := 2) dX4_leave_97 rfl rfl ?_
          refine cc_iconst (v := 3) dX4_leave_98 (by decide) ?_
          refine cc_iadd dX4_leave_99 ?_
          rw [show (nI (124 + 27 * i)) + 3 = nI (124 + 27 * i + 3) from nI_add (124 + 27 * i) 3]
          refine cc_iconst (v := 3) dX4_leave_100 (by decide) ?_
          refine cc_aload_n (j := 3) dX4_leave_101 rfl rfl ?_
          refine cc_get (v := .ref (o + 1)) H.2.1 cc_c4 0 (by decide) fl_X4_7 rfl dX4_leave_102 ?_
          refine cc_iload_n (j := 2) dX4_leave_105 rfl rfl ?_
          refine cc_iconst (v := 0) dX4_leave_106 (by decide) ?_
          refine cc_iadd dX4_leave_107 ?_
          rw [show (nI (124 + 27 * i)) + 0 = nI (124 + 27 * i + 0) from nI_add (124 + 27 * i) 0]
          refine cc_iald (x := r1 (124 + 27 * i + 0)) H.2.2.1 (vp_in_nI (n := (124 + 27 * i + 0)) (by omega) (by decide)) (by rw [(nI_clamp (by omega))]) dX4_leave_108 ?_
          rw [show r1 (124 + 27 * i + 0) = nI (l.length - 1) from (k1 _ (by omega)).trans pk_us]
          refine cc_imul dX4_leave_109 ?_
          rw [show 3 * (nI (l.length - 1)) = nI (3 * (l.length - 1)) from pk_mul 3 (l.length - 1)]
          refine cc_iadd dX4_leave_110 ?_
          rw [show (nI (124 + 27 * i + 3)) + (nI (3 * (l.length - 1))) = nI (124 + 27 * i + 3 + (3 * (l.length - 1))) from nI_add (124 + 27 * i + 3) (3 * (l.length - 1))]
          refine cc_iload (j := 0) dX4_leave_111 rfl ?_
          refine cc_iadd dX4_leave_113 ?_
          rw [show (nI (124 + 27 * i + 3 + (3 * (l.length - 1)))) + 0 = nI ((124 + 27 * i + 3 + (3 * (l.length - 1))) + 0) from nI_add (124 + 27 * i + 3 + (3 * (l.length - 1))) 0]
          refine cc_iconst (v := 0) dX4_leave_114 (by decide) ?_
          refine mo_rast_r (j := ((124 + 27 * i + 3 + (3 * (l.length - 1))) + 0)) H (vp_in_nI (n := ((124 + 27 * i + 3 + (3 * (l.length - 1))) + 0)) (by omega) (by decide)) (nI_clamp (by omega)) dX4_leave_115 (fun G1 H2 => ?_)
          have hz4 : ∀ x, (x < 124 + 27 * i + 3 + 3 * (l.length - 1) ∨ 124 + 27 * i + 27 ≤ x) → (upd r1 ((124 + 27 * i + 3 + (3 * (l.length - 1))) + 0) 0) x = r1 x := fun x hx => pk_un (by omega)
          generalize (upd r1 ((124 + 27 * i + 3 + (3 * (l.length - 1))) + 0) 0) = rz3 at H2 hz4
          refine cc_iinc (j := 0) (v := 1) (ls' := [(5, .int 1), (4, .int ((l.getD k (0, 0, 0)).1)), (3, .int (nI (124 + 27 * i))), (0, .ref o), (1, .int (nI i)), (2, .int (nI k))]) dX4_leave_116 rfl (by decide) (Nat.le_of_ble_eq_true rfl) rfl ?_
          refine cc_goto (tgt := 87) dX4_leave_119 (by decide) ?_
          refine cc_iload (j := 0) dX4_leave_87 rfl ?_
          refine cc_iconst (v := 3) dX4_leave_89 (by decide) ?_
          refine cc_icmp_ge (tgt := 122) dX4_leave_90 (by decide) (fun c_90_1 => ?_) (fun c_90_1 => ?_)
          · exact absurd c_90_1 (by decide)
          · refine cc_aload_n (j := 3) dX4_leave_93 rfl rfl ?_
            refine cc_get (v := .ref (o + 1)) H2.2.1 cc_c4 0 (by decide) fl_X4_7 rfl dX4_leave_94 ?_
            refine cc_iload_n (j := 2) dX4_leave_97 rfl rfl ?_
            refine cc_iconst (v := 3) dX4_leave_98 (by decide) ?_
            refine cc_iadd dX4_leave_99 ?_
            rw [show (nI (124 + 27 * i)) + 3 = nI (124 + 27 * i + 3) from nI_add (124 + 27 * i) 3]
            refine cc_iconst (v := 3) dX4_leave_100 (by decide) ?_
            refine cc_aload_n (j := 3) dX4_leave_101 rfl rfl ?_
            refine cc_get (v := .ref (o + 1)) H2.2.1 cc_c4 0 (by decide) fl_X4_7 rfl dX4_leave_102 ?_
            refine cc_iload_n (j := 2) dX4_leave_105 rfl rfl ?_
            refine cc_iconst (v := 0) dX4_leave_106 (by decide) ?_
            refine cc_iadd dX4_leave_107 ?_
            rw [show (nI (124 + 27 * i)) + 0 = nI (124 + 27 * i + 0) from nI_add (124 + 27 * i) 0]
            refine cc_iald (x := rz3 (124 + 27 * i + 0)) H2.2.2.1 (vp_in_nI (n := (124 + 27 * i + 0)) (by omega) (by decide)) (by rw [(nI_clamp (by omega))]) dX4_leave_108 ?_
            rw [show rz3 (124 + 27 * i + 0) = nI (l.length - 1) from (hz4 _ (by omega)).trans ((k1 _ (by omega)).trans pk_us)]
            refine cc_imul dX4_leave_109 ?_
            rw [show 3 * (nI (l.length - 1)) = nI (3 * (l.length - 1)) from pk_mul 3 (l.length - 1)]
            refine cc_iadd dX4_leave_110 ?_
            rw [show (nI (124 + 27 * i + 3)) + (nI (3 * (l.length - 1))) = nI (124 + 27 * i + 3 + (3 * (l.length - 1))) from nI_add (124 + 27 * i + 3) (3 * (l.length - 1))]
            refine cc_iload (j := 0) dX4_leave_111 rfl ?_
            refine cc_iadd dX4_leave_113 ?_
            rw [show (nI (124 + 27 * i + 3 + (3 * (l.length - 1)))) + 1 = nI ((124 + 27 * i + 3 + (3 * (l.length - 1))) + 1) from nI_add (124 + 27 * i + 3 + (3 * (l.length - 1))) 1]
            refine cc_iconst (v := 0) dX4_leave_114 (by decide) ?_
            refine mo_rast_r (j := ((124 + 27 * i + 3 + (3 * (l.length - 1))) + 1)) H2 (vp_in_nI (n := ((124 + 27 * i + 3 + (3 * (l.length - 1))) + 1)) (by omega) (by decide)) (nI_clamp (by omega)) dX4_leave_115 (fun G5 H6 => ?_)
            have hz8 : ∀ x, (x < 124 + 27 * i + 3 + 3 * (l.length - 1) ∨ 124 + 27 * i + 27 ≤ x) → (upd rz3 ((124 + 27 * i + 3 + (3 * (l.length - 1))) + 1) 0) x = r1 x := fun x hx => (pk_un (by omega)).trans (hz4 x hx)
            generalize (upd rz3 ((124 + 27 * i + 3 + (3 * (l.length - 1))) + 1) 0) = rz7 at H6 hz8
            refine cc_iinc (j := 0) (v := 2) (ls' := [(5, .int 2), (4, .int ((l.getD k (0, 0, 0)).1)), (3, .int (nI (124 + 27 * i))), (0, .ref o), (1, .int (nI i)), (2, .int (nI k))]) dX4_leave_116 rfl (by decide) (Nat.le_of_ble_eq_true rfl) rfl ?_
            refine cc_goto (tgt := 87) dX4_leave_119 (by decide) ?_
            refine cc_iload (j := 0) dX4_leave_87 rfl ?_
            refine cc_iconst (v := 3) dX4_leave_89 (by decide) ?_
            refine cc_icmp_ge (tgt := 122) dX4_leave_90 (by decide) (fun c_90_2 => ?_) (fun c_90_2 => ?_)
            · exact absurd c_90_2 (by decide)
            · refine cc_aload_n (j := 3) dX4_leave_93 rfl rfl ?_
              refine cc_get (v := .ref (o + 1)) H6.2.1 cc_c4 0 (by decide) fl_X4_7 rfl dX4_leave_94 ?_
              refine cc_iload_n (j := 2) dX4_leave_97 rfl rfl ?_
              refine cc_iconst (v := 3) dX4_leave_98 (by decide) ?_
              refine cc_iadd dX4_leave_99 ?_
              rw [show (nI (124 + 27 * i)) + 3 = nI (124 + 27 * i + 3) from nI_add (124 + 27 * i) 3]
              refine cc_iconst (v := 3) dX4_leave_100 (by decide) ?_
              refine cc_aload_n (j := 3) dX4_leave_101 rfl rfl ?_
              refine cc_get (v := .ref (o + 1)) H6.2.1 cc_c4 0 (by decide) fl_X4_7 rfl dX4_leave_102 ?_
              refine cc_iload_n (j := 2) dX4_leave_105 rfl rfl ?_
              refine cc_iconst (v := 0) dX4_leave_106 (by decide) ?_
              refine cc_iadd dX4_leave_107 ?_
              rw [show (nI (124 + 27 * i)) + 0 = nI (124 + 27 * i + 0) from nI_add (124 + 27 * i) 0]
              refine cc_iald (x := rz7 (124 + 27 * i + 0)) H6.2.2.1 (vp_in_nI (n := (124 + 27 * i + 0)) (by omega) (by decide)) (by rw [(nI_clamp (by omega))]) dX4_leave_108 ?_
              rw [show rz7 (124 + 27 * i + 0) = nI (l.length - 1) from (hz8 _ (by omega)).trans ((k1 _ (by omega)).trans pk_us)]
              refine cc_imul dX4_leave_109 ?_
              rw [show 3 * (nI (l.length - 1)) = nI (3 * (l.length - 1)) from pk_mul 3 (l.length - 1)]
              refine cc_iadd dX4_leave_110 ?_
              rw [show (nI (124 + 27 * i + 3)) + (nI (3 * (l.length - 1))) = nI (124 + 27 * i + 3 + (3 * (l.length - 1))) from nI_add (124 + 27 * i + 3) (3 * (l.length - 1))]
              refine cc_iload (j := 0) dX4_leave_111 rfl ?_
              refine cc_iadd dX4_leave_113 ?_
              rw [show (nI (124 + 27 * i + 3 + (3 * (l.length - 1)))) + 2 = nI ((124 + 27 * i + 3 + (3 * (l.length - 1))) + 2) from nI_add (124 + 27 * i + 3 + (3 * (l.length - 1))) 2]
              refine cc_iconst (v := 0) dX4_leave_114 (by decide) ?_
              refine mo_rast_r (j := ((124 + 27 * i + 3 + (3 * (l.length - 1))) + 2)) H6 (vp_in_nI (n := ((124 + 27 * i + 3 + (3 * (l.length - 1))) + 2)) (by omega) (by decide)) (nI_clamp (by omega)) dX4_leave_115 (fun G9 H10 => ?_)
              have hz12 : ∀ x, (x < 124 + 27 * i + 3 + 3 * (l.length - 1) ∨ 124 + 27 * i + 27 ≤ x) → (upd rz7 ((124 + 27 * i + 3 + (3 * (l.length - 1))) + 2) 0) x = r1 x := fun x hx => (pk_un (by omega)).trans (hz8 x hx)
              generalize (upd rz7 ((124 + 27 * i + 3 + (3 * (l.length - 1))) + 2) 0) = rz11 at H10 hz12
              refine cc_iinc (j := 0) (v := 3) (ls' := [(5, .int 3), (4, .int ((l.getD k (0, 0, 0)).1)), (3, .int (nI (124 + 27 * i))), (0, .ref o), (1, .int (nI i)), (2, .int (nI k))]) dX4_leave_116 rfl (by decide) (Nat.le_of_ble_eq_true rfl) rfl ?_
              refine cc_goto (tgt := 87) dX4_leave_119 (by decide) ?_
              refine cc_iload (j := 0) dX4_leave_87 rfl ?_
              refine cc_iconst (v := 3) dX4_leave_89 (by decide) ?_
              refine cc_icmp_ge (tgt := 122) dX4_leave_90 (by decide) (fun c_90_3 => ?_) (fun c_90_3 => ?_)
              · refine cc_aload_n (j := 3) dX4_leave_122 rfl rfl ?_
                refine cc_get (v := .ref (o + 1)) H10.2.1 cc_c4 0 (by decide) fl_X4_7 rfl dX4_leave_123 ?_
                refine cc_iload_n (j := 2) dX4_leave_126 rfl rfl ?_
                refine cc_iconst (v := 2) dX4_leave_127 (by decide) ?_
                refine cc_iadd dX4_leave_128 ?_
                rw [show (nI (124 + 27 * i)) + 2 = nI (124 + 27 * i + 2) from nI_add (124 + 27 * i) 2]
                refine cc_dup2 dX4_leave_129 rfl rfl ?_
                refine cc_iald (x := rz11 (124 + 27 * i + 2)) H10.2.2.1 (vp_in_nI (n := (124 + 27 * i + 2)) (by omega) (by decide)) (by rw [(nI_clamp (by omega))]) dX4_leave_130 ?_
                refine cc_iconst (v := 1) dX4_leave_131 (by decide) ?_
                refine cc_iadd dX4_leave_132 ?_
                refine mo_rast_r (j := (124 + 27 * i + 2)) H10 (vp_in_nI (n := (124 + 27 * i + 2)) (by omega) (by decide)) (nI_clamp (by omega)) dX4_leave_133 (fun G13 H14 => ?_)
                refine cc_aload_n (j := 3) dX4_leave_134 rfl rfl ?_
                refine cc_get (v := .ref (o + 6)) H14.2.1 cc_c4 9 (by decide) fl_X4_26 rfl dX4_leave_135 ?_
                refine cc_iload_n (j := 4) dX4_leave_138 rfl rfl ?_
                refine cc_iconst (v := 1) dX4_leave_139 (by decide) ?_
                refine mo_rast_hs (j := i) H14 (vp_in_nI (n := i) (by omega) (by decide)) (nI_clamp (by omega)) rfl dX4_leave_140 (fun G15 H16 => ?_)
                refine cc_iload (j := 1) dX4_leave_141 rfl ?_
                refine cc_iret rfl rfl dX4_leave_143 ?_
                refine ⟨_, rfl, rfl, _, H16, hq.erase hk ?_ ?_ ?_ (fun x hx hx2 => ?_) (fun x hx hx2 => ?_), fun x hx => ?_⟩
                · exact (pk_un (by omega)).trans ((hz12 _ (by omega)).trans ((k1 _ (by omega)).trans pk_us))
                · exact (pk_un (by omega)).trans ((hz12 _ (by omega)).trans ((k1 _ (by omega)).trans (pk_un (by omega))))
                · rw [pk_us, hz12 _ (by omega), k1 _ (by omega), pk_un (by omega)]
                · exact (pk_un (by omega)).trans ((hz12 _ (by omega)).trans ((k1 _ (by omega)).trans (pk_un (by omega))))
                · exact (pk_un (by omega)).trans ((hz12 _ (by omega)).trans (k2 x hx hx2))
                · exact (pk_un (by omega)).trans ((hz12 _ (by omega)).trans ((k1 _ (by omega)).trans (pk_un (by omega))))
              · exact absurd c_90_3 (by decide)
      · have hlt : q < 3 + 3 * (l.length - 1) := cc_nlt _ c_55 (by omega)
        refine cc_aload_n (j := 3) dX4_leave_58 rfl rfl ?_
        refine cc_get (v := .ref (o + 1)) H.2.1 cc_c4 0 (by decide) fl_X4_7 rfl dX4_leave_59 ?_
        refine cc_iload_n (j := 2) dX4_leave_62 rfl rfl ?_
        refine cc_iload (j := 0) dX4_leave_63 rfl ?_
        refine cc_iadd dX4_leave_65 ?_
        rw [show (nI (124 + 27 * i)) + (nI q) = nI (124 + 27 * i + q) from nI_add (124 + 27 * i) q]
        refine cc_aload_n (j := 3) dX4_leave_66 rfl rfl ?_
        refine cc_get (v := .ref (o + 1)) H.2.1 cc_c4 0 (by decide) fl_X4_7 rfl dX4_leave_67 ?_
        refine cc_iload_n (j := 2) dX4_leave_70 rfl rfl ?_
        refine cc_iload (j := 0) dX4_leave_71 rfl ?_
        refine cc_iadd dX4_leave_73 ?_
        rw [show (nI (124 + 27 * i)) + (nI q) = nI (124 + 27 * i + q) from nI_add (124 + 27 * i) q]
        refine cc_iconst (v := 3) dX4_leave_74 (by decide) ?_
        refine cc_iadd dX4_leave_75 ?_
        rw [show (nI (124 + 27 * i + q)) + 3 = nI (124 + 27 * i + q + 3) from nI_add (124 + 27 * i + q) 3]
        refine cc_iald (x := r1 (124 + 27 * i + q + 3)) H.2.2.1 (vp_in_nI (n := (124 + 27 * i + q + 3)) (by omega) (by decide)) (by rw [(nI_clamp (by omega))]) dX4_leave_76 ?_
        refine mo_rast_r (j := (124 + 27 * i + q)) H (vp_in_nI (n := (124 + 27 * i + q)) (by omega) (by decide)) (nI_clamp (by omega)) dX4_leave_77 (fun G17 H18 => ?_)
        refine cc_iinc (j := 0) (v := nI (q + 1)) (ls' := [(5, .int (nI (q + 1))), (4, .int ((l.getD k (0, 0, 0)).1)), (3, .int (nI (124 + 27 * i))), (0, .ref o), (1, .int (nI i)), (2, .int (nI k))]) dX4_leave_78 rfl (nI_1 q) (Nat.le_of_ble_eq_true rfl) rfl ?_
        refine cc_goto (tgt := 41) dX4_leave_81 (by decide) ?_
        refine cc_loc (ls' := [(5, .int (nI (q + 1))), (4, .int ((l.getD k (0, 0, 0)).1)), (3, .int (nI (124 + 27 * i))), (0, .ref o), (1, .int (nI i)), (2, .int (nI k))]) [0, 1, 2, 3, 4, 5] rfl ?_
        refine ih (q + 1) _ _ (by omega) (by omega) (by omega) H18 (fun x hx => (pk_un (by omega)).trans (k1 x (by omega))) (fun x hx hx2 => ?_)
        by_cases hxq : x = q
        · subst hxq
          rw [pk_us, show 124 + 27 * i + x + 3 = 124 + 27 * i + x + 3 from rfl, k1 _ (by omega)]
          exact pk_un (by omega)
        · rw [pk_un (by omega)]
          exact k2 x hx (by omega)
  refine cc_enter ok_X4_leave (Nat.le_of_ble_eq_true rfl) (ls := [(0, .ref o), (1, .int (nI i)), (2, .int (nI k))]) rfl ?_
  refine cc_bipush (v := 124) dX4_leave_0 (by decide) ?_
  refine cc_bipush (v := 27) dX4_leave_2 (by decide) ?_
  refine cc_iload_n (j := 1) dX4_leave_4 rfl rfl ?_
  refine cc_imul dX4_leave_5 ?_
  rw [show 27 * (nI i) = nI (27 * i) from pk_mul 27 i]
  refine cc_iadd dX4_leave_6 ?_
  rw [show 124 + (nI (27 * i)) = nI (124 + 27 * i) from nI_add 124 (27 * i)]
  refine cc_istore_n (ls' := [(3, .int (nI (124 + 27 * i))), (0, .ref o), (1, .int (nI i)), (2, .int (nI k))]) dX4_leave_7 rfl (Nat.le_of_ble_eq_true rfl) rfl ?_
  refine cc_aload_n (j := 1) dX4_leave_8 rfl rfl ?_
  refine cc_get (v := .ref (o + 1)) H.2.1 cc_c4 0 (by decide) fl_X4_7 rfl dX4_leave_9 ?_
  refine cc_iload_n (j := 0) dX4_leave_12 rfl rfl ?_
  refine cc_iconst (v := 3) dX4_leave_13 (by decide) ?_
  refine cc_iadd dX4_leave_14 ?_
  rw [show (nI (124 + 27 * i)) + 3 = nI (124 + 27 * i + 3) from nI_add (124 + 27 * i) 3]
  refine cc_iconst (v := 3) dX4_leave_15 (by decide) ?_
  refine cc_iload_n (j := 3) dX4_leave_16 rfl rfl ?_
  refine cc_imul dX4_leave_17 ?_
  rw [show 3 * (nI k) = nI (3 * k) from pk_mul 3 k]
  refine cc_iadd dX4_leave_18 ?_
  rw [show (nI (124 + 27 * i + 3)) + (nI (3 * k)) = nI (124 + 27 * i + 3 + 3 * k) from nI_add (124 + 27 * i + 3) (3 * k)]
  refine cc_iald (x := r (124 + 27 * i + 3 + 3 * k)) H.2.2.1 (vp_in_nI (n := (124 + 27 * i + 3 + 3 * k)) (by omega) (by decide)) (by rw [(nI_clamp (by omega))]) dX4_leave_19 ?_
  rw [show r (124 + 27 * i + 3 + 3 * k) = (l.getD k (0, 0, 0)).1 from (by rw [show 124 + 27 * i + 3 + 3 * k = 124 + 27 * i + (3 + 3 * k) by omega]; exact (rq_at hq hk).1)]
  refine cc_istore (ls' := [(4, .int ((l.getD k (0, 0, 0)).1)), (3, .int (nI (124 + 27 * i))), (0, .ref o), (1, .int (nI i)), (2, .int (nI k))]) dX4_leave_20 (Nat.le_of_ble_eq_true rfl) rfl ?_
  refine cc_aload_n (j := 2) dX4_leave_22 rfl rfl ?_
  refine cc_get (v := .ref (o + 1)) H.2.1 cc_c4 0 (by decide) fl_X4_7 rfl dX4_leave_23 ?_
  refine cc_iload_n (j := 1) dX4_leave_26 rfl rfl ?_
  refine cc_iconst (v := 0) dX4_leave_27 (by decide) ?_
  refine cc_iadd dX4_leave_28 ?_
  rw [show (nI (124 + 27 * i)) + 0 = nI (124 + 27 * i + 0) from nI_add (124 + 27 * i) 0]
  refine cc_dup2 dX4_leave_29 rfl rfl ?_
  refine cc_iald (x := r (124 + 27 * i + 0)) H.2.2.1 (vp_in_nI (n := (124 + 27 * i + 0)) (by omega) (by decide)) (by rw [(nI_clamp (by omega))]) dX4_leave_30 ?_
  rw [show r (124 + 27 * i + 0) = nI l.length from hsz]
  refine cc_iconst (v := 1) dX4_leave_31 (by decide) ?_
  refine cc_isub dX4_leave_32 ?_
  rw [show (nI l.length) - 1 = nI (l.length - 1) from cc_m1 (by omega)]
  refine mo_rast_r (j := (124 + 27 * i + 0)) H (vp_in_nI (n := (124 + 27 * i + 0)) (by omega) (by decide)) (nI_clamp (by omega)) dX4_leave_33 (fun G19 H20 => ?_)
  refine cc_iconst (v := 3) dX4_leave_34 (by decide) ?_
  refine cc_iconst (v := 3) dX4_leave_35 (by decide) ?_
  refine cc_iload_n (j := 4) dX4_leave_36 rfl rfl ?_
  refine cc_imul dX4_leave_37 ?_
  rw [show 3 * (nI k) = nI (3 * k) from pk_mul 3 k]
  refine cc_iadd dX4_leave_38 ?_
  rw [show 3 + (nI (3 * k)) = nI (3 + 3 * k) from nI_add 3 (3 * k)]
  refine cc_istore (ls' := [(5, .int (nI (3 + 3 * k))), (4, .int ((l.getD k (0, 0, 0)).1)), (3, .int (nI (124 + 27 * i))), (0, .ref o), (1, .int (nI i)), (2, .int (nI k))]) dX4_leave_39 (Nat.le_of_ble_eq_true rfl) rfl ?_
  exact loop_41 (3 * l.length + 4) (3 + 3 * k) _ _ (by omega) (by omega) (by omega) H20 (fun x _ => rfl) (fun x hx hx2 => absurd hx2 (by omega))
