theorem rq_I.push {r r' : Nat → Int32} {b : Nat} {bl se : Int32} {l : List Pk_} (h : rq_I r b (bl, se, l)) (hl : l.length < 8) (p : Pk_) (h0 : r' (b + 0) = nI (l.length + 1)) (h1 : r' (b + 1) = r (b + 1)) (h2 : r' (b + 2) = r (b + 2)) (a1 : ∀ x, x < 3 + 3 * l.length → 3 ≤ x → r' (b + x) = r (b + x)) (p1 : r' (b + (3 + 3 * l.length)) = p.1) (p2 : r' (b + (3 + 3 * l.length + 1)) = p.2.1) (p3 : r' (b + (3 + 3 * l.length + 2)) = p.2.2) : rq_I r' b (bl, se, l ++ [p]) := by
  obtain ⟨q0, q1, q2, ⟨n1, n2, n3⟩, q4⟩ := h
  have q2 : r (b + 2) = se := q2
  have q1 : r (b + 1) = bl := q1
  have n1 : ar_ (fun k => r (b + (3 + 3 * k))) (l.map (fun p => p.1)) := n1
  have n2 : ar_ (fun k => r (b + (3 + 3 * k + 1))) (l.map (fun p => p.2.1)) := n2
  have n3 : ar_ (fun k => r (b + (3 + 3 * k + 2))) (l.map (fun p => p.2.2)) := n3
  have key := qu_A.push (l := l) (n1 := fun k => r (b + (3 + 3 * k))) (n2 := fun k => r (b + (3 + 3 * k + 1))) (n3 := fun k => r (b + (3 + 3 * k + 2))) ⟨n1, n2, n3⟩ p
  have len : ∀ (f : Pk_ → Int32), ((l ++ [p]).map f).length = l.length + 1 := fun f => by rw [List.length_map, List.length_append, List.length_singleton]
  refine ⟨?_, h1.trans q1, h2.trans q2, ⟨key.1.eq (fun k hk => ?_), key.2.1.eq (fun k hk => ?_), key.2.2.eq (fun k hk => ?_)⟩, ?_⟩
  · show _ = nI (l ++ [p]).length
    rw [List.length_append, List.length_singleton]
    exact h0
  · rw [len] at hk
    by_cases e : k = l.length
    · subst e
      rw [pk_us]
      exact p1
    · rw [pk_un e]
      exact a1 _ (by omega) (by omega)
  · rw [len] at hk
    by_cases e : k = l.length
    · subst e
      rw [pk_us]
      exact p2
    · rw [pk_un e]
      exact a1 _ (by omega) (by omega)
  · rw [len] at hk
    by_cases e : k = l.length
    · subst e
      rw [pk_us]
      exact p3
    · rw [pk_un e]
      exact a1 _ (by omega) (by omega)
  · show (l ++ [p]).length ≤ 8
    rw [List.length_append, List.length_singleton]
    omega

set_option maxHeartbeats 4000000 in
set_option maxRecDepth 100000 in
theorem ct_X4_bring (cy : Nat → ClassId) (z : Nat) (G : cc_G) (o : Nat) (r pa qa be : Nat → Int32) (nn ia : Int32) (tx : Nat → Int32) (le ay : Int32) (hs so : Nat → Int32) (S : St_) (hw : rw_I r S) (i : Nat) (hi : i < 4) (x2 : Int32) (hlt : (S.2.2 i).2.2.length < 8) (H : mo_R cy G G o r pa qa be nn ia tx le ay hs so)  : cc_Cn cy Y_X4_bring [.ref o, .int (nI i), .int x2] z G (cc_qv (fun G' => ∃ r', mo_R cy G G' o r' pa qa be nn ia tx le ay hs so ∧ rw_I r' (B_adm i x2 S))) := by
  have hsz : r (124 + 27 * i + 0) = nI (S.2.2 i).2.2.length := (hw.2.2.2.2.2 i hi).1
  refine cc_enter ok_X4_bring (Nat.le_of_ble_eq_true rfl) (ls := [(0, .ref o), (1, .int (nI i)), (2, .int x2)]) rfl ?_
  refine cc_bipush (v := 124) dX4_bring_0 (by decide) ?_
  refine cc_bipush (v := 27) dX4_bring_2 (by decide) ?_
  refine cc_iload_n (j := 1) dX4_bring_4 rfl rfl ?_
  refine cc_imul dX4_bring_5 ?_
  rw [show 27 * (nI i) = nI (27 * i) from pk_mul 27 i]
  refine cc_iadd dX4_bring_6 ?_
  rw [show 124 + (nI (27 * i)) = nI (124 + 27 * i) from nI_add 124 (27 * i)]
  refine cc_iconst (v := 3) dX4_bring_7 (by decide) ?_
  refine cc_iadd dX4_bring_8 ?_
  rw [show (nI (124 + 27 * i)) + 3 = nI (124 + 27 * i + 3) from nI_add (124 + 27 * i) 3]
  refine cc_iconst (v := 3) dX4_bring_9 (by decide) ?_
  refine cc_aload_n (j := 0) dX4_bring_10 rfl rfl ?_
  refine cc_iload_n (j := 1) dX4_bring_11 rfl rfl ?_
  refine cc_iconst (v := 0) dX4_bring_12 (by decide) ?_
  refine cc_callVi (As := [.int (nI i), .int 0]) (rest := [.int 3, .int (nI (124 + 27 * i + 3))]) (ct_X4_by cy z _ _ _ _ _ _ _ _ _ _ _ _ _ i 0 (by omega) H.self) ok_X4_by (H.2.1) rfl im_X4_by sl_X4_by ml_X4_69 nd_X4_by (by decide +kernel) (Nat.le_of_ble_eq_true rfl) rfl dX4_bring_13 (fun r2 G1 q3 => ?_)
  obtain ⟨rfl, rfl⟩ := q3
  rw [show r (124 + 27 * i + 0) = nI (S.2.2 i).2.2.length from hsz]
  refine cc_imul dX4_bring_16 ?_
  rw [show 3 * (nI (S.2.2 i).2.2.length) = nI (3 * ((S.2.2 i).2.2.length)) from pk_mul 3 ((S.2.2 i).2.2.length)]
  refine cc_iadd dX4_bring_17 ?_
  rw [show (nI (124 + 27 * i + 3)) + (nI (3 * ((S.2.2 i).2.2.length))) = nI (124 + 27 * i + 3 + 3 * ((S.2.2 i).2.2.length)) from nI_add (124 + 27 * i + 3) (3 * ((S.2.2 i).2.2.length))]
  refine cc_istore_n (ls' := [(3, .int (nI (124 + 27 * i + 3 + 3 * ((S.2.2 i).2.2.length)))), (0, .ref o), (1, .int (nI i)), (2, .int x2)]) dX4_bring_18 rfl (Nat.le_of_ble_eq_true rfl) rfl ?_
  refine cc_aload_n (j := 1) dX4_bring_19 rfl rfl ?_
  refine cc_get (v := .ref (o + 1)) H.2.1 cc_c4 0 (by decide) fl_X4_7 rfl dX4_bring_20 ?_
  refine cc_iload_n (j := 0) dX4_bring_23 rfl rfl ?_
  refine cc_aload_n (j := 1) dX4_bring_24 rfl rfl ?_
  refine cc_get (v := .ref (o + 1)) H.2.1 cc_c4 0 (by decide) fl_X4_7 rfl dX4_bring_25 ?_
  refine cc_iconst (v := 3) dX4_bring_28 (by decide) ?_
  refine cc_iald (x := r 3) H.2.2.1 (vp_in_nI (n := 3) (by decide) (by decide)) (by rw [show (3 : Int32).toNatClampNeg = 3 from rfl]) dX4_bring_29 ?_
  rw [show r 3 = S.1 3 from hw.2.2.2.1]
  refine mo_rast_r (j := (124 + 27 * i + 3 + 3 * ((S.2.2 i).2.2.length))) H (vp_in_nI (n := (124 + 27 * i + 3 + 3 * ((S.2.2 i).2.2.length))) (by omega) (by decide)) (nI_clamp (by omega)) dX4_bring_30 (fun G4 H5 => ?_)
  refine cc_aload_n (j := 1) dX4_bring_31 rfl rfl ?_
  refine cc_get (v := .ref (o + 1)) H5.2.1 cc_c4 0 (by decide) fl_X4_7 rfl dX4_bring_32 ?_
  refine cc_iload_n (j := 0) dX4_bring_35 rfl rfl ?_
  refine cc_iconst (v := 1) dX4_bring_36 (by decide) ?_
  refine cc_iadd dX4_bring_37 ?_
  rw [show (nI (124 + 27 * i + 3 + 3 * ((S.2.2 i).2.2.length))) + 1 = nI (124 + 27 * i + 3 + 3 * ((S.2.2 i).2.2.length) + 1) from nI_add (124 + 27 * i + 3 + 3 * ((S.2.2 i).2.2.length)) 1]
  refine cc_iload_n (j := 3) dX4_bring_38 rfl rfl ?_
  refine mo_rast_r (j := (124 + 27 * i + 3 + 3 * ((S.2.2 i).2.2.length) + 1)) H5 (vp_in_nI (n := (124 + 27 * i + 3 + 3 * ((S.2.2 i).2.2.length) + 1)) (by omega) (by decide)) (nI_clamp (by omega)) dX4_bring_39 (fun G6 H7 => ?_)
  refine cc_aload_n (j := 1) dX4_bring_40 rfl rfl ?_
  refine cc_get (v := .ref (o + 1)) H7.2.1 cc_c4 0 (by decide) fl_X4_7 rfl dX4_bring_41 ?_
  refine cc_iload_n (j := 0) dX4_bring_44 rfl rfl ?_
  refine cc_iconst (v := 2) dX4_bring_45 (by decide) ?_
  refine cc_iadd dX4_bring_46 ?_
  rw [show (nI (124 + 27 * i + 3 + 3 * ((S.2.2 i).2.2.length))) + 2 = nI (124 + 27 * i + 3 + 3 * ((S.2.2 i).2.2.length) + 2) from nI_add (124 + 27 * i + 3 + 3 * ((S.2.2 i).2.2.length)) 2]
  refine cc_aload_n (j := 1) dX4_bring_47 rfl rfl ?_
  refine cc_get (v := .ref (o + 1)) H7.2.1 cc_c4 0 (by decide) fl_X4_7 rfl dX4_bring_48 ?_
  refine cc_iconst (v := 0) dX4_bring_51 (by decide) ?_
  refine cc_iald (x := (upd (upd r (124 + 27 * i + 3 + 3 * ((S.2.2 i).2.2.length)) (S.1 3)) (124 + 27 * i + 3 + 3 * ((S.2.2 i).2.2.length) + 1) x2) 0) H7.2.2.1 (vp_in_nI (n := 0) (by decide) (by decide)) (by rw [show (0 : Int32).toNatClampNeg = 0 from rfl]) dX4_bring_52 ?_
  rw [show (upd (upd r (124 + 27 * i + 3 + 3 * ((S.2.2 i).2.2.length)) (S.1 3)) (124 + 27 * i + 3 + 3 * ((S.2.2 i).2.2.length) + 1) x2) 0 = S.1 0 from (pk_un (by omega)).trans ((pk_un (by omega)).trans hw.1)]
  refine mo_rast_r (j := (124 + 27 * i + 3 + 3 * ((S.2.2 i).2.2.length) + 2)) H7 (vp_in_nI (n := (124 + 27 * i + 3 + 3 * ((S.2.2 i).2.2.length) + 2)) (by omega) (by decide)) (nI_clamp (by omega)) dX4_bring_53 (fun G8 H9 => ?_)
  refine cc_aload_n (j := 1) dX4_bring_54 rfl rfl ?_
  refine cc_get (v := .ref (o + 1)) H9.2.1 cc_c4 0 (by decide) fl_X4_7 rfl dX4_bring_55 ?_
  refine cc_bipush (v := 124) dX4_bring_58 (by decide) ?_
  refine cc_bipush (v := 27) dX4_bring_60 (by decide) ?_
  refine cc_iload_n (j := 2) dX4_bring_62 rfl rfl ?_
  refine cc_imul dX4_bring_63 ?_
  rw [show 27 * (nI i) = nI (27 * i) from pk_mul 27 i]
  refine cc_iadd dX4_bring_64 ?_
  rw [show 124 + (nI (27 * i)) = nI (124 + 27 * i) from nI_add 124 (27 * i)]
  refine cc_iconst (v := 0) dX4_bring_65 (by decide) ?_
  refine cc_iadd dX4_bring_66 ?_
  rw [show (nI (124 + 27 * i)) + 0 = nI (124 + 27 * i + 0) from nI_add (124 + 27 * i) 0]
  refine cc_dup2 dX4_bring_67 rfl rfl ?_
  refine cc_iald (x := (upd (upd (upd r (124 + 27 * i + 3 + 3 * ((S.2.2 i).2.2.length)) (S.1 3)) (124 + 27 * i + 3 + 3 * ((S.2.2 i).2.2.length) + 1) x2) (124 + 27 * i + 3 + 3 * ((S.2.2 i).2.2.length) + 2) (S.1 0)) (124 + 27 * i + 0)) H9.2.2.1 (vp_in_nI (n := (124 + 27 * i + 0)) (by omega) (by decide)) (by rw [(nI_clamp (by omega))]) dX4_bring_68 ?_
  rw [show (upd (upd (upd r (124 + 27 * i + 3 + 3 * ((S.2.2 i).2.2.length)) (S.1 3)) (124 + 27 * i + 3 + 3 * ((S.2.2 i).2.2.length) + 1) x2) (124 + 27 * i + 3 + 3 * ((S.2.2 i).2.2.length) + 2) (S.1 0)) (124 + 27 * i + 0) = nI (S.2.2 i).2.2.length from (pk_un (by omega)).trans ((pk_un (by omega)).trans ((pk_un (by omega)).trans hsz))]
  refine cc_iconst (v := 1) dX4_bring_69 (by decide) ?_
  refine cc_iadd dX4_bring_70 ?_
  rw [show (nI (S.2.2 i).2.2.length) + 1 = nI ((S.2.2 i).2.2.length + 1) from nI_1 _]
  refine mo_rast_r (j := (124 + 27 * i + 0)) H9 (vp_in_nI (n := (124 + 27 * i + 0)) (by omega) (by decide)) (nI_clamp (by omega)) dX4_bring_71 (fun G10 H11 => ?_)
  refine cc_aload_n (j := 1) dX4_bring_72 rfl rfl ?_
  refine cc_get (v := .ref (o + 1)) H11.2.1 cc_c4 0 (by decide) fl_X4_7 rfl dX4_bring_73 ?_
  refine cc_iconst (v := 3) dX4_bring_76 (by decide) ?_
  refine cc_dup2 dX4_bring_77 rfl rfl ?_
  refine cc_iald (x := (upd (upd (upd (upd r (124 + 27 * i + 3 + 3 * ((S.2.2 i).2.2.length)) (S.1 3)) (124 + 27 * i + 3 + 3 * ((S.2.2 i).2.2.length) + 1) x2) (124 + 27 * i + 3 + 3 * ((S.2.2 i).2.2.length) + 2) (S.1 0)) (124 + 27 * i + 0) (nI ((S.2.2 i).2.2.length + 1))) 3) H11.2.2.1 (vp_in_nI (n := 3) (by decide) (by decide)) (by rw [show (3 : Int32).toNatClampNeg = 3 from rfl]) dX4_bring_78 ?_
  rw [show (upd (upd (upd (upd r (124 + 27 * i + 3 + 3 * ((S.2.2 i).2.2.length)) (S.1 3)) (124 + 27 * i + 3 + 3 * ((S.2.2 i).2.2.length) + 1) x2) (124 + 27 * i + 3 + 3 * ((S.2.2 i).2.2.length) + 2) (S.1 0)) (124 + 27 * i + 0) (nI ((S.2.2 i).2.2.length + 1))) 3 = S.1 3 from (pk_un (by omega)).trans ((pk_un (by omega)).trans ((pk_un (by omega)).trans ((pk_un (by omega)).trans hw.2.2.2.1)))]
  refine cc_iconst (v := 1) dX4_bring_79 (by decide) ?_
  refine cc_iadd dX4_bring_80 ?_
  rw [show (S.1 3) + 1 = S.1 3 + 1 from rfl]
  refine mo_rast_r (j := 3) H11 (vp_in_nI (n := 3) (by decide) (by decide)) rfl dX4_bring_81 (fun G12 H13 => ?_)
  refine cc_vret rfl dX4_bring_82 ?_
  refine ⟨rfl, _, H13, ?_⟩
  have hr0 : r 0 = S.1 0 := hw.1
  have hr3 : r 3 = S.1 3 := hw.2.2.2.1
  have hq2 : rq_I (upd (upd (upd (upd r (124 + 27 * i + 3 + 3 * (S.2.2 i).2.2.length) (S.1 3)) (124 + 27 * i + 3 + 3 * (S.2.2 i).2.2.length + 1) x2) (124 + 27 * i + 3 + 3 * (S.2.2 i).2.2.length + 2) (S.1 0)) (124 + 27 * i + 0) (nI ((S.2.2 i).2.2.length + 1))) (124 + 27 * i) ((S.2.2 i).1, (S.2.2 i).2.1, (S.2.2 i).2.2 ++ [(S.1 3, x2, S.1 0)]) := by
    refine rq_I.push (r := r) (bl := (S.2.2 i).1) (se := (S.2.2 i).2.1) (l := (S.2.2 i).2.2) (hw.2.2.2.2.2 i hi) hlt _ pk_us ?_ ?_ (fun x h1 h2 => ?_) ?_ ?_ ?_
    · exact (pk_un (by omega)).trans ((pk_un (by omega)).trans ((pk_un (by omega)).trans (pk_un (by omega))))
    · exact (pk_un (by omega)).trans ((pk_un (by omega)).trans ((pk_un (by omega)).trans (pk_un (by omega))))
    · exact (pk_un (by omega)).trans ((pk_un (by omega)).trans ((pk_un (by omega)).trans (pk_un (by omega))))
    · exact (pk_un (by omega)).trans ((pk_un (by omega)).trans ((pk_un (by omega)).trans (pk_ue (by omega))))
    · exact (pk_un (by omega)).trans ((pk_un (by omega)).trans (pk_ue (by omega)))
    · exact (pk_un (by omega)).trans (pk_ue (by omega))
  have hw2 := (hw.queue hi hq2 (fun q hq => (pk_un (by omega)).trans ((pk_un (by omega)).trans ((pk_un (by omega)).trans (pk_un (by omega)))))).top (k := 3) (by decide) (S.1 3 + 1)
  exact hw2

theorem cc_take_s {α : Type} {l : List α} {k : Nat} {d : α} (h : k < l.length) : l.take (k + 1) = l.take k ++ [l.getD k d] := by
  rw [List.take_succ, List.getD_eq_getElem?_getD, List.getElem?_eq_getElem h]
  rfl

set_option maxHeartbeats 4000000 in
set_option maxRecDepth 100000 in
theorem ct_X4_waits (cy : Nat → ClassId) (z : Nat) (G : cc_G) (o : Nat) (r pa qa be : Nat → Int32) (nn ia : Int32) (tx : Nat → Int32) (le ay : Int32) (hs so : Nat → Int32) (S : St_) (hw : rw_I r S) (i : Nat) (hi : i < 4) (x2 : Int32) (H : mo_R cy G G o r pa qa be nn ia tx le ay hs so)  : cc_Cn cy Y_X4_waits [.ref o, .int (nI i), .int x2] z G (cc_qi (fun r9 G' => r9 = (if x2 ∈ (S.2.2 i).2.2.map (fun p => p.1) then 1 else 0) ∧ G' = G)) := by
  have hq := hw.2.2.2.2.2 i hi
  have h8 : (S.2.2 i).2.2.length ≤ 8 := hq.2.2.2.2
  have hsz : r (124 + 27 * i + 0) = nI (S.2.2 i).2.2.length := hq.1
  have loop_5 : ∀ (f k : Nat) (w : Int32), (S.2.2 i).2.2.length < k + f → k ≤ (S.2.2 i).2.2.length → w = (if x2 ∈ ((S.2.2 i).2.2.take k).map (fun p => p.1) then 1 else 0) → cc_R cy Y_X4_waits z 5 [(4, .int (nI k)), (3, .int w), (0, .ref o), (1, .int (nI i)), (2, .int x2)] [] G (cc_qi (fun r9 G' => r9 = (if x2 ∈ (S.2.2 i).2.2.map (fun p => p.1) then 1 else 0) ∧ G' = G)) := by
    intro f
    induction f with
    | zero => intro k w h1 h2; exact absurd h1 (by omega)
    | succ f ih =>
      intro k w hf hk hW
      refine cc_iload (j := 0) dX4_waits_5 rfl ?_
      refine cc_aload_n (j := 2) dX4_waits_7 rfl rfl ?_
      refine cc_iload_n (j := 3) dX4_waits_8 rfl rfl ?_
      refine cc_iconst (v := 0) dX4_waits_9 (by decide) ?_
      refine cc_callVi (As := [.int (nI i), .int 0]) (rest := [.int (nI k)]) (ct_X4_by cy z _ _ _ _ _ _ _ _ _ _ _ _ _ i 0 (by omega) H.self) ok_X4_by (H.2.1) rfl im_X4_by sl_X4_by ml_X4_69 nd_X4_by (by decide +kernel) (Nat.le_of_ble_eq_true rfl) rfl dX4_waits_10 (fun r2 G1 q3 => ?_)
      obtain ⟨rfl, rfl⟩ := q3
      rw [show r (124 + 27 * i + 0) = nI (S.2.2 i).2.2.length from hsz]
      refine cc_icmp_ge (tgt := 47) dX4_waits_13 (by decide) (fun c_13 => ?_) (fun c_13 => ?_)
      · have hge : k = (S.2.2 i).2.2.length := by have := cc_ngt _ c_13 (by omega) (by omega); omega
        refine cc_iload_n (j := 1) dX4_waits_47 rfl rfl ?_
        refine cc_iret rfl (by rcases (show w = 1 ∨ w = 0 by rw [hW]; split; exact Or.inl rfl; exact Or.inr rfl) with e | e <;> rw [e] <;> rfl) dX4_waits_48 ?_
        refine ⟨_, rfl, hW.trans ?_, rfl⟩
        rw [hge, List.take_length]
      · have hlt : k < (S.2.2 i).2.2.length := cc_nlt _ c_13 (by omega)
        refine cc_iload_n (j := 1) dX4_waits_16 rfl rfl ?_
        refine cc_if_ne (tgt := 35) dX4_waits_17 (by decide) (fun c_17 => ?_) (fun c_17 => ?_)
        · refine cc_iconst (v := 1) dX4_waits_35 (by decide) ?_
          refine cc_goto (tgt := 40) dX4_waits_36 (by decide) ?_
          refine cc_istore_n (ls' := [(3, .int 1), (4, .int (nI k)), (0, .ref o), (1, .int (nI i)), (2, .int x2)]) dX4_waits_40 rfl (Nat.le_of_ble_eq_true rfl) rfl ?_
          refine cc_iinc (j := 1) (v := nI (k + 1)) (ls' := [(4, .int (nI (k + 1))), (3, .int 1), (0, .ref o), (1, .int (nI i)), (2, .int x2)]) dX4_waits_41 rfl (nI_1 k) (Nat.le_of_ble_eq_true rfl) rfl ?_
          refine cc_goto (tgt := 5) dX4_waits_44 (by decide) ?_
          refine cc_loc (ls' := [(4, .int (nI (k + 1))), (3, .int 1), (0, .ref o), (1, .int (nI i)), (2, .int x2)]) [0, 1, 2, 3, 4] rfl ?_
          have hT : (S.2.2 i).2.2.take (k + 1) = (S.2.2 i).2.2.take k ++ [(S.2.2 i).2.2.getD k (0, 0, 0)] := cc_take_s hlt
          have hin : x2 ∈ ((S.2.2 i).2.2.take k).map (fun p => p.1) := by
            by_cases q : x2 ∈ ((S.2.2 i).2.2.take k).map (fun p => p.1)
            · exact q
            · rw [if_neg q] at hW; exact absurd hW c_17
          exact ih (k + 1) _ (by omega) (by omega) (by rw [if_pos]; rw [hT, List.map_append]; exact List.mem_append_left _ hin)
        · refine cc_aload_n (j := 2) dX4_waits_20 rfl rfl ?_
          refine cc_iload_n (j := 3) dX4_waits_21 rfl rfl ?_
          refine cc_iconst (v := 3) dX4_waits_22 (by decide) ?_
          refine cc_iconst (v := 3) dX4_waits_23 (by decide) ?_
          refine cc_iload (j := 0) dX4_waits_24 rfl ?_
          refine cc_imul dX4_waits_26 ?_
          rw [show 3 * (nI k) = nI (3 * k) from pk_mul 3 k]
          refine cc_iadd dX4_waits_27 ?_
          rw [show 3 + (nI (3 * k)) = nI (3 + 3 * k) from nI_add 3 (3 * k)]
          refine cc_callVi (As := [.int (nI i), .int (nI (3 + 3 * k))]) (rest := []) (ct_X4_by cy z _ _ _ _ _ _ _ _ _ _ _ _ _ i (3 + 3 * k) (by omega) H.self) ok_X4_by (H.2.1) rfl im_X4_by sl_X4_by ml_X4_69 nd_X4_by (by decide +kernel) (Nat.le_of_ble_eq_true rfl) rfl dX4_waits_28 (fun r5 G4 q6 => ?_)
          obtain ⟨rfl, rfl⟩ := q6
          rw [show r (124 + 27 * i + (3 + 3 * k)) = ((S.2.2 i).2.2.getD k (0, 0, 0)).1 from (rq_at hq (k := k) (show k < (S.2.2 i).2.2.length by omega)).1]
          refine cc_iload_n (j := 4) dX4_waits_31 rfl rfl ?_
          refine cc_icmp_ne (tgt := 39) dX4_waits_32 (by decide) (fun c_32 => ?_) (fun c_32 => ?_)
          · refine cc_iconst (v := 0) dX4_waits_39 (by decide) ?_
            refine cc_istore_n (ls' := [(3, .int 0), (4, .int (nI k)), (0, .ref o), (1, .int (nI i)), (2, .int x2)]) dX4_waits_40 rfl (Nat.le_of_ble_eq_true rfl) rfl ?_
            refine cc_iinc (j := 1) (v := nI (k + 1)) (ls' := [(4, .int (nI (k + 1))), (3, .int 0), (0, .ref o), (1, .int (nI i)), (2, .int x2)]) dX4_waits_41 rfl (nI_1 k) (Nat.le_of_ble_eq_true rfl) rfl ?_
            refine cc_goto (tgt := 5) dX4_waits_44 (by decide) ?_
            refine cc_loc (ls' := [(4, .int (nI (k + 1))), (3, .int 0), (0, .ref o), (1, .int (nI i)), (2, .int x2)]) [0, 1, 2, 3, 4] rfl ?_
            have hT : (S.2.2 i).2.2.take (k + 1) = (S.2.2 i).2.2.take k ++ [(S.2.2 i).2.2.getD k (0, 0, 0)] := cc_take_s hlt
            have hni : ¬ x2 ∈ ((S.2.2 i).2.2.take k).map (fun p => p.1) := fun q => by
              rw [if_pos q] at hW
              exact absurd (hW.symm.trans c_17) (by decide)
            exact ih (k + 1) _ (by omega) (by omega) (by rw [if_neg]; rw [hT, List.map_append]; exact fun q => (List.mem_append.mp q).elim hni (fun q => c_32 (List.mem_singleton.mp q).symm))
          · refine cc_iconst (v := 1) dX4_waits_35 (by decide) ?_
            refine cc_goto (tgt := 40) dX4_waits_36 (by decide) ?_
            refine cc_istore_n (ls' := [(3, .int 1), (4, .int (nI k)), (0, .ref o), (1, .int (nI i)), (2, .int x2)]) dX4_waits_40 rfl (Nat.le_of_ble_eq_true rfl) rfl ?_
            refine cc_iinc (j := 1) (v := nI (k + 1)) (ls' := [(4, .int (nI (k + 1))), (3, .int 1), (0, .ref o), (1, .int (nI i)), (2, .int x2)]) dX4_waits_41 rfl (nI_1 k) (Nat.le_of_ble_eq_true rfl) rfl ?_
            refine cc_goto (tgt := 5) dX4_waits_44 (by decide) ?_
            refine cc_loc (ls' := [(4, .int (nI (k + 1))), (3, .int 1), (0, .ref o), (1, .int (nI i)), (2, .int x2)]) [0, 1, 2, 3, 4] rfl ?_
            have hT : (S.2.2 i).2.2.take (k + 1) = (S.2.2 i).2.2.take k ++ [(S.2.2 i).2.2.getD k (0, 0, 0)] := cc_take_s hlt
            
            exact ih (k + 1) _ (by omega) (by omega) (by rw [if_pos]; rw [hT, List.map_append]; exact List.mem_append_right _ (List.mem_singleton.mpr c_32.symm))
  refine cc_enter ok_X4_waits (Nat.le_of_ble_eq_true rfl) (ls := [(0, .ref o), (1, .int (nI i)), (2, .int x2)]) rfl ?_
  refine cc_iconst (v := 0) dX4_waits_0 (by decide) ?_
  refine cc_istore_n (ls' := [(3, .int 0), (0, .ref o), (1, .int (nI i)), (2, .int x2)]) dX4_waits_1 rfl (Nat.le_of_ble_eq_true rfl) rfl ?_
  refine cc_iconst (v := 0) dX4_waits_2 (by decide) ?_
  refine cc_istore (ls' := [(4, .int 0), (3, .int 0), (0, .ref o), (1, .int (nI i)), (2, .int x2)]) dX4_waits_3 (Nat.le_of_ble_eq_true rfl) rfl ?_
  exact loop_5 ((S.2.2 i).2.2.length + 1) 0 0 (by omega) (Nat.zero_le _) rfl

set_option maxHeartbeats 4000000 in
set_option maxRecDepth 100000 in
theorem ct_X4_waiting (cy : Nat → ClassId) (z : Nat) (G : cc_G) (o : Nat) (r pa qa be : Nat → Int32) (nn ia : Int32) (tx : Nat → Int32) (le ay : Int32) (hs so : Nat → Int32) (S : St_) (hw : rw_I r S) (x1 : Int32) (H : mo_R cy G G o r pa qa be nn ia tx le ay hs so)  : cc_Cn cy Y_X4_waiting [.ref o, .int x1] z G (cc_qi (fun r9 G' => r9 = nI (B_wt x1 S 4) ∧ G' = G)) := by
  
  have loop_12 : ∀ (i : Nat), i < 4 → cc_R cy Y_X4_waiting z 54 [(4, .int (nI (S.2.2 i).2.2.length)), (3, .int (nI i)), (2, .int (nI (B_wt x1 S i + Q_cn x1 (S.2.2 i).2.2 (S.2.2 i).2.2.length))), (0, .ref o), (1, .int x1)] [] G (cc_qi (fun r9 G' => r9 = nI (B_wt x1 S 4) ∧ G' = G)) → ∀ (f k : Nat), (S.2.2 i).2.2.length < k + f → k ≤ (S.2.2 i).2.2.length → cc_R cy Y_X4_waiting z 12 [(4, .int (nI k)), (3, .int (nI i)), (2, .int (nI (B_wt x1 S i + Q_cn x1 (S.2.2 i).2.2 k))), (0, .ref o), (1, .int x1)] [] G (cc_qi (fun r9 G' => r9 = nI (B_wt x1 S 4) ∧ G' = G)) := by
    intro i hi hx f
    have hq := hw.2.2.2.2.2 i hi
    have h8 : (S.2.2 i).2.2.length ≤ 8 := hq.2.2.2.2
    have hsz : r (124 + 27 * i + 0) = nI (S.2.2 i).2.2.length := hq.1
    induction f with
    | zero => intro k h1 h2; exact absurd h1 (by omega)
    | succ f ih =>
      intro k hf hk
      refine cc_iload (j := 0) dX4_waiting_12 rfl ?_
      refine cc_aload_n (j := 3) dX4_waiting_14 rfl rfl ?_
      refine cc_iload_n (j := 1) dX4_waiting_15 rfl rfl ?_
      refine cc_iconst (v := 0) dX4_waiting_16 (by decide) ?_
      refine cc_callVi (As := [.int (nI i), .int 0]) (rest := [.int (nI k)]) (ct_X4_by cy z _ _ _ _ _ _ _ _ _ _ _ _ _ i 0 (by omega) H.self) ok_X4_by (H.2.1) rfl im_X4_by sl_X4_by ml_X4_69 nd_X4_by (by decide +kernel) (Nat.le_of_ble_eq_true rfl) rfl dX4_waiting_17 (fun r2 G1 q3 => ?_)
      obtain ⟨rfl, rfl⟩ := q3
      rw [show r (124 + 27 * i + 0) = nI (S.2.2 i).2.2.length from hsz]
      refine cc_icmp_ge (tgt := 54) dX4_waiting_20 (by decide) (fun c_20 => ?_) (fun c_20 => ?_)
      · have hge : k = (S.2.2 i).2.2.length := by have := cc_ngt _ c_20 (by omega) (by omega); omega
        subst hge
        exact hx
      · have hlt : k < (S.2.2 i).2.2.length := cc_nlt _ c_20 (by omega)
        refine cc_iload_n (j := 2) dX4_waiting_23 rfl rfl ?_
        refine cc_aload_n (j := 3) dX4_waiting_24 rfl rfl ?_
        refine cc_iload_n (j := 1) dX4_waiting_25 rfl rfl ?_
        refine cc_iconst (v := 3) dX4_waiting_26 (by decide) ?_
        refine cc_iconst (v := 3) dX4_waiting_27 (by decide) ?_
        refine cc_iload (j := 0) dX4_waiting_28 rfl ?_
        refine cc_imul dX4_waiting_30 ?_
        rw [show 3 * (nI k) = nI (3 * k) from pk_mul 3 k]
        refine cc_iadd dX4_waiting_31 ?_
        rw [show 3 + (nI (3 * k)) = nI (3 + 3 * k) from nI_add 3 (3 * k)]
        refine cc_iconst (v := 1) dX4_waiting_32 (by decide) ?_
        refine cc_iadd dX4_waiting_33 ?_
        rw [show (nI (3 + 3 * k)) + 1 = nI (3 + 3 * k + 1) from nI_add (3 + 3 * k) 1]
        refine cc_callVi (As := [.int (nI i), .int (nI (3 + 3 * k + 1))]) (rest := [.int (nI (B_wt x1 S i + Q_cn x1 (S.2.2 i).2.2 k))]) (ct_X4_by cy z _ _ _ _ _ _ _ _ _ _ _ _ _ i (3 + 3 * k + 1) (by omega) H.self) ok_X4_by (H.2.1) rfl im_X4_by sl_X4_by ml_X4_69 nd_X4_by (by decide +kernel) (Nat.le_of_ble_eq_true rfl) rfl dX4_waiting_34 (fun r5 G4 q6 => ?_)
        obtain ⟨rfl, rfl⟩ := q6
        rw [show r (124 + 27 * i + (3 + 3 * k + 1)) = ((S.2.2 i).2.2.getD k (0, 0, 0)).2.1 from (rq_at hq (k := k) (show k < (S.2.2 i).2.2.length by omega)).2.1]
        refine cc_iload_n (j := 4) dX4_waiting_37 rfl rfl ?_
        refine cc_icmp_ne (tgt := 45) dX4_waiting_38 (by decide) (fun c_38 => ?_) (fun c_38 => ?_)
        · refine cc_iconst (v := 0) dX4_waiting_45 (by decide) ?_
          refine cc_iadd dX4_waiting_46 ?_
          rw [show (nI (B_wt x1 S i + Q_cn x1 (S.2.2 i).2.2 k)) + 0 = nI (B_wt x1 S i + Q_cn x1 (S.2.2 i).2.2 (k + 1)) from by rw [Q_cn_no c_38]; simp]
          refine cc_istore_n (ls' := [(2, .int (nI (B_wt x1 S i + Q_cn x1 (S.2.2 i).2.2 (k + 1)))), (4, .int (nI k)), (3, .int (nI i)), (0, .ref o), (1, .int x1)]) dX4_waiting_47 rfl (Nat.le_of_ble_eq_true rfl) rfl ?_
          refine cc_iinc (j := 1) (v := nI (k + 1)) (ls' := [(4, .int (nI (k + 1))), (2, .int (nI (B_wt x1 S i + Q_cn x1 (S.2.2 i).2.2 (k + 1)))), (3, .int (nI i)), (0, .ref o), (1, .int x1)]) dX4_waiting_48 rfl (nI_1 k) (Nat.le_of_ble_eq_true rfl) rfl ?_
          refine cc_goto (tgt := 12) dX4_waiting_51 (by decide) ?_
          refine cc_loc (ls' := [(4, .int (nI (k + 1))), (3, .int (nI i)), (2, .int (nI (B_wt x1 S i + Q_cn x1 (S.2.2 i).2.2 (k + 1)))), (0, .ref o), (1, .int x1)]) [0, 2, 1, 3, 4] rfl ?_
          exact ih (k + 1) (by omega) (by omega)
        · refine cc_iconst (v := 1) dX4_waiting_41 (by decide) ?_
          refine cc_goto (tgt := 46) dX4_waiting_42 (by decide) ?_
          refine cc_iadd dX4_waiting_46 ?_
          rw [show (nI (B_wt x1 S i + Q_cn x1 (S.2.2 i).2.2 k)) + 1 = nI (B_wt x1 S i + Q_cn x1 (S.2.2 i).2.2 (k + 1)) from by rw [Q_cn_yes (by simpa using c_38)]; exact nI_1 _]
          refine cc_istore_n (ls' := [(2, .int (nI (B_wt x1 S i + Q_cn x1 (S.2.2 i).2.2 (k + 1)))), (4, .int (nI k)), (3, .int (nI i)), (0, .ref o), (1, .int x1)]) dX4_waiting_47 rfl (Nat.le_of_ble_eq_true rfl) rfl ?_
          refine cc_iinc (j := 1) (v := nI (k + 1)) (ls' := [(4, .int (nI (k + 1))), (2, .int (nI (B_wt x1 S i + Q_cn x1 (S.2.2 i).2.2 (k + 1)))), (3, .int (nI i)), (0, .ref o), (1, .int x1)]) dX4_waiting_48 rfl (nI_1 k) (Nat.le_of_ble_eq_true rfl) rfl ?_
          refine cc_goto (tgt := 12) dX4_waiting_51 (by decide) ?_
          refine cc_loc (ls' := [(4, .int (nI (k + 1))), (3, .int (nI i)), (2, .int (nI (B_wt x1 S i + Q_cn x1 (S.2.2 i).2.2 (k + 1)))), (0, .ref o), (1, .int x1)]) [0, 2, 1, 3, 4] rfl ?_
          exact ih (k + 1) (by omega) (by omega)
  have loop_4 : ∀ (n i : Nat), 4 < i + n → i ≤ 4 → cc_R cy Y_X4_waiting z 4 [(3, .int (nI i)), (2, .int (nI (B_wt x1 S i))), (0, .ref o), (1, .int x1)] [] G (cc_qi (fun r9 G' => r9 = nI (B_wt x1 S 4) ∧ G' = G)) := by
    intro n
    induction n with
    | zero => intro i h1 h2; exact absurd h1 (by omega)
    | succ n ih =>
      intro i hn hi
      refine cc_iload_n (j := 0) dX4_waiting_4 rfl rfl ?_
      refine cc_iconst (v := 4) dX4_waiting_5 (by decide) ?_
      refine cc_icmp_ge (tgt := 60) dX4_waiting_6 (by decide) (fun c_6 => ?_) (fun c_6 => ?_)
      · have hge : i = 4 := by have := cc_ngt 4 c_6 (by omega) (by decide); omega
        subst hge
        refine cc_iload_n (j := 1) dX4_waiting_60 rfl rfl ?_
        refine cc_iret rfl rfl dX4_waiting_61 ?_
        exact ⟨_, rfl, rfl, rfl⟩
      · have hlt : i < 4 := cc_nlt 4 c_6 (by omega)
        refine cc_iconst (v := 0) dX4_waiting_9 (by decide) ?_
        refine cc_istore (ls' := [(4, .int 0), (3, .int (nI i)), (2, .int (nI (B_wt x1 S i))), (0, .ref o), (1, .int x1)]) dX4_waiting_10 (Nat.le_of_ble_eq_true rfl) rfl ?_
        refine loop_12 i hlt ?_ ((S.2.2 i).2.2.length + 1) 0 (by omega) (Nat.zero_le _)
        rw [show nI (B_wt x1 S i + Q_cn x1 (S.2.2 i).2.2 (S.2.2 i).2.2.length) = nI (B_wt x1 S (i + 1)) from rfl]
        refine cc_iinc (j := 1) (v := nI (i + 1)) (ls' := [(3, .int (nI (i + 1))), (4, .int (nI (S.2.2 i).2.2.length)), (2, .int (nI (B_wt x1 S (i + 1)))), (0, .ref o), (1, .int x1)]) dX4_waiting_54 rfl (nI_1 i) (Nat.le_of_ble_eq_true rfl) rfl ?_
        refine cc_goto (tgt := 4) dX4_waiting_57 (by decide) ?_
        refine cc_loc (ls' := [(3, .int (nI (i + 1))), (2, .int (nI (B_wt x1 S (i + 1)))), (0, .ref o), (1, .int x1)]) [0, 2, 3, 4] rfl ?_
        exact ih (i + 1) (by omega) (by omega)
        
  refine cc_enter ok_X4_waiting (Nat.le_of_ble_eq_true rfl) (ls := [(0, .ref o), (1, .int x1)]) rfl ?_
  refine cc_iconst (v := 0) dX4_waiting_0 (by decide) ?_
  refine cc_istore_n (ls' := [(2, .int 0), (0, .ref o), (1, .int x1)]) dX4_waiting_1 rfl (Nat.le_of_ble_eq_true rfl) rfl ?_
  refine cc_iconst (v := 0) dX4_waiting_2 (by decide) ?_
  refine cc_istore_n (ls' := [(3, .int 0), (2, .int 0), (0, .ref o), (1, .int x1)]) dX4_waiting_3 rfl (Nat.le_of_ble_eq_true rfl) rfl ?_
  exact loop_4 5 0 (by omega) (by omega)

set_option maxHeartbeats 4000000 in
set_option maxRecDepth 100000 in
theorem ct_X4_isStuck (cy : Nat → ClassId) (z : Nat) (G : cc_G) (o : Nat) (r pa qa be : Nat → Int32) (nn ia : Int32) (tx : Nat → Int32) (le ay : Int32) (hs so : Nat → Int32) (S : St_) (hw : rw_I r S) (i : Nat) (hi : i < 4) (H : mo_R cy G G o r pa qa be nn ia tx le ay hs so)  : cc_Cn cy Y_X4_isStuck [.ref o, .int (nI i)] z G (cc_qi (fun r9 G' => r9 = nI (B_stb S i) ∧ G' = G)) := by
  have hl := hw.2.2.2.2.1 i hi
  refine cc_enter ok_X4_isStuck (Nat.le_of_ble_eq_true rfl) (ls := [(0, .ref o), (1, .int (nI i))]) rfl ?_
  refine cc_aload_n (j := 0) dX4_isStuck_0 rfl rfl ?_
  refine cc_iload_n (j := 1) dX4_isStuck_1 rfl rfl ?_
  refine cc_callVi (As := [.int (nI i)]) (rest := []) (ct_X4_waiting cy z _ _ _ _ _ _ _ _ _ _ _ _ _ S hw (nI i) H.self) ok_X4_waiting (H.2.1) rfl im_X4_waiting sl_X4_waiting ml_X4_126 nd_X4_waiting (by decide +kernel) (Nat.le_of_ble_eq_true rfl) rfl dX4_isStuck_2 (fun r2 G1 q3 => ?_)
  obtain ⟨rfl, rfl⟩ := q3
  refine cc_if_le (tgt := 50) dX4_isStuck_5 (by decide) (fun c_5 => ?_) (fun c_5 => ?_)
  · refine cc_iconst (v := 0) dX4_isStuck_50 (by decide) ?_
    refine cc_iret rfl rfl dX4_isStuck_51 ?_
    refine ⟨_, rfl, ?_, rfl⟩
    rw [show B_stb S i = 0 from if_neg (fun h => absurd h.2.2 (Int32.not_lt.mpr c_5))]
    rfl
  · refine cc_aload_n (j := 0) dX4_isStuck_8 rfl rfl ?_
    refine cc_iload_n (j := 1) dX4_isStuck_9 rfl rfl ?_
    refine cc_iconst (v := 3) dX4_isStuck_10 (by decide) ?_
    refine cc_callVi (As := [.int (nI i), .int 3]) (rest := []) (ct_X4_of cy z _ _ _ _ _ _ _ _ _ _ _ _ _ i 3 (by omega) H.self) ok_X4_of (H.2.1) rfl im_X4_of sl_X4_of ml_X4_62 nd_X4_of (by decide +kernel) (Nat.le_of_ble_eq_true rfl) rfl dX4_isStuck_11 (fun r5 G4 q6 => ?_)
    obtain ⟨rfl, rfl⟩ := q6
    rw [show r (4 + 30 * i + 3) = (S.2.1 i).1 3 from hl.1 3 (by decide)]
    refine cc_if_gt (tgt := 50) dX4_isStuck_14 (by decide) (fun c_14 => ?_) (fun c_14 => ?_)
    · refine cc_iconst (v := 0) dX4_isStuck_50 (by decide) ?_
      refine cc_iret rfl rfl dX4_isStuck_51 ?_
      refine ⟨_, rfl, ?_, rfl⟩
      rw [show B_stb S i = 0 from if_neg (fun h => absurd h.2.1.1 (Int32.not_le.mpr c_14))]
      rfl
    · refine cc_aload_n (j := 0) dX4_isStuck_17 rfl rfl ?_
      refine cc_iload_n (j := 1) dX4_isStuck_18 rfl rfl ?_
      refine cc_bipush (v := 9) dX4_isStuck_19 (by decide) ?_
      refine cc_callVi (As := [.int (nI i), .int 9]) (rest := []) (ct_X4_of cy z _ _ _ _ _ _ _ _ _ _ _ _ _ i 9 (by omega) H.self) ok_X4_of (H.2.1) rfl im_X4_of sl_X4_of ml_X4_62 nd_X4_of (by decide +kernel) (Nat.le_of_ble_eq_true rfl) rfl dX4_isStuck_21 (fun r8 G7 q9 => ?_)
      obtain ⟨rfl, rfl⟩ := q9
      rw [show r (4 + 30 * i + 9) = nI (S.2.1 i).2.1.length from hl.2.1]
      refine cc_if_ne (tgt := 50) dX4_isStuck_24 (by decide) (fun c_24 => ?_) (fun c_24 => ?_)
      · refine cc_iconst (v := 0) dX4_isStuck_50 (by decide) ?_
        refine cc_iret rfl rfl dX4_isStuck_51 ?_
        refine ⟨_, rfl, ?_, rfl⟩
        rw [show B_stb S i = 0 from if_neg (fun h => c_24 h.2.1.2.1)]
        rfl
      · refine cc_aload_n (j := 0) dX4_isStuck_27 rfl rfl ?_
        refine cc_iload_n (j := 1) dX4_isStuck_28 rfl rfl ?_
        refine cc_bipush (v := 10) dX4_isStuck_29 (by decide) ?_
        refine cc_callVi (As := [.int (nI i), .int 10]) (rest := []) (ct_X4_of cy z _ _ _ _ _ _ _ _ _ _ _ _ _ i 10 (by omega) H.self) ok_X4_of (H.2.1) rfl im_X4_of sl_X4_of ml_X4_62 nd_X4_of (by decide +kernel) (Nat.le_of_ble_eq_true rfl) rfl dX4_isStuck_31 (fun r11 G10 q12 => ?_)
        obtain ⟨rfl, rfl⟩ := q12
        rw [show r (4 + 30 * i + 10) = nI (S.2.1 i).2.2.length from hl.2.2.1]
        refine cc_if_ne (tgt := 50) dX4_isStuck_34 (by decide) (fun c_34 => ?_) (fun c_34 => ?_)
        · refine cc_iconst (v := 0) dX4_isStuck_50 (by decide) ?_
          refine cc_iret rfl rfl dX4_isStuck_51 ?_
          refine ⟨_, rfl, ?_, rfl⟩
          rw [show B_stb S i = 0 from if_neg (fun h => c_34 h.2.1.2.2)]
          rfl
        · refine cc_aload_n (j := 0) dX4_isStuck_37 rfl rfl ?_
          refine cc_get (v := .ref (o + 1)) H.2.1 cc_c4 0 (by decide) fl_X4_7 rfl dX4_isStuck_38 ?_
          refine cc_iconst (v := 2) dX4_isStuck_41 (by decide) ?_
          refine cc_iald (x := r 2) H.2.2.1 (vp_in_nI (n := 2) (by decide) (by decide)) (by rw [show (2 : Int32).toNatClampNeg = 2 from rfl]) dX4_isStuck_42 ?_
          rw [show r 2 = S.1 2 from hw.2.2.1]
          refine cc_if_ne (tgt := 50) dX4_isStuck_43 (by decide) (fun c_43 => ?_) (fun c_43 => ?_)
          · refine cc_iconst (v := 0) dX4_isStuck_50 (by decide) ?_
            refine cc_iret rfl rfl dX4_isStuck_51 ?_
            refine ⟨_, rfl, ?_, rfl⟩
            rw [show B_stb S i = 0 from if_neg (fun h => c_43 h.1)]
            rfl
          · refine cc_iconst (v := 1) dX4_isStuck_46 (by decide) ?_
            refine cc_goto (tgt := 51) dX4_isStuck_47 (by decide) ?_
            refine cc_iret rfl rfl dX4_isStuck_51 ?_
            refine ⟨_, rfl, ?_, rfl⟩
            rw [show B_stb S i = 1 from if_pos ⟨by simpa using c_43, ⟨Int32.not_lt.mp c_14, by simpa using c_24, by simpa using c_34⟩, Int32.not_le.mp c_5⟩]
            rfl

def mo_sm (F : Nat → Int32) : Nat → Int32
  | 0 => 0
  | i + 1 => mo_sm F i + F i

set_option maxHeartbeats 4000000 in
set_option maxRecDepth 100000 in
theorem ct_X4_over_l (cy : Nat → ClassId) (z : Nat) (G : cc_G) (o : Nat) (r pa qa be : Nat → Int32) (nn ia : Int32) (tx : Nat → Int32) (le ay : Int32) (hs so : Nat → Int32) (F : Nat → Int32) (f9 : Nat) (hf9 : f9 < 30) (hF : ∀ i, i < 4 → r (4 + 30 * i + f9) = F i) (H : mo_R cy G G o r pa qa be nn ia tx le ay hs so)  : cc_Cn cy Y_X4_over [.ref o, .int (nI f9), .int 0] z G (cc_qi (fun r9 G' => r9 = mo_sm F 4 ∧ G' = G)) := by
  
  have loop_5 : ∀ (n i : Nat), 4 < i + n → i ≤ 4 → cc_R cy Y_X4_over z 5 [(4, .int (nI i)), (3, .int (mo_sm F i)), (0, .ref o), (1, .int (nI f9)), (2, .int 0)] [] G (cc_qi (fun r9 G' => r9 = mo_sm F 4 ∧ G' = G)) := by
    intro n
    induction n with
    | zero => intro i h1 h2; exact absurd h1 (by omega)
    | succ n ih =>
      intro i hn hi
      refine cc_iload (j := 0) dX4_over_5 rfl ?_
      refine cc_iconst (v := 4) dX4_over_7 (by decide) ?_
      refine cc_icmp_ge (tgt := 41) dX4_over_8 (by decide) (fun c_8 => ?_) (fun c_8 => ?_)
      · have hge : i = 4 := by have := cc_ngt 4 c_8 (by omega) (by decide); omega
        subst hge
        refine cc_iload_n (j := 1) dX4_over_41 rfl rfl ?_
        refine cc_iret rfl rfl dX4_over_42 ?_
        exact ⟨_, rfl, rfl, rfl⟩
      · have hlt : i < 4 := cc_nlt 4 c_8 (by omega)
        refine cc_iload_n (j := 1) dX4_over_11 rfl rfl ?_
        refine cc_iload_n (j := 4) dX4_over_12 rfl rfl ?_
        refine cc_if_eq (tgt := 26) dX4_over_13 (by decide) (fun c_13 => ?_) (fun c_13 => ?_)
        · refine cc_aload_n (j := 2) dX4_over_26 rfl rfl ?_
          refine cc_iload (j := 0) dX4_over_27 rfl ?_
          refine cc_iload_n (j := 3) dX4_over_29 rfl rfl ?_
          refine cc_callVi (As := [.int (nI i), .int (nI f9)]) (rest := [.int (mo_sm F i)]) (ct_X4_of cy z _ _ _ _ _ _ _ _ _ _ _ _ _ i f9 (by omega) H.self) ok_X4_of (H.2.1) rfl im_X4_of sl_X4_of ml_X4_62 nd_X4_of (by decide +kernel) (Nat.le_of_ble_eq_true rfl) rfl dX4_over_30 (fun r2 G1 q3 => ?_)
          obtain ⟨rfl, rfl⟩ := q3
          rw [show r (4 + 30 * i + f9) = F i from hF i hlt]
          refine cc_iadd dX4_over_33 ?_
          rw [show (mo_sm F i) + (F i) = mo_sm F (i + 1) from rfl]
          refine cc_istore_n (ls' := [(3, .int (mo_sm F (i + 1))), (4, .int (nI i)), (0, .ref o), (1, .int (nI f9)), (2, .int 0)]) dX4_over_34 rfl (Nat.le_of_ble_eq_true rfl) rfl ?_
          refine cc_iinc (j := 1) (v := nI (i + 1)) (ls' := [(4, .int (nI (i + 1))), (3, .int (mo_sm F (i + 1))), (0, .ref o), (1, .int (nI f9)), (2, .int 0)]) dX4_over_35 rfl (nI_1 i) (Nat.le_of_ble_eq_true rfl) rfl ?_
          refine cc_goto (tgt := 5) dX4_over_38 (by decide) ?_
          refine cc_loc (ls' := [(4, .int (nI (i + 1))), (3, .int (mo_sm F (i + 1))), (0, .ref o), (1, .int (nI f9)), (2, .int 0)]) [0, 1, 2, 3, 4] rfl ?_
          exact ih (i + 1) (by omega) (by omega)
        · exact absurd c_13 (by decide)
  refine cc_enter ok_X4_over (Nat.le_of_ble_eq_true rfl) (ls := [(0, .ref o), (1, .int (nI f9)), (2, .int 0)]) rfl ?_
  refine cc_iconst (v := 0) dX4_over_0 (by decide) ?_
  refine cc_istore_n (ls' := [(3, .int 0), (0, .ref o), (1, .int (nI f9)), (2, .int 0)]) dX4_over_1 rfl (Nat.le_of_ble_eq_true rfl) rfl ?_
  refine cc_iconst (v := 0) dX4_over_2 (by decide) ?_
  refine cc_istore (ls' := [(4, .int 0), (3, .int 0), (0, .ref o), (1, .int (nI f9)), (2, .int 0)]) dX4_over_3 (Nat.le_of_ble_eq_true rfl) rfl ?_
  exact loop_5 5 0 (by omega) (by omega)

set_option maxHeartbeats 4000000 in
set_option maxRecDepth 100000 in
theorem ct_X4_over_q (cy : Nat → ClassId) (z : Nat) (G : cc_G) (o : Nat) (r pa qa be : Nat → Int32) (nn ia : Int32) (tx : Nat → Int32) (le ay : Int32) (hs so : Nat → Int32) (F : Nat → Int32) (f9 : Nat) (hf9 : f9 < 27) (hF : ∀ i, i < 4 → r (124 + 27 * i + f9) = F i) (H : mo_R cy G G o r pa qa be nn ia tx le ay hs so)  : cc_Cn cy Y_X4_over [.ref o, .int (nI f9), .int 1] z G (cc_qi (fun r9 G' => r9 = mo_sm F 4 ∧ G' = G)) := by
  
  have loop_5 : ∀ (n i : Nat), 4 < i + n → i ≤ 4 → cc_R cy Y_X4_over z 5 [(4, .int (nI i)), (3, .int (mo_sm F i)), (0, .ref o), (1, .int (nI f9)), (2, .int 1)] [] G (cc_qi (fun r9 G' => r9 = mo_sm F 4 ∧ G' = G)) := by
    intro n
    induction n with
    | zero => intro i h1 h2; exact absurd h1 (by omega)
    | succ n ih =>
      intro i hn hi
      refine cc_iload (j := 0) dX4_over_5 rfl ?_
      refine cc_iconst (v := 4) dX4_over_7 (by decide) ?_
      refine cc_icmp_ge (tgt := 41) dX4_over_8 (by decide) (fun c_8 => ?_) (fun c_8 => ?_)
      · have hge : i = 4 := by have := cc_ngt 4 c_8 (by omega) (by decide); omega
        subst hge
        refine cc_iload_n (j := 1) dX4_over_41 rfl rfl ?_
        refine cc_iret rfl rfl dX4_over_42 ?_
        exact ⟨_, rfl, rfl, rfl⟩
      · have hlt : i < 4 := cc_nlt 4 c_8 (by omega)
        refine cc_iload_n (j := 1) dX4_over_11 rfl rfl ?_
        refine cc_iload_n (j := 4) dX4_over_12 rfl rfl ?_
        refine cc_if_eq (tgt := 26) dX4_over_13 (by decide) (fun c_13 => ?_) (fun c_13 => ?_)
        · exact absurd c_13 (by decide)
        · refine cc_aload_n (j := 2) dX4_over_16 rfl rfl ?_
          refine cc_iload (j := 0) dX4_over_17 rfl ?_
          refine cc_iload_n (j := 3) dX4_over_19 rfl rfl ?_
          refine cc_callVi (As := [.int (nI i), .int (nI f9)]) (rest := [.int (mo_sm F i)]) (ct_X4_by cy z _ _ _ _ _ _ _ _ _ _ _ _ _ i f9 (by omega) H.self) ok_X4_by (H.2.1) rfl im_X4_by sl_X4_by ml_X4_69 nd_X4_by (by decide +kernel) (Nat.le_of_ble_eq_true rfl) rfl dX4_over_20 (fun r2 G1 q3 => ?_)
          obtain ⟨rfl, rfl⟩ := q3
          rw [show r (124 + 27 * i + f9) = F i from hF i hlt]
          refine cc_goto (tgt := 33) dX4_over_23 (by decide) ?_
          refine cc_iadd dX4_over_33 ?_
          rw [show (mo_sm F i) + (F i) = mo_sm F (i + 1) from rfl]
          refine cc_istore_n (ls' := [(3, .int (mo_sm F (i + 1))), (4, .int (nI i)), (0, .ref o), (1, .int (nI f9)), (2, .int 1)]) dX4_over_34 rfl (Nat.le_of_ble_eq_true rfl) rfl ?_
          refine cc_iinc (j := 1) (v := nI (i + 1)) (ls' := [(4, .int (nI (i + 1))), (3, .int (mo_sm F (i + 1))), (0, .ref o), (1, .int (nI f9)), (2, .int 1)]) dX4_over_35 rfl (nI_1 i) (Nat.le_of_ble_eq_true rfl) rfl ?_
          refine cc_goto (tgt := 5) dX4_over_38 (by decide) ?_
          refine cc_loc (ls' := [(4, .int (nI (i + 1))), (3, .int (mo_sm F (i + 1))), (0, .ref o), (1, .int (nI f9)), (2, .int 1)]) [0, 1, 2, 3, 4] rfl ?_
          exact ih (i + 1) (by omega) (by omega)
  refine cc_enter ok_X4_over (Nat.le_of_ble_eq_true rfl) (ls := [(0, .ref o), (1, .int (nI f9)), (2, .int 1)]) rfl ?_
  refine cc_iconst (v := 0) dX4_over_0 (by decide) ?_
  refine cc_istore_n (ls' := [(3, .int 0), (0, .ref o), (1, .int (nI f9)), (2, .int 1)]) dX4_over_1 rfl (Nat.le_of_ble_eq_true rfl) rfl ?_
  refine cc_iconst (v := 0) dX4_over_2 (by decide) ?_
  refine cc_istore (ls' := [(4, .int 0), (3, .int 0), (0, .ref o), (1, .int (nI f9)), (2, .int 1)]) dX4_over_3 (Nat.le_of_ble_eq_true rfl) rfl ?_
  exact loop_5 5 0 (by omega) (by omega)

set_option maxHeartbeats 4000000 in
set_option maxRecDepth 100000 in
theorem ct_X4_stuckOnes (cy : Nat → ClassId) (z : Nat) (G : cc_G) (o : Nat) (r pa qa be : Nat → Int32) (nn ia : Int32) (tx : Nat → Int32) (le ay : Int32) (hs so : Nat → Int32) (S : St_) (hw : rw_I r S) (H : mo_R cy G G o r pa qa be nn ia tx le ay hs so)  : cc_Cn cy Y_X4_stuckOnes [.ref o] z G (cc_qi (fun r9 G' => r9 = nI (B_stn S 4) ∧ G' = G)) := by
  
  have loop_4 : ∀ (n i : Nat), 4 < i + n → i ≤ 4 → cc_R cy Y_X4_stuckOnes z 4 [(2, .int (nI i)), (1, .int (nI (B_stn S i))), (0, .ref o)] [] G (cc_qi (fun r9 G' => r9 = nI (B_stn S 4) ∧ G' = G)) := by
    intro n
    induction n with
    | zero => intro i h1 h2; exact absurd h1 (by omega)
    | succ n ih =>
      intro i hn hi
      refine cc_iload_n (j := 0) dX4_stuckOnes_4 rfl rfl ?_
      refine cc_iconst (v := 4) dX4_stuckOnes_5 (by decide) ?_
      refine cc_icmp_ge (tgt := 31) dX4_stuckOnes_6 (by decide) (fun c_6 => ?_) (fun c_6 => ?_)
      · have hge : i = 4 := by have := cc_ngt 4 c_6 (by omega) (by decide); omega
        subst hge
        refine cc_iload_n (j := 1) dX4_stuckOnes_31 rfl rfl ?_
        refine cc_iret rfl rfl dX4_stuckOnes_32 ?_
        exact ⟨_, rfl, rfl, rfl⟩
      · have hlt : i < 4 := cc_nlt 4 c_6 (by omega)
        refine cc_iload_n (j := 1) dX4_stuckOnes_9 rfl rfl ?_
        refine cc_aload_n (j := 2) dX4_stuckOnes_10 rfl rfl ?_
        refine cc_iload_n (j := 0) dX4_stuckOnes_11 rfl rfl ?_
        refine cc_callVi (As := [.int (nI i)]) (rest := [.int (nI (B_stn S i))]) (ct_X4_isStuck cy z _ _ _ _ _ _ _ _ _ _ _ _ _ S hw i hlt H.self) ok_X4_isStuck (H.2.1) rfl im_X4_isStuck sl_X4_isStuck ml_X4_129 nd_X4_isStuck (by decide +kernel) (Nat.le_of_ble_eq_true rfl) rfl dX4_stuckOnes_12 (fun r2 G1 q3 => ?_)
        obtain ⟨rfl, rfl⟩ := q3
        rcases B_stb_01 S i with hsb | hsb
        · rw [show nI (B_stb S i) = 0 by rw [hsb]; rfl]
          refine cc_if_eq (tgt := 22) dX4_stuckOnes_15 (by decide) (fun c_15 => ?_) (fun c_15 => ?_)
          · refine cc_iconst (v := 0) dX4_stuckOnes_22 (by decide) ?_
            refine cc_iadd dX4_stuckOnes_23 ?_
            rw [show (nI (B_stn S i)) + 0 = nI (B_stn S (i + 1)) from by rw [show B_stn S (i + 1) = B_stn S i + B_stb S i from rfl, hsb]; simp]
            refine cc_istore_n (ls' := [(1, .int (nI (B_stn S (i + 1)))), (2, .int (nI i)), (0, .ref o)]) dX4_stuckOnes_24 rfl (Nat.le_of_ble_eq_true rfl) rfl ?_
            refine cc_iinc (j := 1) (v := nI (i + 1)) (ls' := [(2, .int (nI (i + 1))), (1, .int (nI (B_stn S (i + 1)))), (0, .ref o)]) dX4_stuckOnes_25 rfl (nI_1 i) (Nat.le_of_ble_eq_true rfl) rfl ?_
            refine cc_goto (tgt := 4) dX4_stuckOnes_28 (by decide) ?_
            refine cc_loc (ls' := [(2, .int (nI (i + 1))), (1, .int (nI (B_stn S (i + 1)))), (0, .ref o)]) [0, 1, 2] rfl ?_
            exact ih (i + 1) (by omega) (by omega)
          · exact absurd c_15 (by decide)
        · rw [show nI (B_stb S i) = 1 by rw [hsb]; rfl]
          refine cc_if_eq (tgt := 22) dX4_stuckOnes_15 (by decide) (fun c_15_1 => ?_) (fun c_15_1 => ?_)
          · exact absurd c_15_1 (by decide)
          · refine cc_iconst (v := 1) dX4_stuckOnes_18 (by decide) ?_
            refine cc_goto (tgt := 23) dX4_stuckOnes_19 (by decide) ?_
            refine cc_iadd dX4_stuckOnes_23 ?_
            rw [show (nI (B_stn S i)) + 1 = nI (B_stn S (i + 1)) from by rw [show B_stn S (i + 1) = B_stn S i + B_stb S i from rfl, hsb]; exact nI_1 _]
            refine cc_istore_n (ls' := [(1, .int (nI (B_stn S (i + 1)))), (2, .int (nI i)), (0, .ref o)]) dX4_stuckOnes_24 rfl (Nat.le_of_ble_eq_true rfl) rfl ?_
            refine cc_iinc (j := 1) (v := nI (i + 1)) (ls' := [(2, .int (nI (i + 1))), (1, .int (nI (B_stn S (i + 1)))), (0, .ref o)]) dX4_stuckOnes_25 rfl (nI_1 i) (Nat.le_of_ble_eq_true rfl) rfl ?_
            refine cc_goto (tgt := 4) dX4_stuckOnes_28 (by decide) ?_
            refine cc_loc (ls' := [(2, .int (nI (i + 1))), (1, .int (nI (B_stn S (i + 1)))), (0, .ref o)]) [0, 1, 2] rfl ?_
            exact ih (i + 1) (by omega) (by omega)
  refine cc_enter ok_X4_stuckOnes (Nat.le_of_ble_eq_true rfl) (ls := [(0, .ref o)]) rfl ?_
  refine cc_iconst (v := 0) dX4_stuckOnes_0 (by decide) ?_
  refine cc_istore_n (ls' := [(1, .int 0), (0, .ref o)]) dX4_stuckOnes_1 rfl (Nat.le_of_ble_eq_true rfl) rfl ?_
  refine cc_iconst (v := 0) dX4_stuckOnes_2 (by decide) ?_
  refine cc_istore_n (ls' := [(2, .int 0), (1, .int 0), (0, .ref o)]) dX4_stuckOnes_3 rfl (Nat.le_of_ble_eq_true rfl) rfl ?_
  exact loop_4 5 0 (by omega) (by omega)
