theorem ca_I.text {cy : Nat → ClassId} {G0 G : cc_G} {h : Nat} {c : CS_} (H : ca_I cy G0 G h c) : ∃ tx, G (h + 95) = some (.inl (cy 0, 60, .inl tx)) ∧ ar_ tx c.2.2.2 ∧ c.2.2.2.length ≤ 60 := by
  obtain ⟨BS, hS, π, tx, h1, h2, h3, h4, h5, h6, h7, h8⟩ := H
  exact ⟨tx, h1.2.2.2.2, h7, h8⟩
theorem A_go_s {u : Nat → Int32} {n f a acc i o m w : Nat} {S : St_} (h : a + 2 < n) (ei : u a = nI (48 + i)) (eo : u (a + 2) = nI (48 + o)) (em : T_m u n a = m) (ew : T_w u n a = w) (hi : i < 4) : A_go u n (f + 1) a acc S = if (S.2.2 i).2.2.length + m ≤ 8 then A_go u n f (a + w) (acc + m) (A_many i (nI o) m S) else none := by
  conv => { lhs; unfold A_go }
  rw [if_pos h, em, ew, ei, eo, T_ci (by omega), T_c48]
theorem T_m_y {u : Nat → Int32} {n a m : Nat} (h : T_tl u n a) (e : u (a + 4) = nI (48 + m)) (hm : m ≤ 9) : T_m u n a = m ∧ T_w u n a = 6 := by
  unfold T_m T_w
  rw [if_pos h, if_pos h, e, T_ci (by omega)]
  exact ⟨rfl, rfl⟩
theorem T_m_n {u : Nat → Int32} {n a : Nat} (h : ¬ T_tl u n a) : T_m u n a = 1 ∧ T_w u n a = 4 := by
  unfold T_m T_w
  rw [if_neg h, if_neg h]
  exact ⟨rfl, rfl⟩

theorem bx_E.q8 {cy : Nat → ClassId} {G0 G : cc_G} {b : Nat} {S : St_} (h : bx_E cy G0 G b S) {i : Nat} (hi : i < 4) : (S.2.2 i).2.2.length ≤ 8 := by
  obtain ⟨hs, h⟩ := h
  obtain ⟨_, _, _, _, _, h8⟩ := h.2.2.2.2.2 i hi
  exact h8

set_option maxHeartbeats 4000000 in
set_option maxRecDepth 100000 in
theorem ct_X3_admitTextToTrial (cy : Nat → ClassId) (z : Nat) (G : cc_G) (h : Nat) (S : St_) (sn : Option St_) (hi : List St_) (t : List Int32) (S0 : St_) (hF : T_flt (C_u (S, sn, hi, t)) t.length 0 = none) (hE : bx_E cy G G (h + 32) S0) (hI : ca_I cy G G h (S, sn, hi, t)) : cc_Cn cy Y_X3_admitTextToTrial [.ref h] z G (cc_qi (fun r G' => ca_I cy G G' h (S, sn, hi, t) ∧ ((A_go (C_u (S, sn, hi, t)) t.length 20 0 0 S0 = none ∧ r = -3) ∨ ∃ m S', A_go (C_u (S, sn, hi, t)) t.length 20 0 0 S0 = some (m, S') ∧ r = nI m ∧ bx_E cy G' G' (h + 32) S'))) := by
  have h60 : t.length ≤ 60 := by
    obtain ⟨tx, -, -, h60⟩ := hI.text
    exact h60
  have loop_81 : ∀ (i o m a acc : Nat) (St : St_), i < 4 → (∀ G2, ca_I cy G G2 h (S, sn, hi, t) → bx_E cy G2 G2 (h + 32) (A_many i (nI o) m St) → cc_R cy Y_X3_admitTextToTrial z 105 [(6, .int (nI m)), (5, .int (nI m)), (4, .int (nI o)), (3, .int (nI i)), (2, .int (nI a)), (1, .int (nI acc)), (0, .ref h)] [] G2 (cc_qi (fun r G' => ca_I cy G G' h (S, sn, hi, t) ∧ ((A_go (C_u (S, sn, hi, t)) t.length 20 0 0 S0 = none ∧ r = -3) ∨ ∃ m S', A_go (C_u (S, sn, hi, t)) t.length 20 0 0 S0 = some (m, S') ∧ r = nI m ∧ bx_E cy G' G' (h + 32) S')))) → (St.2.2 i).2.2.length + m ≤ 8 → ∀ (f k : Nat) (G1 : cc_G), m < k + f → k ≤ m → ca_I cy G G1 h (S, sn, hi, t) → bx_E cy G1 G1 (h + 32) (A_many i (nI o) k St) → cc_R cy Y_X3_admitTextToTrial z 81 [(6, .int (nI k)), (5, .int (nI m)), (4, .int (nI o)), (3, .int (nI i)), (2, .int (nI a)), (1, .int (nI acc)), (0, .ref h)] [] G1 (cc_qi (fun r G' => ca_I cy G G' h (S, sn, hi, t) ∧ ((A_go (C_u (S, sn, hi, t)) t.length 20 0 0 S0 = none ∧ r = -3) ∨ ∃ m S', A_go (C_u (S, sn, hi, t)) t.length 20 0 0 S0 = some (m, S') ∧ r = nI m ∧ bx_E cy G' G' (h + 32) S'))) := by
    intro i o m a acc St hi4 hx h8m f
    induction f with
    | zero => intro k G1 h1 h2; exact absurd h1 (by omega)
    | succ f ih =>
      intro k G1 hf hk hI hE
      have hlen : ((A_many i (nI o) k St).2.2 i).2.2.length = (St.2.2 i).2.2.length + k := A_many_len k
      obtain ⟨hsT, hT0⟩ := hE
      refine cc_iload (j := 0) dX3_admitTextToTrial_81 rfl ?_
      refine cc_iload (j := 1) dX3_admitTextToTrial_83 rfl ?_
      refine cc_icmp_ge (tgt := 105) dX3_admitTextToTrial_85 (by decide) (fun c_85 => ?_) (fun c_85 => ?_)
      · have hge : k = m := by have := cc_ngt _ c_85 (by omega) (by omega); omega
        subst hge
        exact hx _ hI ⟨_, hT0⟩
      · have hlk : k < m := cc_nlt _ c_85 (by omega)
        have hlt : ((A_many i (nI o) k St).2.2 i).2.2.length < 8 := by omega
        refine cc_aload_n (j := 6) dX3_admitTextToTrial_88 rfl rfl ?_
        obtain ⟨hs1, hO2⟩ := hI.obj
        refine cc_get (v := .ref (h + 32)) hO2 cc_c3 1 (by decide) fl_X3_16 rfl dX3_admitTextToTrial_89 ?_
        refine cc_iload_n (j := 3) dX3_admitTextToTrial_92 rfl rfl ?_
        refine cc_iload (j := 2) dX3_admitTextToTrial_93 rfl ?_
        refine cc_callNi (As := [.int (nI i), .int (nI o)]) (rest := []) (ct_X0_admit cy z _ _ (A_many i (nI o) k St) i hi4 (nI o) hlt ⟨_, hT0⟩) ok_X0_admit (hT0.2.1) rfl im_X0_admit sl_X0_admit mn_X3_81 nd_X0_admit (by decide +kernel) (Nat.le_of_ble_eq_true rfl) rfl dX3_admitTextToTrial_95 (fun r4 G3 q5 => ?_)
        obtain ⟨rfl, q5⟩ := q5
        have hI6 := hI.trialup q5
        have hEk : bx_E cy _ _ (h + 32) (A_many i (nI o) (k + 1) St) := q5.self
        refine cc_pop dX3_admitTextToTrial_98 rfl ?_
        refine cc_iinc (j := 0) (v := nI (k + 1)) (ls' := [(6, .int (nI (k + 1))), (5, .int (nI m)), (4, .int (nI o)), (3, .int (nI i)), (2, .int (nI a)), (1, .int (nI acc)), (0, .ref h)]) dX3_admitTextToTrial_99 rfl (nI_1 k) (Nat.le_of_ble_eq_true rfl) rfl ?_
        refine cc_goto (tgt := 81) dX3_admitTextToTrial_102 (by decide) ?_
        refine cc_loc (ls' := [(6, .int (nI (k + 1))), (5, .int (nI m)), (4, .int (nI o)), (3, .int (nI i)), (2, .int (nI a)), (1, .int (nI acc)), (0, .ref h)]) [0, 1, 2, 3, 4, 5, 6] rfl ?_
        exact ih (k + 1) _ (by omega) (by omega) hI6 hEk
  have loop_4 : ∀ (g f a acc : Nat) (St : St_) (G1 : cc_G), 66 < a + g → a ≤ 66 → t.length ≤ a + 4 * f → ((a < t.length ∧ T_s (C_u (S, sn, hi, t)) a = 0 ∧ T_flt (C_u (S, sn, hi, t)) t.length a = none) ∨ t.length ≤ a) → ca_I cy G G1 h (S, sn, hi, t) → bx_E cy G1 G1 (h + 32) St → A_go (C_u (S, sn, hi, t)) t.length 20 0 0 S0 = A_go (C_u (S, sn, hi, t)) t.length f a acc St → cc_R cy Y_X3_admitTextToTrial z 4 [(2, .int (nI a)), (1, .int (nI acc)), (0, .ref h)] [] G1 (cc_qi (fun r G' => ca_I cy G G' h (S, sn, hi, t) ∧ ((A_go (C_u (S, sn, hi, t)) t.length 20 0 0 S0 = none ∧ r = -3) ∨ ∃ m S', A_go (C_u (S, sn, hi, t)) t.length 20 0 0 S0 = some (m, S') ∧ r = nI m ∧ bx_E cy G' G' (h + 32) S'))) := by
    intro g
    induction g with
    | zero => intro f a acc St G1 h1 h2; exact absurd h1 (by omega)
    | succ g ih =>
      intro f a acc St G1 hg ha66 hf4 hinv hI hE hgo
      obtain ⟨tx, hTx, hTa, h60a⟩ := hI.text
      have hTa : ar_ tx t := hTa
      refine cc_iload_n (j := 0) dX3_admitTextToTrial_4 rfl rfl ?_
      refine cc_iconst (v := 2) dX3_admitTextToTrial_5 (by decide) ?_
      refine cc_iadd dX3_admitTextToTrial_6 ?_
      rw [show (nI a) + 2 = nI (a + 2) from nI_add a 2]
      refine cc_aload_n (j := 2) dX3_admitTextToTrial_7 rfl rfl ?_
      obtain ⟨hs8, hO9⟩ := hI.obj
      refine cc_get (v := .int (nI t.length)) hO9 cc_c3 7 (by decide) fl_X3_38 rfl dX3_admitTextToTrial_8 ?_
      refine cc_icmp_ge (tgt := 130) dX3_admitTextToTrial_11 (by decide) (fun c_11 => ?_) (fun c_11 => ?_)
      · refine cc_iload_n (j := 1) dX3_admitTextToTrial_130 rfl rfl ?_
        refine cc_iret rfl rfl dX3_admitTextToTrial_131 ?_
        have hge : t.length ≤ a + 2 := cc_ngt _ c_11 (by omega) (by omega)
        have e : A_go (C_u (S, sn, hi, t)) t.length f a acc St = some (acc, St) := by
          cases f with
          | zero => rfl
          | succ f => exact if_neg (by omega)
        exact ⟨_, rfl, hI, Or.inr ⟨acc, St, hgo.trans e, rfl, hE⟩⟩
      · have hlt : a + 2 < t.length := cc_nlt _ c_11 (by omega)
        have hinv := hinv.resolve_right (by omega)
        obtain ⟨i, o, hi4, ho4, ei, eo, -, -, -, hcase⟩ := T_head (u := (C_u (S, sn, hi, t))) hinv.2.2 (by omega) hinv.2.1
        obtain ⟨f, rfl⟩ : ∃ f', f = f' + 1 := ⟨f - 1, by omega⟩
        refine cc_aload_n (j := 2) dX3_admitTextToTrial_14 rfl rfl ?_
        refine cc_get (v := .ref (h + 95)) hO9 cc_c3 6 (by decide) fl_X3_34 rfl dX3_admitTextToTrial_15 ?_
        refine cc_iload_n (j := 0) dX3_admitTextToTrial_18 rfl rfl ?_
        refine cc_cald (x := tx a) hTx (vp_in_nI (n := a) (by omega) (by decide)) (by rw [(nI_clamp (by omega))]) dX3_admitTextToTrial_19 ?_
        rw [show tx a = nI (48 + i) from (ar_at hTa (by omega)).trans ei]
        refine cc_bipush (v := 48) dX3_admitTextToTrial_20 (by decide) ?_
        refine cc_isub dX3_admitTextToTrial_22 ?_
        rw [show (nI (48 + i)) - 48 = nI i from T_c48]
        refine cc_istore_n (ls' := [(3, .int (nI i)), (2, .int (nI a)), (1, .int (nI acc)), (0, .ref h)]) dX3_admitTextToTrial_23 rfl (Nat.le_of_ble_eq_true rfl) rfl ?_
        refine cc_aload_n (j := 3) dX3_admitTextToTrial_24 rfl rfl ?_
        refine cc_get (v := .ref (h + 95)) hO9 cc_c3 6 (by decide) fl_X3_34 rfl dX3_admitTextToTrial_25 ?_
        refine cc_iload_n (j := 1) dX3_admitTextToTrial_28 rfl rfl ?_
        refine cc_iconst (v := 2) dX3_admitTextToTrial_29 (by decide) ?_
        refine cc_iadd dX3_admitTextToTrial_30 ?_
        rw [show (nI a) + 2 = nI (a + 2) from nI_add a 2]
        refine cc_cald (x := tx (a + 2)) hTx (vp_in_nI (n := (a + 2)) (by omega) (by decide)) (by rw [(nI_clamp (by omega))]) dX3_admitTextToTrial_31 ?_
        rw [show tx (a + 2) = nI (48 + o) from (ar_at hTa (by omega)).trans eo]
        refine cc_bipush (v := 48) dX3_admitTextToTrial_32 (by decide) ?_
        refine cc_isub dX3_admitTextToTrial_34 ?_
        rw [show (nI (48 + o)) - 48 = nI o from T_c48]
        refine cc_istore (ls' := [(4, .int (nI o)), (3, .int (nI i)), (2, .int (nI a)), (1, .int (nI acc)), (0, .ref h)]) dX3_admitTextToTrial_35 (Nat.le_of_ble_eq_true rfl) rfl ?_
        refine cc_aload_n (j := 4) dX3_admitTextToTrial_37 rfl rfl ?_
        refine cc_iload_n (j := 2) dX3_admitTextToTrial_38 rfl rfl ?_
        rcases hcase with ⟨htl, hnx⟩ | ⟨m, hm1, hm9, htl, em, hnx⟩
        · obtain ⟨tm, tw⟩ := T_m_n htl
          have hgs := hgo.trans (A_go_s hlt ei eo tm tw hi4)
          obtain ⟨_, hOt⟩ := hI.obj
          refine cc_callVi (As := [.int (nI a)]) (rest := []) (ct_X3_tellsTimes cy z _ h (S, sn, hi, t) a (by omega) hI.self) ok_X3_tellsTimes (hOt) rfl im_X3_tellsTimes sl_X3_tellsTimes ml_X3_172 nd_X3_tellsTimes (by decide +kernel) (Nat.le_of_ble_eq_true rfl) rfl dX3_admitTextToTrial_39 (fun r11 G10 q12 => ?_)
          obtain ⟨hr, rfl⟩ := q12
          have hr : r11 = 0 := hr.trans (if_neg htl)
          subst hr
          refine cc_if_eq (tgt := 59) dX3_admitTextToTrial_42 (by decide) (fun c_42 => ?_) (fun c_42 => ?_)
          · refine cc_iconst (v := 1) dX3_admitTextToTrial_59 (by decide) ?_
            refine cc_istore (ls' := [(5, .int 1), (4, .int (nI o)), (3, .int (nI i)), (2, .int (nI a)), (1, .int (nI acc)), (0, .ref h)]) dX3_admitTextToTrial_60 (Nat.le_of_ble_eq_true rfl) rfl ?_
            refine cc_aload_n (j := 5) dX3_admitTextToTrial_62 rfl rfl ?_
            refine cc_get (v := .ref (h + 32)) hO9 cc_c3 1 (by decide) fl_X3_16 rfl dX3_admitTextToTrial_63 ?_
            refine cc_iload_n (j := 2) dX3_admitTextToTrial_66 rfl rfl ?_
            refine cc_iload (j := 0) dX3_admitTextToTrial_67 rfl ?_
            obtain ⟨hsT, hT0⟩ := id hE
            by_cases h8m : (St.2.2 i).2.2.length + 1 ≤ 8
            · refine cc_callNi (As := [.int (nI i), .int 1]) (rest := []) (ct_X0_hasRoom cy z _ _ hsT St i hi4 1 (by omega) _ rfl hT0) ok_X0_hasRoom (hT0.2.1) rfl im_X0_hasRoom sl_X0_hasRoom mn_X3_77 nd_X0_hasRoom (by decide +kernel) (Nat.le_of_ble_eq_true rfl) rfl dX3_admitTextToTrial_69 (fun r14 G13 q15 => ?_)
              obtain ⟨hr, rfl⟩ := q15
              have hr : r14 = 1 := hr.trans (if_pos h8m)
              subst hr
              refine cc_if_ne (tgt := 78) dX3_admitTextToTrial_72 (by decide) (fun c_72 => ?_) (fun c_72 => ?_)
              · refine cc_iconst (v := 0) dX3_admitTextToTrial_78 (by decide) ?_
                refine cc_istore (ls' := [(6, .int 0), (5, .int 1), (4, .int (nI o)), (3, .int (nI i)), (2, .int (nI a)), (1, .int (nI acc)), (0, .ref h)]) dX3_admitTextToTrial_79 (Nat.le_of_ble_eq_true rfl) rfl ?_
                refine loop_81 i o 1 a acc St hi4 (fun G2 hI2 hE2 => ?_) h8m (1 + 1) 0 _ (by omega) (by omega) hI hE
                refine cc_iload_n (j := 5) dX3_admitTextToTrial_105 rfl rfl ?_
                refine cc_iload (j := 1) dX3_admitTextToTrial_106 rfl ?_
                refine cc_iadd dX3_admitTextToTrial_108 ?_
                rw [show (nI acc) + (nI 1) = nI (acc + 1) from nI_add acc 1]
                refine cc_istore_n (ls' := [(1, .int (nI (acc + 1))), (6, .int (nI 1)), (5, .int (nI 1)), (4, .int (nI o)), (3, .int (nI i)), (2, .int (nI a)), (0, .ref h)]) dX3_admitTextToTrial_109 rfl (Nat.le_of_ble_eq_true rfl) rfl ?_
                refine cc_iload_n (j := 5) dX3_admitTextToTrial_110 rfl rfl ?_
                refine cc_aload_n (j := 6) dX3_admitTextToTrial_111 rfl rfl ?_
                refine cc_iload_n (j := 5) dX3_admitTextToTrial_112 rfl rfl ?_
                obtain ⟨_, hOt⟩ := hI2.obj
                refine cc_callVi (As := [.int (nI a)]) (rest := [.int (nI a)]) (ct_X3_tellsTimes cy z _ h (S, sn, hi, t) a (by omega) hI2.self) ok_X3_tellsTimes (hOt) rfl im_X3_tellsTimes sl_X3_tellsTimes ml_X3_172 nd_X3_tellsTimes (by decide +kernel) (Nat.le_of_ble_eq_true rfl) rfl dX3_admitTextToTrial_113 (fun r17 G16 q18 => ?_)
                obtain ⟨hr, rfl⟩ := q18
                have hr : r17 = 0 := hr.trans (if_neg htl)
                subst hr
                refine cc_if_eq (tgt := 124) dX3_admitTextToTrial_116 (by decide) (fun c_116 => ?_) (fun c_116 => ?_)
                · refine cc_iconst (v := 4) dX3_admitTextToTrial_124 (by decide) ?_
                  refine cc_iadd dX3_admitTextToTrial_125 ?_
                  rw [show (nI a) + 4 = nI (a + 4) from nI_add a 4]
                  refine cc_istore_n (ls' := [(2, .int (nI (a + 4))), (1, .int (nI (acc + 1))), (6, .int (nI 1)), (5, .int (nI 1)), (4, .int (nI o)), (3, .int (nI i)), (0, .ref h)]) dX3_admitTextToTrial_126 rfl (Nat.le_of_ble_eq_true rfl) rfl ?_
                  refine cc_goto (tgt := 4) dX3_admitTextToTrial_127 (by decide) ?_
                  refine cc_loc (ls' := [(2, .int (nI (a + 4))), (1, .int (nI (acc + 1))), (0, .ref h)]) [0, 1, 6] rfl ?_
                  refine ih f (a + 4) (acc + 1) _ _ (by omega) (by omega) (by omega) ?_ hI2 hE2 (hgs.trans (if_pos h8m))
                  rcases hnx with ⟨q1, q2, q3, q4⟩ | q1
                  · exact Or.inl ⟨q1, q3, q4⟩
                  · exact Or.inr (by omega)
                · exact absurd c_116 (by decide)
                
              · exact absurd c_72 (by decide)
            · refine cc_callNi (As := [.int (nI i), .int 1]) (rest := []) (ct_X0_hasRoom cy z _ _ hsT St i hi4 1 (by omega) _ rfl hT0) ok_X0_hasRoom (hT0.2.1) rfl im_X0_hasRoom sl_X0_hasRoom mn_X3_77 nd_X0_hasRoom (by decide +kernel) (Nat.le_of_ble_eq_true rfl) rfl dX3_admitTextToTrial_69 (fun r20 G19 q21 => ?_)
              obtain ⟨hr, rfl⟩ := q21
              have hr : r20 = 0 := hr.trans (if_neg h8m)
              subst hr
              refine cc_if_ne (tgt := 78) dX3_admitTextToTrial_72 (by decide) (fun c_72_1 => ?_) (fun c_72_1 => ?_)
              · exact absurd c_72_1 (by decide)
              · refine cc_bipush (v := (-3)) dX3_admitTextToTrial_75 (by decide) ?_
                refine cc_iret rfl rfl dX3_admitTextToTrial_77 ?_
                exact ⟨_, rfl, hI, Or.inl ⟨hgs.trans (if_neg h8m), rfl⟩⟩
          · exact absurd c_42 (by decide)
        · obtain ⟨tm, tw⟩ := T_m_y htl em hm9
          have hgs := hgo.trans (A_go_s hlt ei eo tm tw hi4)
          have htl4 : a + 4 < t.length := htl.1
          obtain ⟨_, hOt⟩ := hI.obj
          refine cc_callVi (As := [.int (nI a)]) (rest := []) (ct_X3_tellsTimes cy z _ h (S, sn, hi, t) a (by omega) hI.self) ok_X3_tellsTimes (hOt) rfl im_X3_tellsTimes sl_X3_tellsTimes ml_X3_172 nd_X3_tellsTimes (by decide +kernel) (Nat.le_of_ble_eq_true rfl) rfl dX3_admitTextToTrial_39 (fun r23 G22 q24 => ?_)
          obtain ⟨hr, rfl⟩ := q24
          have hr : r23 = 1 := hr.trans (if_pos htl)
          subst hr
          refine cc_if_eq (tgt := 59) dX3_admitTextToTrial_42 (by decide) (fun c_42_1 => ?_) (fun c_42_1 => ?_)
          · exact absurd c_42_1 (by decide)
          · refine cc_aload_n (j := 4) dX3_admitTextToTrial_45 rfl rfl ?_
            refine cc_get (v := .ref (h + 95)) hO9 cc_c3 6 (by decide) fl_X3_34 rfl dX3_admitTextToTrial_46 ?_
            refine cc_iload_n (j := 2) dX3_admitTextToTrial_49 rfl rfl ?_
            refine cc_iconst (v := 4) dX3_admitTextToTrial_50 (by decide) ?_
            refine cc_iadd dX3_admitTextToTrial_51 ?_
            rw [show (nI a) + 4 = nI (a + 4) from nI_add a 4]
            refine cc_cald (x := tx (a + 4)) hTx (vp_in_nI (n := (a + 4)) (by omega) (by decide)) (by rw [(nI_clamp (by omega))]) dX3_admitTextToTrial_52 ?_
            rw [show tx (a + 4) = nI (48 + m) from (ar_at hTa (by omega)).trans em]
            refine cc_bipush (v := 48) dX3_admitTextToTrial_53 (by decide) ?_
            refine cc_isub dX3_admitTextToTrial_55 ?_
            rw [show (nI (48 + m)) - 48 = nI m from T_c48]
            refine cc_goto (tgt := 60) dX3_admitTextToTrial_56 (by decide) ?_
            refine cc_istore (ls' := [(5, .int (nI m)), (4, .int (nI o)), (3, .int (nI i)), (2, .int (nI a)), (1, .int (nI acc)), (0, .ref h)]) dX3_admitTextToTrial_60 (Nat.le_of_ble_eq_true rfl) rfl ?_
            refine cc_aload_n (j := 5) dX3_admitTextToTrial_62 rfl rfl ?_
            refine cc_get (v := .ref (h + 32)) hO9 cc_c3 1 (by decide) fl_X3_16 rfl dX3_admitTextToTrial_63 ?_
            refine cc_iload_n (j := 2) dX3_admitTextToTrial_66 rfl rfl ?_
            refine cc_iload (j := 0) dX3_admitTextToTrial_67 rfl ?_
            obtain ⟨hsT, hT0⟩ := id hE
            by_cases h8m : (St.2.2 i).2.2.length + m ≤ 8
            · refine cc_callNi (As := [.int (nI i), .int (nI m)]) (rest := []) (ct_X0_hasRoom cy z _ _ hsT St i hi4 m (by omega) _ rfl hT0) ok_X0_hasRoom (hT0.2.1) rfl im_X0_hasRoom sl_X0_hasRoom mn_X3_77 nd_X0_hasRoom (by decide +kernel) (Nat.le_of_ble_eq_true rfl) rfl dX3_admitTextToTrial_69 (fun r26 G25 q27 => ?_)
              obtain ⟨hr, rfl⟩ := q27
              have hr : r26 = 1 := hr.trans (if_pos h8m)
              subst hr
              refine cc_if_ne (tgt := 78) dX3_admitTextToTrial_72 (by decide) (fun c_72_2 => ?_) (fun c_72_2 => ?_)
              · refine cc_iconst (v := 0) dX3_admitTextToTrial_78 (by decide) ?_
                refine cc_istore (ls' := [(6, .int 0), (5, .int (nI m)), (4, .int (nI o)), (3, .int (nI i)), (2, .int (nI a)), (1, .int (nI acc)), (0, .ref h)]) dX3_admitTextToTrial_79 (Nat.le_of_ble_eq_true rfl) rfl ?_
                refine loop_81 i o m a acc St hi4 (fun G2 hI2 hE2 => ?_) h8m (m + 1) 0 _ (by omega) (by omega) hI hE
                refine cc_iload_n (j := 5) dX3_admitTextToTrial_105 rfl rfl ?_
                refine cc_iload (j := 1) dX3_admitTextToTrial_106 rfl ?_
                refine cc_iadd dX3_admitTextToTrial_108 ?_
                rw [show (nI acc) + (nI m) = nI (acc + m) from nI_add acc m]
                refine cc_istore_n (ls' := [(1, .int (nI (acc + m))), (6, .int (nI m)), (5, .int (nI m)), (4, .int (nI o)), (3, .int (nI i)), (2, .int (nI a)), (0, .ref h)]) dX3_admitTextToTrial_109 rfl (Nat.le_of_ble_eq_true rfl) rfl ?_
                refine cc_iload_n (j := 5) dX3_admitTextToTrial_110 rfl rfl ?_
                refine cc_aload_n (j := 6) dX3_admitTextToTrial_111 rfl rfl ?_
                refine cc_iload_n (j := 5) dX3_admitTextToTrial_112 rfl rfl ?_
                obtain ⟨_, hOt⟩ := hI2.obj
                refine cc_callVi (As := [.int (nI a)]) (rest := [.int (nI a)]) (ct_X3_tellsTimes cy z _ h (S, sn, hi, t) a (by omega) hI2.self) ok_X3_tellsTimes (hOt) rfl im_X3_tellsTimes sl_X3_tellsTimes ml_X3_172 nd_X3_tellsTimes (by decide +kernel) (Nat.le_of_ble_eq_true rfl) rfl dX3_admitTextToTrial_113 (fun r29 G28 q30 => ?_)
                obtain ⟨hr, rfl⟩ := q30
                have hr : r29 = 1 := hr.trans (if_pos htl)
                subst hr
                refine cc_if_eq (tgt := 124) dX3_admitTextToTrial_116 (by decide) (fun c_116_1 => ?_) (fun c_116_1 => ?_)
                · exact absurd c_116_1 (by decide)
                · refine cc_bipush (v := 6) dX3_admitTextToTrial_119 (by decide) ?_
                  refine cc_goto (tgt := 125) dX3_admitTextToTrial_121 (by decide) ?_
                  refine cc_iadd dX3_admitTextToTrial_125 ?_
                  rw [show (nI a) + 6 = nI (a + 6) from nI_add a 6]
                  refine cc_istore_n (ls' := [(2, .int (nI (a + 6))), (1, .int (nI (acc + m))), (6, .int (nI m)), (5, .int (nI m)), (4, .int (nI o)), (3, .int (nI i)), (0, .ref h)]) dX3_admitTextToTrial_126 rfl (Nat.le_of_ble_eq_true rfl) rfl ?_
                  refine cc_goto (tgt := 4) dX3_admitTextToTrial_127 (by decide) ?_
                  refine cc_loc (ls' := [(2, .int (nI (a + 6))), (1, .int (nI (acc + m))), (0, .ref h)]) [0, 1, 6] rfl ?_
                  refine ih f (a + 6) (acc + m) _ _ (by omega) (by omega) (by omega) ?_ hI2 hE2 (hgs.trans (if_pos h8m))
                  rcases hnx with ⟨q1, q2, q3, q4⟩ | q1
                  · exact Or.inl ⟨q1, q3, q4⟩
                  · exact Or.inr (by omega)
                
              · exact absurd c_72_2 (by decide)
            · refine cc_callNi (As := [.int (nI i), .int (nI m)]) (rest := []) (ct_X0_hasRoom cy z _ _ hsT St i hi4 m (by omega) _ rfl hT0) ok_X0_hasRoom (hT0.2.1) rfl im_X0_hasRoom sl_X0_hasRoom mn_X3_77 nd_X0_hasRoom (by decide +kernel) (Nat.le_of_ble_eq_true rfl) rfl dX3_admitTextToTrial_69 (fun r32 G31 q33 => ?_)
              obtain ⟨hr, rfl⟩ := q33
              have hr : r32 = 0 := hr.trans (if_neg h8m)
              subst hr
              refine cc_if_ne (tgt := 78) dX3_admitTextToTrial_72 (by decide) (fun c_72_3 => ?_) (fun c_72_3 => ?_)
              · exact absurd c_72_3 (by decide)
              · refine cc_bipush (v := (-3)) dX3_admitTextToTrial_75 (by decide) ?_
                refine cc_iret rfl rfl dX3_admitTextToTrial_77 ?_
                exact ⟨_, rfl, hI, Or.inl ⟨hgs.trans (if_neg h8m), rfl⟩⟩
  refine cc_enter ok_X3_admitTextToTrial (Nat.le_of_ble_eq_true rfl) (ls := [(0, .ref h)]) rfl ?_
  refine cc_iconst (v := 0) dX3_admitTextToTrial_0 (by decide) ?_
  refine cc_istore_n (ls' := [(1, .int 0), (0, .ref h)]) dX3_admitTextToTrial_1 rfl (Nat.le_of_ble_eq_true rfl) rfl ?_
  refine cc_iconst (v := 0) dX3_admitTextToTrial_2 (by decide) ?_
  refine cc_istore_n (ls' := [(2, .int 0), (1, .int 0), (0, .ref h)]) dX3_admitTextToTrial_3 rfl (Nat.le_of_ble_eq_true rfl) rfl ?_
  refine loop_4 67 20 0 0 S0 _ (by omega) (by omega) (by omega) ?_ hI hE rfl
  rcases Nat.lt_or_ge 0 t.length with q | q
  · exact Or.inl ⟨q, rfl, hF⟩
  · exact Or.inr q
