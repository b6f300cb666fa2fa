theorem upd_sw {f : Nat → Int32} {i j : Nat} {a b : Int32} (h : i ≠ j) : upd (upd f i a) j b = upd (upd f j b) i a := by
  funext q
  unfold upd
  by_cases e : q = j
  · rw [if_pos e, if_neg (by omega), if_pos e]
  · rw [if_neg e, if_neg e]
theorem rl_I.to {r : Nat → Int32} {b : Nat} {L L' : Ln_} (h : rl_I r b L) (h0 : ∀ k, k < 9 → L.1 k = L'.1 k) (h1 : L.2 = L'.2) : rl_I r b L' := by
  obtain ⟨a1, a2⟩ := h
  obtain ⟨v, x⟩ := L
  obtain ⟨v', x'⟩ := L'
  have h1 : x = x' := h1
  subst h1
  exact ⟨fun k hk => (a1 k hk).trans (h0 k hk), a2⟩
theorem rl_I.push {r : Nat → Int32} {b : Nat} {v : Nat → Int32} {sd wy : List Int32} (h : rl_I r b (v, sd, wy)) (hl : sd.length < 8) (n : Int32) : rl_I (upd (upd r (b + (11 + sd.length)) n) (b + 9) (nI (sd.length + 1))) b (v, sd ++ [n], wy) := by
  obtain ⟨h1, h2, h3, h4, h5, h6, h7⟩ := h
  have h4 : ar_ (fun k => r (b + (11 + k))) sd := h4
  have len : (sd ++ [n]).length = sd.length + 1 := by rw [List.length_append, List.length_singleton]
  refine ⟨fun k hk => (pk_un (by omega)).trans ((pk_un (by omega)).trans (h1 k hk)), ?_, (pk_un (by omega)).trans ((pk_un (by omega)).trans h3), (h4.push n).eq (fun k hk => ?_), h5.eq (fun k hk => (pk_un (by omega)).trans (pk_un (by omega))), ?_, h7⟩
  · show _ = nI (sd ++ [n]).length
    rw [len, pk_us]
  · rw [len] at hk
    refine (pk_un (by omega)).trans ?_
    by_cases e : k = sd.length
    · subst e
      rw [pk_us, pk_us]
    · rw [pk_un (by omega), pk_un e]
  · show (sd ++ [n]).length ≤ 8
    rw [len]
    omega

set_option maxHeartbeats 4000000 in
set_option maxRecDepth 100000 in
theorem ct_X4_send (cy : Nat → ClassId) (z : Nat) (G : cc_G) (o : Nat) (r pa qa be : Nat → Int32) (nn ia : Int32) (tx : Nat → Int32) (le ay : Int32) (hs so : Nat → Int32) (S : St_) (hw : rw_I r S) (hx : Nat → Int32) (hhx : ∀ j, j < 4 → hs j = hx j) (hhs : ∀ j, j < 4 → hx j = 0 ∨ hx j = 1) (hmd : S.1 1 = 0 ∨ S.1 1 = 1) (w t : Nat) (hw4 : w < 4) (ht : (S.2.1 w).1 4 = nI t) (ht4 : t < 4) (hch : (S.2.1 w).1 0 ≤ 8) (H : mo_R cy G G o r pa qa be nn ia tx le ay hs so)  : cc_Cn cy Y_X4_send [.ref o, .int (nI w)] z G (cc_qi (fun r9 G' => r9 = (if (B_send w t (S, hx)).1.isSome then 1 else 0) ∧ ∃ r' hs' so', mo_R cy G G' o r' pa qa be nn ia tx le ay hs' so' ∧ rw_I r' (B_send w t (S, hx)).2.1 ∧ (∀ j, j < 4 → hs' j = (B_send w t (S, hx)).2.2 j) ∧ so' w = (match (B_send w t (S, hx)).1 with | some n => n | none => (-5)) ∧ ∀ j, j ≠ w → so' j = so j)) := by
  have hl := hw.2.2.2.2.1 w hw4
  have loop_10 : ∀ (n s : Nat) (G1 : cc_G), 4 < s + n → s ≤ 4 → B_try (nI w) (S.1 1) S.2.2 hx t 4 0 = B_try (nI w) (S.1 1) S.2.2 hx t (4 - s) s → (s = 0 ∨ 0 < (S.2.1 w).1 3) → mo_R cy G G1 o r pa qa be nn ia tx le ay hs (upd so w (-5)) → cc_R cy Y_X4_send z 10 [(2, .int (nI s)), (0, .ref o), (1, .int (nI w))] [] G1 (cc_qi (fun r9 G' => r9 = (if (B_send w t (S, hx)).1.isSome then 1 else 0) ∧ ∃ r' hs' so', mo_R cy G G' o r' pa qa be nn ia tx le ay hs' so' ∧ rw_I r' (B_send w t (S, hx)).2.1 ∧ (∀ j, j < 4 → hs' j = (B_send w t (S, hx)).2.2 j) ∧ so' w = (match (B_send w t (S, hx)).1 with | some n => n | none => (-5)) ∧ ∀ j, j ≠ w → so' j = so j)) := by
    intro n
    induction n with
    | zero => intro s G1 h1 h2; exact absurd h1 (by omega)
    | succ n ih =>
      intro s G1 hn hs4 hT hcr H
      have hj : (t + s) % 4 < 4 := Nat.mod_lt _ (by decide)
      refine cc_iload_n (j := 0) dX4_send_10 rfl rfl ?_
      refine cc_iconst (v := 4) dX4_send_11 (by decide) ?_
      refine cc_icmp_ge (tgt := 150) dX4_send_12 (by decide) (fun c_12 => ?_) (fun c_12 => ?_)
      · have hge : s = 4 := by have := cc_ngt 4 c_12 (by omega) (by decide); omega
        subst hge
        refine cc_iconst (v := 0) dX4_send_150 (by decide) ?_
        refine cc_iret rfl rfl dX4_send_151 ?_
        have hS : B_send w t (S, hx) = (none, (S, hx)) := by
          unfold B_send; rw [if_neg (Int32.not_le.mpr (hcr.resolve_left (by decide))), hT]; rfl
        rw [hS]
        exact ⟨_, rfl, rfl, _, _, _, H, hw, hhx, pk_us, fun j hjw => pk_un hjw⟩
      · have hlt : s < 4 := cc_nlt 4 c_12 (by omega)
        refine cc_aload_n (j := 1) dX4_send_15 rfl rfl ?_
        refine cc_iload_n (j := 2) dX4_send_16 rfl rfl ?_
        refine cc_iconst (v := 3) dX4_send_17 (by decide) ?_
        refine cc_callVi (As := [.int (nI w), .int 3]) (rest := []) (ct_X4_of cy z _ _ _ _ _ _ _ _ _ _ _ _ _ w 3 (by omega) H.self) ok_X4_of (H.2.1) rfl im_X4_of sl_X4_of ml_X4_62 nd_X4_of (by decide +kernel) (Nat.le_of_ble_eq_true rfl) rfl dX4_send_18 (fun r2 G1 q3 => ?_)
        obtain ⟨rfl, rfl⟩ := q3
        rw [show r (4 + 30 * w + 3) = (S.2.1 w).1 3 from hl.1 3 (by decide)]
        refine cc_if_le (tgt := 150) dX4_send_21 (by decide) (fun c_21 => ?_) (fun c_21 => ?_)
        · refine cc_iconst (v := 0) dX4_send_150 (by decide) ?_
          refine cc_iret rfl rfl dX4_send_151 ?_
          have hS : B_send w t (S, hx) = (none, (S, hx)) := by
            unfold B_send; rw [if_pos c_21]
          rw [hS]
          exact ⟨_, rfl, rfl, _, _, _, H, hw, hhx, pk_us, fun j hjw => pk_un hjw⟩
        · have hcr0 : 0 < (S.2.1 w).1 3 := Int32.not_le.mp c_21
          refine cc_aload_n (j := 1) dX4_send_24 rfl rfl ?_
          refine cc_iload_n (j := 2) dX4_send_25 rfl rfl ?_
          refine cc_iconst (v := 4) dX4_send_26 (by decide) ?_
          refine cc_callVi (As := [.int (nI w), .int 4]) (rest := []) (ct_X4_of cy z _ _ _ _ _ _ _ _ _ _ _ _ _ w 4 (by omega) H.self) ok_X4_of (H.2.1) rfl im_X4_of sl_X4_of ml_X4_62 nd_X4_of (by decide +kernel) (Nat.le_of_ble_eq_true rfl) rfl dX4_send_27 (fun r5 G4 q6 => ?_)
          obtain ⟨rfl, rfl⟩ := q6
          rw [show r (4 + 30 * w + 4) = nI t from (hl.1 4 (by decide)).trans ht]
          refine cc_iload_n (j := 0) dX4_send_30 rfl rfl ?_
          refine cc_iadd dX4_send_31 ?_
          rw [show (nI t) + (nI s) = nI (t + s) from nI_add t s]
          refine cc_iconst (v := 4) dX4_send_32 (by decide) ?_
          refine cc_irem dX4_send_33 (by decide) ?_
          rw [show cc_rm (nI (t + s)) 4 = nI ((t + s) % 4) from cc_rm4 (by omega)]
          refine cc_istore_n (ls' := [(3, .int (nI ((t + s) % 4))), (2, .int (nI s)), (0, .ref o), (1, .int (nI w))]) dX4_send_34 rfl (Nat.le_of_ble_eq_true rfl) rfl ?_
          refine cc_aload_n (j := 2) dX4_send_35 rfl rfl ?_
          rcases hhs ((t + s) % 4) hj with h0 | h0
          · refine cc_iload_n (j := 0) dX4_send_36 rfl rfl ?_
            refine cc_iload_n (j := 3) dX4_send_37 rfl rfl ?_
            rcases hqo : Q_off (nI w) (S.1 1) (S.2.2 ((t + s) % 4)).2.2 with _ | k0
            · refine cc_callVi (As := [.int (nI ((t + s) % 4)), .int (nI w)]) (rest := []) (ct_X4_offer cy z _ _ _ _ _ _ _ _ _ _ _ _ _ ((t + s) % 4) hj (nI w) (S.1 1) hmd hw.2.1 (S.2.2 ((t + s) % 4)).1 (S.2.2 ((t + s) % 4)).2.1 (S.2.2 ((t + s) % 4)).2.2 H.self (hw.2.2.2.2.2 ((t + s) % 4) hj) (by rw [hhx _ hj, h0])) ok_X4_offer (H.2.1) rfl im_X4_offer sl_X4_offer ml_X4_100 nd_X4_offer (by decide +kernel) (Nat.le_of_ble_eq_true rfl) rfl dX4_send_38 (fun r8 G7 q9 => ?_)
              obtain ⟨hr, rfl⟩ := q9
              rw [hqo] at hr
              have hr : r8 = (-5) := hr
              subst hr
              refine cc_istore (ls' := [(4, .int (-5)), (3, .int (nI ((t + s) % 4))), (2, .int (nI s)), (0, .ref o), (1, .int (nI w))]) dX4_send_41 (Nat.le_of_ble_eq_true rfl) rfl ?_
              refine cc_iload (j := 0) dX4_send_43 rfl ?_
              refine cc_if_lt (tgt := 144) dX4_send_45 (by decide) (fun c_45 => ?_) (fun c_45 => ?_)
              · refine cc_iinc (j := 2) (v := nI (s + 1)) (ls' := [(2, .int (nI (s + 1))), (4, .int (-5)), (3, .int (nI ((t + s) % 4))), (0, .ref o), (1, .int (nI w))]) dX4_send_144 rfl (nI_1 s) (Nat.le_of_ble_eq_true rfl) rfl ?_
                refine cc_goto (tgt := 10) dX4_send_147 (by decide) ?_
                refine cc_loc (ls' := [(2, .int (nI (s + 1))), (0, .ref o), (1, .int (nI w))]) [0, 3, 4] rfl ?_
                exact ih (s + 1) _ (by omega) (by omega) (hT.trans (by rw [show 4 - s = (4 - (s + 1)) + 1 by omega]; conv => { lhs; unfold B_try; rw [if_pos h0, hqo] })) (Or.inr (Int32.not_le.mp c_21)) H
              · exact absurd c_45 (by decide)
            · refine cc_callVi (As := [.int (nI ((t + s) % 4)), .int (nI w)]) (rest := []) (ct_X4_offer cy z _ _ _ _ _ _ _ _ _ _ _ _ _ ((t + s) % 4) hj (nI w) (S.1 1) hmd hw.2.1 (S.2.2 ((t + s) % 4)).1 (S.2.2 ((t + s) % 4)).2.1 (S.2.2 ((t + s) % 4)).2.2 H.self (hw.2.2.2.2.2 ((t + s) % 4) hj) (by rw [hhx _ hj, h0])) ok_X4_offer (H.2.1) rfl im_X4_offer sl_X4_offer ml_X4_100 nd_X4_offer (by decide +kernel) (Nat.le_of_ble_eq_true rfl) rfl dX4_send_38 (fun r11 G10 q12 => ?_)
              obtain ⟨hr, rfl⟩ := q12
              rw [hqo] at hr
              have hr : r11 = nI k0 := hr
              subst hr
              have hk0 := (Q_off_lt hqo).1
              have hk8 : (S.2.2 ((t + s) % 4)).2.2.length ≤ 8 := (hw.2.2.2.2.2 ((t + s) % 4) hj).2.2.2.2
              refine cc_istore (ls' := [(4, .int (nI k0)), (3, .int (nI ((t + s) % 4))), (2, .int (nI s)), (0, .ref o), (1, .int (nI w))]) dX4_send_41 (Nat.le_of_ble_eq_true rfl) rfl ?_
              refine cc_iload (j := 0) dX4_send_43 rfl ?_
              refine cc_if_lt (tgt := 144) dX4_send_45 (by decide) (fun c_45_1 => ?_) (fun c_45_1 => ?_)
              · exact absurd c_45_1 (Int32.not_lt.mpr (nI_pos' (by omega)))
              · refine cc_aload_n (j := 3) dX4_send_48 rfl rfl ?_
                refine cc_iload_n (j := 1) dX4_send_49 rfl rfl ?_
                refine cc_iload (j := 0) dX4_send_50 rfl ?_
                refine cc_callVi (As := [.int (nI ((t + s) % 4)), .int (nI k0)]) (rest := []) (ct_X4_leave cy z _ _ _ _ _ _ _ _ _ _ _ _ _ ((t + s) % 4) k0 hj (S.2.2 ((t + s) % 4)).1 (S.2.2 ((t + s) % 4)).2.1 (S.2.2 ((t + s) % 4)).2.2 hk0 H.self (hw.2.2.2.2.2 ((t + s) % 4) hj)) ok_X4_leave (H.2.1) rfl im_X4_leave sl_X4_leave ml_X4_103 nd_X4_leave (by decide +kernel) (Nat.le_of_ble_eq_true rfl) rfl dX4_send_52 (fun r14 G13 q15 => ?_)
                obtain ⟨hr2, r2, H16, hq2, hk2⟩ := q15
                subst hr2
                have H16 := H.tr H16
                have hw2 := hw.queue hj hq2 hk2
                have hl2 : rl_I r2 (4 + 30 * w) (S.2.1 w) := hw2.2.2.2.2.1 w hw4
                refine cc_istore (ls' := [(5, .int (((S.2.2 ((t + s) % 4)).2.2.getD k0 (0, 0, 0)).1)), (4, .int (nI k0)), (3, .int (nI ((t + s) % 4))), (2, .int (nI s)), (0, .ref o), (1, .int (nI w))]) dX4_send_55 (Nat.le_of_ble_eq_true rfl) rfl ?_
                refine cc_aload_n (j := 4) dX4_send_57 rfl rfl ?_
                refine cc_get (v := .ref (o + 7)) H16.2.1 cc_c4 10 (by decide) fl_X4_30 rfl dX4_send_58 ?_
                refine cc_iload_n (j := 5) dX4_send_61 rfl rfl ?_
                refine cc_iload (j := 0) dX4_send_62 rfl ?_
                refine mo_rast_so (j := w) H16 (vp_in_nI (n := w) (by omega) (by decide)) (nI_clamp (by omega)) dX4_send_64 (fun G17 H18 => ?_)
                refine cc_aload_n (j := 4) dX4_send_65 rfl rfl ?_
                refine cc_iload_n (j := 5) dX4_send_66 rfl rfl ?_
                refine cc_iconst (v := 3) dX4_send_67 (by decide) ?_
                refine cc_iconst (v := (-1)) dX4_send_68 (by decide) ?_
                refine cc_callVv (As := [.int (nI w), .int 3, .int (-1)]) (rest := []) (ct_X4_more cy z _ _ _ _ _ _ _ _ _ _ _ _ _ w 3 (-1) (by omega) H18.self) ok_X4_more (H18.2.1) rfl im_X4_more sl_X4_more ml_X4_66 nd_X4_more (by decide +kernel) (Nat.le_of_ble_eq_true rfl) rfl dX4_send_69 (fun G19 q21 => ?_)
                have H22 := H18.tr q21
                rw [show r2 (4 + 30 * w + 3) + (-1) = (S.2.1 w).1 3 - 1 from by rw [show r2 (4 + 30 * w + 3) = (S.2.1 w).1 3 from hl2.1 3 (by decide)]; exact (Int32.sub_eq_add_neg _ _).symm] at H22
                have hl3 := hl2.num (w := 3) (by decide) ((S.2.1 w).1 3 - 1)
                have hk3l : ∀ q, (q < 4 + 30 * w ∨ 4 + 30 * w + 30 ≤ q) → upd r2 (4 + 30 * w + 3) ((S.2.1 w).1 3 - 1) q = r2 q := fun q hq => pk_un (by omega)
                generalize upd r2 (4 + 30 * w + 3) ((S.2.1 w).1 3 - 1) = r3 at H22 hl3 hk3l
                refine cc_aload_n (j := 4) dX4_send_72 rfl rfl ?_
                refine cc_iload_n (j := 5) dX4_send_73 rfl rfl ?_
                refine cc_iconst (v := 4) dX4_send_74 (by decide) ?_
                refine cc_iload_n (j := 2) dX4_send_75 rfl rfl ?_
                refine cc_iconst (v := 1) dX4_send_76 (by decide) ?_
                refine cc_iadd dX4_send_77 ?_
                rw [show (nI ((t + s) % 4)) + 1 = nI ((t + s) % 4 + 1) from nI_add ((t + s) % 4) 1]
                refine cc_iconst (v := 4) dX4_send_78 (by decide) ?_
                refine cc_irem dX4_send_79 (by decide) ?_
                rw [show cc_rm (nI ((t + s) % 4 + 1)) 4 = nI ((((t + s) % 4) + 1) % 4) from cc_rm4 (by omega)]
                refine cc_callVv (As := [.int (nI w), .int 4, .int (nI ((((t + s) % 4) + 1) % 4))]) (rest := []) (ct_X4_lay cy z _ _ _ _ _ _ _ _ _ _ _ _ _ w 4 (nI ((((t + s) % 4) + 1) % 4)) (by omega) H22.self) ok_X4_lay (H22.2.1) rfl im_X4_lay sl_X4_lay ml_X4_33 nd_X4_lay (by decide +kernel) (Nat.le_of_ble_eq_true rfl) rfl dX4_send_80 (fun G23 q25 => ?_)
                have H26 := H22.tr q25
                have hl4 := hl3.num (w := 4) (by decide) (nI ((((t + s) % 4) + 1) % 4))
                have hk4l : ∀ q, (q < 4 + 30 * w ∨ 4 + 30 * w + 30 ≤ q) → upd r3 (4 + 30 * w + 4) (nI ((((t + s) % 4) + 1) % 4)) q = r2 q := fun q hq => (pk_un (by omega)).trans (hk3l q hq)
                generalize upd r3 (4 + 30 * w + 4) (nI ((((t + s) % 4) + 1) % 4)) = r4 at H26 hl4 hk4l
                refine cc_aload_n (j := 4) dX4_send_83 rfl rfl ?_
                refine cc_iload_n (j := 5) dX4_send_84 rfl rfl ?_
                refine cc_iconst (v := 5) dX4_send_85 (by decide) ?_
                refine cc_iconst (v := 1) dX4_send_86 (by decide) ?_
                refine cc_callVv (As := [.int (nI w), .int 5, .int 1]) (rest := []) (ct_X4_more cy z _ _ _ _ _ _ _ _ _ _ _ _ _ w 5 1 (by omega) H26.self) ok_X4_more (H26.2.1) rfl im_X4_more sl_X4_more ml_X4_66 nd_X4_more (by decide +kernel) (Nat.le_of_ble_eq_true rfl) rfl dX4_send_87 (fun G27 q29 => ?_)
                have H30 := H26.tr q29
                rw [show r4 (4 + 30 * w + 5) = (S.2.1 w).1 5 from hl4.1 5 (by decide)] at H30
                have hl5 := hl4.num (w := 5) (by decide) ((S.2.1 w).1 5 + 1)
                have hk5l : ∀ q, (q < 4 + 30 * w ∨ 4 + 30 * w + 30 ≤ q) → upd r4 (4 + 30 * w + 5) ((S.2.1 w).1 5 + 1) q = r2 q := fun q hq => (pk_un (by omega)).trans (hk4l q hq)
                generalize upd r4 (4 + 30 * w + 5) ((S.2.1 w).1 5 + 1) = r5 at H30 hl5 hk5l
                refine cc_aload_n (j := 4) dX4_send_90 rfl rfl ?_
                refine cc_iload_n (j := 5) dX4_send_91 rfl rfl ?_
                refine cc_bipush (v := 9) dX4_send_92 (by decide) ?_
                refine cc_callVi (As := [.int (nI w), .int 9]) (rest := []) (ct_X4_of cy z _ _ _ _ _ _ _ _ _ _ _ _ _ w 9 (by omega) H30.self) ok_X4_of (H30.2.1) rfl im_X4_of sl_X4_of ml_X4_62 nd_X4_of (by decide +kernel) (Nat.le_of_ble_eq_true rfl) rfl dX4_send_94 (fun r32 G31 q33 => ?_)
                obtain ⟨rfl, rfl⟩ := q33
                rw [show r5 (4 + 30 * w + 9) = nI (S.2.1 w).2.1.length from hl5.2.1]
                refine cc_aload_n (j := 4) dX4_send_97 rfl rfl ?_
                refine cc_iload_n (j := 5) dX4_send_98 rfl rfl ?_
                refine cc_iconst (v := 0) dX4_send_99 (by decide) ?_
                refine cc_callVi (As := [.int (nI w), .int 0]) (rest := [.int (nI (S.2.1 w).2.1.length)]) (ct_X4_of cy z _ _ _ _ _ _ _ _ _ _ _ _ _ w 0 (by omega) H30.self) ok_X4_of (H30.2.1) rfl im_X4_of sl_X4_of ml_X4_62 nd_X4_of (by decide +kernel) (Nat.le_of_ble_eq_true rfl) rfl dX4_send_100 (fun r35 G34 q36 => ?_)
                obtain ⟨rfl, rfl⟩ := q36
                rw [show r5 (4 + 30 * w + 0) = (S.2.1 w).1 0 from hl5.1 0 (by decide)]
                refine cc_icmp_ge (tgt := 134) dX4_send_103 (by decide) (fun c_103 => ?_) (fun c_103 => ?_)
                · refine cc_aload_n (j := 4) dX4_send_134 rfl rfl ?_
                  refine cc_iload_n (j := 5) dX4_send_135 rfl rfl ?_
                  refine cc_bipush (v := 7) dX4_send_136 (by decide) ?_
                  refine cc_iconst (v := 1) dX4_send_138 (by decide) ?_
                  refine cc_callVv (As := [.int (nI w), .int 7, .int 1]) (rest := []) (ct_X4_more cy z _ _ _ _ _ _ _ _ _ _ _ _ _ w 7 1 (by omega) H30.self) ok_X4_more (H30.2.1) rfl im_X4_more sl_X4_more ml_X4_66 nd_X4_more (by decide +kernel) (Nat.le_of_ble_eq_true rfl) rfl dX4_send_139 (fun G37 q39 => ?_)
                  have H40 := H30.tr q39
                  rw [show r5 (4 + 30 * w + 7) = (S.2.1 w).1 7 from hl5.1 7 (by decide)] at H40
                  have hl6 := hl5.num (w := 7) (by decide) ((S.2.1 w).1 7 + 1)
                  have hk6l : ∀ q, (q < 4 + 30 * w ∨ 4 + 30 * w + 30 ≤ q) → upd r5 (4 + 30 * w + 7) ((S.2.1 w).1 7 + 1) q = r2 q := fun q hq => (pk_un (by omega)).trans (hk5l q hq)
                  generalize upd r5 (4 + 30 * w + 7) ((S.2.1 w).1 7 + 1) = r6 at H40 hl6 hk6l
                  refine cc_iconst (v := 1) dX4_send_142 (by decide) ?_
                  refine cc_iret rfl rfl dX4_send_143 ?_
                  have hT2 : B_try (nI w) (S.1 1) S.2.2 hx t 4 0 = some (((t + s) % 4), k0) := by
                    rw [hT, show 4 - s = (4 - (s + 1)) + 1 by omega]; unfold B_try; rw [if_pos h0, hqo]
                  have hS : B_send w t (S, hx) = (some ((S.2.2 ((t + s) % 4)).2.2.getD k0 (0, 0, 0)).1, B_put w ((t + s) % 4) k0 (S, hx)) := by
                    unfold B_send; rw [if_neg (Int32.not_le.mpr hcr0), hT2]
                  rw [hS]
                  refine ⟨_, rfl, rfl, _, _, _, H40, ?_, fun j hj4 => ?_, pk_us, fun j hjw => (pk_un hjw).trans (pk_un hjw)⟩
                  · have hlR : rl_I r6 (4 + 30 * w) (upd (L_recv (((S.2.2 ((t + s) % 4)).2.2.getD k0 (0, 0, 0)).1) (S.2.1 w)).1 4 (nI ((((t + s) % 4) + 1) % 4)), (L_recv (((S.2.2 ((t + s) % 4)).2.2.getD k0 (0, 0, 0)).1) (S.2.1 w)).2) := by
                      have eR : L_recv (((S.2.2 ((t + s) % 4)).2.2.getD k0 (0, 0, 0)).1) (S.2.1 w) = _ := if_pos c_103
                      rw [eR]
                      rw [upd_sw (i := 4) (j := 5) (by decide), upd_sw (i := 4) (j := 7) (by decide)] at hl6
                      exact hl6
                    exact hw2.lane hw4 hlR hk6l
                  · show upd hs ((t + s) % 4) 1 j = va_up hx ((t + s) % 4) 1 j
                    by_cases e : j = ((t + s) % 4)
                    · subst e
                      rw [pk_us, va_up_self]
                    · rw [pk_un e, va_up_ne _ _ e]
                      exact hhx j hj4
                · have hlen : (S.2.1 w).2.1.length < 8 := (nI_ltI (b := 8) (by have := hl.2.2.2.2.2.1; omega) (by decide)).mp (Int32.lt_of_lt_of_le (Int32.not_le.mp c_103) hch)
                  refine cc_aload_n (j := 4) dX4_send_106 rfl rfl ?_
                  refine cc_iload_n (j := 5) dX4_send_107 rfl rfl ?_
                  refine cc_bipush (v := 11) dX4_send_108 (by decide) ?_
                  refine cc_aload_n (j := 4) dX4_send_110 rfl rfl ?_
                  refine cc_iload_n (j := 5) dX4_send_111 rfl rfl ?_
                  refine cc_bipush (v := 9) dX4_send_112 (by decide) ?_
                  refine cc_callVi (As := [.int (nI w), .int 9]) (rest := [.int 11, .int (nI w), .ref o]) (ct_X4_of cy z _ _ _ _ _ _ _ _ _ _ _ _ _ w 9 (by omega) H30.self) ok_X4_of (H30.2.1) rfl im_X4_of sl_X4_of ml_X4_62 nd_X4_of (by decide +kernel) (Nat.le_of_ble_eq_true rfl) rfl dX4_send_114 (fun r42 G41 q43 => ?_)
                  obtain ⟨rfl, rfl⟩ := q43
                  rw [show r5 (4 + 30 * w + 9) = nI (S.2.1 w).2.1.length from hl5.2.1]
                  refine cc_iadd dX4_send_117 ?_
                  rw [show 11 + (nI (S.2.1 w).2.1.length) = nI (11 + (S.2.1 w).2.1.length) from nI_add 11 ((S.2.1 w).2.1.length)]
                  refine cc_iload (j := 0) dX4_send_118 rfl ?_
                  refine cc_callVv (As := [.int (nI w), .int (nI (11 + (S.2.1 w).2.1.length)), .int (((S.2.2 ((t + s) % 4)).2.2.getD k0 (0, 0, 0)).1)]) (rest := []) (ct_X4_lay cy z _ _ _ _ _ _ _ _ _ _ _ _ _ w (11 + (S.2.1 w).2.1.length) (((S.2.2 ((t + s) % 4)).2.2.getD k0 (0, 0, 0)).1) (by omega) H30.self) ok_X4_lay (H30.2.1) rfl im_X4_lay sl_X4_lay ml_X4_33 nd_X4_lay (by decide +kernel) (Nat.le_of_ble_eq_true rfl) rfl dX4_send_120 (fun G44 q46 => ?_)
                  have H47 := H30.tr q46
                  refine cc_aload_n (j := 4) dX4_send_123 rfl rfl ?_
                  refine cc_iload_n (j := 5) dX4_send_124 rfl rfl ?_
                  refine cc_bipush (v := 9) dX4_send_125 (by decide) ?_
                  refine cc_iconst (v := 1) dX4_send_127 (by decide) ?_
                  refine cc_callVv (As := [.int (nI w), .int 9, .int 1]) (rest := []) (ct_X4_more cy z _ _ _ _ _ _ _ _ _ _ _ _ _ w 9 1 (by omega) H47.self) ok_X4_more (H47.2.1) rfl im_X4_more sl_X4_more ml_X4_66 nd_X4_more (by decide +kernel) (Nat.le_of_ble_eq_true rfl) rfl dX4_send_128 (fun G48 q50 => ?_)
                  have H51 := H47.tr q50
                  rw [show (upd r5 (4 + 30 * w + (11 + (S.2.1 w).2.1.length)) (((S.2.2 ((t + s) % 4)).2.2.getD k0 (0, 0, 0)).1)) (4 + 30 * w + 9) = nI (S.2.1 w).2.1.length from (pk_un (by omega)).trans hl5.2.1, nI_1] at H51
                  have hl7 := hl5.push hlen (((S.2.2 ((t + s) % 4)).2.2.getD k0 (0, 0, 0)).1)
                  have hk7l : ∀ q, (q < 4 + 30 * w ∨ 4 + 30 * w + 30 ≤ q) → upd (upd r5 (4 + 30 * w + (11 + (S.2.1 w).2.1.length)) (((S.2.2 ((t + s) % 4)).2.2.getD k0 (0, 0, 0)).1)) (4 + 30 * w + 9) (nI ((S.2.1 w).2.1.length + 1)) q = r2 q := fun q hq => (pk_un (by omega)).trans ((pk_un (by omega)).trans (hk5l q hq))
                  generalize upd (upd r5 (4 + 30 * w + (11 + (S.2.1 w).2.1.length)) (((S.2.2 ((t + s) % 4)).2.2.getD k0 (0, 0, 0)).1)) (4 + 30 * w + 9) (nI ((S.2.1 w).2.1.length + 1)) = r7 at H51 hl7 hk7l
                  refine cc_goto (tgt := 142) dX4_send_131 (by decide) ?_
                  refine cc_iconst (v := 1) dX4_send_142 (by decide) ?_
                  refine cc_iret rfl rfl dX4_send_143 ?_
                  have hT2 : B_try (nI w) (S.1 1) S.2.2 hx t 4 0 = some (((t + s) % 4), k0) := by
                    rw [hT, show 4 - s = (4 - (s + 1)) + 1 by omega]; unfold B_try; rw [if_pos h0, hqo]
                  have hS : B_send w t (S, hx) = (some ((S.2.2 ((t + s) % 4)).2.2.getD k0 (0, 0, 0)).1, B_put w ((t + s) % 4) k0 (S, hx)) := by
                    unfold B_send; rw [if_neg (Int32.not_le.mpr hcr0), hT2]
                  rw [hS]
                  refine ⟨_, rfl, rfl, _, _, _, H51, ?_, fun j hj4 => ?_, pk_us, fun j hjw => (pk_un hjw).trans (pk_un hjw)⟩
                  · have hlR : rl_I r7 (4 + 30 * w) (upd (L_recv (((S.2.2 ((t + s) % 4)).2.2.getD k0 (0, 0, 0)).1) (S.2.1 w)).1 4 (nI ((((t + s) % 4) + 1) % 4)), (L_recv (((S.2.2 ((t + s) % 4)).2.2.getD k0 (0, 0, 0)).1) (S.2.1 w)).2) := by
                      have eR : L_recv (((S.2.2 ((t + s) % 4)).2.2.getD k0 (0, 0, 0)).1) (S.2.1 w) = _ := if_neg c_103
                      rw [eR]
                      rw [upd_sw (i := 4) (j := 5) (by decide)] at hl7
                      exact hl7
                    exact hw2.lane hw4 hlR hk7l
                  · show upd hs ((t + s) % 4) 1 j = va_up hx ((t + s) % 4) 1 j
                    by_cases e : j = ((t + s) % 4)
                    · subst e
                      rw [pk_us, va_up_self]
                    · rw [pk_un e, va_up_ne _ _ e]
                      exact hhx j hj4
          · refine cc_iload_n (j := 0) dX4_send_36 rfl rfl ?_
            refine cc_iload_n (j := 3) dX4_send_37 rfl rfl ?_
            refine cc_callVi (As := [.int (nI ((t + s) % 4)), .int (nI w)]) (rest := []) (ct_X4_offer_sent cy z _ _ _ _ _ _ _ _ _ _ _ _ _ ((t + s) % 4) hj (nI w) H.self (by rw [hhx _ hj, h0]; decide)) ok_X4_offer (H.2.1) rfl im_X4_offer sl_X4_offer ml_X4_100 nd_X4_offer (by decide +kernel) (Nat.le_of_ble_eq_true rfl) rfl dX4_send_38 (fun r53 G52 q54 => ?_)
            obtain ⟨rfl, rfl⟩ := q54
            refine cc_istore (ls' := [(4, .int (-5)), (3, .int (nI ((t + s) % 4))), (2, .int (nI s)), (0, .ref o), (1, .int (nI w))]) dX4_send_41 (Nat.le_of_ble_eq_true rfl) rfl ?_
            refine cc_iload (j := 0) dX4_send_43 rfl ?_
            refine cc_if_lt (tgt := 144) dX4_send_45 (by decide) (fun c_45_2 => ?_) (fun c_45_2 => ?_)
            · refine cc_iinc (j := 2) (v := nI (s + 1)) (ls' := [(2, .int (nI (s + 1))), (4, .int (-5)), (3, .int (nI ((t + s) % 4))), (0, .ref o), (1, .int (nI w))]) dX4_send_144 rfl (nI_1 s) (Nat.le_of_ble_eq_true rfl) rfl ?_
              refine cc_goto (tgt := 10) dX4_send_147 (by decide) ?_
              refine cc_loc (ls' := [(2, .int (nI (s + 1))), (0, .ref o), (1, .int (nI w))]) [0, 3, 4] rfl ?_
              exact ih (s + 1) _ (by omega) (by omega) (hT.trans (by rw [show 4 - s = (4 - (s + 1)) + 1 by omega]; conv => { lhs; unfold B_try; rw [if_neg (by rw [h0]; decide)] })) (Or.inr (Int32.not_le.mp c_21)) H
            · exact absurd c_45_2 (by decide)
  refine cc_enter ok_X4_send (Nat.le_of_ble_eq_true rfl) (ls := [(0, .ref o), (1, .int (nI w))]) rfl ?_
  refine cc_aload_n (j := 0) dX4_send_0 rfl rfl ?_
  refine cc_get (v := .ref (o + 7)) H.2.1 cc_c4 10 (by decide) fl_X4_30 rfl dX4_send_1 ?_
  refine cc_iload_n (j := 1) dX4_send_4 rfl rfl ?_
  refine cc_bipush (v := (-5)) dX4_send_5 (by decide) ?_
  refine mo_rast_so (j := w) H (vp_in_nI (n := w) (by omega) (by decide)) (nI_clamp (by omega)) dX4_send_7 (fun G55 H56 => ?_)
  refine cc_iconst (v := 0) dX4_send_8 (by decide) ?_
  refine cc_istore_n (ls' := [(2, .int 0), (0, .ref o), (1, .int (nI w))]) dX4_send_9 rfl (Nat.le_of_ble_eq_true rfl) rfl ?_
  exact loop_10 5 0 _ (by omega) (by omega) rfl (Or.inl rfl) H56
