theorem rl_I.num {r : Nat → Int32} {b : Nat} {L : Ln_} (h : rl_I r b L) {w : Nat} (hw : w < 9) (x : Int32) : rl_I (upd r (b + w) x) b (upd L.1 w x, L.2) := by
  obtain ⟨h1, h2, h3, h4, h5, h6, h7⟩ := h
  refine ⟨fun k hk => ?_, (pk_un (by omega)).trans h2, (pk_un (by omega)).trans h3, h4.eq (fun k hk => pk_un (by omega)), h5.eq (fun k hk => pk_un (by omega)), h6, h7⟩
  show upd r _ x _ = upd L.1 w x k
  by_cases hq : k = w
  · subst hq
    rw [pk_us, pk_us]
  · rw [pk_un (by omega), pk_un hq]
    exact h1 k hk

set_option maxHeartbeats 4000000 in
set_option maxRecDepth 100000 in
theorem ct_X4_come (cy : Nat → ClassId) (z : Nat) (G : cc_G) (o : Nat) (r pa qa be : Nat → Int32) (nn ia : Int32) (tx : Nat → Int32) (le ay : Int32) (hs so : Nat → Int32) (v : Nat → Int32) (sd wy : List Int32) (a : Nat) (ha : a < 4) (t : Int32) (ht : r 0 = t) (H : mo_R cy G G o r pa qa be nn ia tx le ay hs so) (hl : rl_I r (4 + 30 * a) (v, sd, wy)) : cc_Cn cy Y_X4_come [.ref o, .int (nI a)] z G (cc_qv (fun G' => ∃ r', mo_R cy G G' o r' pa qa be nn ia tx le ay hs so ∧ rl_I r' (4 + 30 * a) (L_come t (v, sd, wy)) ∧ ∀ q, (q < 4 + 30 * a ∨ 4 + 30 * a + 30 ≤ q) → r' q = r q)) := by
  
  have loop_0 : ∀ (f : Nat) (v' : Nat → Int32) (wy' : List Int32) (r1 : Nat → Int32) (G1 : cc_G), wy'.length < f → mo_R cy G G1 o r1 pa qa be nn ia tx le ay hs so → rl_I r1 (4 + 30 * a) (v', sd, wy') → (∀ q, (q < 4 + 30 * a ∨ 4 + 30 * a + 30 ≤ q) → r1 q = r q) → L_comeW t v' wy' = L_comeW t v wy → cc_R cy Y_X4_come z 0 [(0, .ref o), (1, .int (nI a))] [] G1 (cc_qv (fun G' => ∃ r', mo_R cy G G' o r' pa qa be nn ia tx le ay hs so ∧ rl_I r' (4 + 30 * a) (L_come t (v, sd, wy)) ∧ ∀ q, (q < 4 + 30 * a ∨ 4 + 30 * a + 30 ≤ q) → r' q = r q)) := by
    intro f
    induction f with
    | zero => intro v' wy' r1 G1 h1; exact absurd h1 (by omega)
    | succ f ih =>
      intro v' wy' r1 G1 hf H hl hk hw
      have h3 : r1 (4 + 30 * a + 10) = nI wy'.length := hl.2.2.1
      have h7 : wy'.length ≤ 6 := hl.2.2.2.2.2.2
      refine cc_aload_n (j := 0) dX4_come_0 rfl rfl ?_
      refine cc_iload_n (j := 1) dX4_come_1 rfl rfl ?_
      refine cc_bipush (v := 10) dX4_come_2 (by decide) ?_
      refine cc_callVi (As := [.int (nI a), .int 10]) (rest := []) (ct_X4_of cy z _ _ _ _ _ _ _ _ _ _ _ _ _ a 10 (by omega) H.self) ok_X4_of (H.2.1) rfl im_X4_of sl_X4_of ml_X4_62 nd_X4_of (by decide +kernel) (Nat.le_of_ble_eq_true rfl) rfl dX4_come_4 (fun r2 G1 q3 => ?_)
      obtain ⟨rfl, rfl⟩ := q3
      rw [show r1 (4 + 30 * a + 10) = nI wy'.length from h3]
      refine cc_if_le (tgt := 41) dX4_come_7 (by decide) (fun c_7 => ?_) (fun c_7 => ?_)
      · refine cc_vret rfl dX4_come_41 ?_
        have hz : wy' = [] := List.length_eq_zero_iff.mp (by rcases Nat.eq_zero_or_pos wy'.length with e | e; exact e; exact absurd ((cc_p0 (by omega)).mpr e) (Int32.not_lt.mpr c_7))
        subst hz
        have hcw : L_comeW t v' [] = (v', []) := rfl
        refine ⟨rfl, r1, H, ?_, hk⟩
        unfold L_come
        dsimp only
        rw [← hw, hcw]
        exact hl
      · obtain ⟨wd, ws, rfl⟩ : ∃ wd ws, wy' = wd :: ws := by
          cases wy' with
          | nil => exact absurd (by decide) c_7
          | cons wd ws => exact ⟨wd, ws, rfl⟩
        refine cc_aload_n (j := 0) dX4_come_10 rfl rfl ?_
        refine cc_iload_n (j := 1) dX4_come_11 rfl rfl ?_
        refine cc_bipush (v := 19) dX4_come_12 (by decide) ?_
        refine cc_callVi (As := [.int (nI a), .int 19]) (rest := []) (ct_X4_of cy z _ _ _ _ _ _ _ _ _ _ _ _ _ a 19 (by omega) H.self) ok_X4_of (H.2.1) rfl im_X4_of sl_X4_of ml_X4_62 nd_X4_of (by decide +kernel) (Nat.le_of_ble_eq_true rfl) rfl dX4_come_14 (fun r5 G4 q6 => ?_)
        obtain ⟨rfl, rfl⟩ := q6
        rw [show r1 (4 + 30 * a + 19) = wd from hl.2.2.2.2.1 0 (by simp)]
        refine cc_aload_n (j := 0) dX4_come_17 rfl rfl ?_
        refine cc_get (v := .ref (o + 1)) H.2.1 cc_c4 0 (by decide) fl_X4_7 rfl dX4_come_18 ?_
        refine cc_iconst (v := 0) dX4_come_21 (by decide) ?_
        refine cc_iald (x := r1 0) H.2.2.1 (vp_in_nI (n := 0) (by decide) (by decide)) (by rw [show (0 : Int32).toNatClampNeg = 0 from rfl]) dX4_come_22 ?_
        rw [show r1 0 = t from (hk 0 (by omega)).trans ht]
        refine cc_icmp_gt (tgt := 41) dX4_come_23 (by decide) (fun c_23 => ?_) (fun c_23 => ?_)
        · refine cc_vret rfl dX4_come_41 ?_
          have hcw : L_comeW t v' (wd :: ws) = (v', wd :: ws) := by
            rw [L_comeW, if_neg (Int32.not_le.mpr c_23)]
          refine ⟨rfl, r1, H, ?_, hk⟩
          unfold L_come
          dsimp only
          rw [← hw, hcw]
          exact hl
        · refine cc_aload_n (j := 0) dX4_come_26 rfl rfl ?_
          refine cc_iload_n (j := 1) dX4_come_27 rfl rfl ?_
          refine cc_callVv (As := [.int (nI a)]) (rest := []) (ct_X4_dropFirst cy z _ _ _ _ _ _ _ _ _ _ _ _ _ v' sd (wd :: ws) a ha (by simp) H.self hl) ok_X4_dropFirst (H.2.1) rfl im_X4_dropFirst sl_X4_dropFirst ml_X4_96 nd_X4_dropFirst (by decide +kernel) (Nat.le_of_ble_eq_true rfl) rfl dX4_come_28 (fun G7 q9 => ?_)
          obtain ⟨r2, H10, hl2, hk2⟩ := q9
          have H10 := H.tr H10
          have hl2 : rl_I r2 (4 + 30 * a) (v', sd, ws) := hl2
          refine cc_aload_n (j := 0) dX4_come_31 rfl rfl ?_
          refine cc_iload_n (j := 1) dX4_come_32 rfl rfl ?_
          refine cc_iconst (v := 3) dX4_come_33 (by decide) ?_
          refine cc_iconst (v := 1) dX4_come_34 (by decide) ?_
          refine cc_callVv (As := [.int (nI a), .int 3, .int 1]) (rest := []) (ct_X4_more cy z _ _ _ _ _ _ _ _ _ _ _ _ _ a 3 1 (by omega) H10.self) ok_X4_more (H10.2.1) rfl im_X4_more sl_X4_more ml_X4_66 nd_X4_more (by decide +kernel) (Nat.le_of_ble_eq_true rfl) rfl dX4_come_35 (fun G11 q13 => ?_)
          have H14 := H10.tr q13
          rw [show r2 (4 + 30 * a + 3) = v' 3 from hl2.1 3 (by decide)] at H14
          have hl3 := hl2.num (w := 3) (by decide) (v' 3 + 1)
          have hk3 : ∀ q, (q < 4 + 30 * a ∨ 4 + 30 * a + 30 ≤ q) → upd r2 (4 + 30 * a + 3) (v' 3 + 1) q = r q := fun q hq => (pk_un (by omega)).trans ((hk2 q hq).trans (hk q hq))
          generalize upd r2 (4 + 30 * a + 3) (v' 3 + 1) = r3 at H14 hl3 hk3
          refine cc_goto (tgt := 0) dX4_come_38 (by decide) ?_
          exact ih (upd v' 3 (v' 3 + 1)) ws r3 _ (by simp at hf; omega) H14 hl3 hk3 (by rw [← hw]; conv => { rhs; rw [L_comeW, if_pos (Int32.not_lt.mp c_23)] })
  refine cc_enter ok_X4_come (Nat.le_of_ble_eq_true rfl) (ls := [(0, .ref o), (1, .int (nI a))]) rfl ?_
  exact loop_0 (wy.length + 1) v wy r _ (by omega) H hl (fun _ _ => rfl) rfl

set_option maxHeartbeats 4000000 in
set_option maxRecDepth 100000 in
theorem ct_X4_take (cy : Nat → ClassId) (z : Nat) (G : cc_G) (o : Nat) (r pa qa be : Nat → Int32) (nn ia : Int32) (tx : Nat → Int32) (le ay : Int32) (hs so : Nat → Int32) (v : Nat → Int32) (sd wy : List Int32) (a : Nat) (ha : a < 4) (t : Int32) (ht : r 0 = t) (hp : ¬ v 1 = 0) (h5 : wy.length ≤ 5) (H : mo_R cy G G o r pa qa be nn ia tx le ay hs so) (hl : rl_I r (4 + 30 * a) (v, sd, wy)) : cc_Cn cy Y_X4_take [.ref o, .int (nI a)] z G (cc_qv (fun G' => ∃ r', mo_R cy G G' o r' pa qa be nn ia tx le ay hs so ∧ rl_I r' (4 + 30 * a) (L_take t (v, sd, wy)) ∧ ∀ q, (q < 4 + 30 * a ∨ 4 + 30 * a + 30 ≤ q) → r' q = r q)) := by
  obtain ⟨l1, l2, l3, l4, l5, l6, l7⟩ := hl
  have l1 : ∀ k, k < 9 → r (4 + 30 * a + k) = v k := l1
  have l2 : r (4 + 30 * a + 9) = nI sd.length := l2
  have l3 : r (4 + 30 * a + 10) = nI wy.length := l3
  have l4 : ar_ (fun k => r (4 + 30 * a + (11 + k))) sd := l4
  have l5 : ar_ (fun k => r (4 + 30 * a + (19 + k))) wy := l5
  have l6 : sd.length ≤ 8 := l6
  have l7 : wy.length ≤ 6 := l7
  have loop_122 : ∀ (k : Nat) (rb r1 : Nat → Int32) (G1 : cc_G), k ≤ wy.length → cc_rm (t + 1) (v 1) = 0 ∧ sd ≠ [] → mo_R cy G G1 o r1 pa qa be nn ia tx le ay hs so → rl_I rb (4 + 30 * a) ((upd v 6 (v 6 + 1)), sd.tail, wy) → (∀ q, (q < 4 + 30 * a ∨ 4 + 30 * a + 30 ≤ q) → rb q = r q) → (∀ q, (q < 4 + 30 * a + 19 ∨ 4 + 30 * a + 30 ≤ q) → r1 q = rb q) → (∀ j, j < k → r1 (4 + 30 * a + (19 + j)) = rb (4 + 30 * a + (19 + j))) → (∀ j, k < j → j ≤ wy.length → r1 (4 + 30 * a + (19 + j)) = rb (4 + 30 * a + (19 + (j - 1)))) → L_rank (t + v 2) wy wy.length = L_rank (t + v 2) wy k → cc_R cy Y_X4_take z 122 [(3, .int (nI k)), (2, .int (t + v 2)), (0, .ref o), (1, .int (nI a))] [] G1 (cc_qv (fun G' => ∃ r', mo_R cy G G' o r' pa qa be nn ia tx le ay hs so ∧ rl_I r' (4 + 30 * a) (L_take t (v, sd, wy)) ∧ ∀ q, (q < 4 + 30 * a ∨ 4 + 30 * a + 30 ≤ q) → r' q = r q)) := by
    intro k
    induction k with
    | zero =>
      intro rb r1 G1 hk hc H hb hrb k1 k2 k3 k4
      have k4 : L_rank (t + v 2) wy wy.length = 0 := k4
      refine cc_iload_n (j := 0) dX4_take_122 rfl rfl ?_
      refine cc_if_le (tgt := 167) dX4_take_123 (by decide) (fun c_123 => ?_) (fun c_123 => ?_)
      · refine cc_aload_n (j := 2) dX4_take_167 rfl rfl ?_
        refine cc_iload_n (j := 3) dX4_take_168 rfl rfl ?_
        refine cc_bipush (v := 19) dX4_take_169 (by decide) ?_
        refine cc_iload_n (j := 0) dX4_take_171 rfl rfl ?_
        refine cc_iadd dX4_take_172 ?_
        rw [show 19 + (nI 0) = nI (19 + 0) from nI_add 19 0]
        refine cc_iload_n (j := 1) dX4_take_173 rfl rfl ?_
        refine cc_callVv (As := [.int (nI a), .int (nI (19 + 0)), .int (t + v 2)]) (rest := []) (ct_X4_lay cy z _ _ _ _ _ _ _ _ _ _ _ _ _ a (19 + 0) (t + v 2) (by omega) H.self) ok_X4_lay (H.2.1) rfl im_X4_lay sl_X4_lay ml_X4_33 nd_X4_lay (by decide +kernel) (Nat.le_of_ble_eq_true rfl) rfl dX4_take_174 (fun G1 q3 => ?_)
        have H4 := H.tr q3
        refine cc_aload_n (j := 2) dX4_take_177 rfl rfl ?_
        refine cc_iload_n (j := 3) dX4_take_178 rfl rfl ?_
        refine cc_bipush (v := 10) dX4_take_179 (by decide) ?_
        refine cc_iconst (v := 1) dX4_take_181 (by decide) ?_
        refine cc_callVv (As := [.int (nI a), .int 10, .int 1]) (rest := []) (ct_X4_more cy z _ _ _ _ _ _ _ _ _ _ _ _ _ a 10 1 (by omega) H4.self) ok_X4_more (H4.2.1) rfl im_X4_more sl_X4_more ml_X4_66 nd_X4_more (by decide +kernel) (Nat.le_of_ble_eq_true rfl) rfl dX4_take_182 (fun G5 q7 => ?_)
        have H8 := H4.tr q7
        refine cc_vret rfl dX4_take_185 ?_
        have hrk : L_rank (t + v 2) wy wy.length = 0 := k4
        rw [show L_take t (v, sd, wy) = ((upd v 6 (v 6 + 1)), sd.tail, L_ins (t + v 2) wy) from if_pos hc]
        obtain ⟨b1, b2, b3, b4, b5, b6, b7⟩ := hb
        have b2 : rb (4 + 30 * a + 9) = nI sd.tail.length := b2
        have b3 : rb (4 + 30 * a + 10) = nI wy.length := b3
        refine ⟨rfl, _, H8, ⟨fun k9 hk9 => ?_, ?_, ?_, ?_, ?_, b6, ?_⟩, fun q hq => ?_⟩
        · exact (pk_un (by omega)).trans ((pk_un (by omega)).trans ((k1 _ (by omega)).trans (b1 k9 hk9)))
        · exact (pk_un (by omega)).trans ((pk_un (by omega)).trans ((k1 _ (by omega)).trans b2))
        · show _ = nI (L_ins (t + v 2) wy).length
          rw [L_ins_len, pk_us, pk_un (by omega), k1 _ (by omega), b3]
          exact nI_1 _
        · exact b4.eq (fun k9 hk9 => (pk_un (by have : sd.tail.length ≤ 8 := b6; have hk9 : k9 < sd.tail.length := hk9; omega)).trans ((pk_un (by have : sd.tail.length ≤ 8 := b6; have hk9 : k9 < sd.tail.length := hk9; omega)).trans (k1 _ (by have : sd.tail.length ≤ 8 := b6; have hk9 : k9 < sd.tail.length := hk9; omega))))
        · show ar_ _ (L_ins (t + v 2) wy)
          unfold L_ins
          rw [hrk]
          refine ar_ins b5 (by omega) (fun j hj => ?_) ?_ (fun j hj hj2 => ?_)
          · exact (pk_un (by omega)).trans ((pk_un (by omega)).trans (k2 j (by omega)))
          · exact (pk_un (by omega)).trans pk_us
          · exact (pk_un (by omega)).trans ((pk_un (by omega)).trans (k3 j (by omega) hj2))
        · show (L_ins (t + v 2) wy).length ≤ 6
          rw [L_ins_len]
          omega
        · exact (pk_un (by omega)).trans ((pk_un (by omega)).trans ((k1 q (by omega)).trans (hrb q hq)))
      · exact absurd (by decide) c_123
    | succ k ih =>
      intro rb r1 G1 hk hc H hb hrb k1 k2 k3 k4
      refine cc_iload_n (j := 0) dX4_take_122 rfl rfl ?_
      refine cc_if_le (tgt := 167) dX4_take_123 (by decide) (fun c_123 => ?_) (fun c_123 => ?_)
      · exact absurd c_123 (nI_nle (by omega) (by omega))
      · refine cc_aload_n (j := 2) dX4_take_126 rfl rfl ?_
        refine cc_iload_n (j := 3) dX4_take_127 rfl rfl ?_
        refine cc_bipush (v := 19) dX4_take_128 (by decide) ?_
        refine cc_iload_n (j := 0) dX4_take_130 rfl rfl ?_
        refine cc_iadd dX4_take_131 ?_
        rw [show 19 + (nI (k + 1)) = nI (19 + k + 1) from nI_add 19 (k + 1)]
        refine cc_iconst (v := 1) dX4_take_132 (by decide) ?_
        refine cc_isub dX4_take_133 ?_
        rw [show (nI (19 + k + 1)) - 1 = nI (19 + k) from by have := cc_m1 (n := 19 + k + 1) (by omega); simpa using this]
        refine cc_callVi (As := [.int (nI a), .int (nI (19 + k))]) (rest := []) (ct_X4_of cy z _ _ _ _ _ _ _ _ _ _ _ _ _ a (19 + k) (by omega) H.self) ok_X4_of (H.2.1) rfl im_X4_of sl_X4_of ml_X4_62 nd_X4_of (by decide +kernel) (Nat.le_of_ble_eq_true rfl) rfl dX4_take_134 (fun r2 G1 q3 => ?_)
        obtain ⟨rfl, rfl⟩ := q3
        rw [show r1 (4 + 30 * a + (19 + k)) = wy.getD k 0 from (k2 k (by omega)).trans (ar_at (hb.2.2.2.2.1 : ar_ (fun k => rb (4 + 30 * a + (19 + k))) wy) (show k < wy.length by omega))]
        refine cc_iload_n (j := 1) dX4_take_137 rfl rfl ?_
        refine cc_icmp_le (tgt := 167) dX4_take_138 (by decide) (fun c_138 => ?_) (fun c_138 => ?_)
        · have hgt : ¬ (t + v 2) < wy.getD k 0 := Int32.not_lt.mpr c_138
          refine cc_aload_n (j := 2) dX4_take_167 rfl rfl ?_
          refine cc_iload_n (j := 3) dX4_take_168 rfl rfl ?_
          refine cc_bipush (v := 19) dX4_take_169 (by decide) ?_
          refine cc_iload_n (j := 0) dX4_take_171 rfl rfl ?_
          refine cc_iadd dX4_take_172 ?_
          rw [show 19 + (nI (k + 1)) = nI (19 + k + 1) from nI_add 19 (k + 1)]
          refine cc_iload_n (j := 1) dX4_take_173 rfl rfl ?_
          refine cc_callVv (As := [.int (nI a), .int (nI (19 + k + 1)), .int (t + v 2)]) (rest := []) (ct_X4_lay cy z _ _ _ _ _ _ _ _ _ _ _ _ _ a (19 + k + 1) (t + v 2) (by omega) H.self) ok_X4_lay (H.2.1) rfl im_X4_lay sl_X4_lay ml_X4_33 nd_X4_lay (by decide +kernel) (Nat.le_of_ble_eq_true rfl) rfl dX4_take_174 (fun G4 q6 => ?_)
          have H7 := H.tr q6
          refine cc_aload_n (j := 2) dX4_take_177 rfl rfl ?_
          refine cc_iload_n (j := 3) dX4_take_178 rfl rfl ?_
          refine cc_bipush (v := 10) dX4_take_179 (by decide) ?_
          refine cc_iconst (v := 1) dX4_take_181 (by decide) ?_
          refine cc_callVv (As := [.int (nI a), .int 10, .int 1]) (rest := []) (ct_X4_more cy z _ _ _ _ _ _ _ _ _ _ _ _ _ a 10 1 (by omega) H7.self) ok_X4_more (H7.2.1) rfl im_X4_more sl_X4_more ml_X4_66 nd_X4_more (by decide +kernel) (Nat.le_of_ble_eq_true rfl) rfl dX4_take_182 (fun G8 q10 => ?_)
          have H11 := H7.tr q10
          refine cc_vret rfl dX4_take_185 ?_
          have hrk : L_rank (t + v 2) wy wy.length = (k + 1) := (k4.trans (by unfold L_rank; rw [if_neg hgt]))
          rw [show L_take t (v, sd, wy) = ((upd v 6 (v 6 + 1)), sd.tail, L_ins (t + v 2) wy) from if_pos hc]
          obtain ⟨b1, b2, b3, b4, b5, b6, b7⟩ := hb
          have b2 : rb (4 + 30 * a + 9) = nI sd.tail.length := b2
          have b3 : rb (4 + 30 * a + 10) = nI wy.length := b3
          refine ⟨rfl, _, H11, ⟨fun k9 hk9 => ?_, ?_, ?_, ?_, ?_, b6, ?_⟩, fun q hq => ?_⟩
          · exact (pk_un (by omega)).trans ((pk_un (by omega)).trans ((k1 _ (by omega)).trans (b1 k9 hk9)))
          · exact (pk_un (by omega)).trans ((pk_un (by omega)).trans ((k1 _ (by omega)).trans b2))
          · show _ = nI (L_ins (t + v 2) wy).length
            rw [L_ins_len, pk_us, pk_un (by omega), k1 _ (by omega), b3]
            exact nI_1 _
          · exact b4.eq (fun k9 hk9 => (pk_un (by have : sd.tail.length ≤ 8 := b6; have hk9 : k9 < sd.tail.length := hk9; omega)).trans ((pk_un (by have : sd.tail.length ≤ 8 := b6; have hk9 : k9 < sd.tail.length := hk9; omega)).trans (k1 _ (by have : sd.tail.length ≤ 8 := b6; have hk9 : k9 < sd.tail.length := hk9; omega))))
          · show ar_ _ (L_ins (t + v 2) wy)
            unfold L_ins
            rw [hrk]
            refine ar_ins b5 (by omega) (fun j hj => ?_) ?_ (fun j hj hj2 => ?_)
            · exact (pk_un (by omega)).trans ((pk_un (by omega)).trans (k2 j (by omega)))
            · exact (pk_un (by omega)).trans pk_us
            · exact (pk_un (by omega)).trans ((pk_un (by omega)).trans (k3 j (by omega) hj2))
          · show (L_ins (t + v 2) wy).length ≤ 6
            rw [L_ins_len]
            omega
          · exact (pk_un (by omega)).trans ((pk_un (by omega)).trans ((k1 q (by omega)).trans (hrb q hq)))
        · have hgt : (t + v 2) < wy.getD k 0 := Int32.not_le.mp c_138
          refine cc_aload_n (j := 2) dX4_take_141 rfl rfl ?_
          refine cc_iload_n (j := 3) dX4_take_142 rfl rfl ?_
          refine cc_bipush (v := 19) dX4_take_143 (by decide) ?_
          refine cc_iload_n (j := 0) dX4_take_145 rfl rfl ?_
          refine cc_iadd dX4_take_146 ?_
          rw [show 19 + (nI (k + 1)) = nI (19 + k + 1) from nI_add 19 (k + 1)]
          refine cc_aload_n (j := 2) dX4_take_147 rfl rfl ?_
          refine cc_iload_n (j := 3) dX4_take_148 rfl rfl ?_
          refine cc_bipush (v := 19) dX4_take_149 (by decide) ?_
          refine cc_iload_n (j := 0) dX4_take_151 rfl rfl ?_
          refine cc_iadd dX4_take_152 ?_
          rw [show 19 + (nI (k + 1)) = nI (19 + k + 1) from nI_add 19 (k + 1)]
          refine cc_iconst (v := 1) dX4_take_153 (by decide) ?_
          refine cc_isub dX4_take_154 ?_
          rw [show (nI (19 + k + 1)) - 1 = nI (19 + k) from by have := cc_m1 (n := 19 + k + 1) (by omega); simpa using this]
          refine cc_callVi (As := [.int (nI a), .int (nI (19 + k))]) (rest := [.int (nI (19 + k + 1)), .int (nI a), .ref o]) (ct_X4_of cy z _ _ _ _ _ _ _ _ _ _ _ _ _ a (19 + k) (by omega) H.self) ok_X4_of (H.2.1) rfl im_X4_of sl_X4_of ml_X4_62 nd_X4_of (by decide +kernel) (Nat.le_of_ble_eq_true rfl) rfl dX4_take_155 (fun r13 G12 q14 => ?_)
          obtain ⟨rfl, rfl⟩ := q14
          rw [show r1 (4 + 30 * a + (19 + k)) = wy.getD k 0 from (k2 k (by omega)).trans (ar_at (hb.2.2.2.2.1 : ar_ (fun k => rb (4 + 30 * a + (19 + k))) wy) (show k < wy.length by omega))]
          refine cc_callVv (As := [.int (nI a), .int (nI (19 + k + 1)), .int (wy.getD k 0)]) (rest := []) (ct_X4_lay cy z _ _ _ _ _ _ _ _ _ _ _ _ _ a (19 + k + 1) (wy.getD k 0) (by omega) H.self) ok_X4_lay (H.2.1) rfl im_X4_lay sl_X4_lay ml_X4_33 nd_X4_lay (by decide +kernel) (Nat.le_of_ble_eq_true rfl) rfl dX4_take_158 (fun G15 q17 => ?_)
          have H18 := H.tr q17
          refine cc_iinc (j := 0) (v := nI k) (ls' := [(3, .int (nI k)), (2, .int (t + v 2)), (0, .ref o), (1, .int (nI a))]) dX4_take_161 rfl (cc_dec k) (Nat.le_of_ble_eq_true rfl) rfl ?_
          refine cc_goto (tgt := 122) dX4_take_164 (by decide) ?_
          refine ih rb _ _ (by omega) hc H18 hb hrb (fun q hq => (pk_un (by omega)).trans (k1 q hq)) (fun j hj => (pk_un (by omega)).trans (k2 j (by omega))) (fun j hj hj2 => ?_) (k4.trans (by conv => { lhs; unfold L_rank; rw [if_pos hgt] }))
          by_cases hq : j = k + 1
          · subst hq
            rw [show 19 + k + 1 = 19 + (k + 1) by omega, pk_us, show k + 1 - 1 = k by omega]
            exact (ar_at (hb.2.2.2.2.1 : ar_ (fun k => rb (4 + 30 * a + (19 + k))) wy) (show k < wy.length by omega)).symm
          · exact (pk_un (by omega)).trans (k3 j (by omega) hj2)
  have loop_39 : ∀ (f k : Nat) (r1 : Nat → Int32) (G1 : cc_G), sd.length - 1 < k + f → k ≤ sd.length - 1 → 1 ≤ sd.length → cc_rm (t + 1) (v 1) = 0 ∧ sd ≠ [] → mo_R cy G G1 o r1 pa qa be nn ia tx le ay hs so → (∀ q, (q < 4 + 30 * a + 11 ∨ 4 + 30 * a + 19 ≤ q) → r1 q = upd r (4 + 30 * a + 9) (nI (sd.length - 1)) q) → (∀ j, j < k → r1 (4 + 30 * a + (11 + j)) = r (4 + 30 * a + (11 + j + 1))) → (∀ j, k ≤ j → j < 8 → r1 (4 + 30 * a + (11 + j)) = r (4 + 30 * a + (11 + j))) → cc_R cy Y_X4_take z 39 [(2, .int (nI k)), (0, .ref o), (1, .int (nI a))] [] G1 (cc_qv (fun G' => ∃ r', mo_R cy G G' o r' pa qa be nn ia tx le ay hs so ∧ rl_I r' (4 + 30 * a) (L_take t (v, sd, wy)) ∧ ∀ q, (q < 4 + 30 * a ∨ 4 + 30 * a + 30 ≤ q) → r' q = r q)) := by
    intro f
    induction f with
    | zero => intro k r1 G1 h1 h2; exact absurd h1 (by omega)
    | succ f ih =>
      intro k r1 G1 hf hk hs1 hc H k1 k2 k3
      have kw : r1 (4 + 30 * a + 9) = nI (sd.length - 1) := (k1 _ (by omega)).trans pk_us
      refine cc_iload_n (j := 0) dX4_take_39 rfl rfl ?_
      refine cc_aload_n (j := 1) dX4_take_40 rfl rfl ?_
      refine cc_iload_n (j := 2) dX4_take_41 rfl rfl ?_
      refine cc_bipush (v := 9) dX4_take_42 (by decide) ?_
      refine cc_callVi (As := [.int (nI a), .int 9]) (rest := [.int (nI k)]) (ct_X4_of cy z _ _ _ _ _ _ _ _ _ _ _ _ _ a 9 (by omega) H.self) ok_X4_of (H.2.1) rfl im_X4_of sl_X4_of ml_X4_62 nd_X4_of (by decide +kernel) (Nat.le_of_ble_eq_true rfl) rfl dX4_take_44 (fun r20 G19 q21 => ?_)
      obtain ⟨rfl, rfl⟩ := q21
      rw [show r1 (4 + 30 * a + 9) = nI (sd.length - 1) from kw]
      refine cc_icmp_ge (tgt := 76) dX4_take_47 (by decide) (fun c_47 => ?_) (fun c_47 => ?_)
      · have hge : k = sd.length - 1 := by have := cc_ngt _ c_47 (by omega) (by omega); omega
        subst hge
        refine cc_aload_n (j := 1) dX4_take_76 rfl rfl ?_
        refine cc_iload_n (j := 2) dX4_take_77 rfl rfl ?_
        refine cc_bipush (v := 11) dX4_take_78 (by decide) ?_
        refine cc_aload_n (j := 1) dX4_take_80 rfl rfl ?_
        refine cc_iload_n (j := 2) dX4_take_81 rfl rfl ?_
        refine cc_bipush (v := 9) dX4_take_82 (by decide) ?_
        refine cc_callVi (As := [.int (nI a), .int 9]) (rest := [.int 11, .int (nI a), .ref o]) (ct_X4_of cy z _ _ _ _ _ _ _ _ _ _ _ _ _ a 9 (by omega) H.self) ok_X4_of (H.2.1) rfl im_X4_of sl_X4_of ml_X4_62 nd_X4_of (by decide +kernel) (Nat.le_of_ble_eq_true rfl) rfl dX4_take_84 (fun r23 G22 q24 => ?_)
        obtain ⟨rfl, rfl⟩ := q24
        rw [show r1 (4 + 30 * a + 9) = nI (sd.length - 1) from kw]
        refine cc_iadd dX4_take_87 ?_
        rw [show 11 + (nI (sd.length - 1)) = nI (11 + (sd.length - 1)) from nI_add 11 (sd.length - 1)]
        refine cc_iconst (v := 0) dX4_take_88 (by decide) ?_
        refine cc_callVv (As := [.int (nI a), .int (nI (11 + (sd.length - 1))), .int 0]) (rest := []) (ct_X4_lay cy z _ _ _ _ _ _ _ _ _ _ _ _ _ a (11 + (sd.length - 1)) 0 (by omega) H.self) ok_X4_lay (H.2.1) rfl im_X4_lay sl_X4_lay ml_X4_33 nd_X4_lay (by decide +kernel) (Nat.le_of_ble_eq_true rfl) rfl dX4_take_89 (fun G25 q27 => ?_)
        have H28 := H.tr q27
        have hl2 : rl_I (upd r1 (4 + 30 * a + (11 + (sd.length - 1))) 0) (4 + 30 * a) (v, sd.tail, wy) := by
          refine ⟨fun k9 hk9 => ?_, ?_, ?_, ?_, ?_, ?_, l7⟩
          · exact (pk_un (by omega)).trans ((k1 _ (by omega)).trans ((pk_un (by omega)).trans (l1 k9 hk9)))
          · show _ = nI sd.tail.length
            rw [List.length_tail]
            exact (pk_un (by omega)).trans kw
          · exact (pk_un (by omega)).trans ((k1 _ (by omega)).trans ((pk_un (by omega)).trans l3))
          · refine l4.shift (fun k9 hk9 => ?_)
            exact (pk_un (by omega)).trans ((k2 k9 (by omega)).trans (by rw [show 11 + k9 + 1 = 11 + (k9 + 1) by omega]))
          · exact l5.eq (fun k9 hk9 => (pk_un (by omega)).trans ((k1 _ (by omega)).trans (pk_un (by omega))))
          · show sd.tail.length ≤ 8
            rw [List.length_tail]
            omega
        have hk2 : ∀ q, (q < 4 + 30 * a ∨ 4 + 30 * a + 30 ≤ q) → upd r1 (4 + 30 * a + (11 + (sd.length - 1))) 0 q = r q := fun q hq => (pk_un (by omega)).trans ((k1 q (by omega)).trans (pk_un (by omega)))
        generalize upd r1 (4 + 30 * a + (11 + (sd.length - 1))) 0 = r2 at H28 hl2 hk2
        refine cc_aload_n (j := 1) dX4_take_92 rfl rfl ?_
        refine cc_iload_n (j := 2) dX4_take_93 rfl rfl ?_
        refine cc_bipush (v := 6) dX4_take_94 (by decide) ?_
        refine cc_iconst (v := 1) dX4_take_96 (by decide) ?_
        refine cc_callVv (As := [.int (nI a), .int 6, .int 1]) (rest := []) (ct_X4_more cy z _ _ _ _ _ _ _ _ _ _ _ _ _ a 6 1 (by omega) H28.self) ok_X4_more (H28.2.1) rfl im_X4_more sl_X4_more ml_X4_66 nd_X4_more (by decide +kernel) (Nat.le_of_ble_eq_true rfl) rfl dX4_take_97 (fun G29 q31 => ?_)
        have H32 := H28.tr q31
        rw [show r2 (4 + 30 * a + 6) = v 6 from hl2.1 6 (by decide)] at H32
        have hl3 := hl2.num (w := 6) (by decide) (v 6 + 1)
        have hk3 : ∀ q, (q < 4 + 30 * a ∨ 4 + 30 * a + 30 ≤ q) → upd r2 (4 + 30 * a + 6) (v 6 + 1) q = r q := fun q hq => (pk_un (by omega)).trans (hk2 q hq)
        generalize upd r2 (4 + 30 * a + 6) (v 6 + 1) = r3 at H32 hl3 hk3
        refine cc_aload_n (j := 1) dX4_take_100 rfl rfl ?_
        refine cc_get (v := .ref (o + 1)) H32.2.1 cc_c4 0 (by decide) fl_X4_7 rfl dX4_take_101 ?_
        refine cc_iconst (v := 0) dX4_take_104 (by decide) ?_
        refine cc_iald (x := r3 0) H32.2.2.1 (vp_in_nI (n := 0) (by decide) (by decide)) (by rw [show (0 : Int32).toNatClampNeg = 0 from rfl]) dX4_take_105 ?_
        rw [show r3 0 = t from (hk3 0 (by omega)).trans ht]
        refine cc_aload_n (j := 1) dX4_take_106 rfl rfl ?_
        refine cc_iload_n (j := 2) dX4_take_107 rfl rfl ?_
        refine cc_iconst (v := 2) dX4_take_108 (by decide) ?_
        refine cc_callVi (As := [.int (nI a), .int 2]) (rest := [.int t]) (ct_X4_of cy z _ _ _ _ _ _ _ _ _ _ _ _ _ a 2 (by omega) H32.self) ok_X4_of (H32.2.1) rfl im_X4_of sl_X4_of ml_X4_62 nd_X4_of (by decide +kernel) (Nat.le_of_ble_eq_true rfl) rfl dX4_take_109 (fun r34 G33 q35 => ?_)
        obtain ⟨rfl, rfl⟩ := q35
        rw [show r3 (4 + 30 * a + 2) = v 2 from hl3.1 2 (by decide)]
        refine cc_iadd dX4_take_112 ?_
        refine cc_istore_n (ls' := [(2, .int (t + (v 2))), (0, .ref o), (1, .int (nI a))]) dX4_take_113 rfl (Nat.le_of_ble_eq_true rfl) rfl ?_
        refine cc_aload_n (j := 1) dX4_take_114 rfl rfl ?_
        refine cc_iload_n (j := 2) dX4_take_115 rfl rfl ?_
        refine cc_bipush (v := 10) dX4_take_116 (by decide) ?_
        refine cc_callVi (As := [.int (nI a), .int 10]) (rest := []) (ct_X4_of cy z _ _ _ _ _ _ _ _ _ _ _ _ _ a 10 (by omega) H32.self) ok_X4_of (H32.2.1) rfl im_X4_of sl_X4_of ml_X4_62 nd_X4_of (by decide +kernel) (Nat.le_of_ble_eq_true rfl) rfl dX4_take_118 (fun r37 G36 q38 => ?_)
        obtain ⟨rfl, rfl⟩ := q38
        rw [show r3 (4 + 30 * a + 10) = nI wy.length from hl3.2.2.1]
        refine cc_istore_n (ls' := [(3, .int (nI wy.length)), (2, .int (t + (v 2))), (0, .ref o), (1, .int (nI a))]) dX4_take_121 rfl (Nat.le_of_ble_eq_true rfl) rfl ?_
        exact loop_122 wy.length r3 r3 _ (Nat.le_refl _) hc H32 hl3 hk3 (fun _ _ => rfl) (fun _ _ => rfl) (fun j hj hj2 => absurd hj (by omega)) rfl
      · have hlt : k < sd.length - 1 := cc_nlt _ c_47 (by omega)
        refine cc_aload_n (j := 1) dX4_take_50 rfl rfl ?_
        refine cc_iload_n (j := 2) dX4_take_51 rfl rfl ?_
        refine cc_bipush (v := 11) dX4_take_52 (by decide) ?_
        refine cc_iload_n (j := 0) dX4_take_54 rfl rfl ?_
        refine cc_iadd dX4_take_55 ?_
        rw [show 11 + (nI k) = nI (11 + k) from nI_add 11 k]
        refine cc_aload_n (j := 1) dX4_take_56 rfl rfl ?_
        refine cc_iload_n (j := 2) dX4_take_57 rfl rfl ?_
        refine cc_bipush (v := 11) dX4_take_58 (by decide) ?_
        refine cc_iload_n (j := 0) dX4_take_60 rfl rfl ?_
        refine cc_iadd dX4_take_61 ?_
        rw [show 11 + (nI k) = nI (11 + k) from nI_add 11 k]
        refine cc_iconst (v := 1) dX4_take_62 (by decide) ?_
        refine cc_iadd dX4_take_63 ?_
        rw [show (nI (11 + k)) + 1 = nI (11 + k + 1) from nI_add (11 + k) 1]
        refine cc_callVi (As := [.int (nI a), .int (nI (11 + k + 1))]) (rest := [.int (nI (11 + k)), .int (nI a), .ref o]) (ct_X4_of cy z _ _ _ _ _ _ _ _ _ _ _ _ _ a (11 + k + 1) (by omega) H.self) ok_X4_of (H.2.1) rfl im_X4_of sl_X4_of ml_X4_62 nd_X4_of (by decide +kernel) (Nat.le_of_ble_eq_true rfl) rfl dX4_take_64 (fun r40 G39 q41 => ?_)
        obtain ⟨rfl, rfl⟩ := q41
        refine cc_callVv (As := [.int (nI a), .int (nI (11 + k)), .int (r1 (4 + 30 * a + (11 + k + 1)))]) (rest := []) (ct_X4_lay cy z _ _ _ _ _ _ _ _ _ _ _ _ _ a (11 + k) (r1 (4 + 30 * a + (11 + k + 1))) (by omega) H.self) ok_X4_lay (H.2.1) rfl im_X4_lay sl_X4_lay ml_X4_33 nd_X4_lay (by decide +kernel) (Nat.le_of_ble_eq_true rfl) rfl dX4_take_67 (fun G42 q44 => ?_)
        have H45 := H.tr q44
        refine cc_iinc (j := 0) (v := nI (k + 1)) (ls' := [(2, .int (nI (k + 1))), (0, .ref o), (1, .int (nI a))]) dX4_take_70 rfl (nI_1 k) (Nat.le_of_ble_eq_true rfl) rfl ?_
        refine cc_goto (tgt := 39) dX4_take_73 (by decide) ?_
        refine ih (k + 1) _ _ (by omega) (by omega) hs1 hc H45 (fun q hq => (pk_un (by omega)).trans (k1 q hq)) (fun j hj => ?_) (fun j hj hj2 => (pk_un (by omega)).trans (k3 j (by omega) hj2))
        by_cases hq : j = k
        · subst hq
          rw [pk_us]
          rw [show 4 + 30 * a + (11 + j + 1) = 4 + 30 * a + (11 + (j + 1)) by omega]
          exact k3 (j + 1) (by omega) (by omega)
        · rw [pk_un (by omega)]
          exact k2 j (by omega)
  refine cc_enter ok_X4_take (Nat.le_of_ble_eq_true rfl) (ls := [(0, .ref o), (1, .int (nI a))]) rfl ?_
  refine cc_aload_n (j := 0) dX4_take_0 rfl rfl ?_
  refine cc_get (v := .ref (o + 1)) H.2.1 cc_c4 0 (by decide) fl_X4_7 rfl dX4_take_1 ?_
  refine cc_iconst (v := 0) dX4_take_4 (by decide) ?_
  refine cc_iald (x := r 0) H.2.2.1 (vp_in_nI (n := 0) (by decide) (by decide)) (by rw [show (0 : Int32).toNatClampNeg = 0 from rfl]) dX4_take_5 ?_
  rw [show r 0 = t from ht]
  refine cc_iconst (v := 1) dX4_take_6 (by decide) ?_
  refine cc_iadd dX4_take_7 ?_
  refine cc_aload_n (j := 0) dX4_take_8 rfl rfl ?_
  refine cc_iload_n (j := 1) dX4_take_9 rfl rfl ?_
  refine cc_iconst (v := 1) dX4_take_10 (by decide) ?_
  refine cc_callVi (As := [.int (nI a), .int 1]) (rest := [.int (t + 1)]) (ct_X4_of cy z _ _ _ _ _ _ _ _ _ _ _ _ _ a 1 (by omega) H.self) ok_X4_of (H.2.1) rfl im_X4_of sl_X4_of ml_X4_62 nd_X4_of (by decide +kernel) (Nat.le_of_ble_eq_true rfl) rfl dX4_take_11 (fun r47 G46 q48 => ?_)
  obtain ⟨rfl, rfl⟩ := q48
  rw [show r (4 + 30 * a + 1) = v 1 from l1 1 (by decide)]
  refine cc_irem dX4_take_14 hp ?_
  refine cc_if_ne (tgt := 28) dX4_take_15 (by decide) (fun c_15 => ?_) (fun c_15 => ?_)
  · refine cc_vret rfl dX4_take_28 ?_
    refine ⟨rfl, r, H, ?_, fun _ _ => rfl⟩
    rw [show L_take t (v, sd, wy) = (v, sd, wy) from if_neg (fun q => c_15 q.1)]
    exact ⟨l1, l2, l3, l4, l5, l6, l7⟩
  · refine cc_aload_n (j := 0) dX4_take_18 rfl rfl ?_
    refine cc_iload_n (j := 1) dX4_take_19 rfl rfl ?_
    refine cc_bipush (v := 9) dX4_take_20 (by decide) ?_
    refine cc_callVi (As := [.int (nI a), .int 9]) (rest := []) (ct_X4_of cy z _ _ _ _ _ _ _ _ _ _ _ _ _ a 9 (by omega) H.self) ok_X4_of (H.2.1) rfl im_X4_of sl_X4_of ml_X4_62 nd_X4_of (by decide +kernel) (Nat.le_of_ble_eq_true rfl) rfl dX4_take_22 (fun r50 G49 q51 => ?_)
    obtain ⟨rfl, rfl⟩ := q51
    rw [show r (4 + 30 * a + 9) = nI sd.length from l2]
    refine cc_if_ne (tgt := 29) dX4_take_25 (by decide) (fun c_25 => ?_) (fun c_25 => ?_)
    · refine cc_aload_n (j := 0) dX4_take_29 rfl rfl ?_
      refine cc_iload_n (j := 1) dX4_take_30 rfl rfl ?_
      refine cc_bipush (v := 9) dX4_take_31 (by decide) ?_
      refine cc_iconst (v := (-1)) dX4_take_33 (by decide) ?_
      refine cc_callVv (As := [.int (nI a), .int 9, .int (-1)]) (rest := []) (ct_X4_more cy z _ _ _ _ _ _ _ _ _ _ _ _ _ a 9 (-1) (by omega) H.self) ok_X4_more (H.2.1) rfl im_X4_more sl_X4_more ml_X4_66 nd_X4_more (by decide +kernel) (Nat.le_of_ble_eq_true rfl) rfl dX4_take_34 (fun G52 q54 => ?_)
      have H55 := H.tr q54
      have hs1 : 1 ≤ sd.length := by
        rcases Nat.eq_zero_or_pos sd.length with e | e
        · exact absurd (by rw [e]; rfl) c_25
        · exact e
      rw [l2, show nI sd.length + (-1) = nI (sd.length - 1) from by obtain ⟨m, hm⟩ : ∃ m, sd.length = m + 1 := ⟨sd.length - 1, by omega⟩; rw [hm]; exact pk_m1 m] at H55
      refine cc_iconst (v := 0) dX4_take_37 (by decide) ?_
      refine cc_istore_n (ls' := [(2, .int 0), (0, .ref o), (1, .int (nI a))]) dX4_take_38 rfl (Nat.le_of_ble_eq_true rfl) rfl ?_
      exact loop_39 sd.length 0 _ _ (by omega) (by omega) hs1 ⟨c_15, fun q => by rw [q] at hs1; exact absurd hs1 (by decide)⟩ H55 (fun q _ => rfl) (fun j hj => absurd hj (by omega)) (fun j _ _ => pk_un (by omega))
    · refine cc_vret rfl dX4_take_28 ?_
      refine ⟨rfl, r, H, ?_, fun _ _ => rfl⟩
      rw [show L_take t (v, sd, wy) = (v, sd, wy) from if_neg (fun q => q.2 (List.length_eq_zero_iff.mp ((cc_e0 (by omega)).mp c_25)))]
      exact ⟨l1, l2, l3, l4, l5, l6, l7⟩
