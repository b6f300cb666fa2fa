/-! the whole reference -/
def ma_P (pa : Nat → Int32) (l : List St_) : Prop := ∀ (i : Nat) (h : i < l.length), rw_I (fun q => pa (232 * i + q)) l[i]
def ma_S (ia : Int32) (qa : Nat → Int32) (sn : Option St_) : Prop := (sn = none ∧ ia = 0) ∨ (∃ s, sn = some s ∧ ia = 1 ∧ rw_I qa s)
def ma_hi (hi : List St_) (S : St_) : List St_ := (if 4 ≤ hi.length then hi.tail else hi) ++ [S]
def ma_I (cy : Nat → ClassId) (G0 G : cc_G) (o : Nat) (c : CS_) : Prop := ∃ r pa qa be nn ia tx le ay hs so, mo_R cy G0 G o r pa qa be nn ia tx le ay hs so ∧ rw_I r c.1 ∧ ma_S ia qa c.2.1 ∧ nn = nI c.2.2.1.length ∧ ma_P pa c.2.2.1 ∧ c.2.2.1.length ≤ 4 ∧ le = nI c.2.2.2.length ∧ ar_ tx c.2.2.2 ∧ c.2.2.2.length ≤ 60
theorem ma_I.self {cy : Nat → ClassId} {G0 G : cc_G} {o : Nat} {c : CS_} (H : ma_I cy G0 G o c) : ma_I cy G G o c := by
  obtain ⟨r, pa, qa, be, nn, ia, tx, le, ay, hs, so, h1, h2⟩ := H
  exact ⟨r, pa, qa, be, nn, ia, tx, le, ay, hs, so, h1.self, h2⟩
theorem ma_hi_le (hi : List St_) (S : St_) (h : hi.length ≤ 4) : (ma_hi hi S).length ≤ 4 := by
  unfold ma_hi
  rw [List.length_append, List.length_singleton]
  split
  · rw [List.length_tail]; omega
  · omega
theorem ma_P.push {pa pa' : Nat → Int32} {l : List St_} {S : St_} (h : ma_P pa l) (hk : ∀ q, q < 232 * l.length → pa' q = pa q) (hS : rw_I (fun q => pa' (232 * l.length + q)) S) : ma_P pa' (l ++ [S]) := by
  intro i hi
  rw [List.length_append, List.length_singleton] at hi
  by_cases e : i = l.length
  · subst e
    have : (l ++ [S])[l.length]'(by rw [List.length_append, List.length_singleton]; omega) = S := by simp
    rw [this]
    exact hS
  · rw [List.getElem_append_left (by omega)]
    exact (h i (by omega)).eq (fun k hk2 => hk _ (by omega))
theorem ma_P.tail {pa pa' : Nat → Int32} {l : List St_} (h : ma_P pa l) (hk : ∀ q, q + 232 < 232 * l.length → pa' q = pa (232 + q)) : ma_P pa' l.tail := by
  intro i hi
  rw [List.length_tail] at hi
  rw [List.getElem_tail]
  refine (h (i + 1) (by omega)).eq (fun k hk2 => ?_)
  show pa' _ = pa _
  rw [hk _ (by omega)]
  congr 1
  omega
theorem ma_P.take {pa : Nat → Int32} {l : List St_} (h : ma_P pa l) (n : Nat) : ma_P pa (l.take n) := by
  intro i hi
  rw [List.length_take] at hi
  rw [List.getElem_take]
  exact h i (by omega)

set_option maxHeartbeats 4000000 in
set_option maxRecDepth 100000 in
theorem ct_X4_remember (cy : Nat → ClassId) (z : Nat) (G : cc_G) (o : Nat) (r pa qa be : Nat → Int32) (nn ia : Int32) (tx : Nat → Int32) (le ay : Int32) (hs so : Nat → Int32)  (H : mo_R cy G G o r pa qa be nn ia tx le ay hs so)  : cc_Cn cy Y_X4_remember [.ref o] z G (cc_qv (fun G' => ∃ x1, mo_R cy G G' o r pa qa x1 nn ia tx le ay hs so ∧ ∀ q, q < 232 → x1 q = r q)) := by
  
  have loop_2 : ∀ (f k : Nat) (b1 : Nat → Int32) (G1 : cc_G), 232 < k + f → k ≤ 232 → mo_R cy G G1 o r pa qa b1 nn ia tx le ay hs so → (∀ q, q < k → b1 q = r q) → cc_R cy Y_X4_remember z 2 [(1, .int (nI k)), (0, .ref o)] [] G1 (cc_qv (fun G' => ∃ x1, mo_R cy G G' o r pa qa x1 nn ia tx le ay hs so ∧ ∀ q, q < 232 → x1 q = r q)) := by
    intro f
    induction f with
    | zero => intro k b1 G1 h1 h2; exact absurd h1 (by omega)
    | succ f ih =>
      intro k b1 G1 hf hk H hc
      refine cc_iload_n (j := 0) dX4_remember_2 rfl rfl ?_
      refine cc_sipush (v := 232) dX4_remember_3 (by decide) ?_
      refine cc_icmp_ge (tgt := 27) dX4_remember_6 (by decide) (fun c_6 => ?_) (fun c_6 => ?_)
      · have hge : k = 232 := by have := cc_ngt 232 c_6 (by omega) (by decide); omega
        subst hge
        refine cc_vret rfl dX4_remember_27 ?_
        exact ⟨rfl, _, H, hc⟩
      · have hlt : k < 232 := cc_nlt 232 c_6 (by omega)
        refine cc_aload_n (j := 1) dX4_remember_9 rfl rfl ?_
        refine cc_get (v := .ref (o + 4)) H.2.1 cc_c4 3 (by decide) fl_X4_19 rfl dX4_remember_10 ?_
        refine cc_iload_n (j := 0) dX4_remember_13 rfl rfl ?_
        refine cc_aload_n (j := 1) dX4_remember_14 rfl rfl ?_
        refine cc_get (v := .ref (o + 1)) H.2.1 cc_c4 0 (by decide) fl_X4_7 rfl dX4_remember_15 ?_
        refine cc_iload_n (j := 0) dX4_remember_18 rfl rfl ?_
        refine cc_iald (x := r k) H.2.2.1 (vp_in_nI (n := k) (by omega) (by decide)) (by rw [(nI_clamp (by omega))]) dX4_remember_19 ?_
        refine mo_rast_be (j := k) H (vp_in_nI (n := k) (by omega) (by decide)) (nI_clamp (by omega)) dX4_remember_20 (fun G1 H2 => ?_)
        refine cc_iinc (j := 0) (v := nI (k + 1)) (ls' := [(1, .int (nI (k + 1))), (0, .ref o)]) dX4_remember_21 rfl (nI_1 k) (Nat.le_of_ble_eq_true rfl) rfl ?_
        refine cc_goto (tgt := 2) dX4_remember_24 (by decide) ?_
        refine ih (k + 1) _ _ (by omega) (by omega) H2 (fun q hq => ?_)
        by_cases e : q = k
        · subst e
          exact pk_us
        · exact (pk_un e).trans (hc q (by omega))
  refine cc_enter ok_X4_remember (Nat.le_of_ble_eq_true rfl) (ls := [(0, .ref o)]) rfl ?_
  refine cc_iconst (v := 0) dX4_remember_0 (by decide) ?_
  refine cc_istore_n (ls' := [(1, .int 0), (0, .ref o)]) dX4_remember_1 rfl (Nat.le_of_ble_eq_true rfl) rfl ?_
  exact loop_2 233 0 _ _ (by omega) (by omega) H (fun q hq => absurd hq (by omega))

set_option maxHeartbeats 4000000 in
set_option maxRecDepth 100000 in
theorem ct_X4_goBack (cy : Nat → ClassId) (z : Nat) (G : cc_G) (o : Nat) (r pa qa be : Nat → Int32) (nn ia : Int32) (tx : Nat → Int32) (le ay : Int32) (hs so : Nat → Int32)  (H : mo_R cy G G o r pa qa be nn ia tx le ay hs so)  : cc_Cn cy Y_X4_goBack [.ref o] z G (cc_qv (fun G' => ∃ x1, mo_R cy G G' o x1 pa qa be nn ia tx le ay hs so ∧ ∀ q, q < 232 → x1 q = be q)) := by
  
  have loop_2 : ∀ (f k : Nat) (r1 : Nat → Int32) (G1 : cc_G), 232 < k + f → k ≤ 232 → mo_R cy G G1 o r1 pa qa be nn ia tx le ay hs so → (∀ q, q < k → r1 q = be q) → cc_R cy Y_X4_goBack z 2 [(1, .int (nI k)), (0, .ref o)] [] G1 (cc_qv (fun G' => ∃ x1, mo_R cy G G' o x1 pa qa be nn ia tx le ay hs so ∧ ∀ q, q < 232 → x1 q = be q)) := by
    intro f
    induction f with
    | zero => intro k r1 G1 h1 h2; exact absurd h1 (by omega)
    | succ f ih =>
      intro k r1 G1 hf hk H hc
      refine cc_iload_n (j := 0) dX4_goBack_2 rfl rfl ?_
      refine cc_sipush (v := 232) dX4_goBack_3 (by decide) ?_
      refine cc_icmp_ge (tgt := 27) dX4_goBack_6 (by decide) (fun c_6 => ?_) (fun c_6 => ?_)
      · have hge : k = 232 := by have := cc_ngt 232 c_6 (by omega) (by decide); omega
        subst hge
        refine cc_vret rfl dX4_goBack_27 ?_
        exact ⟨rfl, _, H, hc⟩
      · have hlt : k < 232 := cc_nlt 232 c_6 (by omega)
        refine cc_aload_n (j := 1) dX4_goBack_9 rfl rfl ?_
        refine cc_get (v := .ref (o + 1)) H.2.1 cc_c4 0 (by decide) fl_X4_7 rfl dX4_goBack_10 ?_
        refine cc_iload_n (j := 0) dX4_goBack_13 rfl rfl ?_
        refine cc_aload_n (j := 1) dX4_goBack_14 rfl rfl ?_
        refine cc_get (v := .ref (o + 4)) H.2.1 cc_c4 3 (by decide) fl_X4_19 rfl dX4_goBack_15 ?_
        refine cc_iload_n (j := 0) dX4_goBack_18 rfl rfl ?_
        refine cc_iald (x := be k) H.2.2.2.2.2.1 (vp_in_nI (n := k) (by omega) (by decide)) (by rw [(nI_clamp (by omega))]) dX4_goBack_19 ?_
        refine mo_rast_r (j := k) H (vp_in_nI (n := k) (by omega) (by decide)) (nI_clamp (by omega)) dX4_goBack_20 (fun G1 H2 => ?_)
        refine cc_iinc (j := 0) (v := nI (k + 1)) (ls' := [(1, .int (nI (k + 1))), (0, .ref o)]) dX4_goBack_21 rfl (nI_1 k) (Nat.le_of_ble_eq_true rfl) rfl ?_
        refine cc_goto (tgt := 2) dX4_goBack_24 (by decide) ?_
        refine ih (k + 1) _ _ (by omega) (by omega) H2 (fun q hq => ?_)
        by_cases e : q = k
        · subst e
          exact pk_us
        · exact (pk_un e).trans (hc q (by omega))
  refine cc_enter ok_X4_goBack (Nat.le_of_ble_eq_true rfl) (ls := [(0, .ref o)]) rfl ?_
  refine cc_iconst (v := 0) dX4_goBack_0 (by decide) ?_
  refine cc_istore_n (ls' := [(1, .int 0), (0, .ref o)]) dX4_goBack_1 rfl (Nat.le_of_ble_eq_true rfl) rfl ?_
  exact loop_2 233 0 _ _ (by omega) (by omega) H (fun q hq => absurd hq (by omega))

set_option maxHeartbeats 4000000 in
set_option maxRecDepth 100000 in
theorem ct_X4_record (cy : Nat → ClassId) (z : Nat) (G : cc_G) (o : Nat) (r pa qa be : Nat → Int32) (nn ia : Int32) (tx : Nat → Int32) (le ay : Int32) (hs so : Nat → Int32) (hi : List St_) (S : St_) (hl : hi.length ≤ 4) (hP : ma_P pa hi) (hbe : rw_I be S) (hnn : nn = nI hi.length) (H : mo_R cy G G o r pa qa be nn ia tx le ay hs so)  : cc_Cn cy Y_X4_record [.ref o] z G (cc_qv (fun G' => ∃ pa', mo_R cy G G' o r pa' qa be (nI (ma_hi hi S).length) ia tx le ay hs so ∧ ma_P pa' (ma_hi hi S))) := by
  subst hnn
  have loop_51 : ∀ (l : List St_) (pa0 : Nat → Int32), l.length < 4 → ma_P pa0 l → (ma_hi hi S) = l ++ [S] → ∀ (f k : Nat) (pa1 : Nat → Int32) (G1 : cc_G), 232 < k + f → k ≤ 232 → mo_R cy G G1 o r pa1 qa be (nI l.length) ia tx le ay hs so → (∀ q, q < 232 * l.length → pa1 q = pa0 q) → (∀ q, q < k → pa1 (232 * l.length + q) = be q) → cc_R cy Y_X4_record z 51 [(1, .int (nI k)), (0, .ref o)] [] G1 (cc_qv (fun G' => ∃ pa', mo_R cy G G' o r pa' qa be (nI (ma_hi hi S).length) ia tx le ay hs so ∧ ma_P pa' (ma_hi hi S))) := by
    intro l pa0 hl4 hP0 hHI f
    induction f with
    | zero => intro k pa1 G1 h1 h2; exact absurd h1 (by omega)
    | succ f ih =>
      intro k pa1 G1 hf hk H hc1 hc2
      refine cc_iload_n (j := 0) dX4_record_51 rfl rfl ?_
      refine cc_sipush (v := 232) dX4_record_52 (by decide) ?_
      refine cc_icmp_ge (tgt := 85) dX4_record_55 (by decide) (fun c_55 => ?_) (fun c_55 => ?_)
      · have hge : k = 232 := by have := cc_ngt 232 c_55 (by omega) (by decide); omega
        subst hge
        refine cc_aload_n (j := 1) dX4_record_85 rfl rfl ?_
        refine cc_dup dX4_record_86 rfl ?_
        refine cc_get (v := .int (nI l.length)) H.2.1 cc_c4 4 (by decide) fl_X4_41 rfl dX4_record_87 ?_
        refine cc_iconst (v := 1) dX4_record_90 (by decide) ?_
        refine cc_iadd dX4_record_91 ?_
        rw [show (nI l.length) + 1 = nI (l.length + 1) from nI_1 _]
        refine mo_rput (nn' := (nI (l.length + 1))) (ia' := ia) (le' := le) (ay' := ay) H cc_c4 4 (by decide) fl_X4_41 rfl rfl rfl rfl rfl dX4_record_92 (fun G1 H2 => ?_)
        refine cc_vret rfl dX4_record_95 ?_
        refine ⟨rfl, pa1, ?_, ?_⟩
        · rw [hHI, List.length_append, List.length_singleton]
          exact H2
        · rw [hHI]
          exact hP0.push hc1 (hbe.eq (fun q hq => hc2 q hq))
      · have hlt : k < 232 := cc_nlt 232 c_55 (by omega)
        refine cc_aload_n (j := 1) dX4_record_58 rfl rfl ?_
        refine cc_get (v := .ref (o + 2)) H.2.1 cc_c4 1 (by decide) fl_X4_13 rfl dX4_record_59 ?_
        refine cc_sipush (v := 232) dX4_record_62 (by decide) ?_
        refine cc_aload_n (j := 1) dX4_record_65 rfl rfl ?_
        refine cc_get (v := .int (nI l.length)) H.2.1 cc_c4 4 (by decide) fl_X4_41 rfl dX4_record_66 ?_
        refine cc_imul dX4_record_69 ?_
        rw [show 232 * (nI l.length) = nI (232 * l.length) from pk_mul 232 l.length]
        refine cc_iload_n (j := 0) dX4_record_70 rfl rfl ?_
        refine cc_iadd dX4_record_71 ?_
        rw [show (nI (232 * l.length)) + (nI k) = nI (232 * l.length + k) from nI_add (232 * l.length) k]
        refine cc_aload_n (j := 1) dX4_record_72 rfl rfl ?_
        refine cc_get (v := .ref (o + 4)) H.2.1 cc_c4 3 (by decide) fl_X4_19 rfl dX4_record_73 ?_
        refine cc_iload_n (j := 0) dX4_record_76 rfl rfl ?_
        refine cc_iald (x := be k) H.2.2.2.2.2.1 (vp_in_nI (n := k) (by omega) (by decide)) (by rw [(nI_clamp (by omega))]) dX4_record_77 ?_
        refine mo_rast_pa (j := (232 * l.length + k)) H (vp_in_nI (n := (232 * l.length + k)) (by omega) (by decide)) (nI_clamp (by omega)) dX4_record_78 (fun G3 H4 => ?_)
        refine cc_iinc (j := 0) (v := nI (k + 1)) (ls' := [(1, .int (nI (k + 1))), (0, .ref o)]) dX4_record_79 rfl (nI_1 k) (Nat.le_of_ble_eq_true rfl) rfl ?_
        refine cc_goto (tgt := 51) dX4_record_82 (by decide) ?_
        refine ih (k + 1) _ _ (by omega) (by omega) H4 (fun q hq => (pk_un (by omega)).trans (hc1 q hq)) (fun q hq => ?_)
        by_cases e : q = k
        · subst e
          exact pk_us
        · exact (pk_un (by omega)).trans (hc2 q (by omega))
  have loop_10 : hi.length = 4 → ∀ (f k : Nat) (pa1 : Nat → Int32) (G1 : cc_G), 696 < k + f → k ≤ 696 → mo_R cy G G1 o r pa1 qa be (nI hi.length) ia tx le ay hs so → (∀ q, q < k → pa1 q = pa (232 + q)) → (∀ q, k ≤ q → pa1 q = pa q) → cc_R cy Y_X4_record z 10 [(1, .int (nI k)), (0, .ref o)] [] G1 (cc_qv (fun G' => ∃ pa', mo_R cy G G' o r pa' qa be (nI (ma_hi hi S).length) ia tx le ay hs so ∧ ma_P pa' (ma_hi hi S))) := by
    intro h4 f
    induction f with
    | zero => intro k pa1 G1 h1 h2; exact absurd h1 (by omega)
    | succ f ih =>
      intro k pa1 G1 hf hk H hc1 hc2
      refine cc_iload_n (j := 0) dX4_record_10 rfl rfl ?_
      refine cc_sipush (v := 696) dX4_record_11 (by decide) ?_
      refine cc_icmp_ge (tgt := 39) dX4_record_14 (by decide) (fun c_14 => ?_) (fun c_14 => ?_)
      · have hge : k = 696 := by have := cc_ngt 696 c_14 (by omega) (by decide); omega
        subst hge
        refine cc_aload_n (j := 1) dX4_record_39 rfl rfl ?_
        refine cc_dup dX4_record_40 rfl ?_
        refine cc_get (v := .int (nI hi.length)) H.2.1 cc_c4 4 (by decide) fl_X4_41 rfl dX4_record_41 ?_
        refine cc_iconst (v := 1) dX4_record_44 (by decide) ?_
        refine cc_isub dX4_record_45 ?_
        rw [show (nI hi.length) - 1 = 3 from by rw [h4]; rfl]
        refine mo_rput (nn' := 3) (ia' := ia) (le' := le) (ay' := ay) H cc_c4 4 (by decide) fl_X4_41 rfl rfl rfl rfl rfl dX4_record_46 (fun G5 H6 => ?_)
        refine cc_iconst (v := 0) dX4_record_49 (by decide) ?_
        refine cc_istore_n (ls' := [(1, .int 0), (0, .ref o)]) dX4_record_50 rfl (Nat.le_of_ble_eq_true rfl) rfl ?_
        have ht3 : hi.tail.length = 3 := by rw [List.length_tail]; omega
        exact loop_51 hi.tail pa1 (by omega) (hP.tail (fun q hq => hc1 q (by omega))) (by unfold ma_hi; rw [if_pos (by omega)]) 233 0 _ _ (by omega) (by omega) (by rw [ht3]; exact H6) (fun _ _ => rfl) (fun q hq => absurd hq (by omega))
      · have hlt : k < 696 := cc_nlt 696 c_14 (by omega)
        refine cc_aload_n (j := 1) dX4_record_17 rfl rfl ?_
        refine cc_get (v := .ref (o + 2)) H.2.1 cc_c4 1 (by decide) fl_X4_13 rfl dX4_record_18 ?_
        refine cc_iload_n (j := 0) dX4_record_21 rfl rfl ?_
        refine cc_aload_n (j := 1) dX4_record_22 rfl rfl ?_
        refine cc_get (v := .ref (o + 2)) H.2.1 cc_c4 1 (by decide) fl_X4_13 rfl dX4_record_23 ?_
        refine cc_sipush (v := 232) dX4_record_26 (by decide) ?_
        refine cc_iload_n (j := 0) dX4_record_29 rfl rfl ?_
        refine cc_iadd dX4_record_30 ?_
        rw [show 232 + (nI k) = nI (232 + k) from nI_add 232 k]
        refine cc_iald (x := pa1 (232 + k)) H.2.2.2.1 (vp_in_nI (n := (232 + k)) (by omega) (by decide)) (by rw [(nI_clamp (by omega))]) dX4_record_31 ?_
        rw [show pa1 (232 + k) = pa (232 + k) from hc2 _ (by omega)]
        refine mo_rast_pa (j := k) H (vp_in_nI (n := k) (by omega) (by decide)) (nI_clamp (by omega)) dX4_record_32 (fun G7 H8 => ?_)
        refine cc_iinc (j := 0) (v := nI (k + 1)) (ls' := [(1, .int (nI (k + 1))), (0, .ref o)]) dX4_record_33 rfl (nI_1 k) (Nat.le_of_ble_eq_true rfl) rfl ?_
        refine cc_goto (tgt := 10) dX4_record_36 (by decide) ?_
        refine ih (k + 1) _ _ (by omega) (by omega) H8 (fun q hq => ?_) (fun q hq => (pk_un (by omega)).trans (hc2 q (by omega)))
        by_cases e : q = k
        · subst e
          exact pk_us
        · exact (pk_un e).trans (hc1 q (by omega))
  refine cc_enter ok_X4_record (Nat.le_of_ble_eq_true rfl) (ls := [(0, .ref o)]) rfl ?_
  refine cc_aload_n (j := 0) dX4_record_0 rfl rfl ?_
  refine cc_get (v := .int (nI hi.length)) H.2.1 cc_c4 4 (by decide) fl_X4_41 rfl dX4_record_1 ?_
  refine cc_iconst (v := 4) dX4_record_4 (by decide) ?_
  refine cc_icmp_ne (tgt := 49) dX4_record_5 (by decide) (fun c_5 => ?_) (fun c_5 => ?_)
  · have hlt4 : hi.length < 4 := by
      rcases Nat.lt_or_ge hi.length 4 with q | q
      · exact q
      · exact absurd (by rw [show hi.length = 4 by omega]; rfl) c_5
    refine cc_iconst (v := 0) dX4_record_49 (by decide) ?_
    refine cc_istore_n (ls' := [(1, .int 0), (0, .ref o)]) dX4_record_50 rfl (Nat.le_of_ble_eq_true rfl) rfl ?_
    exact loop_51 hi pa (by omega) hP (by unfold ma_hi; rw [if_neg (by omega)]) 233 0 _ _ (by omega) (by omega) H (fun _ _ => rfl) (fun q hq => absurd hq (by omega))
  · have h4 : hi.length = 4 := by
      rcases Nat.lt_or_ge hi.length 4 with q | q
      · exact absurd (show (4 : Int32) < 4 from by
          have q2 := nI_lt (b := 4) q (by decide)
          rw [c_5] at q2
          exact q2) (by decide)
      · omega
    refine cc_iconst (v := 0) dX4_record_8 (by decide) ?_
    refine cc_istore_n (ls' := [(1, .int 0), (0, .ref o)]) dX4_record_9 rfl (Nat.le_of_ble_eq_true rfl) rfl ?_
    exact loop_10 h4 697 0 _ _ (by omega) (by omega) H (fun q hq => absurd hq (by omega)) (fun _ _ => rfl)

set_option maxHeartbeats 4000000 in
set_option maxRecDepth 100000 in
theorem ct_X4_open (cy : Nat → ClassId) (z : Nat) (G : cc_G) (o : Nat) (r pa qa be : Nat → Int32) (nn ia : Int32) (tx : Nat → Int32) (le ay : Int32) (hs so : Nat → Int32) (hi : List St_) (S : St_) (hl : hi.length ≤ 4) (hP : ma_P pa hi) (hw : rw_I r S) (hnn : nn = nI hi.length) (H : mo_R cy G G o r pa qa be nn ia tx le ay hs so)  : cc_Cn cy Y_X4_open [.ref o] z G (cc_qv (fun G' => ∃ pa' be', mo_R cy G G' o r pa' qa be' (nI (ma_hi hi S).length) ia tx le ay hs so ∧ ma_P pa' (ma_hi hi S))) := by
  
  refine cc_enter ok_X4_open (Nat.le_of_ble_eq_true rfl) (ls := [(0, .ref o)]) rfl ?_
  refine cc_aload_n (j := 0) dX4_open_0 rfl rfl ?_
  refine cc_callVv (As := []) (rest := []) (ct_X4_remember cy z _ _ _ _ _ _ _ _ _ _ _ _ _ H.self) ok_X4_remember (H.2.1) rfl im_X4_remember sl_X4_remember ml_X4_45 nd_X4_remember (by decide +kernel) (Nat.le_of_ble_eq_true rfl) rfl dX4_open_1 (fun G1 q3 => ?_)
  obtain ⟨b2, H4, hb2⟩ := q3
  have H4 := H.tr H4
  refine cc_aload_n (j := 0) dX4_open_4 rfl rfl ?_
  refine cc_callVv (As := []) (rest := []) (ct_X4_record cy z _ _ _ _ _ _ _ _ _ _ _ _ _ hi S hl hP (hw.eq hb2) hnn H4.self) ok_X4_record (H4.2.1) rfl im_X4_record sl_X4_record ml_X4_48 nd_X4_record (by decide +kernel) (Nat.le_of_ble_eq_true rfl) rfl dX4_open_5 (fun G5 q7 => ?_)
  obtain ⟨p2, H8, hP2⟩ := q7
  have H8 := H4.tr H8
  refine cc_vret rfl dX4_open_8 ?_
  exact ⟨rfl, _, _, H8, hP2⟩
