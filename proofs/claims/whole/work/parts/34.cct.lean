def ca_T (cy : Nat → ClassId) (G0 G : cc_G) (h : Nat) (c : CS_) (Tr : St_) : Prop := ∃ BS hS π tx, BS 1 = Tr ∧ ca_R cy G0 G h BS hS π (nI c.2.2.1.length) tx (nI c.2.2.2.length) ∧ c.1 = BS 0 ∧ ca_S hS BS c.2.1 ∧ ca_P π ∧ (∀ (i : Nat) (hi : i < c.2.2.1.length), BS (3 + π i) = c.2.2.1[i]) ∧ c.2.2.1.length ≤ 4 ∧ ar_ tx c.2.2.2 ∧ c.2.2.2.length ≤ 60
theorem ca_T.I {cy : Nat → ClassId} {G0 G : cc_G} {h : Nat} {c : CS_} {Tr : St_} (H : ca_T cy G0 G h c Tr) : ca_I cy G0 G h c := by
  obtain ⟨BS, hS, π, tx, -, H⟩ := H
  exact ⟨BS, hS, π, tx, H⟩
theorem ca_T.b {cy : Nat → ClassId} {G0 G : cc_G} {h : Nat} {c : CS_} {Tr : St_} (H : ca_T cy G0 G h c Tr) : bx_E cy G G (h + 32) Tr := by
  obtain ⟨BS, hS, π, tx, e, H, -⟩ := H
  rw [← e]
  exact H.b1
theorem ca_T.self {cy : Nat → ClassId} {G0 G : cc_G} {h : Nat} {c : CS_} {Tr : St_} (H : ca_T cy G0 G h c Tr) : ca_T cy G G h c Tr := by
  obtain ⟨BS, hS, π, tx, e, h1, h2⟩ := H
  exact ⟨BS, hS, π, tx, e, h1.self, h2⟩
theorem ca_I.trialT {cy : Nat → ClassId} {G0 G G1 : cc_G} {h : Nat} {c : CS_} {S : St_} (H : ca_I cy G0 G h c) (hq : bx_E cy G G1 (h + 32) S) : ca_T cy G0 G1 h c S := by
  obtain ⟨BS, hS, π, tx, h1, h2, h3, h4, h5, h6⟩ := H
  refine ⟨va_up BS 1 S, hS, π, tx, va_up_self _ _ _, h1.slot (k := 1) (by decide) rfl hq, h2.trans (va_up_ne _ _ (by decide)).symm, ?_, h4, fun i hi => ?_, h6⟩
  · rcases h3 with ⟨a, b⟩ | ⟨a, b⟩
    · exact Or.inl ⟨a, b⟩
    · exact Or.inr ⟨by rw [va_up_ne _ _ (by decide)]; exact a, b⟩
  · rw [va_up_ne _ _ (by omega)]
    exact h5 i hi
theorem ca_T.push {cy : Nat → ClassId} {G0 G : cc_G} {h : Nat} {BS : Nat → St_} {hS nH : Int32} {π : Nat → Nat} {tx : Nat → Int32} {S Tr : St_} {sn : Option St_} {hi : List St_} {t : List Int32} (h1 : BS 1 = Tr) (H : ca_R cy G0 G h (va_up BS (3 + π hi.length) S) hS π nH tx (nI t.length)) (hn : nH = nI (hi.length + 1)) (e0 : S = BS 0) (eS : ca_S hS BS sn) (hP : ca_P π) (hH : ∀ (i : Nat) (hq : i < hi.length), BS (3 + π i) = hi[i]) (hl : hi.length < 4) (hT : ar_ tx t) (h60 : t.length ≤ 60) : ca_T cy G0 G h (S, sn, hi ++ [S], t) Tr := by
  refine ⟨va_up BS (3 + π hi.length) S, hS, π, tx, (va_up_ne _ _ (by omega)).trans h1, ?_, ?_, ?_, hP, fun i hi2 => ?_, ?_, hT, h60⟩
  · show ca_R cy G0 G h (va_up BS (3 + π hi.length) S) hS π (nI (hi ++ [S]).length) tx (nI t.length)
    rw [List.length_append, List.length_singleton, ← hn]
    exact H
  · show S = va_up BS (3 + π hi.length) S 0
    rw [va_up_ne _ _ (by omega)]
    exact e0
  · rcases eS with ⟨a, b⟩ | ⟨a, b⟩
    · exact Or.inl ⟨a, b⟩
    · exact Or.inr ⟨by rw [va_up_ne _ _ (by omega)]; exact a, b⟩
  · have hi3 : i < hi.length + 1 := by
      have : i < (hi ++ [S]).length := hi2
      rw [List.length_append, List.length_singleton] at this
      exact this
    show va_up BS (3 + π hi.length) S (3 + π i) = (hi ++ [S])[i]
    by_cases hq : i = hi.length
    · subst hq
      rw [va_up_self]
      simp
    · rw [va_up_ne _ _ (fun q => hq (hP.2 i hi.length (by omega) (by omega) (by omega))), List.getElem_append_left (by omega)]
      exact hH i (by omega)
  · show (hi ++ [S]).length ≤ 4
    rw [List.length_append, List.length_singleton]
    omega
theorem T_F_le {u : Nat → Int32} : ∀ {f k j : Nat}, T_F u f k = some j → j ≤ k + f
  | 0, k, j, h => by
    unfold T_F at h
    split at h
    · cases h
    · cases h; omega
  | f + 1, k, j, h => by
    unfold T_F at h
    split at h
    · cases h; omega
    · have := T_F_le h
      omega
theorem T_flt_le {u : Nat → Int32} {n j : Nat} (h : T_flt u n 0 = some j) : j ≤ n := by
  have := T_F_le h
  omega
theorem A_go_le {u : Nat → Int32} {n : Nat} : ∀ {f a acc : Nat} {S : St_} {m : Nat} {S' : St_}, A_go u n f a acc S = some (m, S') → m ≤ acc + 8 * f
  | 0, a, acc, S, m, S', h => by
    unfold A_go at h
    cases h
    omega
  | f + 1, a, acc, S, m, S', h => by
    unfold A_go at h
    split at h
    next =>
      split at h
      next h8 =>
        have := A_go_le h
        omega
      next => cases h
    next =>
      cases h
      omega

set_option maxHeartbeats 4000000 in
set_option maxRecDepth 100000 in
theorem ct_X3_remember_T (cy : Nat → ClassId) (z : Nat) (G : cc_G) (h : Nat) (c : CS_) (Tr : St_) (hI : ca_T cy G G h c Tr) : cc_Cn cy Y_X3_remember [.ref h] z G (cc_qv (fun G' => ca_T cy G G' h (C_rem c) Tr)) := by
  obtain ⟨S, sn, hi, t⟩ := c
  obtain ⟨BS, hS, π, tx, hTr, H, e0, eS, hP, hH, hl, hT, h60⟩ := hI
  have e0 : S = BS 0 := e0
  have H : ca_R cy G G h BS hS π (nI hi.length) tx (nI t.length) := H
  have eS : ca_S hS BS sn := eS
  have hH : ∀ (i : Nat) (hq : i < hi.length), BS (3 + π i) = hi[i] := hH
  have hl : hi.length ≤ 4 := hl
  have hT : ar_ tx t := hT
  have h60 : t.length ≤ 60 := h60
  refine cc_enter ok_X3_remember (Nat.le_of_ble_eq_true rfl) (ls := [(0, .ref h)]) rfl ?_
  refine cc_aload_n (j := 0) dX3_remember_0 rfl rfl ?_
  refine cc_get (v := .int (nI hi.length)) H.2.1 cc_c3 5 (by decide) fl_X3_30 rfl dX3_remember_1 ?_
  refine cc_iconst (v := 4) dX3_remember_4 (by decide) ?_
  refine cc_icmp_lt (tgt := 12) dX3_remember_5 (by decide) (fun c_5 => ?_) (fun c_5 => ?_)
  · have hlt : hi.length < 4 := (nI_ltI (b := 4) (by omega) (by decide)).mp c_5
    refine cc_aload_n (j := 0) dX3_remember_12 rfl rfl ?_
    refine cc_get (v := .ref (h + 94)) H.2.1 cc_c3 4 (by decide) fl_X3_26 rfl dX3_remember_13 ?_
    refine cc_aload_n (j := 0) dX3_remember_16 rfl rfl ?_
    refine cc_get (v := .int (nI hi.length)) H.2.1 cc_c3 5 (by decide) fl_X3_30 rfl dX3_remember_17 ?_
    refine cc_aald3 (x := cb h (3 + π hi.length)) H.2.2.2.1 (vp_in_nI (n := hi.length) (by omega) (by decide)) (by rw [(nI_clamp (by omega))]; rfl) dX3_remember_20 ?_
    refine cc_aload_n (j := 0) dX3_remember_21 rfl rfl ?_
    refine cc_get (v := .ref (h + 1)) H.2.1 cc_c3 0 (by decide) fl_X3_10 rfl dX3_remember_22 ?_
    refine cc_callNv (As := [.ref (h + 1)]) (rest := []) (ct_X0_copyFrom cy z _ _ _ _ _ (cb_ap h (k := 3 + π hi.length) (j := 0) (by omega)) H.b0 (H.2.2.1 (3 + π hi.length) (by have := hP.1 hi.length (by omega); omega))) ok_X0_copyFrom ((H.2.2.1 (3 + π hi.length) (by have := hP.1 hi.length (by omega); omega)).obj) rfl im_X0_copyFrom sl_X0_copyFrom mn_X3_89 nd_X0_copyFrom (by decide +kernel) (Nat.le_of_ble_eq_true rfl) rfl dX3_remember_25 (fun G1 q3 => ?_)
    have H4 := H.slot (k := 3 + π hi.length) (by have := hP.1 hi.length (by omega); omega) rfl q3
    refine cc_aload_n (j := 0) dX3_remember_28 rfl rfl ?_
    refine cc_dup dX3_remember_29 rfl ?_
    refine cc_get (v := .int (nI hi.length)) H4.2.1 cc_c3 5 (by decide) fl_X3_30 rfl dX3_remember_30 ?_
    refine cc_iconst (v := 1) dX3_remember_33 (by decide) ?_
    refine cc_iadd dX3_remember_34 ?_
    rw [show (nI hi.length) + 1 = nI (hi.length + 1) from nI_1 _]
    refine ca_rput (hS' := hS) (nH' := (nI (hi.length + 1))) (nT' := (nI t.length)) H4 cc_c3 5 (by decide) fl_X3_30 rfl rfl rfl rfl rfl dX3_remember_35 (fun G5 H6 => ?_)
    refine cc_vret rfl dX3_remember_38 ?_
    have e : C_rem (S, sn, hi, t) = (S, sn, hi ++ [S], t) := by
      show (S, sn, (if 4 ≤ hi.length then hi.tail else hi) ++ [S], t) = _
      rw [if_neg (by omega)]
    subst e0
    refine ⟨rfl, ?_⟩
    rw [e]
    exact ca_T.push hTr H6 rfl rfl eS hP hH hlt hT h60
  · have hge : hi.length = 4 := by
      rcases Nat.lt_or_ge hi.length 4 with q | q
      · exact absurd (nI_lt (b := 4) q (by decide)) c_5
      · omega
    refine cc_aload_n (j := 0) dX3_remember_8 rfl rfl ?_
    refine cc_callVv (As := []) (rest := []) (ct_X3_dropOldest cy z _ h (S, sn, hi, t) _ _ _ _ _ _ hP H.self) ok_X3_dropOldest (H.2.1) rfl im_X3_dropOldest sl_X3_dropOldest ml_X3_165 nd_X3_dropOldest (by decide +kernel) (Nat.le_of_ble_eq_true rfl) rfl dX3_remember_9 (fun G7 q9 => ?_)
    refine cc_aload_n (j := 0) dX3_remember_12 rfl rfl ?_
    refine cc_get (v := .ref (h + 94)) q9.2.1 cc_c3 4 (by decide) fl_X3_26 rfl dX3_remember_13 ?_
    refine cc_aload_n (j := 0) dX3_remember_16 rfl rfl ?_
    refine cc_get (v := .int 3) q9.2.1 cc_c3 5 (by decide) fl_X3_30 rfl dX3_remember_17 ?_
    refine cc_aald3 (x := cb h (3 + (ca_rot π) 3)) q9.2.2.2.1 (vp_in_nI (n := 3) (by decide) (by decide)) rfl dX3_remember_20 ?_
    refine cc_aload_n (j := 0) dX3_remember_21 rfl rfl ?_
    refine cc_get (v := .ref (h + 1)) q9.2.1 cc_c3 0 (by decide) fl_X3_10 rfl dX3_remember_22 ?_
    refine cc_callNv (As := [.ref (h + 1)]) (rest := []) (ct_X0_copyFrom cy z _ _ _ _ _ (cb_ap h (k := 3 + (ca_rot π) 3) (j := 0) (by omega)) q9.b0 (q9.2.2.1 (3 + (ca_rot π) 3) (by have := hP.rot.1 3 (by omega); omega))) ok_X0_copyFrom ((q9.2.2.1 (3 + (ca_rot π) 3) (by have := hP.rot.1 3 (by omega); omega)).obj) rfl im_X0_copyFrom sl_X0_copyFrom mn_X3_89 nd_X0_copyFrom (by decide +kernel) (Nat.le_of_ble_eq_true rfl) rfl dX3_remember_25 (fun G10 q12 => ?_)
    have H13 := q9.slot (k := 3 + (ca_rot π) 3) (by have := hP.rot.1 3 (by omega); omega) rfl q12
    refine cc_aload_n (j := 0) dX3_remember_28 rfl rfl ?_
    refine cc_dup dX3_remember_29 rfl ?_
    refine cc_get (v := .int 3) H13.2.1 cc_c3 5 (by decide) fl_X3_30 rfl dX3_remember_30 ?_
    refine cc_iconst (v := 1) dX3_remember_33 (by decide) ?_
    refine cc_iadd dX3_remember_34 ?_
    rw [show (3 : Int32) + 1 = 4 by decide]
    refine ca_rput (hS' := hS) (nH' := 4) (nT' := (nI t.length)) H13 cc_c3 5 (by decide) fl_X3_30 rfl rfl rfl rfl rfl dX3_remember_35 (fun G14 H15 => ?_)
    refine cc_vret rfl dX3_remember_38 ?_
    have e : C_rem (S, sn, hi, t) = (S, sn, hi.tail ++ [S], t) := by
      show (S, sn, (if 4 ≤ hi.length then hi.tail else hi) ++ [S], t) = _
      rw [if_pos (by omega)]
    subst e0
    refine ⟨rfl, ?_⟩
    rw [e]
    have h3 : hi.tail.length = 3 := by rw [List.length_tail]; omega
    refine ca_T.push hTr (π := ca_rot π) (by rw [h3]; exact H15) (by rw [h3]; rfl) rfl eS hP.rot (fun i hq => ?_) (by omega) hT h60
    have hi3 : i < 3 := by omega
    have hr : ca_rot π i = π (i + 1) := by
      match i, hi3 with
      | 0, _ => rfl
      | 1, _ => rfl
      | 2, _ => rfl
    have hi4 : i + 1 < hi.length := by rw [hge]; omega
    rw [hr, hH (i + 1) hi4, List.getElem_tail]

set_option maxHeartbeats 4000000 in
set_option maxRecDepth 100000 in
theorem ct_X3_dueBehind (cy : Nat → ClassId) (z : Nat) (G : cc_G) (x0 x1 : Int32) : cc_Cn cy Y_X3_dueBehind [.int x0, .int x1] z G (cc_qi (fun r G' => r = T_d x0 x1 ∧ G' = G)) := by
  
  refine cc_enter ok_X3_dueBehind (Nat.le_of_ble_eq_true rfl) (ls := [(0, .int x0), (1, .int x1)]) rfl ?_
  refine cc_iload_n (j := 0) dX3_dueBehind_0 rfl rfl ?_
  rcases cc_sw4 x0 with rfl | rfl | rfl | rfl | rfl | c_1
  · refine cc_tableIn (off := 35) (tgt := 36) dX3_dueBehind_1 (by decide) (by decide) rfl (by decide) ?_
    refine cc_iload_n (j := 1) dX3_dueBehind_36 rfl rfl ?_
    refine cc_bipush (v := 48) dX3_dueBehind_37 (by decide) ?_
    refine cc_isub dX3_dueBehind_39 ?_
    by_cases hdg : 48 ≤ x1 ∧ x1 ≤ 51
    · refine cc_callSi (As := [.int (x1 - 48)]) (rest := []) (ct_X3_isPort cy z _ (x1 - 48)) ok_X3_isPort st_X3_isPort ml_X3_41 nd_X3_isPort (by decide +kernel) (Nat.le_of_ble_eq_true rfl) rfl dX3_dueBehind_40 (fun r2 G1 q3 => ?_)
      obtain ⟨rfl, rfl⟩ := q3
      rw [if_pos ((T_dig x1).mpr hdg)]
      refine cc_if_eq (tgt := 50) dX3_dueBehind_43 (by decide) (fun c_43 => ?_) (fun c_43 => ?_)
      · exact absurd c_43 (by decide)
      · refine cc_iconst (v := 1) dX3_dueBehind_46 (by decide) ?_
        refine cc_goto (tgt := 51) dX3_dueBehind_47 (by decide) ?_
        refine cc_iret rfl rfl dX3_dueBehind_51 ?_
        exact ⟨_, rfl, (T_d0 hdg).symm, rfl⟩
    · refine cc_callSi (As := [.int (x1 - 48)]) (rest := []) (ct_X3_isPort cy z _ (x1 - 48)) ok_X3_isPort st_X3_isPort ml_X3_41 nd_X3_isPort (by decide +kernel) (Nat.le_of_ble_eq_true rfl) rfl dX3_dueBehind_40 (fun r5 G4 q6 => ?_)
      obtain ⟨rfl, rfl⟩ := q6
      rw [if_neg (fun q => hdg ((T_dig x1).mp q))]
      refine cc_if_eq (tgt := 50) dX3_dueBehind_43 (by decide) (fun c_43_1 => ?_) (fun c_43_1 => ?_)
      · refine cc_iconst (v := (-1)) dX3_dueBehind_50 (by decide) ?_
        refine cc_iret rfl rfl dX3_dueBehind_51 ?_
        exact ⟨_, rfl, (T_d0n hdg).symm, rfl⟩
      · exact absurd c_43_1 (by decide)
  · refine cc_tableIn (off := 51) (tgt := 52) dX3_dueBehind_1 (by decide) (by decide) rfl (by decide) ?_
    refine cc_iload_n (j := 1) dX3_dueBehind_52 rfl rfl ?_
    refine cc_bipush (v := 62) dX3_dueBehind_53 (by decide) ?_
    refine cc_icmp_ne (tgt := 62) dX3_dueBehind_55 (by decide) (fun c_55 => ?_) (fun c_55 => ?_)
    · refine cc_iconst (v := (-1)) dX3_dueBehind_62 (by decide) ?_
      refine cc_iret rfl rfl dX3_dueBehind_63 ?_
      exact ⟨_, rfl, (T_d1n c_55).symm, rfl⟩
    · refine cc_iconst (v := 2) dX3_dueBehind_58 (by decide) ?_
      refine cc_goto (tgt := 63) dX3_dueBehind_59 (by decide) ?_
      refine cc_iret rfl rfl dX3_dueBehind_63 ?_
      exact ⟨_, rfl, (T_d1 c_55).symm, rfl⟩
  · refine cc_tableIn (off := 63) (tgt := 64) dX3_dueBehind_1 (by decide) (by decide) rfl (by decide) ?_
    refine cc_iload_n (j := 1) dX3_dueBehind_64 rfl rfl ?_
    refine cc_bipush (v := 48) dX3_dueBehind_65 (by decide) ?_
    refine cc_isub dX3_dueBehind_67 ?_
    by_cases hdg : 48 ≤ x1 ∧ x1 ≤ 51
    · refine cc_callSi (As := [.int (x1 - 48)]) (rest := []) (ct_X3_isPort cy z _ (x1 - 48)) ok_X3_isPort st_X3_isPort ml_X3_41 nd_X3_isPort (by decide +kernel) (Nat.le_of_ble_eq_true rfl) rfl dX3_dueBehind_68 (fun r8 G7 q9 => ?_)
      obtain ⟨rfl, rfl⟩ := q9
      rw [if_pos ((T_dig x1).mpr hdg)]
      refine cc_if_eq (tgt := 78) dX3_dueBehind_71 (by decide) (fun c_71 => ?_) (fun c_71 => ?_)
      · exact absurd c_71 (by decide)
      · refine cc_iconst (v := 3) dX3_dueBehind_74 (by decide) ?_
        refine cc_goto (tgt := 79) dX3_dueBehind_75 (by decide) ?_
        refine cc_iret rfl rfl dX3_dueBehind_79 ?_
        exact ⟨_, rfl, (T_d2 hdg).symm, rfl⟩
    · refine cc_callSi (As := [.int (x1 - 48)]) (rest := []) (ct_X3_isPort cy z _ (x1 - 48)) ok_X3_isPort st_X3_isPort ml_X3_41 nd_X3_isPort (by decide +kernel) (Nat.le_of_ble_eq_true rfl) rfl dX3_dueBehind_68 (fun r11 G10 q12 => ?_)
      obtain ⟨rfl, rfl⟩ := q12
      rw [if_neg (fun q => hdg ((T_dig x1).mp q))]
      refine cc_if_eq (tgt := 78) dX3_dueBehind_71 (by decide) (fun c_71_1 => ?_) (fun c_71_1 => ?_)
      · refine cc_iconst (v := (-1)) dX3_dueBehind_78 (by decide) ?_
        refine cc_iret rfl rfl dX3_dueBehind_79 ?_
        exact ⟨_, rfl, (T_d2n hdg).symm, rfl⟩
      · exact absurd c_71_1 (by decide)
  · refine cc_tableIn (off := 79) (tgt := 80) dX3_dueBehind_1 (by decide) (by decide) rfl (by decide) ?_
    refine cc_iload_n (j := 1) dX3_dueBehind_80 rfl rfl ?_
    refine cc_bipush (v := 42) dX3_dueBehind_81 (by decide) ?_
    refine cc_icmp_ne (tgt := 88) dX3_dueBehind_83 (by decide) (fun c_83 => ?_) (fun c_83 => ?_)
    · refine cc_iload_n (j := 1) dX3_dueBehind_88 rfl rfl ?_
      refine cc_bipush (v := 44) dX3_dueBehind_89 (by decide) ?_
      refine cc_icmp_ne (tgt := 98) dX3_dueBehind_91 (by decide) (fun c_91 => ?_) (fun c_91 => ?_)
      · refine cc_iconst (v := (-1)) dX3_dueBehind_98 (by decide) ?_
        refine cc_iret rfl rfl dX3_dueBehind_99 ?_
        exact ⟨_, rfl, (T_d3n c_83 c_91).symm, rfl⟩
      · refine cc_iconst (v := 0) dX3_dueBehind_94 (by decide) ?_
        refine cc_goto (tgt := 99) dX3_dueBehind_95 (by decide) ?_
        refine cc_iret rfl rfl dX3_dueBehind_99 ?_
        exact ⟨_, rfl, (T_d3c c_91).symm, rfl⟩
    · refine cc_iconst (v := 4) dX3_dueBehind_86 (by decide) ?_
      refine cc_iret rfl rfl dX3_dueBehind_87 ?_
      exact ⟨_, rfl, (T_d3s c_83).symm, rfl⟩
  · refine cc_tableIn (off := 99) (tgt := 100) dX3_dueBehind_1 (by decide) (by decide) rfl (by decide) ?_
    refine cc_iload_n (j := 1) dX3_dueBehind_100 rfl rfl ?_
    refine cc_bipush (v := 49) dX3_dueBehind_101 (by decide) ?_
    refine cc_icmp_lt (tgt := 116) dX3_dueBehind_103 (by decide) (fun c_103 => ?_) (fun c_103 => ?_)
    · refine cc_iconst (v := (-1)) dX3_dueBehind_116 (by decide) ?_
      refine cc_iret rfl rfl dX3_dueBehind_117 ?_
      exact ⟨_, rfl, (T_d4n (fun h => absurd c_103 (Int32.not_lt.mpr h.1))).symm, rfl⟩
    · refine cc_iload_n (j := 1) dX3_dueBehind_106 rfl rfl ?_
      refine cc_bipush (v := 57) dX3_dueBehind_107 (by decide) ?_
      refine cc_icmp_gt (tgt := 116) dX3_dueBehind_109 (by decide) (fun c_109 => ?_) (fun c_109 => ?_)
      · refine cc_iconst (v := (-1)) dX3_dueBehind_116 (by decide) ?_
        refine cc_iret rfl rfl dX3_dueBehind_117 ?_
        exact ⟨_, rfl, (T_d4n (fun h => absurd c_109 (Int32.not_lt.mpr h.2))).symm, rfl⟩
      · refine cc_iconst (v := 5) dX3_dueBehind_112 (by decide) ?_
        refine cc_goto (tgt := 117) dX3_dueBehind_113 (by decide) ?_
        refine cc_iret rfl rfl dX3_dueBehind_117 ?_
        exact ⟨_, rfl, (T_d4 ⟨Int32.not_lt.mp c_103, Int32.not_lt.mp c_109⟩).symm, rfl⟩
  · refine cc_tableOut (tgt := 118) dX3_dueBehind_1 c_1 (by decide) ?_
    refine cc_iload_n (j := 1) dX3_dueBehind_118 rfl rfl ?_
    refine cc_bipush (v := 44) dX3_dueBehind_119 (by decide) ?_
    refine cc_icmp_ne (tgt := 128) dX3_dueBehind_121 (by decide) (fun c_121 => ?_) (fun c_121 => ?_)
    · refine cc_iconst (v := (-1)) dX3_dueBehind_128 (by decide) ?_
      refine cc_iret rfl rfl dX3_dueBehind_129 ?_
      exact ⟨_, rfl, by unfold T_d; rw [if_neg (fun q => by subst q; exact absurd c_1 (by decide)), if_neg (fun q => by subst q; exact absurd c_1 (by decide)), if_neg (fun q => by subst q; exact absurd c_1 (by decide)), if_neg (fun q => by subst q; exact absurd c_1 (by decide)), if_neg (fun q => by subst q; exact absurd c_1 (by decide)), if_neg c_121], rfl⟩
    · refine cc_iconst (v := 0) dX3_dueBehind_124 (by decide) ?_
      refine cc_goto (tgt := 129) dX3_dueBehind_125 (by decide) ?_
      refine cc_iret rfl rfl dX3_dueBehind_129 ?_
      exact ⟨_, rfl, by unfold T_d; rw [if_neg (fun q => by subst q; exact absurd c_1 (by decide)), if_neg (fun q => by subst q; exact absurd c_1 (by decide)), if_neg (fun q => by subst q; exact absurd c_1 (by decide)), if_neg (fun q => by subst q; exact absurd c_1 (by decide)), if_neg (fun q => by subst q; exact absurd c_1 (by decide)), if_pos c_121], rfl⟩

set_option maxHeartbeats 4000000 in
set_option maxRecDepth 100000 in
theorem ct_X3_tellsTimes (cy : Nat → ClassId) (z : Nat) (G : cc_G) (h : Nat) (c : CS_) (a : Nat) (ha : a ≤ 66) (hI : ca_I cy G G h c) : cc_Cn cy Y_X3_tellsTimes [.ref h, .int (nI a)] z G (cc_qi (fun r G' => r = (if T_tl (C_u c) c.2.2.2.length a then 1 else 0) ∧ G' = G)) := by
  obtain ⟨S, sn, hi, t⟩ := c
  obtain ⟨BS, hS, π, tx, H, e0, eS, hP, hH, hl, hT, h60⟩ := hI
  have e0 : S = BS 0 := e0
  have H : ca_R cy G G h BS hS π (nI hi.length) tx (nI t.length) := H
  have eS : ca_S hS BS sn := eS
  have hH : ∀ (i : Nat) (hq : i < hi.length), BS (3 + π i) = hi[i] := hH
  have hl : hi.length ≤ 4 := hl
  have hT : ar_ tx t := hT
  have h60 : t.length ≤ 60 := h60
  refine cc_enter ok_X3_tellsTimes (Nat.le_of_ble_eq_true rfl) (ls := [(0, .ref h), (1, .int (nI a))]) rfl ?_
  refine cc_iload_n (j := 1) dX3_tellsTimes_0 rfl rfl ?_
  refine cc_iconst (v := 4) dX3_tellsTimes_1 (by decide) ?_
  refine cc_iadd dX3_tellsTimes_2 ?_
  rw [show (nI a) + 4 = nI (a + 4) from nI_add a 4]
  refine cc_aload_n (j := 0) dX3_tellsTimes_3 rfl rfl ?_
  refine cc_get (v := .int (nI t.length)) H.2.1 cc_c3 7 (by decide) fl_X3_38 rfl dX3_tellsTimes_4 ?_
  refine cc_icmp_ge (tgt := 27) dX3_tellsTimes_7 (by decide) (fun c_7 => ?_) (fun c_7 => ?_)
  · have hge : t.length ≤ a + 4 := cc_ngt _ c_7 (by omega) (by omega)
    refine cc_iconst (v := 0) dX3_tellsTimes_27 (by decide) ?_
    refine cc_iret rfl rfl dX3_tellsTimes_28 ?_
    exact ⟨_, rfl, (if_neg (fun q => by have h9 : a + 4 < t.length := q.1; omega)).symm, rfl⟩
  · have hlt : a + 4 < t.length := cc_nlt _ c_7 (by omega)
    refine cc_aload_n (j := 0) dX3_tellsTimes_10 rfl rfl ?_
    refine cc_get (v := .ref (h + 95)) H.2.1 cc_c3 6 (by decide) fl_X3_34 rfl dX3_tellsTimes_11 ?_
    refine cc_iload_n (j := 1) dX3_tellsTimes_14 rfl rfl ?_
    refine cc_iconst (v := 3) dX3_tellsTimes_15 (by decide) ?_
    refine cc_iadd dX3_tellsTimes_16 ?_
    rw [show (nI a) + 3 = nI (a + 3) from nI_add a 3]
    refine cc_cald (x := tx (a + 3)) H.2.2.2.2 (vp_in_nI (n := (a + 3)) (by omega) (by decide)) (by rw [(nI_clamp (by omega))]) dX3_tellsTimes_17 ?_
    rw [show tx (a + 3) = (C_u (S, sn, hi, t)) (a + 3) from ar_at hT (by omega)]
    refine cc_bipush (v := 42) dX3_tellsTimes_18 (by decide) ?_
    refine cc_icmp_ne (tgt := 27) dX3_tellsTimes_20 (by decide) (fun c_20 => ?_) (fun c_20 => ?_)
    · refine cc_iconst (v := 0) dX3_tellsTimes_27 (by decide) ?_
      refine cc_iret rfl rfl dX3_tellsTimes_28 ?_
      exact ⟨_, rfl, (if_neg (fun q => c_20 q.2)).symm, rfl⟩
    · refine cc_iconst (v := 1) dX3_tellsTimes_23 (by decide) ?_
      refine cc_goto (tgt := 28) dX3_tellsTimes_24 (by decide) ?_
      refine cc_iret rfl rfl dX3_tellsTimes_28 ?_
      exact ⟨_, rfl, (if_pos ⟨by omega, c_20⟩).symm, rfl⟩

set_option maxHeartbeats 4000000 in
set_option maxRecDepth 100000 in
theorem ct_X3_faultOfText (cy : Nat → ClassId) (z : Nat) (G : cc_G) (h : Nat) (c : CS_)  (hI : ca_I cy G G h c) : cc_Cn cy Y_X3_faultOfText [.ref h] z G (cc_qi (fun r G' => r = (match T_flt (C_u c) c.2.2.2.length 0 with | some k => nI k | none => (-1)) ∧ G' = G)) := by
  obtain ⟨S, sn, hi, t⟩ := c
  obtain ⟨BS, hS, π, tx, H, e0, eS, hP, hH, hl, hT, h60⟩ := hI
  have e0 : S = BS 0 := e0
  have H : ca_R cy G G h BS hS π (nI hi.length) tx (nI t.length) := H
  have eS : ca_S hS BS sn := eS
  have hH : ∀ (i : Nat) (hq : i < hi.length), BS (3 + π i) = hi[i] := hH
  have hl : hi.length ≤ 4 := hl
  have hT : ar_ tx t := hT
  have h60 : t.length ≤ 60 := h60
  have loop_4 : ∀ (f k : Nat), t.length < k + f → k ≤ t.length → T_flt (C_u (S, sn, hi, t)) t.length 0 = T_flt (C_u (S, sn, hi, t)) t.length k → cc_R cy Y_X3_faultOfText z 4 [(2, .int (nI k)), (1, .int (T_s (C_u (S, sn, hi, t)) k)), (0, .ref h)] [] G (cc_qi (fun r G' => r = (match T_flt (C_u (S, sn, hi, t)) t.length 0 with | some k => nI k | none => (-1)) ∧ G' = G)) := by
    intro f
    induction f with
    | zero => intro k h1 h2; exact absurd h1 (by omega)
    | succ f ih =>
      intro k hf hk hF
      refine cc_iload_n (j := 0) dX3_faultOfText_4 rfl rfl ?_
      refine cc_aload_n (j := 2) dX3_faultOfText_5 rfl rfl ?_
      refine cc_get (v := .int (nI t.length)) H.2.1 cc_c3 7 (by decide) fl_X3_38 rfl dX3_faultOfText_6 ?_
      refine cc_icmp_ge (tgt := 36) dX3_faultOfText_9 (by decide) (fun c_9 => ?_) (fun c_9 => ?_)
      · have hge : k = t.length := by have := cc_ngt _ c_9 (by omega) (by omega); omega
        refine cc_iload_n (j := 1) dX3_faultOfText_36 rfl rfl ?_
        refine cc_iconst (v := 3) dX3_faultOfText_37 (by decide) ?_
        refine cc_icmp_eq (tgt := 46) dX3_faultOfText_38 (by decide) (fun c_38 => ?_) (fun c_38 => ?_)
        · refine cc_iconst (v := 1) dX3_faultOfText_46 (by decide) ?_
          refine cc_goto (tgt := 51) dX3_faultOfText_47 (by decide) ?_
          refine cc_istore_n (ls' := [(2, .int 1), (1, .int (T_s (C_u (S, sn, hi, t)) k)), (0, .ref h)]) dX3_faultOfText_51 rfl (Nat.le_of_ble_eq_true rfl) rfl ?_
          refine cc_iload_n (j := 0) dX3_faultOfText_52 rfl rfl ?_
          refine cc_if_eq (tgt := 60) dX3_faultOfText_53 (by decide) (fun c_53 => ?_) (fun c_53 => ?_)
          · exact absurd c_53 (by decide)
          · refine cc_iconst (v := (-1)) dX3_faultOfText_56 (by decide) ?_
            refine cc_goto (tgt := 64) dX3_faultOfText_57 (by decide) ?_
            refine cc_iret rfl rfl dX3_faultOfText_64 ?_
            have c9 := c_38
            rw [hge] at c9
            have e : T_flt (C_u (S, sn, hi, t)) t.length 0 = none := hF.trans (by rw [hge]; exact T_done (Or.inl c9))
            rw [e]
            exact ⟨_, rfl, rfl, rfl⟩
        · refine cc_iload_n (j := 1) dX3_faultOfText_41 rfl rfl ?_
          refine cc_iconst (v := 5) dX3_faultOfText_42 (by decide) ?_
          refine cc_icmp_ne (tgt := 50) dX3_faultOfText_43 (by decide) (fun c_43 => ?_) (fun c_43 => ?_)
          · refine cc_iconst (v := 0) dX3_faultOfText_50 (by decide) ?_
            refine cc_istore_n (ls' := [(2, .int 0), (1, .int (T_s (C_u (S, sn, hi, t)) k)), (0, .ref h)]) dX3_faultOfText_51 rfl (Nat.le_of_ble_eq_true rfl) rfl ?_
            refine cc_iload_n (j := 0) dX3_faultOfText_52 rfl rfl ?_
            refine cc_if_eq (tgt := 60) dX3_faultOfText_53 (by decide) (fun c_53_1 => ?_) (fun c_53_1 => ?_)
            · refine cc_aload_n (j := 2) dX3_faultOfText_60 rfl rfl ?_
              refine cc_get (v := .int (nI t.length)) H.2.1 cc_c3 7 (by decide) fl_X3_38 rfl dX3_faultOfText_61 ?_
              refine cc_iret rfl rfl dX3_faultOfText_64 ?_
              have c9 := c_38
              have c8 := c_43
              rw [hge] at c9 c8
              have e : T_flt (C_u (S, sn, hi, t)) t.length 0 = some t.length := hF.trans (by rw [hge]; exact T_early (fun q => q.elim c9 c8))
              rw [e]
              exact ⟨_, rfl, rfl, rfl⟩
            · exact absurd c_53_1 (by decide)
          · refine cc_iconst (v := 1) dX3_faultOfText_46 (by decide) ?_
            refine cc_goto (tgt := 51) dX3_faultOfText_47 (by decide) ?_
            refine cc_istore_n (ls' := [(2, .int 1), (1, .int (T_s (C_u (S, sn, hi, t)) k)), (0, .ref h)]) dX3_faultOfText_51 rfl (Nat.le_of_ble_eq_true rfl) rfl ?_
            refine cc_iload_n (j := 0) dX3_faultOfText_52 rfl rfl ?_
            refine cc_if_eq (tgt := 60) dX3_faultOfText_53 (by decide) (fun c_53_2 => ?_) (fun c_53_2 => ?_)
            · exact absurd c_53_2 (by decide)
            · refine cc_iconst (v := (-1)) dX3_faultOfText_56 (by decide) ?_
              refine cc_goto (tgt := 64) dX3_faultOfText_57 (by decide) ?_
              refine cc_iret rfl rfl dX3_faultOfText_64 ?_
              have c9 := c_43
              rw [hge] at c9
              have e : T_flt (C_u (S, sn, hi, t)) t.length 0 = none := hF.trans (by rw [hge]; exact T_done (Or.inr c9))
              rw [e]
              exact ⟨_, rfl, rfl, rfl⟩
      · have hlt : k < t.length := cc_nlt _ c_9 (by omega)
        refine cc_iload_n (j := 1) dX3_faultOfText_12 rfl rfl ?_
        refine cc_aload_n (j := 2) dX3_faultOfText_13 rfl rfl ?_
        refine cc_get (v := .ref (h + 95)) H.2.1 cc_c3 6 (by decide) fl_X3_34 rfl dX3_faultOfText_14 ?_
        refine cc_iload_n (j := 0) dX3_faultOfText_17 rfl rfl ?_
        refine cc_cald (x := tx k) H.2.2.2.2 (vp_in_nI (n := k) (by omega) (by decide)) (by rw [(nI_clamp (by omega))]) dX3_faultOfText_18 ?_
        rw [show tx (k) = (C_u (S, sn, hi, t)) k from ar_at hT hlt]
        refine cc_callSi (As := [.int (T_s (C_u (S, sn, hi, t)) k), .int ((C_u (S, sn, hi, t)) k)]) (rest := []) (ct_X3_dueBehind cy z _ (T_s (C_u (S, sn, hi, t)) k) ((C_u (S, sn, hi, t)) k)) ok_X3_dueBehind st_X3_dueBehind ml_X3_168 nd_X3_dueBehind (by decide +kernel) (Nat.le_of_ble_eq_true rfl) rfl dX3_faultOfText_19 (fun r2 G1 q3 => ?_)
        obtain ⟨hr, rfl⟩ := q3
        have hr : r2 = T_s (C_u (S, sn, hi, t)) (k + 1) := hr
        subst hr
        refine cc_istore_n (ls' := [(1, .int (T_s (C_u (S, sn, hi, t)) (k + 1))), (2, .int (nI k)), (0, .ref h)]) dX3_faultOfText_22 rfl (Nat.le_of_ble_eq_true rfl) rfl ?_
        refine cc_iload_n (j := 0) dX3_faultOfText_23 rfl rfl ?_
        refine cc_iconst (v := (-1)) dX3_faultOfText_24 (by decide) ?_
        refine cc_icmp_ne (tgt := 30) dX3_faultOfText_25 (by decide) (fun c_25 => ?_) (fun c_25 => ?_)
        · refine cc_iinc (j := 1) (v := nI (k + 1)) (ls' := [(2, .int (nI (k + 1))), (1, .int (T_s (C_u (S, sn, hi, t)) (k + 1))), (0, .ref h)]) dX3_faultOfText_30 rfl (nI_1 k) (Nat.le_of_ble_eq_true rfl) rfl ?_
          refine cc_goto (tgt := 4) dX3_faultOfText_33 (by decide) ?_
          refine cc_loc (ls' := [(2, .int (nI (k + 1))), (1, .int (T_s (C_u (S, sn, hi, t)) (k + 1))), (0, .ref h)]) [0, 1, 2] rfl ?_
          exact ih (k + 1) (by omega) (by omega) (hF.trans (T_go hlt c_25))
        · refine cc_iload_n (j := 1) dX3_faultOfText_28 rfl rfl ?_
          refine cc_iret rfl rfl dX3_faultOfText_29 ?_
          have e : T_flt (C_u (S, sn, hi, t)) t.length 0 = some k := hF.trans (T_bad hlt c_25)
          rw [e]
          exact ⟨_, rfl, rfl, rfl⟩
  refine cc_enter ok_X3_faultOfText (Nat.le_of_ble_eq_true rfl) (ls := [(0, .ref h)]) rfl ?_
  refine cc_iconst (v := 0) dX3_faultOfText_0 (by decide) ?_
  refine cc_istore_n (ls' := [(1, .int 0), (0, .ref h)]) dX3_faultOfText_1 rfl (Nat.le_of_ble_eq_true rfl) rfl ?_
  refine cc_iconst (v := 0) dX3_faultOfText_2 (by decide) ?_
  refine cc_istore_n (ls' := [(2, .int 0), (1, .int 0), (0, .ref h)]) dX3_faultOfText_3 rfl (Nat.le_of_ble_eq_true rfl) rfl ?_
  exact loop_4 61 0 (by omega) (Nat.zero_le _) rfl
