def Y_X4_init : cc_Y := (yX4_init, cX4_init, 2, none, { frames := 1, cells := 7, slots := 1692, locals := 40 })
theorem nd_X4_init : (parseMethodDescriptor yX4_init.desc).map (fun d => d.parameters.length) = some 0 := by decide +kernel
theorem ok_X4_init : ci_Ok Y_X4_init := ⟨cd_X4_init, in_X4, by decide +kernel, ⟨by decide +kernel, by decide +kernel⟩, rfl, rfl⟩

set_option maxHeartbeats 4000000 in
set_option maxRecDepth 100000 in
theorem ct_X4_init (cy : Nat → ClassId) (o : Nat) (G : cc_G) (hb : G o = some (.inr (4, [.null, .null, .null, .null, .int 0, .int 0, .null, .int 0, .int 0, .null, .null]))) : ci_Cn cy Y_X4_init [.ref o] (o + 1) G (o + 8) (fun G' => ma_I cy G G' o (B0_, none, [], [])) := by
  have loop : ∀ (n i : Nat) (r1 : Nat → Int32) (G1 : cc_G), 4 < i + n → i ≤ 4 → mo_R cy G G1 o r1 (fun _ => 0) (fun _ => 0) (fun _ => 0) 0 0 (fun _ => 0) 0 0 (fun _ => 0) (fun _ => 0) → (∀ q : Nat, (q < 4 ∨ 4 + 30 * i ≤ q) → r1 q = 0) → (∀ j : Nat, j < i → rl_I r1 (4 + 30 * j) L0_) → ci_R cy Y_X4_init (o + 1) (o + 8) 64 [(1, .int (nI i)), (0, .ref o)] [] G1 7 1692 (o + 8) (fun G' => ma_I cy G G' o (B0_, none, [], [])) := by
      intro n
      induction n with
      | zero => intro i r1 G1 h1 h2; exact absurd h1 (by omega)
      | succ n ih =>
        intro i r1 G1 hn hi H hz hL
        refine ci_iload_n (j := 0) dX4_init_64 rfl rfl ?_
        refine ci_iconst (v := 4) dX4_init_65 (by decide) ?_
        refine ci_icmp_ge (tgt := 103) dX4_init_66 (by decide) (fun c_66 => ?_) (fun c_66 => ?_)
        · have hge : i = 4 := by have := cc_ngt 4 c_66 (by omega) (by decide); omega
          subst hge
          refine ci_vret rfl rfl (by decide) (by decide) dX4_init_103 ⟨_, _, _, _, _, _, _, _, _, _, _, H, ⟨hz 0 (by omega), hz 1 (by omega), hz 2 (by omega), hz 3 (by omega), hL, fun j hj => ⟨hz _ (by omega), hz _ (by omega), hz _ (by omega), ⟨ar_.nil, ar_.nil, ar_.nil⟩, Nat.zero_le _⟩⟩, Or.inl ⟨rfl, rfl⟩, rfl, fun i hi => absurd hi (Nat.not_lt_zero i), Nat.zero_le _, rfl, ar_.nil, Nat.zero_le _⟩
        have hlt : i < 4 := cc_nlt 4 c_66 (by omega)
        refine ci_aload_n (j := 1) dX4_init_69 rfl rfl ?_
        refine ci_iload_n (j := 0) dX4_init_70 rfl rfl ?_
        refine ci_iconst (v := 0) dX4_init_71 (by decide) ?_
        refine ci_iconst (v := 3) dX4_init_72 (by decide) ?_
        refine ci_callVv (As := [.int (nI i), .int 0, .int 3]) (rest := []) (ct_X4_lay cy _ _ _ _ _ _ _ _ _ _ _ _ _ _ i 0 3 (by omega) H.self) ok_X4_lay H.2.1 rfl im_X4_lay sl_X4_lay ml_X4_33 nd_X4_lay (by decide +kernel) ⟨by decide, by decide⟩ (Nat.le_of_ble_eq_true rfl) rfl dX4_init_73 (fun GQ0 HQ0 => ?_)
        have H2 := H.tr HQ0
        refine ci_aload_n (j := 1) dX4_init_76 rfl rfl ?_
        refine ci_iload_n (j := 0) dX4_init_77 rfl rfl ?_
        refine ci_iconst (v := 1) dX4_init_78 (by decide) ?_
        refine ci_iconst (v := 2) dX4_init_79 (by decide) ?_
        refine ci_callVv (As := [.int (nI i), .int 1, .int 2]) (rest := []) (ct_X4_lay cy _ _ _ _ _ _ _ _ _ _ _ _ _ _ i 1 2 (by omega) H2.self) ok_X4_lay H2.2.1 rfl im_X4_lay sl_X4_lay ml_X4_33 nd_X4_lay (by decide +kernel) ⟨by decide, by decide⟩ (Nat.le_of_ble_eq_true rfl) rfl dX4_init_80 (fun GQ1 HQ1 => ?_)
        have H3 := H2.tr HQ1
        refine ci_aload_n (j := 1) dX4_init_83 rfl rfl ?_
        refine ci_iload_n (j := 0) dX4_init_84 rfl rfl ?_
        refine ci_iconst (v := 2) dX4_init_85 (by decide) ?_
        refine ci_iconst (v := 2) dX4_init_86 (by decide) ?_
        refine ci_callVv (As := [.int (nI i), .int 2, .int 2]) (rest := []) (ct_X4_lay cy _ _ _ _ _ _ _ _ _ _ _ _ _ _ i 2 2 (by omega) H3.self) ok_X4_lay H3.2.1 rfl im_X4_lay sl_X4_lay ml_X4_33 nd_X4_lay (by decide +kernel) ⟨by decide, by decide⟩ (Nat.le_of_ble_eq_true rfl) rfl dX4_init_87 (fun GQ2 HQ2 => ?_)
        have H4 := H3.tr HQ2
        refine ci_aload_n (j := 1) dX4_init_90 rfl rfl ?_
        refine ci_iload_n (j := 0) dX4_init_91 rfl rfl ?_
        refine ci_iconst (v := 3) dX4_init_92 (by decide) ?_
        refine ci_iconst (v := 3) dX4_init_93 (by decide) ?_
        refine ci_callVv (As := [.int (nI i), .int 3, .int 3]) (rest := []) (ct_X4_lay cy _ _ _ _ _ _ _ _ _ _ _ _ _ _ i 3 3 (by omega) H4.self) ok_X4_lay H4.2.1 rfl im_X4_lay sl_X4_lay ml_X4_33 nd_X4_lay (by decide +kernel) ⟨by decide, by decide⟩ (Nat.le_of_ble_eq_true rfl) rfl dX4_init_94 (fun GQ3 HQ3 => ?_)
        have H5 := H4.tr HQ3
        refine ci_iinc (j := 0) (v := nI (i + 1)) (ls' := [(1, .int (nI (i + 1))), (0, .ref o)]) dX4_init_97 rfl (nI_1 i) (Nat.le_of_ble_eq_true rfl) rfl ?_
        refine ci_goto (tgt := 64) dX4_init_100 (by decide) ?_
        have hrl : rl_I (upd (upd (upd (upd r1 (4 + 30 * i + 0) 3) (4 + 30 * i + 1) 2) (4 + 30 * i + 2) 2) (4 + 30 * i + 3) 3) (4 + 30 * i) L0_ := by
          refine ⟨fun k hk => ?_, ?_, ?_, ar_.nil, ar_.nil, Nat.zero_le _, Nat.zero_le _⟩
          · match k, hk with
            | 0, _ => exact (pk_un (by omega)).trans ((pk_un (by omega)).trans ((pk_un (by omega)).trans pk_us))
            | 1, _ => exact (pk_un (by omega)).trans ((pk_un (by omega)).trans pk_us)
            | 2, _ => exact (pk_un (by omega)).trans pk_us
            | 3, _ => exact pk_us
            | k + 4, hk => exact ((pk_un (by omega)).trans ((pk_un (by omega)).trans ((pk_un (by omega)).trans ((pk_un (by omega)).trans (hz _ (by omega)))))).trans (show (0 : Int32) = L0_.1 (k + 4) from (by
                show (0 : Int32) = (if k + 4 = 0 then 3 else if k + 4 = 1 then 2 else if k + 4 = 2 then 2 else if k + 4 = 3 then 3 else 0)
                rw [if_neg (by omega), if_neg (by omega), if_neg (by omega), if_neg (by omega)]))
          · exact (pk_un (by omega)).trans ((pk_un (by omega)).trans ((pk_un (by omega)).trans ((pk_un (by omega)).trans (hz _ (by omega)))))
          · exact (pk_un (by omega)).trans ((pk_un (by omega)).trans ((pk_un (by omega)).trans ((pk_un (by omega)).trans (hz _ (by omega)))))
        refine ih (i + 1) _ _ (by omega) (by omega) H5 (fun q hq => (pk_un (by omega)).trans ((pk_un (by omega)).trans ((pk_un (by omega)).trans ((pk_un (by omega)).trans (hz q (by omega)))))) (fun j hj => ?_)
        rcases Nat.lt_or_ge j i with q | q
        · exact (hL j q).keep (fun q h1 h2 => (pk_un (by omega)).trans ((pk_un (by omega)).trans ((pk_un (by omega)).trans (pk_un (by omega)))))
        · have ej : j = i := by omega
          subst ej
          exact hrl
  refine ci_enter ok_X4_init (Nat.le_of_ble_eq_true rfl) (ls := [(0, .ref o)]) rfl ?_
  refine ci_aload_n (j := 0) dX4_init_0 rfl rfl ?_
  refine ci_obj ml_X4_1 dX4_init_1 (Nat.le_of_ble_eq_true rfl) (Nat.le_of_ble_eq_true rfl) ?_
  refine ci_aload_n (j := 0) dX4_init_4 rfl rfl ?_
  refine ci_sipush (v := 232) dX4_init_5 (by decide) ?_
  refine ci_newa_int (N' := 232) (by decide) rfl (by decide) (by decide) (by decide) dX4_init_8 ?_
  refine ci_w (e := .inl (cy 1, 232, .inl (fun _ => 0))) (fun G1 w2 h3 => ?_)
  have h4 : G1 (o) = some (.inr (4, [.null, .null, .null, .null, .int 0, .int 0, .null, .int 0, .int 0, .null, .null])) := (w2 _ (by omega)).trans hb
  have hF5 : ∀ q : Nat, (q < o ∨ o + 8 ≤ q) → G1 q = G q := fun q hq => (w2 q (by omega)).trans ((fun _ _ => rfl) q hq)
  refine ci_putF h4 cc_c4 0 (by decide) fl_X4_7 rfl rfl rfl rfl rfl (Nat.le_of_ble_eq_true rfl) dX4_init_10 ?_
  refine ci_w (e := .inr (4, [.ref (o + 1), .null, .null, .null, .int 0, .int 0, .null, .int 0, .int 0, .null, .null])) (fun G6 w7 h8 => ?_)
  have h9 : G6 (o + 1) = some (.inl (cy 1, 232, .inl (fun _ => 0))) := (w7 _ (by omega)).trans h3
  have hF10 : ∀ q : Nat, (q < o ∨ o + 8 ≤ q) → G6 q = G q := fun q hq => (w7 q (by omega)).trans (hF5 q hq)
  refine ci_aload_n (j := 0) dX4_init_13 rfl rfl ?_
  refine ci_sipush (v := 928) dX4_init_14 (by decide) ?_
  refine ci_newa_int (N' := 928) (by decide) rfl (by decide) (by decide) (by decide) dX4_init_17 ?_
  refine ci_w (e := .inl (cy 1, 928, .inl (fun _ => 0))) (fun G11 w12 h13 => ?_)
  have h14 : G11 (o + 1) = some (.inl (cy 1, 232, .inl (fun _ => 0))) := (w12 _ (by omega)).trans h9
  have h15 : G11 (o) = some (.inr (4, [.ref (o + 1), .null, .null, .null, .int 0, .int 0, .null, .int 0, .int 0, .null, .null])) := (w12 _ (by omega)).trans h8
  have hF16 : ∀ q : Nat, (q < o ∨ o + 8 ≤ q) → G11 q = G q := fun q hq => (w12 q (by omega)).trans (hF10 q hq)
  refine ci_putF h15 cc_c4 1 (by decide) fl_X4_13 rfl rfl rfl rfl rfl (Nat.le_of_ble_eq_true rfl) dX4_init_19 ?_
  refine ci_w (e := .inr (4, [.ref (o + 1), .ref (o + 2), .null, .null, .int 0, .int 0, .null, .int 0, .int 0, .null, .null])) (fun G17 w18 h19 => ?_)
  have h20 : G17 (o + 1) = some (.inl (cy 1, 232, .inl (fun _ => 0))) := (w18 _ (by omega)).trans h14
  have h21 : G17 (o + 2) = some (.inl (cy 1, 928, .inl (fun _ => 0))) := (w18 _ (by omega)).trans h13
  have hF22 : ∀ q : Nat, (q < o ∨ o + 8 ≤ q) → G17 q = G q := fun q hq => (w18 q (by omega)).trans (hF16 q hq)
  refine ci_aload_n (j := 0) dX4_init_22 rfl rfl ?_
  refine ci_sipush (v := 232) dX4_init_23 (by decide) ?_
  refine ci_newa_int (N' := 232) (by decide) rfl (by decide) (by decide) (by decide) dX4_init_26 ?_
  refine ci_w (e := .inl (cy 1, 232, .inl (fun _ => 0))) (fun G23 w24 h25 => ?_)
  have h26 : G23 (o + 1) = some (.inl (cy 1, 232, .inl (fun _ => 0))) := (w24 _ (by omega)).trans h20
  have h27 : G23 (o + 2) = some (.inl (cy 1, 928, .inl (fun _ => 0))) := (w24 _ (by omega)).trans h21
  have h28 : G23 (o) = some (.inr (4, [.ref (o + 1), .ref (o + 2), .null, .null, .int 0, .int 0, .null, .int 0, .int 0, .null, .null])) := (w24 _ (by omega)).trans h19
  have hF29 : ∀ q : Nat, (q < o ∨ o + 8 ≤ q) → G23 q = G q := fun q hq => (w24 q (by omega)).trans (hF22 q hq)
  refine ci_putF h28 cc_c4 2 (by decide) fl_X4_16 rfl rfl rfl rfl rfl (Nat.le_of_ble_eq_true rfl) dX4_init_28 ?_
  refine ci_w (e := .inr (4, [.ref (o + 1), .ref (o + 2), .ref (o + 3), .null, .int 0, .int 0, .null, .int 0, .int 0, .null, .null])) (fun G30 w31 h32 => ?_)
  have h33 : G30 (o + 1) = some (.inl (cy 1, 232, .inl (fun _ => 0))) := (w31 _ (by omega)).trans h26
  have h34 : G30 (o + 2) = some (.inl (cy 1, 928, .inl (fun _ => 0))) := (w31 _ (by omega)).trans h27
  have h35 : G30 (o + 3) = some (.inl (cy 1, 232, .inl (fun _ => 0))) := (w31 _ (by omega)).trans h25
  have hF36 : ∀ q : Nat, (q < o ∨ o + 8 ≤ q) → G30 q = G q := fun q hq => (w31 q (by omega)).trans (hF29 q hq)
  refine ci_aload_n (j := 0) dX4_init_31 rfl rfl ?_
  refine ci_sipush (v := 232) dX4_init_32 (by decide) ?_
  refine ci_newa_int (N' := 232) (by decide) rfl (by decide) (by decide) (by decide) dX4_init_35 ?_
  refine ci_w (e := .inl (cy 1, 232, .inl (fun _ => 0))) (fun G37 w38 h39 => ?_)
  have h40 : G37 (o + 1) = some (.inl (cy 1, 232, .inl (fun _ => 0))) := (w38 _ (by omega)).trans h33
  have h41 : G37 (o + 2) = some (.inl (cy 1, 928, .inl (fun _ => 0))) := (w38 _ (by omega)).trans h34
  have h42 : G37 (o + 3) = some (.inl (cy 1, 232, .inl (fun _ => 0))) := (w38 _ (by omega)).trans h35
  have h43 : G37 (o) = some (.inr (4, [.ref (o + 1), .ref (o + 2), .ref (o + 3), .null, .int 0, .int 0, .null, .int 0, .int 0, .null, .null])) := (w38 _ (by omega)).trans h32
  have hF44 : ∀ q : Nat, (q < o ∨ o + 8 ≤ q) → G37 q = G q := fun q hq => (w38 q (by omega)).trans (hF36 q hq)
  refine ci_putF h43 cc_c4 3 (by decide) fl_X4_19 rfl rfl rfl rfl rfl (Nat.le_of_ble_eq_true rfl) dX4_init_37 ?_
  refine ci_w (e := .inr (4, [.ref (o + 1), .ref (o + 2), .ref (o + 3), .ref (o + 4), .int 0, .int 0, .null, .int 0, .int 0, .null, .null])) (fun G45 w46 h47 => ?_)
  have h48 : G45 (o + 1) = some (.inl (cy 1, 232, .inl (fun _ => 0))) := (w46 _ (by omega)).trans h40
  have h49 : G45 (o + 2) = some (.inl (cy 1, 928, .inl (fun _ => 0))) := (w46 _ (by omega)).trans h41
  have h50 : G45 (o + 3) = some (.inl (cy 1, 232, .inl (fun _ => 0))) := (w46 _ (by omega)).trans h42
  have h51 : G45 (o + 4) = some (.inl (cy 1, 232, .inl (fun _ => 0))) := (w46 _ (by omega)).trans h39
  have hF52 : ∀ q : Nat, (q < o ∨ o + 8 ≤ q) → G45 q = G q := fun q hq => (w46 q (by omega)).trans (hF44 q hq)
  refine ci_aload_n (j := 0) dX4_init_40 rfl rfl ?_
  refine ci_bipush (v := 60) dX4_init_41 (by decide) ?_
  refine ci_newa_char (N' := 60) (by decide) rfl (by decide) (by decide) (by decide) dX4_init_43 ?_
  refine ci_w (e := .inl (cy 0, 60, .inl (fun _ => 0))) (fun G53 w54 h55 => ?_)
  have h56 : G53 (o + 1) = some (.inl (cy 1, 232, .inl (fun _ => 0))) := (w54 _ (by omega)).trans h48
  have h57 : G53 (o + 2) = some (.inl (cy 1, 928, .inl (fun _ => 0))) := (w54 _ (by omega)).trans h49
  have h58 : G53 (o + 3) = some (.inl (cy 1, 232, .inl (fun _ => 0))) := (w54 _ (by omega)).trans h50
  have h59 : G53 (o + 4) = some (.inl (cy 1, 232, .inl (fun _ => 0))) := (w54 _ (by omega)).trans h51
  have h60 : G53 (o) = some (.inr (4, [.ref (o + 1), .ref (o + 2), .ref (o + 3), .ref (o + 4), .int 0, .int 0, .null, .int 0, .int 0, .null, .null])) := (w54 _ (by omega)).trans h47
  have hF61 : ∀ q : Nat, (q < o ∨ o + 8 ≤ q) → G53 q = G q := fun q hq => (w54 q (by omega)).trans (hF52 q hq)
  refine ci_putF h60 cc_c4 6 (by decide) fl_X4_22 rfl rfl rfl rfl rfl (Nat.le_of_ble_eq_true rfl) dX4_init_45 ?_
  refine ci_w (e := .inr (4, [.ref (o + 1), .ref (o + 2), .ref (o + 3), .ref (o + 4), .int 0, .int 0, .ref (o + 5), .int 0, .int 0, .null, .null])) (fun G62 w63 h64 => ?_)
  have h65 : G62 (o + 1) = some (.inl (cy 1, 232, .inl (fun _ => 0))) := (w63 _ (by omega)).trans h56
  have h66 : G62 (o + 2) = some (.inl (cy 1, 928, .inl (fun _ => 0))) := (w63 _ (by omega)).trans h57
  have h67 : G62 (o + 3) = some (.inl (cy 1, 232, .inl (fun _ => 0))) := (w63 _ (by omega)).trans h58
  have h68 : G62 (o + 4) = some (.inl (cy 1, 232, .inl (fun _ => 0))) := (w63 _ (by omega)).trans h59
  have h69 : G62 (o + 5) = some (.inl (cy 0, 60, .inl (fun _ => 0))) := (w63 _ (by omega)).trans h55
  have hF70 : ∀ q : Nat, (q < o ∨ o + 8 ≤ q) → G62 q = G q := fun q hq => (w63 q (by omega)).trans (hF61 q hq)
  refine ci_aload_n (j := 0) dX4_init_48 rfl rfl ?_
  refine ci_iconst (v := 4) dX4_init_49 (by decide) ?_
  refine ci_newa_boolean (N' := 4) (by decide) rfl (by decide) (by decide) (by decide) dX4_init_50 ?_
  refine ci_w (e := .inl (cy 2, 4, .inl (fun _ => 0))) (fun G71 w72 h73 => ?_)
  have h74 : G71 (o + 1) = some (.inl (cy 1, 232, .inl (fun _ => 0))) := (w72 _ (by omega)).trans h65
  have h75 : G71 (o + 2) = some (.inl (cy 1, 928, .inl (fun _ => 0))) := (w72 _ (by omega)).trans h66
  have h76 : G71 (o + 3) = some (.inl (cy 1, 232, .inl (fun _ => 0))) := (w72 _ (by omega)).trans h67
  have h77 : G71 (o + 4) = some (.inl (cy 1, 232, .inl (fun _ => 0))) := (w72 _ (by omega)).trans h68
  have h78 : G71 (o + 5) = some (.inl (cy 0, 60, .inl (fun _ => 0))) := (w72 _ (by omega)).trans h69
  have h79 : G71 (o) = some (.inr (4, [.ref (o + 1), .ref (o + 2), .ref (o + 3), .ref (o + 4), .int 0, .int 0, .ref (o + 5), .int 0, .int 0, .null, .null])) := (w72 _ (by omega)).trans h64
  have hF80 : ∀ q : Nat, (q < o ∨ o + 8 ≤ q) → G71 q = G q := fun q hq => (w72 q (by omega)).trans (hF70 q hq)
  refine ci_putF h79 cc_c4 9 (by decide) fl_X4_26 rfl rfl rfl rfl rfl (Nat.le_of_ble_eq_true rfl) dX4_init_52 ?_
  refine ci_w (e := .inr (4, [.ref (o + 1), .ref (o + 2), .ref (o + 3), .ref (o + 4), .int 0, .int 0, .ref (o + 5), .int 0, .int 0, .ref (o + 6), .null])) (fun G81 w82 h83 => ?_)
  have h84 : G81 (o + 1) = some (.inl (cy 1, 232, .inl (fun _ => 0))) := (w82 _ (by omega)).trans h74
  have h85 : G81 (o + 2) = some (.inl (cy 1, 928, .inl (fun _ => 0))) := (w82 _ (by omega)).trans h75
  have h86 : G81 (o + 3) = some (.inl (cy 1, 232, .inl (fun _ => 0))) := (w82 _ (by omega)).trans h76
  have h87 : G81 (o + 4) = some (.inl (cy 1, 232, .inl (fun _ => 0))) := (w82 _ (by omega)).trans h77
  have h88 : G81 (o + 5) = some (.inl (cy 0, 60, .inl (fun _ => 0))) := (w82 _ (by omega)).trans h78
  have h89 : G81 (o + 6) = some (.inl (cy 2, 4, .inl (fun _ => 0))) := (w82 _ (by omega)).trans h73
  have hF90 : ∀ q : Nat, (q < o ∨ o + 8 ≤ q) → G81 q = G q := fun q hq => (w82 q (by omega)).trans (hF80 q hq)
  refine ci_aload_n (j := 0) dX4_init_55 rfl rfl ?_
  refine ci_iconst (v := 4) dX4_init_56 (by decide) ?_
  refine ci_newa_int (N' := 4) (by decide) rfl (by decide) (by decide) (by decide) dX4_init_57 ?_
  refine ci_w (e := .inl (cy 1, 4, .inl (fun _ => 0))) (fun G91 w92 h93 => ?_)
  have h94 : G91 (o + 1) = some (.inl (cy 1, 232, .inl (fun _ => 0))) := (w92 _ (by omega)).trans h84
  have h95 : G91 (o + 2) = some (.inl (cy 1, 928, .inl (fun _ => 0))) := (w92 _ (by omega)).trans h85
  have h96 : G91 (o + 3) = some (.inl (cy 1, 232, .inl (fun _ => 0))) := (w92 _ (by omega)).trans h86
  have h97 : G91 (o + 4) = some (.inl (cy 1, 232, .inl (fun _ => 0))) := (w92 _ (by omega)).trans h87
  have h98 : G91 (o + 5) = some (.inl (cy 0, 60, .inl (fun _ => 0))) := (w92 _ (by omega)).trans h88
  have h99 : G91 (o + 6) = some (.inl (cy 2, 4, .inl (fun _ => 0))) := (w92 _ (by omega)).trans h89
  have h100 : G91 (o) = some (.inr (4, [.ref (o + 1), .ref (o + 2), .ref (o + 3), .ref (o + 4), .int 0, .int 0, .ref (o + 5), .int 0, .int 0, .ref (o + 6), .null])) := (w92 _ (by omega)).trans h83
  have hF101 : ∀ q : Nat, (q < o ∨ o + 8 ≤ q) → G91 q = G q := fun q hq => (w92 q (by omega)).trans (hF90 q hq)
  refine ci_putF h100 cc_c4 10 (by decide) fl_X4_30 rfl rfl rfl rfl rfl (Nat.le_of_ble_eq_true rfl) dX4_init_59 ?_
  refine ci_w (e := .inr (4, [.ref (o + 1), .ref (o + 2), .ref (o + 3), .ref (o + 4), .int 0, .int 0, .ref (o + 5), .int 0, .int 0, .ref (o + 6), .ref (o + 7)])) (fun G102 w103 h104 => ?_)
  have h105 : G102 (o + 1) = some (.inl (cy 1, 232, .inl (fun _ => 0))) := (w103 _ (by omega)).trans h94
  have h106 : G102 (o + 2) = some (.inl (cy 1, 928, .inl (fun _ => 0))) := (w103 _ (by omega)).trans h95
  have h107 : G102 (o + 3) = some (.inl (cy 1, 232, .inl (fun _ => 0))) := (w103 _ (by omega)).trans h96
  have h108 : G102 (o + 4) = some (.inl (cy 1, 232, .inl (fun _ => 0))) := (w103 _ (by omega)).trans h97
  have h109 : G102 (o + 5) = some (.inl (cy 0, 60, .inl (fun _ => 0))) := (w103 _ (by omega)).trans h98
  have h110 : G102 (o + 6) = some (.inl (cy 2, 4, .inl (fun _ => 0))) := (w103 _ (by omega)).trans h99
  have h111 : G102 (o + 7) = some (.inl (cy 1, 4, .inl (fun _ => 0))) := (w103 _ (by omega)).trans h93
  have hF112 : ∀ q : Nat, (q < o ∨ o + 8 ≤ q) → G102 q = G q := fun q hq => (w103 q (by omega)).trans (hF101 q hq)
  refine ci_iconst (v := 0) dX4_init_62 (by decide) ?_
  refine ci_istore_n (ls' := [(1, .int 0), (0, .ref o)]) dX4_init_63 rfl (Nat.le_of_ble_eq_true rfl) rfl ?_
  exact loop 5 0 _ _ (by omega) (by omega) ⟨hF112, h104, h105, h106, h107, h108, h109, h110, h111⟩ (fun _ _ => rfl) (fun j hj => absurd hj (by omega))
