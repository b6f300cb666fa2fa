set_option maxHeartbeats 4000000 in
set_option maxRecDepth 100000 in
theorem ct_X3_init (cy : Nat → ClassId) (h : Nat) (G : cc_G) (hb : G h = some (.inr (3, [.null, .null, .null, .int 0, .null, .int 0, .null, .int 0]))) : ci_Cn cy Y_X3_init [.ref h] (h + 1) G (h + 220) (fun G' => ca_I cy G G' h (B0_, none, [], [])) := by
  have loop : ∀ (n i : Nat) (G1 : cc_G), 4 < i + n → i ≤ 4 → (∀ q : Nat, (q < h ∨ h + 220 ≤ q) → G1 q = G q) → (G1 h = some (.inr (3, [.ref (h + 1), .ref (h + 32), .ref (h + 63), .int 0, .ref (h + 94), .int 0, .ref (h + 95), .int 0]))) → (G1 (h + 94) = some (.inl (cy 3, 4, .inr (.inr (.inr (.inr (ci_ar i (fun j => h + 96 + 31 * j)))))))) → (G1 (h + 95) = some (.inl (cy 0, 60, .inl (fun _ => 0)))) → (bx_I cy G1 G1 (h + 1) (fun _ => 0) B0_) → (bx_I cy G1 G1 (h + 32) (fun _ => 0) B0_) → (bx_I cy G1 G1 (h + 63) (fun _ => 0) B0_) → (∀ j : Nat, j < i → bx_I cy G1 G1 (h + 96 + 31 * j) (fun _ => 0) B0_) → ci_R cy Y_X3_init (h + 1) (h + 96 + 31 * i) 70 [(1, .int (nI i)), (0, .ref h)] [] G1 (95 + 31 * i) (802 + 246 * i) (h + 220) (fun G' => ca_I cy G G' h (B0_, none, [], [])) := by
      intro n
      induction n with
      | zero => intro i G1 h1 h2; exact absurd h1 (by omega)
      | succ n ih =>
        intro i G1 hn hi hF hb hl ht hB0 hB1 hB2 hBs
        refine ci_iload_n (j := 0) dX3_init_70 rfl rfl ?_
        refine ci_iconst (v := 4) dX3_init_71 (by decide) ?_
        refine ci_icmp_ge (tgt := 94) dX3_init_72 (by decide) (fun c_72 => ?_) (fun c_72 => ?_)
        · have hge : i = 4 := by have := cc_ngt 4 c_72 (by omega) (by decide); omega
          subst hge
          have hcb : ∀ j : Nat, cb h (3 + j) = h + 96 + 31 * j := fun j => by
            unfold cb
            rw [if_neg (by omega)]
            omega
          refine ci_ext (f' := ca_h h (fun i => i)) hl (fun j hj => (if_pos hj).trans (by show _ = some (cb h (3 + j)); rw [hcb])) ?_
          refine ci_w (e := .inl (cy 3, 4, .inr (.inr (.inr (.inr (ca_h h (fun i => i))))))) (fun Gx wx hlx => ?_)
          refine ci_vret rfl (by omega) (by show _ ≤ 219; omega) (by show _ ≤ 1786; omega) dX3_init_94 ⟨fun _ => B0_, 0, fun i => i, fun _ => 0, ⟨fun q hq => (wx q (by omega)).trans (hF q hq), (wx _ (by omega)).trans hb, fun k hk => ?_, hlx, (wx _ (by omega)).trans ht⟩, rfl, Or.inl ⟨rfl, rfl⟩, ⟨fun i hi => hi, fun i j _ _ q => q⟩, fun i hi => absurd hi (Nat.not_lt_zero i), Nat.zero_le _, ar_.nil, Nat.zero_le _⟩
          match k, hk with
          | 0, _ => exact ⟨_, hB0.keep (fun q h1 h2 => wx q (by omega))⟩
          | 1, _ => exact ⟨_, hB1.keep (fun q h1 h2 => wx q (by omega))⟩
          | 2, _ => exact ⟨_, hB2.keep (fun q h1 h2 => wx q (by omega))⟩
          | k + 3, hk =>
            rw [show k + 3 = 3 + k by omega, hcb]
            exact ⟨_, (hBs k (by omega)).keep (fun q h1 h2 => wx q (by omega))⟩
        have hlt : i < 4 := cc_nlt 4 c_72 (by omega)
        refine ci_aload_n (j := 1) dX3_init_75 rfl rfl ?_
        refine ci_get (v := .ref (h + 94)) hb cc_c3 4 (by decide) fl_X3_26 rfl dX3_init_76 ?_
        refine ci_iload_n (j := 0) dX3_init_79 rfl rfl ?_
        refine ci_new (fs := [.int 0, .int 0, .int 0, .int 0, .null, .null]) cc_c0 cl_X3_7 ib_X0 in_X0 bl_X0 (by show _ ≤ 219; omega) (by show _ ≤ 1786; omega) dX3_init_80 ?_
        refine ci_w (e := .inr (0, [.int 0, .int 0, .int 0, .int 0, .null, .null])) (fun Ga wa ha => ?_)
        have hF_a : ∀ q : Nat, (q < h ∨ h + 220 ≤ q) → Ga q = G q := fun q hq => (wa q (by omega)).trans (hF q hq)
        have hb_a : Ga h = some (.inr (3, [.ref (h + 1), .ref (h + 32), .ref (h + 63), .int 0, .ref (h + 94), .int 0, .ref (h + 95), .int 0])) := (wa _ (by omega)).trans hb
        have hl_a : Ga (h + 94) = some (.inl (cy 3, 4, .inr (.inr (.inr (.inr (ci_ar i (fun j => h + 96 + 31 * j))))))) := (wa _ (by omega)).trans hl
        have ht_a : Ga (h + 95) = some (.inl (cy 0, 60, .inl (fun _ => 0))) := (wa _ (by omega)).trans ht
        have hB0_a : bx_I cy Ga Ga (h + 1) (fun _ => 0) B0_ := hB0.keep (fun q h1 h2 => wa q (by omega))
        have hB1_a : bx_I cy Ga Ga (h + 32) (fun _ => 0) B0_ := hB1.keep (fun q h1 h2 => wa q (by omega))
        have hB2_a : bx_I cy Ga Ga (h + 63) (fun _ => 0) B0_ := hB2.keep (fun q h1 h2 => wa q (by omega))
        have hBs_a : ∀ j : Nat, j < i → bx_I cy Ga Ga (h + 96 + 31 * j) (fun _ => 0) B0_ := fun j hj => (hBs j hj).keep (fun q h1 h2 => wa q (by omega))
        refine ci_dup dX3_init_83 rfl ?_
        refine ci_callIN (ct_X0_init cy (h + 96 + 31 * i) Ga ha) ok_X0_init im_X0_init mn_X3_9 nd_X0_init (by decide +kernel) ⟨(show 95 + 31 * i + 1 + 30 ≤ 219 by omega), (show 802 + 246 * i + 6 + 240 ≤ 1786 by omega)⟩ (Nat.le_of_ble_eq_true rfl) dX3_init_84 (fun Gb pb => ?_)
        have wb := pb.1
        refine ci_zz (z' := h + 96 + 31 * (i + 1)) (m1 := 95 + 31 * (i + 1)) (m2 := 802 + 246 * (i + 1)) (by omega) (show 95 + 31 * i + 1 + 30 = _ by omega) (show 802 + 246 * i + 6 + 240 = _ by omega) ?_
        have hF_b : ∀ q : Nat, (q < h ∨ h + 220 ≤ q) → Gb q = G q := fun q hq => (wb q (by omega)).trans (hF_a q hq)
        have hb_b : Gb h = some (.inr (3, [.ref (h + 1), .ref (h + 32), .ref (h + 63), .int 0, .ref (h + 94), .int 0, .ref (h + 95), .int 0])) := (wb _ (by omega)).trans hb_a
        have hl_b : Gb (h + 94) = some (.inl (cy 3, 4, .inr (.inr (.inr (.inr (ci_ar i (fun j => h + 96 + 31 * j))))))) := (wb _ (by omega)).trans hl_a
        have ht_b : Gb (h + 95) = some (.inl (cy 0, 60, .inl (fun _ => 0))) := (wb _ (by omega)).trans ht_a
        have hB0_b : bx_I cy Gb Gb (h + 1) (fun _ => 0) B0_ := hB0_a.keep (fun q h1 h2 => wb q (by omega))
        have hB1_b : bx_I cy Gb Gb (h + 32) (fun _ => 0) B0_ := hB1_a.keep (fun q h1 h2 => wb q (by omega))
        have hB2_b : bx_I cy Gb Gb (h + 63) (fun _ => 0) B0_ := hB2_a.keep (fun q h1 h2 => wb q (by omega))
        have hBs_b : ∀ j : Nat, j < i → bx_I cy Gb Gb (h + 96 + 31 * j) (fun _ => 0) B0_ := fun j hj => (hBs_a j hj).keep (fun q h1 h2 => wb q (by omega))
        refine ci_aast3 (j := i) hl_b pb.2.1 (vp_in_nI (by omega) (by decide)) (nI_clamp (by omega)) dX3_init_87 ?_
        rw [show va_up (ci_ar i (fun j => h + 96 + 31 * j)) i (some (h + 96 + 31 * i)) = ci_ar (i + 1) (fun j => h + 96 + 31 * j) from ci_ar_s (f := fun j => h + 96 + 31 * j)]
        have hBn : ∀ j : Nat, j < i + 1 → bx_I cy Gb Gb (h + 96 + 31 * j) (fun _ => 0) B0_ := fun j hj => by
          rcases Nat.lt_or_ge j i with q | q
          · exact hBs_b j q
          · have ej : j = i := by omega
            subst ej
            exact pb.self
        refine ci_w (e := .inl (cy 3, 4, .inr (.inr (.inr (.inr (ci_ar (i + 1) (fun j => h + 96 + 31 * j))))))) (fun Gc wc hl_n => ?_)
        have hF_c : ∀ q : Nat, (q < h ∨ h + 220 ≤ q) → Gc q = G q := fun q hq => (wc q (by omega)).trans (hF_b q hq)
        have hb_c : Gc h = some (.inr (3, [.ref (h + 1), .ref (h + 32), .ref (h + 63), .int 0, .ref (h + 94), .int 0, .ref (h + 95), .int 0])) := (wc _ (by omega)).trans hb_b
        have ht_c : Gc (h + 95) = some (.inl (cy 0, 60, .inl (fun _ => 0))) := (wc _ (by omega)).trans ht_b
        have hB0_c : bx_I cy Gc Gc (h + 1) (fun _ => 0) B0_ := hB0_b.keep (fun q h1 h2 => wc q (by omega))
        have hB1_c : bx_I cy Gc Gc (h + 32) (fun _ => 0) B0_ := hB1_b.keep (fun q h1 h2 => wc q (by omega))
        have hB2_c : bx_I cy Gc Gc (h + 63) (fun _ => 0) B0_ := hB2_b.keep (fun q h1 h2 => wc q (by omega))
        have hBs_c : ∀ j : Nat, j < i + 1 → bx_I cy Gc Gc (h + 96 + 31 * j) (fun _ => 0) B0_ := fun j hj => (hBn j hj).keep (fun q h1 h2 => wc q (by omega))
        refine ci_iinc (j := 0) (v := nI (i + 1)) (ls' := [(1, .int (nI (i + 1))), (0, .ref h)]) dX3_init_88 rfl (nI_1 i) (Nat.le_of_ble_eq_true rfl) rfl ?_
        refine ci_goto (tgt := 70) dX3_init_91 (by decide) ?_
        exact ih (i + 1) Gc (by omega) (by omega) hF_c hb_c hl_n ht_c hB0_c hB1_c hB2_c hBs_c
  refine ci_enter ok_X3_init (Nat.le_of_ble_eq_true rfl) (ls := [(0, .ref h)]) rfl ?_
  refine ci_aload_n (j := 0) dX3_init_0 rfl rfl ?_
  refine ci_obj ml_X3_1 dX3_init_1 (Nat.le_of_ble_eq_true rfl) (Nat.le_of_ble_eq_true rfl) ?_
  refine ci_aload_n (j := 0) dX3_init_4 rfl rfl ?_
  refine ci_new (fs := [.int 0, .int 0, .int 0, .int 0, .null, .null]) cc_c0 cl_X3_7 ib_X0 in_X0 bl_X0 (by decide) (by decide) dX3_init_5 ?_
  refine ci_w (e := .inr (0, [.int 0, .int 0, .int 0, .int 0, .null, .null])) (fun G1 w2 h3 => ?_)
  have h4 : G1 (h) = some (.inr (3, [.null, .null, .null, .int 0, .null, .int 0, .null, .int 0])) := (w2 _ (by omega)).trans hb
  have hF5 : ∀ q : Nat, (q < h ∨ h + 220 ≤ q) → G1 q = G q := fun q hq => (w2 q (by omega)).trans ((fun _ _ => rfl) q hq)
  refine ci_dup dX3_init_8 rfl ?_
  refine ci_callIN (ct_X0_init cy (h + 1) G1 h3) ok_X0_init im_X0_init mn_X3_9 nd_X0_init (by decide +kernel) ⟨(by decide), (by decide)⟩ (Nat.le_of_ble_eq_true rfl) dX3_init_9 (fun G6 p7 => ?_)
  have w8 := p7.1
  have h9 : G6 (h) = some (.inr (3, [.null, .null, .null, .int 0, .null, .int 0, .null, .int 0])) := (w8 _ (by omega)).trans h4
  have hB10 : bx_I cy G6 G6 (h + 1) (fun _ => 0) B0_ := p7.self
  have hF11 : ∀ q : Nat, (q < h ∨ h + 220 ≤ q) → G6 q = G q := fun q hq => (w8 q (by omega)).trans (hF5 q hq)
  refine ci_zz (z' := h + 32) (m1 := 31) (m2 := 246) rfl (by decide) (by decide) ?_
  refine ci_putF h9 cc_c3 0 (by decide) fl_X3_10 rfl rfl rfl rfl rfl (Nat.le_of_ble_eq_true rfl) dX3_init_12 ?_
  refine ci_w (e := .inr (3, [.ref (h + 1), .null, .null, .int 0, .null, .int 0, .null, .int 0])) (fun G12 w13 h14 => ?_)
  have hF15 : ∀ q : Nat, (q < h ∨ h + 220 ≤ q) → G12 q = G q := fun q hq => (w13 q (by omega)).trans (hF11 q hq)
  have hB16 : bx_I cy G12 G12 (h + 1) (fun _ => 0) B0_ := hB10.keep (fun q h1 h2 => w13 q (by omega))
  refine ci_aload_n (j := 0) dX3_init_15 rfl rfl ?_
  refine ci_new (fs := [.int 0, .int 0, .int 0, .int 0, .null, .null]) cc_c0 cl_X3_7 ib_X0 in_X0 bl_X0 (by decide) (by decide) dX3_init_16 ?_
  refine ci_w (e := .inr (0, [.int 0, .int 0, .int 0, .int 0, .null, .null])) (fun G17 w18 h19 => ?_)
  have h20 : G17 (h) = some (.inr (3, [.ref (h + 1), .null, .null, .int 0, .null, .int 0, .null, .int 0])) := (w18 _ (by omega)).trans h14
  have hF21 : ∀ q : Nat, (q < h ∨ h + 220 ≤ q) → G17 q = G q := fun q hq => (w18 q (by omega)).trans (hF15 q hq)
  have hB22 : bx_I cy G17 G17 (h + 1) (fun _ => 0) B0_ := hB16.keep (fun q h1 h2 => w18 q (by omega))
  refine ci_dup dX3_init_19 rfl ?_
  refine ci_callIN (ct_X0_init cy (h + 32) G17 h19) ok_X0_init im_X0_init mn_X3_9 nd_X0_init (by decide +kernel) ⟨(by decide), (by decide)⟩ (Nat.le_of_ble_eq_true rfl) dX3_init_20 (fun G23 p24 => ?_)
  have w25 := p24.1
  have h26 : G23 (h) = some (.inr (3, [.ref (h + 1), .null, .null, .int 0, .null, .int 0, .null, .int 0])) := (w25 _ (by omega)).trans h20
  have hB27 : bx_I cy G23 G23 (h + 1) (fun _ => 0) B0_ := hB22.keep (fun q h1 h2 => w25 q (by omega))
  have hB28 : bx_I cy G23 G23 (h + 32) (fun _ => 0) B0_ := p24.self
  have hF29 : ∀ q : Nat, (q < h ∨ h + 220 ≤ q) → G23 q = G q := fun q hq => (w25 q (by omega)).trans (hF21 q hq)
  refine ci_zz (z' := h + 63) (m1 := 62) (m2 := 492) rfl (by decide) (by decide) ?_
  refine ci_putF h26 cc_c3 1 (by decide) fl_X3_16 rfl rfl rfl rfl rfl (Nat.le_of_ble_eq_true rfl) dX3_init_23 ?_
  refine ci_w (e := .inr (3, [.ref (h + 1), .ref (h + 32), .null, .int 0, .null, .int 0, .null, .int 0])) (fun G30 w31 h32 => ?_)
  have hF33 : ∀ q : Nat, (q < h ∨ h + 220 ≤ q) → G30 q = G q := fun q hq => (w31 q (by omega)).trans (hF29 q hq)
  have hB34 : bx_I cy G30 G30 (h + 1) (fun _ => 0) B0_ := hB27.keep (fun q h1 h2 => w31 q (by omega))
  have hB35 : bx_I cy G30 G30 (h + 32) (fun _ => 0) B0_ := hB28.keep (fun q h1 h2 => w31 q (by omega))
  refine ci_aload_n (j := 0) dX3_init_26 rfl rfl ?_
  refine ci_new (fs := [.int 0, .int 0, .int 0, .int 0, .null, .null]) cc_c0 cl_X3_7 ib_X0 in_X0 bl_X0 (by decide) (by decide) dX3_init_27 ?_
  refine ci_w (e := .inr (0, [.int 0, .int 0, .int 0, .int 0, .null, .null])) (fun G36 w37 h38 => ?_)
  have h39 : G36 (h) = some (.inr (3, [.ref (h + 1), .ref (h + 32), .null, .int 0, .null, .int 0, .null, .int 0])) := (w37 _ (by omega)).trans h32
  have hF40 : ∀ q : Nat, (q < h ∨ h + 220 ≤ q) → G36 q = G q := fun q hq => (w37 q (by omega)).trans (hF33 q hq)
  have hB41 : bx_I cy G36 G36 (h + 1) (fun _ => 0) B0_ := hB34.keep (fun q h1 h2 => w37 q (by omega))
  have hB42 : bx_I cy G36 G36 (h + 32) (fun _ => 0) B0_ := hB35.keep (fun q h1 h2 => w37 q (by omega))
  refine ci_dup dX3_init_30 rfl ?_
  refine ci_callIN (ct_X0_init cy (h + 63) G36 h38) ok_X0_init im_X0_init mn_X3_9 nd_X0_init (by decide +kernel) ⟨(by decide), (by decide)⟩ (Nat.le_of_ble_eq_true rfl) dX3_init_31 (fun G43 p44 => ?_)
  have w45 := p44.1
  have h46 : G43 (h) = some (.inr (3, [.ref (h + 1), .ref (h + 32), .null, .int 0, .null, .int 0, .null, .int 0])) := (w45 _ (by omega)).trans h39
  have hB47 : bx_I cy G43 G43 (h + 1) (fun _ => 0) B0_ := hB41.keep (fun q h1 h2 => w45 q (by omega))
  have hB48 : bx_I cy G43 G43 (h + 32) (fun _ => 0) B0_ := hB42.keep (fun q h1 h2 => w45 q (by omega))
  have hB49 : bx_I cy G43 G43 (h + 63) (fun _ => 0) B0_ := p44.self
  have hF50 : ∀ q : Nat, (q < h ∨ h + 220 ≤ q) → G43 q = G q := fun q hq => (w45 q (by omega)).trans (hF40 q hq)
  refine ci_zz (z' := h + 94) (m1 := 93) (m2 := 738) rfl (by decide) (by decide) ?_
  refine ci_putF h46 cc_c3 2 (by decide) fl_X3_19 rfl rfl rfl rfl rfl (Nat.le_of_ble_eq_true rfl) dX3_init_34 ?_
  refine ci_w (e := .inr (3, [.ref (h + 1), .ref (h + 32), .ref (h + 63), .int 0, .null, .int 0, .null, .int 0])) (fun G51 w52 h53 => ?_)
  have hF54 : ∀ q : Nat, (q < h ∨ h + 220 ≤ q) → G51 q = G q := fun q hq => (w52 q (by omega)).trans (hF50 q hq)
  have hB55 : bx_I cy G51 G51 (h + 1) (fun _ => 0) B0_ := hB47.keep (fun q h1 h2 => w52 q (by omega))
  have hB56 : bx_I cy G51 G51 (h + 32) (fun _ => 0) B0_ := hB48.keep (fun q h1 h2 => w52 q (by omega))
  have hB57 : bx_I cy G51 G51 (h + 63) (fun _ => 0) B0_ := hB49.keep (fun q h1 h2 => w52 q (by omega))
  refine ci_aload_n (j := 0) dX3_init_37 rfl rfl ?_
  refine ci_iconst (v := 0) dX3_init_38 (by decide) ?_
  refine ci_put h53 cc_c3 3 (by decide) fl_X3_22 rfl rfl rfl rfl (Nat.le_of_ble_eq_true rfl) dX3_init_39 ?_
  refine ci_w (e := .inr (3, [.ref (h + 1), .ref (h + 32), .ref (h + 63), .int 0, .null, .int 0, .null, .int 0])) (fun G58 w59 h60 => ?_)
  have hF61 : ∀ q : Nat, (q < h ∨ h + 220 ≤ q) → G58 q = G q := fun q hq => (w59 q (by omega)).trans (hF54 q hq)
  have hB62 : bx_I cy G58 G58 (h + 1) (fun _ => 0) B0_ := hB55.keep (fun q h1 h2 => w59 q (by omega))
  have hB63 : bx_I cy G58 G58 (h + 32) (fun _ => 0) B0_ := hB56.keep (fun q h1 h2 => w59 q (by omega))
  have hB64 : bx_I cy G58 G58 (h + 63) (fun _ => 0) B0_ := hB57.keep (fun q h1 h2 => w59 q (by omega))
  refine ci_aload_n (j := 0) dX3_init_42 rfl rfl ?_
  refine ci_iconst (v := 4) dX3_init_43 (by decide) ?_
  refine ci_anew_RX0 (N' := 4) cl_X3_7 (by decide) rfl (by decide) (by decide) (by decide) dX3_init_44 ?_
  refine ci_w (e := .inl (cy 3, 4, .inr (.inr (.inr (.inr (fun _ => none)))))) (fun G65 w66 h67 => ?_)
  have h68 : G65 (h) = some (.inr (3, [.ref (h + 1), .ref (h + 32), .ref (h + 63), .int 0, .null, .int 0, .null, .int 0])) := (w66 _ (by omega)).trans h60
  have hF69 : ∀ q : Nat, (q < h ∨ h + 220 ≤ q) → G65 q = G q := fun q hq => (w66 q (by omega)).trans (hF61 q hq)
  have hB70 : bx_I cy G65 G65 (h + 1) (fun _ => 0) B0_ := hB62.keep (fun q h1 h2 => w66 q (by omega))
  have hB71 : bx_I cy G65 G65 (h + 32) (fun _ => 0) B0_ := hB63.keep (fun q h1 h2 => w66 q (by omega))
  have hB72 : bx_I cy G65 G65 (h + 63) (fun _ => 0) B0_ := hB64.keep (fun q h1 h2 => w66 q (by omega))
  refine ci_putF h68 cc_c3 4 (by decide) fl_X3_26 rfl rfl rfl rfl rfl (Nat.le_of_ble_eq_true rfl) dX3_init_47 ?_
  refine ci_w (e := .inr (3, [.ref (h + 1), .ref (h + 32), .ref (h + 63), .int 0, .ref (h + 94), .int 0, .null, .int 0])) (fun G73 w74 h75 => ?_)
  have h76 : G73 (h + 94) = some (.inl (cy 3, 4, .inr (.inr (.inr (.inr (fun _ => none)))))) := (w74 _ (by omega)).trans h67
  have hF77 : ∀ q : Nat, (q < h ∨ h + 220 ≤ q) → G73 q = G q := fun q hq => (w74 q (by omega)).trans (hF69 q hq)
  have hB78 : bx_I cy G73 G73 (h + 1) (fun _ => 0) B0_ := hB70.keep (fun q h1 h2 => w74 q (by omega))
  have hB79 : bx_I cy G73 G73 (h + 32) (fun _ => 0) B0_ := hB71.keep (fun q h1 h2 => w74 q (by omega))
  have hB80 : bx_I cy G73 G73 (h + 63) (fun _ => 0) B0_ := hB72.keep (fun q h1 h2 => w74 q (by omega))
  refine ci_aload_n (j := 0) dX3_init_50 rfl rfl ?_
  refine ci_iconst (v := 0) dX3_init_51 (by decide) ?_
  refine ci_put h75 cc_c3 5 (by decide) fl_X3_30 rfl rfl rfl rfl (Nat.le_of_ble_eq_true rfl) dX3_init_52 ?_
  refine ci_w (e := .inr (3, [.ref (h + 1), .ref (h + 32), .ref (h + 63), .int 0, .ref (h + 94), .int 0, .null, .int 0])) (fun G81 w82 h83 => ?_)
  have h84 : G81 (h + 94) = some (.inl (cy 3, 4, .inr (.inr (.inr (.inr (fun _ => none)))))) := (w82 _ (by omega)).trans h76
  have hF85 : ∀ q : Nat, (q < h ∨ h + 220 ≤ q) → G81 q = G q := fun q hq => (w82 q (by omega)).trans (hF77 q hq)
  have hB86 : bx_I cy G81 G81 (h + 1) (fun _ => 0) B0_ := hB78.keep (fun q h1 h2 => w82 q (by omega))
  have hB87 : bx_I cy G81 G81 (h + 32) (fun _ => 0) B0_ := hB79.keep (fun q h1 h2 => w82 q (by omega))
  have hB88 : bx_I cy G81 G81 (h + 63) (fun _ => 0) B0_ := hB80.keep (fun q h1 h2 => w82 q (by omega))
  refine ci_aload_n (j := 0) dX3_init_55 rfl rfl ?_
  refine ci_bipush (v := 60) dX3_init_56 (by decide) ?_
  refine ci_newa_char (N' := 60) (by decide) rfl (by decide) (by decide) (by decide) dX3_init_58 ?_
  refine ci_w (e := .inl (cy 0, 60, .inl (fun _ => 0))) (fun G89 w90 h91 => ?_)
  have h92 : G89 (h + 94) = some (.inl (cy 3, 4, .inr (.inr (.inr (.inr (fun _ => none)))))) := (w90 _ (by omega)).trans h84
  have h93 : G89 (h) = some (.inr (3, [.ref (h + 1), .ref (h + 32), .ref (h + 63), .int 0, .ref (h + 94), .int 0, .null, .int 0])) := (w90 _ (by omega)).trans h83
  have hF94 : ∀ q : Nat, (q < h ∨ h + 220 ≤ q) → G89 q = G q := fun q hq => (w90 q (by omega)).trans (hF85 q hq)
  have hB95 : bx_I cy G89 G89 (h + 1) (fun _ => 0) B0_ := hB86.keep (fun q h1 h2 => w90 q (by omega))
  have hB96 : bx_I cy G89 G89 (h + 32) (fun _ => 0) B0_ := hB87.keep (fun q h1 h2 => w90 q (by omega))
  have hB97 : bx_I cy G89 G89 (h + 63) (fun _ => 0) B0_ := hB88.keep (fun q h1 h2 => w90 q (by omega))
  refine ci_putF h93 cc_c3 6 (by decide) fl_X3_34 rfl rfl rfl rfl rfl (Nat.le_of_ble_eq_true rfl) dX3_init_60 ?_
  refine ci_w (e := .inr (3, [.ref (h + 1), .ref (h + 32), .ref (h + 63), .int 0, .ref (h + 94), .int 0, .ref (h + 95), .int 0])) (fun G98 w99 h100 => ?_)
  have h101 : G98 (h + 94) = some (.inl (cy 3, 4, .inr (.inr (.inr (.inr (fun _ => none)))))) := (w99 _ (by omega)).trans h92
  have h102 : G98 (h + 95) = some (.inl (cy 0, 60, .inl (fun _ => 0))) := (w99 _ (by omega)).trans h91
  have hF103 : ∀ q : Nat, (q < h ∨ h + 220 ≤ q) → G98 q = G q := fun q hq => (w99 q (by omega)).trans (hF94 q hq)
  have hB104 : bx_I cy G98 G98 (h + 1) (fun _ => 0) B0_ := hB95.keep (fun q h1 h2 => w99 q (by omega))
  have hB105 : bx_I cy G98 G98 (h + 32) (fun _ => 0) B0_ := hB96.keep (fun q h1 h2 => w99 q (by omega))
  have hB106 : bx_I cy G98 G98 (h + 63) (fun _ => 0) B0_ := hB97.keep (fun q h1 h2 => w99 q (by omega))
  refine ci_aload_n (j := 0) dX3_init_63 rfl rfl ?_
  refine ci_iconst (v := 0) dX3_init_64 (by decide) ?_
  refine ci_put h100 cc_c3 7 (by decide) fl_X3_38 rfl rfl rfl rfl (Nat.le_of_ble_eq_true rfl) dX3_init_65 ?_
  refine ci_w (e := .inr (3, [.ref (h + 1), .ref (h + 32), .ref (h + 63), .int 0, .ref (h + 94), .int 0, .ref (h + 95), .int 0])) (fun G107 w108 h109 => ?_)
  have h110 : G107 (h + 94) = some (.inl (cy 3, 4, .inr (.inr (.inr (.inr (fun _ => none)))))) := (w108 _ (by omega)).trans h101
  have h111 : G107 (h + 95) = some (.inl (cy 0, 60, .inl (fun _ => 0))) := (w108 _ (by omega)).trans h102
  have hF112 : ∀ q : Nat, (q < h ∨ h + 220 ≤ q) → G107 q = G q := fun q hq => (w108 q (by omega)).trans (hF103 q hq)
  have hB113 : bx_I cy G107 G107 (h + 1) (fun _ => 0) B0_ := hB104.keep (fun q h1 h2 => w108 q (by omega))
  have hB114 : bx_I cy G107 G107 (h + 32) (fun _ => 0) B0_ := hB105.keep (fun q h1 h2 => w108 q (by omega))
  have hB115 : bx_I cy G107 G107 (h + 63) (fun _ => 0) B0_ := hB106.keep (fun q h1 h2 => w108 q (by omega))
  refine ci_iconst (v := 0) dX3_init_68 (by decide) ?_
  refine ci_istore_n (ls' := [(1, .int 0), (0, .ref h)]) dX3_init_69 rfl (Nat.le_of_ble_eq_true rfl) rfl ?_
  rw [show (fun _ => none : Nat → Option Nat) = ci_ar 0 (fun j => h + 96 + 31 * j) from ci_ar_0] at h110
  exact loop 5 0 _ (by omega) (by omega) hF112 h109 h110 h111 hB113 hB114 hB115 (fun j hj => absurd hj (by omega))
