theorem ci_w {cy : Nat → ClassId} {Y : cc_Y} {z0 z pc n1 n2 zE : Nat} {ls : List (Nat × Value)} {st : List Value} {G : cc_G} {Q : cc_G → Prop} {x : Nat} {e : va_E} (k : ∀ G1 : cc_G, (∀ q : Nat, q ≠ x → G1 q = G q) → G1 x = some e → ci_R cy Y z0 z pc ls st G1 n1 n2 zE Q) : ci_R cy Y z0 z pc ls st (va_up G x (some e)) n1 n2 zE Q := k _ (fun _ hq => va_up_ne _ _ hq) (va_up_self _ _ _)

theorem bl_X0 : ∀ j, j < 6 → defaultValue (tyX0 j) = vp_V [.int 0, .int 0, .int 0, .int 0, .null, .null] j := by
  intro j hj
  match j, hj with
  | 0, _ => rfl
  | 1, _ => rfl
  | 2, _ => rfl
  | 3, _ => rfl
  | 4, _ => rfl
  | 5, _ => rfl

theorem bl_X1 : ∀ j, j < 13 → defaultValue (tyX1 j) = vp_V [.int 0, .int 0, .int 0, .int 0, .int 0, .int 0, .int 0, .int 0, .int 0, .null, .int 0, .null, .int 0] j := by
  intro j hj
  match j, hj with
  | 0, _ => rfl
  | 1, _ => rfl
  | 2, _ => rfl
  | 3, _ => rfl
  | 4, _ => rfl
  | 5, _ => rfl
  | 6, _ => rfl
  | 7, _ => rfl
  | 8, _ => rfl
  | 9, _ => rfl
  | 10, _ => rfl
  | 11, _ => rfl
  | 12, _ => rfl

theorem bl_X2 : ∀ j, j < 7 → defaultValue (tyX2 j) = vp_V [.null, .null, .null, .int 0, .int 0, .int 0, .int 0] j := by
  intro j hj
  match j, hj with
  | 0, _ => rfl
  | 1, _ => rfl
  | 2, _ => rfl
  | 3, _ => rfl
  | 4, _ => rfl
  | 5, _ => rfl
  | 6, _ => rfl

theorem bl_X3 : ∀ j, j < 8 → defaultValue (tyX3 j) = vp_V [.null, .null, .null, .int 0, .null, .int 0, .null, .int 0] j := by
  intro j hj
  match j, hj with
  | 0, _ => rfl
  | 1, _ => rfl
  | 2, _ => rfl
  | 3, _ => rfl
  | 4, _ => rfl
  | 5, _ => rfl
  | 6, _ => rfl
  | 7, _ => rfl

theorem bl_X4 : ∀ j, j < 11 → defaultValue (tyX4 j) = vp_V [.null, .null, .null, .null, .int 0, .int 0, .null, .int 0, .int 0, .null, .null] j := by
  intro j hj
  match j, hj with
  | 0, _ => rfl
  | 1, _ => rfl
  | 2, _ => rfl
  | 3, _ => rfl
  | 4, _ => rfl
  | 5, _ => rfl
  | 6, _ => rfl
  | 7, _ => rfl
  | 8, _ => rfl
  | 9, _ => rfl
  | 10, _ => rfl

def Y_X1_init : cc_Y := (yX1_init, cX1_init, 1, none, { frames := 1, cells := 2, slots := 14, locals := 20 })
theorem nd_X1_init : (parseMethodDescriptor yX1_init.desc).map (fun d => d.parameters.length) = some 0 := by decide +kernel
theorem ok_X1_init : ci_Ok Y_X1_init := ⟨cd_X1_init, in_X1, by decide +kernel, ⟨by decide +kernel, by decide +kernel⟩, rfl, rfl⟩

def Y_X2_init : cc_Y := (yX2_init, cX2_init, 1, none, { frames := 1, cells := 3, slots := 24, locals := 20 })
theorem nd_X2_init : (parseMethodDescriptor yX2_init.desc).map (fun d => d.parameters.length) = some 0 := by decide +kernel
theorem ok_X2_init : ci_Ok Y_X2_init := ⟨cd_X2_init, in_X2, by decide +kernel, ⟨by decide +kernel, by decide +kernel⟩, rfl, rfl⟩

def Y_X0_init : cc_Y := (yX0_init, cX0_init, 2, none, { frames := 2, cells := 30, slots := 240, locals := 40 })
theorem nd_X0_init : (parseMethodDescriptor yX0_init.desc).map (fun d => d.parameters.length) = some 0 := by decide +kernel
theorem ok_X0_init : ci_Ok Y_X0_init := ⟨cd_X0_init, in_X0, by decide +kernel, ⟨by decide +kernel, by decide +kernel⟩, rfl, rfl⟩

def Y_X3_init : cc_Y := (yX3_init, cX3_init, 2, none, { frames := 3, cells := 219, slots := 1786, locals := 61 })
theorem nd_X3_init : (parseMethodDescriptor yX3_init.desc).map (fun d => d.parameters.length) = some 0 := by decide +kernel
theorem ok_X3_init : ci_Ok Y_X3_init := ⟨cd_X3_init, in_X3, by decide +kernel, ⟨by decide +kernel, by decide +kernel⟩, rfl, rfl⟩

def L0_ : Ln_ := (fun k => if k = 0 then 3 else if k = 1 then 2 else if k = 2 then 2 else if k = 3 then 3 else 0, [], [])
def Q0_ : Qu_ := (0, 0, [])
def B0_ : St_ := (fun _ => 0, fun _ => L0_, fun _ => Q0_)

set_option maxHeartbeats 4000000 in
set_option maxRecDepth 100000 in
theorem ct_X1_init (cy : Nat → ClassId) (b : Nat) (G : cc_G) (hb : G b = some (.inr (1, [.int 0, .int 0, .int 0, .int 0, .int 0, .int 0, .int 0, .int 0, .int 0, .null, .int 0, .null, .int 0]))) : ci_Cn cy Y_X1_init [.ref b] (b + 1) G (b + 3) (fun G' => ln_I cy G G' b L0_) := by
  refine ci_enter ok_X1_init (Nat.le_of_ble_eq_true rfl) (ls := [(0, .ref b)]) rfl ?_
  refine ci_aload_n (j := 0) dX1_init_0 rfl rfl ?_
  refine ci_obj ml_X1_3 dX1_init_1 (Nat.le_of_ble_eq_true rfl) (Nat.le_of_ble_eq_true rfl) ?_
  refine ci_aload_n (j := 0) dX1_init_4 rfl rfl ?_
  refine ci_iconst (v := 3) dX1_init_5 (by decide) ?_
  refine ci_put hb cc_c1 0 (by decide) fl_X1_9 rfl rfl rfl rfl (Nat.le_of_ble_eq_true rfl) dX1_init_6 ?_
  refine ci_w (e := .inr (1, [.int 3, .int 0, .int 0, .int 0, .int 0, .int 0, .int 0, .int 0, .int 0, .null, .int 0, .null, .int 0])) (fun G1 w2 h3 => ?_)
  have hF4 : ∀ q : Nat, (q < b ∨ b + 3 ≤ q) → G1 q = G q := fun q hq => (w2 q (by omega)).trans ((fun _ _ => rfl) q hq)
  refine ci_aload_n (j := 0) dX1_init_9 rfl rfl ?_
  refine ci_iconst (v := 2) dX1_init_10 (by decide) ?_
  refine ci_put h3 cc_c1 1 (by decide) fl_X1_15 rfl rfl rfl rfl (Nat.le_of_ble_eq_true rfl) dX1_init_11 ?_
  refine ci_w (e := .inr (1, [.int 3, .int 2, .int 0, .int 0, .int 0, .int 0, .int 0, .int 0, .int 0, .null, .int 0, .null, .int 0])) (fun G5 w6 h7 => ?_)
  have hF8 : ∀ q : Nat, (q < b ∨ b + 3 ≤ q) → G5 q = G q := fun q hq => (w6 q (by omega)).trans (hF4 q hq)
  refine ci_aload_n (j := 0) dX1_init_14 rfl rfl ?_
  refine ci_iconst (v := 2) dX1_init_15 (by decide) ?_
  refine ci_put h7 cc_c1 2 (by decide) fl_X1_18 rfl rfl rfl rfl (Nat.le_of_ble_eq_true rfl) dX1_init_16 ?_
  refine ci_w (e := .inr (1, [.int 3, .int 2, .int 2, .int 0, .int 0, .int 0, .int 0, .int 0, .int 0, .null, .int 0, .null, .int 0])) (fun G9 w10 h11 => ?_)
  have hF12 : ∀ q : Nat, (q < b ∨ b + 3 ≤ q) → G9 q = G q := fun q hq => (w10 q (by omega)).trans (hF8 q hq)
  refine ci_aload_n (j := 0) dX1_init_19 rfl rfl ?_
  refine ci_iconst (v := 3) dX1_init_20 (by decide) ?_
  refine ci_put h11 cc_c1 3 (by decide) fl_X1_21 rfl rfl rfl rfl (Nat.le_of_ble_eq_true rfl) dX1_init_21 ?_
  refine ci_w (e := .inr (1, [.int 3, .int 2, .int 2, .int 3, .int 0, .int 0, .int 0, .int 0, .int 0, .null, .int 0, .null, .int 0])) (fun G13 w14 h15 => ?_)
  have hF16 : ∀ q : Nat, (q < b ∨ b + 3 ≤ q) → G13 q = G q := fun q hq => (w14 q (by omega)).trans (hF12 q hq)
  refine ci_aload_n (j := 0) dX1_init_24 rfl rfl ?_
  refine ci_iconst (v := 0) dX1_init_25 (by decide) ?_
  refine ci_put h15 cc_c1 4 (by decide) fl_X1_24 rfl rfl rfl rfl (Nat.le_of_ble_eq_true rfl) dX1_init_26 ?_
  refine ci_w (e := .inr (1, [.int 3, .int 2, .int 2, .int 3, .int 0, .int 0, .int 0, .int 0, .int 0, .null, .int 0, .null, .int 0])) (fun G17 w18 h19 => ?_)
  have hF20 : ∀ q : Nat, (q < b ∨ b + 3 ≤ q) → G17 q = G q := fun q hq => (w18 q (by omega)).trans (hF16 q hq)
  refine ci_aload_n (j := 0) dX1_init_29 rfl rfl ?_
  refine ci_iconst (v := 0) dX1_init_30 (by decide) ?_
  refine ci_put h19 cc_c1 5 (by decide) fl_X1_27 rfl rfl rfl rfl (Nat.le_of_ble_eq_true rfl) dX1_init_31 ?_
  refine ci_w (e := .inr (1, [.int 3, .int 2, .int 2, .int 3, .int 0, .int 0, .int 0, .int 0, .int 0, .null, .int 0, .null, .int 0])) (fun G21 w22 h23 => ?_)
  have hF24 : ∀ q : Nat, (q < b ∨ b + 3 ≤ q) → G21 q = G q := fun q hq => (w22 q (by omega)).trans (hF20 q hq)
  refine ci_aload_n (j := 0) dX1_init_34 rfl rfl ?_
  refine ci_iconst (v := 0) dX1_init_35 (by decide) ?_
  refine ci_put h23 cc_c1 6 (by decide) fl_X1_30 rfl rfl rfl rfl (Nat.le_of_ble_eq_true rfl) dX1_init_36 ?_
  refine ci_w (e := .inr (1, [.int 3, .int 2, .int 2, .int 3, .int 0, .int 0, .int 0, .int 0, .int 0, .null, .int 0, .null, .int 0])) (fun G25 w26 h27 => ?_)
  have hF28 : ∀ q : Nat, (q < b ∨ b + 3 ≤ q) → G25 q = G q := fun q hq => (w26 q (by omega)).trans (hF24 q hq)
  refine ci_aload_n (j := 0) dX1_init_39 rfl rfl ?_
  refine ci_iconst (v := 0) dX1_init_40 (by decide) ?_
  refine ci_put h27 cc_c1 7 (by decide) fl_X1_33 rfl rfl rfl rfl (Nat.le_of_ble_eq_true rfl) dX1_init_41 ?_
  refine ci_w (e := .inr (1, [.int 3, .int 2, .int 2, .int 3, .int 0, .int 0, .int 0, .int 0, .int 0, .null, .int 0, .null, .int 0])) (fun G29 w30 h31 => ?_)
  have hF32 : ∀ q : Nat, (q < b ∨ b + 3 ≤ q) → G29 q = G q := fun q hq => (w30 q (by omega)).trans (hF28 q hq)
  refine ci_aload_n (j := 0) dX1_init_44 rfl rfl ?_
  refine ci_iconst (v := 0) dX1_init_45 (by decide) ?_
  refine ci_put h31 cc_c1 8 (by decide) fl_X1_36 rfl rfl rfl rfl (Nat.le_of_ble_eq_true rfl) dX1_init_46 ?_
  refine ci_w (e := .inr (1, [.int 3, .int 2, .int 2, .int 3, .int 0, .int 0, .int 0, .int 0, .int 0, .null, .int 0, .null, .int 0])) (fun G33 w34 h35 => ?_)
  have hF36 : ∀ q : Nat, (q < b ∨ b + 3 ≤ q) → G33 q = G q := fun q hq => (w34 q (by omega)).trans (hF32 q hq)
  refine ci_aload_n (j := 0) dX1_init_49 rfl rfl ?_
  refine ci_bipush (v := 8) dX1_init_50 (by decide) ?_
  refine ci_newa_int (N' := 8) (by decide) rfl (by decide) (by decide) (by decide) dX1_init_52 ?_
  refine ci_w (e := .inl (cy 1, 8, .inl (fun _ => 0))) (fun G37 w38 h39 => ?_)
  have h40 : G37 (b) = some (.inr (1, [.int 3, .int 2, .int 2, .int 3, .int 0, .int 0, .int 0, .int 0, .int 0, .null, .int 0, .null, .int 0])) := (w38 _ (by omega)).trans h35
  have hF41 : ∀ q : Nat, (q < b ∨ b + 3 ≤ q) → G37 q = G q := fun q hq => (w38 q (by omega)).trans (hF36 q hq)
  refine ci_putF h40 cc_c1 9 (by decide) fl_X1_39 rfl rfl rfl rfl rfl (Nat.le_of_ble_eq_true rfl) dX1_init_54 ?_
  refine ci_w (e := .inr (1, [.int 3, .int 2, .int 2, .int 3, .int 0, .int 0, .int 0, .int 0, .int 0, .ref (b + 1), .int 0, .null, .int 0])) (fun G42 w43 h44 => ?_)
  have h45 : G42 (b + 1) = some (.inl (cy 1, 8, .inl (fun _ => 0))) := (w43 _ (by omega)).trans h39
  have hF46 : ∀ q : Nat, (q < b ∨ b + 3 ≤ q) → G42 q = G q := fun q hq => (w43 q (by omega)).trans (hF41 q hq)
  refine ci_aload_n (j := 0) dX1_init_57 rfl rfl ?_
  refine ci_iconst (v := 0) dX1_init_58 (by decide) ?_
  refine ci_put h44 cc_c1 10 (by decide) fl_X1_43 rfl rfl rfl rfl (Nat.le_of_ble_eq_true rfl) dX1_init_59 ?_
  refine ci_w (e := .inr (1, [.int 3, .int 2, .int 2, .int 3, .int 0, .int 0, .int 0, .int 0, .int 0, .ref (b + 1), .int 0, .null, .int 0])) (fun G47 w48 h49 => ?_)
  have h50 : G47 (b + 1) = some (.inl (cy 1, 8, .inl (fun _ => 0))) := (w48 _ (by omega)).trans h45
  have hF51 : ∀ q : Nat, (q < b ∨ b + 3 ≤ q) → G47 q = G q := fun q hq => (w48 q (by omega)).trans (hF46 q hq)
  refine ci_aload_n (j := 0) dX1_init_62 rfl rfl ?_
  refine ci_bipush (v := 6) dX1_init_63 (by decide) ?_
  refine ci_newa_int (N' := 6) (by decide) rfl (by decide) (by decide) (by decide) dX1_init_65 ?_
  refine ci_w (e := .inl (cy 1, 6, .inl (fun _ => 0))) (fun G52 w53 h54 => ?_)
  have h55 : G52 (b + 1) = some (.inl (cy 1, 8, .inl (fun _ => 0))) := (w53 _ (by omega)).trans h50
  have h56 : G52 (b) = some (.inr (1, [.int 3, .int 2, .int 2, .int 3, .int 0, .int 0, .int 0, .int 0, .int 0, .ref (b + 1), .int 0, .null, .int 0])) := (w53 _ (by omega)).trans h49
  have hF57 : ∀ q : Nat, (q < b ∨ b + 3 ≤ q) → G52 q = G q := fun q hq => (w53 q (by omega)).trans (hF51 q hq)
  refine ci_putF h56 cc_c1 11 (by decide) fl_X1_46 rfl rfl rfl rfl rfl (Nat.le_of_ble_eq_true rfl) dX1_init_67 ?_
  refine ci_w (e := .inr (1, [.int 3, .int 2, .int 2, .int 3, .int 0, .int 0, .int 0, .int 0, .int 0, .ref (b + 1), .int 0, .ref (b + 2), .int 0])) (fun G58 w59 h60 => ?_)
  have h61 : G58 (b + 1) = some (.inl (cy 1, 8, .inl (fun _ => 0))) := (w59 _ (by omega)).trans h55
  have h62 : G58 (b + 2) = some (.inl (cy 1, 6, .inl (fun _ => 0))) := (w59 _ (by omega)).trans h54
  have hF63 : ∀ q : Nat, (q < b ∨ b + 3 ≤ q) → G58 q = G q := fun q hq => (w59 q (by omega)).trans (hF57 q hq)
  refine ci_aload_n (j := 0) dX1_init_70 rfl rfl ?_
  refine ci_iconst (v := 0) dX1_init_71 (by decide) ?_
  refine ci_put h60 cc_c1 12 (by decide) fl_X1_49 rfl rfl rfl rfl (Nat.le_of_ble_eq_true rfl) dX1_init_72 ?_
  refine ci_w (e := .inr (1, [.int 3, .int 2, .int 2, .int 3, .int 0, .int 0, .int 0, .int 0, .int 0, .ref (b + 1), .int 0, .ref (b + 2), .int 0])) (fun G64 w65 h66 => ?_)
  have h67 : G64 (b + 1) = some (.inl (cy 1, 8, .inl (fun _ => 0))) := (w65 _ (by omega)).trans h61
  have h68 : G64 (b + 2) = some (.inl (cy 1, 6, .inl (fun _ => 0))) := (w65 _ (by omega)).trans h62
  have hF69 : ∀ q : Nat, (q < b ∨ b + 3 ≤ q) → G64 q = G q := fun q hq => (w65 q (by omega)).trans (hF63 q hq)
  exact ci_vret rfl rfl (by decide) (by decide) dX1_init_75 ⟨_, _, ⟨hF69, h66, h67, h68⟩, ar_.nil, ar_.nil, Nat.zero_le _, Nat.zero_le _⟩

set_option maxHeartbeats 4000000 in
set_option maxRecDepth 100000 in
theorem ct_X2_init (cy : Nat → ClassId) (b : Nat) (G : cc_G) (hb : G b = some (.inr (2, [.null, .null, .null, .int 0, .int 0, .int 0, .int 0]))) : ci_Cn cy Y_X2_init [.ref b] (b + 1) G (b + 4) (fun G' => qu_I cy G G' b 0 Q0_) := by
  refine ci_enter ok_X2_init (Nat.le_of_ble_eq_true rfl) (ls := [(0, .ref b)]) rfl ?_
  refine ci_aload_n (j := 0) dX2_init_0 rfl rfl ?_
  refine ci_obj ml_X2_3 dX2_init_1 (Nat.le_of_ble_eq_true rfl) (Nat.le_of_ble_eq_true rfl) ?_
  refine ci_aload_n (j := 0) dX2_init_4 rfl rfl ?_
  refine ci_bipush (v := 8) dX2_init_5 (by decide) ?_
  refine ci_newa_int (N' := 8) (by decide) rfl (by decide) (by decide) (by decide) dX2_init_7 ?_
  refine ci_w (e := .inl (cy 1, 8, .inl (fun _ => 0))) (fun G1 w2 h3 => ?_)
  have h4 : G1 (b) = some (.inr (2, [.null, .null, .null, .int 0, .int 0, .int 0, .int 0])) := (w2 _ (by omega)).trans hb
  have hF5 : ∀ q : Nat, (q < b ∨ b + 4 ≤ q) → G1 q = G q := fun q hq => (w2 q (by omega)).trans ((fun _ _ => rfl) q hq)
  refine ci_putF h4 cc_c2 0 (by decide) fl_X2_9 rfl rfl rfl rfl rfl (Nat.le_of_ble_eq_true rfl) dX2_init_9 ?_
  refine ci_w (e := .inr (2, [.ref (b + 1), .null, .null, .int 0, .int 0, .int 0, .int 0])) (fun G6 w7 h8 => ?_)
  have h9 : G6 (b + 1) = some (.inl (cy 1, 8, .inl (fun _ => 0))) := (w7 _ (by omega)).trans h3
  have hF10 : ∀ q : Nat, (q < b ∨ b + 4 ≤ q) → G6 q = G q := fun q hq => (w7 q (by omega)).trans (hF5 q hq)
  refine ci_aload_n (j := 0) dX2_init_12 rfl rfl ?_
  refine ci_bipush (v := 8) dX2_init_13 (by decide) ?_
  refine ci_newa_int (N' := 8) (by decide) rfl (by decide) (by decide) (by decide) dX2_init_15 ?_
  refine ci_w (e := .inl (cy 1, 8, .inl (fun _ => 0))) (fun G11 w12 h13 => ?_)
  have h14 : G11 (b + 1) = some (.inl (cy 1, 8, .inl (fun _ => 0))) := (w12 _ (by omega)).trans h9
  have h15 : G11 (b) = some (.inr (2, [.ref (b + 1), .null, .null, .int 0, .int 0, .int 0, .int 0])) := (w12 _ (by omega)).trans h8
  have hF16 : ∀ q : Nat, (q < b ∨ b + 4 ≤ q) → G11 q = G q := fun q hq => (w12 q (by omega)).trans (hF10 q hq)
  refine ci_putF h15 cc_c2 1 (by decide) fl_X2_15 rfl rfl rfl rfl rfl (Nat.le_of_ble_eq_true rfl) dX2_init_17 ?_
  refine ci_w (e := .inr (2, [.ref (b + 1), .ref (b + 2), .null, .int 0, .int 0, .int 0, .int 0])) (fun G17 w18 h19 => ?_)
  have h20 : G17 (b + 1) = some (.inl (cy 1, 8, .inl (fun _ => 0))) := (w18 _ (by omega)).trans h14
  have h21 : G17 (b + 2) = some (.inl (cy 1, 8, .inl (fun _ => 0))) := (w18 _ (by omega)).trans h13
  have hF22 : ∀ q : Nat, (q < b ∨ b + 4 ≤ q) → G17 q = G q := fun q hq => (w18 q (by omega)).trans (hF16 q hq)
  refine ci_aload_n (j := 0) dX2_init_20 rfl rfl ?_
  refine ci_bipush (v := 8) dX2_init_21 (by decide) ?_
  refine ci_newa_int (N' := 8) (by decide) rfl (by decide) (by decide) (by decide) dX2_init_23 ?_
  refine ci_w (e := .inl (cy 1, 8, .inl (fun _ => 0))) (fun G23 w24 h25 => ?_)
  have h26 : G23 (b + 1) = some (.inl (cy 1, 8, .inl (fun _ => 0))) := (w24 _ (by omega)).trans h20
  have h27 : G23 (b + 2) = some (.inl (cy 1, 8, .inl (fun _ => 0))) := (w24 _ (by omega)).trans h21
  have h28 : G23 (b) = some (.inr (2, [.ref (b + 1), .ref (b + 2), .null, .int 0, .int 0, .int 0, .int 0])) := (w24 _ (by omega)).trans h19
  have hF29 : ∀ q : Nat, (q < b ∨ b + 4 ≤ q) → G23 q = G q := fun q hq => (w24 q (by omega)).trans (hF22 q hq)
  refine ci_putF h28 cc_c2 2 (by decide) fl_X2_18 rfl rfl rfl rfl rfl (Nat.le_of_ble_eq_true rfl) dX2_init_25 ?_
  refine ci_w (e := .inr (2, [.ref (b + 1), .ref (b + 2), .ref (b + 3), .int 0, .int 0, .int 0, .int 0])) (fun G30 w31 h32 => ?_)
  have h33 : G30 (b + 1) = some (.inl (cy 1, 8, .inl (fun _ => 0))) := (w31 _ (by omega)).trans h26
  have h34 : G30 (b + 2) = some (.inl (cy 1, 8, .inl (fun _ => 0))) := (w31 _ (by omega)).trans h27
  have h35 : G30 (b + 3) = some (.inl (cy 1, 8, .inl (fun _ => 0))) := (w31 _ (by omega)).trans h25
  have hF36 : ∀ q : Nat, (q < b ∨ b + 4 ≤ q) → G30 q = G q := fun q hq => (w31 q (by omega)).trans (hF29 q hq)
  refine ci_aload_n (j := 0) dX2_init_28 rfl rfl ?_
  refine ci_iconst (v := 0) dX2_init_29 (by decide) ?_
  refine ci_put h32 cc_c2 3 (by decide) fl_X2_21 rfl rfl rfl rfl (Nat.le_of_ble_eq_true rfl) dX2_init_30 ?_
  refine ci_w (e := .inr (2, [.ref (b + 1), .ref (b + 2), .ref (b + 3), .int 0, .int 0, .int 0, .int 0])) (fun G37 w38 h39 => ?_)
  have h40 : G37 (b + 1) = some (.inl (cy 1, 8, .inl (fun _ => 0))) := (w38 _ (by omega)).trans h33
  have h41 : G37 (b + 2) = some (.inl (cy 1, 8, .inl (fun _ => 0))) := (w38 _ (by omega)).trans h34
  have h42 : G37 (b + 3) = some (.inl (cy 1, 8, .inl (fun _ => 0))) := (w38 _ (by omega)).trans h35
  have hF43 : ∀ q : Nat, (q < b ∨ b + 4 ≤ q) → G37 q = G q := fun q hq => (w38 q (by omega)).trans (hF36 q hq)
  refine ci_aload_n (j := 0) dX2_init_33 rfl rfl ?_
  refine ci_iconst (v := 0) dX2_init_34 (by decide) ?_
  refine ci_put h39 cc_c2 4 (by decide) fl_X2_25 rfl rfl rfl rfl (Nat.le_of_ble_eq_true rfl) dX2_init_35 ?_
  refine ci_w (e := .inr (2, [.ref (b + 1), .ref (b + 2), .ref (b + 3), .int 0, .int 0, .int 0, .int 0])) (fun G44 w45 h46 => ?_)
  have h47 : G44 (b + 1) = some (.inl (cy 1, 8, .inl (fun _ => 0))) := (w45 _ (by omega)).trans h40
  have h48 : G44 (b + 2) = some (.inl (cy 1, 8, .inl (fun _ => 0))) := (w45 _ (by omega)).trans h41
  have h49 : G44 (b + 3) = some (.inl (cy 1, 8, .inl (fun _ => 0))) := (w45 _ (by omega)).trans h42
  have hF50 : ∀ q : Nat, (q < b ∨ b + 4 ≤ q) → G44 q = G q := fun q hq => (w45 q (by omega)).trans (hF43 q hq)
  refine ci_aload_n (j := 0) dX2_init_38 rfl rfl ?_
  refine ci_iconst (v := 0) dX2_init_39 (by decide) ?_
  refine ci_put h46 cc_c2 5 (by decide) fl_X2_28 rfl rfl rfl rfl (Nat.le_of_ble_eq_true rfl) dX2_init_40 ?_
  refine ci_w (e := .inr (2, [.ref (b + 1), .ref (b + 2), .ref (b + 3), .int 0, .int 0, .int 0, .int 0])) (fun G51 w52 h53 => ?_)
  have h54 : G51 (b + 1) = some (.inl (cy 1, 8, .inl (fun _ => 0))) := (w52 _ (by omega)).trans h47
  have h55 : G51 (b + 2) = some (.inl (cy 1, 8, .inl (fun _ => 0))) := (w52 _ (by omega)).trans h48
  have h56 : G51 (b + 3) = some (.inl (cy 1, 8, .inl (fun _ => 0))) := (w52 _ (by omega)).trans h49
  have hF57 : ∀ q : Nat, (q < b ∨ b + 4 ≤ q) → G51 q = G q := fun q hq => (w52 q (by omega)).trans (hF50 q hq)
  refine ci_aload_n (j := 0) dX2_init_43 rfl rfl ?_
  refine ci_iconst (v := 0) dX2_init_44 (by decide) ?_
  refine ci_put h53 cc_c2 6 (by decide) fl_X2_31 rfl rfl rfl rfl (Nat.le_of_ble_eq_true rfl) dX2_init_45 ?_
  refine ci_w (e := .inr (2, [.ref (b + 1), .ref (b + 2), .ref (b + 3), .int 0, .int 0, .int 0, .int 0])) (fun G58 w59 h60 => ?_)
  have h61 : G58 (b + 1) = some (.inl (cy 1, 8, .inl (fun _ => 0))) := (w59 _ (by omega)).trans h54
  have h62 : G58 (b + 2) = some (.inl (cy 1, 8, .inl (fun _ => 0))) := (w59 _ (by omega)).trans h55
  have h63 : G58 (b + 3) = some (.inl (cy 1, 8, .inl (fun _ => 0))) := (w59 _ (by omega)).trans h56
  have hF64 : ∀ q : Nat, (q < b ∨ b + 4 ≤ q) → G58 q = G q := fun q hq => (w59 q (by omega)).trans (hF57 q hq)
  exact ci_vret rfl rfl (by decide) (by decide) dX2_init_48 ⟨_, _, _, ⟨hF64, h60, h61, h62, h63⟩, ⟨ar_.nil, ar_.nil, ar_.nil⟩, Nat.zero_le _⟩
