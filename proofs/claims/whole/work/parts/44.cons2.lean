theorem ci_zz {cy : Nat → ClassId} {Y : cc_Y} {z0 z z' pc n1 n2 m1 m2 zE : Nat} {ls : List (Nat × Value)} {st : List Value} {G : cc_G} {Q : cc_G → Prop} (e : z = z') (e1 : n1 = m1) (e2 : n2 = m2) (k : ci_R cy Y z0 z' pc ls st G m1 m2 zE Q) : ci_R cy Y z0 z pc ls st G n1 n2 zE Q := by
  subst e
  subst e1
  subst e2
  exact k
theorem ci_loc {cy : Nat → ClassId} {Y : cc_Y} {z0 z pc n1 n2 zE : Nat} {ls ls' : List (Nat × Value)} {st : List Value} {G : cc_G} {Q : cc_G → Prop} (ps : List Nat) (hp : lv_pick ls ps = ls') (k : ci_R cy Y z0 z pc ls' st G n1 n2 zE Q) : ci_R cy Y z0 z pc ls st G n1 n2 zE Q := by
  intro p l e s m args below meth c D A H locs la C N hM hS hl
  exact k C N hM hS (lv_sub hl ps hp)
def ci_ar (n : Nat) (f : Nat → Nat) : Nat → Option Nat := fun j => if j < n then some (f j) else none
theorem ci_ar_s {n : Nat} {f : Nat → Nat} : va_up (ci_ar n f) n (some (f n)) = ci_ar (n + 1) f := by
  funext j
  by_cases hq : j = n
  · subst hq
    rw [va_up_self]
    exact (if_pos (Nat.lt_succ_self j)).symm
  · rw [va_up_ne _ _ hq]
    unfold ci_ar
    by_cases hl : j < n
    · rw [if_pos hl, if_pos (by omega)]
    · rw [if_neg hl, if_neg (by omega)]
theorem ci_ext {cy : Nat → ClassId} {Y : cc_Y} {z0 z pc n1 n2 zE : Nat} {ls : List (Nat × Value)} {st : List Value} {G : cc_G} {Q : cc_G → Prop} {x n : Nat} {cA : ClassId} {f f' : Nat → Option Nat} (hx : G x = some (.inl (cA, n, .inr (.inr (.inr (.inr f)))))) (hf : ∀ j : Nat, j < n → f j = f' j) (k : ci_R cy Y z0 z pc ls st (va_up G x (some (.inl (cA, n, .inr (.inr (.inr (.inr f'))))))) n1 n2 zE Q) : ci_R cy Y z0 z pc ls st G n1 n2 zE Q := by
  intro p l e s m args below meth c D A H locs la C N hM hS hl
  refine k C N ⟨hM.1, fun a e ha => ?_⟩ hS hl
  by_cases hq : a = x
  · subst hq
    rw [va_up_self] at ha
    cases ha
    obtain ⟨h1, h2⟩ := hM.2 a _ hx
    refine ⟨?_, h2⟩
    have h1 : H[a]? = some (vp_cell cA (n, .inr (.inr (.inr (.inr f))))) := h1
    show H[a]? = some (vp_cell cA (n, .inr (.inr (.inr (.inr f')))))
    rw [h1, vp_cell_q, vp_cell_q]
    unfold arrV
    congr 2
    refine congrArg Array.ofFn (funext fun j => ?_)
    show va_rf (f j.val) = va_rf (f' j.val)
    rw [hf j.val j.isLt]
  · rw [va_up_ne _ _ hq] at ha
    exact hM.2 a e ha
theorem ci_ar_0 {f : Nat → Nat} : (fun _ => none : Nat → Option Nat) = ci_ar 0 f := by
  funext j
  exact (if_neg (Nat.not_lt_zero j)).symm

set_option maxHeartbeats 4000000 in
set_option maxRecDepth 100000 in
theorem ct_X0_init (cy : Nat → ClassId) (b : Nat) (G : cc_G) (hb : G b = some (.inr (0, [.int 0, .int 0, .int 0, .int 0, .null, .null]))) : ci_Cn cy Y_X0_init [.ref b] (b + 1) G (b + 31) (fun G' => bx_I cy G G' b (fun _ => 0) B0_) := by
  have loop : ∀ (n i : Nat) (G1 : cc_G), 4 < i + n → i ≤ 4 → (∀ q : Nat, (q < b ∨ b + 31 ≤ q) → G1 q = G q) → (G1 b = some (.inr (0, [.int 0, .int 0, .int 0, .int 0, .ref (b + 1), .ref (b + 2)]))) → (G1 (b + 1) = some (.inl (cy 4, 4, .inr (.inr (.inr (.inr (ci_ar i (fun j => b + 3 + 7 * j)))))))) → (G1 (b + 2) = some (.inl (cy 5, 4, .inr (.inr (.inr (.inr (ci_ar i (fun j => b + 6 + 7 * j)))))))) → (∀ j : Nat, j < i → ln_I cy G1 G1 (b + 3 + 7 * j) L0_) → (∀ j : Nat, j < i → qu_I cy G1 G1 (b + 6 + 7 * j) 0 Q0_) → ci_R cy Y_X0_init (b + 1) (b + 3 + 7 * i) 42 [(1, .int (nI i)), (0, .ref b)] [] G1 (2 + 7 * i) (8 + 58 * i) (b + 31) (fun G' => bx_I cy G G' b (fun _ => 0) B0_) := by
      intro n
      induction n with
      | zero => intro i G1 h1 h2; exact absurd h1 (by omega)
      | succ n ih =>
        intro i G1 hn hi hF hb hl hq hL hQ
        refine ci_iload_n (j := 0) dX0_init_42 rfl rfl ?_
        refine ci_iconst (v := 4) dX0_init_43 (by decide) ?_
        refine ci_icmp_ge (tgt := 79) dX0_init_44 (by decide) (fun c_44 => ?_) (fun c_44 => ?_)
        · have hge : i = 4 := by have := cc_ngt 4 c_44 (by omega) (by decide); omega
          subst hge
          refine ci_ext (f' := bx_l b) hl (fun j hj => if_pos hj) ?_
          refine ci_w (e := .inl (cy 4, 4, .inr (.inr (.inr (.inr (bx_l b)))))) (fun Gx wx hlx => ?_)
          have hqx : Gx (b + 2) = _ := (wx _ (by omega)).trans hq
          refine ci_ext (f' := bx_q b) hqx (fun j hj => if_pos hj) ?_
          refine ci_w (e := .inl (cy 5, 4, .inr (.inr (.inr (.inr (bx_q b)))))) (fun Gy wy hqy => ?_)
          refine ci_vret rfl (by omega) (by show _ ≤ 30; omega) (by show _ ≤ 240; omega) dX0_init_79 ⟨fun q h => (wy q (by omega)).trans ((wx q (by omega)).trans (hF q h)), (wy _ (by omega)).trans ((wx _ (by omega)).trans hb), (wy _ (by omega)).trans hlx, hqy, fun j hj => ((hL j hj).keep (fun q h1 h2 => wx q (by omega))).keep (fun q h1 h2 => wy q (by omega)), fun j hj => ((hQ j hj).keep (fun q h1 h2 => wx q (by omega))).keep (fun q h1 h2 => wy q (by omega))⟩
        have hlt : i < 4 := cc_nlt 4 c_44 (by omega)
        refine ci_aload_n (j := 1) dX0_init_47 rfl rfl ?_
        refine ci_get (v := .ref (b + 1)) hb cc_c0 4 (by decide) fl_X0_26 rfl dX0_init_48 ?_
        refine ci_iload_n (j := 0) dX0_init_51 rfl rfl ?_
        refine ci_new (fs := [.int 0, .int 0, .int 0, .int 0, .int 0, .int 0, .int 0, .int 0, .int 0, .null, .int 0, .null, .int 0]) cc_c1 cl_X0_24 ib_X1 in_X1 bl_X1 (by show _ ≤ 30; omega) (by show _ ≤ 240; omega) dX0_init_52 ?_
        refine ci_w (e := .inr (1, [.int 0, .int 0, .int 0, .int 0, .int 0, .int 0, .int 0, .int 0, .int 0, .null, .int 0, .null, .int 0])) (fun Ga1 wa1 ha1 => ?_)
        have hF_1 : ∀ q : Nat, (q < b ∨ b + 31 ≤ q) → Ga1 q = G q := fun q hq => (wa1 q (by omega)).trans (hF q hq)
        have hb_1 : Ga1 b = some (.inr (0, [.int 0, .int 0, .int 0, .int 0, .ref (b + 1), .ref (b + 2)])) := (wa1 _ (by omega)).trans hb
        have hl_1 : Ga1 (b + 1) = some (.inl (cy 4, 4, .inr (.inr (.inr (.inr (ci_ar i (fun j => b + 3 + 7 * j))))))) := (wa1 _ (by omega)).trans hl
        have hq_1 : Ga1 (b + 2) = some (.inl (cy 5, 4, .inr (.inr (.inr (.inr (ci_ar i (fun j => b + 6 + 7 * j))))))) := (wa1 _ (by omega)).trans hq
        have hL_1 : ∀ j : Nat, j < i → ln_I cy Ga1 Ga1 (b + 3 + 7 * j) L0_ := fun j hj => (hL j hj).keep (fun q h1 h2 => wa1 q (by omega))
        have hQ_1 : ∀ j : Nat, j < i → qu_I cy Ga1 Ga1 (b + 6 + 7 * j) 0 Q0_ := fun j hj => (hQ j hj).keep (fun q h1 h2 => wa1 q (by omega))
        refine ci_dup dX0_init_55 rfl ?_
        refine ci_callIN (ct_X1_init cy (b + 3 + 7 * i) Ga1 ha1) ok_X1_init im_X1_init mn_X0_36 nd_X1_init (by decide +kernel) ⟨(show 2 + 7 * i + 1 + 2 ≤ 30 by omega), (show 8 + 58 * i + 13 + 14 ≤ 240 by omega)⟩ (Nat.le_of_ble_eq_true rfl) dX0_init_56 (fun Ga2 pa2 => ?_)
        have wa2 := pa2.fr
        refine ci_zz (m1 := 2 + 7 * i + 3) (m2 := 8 + 58 * i + 27) rfl (show 2 + 7 * i + 1 + 2 = 2 + 7 * i + 3 by omega) (show 8 + 58 * i + 13 + 14 = 8 + 58 * i + 27 by omega) ?_
        have hF_2 : ∀ q : Nat, (q < b ∨ b + 31 ≤ q) → Ga2 q = G q := fun q hq => (wa2 q (by omega)).trans (hF_1 q hq)
        have hb_2 : Ga2 b = some (.inr (0, [.int 0, .int 0, .int 0, .int 0, .ref (b + 1), .ref (b + 2)])) := (wa2 _ (by omega)).trans hb_1
        have hl_2 : Ga2 (b + 1) = some (.inl (cy 4, 4, .inr (.inr (.inr (.inr (ci_ar i (fun j => b + 3 + 7 * j))))))) := (wa2 _ (by omega)).trans hl_1
        have hq_2 : Ga2 (b + 2) = some (.inl (cy 5, 4, .inr (.inr (.inr (.inr (ci_ar i (fun j => b + 6 + 7 * j))))))) := (wa2 _ (by omega)).trans hq_1
        have hL_2 : ∀ j : Nat, j < i → ln_I cy Ga2 Ga2 (b + 3 + 7 * j) L0_ := fun j hj => (hL_1 j hj).keep (fun q h1 h2 => wa2 q (by omega))
        have hQ_2 : ∀ j : Nat, j < i → qu_I cy Ga2 Ga2 (b + 6 + 7 * j) 0 Q0_ := fun j hj => (hQ_1 j hj).keep (fun q h1 h2 => wa2 q (by omega))
        have pa2' := pa2
        obtain ⟨_, _, hLo, -⟩ := pa2
        refine ci_aast4 (j := i) hl_2 hLo.2.1 (vp_in_nI (by omega) (by decide)) (nI_clamp (by omega)) dX0_init_59 ?_
        rw [show va_up (ci_ar i (fun j => b + 3 + 7 * j)) i (some (b + 3 + 7 * i)) = ci_ar (i + 1) (fun j => b + 3 + 7 * j) from ci_ar_s (f := fun j => b + 3 + 7 * j)]
        have hLn : ∀ j : Nat, j < i + 1 → ln_I cy Ga2 Ga2 (b + 3 + 7 * j) L0_ := fun j hj => by
          rcases Nat.lt_or_ge j i with q | q
          · exact hL_2 j q
          · have ej : j = i := by omega
            subst ej
            exact ln_I.self pa2'
        refine ci_w (e := .inl (cy 4, 4, .inr (.inr (.inr (.inr (ci_ar (i + 1) (fun j => b + 3 + 7 * j))))))) (fun Ga3 wa3 hl_n => ?_)
        have hF_3 : ∀ q : Nat, (q < b ∨ b + 31 ≤ q) → Ga3 q = G q := fun q hq => (wa3 q (by omega)).trans (hF_2 q hq)
        have hb_3 : Ga3 b = some (.inr (0, [.int 0, .int 0, .int 0, .int 0, .ref (b + 1), .ref (b + 2)])) := (wa3 _ (by omega)).trans hb_2
        have hq_3 : Ga3 (b + 2) = some (.inl (cy 5, 4, .inr (.inr (.inr (.inr (ci_ar i (fun j => b + 6 + 7 * j))))))) := (wa3 _ (by omega)).trans hq_2
        have hL_3 : ∀ j : Nat, j < i + 1 → ln_I cy Ga3 Ga3 (b + 3 + 7 * j) L0_ := fun j hj => (hLn j hj).keep (fun q h1 h2 => wa3 q (by omega))
        have hQ_3 : ∀ j : Nat, j < i → qu_I cy Ga3 Ga3 (b + 6 + 7 * j) 0 Q0_ := fun j hj => (hQ_2 j hj).keep (fun q h1 h2 => wa3 q (by omega))
        refine ci_zz (z' := b + 6 + 7 * i) (by omega) rfl rfl ?_
        refine ci_aload_n (j := 1) dX0_init_60 rfl rfl ?_
        refine ci_get (v := .ref (b + 2)) hb_3 cc_c0 5 (by decide) fl_X0_32 rfl dX0_init_61 ?_
        refine ci_iload_n (j := 0) dX0_init_64 rfl rfl ?_
        refine ci_new (fs := [.null, .null, .null, .int 0, .int 0, .int 0, .int 0]) cc_c2 cl_X0_30 ib_X2 in_X2 bl_X2 (by show _ ≤ 30; omega) (by show _ ≤ 240; omega) dX0_init_65 ?_
        refine ci_w (e := .inr (2, [.null, .null, .null, .int 0, .int 0, .int 0, .int 0])) (fun Gd1 wd1 hd1 => ?_)
        have hF_4 : ∀ q : Nat, (q < b ∨ b + 31 ≤ q) → Gd1 q = G q := fun q hq => (wd1 q (by omega)).trans (hF_3 q hq)
        have hb_4 : Gd1 b = some (.inr (0, [.int 0, .int 0, .int 0, .int 0, .ref (b + 1), .ref (b + 2)])) := (wd1 _ (by omega)).trans hb_3
        have hl_4 : Gd1 (b + 1) = some (.inl (cy 4, 4, .inr (.inr (.inr (.inr (ci_ar (i + 1) (fun j => b + 3 + 7 * j))))))) := (wd1 _ (by omega)).trans hl_n
        have hq_4 : Gd1 (b + 2) = some (.inl (cy 5, 4, .inr (.inr (.inr (.inr (ci_ar i (fun j => b + 6 + 7 * j))))))) := (wd1 _ (by omega)).trans hq_3
        have hL_4 : ∀ j : Nat, j < i + 1 → ln_I cy Gd1 Gd1 (b + 3 + 7 * j) L0_ := fun j hj => (hL_3 j hj).keep (fun q h1 h2 => wd1 q (by omega))
        have hQ_4 : ∀ j : Nat, j < i → qu_I cy Gd1 Gd1 (b + 6 + 7 * j) 0 Q0_ := fun j hj => (hQ_3 j hj).keep (fun q h1 h2 => wd1 q (by omega))
        refine ci_dup dX0_init_68 rfl ?_
        refine ci_callIN (ct_X2_init cy (b + 6 + 7 * i) Gd1 hd1) ok_X2_init im_X2_init mn_X0_37 nd_X2_init (by decide +kernel) ⟨(show 2 + 7 * i + 3 + 1 + 3 ≤ 30 by omega), (show 8 + 58 * i + 27 + 7 + 24 ≤ 240 by omega)⟩ (Nat.le_of_ble_eq_true rfl) dX0_init_69 (fun Gd2 pd2 => ?_)
        have wd2 := pd2.fr
        refine ci_zz (m1 := 2 + 7 * i + 7) (m2 := 8 + 58 * i + 58) rfl (show 2 + 7 * i + 3 + 1 + 3 = 2 + 7 * i + 7 by omega) (show 8 + 58 * i + 27 + 7 + 24 = 8 + 58 * i + 58 by omega) ?_
        have hF_5 : ∀ q : Nat, (q < b ∨ b + 31 ≤ q) → Gd2 q = G q := fun q hq => (wd2 q (by omega)).trans (hF_4 q hq)
        have hb_5 : Gd2 b = some (.inr (0, [.int 0, .int 0, .int 0, .int 0, .ref (b + 1), .ref (b + 2)])) := (wd2 _ (by omega)).trans hb_4
        have hl_5 : Gd2 (b + 1) = some (.inl (cy 4, 4, .inr (.inr (.inr (.inr (ci_ar (i + 1) (fun j => b + 3 + 7 * j))))))) := (wd2 _ (by omega)).trans hl_4
        have hq_5 : Gd2 (b + 2) = some (.inl (cy 5, 4, .inr (.inr (.inr (.inr (ci_ar i (fun j => b + 6 + 7 * j))))))) := (wd2 _ (by omega)).trans hq_4
        have hL_5 : ∀ j : Nat, j < i + 1 → ln_I cy Gd2 Gd2 (b + 3 + 7 * j) L0_ := fun j hj => (hL_4 j hj).keep (fun q h1 h2 => wd2 q (by omega))
        have hQ_5 : ∀ j : Nat, j < i → qu_I cy Gd2 Gd2 (b + 6 + 7 * j) 0 Q0_ := fun j hj => (hQ_4 j hj).keep (fun q h1 h2 => wd2 q (by omega))
        have pd2' := pd2
        obtain ⟨_, _, _, hQo, -⟩ := pd2
        refine ci_aast5 (j := i) hq_5 hQo.2.1 (vp_in_nI (by omega) (by decide)) (nI_clamp (by omega)) dX0_init_72 ?_
        rw [show va_up (ci_ar i (fun j => b + 6 + 7 * j)) i (some (b + 6 + 7 * i)) = ci_ar (i + 1) (fun j => b + 6 + 7 * j) from ci_ar_s (f := fun j => b + 6 + 7 * j)]
        have hQn : ∀ j : Nat, j < i + 1 → qu_I cy Gd2 Gd2 (b + 6 + 7 * j) 0 Q0_ := fun j hj => by
          rcases Nat.lt_or_ge j i with q | q
          · exact hQ_5 j q
          · have ej : j = i := by omega
            subst ej
            exact qu_I.self pd2'
        refine ci_w (e := .inl (cy 5, 4, .inr (.inr (.inr (.inr (ci_ar (i + 1) (fun j => b + 6 + 7 * j))))))) (fun Gd3 wd3 hq_n => ?_)
        have hF_6 : ∀ q : Nat, (q < b ∨ b + 31 ≤ q) → Gd3 q = G q := fun q hq => (wd3 q (by omega)).trans (hF_5 q hq)
        have hb_6 : Gd3 b = some (.inr (0, [.int 0, .int 0, .int 0, .int 0, .ref (b + 1), .ref (b + 2)])) := (wd3 _ (by omega)).trans hb_5
        have hl_6 : Gd3 (b + 1) = some (.inl (cy 4, 4, .inr (.inr (.inr (.inr (ci_ar (i + 1) (fun j => b + 3 + 7 * j))))))) := (wd3 _ (by omega)).trans hl_5
        have hL_6 : ∀ j : Nat, j < i + 1 → ln_I cy Gd3 Gd3 (b + 3 + 7 * j) L0_ := fun j hj => (hL_5 j hj).keep (fun q h1 h2 => wd3 q (by omega))
        have hQ_6 : ∀ j : Nat, j < i + 1 → qu_I cy Gd3 Gd3 (b + 6 + 7 * j) 0 Q0_ := fun j hj => (hQn j hj).keep (fun q h1 h2 => wd3 q (by omega))
        refine ci_iinc (j := 0) (v := nI (i + 1)) (ls' := [(1, .int (nI (i + 1))), (0, .ref b)]) dX0_init_73 rfl (nI_1 i) (Nat.le_of_ble_eq_true rfl) rfl ?_
        refine ci_goto (tgt := 42) dX0_init_76 (by decide) ?_
        refine ci_zz (z' := b + 3 + 7 * (i + 1)) (m1 := 2 + 7 * (i + 1)) (m2 := 8 + 58 * (i + 1)) (by omega) (by omega) (by omega) ?_
        exact ih (i + 1) Gd3 (by omega) (by omega) hF_6 hb_6 hl_6 hq_n hL_6 hQ_6
  refine ci_enter ok_X0_init (Nat.le_of_ble_eq_true rfl) (ls := [(0, .ref b)]) rfl ?_
  refine ci_aload_n (j := 0) dX0_init_0 rfl rfl ?_
  refine ci_obj ml_X0_3 dX0_init_1 (Nat.le_of_ble_eq_true rfl) (Nat.le_of_ble_eq_true rfl) ?_
  refine ci_aload_n (j := 0) dX0_init_4 rfl rfl ?_
  refine ci_iconst (v := 0) dX0_init_5 (by decide) ?_
  refine ci_put hb cc_c0 0 (by decide) fl_X0_9 rfl rfl rfl rfl (Nat.le_of_ble_eq_true rfl) dX0_init_6 ?_
  refine ci_w (e := .inr (0, [.int 0, .int 0, .int 0, .int 0, .null, .null])) (fun G1 w2 h3 => ?_)
  have hF4 : ∀ q : Nat, (q < b ∨ b + 31 ≤ q) → G1 q = G q := fun q hq => (w2 q (by omega)).trans ((fun _ _ => rfl) q hq)
  refine ci_aload_n (j := 0) dX0_init_9 rfl rfl ?_
  refine ci_iconst (v := 0) dX0_init_10 (by decide) ?_
  refine ci_put h3 cc_c0 1 (by decide) fl_X0_15 rfl rfl rfl rfl (Nat.le_of_ble_eq_true rfl) dX0_init_11 ?_
  refine ci_w (e := .inr (0, [.int 0, .int 0, .int 0, .int 0, .null, .null])) (fun G5 w6 h7 => ?_)
  have hF8 : ∀ q : Nat, (q < b ∨ b + 31 ≤ q) → G5 q = G q := fun q hq => (w6 q (by omega)).trans (hF4 q hq)
  refine ci_aload_n (j := 0) dX0_init_14 rfl rfl ?_
  refine ci_iconst (v := 0) dX0_init_15 (by decide) ?_
  refine ci_put h7 cc_c0 2 (by decide) fl_X0_18 rfl rfl rfl rfl (Nat.le_of_ble_eq_true rfl) dX0_init_16 ?_
  refine ci_w (e := .inr (0, [.int 0, .int 0, .int 0, .int 0, .null, .null])) (fun G9 w10 h11 => ?_)
  have hF12 : ∀ q : Nat, (q < b ∨ b + 31 ≤ q) → G9 q = G q := fun q hq => (w10 q (by omega)).trans (hF8 q hq)
  refine ci_aload_n (j := 0) dX0_init_19 rfl rfl ?_
  refine ci_iconst (v := 0) dX0_init_20 (by decide) ?_
  refine ci_put h11 cc_c0 3 (by decide) fl_X0_21 rfl rfl rfl rfl (Nat.le_of_ble_eq_true rfl) dX0_init_21 ?_
  refine ci_w (e := .inr (0, [.int 0, .int 0, .int 0, .int 0, .null, .null])) (fun G13 w14 h15 => ?_)
  have hF16 : ∀ q : Nat, (q < b ∨ b + 31 ≤ q) → G13 q = G q := fun q hq => (w14 q (by omega)).trans (hF12 q hq)
  refine ci_aload_n (j := 0) dX0_init_24 rfl rfl ?_
  refine ci_iconst (v := 4) dX0_init_25 (by decide) ?_
  refine ci_anew_RX1 (N' := 4) cl_X0_24 (by decide) rfl (by decide) (by decide) (by decide) dX0_init_26 ?_
  refine ci_w (e := .inl (cy 4, 4, .inr (.inr (.inr (.inr (fun _ => none)))))) (fun G17 w18 h19 => ?_)
  have h20 : G17 (b) = some (.inr (0, [.int 0, .int 0, .int 0, .int 0, .null, .null])) := (w18 _ (by omega)).trans h15
  have hF21 : ∀ q : Nat, (q < b ∨ b + 31 ≤ q) → G17 q = G q := fun q hq => (w18 q (by omega)).trans (hF16 q hq)
  refine ci_putF h20 cc_c0 4 (by decide) fl_X0_26 rfl rfl rfl rfl rfl (Nat.le_of_ble_eq_true rfl) dX0_init_29 ?_
  refine ci_w (e := .inr (0, [.int 0, .int 0, .int 0, .int 0, .ref (b + 1), .null])) (fun G22 w23 h24 => ?_)
  have h25 : G22 (b + 1) = some (.inl (cy 4, 4, .inr (.inr (.inr (.inr (fun _ => none)))))) := (w23 _ (by omega)).trans h19
  have hF26 : ∀ q : Nat, (q < b ∨ b + 31 ≤ q) → G22 q = G q := fun q hq => (w23 q (by omega)).trans (hF21 q hq)
  refine ci_aload_n (j := 0) dX0_init_32 rfl rfl ?_
  refine ci_iconst (v := 4) dX0_init_33 (by decide) ?_
  refine ci_anew_RX2 (N' := 4) cl_X0_30 (by decide) rfl (by decide) (by decide) (by decide) dX0_init_34 ?_
  refine ci_w (e := .inl (cy 5, 4, .inr (.inr (.inr (.inr (fun _ => none)))))) (fun G27 w28 h29 => ?_)
  have h30 : G27 (b + 1) = some (.inl (cy 4, 4, .inr (.inr (.inr (.inr (fun _ => none)))))) := (w28 _ (by omega)).trans h25
  have h31 : G27 (b) = some (.inr (0, [.int 0, .int 0, .int 0, .int 0, .ref (b + 1), .null])) := (w28 _ (by omega)).trans h24
  have hF32 : ∀ q : Nat, (q < b ∨ b + 31 ≤ q) → G27 q = G q := fun q hq => (w28 q (by omega)).trans (hF26 q hq)
  refine ci_putF h31 cc_c0 5 (by decide) fl_X0_32 rfl rfl rfl rfl rfl (Nat.le_of_ble_eq_true rfl) dX0_init_37 ?_
  refine ci_w (e := .inr (0, [.int 0, .int 0, .int 0, .int 0, .ref (b + 1), .ref (b + 2)])) (fun G33 w34 h35 => ?_)
  have h36 : G33 (b + 1) = some (.inl (cy 4, 4, .inr (.inr (.inr (.inr (fun _ => none)))))) := (w34 _ (by omega)).trans h30
  have h37 : G33 (b + 2) = some (.inl (cy 5, 4, .inr (.inr (.inr (.inr (fun _ => none)))))) := (w34 _ (by omega)).trans h29
  have hF38 : ∀ q : Nat, (q < b ∨ b + 31 ≤ q) → G33 q = G q := fun q hq => (w34 q (by omega)).trans (hF32 q hq)
  refine ci_iconst (v := 0) dX0_init_40 (by decide) ?_
  refine ci_istore_n (ls' := [(1, .int 0), (0, .ref b)]) dX0_init_41 rfl (Nat.le_of_ble_eq_true rfl) rfl ?_
  rw [show (fun _ => none : Nat → Option Nat) = ci_ar 0 (fun j => b + 3 + 7 * j) from ci_ar_0] at h36
  rw [show (fun _ => none : Nat → Option Nat) = ci_ar 0 (fun j => b + 6 + 7 * j) from ci_ar_0] at h37
  exact loop 5 0 _ (by omega) (by omega) hF38 h35 h36 h37 (fun j hj => absurd hj (by omega)) (fun j hj => absurd hj (by omega))
