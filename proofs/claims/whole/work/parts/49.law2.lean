theorem lw_zz {cy : Nat → ClassId} {b L : Nat} {xs : Nat → Int32} {z0 z z' pc n1 n2 m1 m2 : Nat} {ls : List (Nat × Value)} {st : List Value} {G : cc_G} (e : z = z') (e1 : n1 = m1) (e2 : n2 = m2) (k : lw_R cy b L xs z0 z' pc ls st G m1 m2) : lw_R cy b L xs z0 z pc ls st G n1 n2 := by
  subst e
  subst e1
  subst e2
  exact k

set_option maxHeartbeats 4000000 in
set_option maxRecDepth 100000 in
theorem lw_loop (cy : Nat → ClassId) (b L : Nat) (xs : Nat → Int32) (z0 : Nat) (hL : L ≤ 2048) : ∀ (f k : Nat) (c : CS_) (G : cc_G), L < 4 * k + f → 4 * k ≤ L + 3 → ca_I cy G G z0 c → ma_I cy G G (z0 + 220) c → C_ok (160 * k) c → lw_R cy b L xs z0 (z0 + 228) 18 [(3, .int (nI (4 * k))), (2, .ref (z0 + 220)), (1, .ref z0), (0, .ref b)] [] G 228 3497 := by
  intro f
  induction f with
  | zero =>
    intro k c G h1 h2 hI hJ hok
    refine lw_iload_n (j := 0) dL_law_18 rfl rfl ?_
    refine lw_aload_n (j := 3) dL_law_19 rfl rfl ?_
    refine lw_slen dL_law_20 ?_
    refine lw_iconst (v := 4) dL_law_21 (by decide) ?_
    refine lw_isub dL_law_22 ?_
    refine lw_icmp_gt (tgt := 720) dL_law_23 (by decide) (fun c_23 => ?_) (fun c_23 => ?_)
    · refine lw_iconst (v := 1) dL_law_720 (by decide) ?_
      exact lw_end (by omega) (by omega) dL_law_721
    · have h4 : 4 * k + 4 ≤ L := lw_len hL (by omega) c_23
      exact absurd h4 (by omega)
  | succ f ih =>
    intro k c G h1 h2 hI hJ hok
    have hM : 160 * k < 2 ^ 20 := by omega
    have nxt : ∀ (c' : CS_) (G' : cc_G), 4 * k + 4 ≤ L → ca_I cy G' G' z0 c' → ma_I cy G' G' (z0 + 220) c' → C_ok (160 * (k + 1)) c' → lw_R cy b L xs z0 (z0 + 228) 714 [(3, .int (nI (4 * k))), (2, .ref (z0 + 220)), (1, .ref z0), (0, .ref b)] [] G' 228 3497 := by
      intro c' G' h9 hI' hJ' hok'
      refine lw_iinc (j := 0) (v := nI (4 * (k + 1))) (ls' := [(3, .int (nI (4 * (k + 1)))), (2, .ref (z0 + 220)), (1, .ref z0), (0, .ref b)]) dL_law_714 rfl (nI_add (4 * k) 4) (Nat.le_of_ble_eq_true rfl) rfl ?_
      refine lw_goto (tgt := 18) dL_law_717 (by decide) ?_
      exact ih (k + 1) c' G' (by omega) (by omega) hI' hJ' hok'

    refine lw_iload_n (j := 0) dL_law_18 rfl rfl ?_
    refine lw_aload_n (j := 3) dL_law_19 rfl rfl ?_
    refine lw_slen dL_law_20 ?_
    refine lw_iconst (v := 4) dL_law_21 (by decide) ?_
    refine lw_isub dL_law_22 ?_
    refine lw_icmp_gt (tgt := 720) dL_law_23 (by decide) (fun c_23 => ?_) (fun c_23 => ?_)
    · refine lw_iconst (v := 1) dL_law_720 (by decide) ?_
      exact lw_end (by omega) (by omega) dL_law_721
    have h4 : 4 * k + 4 ≤ L := lw_len hL (by omega) c_23
    refine lw_aload_n (j := 3) dL_law_26 rfl rfl ?_
    refine lw_iload_n (j := 0) dL_law_27 rfl rfl ?_
    refine lw_sld (j := 4 * k) (by omega) hL dL_law_28 ?_
    refine lw_bipush (v := 31) dL_law_29 (by decide) ?_
    refine lw_iand dL_law_31 ?_
    generalize xs (4 * k) &&& 31 = op
    rcases cc_sw21 op with rfl | rfl | rfl | rfl | rfl | rfl | rfl | rfl | rfl | rfl | rfl | rfl | rfl | rfl | rfl | rfl | rfl | rfl | rfl | rfl | rfl | rfl | c_op
    · refine lw_tableIn (off := 104) (tgt := 136) dL_law_32 (by decide) (by decide) rfl (by decide) ?_
      refine lw_aload_n (j := 2) dL_law_136 rfl rfl ?_
      refine lw_aload_n (j := 3) dL_law_137 rfl rfl ?_
      refine lw_iload_n (j := 0) dL_law_138 rfl rfl ?_
      refine lw_iconst (v := 1) dL_law_139 (by decide) ?_
      refine lw_iadd dL_law_140 ?_
      rw [show nI (4 * k) + 1 = nI (4 * k + 1) from nI_add (4 * k) 1]
      refine lw_sld (j := 4 * k + 1) (by omega) hL dL_law_141 ?_
      refine lw_aload_n (j := 3) dL_law_142 rfl rfl ?_
      refine lw_iload_n (j := 0) dL_law_143 rfl rfl ?_
      refine lw_iconst (v := 2) dL_law_144 (by decide) ?_
      refine lw_iadd dL_law_145 ?_
      rw [show nI (4 * k) + 2 = nI (4 * k + 2) from nI_add (4 * k) 2]
      refine lw_sld (j := 4 * k + 2) (by omega) hL dL_law_146 ?_
      refine lw_aload_n (j := 3) dL_law_147 rfl rfl ?_
      refine lw_iload_n (j := 0) dL_law_148 rfl rfl ?_
      refine lw_iconst (v := 3) dL_law_149 (by decide) ?_
      refine lw_iadd dL_law_150 ?_
      rw [show nI (4 * k) + 3 = nI (4 * k + 3) from nI_add (4 * k) 3]
      refine lw_sld (j := 4 * k + 3) (by omega) hL dL_law_151 ?_
      obtain ⟨_, hO1⟩ := hI.obj
      refine lw_call (As := [.int (xs (4 * k + 1)), .int (xs (4 * k + 2)), .int (xs (4 * k + 3))]) (rest := []) (ct_X3_setLane cy _ G z0 c (xs (4 * k + 1)) (xs (4 * k + 2)) (xs (4 * k + 3)) hI) ok_X3_setLane hO1 rfl im_X3_setLane sl_X3_setLane ml_L_13 nd_X3_setLane (by decide +kernel) ⟨by decide, by decide⟩ (Nat.le_of_ble_eq_true rfl) rfl dL_law_152 (fun r1 G2 q1 => ?_)
      have q1 : r1 = (C_setLane (xs (4 * k + 1)) (xs (4 * k + 2)) (xs (4 * k + 3)) c).1 ∧ ca_I cy G G2 z0 (C_setLane (xs (4 * k + 1)) (xs (4 * k + 2)) (xs (4 * k + 3)) c).2 := q1
      have hJ2 : ma_I cy G2 G2 (z0 + 220) c := hJ.keep (fun q g1 g2 => q1.2.fr q (by omega))
      refine lw_aload_n (j := 1) dL_law_155 rfl rfl ?_
      refine lw_aload_n (j := 3) dL_law_156 rfl rfl ?_
      refine lw_iload_n (j := 0) dL_law_157 rfl rfl ?_
      refine lw_iconst (v := 1) dL_law_158 (by decide) ?_
      refine lw_iadd dL_law_159 ?_
      rw [show nI (4 * k) + 1 = nI (4 * k + 1) from nI_add (4 * k) 1]
      refine lw_sld (j := 4 * k + 1) (by omega) hL dL_law_160 ?_
      refine lw_aload_n (j := 3) dL_law_161 rfl rfl ?_
      refine lw_iload_n (j := 0) dL_law_162 rfl rfl ?_
      refine lw_iconst (v := 2) dL_law_163 (by decide) ?_
      refine lw_iadd dL_law_164 ?_
      rw [show nI (4 * k) + 2 = nI (4 * k + 2) from nI_add (4 * k) 2]
      refine lw_sld (j := 4 * k + 2) (by omega) hL dL_law_165 ?_
      refine lw_aload_n (j := 3) dL_law_166 rfl rfl ?_
      refine lw_iload_n (j := 0) dL_law_167 rfl rfl ?_
      refine lw_iconst (v := 3) dL_law_168 (by decide) ?_
      refine lw_iadd dL_law_169 ?_
      rw [show nI (4 * k) + 3 = nI (4 * k + 3) from nI_add (4 * k) 3]
      refine lw_sld (j := 4 * k + 3) (by omega) hL dL_law_170 ?_
      obtain ⟨_, hO2⟩ := hJ2.obj
      refine lw_call (As := [.int (xs (4 * k + 1)), .int (xs (4 * k + 2)), .int (xs (4 * k + 3))]) (rest := [.int r1]) (ct_X4_setLane cy _ G2 (z0 + 220) c (xs (4 * k + 1)) (xs (4 * k + 2)) (xs (4 * k + 3)) hJ2) ok_X4_setLane hO2 rfl im_X4_setLane sl_X4_setLane ml_L_17 nd_X4_setLane (by decide +kernel) ⟨by decide, by decide⟩ (Nat.le_of_ble_eq_true rfl) rfl dL_law_171 (fun r2 G3 q2 => ?_)
      have q2 : r2 = (C_setLane (xs (4 * k + 1)) (xs (4 * k + 2)) (xs (4 * k + 3)) c).1 ∧ ma_I cy G2 G3 (z0 + 220) (C_setLane (xs (4 * k + 1)) (xs (4 * k + 2)) (xs (4 * k + 3)) c).2 := q2
      refine lw_icmp_eq (tgt := 714) dL_law_174 (by decide) (fun c_e => ?_) (fun c_e => absurd (q1.1.trans q2.1.symm) c_e)
      exact nxt (C_setLane (xs (4 * k + 1)) (xs (4 * k + 2)) (xs (4 * k + 3)) c).2 G3 h4 ((q1.2.self).keep (fun q g1 g2 => q2.2.fr q (by omega))) q2.2.self ((K_setLane hok (xs (4 * k + 1)) (xs (4 * k + 2)) (xs (4 * k + 3))).mono (by omega))
    · refine lw_tableIn (off := 147) (tgt := 179) dL_law_32 (by decide) (by decide) rfl (by decide) ?_
      refine lw_aload_n (j := 2) dL_law_179 rfl rfl ?_
      refine lw_aload_n (j := 3) dL_law_180 rfl rfl ?_
      refine lw_iload_n (j := 0) dL_law_181 rfl rfl ?_
      refine lw_iconst (v := 1) dL_law_182 (by decide) ?_
      refine lw_iadd dL_law_183 ?_
      rw [show nI (4 * k) + 1 = nI (4 * k + 1) from nI_add (4 * k) 1]
      refine lw_sld (j := 4 * k + 1) (by omega) hL dL_law_184 ?_
      refine lw_aload_n (j := 3) dL_law_185 rfl rfl ?_
      refine lw_iload_n (j := 0) dL_law_186 rfl rfl ?_
      refine lw_iconst (v := 2) dL_law_187 (by decide) ?_
      refine lw_iadd dL_law_188 ?_
      rw [show nI (4 * k) + 2 = nI (4 * k + 2) from nI_add (4 * k) 2]
      refine lw_sld (j := 4 * k + 2) (by omega) hL dL_law_189 ?_
      obtain ⟨_, hO1⟩ := hI.obj
      refine lw_call (As := [.int (xs (4 * k + 1)), .int (xs (4 * k + 2))]) (rest := []) (ct_X3_set cy _ G z0 c (xs (4 * k + 1)) (xs (4 * k + 2)) hI) ok_X3_set hO1 rfl im_X3_set sl_X3_set ml_L_18 nd_X3_set (by decide +kernel) ⟨by decide, by decide⟩ (Nat.le_of_ble_eq_true rfl) rfl dL_law_190 (fun r1 G2 q1 => ?_)
      have q1 : r1 = (C_set (xs (4 * k + 1)) (xs (4 * k + 2)) c).1 ∧ ca_I cy G G2 z0 (C_set (xs (4 * k + 1)) (xs (4 * k + 2)) c).2 := q1
      have hJ2 : ma_I cy G2 G2 (z0 + 220) c := hJ.keep (fun q g1 g2 => q1.2.fr q (by omega))
      refine lw_aload_n (j := 1) dL_law_193 rfl rfl ?_
      refine lw_aload_n (j := 3) dL_law_194 rfl rfl ?_
      refine lw_iload_n (j := 0) dL_law_195 rfl rfl ?_
      refine lw_iconst (v := 1) dL_law_196 (by decide) ?_
      refine lw_iadd dL_law_197 ?_
      rw [show nI (4 * k) + 1 = nI (4 * k + 1) from nI_add (4 * k) 1]
      refine lw_sld (j := 4 * k + 1) (by omega) hL dL_law_198 ?_
      refine lw_aload_n (j := 3) dL_law_199 rfl rfl ?_
      refine lw_iload_n (j := 0) dL_law_200 rfl rfl ?_
      refine lw_iconst (v := 2) dL_law_201 (by decide) ?_
      refine lw_iadd dL_law_202 ?_
      rw [show nI (4 * k) + 2 = nI (4 * k + 2) from nI_add (4 * k) 2]
      refine lw_sld (j := 4 * k + 2) (by omega) hL dL_law_203 ?_
      obtain ⟨_, hO2⟩ := hJ2.obj
      refine lw_call (As := [.int (xs (4 * k + 1)), .int (xs (4 * k + 2))]) (rest := [.int r1]) (ct_X4_set cy _ G2 (z0 + 220) c (xs (4 * k + 1)) (xs (4 * k + 2)) hJ2) ok_X4_set hO2 rfl im_X4_set sl_X4_set ml_L_22 nd_X4_set (by decide +kernel) ⟨by decide, by decide⟩ (Nat.le_of_ble_eq_true rfl) rfl dL_law_204 (fun r2 G3 q2 => ?_)
      have q2 : r2 = (C_set (xs (4 * k + 1)) (xs (4 * k + 2)) c).1 ∧ ma_I cy G2 G3 (z0 + 220) (C_set (xs (4 * k + 1)) (xs (4 * k + 2)) c).2 := q2
      refine lw_icmp_eq (tgt := 714) dL_law_207 (by decide) (fun c_e => ?_) (fun c_e => absurd (q1.1.trans q2.1.symm) c_e)
      exact nxt (C_set (xs (4 * k + 1)) (xs (4 * k + 2)) c).2 G3 h4 ((q1.2.self).keep (fun q g1 g2 => q2.2.fr q (by omega))) q2.2.self ((K_set hok (xs (4 * k + 1)) (xs (4 * k + 2))).mono (by omega))
    · refine lw_tableIn (off := 180) (tgt := 212) dL_law_32 (by decide) (by decide) rfl (by decide) ?_
      refine lw_aload_n (j := 2) dL_law_212 rfl rfl ?_
      refine lw_aload_n (j := 3) dL_law_213 rfl rfl ?_
      refine lw_iload_n (j := 0) dL_law_214 rfl rfl ?_
      refine lw_iconst (v := 1) dL_law_215 (by decide) ?_
      refine lw_iadd dL_law_216 ?_
      rw [show nI (4 * k) + 1 = nI (4 * k + 1) from nI_add (4 * k) 1]
      refine lw_sld (j := 4 * k + 1) (by omega) hL dL_law_217 ?_
      refine lw_aload_n (j := 3) dL_law_218 rfl rfl ?_
      refine lw_iload_n (j := 0) dL_law_219 rfl rfl ?_
      refine lw_iconst (v := 2) dL_law_220 (by decide) ?_
      refine lw_iadd dL_law_221 ?_
      rw [show nI (4 * k) + 2 = nI (4 * k + 2) from nI_add (4 * k) 2]
      refine lw_sld (j := 4 * k + 2) (by omega) hL dL_law_222 ?_
      obtain ⟨_, hO1⟩ := hI.obj
      refine lw_call (As := [.int (xs (4 * k + 1)), .int (xs (4 * k + 2))]) (rest := []) (ct_X3_arrive cy _ G z0 c (xs (4 * k + 1)) (xs (4 * k + 2)) hI) ok_X3_arrive hO1 rfl im_X3_arrive sl_X3_arrive ml_L_23 nd_X3_arrive (by decide +kernel) ⟨by decide, by decide⟩ (Nat.le_of_ble_eq_true rfl) rfl dL_law_223 (fun r1 G2 q1 => ?_)
      have q1 : r1 = (C_arrive (xs (4 * k + 1)) (xs (4 * k + 2)) c).1 ∧ ca_I cy G G2 z0 (C_arrive (xs (4 * k + 1)) (xs (4 * k + 2)) c).2 := q1
      have hJ2 : ma_I cy G2 G2 (z0 + 220) c := hJ.keep (fun q g1 g2 => q1.2.fr q (by omega))
      refine lw_aload_n (j := 1) dL_law_226 rfl rfl ?_
      refine lw_aload_n (j := 3) dL_law_227 rfl rfl ?_
      refine lw_iload_n (j := 0) dL_law_228 rfl rfl ?_
      refine lw_iconst (v := 1) dL_law_229 (by decide) ?_
      refine lw_iadd dL_law_230 ?_
      rw [show nI (4 * k) + 1 = nI (4 * k + 1) from nI_add (4 * k) 1]
      refine lw_sld (j := 4 * k + 1) (by omega) hL dL_law_231 ?_
      refine lw_aload_n (j := 3) dL_law_232 rfl rfl ?_
      refine lw_iload_n (j := 0) dL_law_233 rfl rfl ?_
      refine lw_iconst (v := 2) dL_law_234 (by decide) ?_
      refine lw_iadd dL_law_235 ?_
      rw [show nI (4 * k) + 2 = nI (4 * k + 2) from nI_add (4 * k) 2]
      refine lw_sld (j := 4 * k + 2) (by omega) hL dL_law_236 ?_
      obtain ⟨_, hO2⟩ := hJ2.obj
      refine lw_call (As := [.int (xs (4 * k + 1)), .int (xs (4 * k + 2))]) (rest := [.int r1]) (ct_X4_arrive cy _ G2 (z0 + 220) c (xs (4 * k + 1)) (xs (4 * k + 2)) hJ2) ok_X4_arrive hO2 rfl im_X4_arrive sl_X4_arrive ml_L_26 nd_X4_arrive (by decide +kernel) ⟨by decide, by decide⟩ (Nat.le_of_ble_eq_true rfl) rfl dL_law_237 (fun r2 G3 q2 => ?_)
      have q2 : r2 = (C_arrive (xs (4 * k + 1)) (xs (4 * k + 2)) c).1 ∧ ma_I cy G2 G3 (z0 + 220) (C_arrive (xs (4 * k + 1)) (xs (4 * k + 2)) c).2 := q2
      refine lw_icmp_eq (tgt := 714) dL_law_240 (by decide) (fun c_e => ?_) (fun c_e => absurd (q1.1.trans q2.1.symm) c_e)
      exact nxt (C_arrive (xs (4 * k + 1)) (xs (4 * k + 2)) c).2 G3 h4 ((q1.2.self).keep (fun q g1 g2 => q2.2.fr q (by omega))) q2.2.self ((K_arrive hok (xs (4 * k + 1)) (xs (4 * k + 2))).mono (by omega))
    · refine lw_tableIn (off := 213) (tgt := 245) dL_law_32 (by decide) (by decide) rfl (by decide) ?_
      refine lw_aload_n (j := 2) dL_law_245 rfl rfl ?_
      obtain ⟨_, hO1⟩ := hI.obj
      refine lw_call (As := []) (rest := []) (ct_X3_readArrivals cy _ G z0 c  hI) ok_X3_readArrivals hO1 rfl im_X3_readArrivals sl_X3_readArrivals ml_L_27 nd_X3_readArrivals (by decide +kernel) ⟨by decide, by decide⟩ (Nat.le_of_ble_eq_true rfl) rfl dL_law_246 (fun r1 G2 q1 => ?_)
      have q1 : r1 = (C_readArrivals c).1 ∧ ca_I cy G G2 z0 (C_readArrivals c).2 := q1
      have hJ2 : ma_I cy G2 G2 (z0 + 220) c := hJ.keep (fun q g1 g2 => q1.2.fr q (by omega))
      refine lw_aload_n (j := 1) dL_law_249 rfl rfl ?_
      obtain ⟨_, hO2⟩ := hJ2.obj
      refine lw_call (As := []) (rest := [.int r1]) (ct_X4_readArrivals cy _ G2 (z0 + 220) c  hJ2) ok_X4_readArrivals hO2 rfl im_X4_readArrivals sl_X4_readArrivals ml_L_31 nd_X4_readArrivals (by decide +kernel) ⟨by decide, by decide⟩ (Nat.le_of_ble_eq_true rfl) rfl dL_law_250 (fun r2 G3 q2 => ?_)
      have q2 : r2 = (C_readArrivals c).1 ∧ ma_I cy G2 G3 (z0 + 220) (C_readArrivals c).2 := q2
      refine lw_icmp_eq (tgt := 714) dL_law_253 (by decide) (fun c_e => ?_) (fun c_e => absurd (q1.1.trans q2.1.symm) c_e)
      exact nxt (C_readArrivals c).2 G3 h4 ((q1.2.self).keep (fun q g1 g2 => q2.2.fr q (by omega))) q2.2.self ((K_readArrivals hok ).mono (by omega))
    · refine lw_tableIn (off := 226) (tgt := 258) dL_law_32 (by decide) (by decide) rfl (by decide) ?_
      refine lw_aload_n (j := 2) dL_law_258 rfl rfl ?_
      refine lw_aload_n (j := 3) dL_law_259 rfl rfl ?_
      refine lw_iload_n (j := 0) dL_law_260 rfl rfl ?_
      refine lw_iconst (v := 1) dL_law_261 (by decide) ?_
      refine lw_iadd dL_law_262 ?_
      rw [show nI (4 * k) + 1 = nI (4 * k + 1) from nI_add (4 * k) 1]
      refine lw_sld (j := 4 * k + 1) (by omega) hL dL_law_263 ?_
      obtain ⟨_, hO1⟩ := hI.obj
      refine lw_call (As := [.int (xs (4 * k + 1))]) (rest := []) (ct_X3_pass cy _ G z0 c (xs (4 * k + 1)) (160 * k) hM hok hI) ok_X3_pass hO1 rfl im_X3_pass sl_X3_pass ml_L_32 nd_X3_pass (by decide +kernel) ⟨by decide, by decide⟩ (Nat.le_of_ble_eq_true rfl) rfl dL_law_264 (fun r1 G2 q1 => ?_)
      have q1 : r1 = (C_pass (xs (4 * k + 1)) c).1 ∧ ca_I cy G G2 z0 (C_pass (xs (4 * k + 1)) c).2 := q1
      have hJ2 : ma_I cy G2 G2 (z0 + 220) c := hJ.keep (fun q g1 g2 => q1.2.fr q (by omega))
      refine lw_aload_n (j := 1) dL_law_267 rfl rfl ?_
      refine lw_aload_n (j := 3) dL_law_268 rfl rfl ?_
      refine lw_iload_n (j := 0) dL_law_269 rfl rfl ?_
      refine lw_iconst (v := 1) dL_law_270 (by decide) ?_
      refine lw_iadd dL_law_271 ?_
      rw [show nI (4 * k) + 1 = nI (4 * k + 1) from nI_add (4 * k) 1]
      refine lw_sld (j := 4 * k + 1) (by omega) hL dL_law_272 ?_
      obtain ⟨_, hO2⟩ := hJ2.obj
      refine lw_call (As := [.int (xs (4 * k + 1))]) (rest := [.int r1]) (ct_X4_pass cy _ G2 (z0 + 220) c (xs (4 * k + 1)) (160 * k) hM hok hJ2) ok_X4_pass hO2 rfl im_X4_pass sl_X4_pass ml_L_36 nd_X4_pass (by decide +kernel) ⟨by decide, by decide⟩ (Nat.le_of_ble_eq_true rfl) rfl dL_law_273 (fun r2 G3 q2 => ?_)
      have q2 : r2 = (C_pass (xs (4 * k + 1)) c).1 ∧ ma_I cy G2 G3 (z0 + 220) (C_pass (xs (4 * k + 1)) c).2 := q2
      refine lw_icmp_eq (tgt := 714) dL_law_276 (by decide) (fun c_e => ?_) (fun c_e => absurd (q1.1.trans q2.1.symm) c_e)
      exact nxt (C_pass (xs (4 * k + 1)) c).2 G3 h4 ((q1.2.self).keep (fun q g1 g2 => q2.2.fr q (by omega))) q2.2.self ((K_pass hok (xs (4 * k + 1))).mono (by omega))
    · refine lw_tableIn (off := 249) (tgt := 281) dL_law_32 (by decide) (by decide) rfl (by decide) ?_
      refine lw_aload_n (j := 2) dL_law_281 rfl rfl ?_
      refine lw_aload_n (j := 3) dL_law_282 rfl rfl ?_
      refine lw_iload_n (j := 0) dL_law_283 rfl rfl ?_
      refine lw_iconst (v := 1) dL_law_284 (by decide) ?_
      refine lw_iadd dL_law_285 ?_
      rw [show nI (4 * k) + 1 = nI (4 * k + 1) from nI_add (4 * k) 1]
      refine lw_sld (j := 4 * k + 1) (by omega) hL dL_law_286 ?_
      obtain ⟨_, hO1⟩ := hI.obj
      refine lw_call (As := [.int (xs (4 * k + 1))]) (rest := []) (ct_X3_lose cy _ G z0 c (xs (4 * k + 1)) hI) ok_X3_lose hO1 rfl im_X3_lose sl_X3_lose ml_L_37 nd_X3_lose (by decide +kernel) ⟨by decide, by decide⟩ (Nat.le_of_ble_eq_true rfl) rfl dL_law_287 (fun r1 G2 q1 => ?_)
      have q1 : r1 = (C_lose (xs (4 * k + 1)) c).1 ∧ ca_I cy G G2 z0 (C_lose (xs (4 * k + 1)) c).2 := q1
      have hJ2 : ma_I cy G2 G2 (z0 + 220) c := hJ.keep (fun q g1 g2 => q1.2.fr q (by omega))
      refine lw_aload_n (j := 1) dL_law_290 rfl rfl ?_
      refine lw_aload_n (j := 3) dL_law_291 rfl rfl ?_
      refine lw_iload_n (j := 0) dL_law_292 rfl rfl ?_
      refine lw_iconst (v := 1) dL_law_293 (by decide) ?_
      refine lw_iadd dL_law_294 ?_
      rw [show nI (4 * k) + 1 = nI (4 * k + 1) from nI_add (4 * k) 1]
      refine lw_sld (j := 4 * k + 1) (by omega) hL dL_law_295 ?_
      obtain ⟨_, hO2⟩ := hJ2.obj
      refine lw_call (As := [.int (xs (4 * k + 1))]) (rest := [.int r1]) (ct_X4_lose cy _ G2 (z0 + 220) c (xs (4 * k + 1)) hJ2) ok_X4_lose hO2 rfl im_X4_lose sl_X4_lose ml_L_40 nd_X4_lose (by decide +kernel) ⟨by decide, by decide⟩ (Nat.le_of_ble_eq_true rfl) rfl dL_law_296 (fun r2 G3 q2 => ?_)
      have q2 : r2 = (C_lose (xs (4 * k + 1)) c).1 ∧ ma_I cy G2 G3 (z0 + 220) (C_lose (xs (4 * k + 1)) c).2 := q2
      refine lw_icmp_eq (tgt := 714) dL_law_299 (by decide) (fun c_e => ?_) (fun c_e => absurd (q1.1.trans q2.1.symm) c_e)
      exact nxt (C_lose (xs (4 * k + 1)) c).2 G3 h4 ((q1.2.self).keep (fun q g1 g2 => q2.2.fr q (by omega))) q2.2.self ((K_lose hok (xs (4 * k + 1))).mono (by omega))
    · refine lw_tableIn (off := 272) (tgt := 304) dL_law_32 (by decide) (by decide) rfl (by decide) ?_
      refine lw_aload_n (j := 2) dL_law_304 rfl rfl ?_
      refine lw_aload_n (j := 3) dL_law_305 rfl rfl ?_
      refine lw_iload_n (j := 0) dL_law_306 rfl rfl ?_
      refine lw_iconst (v := 1) dL_law_307 (by decide) ?_
      refine lw_iadd dL_law_308 ?_
      rw [show nI (4 * k) + 1 = nI (4 * k + 1) from nI_add (4 * k) 1]
      refine lw_sld (j := 4 * k + 1) (by omega) hL dL_law_309 ?_
      obtain ⟨_, hO1⟩ := hI.obj
      refine lw_call (As := [.int (xs (4 * k + 1))]) (rest := []) (ct_X3_forge cy _ G z0 c (xs (4 * k + 1)) hI) ok_X3_forge hO1 rfl im_X3_forge sl_X3_forge ml_L_41 nd_X3_forge (by decide +kernel) ⟨by decide, by decide⟩ (Nat.le_of_ble_eq_true rfl) rfl dL_law_310 (fun r1 G2 q1 => ?_)
      have q1 : r1 = (C_forge (xs (4 * k + 1)) c).1 ∧ ca_I cy G G2 z0 (C_forge (xs (4 * k + 1)) c).2 := q1
      have hJ2 : ma_I cy G2 G2 (z0 + 220) c := hJ.keep (fun q g1 g2 => q1.2.fr q (by omega))
      refine lw_aload_n (j := 1) dL_law_313 rfl rfl ?_
      refine lw_aload_n (j := 3) dL_law_314 rfl rfl ?_
      refine lw_iload_n (j := 0) dL_law_315 rfl rfl ?_
      refine lw_iconst (v := 1) dL_law_316 (by decide) ?_
      refine lw_iadd dL_law_317 ?_
      rw [show nI (4 * k) + 1 = nI (4 * k + 1) from nI_add (4 * k) 1]
      refine lw_sld (j := 4 * k + 1) (by omega) hL dL_law_318 ?_
      obtain ⟨_, hO2⟩ := hJ2.obj
      refine lw_call (As := [.int (xs (4 * k + 1))]) (rest := [.int r1]) (ct_X4_forge cy _ G2 (z0 + 220) c (xs (4 * k + 1)) hJ2) ok_X4_forge hO2 rfl im_X4_forge sl_X4_forge ml_L_44 nd_X4_forge (by decide +kernel) ⟨by decide, by decide⟩ (Nat.le_of_ble_eq_true rfl) rfl dL_law_319 (fun r2 G3 q2 => ?_)
      have q2 : r2 = (C_forge (xs (4 * k + 1)) c).1 ∧ ma_I cy G2 G3 (z0 + 220) (C_forge (xs (4 * k + 1)) c).2 := q2
      refine lw_icmp_eq (tgt := 714) dL_law_322 (by decide) (fun c_e => ?_) (fun c_e => absurd (q1.1.trans q2.1.symm) c_e)
      exact nxt (C_forge (xs (4 * k + 1)) c).2 G3 h4 ((q1.2.self).keep (fun q g1 g2 => q2.2.fr q (by omega))) q2.2.self ((K_forge hok (xs (4 * k + 1))).mono (by omega))
    · refine lw_tableIn (off := 295) (tgt := 327) dL_law_32 (by decide) (by decide) rfl (by decide) ?_
      refine lw_aload_n (j := 2) dL_law_327 rfl rfl ?_
      refine lw_aload_n (j := 3) dL_law_328 rfl rfl ?_
      refine lw_iload_n (j := 0) dL_law_329 rfl rfl ?_
      refine lw_iconst (v := 1) dL_law_330 (by decide) ?_
      refine lw_iadd dL_law_331 ?_
      rw [show nI (4 * k) + 1 = nI (4 * k + 1) from nI_add (4 * k) 1]
      refine lw_sld (j := 4 * k + 1) (by omega) hL dL_law_332 ?_
      obtain ⟨_, hO1⟩ := hI.obj
      refine lw_call (As := [.int (xs (4 * k + 1))]) (rest := []) (ct_X3_repair cy _ G z0 c (xs (4 * k + 1)) hI) ok_X3_repair hO1 rfl im_X3_repair sl_X3_repair ml_L_45 nd_X3_repair (by decide +kernel) ⟨by decide, by decide⟩ (Nat.le_of_ble_eq_true rfl) rfl dL_law_333 (fun r1 G2 q1 => ?_)
      have q1 : r1 = (C_repair (xs (4 * k + 1)) c).1 ∧ ca_I cy G G2 z0 (C_repair (xs (4 * k + 1)) c).2 := q1
      have hJ2 : ma_I cy G2 G2 (z0 + 220) c := hJ.keep (fun q g1 g2 => q1.2.fr q (by omega))
      refine lw_aload_n (j := 1) dL_law_336 rfl rfl ?_
      refine lw_aload_n (j := 3) dL_law_337 rfl rfl ?_
      refine lw_iload_n (j := 0) dL_law_338 rfl rfl ?_
      refine lw_iconst (v := 1) dL_law_339 (by decide) ?_
      refine lw_iadd dL_law_340 ?_
      rw [show nI (4 * k) + 1 = nI (4 * k + 1) from nI_add (4 * k) 1]
      refine lw_sld (j := 4 * k + 1) (by omega) hL dL_law_341 ?_
      obtain ⟨_, hO2⟩ := hJ2.obj
      refine lw_call (As := [.int (xs (4 * k + 1))]) (rest := [.int r1]) (ct_X4_repair cy _ G2 (z0 + 220) c (xs (4 * k + 1)) hJ2) ok_X4_repair hO2 rfl im_X4_repair sl_X4_repair ml_L_48 nd_X4_repair (by decide +kernel) ⟨by decide, by decide⟩ (Nat.le_of_ble_eq_true rfl) rfl dL_law_342 (fun r2 G3 q2 => ?_)
      have q2 : r2 = (C_repair (xs (4 * k + 1)) c).1 ∧ ma_I cy G2 G3 (z0 + 220) (C_repair (xs (4 * k + 1)) c).2 := q2
      refine lw_icmp_eq (tgt := 714) dL_law_345 (by decide) (fun c_e => ?_) (fun c_e => absurd (q1.1.trans q2.1.symm) c_e)
      exact nxt (C_repair (xs (4 * k + 1)) c).2 G3 h4 ((q1.2.self).keep (fun q g1 g2 => q2.2.fr q (by omega))) q2.2.self ((K_repair hok (xs (4 * k + 1))).mono (by omega))
    · refine lw_tableIn (off := 318) (tgt := 350) dL_law_32 (by decide) (by decide) rfl (by decide) ?_
      refine lw_aload_n (j := 2) dL_law_350 rfl rfl ?_
      refine lw_aload_n (j := 3) dL_law_351 rfl rfl ?_
      refine lw_iload_n (j := 0) dL_law_352 rfl rfl ?_
      refine lw_iconst (v := 1) dL_law_353 (by decide) ?_
      refine lw_iadd dL_law_354 ?_
      rw [show nI (4 * k) + 1 = nI (4 * k + 1) from nI_add (4 * k) 1]
      refine lw_sld (j := 4 * k + 1) (by omega) hL dL_law_355 ?_
      refine lw_i2c (v := ((xs (4 * k + 1)).toUInt32 % 65536).toInt32) dL_law_356 rfl ?_
      obtain ⟨_, hO1⟩ := hI.obj
      refine lw_call (As := [.int (((xs (4 * k + 1)).toUInt32 % 65536).toInt32)]) (rest := []) (ct_X3_type cy _ G z0 c (((xs (4 * k + 1)).toUInt32 % 65536).toInt32) (lw_char _) hI) ok_X3_type hO1 rfl im_X3_type sl_X3_type ml_L_49 nd_X3_type (by decide +kernel) ⟨by decide, by decide⟩ (Nat.le_of_ble_eq_true rfl) rfl dL_law_357 (fun r1 G2 q1 => ?_)
      have q1 : r1 = (C_type (((xs (4 * k + 1)).toUInt32 % 65536).toInt32) c).1 ∧ ca_I cy G G2 z0 (C_type (((xs (4 * k + 1)).toUInt32 % 65536).toInt32) c).2 := q1
      have hJ2 : ma_I cy G2 G2 (z0 + 220) c := hJ.keep (fun q g1 g2 => q1.2.fr q (by omega))
      refine lw_aload_n (j := 1) dL_law_360 rfl rfl ?_
      refine lw_aload_n (j := 3) dL_law_361 rfl rfl ?_
      refine lw_iload_n (j := 0) dL_law_362 rfl rfl ?_
      refine lw_iconst (v := 1) dL_law_363 (by decide) ?_
      refine lw_iadd dL_law_364 ?_
      rw [show nI (4 * k) + 1 = nI (4 * k + 1) from nI_add (4 * k) 1]
      refine lw_sld (j := 4 * k + 1) (by omega) hL dL_law_365 ?_
      refine lw_i2c (v := ((xs (4 * k + 1)).toUInt32 % 65536).toInt32) dL_law_366 rfl ?_
      obtain ⟨_, hO2⟩ := hJ2.obj
      refine lw_call (As := [.int (((xs (4 * k + 1)).toUInt32 % 65536).toInt32)]) (rest := [.int r1]) (ct_X4_type cy _ G2 (z0 + 220) c (((xs (4 * k + 1)).toUInt32 % 65536).toInt32) (lw_char _) hJ2) ok_X4_type hO2 rfl im_X4_type sl_X4_type ml_L_53 nd_X4_type (by decide +kernel) ⟨by decide, by decide⟩ (Nat.le_of_ble_eq_true rfl) rfl dL_law_367 (fun r2 G3 q2 => ?_)
      have q2 : r2 = (C_type (((xs (4 * k + 1)).toUInt32 % 65536).toInt32) c).1 ∧ ma_I cy G2 G3 (z0 + 220) (C_type (((xs (4 * k + 1)).toUInt32 % 65536).toInt32) c).2 := q2
      refine lw_icmp_eq (tgt := 714) dL_law_370 (by decide) (fun c_e => ?_) (fun c_e => absurd (q1.1.trans q2.1.symm) c_e)
      exact nxt (C_type (((xs (4 * k + 1)).toUInt32 % 65536).toInt32) c).2 G3 h4 ((q1.2.self).keep (fun q g1 g2 => q2.2.fr q (by omega))) q2.2.self ((K_type hok (((xs (4 * k + 1)).toUInt32 % 65536).toInt32)).mono (by omega))
    · refine lw_tableIn (off := 343) (tgt := 375) dL_law_32 (by decide) (by decide) rfl (by decide) ?_
      refine lw_aload_n (j := 2) dL_law_375 rfl rfl ?_
      obtain ⟨_, hO1⟩ := hI.obj
      refine lw_call (As := []) (rest := []) (ct_X3_clearText cy _ G z0 c  hI) ok_X3_clearText hO1 rfl im_X3_clearText sl_X3_clearText ml_L_54 nd_X3_clearText (by decide +kernel) ⟨by decide, by decide⟩ (Nat.le_of_ble_eq_true rfl) rfl dL_law_376 (fun r1 G2 q1 => ?_)
      have q1 : r1 = (C_clearText c).1 ∧ ca_I cy G G2 z0 (C_clearText c).2 := q1
      have hJ2 : ma_I cy G2 G2 (z0 + 220) c := hJ.keep (fun q g1 g2 => q1.2.fr q (by omega))
      refine lw_aload_n (j := 1) dL_law_379 rfl rfl ?_
      obtain ⟨_, hO2⟩ := hJ2.obj
      refine lw_call (As := []) (rest := [.int r1]) (ct_X4_clearText cy _ G2 (z0 + 220) c  hJ2) ok_X4_clearText hO2 rfl im_X4_clearText sl_X4_clearText ml_L_57 nd_X4_clearText (by decide +kernel) ⟨by decide, by decide⟩ (Nat.le_of_ble_eq_true rfl) rfl dL_law_380 (fun r2 G3 q2 => ?_)
      have q2 : r2 = (C_clearText c).1 ∧ ma_I cy G2 G3 (z0 + 220) (C_clearText c).2 := q2
      refine lw_icmp_eq (tgt := 714) dL_law_383 (by decide) (fun c_e => ?_) (fun c_e => absurd (q1.1.trans q2.1.symm) c_e)
      exact nxt (C_clearText c).2 G3 h4 ((q1.2.self).keep (fun q g1 g2 => q2.2.fr q (by omega))) q2.2.self ((K_clearText hok ).mono (by omega))
    · refine lw_tableIn (off := 356) (tgt := 388) dL_law_32 (by decide) (by decide) rfl (by decide) ?_
      refine lw_aload_n (j := 2) dL_law_388 rfl rfl ?_
      obtain ⟨_, hO1⟩ := hI.obj
      refine lw_call (As := []) (rest := []) (ct_X3_undo cy _ G z0 c  hI) ok_X3_undo hO1 rfl im_X3_undo sl_X3_undo ml_L_58 nd_X3_undo (by decide +kernel) ⟨by decide, by decide⟩ (Nat.le_of_ble_eq_true rfl) rfl dL_law_389 (fun r1 G2 q1 => ?_)
      have q1 : r1 = (C_undo c).1 ∧ ca_I cy G G2 z0 (C_undo c).2 := q1
      have hJ2 : ma_I cy G2 G2 (z0 + 220) c := hJ.keep (fun q g1 g2 => q1.2.fr q (by omega))
      refine lw_aload_n (j := 1) dL_law_392 rfl rfl ?_
      obtain ⟨_, hO2⟩ := hJ2.obj
      refine lw_call (As := []) (rest := [.int r1]) (ct_X4_undo cy _ G2 (z0 + 220) c  hJ2) ok_X4_undo hO2 rfl im_X4_undo sl_X4_undo ml_L_61 nd_X4_undo (by decide +kernel) ⟨by decide, by decide⟩ (Nat.le_of_ble_eq_true rfl) rfl dL_law_393 (fun r2 G3 q2 => ?_)
      have q2 : r2 = (C_undo c).1 ∧ ma_I cy G2 G3 (z0 + 220) (C_undo c).2 := q2
      refine lw_icmp_eq (tgt := 714) dL_law_396 (by decide) (fun c_e => ?_) (fun c_e => absurd (q1.1.trans q2.1.symm) c_e)
      exact nxt (C_undo c).2 G3 h4 ((q1.2.self).keep (fun q g1 g2 => q2.2.fr q (by omega))) q2.2.self ((K_undo hok ).mono (by omega))
    · refine lw_tableIn (off := 369) (tgt := 401) dL_law_32 (by decide) (by decide) rfl (by decide) ?_
      refine lw_aload_n (j := 2) dL_law_401 rfl rfl ?_
      obtain ⟨_, hO1⟩ := hI.obj
      refine lw_call (As := []) (rest := []) (ct_X3_keep cy _ G z0 c  hI) ok_X3_keep hO1 rfl im_X3_keep sl_X3_keep ml_L_62 nd_X3_keep (by decide +kernel) ⟨by decide, by decide⟩ (Nat.le_of_ble_eq_true rfl) rfl dL_law_402 (fun r1 G2 q1 => ?_)
      have q1 : r1 = (C_keep c).1 ∧ ca_I cy G G2 z0 (C_keep c).2 := q1
      have hJ2 : ma_I cy G2 G2 (z0 + 220) c := hJ.keep (fun q g1 g2 => q1.2.fr q (by omega))
      refine lw_aload_n (j := 1) dL_law_405 rfl rfl ?_
      obtain ⟨_, hO2⟩ := hJ2.obj
      refine lw_call (As := []) (rest := [.int r1]) (ct_X4_keep cy _ G2 (z0 + 220) c  hJ2) ok_X4_keep hO2 rfl im_X4_keep sl_X4_keep ml_L_65 nd_X4_keep (by decide +kernel) ⟨by decide, by decide⟩ (Nat.le_of_ble_eq_true rfl) rfl dL_law_406 (fun r2 G3 q2 => ?_)
      have q2 : r2 = (C_keep c).1 ∧ ma_I cy G2 G3 (z0 + 220) (C_keep c).2 := q2
      refine lw_icmp_eq (tgt := 714) dL_law_409 (by decide) (fun c_e => ?_) (fun c_e => absurd (q1.1.trans q2.1.symm) c_e)
      exact nxt (C_keep c).2 G3 h4 ((q1.2.self).keep (fun q g1 g2 => q2.2.fr q (by omega))) q2.2.self ((K_keep hok ).mono (by omega))
    · refine lw_tableIn (off := 382) (tgt := 414) dL_law_32 (by decide) (by decide) rfl (by decide) ?_
      refine lw_aload_n (j := 2) dL_law_414 rfl rfl ?_
      obtain ⟨_, hO1⟩ := hI.obj
      refine lw_call (As := []) (rest := []) (ct_X3_restore cy _ G z0 c  hI) ok_X3_restore hO1 rfl im_X3_restore sl_X3_restore ml_L_66 nd_X3_restore (by decide +kernel) ⟨by decide, by decide⟩ (Nat.le_of_ble_eq_true rfl) rfl dL_law_415 (fun r1 G2 q1 => ?_)
      have q1 : r1 = (C_restore c).1 ∧ ca_I cy G G2 z0 (C_restore c).2 := q1
      have hJ2 : ma_I cy G2 G2 (z0 + 220) c := hJ.keep (fun q g1 g2 => q1.2.fr q (by omega))
      refine lw_aload_n (j := 1) dL_law_418 rfl rfl ?_
      obtain ⟨_, hO2⟩ := hJ2.obj
      refine lw_call (As := []) (rest := [.int r1]) (ct_X4_restore cy _ G2 (z0 + 220) c  hJ2) ok_X4_restore hO2 rfl im_X4_restore sl_X4_restore ml_L_69 nd_X4_restore (by decide +kernel) ⟨by decide, by decide⟩ (Nat.le_of_ble_eq_true rfl) rfl dL_law_419 (fun r2 G3 q2 => ?_)
      have q2 : r2 = (C_restore c).1 ∧ ma_I cy G2 G3 (z0 + 220) (C_restore c).2 := q2
      refine lw_icmp_eq (tgt := 714) dL_law_422 (by decide) (fun c_e => ?_) (fun c_e => absurd (q1.1.trans q2.1.symm) c_e)
      exact nxt (C_restore c).2 G3 h4 ((q1.2.self).keep (fun q g1 g2 => q2.2.fr q (by omega))) q2.2.self ((K_restore hok ).mono (by omega))
    · refine lw_tableIn (off := 395) (tgt := 427) dL_law_32 (by decide) (by decide) rfl (by decide) ?_
      refine lw_aload_n (j := 2) dL_law_427 rfl rfl ?_
      refine lw_aload_n (j := 3) dL_law_428 rfl rfl ?_
      refine lw_iload_n (j := 0) dL_law_429 rfl rfl ?_
      refine lw_iconst (v := 1) dL_law_430 (by decide) ?_
      refine lw_iadd dL_law_431 ?_
      rw [show nI (4 * k) + 1 = nI (4 * k + 1) from nI_add (4 * k) 1]
      refine lw_sld (j := 4 * k + 1) (by omega) hL dL_law_432 ?_
      refine lw_aload_n (j := 3) dL_law_433 rfl rfl ?_
      refine lw_iload_n (j := 0) dL_law_434 rfl rfl ?_
      refine lw_iconst (v := 2) dL_law_435 (by decide) ?_
      refine lw_iadd dL_law_436 ?_
      rw [show nI (4 * k) + 2 = nI (4 * k + 2) from nI_add (4 * k) 2]
      refine lw_sld (j := 4 * k + 2) (by omega) hL dL_law_437 ?_
      obtain ⟨_, hO1⟩ := hI.obj
      refine lw_call (As := [.int (xs (4 * k + 1)), .int (xs (4 * k + 2))]) (rest := []) (ct_X3_lane cy _ G z0 c (xs (4 * k + 1)) (xs (4 * k + 2)) hI) ok_X3_lane hO1 rfl im_X3_lane sl_X3_lane ml_L_70 nd_X3_lane (by decide +kernel) ⟨by decide, by decide⟩ (Nat.le_of_ble_eq_true rfl) rfl dL_law_438 (fun r1 G2 q1 => ?_)
      have q1 : r1 = (C_lane (xs (4 * k + 1)) (xs (4 * k + 2)) c) ∧ ca_I cy G G2 z0 c := q1
      have hJ2 : ma_I cy G2 G2 (z0 + 220) c := hJ.keep (fun q g1 g2 => q1.2.fr q (by omega))
      refine lw_aload_n (j := 1) dL_law_441 rfl rfl ?_
      refine lw_aload_n (j := 3) dL_law_442 rfl rfl ?_
      refine lw_iload_n (j := 0) dL_law_443 rfl rfl ?_
      refine lw_iconst (v := 1) dL_law_444 (by decide) ?_
      refine lw_iadd dL_law_445 ?_
      rw [show nI (4 * k) + 1 = nI (4 * k + 1) from nI_add (4 * k) 1]
      refine lw_sld (j := 4 * k + 1) (by omega) hL dL_law_446 ?_
      refine lw_aload_n (j := 3) dL_law_447 rfl rfl ?_
      refine lw_iload_n (j := 0) dL_law_448 rfl rfl ?_
      refine lw_iconst (v := 2) dL_law_449 (by decide) ?_
      refine lw_iadd dL_law_450 ?_
      rw [show nI (4 * k) + 2 = nI (4 * k + 2) from nI_add (4 * k) 2]
      refine lw_sld (j := 4 * k + 2) (by omega) hL dL_law_451 ?_
      obtain ⟨_, hO2⟩ := hJ2.obj
      refine lw_call (As := [.int (xs (4 * k + 1)), .int (xs (4 * k + 2))]) (rest := [.int r1]) (ct_X4_lane cy _ G2 (z0 + 220) c (xs (4 * k + 1)) (xs (4 * k + 2)) hJ2) ok_X4_lane hO2 rfl im_X4_lane sl_X4_lane ml_L_73 nd_X4_lane (by decide +kernel) ⟨by decide, by decide⟩ (Nat.le_of_ble_eq_true rfl) rfl dL_law_452 (fun r2 G3 q2 => ?_)
      have q2 : r2 = (C_lane (xs (4 * k + 1)) (xs (4 * k + 2)) c) ∧ ma_I cy G2 G3 (z0 + 220) c := q2
      refine lw_icmp_eq (tgt := 714) dL_law_455 (by decide) (fun c_e => ?_) (fun c_e => absurd (q1.1.trans q2.1.symm) c_e)
      exact nxt c G3 h4 ((q1.2.self).keep (fun q g1 g2 => q2.2.fr q (by omega))) q2.2.self (hok.mono (by omega))
    · refine lw_tableIn (off := 428) (tgt := 460) dL_law_32 (by decide) (by decide) rfl (by decide) ?_
      refine lw_aload_n (j := 2) dL_law_460 rfl rfl ?_
      refine lw_aload_n (j := 3) dL_law_461 rfl rfl ?_
      refine lw_iload_n (j := 0) dL_law_462 rfl rfl ?_
      refine lw_iconst (v := 1) dL_law_463 (by decide) ?_
      refine lw_iadd dL_law_464 ?_
      rw [show nI (4 * k) + 1 = nI (4 * k + 1) from nI_add (4 * k) 1]
      refine lw_sld (j := 4 * k + 1) (by omega) hL dL_law_465 ?_
      refine lw_aload_n (j := 3) dL_law_466 rfl rfl ?_
      refine lw_iload_n (j := 0) dL_law_467 rfl rfl ?_
      refine lw_iconst (v := 2) dL_law_468 (by decide) ?_
      refine lw_iadd dL_law_469 ?_
      rw [show nI (4 * k) + 2 = nI (4 * k + 2) from nI_add (4 * k) 2]
      refine lw_sld (j := 4 * k + 2) (by omega) hL dL_law_470 ?_
      obtain ⟨_, hO1⟩ := hI.obj
      refine lw_call (As := [.int (xs (4 * k + 1)), .int (xs (4 * k + 2))]) (rest := []) (ct_X3_seated cy _ G z0 c (xs (4 * k + 1)) (xs (4 * k + 2)) hI) ok_X3_seated hO1 rfl im_X3_seated sl_X3_seated ml_L_74 nd_X3_seated (by decide +kernel) ⟨by decide, by decide⟩ (Nat.le_of_ble_eq_true rfl) rfl dL_law_471 (fun r1 G2 q1 => ?_)
      have q1 : r1 = (C_seated (xs (4 * k + 1)) (xs (4 * k + 2)) c) ∧ ca_I cy G G2 z0 c := q1
      have hJ2 : ma_I cy G2 G2 (z0 + 220) c := hJ.keep (fun q g1 g2 => q1.2.fr q (by omega))
      refine lw_aload_n (j := 1) dL_law_474 rfl rfl ?_
      refine lw_aload_n (j := 3) dL_law_475 rfl rfl ?_
      refine lw_iload_n (j := 0) dL_law_476 rfl rfl ?_
      refine lw_iconst (v := 1) dL_law_477 (by decide) ?_
      refine lw_iadd dL_law_478 ?_
      rw [show nI (4 * k) + 1 = nI (4 * k + 1) from nI_add (4 * k) 1]
      refine lw_sld (j := 4 * k + 1) (by omega) hL dL_law_479 ?_
      refine lw_aload_n (j := 3) dL_law_480 rfl rfl ?_
      refine lw_iload_n (j := 0) dL_law_481 rfl rfl ?_
      refine lw_iconst (v := 2) dL_law_482 (by decide) ?_
      refine lw_iadd dL_law_483 ?_
      rw [show nI (4 * k) + 2 = nI (4 * k + 2) from nI_add (4 * k) 2]
      refine lw_sld (j := 4 * k + 2) (by omega) hL dL_law_484 ?_
      obtain ⟨_, hO2⟩ := hJ2.obj
      refine lw_call (As := [.int (xs (4 * k + 1)), .int (xs (4 * k + 2))]) (rest := [.int r1]) (ct_X4_seated cy _ G2 (z0 + 220) c (xs (4 * k + 1)) (xs (4 * k + 2)) hJ2) ok_X4_seated hO2 rfl im_X4_seated sl_X4_seated ml_L_77 nd_X4_seated (by decide +kernel) ⟨by decide, by decide⟩ (Nat.le_of_ble_eq_true rfl) rfl dL_law_485 (fun r2 G3 q2 => ?_)
      have q2 : r2 = (C_seated (xs (4 * k + 1)) (xs (4 * k + 2)) c) ∧ ma_I cy G2 G3 (z0 + 220) c := q2
      refine lw_icmp_eq (tgt := 714) dL_law_488 (by decide) (fun c_e => ?_) (fun c_e => absurd (q1.1.trans q2.1.symm) c_e)
      exact nxt c G3 h4 ((q1.2.self).keep (fun q g1 g2 => q2.2.fr q (by omega))) q2.2.self (hok.mono (by omega))
    · refine lw_tableIn (off := 461) (tgt := 493) dL_law_32 (by decide) (by decide) rfl (by decide) ?_
      refine lw_aload_n (j := 2) dL_law_493 rfl rfl ?_
      refine lw_aload_n (j := 3) dL_law_494 rfl rfl ?_
      refine lw_iload_n (j := 0) dL_law_495 rfl rfl ?_
      refine lw_iconst (v := 1) dL_law_496 (by decide) ?_
      refine lw_iadd dL_law_497 ?_
      rw [show nI (4 * k) + 1 = nI (4 * k + 1) from nI_add (4 * k) 1]
      refine lw_sld (j := 4 * k + 1) (by omega) hL dL_law_498 ?_
      refine lw_aload_n (j := 3) dL_law_499 rfl rfl ?_
      refine lw_iload_n (j := 0) dL_law_500 rfl rfl ?_
      refine lw_iconst (v := 2) dL_law_501 (by decide) ?_
      refine lw_iadd dL_law_502 ?_
      rw [show nI (4 * k) + 2 = nI (4 * k + 2) from nI_add (4 * k) 2]
      refine lw_sld (j := 4 * k + 2) (by omega) hL dL_law_503 ?_
      obtain ⟨_, hO1⟩ := hI.obj
      refine lw_call (As := [.int (xs (4 * k + 1)), .int (xs (4 * k + 2))]) (rest := []) (ct_X3_onTheWay cy _ G z0 c (xs (4 * k + 1)) (xs (4 * k + 2)) hI) ok_X3_onTheWay hO1 rfl im_X3_onTheWay sl_X3_onTheWay ml_L_78 nd_X3_onTheWay (by decide +kernel) ⟨by decide, by decide⟩ (Nat.le_of_ble_eq_true rfl) rfl dL_law_504 (fun r1 G2 q1 => ?_)
      have q1 : r1 = (C_onTheWay (xs (4 * k + 1)) (xs (4 * k + 2)) c) ∧ ca_I cy G G2 z0 c := q1
      have hJ2 : ma_I cy G2 G2 (z0 + 220) c := hJ.keep (fun q g1 g2 => q1.2.fr q (by omega))
      refine lw_aload_n (j := 1) dL_law_507 rfl rfl ?_
      refine lw_aload_n (j := 3) dL_law_508 rfl rfl ?_
      refine lw_iload_n (j := 0) dL_law_509 rfl rfl ?_
      refine lw_iconst (v := 1) dL_law_510 (by decide) ?_
      refine lw_iadd dL_law_511 ?_
      rw [show nI (4 * k) + 1 = nI (4 * k + 1) from nI_add (4 * k) 1]
      refine lw_sld (j := 4 * k + 1) (by omega) hL dL_law_512 ?_
      refine lw_aload_n (j := 3) dL_law_513 rfl rfl ?_
      refine lw_iload_n (j := 0) dL_law_514 rfl rfl ?_
      refine lw_iconst (v := 2) dL_law_515 (by decide) ?_
      refine lw_iadd dL_law_516 ?_
      rw [show nI (4 * k) + 2 = nI (4 * k + 2) from nI_add (4 * k) 2]
      refine lw_sld (j := 4 * k + 2) (by omega) hL dL_law_517 ?_
      obtain ⟨_, hO2⟩ := hJ2.obj
      refine lw_call (As := [.int (xs (4 * k + 1)), .int (xs (4 * k + 2))]) (rest := [.int r1]) (ct_X4_onTheWay cy _ G2 (z0 + 220) c (xs (4 * k + 1)) (xs (4 * k + 2)) hJ2) ok_X4_onTheWay hO2 rfl im_X4_onTheWay sl_X4_onTheWay ml_L_81 nd_X4_onTheWay (by decide +kernel) ⟨by decide, by decide⟩ (Nat.le_of_ble_eq_true rfl) rfl dL_law_518 (fun r2 G3 q2 => ?_)
      have q2 : r2 = (C_onTheWay (xs (4 * k + 1)) (xs (4 * k + 2)) c) ∧ ma_I cy G2 G3 (z0 + 220) c := q2
      refine lw_icmp_eq (tgt := 714) dL_law_521 (by decide) (fun c_e => ?_) (fun c_e => absurd (q1.1.trans q2.1.symm) c_e)
      exact nxt c G3 h4 ((q1.2.self).keep (fun q g1 g2 => q2.2.fr q (by omega))) q2.2.self (hok.mono (by omega))
    · refine lw_tableIn (off := 494) (tgt := 526) dL_law_32 (by decide) (by decide) rfl (by decide) ?_
      refine lw_aload_n (j := 2) dL_law_526 rfl rfl ?_
      refine lw_aload_n (j := 3) dL_law_527 rfl rfl ?_
      refine lw_iload_n (j := 0) dL_law_528 rfl rfl ?_
      refine lw_iconst (v := 1) dL_law_529 (by decide) ?_
      refine lw_iadd dL_law_530 ?_
      rw [show nI (4 * k) + 1 = nI (4 * k + 1) from nI_add (4 * k) 1]
      refine lw_sld (j := 4 * k + 1) (by omega) hL dL_law_531 ?_
      refine lw_aload_n (j := 3) dL_law_532 rfl rfl ?_
      refine lw_iload_n (j := 0) dL_law_533 rfl rfl ?_
      refine lw_iconst (v := 2) dL_law_534 (by decide) ?_
      refine lw_iadd dL_law_535 ?_
      rw [show nI (4 * k) + 2 = nI (4 * k + 2) from nI_add (4 * k) 2]
      refine lw_sld (j := 4 * k + 2) (by omega) hL dL_law_536 ?_
      obtain ⟨_, hO1⟩ := hI.obj
      refine lw_call (As := [.int (xs (4 * k + 1)), .int (xs (4 * k + 2))]) (rest := []) (ct_X3_input cy _ G z0 c (xs (4 * k + 1)) (xs (4 * k + 2)) hI) ok_X3_input hO1 rfl im_X3_input sl_X3_input ml_L_82 nd_X3_input (by decide +kernel) ⟨by decide, by decide⟩ (Nat.le_of_ble_eq_true rfl) rfl dL_law_537 (fun r1 G2 q1 => ?_)
      have q1 : r1 = (C_input (xs (4 * k + 1)) (xs (4 * k + 2)) c) ∧ ca_I cy G G2 z0 c := q1
      have hJ2 : ma_I cy G2 G2 (z0 + 220) c := hJ.keep (fun q g1 g2 => q1.2.fr q (by omega))
      refine lw_aload_n (j := 1) dL_law_540 rfl rfl ?_
      refine lw_aload_n (j := 3) dL_law_541 rfl rfl ?_
      refine lw_iload_n (j := 0) dL_law_542 rfl rfl ?_
      refine lw_iconst (v := 1) dL_law_543 (by decide) ?_
      refine lw_iadd dL_law_544 ?_
      rw [show nI (4 * k) + 1 = nI (4 * k + 1) from nI_add (4 * k) 1]
      refine lw_sld (j := 4 * k + 1) (by omega) hL dL_law_545 ?_
      refine lw_aload_n (j := 3) dL_law_546 rfl rfl ?_
      refine lw_iload_n (j := 0) dL_law_547 rfl rfl ?_
      refine lw_iconst (v := 2) dL_law_548 (by decide) ?_
      refine lw_iadd dL_law_549 ?_
      rw [show nI (4 * k) + 2 = nI (4 * k + 2) from nI_add (4 * k) 2]
      refine lw_sld (j := 4 * k + 2) (by omega) hL dL_law_550 ?_
      obtain ⟨_, hO2⟩ := hJ2.obj
      refine lw_call (As := [.int (xs (4 * k + 1)), .int (xs (4 * k + 2))]) (rest := [.int r1]) (ct_X4_input cy _ G2 (z0 + 220) c (xs (4 * k + 1)) (xs (4 * k + 2)) hJ2) ok_X4_input hO2 rfl im_X4_input sl_X4_input ml_L_85 nd_X4_input (by decide +kernel) ⟨by decide, by decide⟩ (Nat.le_of_ble_eq_true rfl) rfl dL_law_551 (fun r2 G3 q2 => ?_)
      have q2 : r2 = (C_input (xs (4 * k + 1)) (xs (4 * k + 2)) c) ∧ ma_I cy G2 G3 (z0 + 220) c := q2
      refine lw_icmp_eq (tgt := 714) dL_law_554 (by decide) (fun c_e => ?_) (fun c_e => absurd (q1.1.trans q2.1.symm) c_e)
      exact nxt c G3 h4 ((q1.2.self).keep (fun q g1 g2 => q2.2.fr q (by omega))) q2.2.self (hok.mono (by omega))
    · refine lw_tableIn (off := 527) (tgt := 559) dL_law_32 (by decide) (by decide) rfl (by decide) ?_
      refine lw_aload_n (j := 2) dL_law_559 rfl rfl ?_
      refine lw_aload_n (j := 3) dL_law_560 rfl rfl ?_
      refine lw_iload_n (j := 0) dL_law_561 rfl rfl ?_
      refine lw_iconst (v := 1) dL_law_562 (by decide) ?_
      refine lw_iadd dL_law_563 ?_
      rw [show nI (4 * k) + 1 = nI (4 * k + 1) from nI_add (4 * k) 1]
      refine lw_sld (j := 4 * k + 1) (by omega) hL dL_law_564 ?_
      refine lw_aload_n (j := 3) dL_law_565 rfl rfl ?_
      refine lw_iload_n (j := 0) dL_law_566 rfl rfl ?_
      refine lw_iconst (v := 2) dL_law_567 (by decide) ?_
      refine lw_iadd dL_law_568 ?_
      rw [show nI (4 * k) + 2 = nI (4 * k + 2) from nI_add (4 * k) 2]
      refine lw_sld (j := 4 * k + 2) (by omega) hL dL_law_569 ?_
      refine lw_aload_n (j := 3) dL_law_570 rfl rfl ?_
      refine lw_iload_n (j := 0) dL_law_571 rfl rfl ?_
      refine lw_iconst (v := 3) dL_law_572 (by decide) ?_
      refine lw_iadd dL_law_573 ?_
      rw [show nI (4 * k) + 3 = nI (4 * k + 3) from nI_add (4 * k) 3]
      refine lw_sld (j := 4 * k + 3) (by omega) hL dL_law_574 ?_
      obtain ⟨_, hO1⟩ := hI.obj
      refine lw_call (As := [.int (xs (4 * k + 1)), .int (xs (4 * k + 2)), .int (xs (4 * k + 3))]) (rest := []) (ct_X3_packet cy _ G z0 c (xs (4 * k + 1)) (xs (4 * k + 2)) (xs (4 * k + 3)) hI) ok_X3_packet hO1 rfl im_X3_packet sl_X3_packet ml_L_86 nd_X3_packet (by decide +kernel) ⟨by decide, by decide⟩ (Nat.le_of_ble_eq_true rfl) rfl dL_law_575 (fun r1 G2 q1 => ?_)
      have q1 : r1 = (C_packet (xs (4 * k + 1)) (xs (4 * k + 2)) (xs (4 * k + 3)) c) ∧ ca_I cy G G2 z0 c := q1
      have hJ2 : ma_I cy G2 G2 (z0 + 220) c := hJ.keep (fun q g1 g2 => q1.2.fr q (by omega))
      refine lw_aload_n (j := 1) dL_law_578 rfl rfl ?_
      refine lw_aload_n (j := 3) dL_law_579 rfl rfl ?_
      refine lw_iload_n (j := 0) dL_law_580 rfl rfl ?_
      refine lw_iconst (v := 1) dL_law_581 (by decide) ?_
      refine lw_iadd dL_law_582 ?_
      rw [show nI (4 * k) + 1 = nI (4 * k + 1) from nI_add (4 * k) 1]
      refine lw_sld (j := 4 * k + 1) (by omega) hL dL_law_583 ?_
      refine lw_aload_n (j := 3) dL_law_584 rfl rfl ?_
      refine lw_iload_n (j := 0) dL_law_585 rfl rfl ?_
      refine lw_iconst (v := 2) dL_law_586 (by decide) ?_
      refine lw_iadd dL_law_587 ?_
      rw [show nI (4 * k) + 2 = nI (4 * k + 2) from nI_add (4 * k) 2]
      refine lw_sld (j := 4 * k + 2) (by omega) hL dL_law_588 ?_
      refine lw_aload_n (j := 3) dL_law_589 rfl rfl ?_
      refine lw_iload_n (j := 0) dL_law_590 rfl rfl ?_
      refine lw_iconst (v := 3) dL_law_591 (by decide) ?_
      refine lw_iadd dL_law_592 ?_
      rw [show nI (4 * k) + 3 = nI (4 * k + 3) from nI_add (4 * k) 3]
      refine lw_sld (j := 4 * k + 3) (by omega) hL dL_law_593 ?_
      obtain ⟨_, hO2⟩ := hJ2.obj
      refine lw_call (As := [.int (xs (4 * k + 1)), .int (xs (4 * k + 2)), .int (xs (4 * k + 3))]) (rest := [.int r1]) (ct_X4_packet cy _ G2 (z0 + 220) c (xs (4 * k + 1)) (xs (4 * k + 2)) (xs (4 * k + 3)) hJ2) ok_X4_packet hO2 rfl im_X4_packet sl_X4_packet ml_L_89 nd_X4_packet (by decide +kernel) ⟨by decide, by decide⟩ (Nat.le_of_ble_eq_true rfl) rfl dL_law_594 (fun r2 G3 q2 => ?_)
      have q2 : r2 = (C_packet (xs (4 * k + 1)) (xs (4 * k + 2)) (xs (4 * k + 3)) c) ∧ ma_I cy G2 G3 (z0 + 220) c := q2
      refine lw_icmp_eq (tgt := 714) dL_law_597 (by decide) (fun c_e => ?_) (fun c_e => absurd (q1.1.trans q2.1.symm) c_e)
      exact nxt c G3 h4 ((q1.2.self).keep (fun q g1 g2 => q2.2.fr q (by omega))) q2.2.self (hok.mono (by omega))
    · refine lw_tableIn (off := 570) (tgt := 602) dL_law_32 (by decide) (by decide) rfl (by decide) ?_
      refine lw_aload_n (j := 2) dL_law_602 rfl rfl ?_
      refine lw_aload_n (j := 3) dL_law_603 rfl rfl ?_
      refine lw_iload_n (j := 0) dL_law_604 rfl rfl ?_
      refine lw_iconst (v := 1) dL_law_605 (by decide) ?_
      refine lw_iadd dL_law_606 ?_
      rw [show nI (4 * k) + 1 = nI (4 * k + 1) from nI_add (4 * k) 1]
      refine lw_sld (j := 4 * k + 1) (by omega) hL dL_law_607 ?_
      obtain ⟨_, hO1⟩ := hI.obj
      refine lw_call (As := [.int (xs (4 * k + 1))]) (rest := []) (ct_X3_next cy _ G z0 c (xs (4 * k + 1)) (160 * k) hM hok hI) ok_X3_next hO1 rfl im_X3_next sl_X3_next ml_L_90 nd_X3_next (by decide +kernel) ⟨by decide, by decide⟩ (Nat.le_of_ble_eq_true rfl) rfl dL_law_608 (fun r1 G2 q1 => ?_)
      have q1 : r1 = (C_next (xs (4 * k + 1)) c) ∧ ca_I cy G G2 z0 c := q1
      have hJ2 : ma_I cy G2 G2 (z0 + 220) c := hJ.keep (fun q g1 g2 => q1.2.fr q (by omega))
      refine lw_aload_n (j := 1) dL_law_611 rfl rfl ?_
      refine lw_aload_n (j := 3) dL_law_612 rfl rfl ?_
      refine lw_iload_n (j := 0) dL_law_613 rfl rfl ?_
      refine lw_iconst (v := 1) dL_law_614 (by decide) ?_
      refine lw_iadd dL_law_615 ?_
      rw [show nI (4 * k) + 1 = nI (4 * k + 1) from nI_add (4 * k) 1]
      refine lw_sld (j := 4 * k + 1) (by omega) hL dL_law_616 ?_
      obtain ⟨_, hO2⟩ := hJ2.obj
      refine lw_call (As := [.int (xs (4 * k + 1))]) (rest := [.int r1]) (ct_X4_next cy _ G2 (z0 + 220) c (xs (4 * k + 1)) (160 * k) hM hok hJ2) ok_X4_next hO2 rfl im_X4_next sl_X4_next ml_L_93 nd_X4_next (by decide +kernel) ⟨by decide, by decide⟩ (Nat.le_of_ble_eq_true rfl) rfl dL_law_617 (fun r2 G3 q2 => ?_)
      have q2 : r2 = (C_next (xs (4 * k + 1)) c) ∧ ma_I cy G2 G3 (z0 + 220) c := q2
      refine lw_icmp_eq (tgt := 714) dL_law_620 (by decide) (fun c_e => ?_) (fun c_e => absurd (q1.1.trans q2.1.symm) c_e)
      exact nxt c G3 h4 ((q1.2.self).keep (fun q g1 g2 => q2.2.fr q (by omega))) q2.2.self (hok.mono (by omega))
    · refine lw_tableIn (off := 593) (tgt := 625) dL_law_32 (by decide) (by decide) rfl (by decide) ?_
      refine lw_aload_n (j := 2) dL_law_625 rfl rfl ?_
      refine lw_aload_n (j := 3) dL_law_626 rfl rfl ?_
      refine lw_iload_n (j := 0) dL_law_627 rfl rfl ?_
      refine lw_iconst (v := 1) dL_law_628 (by decide) ?_
      refine lw_iadd dL_law_629 ?_
      rw [show nI (4 * k) + 1 = nI (4 * k + 1) from nI_add (4 * k) 1]
      refine lw_sld (j := 4 * k + 1) (by omega) hL dL_law_630 ?_
      refine lw_aload_n (j := 3) dL_law_631 rfl rfl ?_
      refine lw_iload_n (j := 0) dL_law_632 rfl rfl ?_
      refine lw_iconst (v := 2) dL_law_633 (by decide) ?_
      refine lw_iadd dL_law_634 ?_
      rw [show nI (4 * k) + 2 = nI (4 * k + 2) from nI_add (4 * k) 2]
      refine lw_sld (j := 4 * k + 2) (by omega) hL dL_law_635 ?_
      obtain ⟨_, hO1⟩ := hI.obj
      refine lw_call (As := [.int (xs (4 * k + 1)), .int (xs (4 * k + 2))]) (rest := []) (ct_X3_leavesIn cy _ G z0 c (xs (4 * k + 1)) (xs (4 * k + 2)) (160 * k) hM hok hI) ok_X3_leavesIn hO1 rfl im_X3_leavesIn sl_X3_leavesIn ml_L_94 nd_X3_leavesIn (by decide +kernel) ⟨by decide, by decide⟩ (Nat.le_of_ble_eq_true rfl) rfl dL_law_636 (fun r1 G2 q1 => ?_)
      have q1 : r1 = (C_leavesIn (xs (4 * k + 1)) (xs (4 * k + 2)) c) ∧ ca_I cy G G2 z0 c := q1
      have hJ2 : ma_I cy G2 G2 (z0 + 220) c := hJ.keep (fun q g1 g2 => q1.2.fr q (by omega))
      refine lw_aload_n (j := 1) dL_law_639 rfl rfl ?_
      refine lw_aload_n (j := 3) dL_law_640 rfl rfl ?_
      refine lw_iload_n (j := 0) dL_law_641 rfl rfl ?_
      refine lw_iconst (v := 1) dL_law_642 (by decide) ?_
      refine lw_iadd dL_law_643 ?_
      rw [show nI (4 * k) + 1 = nI (4 * k + 1) from nI_add (4 * k) 1]
      refine lw_sld (j := 4 * k + 1) (by omega) hL dL_law_644 ?_
      refine lw_aload_n (j := 3) dL_law_645 rfl rfl ?_
      refine lw_iload_n (j := 0) dL_law_646 rfl rfl ?_
      refine lw_iconst (v := 2) dL_law_647 (by decide) ?_
      refine lw_iadd dL_law_648 ?_
      rw [show nI (4 * k) + 2 = nI (4 * k + 2) from nI_add (4 * k) 2]
      refine lw_sld (j := 4 * k + 2) (by omega) hL dL_law_649 ?_
      obtain ⟨_, hO2⟩ := hJ2.obj
      refine lw_call (As := [.int (xs (4 * k + 1)), .int (xs (4 * k + 2))]) (rest := [.int r1]) (ct_X4_leavesIn cy _ G2 (z0 + 220) c (xs (4 * k + 1)) (xs (4 * k + 2)) (160 * k) hM hok hJ2) ok_X4_leavesIn hO2 rfl im_X4_leavesIn sl_X4_leavesIn ml_L_97 nd_X4_leavesIn (by decide +kernel) ⟨by decide, by decide⟩ (Nat.le_of_ble_eq_true rfl) rfl dL_law_650 (fun r2 G3 q2 => ?_)
      have q2 : r2 = (C_leavesIn (xs (4 * k + 1)) (xs (4 * k + 2)) c) ∧ ma_I cy G2 G3 (z0 + 220) c := q2
      refine lw_icmp_eq (tgt := 714) dL_law_653 (by decide) (fun c_e => ?_) (fun c_e => absurd (q1.1.trans q2.1.symm) c_e)
      exact nxt c G3 h4 ((q1.2.self).keep (fun q g1 g2 => q2.2.fr q (by omega))) q2.2.self (hok.mono (by omega))
    · refine lw_tableIn (off := 626) (tgt := 658) dL_law_32 (by decide) (by decide) rfl (by decide) ?_
      refine lw_aload_n (j := 2) dL_law_658 rfl rfl ?_
      refine lw_aload_n (j := 3) dL_law_659 rfl rfl ?_
      refine lw_iload_n (j := 0) dL_law_660 rfl rfl ?_
      refine lw_iconst (v := 1) dL_law_661 (by decide) ?_
      refine lw_iadd dL_law_662 ?_
      rw [show nI (4 * k) + 1 = nI (4 * k + 1) from nI_add (4 * k) 1]
      refine lw_sld (j := 4 * k + 1) (by omega) hL dL_law_663 ?_
      refine lw_aload_n (j := 3) dL_law_664 rfl rfl ?_
      refine lw_iload_n (j := 0) dL_law_665 rfl rfl ?_
      refine lw_iconst (v := 2) dL_law_666 (by decide) ?_
      refine lw_iadd dL_law_667 ?_
      rw [show nI (4 * k) + 2 = nI (4 * k + 2) from nI_add (4 * k) 2]
      refine lw_sld (j := 4 * k + 2) (by omega) hL dL_law_668 ?_
      obtain ⟨_, hO1⟩ := hI.obj
      refine lw_call (As := [.int (xs (4 * k + 1)), .int (xs (4 * k + 2))]) (rest := []) (ct_X3_wouldSend cy _ G z0 c (xs (4 * k + 1)) (xs (4 * k + 2)) (160 * k) hM hok hI) ok_X3_wouldSend hO1 rfl im_X3_wouldSend sl_X3_wouldSend ml_L_98 nd_X3_wouldSend (by decide +kernel) ⟨by decide, by decide⟩ (Nat.le_of_ble_eq_true rfl) rfl dL_law_669 (fun r1 G2 q1 => ?_)
      have q1 : r1 = (C_wouldSend (xs (4 * k + 1)) (xs (4 * k + 2)) c) ∧ ca_I cy G G2 z0 c := q1
      have hJ2 : ma_I cy G2 G2 (z0 + 220) c := hJ.keep (fun q g1 g2 => q1.2.fr q (by omega))
      refine lw_aload_n (j := 1) dL_law_672 rfl rfl ?_
      refine lw_aload_n (j := 3) dL_law_673 rfl rfl ?_
      refine lw_iload_n (j := 0) dL_law_674 rfl rfl ?_
      refine lw_iconst (v := 1) dL_law_675 (by decide) ?_
      refine lw_iadd dL_law_676 ?_
      rw [show nI (4 * k) + 1 = nI (4 * k + 1) from nI_add (4 * k) 1]
      refine lw_sld (j := 4 * k + 1) (by omega) hL dL_law_677 ?_
      refine lw_aload_n (j := 3) dL_law_678 rfl rfl ?_
      refine lw_iload_n (j := 0) dL_law_679 rfl rfl ?_
      refine lw_iconst (v := 2) dL_law_680 (by decide) ?_
      refine lw_iadd dL_law_681 ?_
      rw [show nI (4 * k) + 2 = nI (4 * k + 2) from nI_add (4 * k) 2]
      refine lw_sld (j := 4 * k + 2) (by omega) hL dL_law_682 ?_
      obtain ⟨_, hO2⟩ := hJ2.obj
      refine lw_call (As := [.int (xs (4 * k + 1)), .int (xs (4 * k + 2))]) (rest := [.int r1]) (ct_X4_wouldSend cy _ G2 (z0 + 220) c (xs (4 * k + 1)) (xs (4 * k + 2)) (160 * k) hM hok hJ2) ok_X4_wouldSend hO2 rfl im_X4_wouldSend sl_X4_wouldSend ml_L_101 nd_X4_wouldSend (by decide +kernel) ⟨by decide, by decide⟩ (Nat.le_of_ble_eq_true rfl) rfl dL_law_683 (fun r2 G3 q2 => ?_)
      have q2 : r2 = (C_wouldSend (xs (4 * k + 1)) (xs (4 * k + 2)) c) ∧ ma_I cy G2 G3 (z0 + 220) c := q2
      refine lw_icmp_eq (tgt := 714) dL_law_686 (by decide) (fun c_e => ?_) (fun c_e => absurd (q1.1.trans q2.1.symm) c_e)
      exact nxt c G3 h4 ((q1.2.self).keep (fun q g1 g2 => q2.2.fr q (by omega))) q2.2.self (hok.mono (by omega))
    · refine lw_tableIn (off := 659) (tgt := 691) dL_law_32 (by decide) (by decide) rfl (by decide) ?_
      refine lw_aload_n (j := 2) dL_law_691 rfl rfl ?_
      refine lw_aload_n (j := 3) dL_law_692 rfl rfl ?_
      refine lw_iload_n (j := 0) dL_law_693 rfl rfl ?_
      refine lw_iconst (v := 1) dL_law_694 (by decide) ?_
      refine lw_iadd dL_law_695 ?_
      rw [show nI (4 * k) + 1 = nI (4 * k + 1) from nI_add (4 * k) 1]
      refine lw_sld (j := 4 * k + 1) (by omega) hL dL_law_696 ?_
      obtain ⟨_, hO1⟩ := hI.obj
      refine lw_call (As := [.int (xs (4 * k + 1))]) (rest := []) (ct_X3_count cy _ G z0 c (xs (4 * k + 1)) hI) ok_X3_count hO1 rfl im_X3_count sl_X3_count ml_L_102 nd_X3_count (by decide +kernel) ⟨by decide, by decide⟩ (Nat.le_of_ble_eq_true rfl) rfl dL_law_697 (fun r1 G2 q1 => ?_)
      have q1 : r1 = (C_count (xs (4 * k + 1)) c) ∧ ca_I cy G G2 z0 c := q1
      have hJ2 : ma_I cy G2 G2 (z0 + 220) c := hJ.keep (fun q g1 g2 => q1.2.fr q (by omega))
      refine lw_aload_n (j := 1) dL_law_700 rfl rfl ?_
      refine lw_aload_n (j := 3) dL_law_701 rfl rfl ?_
      refine lw_iload_n (j := 0) dL_law_702 rfl rfl ?_
      refine lw_iconst (v := 1) dL_law_703 (by decide) ?_
      refine lw_iadd dL_law_704 ?_
      rw [show nI (4 * k) + 1 = nI (4 * k + 1) from nI_add (4 * k) 1]
      refine lw_sld (j := 4 * k + 1) (by omega) hL dL_law_705 ?_
      obtain ⟨_, hO2⟩ := hJ2.obj
      refine lw_call (As := [.int (xs (4 * k + 1))]) (rest := [.int r1]) (ct_X4_count cy _ G2 (z0 + 220) c (xs (4 * k + 1)) hJ2) ok_X4_count hO2 rfl im_X4_count sl_X4_count ml_L_105 nd_X4_count (by decide +kernel) ⟨by decide, by decide⟩ (Nat.le_of_ble_eq_true rfl) rfl dL_law_706 (fun r2 G3 q2 => ?_)
      have q2 : r2 = (C_count (xs (4 * k + 1)) c) ∧ ma_I cy G2 G3 (z0 + 220) c := q2
      refine lw_icmp_eq (tgt := 714) dL_law_709 (by decide) (fun c_e => ?_) (fun c_e => absurd (q1.1.trans q2.1.symm) c_e)
      exact nxt c G3 h4 ((q1.2.self).keep (fun q g1 g2 => q2.2.fr q (by omega))) q2.2.self (hok.mono (by omega))
    · refine lw_tableOut (tgt := 714) dL_law_32 c_op (by decide) ?_
      exact nxt c G h4 hI hJ (hok.mono (by omega))

set_option maxHeartbeats 4000000 in
set_option maxRecDepth 100000 in
theorem lw_all (cy : Nat → ClassId) (b L : Nat) (xs : Nat → Int32) (z0 : Nat) (hL : L ≤ 2048) : lw_R cy b L xs z0 z0 0 [(0, .ref b)] [] (fun _ => none) 0 0 := by
  refine lw_new (fs := [.null, .null, .null, .int 0, .null, .int 0, .null, .int 0]) cc_c3 cl_L_7 ib_X3 in_X3 bl_X3 (by decide) (by decide) dL_law_0 (fun G1 w1 h1 => ?_)
  refine lw_dup dL_law_3 rfl ?_
  refine lw_init (ct_X3_init cy z0 G1 h1) ok_X3_init im_X3_init ml_L_9 nd_X3_init (by decide +kernel) ⟨by decide, by decide⟩ (Nat.le_of_ble_eq_true rfl) dL_law_4 (fun G2 hI2 => ?_)
  refine lw_zz (z' := z0 + 220) (m1 := 220) (m2 := 1794) rfl (by decide) (by decide) ?_
  refine lw_astore_n (ls' := [(1, .ref z0), (0, .ref b)]) dL_law_7 rfl (Nat.le_of_ble_eq_true rfl) rfl ?_
  refine lw_new (fs := [.null, .null, .null, .null, .int 0, .int 0, .null, .int 0, .int 0, .null, .null]) cc_c4 cl_L_10 ib_X4 in_X4 bl_X4 (by decide) (by decide) dL_law_8 (fun G3 w3 h3 => ?_)
  have hI3 : ca_I cy G3 G3 z0 _ := hI2.self.keep (fun q g1 g2 => w3 q (by omega))
  refine lw_dup dL_law_11 rfl ?_
  refine lw_init (ct_X4_init cy (z0 + 220) G3 h3) ok_X4_init im_X4_init ml_L_12 nd_X4_init (by decide +kernel) ⟨by decide, by decide⟩ (Nat.le_of_ble_eq_true rfl) dL_law_12 (fun G4 hJ4 => ?_)
  refine lw_zz (z' := z0 + 228) (m1 := 228) (m2 := 3497) rfl (by decide) (by decide) ?_
  refine lw_astore_n (ls' := [(2, .ref (z0 + 220)), (1, .ref z0), (0, .ref b)]) dL_law_15 rfl (Nat.le_of_ble_eq_true rfl) rfl ?_
  refine lw_iconst (v := 0) dL_law_16 (by decide) ?_
  refine lw_istore_n (ls' := [(3, .int 0), (2, .ref (z0 + 220)), (1, .ref z0), (0, .ref b)]) dL_law_17 rfl (Nat.le_of_ble_eq_true rfl) rfl ?_
  exact lw_loop cy b L xs z0 hL (L + 1) 0 (B0_, none, [], []) G4 (by omega) (by omega) (hI3.keep (fun q g1 g2 => hJ4.fr q (by omega))) hJ4.self C_ok_0
/-- YOUR PART: from the entry, for every script of at most 2048 ints, the law comes to its end with true -/
theorem whole_start {p : Program} {e : Env} {s : State} {m : MethodId} {below : List Frame} {meth : Method} {c : Code} (l : Launch) (hflags : l.flags = flags0) {b L : Nat} {xs : Nat → Int32} (hL : L ≤ 2048) (C0 : lw_At p s m meth c b L xs) : W p l e room_1 s m #[Value.ref b] below meth c s.heap [] 0 0 (lw_Z below #[Value.ref b] s) (entryFrame m ([Value.ref b] : List Value).toArray 4) := by
  obtain ⟨hx, hb, hr, hml, hown, hts, hX, hbl, hlocks, -⟩ := C0
  obtain ⟨D, cy, hci⟩ := lw_start hts
  have hl := lv_entry [.ref b] (n := 4) (Nat.le_of_ble_eq_true rfl)
  rw [lg_entry_eq]
  exact lw_all cy b L xs s.heap.size hL (D := D) ⟨hx, hb, hml, hr, hlocks, hown, fun w hw => hts w (List.mem_filter.mp hw).1, hci, hX, hbl⟩ rfl ⟨rfl, fun a e9 h9 => by cases h9⟩ va_S.rf hl
