/-! the whole object: the box, the snapshot, the history (the oldest first), the text -/
abbrev CS_ : Type := St_ × Option St_ × List St_ × List Int32
/-- where the seven boxes of an object at h lie: the state, the trial, the snapshot, four of the history -/
def cb (h k : Nat) : Nat := if k < 3 then h + 1 + 31 * k else h + 3 + 31 * k
theorem cb_ap (h : Nat) {k j : Nat} (hk : k ≠ j) : cb h k + 31 ≤ cb h j ∨ cb h j + 31 ≤ cb h k := by
  unfold cb
  split <;> split <;> omega
theorem cb_in (h : Nat) {k : Nat} (hk : k < 7) : h < cb h k ∧ cb h k + 31 ≤ h + 220 ∧ (cb h k + 31 ≤ h + 94 ∨ h + 96 ≤ cb h k) := by
  unfold cb
  split <;> omega
def ca_fs (h : Nat) (hS nH nT : Int32) : List Value := [.ref (h + 1), .ref (h + 32), .ref (h + 63), .int hS, .ref (h + 94), .int nH, .ref (h + 95), .int nT]
def ca_h (h : Nat) (π : Nat → Nat) : Nat → Option Nat := fun i => some (cb h (3 + π i))
def ca_R (cy : Nat → ClassId) (G0 G : cc_G) (h : Nat) (BS : Nat → St_) (hS : Int32) (π : Nat → Nat) (nH : Int32) (tx : Nat → Int32) (nT : Int32) : Prop :=
  (∀ q : Nat, (q < h ∨ h + 220 ≤ q) → G q = G0 q) ∧ G h = some (.inr (3, ca_fs h hS nH nT)) ∧ (∀ k, k < 7 → bx_E cy G G (cb h k) (BS k)) ∧ G (h + 94) = some (.inl (cy 3, 4, .inr (.inr (.inr (.inr (ca_h h π)))))) ∧ G (h + 95) = some (.inl (cy 0, 60, .inl tx))
/-- four places, each once -/
def ca_P (π : Nat → Nat) : Prop := (∀ i, i < 4 → π i < 4) ∧ ∀ i j, i < 4 → j < 4 → π i = π j → i = j
def ca_S (hS : Int32) (BS : Nat → St_) (s : Option St_) : Prop := (s = none ∧ hS = 0) ∨ (s = some (BS 2) ∧ hS = 1)
def ca_I (cy : Nat → ClassId) (G0 G : cc_G) (h : Nat) (c : CS_) : Prop := ∃ BS hS π tx, ca_R cy G0 G h BS hS π (nI c.2.2.1.length) tx (nI c.2.2.2.length) ∧ c.1 = BS 0 ∧ ca_S hS BS c.2.1 ∧ ca_P π ∧ (∀ (i : Nat) (hi : i < c.2.2.1.length), BS (3 + π i) = c.2.2.1[i]) ∧ c.2.2.1.length ≤ 4 ∧ ar_ tx c.2.2.2 ∧ c.2.2.2.length ≤ 60
theorem ca_R.self {cy : Nat → ClassId} {G0 G : cc_G} {h : Nat} {BS : Nat → St_} {hS nH nT : Int32} {π : Nat → Nat} {tx : Nat → Int32} (H : ca_R cy G0 G h BS hS π nH tx nT) : ca_R cy G G h BS hS π nH tx nT := ⟨fun _ _ => rfl, H.2⟩
theorem ca_R.tr {cy : Nat → ClassId} {G0 G1 G2 : cc_G} {h : Nat} {BS BS' : Nat → St_} {hS nH nT hS' nH' nT' : Int32} {π π' : Nat → Nat} {tx tx' : Nat → Int32} (H : ca_R cy G0 G1 h BS hS π nH tx nT) (H2 : ca_R cy G1 G2 h BS' hS' π' nH' tx' nT') : ca_R cy G0 G2 h BS' hS' π' nH' tx' nT' := ⟨fun q hq => (H2.1 q hq).trans (H.1 q hq), H2.2⟩
theorem ca_I.self {cy : Nat → ClassId} {G0 G : cc_G} {h : Nat} {c : CS_} (H : ca_I cy G0 G h c) : ca_I cy G G h c := by
  obtain ⟨BS, hS, π, tx, h1, h2⟩ := H
  exact ⟨BS, hS, π, tx, h1.self, h2⟩
theorem ca_I.tr {cy : Nat → ClassId} {G0 G1 G2 : cc_G} {h : Nat} {c c' : CS_} (H : ca_I cy G0 G1 h c) (H2 : ca_I cy G1 G2 h c') : ca_I cy G0 G2 h c' := by
  obtain ⟨_, _, _, _, h1, -⟩ := H
  obtain ⟨BS, hS, π, tx, h2, h3⟩ := H2
  exact ⟨BS, hS, π, tx, h1.tr h2, h3⟩
/-- behind a change of one of the boxes -/
theorem ca_R.slot {cy : Nat → ClassId} {G0 G G1 : cc_G} {h : Nat} {BS : Nat → St_} {hS nH nT : Int32} {π : Nat → Nat} {tx : Nat → Int32} (H : ca_R cy G0 G h BS hS π nH tx nT) {k : Nat} (hk : k < 7) {S : St_} {b : Nat} (hb : b = cb h k) (hq : bx_E cy G G1 b S) : ca_R cy G0 G1 h (va_up BS k S) hS π nH tx nT := by
  subst hb
  have fr := hq.fr
  have hin := cb_in h hk
  refine ⟨fun q hq => (fr q (by omega)).trans (H.1 q hq), (fr _ (by omega)).trans H.2.1, fun j hj => ?_, (fr _ (by omega)).trans H.2.2.2.1, (fr _ (by omega)).trans H.2.2.2.2⟩
  by_cases hjk : j = k
  · subst hjk
    rw [va_up_self]
    exact hq.self
  · rw [va_up_ne _ _ hjk]
    have ap := cb_ap h hjk
    exact (H.2.2.1 j hj).keep (fun q h1 h2 => fr q (by omega))
theorem ca_R.b0 {cy : Nat → ClassId} {G0 G : cc_G} {h : Nat} {BS : Nat → St_} {hS nH nT : Int32} {π : Nat → Nat} {tx : Nat → Int32} (H : ca_R cy G0 G h BS hS π nH tx nT) : bx_E cy G G (h + 1) (BS 0) := H.2.2.1 0 (by decide)
theorem ca_R.b1 {cy : Nat → ClassId} {G0 G : cc_G} {h : Nat} {BS : Nat → St_} {hS nH nT : Int32} {π : Nat → Nat} {tx : Nat → Int32} (H : ca_R cy G0 G h BS hS π nH tx nT) : bx_E cy G G (h + 32) (BS 1) := H.2.2.1 1 (by decide)
theorem ca_R.b2 {cy : Nat → ClassId} {G0 G : cc_G} {h : Nat} {BS : Nat → St_} {hS nH nT : Int32} {π : Nat → Nat} {tx : Nat → Int32} (H : ca_R cy G0 G h BS hS π nH tx nT) : bx_E cy G G (h + 63) (BS 2) := H.2.2.1 2 (by decide)
section CAR
variable {cy : Nat → ClassId} {Y : cc_Y} {z pc : Nat} {ls : List (Nat × Value)} {st : List Value} {G0 G : cc_G} {Q : Option Value → cc_G → Prop} {h idx : Nat} {BS : Nat → St_} {hS nH nT hS' nH' nT' : Int32} {π : Nat → Nat} {tx : Nat → Int32} {x : Int32}
theorem ca_rput (H : ca_R cy G0 G h BS hS π nH tx nT) (hcl : cc_Cl 3 Y.1.cls TX3 8 tyX3) (k0 : Nat) (hk0 : k0 < 8) (hln : Cond.fieldLink Y.1.cls idx (TX3 k0).1 (TX3 k0).2.1 (TX3 k0).2.2.1 ∈ cc_GT) (hfin : (TX3 k0).2.2.2 = false) {ty : FieldType} (hdt : parseFieldDescriptor (TX3 k0).2.2.1 = some ty) (hn : narrow ty (.int x) = .int x) (hfit : fits ty (.int x) = true) (hset : (ca_fs h hS nH nT).set k0 (.int x) = ca_fs h hS' nH' nT') (hd : decode Y.2.1 pc = .ok (.putfield idx, 3)) (k : ∀ G1, ca_R cy G0 G1 h BS hS' π nH' tx nT' → cc_R cy Y z (pc + 3) ls st G1 Q) : cc_R cy Y z pc ls (.int x :: .ref h :: st) G Q := by
  refine cc_put H.2.1 hcl k0 hk0 hln hfin hdt hn hfit hk0 hd ?_
  rw [hset]
  exact k _ ⟨fun q hq => by rw [va_up_ne _ _ (by omega)]; exact H.1 q hq, va_up_self _ _ _, fun j hj => (H.2.2.1 j hj).keep (fun q h1 h2 => va_up_ne _ _ (by have := cb_in h hj; omega)), by rw [va_up_ne _ _ (by omega)]; exact H.2.2.2.1, by rw [va_up_ne _ _ (by omega)]; exact H.2.2.2.2⟩
theorem ca_rchar {i : Int32} {j : Nat} (H : ca_R cy G0 G h BS hS π nH tx nT) (hin : vp_in i 60) (hj : i.toNatClampNeg = j) (hx : vp_nar .char x = x) (hd : decode Y.2.1 pc = .ok (.castore, 1)) (k : ∀ G1, ca_R cy G0 G1 h BS hS π nH (upd tx j x) nT → cc_R cy Y z (pc + 1) ls st G1 Q) : cc_R cy Y z pc ls (.int x :: .int i :: .ref (h + 95) :: st) G Q := by
  refine cc_cast H.2.2.2.2 hin hj hd ?_
  rw [hx]
  exact k _ ⟨fun q hq => by rw [va_up_ne _ _ (by omega)]; exact H.1 q hq, by rw [va_up_ne _ _ (by omega)]; exact H.2.1, fun j hj => (H.2.2.1 j hj).keep (fun q h1 h2 => va_up_ne _ _ (by have := cb_in h hj; omega)), by rw [va_up_ne _ _ (by omega)]; exact H.2.2.2.1, va_up_self _ _ _⟩
/-- a place of the history is written with the box of a place -/
theorem ca_rhist {i : Int32} {j p : Nat} (H : ca_R cy G0 G h BS hS π nH tx nT) (hp : p < 4) (hin : vp_in i 4) (hj : i.toNatClampNeg = j) (hd : decode Y.2.1 pc = .ok (.aastore, 1)) (k : ∀ G1, ca_R cy G0 G1 h BS hS (va_up π j p) nH tx nT → cc_R cy Y z (pc + 1) ls st G1 Q) : cc_R cy Y z pc ls (.ref (cb h (3 + p)) :: .int i :: .ref (h + 94) :: st) G Q := by
  refine cc_aast3 H.2.2.2.1 (H.2.2.1 (3 + p) (by omega)).obj hin hj hd ?_
  have e : va_up (ca_h h π) j (some (cb h (3 + p))) = ca_h h (va_up π j p) := by
    funext q
    by_cases hq : q = j
    · subst hq
      rw [va_up_self]
      show _ = some (cb h (3 + va_up π q p q))
      rw [va_up_self]
    · rw [va_up_ne _ _ hq]
      show some (cb h (3 + π q)) = some (cb h (3 + va_up π j p q))
      rw [va_up_ne _ _ hq]
  rw [e]
  exact k _ ⟨fun q hq => by rw [va_up_ne _ _ (by omega)]; exact H.1 q hq, by rw [va_up_ne _ _ (by omega)]; exact H.2.1, fun j hj => (H.2.2.1 j hj).keep (fun q h1 h2 => va_up_ne _ _ (by have := cb_in h hj; omega)), va_up_self _ _ _, by rw [va_up_ne _ _ (by omega)]; exact H.2.2.2.2⟩
end CAR
theorem ca_I.obj {cy : Nat → ClassId} {G0 G : cc_G} {h : Nat} {c : CS_} (H : ca_I cy G0 G h c) : ∃ hS, G h = some (.inr (3, ca_fs h hS (nI c.2.2.1.length) (nI c.2.2.2.length))) := by
  obtain ⟨BS, hS, π, tx, h1, h2⟩ := H
  exact ⟨hS, h1.2.1⟩
theorem ca_I.box0 {cy : Nat → ClassId} {G0 G : cc_G} {h : Nat} {c : CS_} (H : ca_I cy G0 G h c) : bx_E cy G G (h + 1) c.1 := by
  obtain ⟨BS, hS, π, tx, h1, h2, -⟩ := H
  rw [h2]
  exact h1.b0
theorem ca_I.trial {cy : Nat → ClassId} {G0 G : cc_G} {h : Nat} {c : CS_} (H : ca_I cy G0 G h c) : ∃ S, bx_E cy G G (h + 32) S := by
  obtain ⟨BS, hS, π, tx, h1, h2, -⟩ := H
  exact ⟨_, h1.b1⟩
theorem ca_I.box {cy : Nat → ClassId} {G0 G G1 : cc_G} {h : Nat} {c : CS_} {S : St_} (H : ca_I cy G0 G h c) (hq : bx_E cy G G1 (h + 1) S) : ca_I cy G0 G1 h (S, c.2) := by
  obtain ⟨BS, hS, π, tx, h1, h2, h3, h4, h5, h6⟩ := H
  refine ⟨va_up BS 0 S, hS, π, tx, h1.slot (k := 0) (by decide) rfl hq, (va_up_self _ _ _).symm, ?_, h4, fun i hi => ?_, h6⟩
  · rcases h3 with ⟨a, b⟩ | ⟨a, b⟩
    · exact Or.inl ⟨a, b⟩
    · exact Or.inr ⟨by rw [va_up_ne _ _ (by decide)]; exact a, b⟩
  · rw [va_up_ne _ _ (by omega)]
    exact h5 i hi
theorem ca_I.trialup {cy : Nat → ClassId} {G0 G G1 : cc_G} {h : Nat} {c : CS_} {S : St_} (H : ca_I cy G0 G h c) (hq : bx_E cy G G1 (h + 32) S) : ca_I cy G0 G1 h c := by
  obtain ⟨BS, hS, π, tx, h1, h2, h3, h4, h5, h6⟩ := H
  refine ⟨va_up BS 1 S, hS, π, tx, h1.slot (k := 1) (by decide) rfl hq, h2.trans (va_up_ne _ _ (by decide)).symm, ?_, h4, fun i hi => ?_, h6⟩
  · rcases h3 with ⟨a, b⟩ | ⟨a, b⟩
    · exact Or.inl ⟨a, b⟩
    · exact Or.inr ⟨by rw [va_up_ne _ _ (by decide)]; exact a, b⟩
  · rw [va_up_ne _ _ (by omega)]
    exact h5 i hi
theorem ca_I.push {cy : Nat → ClassId} {G0 G : cc_G} {h : Nat} {BS : Nat → St_} {hS nH : Int32} {π : Nat → Nat} {tx : Nat → Int32} {S : St_} {sn : Option St_} {hi : List St_} {t : List Int32} (H : ca_R cy G0 G h (va_up BS (3 + π hi.length) S) hS π nH tx (nI t.length)) (hn : nH = nI (hi.length + 1)) (e0 : S = BS 0) (eS : ca_S hS BS sn) (hP : ca_P π) (hH : ∀ (i : Nat) (hq : i < hi.length), BS (3 + π i) = hi[i]) (hl : hi.length < 4) (hT : ar_ tx t) (h60 : t.length ≤ 60) : ca_I cy G0 G h (S, sn, hi ++ [S], t) := by
  refine ⟨va_up BS (3 + π hi.length) S, hS, π, tx, ?_, ?_, ?_, hP, fun i hi2 => ?_, ?_, hT, h60⟩
  · show ca_R cy G0 G h (va_up BS (3 + π hi.length) S) hS π (nI (hi ++ [S]).length) tx (nI t.length)
    rw [List.length_append, List.length_singleton, ← hn]
    exact H
  · show S = va_up BS (3 + π hi.length) S 0
    rw [va_up_ne _ _ (by omega)]
    exact e0
  · rcases eS with ⟨a, b⟩ | ⟨a, b⟩
    · exact Or.inl ⟨a, b⟩
    · exact Or.inr ⟨by rw [va_up_ne _ _ (by omega)]; exact a, b⟩
  · have hi3 : i < hi.length + 1 := by
      have : i < (hi ++ [S]).length := hi2
      rw [List.length_append, List.length_singleton] at this
      exact this
    show va_up BS (3 + π hi.length) S (3 + π i) = (hi ++ [S])[i]
    by_cases hq : i = hi.length
    · subst hq
      rw [va_up_self]
      simp
    · rw [va_up_ne _ _ (fun q => hq (hP.2 i hi.length (by omega) (by omega) (by omega))), List.getElem_append_left (by omega)]
      exact hH i (by omega)
  · show (hi ++ [S]).length ≤ 4
    rw [List.length_append, List.length_singleton]
    omega
def ca_rot (π : Nat → Nat) : Nat → Nat := va_up (va_up (va_up (va_up π 0 (π 1)) 1 (π 2)) 2 (π 3)) 3 (π 0)
theorem ca_rot_at (π : Nat → Nat) : ca_rot π 0 = π 1 ∧ ca_rot π 1 = π 2 ∧ ca_rot π 2 = π 3 ∧ ca_rot π 3 = π 0 := ⟨rfl, rfl, rfl, rfl⟩
theorem ca_P.rot {π : Nat → Nat} (h : ca_P π) : ca_P (ca_rot π) := by
  obtain ⟨r0, r1, r2, r3⟩ := ca_rot_at π
  have k : ∀ i, i < 4 → ∃ j, j < 4 ∧ ca_rot π i = π j ∧ (j = i + 1 ∨ (i = 3 ∧ j = 0)) := by
    intro i hi
    match i, hi with
    | 0, _ => exact ⟨1, by decide, r0, by omega⟩
    | 1, _ => exact ⟨2, by decide, r1, by omega⟩
    | 2, _ => exact ⟨3, by decide, r2, by omega⟩
    | 3, _ => exact ⟨0, by decide, r3, by omega⟩
  refine ⟨fun i hi => ?_, fun i j hi hj e => ?_⟩
  · obtain ⟨m, hm, e, -⟩ := k i hi
    rw [e]
    exact h.1 m hm
  · obtain ⟨m, hm, e1, a1⟩ := k i hi
    obtain ⟨n, hn, e2, a2⟩ := k j hj
    have := h.2 m n hm hn (by rw [← e1, ← e2]; exact e)
    omega
/-! what each call answers, and what it leaves -/
def C_i (x : Int32) : Nat := x.toNatClampNeg
def C_rem (c : CS_) : CS_ := (c.1, c.2.1, (if 4 ≤ c.2.2.1.length then c.2.2.1.tail else c.2.2.1) ++ [c.1], c.2.2.2)
def C_box (c : CS_) (S : St_) : CS_ := (S, c.2)
def S_lane (S : St_) (i : Nat) (L : Ln_) : St_ := (S.1, va_up S.2.1 i L, S.2.2)
def C_mostL (w : Int32) : Int32 := if w = 0 then 8 else if w = 1 then 9 else if w = 2 then 6 else (-1)
def C_mostB (w : Int32) : Int32 := if w = 0 then 1 else if w = 1 then 60 else (-1)
def L_set (w : Int32) (L : Ln_) : Int32 := if w = 0 then L.1 0 else if w = 1 then L.1 1 else L.1 2
def L_chg (w y : Int32) (L : Ln_) : Ln_ := (if w = 0 then upd (upd L.1 3 (L.1 3 + (y - L.1 0))) 0 y else if w = 1 then upd L.1 1 y else upd L.1 2 y, L.2)
def C_setLane (x w y : Int32) (c : CS_) : Int32 × CS_ :=
  if 0 ≤ x ∧ x < 4 then
    if y < 1 ∨ C_mostL w < y then (-2, c) else
    if w = 0 ∧ y < nI (c.1.2.1 (C_i x)).2.1.length then (-4, c) else
    if L_set w (c.1.2.1 (C_i x)) = y then (-5, c) else
    (L_set w (c.1.2.1 (C_i x)), C_box (C_rem c) (S_lane c.1 (C_i x) (L_chg w y (c.1.2.1 (C_i x)))))
  else (-1, c)
def C_set (w y : Int32) (c : CS_) : Int32 × CS_ :=
  if y < 0 ∨ C_mostB w < y then (-2, c) else
  if w = 0 then (if c.1.1 1 = y then (-5, c) else (c.1.1 1, C_box (C_rem c) (upd c.1.1 1 y, c.1.2)))
  else (if c.1.1 2 = y then (-5, c) else (c.1.1 2, C_box (C_rem c) (upd c.1.1 2 y, c.1.2)))
def C_arrive (x o : Int32) (c : CS_) : Int32 × CS_ :=
  if (0 ≤ x ∧ x < 4) ∧ 0 ≤ o ∧ o < 4 then
    if (c.1.2.2 (C_i x)).2.2.length < 8 then (c.1.1 3, C_box (C_rem c) (B_adm (C_i x) o c.1)) else (-3, c)
  else (-1, c)
def C_pass (n : Int32) (c : CS_) : Int32 × CS_ :=
  if 1 ≤ n ∧ n ≤ 50 then
    if 9999 < c.1.1 0 + n then (-4, c) else (nI (B_pass (C_i n) c.1).1, C_box (C_rem c) (B_pass (C_i n) c.1).2)
  else (-2, c)
def C_lose (x : Int32) (c : CS_) : Int32 × CS_ :=
  if 0 ≤ x ∧ x < 4 then
    if (c.1.2.1 (C_i x)).2.2.length = 0 then (-4, c) else (nI ((c.1.2.1 (C_i x)).2.2.length - 1), C_box (C_rem c) (S_lane c.1 (C_i x) (L_lose (c.1.2.1 (C_i x)))))
  else (-1, c)
def C_forge (x : Int32) (c : CS_) : Int32 × CS_ :=
  if 0 ≤ x ∧ x < 4 then
    if 16 ≤ (c.1.2.1 (C_i x)).1 3 then (-3, c) else ((c.1.2.1 (C_i x)).1 3 + 1 + 100, C_box (C_rem c) (S_lane c.1 (C_i x) (upd (c.1.2.1 (C_i x)).1 3 ((c.1.2.1 (C_i x)).1 3 + 1), (c.1.2.1 (C_i x)).2)))
  else (-1, c)
def L_mis (L : Ln_) : Int32 := L.1 0 - L.1 3 - nI L.2.1.length - nI L.2.2.length
def C_repair (x : Int32) (c : CS_) : Int32 × CS_ :=
  if 0 ≤ x ∧ x < 4 then
    if L_mis (c.1.2.1 (C_i x)) = 0 then (-5, c) else (L_mis (c.1.2.1 (C_i x)) + 100, C_box (C_rem c) (S_lane c.1 (C_i x) (L_mend (c.1.2.1 (C_i x)))))
  else (-1, c)
def C_type (x : Int32) (c : CS_) : Int32 × CS_ :=
  if c.2.2.2.length < 60 then (nI (c.2.2.2.length + 1), (c.1, c.2.1, c.2.2.1, c.2.2.2 ++ [x])) else (-3, c)
def C_clearText (c : CS_) : Int32 × CS_ := (nI c.2.2.2.length, (c.1, c.2.1, c.2.2.1, []))
def C_undo (c : CS_) : Int32 × CS_ :=
  if c.2.2.1.length = 0 then (-5, c) else (nI (c.2.2.1.length - 1), (c.2.2.1.getD (c.2.2.1.length - 1) c.1, c.2.1, c.2.2.1.take (c.2.2.1.length - 1), c.2.2.2))
def C_keep (c : CS_) : Int32 × CS_ := (c.1.1 0, (c.1, some c.1, c.2.2))
def C_restore (c : CS_) : Int32 × CS_ := match c.2.1 with
  | none => (-5, c)
  | some s => (s.1 0, C_box (C_rem c) s)
noncomputable def C_lane (x w : Int32) (c : CS_) : Int32 :=
  if 0 ≤ x ∧ x < 4 then
    if w = 12 then nI (B_wt x c.1 4) else if w = 13 then nI (B_stb c.1 (C_i x)) else L_fig w (c.1.2.1 (C_i x))
  else (-1)
def C_seated (x p : Int32) (c : CS_) : Int32 :=
  if 0 ≤ x ∧ x < 4 then
    if p < 0 then (-2) else if p < nI (c.1.2.1 (C_i x)).2.1.length then (c.1.2.1 (C_i x)).2.1.getD (C_i p) 0 else (-5)
  else (-1)
def C_onTheWay (x p : Int32) (c : CS_) : Int32 :=
  if 0 ≤ x ∧ x < 4 then
    if p < 0 then (-2) else if p < nI (c.1.2.1 (C_i x)).2.2.length then (c.1.2.1 (C_i x)).2.2.getD (C_i p) 0 - c.1.1 0 + 1 else (-5)
  else (-1)
def C_input (x w : Int32) (c : CS_) : Int32 := if 0 ≤ x ∧ x < 4 then Q_fig w (c.1.2.2 (C_i x)) else (-1)
def C_packet (x p w : Int32) (c : CS_) : Int32 :=
  if 0 ≤ x ∧ x < 4 then
    if p < 0 ∨ w < 0 ∨ 2 < w then (-2) else
    if nI (c.1.2.2 (C_i x)).2.2.length ≤ p then (-5) else
    if w = 0 then ((c.1.2.2 (C_i x)).2.2.getD (C_i p) (0, 0, 0)).1 else if w = 1 then ((c.1.2.2 (C_i x)).2.2.getD (C_i p) (0, 0, 0)).2.1 else ((c.1.2.2 (C_i x)).2.2.getD (C_i p) (0, 0, 0)).2.2
  else (-1)
/-- what is sent to the output o in the next tick -/
def B_next (S : St_) (o : Nat) : Int32 := match (B_send o (B_turn (B_sends o (B_beg S, fun _ => 0)).2.1 o) (B_sends o (B_beg S, fun _ => 0)).2).1 with
  | some n => n
  | none => (-5)
def C_next (x : Int32) (c : CS_) : Int32 := if 0 ≤ x ∧ x < 4 then B_next c.1 (C_i x) else (-1)
/-- the first of f ticks behind which a packet doesn't wait any more: k ticks have passed -/
def B_leaves (i : Nat) (num : Int32) (S : St_) : Nat → Nat → Option Nat
  | 0, _ => none
  | f + 1, k => if num ∈ ((B_pass (k + 1) S).2.2.2 i).2.2.map (fun p => p.1) then B_leaves i num S f (k + 1) else some (k + 1)
def C_leavesIn (x p : Int32) (c : CS_) : Int32 :=
  if 0 ≤ x ∧ x < 4 then
    if p < 0 ∨ nI (c.1.2.2 (C_i x)).2.2.length ≤ p then (-2) else
    match B_leaves (C_i x) ((c.1.2.2 (C_i x)).2.2.getD (C_i p) (0, 0, 0)).1 c.1 200 0 with
    | some k => nI k
    | none => (-5)
  else (-1)
def C_wouldSend (n md : Int32) (c : CS_) : Int32 :=
  if (1 ≤ n ∧ n ≤ 50) ∧ 0 ≤ md ∧ md ≤ 1 then nI (B_pass (C_i n) (upd c.1.1 1 md, c.1.2)).1 else (-2)
noncomputable def C_count (w : Int32) (c : CS_) : Int32 :=
  if w = 11 then nI c.2.2.1.length else if w = 12 then nI c.2.2.2.length else B_fig w c.1
theorem cc_port (x : Int32) : (∃ i : Nat, i < 4 ∧ x = nI i) ∨ ¬ (0 ≤ x ∧ x < 4) := by
  by_cases h : 0 ≤ x ∧ x < 4
  · obtain ⟨j, hj, e⟩ := nI_of (Int32.not_lt.mpr h.1)
    subst e
    exact Or.inl ⟨j, (nI_ltI (b := 4) hj (by decide)).mp h.2, rfl⟩
  · exact Or.inr h
theorem cc_pt {i : Nat} (h : i < 4) : (0 : Int32) ≤ nI i ∧ nI i < 4 := ⟨nI_pos' (by omega), nI_lt (b := 4) h (by decide)⟩
theorem C_i_n {i : Nat} (h : i < 2 ^ 31) : C_i (nI i) = i := nI_clamp h
def B_k (M : Nat) (S : St_) : Prop := ∃ T, T ≤ 9999 ∧ B_ok T M S
def C_ok (M : Nat) (c : CS_) : Prop := B_k M c.1 ∧ (∀ s, c.2.1 = some s → B_k M s) ∧ ∀ s ∈ c.2.2.1, B_k M s
