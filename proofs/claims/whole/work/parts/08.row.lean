/-- a Row at p: its places' entries E, lying at p + 2 + 5 * w j; the first u are used -/
def rO (G : zG) (B : Nat) (es : zE) (p most : Nat) (w : Nat → Nat) (E : Nat → Ent) (u : Nat) : Prop :=
  es[p]? = some (.inr (5, [.ref (B + (p + 1)), .int (nI u)])) ∧ (∃ a : Nat → Option Nat, es[p + 1]? = some (.inl (G.2.1 4, most, .inr (.inr (.inr (.inr a))))) ∧ ∀ j, j < most → a j = some (B + (p + 2 + 5 * w j))) ∧ u ≤ most ∧ most ≤ 10 ∧ (∀ j, j < most → w j < most) ∧ (∀ i j, i < most → j < most → w i = w j → i = j) ∧ ∀ j, j < most → en G B es (p + 2 + 5 * w j) (E j)
theorem rO.kept {G : zG} {B : Nat} {es es' : zE} {p most u : Nat} {w : Nat → Nat} {E : Nat → Ent} (h : rO G B es p most w E u) (hk : ∀ j, p ≤ j → j < p + 2 + 5 * most → es'[j]? = es[j]?) : rO G B es' p most w E u := by
  obtain ⟨h1, ⟨a, h2, h3⟩, h4, h5, h6, h7, h8⟩ := h
  exact ⟨(hk p (by omega) (by omega)).trans h1, ⟨a, (hk (p + 1) (by omega) (by omega)).trans h2, h3⟩, h4, h5, h6, h7, fun j hj => (h8 j hj).kept (fun i g1 g2 => hk i (by omega) (by have := h6 j hj; omega))⟩
theorem rO.fr {G : zG} {B : Nat} {es es' : zE} {p most u lo hi : Nat} {w : Nat → Nat} {E : Nat → Ent} (h : rO G B es p most w E u) (hk : Fr es es' lo hi) (ho : p + 2 + 5 * most ≤ lo ∨ hi ≤ p) : rO G B es' p most w E u := h.kept (fun j h1 h2 => hk.2 j (by omega))
/-- the first place whose entry doesn't come before -/
def plc (E : Nat → Ent) (k : Nat) (n s : List Nat) : Nat → Nat → Nat
  | 0, i => i
  | f + 1, i => if entC (E i) k n s < 0 then plc E k n s f (i + 1) else i
theorem plc_le (E : Nat → Ent) (k : Nat) (n s : List Nat) : ∀ f i, i ≤ plc E k n s f i ∧ plc E k n s f i ≤ i + f
  | 0, i => ⟨Nat.le_refl _, Nat.le_refl _⟩
  | f + 1, i => by
    rw [plc]
    split
    · have := plc_le E k n s f (i + 1); omega
    · omega
set_option maxHeartbeats 4000000 in
set_option maxRecDepth 100000 in
theorem c_R_placeOf (l : Launch) (G : zG) (B : Nat) {es : zE} {p most u pn ps k : Nat} {w : Nat → Nat} {E : Nat → Ent} {n s : List Nat} (h : rO G B es p most w E u) (hn : tx G B es pn n) (hs : tx G B es ps s) (hk : k < 5) : Tr l G B jy_R_placeOf jb_R_placeOf 5 (some .int) 3 0 0 [.ref (B + p), .int (nI k), .ref (B + pn), .ref (B + ps)] es (pI fun v es' => v = nI (plc E k n s u 0) ∧ es' = es) := by
  obtain ⟨h1, ⟨a, h2, h3⟩, h4, h5, h6, h7, h8⟩ := h
  refine Tr.of (ls := [some (.ref (B + p)), some (.int (nI k)), some (.ref (B + pn)), some (.ref (B + ps)), none]) (by decide +kernel) (Nat.le_of_ble_eq_true rfl) rfl ?_
  intro zp ze zs zm zb zt zc zE0
  have loop : ∀ (f i : Nat), i + f = u → plc E k n s f i = plc E k n s u 0 → Zj zp l ze (zr 3 0 0) zs zm ([.ref (B + p), .int (nI k), .ref (B + pn), .ref (B + ps)] : List Value).toArray zb zt zc (MQ zb (zQ G B (pI fun v es' => v = nI (plc E k n s u 0) ∧ es' = es)) ([.ref (B + p), .int (nI k), .ref (B + pn), .ref (B + ps)] : List Value).toArray zs 0 0 (fun q => B ≤ q)) G B 5 0 0 3 [some (.ref (B + p)), some (.int (nI k)), some (.ref (B + pn)), some (.ref (B + ps)), some (.int (nI i))] [] es := by
    intro f
    induction f with
    | zero =>
      intro i hi he
      refine z_iload (pc := 3) zE0 jd_R_placeOf_3 rfl ?_
      refine z_aload_n (pc := 5) zE0 jd_R_placeOf_5 rfl rfl ?_
      refine z_get (pc := 6) zE0 jf_R_9 jd_R_placeOf_6 (by assumption) (by rfl) ?_
      refine z_icmp_ge (pc := 9) (tgt := 34) zE0 jd_R_placeOf_9 (by decide) (fun c9 => ?_) (fun c9 => ?_)
      · refine z_iload (pc := 34) zE0 jd_R_placeOf_34 rfl ?_
        exact z_iret zE0 jd_R_placeOf_36 ⟨_, rfl, by rw [← he]; rfl, rfl⟩
      · exact absurd (nI_le (by omega) (by omega)) c9
    | succ f ih =>
      intro i hi he
      rw [plc] at he
      have he8 := h8 i (by omega)
      have hen := he8.1
      refine z_iload (pc := 3) zE0 jd_R_placeOf_3 rfl ?_
      refine z_aload_n (pc := 5) zE0 jd_R_placeOf_5 rfl rfl ?_
      refine z_get (pc := 6) zE0 jf_R_9 jd_R_placeOf_6 (by assumption) (by rfl) ?_
      refine z_icmp_ge (pc := 9) (tgt := 34) zE0 jd_R_placeOf_9 (by decide) (fun c9 => ?_) (fun c9 => ?_)
      · exact absurd (cle c9) (by omega)
      · refine z_aload_n (pc := 12) zE0 jd_R_placeOf_12 rfl rfl ?_
        refine z_get (pc := 13) zE0 jf_R_17 jd_R_placeOf_13 (by assumption) (by rfl) ?_
        refine z_iload (pc := 16) zE0 jd_R_placeOf_16 rfl ?_
        refine z_aald (ti := 4) (pc := 18) zE0 rfl jd_R_placeOf_18 (by assumption) (vp_in_nI (by omega) (by omega)) ?_
        rw [nI_clamp (by omega), h3 i (by omega), rf_some]
        refine z_iload_n (pc := 19) zE0 jd_R_placeOf_19 rfl rfl ?_
        refine z_aload_n (pc := 20) zE0 jd_R_placeOf_20 rfl rfl ?_
        refine z_aload_n (pc := 21) zE0 jd_R_placeOf_21 rfl rfl ?_
        refine z_cV3I (pc := 22) zE0 (c_E_compareWith l G B he8 hn hs hk) jc_R_37 jv_E_compareWith rfl (by assumption) ⟨by decide, by decide⟩ jd_R_placeOf_22 (by decide) (by decide) (by decide) (fun v22 es22 h22 => ?_)
        obtain ⟨w22, e22⟩ := h22
        rw [e22]
        refine z_if_ge (pc := 25) (tgt := 34) zE0 jd_R_placeOf_25 (by decide) (fun c25 => ?_) (fun c25 => ?_)
        · rw [if_neg (by rw [← w22]; have := ige_toInt.mp c25; omega)] at he
          refine z_iload (pc := 34) zE0 jd_R_placeOf_34 rfl ?_
          exact z_iret zE0 jd_R_placeOf_36 ⟨_, rfl, by rw [← he], rfl⟩
        · rw [if_pos (by rw [← w22]; exact ilt_toInt.mp (Int32.not_le.mp c25))] at he
          refine z_iinc (pc := 28) zE0 jd_R_placeOf_28 rfl rfl (by decide) rfl ?_
          dsimp only [List.set]
          refine z_goto (pc := 31) (tgt := 3) zE0 jd_R_placeOf_31 (by decide) ?_
          have := ih (i + 1) (by omega) he
          rw [nI_succ i] at this
          exact this
  refine z_iconst (v := 0) (pc := 0) zE0 jd_R_placeOf_0 (by decide) ?_
  refine z_istore (pc := 1) zE0 jd_R_placeOf_1 (by decide) rfl ?_
  dsimp only [List.set]
  exact loop u 0 (by omega) rfl
set_option maxHeartbeats 4000000 in
set_option maxRecDepth 100000 in
theorem c_R_isAt (l : Launch) (G : zG) (B : Nat) {es : zE} {p most u pn ps k i : Nat} {w : Nat → Nat} {E : Nat → Ent} {n s : List Nat} (h : rO G B es p most w E u) (hn : tx G B es pn n) (hs : tx G B es ps s) (hk : k < 5) (hi : i ≤ u) : Tr l G B jy_R_isAt jb_R_isAt 5 (some .boolean) 3 0 0 [.ref (B + p), .int (nI i), .int (nI k), .ref (B + pn), .ref (B + ps)] es (pI fun v es' => v = (if i < u ∧ entC (E i) k n s = 0 then 1 else 0) ∧ es' = es) := by
  obtain ⟨h1, ⟨a, h2, h3⟩, h4, h5, h6, h7, h8⟩ := h
  refine Tr.of (ls := [some (.ref (B + p)), some (.int (nI i)), some (.int (nI k)), some (.ref (B + pn)), some (.ref (B + ps))]) (by decide +kernel) (Nat.le_of_ble_eq_true rfl) rfl ?_
  intro zp ze zs zm zb zt zc zE0
  refine z_iload_n (pc := 0) zE0 jd_R_isAt_0 rfl rfl ?_
  refine z_aload_n (pc := 1) zE0 jd_R_isAt_1 rfl rfl ?_
  refine z_get (pc := 2) zE0 jf_R_9 jd_R_isAt_2 (by assumption) (by rfl) ?_
  refine z_icmp_ge (pc := 5) (tgt := 28) zE0 jd_R_isAt_5 (by decide) (fun c5 => ?_) (fun c5 => ?_)
  · have hr : ¬ (i < u ∧ entC (E i) k n s = 0) := by have := cle c5; omega
    refine z_iconst (v := 0) (pc := 28) zE0 jd_R_isAt_28 (by decide) ?_
    exact z_zret zE0 rfl jd_R_isAt_29 ⟨_, rfl, by simp [hr], rfl⟩
  · have hlt := ncle c5
    have he8 := h8 i (by omega)
    have hen := he8.1
    refine z_aload_n (pc := 8) zE0 jd_R_isAt_8 rfl rfl ?_
    refine z_get (pc := 9) zE0 jf_R_17 jd_R_isAt_9 (by assumption) (by rfl) ?_
    refine z_iload_n (pc := 12) zE0 jd_R_isAt_12 rfl rfl ?_
    refine z_aald (ti := 4) (pc := 13) zE0 rfl jd_R_isAt_13 (by assumption) (vp_in_nI (by omega) (by omega)) ?_
    rw [nI_clamp (by omega), h3 i (by omega), rf_some]
    refine z_iload_n (pc := 14) zE0 jd_R_isAt_14 rfl rfl ?_
    refine z_aload_n (pc := 15) zE0 jd_R_isAt_15 rfl rfl ?_
    refine z_aload (pc := 16) zE0 jd_R_isAt_16 rfl ?_
    refine z_cV3I (pc := 18) zE0 (c_E_compareWith l G B he8 hn hs hk) jc_R_37 jv_E_compareWith rfl (by assumption) ⟨by decide, by decide⟩ jd_R_isAt_18 (by decide) (by decide) (by decide) (fun v18 es18 h18 => ?_)
    obtain ⟨w18, e18⟩ := h18
    rw [e18]
    refine z_if_ne (pc := 21) (tgt := 28) zE0 jd_R_isAt_21 (by decide) (fun c21 => ?_) (fun c21 => ?_)
    · have hr : ¬ (i < u ∧ entC (E i) k n s = 0) := by rw [← w18]; exact fun q => c21 (i0_toInt.mpr q.2)
      refine z_iconst (v := 0) (pc := 28) zE0 jd_R_isAt_28 (by decide) ?_
      exact z_zret zE0 rfl jd_R_isAt_29 ⟨_, rfl, by simp [hr], rfl⟩
    · have hr : i < u ∧ entC (E i) k n s = 0 := ⟨hlt, by rw [← w18]; exact i0_toInt.mp c21⟩
      refine z_iconst (v := 1) (pc := 24) zE0 jd_R_isAt_24 (by decide) ?_
      refine z_goto (pc := 25) (tgt := 29) zE0 jd_R_isAt_25 (by decide) ?_
      exact z_zret zE0 rfl jd_R_isAt_29 ⟨_, rfl, by simp [hr], rfl⟩
/-- how many entries of a kind are among the first -/
def tal (E : Nat → Ent) (k : Nat) : Nat → Nat
  | 0 => 0
  | n + 1 => tal E k n + (if (E n).1 = k then 1 else 0)
theorem tal_le (E : Nat → Ent) (k : Nat) : ∀ n, tal E k n ≤ n
  | 0 => Nat.le_refl _
  | n + 1 => by
    rw [tal]
    have := tal_le E k n
    split <;> omega
set_option maxHeartbeats 4000000 in
set_option maxRecDepth 100000 in
theorem c_R_tally (l : Launch) (G : zG) (B : Nat) {es : zE} {p most u k : Nat} {w : Nat → Nat} {E : Nat → Ent} (h : rO G B es p most w E u) (hk : k < 5) : Tr l G B jy_R_tally jb_R_tally 4 (some .int) 0 0 0 [.ref (B + p), .int (nI k)] es (pI fun v es' => v = nI (tal E k u) ∧ es' = es) := by
  obtain ⟨h1, ⟨a, h2, h3⟩, h4, h5, h6, h7, h8⟩ := h
  refine Tr.of (ls := [some (.ref (B + p)), some (.int (nI k)), none, none]) (by decide +kernel) (Nat.le_of_ble_eq_true rfl) rfl ?_
  intro zp ze zs zm zb zt zc zE0
  have loop : ∀ (f i : Nat), i + f = u → Zj zp l ze (zr 0 0 0) zs zm ([.ref (B + p), .int (nI k)] : List Value).toArray zb zt zc (MQ zb (zQ G B (pI fun v es' => v = nI (tal E k u) ∧ es' = es)) ([.ref (B + p), .int (nI k)] : List Value).toArray zs 0 0 (fun q => B ≤ q)) G B 4 0 0 4 [some (.ref (B + p)), some (.int (nI k)), some (.int (nI (tal E k i))), some (.int (nI i))] [] es := by
    intro f
    induction f with
    | zero =>
      intro i hi
      have hi : i = u := by omega
      subst hi
      refine z_iload_n (pc := 4) zE0 jd_R_tally_4 rfl rfl ?_
      refine z_aload_n (pc := 5) zE0 jd_R_tally_5 rfl rfl ?_
      refine z_get (pc := 6) zE0 jf_R_9 jd_R_tally_6 (by assumption) (by rfl) ?_
      refine z_icmp_ge (pc := 9) (tgt := 34) zE0 jd_R_tally_9 (by decide) (fun c9 => ?_) (fun c9 => ?_)
      · refine z_iload_n (pc := 34) zE0 jd_R_tally_34 rfl rfl ?_
        exact z_iret zE0 jd_R_tally_35 ⟨_, rfl, rfl, rfl⟩
      · exact absurd (nI_le (by omega) (by omega)) c9
    | succ f ih =>
      intro i hi
      obtain ⟨e1, e2, e3, e4⟩ := h8 i (by omega)
      have := tal_le E k i
      refine z_iload_n (pc := 4) zE0 jd_R_tally_4 rfl rfl ?_
      refine z_aload_n (pc := 5) zE0 jd_R_tally_5 rfl rfl ?_
      refine z_get (pc := 6) zE0 jf_R_9 jd_R_tally_6 (by assumption) (by rfl) ?_
      refine z_icmp_ge (pc := 9) (tgt := 34) zE0 jd_R_tally_9 (by decide) (fun c9 => ?_) (fun c9 => ?_)
      · exact absurd (cle c9) (by omega)
      · refine z_aload_n (pc := 12) zE0 jd_R_tally_12 rfl rfl ?_
        refine z_get (pc := 13) zE0 jf_R_17 jd_R_tally_13 (by assumption) (by rfl) ?_
        refine z_iload_n (pc := 16) zE0 jd_R_tally_16 rfl rfl ?_
        refine z_aald (ti := 4) (pc := 17) zE0 rfl jd_R_tally_17 (by assumption) (vp_in_nI (by omega) (by omega)) ?_
        rw [nI_clamp (by omega), h3 i (by omega), rf_some]
        refine z_get (pc := 18) zE0 jf_R_34 jd_R_tally_18 (by assumption) (by rfl) ?_
        refine z_iload_n (pc := 21) zE0 jd_R_tally_21 rfl rfl ?_
        refine z_icmp_ne (pc := 22) (tgt := 28) zE0 jd_R_tally_22 (by decide) (fun c22 => ?_) (fun c22 => ?_)
        · have ht : tal E k (i + 1) = tal E k i := by rw [tal, if_neg (nceq c22)]; rfl
          refine z_iinc (pc := 28) zE0 jd_R_tally_28 rfl rfl (by decide) rfl ?_
          dsimp only [List.set]
          refine z_goto (pc := 31) (tgt := 4) zE0 jd_R_tally_31 (by decide) ?_
          have := ih (i + 1) (by omega)
          rw [ht, nI_succ i] at this
          first | exact this | (rw [nI_succ] at this; exact this)
        · have ht : tal E k (i + 1) = tal E k i + 1 := by rw [tal, if_pos (ceq c22)]
          refine z_iinc (pc := 25) zE0 jd_R_tally_25 rfl rfl (by decide) rfl ?_
          dsimp only [List.set]
          refine z_iinc (pc := 28) zE0 jd_R_tally_28 rfl rfl (by decide) rfl ?_
          dsimp only [List.set]
          refine z_goto (pc := 31) (tgt := 4) zE0 jd_R_tally_31 (by decide) ?_
          have := ih (i + 1) (by omega)
          rw [ht, nI_succ i] at this
          first | exact this | (rw [nI_succ] at this; exact this)
  refine z_iconst (v := 0) (pc := 0) zE0 jd_R_tally_0 (by decide) ?_
  refine z_istore_n (pc := 1) zE0 jd_R_tally_1 rfl (by decide) rfl ?_
  dsimp only [List.set]
  refine z_iconst (v := 0) (pc := 2) zE0 jd_R_tally_2 (by decide) ?_
  refine z_istore_n (pc := 3) zE0 jd_R_tally_3 rfl (by decide) rfl ?_
  dsimp only [List.set]
  exact loop u 0 (by omega)
