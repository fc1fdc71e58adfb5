/-! the reference: what it holds of a class -/
theorem cmpZ_swap : ∀ a b : List Nat, cmpZ a b = -cmpZ b a
  | [], [] => rfl
  | [], y :: ys => by simp [cmpZ]
  | x :: xs, [] => by simp [cmpZ]
  | x :: xs, y :: ys => by
    have := cmpZ_swap xs ys
    by_cases e : x = y
    · subst e; simp only [cmpZ, if_true]; exact this
    · have e' : ¬ y = x := fun q => e q.symm
      simp only [cmpZ, if_neg e, if_neg e']; omega
theorem cmpZ_zs {a b : List Nat} : cmpZ a b = 0 ↔ cmpZ b a = 0 := by rw [cmpZ_swap a b]; omega
/-- the first entry that a kind and texts name -/
def fnd (E : Nat → Ent) (k : Nat) (n s : List Nat) : Nat → Nat → Nat
  | 0, i => i
  | f + 1, i => if entC (E i) k n s = 0 then i else fnd E k n s f (i + 1)
theorem fnd_le (E : Nat → Ent) (k : Nat) (n s : List Nat) : ∀ f i, i ≤ fnd E k n s f i ∧ fnd E k n s f i ≤ i + f
  | 0, i => ⟨Nat.le_refl _, Nat.le_refl _⟩
  | f + 1, i => by
    rw [fnd]
    split
    · omega
    · have := fnd_le E k n s f (i + 1); omega
theorem entC_zero {e : Ent} {k : Nat} {n s : List Nat} (hk : k < 4) : entC e k n s = 0 ↔ e.1 = k ∧ (k = 1 ∨ k = 3 ∨ cmpZ n e.2.2.1 = 0) ∧ (k = 0 ∨ k = 3 ∨ cmpZ s e.2.2.2 = 0) := by
  have z1 := @cmpZ_zs n e.2.2.1
  have z2 := @cmpZ_zs s e.2.2.2
  unfold entC keyC
  by_cases h : e.1 = k
  · rw [if_pos h, h]
    rcases (show k = 0 ∨ k = 1 ∨ k = 2 ∨ k = 3 by omega) with rfl | rfl | rfl | rfl
    · simp [z1]
    · simp [z2]
    · simp only [show ¬ (2 = 1) by decide, if_false, if_true]
      rw [z1, z2]
      split
      · simp_all
      · simp_all
    · simp
  · rw [if_neg h]
    refine ⟨fun q => absurd (by omega) h, fun q => absurd q.1 h⟩
theorem entC_face {e : Ent} {n s : List Nat} (h : e.1 = 4) : entC e 4 n s = 0 ↔ cmpZ n e.2.2.1 = 0 := by
  rw [entC, if_pos h, h, @cmpZ_zs n e.2.2.1]
  rfl
def mE (S : MS) (m : Nat) (e : Ent) : Prop := S.2.2.2.2.2.2.2.2.1 m = nI e.1 ∧ e.1 < 4 ∧ S.2.2.2.2.2.2.2.2.2.1 m = e.2.1 ∧ rt S (22 + m) e.2.2.1 ∧ rt S (62 + m) e.2.2.2
/-- all of a class but its members -/
def mD (S : MS) (c : Nat) (t : DT) : Prop := S.2.2.1 c = t.1 ∧ S.2.2.2.1 c = t.2.2.1 ∧ S.2.2.2.2.1 c = nI t.2.2.2.2.1 ∧ S.2.2.2.2.2.2.1 c = t.2.2.2.2.2.2.2.1 ∧ S.2.2.2.2.2.2.2.1 c = t.2.2.2.2.2.2.2.2 ∧ rt S (2 + c) t.2.1 ∧ t.2.2.2.2.1 ≤ 4 ∧ ∀ k, k < t.2.2.2.2.1 → (t.2.2.2.1 k).1 = 4 ∧ rt S (6 + 4 * c + k) (t.2.2.2.1 k).2.2.1
def mC (S : MS) (c : Nat) (t : DT) : Prop := mD S c t ∧ S.2.2.2.2.2.1 c = nI t.2.2.2.2.2.2.1 ∧ t.2.2.2.2.2.2.1 ≤ 10 ∧ ∀ k, k < t.2.2.2.2.2.2.1 → mE S (10 * c + k) (t.2.2.2.2.2.1 k)
theorem mD.keep {S S' : MS} {c : Nat} {t : DT} (h : mD S c t) (ht : ∀ u ys, u = 2 + c ∨ (6 + 4 * c ≤ u ∧ u < 10 + 4 * c) → rt S u ys → rt S' u ys) (h3 : S'.2.2.1 c = S.2.2.1 c) (h4 : S'.2.2.2.1 c = S.2.2.2.1 c) (h5 : S'.2.2.2.2.1 c = S.2.2.2.2.1 c) (h7 : S'.2.2.2.2.2.2.1 c = S.2.2.2.2.2.2.1 c) (h8 : S'.2.2.2.2.2.2.2.1 c = S.2.2.2.2.2.2.2.1 c) : mD S' c t := by
  obtain ⟨c3, c4, c5, c7, c8, tn, uf, hF⟩ := h
  exact ⟨h3.trans c3, h4.trans c4, h5.trans c5, h7.trans c7, h8.trans c8, ht _ _ (Or.inl rfl) tn, uf, fun k hk => ⟨(hF k hk).1, ht _ _ (Or.inr ⟨by omega, by omega⟩) (hF k hk).2⟩⟩
theorem mE.keep {S S' : MS} {m : Nat} {e : Ent} (h : mE S m e) (ht : ∀ u ys, u = 22 + m ∨ u = 62 + m → rt S u ys → rt S' u ys) (h9 : S'.2.2.2.2.2.2.2.2.1 m = S.2.2.2.2.2.2.2.2.1 m) (h10 : S'.2.2.2.2.2.2.2.2.2.1 m = S.2.2.2.2.2.2.2.2.2.1 m) : mE S' m e :=
  ⟨h9.trans h.1, h.2.1, h10.trans h.2.2.1, ht _ _ (Or.inl rfl) h.2.2.2.1, ht _ _ (Or.inr rfl) h.2.2.2.2⟩
/-- only the member m may have changed -/
def onlyE (S S' : MS) (m : Nat) : Prop := (∀ u ys, u ≠ 22 + m → u ≠ 62 + m → rt S u ys → rt S' u ys) ∧ S'.2.2.1 = S.2.2.1 ∧ S'.2.2.2.1 = S.2.2.2.1 ∧ S'.2.2.2.2.1 = S.2.2.2.2.1 ∧ S'.2.2.2.2.2.1 = S.2.2.2.2.2.1 ∧ S'.2.2.2.2.2.2.1 = S.2.2.2.2.2.2.1 ∧ S'.2.2.2.2.2.2.2.1 = S.2.2.2.2.2.2.2.1 ∧ ∀ j, j ≠ m → S'.2.2.2.2.2.2.2.2.1 j = S.2.2.2.2.2.2.2.2.1 j ∧ S'.2.2.2.2.2.2.2.2.2.1 j = S.2.2.2.2.2.2.2.2.2.1 j
theorem mD.onlyE {S S' : MS} {c k m : Nat} {t : DT} (h : mD S c t) (ho : onlyE S S' (10 * m + k)) (hc : c < 4) : mD S' c t := by
  obtain ⟨o1, o3, o4, o5, o6, o7, o8, o9⟩ := ho
  exact h.keep (fun u ys hu => o1 u ys (by omega) (by omega)) (by rw [o3]) (by rw [o4]) (by rw [o5]) (by rw [o7]) (by rw [o8])
theorem mE.onlyE {S S' : MS} {m j : Nat} {e : Ent} (h : mE S j e) (ho : onlyE S S' m) (hj : j < 40) (hm : m < 40) (hne : j ≠ m) : mE S' j e := by
  obtain ⟨o1, o3, o4, o5, o6, o7, o8, o9⟩ := ho
  exact h.keep (fun u ys hu => o1 u ys (by omega) (by omega)) (o9 j hne).1 (o9 j hne).2
theorem mC.onlyE {S S' : MS} {c c' k : Nat} {t : DT} (h : mC S c' t) (ho : onlyE S S' (10 * c + k)) (hc : c < 4) (hc' : c' < 4) (hk : k < 10) (hne : c' ≠ c) : mC S' c' t := by
  refine ⟨h.1.onlyE ho hc', ?_, h.2.2.1, fun j hj => (h.2.2.2 j hj).onlyE ho (by have := h.2.2.1; omega) (by omega) (by have := h.2.2.1; omega)⟩
  rw [ho.2.2.2.2.1]
  exact h.2.1
theorem mC.onlyT {S S' : MS} {c b : Nat} {t : DT} (h : mC S c t) (ho : onlyT S S' b) (hb : b < 2) : mC S' c t := by
  obtain ⟨o1, o2⟩ := ho
  refine ⟨h.1.keep (fun u ys hu => o1 u ys (by omega)) (by rw [o2]) (by rw [o2]) (by rw [o2]) (by rw [o2]) (by rw [o2]), by rw [o2]; exact h.2.1, h.2.2.1, fun k hk => (h.2.2.2 k hk).keep (fun u ys hu => o1 u ys (by omega)) (by rw [o2]) (by rw [o2])⟩
/-- what the reference holds: the buffers and the classes -/
def rA (G : zG) (B : Nat) (es : zE) (r : Nat) (nm sh : List Nat) (R : Nat → DT) : Prop := ∃ S z a e, mO G B es r S z a e ∧ rt S 0 nm ∧ rt S 1 sh ∧ ∀ c, c < 4 → mC S c (R c)
theorem cnuM_eq {S : MS} {R : Nat → DT} (h : ∀ c, c < 4 → mC S c (R c)) (x : Int32) : cnuM S x = cnum R x := by
  unfold cnuM cnum
  by_cases hx : x < 0 ∨ 4 ≤ x
  · rw [if_pos hx, if_pos hx]
  · obtain ⟨j, hj, rfl⟩ := nI_of (fun q => hx (Or.inl q))
    have h4 : j < 4 := Nat.lt_of_not_le fun q => hx (Or.inr (nI_le (a := 4) q hj))
    rw [if_neg hx, if_neg hx, nI_clamp hj, (h j h4).1.1]
/-! define -/
set_option maxHeartbeats 4000000 in
set_option maxRecDepth 100000 in
theorem c_M_define (l : Launch) (G : zG) (B : Nat) {es : zE} {r : Nat} {nm sh : List Nat} {R : Nat → DT} {x m : Int32} (h : rA G B es r nm sh R) : Tr l G B jy_M_define jb_M_define 3 (some .int) 2 0 0 [.ref (B + r), .int x, .int m] es (pI fun v es' => if x < 0 ∨ 4 ≤ x then v = -1 ∧ es' = es else if nm = [] then v = -2 ∧ es' = es else v = 0 ∧ rA G B es' r nm sh (va_up R x.toNatClampNeg (dtN (R x.toNatClampNeg) nm (m &&& 65535))) ∧ Fr es es' r (r + 15)) := by
  obtain ⟨S, z, a, e, h0, t0, t1, hC⟩ := h
  obtain ⟨m0, a1, a2, a3, a4, a5, a6, a7, a8, a9, a10, a11, a12, a13, a14⟩ := id h0
  have hl := t0.2.1
  refine Tr.of (ls := [some (.ref (B + r)), some (.int x), some (.int m)]) (by decide +kernel) (Nat.le_of_ble_eq_true rfl) rfl ?_
  intro zp ze zs zm zb zt zc E
  refine z_aload_n (pc := 0) E jd_M_define_0 rfl rfl ?_
  refine z_iload_n (pc := 1) E jd_M_define_1 rfl rfl ?_
  refine z_iconst (v := 4) (pc := 2) E jd_M_define_2 (by decide) ?_
  refine z_cV2I (pc := 3) E (c_M_out l G B) jc_M_54 jv_M_out rfl (by assumption) ⟨Nat.le_of_ble_eq_true rfl, Nat.le_of_ble_eq_true rfl⟩ jd_M_define_3 (Nat.le_of_ble_eq_true rfl) (by decide) (by decide) (fun v3 es3 h3 => ?_)
  obtain ⟨w3, e3⟩ := h3
  rw [e3, w3]
  refine z_if_eq (pc := 6) (tgt := 11) E jd_M_define_6 (by decide) (fun c6 => ?_) (fun c6 => ?_)
  · have hx : ¬ (x < 0 ∨ 4 ≤ x) := fun q => by rw [if_pos q] at c6; exact absurd c6 (by decide)
    obtain ⟨c, hj, rfl⟩ := nI_of (fun q => hx (Or.inl q))
    have hc4 : c < 4 := Nat.lt_of_not_le fun q => hx (Or.inr (nI_le (a := 4) q hj))
    refine z_aload_n (pc := 11) E jd_M_define_11 rfl rfl ?_
    refine z_get (pc := 12) E jf_M_13 jd_M_define_12 (by assumption) (by rfl) ?_
    refine z_iconst (v := 0) (pc := 15) E jd_M_define_15 (by decide) ?_
    refine z_iald (ti := 1) (pc := 16) E rfl jd_M_define_16 (by assumption) (vp_in_nI (n := 0) (by omega) (by omega)) ?_
    refine z_topi (y := nI nm.length) t0.1 ?_
    refine z_if_ne (pc := 17) (tgt := 23) E jd_M_define_17 (by decide) (fun c17 => ?_) (fun c17 => ?_)
    · refine z_aload_n (pc := 23) E jd_M_define_23 rfl rfl ?_
      refine z_get (pc := 24) E jf_M_16 jd_M_define_24 (by assumption) (by rfl) ?_
      refine z_iload_n (pc := 27) E jd_M_define_27 rfl rfl ?_
      refine z_iconst (v := 1) (pc := 28) E jd_M_define_28 (by decide) ?_
      refine z_zast (ti := 2) (pc := 29) E rfl jd_M_define_29 (by assumption) (vp_in_nI (by omega) (by omega)) (fun es29 he29 => ?_)
      rw [nI_clamp (by omega)] at he29
      have h1 := h0.s3 he29
      obtain ⟨p0, p1, p2, p3, p4, p5, p6, p7, p8, p9, p10, p11, p12, p13, p14⟩ := id h1
      refine z_aload_n (pc := 30) E jd_M_define_30 rfl rfl ?_
      refine z_get (pc := 31) E jf_M_20 jd_M_define_31 (by assumption) (by rfl) ?_
      refine z_iload_n (pc := 34) E jd_M_define_34 rfl rfl ?_
      refine z_iload_n (pc := 35) E jd_M_define_35 rfl rfl ?_
      refine z_ldc (pc := 36) E jw_551 jd_M_define_36 ?_
      refine z_iand (pc := 38) E jd_M_define_38 ?_
      refine z_iast (ti := 1) (pc := 39) E rfl jd_M_define_39 (by assumption) (vp_in_nI (by omega) (by omega)) (fun es39 he39 => ?_)
      rw [nI_clamp (by omega)] at he39
      have h2 := h1.s4 he39
      dsimp only at h2
      obtain ⟨q0, q1, q2, q3, q4, q5, q6, q7, q8, q9, q10, q11, q12, q13, q14⟩ := id h2
      refine z_aload_n (pc := 40) E jd_M_define_40 rfl rfl ?_
      refine z_get (pc := 41) E jf_M_23 jd_M_define_41 (by assumption) (by rfl) ?_
      refine z_iload_n (pc := 44) E jd_M_define_44 rfl rfl ?_
      refine z_iconst (v := 0) (pc := 45) E jd_M_define_45 (by decide) ?_
      refine z_iast (ti := 1) (pc := 46) E rfl jd_M_define_46 (by assumption) (vp_in_nI (by omega) (by omega)) (fun es46 he46 => ?_)
      rw [nI_clamp (by omega)] at he46
      have h3 := h2.s5 he46
      dsimp only at h3
      obtain ⟨u0, u1, u2, u3, u4, u5, u6, u7, u8, u9, u10, u11, u12, u13, u14⟩ := id h3
      refine z_aload_n (pc := 47) E jd_M_define_47 rfl rfl ?_
      refine z_get (pc := 48) E jf_M_26 jd_M_define_48 (by assumption) (by rfl) ?_
      refine z_iload_n (pc := 51) E jd_M_define_51 rfl rfl ?_
      refine z_iconst (v := 0) (pc := 52) E jd_M_define_52 (by decide) ?_
      refine z_iast (ti := 1) (pc := 53) E rfl jd_M_define_53 (by assumption) (vp_in_nI (by omega) (by omega)) (fun es53 he53 => ?_)
      rw [nI_clamp (by omega)] at he53
      have h4 := h3.s6 he53
      dsimp only at h4
      obtain ⟨w0, w1, w2, w3', w4, w5, w6, w7, w8, w9, w10, w11, w12, w13, w14⟩ := id h4
      refine z_aload_n (pc := 54) E jd_M_define_54 rfl rfl ?_
      refine z_get (pc := 55) E jf_M_29 jd_M_define_55 (by assumption) (by rfl) ?_
      refine z_iload_n (pc := 58) E jd_M_define_58 rfl rfl ?_
      refine z_iconst (v := 0) (pc := 59) E jd_M_define_59 (by decide) ?_
      refine z_zast (ti := 2) (pc := 60) E rfl jd_M_define_60 (by assumption) (vp_in_nI (by omega) (by omega)) (fun es60 he60 => ?_)
      rw [nI_clamp (by omega)] at he60
      have h5 := h4.s7 he60
      dsimp only at h5
      have m5 := h5.1
      refine z_aload_n (pc := 61) E jd_M_define_61 rfl rfl ?_
      refine z_iconst (v := 0) (pc := 62) E jd_M_define_62 (by decide) ?_
      refine z_iconst (v := 2) (pc := 63) E jd_M_define_63 (by decide) ?_
      refine z_iload_n (pc := 64) E jd_M_define_64 rfl rfl ?_
      refine z_iadd (pc := 65) E jd_M_define_65 ?_
      refine z_topi (y := nI (2 + c)) (nI_add 2 c) ?_
      refine z_cV2V (pc := 66) E (c_M_copy l G B (f := 0) (t := 2 + c) h5 (by omega) (by omega) (by omega)) jc_M_74 jv_M_copy rfl (by assumption) ⟨Nat.le_of_ble_eq_true rfl, Nat.le_of_ble_eq_true rfl⟩ jd_M_define_66 (Nat.le_of_ble_eq_true rfl) (by decide) (by decide) (fun es66 h66 => ?_)
      obtain ⟨h6, F6⟩ := h66
      refine z_iconst (v := 0) (pc := 69) E jd_M_define_69 (by decide) ?_
      refine z_iret E jd_M_define_70 ⟨_, rfl, ?_⟩
      dsimp only
      rw [if_neg hx, if_neg (nm1 c17), nI_clamp hj]
      have FF : Fr es es66 r (r + 15) := (((((Fr.set he29 (by omega) (by omega)).trs (Fr.set he39 (by omega) (by omega))).trs (Fr.set he46 (by omega) (by omega))).trs (Fr.set he53 (by omega) (by omega))).trs (Fr.set he60 (by omega) (by omega))).trs F6
      refine ⟨rfl, ⟨_, z, a, e, h6, cpS_ne (by omega) t0, cpS_ne (by omega) t1, fun c' hc' => ?_⟩, FF⟩
      by_cases ec : c' = c
      · subst ec
        rw [va_up_self]
        exact ⟨⟨pk_us, pk_us, pk_us, pk_us, (hC c' hc').1.2.2.2.2.1, cpS_to t0, Nat.zero_le _, fun k hk => absurd hk (Nat.not_lt_zero k)⟩, pk_us, Nat.zero_le _, fun k hk => absurd hk (Nat.not_lt_zero k)⟩
      · rw [va_up_ne _ _ ec]
        have hh := hC c' hc'
        refine ⟨hh.1.keep (fun u ys hu => cpS_ne (by omega)) (pk_un ec) (pk_un ec) (pk_un ec) (pk_un ec) rfl, (pk_un ec).trans hh.2.1, hh.2.2.1, fun k hk => (hh.2.2.2 k hk).keep (fun u ys hu => cpS_ne (by omega)) rfl rfl⟩
    · refine z_bipush (v := -2) (pc := 20) E jd_M_define_20 (by decide) ?_
      exact z_iret E jd_M_define_22 ⟨_, rfl, by dsimp only; rw [if_neg hx, if_pos (nm0 c17 hl)]; exact ⟨rfl, rfl⟩⟩
  · have hx : x < 0 ∨ 4 ≤ x := Decidable.byContradiction fun q => c6 (by rw [if_neg q])
    refine z_iconst (v := -1) (pc := 9) E jd_M_define_9 (by decide) ?_
    exact z_iret E jd_M_define_10 ⟨_, rfl, by dsimp only; rw [if_pos hx]; exact ⟨rfl, rfl⟩⟩
/-! face -/
set_option maxHeartbeats 4000000 in
set_option maxRecDepth 100000 in
theorem c_M_face (l : Launch) (G : zG) (B : Nat) {es : zE} {r c u : Nat} {nm sh : List Nat} {R : Nat → DT} {E0 : Nat → Ent} (h : rA G B es r nm sh R) (hc : cnum R (nI c) = some c) (hE : (R c).2.2.2.1 = E0) (hu : (R c).2.2.2.2.1 = u) : Tr l G B jy_M_face jb_M_face 3 (some .int) 2 0 0 [.ref (B + r), .int (nI c)] es (pI fun v es' => if nm = [] then v = -2 ∧ es' = es else if fnd E0 4 nm sh u 0 < u then v = -3 ∧ es' = es else if u = 4 then v = -4 ∧ es' = es else v = nI (u + 1) ∧ rA G B es' r nm sh (va_up R c (dtF (R c) (va_up E0 u (4, 0, nm, sh)) (u + 1))) ∧ Fr es es' r (r + 15)) := by
  obtain ⟨S, z, a, e, h0, t0, t1, hC⟩ := h
  obtain ⟨m0, a1, a2, a3, a4, a5, a6, a7, a8, a9, a10, a11, a12, a13, a14⟩ := id h0
  obtain ⟨-, hc4, hth⟩ := cnum_some hc
  have hcn : ¬ cnuM S (nI c) = none := by rw [cnuM_eq hC, hc]; exact fun q => by cases q
  have hl := t0.2.1
  have hh := hC c hc4
  obtain ⟨d3, d4, d5, d7, d8, dn, du, dF⟩ := id hh.1
  rw [hE, hu] at dF
  rw [hu] at d5 du
  refine Tr.of (ls := [some (.ref (B + r)), some (.int (nI c)), none]) (by decide +kernel) (Nat.le_of_ble_eq_true rfl) rfl ?_
  intro zp ze zs zm zb zt zc E
  have add : ¬ nm = [] → ¬ fnd E0 4 nm sh u 0 < u → Zj zp l ze (zr 2 0 0) zs zm ([.ref (B + r), .int (nI c)] : List Value).toArray zb zt zc (MQ zb (zQ G B (pI fun v es' => if nm = [] then v = -2 ∧ es' = es else if fnd E0 4 nm sh u 0 < u then v = -3 ∧ es' = es else if u = 4 then v = -4 ∧ es' = es else v = nI (u + 1) ∧ rA G B es' r nm sh (va_up R c (dtF (R c) (va_up E0 u (4, 0, nm, sh)) (u + 1))) ∧ Fr es es' r (r + 15))) ([.ref (B + r), .int (nI c)] : List Value).toArray zs 0 0 (fun q => B ≤ q)) G B 3 0 0 59 [some (.ref (B + r)), some (.int (nI c)), some (.int (nI u))] [] es := by
    intro hn hf
    refine z_aload_n (pc := 59) E jd_M_face_59 rfl rfl ?_
    refine z_get (pc := 60) E jf_M_23 jd_M_face_60 (by assumption) (by rfl) ?_
    refine z_iload_n (pc := 63) E jd_M_face_63 rfl rfl ?_
    refine z_iald (ti := 1) (pc := 64) E rfl jd_M_face_64 (by assumption) (vp_in_nI (by omega) (by omega)) ?_
    rw [nI_clamp (by omega), d5]
    refine z_iconst (v := 4) (pc := 65) E jd_M_face_65 (by decide) ?_
    refine z_icmp_ne (pc := 66) (tgt := 72) E jd_M_face_66 (by decide) (fun c66 => ?_) (fun c66 => ?_)
    · have h4 := nceq (b := 4) c66
      refine z_aload_n (pc := 72) E jd_M_face_72 rfl rfl ?_
      refine z_iconst (v := 0) (pc := 73) E jd_M_face_73 (by decide) ?_
      refine z_bipush (v := 6) (pc := 74) E jd_M_face_74 (by decide) ?_
      refine z_iconst (v := 4) (pc := 76) E jd_M_face_76 (by decide) ?_
      refine z_iload_n (pc := 77) E jd_M_face_77 rfl rfl ?_
      refine z_imul (pc := 78) E jd_M_face_78 ?_
      refine z_topi (y := nI (4 * c)) (pk_mul 4 c) ?_
      refine z_iadd (pc := 79) E jd_M_face_79 ?_
      refine z_topi (y := nI (6 + 4 * c)) (nI_add 6 (4 * c)) ?_
      refine z_aload_n (pc := 80) E jd_M_face_80 rfl rfl ?_
      refine z_get (pc := 81) E jf_M_23 jd_M_face_81 (by assumption) (by rfl) ?_
      refine z_iload_n (pc := 84) E jd_M_face_84 rfl rfl ?_
      refine z_iald (ti := 1) (pc := 85) E rfl jd_M_face_85 (by assumption) (vp_in_nI (by omega) (by omega)) ?_
      rw [nI_clamp (by omega), d5]
      refine z_iadd (pc := 86) E jd_M_face_86 ?_
      rw [nI_add]
      refine z_cV2V (pc := 87) E (c_M_copy l G B (f := 0) (t := 6 + 4 * c + u) h0 (by omega) (by omega) (by omega)) jc_M_74 jv_M_copy rfl (by assumption) ⟨Nat.le_of_ble_eq_true rfl, Nat.le_of_ble_eq_true rfl⟩ jd_M_face_87 (Nat.le_of_ble_eq_true rfl) (by decide) (by decide) (fun es87 h87 => ?_)
      obtain ⟨h1, F1⟩ := h87
      obtain ⟨p0, p1, p2, p3, p4, p5, p6, p7, p8, p9, p10, p11, p12, p13, p14⟩ := id h1
      refine z_aload_n (pc := 90) E jd_M_face_90 rfl rfl ?_
      refine z_get (pc := 91) E jf_M_23 jd_M_face_91 (by assumption) (by rfl) ?_
      refine z_iload_n (pc := 94) E jd_M_face_94 rfl rfl ?_
      refine z_dup2 (pc := 95) E jd_M_face_95 rfl rfl ?_
      refine z_iald (ti := 1) (pc := 96) E rfl jd_M_face_96 (by assumption) (vp_in_nI (by omega) (by omega)) ?_
      rw [nI_clamp (by omega)]
      refine z_topi (y := nI u) d5 ?_
      refine z_iconst (v := 1) (pc := 97) E jd_M_face_97 (by decide) ?_
      refine z_iadd (pc := 98) E jd_M_face_98 ?_
      refine z_topi (y := nI (u + 1)) (nI_1 u) ?_
      refine z_iast (ti := 1) (pc := 99) E rfl jd_M_face_99 (by assumption) (vp_in_nI (by omega) (by omega)) (fun es99 he99 => ?_)
      rw [nI_clamp (by omega)] at he99
      have h2 := h1.s5 he99
      obtain ⟨q0, q1, q2, q3, q4, q5, -⟩ := id h2
      refine z_aload_n (pc := 100) E jd_M_face_100 rfl rfl ?_
      refine z_get (pc := 101) E jf_M_23 jd_M_face_101 (by assumption) (by rfl) ?_
      refine z_iload_n (pc := 104) E jd_M_face_104 rfl rfl ?_
      refine z_iald (ti := 1) (pc := 105) E rfl jd_M_face_105 (by assumption) (vp_in_nI (by omega) (by omega)) ?_
      rw [nI_clamp (by omega)]
      dsimp only
      rw [pk_us]
      refine z_iret E jd_M_face_106 ⟨_, rfl, ?_⟩
      dsimp only
      rw [if_neg hn, if_neg hf, if_neg h4]
      refine ⟨rfl, ⟨_, z, a, e, h2, cpS_ne (by omega) t0, cpS_ne (by omega) t1, fun c' hc' => ?_⟩, F1.trs (Fr.set he99 (by omega) (by omega))⟩
      by_cases ec : c' = c
      · subst ec
        rw [va_up_self]
        refine ⟨⟨d3, d4, pk_us, d7, d8, cpS_ne (by omega) dn, by show u + 1 ≤ 4; omega, fun k hk => ?_⟩, hh.2.1, hh.2.2.1, fun k hk => (hh.2.2.2 k hk).keep (fun v ys hv => cpS_ne (by have := hh.2.2.1; dsimp only [dtF] at hk; omega)) rfl rfl⟩
        have hk : k < u + 1 := hk
        show (va_up E0 u (4, 0, nm, sh) k).1 = 4 ∧ rt _ (6 + 4 * c' + k) (va_up E0 u (4, 0, nm, sh) k).2.2.1
        by_cases ek : k = u
        · subst ek
          rw [va_up_self]
          exact ⟨rfl, cpS_to t0⟩
        · rw [va_up_ne _ _ ek]
          exact ⟨(dF k (by omega)).1, cpS_ne (by omega) (dF k (by omega)).2⟩
      · rw [va_up_ne _ _ ec]
        have hh' := hC c' hc'
        refine ⟨hh'.1.keep (fun v ys hv => cpS_ne (by omega)) rfl rfl (pk_un ec) rfl rfl, hh'.2.1, hh'.2.2.1, fun k hk => (hh'.2.2.2 k hk).keep (fun v ys hv => cpS_ne (by have := hh'.2.2.1; omega)) rfl rfl⟩
    · have h4 := ceq (b := 4) c66
      refine z_bipush (v := -4) (pc := 69) E jd_M_face_69 (by decide) ?_
      exact z_iret E jd_M_face_71 ⟨_, rfl, by dsimp only; rw [if_neg hn, if_neg hf, if_pos h4]; exact ⟨rfl, rfl⟩⟩
  have loop : ∀ (f i : Nat), ¬ nm = [] → i + f = u → fnd E0 4 nm sh f i = fnd E0 4 nm sh u 0 → Zj zp l ze (zr 2 0 0) zs zm ([.ref (B + r), .int (nI c)] : List Value).toArray zb zt zc (MQ zb (zQ G B (pI fun v es' => if nm = [] then v = -2 ∧ es' = es else if fnd E0 4 nm sh u 0 < u then v = -3 ∧ es' = es else if u = 4 then v = -4 ∧ es' = es else v = nI (u + 1) ∧ rA G B es' r nm sh (va_up R c (dtF (R c) (va_up E0 u (4, 0, nm, sh)) (u + 1))) ∧ Fr es es' r (r + 15))) ([.ref (B + r), .int (nI c)] : List Value).toArray zs 0 0 (fun q => B ≤ q)) G B 3 0 0 24 [some (.ref (B + r)), some (.int (nI c)), some (.int (nI i))] [] es := by
    intro f
    induction f with
    | zero =>
      intro i hn hi he
      have hiu : i = u := by omega
      subst hiu
      refine z_iload_n (pc := 24) E jd_M_face_24 rfl rfl ?_
      refine z_aload_n (pc := 25) E jd_M_face_25 rfl rfl ?_
      refine z_get (pc := 26) E jf_M_23 jd_M_face_26 (by assumption) (by rfl) ?_
      refine z_iload_n (pc := 29) E jd_M_face_29 rfl rfl ?_
      refine z_iald (ti := 1) (pc := 30) E rfl jd_M_face_30 (by assumption) (vp_in_nI (by omega) (by omega)) ?_
      rw [nI_clamp (by omega), d5]
      refine z_icmp_ge (pc := 31) (tgt := 59) E jd_M_face_31 (by decide) (fun c31 => ?_) (fun c31 => ?_)
      · exact add hn (by rw [← he]; exact Nat.lt_irrefl _)
      · exact absurd ((nI_leI (by omega) (by omega)).mpr (Nat.le_refl _)) c31
    | succ f ih =>
      intro i hn hi he
      have hFi := dF i (by omega)
      rw [fnd] at he
      refine z_iload_n (pc := 24) E jd_M_face_24 rfl rfl ?_
      refine z_aload_n (pc := 25) E jd_M_face_25 rfl rfl ?_
      refine z_get (pc := 26) E jf_M_23 jd_M_face_26 (by assumption) (by rfl) ?_
      refine z_iload_n (pc := 29) E jd_M_face_29 rfl rfl ?_
      refine z_iald (ti := 1) (pc := 30) E rfl jd_M_face_30 (by assumption) (vp_in_nI (by omega) (by omega)) ?_
      rw [nI_clamp (by omega), d5]
      refine z_icmp_ge (pc := 31) (tgt := 59) E jd_M_face_31 (by decide) (fun c31 => ?_) (fun c31 => ?_)
      · exact absurd ((nI_leI (by omega) (by omega)).mp c31) (by omega)
      · refine z_aload_n (pc := 34) E jd_M_face_34 rfl rfl ?_
        refine z_iconst (v := 0) (pc := 35) E jd_M_face_35 (by decide) ?_
        refine z_bipush (v := 6) (pc := 36) E jd_M_face_36 (by decide) ?_
        refine z_iconst (v := 4) (pc := 38) E jd_M_face_38 (by decide) ?_
        refine z_iload_n (pc := 39) E jd_M_face_39 rfl rfl ?_
        refine z_imul (pc := 40) E jd_M_face_40 ?_
        refine z_topi (y := nI (4 * c)) (pk_mul 4 c) ?_
        refine z_iadd (pc := 41) E jd_M_face_41 ?_
        refine z_topi (y := nI (6 + 4 * c)) (nI_add 6 (4 * c)) ?_
        refine z_iload_n (pc := 42) E jd_M_face_42 rfl rfl ?_
        refine z_iadd (pc := 43) E jd_M_face_43 ?_
        rw [nI_add]
        refine z_cV2I (pc := 44) E (c_M_compare l G B (u := 0) (v := 6 + 4 * c + i) h0 (by omega) (by omega) t0 hFi.2) jc_M_82 jv_M_compare rfl (by assumption) ⟨Nat.le_of_ble_eq_true rfl, Nat.le_of_ble_eq_true rfl⟩ jd_M_face_44 (Nat.le_of_ble_eq_true rfl) (by decide) (by decide) (fun v44 es44 h44 => ?_)
        obtain ⟨w44, e44⟩ := h44
        rw [e44]
        refine z_if_ne (pc := 47) (tgt := 53) E jd_M_face_47 (by decide) (fun c47 => ?_) (fun c47 => ?_)
        · have hne : ¬ entC (E0 i) 4 nm sh = 0 := fun q => c47 (i0_toInt.mpr (w44.trans ((entC_face hFi.1).mp q)))
          rw [if_neg hne] at he
          refine z_iinc (pc := 53) E jd_M_face_53 rfl rfl (by decide) rfl ?_
          dsimp only [List.set]
          refine z_goto (pc := 56) (tgt := 24) E jd_M_face_56 (by decide) ?_
          have := ih (i + 1) hn (by omega) he
          rw [nI_succ i] at this
          exact this
        · have heq : entC (E0 i) 4 nm sh = 0 := (entC_face hFi.1).mpr (w44.symm.trans (i0_toInt.mp c47))
          rw [if_pos heq] at he
          refine z_bipush (v := -3) (pc := 50) E jd_M_face_50 (by decide) ?_
          exact z_iret E jd_M_face_52 ⟨_, rfl, by dsimp only; rw [if_neg hn, if_pos (by omega)]; exact ⟨rfl, rfl⟩⟩
  refine z_aload_n (pc := 0) E jd_M_face_0 rfl rfl ?_
  refine z_iload_n (pc := 1) E jd_M_face_1 rfl rfl ?_
  refine z_cV1I (pc := 2) E (c_M_none l G B h0) jc_M_78 jv_M_none rfl (by assumption) ⟨Nat.le_of_ble_eq_true rfl, Nat.le_of_ble_eq_true rfl⟩ jd_M_face_2 (Nat.le_of_ble_eq_true rfl) (by decide) (by decide) (fun v2 es2 h2 => ?_)
  obtain ⟨w2, e2⟩ := h2
  rw [e2, w2, if_neg hcn]
  refine z_if_eq (pc := 5) (tgt := 10) E jd_M_face_5 (by decide) (fun c5 => ?_) (fun c5 => ?_)
  · refine z_aload_n (pc := 10) E jd_M_face_10 rfl rfl ?_
    refine z_get (pc := 11) E jf_M_13 jd_M_face_11 (by assumption) (by rfl) ?_
    refine z_iconst (v := 0) (pc := 14) E jd_M_face_14 (by decide) ?_
    refine z_iald (ti := 1) (pc := 15) E rfl jd_M_face_15 (by assumption) (vp_in_nI (n := 0) (by omega) (by omega)) ?_
    refine z_topi (y := nI nm.length) t0.1 ?_
    refine z_if_ne (pc := 16) (tgt := 22) E jd_M_face_16 (by decide) (fun c16 => ?_) (fun c16 => ?_)
    · refine z_iconst (v := 0) (pc := 22) E jd_M_face_22 (by decide) ?_
      refine z_istore_n (pc := 23) E jd_M_face_23 rfl (by decide) rfl ?_
      dsimp only [List.set]
      exact loop u 0 (nm1 c16) (by omega) rfl
    · refine z_bipush (v := -2) (pc := 19) E jd_M_face_19 (by decide) ?_
      exact z_iret E jd_M_face_21 ⟨_, rfl, by dsimp only; rw [if_pos (nm0 c16 hl)]; exact ⟨rfl, rfl⟩⟩
  · exact absurd rfl c5
