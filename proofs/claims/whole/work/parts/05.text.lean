/-! numbers, texts as lists of codes -/
theorem nI_sub_toInt {a b : Nat} (ha : a < 2 ^ 30) (hb : b < 2 ^ 30) : (nI a - nI b).toInt = (a : Int) - b := pk_sub_toInt ha hb
/-- two texts: their first difference, or their lengths' -/
def cmpZ : List Nat → List Nat → Int
  | [], ys => -(ys.length : Int)
  | x :: xs, [] => ((x :: xs).length : Int)
  | x :: xs, y :: ys => if x = y then cmpZ xs ys else (x : Int) - y
theorem cmpZ_nil_r (xs : List Nat) : cmpZ xs [] = xs.length := by cases xs <;> simp [cmpZ]
theorem zs_eq {es es1 : zE} {i : Nat} {e e0 : va_E} (he : es1 = es.set i e) (h0 : es[i]? = some e0) : es1[i]? = some e := by
  rw [he]; exact List.getElem?_set_self (List.getElem?_eq_some_iff.mp h0).1
theorem zs_ne {es es1 : zE} {i j : Nat} {e x : va_E} (he : es1 = es.set i e) (h : i ≠ j) (hj : es[j]? = some x) : es1[j]? = some x := by
  rw [he, List.getElem?_set_ne h]; exact hj
/-- outside lo .. hi nothing has changed -/
def Fr (es es' : zE) (lo hi : Nat) : Prop := es'.length = es.length ∧ ∀ j, (j < lo ∨ hi ≤ j) → es'[j]? = es[j]?
theorem Fr.rf {es : zE} {lo hi : Nat} : Fr es es lo hi := ⟨rfl, fun _ _ => rfl⟩
theorem Fr.set {es es1 : zE} {i lo hi : Nat} {e : va_E} (he : es1 = es.set i e) (h1 : lo ≤ i) (h2 : i < hi) : Fr es es1 lo hi := by
  subst he
  exact ⟨List.length_set, fun j hj => List.getElem?_set_ne (by omega)⟩
theorem Fr.tr {es es1 es2 : zE} {lo hi lo1 hi1 lo2 hi2 : Nat} (a : Fr es es1 lo1 hi1) (b : Fr es1 es2 lo2 hi2) (h1 : lo ≤ lo1) (h2 : hi1 ≤ hi) (h3 : lo ≤ lo2) (h4 : hi2 ≤ hi) : Fr es es2 lo hi :=
  ⟨b.1.trans a.1, fun j hj => (b.2 j (by omega)).trans (a.2 j (by omega))⟩
theorem Fr.trs {es es1 es2 : zE} {lo hi : Nat} (a : Fr es es1 lo hi) (b : Fr es1 es2 lo hi) : Fr es es2 lo hi := a.tr b (Nat.le_refl _) (Nat.le_refl _) (Nat.le_refl _) (Nat.le_refl _)
theorem cle {a b : Nat} (h : nI a ≤ nI b) (ha : a < 2 ^ 31 := by omega) (hb : b < 2 ^ 31 := by omega) : a ≤ b := (nI_leI ha hb).mp h
theorem ncle {a b : Nat} (h : ¬ nI a ≤ nI b) (ha : a < 2 ^ 31 := by omega) (hb : b < 2 ^ 31 := by omega) : b < a := Nat.lt_of_not_le fun q => h ((nI_leI ha hb).mpr q)
theorem clt {a b : Nat} (h : nI a < nI b) (ha : a < 2 ^ 31 := by omega) (hb : b < 2 ^ 31 := by omega) : a < b := (nI_ltI ha hb).mp h
theorem nclt {a b : Nat} (h : ¬ nI a < nI b) (ha : a < 2 ^ 31 := by omega) (hb : b < 2 ^ 31 := by omega) : b ≤ a := Nat.le_of_not_lt fun q => h ((nI_ltI ha hb).mpr q)
theorem ceq {a b : Nat} (h : nI a = nI b) (ha : a < 2 ^ 31 := by omega) (hb : b < 2 ^ 31 := by omega) : a = b := (nI_eq ha hb).mp h
theorem nceq {a b : Nat} (h : ¬ nI a = nI b) : a ≠ b := fun q => h (by rw [q])
theorem Fr.at {es es1 : zE} {lo hi j : Nat} {e : va_E} (a : Fr es es1 lo hi) (h : j < lo ∨ hi ≤ j) (he : es[j]? = some e) : es1[j]? = some e := (a.2 j h).trans he
/-- a Text at the place p holds the codes xs -/
def tx (G : zG) (B : Nat) (es : zE) (p : Nat) (xs : List Nat) : Prop := ∃ f : Nat → Int32, es[p]? = some (.inr (1, [.ref (B + (p + 1)), .int (nI xs.length)])) ∧ es[p + 1]? = some (.inl (G.2.1 0, 24, .inl f)) ∧ xs.length ≤ 24 ∧ (∀ j, j < xs.length → f j = nI (xs.getD j 0)) ∧ (∀ x ∈ xs, x < 128)
theorem tx.kept {G : zG} {B : Nat} {es es' : zE} {p : Nat} {xs : List Nat} (h : tx G B es p xs) (hk : ∀ j, p ≤ j → j < p + 2 → es'[j]? = es[j]?) : tx G B es' p xs := by
  obtain ⟨f, h1, h2, h3⟩ := h
  exact ⟨f, (hk p (by omega) (by omega)).trans h1, (hk (p + 1) (by omega) (by omega)).trans h2, h3⟩
theorem tx.fr {G : zG} {B : Nat} {es es' : zE} {p lo hi : Nat} {xs : List Nat} (h : tx G B es p xs) (hk : Fr es es' lo hi) (ho : p + 2 ≤ lo ∨ hi ≤ p) : tx G B es' p xs := h.kept (fun j h1 h2 => hk.2 j (by omega))
theorem getD_lt {xs : List Nat} {j : Nat} (h : ∀ x ∈ xs, x < 128) : xs.getD j 0 < 128 := by
  by_cases hj : j < xs.length
  · rw [List.getD_eq_getElem?_getD, List.getElem?_eq_getElem hj]; exact h _ (List.getElem_mem hj)
  · rw [List.getD_eq_getElem?_getD, List.getElem?_eq_none (by omega)]; decide
theorem getD_oob {xs : List Nat} {j : Nat} (h : xs.length ≤ j) : xs.getD j 0 = 0 := by
  rw [List.getD_eq_getElem?_getD, List.getElem?_eq_none h]; rfl
/-- the sign at a place, 0 where there is none -/
def tat (xs : List Nat) (x : Int32) : Int32 := if x < 0 then 0 else nI (xs.getD x.toNatClampNeg 0)
theorem tat_nI {xs : List Nat} {j : Nat} (h : j < 2 ^ 31) : tat xs (nI j) = nI (xs.getD j 0) := by
  rw [tat, if_neg (nI_pos h), nI_clamp h]
set_option maxHeartbeats 4000000 in
set_option maxRecDepth 100000 in
/-- Text.at -/
theorem c_T_at (l : Launch) (G : zG) (B : Nat) {es : zE} {p : Nat} {xs : List Nat} {x : Int32} (h : tx G B es p xs) : Tr l G B jy_T_at jb_T_at 2 (some .int) 0 0 0 [.ref (B + p), .int x] es (pI fun v es' => v = tat xs x ∧ es' = es) := by
  obtain ⟨f, h1, h2, h3, h4, h5⟩ := h
  refine Tr.of (ls := [some (.ref (B + p)), some (.int x)]) (by decide +kernel) (Nat.le_of_ble_eq_true rfl) rfl ?_
  intro zp ze zs zm zb zt zc E
  refine z_iload_n (pc := 0) E jd_T_at_0 rfl rfl ?_
  refine z_if_lt (pc := 1) (tgt := 21) E jd_T_at_1 (by decide) (fun c1 => ?_) (fun c1 => ?_)
  · have hz : tat xs x = 0 := by rw [tat, if_pos c1]
    refine z_iconst (v := 0) (pc := 21) E jd_T_at_21 (by decide) ?_
    exact z_iret E jd_T_at_22 ⟨_, rfl, hz.symm, rfl⟩
  · obtain ⟨j, hj, rfl⟩ := nI_of c1
    refine z_iload_n (pc := 4) E jd_T_at_4 rfl rfl ?_
    refine z_aload_n (pc := 5) E jd_T_at_5 rfl rfl ?_
    refine z_get (pc := 6) E jf_T_15 jd_T_at_6 (by assumption) (by rfl) ?_
    refine z_icmp_ge (pc := 9) (tgt := 21) E jd_T_at_9 (by decide) (fun c9 => ?_) (fun c9 => ?_)
    · have hz : tat xs (nI j) = 0 := by rw [tat_nI hj, getD_oob (cle c9)]; rfl
      refine z_iconst (v := 0) (pc := 21) E jd_T_at_21 (by decide) ?_
      exact z_iret E jd_T_at_22 ⟨_, rfl, hz.symm, rfl⟩
    · have hj2 : j < xs.length := ncle c9
      have hz : tat xs (nI j) = f j := by rw [tat_nI hj, h4 j hj2]
      refine z_aload_n (pc := 12) E jd_T_at_12 rfl rfl ?_
      refine z_get (pc := 13) E jf_T_9 jd_T_at_13 (by assumption) (by rfl) ?_
      refine z_iload_n (pc := 16) E jd_T_at_16 rfl rfl ?_
      refine z_bald (ti := 0) (pc := 17) E rfl jd_T_at_17 (by assumption) (vp_in_nI (by omega) (by omega)) ?_
      rw [nI_clamp (by omega)]
      refine z_goto (pc := 18) (tgt := 22) E jd_T_at_18 (by decide) ?_
      exact z_iret E jd_T_at_22 ⟨_, rfl, hz.symm, rfl⟩
theorem nb_small : ∀ c, c < 128 → (nI c).toInt8.toInt32 = nI c := by decide +kernel
theorem nb_fit : ∀ c, c < 128 → fits .byte (.int (nI c)) = true := by decide +kernel
theorem getD_app_l {xs ys : List Nat} {j : Nat} (h : j < xs.length) : (xs ++ ys).getD j 0 = xs.getD j 0 := by
  rw [List.getD_eq_getElem?_getD, List.getElem?_append_left h, ← List.getD_eq_getElem?_getD]
theorem getD_app_r {xs ys : List Nat} {j : Nat} (h : xs.length ≤ j) : (xs ++ ys).getD j 0 = ys.getD (j - xs.length) 0 := by
  rw [List.getD_eq_getElem?_getD, List.getElem?_append_right h, ← List.getD_eq_getElem?_getD]
set_option maxHeartbeats 4000000 in
set_option maxRecDepth 100000 in
/-- Text.append -/
theorem c_T_append (l : Launch) (G : zG) (B : Nat) {es : zE} {p c : Nat} {xs : List Nat} (h : tx G B es p xs) (hl : xs.length < 24) (hc : c < 128) : Tr l G B jy_T_append jb_T_append 2 none 0 0 0 [.ref (B + p), .int (nI c)] es (pV fun es' => tx G B es' p (xs ++ [c]) ∧ Fr es es' p (p + 2)) := by
  obtain ⟨f, h1, h2, h3, h4, h5⟩ := h
  refine Tr.of (ls := [some (.ref (B + p)), some (.int (nI c))]) (by decide +kernel) (Nat.le_of_ble_eq_true rfl) rfl ?_
  intro zp ze zs zm zb zt zc E
  refine z_aload_n (pc := 0) E jd_T_append_0 rfl rfl ?_
  refine z_get (pc := 1) E jf_T_15 jd_T_append_1 (by assumption) (by rfl) ?_
  refine z_bipush (v := 24) (pc := 4) E jd_T_append_4 (by decide) ?_
  refine z_icmp_ge (pc := 6) (tgt := 30) E jd_T_append_6 (by decide) (fun c6 => ?_) (fun c6 => ?_)
  · exact absurd ((nI_leI (a := 24) (b := xs.length) (by omega) (by omega)).mp c6) (by omega)
  · refine z_aload_n (pc := 9) E jd_T_append_9 rfl rfl ?_
    refine z_get (pc := 10) E jf_T_9 jd_T_append_10 (by assumption) (by rfl) ?_
    refine z_aload_n (pc := 13) E jd_T_append_13 rfl rfl ?_
    refine z_get (pc := 14) E jf_T_15 jd_T_append_14 (by assumption) (by rfl) ?_
    refine z_iload_n (pc := 17) E jd_T_append_17 rfl rfl ?_
    refine z_i2b (pc := 18) E jd_T_append_18 ?_
    refine z_bast (ti := 0) (pc := 19) E rfl jd_T_append_19 (by assumption) (vp_in_nI (by omega) (by omega)) (fun es19 he19 => ?_)
    rw [nI_clamp (by omega)] at he19
    have g1 := zs_ne he19 (by omega) h1
    have g2 := zs_eq he19 h2
    refine z_aload_n (pc := 20) E jd_T_append_20 rfl rfl ?_
    refine z_dup (pc := 21) E jd_T_append_21 rfl ?_
    refine z_get (pc := 22) E jf_T_15 jd_T_append_22 (by assumption) (by rfl) ?_
    refine z_iconst (v := 1) (pc := 25) E jd_T_append_25 (by decide) ?_
    refine z_iadd (pc := 26) E jd_T_append_26 ?_
    refine z_put (pc := 27) E jp_T_15 jd_T_append_27 (by assumption) (Nat.le_of_ble_eq_true rfl) rfl rfl (fun es27 he27 => ?_)
    dsimp only [List.set] at he27
    have k1 := zs_eq he27 g1
    rw [nI_1] at k1
    have k2 := zs_ne he27 (by omega) g2
    have q1 : ∀ j, j < (xs ++ [c]).length → upd f xs.length (vp_nar .byte (nI c).toInt8.toInt32) j = nI ((xs ++ [c]).getD j 0) := by
      intro j hj
      rw [List.length_append] at hj
      have hj : j < xs.length + 1 := hj
      by_cases hjl : j = xs.length
      · subst hjl
        rw [pk_us, pk_vb, nb_small c hc, getD_app_r (Nat.le_refl _), Nat.sub_self]; rfl
      · rw [pk_un hjl, getD_app_l (by omega), h4 j (by omega)]
    have q2 : ∀ x ∈ xs ++ [c], x < 128 := by
      intro x hx
      rcases List.mem_append.mp hx with h | h
      · exact h5 x h
      · rw [List.mem_singleton.mp h]; exact hc
    have q3 : (xs ++ [c]).length = xs.length + 1 := by simp
    exact z_vret E jd_T_append_30 ⟨rfl, ⟨_, by rw [q3]; exact k1, k2, by omega, q1, q2⟩, (Fr.set he19 (by omega) (by omega)).trs (Fr.set he27 (by omega) (by omega))⟩
set_option maxHeartbeats 4000000 in
set_option maxRecDepth 100000 in
/-- Text.become -/
theorem c_T_become (l : Launch) (G : zG) (B : Nat) {es : zE} {p q : Nat} {xs ys : List Nat} (h : tx G B es p xs) (hq : tx G B es q ys) (hpq : p + 2 ≤ q ∨ q + 2 ≤ p) : Tr l G B jy_T_become jb_T_become 2 none 2 0 0 [.ref (B + p), .ref (B + q)] es (pV fun es' => tx G B es' p ys ∧ Fr es es' p (p + 2)) := by
  obtain ⟨f, h1, h2, h3, h4, h5⟩ := h
  obtain ⟨g, i1, i2, i3, i4, i5⟩ := hq
  refine Tr.of (ls := [some (.ref (B + p)), some (.ref (B + q))]) (by decide +kernel) (Nat.le_of_ble_eq_true rfl) rfl ?_
  intro zp ze zs zm zb zt zc E
  refine z_aload_n (pc := 0) E jd_T_become_0 rfl rfl ?_
  refine z_get (pc := 1) E jf_T_9 jd_T_become_1 (by assumption) (by rfl) ?_
  refine z_iconst (v := 0) (pc := 4) E jd_T_become_4 (by decide) ?_
  refine z_aload_n (pc := 5) E jd_T_become_5 rfl rfl ?_
  refine z_get (pc := 6) E jf_T_9 jd_T_become_6 (by assumption) (by rfl) ?_
  refine z_iconst (v := 0) (pc := 9) E jd_T_become_9 (by decide) ?_
  refine z_aload_n (pc := 10) E jd_T_become_10 rfl rfl ?_
  refine z_get (pc := 11) E jf_T_15 jd_T_become_11 (by assumption) (by rfl) ?_
  refine z_copy (ti := 0) (ty := .byte) (pc := 14) E ⟨jw_213, jw_215, jw_214, jw_9⟩ rfl rfl jd_T_become_14 i2 h2 (by decide) (by decide) (nI_pos (by omega)) (by rw [nI_clamp (by omega)]; show 0 + _ ≤ 24; omega) (by rw [nI_clamp (by omega)]; show 0 + _ ≤ 24; omega) (fun j hj => ?_) (by decide) (by decide) (fun es14 he14 => ?_)
  · rw [nI_clamp (by omega)] at hj
    show fits .byte (.int (g (0 + j))) = true
    rw [Nat.zero_add, i4 j hj]
    exact nb_fit _ (getD_lt i5)
  rw [nI_clamp (by omega)] at he14
  have g1 := zs_ne he14 (by omega) h1
  have g2 := zs_eq he14 h2
  have g3 := zs_ne he14 (by omega) i1
  refine z_aload_n (pc := 17) E jd_T_become_17 rfl rfl ?_
  refine z_aload_n (pc := 18) E jd_T_become_18 rfl rfl ?_
  refine z_get (pc := 19) E jf_T_15 jd_T_become_19 (by assumption) (by rfl) ?_
  refine z_put (pc := 22) E jp_T_15 jd_T_become_22 (by assumption) (Nat.le_of_ble_eq_true rfl) rfl rfl (fun es22 he22 => ?_)
  dsimp only [List.set] at he22
  have k1 := zs_eq he22 g1
  have k2 := zs_ne he22 (by omega) g2
  have q1 : ∀ j, j < ys.length → va_cpy g f (0 : Int32).toNatClampNeg (0 : Int32).toNatClampNeg ys.length j = nI (ys.getD j 0) := by
    intro j hj
    rw [pk_cpy_in (by show 0 ≤ j; omega) (by show j < 0 + _; omega)]
    show g (0 + (j - 0)) = _
    rw [show 0 + (j - 0) = j by omega, i4 j hj]
  exact z_vret E jd_T_become_25 ⟨rfl, ⟨_, k1, k2, i3, q1, i5⟩, (Fr.set he14 (by omega) (by omega)).trs (Fr.set he22 (by omega) (by omega))⟩
theorem drop_cons_getD {xs : List Nat} {i : Nat} (h : i < xs.length) : xs.drop i = xs.getD i 0 :: xs.drop (i + 1) := by
  rw [List.drop_eq_getElem_cons h, List.getD_eq_getElem?_getD, List.getElem?_eq_getElem h]; rfl
set_option maxHeartbeats 4000000 in
set_option maxRecDepth 100000 in
/-- Text.compareWith -/
theorem c_T_compareWith (l : Launch) (G : zG) (B : Nat) {es : zE} {p q : Nat} {xs ys : List Nat} (h : tx G B es p xs) (hq : tx G B es q ys) : Tr l G B jy_T_compareWith jb_T_compareWith 4 (some .int) 1 0 0 [.ref (B + p), .ref (B + q)] es (pI fun v es' => v.toInt = cmpZ xs ys ∧ es' = es) := by
  obtain ⟨f, h1, h2, h3, h4, h5⟩ := h
  obtain ⟨g, i1, i2, i3, i4, i5⟩ := hq
  refine Tr.of (ls := [some (.ref (B + p)), some (.ref (B + q)), none, none]) (by decide +kernel) (Nat.le_of_ble_eq_true rfl) rfl ?_
  intro zp ze zs zm zb zt zc E
  have loop : ∀ (n i sh : Nat), i + n = sh → (sh ≤ xs.length ∧ sh ≤ ys.length ∧ (sh = xs.length ∨ sh = ys.length)) → cmpZ (xs.drop i) (ys.drop i) = cmpZ xs ys → Zj zp l ze (zr 1 0 0) zs zm ([.ref (B + p), .ref (B + q)] : List Value).toArray zb zt zc (MQ zb (zQ G B (pI fun v es' => v.toInt = cmpZ xs ys ∧ es' = es)) ([.ref (B + p), .ref (B + q)] : List Value).toArray zs 0 0 (fun q => B ≤ q)) G B 4 0 0 14 [some (.ref (B + p)), some (.ref (B + q)), some (.int (nI sh)), some (.int (nI i))] [] es := by
    intro n
    induction n with
    | zero =>
      intro i sh hi hs hc
      have hi : i = sh := by omega
      refine z_iload_n (pc := 14) E jd_T_compareWith_14 rfl rfl ?_
      refine z_iload_n (pc := 15) E jd_T_compareWith_15 rfl rfl ?_
      refine z_icmp_ge (pc := 16) (tgt := 54) E jd_T_compareWith_16 (by decide) (fun c16 => ?_) (fun c16 => ?_)
      · refine z_aload_n (pc := 54) E jd_T_compareWith_54 rfl rfl ?_
        refine z_get (pc := 55) E jf_T_15 jd_T_compareWith_55 (by assumption) (by rfl) ?_
        refine z_aload_n (pc := 58) E jd_T_compareWith_58 rfl rfl ?_
        refine z_get (pc := 59) E jf_T_15 jd_T_compareWith_59 (by assumption) (by rfl) ?_
        refine z_isub (pc := 62) E jd_T_compareWith_62 ?_
        have hr : (nI xs.length - nI ys.length).toInt = cmpZ xs ys := by
          rw [nI_sub_toInt (by omega) (by omega), ← hc]
          rcases hs.2.2 with e | e
          · rw [List.drop_eq_nil_of_le (as := xs) (by omega)]
            show _ = -(((ys.drop i).length : Nat) : Int)
            rw [List.length_drop]; omega
          · rw [List.drop_eq_nil_of_le (as := ys) (by omega), cmpZ_nil_r, List.length_drop]; omega
        exact z_iret E jd_T_compareWith_63 ⟨_, rfl, hr, rfl⟩
      · exact absurd ((nI_leI (by omega) (by omega)).mpr (by omega)) c16
    | succ n ih =>
      intro i sh hi hs hc
      have hd1 := drop_cons_getD (xs := xs) (i := i) (by omega)
      have hd2 := drop_cons_getD (xs := ys) (i := i) (by omega)
      have e1 := h4 i (by omega)
      have e2 := i4 i (by omega)
      have b1 := getD_lt (j := i) h5
      have b2 := getD_lt (j := i) i5
      refine z_iload_n (pc := 14) E jd_T_compareWith_14 rfl rfl ?_
      refine z_iload_n (pc := 15) E jd_T_compareWith_15 rfl rfl ?_
      refine z_icmp_ge (pc := 16) (tgt := 54) E jd_T_compareWith_16 (by decide) (fun c16 => ?_) (fun c16 => ?_)
      · exact absurd ((nI_leI (by omega) (by omega)).mp c16) (by omega)
      · refine z_aload_n (pc := 19) E jd_T_compareWith_19 rfl rfl ?_
        refine z_get (pc := 20) E jf_T_9 jd_T_compareWith_20 (by assumption) (by rfl) ?_
        refine z_iload_n (pc := 23) E jd_T_compareWith_23 rfl rfl ?_
        refine z_bald (ti := 0) (pc := 24) E rfl jd_T_compareWith_24 (by assumption) (vp_in_nI (by omega) (by omega)) ?_
        rw [nI_clamp (by omega)]
        refine z_aload_n (pc := 25) E jd_T_compareWith_25 rfl rfl ?_
        refine z_get (pc := 26) E jf_T_9 jd_T_compareWith_26 (by assumption) (by rfl) ?_
        refine z_iload_n (pc := 29) E jd_T_compareWith_29 rfl rfl ?_
        refine z_bald (ti := 0) (pc := 30) E rfl jd_T_compareWith_30 (by assumption) (vp_in_nI (by omega) (by omega)) ?_
        rw [nI_clamp (by omega)]
        rw [e1, e2]
        refine z_icmp_eq (pc := 31) (tgt := 48) E jd_T_compareWith_31 (by decide) (fun c31 => ?_) (fun c31 => ?_)
        · have he : xs.getD i 0 = ys.getD i 0 := (nI_eq (by omega) (by omega)).mp c31
          refine z_iinc (pc := 48) E jd_T_compareWith_48 rfl rfl (by decide) rfl ?_
          dsimp only [List.set]
          refine z_goto (pc := 51) (tgt := 14) E jd_T_compareWith_51 (by decide) ?_
          have := ih (i + 1) sh (by omega) hs (by rw [← hc, hd1, hd2]; show _ = if _ then _ else _; rw [if_pos he])
          rw [nI_succ] at this
          exact this
        · have he : ¬ xs.getD i 0 = ys.getD i 0 := fun q => c31 (by rw [q])
          refine z_aload_n (pc := 34) E jd_T_compareWith_34 rfl rfl ?_
          refine z_get (pc := 35) E jf_T_9 jd_T_compareWith_35 (by assumption) (by rfl) ?_
          refine z_iload_n (pc := 38) E jd_T_compareWith_38 rfl rfl ?_
          refine z_bald (ti := 0) (pc := 39) E rfl jd_T_compareWith_39 (by assumption) (vp_in_nI (by omega) (by omega)) ?_
          rw [nI_clamp (by omega)]
          refine z_aload_n (pc := 40) E jd_T_compareWith_40 rfl rfl ?_
          refine z_get (pc := 41) E jf_T_9 jd_T_compareWith_41 (by assumption) (by rfl) ?_
          refine z_iload_n (pc := 44) E jd_T_compareWith_44 rfl rfl ?_
          refine z_bald (ti := 0) (pc := 45) E rfl jd_T_compareWith_45 (by assumption) (vp_in_nI (by omega) (by omega)) ?_
          rw [nI_clamp (by omega)]
          rw [e1, e2]
          refine z_isub (pc := 46) E jd_T_compareWith_46 ?_
          have hr : (nI (xs.getD i 0) - nI (ys.getD i 0)).toInt = cmpZ xs ys := by
            rw [nI_sub_toInt (by omega) (by omega), ← hc, hd1, hd2]
            show _ = if _ then _ else _
            rw [if_neg he]
          exact z_iret E jd_T_compareWith_47 ⟨_, rfl, hr, rfl⟩
  refine z_aload_n (pc := 0) E jd_T_compareWith_0 rfl rfl ?_
  refine z_get (pc := 1) E jf_T_15 jd_T_compareWith_1 (by assumption) (by rfl) ?_
  refine z_aload_n (pc := 4) E jd_T_compareWith_4 rfl rfl ?_
  refine z_get (pc := 5) E jf_T_15 jd_T_compareWith_5 (by assumption) (by rfl) ?_
  refine z_min (pc := 8) E ⟨jw_240, jw_241, jw_10, jw_242⟩ jd_T_compareWith_8 (by decide) (by decide) (by decide) (by decide) ?_
  have hm : (if nI ys.length < nI xs.length then nI ys.length else nI xs.length) = nI (min xs.length ys.length) := by
    by_cases hlt : ys.length < xs.length
    · rw [if_pos (nI_lt hlt (by omega)), Nat.min_eq_right (by omega)]
    · rw [if_neg (nI_nlt (by omega) (by omega)), Nat.min_eq_left (by omega)]
  rw [hm]
  refine z_istore_n (pc := 11) E jd_T_compareWith_11 rfl (by decide) rfl ?_
  dsimp only [List.set]
  refine z_iconst (v := 0) (pc := 12) E jd_T_compareWith_12 (by decide) ?_
  refine z_istore_n (pc := 13) E jd_T_compareWith_13 rfl (by decide) rfl ?_
  dsimp only [List.set]
  exact loop (min xs.length ys.length) 0 _ (by omega) ⟨by omega, by omega, by omega⟩ rfl
