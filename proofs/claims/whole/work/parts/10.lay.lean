/-! bytes -/
/-- the lowest byte -/
def by8 (v : Int32) : Nat := v.toBitVec.toNat % 256
/-- a byte as an element of a row of bytes -/
def bI (b : Nat) : Int32 := (nI b).toInt8.toInt32
theorem nI_bv (n : Nat) : (nI n).toBitVec = BitVec.ofNat 32 n := rfl
theorem by8_lt (v : Int32) : by8 v < 256 := Nat.mod_lt _ (by decide)
theorem by8_nI {c : Nat} (h : c < 256) : by8 (nI c) = c := by
  rw [by8, nI_bv, BitVec.toNat_ofNat]; omega
theorem i8_bv (v : Int32) : v.toInt8.toBitVec = v.toBitVec.setWidth 8 := by
  rw [Int32.toBitVec_toInt8]; exact BitVec.signExtend_eq_setWidth_of_le _ (by decide)
theorem bI_by8 (v : Int32) : v.toInt8.toInt32 = bI (by8 v) := by
  unfold bI
  congr 1
  apply Int8.toBitVec_inj.mp
  rw [i8_bv, i8_bv, nI_bv]
  apply BitVec.eq_of_toNat_eq
  simp [by8]
theorem bI_and : ∀ b, b < 256 → bI b &&& 255 = nI b := by decide +kernel
/-- a number's four bytes -/
def num (v : Int32) : List Nat := [v.toBitVec.toNat / 2 ^ 24 % 256, v.toBitVec.toNat / 2 ^ 16 % 256, v.toBitVec.toNat / 2 ^ 8 % 256, v.toBitVec.toNat % 256]
theorem num_len (v : Int32) : (num v).length = 4 := rfl
theorem num_lt (v : Int32) : ∀ b ∈ num v, b < 256 := by
  intro b hb
  simp only [num, List.mem_cons, List.not_mem_nil, or_false] at hb
  omega
theorem by8_ushr (v s : Int32) (k : Nat) (hs : ((s.toUInt32 &&& Int32.toUInt32 31).toBitVec % 32).toNat = k) : by8 (v.toUInt32 >>> (s.toUInt32 &&& Int32.toUInt32 31)).toInt32 = v.toBitVec.toNat / 2 ^ k % 256 := by
  rw [by8, pk_ushr v s k hs]
def ut (t : List Nat) : List Nat := 0 :: t.length :: t
def dot (c : Nat) : Nat := if c = 47 then 46 else c
def utd (t : List Nat) : List Nat := 0 :: t.length :: t.map dot
theorem ut_len (t : List Nat) : (ut t).length = t.length + 2 := rfl
theorem utd_len (t : List Nat) : (utd t).length = t.length + 2 := by simp [utd]
/-- a Layout at p: its bytes, where the parts begin -/
def ly (G : zG) (B : Nat) (es : zE) (p : Nat) (bs : List Nat) (bg : Nat → Int32) : Prop := ∃ f : Nat → Int32, es[p]? = some (.inr (2, [.ref (B + (p + 1)), .int (nI bs.length), .ref (B + (p + 2))])) ∧ es[p + 1]? = some (.inl (G.2.1 0, 694, .inl f)) ∧ es[p + 2]? = some (.inl (G.2.1 1, 6, .inl bg)) ∧ bs.length ≤ 694 ∧ (∀ j, j < bs.length → f j = bI (bs.getD j 0)) ∧ ∀ b ∈ bs, b < 256
theorem ly.kept {G : zG} {B : Nat} {es es' : zE} {p : Nat} {bs : List Nat} {bg : Nat → Int32} (h : ly G B es p bs bg) (hk : ∀ j, p ≤ j → j < p + 3 → es'[j]? = es[j]?) : ly G B es' p bs bg := by
  obtain ⟨f, h1, h2, h3, h4⟩ := h
  exact ⟨f, (hk p (by omega) (by omega)).trans h1, (hk (p + 1) (by omega) (by omega)).trans h2, (hk (p + 2) (by omega) (by omega)).trans h3, h4⟩
theorem ly.fr {G : zG} {B : Nat} {es es' : zE} {p lo hi : Nat} {bs : List Nat} {bg : Nat → Int32} (h : ly G B es p bs bg) (hk : Fr es es' lo hi) (ho : p + 3 ≤ lo ∨ hi ≤ p) : ly G B es' p bs bg := h.kept (fun j h1 h2 => hk.2 j (by omega))
theorem ly.obj {G : zG} {B : Nat} {es : zE} {p : Nat} {bs : List Nat} {bg : Nat → Int32} (h : ly G B es p bs bg) : es[p]? = some (.inr (2, [.ref (B + (p + 1)), .int (nI bs.length), .ref (B + (p + 2))])) := by
  obtain ⟨f, h1, -⟩ := h; exact h1
theorem tx.obj {G : zG} {B : Nat} {es : zE} {p : Nat} {xs : List Nat} (h : tx G B es p xs) : es[p]? = some (.inr (1, [.ref (B + (p + 1)), .int (nI xs.length)])) := by
  obtain ⟨f, h1, -⟩ := h; exact h1
theorem tx.len {G : zG} {B : Nat} {es : zE} {p : Nat} {xs : List Nat} (h : tx G B es p xs) : xs.length ≤ 24 := by
  obtain ⟨f, -, -, h1, -⟩ := h; exact h1
theorem tx.lt {G : zG} {B : Nat} {es : zE} {p : Nat} {xs : List Nat} (h : tx G B es p xs) : ∀ x ∈ xs, x < 128 := by
  obtain ⟨f, -, -, -, -, h1⟩ := h; exact h1
set_option maxHeartbeats 4000000 in
set_option maxRecDepth 100000 in
theorem c_L_put (l : Launch) (G : zG) (B : Nat) {es : zE} {p : Nat} {bs : List Nat} {bg : Nat → Int32} {v : Int32} (h : ly G B es p bs bg) (hl : bs.length < 694) : Tr l G B jy_L_put jb_L_put 2 none 0 0 0 [.ref (B + p), .int v] es (pV fun es' => ly G B es' p (bs ++ [by8 v]) bg ∧ Fr es es' p (p + 3)) := by
  obtain ⟨f, h1, h2, h3, h4, h5, h6⟩ := h
  refine Tr.of (ls := [some (.ref (B + p)), some (.int v)]) (by decide +kernel) (Nat.le_of_ble_eq_true rfl) rfl ?_
  intro zp ze zs zm zb zt zc E
  refine z_aload_n (pc := 0) E jd_L_put_0 rfl rfl ?_
  refine z_get (pc := 1) E jf_L_15 jd_L_put_1 (by assumption) (by rfl) ?_
  refine z_sipush (v := 694) (pc := 4) E jd_L_put_4 (by decide) ?_
  refine z_icmp_ge (pc := 7) (tgt := 31) E jd_L_put_7 (by decide) (fun c7 => ?_) (fun c7 => ?_)
  · exact absurd (cle (a := 694) c7) (by omega)
  · refine z_aload_n (pc := 10) E jd_L_put_10 rfl rfl ?_
    refine z_get (pc := 11) E jf_L_9 jd_L_put_11 (by assumption) (by rfl) ?_
    refine z_aload_n (pc := 14) E jd_L_put_14 rfl rfl ?_
    refine z_get (pc := 15) E jf_L_15 jd_L_put_15 (by assumption) (by rfl) ?_
    refine z_iload_n (pc := 18) E jd_L_put_18 rfl rfl ?_
    refine z_i2b (pc := 19) E jd_L_put_19 ?_
    refine z_bast (ti := 0) (pc := 20) E rfl jd_L_put_20 (by assumption) (vp_in_nI (by omega) (by omega)) (fun es20 he20 => ?_)
    rw [nI_clamp (by omega)] at he20
    have g1 := zs_ne he20 (by omega) h1
    have g2 := zs_eq he20 h2
    have g3 := zs_ne he20 (by omega) h3
    refine z_aload_n (pc := 21) E jd_L_put_21 rfl rfl ?_
    refine z_dup (pc := 22) E jd_L_put_22 rfl ?_
    refine z_get (pc := 23) E jf_L_15 jd_L_put_23 (by assumption) (by rfl) ?_
    refine z_iconst (v := 1) (pc := 26) E jd_L_put_26 (by decide) ?_
    refine z_iadd (pc := 27) E jd_L_put_27 ?_
    refine z_put (pc := 28) E jp_L_15 jd_L_put_28 (by assumption) (Nat.le_of_ble_eq_true rfl) rfl rfl (fun es28 he28 => ?_)
    dsimp only [List.set] at he28
    have k1 := zs_eq he28 g1
    rw [nI_1] at k1
    have k2 := zs_ne he28 (by omega) g2
    have k3 := zs_ne he28 (by omega) g3
    have q3 : (bs ++ [by8 v]).length = bs.length + 1 := by simp
    have q1 : ∀ j, j < (bs ++ [by8 v]).length → upd f bs.length (vp_nar .byte v.toInt8.toInt32) j = bI ((bs ++ [by8 v]).getD j 0) := by
      intro j hj
      by_cases hjl : j = bs.length
      · subst hjl
        rw [pk_us, pk_vb, bI_by8, getD_app_r (Nat.le_refl _), Nat.sub_self]; rfl
      · rw [pk_un hjl, getD_app_l (by omega), h5 j (by omega)]
    have q2 : ∀ x ∈ bs ++ [by8 v], x < 256 := by
      intro x hx
      rcases List.mem_append.mp hx with h | h
      · exact h6 x h
      · rw [List.mem_singleton.mp h]; exact by8_lt v
    exact z_vret E jd_L_put_31 ⟨rfl, ⟨_, by rw [q3]; exact k1, k2, k3, by omega, q1, q2⟩, (Fr.set he20 (by omega) (by omega)).trs (Fr.set he28 (by omega) (by omega))⟩
set_option maxHeartbeats 4000000 in
set_option maxRecDepth 100000 in
theorem c_L_putLength (l : Launch) (G : zG) (B : Nat) {es : zE} {p c : Nat} {bs : List Nat} {bg : Nat → Int32} (h : ly G B es p bs bg) (hl : bs.length + 2 ≤ 694) (hc : c < 256) : Tr l G B jy_L_putLength jb_L_putLength 2 none 1 0 0 [.ref (B + p), .int (nI c)] es (pV fun es' => ly G B es' p (bs ++ [0, c]) bg ∧ Fr es es' p (p + 3)) := by
  have h1 := h.obj
  refine Tr.of (ls := [some (.ref (B + p)), some (.int (nI c))]) (by decide +kernel) (Nat.le_of_ble_eq_true rfl) rfl ?_
  intro zp ze zs zm zb zt zc E
  refine z_aload_n (pc := 0) E jd_L_putLength_0 rfl rfl ?_
  refine z_iload_n (pc := 1) E jd_L_putLength_1 rfl rfl ?_
  refine z_bipush (v := 8) (pc := 2) E jd_L_putLength_2 (by decide) ?_
  refine z_iushr (pc := 4) E jd_L_putLength_4 ?_
  refine z_topi (y := nI 0) (by have := pk_ushrN (n := c) (by omega) 8 8 (by decide); rw [Nat.div_eq_of_lt hc] at this; exact this) ?_
  refine z_cV1V (pc := 5) E (c_L_put l G B (v := nI 0) h (by omega)) jc_L_102 jv_L_put rfl (by assumption) ⟨by decide, by decide⟩ jd_L_putLength_5 (Nat.le_of_ble_eq_true rfl) (by decide) (by decide) (fun es5 h5 => ?_)
  obtain ⟨w5, F5⟩ := h5
  have h1 := w5.obj
  refine z_aload_n (pc := 8) E jd_L_putLength_8 rfl rfl ?_
  refine z_iload_n (pc := 9) E jd_L_putLength_9 rfl rfl ?_
  refine z_cV1V (pc := 10) E (c_L_put l G B (v := nI c) w5 (by simp; omega)) jc_L_102 jv_L_put rfl (by assumption) ⟨by decide, by decide⟩ jd_L_putLength_10 (Nat.le_of_ble_eq_true rfl) (by decide) (by decide) (fun es10 h10 => ?_)
  obtain ⟨w10, F10⟩ := h10
  rw [by8_nI hc, by8_nI (by omega), List.append_assoc] at w10
  exact z_vret E jd_L_putLength_13 ⟨rfl, w10, F5.trs F10⟩
set_option maxHeartbeats 4000000 in
set_option maxRecDepth 100000 in
theorem c_L_putNumber (l : Launch) (G : zG) (B : Nat) {es : zE} {p : Nat} {bs : List Nat} {bg : Nat → Int32} {v : Int32} (h : ly G B es p bs bg) (hl : bs.length + 4 ≤ 694) : Tr l G B jy_L_putNumber jb_L_putNumber 2 none 1 0 0 [.ref (B + p), .int v] es (pV fun es' => ly G B es' p (bs ++ num v) bg ∧ Fr es es' p (p + 3)) := by
  have h1 := h.obj
  refine Tr.of (ls := [some (.ref (B + p)), some (.int v)]) (by decide +kernel) (Nat.le_of_ble_eq_true rfl) rfl ?_
  intro zp ze zs zm zb zt zc E
  refine z_aload_n (pc := 0) E jd_L_putNumber_0 rfl rfl ?_
  refine z_iload_n (pc := 1) E jd_L_putNumber_1 rfl rfl ?_
  refine z_bipush (v := 24) (pc := 2) E jd_L_putNumber_2 (by decide) ?_
  refine z_iushr (pc := 4) E jd_L_putNumber_4 ?_
  refine z_cV1V (pc := 5) E (c_L_put l G B h (by omega)) jc_L_102 jv_L_put rfl (by assumption) ⟨by decide, by decide⟩ jd_L_putNumber_5 (Nat.le_of_ble_eq_true rfl) (by decide) (by decide) (fun es5 h5 => ?_)
  obtain ⟨w5, F5⟩ := h5
  rw [by8_ushr v 24 24 (by decide)] at w5
  have h1 := w5.obj
  refine z_aload_n (pc := 8) E jd_L_putNumber_8 rfl rfl ?_
  refine z_iload_n (pc := 9) E jd_L_putNumber_9 rfl rfl ?_
  refine z_bipush (v := 16) (pc := 10) E jd_L_putNumber_10 (by decide) ?_
  refine z_iushr (pc := 12) E jd_L_putNumber_12 ?_
  refine z_cV1V (pc := 13) E (c_L_put l G B w5 (by simp; omega)) jc_L_102 jv_L_put rfl (by assumption) ⟨by decide, by decide⟩ jd_L_putNumber_13 (Nat.le_of_ble_eq_true rfl) (by decide) (by decide) (fun es13 h13 => ?_)
  obtain ⟨w13, F13⟩ := h13
  rw [by8_ushr v 16 16 (by decide)] at w13
  have h1 := w13.obj
  refine z_aload_n (pc := 16) E jd_L_putNumber_16 rfl rfl ?_
  refine z_iload_n (pc := 17) E jd_L_putNumber_17 rfl rfl ?_
  refine z_bipush (v := 8) (pc := 18) E jd_L_putNumber_18 (by decide) ?_
  refine z_iushr (pc := 20) E jd_L_putNumber_20 ?_
  refine z_cV1V (pc := 21) E (c_L_put l G B w13 (by simp; omega)) jc_L_102 jv_L_put rfl (by assumption) ⟨by decide, by decide⟩ jd_L_putNumber_21 (Nat.le_of_ble_eq_true rfl) (by decide) (by decide) (fun es21 h21 => ?_)
  obtain ⟨w21, F21⟩ := h21
  rw [by8_ushr v 8 8 (by decide)] at w21
  have h1 := w21.obj
  refine z_aload_n (pc := 24) E jd_L_putNumber_24 rfl rfl ?_
  refine z_iload_n (pc := 25) E jd_L_putNumber_25 rfl rfl ?_
  refine z_cV1V (pc := 26) E (c_L_put l G B (v := v) w21 (by simp; omega)) jc_L_102 jv_L_put rfl (by assumption) ⟨by decide, by decide⟩ jd_L_putNumber_26 (Nat.le_of_ble_eq_true rfl) (by decide) (by decide) (fun es26 h26 => ?_)
  obtain ⟨w26, F26⟩ := h26
  rw [List.append_assoc, List.append_assoc, List.append_assoc] at w26
  exact z_vret E jd_L_putNumber_29 ⟨rfl, w26, ((F5.trs F13).trs F21).trs F26⟩
theorem take_succ_getD {xs : List Nat} {i : Nat} (h : i < xs.length) : xs.take (i + 1) = xs.take i ++ [xs.getD i 0] := by
  rw [List.take_succ, List.getElem?_eq_getElem h, List.getD_eq_getElem?_getD, List.getElem?_eq_getElem h]; rfl
set_option maxHeartbeats 4000000 in
set_option maxRecDepth 100000 in
theorem c_L_putText (l : Launch) (G : zG) (B : Nat) {es : zE} {p q : Nat} {bs xs : List Nat} {bg : Nat → Int32} (h : ly G B es p bs bg) (hx : tx G B es q xs) (hq : q + 2 ≤ p ∨ p + 3 ≤ q) (hl : bs.length + (xs.length + 2) ≤ 694) : Tr l G B jy_L_putText jb_L_putText 3 none 2 0 0 [.ref (B + p), .ref (B + q)] es (pV fun es' => ly G B es' p (bs ++ ut xs) bg ∧ Fr es es' p (p + 3)) := by
  have h1 := h.obj
  have i1 := hx.obj
  have i3 := hx.len
  refine Tr.of (ls := [some (.ref (B + p)), some (.ref (B + q)), none]) (by decide +kernel) (Nat.le_of_ble_eq_true rfl) rfl ?_
  intro zp ze zs zm zb zt zc E
  have loop : ∀ (f i : Nat) (es1 : zE), i + f = xs.length → ly G B es1 p (bs ++ ([0, xs.length] ++ xs.take i)) bg → Fr es es1 p (p + 3) → Zj zp l ze (zr 2 0 0) zs zm ([.ref (B + p), .ref (B + q)] : List Value).toArray zb zt zc (MQ zb (zQ G B (pV fun es' => ly G B es' p (bs ++ ut xs) bg ∧ Fr es es' p (p + 3))) ([.ref (B + p), .ref (B + q)] : List Value).toArray zs 0 0 (fun q => B ≤ q)) G B 3 0 0 10 [some (.ref (B + p)), some (.ref (B + q)), some (.int (nI i))] [] es1 := by
    intro f
    induction f with
    | zero =>
      intro i es1 hi hly hF
      have i2 := (hx.fr hF (by omega)).obj
      refine z_iload_n (pc := 10) E jd_L_putText_10 rfl rfl ?_
      refine z_aload_n (pc := 11) E jd_L_putText_11 rfl rfl ?_
      refine z_get (pc := 12) E jf_L_92 jd_L_putText_12 (by assumption) (by rfl) ?_
      refine z_icmp_ge (pc := 15) (tgt := 33) E jd_L_putText_15 (by decide) (fun c15 => ?_) (fun c15 => ?_)
      · rw [show i = xs.length by omega, List.take_length] at hly
        exact z_vret E jd_L_putText_33 ⟨rfl, hly, hF⟩
      · exact absurd (nI_le (by omega) (by omega)) c15
    | succ f ih =>
      intro i es1 hi hly hF
      have hx2 := hx.fr hF (by omega)
      have i2 := hx2.obj
      have i4 := hly.obj
      refine z_iload_n (pc := 10) E jd_L_putText_10 rfl rfl ?_
      refine z_aload_n (pc := 11) E jd_L_putText_11 rfl rfl ?_
      refine z_get (pc := 12) E jf_L_92 jd_L_putText_12 (by assumption) (by rfl) ?_
      refine z_icmp_ge (pc := 15) (tgt := 33) E jd_L_putText_15 (by decide) (fun c15 => ?_) (fun c15 => ?_)
      · exact absurd (cle c15) (by omega)
      · refine z_aload_n (pc := 18) E jd_L_putText_18 rfl rfl ?_
        refine z_aload_n (pc := 19) E jd_L_putText_19 rfl rfl ?_
        refine z_iload_n (pc := 20) E jd_L_putText_20 rfl rfl ?_
        refine z_cV1I (pc := 21) E (c_T_at l G B hx2) jc_L_98 jv_T_at rfl (by assumption) ⟨by decide, by decide⟩ jd_L_putText_21 (Nat.le_of_ble_eq_true rfl) (by decide) (by decide) (fun v21 es21 h21 => ?_)
        obtain ⟨w21, e21⟩ := h21
        rw [e21, w21, tat_nI (by omega)]
        refine z_cV1V (pc := 24) E (c_L_put l G B hly (by simp; omega)) jc_L_102 jv_L_put rfl (by assumption) ⟨by decide, by decide⟩ jd_L_putText_24 (Nat.le_of_ble_eq_true rfl) (by decide) (by decide) (fun es24 h24 => ?_)
        obtain ⟨w24, F24⟩ := h24
        rw [by8_nI (by have := getD_lt (j := i) hx.lt; omega), List.append_assoc, List.append_assoc, ← take_succ_getD (by omega)] at w24
        refine z_iinc (pc := 27) E jd_L_putText_27 rfl rfl (by decide) rfl ?_
        dsimp only [List.set]
        refine z_goto (pc := 30) (tgt := 10) E jd_L_putText_30 (by decide) ?_
        have := ih (i + 1) es24 (by omega) w24 (hF.trs F24)
        rw [nI_succ i] at this
        exact this
  refine z_aload_n (pc := 0) E jd_L_putText_0 rfl rfl ?_
  refine z_aload_n (pc := 1) E jd_L_putText_1 rfl rfl ?_
  refine z_get (pc := 2) E jf_L_92 jd_L_putText_2 (by assumption) (by rfl) ?_
  refine z_cV1V (pc := 5) E (c_L_putLength l G B h (by omega) (by omega)) jc_L_95 jv_L_putLength rfl (by assumption) ⟨by decide, by decide⟩ jd_L_putText_5 (Nat.le_of_ble_eq_true rfl) (by decide) (by decide) (fun es5 h5 => ?_)
  obtain ⟨w5, F5⟩ := h5
  refine z_iconst (v := 0) (pc := 8) E jd_L_putText_8 (by decide) ?_
  refine z_istore_n (pc := 9) E jd_L_putText_9 rfl (by decide) rfl ?_
  dsimp only [List.set]
  exact loop xs.length 0 es5 (by omega) w5 F5
set_option maxHeartbeats 4000000 in
set_option maxRecDepth 100000 in
theorem c_L_putDotted (l : Launch) (G : zG) (B : Nat) {es : zE} {p q : Nat} {bs xs : List Nat} {bg : Nat → Int32} (h : ly G B es p bs bg) (hx : tx G B es q xs) (hq : q + 2 ≤ p ∨ p + 3 ≤ q) (hl : bs.length + (xs.length + 2) ≤ 694) : Tr l G B jy_L_putDotted jb_L_putDotted 3 none 2 0 0 [.ref (B + p), .ref (B + q)] es (pV fun es' => ly G B es' p (bs ++ utd xs) bg ∧ Fr es es' p (p + 3)) := by
  have h1 := h.obj
  have i1 := hx.obj
  have i3 := hx.len
  refine Tr.of (ls := [some (.ref (B + p)), some (.ref (B + q)), none]) (by decide +kernel) (Nat.le_of_ble_eq_true rfl) rfl ?_
  intro zp ze zs zm zb zt zc E
  have loop : ∀ (f i : Nat) (es1 : zE), i + f = xs.length → ly G B es1 p (bs ++ ([0, xs.length] ++ (xs.take i).map dot)) bg → Fr es es1 p (p + 3) → Zj zp l ze (zr 2 0 0) zs zm ([.ref (B + p), .ref (B + q)] : List Value).toArray zb zt zc (MQ zb (zQ G B (pV fun es' => ly G B es' p (bs ++ utd xs) bg ∧ Fr es es' p (p + 3))) ([.ref (B + p), .ref (B + q)] : List Value).toArray zs 0 0 (fun q => B ≤ q)) G B 3 0 0 10 [some (.ref (B + p)), some (.ref (B + q)), some (.int (nI i))] [] es1 := by
    intro f
    induction f with
    | zero =>
      intro i es1 hi hly hF
      have i2 := (hx.fr hF (by omega)).obj
      refine z_iload_n (pc := 10) E jd_L_putDotted_10 rfl rfl ?_
      refine z_aload_n (pc := 11) E jd_L_putDotted_11 rfl rfl ?_
      refine z_get (pc := 12) E jf_L_92 jd_L_putDotted_12 (by assumption) (by rfl) ?_
      refine z_icmp_ge (pc := 15) (tgt := 48) E jd_L_putDotted_15 (by decide) (fun c15 => ?_) (fun c15 => ?_)
      · rw [show i = xs.length by omega, List.take_length] at hly
        exact z_vret E jd_L_putDotted_48 ⟨rfl, hly, hF⟩
      · exact absurd (nI_le (by omega) (by omega)) c15
    | succ f ih =>
      intro i es1 hi hly hF
      have hx2 := hx.fr hF (by omega)
      have i2 := hx2.obj
      have i4 := hly.obj
      have hlt := getD_lt (j := i) hx.lt
      refine z_iload_n (pc := 10) E jd_L_putDotted_10 rfl rfl ?_
      refine z_aload_n (pc := 11) E jd_L_putDotted_11 rfl rfl ?_
      refine z_get (pc := 12) E jf_L_92 jd_L_putDotted_12 (by assumption) (by rfl) ?_
      refine z_icmp_ge (pc := 15) (tgt := 48) E jd_L_putDotted_15 (by decide) (fun c15 => ?_) (fun c15 => ?_)
      · exact absurd (cle c15) (by omega)
      · refine z_aload_n (pc := 18) E jd_L_putDotted_18 rfl rfl ?_
        refine z_aload_n (pc := 19) E jd_L_putDotted_19 rfl rfl ?_
        refine z_iload_n (pc := 20) E jd_L_putDotted_20 rfl rfl ?_
        refine z_cV1I (pc := 21) E (c_T_at l G B hx2) jc_L_98 jv_T_at rfl (by assumption) ⟨by decide, by decide⟩ jd_L_putDotted_21 (Nat.le_of_ble_eq_true rfl) (by decide) (by decide) (fun v21 es21 h21 => ?_)
        obtain ⟨w21, e21⟩ := h21
        rw [e21, w21, tat_nI (by omega)]
        refine z_bipush (v := 47) (pc := 24) E jd_L_putDotted_24 (by decide) ?_
        refine z_icmp_ne (pc := 26) (tgt := 34) E jd_L_putDotted_26 (by decide) (fun c26 => ?_) (fun c26 => ?_)
        · have hd : dot (xs.getD i 0) = xs.getD i 0 := by rw [dot, if_neg (nceq (b := 47) c26)]
          have hd2 : by8 (nI (xs.getD i 0)) = xs.getD i 0 := by8_nI (by omega)
          refine z_aload_n (pc := 34) E jd_L_putDotted_34 rfl rfl ?_
          refine z_iload_n (pc := 35) E jd_L_putDotted_35 rfl rfl ?_
          refine z_cV1I (pc := 36) E (c_T_at l G B hx2) jc_L_98 jv_T_at rfl (by assumption) ⟨by decide, by decide⟩ jd_L_putDotted_36 (Nat.le_of_ble_eq_true rfl) (by decide) (by decide) (fun v36 es36 h36 => ?_)
          obtain ⟨w36, e36⟩ := h36
          rw [e36, w36, tat_nI (by omega)]
          refine z_cV1V (pc := 39) E (c_L_put l G B hly (by simp; omega)) jc_L_102 jv_L_put rfl (by assumption) ⟨by decide, by decide⟩ jd_L_putDotted_39 (Nat.le_of_ble_eq_true rfl) (by decide) (by decide) (fun es39 h39 => ?_)
          obtain ⟨w39, F39⟩ := h39
          rw [hd2, List.append_assoc, List.append_assoc, ← hd, show [dot (xs.getD i 0)] = List.map dot [xs.getD i 0] from rfl, ← List.map_append, ← take_succ_getD (by omega)] at w39
          refine z_iinc (pc := 42) E jd_L_putDotted_42 rfl rfl (by decide) rfl ?_
          dsimp only [List.set]
          refine z_goto (pc := 45) (tgt := 10) E jd_L_putDotted_45 (by decide) ?_
          have := ih (i + 1) es39 (by omega) w39 (hF.trs F39)
          rw [nI_succ i] at this
          exact this
        · have hd : dot (xs.getD i 0) = 46 := by rw [dot, if_pos (ceq (b := 47) c26)]
          have hd2 : by8 46 = 46 := by8_nI (c := 46) (by omega)
          refine z_bipush (v := 46) (pc := 29) E jd_L_putDotted_29 (by decide) ?_
          refine z_goto (pc := 31) (tgt := 39) E jd_L_putDotted_31 (by decide) ?_
          refine z_cV1V (pc := 39) E (c_L_put l G B hly (by simp; omega)) jc_L_102 jv_L_put rfl (by assumption) ⟨by decide, by decide⟩ jd_L_putDotted_39 (Nat.le_of_ble_eq_true rfl) (by decide) (by decide) (fun es39 h39 => ?_)
          obtain ⟨w39, F39⟩ := h39
          rw [hd2, List.append_assoc, List.append_assoc, ← hd, show [dot (xs.getD i 0)] = List.map dot [xs.getD i 0] from rfl, ← List.map_append, ← take_succ_getD (by omega)] at w39
          refine z_iinc (pc := 42) E jd_L_putDotted_42 rfl rfl (by decide) rfl ?_
          dsimp only [List.set]
          refine z_goto (pc := 45) (tgt := 10) E jd_L_putDotted_45 (by decide) ?_
          have := ih (i + 1) es39 (by omega) w39 (hF.trs F39)
          rw [nI_succ i] at this
          exact this
  refine z_aload_n (pc := 0) E jd_L_putDotted_0 rfl rfl ?_
  refine z_aload_n (pc := 1) E jd_L_putDotted_1 rfl rfl ?_
  refine z_get (pc := 2) E jf_L_92 jd_L_putDotted_2 (by assumption) (by rfl) ?_
  refine z_cV1V (pc := 5) E (c_L_putLength l G B h (by omega) (by omega)) jc_L_95 jv_L_putLength rfl (by assumption) ⟨by decide, by decide⟩ jd_L_putDotted_5 (Nat.le_of_ble_eq_true rfl) (by decide) (by decide) (fun es5 h5 => ?_)
  obtain ⟨w5, F5⟩ := h5
  refine z_iconst (v := 0) (pc := 8) E jd_L_putDotted_8 (by decide) ?_
  refine z_istore_n (pc := 9) E jd_L_putDotted_9 rfl (by decide) rfl ?_
  dsimp only [List.set]
  exact loop xs.length 0 es5 (by omega) w5 F5
set_option maxHeartbeats 4000000 in
set_option maxRecDepth 100000 in
theorem c_L_at (l : Launch) (G : zG) (B : Nat) {es : zE} {p : Nat} {bs : List Nat} {bg : Nat → Int32} {x : Int32} (h : ly G B es p bs bg) : Tr l G B jy_L_at jb_L_at 2 (some .int) 0 0 0 [.ref (B + p), .int x] es (pI fun v es' => v = tat bs x ∧ es' = es) := by
  obtain ⟨f, h1, h2, h3, h4, h5, h6⟩ := h
  refine Tr.of (ls := [some (.ref (B + p)), some (.int x)]) (by decide +kernel) (Nat.le_of_ble_eq_true rfl) rfl ?_
  intro zp ze zs zm zb zt zc E
  refine z_iload_n (pc := 0) E jd_L_at_0 rfl rfl ?_
  refine z_if_lt (pc := 1) (tgt := 25) E jd_L_at_1 (by decide) (fun c1 => ?_) (fun c1 => ?_)
  · have hz : tat bs x = 0 := by rw [tat, if_pos c1]
    refine z_iconst (v := 0) (pc := 25) E jd_L_at_25 (by decide) ?_
    exact z_iret E jd_L_at_26 ⟨_, rfl, hz.symm, rfl⟩
  · obtain ⟨j, hj, rfl⟩ := nI_of c1
    refine z_iload_n (pc := 4) E jd_L_at_4 rfl rfl ?_
    refine z_aload_n (pc := 5) E jd_L_at_5 rfl rfl ?_
    refine z_get (pc := 6) E jf_L_15 jd_L_at_6 (by assumption) (by rfl) ?_
    refine z_icmp_ge (pc := 9) (tgt := 25) E jd_L_at_9 (by decide) (fun c9 => ?_) (fun c9 => ?_)
    · have hz : tat bs (nI j) = 0 := by rw [tat_nI hj, getD_oob (cle c9)]; rfl
      refine z_iconst (v := 0) (pc := 25) E jd_L_at_25 (by decide) ?_
      exact z_iret E jd_L_at_26 ⟨_, rfl, hz.symm, rfl⟩
    · have hj2 : j < bs.length := ncle c9
      have hb : bs.getD j 0 < 256 := by rw [List.getD_eq_getElem?_getD, List.getElem?_eq_getElem hj2]; exact h6 _ (List.getElem_mem hj2)
      have hz : tat bs (nI j) = f j &&& 255 := by rw [tat_nI hj, h5 j hj2, bI_and _ hb]
      refine z_aload_n (pc := 12) E jd_L_at_12 rfl rfl ?_
      refine z_get (pc := 13) E jf_L_9 jd_L_at_13 (by assumption) (by rfl) ?_
      refine z_iload_n (pc := 16) E jd_L_at_16 rfl rfl ?_
      refine z_bald (ti := 0) (pc := 17) E rfl jd_L_at_17 (by assumption) (vp_in_nI (by omega) (by omega)) ?_
      rw [nI_clamp (by omega)]
      refine z_sipush (v := 255) (pc := 18) E jd_L_at_18 (by decide) ?_
      refine z_iand (pc := 21) E jd_L_at_21 ?_
      refine z_goto (pc := 22) (tgt := 26) E jd_L_at_22 (by decide) ?_
      exact z_iret E jd_L_at_26 ⟨_, rfl, hz.symm, rfl⟩
