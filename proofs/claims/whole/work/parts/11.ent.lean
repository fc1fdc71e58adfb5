/-! the JDK's own methods over the three texts -/
theorem zx_len : ∀ i, i < zzX.length → zzXl.getD i 0 ≤ 8 := by decide
theorem zx_byte : ∀ i, i < zzX.length → ∀ k, k < zzXl.getD i 0 → ((((zzXb.getD i []).getD k 0 &&& 255).toUInt32 % 65536).toInt32 = nI (by8 ((zzXb.getD i []).getD k 0)) ∧ by8 ((zzXb.getD i []).getD k 0) < 128 ∧ narrow .char (.int (nI (by8 ((zzXb.getD i []).getD k 0)))) = .int (nI (by8 ((zzXb.getD i []).getD k 0)))) := by decide +kernel
/-- a text's codes -/
def kx (i : Nat) : List Nat := (zzXb.getD i []).map by8
theorem kx_len : ∀ i, i < zzX.length → (kx i).length = zzXl.getD i 0 := by decide
theorem kx_at : ∀ i, i < zzX.length → ∀ k, k < zzXl.getD i 0 → by8 ((zzXb.getD i []).getD k 0) = (kx i).getD k 0 := by decide +kernel
set_option maxHeartbeats 4000000 in
set_option maxRecDepth 100000 in
theorem c_JS_coder (l : Launch) (G : zG) (B : Nat) {es : zE} {i : Nat} (hi : i < zzX.length) : Tr l G B jy_JS_coder jb_JS_coder 1 (some .byte) 0 0 0 [.ref (G.2.2.2.1 i)] es (pI fun v es' => v = 0 ∧ es' = es) := by
  refine Tr.of (ls := [some (.ref (G.2.2.2.1 i))]) (by decide +kernel) (Nat.le_of_ble_eq_true rfl) rfl ?_
  intro zp ze zs zm zb zt zc E
  refine z_getsI (i := 0) (pc := 0) E rfl jw_368 jd_JS_coder_0 ?_
  refine z_if_eq (pc := 3) (tgt := 13) E jd_JS_coder_3 (by decide) (fun c3 => ?_) (fun c3 => ?_)
  · exact absurd c3 (by decide)
  · refine z_aload_n (pc := 6) E jd_JS_coder_6 rfl rfl ?_
    refine z_getKc (pc := 7) E hi jw_692 jd_JS_coder_7 ?_
    refine z_goto (pc := 10) (tgt := 14) E jd_JS_coder_10 (by decide) ?_
    exact z_zret E rfl jd_JS_coder_14 ⟨_, rfl, rfl, rfl⟩
set_option maxHeartbeats 4000000 in
set_option maxRecDepth 100000 in
theorem c_JS_isLatin1 (l : Launch) (G : zG) (B : Nat) {es : zE} {i : Nat} (hi : i < zzX.length) : Tr l G B jy_JS_isLatin1 jb_JS_isLatin1 1 (some .boolean) 0 0 0 [.ref (G.2.2.2.1 i)] es (pI fun v es' => v = 1 ∧ es' = es) := by
  refine Tr.of (ls := [some (.ref (G.2.2.2.1 i))]) (by decide +kernel) (Nat.le_of_ble_eq_true rfl) rfl ?_
  intro zp ze zs zm zb zt zc E
  refine z_getsI (i := 0) (pc := 0) E rfl jw_368 jd_JS_isLatin1_0 ?_
  refine z_if_eq (pc := 3) (tgt := 17) E jd_JS_isLatin1_3 (by decide) (fun c3 => ?_) (fun c3 => ?_)
  · exact absurd c3 (by decide)
  · refine z_aload_n (pc := 6) E jd_JS_isLatin1_6 rfl rfl ?_
    refine z_getKc (pc := 7) E hi jw_692 jd_JS_isLatin1_7 ?_
    refine z_if_ne (pc := 10) (tgt := 17) E jd_JS_isLatin1_10 (by decide) (fun c10 => ?_) (fun c10 => ?_)
    · exact absurd rfl c10
    · refine z_iconst (v := 1) (pc := 13) E jd_JS_isLatin1_13 (by decide) ?_
      refine z_goto (pc := 14) (tgt := 18) E jd_JS_isLatin1_14 (by decide) ?_
      exact z_zret E rfl jd_JS_isLatin1_18 ⟨_, rfl, rfl, rfl⟩
set_option maxHeartbeats 4000000 in
set_option maxRecDepth 100000 in
theorem c_JS_length (l : Launch) (G : zG) (B : Nat) {es : zE} {i : Nat} (hi : i < zzX.length) : Tr l G B jy_JS_length jb_JS_length 1 (some .int) 1 0 0 [.ref (G.2.2.2.1 i)] es (pI fun v es' => v = nI (zzXl.getD i 0) ∧ es' = es) := by
  refine Tr.of (ls := [some (.ref (G.2.2.2.1 i))]) (by decide +kernel) (Nat.le_of_ble_eq_true rfl) rfl ?_
  intro zp ze zs zm zb zt zc E
  refine z_aload_n (pc := 0) E jd_JS_length_0 rfl rfl ?_
  refine z_getKv (pc := 1) E hi jw_691 jd_JS_length_1 ?_
  refine z_lenK (pc := 4) E hi jd_JS_length_4 ?_
  refine z_aload_n (pc := 5) E jd_JS_length_5 rfl rfl ?_
  refine z_callK (As := []) (pc := 6) E hi (c_JS_coder l G B hi) jc_JS_335 jv_JS_coder ⟨by decide, by decide⟩ jd_JS_length_6 rfl (Nat.le_of_ble_eq_true rfl) (by decide) (by decide) (fun r6 es6 h6 => ?_)
  obtain ⟨v6, rfl, w6, e6⟩ := h6
  rw [w6, e6]
  refine z_ishr (pc := 9) E jd_JS_length_9 ?_
  exact z_iret E jd_JS_length_10 ⟨_, rfl, sc_shr0 (by have := zx_len i hi; omega), rfl⟩
set_option maxHeartbeats 4000000 in
set_option maxRecDepth 100000 in
theorem c_JP_checkIndex (l : Launch) (G : zG) (B : Nat) {es : zE} {k n : Nat} {v : Value} (hk : k < n) (hn : n < 1000) (hv : v = .null ∨ ∃ t, v = .ref t) : Tr l G B jy_JP_checkIndex jb_JP_checkIndex 3 (some .int) 0 0 0 [.int (nI k), .int (nI n), v] es (pI fun v es' => v = nI k ∧ es' = es) := by
  have go : ∀ w : Value, w.category = 1 → Tr l G B jy_JP_checkIndex jb_JP_checkIndex 3 (some .int) 0 0 0 [.int (nI k), .int (nI n), w] es (pI fun v es' => v = nI k ∧ es' = es) := by
    intro w hw
    have hci : ∀ x, (Value.int x).category = 1 := fun _ => rfl
    refine Tr.of (ls := [some (.int (nI k)), some (.int (nI n)), some w]) (by decide +kernel) (by simp [lg_sl, hw, hci]) (by simp [zent, hw, hci]) ?_
    intro zp ze zs zm zb zt zc E
    refine z_iload_n (pc := 0) E jd_JP_checkIndex_0 rfl rfl ?_
    refine z_if_lt (pc := 1) (tgt := 9) E jd_JP_checkIndex_1 (by decide) (fun c1 => ?_) (fun c1 => ?_)
    · exact absurd c1 (nI_pos (by omega))
    · refine z_iload_n (pc := 4) E jd_JP_checkIndex_4 rfl rfl ?_
      refine z_iload_n (pc := 5) E jd_JP_checkIndex_5 rfl rfl ?_
      refine z_icmp_lt (pc := 6) (tgt := 16) E jd_JP_checkIndex_6 (by decide) (fun c6 => ?_) (fun c6 => ?_)
      · refine z_iload_n (pc := 16) E jd_JP_checkIndex_16 rfl rfl ?_
        exact z_iret E jd_JP_checkIndex_17 ⟨_, rfl, rfl, rfl⟩
      · exact absurd (nI_lt hk (by omega)) c6
  rcases hv with rfl | ⟨t, rfl⟩
  · exact go _ rfl
  · exact go _ rfl
set_option maxHeartbeats 4000000 in
set_option maxRecDepth 100000 in
theorem c_JS_checkIndex (l : Launch) (G : zG) (B : Nat) {es : zE} {k n : Nat} (hk : k < n) (hn : n < 1000) : Tr l G B jy_JS_checkIndex jb_JS_checkIndex 2 none 1 0 0 [.int (nI k), .int (nI n)] es (pV fun es' => es' = es) := by
  refine Tr.of (ls := [some (.int (nI k)), some (.int (nI n))]) (by decide +kernel) (Nat.le_of_ble_eq_true rfl) rfl ?_
  intro zp ze zs zm zb zt zc E
  refine z_iload_n (pc := 0) E jd_JS_checkIndex_0 rfl rfl ?_
  refine z_iload_n (pc := 1) E jd_JS_checkIndex_1 rfl rfl ?_
  refine z_getsQ (pc := 2) E jw_384 jd_JS_checkIndex_2 (fun v2 hv2 => ?_)
  refine z_cS3I (pc := 5) E (c_JP_checkIndex l G B hk hn hv2) jc_JS_1059 js_JP_checkIndex ⟨by decide, by decide⟩ jd_JS_checkIndex_5 (Nat.le_of_ble_eq_true rfl) (by decide) (by decide) (fun v5 es5 h5 => ?_)
  obtain ⟨w5, e5⟩ := h5
  rw [e5]
  refine z_pop (pc := 8) E jd_JS_checkIndex_8 rfl ?_
  exact z_vret E jd_JS_checkIndex_9 ⟨rfl, rfl⟩
set_option maxHeartbeats 4000000 in
set_option maxRecDepth 100000 in
theorem c_JL_charAt (l : Launch) (G : zG) (B : Nat) {es : zE} {i k : Nat} (hi : i < zzX.length) (hk : k < zzXl.getD i 0) : Tr l G B jy_JL_charAt jb_JL_charAt 2 (some .char) 2 0 0 [.ref (G.2.2.2.2 i), .int (nI k)] es (pI fun v es' => v = nI (by8 ((zzXb.getD i []).getD k 0)) ∧ es' = es) := by
  have hlen := zx_len i hi
  obtain ⟨hb1, hb2, hb3⟩ := zx_byte i hi k hk
  refine Tr.of (ls := [some (.ref (G.2.2.2.2 i)), some (.int (nI k))]) (by decide +kernel) (Nat.le_of_ble_eq_true rfl) rfl ?_
  intro zp ze zs zm zb zt zc E
  refine z_iload_n (pc := 0) E jd_JL_charAt_0 rfl rfl ?_
  refine z_aload_n (pc := 1) E jd_JL_charAt_1 rfl rfl ?_
  refine z_lenK (pc := 2) E hi jd_JL_charAt_2 ?_
  refine z_cS2V (pc := 3) E (c_JS_checkIndex l G B (k := k) (n := zzXl.getD i 0) hk (by omega)) jc_JL_9 js_JS_checkIndex ⟨by decide, by decide⟩ jd_JL_charAt_3 (Nat.le_of_ble_eq_true rfl) (by decide) (by decide) (fun es3 h3 => ?_)
  rw [h3]
  refine z_aload_n (pc := 6) E jd_JL_charAt_6 rfl rfl ?_
  refine z_iload_n (pc := 7) E jd_JL_charAt_7 rfl rfl ?_
  refine z_tbK (pc := 8) E hi (vp_in_nI hk (by omega)) jd_JL_charAt_8 ?_
  rw [nI_clamp (by omega)]
  refine z_sipush (v := 255) (pc := 9) E jd_JL_charAt_9 (by decide) ?_
  refine z_iand (pc := 12) E jd_JL_charAt_12 ?_
  refine z_i2c (pc := 13) E jd_JL_charAt_13 ?_
  refine z_topi hb1 ?_
  exact z_zret E hb3 jd_JL_charAt_14 ⟨_, rfl, rfl, rfl⟩
set_option maxHeartbeats 4000000 in
set_option maxRecDepth 100000 in
theorem c_JS_charAt (l : Launch) (G : zG) (B : Nat) {es : zE} {i k : Nat} (hi : i < zzX.length) (hk : k < zzXl.getD i 0) : Tr l G B jy_JS_charAt jb_JS_charAt 2 (some .char) 3 0 0 [.ref (G.2.2.2.1 i), .int (nI k)] es (pI fun v es' => v = nI (by8 ((zzXb.getD i []).getD k 0)) ∧ es' = es) := by
  obtain ⟨hb1, hb2, hb3⟩ := zx_byte i hi k hk
  refine Tr.of (ls := [some (.ref (G.2.2.2.1 i)), some (.int (nI k))]) (by decide +kernel) (Nat.le_of_ble_eq_true rfl) rfl ?_
  intro zp ze zs zm zb zt zc E
  refine z_aload_n (pc := 0) E jd_JS_charAt_0 rfl rfl ?_
  refine z_callK (As := []) (pc := 1) E hi (c_JS_isLatin1 l G B hi) jc_JS_492 jv_JS_isLatin1 ⟨by decide, by decide⟩ jd_JS_charAt_1 rfl (Nat.le_of_ble_eq_true rfl) (by decide) (by decide) (fun r1 es1 h1 => ?_)
  obtain ⟨v1, rfl, w1, e1⟩ := h1
  rw [w1, e1]
  refine z_if_eq (pc := 4) (tgt := 16) E jd_JS_charAt_4 (by decide) (fun c4 => ?_) (fun c4 => ?_)
  · exact absurd c4 (by decide)
  · refine z_aload_n (pc := 7) E jd_JS_charAt_7 rfl rfl ?_
    refine z_getKv (pc := 8) E hi jw_691 jd_JS_charAt_8 ?_
    refine z_iload_n (pc := 11) E jd_JS_charAt_11 rfl rfl ?_
    refine z_cS2I (pc := 12) E (c_JL_charAt l G B hi hk) jc_JS_495 js_JL_charAt ⟨by decide, by decide⟩ jd_JS_charAt_12 (Nat.le_of_ble_eq_true rfl) (by decide) (by decide) (fun v12 es12 h12 => ?_)
    obtain ⟨w12, e12⟩ := h12
    rw [e12, w12]
    exact z_zret E hb3 jd_JS_charAt_15 ⟨_, rfl, rfl, rfl⟩
set_option maxHeartbeats 4000000 in
set_option maxRecDepth 100000 in
theorem c_L_putConstant (l : Launch) (G : zG) (B : Nat) {es : zE} {p i : Nat} {bs : List Nat} {bg : Nat → Int32} (h : ly G B es p bs bg) (hi : i < zzX.length) (hl : bs.length + ((kx i).length + 2) ≤ 694) : Tr l G B jy_L_putConstant jb_L_putConstant 3 none 4 0 0 [.ref (B + p), .ref (G.2.2.2.1 i)] es (pV fun es' => ly G B es' p (bs ++ ut (kx i)) bg ∧ Fr es es' p (p + 3)) := by
  have h1 := h.obj
  have hlen := zx_len i hi
  have hkl := kx_len i hi
  refine Tr.of (ls := [some (.ref (B + p)), some (.ref (G.2.2.2.1 i)), none]) (by decide +kernel) (Nat.le_of_ble_eq_true rfl) rfl ?_
  intro zp ze zs zm zb zt zc E
  have loop : ∀ (f j : Nat) (es1 : zE), j + f = zzXl.getD i 0 → ly G B es1 p (bs ++ ([0, (kx i).length] ++ (kx i).take j)) bg → Fr es es1 p (p + 3) → Zj zp l ze (zr 4 0 0) zs zm ([.ref (B + p), .ref (G.2.2.2.1 i)] : List Value).toArray zb zt zc (MQ zb (zQ G B (pV fun es' => ly G B es' p (bs ++ ut (kx i)) bg ∧ Fr es es' p (p + 3))) ([.ref (B + p), .ref (G.2.2.2.1 i)] : List Value).toArray zs 0 0 (fun q => B ≤ q)) G B 3 0 0 10 [some (.ref (B + p)), some (.ref (G.2.2.2.1 i)), some (.int (nI j))] [] es1 := by
    intro f
    induction f with
    | zero =>
      intro j es1 hj hly hF
      refine z_iload_n (pc := 10) E jd_L_putConstant_10 rfl rfl ?_
      refine z_aload_n (pc := 11) E jd_L_putConstant_11 rfl rfl ?_
      refine z_callK (As := []) (pc := 12) E hi (c_JS_length l G B hi) jc_L_105 jv_JS_length ⟨by decide, by decide⟩ jd_L_putConstant_12 rfl (Nat.le_of_ble_eq_true rfl) (by decide) (by decide) (fun r12 es12 h12 => ?_)
      obtain ⟨v12, rfl, w12, e12⟩ := h12
      rw [w12, e12]
      refine z_icmp_ge (pc := 15) (tgt := 33) E jd_L_putConstant_15 (by decide) (fun c15 => ?_) (fun c15 => ?_)
      · rw [show j = (kx i).length by omega, List.take_length] at hly
        exact z_vret E jd_L_putConstant_33 ⟨rfl, hly, hF⟩
      · exact absurd (nI_le (by omega) (by omega)) c15
    | succ f ih =>
      intro j es1 hj hly hF
      have i4 := hly.obj
      have hb := (zx_byte i hi j (by omega)).2.1
      have hat := kx_at i hi j (by omega)
      refine z_iload_n (pc := 10) E jd_L_putConstant_10 rfl rfl ?_
      refine z_aload_n (pc := 11) E jd_L_putConstant_11 rfl rfl ?_
      refine z_callK (As := []) (pc := 12) E hi (c_JS_length l G B hi) jc_L_105 jv_JS_length ⟨by decide, by decide⟩ jd_L_putConstant_12 rfl (Nat.le_of_ble_eq_true rfl) (by decide) (by decide) (fun r12 es12 h12 => ?_)
      obtain ⟨v12, rfl, w12, e12⟩ := h12
      rw [w12, e12]
      refine z_icmp_ge (pc := 15) (tgt := 33) E jd_L_putConstant_15 (by decide) (fun c15 => ?_) (fun c15 => ?_)
      · exact absurd (cle c15) (by omega)
      · refine z_aload_n (pc := 18) E jd_L_putConstant_18 rfl rfl ?_
        refine z_aload_n (pc := 19) E jd_L_putConstant_19 rfl rfl ?_
        refine z_iload_n (pc := 20) E jd_L_putConstant_20 rfl rfl ?_
        refine z_callK (As := [.int (nI j)]) (pc := 21) E hi (c_JS_charAt l G B hi (k := j) (by omega)) jc_L_109 jv_JS_charAt ⟨by decide, by decide⟩ jd_L_putConstant_21 rfl (Nat.le_of_ble_eq_true rfl) (by decide) (by decide) (fun r21 es21 h21 => ?_)
        obtain ⟨v21, rfl, w21, e21⟩ := h21
        rw [w21, e21]
        refine z_st (st' := [.int (nI (by8 ((zzXb.getD i []).getD j 0))), .ref (B + p)]) rfl ?_
        refine z_cV1V (pc := 24) E (c_L_put l G B hly (by simp; omega)) jc_L_102 jv_L_put rfl (by assumption) ⟨by decide, by decide⟩ jd_L_putConstant_24 (Nat.le_of_ble_eq_true rfl) (by decide) (by decide) (fun es24 h24 => ?_)
        obtain ⟨w24, F24⟩ := h24
        rw [by8_nI (by omega), hat, List.append_assoc, List.append_assoc, ← take_succ_getD (by omega)] at w24
        refine z_iinc (pc := 27) E jd_L_putConstant_27 rfl rfl (by decide) rfl ?_
        dsimp only [List.set]
        refine z_goto (pc := 30) (tgt := 10) E jd_L_putConstant_30 (by decide) ?_
        have := ih (j + 1) es24 (by omega) w24 (hF.trs F24)
        rw [nI_succ j] at this
        exact this
  refine z_aload_n (pc := 0) E jd_L_putConstant_0 rfl rfl ?_
  refine z_aload_n (pc := 1) E jd_L_putConstant_1 rfl rfl ?_
  refine z_callK (As := []) (pc := 2) E hi (c_JS_length l G B hi) jc_L_105 jv_JS_length ⟨by decide, by decide⟩ jd_L_putConstant_2 rfl (Nat.le_of_ble_eq_true rfl) (by decide) (by decide) (fun r2 es2 h2 => ?_)
  obtain ⟨v2, rfl, w2, e2⟩ := h2
  rw [w2, e2]
  refine z_st (st' := [.int (nI (zzXl.getD i 0)), .ref (B + p)]) rfl ?_
  refine z_cV1V (pc := 5) E (c_L_putLength l G B h (by omega) (by omega)) jc_L_95 jv_L_putLength rfl (by assumption) ⟨by decide, by decide⟩ jd_L_putConstant_5 (Nat.le_of_ble_eq_true rfl) (by decide) (by decide) (fun es5 h5 => ?_)
  obtain ⟨w5, F5⟩ := h5
  rw [← hkl] at w5
  refine z_iconst (v := 0) (pc := 8) E jd_L_putConstant_8 (by decide) ?_
  refine z_istore_n (pc := 9) E jd_L_putConstant_9 rfl (by decide) rfl ?_
  dsimp only [List.set]
  exact loop (zzXl.getD i 0) 0 es5 (by omega) w5 F5
/-! an entry's bytes; a row's -/
def entB (e : Ent) : List Nat := if e.1 = 0 then ut e.2.2.1 ++ (num (e.2.1 &&& 223) ++ ut e.2.2.2) else if e.1 = 1 then ut (kx 2) ++ (num (e.2.1 &&& 3391) ++ utd e.2.2.2) else if e.1 = 2 then ut e.2.2.1 ++ (num (e.2.1 &&& 3391) ++ utd e.2.2.2) else if e.1 = 3 then ut (kx 0) ++ (num 8 ++ ut (kx 1)) else ut e.2.2.1
theorem kxl0 : (kx 0).length = 8 := by decide
theorem kxl1 : (kx 1).length = 3 := by decide
theorem kxl2 : (kx 2).length = 6 := by decide
theorem entB_len {e : Ent} (h1 : e.2.2.1.length ≤ 24) (h2 : e.2.2.2.length ≤ 24) : (entB e).length ≤ 56 := by
  unfold entB
  split
  · simp only [List.length_append, ut_len, num_len]; omega
  · split
    · simp only [List.length_append, ut_len, utd_len, num_len, kxl2]; omega
    · split
      · simp only [List.length_append, ut_len, utd_len, num_len]; omega
      · split
        · simp only [List.length_append, ut_len, num_len, kxl0, kxl1]; omega
        · simp only [ut_len]; omega
set_option maxHeartbeats 4000000 in
set_option maxRecDepth 100000 in
theorem c_L_putEntry (l : Launch) (G : zG) (B : Nat) {es : zE} {p q : Nat} {e : Ent} {bs : List Nat} {bg : Nat → Int32} (h : ly G B es p bs bg) (he : en G B es q e) (hq : q + 5 ≤ p ∨ p + 3 ≤ q) (hl : bs.length + (entB e).length ≤ 694) : Tr l G B jy_L_putEntry jb_L_putEntry 2 none 5 0 0 [.ref (B + p), .ref (B + q)] es (pV fun es' => ly G B es' p (bs ++ entB e) bg ∧ Fr es es' p (p + 3)) := by
  obtain ⟨k, m, nn, ss⟩ := e
  have hen := he
  obtain ⟨e1, e2, e3, e4⟩ := he
  dsimp only at e1 e2 e3 e4
  have h1 := h.obj
  have l2 := e2.len
  have l3 := e3.len
  refine Tr.of (ls := [some (.ref (B + p)), some (.ref (B + q))]) (by decide +kernel) (Nat.le_of_ble_eq_true rfl) rfl ?_
  intro zp ze zs zm zb zt zc E
  refine z_aload_n (pc := 0) E jd_L_putEntry_0 rfl rfl ?_
  refine z_get (pc := 1) E jf_L_61 jd_L_putEntry_1 (by assumption) (by rfl) ?_
  rcases lt5 e4 with rfl | rfl | rfl | rfl | rfl
  · have hE : entB (0, m, nn, ss) = ut nn ++ (num (m &&& 223) ++ ut ss) := rfl
    rw [hE, List.length_append, List.length_append, ut_len, ut_len, num_len] at hl
    refine z_tableIn (pc := 4) (tgt := 36) (off := 32) E jd_L_putEntry_4 (by decide) (by decide) (by decide) (by decide) ?_
    refine z_aload_n (pc := 36) E jd_L_putEntry_36 rfl rfl ?_
    refine z_aload_n (pc := 37) E jd_L_putEntry_37 rfl rfl ?_
    refine z_get (pc := 38) E jf_L_74 jd_L_putEntry_38 (by assumption) (by rfl) ?_
    refine z_cV1V (pc := 41) E (c_L_putText l G B h e2 (by omega) (by omega)) jc_L_29 jv_L_putText rfl (by assumption) ⟨by decide, by decide⟩ jd_L_putEntry_41 (Nat.le_of_ble_eq_true rfl) (by decide) (by decide) (fun es41 h41 => ?_)
    obtain ⟨w41, F41⟩ := h41
    have g1 := F41.at (by omega) e1
    have g2 := w41.obj
    refine z_aload_n (pc := 44) E jd_L_putEntry_44 rfl rfl ?_
    refine z_aload_n (pc := 45) E jd_L_putEntry_45 rfl rfl ?_
    refine z_get (pc := 46) E jf_L_75 jd_L_putEntry_46 (by assumption) (by rfl) ?_
    refine z_sipush (v := 223) (pc := 49) E jd_L_putEntry_49 (by decide) ?_
    refine z_iand (pc := 52) E jd_L_putEntry_52 ?_
    refine z_cV1V (pc := 53) E (c_L_putNumber l G B w41 (by simp only [List.length_append, ut_len]; omega)) jc_L_37 jv_L_putNumber rfl (by assumption) ⟨by decide, by decide⟩ jd_L_putEntry_53 (Nat.le_of_ble_eq_true rfl) (by decide) (by decide) (fun es53 h53 => ?_)
    obtain ⟨w53, F53⟩ := h53
    have g3 := F53.at (by omega) g1
    have g4 := w53.obj
    have x3 := (e3.fr F41 (by omega)).fr F53 (by omega)
    refine z_aload_n (pc := 56) E jd_L_putEntry_56 rfl rfl ?_
    refine z_aload_n (pc := 57) E jd_L_putEntry_57 rfl rfl ?_
    refine z_get (pc := 58) E jf_L_78 jd_L_putEntry_58 (by assumption) (by rfl) ?_
    refine z_cV1V (pc := 61) E (c_L_putText l G B w53 x3 (by omega) (by simp only [List.length_append, ut_len, num_len]; omega)) jc_L_29 jv_L_putText rfl (by assumption) ⟨by decide, by decide⟩ jd_L_putEntry_61 (Nat.le_of_ble_eq_true rfl) (by decide) (by decide) (fun es61 h61 => ?_)
    obtain ⟨w61, F61⟩ := h61
    rw [List.append_assoc, List.append_assoc, ← hE] at w61
    have FF := (F41.trs F53).trs F61
    have ok := w61
    refine z_goto (pc := 64) (tgt := 156) E jd_L_putEntry_64 (by decide) ?_
    exact z_vret E jd_L_putEntry_156 ⟨rfl, ok, FF⟩
  · have hE : entB (1, m, nn, ss) = ut (kx 2) ++ (num (m &&& 3391) ++ utd ss) := rfl
    rw [hE, List.length_append, List.length_append, ut_len, utd_len, num_len, kxl2] at hl
    refine z_tableIn (pc := 4) (tgt := 88) (off := 84) E jd_L_putEntry_4 (by decide) (by decide) (by decide) (by decide) ?_
    refine z_aload_n (pc := 88) E jd_L_putEntry_88 rfl rfl ?_
    refine z_ldcS (i := 2) (pc := 89) E rfl ⟨rfl, rfl⟩ jd_L_putEntry_89 ?_
    refine z_cV1V (pc := 91) E (c_L_putConstant l G B (i := 2) h (by decide) (by have := kxl2; omega)) jc_L_83 jv_L_putConstant rfl (by assumption) ⟨by decide, by decide⟩ jd_L_putEntry_91 (Nat.le_of_ble_eq_true rfl) (by decide) (by decide) (fun es91 h91 => ?_)
    obtain ⟨w91, F91⟩ := h91
    have g1 := F91.at (by omega) e1
    have g2 := w91.obj
    refine z_aload_n (pc := 94) E jd_L_putEntry_94 rfl rfl ?_
    refine z_aload_n (pc := 95) E jd_L_putEntry_95 rfl rfl ?_
    refine z_get (pc := 96) E jf_L_75 jd_L_putEntry_96 (by assumption) (by rfl) ?_
    refine z_sipush (v := 3391) (pc := 99) E jd_L_putEntry_99 (by decide) ?_
    refine z_iand (pc := 102) E jd_L_putEntry_102 ?_
    refine z_cV1V (pc := 103) E (c_L_putNumber l G B w91 (by simp only [List.length_append, ut_len, kxl2]; omega)) jc_L_37 jv_L_putNumber rfl (by assumption) ⟨by decide, by decide⟩ jd_L_putEntry_103 (Nat.le_of_ble_eq_true rfl) (by decide) (by decide) (fun es103 h103 => ?_)
    obtain ⟨w103, F103⟩ := h103
    have g3 := F103.at (by omega) g1
    have g4 := w103.obj
    have x3 := (e3.fr F91 (by omega)).fr F103 (by omega)
    refine z_aload_n (pc := 106) E jd_L_putEntry_106 rfl rfl ?_
    refine z_aload_n (pc := 107) E jd_L_putEntry_107 rfl rfl ?_
    refine z_get (pc := 108) E jf_L_78 jd_L_putEntry_108 (by assumption) (by rfl) ?_
    refine z_cV1V (pc := 111) E (c_L_putDotted l G B w103 x3 (by omega) (by simp only [List.length_append, ut_len, num_len, kxl2]; omega)) jc_L_89 jv_L_putDotted rfl (by assumption) ⟨by decide, by decide⟩ jd_L_putEntry_111 (Nat.le_of_ble_eq_true rfl) (by decide) (by decide) (fun es111 h111 => ?_)
    obtain ⟨w111, F111⟩ := h111
    rw [List.append_assoc, List.append_assoc, ← hE] at w111
    have FF := (F91.trs F103).trs F111
    have ok := w111
    refine z_goto (pc := 114) (tgt := 156) E jd_L_putEntry_114 (by decide) ?_
    exact z_vret E jd_L_putEntry_156 ⟨rfl, ok, FF⟩
  · have hE : entB (2, m, nn, ss) = ut nn ++ (num (m &&& 3391) ++ utd ss) := rfl
    rw [hE, List.length_append, List.length_append, ut_len, utd_len, num_len] at hl
    refine z_tableIn (pc := 4) (tgt := 117) (off := 113) E jd_L_putEntry_4 (by decide) (by decide) (by decide) (by decide) ?_
    refine z_aload_n (pc := 117) E jd_L_putEntry_117 rfl rfl ?_
    refine z_aload_n (pc := 118) E jd_L_putEntry_118 rfl rfl ?_
    refine z_get (pc := 119) E jf_L_74 jd_L_putEntry_119 (by assumption) (by rfl) ?_
    refine z_cV1V (pc := 122) E (c_L_putText l G B h e2 (by omega) (by omega)) jc_L_29 jv_L_putText rfl (by assumption) ⟨by decide, by decide⟩ jd_L_putEntry_122 (Nat.le_of_ble_eq_true rfl) (by decide) (by decide) (fun es122 h122 => ?_)
    obtain ⟨w122, F122⟩ := h122
    have g1 := F122.at (by omega) e1
    have g2 := w122.obj
    refine z_aload_n (pc := 125) E jd_L_putEntry_125 rfl rfl ?_
    refine z_aload_n (pc := 126) E jd_L_putEntry_126 rfl rfl ?_
    refine z_get (pc := 127) E jf_L_75 jd_L_putEntry_127 (by assumption) (by rfl) ?_
    refine z_sipush (v := 3391) (pc := 130) E jd_L_putEntry_130 (by decide) ?_
    refine z_iand (pc := 133) E jd_L_putEntry_133 ?_
    refine z_cV1V (pc := 134) E (c_L_putNumber l G B w122 (by simp only [List.length_append, ut_len]; omega)) jc_L_37 jv_L_putNumber rfl (by assumption) ⟨by decide, by decide⟩ jd_L_putEntry_134 (Nat.le_of_ble_eq_true rfl) (by decide) (by decide) (fun es134 h134 => ?_)
    obtain ⟨w134, F134⟩ := h134
    have g3 := F134.at (by omega) g1
    have g4 := w134.obj
    have x3 := (e3.fr F122 (by omega)).fr F134 (by omega)
    refine z_aload_n (pc := 137) E jd_L_putEntry_137 rfl rfl ?_
    refine z_aload_n (pc := 138) E jd_L_putEntry_138 rfl rfl ?_
    refine z_get (pc := 139) E jf_L_78 jd_L_putEntry_139 (by assumption) (by rfl) ?_
    refine z_cV1V (pc := 142) E (c_L_putDotted l G B w134 x3 (by omega) (by simp only [List.length_append, ut_len, num_len]; omega)) jc_L_89 jv_L_putDotted rfl (by assumption) ⟨by decide, by decide⟩ jd_L_putEntry_142 (Nat.le_of_ble_eq_true rfl) (by decide) (by decide) (fun es142 h142 => ?_)
    obtain ⟨w142, F142⟩ := h142
    rw [List.append_assoc, List.append_assoc, ← hE] at w142
    have FF := (F122.trs F134).trs F142
    have ok := w142
    refine z_goto (pc := 145) (tgt := 156) E jd_L_putEntry_145 (by decide) ?_
    exact z_vret E jd_L_putEntry_156 ⟨rfl, ok, FF⟩
  · have hE : entB (3, m, nn, ss) = ut (kx 0) ++ (num 8 ++ ut (kx 1)) := rfl
    rw [hE, List.length_append, List.length_append, ut_len, ut_len, num_len, kxl0, kxl1] at hl
    refine z_tableIn (pc := 4) (tgt := 67) (off := 63) E jd_L_putEntry_4 (by decide) (by decide) (by decide) (by decide) ?_
    refine z_aload_n (pc := 67) E jd_L_putEntry_67 rfl rfl ?_
    refine z_ldcS (i := 0) (pc := 68) E rfl ⟨rfl, rfl⟩ jd_L_putEntry_68 ?_
    refine z_cV1V (pc := 70) E (c_L_putConstant l G B (i := 0) h (by decide) (by have := kxl0; omega)) jc_L_83 jv_L_putConstant rfl (by assumption) ⟨by decide, by decide⟩ jd_L_putEntry_70 (Nat.le_of_ble_eq_true rfl) (by decide) (by decide) (fun es70 h70 => ?_)
    obtain ⟨w70, F70⟩ := h70
    have g2 := w70.obj
    refine z_aload_n (pc := 73) E jd_L_putEntry_73 rfl rfl ?_
    refine z_bipush (v := 8) (pc := 74) E jd_L_putEntry_74 (by decide) ?_
    refine z_cV1V (pc := 76) E (c_L_putNumber l G B w70 (by simp only [List.length_append, ut_len, kxl0]; omega)) jc_L_37 jv_L_putNumber rfl (by assumption) ⟨by decide, by decide⟩ jd_L_putEntry_76 (Nat.le_of_ble_eq_true rfl) (by decide) (by decide) (fun es76 h76 => ?_)
    obtain ⟨w76, F76⟩ := h76
    have g4 := w76.obj
    refine z_aload_n (pc := 79) E jd_L_putEntry_79 rfl rfl ?_
    refine z_ldcS (i := 1) (pc := 80) E rfl ⟨rfl, rfl⟩ jd_L_putEntry_80 ?_
    refine z_cV1V (pc := 82) E (c_L_putConstant l G B (i := 1) w76 (by decide) (by simp only [List.length_append, ut_len, num_len, kxl0, kxl1]; omega)) jc_L_83 jv_L_putConstant rfl (by assumption) ⟨by decide, by decide⟩ jd_L_putEntry_82 (Nat.le_of_ble_eq_true rfl) (by decide) (by decide) (fun es82 h82 => ?_)
    obtain ⟨w82, F82⟩ := h82
    rw [List.append_assoc, List.append_assoc, ← hE] at w82
    have FF := (F70.trs F76).trs F82
    have ok := w82
    refine z_goto (pc := 85) (tgt := 156) E jd_L_putEntry_85 (by decide) ?_
    exact z_vret E jd_L_putEntry_156 ⟨rfl, ok, FF⟩
  · have hE : entB (4, m, nn, ss) = ut nn := rfl
    rw [hE, ut_len] at hl
    refine z_tableOut (pc := 4) (tgt := 148) E jd_L_putEntry_4 (by decide) (by decide) ?_
    refine z_aload_n (pc := 148) E jd_L_putEntry_148 rfl rfl ?_
    refine z_aload_n (pc := 149) E jd_L_putEntry_149 rfl rfl ?_
    refine z_get (pc := 150) E jf_L_74 jd_L_putEntry_150 (by assumption) (by rfl) ?_
    refine z_cV1V (pc := 153) E (c_L_putText l G B h e2 (by omega) (by omega)) jc_L_29 jv_L_putText rfl (by assumption) ⟨by decide, by decide⟩ jd_L_putEntry_153 (Nat.le_of_ble_eq_true rfl) (by decide) (by decide) (fun es153 h153 => ?_)
    obtain ⟨w153, F153⟩ := h153
    have FF := F153
    have ok := w153
    exact z_vret E jd_L_putEntry_156 ⟨rfl, ok, FF⟩
def allB (E : Nat → Ent) (k : Nat) : Nat → List Nat
  | 0 => []
  | n + 1 => allB E k n ++ (if (E n).1 = k ∧ hsh (E n) = true then entB (E n) else [])
theorem allB_mono (E : Nat → Ent) (k : Nat) : ∀ n m, n ≤ m → (allB E k n).length ≤ (allB E k m).length
  | n, 0, h => by rw [Nat.le_zero.mp h]; exact Nat.le_refl _
  | n, m + 1, h => by
    by_cases e : n = m + 1
    · rw [e]; exact Nat.le_refl _
    · have := allB_mono E k n m (by omega)
      rw [show allB E k (m + 1) = allB E k m ++ (if (E m).1 = k ∧ hsh (E m) = true then entB (E m) else []) from rfl, List.length_append]
      omega
set_option maxHeartbeats 4000000 in
set_option maxRecDepth 100000 in
theorem c_L_putAll (l : Launch) (G : zG) (B : Nat) {es : zE} {p q most u k : Nat} {w : Nat → Nat} {E : Nat → Ent} {bs : List Nat} {bg : Nat → Int32} (h : ly G B es p bs bg) (hr : rO G B es q most w E u) (hq : q + 2 + 5 * most ≤ p ∨ p + 3 ≤ q) (hk : k < 5) (hl : bs.length + (allB E k u).length ≤ 694) : Tr l G B jy_L_putAll jb_L_putAll 5 none 6 0 0 [.ref (B + p), .ref (B + q), .int (nI k)] es (pV fun es' => ly G B es' p (bs ++ allB E k u) bg ∧ Fr es es' p (p + 3)) := by
  refine Tr.of (ls := [some (.ref (B + p)), some (.ref (B + q)), some (.int (nI k)), none, none]) (by decide +kernel) (Nat.le_of_ble_eq_true rfl) rfl ?_
  intro zp ze zs zm zb zt zc zE0
  have loop : ∀ (f i : Nat) (z : Option Value) (es1 : zE), i + f = u → ly G B es1 p (bs ++ allB E k i) bg → Fr es es1 p (p + 3) → Zj zp l ze (zr 6 0 0) zs zm ([.ref (B + p), .ref (B + q), .int (nI k)] : List Value).toArray zb zt zc (MQ zb (zQ G B (pV fun es' => ly G B es' p (bs ++ allB E k u) bg ∧ Fr es es' p (p + 3))) ([.ref (B + p), .ref (B + q), .int (nI k)] : List Value).toArray zs 0 0 (fun q => B ≤ q)) G B 5 0 0 2 [some (.ref (B + p)), some (.ref (B + q)), some (.int (nI k)), some (.int (nI i)), z] [] es1 := by
    intro f
    induction f with
    | zero =>
      intro i z es1 hi hly hF
      obtain ⟨h1, ⟨a, h2, h3⟩, h4, h5, h6, h7, h8⟩ := hr.fr hF (by omega)
      refine z_iload_n (pc := 2) zE0 jd_L_putAll_2 rfl rfl ?_
      refine z_aload_n (pc := 3) zE0 jd_L_putAll_3 rfl rfl ?_
      refine z_get (pc := 4) zE0 jf_L_52 jd_L_putAll_4 (by assumption) (by rfl) ?_
      refine z_icmp_ge (pc := 7) (tgt := 47) zE0 jd_L_putAll_7 (by decide) (fun c7 => ?_) (fun c7 => ?_)
      · rw [show i = u by omega] at hly
        exact z_vret zE0 jd_L_putAll_47 ⟨rfl, hly, hF⟩
      · exact absurd (nI_le (by omega) (by omega)) c7
    | succ f ih =>
      intro i z es1 hi hly hF
      obtain ⟨h1, ⟨a, h2, h3⟩, h4, h5, h6, h7, h8⟩ := hr.fr hF (by omega)
      have hen := h8 i (by omega)
      have hwi := h6 i (by omega)
      have he1 := hen.1
      have he5 := hen.2.2.2
      have hob := hly.obj
      have hmo := allB_mono E k (i + 1) u (by omega)
      have hsu : allB E k (i + 1) = allB E k i ++ (if (E i).1 = k ∧ hsh (E i) = true then entB (E i) else []) := rfl
      have next : ∀ es2 : zE, ly G B es2 p (bs ++ allB E k (i + 1)) bg → Fr es es2 p (p + 3) → Zj zp l ze (zr 6 0 0) zs zm ([.ref (B + p), .ref (B + q), .int (nI k)] : List Value).toArray zb zt zc (MQ zb (zQ G B (pV fun es' => ly G B es' p (bs ++ allB E k u) bg ∧ Fr es es' p (p + 3))) ([.ref (B + p), .ref (B + q), .int (nI k)] : List Value).toArray zs 0 0 (fun q => B ≤ q)) G B 5 0 0 41 [some (.ref (B + p)), some (.ref (B + q)), some (.int (nI k)), some (.int (nI i)), some (.ref (B + (q + 2 + 5 * w i)))] [] es2 := by
        intro es2 g1 g2
        refine z_iinc (pc := 41) zE0 jd_L_putAll_41 rfl rfl (by decide) rfl ?_
        dsimp only [List.set]
        refine z_goto (pc := 44) (tgt := 2) zE0 jd_L_putAll_44 (by decide) ?_
        have := ih (i + 1) (some (.ref (B + (q + 2 + 5 * w i)))) es2 (by omega) g1 g2
        rw [nI_succ i] at this
        exact this
      refine z_iload_n (pc := 2) zE0 jd_L_putAll_2 rfl rfl ?_
      refine z_aload_n (pc := 3) zE0 jd_L_putAll_3 rfl rfl ?_
      refine z_get (pc := 4) zE0 jf_L_52 jd_L_putAll_4 (by assumption) (by rfl) ?_
      refine z_icmp_ge (pc := 7) (tgt := 47) zE0 jd_L_putAll_7 (by decide) (fun c7 => ?_) (fun c7 => ?_)
      · exact absurd (cle c7) (by omega)
      · refine z_aload_n (pc := 10) zE0 jd_L_putAll_10 rfl rfl ?_
        refine z_get (pc := 11) zE0 jf_L_57 jd_L_putAll_11 (by assumption) (by rfl) ?_
        refine z_iload_n (pc := 14) zE0 jd_L_putAll_14 rfl rfl ?_
        refine z_aald (ti := 4) (pc := 15) zE0 rfl jd_L_putAll_15 (by assumption) (vp_in_nI (by omega) (by omega)) ?_
        rw [nI_clamp (by omega), h3 i (by omega), rf_some]
        refine z_astore (pc := 16) zE0 jd_L_putAll_16 (by decide) rfl ?_
        dsimp only [List.set]
        refine z_aload (pc := 18) zE0 jd_L_putAll_18 rfl ?_
        refine z_get (pc := 20) zE0 jf_L_61 jd_L_putAll_20 (by assumption) (by rfl) ?_
        refine z_iload_n (pc := 23) zE0 jd_L_putAll_23 rfl rfl ?_
        refine z_icmp_ne (pc := 24) (tgt := 41) zE0 jd_L_putAll_24 (by decide) (fun c24 => ?_) (fun c24 => ?_)
        · have hne := nceq c24
          rw [if_neg (fun q => hne q.1), List.append_nil] at hsu
          exact next es1 (by rw [hsu]; exact hly) hF
        · have hke := ceq c24
          refine z_aload (pc := 27) zE0 jd_L_putAll_27 rfl ?_
          refine z_cV0I (pc := 29) zE0 (c_E_isHashed l G B hen) jc_L_66 jv_E_isHashed rfl (by assumption) ⟨by decide, by decide⟩ jd_L_putAll_29 (Nat.le_of_ble_eq_true rfl) (by decide) (by decide) (fun v29 es29 h29 => ?_)
          obtain ⟨w29, e29⟩ := h29
          rw [e29, w29]
          refine z_if_eq (pc := 32) (tgt := 41) zE0 jd_L_putAll_32 (by decide) (fun c32 => ?_) (fun c32 => ?_)
          · rw [if_neg (fun q => by rw [b01 c32] at q; exact absurd q.2 (by decide)), List.append_nil] at hsu
            exact next es1 (by rw [hsu]; exact hly) hF
          · rw [if_pos ⟨hke, b01n c32⟩] at hsu
            refine z_aload_n (pc := 35) zE0 jd_L_putAll_35 rfl rfl ?_
            refine z_aload (pc := 36) zE0 jd_L_putAll_36 rfl ?_
            refine z_cV1V (pc := 38) zE0 (c_L_putEntry l G B hly hen (by omega) (by rw [hsu, List.length_append] at hmo; rw [List.length_append]; omega)) jc_L_70 jv_L_putEntry rfl (by assumption) ⟨by decide, by decide⟩ jd_L_putAll_38 (Nat.le_of_ble_eq_true rfl) (by decide) (by decide) (fun es38 h38 => ?_)
            obtain ⟨w38, F38⟩ := h38
            rw [List.append_assoc, ← hsu] at w38
            exact next es38 w38 (hF.trs F38)
  refine z_iconst (v := 0) (pc := 0) zE0 jd_L_putAll_0 (by decide) ?_
  refine z_istore_n (pc := 1) zE0 jd_L_putAll_1 rfl (by decide) rfl ?_
  dsimp only [List.set]
  exact loop u 0 none es (by omega) (by rw [show allB E k 0 = [] from rfl, List.append_nil]; exact h) Fr.rf
