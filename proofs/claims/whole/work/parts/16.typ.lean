/-! the bytes of a long, type and clear -/
def zby (z : Int64) (k : Nat) : Nat := z.toBitVec.toNat / 2 ^ (8 * k) % 256
theorem zb_lt (z : Int64) (k : Nat) : zby z k < 256 := Nat.mod_lt _ (by decide)
theorem sh_u : ∀ k, k < 8 → ((nI (8 * k)).toInt64.toUInt64 &&& Int64.toUInt64 63).toNat % 64 = 8 * k := by decide +kernel
theorem l2i_nat (x : Int64) : x.toInt32.toBitVec.toNat = x.toBitVec.toNat % 2 ^ 32 := by
  rw [Int64.toBitVec_toInt32, BitVec.signExtend_eq_setWidth_of_le _ (by decide), BitVec.toNat_setWidth]
theorem zb_u (z : Int64) {k : Nat} (hk : k < 8) : (z.toUInt64 >>> ((nI (8 * k)).toInt64.toUInt64 &&& Int64.toUInt64 63)).toInt64.toInt32 &&& 255 = nI (zby z k) := by
  rw [by8_255]
  congr 1
  rw [by8, l2i_nat]
  have e : (z.toUInt64 >>> ((nI (8 * k)).toInt64.toUInt64 &&& Int64.toUInt64 63)).toInt64.toBitVec.toNat = z.toBitVec.toNat / 2 ^ (8 * k) := by
    show (z.toUInt64 >>> ((nI (8 * k)).toInt64.toUInt64 &&& Int64.toUInt64 63)).toNat = _
    rw [UInt64.toNat_shiftRight, sh_u k hk, Nat.shiftRight_eq_div_pow]
    rfl
  rw [e, zby, Nat.mod_mod_of_dvd _ (by decide)]
def okB (c : Nat) : Bool := decide (c = 0 ∨ (33 ≤ c ∧ c ≤ 126))
def okA (z : Int64) : Nat → Bool
  | 0 => true
  | m + 1 => okB (zby z m) && okA z m
def scn (z : Int64) : Nat → Nat
  | 0 => 0
  | m + 1 => (if zby z m = 0 then 0 else 1) + scn z m
def sgL (z : Int64) : Nat → List Nat
  | 0 => []
  | m + 1 => (if zby z m = 0 then [] else [zby z m]) ++ sgL z m
theorem okA_s (z : Int64) (m : Nat) : okA z (m + 1) = (okB (zby z m) && okA z m) := rfl
theorem scn_s (z : Int64) (m : Nat) : scn z (m + 1) = (if zby z m = 0 then 0 else 1) + scn z m := rfl
theorem sgL_s (z : Int64) (m : Nat) : sgL z (m + 1) = (if zby z m = 0 then [] else [zby z m]) ++ sgL z m := rfl
theorem sgL_len (z : Int64) : ∀ m, (sgL z m).length = scn z m
  | 0 => rfl
  | m + 1 => by
    rw [sgL, scn, List.length_append, sgL_len z m]
    split <;> rfl
theorem scn_le (z : Int64) : ∀ m, scn z m ≤ m
  | 0 => Nat.le_refl _
  | m + 1 => by
    rw [scn]
    have := scn_le z m
    split <;> omega
/-- the shift in front of m more bytes -/
def shf (m : Nat) : Int32 := nI (8 * m) - 8
theorem shf_s : ∀ m, m < 8 → shf (m + 1) = nI (8 * m) ∧ shf (m + 1) + Int32.ofInt (-8) = shf m ∧ ¬ shf (m + 1) < 0 := by decide +kernel
set_option maxHeartbeats 4000000 in
set_option maxRecDepth 100000 in
theorem c_S_byteOf (l : Launch) (G : zG) (B : Nat) {es : zE} {z : Int64} {k : Nat} (hk : k < 8) : Tr l G B jy_S_byteOf jb_S_byteOf 3 (some .int) 0 0 0 [.long z, .int (nI (8 * k))] es (pI fun v es' => v = nI (zby z k) ∧ es' = es) := by
  refine Tr.of (ls := [some (.long z), none, some (.int (nI (8 * k)))]) (by decide +kernel) (Nat.le_of_ble_eq_true rfl) rfl ?_
  intro zp ze zs zm zb zt zc E
  refine z_lload_n (pc := 0) E jd_S_byteOf_0 rfl rfl ?_
  refine z_iload_n (pc := 1) E jd_S_byteOf_1 rfl rfl ?_
  refine z_lushr (pc := 2) E jd_S_byteOf_2 ?_
  refine z_l2i (pc := 3) E jd_S_byteOf_3 ?_
  refine z_sipush (v := 255) (pc := 4) E jd_S_byteOf_4 (by decide) ?_
  refine z_iand (pc := 7) E jd_S_byteOf_7 ?_
  exact z_iret E jd_S_byteOf_8 ⟨_, rfl, zb_u z hk, rfl⟩
set_option maxHeartbeats 4000000 in
set_option maxRecDepth 100000 in
theorem c_S_areSigns (l : Launch) (G : zG) (B : Nat) {es : zE} {z : Int64} : Tr l G B jy_S_areSigns jb_S_areSigns 4 (some .boolean) 1 0 0 [.long z] es (pI fun v es' => v = (if okA z 8 = true then 1 else 0) ∧ es' = es) := by
  refine Tr.of (ls := [some (.long z), none, none, none]) (by decide +kernel) (Nat.le_of_ble_eq_true rfl) rfl ?_
  intro zp ze zs zm zb zt zc E
  have loop : ∀ (m : Nat) (a3 : Option Value), m ≤ 8 → okA z 8 = okA z m → Zj zp l ze (zr 1 0 0) zs zm ([.long z] : List Value).toArray zb zt zc (MQ zb (zQ G B (pI fun v es' => v = (if okA z 8 = true then 1 else 0) ∧ es' = es)) ([.long z] : List Value).toArray zs 0 0 (fun q => B ≤ q)) G B 4 0 0 3 [some (.long z), none, some (.int (shf m)), a3] [] es := by
    intro m
    induction m with
    | zero =>
      intro a3 hm he
      refine z_iload_n (pc := 3) E jd_S_areSigns_3 rfl rfl ?_
      refine z_if_lt (pc := 4) (tgt := 37) E jd_S_areSigns_4 (by decide) (fun c4 => ?_) (fun c4 => ?_)
      · refine z_iconst (v := 1) (pc := 37) E jd_S_areSigns_37 (by decide) ?_
        exact z_zret E rfl jd_S_areSigns_38 ⟨_, rfl, by rw [he]; rfl, rfl⟩
      · exact absurd (by decide) c4
    | succ m ih =>
      intro a3 hm he
      obtain ⟨s1, s2, s3⟩ := shf_s m (by omega)
      have hlt := zb_lt z m
      rw [okA_s z m] at he
      refine z_iload_n (pc := 3) E jd_S_areSigns_3 rfl rfl ?_
      refine z_if_lt (pc := 4) (tgt := 37) E jd_S_areSigns_4 (by decide) (fun c4 => ?_) (fun c4 => ?_)
      · exact absurd c4 s3
      · refine z_lload_n (pc := 7) E jd_S_areSigns_7 rfl rfl ?_
        refine z_iload_n (pc := 8) E jd_S_areSigns_8 rfl rfl ?_
        refine z_topi s1 ?_
        refine z_cS2I (pc := 9) E (c_S_byteOf l G B (by omega)) jc_S_56 js_S_byteOf ⟨by decide, by decide⟩ jd_S_areSigns_9 (Nat.le_of_ble_eq_true rfl) (by decide) (by decide) (fun v9 es9 h9 => ?_)
        obtain ⟨w9, e9⟩ := h9
        rw [e9, w9]
        refine z_istore_n (pc := 12) E jd_S_areSigns_12 rfl (by decide) rfl ?_
        dsimp only [List.set]
        refine z_iload_n (pc := 13) E jd_S_areSigns_13 rfl rfl ?_
        refine z_if_eq (pc := 14) (tgt := 31) E jd_S_areSigns_14 (by decide) (fun c14 => ?_) (fun c14 => ?_)
        · have hb : okB (zby z m) = true := by have := ceq (b := 0) c14; simp [okB, this]
          refine z_iinc (pc := 31) E jd_S_areSigns_31 rfl rfl (by decide) rfl ?_
          dsimp only [List.set]
          refine z_goto (pc := 34) (tgt := 3) E jd_S_areSigns_34 (by decide) ?_
          rw [s2]
          exact ih _ (by omega) (by rw [he, hb]; rfl)
        · refine z_iload_n (pc := 17) E jd_S_areSigns_17 rfl rfl ?_
          refine z_bipush (v := 33) (pc := 18) E jd_S_areSigns_18 (by decide) ?_
          refine z_icmp_lt (pc := 20) (tgt := 29) E jd_S_areSigns_20 (by decide) (fun c20 => ?_) (fun c20 => ?_)
          · have hb : okB (zby z m) = false := by have q1 := nceq (b := 0) c14; have q2 := clt (b := 33) c20; simp [okB, q1]; omega
            refine z_iconst (v := 0) (pc := 29) E jd_S_areSigns_29 (by decide) ?_
            exact z_zret E rfl jd_S_areSigns_30 ⟨_, rfl, by rw [he, hb]; rfl, rfl⟩
          · refine z_iload_n (pc := 23) E jd_S_areSigns_23 rfl rfl ?_
            refine z_bipush (v := 126) (pc := 24) E jd_S_areSigns_24 (by decide) ?_
            refine z_icmp_le (pc := 26) (tgt := 31) E jd_S_areSigns_26 (by decide) (fun c26 => ?_) (fun c26 => ?_)
            · have hb : okB (zby z m) = true := by have q2 := nclt (b := 33) c20; have q3 := cle (b := 126) c26; simp [okB, q2, q3]
              refine z_iinc (pc := 31) E jd_S_areSigns_31 rfl rfl (by decide) rfl ?_
              dsimp only [List.set]
              refine z_goto (pc := 34) (tgt := 3) E jd_S_areSigns_34 (by decide) ?_
              rw [s2]
              exact ih _ (by omega) (by rw [he, hb]; rfl)
            · have hb : okB (zby z m) = false := by have q1 := nceq (b := 0) c14; have q3 := ncle (b := 126) c26; simp [okB, q1]; omega
              refine z_iconst (v := 0) (pc := 29) E jd_S_areSigns_29 (by decide) ?_
              exact z_zret E rfl jd_S_areSigns_30 ⟨_, rfl, by rw [he, hb]; rfl, rfl⟩
  refine z_bipush (v := 56) (pc := 0) E jd_S_areSigns_0 (by decide) ?_
  refine z_istore_n (pc := 2) E jd_S_areSigns_2 rfl (by decide) rfl ?_
  dsimp only [List.set]
  exact loop 8 none (Nat.le_refl _) rfl
set_option maxHeartbeats 4000000 in
set_option maxRecDepth 100000 in
theorem c_S_signsIn (l : Launch) (G : zG) (B : Nat) {es : zE} {z : Int64} : Tr l G B jy_S_signsIn jb_S_signsIn 4 (some .int) 1 0 0 [.long z] es (pI fun v es' => v = nI (scn z 8) ∧ es' = es) := by
  refine Tr.of (ls := [some (.long z), none, none, none]) (by decide +kernel) (Nat.le_of_ble_eq_true rfl) rfl ?_
  intro zp ze zs zm zb zt zc E
  have loop : ∀ (m f : Nat), m ≤ 8 → f + scn z m = scn z 8 → Zj zp l ze (zr 1 0 0) zs zm ([.long z] : List Value).toArray zb zt zc (MQ zb (zQ G B (pI fun v es' => v = nI (scn z 8) ∧ es' = es)) ([.long z] : List Value).toArray zs 0 0 (fun q => B ≤ q)) G B 4 0 0 5 [some (.long z), none, some (.int (nI f)), some (.int (shf m))] [] es := by
    intro m
    induction m with
    | zero =>
      intro f hm he
      refine z_iload_n (pc := 5) E jd_S_signsIn_5 rfl rfl ?_
      refine z_if_lt (pc := 6) (tgt := 26) E jd_S_signsIn_6 (by decide) (fun c6 => ?_) (fun c6 => ?_)
      · refine z_iload_n (pc := 26) E jd_S_signsIn_26 rfl rfl ?_
        exact z_iret E jd_S_signsIn_27 ⟨_, rfl, by rw [← he]; rfl, rfl⟩
      · exact absurd (by decide) c6
    | succ m ih =>
      intro f hm he
      obtain ⟨s1, s2, s3⟩ := shf_s m (by omega)
      have hlt := zb_lt z m
      rw [scn_s z m] at he
      refine z_iload_n (pc := 5) E jd_S_signsIn_5 rfl rfl ?_
      refine z_if_lt (pc := 6) (tgt := 26) E jd_S_signsIn_6 (by decide) (fun c6 => ?_) (fun c6 => ?_)
      · exact absurd c6 s3
      · refine z_lload_n (pc := 9) E jd_S_signsIn_9 rfl rfl ?_
        refine z_iload_n (pc := 10) E jd_S_signsIn_10 rfl rfl ?_
        refine z_topi s1 ?_
        refine z_cS2I (pc := 11) E (c_S_byteOf l G B (by omega)) jc_S_56 js_S_byteOf ⟨by decide, by decide⟩ jd_S_signsIn_11 (Nat.le_of_ble_eq_true rfl) (by decide) (by decide) (fun v11 es11 h11 => ?_)
        obtain ⟨w11, e11⟩ := h11
        rw [e11, w11]
        refine z_if_eq (pc := 14) (tgt := 20) E jd_S_signsIn_14 (by decide) (fun c14 => ?_) (fun c14 => ?_)
        · rw [if_pos (ceq (b := 0) c14)] at he
          have he : f + scn z m = scn z 8 := by omega
          refine z_iinc (pc := 20) E jd_S_signsIn_20 rfl rfl (by decide) rfl ?_
          dsimp only [List.set]
          refine z_goto (pc := 23) (tgt := 5) E jd_S_signsIn_23 (by decide) ?_
          rw [s2]
          have := ih _ (by omega) he
          first | exact this | (rw [nI_succ f] at this; exact this)
        · rw [if_neg (nceq (b := 0) c14)] at he
          have he : (f + 1) + scn z m = scn z 8 := by omega
          refine z_iinc (pc := 17) E jd_S_signsIn_17 rfl rfl (by decide) rfl ?_
          dsimp only [List.set]
          refine z_iinc (pc := 20) E jd_S_signsIn_20 rfl rfl (by decide) rfl ?_
          dsimp only [List.set]
          refine z_goto (pc := 23) (tgt := 5) E jd_S_signsIn_23 (by decide) ?_
          rw [s2]
          have := ih _ (by omega) he
          first | exact this | (rw [nI_succ f] at this; exact this)
  refine z_iconst (v := 0) (pc := 0) E jd_S_signsIn_0 (by decide) ?_
  refine z_istore_n (pc := 1) E jd_S_signsIn_1 rfl (by decide) rfl ?_
  dsimp only [List.set]
  refine z_bipush (v := 56) (pc := 2) E jd_S_signsIn_2 (by decide) ?_
  refine z_istore_n (pc := 4) E jd_S_signsIn_4 rfl (by decide) rfl ?_
  dsimp only [List.set]
  exact loop 8 0 (Nat.le_refl _) (Nat.zero_add _)
theorem bufv {B o pt : Nat} {x : Int32} (hb : (x = 0 ∧ pt = o + 1) ∨ (x = 1 ∧ pt = o + 3)) : (if x = 0 then Value.ref (B + (o + 1)) else if x = 1 then .ref (B + (o + 3)) else .null) = .ref (B + pt) := by
  rcases hb with ⟨rfl, rfl⟩ | ⟨rfl, rfl⟩ <;> rfl
theorem okA_at {z : Int64} : ∀ {n m : Nat}, okA z n = true → m < n → okB (zby z m) = true
  | n + 1, m, h, hm => by
    rw [okA, Bool.and_eq_true] at h
    by_cases e : m = n
    · rw [e]; exact h.1
    · exact okA_at h.2 (by omega)
set_option maxHeartbeats 4000000 in
set_option maxRecDepth 100000 in
theorem c_S_type (l : Launch) (G : zG) (B : Nat) {es : zE} {o pt : Nat} {nm sh xs : List Nat} {D : Nat → DT} {x : Int32} {z : Int64} (h : sA G B es o nm sh D) (hb : (x = 0 ∧ pt = o + 1) ∨ (x = 1 ∧ pt = o + 3)) (ht : tx G B es pt xs) : Tr l G B jy_S_type jb_S_type 7 (some .int) 2 0 0 [.ref (B + o), .int x, .long z] es (pI fun v es' => if okA z 8 = false then v = -1 ∧ es' = es else if 24 < xs.length + scn z 8 then v = -4 ∧ es' = es else v = nI (xs.length + scn z 8) ∧ tx G B es' pt (xs ++ sgL z 8) ∧ Fr es es' pt (pt + 2)) := by
  have ho := h.1
  have t1 := ht.obj
  have t2 := ht.len
  have hs8 := scn_le z 8
  refine Tr.of (ls := [some (.ref (B + o)), some (.int x), some (.long z), none, none, none, none]) (by decide +kernel) (Nat.le_of_ble_eq_true rfl) rfl ?_
  intro zp ze zs zm zb zt zc E
  refine z_aload_n (pc := 0) E jd_S_type_0 rfl rfl ?_
  refine z_iload_n (pc := 1) E jd_S_type_1 rfl rfl ?_
  refine z_cV1R (pc := 2) E (c_S_bufferOf l G B h) jc_S_40 jv_S_bufferOf rfl (by assumption) ⟨by decide, by decide⟩ jd_S_type_2 (Nat.le_of_ble_eq_true rfl) (by decide) (by decide) (fun v2 es2 h2 => ?_)
  obtain ⟨w2, e2⟩ := h2
  rw [e2, w2, bufv hb]
  refine z_astore (pc := 5) E jd_S_type_5 (by decide) rfl ?_
  dsimp only [List.set]
  refine z_aload (pc := 7) E jd_S_type_7 rfl ?_
  refine z_ifnull (pc := 9) E jd_S_type_9 ?_
  refine z_lload_n (pc := 12) E jd_S_type_12 rfl rfl ?_
  refine z_cS1I (pc := 13) E (c_S_areSigns l G B) jc_S_44 js_S_areSigns ⟨by decide, by decide⟩ jd_S_type_13 (Nat.le_of_ble_eq_true rfl) (by decide) (by decide) (fun v13 es13 h13 => ?_)
  obtain ⟨w13, e13⟩ := h13
  rw [e13, w13]
  refine z_if_ne (pc := 16) (tgt := 21) E jd_S_type_16 (by decide) (fun c16 => ?_) (fun c16 => ?_)
  · have hok : okA z 8 = true := b01n c16
    have hok' : ¬ okA z 8 = false := by rw [hok]; decide
    refine z_aload (pc := 21) E jd_S_type_21 rfl ?_
    refine z_get (pc := 23) E jf_S_48 jd_S_type_23 (by assumption) (by rfl) ?_
    refine z_lload_n (pc := 26) E jd_S_type_26 rfl rfl ?_
    refine z_cS1I (pc := 27) E (c_S_signsIn l G B) jc_S_52 js_S_signsIn ⟨by decide, by decide⟩ jd_S_type_27 (Nat.le_of_ble_eq_true rfl) (by decide) (by decide) (fun v27 es27 h27 => ?_)
    obtain ⟨w27, e27⟩ := h27
    rw [e27, w27]
    refine z_iadd (pc := 30) E jd_S_type_30 ?_
    rw [nI_add]
    refine z_bipush (v := 24) (pc := 31) E jd_S_type_31 (by decide) ?_
    refine z_icmp_le (pc := 33) (tgt := 39) E jd_S_type_33 (by decide) (fun c33 => ?_) (fun c33 => ?_)
    · have hfl : ¬ 24 < xs.length + scn z 8 := by have := cle (b := 24) c33; omega
      refine z_bipush (v := 56) (pc := 39) E jd_S_type_39 (by decide) ?_
      refine z_istore (pc := 41) E jd_S_type_41 (by decide) rfl ?_
      dsimp only [List.set]
      have loop : ∀ (m : Nat) (ys : List Nat) (a6 : Option Value) (es1 : zE), m ≤ 8 → ys ++ sgL z m = xs ++ sgL z 8 → tx G B es1 pt ys → Fr es es1 pt (pt + 2) → Zj zp l ze (zr 2 0 0) zs zm ([.ref (B + o), .int x, .long z] : List Value).toArray zb zt zc (MQ zb (zQ G B (pI fun v es' => if okA z 8 = false then v = -1 ∧ es' = es else if 24 < xs.length + scn z 8 then v = -4 ∧ es' = es else v = nI (xs.length + scn z 8) ∧ tx G B es' pt (xs ++ sgL z 8) ∧ Fr es es' pt (pt + 2))) ([.ref (B + o), .int x, .long z] : List Value).toArray zs 0 0 (fun q => B ≤ q)) G B 7 0 0 43 [some (.ref (B + o)), some (.int x), some (.long z), none, some (.ref (B + pt)), some (.int (shf m)), a6] [] es1 := by
        intro m
        induction m with
        | zero =>
          intro ys a6 es1 hm he ht1 hF
          have u1 := ht1.obj
          rw [show sgL z 0 = [] from rfl, List.append_nil] at he
          subst he
          refine z_iload (pc := 43) E jd_S_type_43 rfl ?_
          refine z_if_lt (pc := 45) (tgt := 74) E jd_S_type_45 (by decide) (fun c45 => ?_) (fun c45 => ?_)
          · refine z_aload (pc := 74) E jd_S_type_74 rfl ?_
            refine z_get (pc := 76) E jf_S_48 jd_S_type_76 (by assumption) (by rfl) ?_
            exact z_iret E jd_S_type_79 ⟨_, rfl, by dsimp only; rw [if_neg hok', if_neg hfl, List.length_append, sgL_len]; exact ⟨rfl, ht1, hF⟩⟩
          · exact absurd (by decide) c45
        | succ m ih =>
          intro ys a6 es1 hm he ht1 hF
          have u1 := ht1.obj
          obtain ⟨s1, s2, s3⟩ := shf_s m (by omega)
          have hlt := zb_lt z m
          have hb1 := okA_at hok (show m < 8 by omega)
          have hle : ys.length + scn z (m + 1) = xs.length + scn z 8 := by rw [← sgL_len, ← sgL_len, ← List.length_append, ← List.length_append, he]
          rw [scn_s z m] at hle
          rw [sgL_s z m] at he
          refine z_iload (pc := 43) E jd_S_type_43 rfl ?_
          refine z_if_lt (pc := 45) (tgt := 74) E jd_S_type_45 (by decide) (fun c45 => ?_) (fun c45 => ?_)
          · exact absurd c45 s3
          · refine z_lload_n (pc := 48) E jd_S_type_48 rfl rfl ?_
            refine z_iload (pc := 49) E jd_S_type_49 rfl ?_
            refine z_topi s1 ?_
            refine z_cS2I (pc := 51) E (c_S_byteOf l G B (by omega)) jc_S_56 js_S_byteOf ⟨by decide, by decide⟩ jd_S_type_51 (Nat.le_of_ble_eq_true rfl) (by decide) (by decide) (fun v51 es51 h51 => ?_)
            obtain ⟨w51, e51⟩ := h51
            rw [e51, w51]
            refine z_istore (pc := 54) E jd_S_type_54 (by decide) rfl ?_
            dsimp only [List.set]
            refine z_iload (pc := 56) E jd_S_type_56 rfl ?_
            refine z_if_eq (pc := 58) (tgt := 68) E jd_S_type_58 (by decide) (fun c58 => ?_) (fun c58 => ?_)
            · rw [if_pos (ceq (b := 0) c58), List.nil_append] at he
              have nx := ih ys (some (.int (nI (zby z m)))) es1 (by omega) he ht1 hF
              refine z_iinc (pc := 68) E jd_S_type_68 rfl rfl (by decide) rfl ?_
              dsimp only [List.set]
              refine z_goto (pc := 71) (tgt := 43) E jd_S_type_71 (by decide) ?_
              rw [s2]
              exact nx
            · have hz0 := nceq (b := 0) c58
              rw [if_neg hz0] at hle
              rw [if_neg hz0, ← List.append_assoc] at he
              have hz2 : zby z m < 128 := by rw [okB, decide_eq_true_eq] at hb1; omega
              refine z_aload (pc := 61) E jd_S_type_61 rfl ?_
              refine z_iload (pc := 63) E jd_S_type_63 rfl ?_
              refine z_cV1V (pc := 65) E (c_T_append l G B ht1 (by omega) hz2) jc_S_60 jv_T_append rfl (by assumption) ⟨by decide, by decide⟩ jd_S_type_65 (Nat.le_of_ble_eq_true rfl) (by decide) (by decide) (fun es65 h65 => ?_)
              obtain ⟨w65, F65⟩ := h65
              have nx := ih (ys ++ [zby z m]) (some (.int (nI (zby z m)))) es65 (by omega) he w65 (hF.trs F65)
              refine z_iinc (pc := 68) E jd_S_type_68 rfl rfl (by decide) rfl ?_
              dsimp only [List.set]
              refine z_goto (pc := 71) (tgt := 43) E jd_S_type_71 (by decide) ?_
              rw [s2]
              exact nx
      exact loop 8 xs none es (Nat.le_refl _) rfl ht Fr.rf
    · have hfl : 24 < xs.length + scn z 8 := ncle (b := 24) c33
      refine z_bipush (v := -4) (pc := 36) E jd_S_type_36 (by decide) ?_
      exact z_iret E jd_S_type_38 ⟨_, rfl, by dsimp only; rw [if_neg hok', if_pos hfl]; exact ⟨rfl, rfl⟩⟩
  · have hok : okA z 8 = false := b01 c16
    refine z_iconst (v := -1) (pc := 19) E jd_S_type_19 (by decide) ?_
    exact z_iret E jd_S_type_20 ⟨_, rfl, by dsimp only; rw [if_pos hok]; exact ⟨rfl, rfl⟩⟩
set_option maxHeartbeats 4000000 in
set_option maxRecDepth 100000 in
theorem c_S_type_bad (l : Launch) (G : zG) (B : Nat) {es : zE} {o : Nat} {nm sh : List Nat} {D : Nat → DT} {x : Int32} {z : Int64} (h : sA G B es o nm sh D) (h0 : ¬ x = 0) (h1 : ¬ x = 1) : Tr l G B jy_S_type jb_S_type 7 (some .int) 2 0 0 [.ref (B + o), .int x, .long z] es (pI fun v es' => v = -1 ∧ es' = es) := by
  have ho := h.1
  refine Tr.of (ls := [some (.ref (B + o)), some (.int x), some (.long z), none, none, none, none]) (by decide +kernel) (Nat.le_of_ble_eq_true rfl) rfl ?_
  intro zp ze zs zm zb zt zc E
  refine z_aload_n (pc := 0) E jd_S_type_0 rfl rfl ?_
  refine z_iload_n (pc := 1) E jd_S_type_1 rfl rfl ?_
  refine z_cV1R (pc := 2) E (c_S_bufferOf l G B h) jc_S_40 jv_S_bufferOf rfl (by assumption) ⟨by decide, by decide⟩ jd_S_type_2 (Nat.le_of_ble_eq_true rfl) (by decide) (by decide) (fun v2 es2 h2 => ?_)
  obtain ⟨w2, e2⟩ := h2
  rw [e2, w2, if_neg h0, if_neg h1]
  refine z_astoreN (pc := 5) E jd_S_type_5 (by decide) rfl ?_
  dsimp only [List.set]
  refine z_aloadN (pc := 7) E jd_S_type_7 rfl ?_
  refine z_ifnullN (pc := 9) (tgt := 19) E jd_S_type_9 (by decide) ?_
  refine z_iconst (v := -1) (pc := 19) E jd_S_type_19 (by decide) ?_
  exact z_iret E jd_S_type_20 ⟨_, rfl, rfl, rfl⟩
theorem tx.zero {G : zG} {B : Nat} {es es1 : zE} {p : Nat} {xs : List Nat} (h : tx G B es p xs) (he : es1 = es.set p (.inr (1, [.ref (B + (p + 1)), .int 0]))) : tx G B es1 p [] := by
  obtain ⟨f, h1, h2, h3, h4, h5⟩ := h
  exact ⟨f, zs_eq he h1, zs_ne he (by omega) h2, Nat.zero_le _, fun j hj => absurd hj (Nat.not_lt_zero _), fun x hx => by cases hx⟩
set_option maxHeartbeats 4000000 in
set_option maxRecDepth 100000 in
theorem c_S_clear (l : Launch) (G : zG) (B : Nat) {es : zE} {o pt : Nat} {nm sh xs : List Nat} {D : Nat → DT} {x : Int32} (h : sA G B es o nm sh D) (hb : (x = 0 ∧ pt = o + 1) ∨ (x = 1 ∧ pt = o + 3)) (ht : tx G B es pt xs) : Tr l G B jy_S_clear jb_S_clear 4 (some .int) 1 0 0 [.ref (B + o), .int x] es (pI fun v es' => v = nI xs.length ∧ tx G B es' pt [] ∧ Fr es es' pt (pt + 2)) := by
  have ho := h.1
  have t1 := ht.obj
  refine Tr.of (ls := [some (.ref (B + o)), some (.int x), none, none]) (by decide +kernel) (Nat.le_of_ble_eq_true rfl) rfl ?_
  intro zp ze zs zm zb zt zc E
  refine z_aload_n (pc := 0) E jd_S_clear_0 rfl rfl ?_
  refine z_iload_n (pc := 1) E jd_S_clear_1 rfl rfl ?_
  refine z_cV1R (pc := 2) E (c_S_bufferOf l G B h) jc_S_40 jv_S_bufferOf rfl (by assumption) ⟨by decide, by decide⟩ jd_S_clear_2 (Nat.le_of_ble_eq_true rfl) (by decide) (by decide) (fun v2 es2 h2 => ?_)
  obtain ⟨w2, e2⟩ := h2
  rw [e2, w2, bufv hb]
  refine z_astore_n (pc := 5) E jd_S_clear_5 rfl (by decide) rfl ?_
  dsimp only [List.set]
  refine z_aload_n (pc := 6) E jd_S_clear_6 rfl rfl ?_
  refine z_ifnonnull (pc := 7) (tgt := 12) E jd_S_clear_7 (by decide) ?_
  refine z_aload_n (pc := 12) E jd_S_clear_12 rfl rfl ?_
  refine z_get (pc := 13) E jf_S_48 jd_S_clear_13 (by assumption) (by rfl) ?_
  refine z_istore_n (pc := 16) E jd_S_clear_16 rfl (by decide) rfl ?_
  dsimp only [List.set]
  refine z_aload_n (pc := 17) E jd_S_clear_17 rfl rfl ?_
  refine z_iconst (v := 0) (pc := 18) E jd_S_clear_18 (by decide) ?_
  refine z_put (pc := 19) E jp_S_48 jd_S_clear_19 (by assumption) (Nat.le_of_ble_eq_true rfl) rfl rfl (fun es19 he19 => ?_)
  dsimp only [List.set] at he19
  refine z_iload_n (pc := 22) E jd_S_clear_22 rfl rfl ?_
  exact z_iret E jd_S_clear_23 ⟨_, rfl, rfl, ht.zero he19, Fr.set he19 (by omega) (by omega)⟩
set_option maxHeartbeats 4000000 in
set_option maxRecDepth 100000 in
theorem c_S_clear_bad (l : Launch) (G : zG) (B : Nat) {es : zE} {o : Nat} {nm sh : List Nat} {D : Nat → DT} {x : Int32} (h : sA G B es o nm sh D) (h0 : ¬ x = 0) (h1 : ¬ x = 1) : Tr l G B jy_S_clear jb_S_clear 4 (some .int) 1 0 0 [.ref (B + o), .int x] es (pI fun v es' => v = -1 ∧ es' = es) := by
  have ho := h.1
  refine Tr.of (ls := [some (.ref (B + o)), some (.int x), none, none]) (by decide +kernel) (Nat.le_of_ble_eq_true rfl) rfl ?_
  intro zp ze zs zm zb zt zc E
  refine z_aload_n (pc := 0) E jd_S_clear_0 rfl rfl ?_
  refine z_iload_n (pc := 1) E jd_S_clear_1 rfl rfl ?_
  refine z_cV1R (pc := 2) E (c_S_bufferOf l G B h) jc_S_40 jv_S_bufferOf rfl (by assumption) ⟨by decide, by decide⟩ jd_S_clear_2 (Nat.le_of_ble_eq_true rfl) (by decide) (by decide) (fun v2 es2 h2 => ?_)
  obtain ⟨w2, e2⟩ := h2
  rw [e2, w2, if_neg h0, if_neg h1]
  refine z_astore_nN (pc := 5) E jd_S_clear_5 rfl (by decide) rfl ?_
  dsimp only [List.set]
  refine z_aload_nN (pc := 6) E jd_S_clear_6 rfl rfl ?_
  refine z_ifnonnullN (pc := 7) E jd_S_clear_7 ?_
  refine z_iconst (v := -1) (pc := 10) E jd_S_clear_10 (by decide) ?_
  exact z_iret E jd_S_clear_11 ⟨_, rfl, rfl, rfl⟩
