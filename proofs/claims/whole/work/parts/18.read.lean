/-! size, byteAt, part, count, id, hash -/
def dBy (t : DT) : List Nat := by5 t.2.1 t.2.2.1 t.2.2.2.1 t.2.2.2.2.1 t.2.2.2.2.2.1 t.2.2.2.2.2.2.1
def dOf (t : DT) (k : Nat) : Nat := byo t.2.1 t.2.2.1 t.2.2.2.1 t.2.2.2.2.1 t.2.2.2.2.2.1 t.2.2.2.2.2.2.1 k
set_option maxHeartbeats 4000000 in
set_option maxRecDepth 100000 in
theorem c_S_size (l : Launch) (G : zG) (B : Nat) {es : zE} {o c : Nat} {nm sh : List Nat} {D : Nat → DT} {x : Int32} (h : sA G B es o nm sh D) (hc : cnum D x = some c) : Tr l G B jy_S_size jb_S_size 3 (some .int) 8 0 0 [.ref (B + o), .int x] es (pI fun v es' => v = nI (dBy (D c)).length ∧ sA G B es' o nm sh D ∧ Fr es es' o (o + 320)) := by
  have hs := h
  obtain ⟨h1, h2, h3, ⟨a, h4, h5⟩, ⟨bs, bg, h6⟩, ⟨nf, wf, h7⟩, h8⟩ := h
  obtain ⟨hxc, hc4, hth⟩ := cnum_some hc
  obtain ⟨wf', wm', hd⟩ := h8 c hc4
  have hd1 := hd.1
  have y1 := h6.obj
  refine Tr.of (ls := [some (.ref (B + o)), some (.int x), none]) (by decide +kernel) (Nat.le_of_ble_eq_true rfl) rfl ?_
  intro zp ze zs zm zb zt zc E
  refine z_aload_n (pc := 0) E jd_S_size_0 rfl rfl ?_
  refine z_iload_n (pc := 1) E jd_S_size_1 rfl rfl ?_
  refine z_cV1R (pc := 2) E (c_S_declarationOf l G B hs) jc_S_69 jv_S_declarationOf rfl (by assumption) ⟨by decide, by decide⟩ jd_S_size_2 (Nat.le_of_ble_eq_true rfl) (by decide) (by decide) (fun v2 es2 h2 => ?_)
  obtain ⟨w2, e2⟩ := h2
  rw [e2, w2, hc]
  dsimp only [refD]
  refine z_astore_n (pc := 5) E jd_S_size_5 rfl (by decide) rfl ?_
  dsimp only [List.set]
  refine z_aload_n (pc := 6) E jd_S_size_6 rfl rfl ?_
  refine z_ifnonnull (pc := 7) (tgt := 12) E jd_S_size_7 (by decide) ?_
  refine z_aload_n (pc := 12) E jd_S_size_12 rfl rfl ?_
  refine z_get (pc := 13) E jf_S_28 jd_S_size_13 (by assumption) (by rfl) ?_
  refine z_aload_n (pc := 16) E jd_S_size_16 rfl rfl ?_
  refine z_cV1V (pc := 17) E (c_L_write l G B h6 hd (by omega)) jc_S_113 jv_L_write rfl (by assumption) ⟨by decide, by decide⟩ jd_S_size_17 (Nat.le_of_ble_eq_true rfl) (by decide) (by decide) (fun es17 h17 => ?_)
  obtain ⟨bg', w17, x17, n17, F17⟩ := h17
  have ok := hs.lay w17 F17
  have o1 := ok.1
  have y2 := w17.obj
  refine z_aload_n (pc := 20) E jd_S_size_20 rfl rfl ?_
  refine z_get (pc := 21) E jf_S_28 jd_S_size_21 (by assumption) (by rfl) ?_
  refine z_get (pc := 24) E jf_S_129 jd_S_size_24 (by assumption) (by rfl) ?_
  exact z_iret E jd_S_size_27 ⟨_, rfl, rfl, ok, F17.wide (by omega) (by omega)⟩
set_option maxHeartbeats 4000000 in
set_option maxRecDepth 100000 in
theorem c_S_byteAt (l : Launch) (G : zG) (B : Nat) {es : zE} {o c : Nat} {nm sh : List Nat} {D : Nat → DT} {x i : Int32} (h : sA G B es o nm sh D) (hc : cnum D x = some c) : Tr l G B jy_S_byteAt jb_S_byteAt 4 (some .int) 8 0 0 [.ref (B + o), .int x, .int i] es (pI fun v es' => v = (if i < 0 ∨ nI (dBy (D c)).length ≤ i then -1 else tat (dBy (D c)) i) ∧ (dBy (D c)).length ≤ 694 ∧ sA G B es' o nm sh D ∧ Fr es es' o (o + 320)) := by
  have hs := h
  obtain ⟨h1, h2, h3, ⟨a, h4, h5⟩, ⟨bs, bg, h6⟩, ⟨nf, wf, h7⟩, h8⟩ := h
  obtain ⟨hxc, hc4, hth⟩ := cnum_some hc
  obtain ⟨wf', wm', hd⟩ := h8 c hc4
  have hd1 := hd.1
  have y1 := h6.obj
  refine Tr.of (ls := [some (.ref (B + o)), some (.int x), some (.int i), none]) (by decide +kernel) (Nat.le_of_ble_eq_true rfl) rfl ?_
  intro zp ze zs zm zb zt zc E
  refine z_aload_n (pc := 0) E jd_S_byteAt_0 rfl rfl ?_
  refine z_iload_n (pc := 1) E jd_S_byteAt_1 rfl rfl ?_
  refine z_cV1R (pc := 2) E (c_S_declarationOf l G B hs) jc_S_69 jv_S_declarationOf rfl (by assumption) ⟨by decide, by decide⟩ jd_S_byteAt_2 (Nat.le_of_ble_eq_true rfl) (by decide) (by decide) (fun v2 es2 h2 => ?_)
  obtain ⟨w2, e2⟩ := h2
  rw [e2, w2, hc]
  dsimp only [refD]
  refine z_astore_n (pc := 5) E jd_S_byteAt_5 rfl (by decide) rfl ?_
  dsimp only [List.set]
  refine z_aload_n (pc := 6) E jd_S_byteAt_6 rfl rfl ?_
  refine z_ifnonnull (pc := 7) (tgt := 12) E jd_S_byteAt_7 (by decide) ?_
  refine z_aload_n (pc := 12) E jd_S_byteAt_12 rfl rfl ?_
  refine z_get (pc := 13) E jf_S_28 jd_S_byteAt_13 (by assumption) (by rfl) ?_
  refine z_aload_n (pc := 16) E jd_S_byteAt_16 rfl rfl ?_
  refine z_cV1V (pc := 17) E (c_L_write l G B h6 hd (by omega)) jc_S_113 jv_L_write rfl (by assumption) ⟨by decide, by decide⟩ jd_S_byteAt_17 (Nat.le_of_ble_eq_true rfl) (by decide) (by decide) (fun es17 h17 => ?_)
  obtain ⟨bg', w17, x17, n17, F17⟩ := h17
  have ok := hs.lay w17 F17
  have o1 := ok.1
  have y2 := w17.obj
  refine z_iload_n (pc := 20) E jd_S_byteAt_20 rfl rfl ?_
  refine z_if_lt (pc := 21) (tgt := 46) E jd_S_byteAt_21 (by decide) (fun c21 => ?_) (fun c21 => ?_)
  · have hr : i < 0 ∨ nI (dBy (D c)).length ≤ i := Or.inl c21
    have hv : (-1 : Int32) = (if i < 0 ∨ nI (dBy (D c)).length ≤ i then -1 else tat (dBy (D c)) i) := by rw [if_pos hr]
    refine z_iconst (v := -1) (pc := 46) E jd_S_byteAt_46 (by decide) ?_
    exact z_iret E jd_S_byteAt_47 ⟨_, rfl, hv, n17, ok, F17.wide (by omega) (by omega)⟩
  · refine z_iload_n (pc := 24) E jd_S_byteAt_24 rfl rfl ?_
    refine z_aload_n (pc := 25) E jd_S_byteAt_25 rfl rfl ?_
    refine z_get (pc := 26) E jf_S_28 jd_S_byteAt_26 (by assumption) (by rfl) ?_
    refine z_get (pc := 29) E jf_S_129 jd_S_byteAt_29 (by assumption) (by rfl) ?_
    refine z_icmp_ge (pc := 32) (tgt := 46) E jd_S_byteAt_32 (by decide) (fun c32 => ?_) (fun c32 => ?_)
    · have hr : i < 0 ∨ nI (dBy (D c)).length ≤ i := Or.inr c32
      have hv : (-1 : Int32) = (if i < 0 ∨ nI (dBy (D c)).length ≤ i then -1 else tat (dBy (D c)) i) := by rw [if_pos hr]
      refine z_iconst (v := -1) (pc := 46) E jd_S_byteAt_46 (by decide) ?_
      exact z_iret E jd_S_byteAt_47 ⟨_, rfl, hv, n17, ok, F17.wide (by omega) (by omega)⟩
    · refine z_aload_n (pc := 35) E jd_S_byteAt_35 rfl rfl ?_
      refine z_get (pc := 36) E jf_S_28 jd_S_byteAt_36 (by assumption) (by rfl) ?_
      refine z_iload_n (pc := 39) E jd_S_byteAt_39 rfl rfl ?_
      refine z_cV1I (pc := 40) E (c_L_at l G B w17) jc_S_130 jv_L_at rfl (by assumption) ⟨by decide, by decide⟩ jd_S_byteAt_40 (Nat.le_of_ble_eq_true rfl) (by decide) (by decide) (fun v40 es40 h40 => ?_)
      obtain ⟨w40, e40⟩ := h40
      rw [e40, w40]
      have hv : tat (dBy (D c)) i = (if i < 0 ∨ nI (dBy (D c)).length ≤ i then -1 else tat (dBy (D c)) i) := by rw [if_neg (fun q => q.elim c21 c32)]
      refine z_goto (pc := 43) (tgt := 47) E jd_S_byteAt_43 (by decide) ?_
      exact z_iret E jd_S_byteAt_47 ⟨_, rfl, hv, n17, ok, F17.wide (by omega) (by omega)⟩
set_option maxHeartbeats 4000000 in
set_option maxRecDepth 100000 in
theorem c_S_part (l : Launch) (G : zG) (B : Nat) {es : zE} {o c : Nat} {nm sh : List Nat} {D : Nat → DT} {x i : Int32} (h : sA G B es o nm sh D) (hc : cnum D x = some c) : Tr l G B jy_S_part jb_S_part 4 (some .int) 8 0 0 [.ref (B + o), .int x, .int i] es (pI fun v es' => v = (if i < 0 ∨ 6 ≤ i then -1 else nI (dOf (D c) i.toNatClampNeg)) ∧ sA G B es' o nm sh D ∧ Fr es es' o (o + 320)) := by
  have hs := h
  obtain ⟨h1, h2, h3, ⟨a, h4, h5⟩, ⟨bs, bg, h6⟩, ⟨nf, wf, h7⟩, h8⟩ := h
  obtain ⟨hxc, hc4, hth⟩ := cnum_some hc
  obtain ⟨wf', wm', hd⟩ := h8 c hc4
  have hd1 := hd.1
  have y1 := h6.obj
  refine Tr.of (ls := [some (.ref (B + o)), some (.int x), some (.int i), none]) (by decide +kernel) (Nat.le_of_ble_eq_true rfl) rfl ?_
  intro zp ze zs zm zb zt zc E
  refine z_aload_n (pc := 0) E jd_S_part_0 rfl rfl ?_
  refine z_iload_n (pc := 1) E jd_S_part_1 rfl rfl ?_
  refine z_cV1R (pc := 2) E (c_S_declarationOf l G B hs) jc_S_69 jv_S_declarationOf rfl (by assumption) ⟨by decide, by decide⟩ jd_S_part_2 (Nat.le_of_ble_eq_true rfl) (by decide) (by decide) (fun v2 es2 h2 => ?_)
  obtain ⟨w2, e2⟩ := h2
  rw [e2, w2, hc]
  dsimp only [refD]
  refine z_astore_n (pc := 5) E jd_S_part_5 rfl (by decide) rfl ?_
  dsimp only [List.set]
  refine z_aload_n (pc := 6) E jd_S_part_6 rfl rfl ?_
  refine z_ifnull (pc := 7) E jd_S_part_7 ?_
  refine z_iload_n (pc := 10) E jd_S_part_10 rfl rfl ?_
  refine z_if_lt (pc := 11) (tgt := 20) E jd_S_part_11 (by decide) (fun c11 => ?_) (fun c11 => ?_)
  · have hr : i < 0 ∨ 6 ≤ i := Or.inl c11
    refine z_iconst (v := -1) (pc := 20) E jd_S_part_20 (by decide) ?_
    exact z_iret E jd_S_part_21 ⟨_, rfl, by rw [if_pos hr], hs, Fr.rf⟩
  · refine z_iload_n (pc := 14) E jd_S_part_14 rfl rfl ?_
    refine z_bipush (v := 6) (pc := 15) E jd_S_part_15 (by decide) ?_
    refine z_icmp_lt (pc := 17) (tgt := 22) E jd_S_part_17 (by decide) (fun c17 => ?_) (fun c17 => ?_)
    · have hr : ¬ (i < 0 ∨ 6 ≤ i) := fun q => q.elim c11 (fun q => Int32.not_le.mpr c17 q)
      obtain ⟨j, hj, rfl⟩ := nI_of c11
      have hj6 : j < 6 := clt (b := 6) c17
      refine z_aload_n (pc := 22) E jd_S_part_22 rfl rfl ?_
      refine z_get (pc := 23) E jf_S_28 jd_S_part_23 (by assumption) (by rfl) ?_
      refine z_aload_n (pc := 26) E jd_S_part_26 rfl rfl ?_
      refine z_cV1V (pc := 27) E (c_L_write l G B h6 hd (by omega)) jc_S_113 jv_L_write rfl (by assumption) ⟨by decide, by decide⟩ jd_S_part_27 (Nat.le_of_ble_eq_true rfl) (by decide) (by decide) (fun es27 h27 => ?_)
      obtain ⟨bg', w27, x27, n27, F27⟩ := h27
      have ok := hs.lay w27 F27
      have o1 := ok.1
      have y2 := w27.obj
      have y3 := w27.bg
      refine z_aload_n (pc := 30) E jd_S_part_30 rfl rfl ?_
      refine z_get (pc := 31) E jf_S_28 jd_S_part_31 (by assumption) (by rfl) ?_
      refine z_get (pc := 34) E jf_S_134 jd_S_part_34 (by assumption) (by rfl) ?_
      refine z_iload_n (pc := 37) E jd_S_part_37 rfl rfl ?_
      refine z_iald (ti := 1) (pc := 38) E rfl jd_S_part_38 (by assumption) (vp_in_nI (by omega) (by omega)) ?_
      skip
      exact z_iret E jd_S_part_39 ⟨_, rfl, by rw [if_neg hr, nI_clamp hj, x27 j hj6]; rfl, ok, F27.wide (by omega) (by omega)⟩
    · have hr : i < 0 ∨ 6 ≤ i := Or.inr (Int32.not_lt.mp c17)
      refine z_iconst (v := -1) (pc := 20) E jd_S_part_20 (by decide) ?_
      exact z_iret E jd_S_part_21 ⟨_, rfl, by rw [if_pos hr], hs, Fr.rf⟩
set_option maxHeartbeats 4000000 in
set_option maxRecDepth 100000 in
theorem c_S_hash (l : Launch) (G : zG) (B : Nat) {es : zE} {o c : Nat} {nm sh : List Nat} {D : Nat → DT} {x i : Int32} (h : sA G B es o nm sh D) (hc : cnum D x = some c) : Tr l G B jy_S_hash jb_S_hash 4 (some .long) 8 0 0 [.ref (B + o), .int x, .int i] es (pL fun v es' => v = (if i < 0 ∨ 5 ≤ i then -9000000000000000001 else (sha (dBy (D c)) i.toNatClampNeg).toInt64) ∧ sA G B es' o nm sh D ∧ Fr es es' o (o + 320)) := by
  have hs := h
  obtain ⟨h1, h2, h3, ⟨a, h4, h5⟩, ⟨bs, bg, h6⟩, ⟨nf, wf, h7⟩, h8⟩ := h
  obtain ⟨hxc, hc4, hth⟩ := cnum_some hc
  obtain ⟨wf', wm', hd⟩ := h8 c hc4
  have hd1 := hd.1
  have y1 := h6.obj
  refine Tr.of (ls := [some (.ref (B + o)), some (.int x), some (.int i), none]) (by decide +kernel) (Nat.le_of_ble_eq_true rfl) rfl ?_
  intro zp ze zs zm zb zt zc E
  refine z_aload_n (pc := 0) E jd_S_hash_0 rfl rfl ?_
  refine z_iload_n (pc := 1) E jd_S_hash_1 rfl rfl ?_
  refine z_cV1R (pc := 2) E (c_S_declarationOf l G B hs) jc_S_69 jv_S_declarationOf rfl (by assumption) ⟨by decide, by decide⟩ jd_S_hash_2 (Nat.le_of_ble_eq_true rfl) (by decide) (by decide) (fun v2 es2 h2 => ?_)
  obtain ⟨w2, e2⟩ := h2
  rw [e2, w2, hc]
  dsimp only [refD]
  refine z_astore_n (pc := 5) E jd_S_hash_5 rfl (by decide) rfl ?_
  dsimp only [List.set]
  refine z_aload_n (pc := 6) E jd_S_hash_6 rfl rfl ?_
  refine z_ifnull (pc := 7) E jd_S_hash_7 ?_
  refine z_iload_n (pc := 10) E jd_S_hash_10 rfl rfl ?_
  refine z_if_lt (pc := 11) (tgt := 19) E jd_S_hash_11 (by decide) (fun c11 => ?_) (fun c11 => ?_)
  · have hr : i < 0 ∨ 5 ≤ i := Or.inl c11
    refine z_ldc2 (pc := 19) E jw_309 jd_S_hash_19 ?_
    exact z_lret E jd_S_hash_22 ⟨_, rfl, by rw [if_pos hr], hs, Fr.rf⟩
  · refine z_iload_n (pc := 14) E jd_S_hash_14 rfl rfl ?_
    refine z_iconst (v := 5) (pc := 15) E jd_S_hash_15 (by decide) ?_
    refine z_icmp_lt (pc := 16) (tgt := 23) E jd_S_hash_16 (by decide) (fun c16 => ?_) (fun c16 => ?_)
    · have hr : ¬ (i < 0 ∨ 5 ≤ i) := fun q => q.elim c11 (fun q => Int32.not_le.mpr c16 q)
      obtain ⟨j, hj, rfl⟩ := nI_of c11
      have hj5 : j < 5 := clt (b := 5) c16
      refine z_aload_n (pc := 23) E jd_S_hash_23 rfl rfl ?_
      refine z_get (pc := 24) E jf_S_28 jd_S_hash_24 (by assumption) (by rfl) ?_
      refine z_aload_n (pc := 27) E jd_S_hash_27 rfl rfl ?_
      refine z_cV1V (pc := 28) E (c_L_write l G B h6 hd (by omega)) jc_S_113 jv_L_write rfl (by assumption) ⟨by decide, by decide⟩ jd_S_hash_28 (Nat.le_of_ble_eq_true rfl) (by decide) (by decide) (fun es28 h28 => ?_)
      obtain ⟨bg', w28, x28, n28, F28⟩ := h28
      have ok := hs.lay w28 F28
      have o1 := ok.1
      have y2 := w28.obj
      have g2 := h7.fr F28 (by omega)
      have g3 := g2.1
      refine z_aload_n (pc := 31) E jd_S_hash_31 rfl rfl ?_
      refine z_get (pc := 32) E jf_S_35 jd_S_hash_32 (by assumption) (by rfl) ?_
      refine z_aload_n (pc := 35) E jd_S_hash_35 rfl rfl ?_
      refine z_get (pc := 36) E jf_S_28 jd_S_hash_36 (by assumption) (by rfl) ?_
      refine z_cV1V (pc := 39) E (c_G_take l G B g2 w28 (by omega)) jc_S_117 jv_G_take rfl (by assumption) ⟨by decide, by decide⟩ jd_S_hash_39 (Nat.le_of_ble_eq_true rfl) (by decide) (by decide) (fun es39 h39 => ?_)
      obtain ⟨nf', wf2, w39, x39, F39⟩ := h39
      have ok2 := ok.dig w39 F39
      have o1 := ok2.1
      have g4 := w39.1
      have g5 := w39.2.1
      have FF := (F28.wide (lo' := o) (hi' := o + 320) (by omega) (by omega)).trs (F39.wide (by omega) (by omega))
      refine z_aload_n (pc := 42) E jd_S_hash_42 rfl rfl ?_
      refine z_get (pc := 43) E jf_S_35 jd_S_hash_43 (by assumption) (by rfl) ?_
      refine z_get (pc := 46) E jf_S_125 jd_S_hash_46 (by assumption) (by rfl) ?_
      refine z_iload_n (pc := 49) E jd_S_hash_49 rfl rfl ?_
      refine z_iald (ti := 1) (pc := 50) E rfl jd_S_hash_50 (by assumption) (vp_in_nI (by omega) (by omega)) ?_
      skip
      refine z_i2l (pc := 51) E jd_S_hash_51 ?_
      exact z_lret E jd_S_hash_52 ⟨_, rfl, by rw [if_neg hr, nI_clamp hj, x39 j hj5]; rfl, ok2, FF⟩
    · have hr : i < 0 ∨ 5 ≤ i := Or.inr (Int32.not_lt.mp c16)
      refine z_ldc2 (pc := 19) E jw_309 jd_S_hash_19 ?_
      exact z_lret E jd_S_hash_22 ⟨_, rfl, by rw [if_pos hr], hs, Fr.rf⟩
set_option maxHeartbeats 4000000 in
set_option maxRecDepth 100000 in
theorem c_S_id (l : Launch) (G : zG) (B : Nat) {es : zE} {o c : Nat} {nm sh : List Nat} {D : Nat → DT} {x : Int32} (h : sA G B es o nm sh D) (hc : cnum D x = some c) : Tr l G B jy_S_id jb_S_id 3 (some .long) 8 0 0 [.ref (B + o), .int x] es (pL fun v es' => v = (if ¬ (D c).2.2.1 &&& 16384 = 0 then 0 else if ¬ (D c).2.2.2.2.2.2.2.1 = 0 then (D c).2.2.2.2.2.2.2.2 else id8 (sha (dBy (D c)) 0) (sha (dBy (D c)) 1)) ∧ sA G B es' o nm sh D ∧ Fr es es' o (o + 320)) := by
  have hs := h
  obtain ⟨h1, h2, h3, ⟨a, h4, h5⟩, ⟨bs, bg, h6⟩, ⟨nf, wf, h7⟩, h8⟩ := h
  obtain ⟨hxc, hc4, hth⟩ := cnum_some hc
  obtain ⟨wf', wm', hd⟩ := h8 c hc4
  have hd1 := hd.1
  have y1 := h6.obj
  refine Tr.of (ls := [some (.ref (B + o)), some (.int x), none]) (by decide +kernel) (Nat.le_of_ble_eq_true rfl) rfl ?_
  intro zp ze zs zm zb zt zc E
  refine z_aload_n (pc := 0) E jd_S_id_0 rfl rfl ?_
  refine z_iload_n (pc := 1) E jd_S_id_1 rfl rfl ?_
  refine z_cV1R (pc := 2) E (c_S_declarationOf l G B hs) jc_S_69 jv_S_declarationOf rfl (by assumption) ⟨by decide, by decide⟩ jd_S_id_2 (Nat.le_of_ble_eq_true rfl) (by decide) (by decide) (fun v2 es2 h2 => ?_)
  obtain ⟨w2, e2⟩ := h2
  rw [e2, w2, hc]
  dsimp only [refD]
  refine z_astore_n (pc := 5) E jd_S_id_5 rfl (by decide) rfl ?_
  dsimp only [List.set]
  refine z_aload_n (pc := 6) E jd_S_id_6 rfl rfl ?_
  refine z_ifnonnull (pc := 7) (tgt := 14) E jd_S_id_7 (by decide) ?_
  refine z_aload_n (pc := 14) E jd_S_id_14 rfl rfl ?_
  refine z_get (pc := 15) E jf_S_110 jd_S_id_15 (by assumption) (by rfl) ?_
  refine z_sipush (v := 16384) (pc := 18) E jd_S_id_18 (by decide) ?_
  refine z_iand (pc := 21) E jd_S_id_21 ?_
  refine z_if_eq (pc := 22) (tgt := 27) E jd_S_id_22 (by decide) (fun c22 => ?_) (fun c22 => ?_)
  · refine z_aload_n (pc := 27) E jd_S_id_27 rfl rfl ?_
    refine z_get (pc := 28) E jf_S_100 jd_S_id_28 (by assumption) (by rfl) ?_
    refine z_if_eq (pc := 31) (tgt := 39) E jd_S_id_31 (by decide) (fun c31 => ?_) (fun c31 => ?_)
    · refine z_aload_n (pc := 39) E jd_S_id_39 rfl rfl ?_
      refine z_get (pc := 40) E jf_S_28 jd_S_id_40 (by assumption) (by rfl) ?_
      refine z_aload_n (pc := 43) E jd_S_id_43 rfl rfl ?_
      refine z_cV1V (pc := 44) E (c_L_write l G B h6 hd (by omega)) jc_S_113 jv_L_write rfl (by assumption) ⟨by decide, by decide⟩ jd_S_id_44 (Nat.le_of_ble_eq_true rfl) (by decide) (by decide) (fun es44 h44 => ?_)
      obtain ⟨bg', w44, x44, n44, F44⟩ := h44
      have ok := hs.lay w44 F44
      have o1 := ok.1
      have y2 := w44.obj
      have g2 := h7.fr F44 (by omega)
      have g3 := g2.1
      refine z_aload_n (pc := 47) E jd_S_id_47 rfl rfl ?_
      refine z_get (pc := 48) E jf_S_35 jd_S_id_48 (by assumption) (by rfl) ?_
      refine z_aload_n (pc := 51) E jd_S_id_51 rfl rfl ?_
      refine z_get (pc := 52) E jf_S_28 jd_S_id_52 (by assumption) (by rfl) ?_
      refine z_cV1V (pc := 55) E (c_G_take l G B g2 w44 (by omega)) jc_S_117 jv_G_take rfl (by assumption) ⟨by decide, by decide⟩ jd_S_id_55 (Nat.le_of_ble_eq_true rfl) (by decide) (by decide) (fun es55 h55 => ?_)
      obtain ⟨nf', wf2, w55, x55, F55⟩ := h55
      have ok2 := ok.dig w55 F55
      have o1 := ok2.1
      have g4 := w55.1
      have FF := (F44.wide (lo' := o) (hi' := o + 320) (by omega) (by omega)).trs (F55.wide (by omega) (by omega))
      refine z_aload_n (pc := 58) E jd_S_id_58 rfl rfl ?_
      refine z_get (pc := 59) E jf_S_35 jd_S_id_59 (by assumption) (by rfl) ?_
      refine z_cV0L (pc := 62) E (c_G_firstEightReversed l G B w55) jc_S_121 jv_G_firstEightReversed rfl (by assumption) ⟨by decide, by decide⟩ jd_S_id_62 (Nat.le_of_ble_eq_true rfl) (by decide) (by decide) (fun v62 es62 h62 => ?_)
      obtain ⟨w62, e62⟩ := h62
      rw [e62, w62, x55 0 (by omega), x55 1 (by omega)]
      exact z_lret E jd_S_id_65 ⟨_, rfl, by rw [if_neg (fun q => q c22), if_neg (fun q => q c31)]; rfl, ok2, FF⟩
    · refine z_aload_n (pc := 34) E jd_S_id_34 rfl rfl ?_
      refine z_get (pc := 35) E jf_S_104 jd_S_id_35 (by assumption) (by rfl) ?_
      exact z_lret E jd_S_id_38 ⟨_, rfl, by rw [if_neg (fun q => q c22), if_pos c31], hs, Fr.rf⟩
  · refine z_lconst (v := 0) (pc := 25) E jd_S_id_25 (by decide) ?_
    exact z_lret E jd_S_id_26 ⟨_, rfl, by rw [if_pos c22], hs, Fr.rf⟩
/-- what count answers -/
def cntV (t : DT) (i : Nat) : Int32 := if i = 0 then nI t.2.2.2.2.1 else if i = 1 then nI t.2.2.2.2.2.2.1 else if i = 2 then nI (tal t.2.2.2.2.2.1 0 t.2.2.2.2.2.2.1) else if i = 3 then nI (tal t.2.2.2.2.2.1 1 t.2.2.2.2.2.2.1) else if i = 4 then nI (tal t.2.2.2.2.2.1 2 t.2.2.2.2.2.2.1) else if i = 5 then nI (tal t.2.2.2.2.2.1 3 t.2.2.2.2.2.2.1) else if i = 6 then t.2.2.1 else if t.2.2.2.2.2.2.2.1 = 0 then 0 else 1
set_option maxHeartbeats 4000000 in
set_option maxRecDepth 100000 in
theorem c_S_count (l : Launch) (G : zG) (B : Nat) {es : zE} {o c : Nat} {nm sh : List Nat} {D : Nat → DT} {x i : Int32} (h : sA G B es o nm sh D) (hc : cnum D x = some c) : Tr l G B jy_S_count jb_S_count 4 (some .int) 1 0 0 [.ref (B + o), .int x, .int i] es (pI fun v es' => v = (if i < 0 ∨ 8 ≤ i then -1 else cntV (D c) i.toNatClampNeg) ∧ es' = es) := by
  have hs := h
  obtain ⟨h1, h2, h3, ⟨a, h4, h5⟩, ⟨bs, bg, h6⟩, ⟨nf, wf, h7⟩, h8⟩ := h
  obtain ⟨hxc, hc4, hth⟩ := cnum_some hc
  obtain ⟨wf', wm', hd⟩ := h8 c hc4
  have hd1 := hd.1
  have rf := hd.2.2.1.1
  have hm := hd.2.2.2
  have rm := hm.1
  refine Tr.of (ls := [some (.ref (B + o)), some (.int x), some (.int i), none]) (by decide +kernel) (Nat.le_of_ble_eq_true rfl) rfl ?_
  intro zp ze zs zm zb zt zc E
  refine z_aload_n (pc := 0) E jd_S_count_0 rfl rfl ?_
  refine z_iload_n (pc := 1) E jd_S_count_1 rfl rfl ?_
  refine z_cV1R (pc := 2) E (c_S_declarationOf l G B hs) jc_S_69 jv_S_declarationOf rfl (by assumption) ⟨by decide, by decide⟩ jd_S_count_2 (Nat.le_of_ble_eq_true rfl) (by decide) (by decide) (fun v2 es2 h2 => ?_)
  obtain ⟨w2, e2⟩ := h2
  rw [e2, w2, hc]
  dsimp only [refD]
  refine z_astore_n (pc := 5) E jd_S_count_5 rfl (by decide) rfl ?_
  dsimp only [List.set]
  refine z_aload_n (pc := 6) E jd_S_count_6 rfl rfl ?_
  refine z_ifnonnull (pc := 7) (tgt := 12) E jd_S_count_7 (by decide) ?_
  refine z_iload_n (pc := 12) E jd_S_count_12 rfl rfl ?_
  by_cases hi : i < 0 ∨ 8 ≤ i
  · rw [if_pos hi]
    refine z_tableOut (pc := 13) (tgt := 130) E jd_S_count_13 (hi.elim (fun q => Or.inl (Int32.lt_iff_toInt_lt.mp q)) (fun q => Or.inr (by have := Int32.le_iff_toInt_le.mp q; have e : (8 : Int32).toInt = 8 := rfl; omega))) (by decide) ?_
    refine z_iconst (v := -1) (pc := 130) E jd_S_count_130 (by decide) ?_
    exact z_iret E jd_S_count_131 ⟨_, rfl, rfl, rfl⟩
  · rw [if_neg hi]
    obtain ⟨j, hj, rfl⟩ := nI_of (fun q => hi (Or.inl q))
    have hj8 : j < 8 := Nat.lt_of_not_le fun q => hi (Or.inr (nI_le (a := 8) q hj))
    rw [nI_clamp hj]
    rcases (show j = 0 ∨ j = 1 ∨ j = 2 ∨ j = 3 ∨ j = 4 ∨ j = 5 ∨ j = 6 ∨ j = 7 by omega) with rfl | rfl | rfl | rfl | rfl | rfl | rfl | rfl
    · refine z_tableIn (pc := 13) (tgt := 60) (off := 47) E jd_S_count_13 (by decide) (by decide) (by decide) (by decide) ?_
      refine z_aload_n (pc := 60) E jd_S_count_60 rfl rfl ?_
      refine z_get (pc := 61) E jf_S_73 jd_S_count_61 (by assumption) (by rfl) ?_
      refine z_get (pc := 64) E jf_S_137 jd_S_count_64 (by assumption) (by rfl) ?_
      exact z_iret E jd_S_count_67 ⟨_, rfl, rfl, rfl⟩
    · refine z_tableIn (pc := 13) (tgt := 68) (off := 55) E jd_S_count_13 (by decide) (by decide) (by decide) (by decide) ?_
      refine z_aload_n (pc := 68) E jd_S_count_68 rfl rfl ?_
      refine z_get (pc := 69) E jf_S_93 jd_S_count_69 (by assumption) (by rfl) ?_
      refine z_get (pc := 72) E jf_S_137 jd_S_count_72 (by assumption) (by rfl) ?_
      exact z_iret E jd_S_count_75 ⟨_, rfl, rfl, rfl⟩
    · refine z_tableIn (pc := 13) (tgt := 76) (off := 63) E jd_S_count_13 (by decide) (by decide) (by decide) (by decide) ?_
      refine z_aload_n (pc := 76) E jd_S_count_76 rfl rfl ?_
      refine z_get (pc := 77) E jf_S_93 jd_S_count_77 (by assumption) (by rfl) ?_
      refine z_iconst (v := 0) (pc := 80) E jd_S_count_80 (by decide) ?_
      refine z_cV1I (pc := 81) E (c_R_tally l G B (k := 0) hm (by omega)) jc_S_140 jv_R_tally rfl (by assumption) ⟨by decide, by decide⟩ jd_S_count_81 (Nat.le_of_ble_eq_true rfl) (by decide) (by decide) (fun v81 es81 h81 => ?_)
      obtain ⟨w81, e81⟩ := h81
      rw [e81, w81]
      exact z_iret E jd_S_count_84 ⟨_, rfl, rfl, rfl⟩
    · refine z_tableIn (pc := 13) (tgt := 85) (off := 72) E jd_S_count_13 (by decide) (by decide) (by decide) (by decide) ?_
      refine z_aload_n (pc := 85) E jd_S_count_85 rfl rfl ?_
      refine z_get (pc := 86) E jf_S_93 jd_S_count_86 (by assumption) (by rfl) ?_
      refine z_iconst (v := 1) (pc := 89) E jd_S_count_89 (by decide) ?_
      refine z_cV1I (pc := 90) E (c_R_tally l G B (k := 1) hm (by omega)) jc_S_140 jv_R_tally rfl (by assumption) ⟨by decide, by decide⟩ jd_S_count_90 (Nat.le_of_ble_eq_true rfl) (by decide) (by decide) (fun v90 es90 h90 => ?_)
      obtain ⟨w90, e90⟩ := h90
      rw [e90, w90]
      exact z_iret E jd_S_count_93 ⟨_, rfl, rfl, rfl⟩
    · refine z_tableIn (pc := 13) (tgt := 94) (off := 81) E jd_S_count_13 (by decide) (by decide) (by decide) (by decide) ?_
      refine z_aload_n (pc := 94) E jd_S_count_94 rfl rfl ?_
      refine z_get (pc := 95) E jf_S_93 jd_S_count_95 (by assumption) (by rfl) ?_
      refine z_iconst (v := 2) (pc := 98) E jd_S_count_98 (by decide) ?_
      refine z_cV1I (pc := 99) E (c_R_tally l G B (k := 2) hm (by omega)) jc_S_140 jv_R_tally rfl (by assumption) ⟨by decide, by decide⟩ jd_S_count_99 (Nat.le_of_ble_eq_true rfl) (by decide) (by decide) (fun v99 es99 h99 => ?_)
      obtain ⟨w99, e99⟩ := h99
      rw [e99, w99]
      exact z_iret E jd_S_count_102 ⟨_, rfl, rfl, rfl⟩
    · refine z_tableIn (pc := 13) (tgt := 103) (off := 90) E jd_S_count_13 (by decide) (by decide) (by decide) (by decide) ?_
      refine z_aload_n (pc := 103) E jd_S_count_103 rfl rfl ?_
      refine z_get (pc := 104) E jf_S_93 jd_S_count_104 (by assumption) (by rfl) ?_
      refine z_iconst (v := 3) (pc := 107) E jd_S_count_107 (by decide) ?_
      refine z_cV1I (pc := 108) E (c_R_tally l G B (k := 3) hm (by omega)) jc_S_140 jv_R_tally rfl (by assumption) ⟨by decide, by decide⟩ jd_S_count_108 (Nat.le_of_ble_eq_true rfl) (by decide) (by decide) (fun v108 es108 h108 => ?_)
      obtain ⟨w108, e108⟩ := h108
      rw [e108, w108]
      exact z_iret E jd_S_count_111 ⟨_, rfl, rfl, rfl⟩
    · refine z_tableIn (pc := 13) (tgt := 112) (off := 99) E jd_S_count_13 (by decide) (by decide) (by decide) (by decide) ?_
      refine z_aload_n (pc := 112) E jd_S_count_112 rfl rfl ?_
      refine z_get (pc := 113) E jf_S_110 jd_S_count_113 (by assumption) (by rfl) ?_
      exact z_iret E jd_S_count_116 ⟨_, rfl, rfl, rfl⟩
    · refine z_tableIn (pc := 13) (tgt := 117) (off := 104) E jd_S_count_13 (by decide) (by decide) (by decide) (by decide) ?_
      refine z_aload_n (pc := 117) E jd_S_count_117 rfl rfl ?_
      refine z_get (pc := 118) E jf_S_100 jd_S_count_118 (by assumption) (by rfl) ?_
      refine z_if_eq (pc := 121) (tgt := 128) E jd_S_count_121 (by decide) (fun c121 => ?_) (fun c121 => ?_)
      · have hr : cntV (D c) 7 = 0 := by simp [cntV, c121]
        refine z_iconst (v := 0) (pc := 128) E jd_S_count_128 (by decide) ?_
        exact z_iret E jd_S_count_129 ⟨_, rfl, hr.symm, rfl⟩
      · have hr : cntV (D c) 7 = 1 := by simp [cntV, c121]
        refine z_iconst (v := 1) (pc := 124) E jd_S_count_124 (by decide) ?_
        refine z_goto (pc := 125) (tgt := 129) E jd_S_count_125 (by decide) ?_
        exact z_iret E jd_S_count_129 ⟨_, rfl, hr.symm, rfl⟩
