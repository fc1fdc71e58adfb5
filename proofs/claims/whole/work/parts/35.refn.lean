/-! the reference: refused calls; its constructor -/
set_option maxHeartbeats 4000000 in
set_option maxRecDepth 100000 in
theorem c_M_face_none (l : Launch) (G : zG) (B : Nat) {es : zE} {r : Nat} {nm sh : List Nat} {R : Nat → DT} {x : Int32} (h : rA G B es r nm sh R) (hc : cnum R x = none) : Tr l G B jy_M_face jb_M_face 3 (some .int) 2 0 0 [.ref (B + r), .int x] es (pI fun v es' => v = -1 ∧ es' = es) := by
  obtain ⟨S, z, a, e, h0, t0, t1, hC⟩ := h
  have m0 := h0.1
  have hcn : cnuM S x = none := by rw [cnuM_eq hC, hc]
  refine Tr.of (ls := [some (.ref (B + r)), some (.int x), none]) (by decide +kernel) (Nat.le_of_ble_eq_true rfl) rfl ?_
  intro zp ze zs zm zb zt zc E
  refine z_aload_n (pc := 0) E jd_M_face_0 rfl rfl ?_
  refine z_iload_n (pc := 1) E jd_M_face_1 rfl rfl ?_
  refine z_cV1I (pc := 2) E (c_M_none l G B h0) jc_M_78 jv_M_none rfl (by assumption) ⟨Nat.le_of_ble_eq_true rfl, Nat.le_of_ble_eq_true rfl⟩ jd_M_face_2 (Nat.le_of_ble_eq_true rfl) (by decide) (by decide) (fun v2 es2 h2 => ?_)
  obtain ⟨w2, e2⟩ := h2
  rw [e2, w2, if_pos hcn]
  refine z_if_eq (pc := 5) (tgt := 10) E jd_M_face_5 (by decide) (fun c5 => ?_) (fun c5 => ?_)
  · exact absurd c5 (by decide)
  · refine z_iconst (v := -1) (pc := 8) E jd_M_face_8 (by decide) ?_
    exact z_iret E jd_M_face_9 ⟨_, rfl, rfl, rfl⟩
set_option maxHeartbeats 4000000 in
set_option maxRecDepth 100000 in
theorem c_M_member_none (l : Launch) (G : zG) (B : Nat) {es : zE} {r : Nat} {nm sh : List Nat} {R : Nat → DT} {x : Int32} {k m : Int32} (h : rA G B es r nm sh R) (hc : cnum R x = none) : Tr l G B jy_M_member jb_M_member 5 (some .int) 3 0 0 [.ref (B + r), .int x, .int k, .int m] es (pI fun v es' => v = -1 ∧ es' = es) := by
  obtain ⟨S, z, a, e, h0, t0, t1, hC⟩ := h
  have m0 := h0.1
  have hcn : cnuM S x = none := by rw [cnuM_eq hC, hc]
  refine Tr.of (ls := [some (.ref (B + r)), some (.int x), some (.int k), some (.int m), none]) (by decide +kernel) (Nat.le_of_ble_eq_true rfl) rfl ?_
  intro zp ze zs zm zb zt zc E
  refine z_aload_n (pc := 0) E jd_M_member_0 rfl rfl ?_
  refine z_iload_n (pc := 1) E jd_M_member_1 rfl rfl ?_
  refine z_cV1I (pc := 2) E (c_M_none l G B h0) jc_M_78 jv_M_none rfl (by assumption) ⟨Nat.le_of_ble_eq_true rfl, Nat.le_of_ble_eq_true rfl⟩ jd_M_member_2 (Nat.le_of_ble_eq_true rfl) (by decide) (by decide) (fun v2 es2 h2 => ?_)
  obtain ⟨w2, e2⟩ := h2
  rw [e2, w2, if_pos hcn]
  refine z_if_ne (pc := 5) (tgt := 17) E jd_M_member_5 (by decide) (fun c5 => ?_) (fun c5 => ?_)
  · refine z_iconst (v := -1) (pc := 17) E jd_M_member_17 (by decide) ?_
    exact z_iret E jd_M_member_18 ⟨_, rfl, rfl, rfl⟩
  · exact absurd c5 (by decide)
set_option maxHeartbeats 4000000 in
set_option maxRecDepth 100000 in
theorem c_M_remove_none (l : Launch) (G : zG) (B : Nat) {es : zE} {r : Nat} {nm sh : List Nat} {R : Nat → DT} {x : Int32} {k : Int32} (h : rA G B es r nm sh R) (hc : cnum R x = none) : Tr l G B jy_M_remove jb_M_remove 5 (some .int) 3 0 0 [.ref (B + r), .int x, .int k] es (pI fun v es' => v = -1 ∧ es' = es) := by
  obtain ⟨S, z, a, e, h0, t0, t1, hC⟩ := h
  have m0 := h0.1
  have hcn : cnuM S x = none := by rw [cnuM_eq hC, hc]
  refine Tr.of (ls := [some (.ref (B + r)), some (.int x), some (.int k), none, none]) (by decide +kernel) (Nat.le_of_ble_eq_true rfl) rfl ?_
  intro zp ze zs zm zb zt zc E
  refine z_aload_n (pc := 0) E jd_M_remove_0 rfl rfl ?_
  refine z_iload_n (pc := 1) E jd_M_remove_1 rfl rfl ?_
  refine z_cV1I (pc := 2) E (c_M_none l G B h0) jc_M_78 jv_M_none rfl (by assumption) ⟨Nat.le_of_ble_eq_true rfl, Nat.le_of_ble_eq_true rfl⟩ jd_M_remove_2 (Nat.le_of_ble_eq_true rfl) (by decide) (by decide) (fun v2 es2 h2 => ?_)
  obtain ⟨w2, e2⟩ := h2
  rw [e2, w2, if_pos hcn]
  refine z_if_ne (pc := 5) (tgt := 17) E jd_M_remove_5 (by decide) (fun c5 => ?_) (fun c5 => ?_)
  · refine z_iconst (v := -1) (pc := 17) E jd_M_remove_17 (by decide) ?_
    exact z_iret E jd_M_remove_18 ⟨_, rfl, rfl, rfl⟩
  · exact absurd c5 (by decide)
set_option maxHeartbeats 4000000 in
set_option maxRecDepth 100000 in
theorem c_M_declare_none (l : Launch) (G : zG) (B : Nat) {es : zE} {r : Nat} {nm sh : List Nat} {R : Nat → DT} {x : Int32} {b : Int32} {y : Int64} (h : rA G B es r nm sh R) (hc : cnum R x = none) : Tr l G B jy_M_declare jb_M_declare 5 (some .int) 2 0 0 [.ref (B + r), .int x, .int b, .long y] es (pI fun v es' => v = -1 ∧ es' = es) := by
  obtain ⟨S, z, a, e, h0, t0, t1, hC⟩ := h
  have m0 := h0.1
  have hcn : cnuM S x = none := by rw [cnuM_eq hC, hc]
  refine Tr.of (ls := [some (.ref (B + r)), some (.int x), some (.int b), some (.long y), none]) (by decide +kernel) (Nat.le_of_ble_eq_true rfl) rfl ?_
  intro zp ze zs zm zb zt zc E
  refine z_aload_n (pc := 0) E jd_M_declare_0 rfl rfl ?_
  refine z_iload_n (pc := 1) E jd_M_declare_1 rfl rfl ?_
  refine z_cV1I (pc := 2) E (c_M_none l G B h0) jc_M_78 jv_M_none rfl (by assumption) ⟨Nat.le_of_ble_eq_true rfl, Nat.le_of_ble_eq_true rfl⟩ jd_M_declare_2 (Nat.le_of_ble_eq_true rfl) (by decide) (by decide) (fun v2 es2 h2 => ?_)
  obtain ⟨w2, e2⟩ := h2
  rw [e2, w2, if_pos hcn]
  refine z_if_eq (pc := 5) (tgt := 10) E jd_M_declare_5 (by decide) (fun c5 => ?_) (fun c5 => ?_)
  · exact absurd c5 (by decide)
  · refine z_iconst (v := -1) (pc := 8) E jd_M_declare_8 (by decide) ?_
    exact z_iret E jd_M_declare_9 ⟨_, rfl, rfl, rfl⟩
set_option maxHeartbeats 4000000 in
set_option maxRecDepth 100000 in
theorem c_M_size_none (l : Launch) (G : zG) (B : Nat) {es : zE} {r : Nat} {nm sh : List Nat} {R : Nat → DT} {x : Int32} (h : rA G B es r nm sh R) (hc : cnum R x = none) : Tr l G B jy_M_size jb_M_size 2 (some .int) 5 0 0 [.ref (B + r), .int x] es (pI fun v es' => v = -1 ∧ es' = es) := by
  obtain ⟨S, z, a, e, h0, t0, t1, hC⟩ := h
  have m0 := h0.1
  have hcn : cnuM S x = none := by rw [cnuM_eq hC, hc]
  refine Tr.of (ls := [some (.ref (B + r)), some (.int x)]) (by decide +kernel) (Nat.le_of_ble_eq_true rfl) rfl ?_
  intro zp ze zs zm zb zt zc E
  refine z_aload_n (pc := 0) E jd_M_size_0 rfl rfl ?_
  refine z_iload_n (pc := 1) E jd_M_size_1 rfl rfl ?_
  refine z_cV1I (pc := 2) E (c_M_none l G B h0) jc_M_78 jv_M_none rfl (by assumption) ⟨Nat.le_of_ble_eq_true rfl, Nat.le_of_ble_eq_true rfl⟩ jd_M_size_2 (Nat.le_of_ble_eq_true rfl) (by decide) (by decide) (fun v2 es2 h2 => ?_)
  obtain ⟨w2, e2⟩ := h2
  rw [e2, w2, if_pos hcn]
  refine z_if_eq (pc := 5) (tgt := 10) E jd_M_size_5 (by decide) (fun c5 => ?_) (fun c5 => ?_)
  · exact absurd c5 (by decide)
  · refine z_iconst (v := -1) (pc := 8) E jd_M_size_8 (by decide) ?_
    exact z_iret E jd_M_size_9 ⟨_, rfl, rfl, rfl⟩
set_option maxHeartbeats 4000000 in
set_option maxRecDepth 100000 in
theorem c_M_byteAt_none (l : Launch) (G : zG) (B : Nat) {es : zE} {r : Nat} {nm sh : List Nat} {R : Nat → DT} {x : Int32} {k : Int32} (h : rA G B es r nm sh R) (hc : cnum R x = none) : Tr l G B jy_M_byteAt jb_M_byteAt 3 (some .int) 5 0 0 [.ref (B + r), .int x, .int k] es (pI fun v es' => v = -1 ∧ es' = es) := by
  obtain ⟨S, z, a, e, h0, t0, t1, hC⟩ := h
  have m0 := h0.1
  have hcn : cnuM S x = none := by rw [cnuM_eq hC, hc]
  refine Tr.of (ls := [some (.ref (B + r)), some (.int x), some (.int k)]) (by decide +kernel) (Nat.le_of_ble_eq_true rfl) rfl ?_
  intro zp ze zs zm zb zt zc E
  refine z_aload_n (pc := 0) E jd_M_byteAt_0 rfl rfl ?_
  refine z_iload_n (pc := 1) E jd_M_byteAt_1 rfl rfl ?_
  refine z_cV1I (pc := 2) E (c_M_none l G B h0) jc_M_78 jv_M_none rfl (by assumption) ⟨Nat.le_of_ble_eq_true rfl, Nat.le_of_ble_eq_true rfl⟩ jd_M_byteAt_2 (Nat.le_of_ble_eq_true rfl) (by decide) (by decide) (fun v2 es2 h2 => ?_)
  obtain ⟨w2, e2⟩ := h2
  rw [e2, w2, if_pos hcn]
  refine z_if_eq (pc := 5) (tgt := 10) E jd_M_byteAt_5 (by decide) (fun c5 => ?_) (fun c5 => ?_)
  · exact absurd c5 (by decide)
  · refine z_iconst (v := -1) (pc := 8) E jd_M_byteAt_8 (by decide) ?_
    exact z_iret E jd_M_byteAt_9 ⟨_, rfl, rfl, rfl⟩
set_option maxHeartbeats 4000000 in
set_option maxRecDepth 100000 in
theorem c_M_part_none (l : Launch) (G : zG) (B : Nat) {es : zE} {r : Nat} {nm sh : List Nat} {R : Nat → DT} {x : Int32} {k : Int32} (h : rA G B es r nm sh R) (hc : cnum R x = none) : Tr l G B jy_M_part jb_M_part 3 (some .int) 5 0 0 [.ref (B + r), .int x, .int k] es (pI fun v es' => v = -1 ∧ es' = es) := by
  obtain ⟨S, z, a, e, h0, t0, t1, hC⟩ := h
  have m0 := h0.1
  have hcn : cnuM S x = none := by rw [cnuM_eq hC, hc]
  refine Tr.of (ls := [some (.ref (B + r)), some (.int x), some (.int k)]) (by decide +kernel) (Nat.le_of_ble_eq_true rfl) rfl ?_
  intro zp ze zs zm zb zt zc E
  refine z_aload_n (pc := 0) E jd_M_part_0 rfl rfl ?_
  refine z_iload_n (pc := 1) E jd_M_part_1 rfl rfl ?_
  refine z_cV1I (pc := 2) E (c_M_none l G B h0) jc_M_78 jv_M_none rfl (by assumption) ⟨Nat.le_of_ble_eq_true rfl, Nat.le_of_ble_eq_true rfl⟩ jd_M_part_2 (Nat.le_of_ble_eq_true rfl) (by decide) (by decide) (fun v2 es2 h2 => ?_)
  obtain ⟨w2, e2⟩ := h2
  rw [e2, w2, if_pos hcn]
  refine z_if_ne (pc := 5) (tgt := 18) E jd_M_part_5 (by decide) (fun c5 => ?_) (fun c5 => ?_)
  · refine z_iconst (v := -1) (pc := 18) E jd_M_part_18 (by decide) ?_
    exact z_iret E jd_M_part_19 ⟨_, rfl, rfl, rfl⟩
  · exact absurd c5 (by decide)
set_option maxHeartbeats 4000000 in
set_option maxRecDepth 100000 in
theorem c_M_count_none (l : Launch) (G : zG) (B : Nat) {es : zE} {r : Nat} {nm sh : List Nat} {R : Nat → DT} {x : Int32} {k : Int32} (h : rA G B es r nm sh R) (hc : cnum R x = none) : Tr l G B jy_M_count jb_M_count 3 (some .int) 2 0 0 [.ref (B + r), .int x, .int k] es (pI fun v es' => v = -1 ∧ es' = es) := by
  obtain ⟨S, z, a, e, h0, t0, t1, hC⟩ := h
  have m0 := h0.1
  have hcn : cnuM S x = none := by rw [cnuM_eq hC, hc]
  refine Tr.of (ls := [some (.ref (B + r)), some (.int x), some (.int k)]) (by decide +kernel) (Nat.le_of_ble_eq_true rfl) rfl ?_
  intro zp ze zs zm zb zt zc E
  refine z_aload_n (pc := 0) E jd_M_count_0 rfl rfl ?_
  refine z_iload_n (pc := 1) E jd_M_count_1 rfl rfl ?_
  refine z_cV1I (pc := 2) E (c_M_none l G B h0) jc_M_78 jv_M_none rfl (by assumption) ⟨Nat.le_of_ble_eq_true rfl, Nat.le_of_ble_eq_true rfl⟩ jd_M_count_2 (Nat.le_of_ble_eq_true rfl) (by decide) (by decide) (fun v2 es2 h2 => ?_)
  obtain ⟨w2, e2⟩ := h2
  rw [e2, w2, if_pos hcn]
  refine z_if_ne (pc := 5) (tgt := 18) E jd_M_count_5 (by decide) (fun c5 => ?_) (fun c5 => ?_)
  · refine z_iconst (v := -1) (pc := 18) E jd_M_count_18 (by decide) ?_
    exact z_iret E jd_M_count_19 ⟨_, rfl, rfl, rfl⟩
  · exact absurd c5 (by decide)
set_option maxHeartbeats 4000000 in
set_option maxRecDepth 100000 in
theorem c_M_id_none (l : Launch) (G : zG) (B : Nat) {es : zE} {r : Nat} {nm sh : List Nat} {R : Nat → DT} {x : Int32} (h : rA G B es r nm sh R) (hc : cnum R x = none) : Tr l G B jy_M_id jb_M_id 5 (some .long) 6 0 0 [.ref (B + r), .int x] es (pL fun v es' => v = -9000000000000000001 ∧ es' = es) := by
  obtain ⟨S, z, a, e, h0, t0, t1, hC⟩ := h
  have m0 := h0.1
  have hcn : cnuM S x = none := by rw [cnuM_eq hC, hc]
  refine Tr.of (ls := [some (.ref (B + r)), some (.int x), none, none, none]) (by decide +kernel) (Nat.le_of_ble_eq_true rfl) rfl ?_
  intro zp ze zs zm zb zt zc E
  refine z_aload_n (pc := 0) E jd_M_id_0 rfl rfl ?_
  refine z_iload_n (pc := 1) E jd_M_id_1 rfl rfl ?_
  refine z_cV1I (pc := 2) E (c_M_none l G B h0) jc_M_78 jv_M_none rfl (by assumption) ⟨Nat.le_of_ble_eq_true rfl, Nat.le_of_ble_eq_true rfl⟩ jd_M_id_2 (Nat.le_of_ble_eq_true rfl) (by decide) (by decide) (fun v2 es2 h2 => ?_)
  obtain ⟨w2, e2⟩ := h2
  rw [e2, w2, if_pos hcn]
  refine z_if_eq (pc := 5) (tgt := 12) E jd_M_id_5 (by decide) (fun c5 => ?_) (fun c5 => ?_)
  · exact absurd c5 (by decide)
  · refine z_ldc2 (pc := 8) E jw_600 jd_M_id_8 ?_
    exact z_lret E jd_M_id_11 ⟨_, rfl, rfl, rfl⟩
set_option maxHeartbeats 4000000 in
set_option maxRecDepth 100000 in
theorem c_M_hash_none (l : Launch) (G : zG) (B : Nat) {es : zE} {r : Nat} {nm sh : List Nat} {R : Nat → DT} {x : Int32} {k : Int32} (h : rA G B es r nm sh R) (hc : cnum R x = none) : Tr l G B jy_M_hash jb_M_hash 3 (some .long) 6 0 0 [.ref (B + r), .int x, .int k] es (pL fun v es' => v = -9000000000000000001 ∧ es' = es) := by
  obtain ⟨S, z, a, e, h0, t0, t1, hC⟩ := h
  have m0 := h0.1
  have hcn : cnuM S x = none := by rw [cnuM_eq hC, hc]
  refine Tr.of (ls := [some (.ref (B + r)), some (.int x), some (.int k)]) (by decide +kernel) (Nat.le_of_ble_eq_true rfl) rfl ?_
  intro zp ze zs zm zb zt zc E
  refine z_aload_n (pc := 0) E jd_M_hash_0 rfl rfl ?_
  refine z_iload_n (pc := 1) E jd_M_hash_1 rfl rfl ?_
  refine z_cV1I (pc := 2) E (c_M_none l G B h0) jc_M_78 jv_M_none rfl (by assumption) ⟨Nat.le_of_ble_eq_true rfl, Nat.le_of_ble_eq_true rfl⟩ jd_M_hash_2 (Nat.le_of_ble_eq_true rfl) (by decide) (by decide) (fun v2 es2 h2 => ?_)
  obtain ⟨w2, e2⟩ := h2
  rw [e2, w2, if_pos hcn]
  refine z_if_ne (pc := 5) (tgt := 17) E jd_M_hash_5 (by decide) (fun c5 => ?_) (fun c5 => ?_)
  · refine z_ldc2 (pc := 17) E jw_600 jd_M_hash_17 ?_
    exact z_lret E jd_M_hash_20 ⟨_, rfl, rfl, rfl⟩
  · exact absurd c5 (by decide)
set_option maxHeartbeats 4000000 in
set_option maxRecDepth 100000 in
theorem c_M_member_bad (l : Launch) (G : zG) (B : Nat) {es : zE} {r c : Nat} {nm sh : List Nat} {R : Nat → DT} {k : Int32} {m : Int32} (h : rA G B es r nm sh R) (hc : cnum R (nI c) = some c) (hk : k < 0 ∨ 3 < k) : Tr l G B jy_M_member jb_M_member 5 (some .int) 3 0 0 [.ref (B + r), .int (nI c), .int k, .int m] es (pI fun v es' => v = -1 ∧ es' = es) := by
  obtain ⟨S, z, a, e, h0, t0, t1, hC⟩ := h
  have m0 := h0.1
  have hcn : ¬ cnuM S (nI c) = none := by rw [cnuM_eq hC, hc]; exact fun q => by cases q
  have hk4 : k < 0 ∨ 4 ≤ k := hk.elim Or.inl fun q => Or.inr (Int32.le_iff_toInt_le.mpr (by have := Int32.lt_iff_toInt_lt.mp q; have e3 : (3 : Int32).toInt = 3 := rfl; have e4 : (4 : Int32).toInt = 4 := rfl; omega))
  refine Tr.of (ls := [some (.ref (B + r)), some (.int (nI c)), some (.int k), some (.int m), none]) (by decide +kernel) (Nat.le_of_ble_eq_true rfl) rfl ?_
  intro zp ze zs zm zb zt zc E
  refine z_aload_n (pc := 0) E jd_M_member_0 rfl rfl ?_
  refine z_iload_n (pc := 1) E jd_M_member_1 rfl rfl ?_
  refine z_cV1I (pc := 2) E (c_M_none l G B h0) jc_M_78 jv_M_none rfl (by assumption) ⟨Nat.le_of_ble_eq_true rfl, Nat.le_of_ble_eq_true rfl⟩ jd_M_member_2 (Nat.le_of_ble_eq_true rfl) (by decide) (by decide) (fun v2 es2 h2 => ?_)
  obtain ⟨w2, e2⟩ := h2
  rw [e2, w2, if_neg hcn]
  refine z_if_ne (pc := 5) (tgt := 17) E jd_M_member_5 (by decide) (fun c5 => ?_) (fun c5 => ?_)
  · exact absurd rfl c5
  · refine z_aload_n (pc := 8) E jd_M_member_8 rfl rfl ?_
    refine z_iload_n (pc := 9) E jd_M_member_9 rfl rfl ?_
    refine z_iconst (v := 4) (pc := 10) E jd_M_member_10 (by decide) ?_
    refine z_cV2I (pc := 11) E (c_M_out l G B) jc_M_54 jv_M_out rfl (by assumption) ⟨Nat.le_of_ble_eq_true rfl, Nat.le_of_ble_eq_true rfl⟩ jd_M_member_11 (Nat.le_of_ble_eq_true rfl) (by decide) (by decide) (fun v11 es11 h11 => ?_)
    obtain ⟨w11, e11⟩ := h11
    rw [e11, w11, if_pos hk4]
    refine z_if_eq (pc := 14) (tgt := 19) E jd_M_member_14 (by decide) (fun c14 => ?_) (fun c14 => ?_)
    · exact absurd c14 (by decide)
    · refine z_iconst (v := -1) (pc := 17) E jd_M_member_17 (by decide) ?_
      exact z_iret E jd_M_member_18 ⟨_, rfl, rfl, rfl⟩
set_option maxHeartbeats 4000000 in
set_option maxRecDepth 100000 in
theorem c_M_remove_bad (l : Launch) (G : zG) (B : Nat) {es : zE} {r c : Nat} {nm sh : List Nat} {R : Nat → DT} {k : Int32} (h : rA G B es r nm sh R) (hc : cnum R (nI c) = some c) (hk : k < 0 ∨ 3 < k) : Tr l G B jy_M_remove jb_M_remove 5 (some .int) 3 0 0 [.ref (B + r), .int (nI c), .int k] es (pI fun v es' => v = -1 ∧ es' = es) := by
  obtain ⟨S, z, a, e, h0, t0, t1, hC⟩ := h
  have m0 := h0.1
  have hcn : ¬ cnuM S (nI c) = none := by rw [cnuM_eq hC, hc]; exact fun q => by cases q
  have hk4 : k < 0 ∨ 4 ≤ k := hk.elim Or.inl fun q => Or.inr (Int32.le_iff_toInt_le.mpr (by have := Int32.lt_iff_toInt_lt.mp q; have e3 : (3 : Int32).toInt = 3 := rfl; have e4 : (4 : Int32).toInt = 4 := rfl; omega))
  refine Tr.of (ls := [some (.ref (B + r)), some (.int (nI c)), some (.int k), none, none]) (by decide +kernel) (Nat.le_of_ble_eq_true rfl) rfl ?_
  intro zp ze zs zm zb zt zc E
  refine z_aload_n (pc := 0) E jd_M_remove_0 rfl rfl ?_
  refine z_iload_n (pc := 1) E jd_M_remove_1 rfl rfl ?_
  refine z_cV1I (pc := 2) E (c_M_none l G B h0) jc_M_78 jv_M_none rfl (by assumption) ⟨Nat.le_of_ble_eq_true rfl, Nat.le_of_ble_eq_true rfl⟩ jd_M_remove_2 (Nat.le_of_ble_eq_true rfl) (by decide) (by decide) (fun v2 es2 h2 => ?_)
  obtain ⟨w2, e2⟩ := h2
  rw [e2, w2, if_neg hcn]
  refine z_if_ne (pc := 5) (tgt := 17) E jd_M_remove_5 (by decide) (fun c5 => ?_) (fun c5 => ?_)
  · exact absurd rfl c5
  · refine z_aload_n (pc := 8) E jd_M_remove_8 rfl rfl ?_
    refine z_iload_n (pc := 9) E jd_M_remove_9 rfl rfl ?_
    refine z_iconst (v := 4) (pc := 10) E jd_M_remove_10 (by decide) ?_
    refine z_cV2I (pc := 11) E (c_M_out l G B) jc_M_54 jv_M_out rfl (by assumption) ⟨Nat.le_of_ble_eq_true rfl, Nat.le_of_ble_eq_true rfl⟩ jd_M_remove_11 (Nat.le_of_ble_eq_true rfl) (by decide) (by decide) (fun v11 es11 h11 => ?_)
    obtain ⟨w11, e11⟩ := h11
    rw [e11, w11, if_pos hk4]
    refine z_if_eq (pc := 14) (tgt := 19) E jd_M_remove_14 (by decide) (fun c14 => ?_) (fun c14 => ?_)
    · exact absurd c14 (by decide)
    · refine z_iconst (v := -1) (pc := 17) E jd_M_remove_17 (by decide) ?_
      exact z_iret E jd_M_remove_18 ⟨_, rfl, rfl, rfl⟩
def cM (G : zG) (B q : Nat) : zE := [.inr (7, [.ref (B + (q + 1)), .ref (B + (q + 2)), .ref (B + (q + 3)), .ref (B + (q + 4)), .ref (B + (q + 5)), .ref (B + (q + 6)), .ref (B + (q + 7)), .ref (B + (q + 8)), .ref (B + (q + 9)), .ref (B + (q + 10)), .ref (B + (q + 11)), .int 0, .ref (B + (q + 12)), .ref (B + (q + 13)), .ref (B + (q + 14)), .int 0, .int 0])] ++ [.inl (G.2.1 1, 2448, .inl (fun _ => 0)), .inl (G.2.1 1, 102, .inl (fun _ => 0)), .inl (G.2.1 2, 4, .inl (fun _ => 0)), .inl (G.2.1 1, 4, .inl (fun _ => 0)), .inl (G.2.1 1, 4, .inl (fun _ => 0)), .inl (G.2.1 1, 4, .inl (fun _ => 0)), .inl (G.2.1 2, 4, .inl (fun _ => 0)), .inl (G.2.1 3, 4, .inr (.inl (fun _ => 0))), .inl (G.2.1 1, 40, .inl (fun _ => 0)), .inl (G.2.1 1, 40, .inl (fun _ => 0)), .inl (G.2.1 1, 1100, .inl (fun _ => 0)), .inl (G.2.1 1, 6, .inl (fun _ => 0)), .inl (G.2.1 1, 5, .inl (fun _ => 0)), .inl (G.2.1 1, 80, .inl (fun _ => 0))]
set_option maxHeartbeats 4000000 in
set_option maxRecDepth 100000 in
theorem c_M_init (l : Launch) (G : zG) (B : Nat) {es0 : zE} {q : Nat} (hq : es0.length = q) : Tr l G B jy_M_init jb_M_init 1 none 1 14 3845 [.ref (B + q)] (es0 ++ [.inr (7, [.null, .null, .null, .null, .null, .null, .null, .null, .null, .null, .null, .int 0, .null, .null, .null, .int 0, .int 0])]) (pV fun es' => es' = es0 ++ cM G B q) := by
  refine Tr.of (ls := [some (.ref (B + q))]) (by decide +kernel) (Nat.le_of_ble_eq_true rfl) rfl ?_
  intro zp ze zs zm zb zt zc E
  refine z_aload_n (pc := 0) E jd_M_init_0 rfl rfl ?_
  refine z_objInit (pc := 1) E ⟨jw_480, jw_22, jw_23⟩ jd_M_init_1 (Nat.le_of_ble_eq_true rfl) (Nat.le_of_ble_eq_true rfl) ?_
  refine z_aload_n (pc := 4) E jd_M_init_4 rfl rfl ?_
  refine z_sipush (v := 2448) (pc := 5) E jd_M_init_5 (by decide) ?_
  refine z_newa (atype := .int) (ty := .int) (ti := 1) (N := 2448) (a0 := (2448, .inl (fun _ => 0))) (pc := 8) E rfl (fun C h => by cases h) jw_62 rfl jd_M_init_8 (fun cA => rfl) (by decide) rfl (by decide) (by decide) (by decide) ?_
  rw [len_end hq]
  refine z_putF (pc := 10) E jp_M_7 rfl jd_M_init_10 (at_mid hq) (Nat.le_of_ble_eq_true rfl) rfl rfl (fun es10 he10 => ?_)
  dsimp only [List.set] at he10
  rw [set_mid hq] at he10
  have hl1 : es10.length = q + 2 := by rw [he10, len_mid hq]; rfl
  refine z_aload_n (pc := 13) E jd_M_init_13 rfl rfl ?_
  refine z_bipush (v := 102) (pc := 14) E jd_M_init_14 (by decide) ?_
  refine z_newa (atype := .int) (ty := .int) (ti := 1) (N := 102) (a0 := (102, .inl (fun _ => 0))) (pc := 16) E rfl (fun C h => by cases h) jw_62 rfl jd_M_init_16 (fun cA => rfl) (by decide) rfl (by decide) (by decide) (by decide) ?_
  rw [hl1]
  refine z_putF (pc := 18) E jp_M_13 rfl jd_M_init_18 (by rw [he10, List.append_assoc]; exact at_mid hq) (Nat.le_of_ble_eq_true rfl) rfl rfl (fun es18 he18 => ?_)
  dsimp only [List.set] at he18
  rw [he10, List.append_assoc, set_mid hq] at he18
  have hl2 : es18.length = q + 3 := by rw [he18, len_mid hq]; rfl
  refine z_aload_n (pc := 21) E jd_M_init_21 rfl rfl ?_
  refine z_iconst (v := 4) (pc := 22) E jd_M_init_22 (by decide) ?_
  refine z_newa (atype := .boolean) (ty := .boolean) (ti := 2) (N := 4) (a0 := (4, .inl (fun _ => 0))) (pc := 23) E rfl (fun C h => by cases h) jw_533 rfl jd_M_init_23 (fun cA => rfl) (by decide) rfl (by decide) (by decide) (by decide) ?_
  rw [hl2]
  refine z_putF (pc := 25) E jp_M_16 rfl jd_M_init_25 (by rw [he18, List.append_assoc]; exact at_mid hq) (Nat.le_of_ble_eq_true rfl) rfl rfl (fun es25 he25 => ?_)
  dsimp only [List.set] at he25
  rw [he18, List.append_assoc, set_mid hq] at he25
  have hl3 : es25.length = q + 4 := by rw [he25, len_mid hq]; rfl
  refine z_aload_n (pc := 28) E jd_M_init_28 rfl rfl ?_
  refine z_iconst (v := 4) (pc := 29) E jd_M_init_29 (by decide) ?_
  refine z_newa (atype := .int) (ty := .int) (ti := 1) (N := 4) (a0 := (4, .inl (fun _ => 0))) (pc := 30) E rfl (fun C h => by cases h) jw_62 rfl jd_M_init_30 (fun cA => rfl) (by decide) rfl (by decide) (by decide) (by decide) ?_
  rw [hl3]
  refine z_putF (pc := 32) E jp_M_20 rfl jd_M_init_32 (by rw [he25, List.append_assoc]; exact at_mid hq) (Nat.le_of_ble_eq_true rfl) rfl rfl (fun es32 he32 => ?_)
  dsimp only [List.set] at he32
  rw [he25, List.append_assoc, set_mid hq] at he32
  have hl4 : es32.length = q + 5 := by rw [he32, len_mid hq]; rfl
  refine z_aload_n (pc := 35) E jd_M_init_35 rfl rfl ?_
  refine z_iconst (v := 4) (pc := 36) E jd_M_init_36 (by decide) ?_
  refine z_newa (atype := .int) (ty := .int) (ti := 1) (N := 4) (a0 := (4, .inl (fun _ => 0))) (pc := 37) E rfl (fun C h => by cases h) jw_62 rfl jd_M_init_37 (fun cA => rfl) (by decide) rfl (by decide) (by decide) (by decide) ?_
  rw [hl4]
  refine z_putF (pc := 39) E jp_M_23 rfl jd_M_init_39 (by rw [he32, List.append_assoc]; exact at_mid hq) (Nat.le_of_ble_eq_true rfl) rfl rfl (fun es39 he39 => ?_)
  dsimp only [List.set] at he39
  rw [he32, List.append_assoc, set_mid hq] at he39
  have hl5 : es39.length = q + 6 := by rw [he39, len_mid hq]; rfl
  refine z_aload_n (pc := 42) E jd_M_init_42 rfl rfl ?_
  refine z_iconst (v := 4) (pc := 43) E jd_M_init_43 (by decide) ?_
  refine z_newa (atype := .int) (ty := .int) (ti := 1) (N := 4) (a0 := (4, .inl (fun _ => 0))) (pc := 44) E rfl (fun C h => by cases h) jw_62 rfl jd_M_init_44 (fun cA => rfl) (by decide) rfl (by decide) (by decide) (by decide) ?_
  rw [hl5]
  refine z_putF (pc := 46) E jp_M_26 rfl jd_M_init_46 (by rw [he39, List.append_assoc]; exact at_mid hq) (Nat.le_of_ble_eq_true rfl) rfl rfl (fun es46 he46 => ?_)
  dsimp only [List.set] at he46
  rw [he39, List.append_assoc, set_mid hq] at he46
  have hl6 : es46.length = q + 7 := by rw [he46, len_mid hq]; rfl
  refine z_aload_n (pc := 49) E jd_M_init_49 rfl rfl ?_
  refine z_iconst (v := 4) (pc := 50) E jd_M_init_50 (by decide) ?_
  refine z_newa (atype := .boolean) (ty := .boolean) (ti := 2) (N := 4) (a0 := (4, .inl (fun _ => 0))) (pc := 51) E rfl (fun C h => by cases h) jw_533 rfl jd_M_init_51 (fun cA => rfl) (by decide) rfl (by decide) (by decide) (by decide) ?_
  rw [hl6]
  refine z_putF (pc := 53) E jp_M_29 rfl jd_M_init_53 (by rw [he46, List.append_assoc]; exact at_mid hq) (Nat.le_of_ble_eq_true rfl) rfl rfl (fun es53 he53 => ?_)
  dsimp only [List.set] at he53
  rw [he46, List.append_assoc, set_mid hq] at he53
  have hl7 : es53.length = q + 8 := by rw [he53, len_mid hq]; rfl
  refine z_aload_n (pc := 56) E jd_M_init_56 rfl rfl ?_
  refine z_iconst (v := 4) (pc := 57) E jd_M_init_57 (by decide) ?_
  refine z_newa (atype := .long) (ty := .long) (ti := 3) (N := 4) (a0 := (4, .inr (.inl (fun _ => 0)))) (pc := 58) E rfl (fun C h => by cases h) jw_534 rfl jd_M_init_58 (fun cA => rfl) (by decide) rfl (by decide) (by decide) (by decide) ?_
  rw [hl7]
  refine z_putF (pc := 60) E jp_M_32 rfl jd_M_init_60 (by rw [he53, List.append_assoc]; exact at_mid hq) (Nat.le_of_ble_eq_true rfl) rfl rfl (fun es60 he60 => ?_)
  dsimp only [List.set] at he60
  rw [he53, List.append_assoc, set_mid hq] at he60
  have hl8 : es60.length = q + 9 := by rw [he60, len_mid hq]; rfl
  refine z_aload_n (pc := 63) E jd_M_init_63 rfl rfl ?_
  refine z_bipush (v := 40) (pc := 64) E jd_M_init_64 (by decide) ?_
  refine z_newa (atype := .int) (ty := .int) (ti := 1) (N := 40) (a0 := (40, .inl (fun _ => 0))) (pc := 66) E rfl (fun C h => by cases h) jw_62 rfl jd_M_init_66 (fun cA => rfl) (by decide) rfl (by decide) (by decide) (by decide) ?_
  rw [hl8]
  refine z_putF (pc := 68) E jp_M_36 rfl jd_M_init_68 (by rw [he60, List.append_assoc]; exact at_mid hq) (Nat.le_of_ble_eq_true rfl) rfl rfl (fun es68 he68 => ?_)
  dsimp only [List.set] at he68
  rw [he60, List.append_assoc, set_mid hq] at he68
  have hl9 : es68.length = q + 10 := by rw [he68, len_mid hq]; rfl
  refine z_aload_n (pc := 71) E jd_M_init_71 rfl rfl ?_
  refine z_bipush (v := 40) (pc := 72) E jd_M_init_72 (by decide) ?_
  refine z_newa (atype := .int) (ty := .int) (ti := 1) (N := 40) (a0 := (40, .inl (fun _ => 0))) (pc := 74) E rfl (fun C h => by cases h) jw_62 rfl jd_M_init_74 (fun cA => rfl) (by decide) rfl (by decide) (by decide) (by decide) ?_
  rw [hl9]
  refine z_putF (pc := 76) E jp_M_39 rfl jd_M_init_76 (by rw [he68, List.append_assoc]; exact at_mid hq) (Nat.le_of_ble_eq_true rfl) rfl rfl (fun es76 he76 => ?_)
  dsimp only [List.set] at he76
  rw [he68, List.append_assoc, set_mid hq] at he76
  have hl10 : es76.length = q + 11 := by rw [he76, len_mid hq]; rfl
  refine z_aload_n (pc := 79) E jd_M_init_79 rfl rfl ?_
  refine z_sipush (v := 1100) (pc := 80) E jd_M_init_80 (by decide) ?_
  refine z_newa (atype := .int) (ty := .int) (ti := 1) (N := 1100) (a0 := (1100, .inl (fun _ => 0))) (pc := 83) E rfl (fun C h => by cases h) jw_62 rfl jd_M_init_83 (fun cA => rfl) (by decide) rfl (by decide) (by decide) (by decide) ?_
  rw [hl10]
  refine z_putF (pc := 85) E jp_M_42 rfl jd_M_init_85 (by rw [he76, List.append_assoc]; exact at_mid hq) (Nat.le_of_ble_eq_true rfl) rfl rfl (fun es85 he85 => ?_)
  dsimp only [List.set] at he85
  rw [he76, List.append_assoc, set_mid hq] at he85
  have hl11 : es85.length = q + 12 := by rw [he85, len_mid hq]; rfl
  refine z_aload_n (pc := 88) E jd_M_init_88 rfl rfl ?_
  refine z_bipush (v := 6) (pc := 89) E jd_M_init_89 (by decide) ?_
  refine z_newa (atype := .int) (ty := .int) (ti := 1) (N := 6) (a0 := (6, .inl (fun _ => 0))) (pc := 91) E rfl (fun C h => by cases h) jw_62 rfl jd_M_init_91 (fun cA => rfl) (by decide) rfl (by decide) (by decide) (by decide) ?_
  rw [hl11]
  refine z_putF (pc := 93) E jp_M_45 rfl jd_M_init_93 (by rw [he85, List.append_assoc]; exact at_mid hq) (Nat.le_of_ble_eq_true rfl) rfl rfl (fun es93 he93 => ?_)
  dsimp only [List.set] at he93
  rw [he85, List.append_assoc, set_mid hq] at he93
  have hl12 : es93.length = q + 13 := by rw [he93, len_mid hq]; rfl
  refine z_aload_n (pc := 96) E jd_M_init_96 rfl rfl ?_
  refine z_iconst (v := 5) (pc := 97) E jd_M_init_97 (by decide) ?_
  refine z_newa (atype := .int) (ty := .int) (ti := 1) (N := 5) (a0 := (5, .inl (fun _ => 0))) (pc := 98) E rfl (fun C h => by cases h) jw_62 rfl jd_M_init_98 (fun cA => rfl) (by decide) rfl (by decide) (by decide) (by decide) ?_
  rw [hl12]
  refine z_putF (pc := 100) E jp_M_48 rfl jd_M_init_100 (by rw [he93, List.append_assoc]; exact at_mid hq) (Nat.le_of_ble_eq_true rfl) rfl rfl (fun es100 he100 => ?_)
  dsimp only [List.set] at he100
  rw [he93, List.append_assoc, set_mid hq] at he100
  have hl13 : es100.length = q + 14 := by rw [he100, len_mid hq]; rfl
  refine z_aload_n (pc := 103) E jd_M_init_103 rfl rfl ?_
  refine z_bipush (v := 80) (pc := 104) E jd_M_init_104 (by decide) ?_
  refine z_newa (atype := .int) (ty := .int) (ti := 1) (N := 80) (a0 := (80, .inl (fun _ => 0))) (pc := 106) E rfl (fun C h => by cases h) jw_62 rfl jd_M_init_106 (fun cA => rfl) (by decide) rfl (by decide) (by decide) (by decide) ?_
  rw [hl13]
  refine z_putF (pc := 108) E jp_M_51 rfl jd_M_init_108 (by rw [he100, List.append_assoc]; exact at_mid hq) (Nat.le_of_ble_eq_true rfl) rfl rfl (fun es108 he108 => ?_)
  dsimp only [List.set] at he108
  rw [he100, List.append_assoc, set_mid hq] at he108
  have hl14 : es108.length = q + 15 := by rw [he108, len_mid hq]; rfl
  exact z_vret E jd_M_init_111 ⟨rfl, by rw [he108, List.append_assoc]; rfl⟩
def S0 : MS := ((fun _ => 0), (fun _ => 0), (fun _ => 0), (fun _ => 0), (fun _ => 0), (fun _ => 0), (fun _ => 0), (fun _ => 0), (fun _ => 0), (fun _ => 0), (fun _ => 0), (fun _ => 0), (fun _ => 0), (fun _ => 0))
theorem Seg.zMO {G : zG} {B : Nat} {es : zE} {q : Nat} (h : Seg es q (cM G B q)) : mO G B es q S0 0 0 0 :=
  ⟨h 0 _ rfl, h 1 _ rfl, h 2 _ rfl, h 3 _ rfl, h 4 _ rfl, h 5 _ rfl, h 6 _ rfl, h 7 _ rfl, h 8 _ rfl, h 9 _ rfl, h 10 _ rfl, h 11 _ rfl, h 12 _ rfl, h 13 _ rfl, h 14 _ rfl⟩
theorem rt0 (t : Nat) : rt S0 t [] := ⟨rfl, by decide, fun j hj => absurd hj (Nat.not_lt_zero j), fun _ h => by cases h⟩
theorem Seg.zRA {G : zG} {B : Nat} {es : zE} {q : Nat} (h : Seg es q (cM G B q)) : rA G B es q [] [] (fun _ => d0) :=
  ⟨S0, 0, 0, 0, h.zMO, rt0 0, rt0 1, fun c _ => ⟨⟨rfl, rfl, rfl, rfl, rfl, rt0 _, Nat.zero_le _, fun k hk => absurd hk (Nat.not_lt_zero k)⟩, rfl, Nat.zero_le _, fun k hk => absurd hk (Nat.not_lt_zero k)⟩⟩
