/-! the reference: the order of members -/
theorem app2 (bs : List Nat) (x y : Nat) : bs ++ [x] ++ [y] = bs ++ [x, y] := by simp
set_option maxHeartbeats 4000000 in
set_option maxRecDepth 100000 in
theorem c_M_initName0 (l : Launch) (G : zG) (B : Nat) {es : zE} {r : Nat} {S : MS} {P : Nat → Int32} {a e : Int32} {bs : List Nat} (h : bO G B es r S P a e bs) (hl : bs.length + 8 ≤ 1100) : Tr l G B jy_M_initName jb_M_initName 2 none 1 0 0 [.ref (B + r), .int 0] es (pV fun es' => bO G B es' r S P a e (bs ++ ut (kx 2)) ∧ Fr es es' r (r + 15)) := by
  have m0 := h.obj
  refine Tr.of (ls := [some (.ref (B + r)), some (.int 0)]) (by decide +kernel) (Nat.le_of_ble_eq_true rfl) rfl ?_
  intro zp ze zs zm zb zt zc E
  refine z_aload_n (pc := 0) E jd_M_initName_0 rfl rfl ?_
  refine z_iconst (v := 0) (pc := 1) E jd_M_initName_1 (by decide) ?_
  refine z_cV1V (pc := 2) E (c_M_put l G B h (by omega)) jc_M_95 jv_M_put rfl (by assumption) ⟨Nat.le_of_ble_eq_true rfl, Nat.le_of_ble_eq_true rfl⟩ jd_M_initName_2 (Nat.le_of_ble_eq_true rfl) (by decide) (by decide) (fun es2 h2 => ?_)
  obtain ⟨h2, F2⟩ := h2
  have q := h2.obj
  refine z_aload_n (pc := 5) E jd_M_initName_5 rfl rfl ?_
  refine z_iload_n (pc := 6) E jd_M_initName_6 rfl rfl ?_
  refine z_if_eq (pc := 7) (tgt := 15) E jd_M_initName_7 (by decide) (fun c7 => ?_) (fun c7 => ?_)
  · refine z_bipush (v := 6) (pc := 15) E jd_M_initName_15 (by decide) ?_
    refine z_cV1V (pc := 17) E (c_M_put l G B h2 (by simp only [List.length_append, List.length_singleton]; omega)) jc_M_95 jv_M_put rfl (by assumption) ⟨Nat.le_of_ble_eq_true rfl, Nat.le_of_ble_eq_true rfl⟩ jd_M_initName_17 (Nat.le_of_ble_eq_true rfl) (by decide) (by decide) (fun es17 h17 => ?_)
    obtain ⟨h3, F3⟩ := h17
    have q := h3.obj
    refine z_aload_n (pc := 20) E jd_M_initName_20 rfl rfl ?_
    refine z_bipush (v := 60) (pc := 21) E jd_M_initName_21 (by decide) ?_
    refine z_cV1V (pc := 23) E (c_M_put l G B h3 (by simp only [List.length_append, List.length_singleton]; omega)) jc_M_95 jv_M_put rfl (by assumption) ⟨Nat.le_of_ble_eq_true rfl, Nat.le_of_ble_eq_true rfl⟩ jd_M_initName_23 (Nat.le_of_ble_eq_true rfl) (by decide) (by decide) (fun es23 h23 => ?_)
    obtain ⟨h4, F4⟩ := h23
    have q := h4.obj
    refine z_iload_n (pc := 26) E jd_M_initName_26 rfl rfl ?_
    refine z_if_eq (pc := 27) (tgt := 42) E jd_M_initName_27 (by decide) (fun c27 => ?_) (fun c27 => ?_)
    · refine z_aload_n (pc := 42) E jd_M_initName_42 rfl rfl ?_
      refine z_bipush (v := 105) (pc := 43) E jd_M_initName_43 (by decide) ?_
      refine z_cV1V (pc := 45) E (c_M_put l G B h4 (by simp only [List.length_append, List.length_singleton]; omega)) jc_M_95 jv_M_put rfl (by assumption) ⟨Nat.le_of_ble_eq_true rfl, Nat.le_of_ble_eq_true rfl⟩ jd_M_initName_45 (Nat.le_of_ble_eq_true rfl) (by decide) (by decide) (fun es45 h45 => ?_)
      obtain ⟨h5, F5⟩ := h45
      have q := h5.obj
      refine z_aload_n (pc := 48) E jd_M_initName_48 rfl rfl ?_
      refine z_bipush (v := 110) (pc := 49) E jd_M_initName_49 (by decide) ?_
      refine z_cV1V (pc := 51) E (c_M_put l G B h5 (by simp only [List.length_append, List.length_singleton]; omega)) jc_M_95 jv_M_put rfl (by assumption) ⟨Nat.le_of_ble_eq_true rfl, Nat.le_of_ble_eq_true rfl⟩ jd_M_initName_51 (Nat.le_of_ble_eq_true rfl) (by decide) (by decide) (fun es51 h51 => ?_)
      obtain ⟨h6, F6⟩ := h51
      have q := h6.obj
      refine z_aload_n (pc := 54) E jd_M_initName_54 rfl rfl ?_
      refine z_bipush (v := 105) (pc := 55) E jd_M_initName_55 (by decide) ?_
      refine z_cV1V (pc := 57) E (c_M_put l G B h6 (by simp only [List.length_append, List.length_singleton]; omega)) jc_M_95 jv_M_put rfl (by assumption) ⟨Nat.le_of_ble_eq_true rfl, Nat.le_of_ble_eq_true rfl⟩ jd_M_initName_57 (Nat.le_of_ble_eq_true rfl) (by decide) (by decide) (fun es57 h57 => ?_)
      obtain ⟨h7, F7⟩ := h57
      have q := h7.obj
      refine z_aload_n (pc := 60) E jd_M_initName_60 rfl rfl ?_
      refine z_bipush (v := 116) (pc := 61) E jd_M_initName_61 (by decide) ?_
      refine z_cV1V (pc := 63) E (c_M_put l G B h7 (by simp only [List.length_append, List.length_singleton]; omega)) jc_M_95 jv_M_put rfl (by assumption) ⟨Nat.le_of_ble_eq_true rfl, Nat.le_of_ble_eq_true rfl⟩ jd_M_initName_63 (Nat.le_of_ble_eq_true rfl) (by decide) (by decide) (fun es63 h63 => ?_)
      obtain ⟨h8, F8⟩ := h63
      have q := h8.obj
      refine z_aload_n (pc := 66) E jd_M_initName_66 rfl rfl ?_
      refine z_bipush (v := 62) (pc := 67) E jd_M_initName_67 (by decide) ?_
      refine z_cV1V (pc := 69) E (c_M_put l G B h8 (by simp only [List.length_append, List.length_singleton]; omega)) jc_M_95 jv_M_put rfl (by assumption) ⟨Nat.le_of_ble_eq_true rfl, Nat.le_of_ble_eq_true rfl⟩ jd_M_initName_69 (Nat.le_of_ble_eq_true rfl) (by decide) (by decide) (fun es69 h69 => ?_)
      obtain ⟨h9, F9⟩ := h69
      have ok : bO G B es69 r S P a e (bs ++ ut (kx 2)) := by
        simp only [List.append_assoc] at h9
        exact h9
      exact z_vret E jd_M_initName_72 ⟨rfl, ok, ((((((F2.trs F3).trs F4).trs F5).trs F6).trs F7).trs F8).trs F9⟩
    · exact absurd rfl c27
  · exact absurd rfl c7
set_option maxHeartbeats 4000000 in
set_option maxRecDepth 100000 in
theorem c_M_initName1 (l : Launch) (G : zG) (B : Nat) {es : zE} {r : Nat} {S : MS} {P : Nat → Int32} {a e : Int32} {bs : List Nat} (h : bO G B es r S P a e bs) (hl : bs.length + 10 ≤ 1100) : Tr l G B jy_M_initName jb_M_initName 2 none 1 0 0 [.ref (B + r), .int 1] es (pV fun es' => bO G B es' r S P a e (bs ++ ut (kx 0)) ∧ Fr es es' r (r + 15)) := by
  have m0 := h.obj
  refine Tr.of (ls := [some (.ref (B + r)), some (.int 1)]) (by decide +kernel) (Nat.le_of_ble_eq_true rfl) rfl ?_
  intro zp ze zs zm zb zt zc E
  refine z_aload_n (pc := 0) E jd_M_initName_0 rfl rfl ?_
  refine z_iconst (v := 0) (pc := 1) E jd_M_initName_1 (by decide) ?_
  refine z_cV1V (pc := 2) E (c_M_put l G B h (by omega)) jc_M_95 jv_M_put rfl (by assumption) ⟨Nat.le_of_ble_eq_true rfl, Nat.le_of_ble_eq_true rfl⟩ jd_M_initName_2 (Nat.le_of_ble_eq_true rfl) (by decide) (by decide) (fun es2 h2 => ?_)
  obtain ⟨h2, F2⟩ := h2
  have q := h2.obj
  refine z_aload_n (pc := 5) E jd_M_initName_5 rfl rfl ?_
  refine z_iload_n (pc := 6) E jd_M_initName_6 rfl rfl ?_
  refine z_if_eq (pc := 7) (tgt := 15) E jd_M_initName_7 (by decide) (fun c7 => ?_) (fun c7 => ?_)
  · exact absurd c7 (by decide)
  · refine z_bipush (v := 8) (pc := 10) E jd_M_initName_10 (by decide) ?_
    refine z_goto (pc := 12) (tgt := 17) E jd_M_initName_12 (by decide) ?_
    refine z_cV1V (pc := 17) E (c_M_put l G B h2 (by simp only [List.length_append, List.length_singleton]; omega)) jc_M_95 jv_M_put rfl (by assumption) ⟨Nat.le_of_ble_eq_true rfl, Nat.le_of_ble_eq_true rfl⟩ jd_M_initName_17 (Nat.le_of_ble_eq_true rfl) (by decide) (by decide) (fun es17 h17 => ?_)
    obtain ⟨h3, F3⟩ := h17
    have q := h3.obj
    refine z_aload_n (pc := 20) E jd_M_initName_20 rfl rfl ?_
    refine z_bipush (v := 60) (pc := 21) E jd_M_initName_21 (by decide) ?_
    refine z_cV1V (pc := 23) E (c_M_put l G B h3 (by simp only [List.length_append, List.length_singleton]; omega)) jc_M_95 jv_M_put rfl (by assumption) ⟨Nat.le_of_ble_eq_true rfl, Nat.le_of_ble_eq_true rfl⟩ jd_M_initName_23 (Nat.le_of_ble_eq_true rfl) (by decide) (by decide) (fun es23 h23 => ?_)
    obtain ⟨h4, F4⟩ := h23
    have q := h4.obj
    refine z_iload_n (pc := 26) E jd_M_initName_26 rfl rfl ?_
    refine z_if_eq (pc := 27) (tgt := 42) E jd_M_initName_27 (by decide) (fun c27 => ?_) (fun c27 => ?_)
    · exact absurd c27 (by decide)
    · refine z_aload_n (pc := 30) E jd_M_initName_30 rfl rfl ?_
      refine z_bipush (v := 99) (pc := 31) E jd_M_initName_31 (by decide) ?_
      refine z_cV1V (pc := 33) E (c_M_put l G B h4 (by simp only [List.length_append, List.length_singleton]; omega)) jc_M_95 jv_M_put rfl (by assumption) ⟨Nat.le_of_ble_eq_true rfl, Nat.le_of_ble_eq_true rfl⟩ jd_M_initName_33 (Nat.le_of_ble_eq_true rfl) (by decide) (by decide) (fun es33 h33 => ?_)
      obtain ⟨h4b, F4b⟩ := h33
      have q := h4b.obj
      refine z_aload_n (pc := 36) E jd_M_initName_36 rfl rfl ?_
      refine z_bipush (v := 108) (pc := 37) E jd_M_initName_37 (by decide) ?_
      refine z_cV1V (pc := 39) E (c_M_put l G B h4b (by simp only [List.length_append, List.length_singleton]; omega)) jc_M_95 jv_M_put rfl (by assumption) ⟨Nat.le_of_ble_eq_true rfl, Nat.le_of_ble_eq_true rfl⟩ jd_M_initName_39 (Nat.le_of_ble_eq_true rfl) (by decide) (by decide) (fun es39 h39 => ?_)
      obtain ⟨h4c, F4c⟩ := h39
      have q := h4c.obj
      refine z_aload_n (pc := 42) E jd_M_initName_42 rfl rfl ?_
      refine z_bipush (v := 105) (pc := 43) E jd_M_initName_43 (by decide) ?_
      refine z_cV1V (pc := 45) E (c_M_put l G B h4c (by simp only [List.length_append, List.length_singleton]; omega)) jc_M_95 jv_M_put rfl (by assumption) ⟨Nat.le_of_ble_eq_true rfl, Nat.le_of_ble_eq_true rfl⟩ jd_M_initName_45 (Nat.le_of_ble_eq_true rfl) (by decide) (by decide) (fun es45 h45 => ?_)
      obtain ⟨h5, F5⟩ := h45
      have q := h5.obj
      refine z_aload_n (pc := 48) E jd_M_initName_48 rfl rfl ?_
      refine z_bipush (v := 110) (pc := 49) E jd_M_initName_49 (by decide) ?_
      refine z_cV1V (pc := 51) E (c_M_put l G B h5 (by simp only [List.length_append, List.length_singleton]; omega)) jc_M_95 jv_M_put rfl (by assumption) ⟨Nat.le_of_ble_eq_true rfl, Nat.le_of_ble_eq_true rfl⟩ jd_M_initName_51 (Nat.le_of_ble_eq_true rfl) (by decide) (by decide) (fun es51 h51 => ?_)
      obtain ⟨h6, F6⟩ := h51
      have q := h6.obj
      refine z_aload_n (pc := 54) E jd_M_initName_54 rfl rfl ?_
      refine z_bipush (v := 105) (pc := 55) E jd_M_initName_55 (by decide) ?_
      refine z_cV1V (pc := 57) E (c_M_put l G B h6 (by simp only [List.length_append, List.length_singleton]; omega)) jc_M_95 jv_M_put rfl (by assumption) ⟨Nat.le_of_ble_eq_true rfl, Nat.le_of_ble_eq_true rfl⟩ jd_M_initName_57 (Nat.le_of_ble_eq_true rfl) (by decide) (by decide) (fun es57 h57 => ?_)
      obtain ⟨h7, F7⟩ := h57
      have q := h7.obj
      refine z_aload_n (pc := 60) E jd_M_initName_60 rfl rfl ?_
      refine z_bipush (v := 116) (pc := 61) E jd_M_initName_61 (by decide) ?_
      refine z_cV1V (pc := 63) E (c_M_put l G B h7 (by simp only [List.length_append, List.length_singleton]; omega)) jc_M_95 jv_M_put rfl (by assumption) ⟨Nat.le_of_ble_eq_true rfl, Nat.le_of_ble_eq_true rfl⟩ jd_M_initName_63 (Nat.le_of_ble_eq_true rfl) (by decide) (by decide) (fun es63 h63 => ?_)
      obtain ⟨h8, F8⟩ := h63
      have q := h8.obj
      refine z_aload_n (pc := 66) E jd_M_initName_66 rfl rfl ?_
      refine z_bipush (v := 62) (pc := 67) E jd_M_initName_67 (by decide) ?_
      refine z_cV1V (pc := 69) E (c_M_put l G B h8 (by simp only [List.length_append, List.length_singleton]; omega)) jc_M_95 jv_M_put rfl (by assumption) ⟨Nat.le_of_ble_eq_true rfl, Nat.le_of_ble_eq_true rfl⟩ jd_M_initName_69 (Nat.le_of_ble_eq_true rfl) (by decide) (by decide) (fun es69 h69 => ?_)
      obtain ⟨h9, F9⟩ := h69
      have ok : bO G B es69 r S P a e (bs ++ ut (kx 0)) := by
        simp only [List.append_assoc] at h9
        exact h9
      exact z_vret E jd_M_initName_72 ⟨rfl, ok, ((((((((F2.trs F3).trs F4).trs F4b).trs F4c).trs F5).trs F6).trs F7).trs F8).trs F9⟩
set_option maxHeartbeats 4000000 in
set_option maxRecDepth 100000 in
theorem c_M_orderOf (l : Launch) (G : zG) (B : Nat) {es : zE} {r u v k : Nat} {S : MS} {z a e : Int32} {e1 e2 : Ent} (h0 : mO G B es r S z a e) (hk : k < 3) (hu : u < 40) (hv : v < 40) (g1 : mE S u e1) (g2 : mE S v e2) : Tr l G B jy_M_orderOf jb_M_orderOf 5 (some .int) 1 0 0 [.ref (B + r), .int (nI u), .int (nI v), .int (nI k)] es (pI fun w es' => w.toInt = kC k e1 e2 ∧ es' = es) := by
  obtain ⟨m0, a1, a2, a3, a4, a5, a6, a7, a8, a9, a10, a11, a12, a13, a14⟩ := id h0
  refine Tr.of (ls := [some (.ref (B + r)), some (.int (nI u)), some (.int (nI v)), some (.int (nI k)), none]) (by decide +kernel) (Nat.le_of_ble_eq_true rfl) rfl ?_
  intro zp ze zs zm zb zt zc E
  refine z_iload_n (pc := 0) E jd_M_orderOf_0 rfl rfl ?_
  refine z_iconst (v := 1) (pc := 1) E jd_M_orderOf_1 (by decide) ?_
  refine z_icmp_ne (pc := 2) (tgt := 18) E jd_M_orderOf_2 (by decide) (fun c2 => ?_) (fun c2 => ?_)
  · have hk1 : ¬ k = 1 := nceq (b := 1) c2
    refine z_aload_n (pc := 18) E jd_M_orderOf_18 rfl rfl ?_
    refine z_bipush (v := 22) (pc := 19) E jd_M_orderOf_19 (by decide) ?_
    refine z_iload_n (pc := 21) E jd_M_orderOf_21 rfl rfl ?_
    refine z_iadd (pc := 22) E jd_M_orderOf_22 ?_
    refine z_topi (y := nI (22 + u)) (nI_add 22 u) ?_
    refine z_bipush (v := 22) (pc := 23) E jd_M_orderOf_23 (by decide) ?_
    refine z_iload_n (pc := 25) E jd_M_orderOf_25 rfl rfl ?_
    refine z_iadd (pc := 26) E jd_M_orderOf_26 ?_
    refine z_topi (y := nI (22 + v)) (nI_add 22 v) ?_
    refine z_cV2I (pc := 27) E (c_M_compare l G B h0 (by omega) (by omega) g1.2.2.2.1 g2.2.2.2.1) jc_M_82 jv_M_compare rfl (by assumption) ⟨Nat.le_of_ble_eq_true rfl, Nat.le_of_ble_eq_true rfl⟩ jd_M_orderOf_27 (Nat.le_of_ble_eq_true rfl) (by decide) (by decide) (fun v27 es27 h27 => ?_)
    obtain ⟨w27, e27⟩ := h27
    rw [e27]
    refine z_istore (pc := 30) E jd_M_orderOf_30 (by decide) rfl ?_
    dsimp only [List.set]
    refine z_iload (pc := 32) E jd_M_orderOf_32 rfl ?_
    refine z_if_ne (pc := 34) (tgt := 41) E jd_M_orderOf_34 (by decide) (fun c34 => ?_) (fun c34 => ?_)
    · have hz : ¬ cmpZ e1.2.2.1 e2.2.2.1 = 0 := fun q => c34 (i0_toInt.mpr (w27.trans q))
      have hr : v27.toInt = kC k e1 e2 := by
        rw [w27, kC, keyC, if_neg hk1]
        by_cases hk2 : k = 2
        · rw [if_pos hk2, if_neg hz]
        · rw [if_neg hk2, if_neg (by omega)]
      refine z_iload (pc := 41) E jd_M_orderOf_41 rfl ?_
      refine z_goto (pc := 43) (tgt := 58) E jd_M_orderOf_43 (by decide) ?_
      exact z_iret E jd_M_orderOf_58 ⟨_, rfl, hr, rfl⟩
    · have hz : cmpZ e1.2.2.1 e2.2.2.1 = 0 := w27.symm.trans (i0_toInt.mp c34)
      refine z_iload_n (pc := 37) E jd_M_orderOf_37 rfl rfl ?_
      refine z_if_ne (pc := 38) (tgt := 46) E jd_M_orderOf_38 (by decide) (fun c38 => ?_) (fun c38 => ?_)
      · have hk2 : k = 2 := by have := nceq (b := 0) c38; omega
        refine z_aload_n (pc := 46) E jd_M_orderOf_46 rfl rfl ?_
        refine z_bipush (v := 62) (pc := 47) E jd_M_orderOf_47 (by decide) ?_
        refine z_iload_n (pc := 49) E jd_M_orderOf_49 rfl rfl ?_
        refine z_iadd (pc := 50) E jd_M_orderOf_50 ?_
        refine z_topi (y := nI (62 + u)) (nI_add 62 u) ?_
        refine z_bipush (v := 62) (pc := 51) E jd_M_orderOf_51 (by decide) ?_
        refine z_iload_n (pc := 53) E jd_M_orderOf_53 rfl rfl ?_
        refine z_iadd (pc := 54) E jd_M_orderOf_54 ?_
        refine z_topi (y := nI (62 + v)) (nI_add 62 v) ?_
        refine z_cV2I (pc := 55) E (c_M_compare l G B h0 (by omega) (by omega) g1.2.2.2.2 g2.2.2.2.2) jc_M_82 jv_M_compare rfl (by assumption) ⟨Nat.le_of_ble_eq_true rfl, Nat.le_of_ble_eq_true rfl⟩ jd_M_orderOf_55 (Nat.le_of_ble_eq_true rfl) (by decide) (by decide) (fun v55 es55 h55 => ?_)
        obtain ⟨w55, e55⟩ := h55
        rw [e55]
        have hr : v55.toInt = kC k e1 e2 := by rw [w55, kC, keyC, if_neg hk1, if_pos hk2, if_pos hz]
        exact z_iret E jd_M_orderOf_58 ⟨_, rfl, hr, rfl⟩
      · have hr : v27.toInt = kC k e1 e2 := by
          have hk0 := ceq (b := 0) c38
          rw [w27, kC, keyC, if_neg hk1, if_neg (by omega), if_neg (by omega)]
        refine z_iload (pc := 41) E jd_M_orderOf_41 rfl ?_
        refine z_goto (pc := 43) (tgt := 58) E jd_M_orderOf_43 (by decide) ?_
        exact z_iret E jd_M_orderOf_58 ⟨_, rfl, hr, rfl⟩
  · have hk1 : k = 1 := ceq (b := 1) c2
    subst hk1
    refine z_aload_n (pc := 5) E jd_M_orderOf_5 rfl rfl ?_
    refine z_bipush (v := 62) (pc := 6) E jd_M_orderOf_6 (by decide) ?_
    refine z_iload_n (pc := 8) E jd_M_orderOf_8 rfl rfl ?_
    refine z_iadd (pc := 9) E jd_M_orderOf_9 ?_
    refine z_topi (y := nI (62 + u)) (nI_add 62 u) ?_
    refine z_bipush (v := 62) (pc := 10) E jd_M_orderOf_10 (by decide) ?_
    refine z_iload_n (pc := 12) E jd_M_orderOf_12 rfl rfl ?_
    refine z_iadd (pc := 13) E jd_M_orderOf_13 ?_
    refine z_topi (y := nI (62 + v)) (nI_add 62 v) ?_
    refine z_cV2I (pc := 14) E (c_M_compare l G B h0 (by omega) (by omega) g1.2.2.2.2 g2.2.2.2.2) jc_M_82 jv_M_compare rfl (by assumption) ⟨Nat.le_of_ble_eq_true rfl, Nat.le_of_ble_eq_true rfl⟩ jd_M_orderOf_14 (Nat.le_of_ble_eq_true rfl) (by decide) (by decide) (fun v14 es14 h14 => ?_)
    obtain ⟨w14, e14⟩ := h14
    rw [e14]
    exact z_iret E jd_M_orderOf_17 ⟨_, rfl, w14, rfl⟩
/-- the best of the first i: none, or the least above -/
def BP (E : Nat → Ent) (k b : Nat) (A : Ent → Prop) (i : Nat) (v : Int32) : Prop := (v = -1 ∧ ∀ j, j < i → (E j).1 = k → ¬ A (E j)) ∨ ∃ m, m < i ∧ v = nI (b + m) ∧ (E m).1 = k ∧ A (E m) ∧ ∀ j, j < i → (E j).1 = k → A (E j) → ¬ kC k (E j) (E m) < 0
theorem BP.skip {E : Nat → Ent} {k b i : Nat} {A : Ent → Prop} {v : Int32} (h : BP E k b A i v) (hn : (E i).1 = k → ¬ A (E i)) : BP E k b A (i + 1) v := by
  rcases h with ⟨h1, h2⟩ | ⟨m, h1, h2, h3, h4, h5⟩
  · refine Or.inl ⟨h1, fun j hj hk => ?_⟩
    by_cases e : j = i
    · subst e; exact hn hk
    · exact h2 j (by omega) hk
  · refine Or.inr ⟨m, by omega, h2, h3, h4, fun j hj hk ha => ?_⟩
    by_cases e : j = i
    · subst e; exact absurd ha (hn hk)
    · exact h5 j (by omega) hk ha
theorem BP.keep {E : Nat → Ent} {k b i m : Nat} {A : Ent → Prop} (h : BP E k b A i (nI (b + m))) (hm : b + m < 1000) (hb : b + i < 1000) (hn : ¬ kC k (E i) (E m) < 0) : BP E k b A (i + 1) (nI (b + m)) := by
  rcases h with ⟨h1, h2⟩ | ⟨m', h1, h2, h3, h4, h5⟩
  · exact absurd (show nI (b + m) < 0 by rw [h1]; decide) (nI_pos (by omega))
  · have : m = m' := by have := ceq h2; omega
    subst this
    refine Or.inr ⟨m, by omega, rfl, h3, h4, fun j hj hk ha => ?_⟩
    by_cases e : j = i
    · subst e; exact hn
    · exact h5 j (by omega) hk ha
theorem BP.less {E : Nat → Ent} {k b i m : Nat} {A : Ent → Prop} (h : BP E k b A i (nI (b + m))) (hm : b + m < 1000) (hb : b + i < 1000) (hk : (E i).1 = k) (ha : A (E i)) (hn : kC k (E i) (E m) < 0) : BP E k b A (i + 1) (nI (b + i)) := by
  rcases h with ⟨h1, h2⟩ | ⟨m', h1, h2, h3, h4, h5⟩
  · exact absurd (show nI (b + m) < 0 by rw [h1]; decide) (nI_pos (by omega))
  · have : m = m' := by have := ceq h2; omega
    subst this
    refine Or.inr ⟨i, by omega, rfl, hk, ha, fun j hj hk' ha' => ?_⟩
    by_cases e : j = i
    · subst e
      have := kC_sw k (E j) (E j)
      omega
    · exact fun q => h5 j (by omega) hk' ha' (kC_tr q hn)
theorem BP.first {E : Nat → Ent} {k b i : Nat} {A : Ent → Prop} {v : Int32} (h : BP E k b A i v) (hb : b + i < 1000) (hv : v < 0) (hk : (E i).1 = k) (ha : A (E i)) : BP E k b A (i + 1) (nI (b + i)) := by
  rcases h with ⟨h1, h2⟩ | ⟨m', h1, h2, h3, h4, h5⟩
  · refine Or.inr ⟨i, by omega, rfl, hk, ha, fun j hj hk' ha' => ?_⟩
    by_cases e : j = i
    · subst e
      have := kC_sw k (E j) (E j)
      omega
    · exact absurd ha' (h2 j (by omega) hk')
  · rw [h2] at hv; exact absurd hv (nI_pos (by omega))
theorem BP.some {E : Nat → Ent} {k b i : Nat} {A : Ent → Prop} {v : Int32} (h : BP E k b A i v) (hv : ¬ v < 0) : ∃ m, m < i ∧ v = nI (b + m) ∧ (E m).1 = k := by
  rcases h with ⟨h1, h2⟩ | ⟨m', h1, h2, h3, h4, h5⟩
  · rw [h1] at hv; exact absurd (by decide) hv
  · exact ⟨m', h1, h2, h3⟩
/-- which entries lie behind the last one -/
def abv (E : Nat → Ent) (k b u : Nat) (A : Ent → Prop) (v : Int32) : Prop := (v < 0 ∧ ∀ e, A e) ∨ ∃ q, q < u ∧ v = nI (b + q) ∧ ∀ e, A e ↔ 0 < kC k e (E q)
set_option maxHeartbeats 4000000 in
set_option maxRecDepth 100000 in
theorem c_M_following (l : Launch) (G : zG) (B : Nat) {es : zE} {r c u k : Nat} {S : MS} {z a e y : Int32} {t : DT} {E0 : Nat → Ent} {A : Ent → Prop} (h0 : mO G B es r S z a e) (hc4 : c < 4) (hk : k < 3) (hh : mC S c t) (hE : t.2.2.2.2.2.1 = E0) (hu : t.2.2.2.2.2.2.1 = u) (hA : abv E0 k (10 * c) u A y) : Tr l G B jy_M_following jb_M_following 6 (some .int) 2 0 0 [.ref (B + r), .int (nI c), .int (nI k), .int y] es (pI fun v es' => BP E0 k (10 * c) A u v ∧ es' = es) := by
  obtain ⟨m0, a1, a2, a3, a4, a5, a6, a7, a8, a9, a10, a11, a12, a13, a14⟩ := id h0
  obtain ⟨-, d6, du, dM⟩ := id hh
  rw [hE, hu] at dM
  rw [hu] at d6 du
  refine Tr.of (ls := [some (.ref (B + r)), some (.int (nI c)), some (.int (nI k)), some (.int y), none, none]) (by decide +kernel) (Nat.le_of_ble_eq_true rfl) rfl ?_
  intro zp ze zs zm zb zt zc E
  have loop : ∀ (f i : Nat) (v : Int32), i + f = u → BP E0 k (10 * c) A i v → Zj zp l ze (zr 2 0 0) zs zm ([.ref (B + r), .int (nI c), .int (nI k), .int y] : List Value).toArray zb zt zc (MQ zb (zQ G B (pI fun v es' => BP E0 k (10 * c) A u v ∧ es' = es)) ([.ref (B + r), .int (nI c), .int (nI k), .int y] : List Value).toArray zs 0 0 (fun q => B ≤ q)) G B 6 0 0 9 [some (.ref (B + r)), some (.int (nI c)), some (.int (nI k)), some (.int y), some (.int v), some (.int (nI (10 * c + i)))] [] es := by
    intro f
    induction f with
    | zero =>
      intro i v hi hb
      have hiu : i = u := by omega
      subst hiu
      refine z_iload (pc := 9) E jd_M_following_9 rfl ?_
      refine z_bipush (v := 10) (pc := 11) E jd_M_following_11 (by decide) ?_
      refine z_iload_n (pc := 13) E jd_M_following_13 rfl rfl ?_
      refine z_imul (pc := 14) E jd_M_following_14 ?_
      refine z_topi (y := nI (10 * c)) (pk_mul 10 c) ?_
      refine z_aload_n (pc := 15) E jd_M_following_15 rfl rfl ?_
      refine z_get (pc := 16) E jf_M_26 jd_M_following_16 (by assumption) (by rfl) ?_
      refine z_iload_n (pc := 19) E jd_M_following_19 rfl rfl ?_
      refine z_iald (ti := 1) (pc := 20) E rfl jd_M_following_20 (by assumption) (vp_in_nI (by omega) (by omega)) ?_
      rw [nI_clamp (by omega), d6]
      refine z_iadd (pc := 21) E jd_M_following_21 ?_
      rw [nI_add]
      refine z_icmp_ge (pc := 22) (tgt := 81) E jd_M_following_22 (by decide) (fun c22 => ?_) (fun c22 => ?_)
      · refine z_iload (pc := 81) E jd_M_following_81 rfl ?_
        exact z_iret E jd_M_following_83 ⟨_, rfl, hb, rfl⟩
      · exact absurd ((nI_leI (by omega) (by omega)).mpr (Nat.le_refl _)) c22
    | succ f ih =>
      intro i v hi hb
      have gi := dM i (by omega)
      have next : ∀ v : Int32, BP E0 k (10 * c) A (i + 1) v → Zj zp l ze (zr 2 0 0) zs zm ([.ref (B + r), .int (nI c), .int (nI k), .int y] : List Value).toArray zb zt zc (MQ zb (zQ G B (pI fun v es' => BP E0 k (10 * c) A u v ∧ es' = es)) ([.ref (B + r), .int (nI c), .int (nI k), .int y] : List Value).toArray zs 0 0 (fun q => B ≤ q)) G B 6 0 0 75 [some (.ref (B + r)), some (.int (nI c)), some (.int (nI k)), some (.int y), some (.int v), some (.int (nI (10 * c + i)))] [] es := by
        intro v hb
        refine z_iinc (pc := 75) E jd_M_following_75 rfl rfl (by decide) rfl ?_
        dsimp only [List.set]
        refine z_goto (pc := 78) (tgt := 9) E jd_M_following_78 (by decide) ?_
        have := ih (i + 1) v (by omega) hb
        rw [show 10 * c + (i + 1) = 10 * c + i + 1 by omega, nI_succ (10 * c + i)] at this
        exact this
      have t54 : (E0 i).1 = k → A (E0 i) → Zj zp l ze (zr 2 0 0) zs zm ([.ref (B + r), .int (nI c), .int (nI k), .int y] : List Value).toArray zb zt zc (MQ zb (zQ G B (pI fun v es' => BP E0 k (10 * c) A u v ∧ es' = es)) ([.ref (B + r), .int (nI c), .int (nI k), .int y] : List Value).toArray zs 0 0 (fun q => B ≤ q)) G B 6 0 0 54 [some (.ref (B + r)), some (.int (nI c)), some (.int (nI k)), some (.int y), some (.int v), some (.int (nI (10 * c + i)))] [] es := by
        intro hki hai
        refine z_iload (pc := 54) E jd_M_following_54 rfl ?_
        refine z_if_lt (pc := 56) (tgt := 71) E jd_M_following_56 (by decide) (fun c56 => ?_) (fun c56 => ?_)
        · have nb := hb.first (by omega) c56 hki hai
          refine z_iload (pc := 71) E jd_M_following_71 rfl ?_
          refine z_istore (pc := 73) E jd_M_following_73 (by decide) rfl ?_
          dsimp only [List.set]
          exact next _ nb
        · obtain ⟨m, hm, hv, hkm⟩ := hb.some c56
          subst hv
          refine z_aload_n (pc := 59) E jd_M_following_59 rfl rfl ?_
          refine z_iload (pc := 60) E jd_M_following_60 rfl ?_
          refine z_iload (pc := 62) E jd_M_following_62 rfl ?_
          refine z_iload_n (pc := 64) E jd_M_following_64 rfl rfl ?_
          refine z_cV3I (pc := 65) E (c_M_orderOf l G B h0 hk (by omega) (by omega) gi (dM m (by omega))) jc_M_99 jv_M_orderOf rfl (by assumption) ⟨Nat.le_of_ble_eq_true rfl, Nat.le_of_ble_eq_true rfl⟩ jd_M_following_65 (Nat.le_of_ble_eq_true rfl) (by decide) (by decide) (fun v65 es65 h65 => ?_)
          obtain ⟨w65, e65⟩ := h65
          rw [e65]
          refine z_if_ge (pc := 68) (tgt := 75) E jd_M_following_68 (by decide) (fun c68 => ?_) (fun c68 => ?_)
          · exact next _ (hb.keep (by omega) (by omega) (by have := ige_toInt.mp c68; omega))
          · have hlt : kC k (E0 i) (E0 m) < 0 := Int.not_le.mp fun q => c68 (ige_toInt.mpr (by omega))
            have nb := hb.less (by omega) (by omega) hki hai hlt
            refine z_iload (pc := 71) E jd_M_following_71 rfl ?_
            refine z_istore (pc := 73) E jd_M_following_73 (by decide) rfl ?_
            dsimp only [List.set]
            exact next _ nb
      refine z_iload (pc := 9) E jd_M_following_9 rfl ?_
      refine z_bipush (v := 10) (pc := 11) E jd_M_following_11 (by decide) ?_
      refine z_iload_n (pc := 13) E jd_M_following_13 rfl rfl ?_
      refine z_imul (pc := 14) E jd_M_following_14 ?_
      refine z_topi (y := nI (10 * c)) (pk_mul 10 c) ?_
      refine z_aload_n (pc := 15) E jd_M_following_15 rfl rfl ?_
      refine z_get (pc := 16) E jf_M_26 jd_M_following_16 (by assumption) (by rfl) ?_
      refine z_iload_n (pc := 19) E jd_M_following_19 rfl rfl ?_
      refine z_iald (ti := 1) (pc := 20) E rfl jd_M_following_20 (by assumption) (vp_in_nI (by omega) (by omega)) ?_
      rw [nI_clamp (by omega), d6]
      refine z_iadd (pc := 21) E jd_M_following_21 ?_
      rw [nI_add]
      refine z_icmp_ge (pc := 22) (tgt := 81) E jd_M_following_22 (by decide) (fun c22 => ?_) (fun c22 => ?_)
      · exact absurd ((nI_leI (by omega) (by omega)).mp c22) (by omega)
      · refine z_aload_n (pc := 25) E jd_M_following_25 rfl rfl ?_
        refine z_get (pc := 26) E jf_M_36 jd_M_following_26 (by assumption) (by rfl) ?_
        refine z_iload (pc := 29) E jd_M_following_29 rfl ?_
        refine z_iald (ti := 1) (pc := 31) E rfl jd_M_following_31 (by assumption) (vp_in_nI (by omega) (by omega)) ?_
        rw [nI_clamp (by omega), gi.1]
        refine z_iload_n (pc := 32) E jd_M_following_32 rfl rfl ?_
        refine z_icmp_ne (pc := 33) (tgt := 75) E jd_M_following_33 (by decide) (fun c33 => ?_) (fun c33 => ?_)
        · exact next v (hb.skip fun q => absurd (by rw [q]) c33)
        · have hki : (E0 i).1 = k := ceq c33 (by have := gi.2.1; omega)
          refine z_iload_n (pc := 36) E jd_M_following_36 rfl rfl ?_
          refine z_if_lt (pc := 37) (tgt := 54) E jd_M_following_37 (by decide) (fun c37 => ?_) (fun c37 => ?_)
          · refine t54 hki ?_
            rcases hA with ⟨-, hA⟩ | ⟨q, hqu, hy, -⟩
            · exact hA _
            · rw [hy] at c37; exact absurd c37 (nI_pos (by omega))
          · obtain ⟨q, hq, hy, hAq⟩ : ∃ q, q < u ∧ y = nI (10 * c + q) ∧ ∀ e, A e ↔ 0 < kC k e (E0 q) := hA.elim (fun q => absurd q.1 c37) id
            refine z_aload_n (pc := 40) E jd_M_following_40 rfl rfl ?_
            refine z_iload (pc := 41) E jd_M_following_41 rfl ?_
            refine z_iload_n (pc := 43) E jd_M_following_43 rfl rfl ?_
            refine z_topi (y := nI (10 * c + q)) hy ?_
            refine z_iload_n (pc := 44) E jd_M_following_44 rfl rfl ?_
            refine z_cV3I (pc := 45) E (c_M_orderOf l G B h0 hk (by omega) (by omega) gi (dM q (by omega))) jc_M_99 jv_M_orderOf rfl (by assumption) ⟨Nat.le_of_ble_eq_true rfl, Nat.le_of_ble_eq_true rfl⟩ jd_M_following_45 (Nat.le_of_ble_eq_true rfl) (by decide) (by decide) (fun v45 es45 h45 => ?_)
            obtain ⟨w45, e45⟩ := h45
            rw [e45]
            refine z_if_gt (pc := 48) (tgt := 54) E jd_M_following_48 (by decide) (fun c48 => ?_) (fun c48 => ?_)
            · exact t54 hki ((hAq _).mpr (by have := Int32.lt_iff_toInt_lt.mp c48; have e0 : (0 : Int32).toInt = 0 := rfl; omega))
            · have hna : ¬ A (E0 i) := fun q' => c48 (Int32.lt_iff_toInt_lt.mpr (by have := (hAq _).mp q'; have e0 : (0 : Int32).toInt = 0 := rfl; omega))
              refine z_goto (pc := 51) (tgt := 75) E jd_M_following_51 (by decide) ?_
              exact next v (hb.skip fun _ => hna)
  refine z_iconst (v := -1) (pc := 0) E jd_M_following_0 (by decide) ?_
  refine z_istore (pc := 1) E jd_M_following_1 (by decide) rfl ?_
  dsimp only [List.set]
  refine z_bipush (v := 10) (pc := 3) E jd_M_following_3 (by decide) ?_
  refine z_iload_n (pc := 5) E jd_M_following_5 rfl rfl ?_
  refine z_imul (pc := 6) E jd_M_following_6 ?_
  refine z_topi (y := nI (10 * c + 0)) (pk_mul 10 c) ?_
  refine z_istore (pc := 7) E jd_M_following_7 (by decide) rfl ?_
  dsimp only [List.set]
  exact loop u 0 (-1) (by omega) (Or.inl ⟨rfl, fun j hj => absurd hj (Nat.not_lt_zero j)⟩)
set_option maxHeartbeats 4000000 in
set_option maxRecDepth 100000 in
theorem c_M_nextFace (l : Launch) (G : zG) (B : Nat) {es : zE} {r c u : Nat} {S : MS} {z a e y : Int32} {t : DT} {E0 : Nat → Ent} {A : Ent → Prop} (h0 : mO G B es r S z a e) (hc4 : c < 4) (hh : mC S c t) (hE : t.2.2.2.1 = E0) (hu : t.2.2.2.2.1 = u) (hA : abv E0 4 (6 + 4 * c) u A y) : Tr l G B jy_M_nextFace jb_M_nextFace 5 (some .int) 2 0 0 [.ref (B + r), .int (nI c), .int y] es (pI fun v es' => BP E0 4 (6 + 4 * c) A u v ∧ es' = es) := by
  obtain ⟨m0, a1, a2, a3, a4, a5, a6, a7, a8, a9, a10, a11, a12, a13, a14⟩ := id h0
  obtain ⟨⟨-, -, d5, -, -, -, du, dF⟩, -⟩ := id hh
  rw [hE, hu] at dF
  rw [hu] at d5 du
  have kc4 : ∀ i j : Nat, cmpZ (E0 i).2.2.1 (E0 j).2.2.1 = kC 4 (E0 i) (E0 j) := fun i j => rfl
  refine Tr.of (ls := [some (.ref (B + r)), some (.int (nI c)), some (.int y), none, none]) (by decide +kernel) (Nat.le_of_ble_eq_true rfl) rfl ?_
  intro zp ze zs zm zb zt zc E
  have loop : ∀ (f i : Nat) (v : Int32), i + f = u → BP E0 4 (6 + 4 * c) A i v → Zj zp l ze (zr 2 0 0) zs zm ([.ref (B + r), .int (nI c), .int y] : List Value).toArray zb zt zc (MQ zb (zQ G B (pI fun v es' => BP E0 4 (6 + 4 * c) A u v ∧ es' = es)) ([.ref (B + r), .int (nI c), .int y] : List Value).toArray zs 0 0 (fun q => B ≤ q)) G B 5 0 0 10 [some (.ref (B + r)), some (.int (nI c)), some (.int y), some (.int v), some (.int (nI (6 + 4 * c + i)))] [] es := by
    intro f
    induction f with
    | zero =>
      intro i v hi hb
      have hiu : i = u := by omega
      subst hiu
      refine z_iload (pc := 10) E jd_M_nextFace_10 rfl ?_
      refine z_bipush (v := 6) (pc := 12) E jd_M_nextFace_12 (by decide) ?_
      refine z_iconst (v := 4) (pc := 14) E jd_M_nextFace_14 (by decide) ?_
      refine z_iload_n (pc := 15) E jd_M_nextFace_15 rfl rfl ?_
      refine z_imul (pc := 16) E jd_M_nextFace_16 ?_
      refine z_topi (y := nI (4 * c)) (pk_mul 4 c) ?_
      refine z_iadd (pc := 17) E jd_M_nextFace_17 ?_
      refine z_topi (y := nI (6 + 4 * c)) (nI_add 6 (4 * c)) ?_
      refine z_aload_n (pc := 18) E jd_M_nextFace_18 rfl rfl ?_
      refine z_get (pc := 19) E jf_M_23 jd_M_nextFace_19 (by assumption) (by rfl) ?_
      refine z_iload_n (pc := 22) E jd_M_nextFace_22 rfl rfl ?_
      refine z_iald (ti := 1) (pc := 23) E rfl jd_M_nextFace_23 (by assumption) (vp_in_nI (by omega) (by omega)) ?_
      rw [nI_clamp (by omega), d5]
      refine z_iadd (pc := 24) E jd_M_nextFace_24 ?_
      rw [nI_add]
      refine z_icmp_ge (pc := 25) (tgt := 68) E jd_M_nextFace_25 (by decide) (fun c25 => ?_) (fun c25 => ?_)
      · refine z_iload_n (pc := 68) E jd_M_nextFace_68 rfl rfl ?_
        exact z_iret E jd_M_nextFace_69 ⟨_, rfl, hb, rfl⟩
      · exact absurd ((nI_leI (by omega) (by omega)).mpr (Nat.le_refl _)) c25
    | succ f ih =>
      intro i v hi hb
      have gi := dF i (by omega)
      have hki := gi.1
      have next : ∀ v : Int32, BP E0 4 (6 + 4 * c) A (i + 1) v → Zj zp l ze (zr 2 0 0) zs zm ([.ref (B + r), .int (nI c), .int y] : List Value).toArray zb zt zc (MQ zb (zQ G B (pI fun v es' => BP E0 4 (6 + 4 * c) A u v ∧ es' = es)) ([.ref (B + r), .int (nI c), .int y] : List Value).toArray zs 0 0 (fun q => B ≤ q)) G B 5 0 0 62 [some (.ref (B + r)), some (.int (nI c)), some (.int y), some (.int v), some (.int (nI (6 + 4 * c + i)))] [] es := by
        intro v hb
        refine z_iinc (pc := 62) E jd_M_nextFace_62 rfl rfl (by decide) rfl ?_
        dsimp only [List.set]
        refine z_goto (pc := 65) (tgt := 10) E jd_M_nextFace_65 (by decide) ?_
        have := ih (i + 1) v (by omega) hb
        rw [show 6 + 4 * c + (i + 1) = 6 + 4 * c + i + 1 by omega, nI_succ (6 + 4 * c + i)] at this
        exact this
      have t45 : A (E0 i) → Zj zp l ze (zr 2 0 0) zs zm ([.ref (B + r), .int (nI c), .int y] : List Value).toArray zb zt zc (MQ zb (zQ G B (pI fun v es' => BP E0 4 (6 + 4 * c) A u v ∧ es' = es)) ([.ref (B + r), .int (nI c), .int y] : List Value).toArray zs 0 0 (fun q => B ≤ q)) G B 5 0 0 45 [some (.ref (B + r)), some (.int (nI c)), some (.int y), some (.int v), some (.int (nI (6 + 4 * c + i)))] [] es := by
        intro hai
        refine z_iload_n (pc := 45) E jd_M_nextFace_45 rfl rfl ?_
        refine z_if_lt (pc := 46) (tgt := 59) E jd_M_nextFace_46 (by decide) (fun c46 => ?_) (fun c46 => ?_)
        · have nb := hb.first (by omega) c46 hki hai
          refine z_iload (pc := 59) E jd_M_nextFace_59 rfl ?_
          refine z_istore_n (pc := 61) E jd_M_nextFace_61 rfl (by decide) rfl ?_
          dsimp only [List.set]
          exact next _ nb
        · obtain ⟨m, hm, hv, hkm⟩ := hb.some c46
          subst hv
          refine z_aload_n (pc := 49) E jd_M_nextFace_49 rfl rfl ?_
          refine z_iload (pc := 50) E jd_M_nextFace_50 rfl ?_
          refine z_iload_n (pc := 52) E jd_M_nextFace_52 rfl rfl ?_
          refine z_cV2I (pc := 53) E (c_M_compare l G B h0 (by omega) (by omega) gi.2 (dF m (by omega)).2) jc_M_82 jv_M_compare rfl (by assumption) ⟨Nat.le_of_ble_eq_true rfl, Nat.le_of_ble_eq_true rfl⟩ jd_M_nextFace_53 (Nat.le_of_ble_eq_true rfl) (by decide) (by decide) (fun v53 es53 h53 => ?_)
          obtain ⟨w53, e53⟩ := h53
          rw [e53]
          rw [kc4] at w53
          refine z_if_ge (pc := 56) (tgt := 62) E jd_M_nextFace_56 (by decide) (fun c56 => ?_) (fun c56 => ?_)
          · exact next _ (hb.keep (by omega) (by omega) (by have := ige_toInt.mp c56; omega))
          · have hlt : kC 4 (E0 i) (E0 m) < 0 := Int.not_le.mp fun q => c56 (ige_toInt.mpr (by omega))
            have nb := hb.less (by omega) (by omega) hki hai hlt
            refine z_iload (pc := 59) E jd_M_nextFace_59 rfl ?_
            refine z_istore_n (pc := 61) E jd_M_nextFace_61 rfl (by decide) rfl ?_
            dsimp only [List.set]
            exact next _ nb
      refine z_iload (pc := 10) E jd_M_nextFace_10 rfl ?_
      refine z_bipush (v := 6) (pc := 12) E jd_M_nextFace_12 (by decide) ?_
      refine z_iconst (v := 4) (pc := 14) E jd_M_nextFace_14 (by decide) ?_
      refine z_iload_n (pc := 15) E jd_M_nextFace_15 rfl rfl ?_
      refine z_imul (pc := 16) E jd_M_nextFace_16 ?_
      refine z_topi (y := nI (4 * c)) (pk_mul 4 c) ?_
      refine z_iadd (pc := 17) E jd_M_nextFace_17 ?_
      refine z_topi (y := nI (6 + 4 * c)) (nI_add 6 (4 * c)) ?_
      refine z_aload_n (pc := 18) E jd_M_nextFace_18 rfl rfl ?_
      refine z_get (pc := 19) E jf_M_23 jd_M_nextFace_19 (by assumption) (by rfl) ?_
      refine z_iload_n (pc := 22) E jd_M_nextFace_22 rfl rfl ?_
      refine z_iald (ti := 1) (pc := 23) E rfl jd_M_nextFace_23 (by assumption) (vp_in_nI (by omega) (by omega)) ?_
      rw [nI_clamp (by omega), d5]
      refine z_iadd (pc := 24) E jd_M_nextFace_24 ?_
      rw [nI_add]
      refine z_icmp_ge (pc := 25) (tgt := 68) E jd_M_nextFace_25 (by decide) (fun c25 => ?_) (fun c25 => ?_)
      · exact absurd ((nI_leI (by omega) (by omega)).mp c25) (by omega)
      · refine z_iload_n (pc := 28) E jd_M_nextFace_28 rfl rfl ?_
        refine z_if_lt (pc := 29) (tgt := 45) E jd_M_nextFace_29 (by decide) (fun c29 => ?_) (fun c29 => ?_)
        · refine t45 ?_
          rcases hA with ⟨-, hA⟩ | ⟨q, hqu, hy, -⟩
          · exact hA _
          · rw [hy] at c29; exact absurd c29 (nI_pos (by omega))
        · obtain ⟨q, hq, hy, hAq⟩ : ∃ q, q < u ∧ y = nI (6 + 4 * c + q) ∧ ∀ e, A e ↔ 0 < kC 4 e (E0 q) := hA.elim (fun q => absurd q.1 c29) id
          refine z_aload_n (pc := 32) E jd_M_nextFace_32 rfl rfl ?_
          refine z_iload (pc := 33) E jd_M_nextFace_33 rfl ?_
          refine z_iload_n (pc := 35) E jd_M_nextFace_35 rfl rfl ?_
          refine z_topi (y := nI (6 + 4 * c + q)) hy ?_
          refine z_cV2I (pc := 36) E (c_M_compare l G B h0 (by omega) (by omega) gi.2 (dF q (by omega)).2) jc_M_82 jv_M_compare rfl (by assumption) ⟨Nat.le_of_ble_eq_true rfl, Nat.le_of_ble_eq_true rfl⟩ jd_M_nextFace_36 (Nat.le_of_ble_eq_true rfl) (by decide) (by decide) (fun v36 es36 h36 => ?_)
          obtain ⟨w36, e36⟩ := h36
          rw [e36]
          rw [kc4] at w36
          refine z_if_gt (pc := 39) (tgt := 45) E jd_M_nextFace_39 (by decide) (fun c39 => ?_) (fun c39 => ?_)
          · exact t45 ((hAq _).mpr (by have := Int32.lt_iff_toInt_lt.mp c39; have e0 : (0 : Int32).toInt = 0 := rfl; omega))
          · have hna : ¬ A (E0 i) := fun q' => c39 (Int32.lt_iff_toInt_lt.mpr (by have := (hAq _).mp q'; have e0 : (0 : Int32).toInt = 0 := rfl; omega))
            refine z_goto (pc := 42) (tgt := 62) E jd_M_nextFace_42 (by decide) ?_
            exact next v (hb.skip fun _ => hna)
  refine z_iconst (v := -1) (pc := 0) E jd_M_nextFace_0 (by decide) ?_
  refine z_istore_n (pc := 1) E jd_M_nextFace_1 rfl (by decide) rfl ?_
  dsimp only [List.set]
  refine z_bipush (v := 6) (pc := 2) E jd_M_nextFace_2 (by decide) ?_
  refine z_iconst (v := 4) (pc := 4) E jd_M_nextFace_4 (by decide) ?_
  refine z_iload_n (pc := 5) E jd_M_nextFace_5 rfl rfl ?_
  refine z_imul (pc := 6) E jd_M_nextFace_6 ?_
  refine z_topi (y := nI (4 * c)) (pk_mul 4 c) ?_
  refine z_iadd (pc := 7) E jd_M_nextFace_7 ?_
  refine z_topi (y := nI (6 + 4 * c + 0)) (nI_add 6 (4 * c)) ?_
  refine z_istore (pc := 8) E jd_M_nextFace_8 (by decide) rfl ?_
  dsimp only [List.set]
  exact loop u 0 (-1) (by omega) (Or.inl ⟨rfl, fun j hj => absurd hj (Nat.not_lt_zero j)⟩)
