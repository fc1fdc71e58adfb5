/-! define, face, member, remove, declare -/
def dtF (t : DT) (E : Nat → Ent) (u : Nat) : DT := (t.1, t.2.1, t.2.2.1, E, u, t.2.2.2.2.2.1, t.2.2.2.2.2.2.1, t.2.2.2.2.2.2.2.1, t.2.2.2.2.2.2.2.2)
def dtM (t : DT) (E : Nat → Ent) (u : Nat) : DT := (t.1, t.2.1, t.2.2.1, t.2.2.2.1, t.2.2.2.2.1, E, u, t.2.2.2.2.2.2.2.1, t.2.2.2.2.2.2.2.2)
def dtO (t : DT) (ho : Int32) (oi : Int64) : DT := (t.1, t.2.1, t.2.2.1, t.2.2.2.1, t.2.2.2.2.1, t.2.2.2.2.2.1, t.2.2.2.2.2.2.1, ho, oi)
def dtN (t : DT) (nm : List Nat) (m : Int32) : DT := (1, nm, m, t.2.2.2.1, 0, t.2.2.2.2.2.1, 0, 0, t.2.2.2.2.2.2.2.2)
theorem dA.face {G : zG} {B : Nat} {es es' : zE} {q u : Nat} {t : DT} {w : Nat → Nat} {E : Nat → Ent} (h : dA G B es q t) (hr : rO G B es' (q + 3) 4 w E u) (hk : Fr es es' (q + 3) (q + 3 + 2 + 5 * 4)) : dA G B es' q (dtF t E u) := by
  obtain ⟨wf, wm, h1, h2, h3, h4⟩ := h
  exact ⟨w, wm, hk.at (by omega) h1, h2.fr hk (by omega), hr, h4.fr hk (by omega)⟩
theorem dA.memb {G : zG} {B : Nat} {es es' : zE} {q u : Nat} {t : DT} {w : Nat → Nat} {E : Nat → Ent} (h : dA G B es q t) (hr : rO G B es' (q + 25) 10 w E u) (hk : Fr es es' (q + 25) (q + 25 + 2 + 5 * 10)) : dA G B es' q (dtM t E u) := by
  obtain ⟨wf, wm, h1, h2, h3, h4⟩ := h
  exact ⟨wf, w, hk.at (by omega) h1, h2.fr hk (by omega), h3.fr hk (by omega), hr⟩
theorem Fr.wide {es es' : zE} {lo hi lo' hi' : Nat} (h : Fr es es' lo hi) (h1 : lo' ≤ lo) (h2 : hi ≤ hi') : Fr es es' lo' hi' := ⟨h.1, fun j hj => h.2 j (by omega)⟩
theorem nm0 {nm : List Nat} (h : nI nm.length = 0) (hl : nm.length ≤ 24) : nm = [] := List.eq_nil_of_length_eq_zero (ceq (b := 0) h)
theorem nm1 {nm : List Nat} (h : ¬ nI nm.length = 0) : ¬ nm = [] := fun q => h (by rw [q]; rfl)
set_option maxHeartbeats 4000000 in
set_option maxRecDepth 100000 in
theorem c_S_define (l : Launch) (G : zG) (B : Nat) {es : zE} {o : Nat} {nm sh : List Nat} {D : Nat → DT} {x m : Int32} (h : sA G B es o nm sh D) : Tr l G B jy_S_define jb_S_define 3 (some .int) 4 0 0 [.ref (B + o), .int x, .int m] es (pI fun v es' => if x < 0 ∨ 4 ≤ x then v = -1 ∧ es' = es else if nm = [] then v = -2 ∧ es' = es else v = 0 ∧ sA G B es' o nm sh (va_up D x.toNatClampNeg (dtN (D x.toNatClampNeg) nm (m &&& 65535))) ∧ Fr es es' o (o + 320)) := by
  have hs := h
  obtain ⟨h1, h2, h3, ⟨a, h4, h5⟩, ⟨bs, bg, h6⟩, ⟨nf, wf, h7⟩, h8⟩ := h
  have t1 := h2.obj
  have t2 := h2.len
  refine Tr.of (ls := [some (.ref (B + o)), some (.int x), some (.int m)]) (by decide +kernel) (Nat.le_of_ble_eq_true rfl) rfl ?_
  intro zp ze zs zm zb zt zc E
  refine z_iload_n (pc := 0) E jd_S_define_0 rfl rfl ?_
  refine z_if_lt (pc := 1) (tgt := 9) E jd_S_define_1 (by decide) (fun c1 => ?_) (fun c1 => ?_)
  · have hx : x < 0 ∨ 4 ≤ x := Or.inl c1
    refine z_iconst (v := -1) (pc := 9) E jd_S_define_9 (by decide) ?_
    exact z_iret E jd_S_define_10 ⟨_, rfl, by dsimp only; rw [if_pos hx]; exact ⟨rfl, rfl⟩⟩
  · refine z_iload_n (pc := 4) E jd_S_define_4 rfl rfl ?_
    refine z_iconst (v := 4) (pc := 5) E jd_S_define_5 (by decide) ?_
    refine z_icmp_lt (pc := 6) (tgt := 11) E jd_S_define_6 (by decide) (fun c6 => ?_) (fun c6 => ?_)
    · have hx : ¬ (x < 0 ∨ 4 ≤ x) := fun q => q.elim c1 (fun q => Int32.not_le.mpr c6 q)
      obtain ⟨j, hj, rfl⟩ := nI_of c1
      have hj4 : j < 4 := clt (b := 4) c6
      obtain ⟨wf', wm', hd⟩ := h8 j hj4
      have hd1 := hd.1
      refine z_aload_n (pc := 11) E jd_S_define_11 rfl rfl ?_
      refine z_get (pc := 12) E jf_S_12 jd_S_define_12 (by assumption) (by rfl) ?_
      refine z_get (pc := 15) E jf_S_48 jd_S_define_15 (by assumption) (by rfl) ?_
      refine z_if_ne (pc := 18) (tgt := 24) E jd_S_define_18 (by decide) (fun c18 => ?_) (fun c18 => ?_)
      · have hn := nm1 c18
        refine z_aload_n (pc := 24) E jd_S_define_24 rfl rfl ?_
        refine z_get (pc := 25) E jf_S_21 jd_S_define_25 (by assumption) (by rfl) ?_
        refine z_iload_n (pc := 28) E jd_S_define_28 rfl rfl ?_
        refine z_aald (ti := 5) (pc := 29) E rfl jd_S_define_29 (by assumption) (vp_in_nI (by omega) (by omega)) ?_
        rw [nI_clamp (by omega), h5 j hj4, rf_some]
        refine z_aload_n (pc := 30) E jd_S_define_30 rfl rfl ?_
        refine z_get (pc := 31) E jf_S_12 jd_S_define_31 (by assumption) (by rfl) ?_
        refine z_iload_n (pc := 34) E jd_S_define_34 rfl rfl ?_
        refine z_ldc (pc := 35) E jw_204 jd_S_define_35 ?_
        refine z_iand (pc := 37) E jd_S_define_37 ?_
        refine z_cV2V (pc := 38) E (c_D_begin l G B hd h2 (by omega)) jc_S_65 jv_D_begin rfl (by assumption) ⟨by decide, by decide⟩ jd_S_define_38 (Nat.le_of_ble_eq_true rfl) (by decide) (by decide) (fun es38 h38 => ?_)
        obtain ⟨w38, F38⟩ := h38
        have ok := hs.dcl (t := dtN (D j) nm (m &&& 65535)) hj4 ⟨wf', wm', w38⟩ F38
        refine z_iconst (v := 0) (pc := 41) E jd_S_define_41 (by decide) ?_
        exact z_iret E jd_S_define_42 ⟨_, rfl, by dsimp only; rw [if_neg hx, if_neg hn]; (try rw [nI_clamp (by omega)]); exact ⟨rfl, ok, F38.wide (by omega) (by omega)⟩⟩
      · have hn := nm0 c18 t2
        refine z_bipush (v := -2) (pc := 21) E jd_S_define_21 (by decide) ?_
        exact z_iret E jd_S_define_23 ⟨_, rfl, by dsimp only; rw [if_neg hx, if_pos hn]; exact ⟨rfl, rfl⟩⟩
    · have hx : x < 0 ∨ 4 ≤ x := Or.inr (Int32.not_lt.mp c6)
      refine z_iconst (v := -1) (pc := 9) E jd_S_define_9 (by decide) ?_
      exact z_iret E jd_S_define_10 ⟨_, rfl, by dsimp only; rw [if_pos hx]; exact ⟨rfl, rfl⟩⟩
set_option maxHeartbeats 4000000 in
set_option maxRecDepth 100000 in
theorem c_S_face (l : Launch) (G : zG) (B : Nat) {es : zE} {o c : Nat} {nm sh : List Nat} {D : Nat → DT} {x : Int32} (h : sA G B es o nm sh D) (hc : cnum D x = some c) : Tr l G B jy_S_face jb_S_face 3 (some .int) 5 0 0 [.ref (B + o), .int x] es (pI fun v es' => if nm = [] then v = -2 ∧ es' = es else if plc (D c).2.2.2.1 4 nm sh (D c).2.2.2.2.1 0 < (D c).2.2.2.2.1 ∧ entC ((D c).2.2.2.1 (plc (D c).2.2.2.1 4 nm sh (D c).2.2.2.2.1 0)) 4 nm sh = 0 then v = -3 ∧ es' = es else if (D c).2.2.2.2.1 = 4 then v = -4 ∧ es' = es else v = nI ((D c).2.2.2.2.1 + 1) ∧ sA G B es' o nm sh (va_up D c (dtF (D c) (ins (D c).2.2.2.1 (plc (D c).2.2.2.1 4 nm sh (D c).2.2.2.2.1 0) (D c).2.2.2.2.1 (4, 0, nm, sh)) ((D c).2.2.2.2.1 + 1))) ∧ Fr es es' o (o + 320)) := by
  have hs := h
  obtain ⟨h1, h2, h3, ⟨a, h4, h5⟩, ⟨bs, bg, h6⟩, ⟨nf, wf, h7⟩, h8⟩ := h
  obtain ⟨hxc, hc4, hth⟩ := cnum_some hc
  have t1 := h2.obj
  have t2 := h2.len
  have hA := h8 c hc4
  obtain ⟨wf', wm', hd⟩ := id hA
  have hd1 := hd.1
  have hr := hd.2.2.1
  have hr1 := hr.1
  refine Tr.of (ls := [some (.ref (B + o)), some (.int x), none]) (by decide +kernel) (Nat.le_of_ble_eq_true rfl) rfl ?_
  intro zp ze zs zm zb zt zc E
  refine z_aload_n (pc := 0) E jd_S_face_0 rfl rfl ?_
  refine z_iload_n (pc := 1) E jd_S_face_1 rfl rfl ?_
  refine z_cV1R (pc := 2) E (c_S_declarationOf l G B hs) jc_S_69 jv_S_declarationOf rfl (by assumption) ⟨by decide, by decide⟩ jd_S_face_2 (Nat.le_of_ble_eq_true rfl) (by decide) (by decide) (fun v2 es2 h2 => ?_)
  obtain ⟨w2, e2⟩ := h2
  rw [e2, w2, hc]
  dsimp only [refD]
  refine z_astore_n (pc := 5) E jd_S_face_5 rfl (by decide) rfl ?_
  dsimp only [List.set]
  refine z_aload_n (pc := 6) E jd_S_face_6 rfl rfl ?_
  refine z_ifnonnull (pc := 7) (tgt := 12) E jd_S_face_7 (by decide) ?_
  refine z_aload_n (pc := 12) E jd_S_face_12 rfl rfl ?_
  refine z_get (pc := 13) E jf_S_12 jd_S_face_13 (by assumption) (by rfl) ?_
  refine z_get (pc := 16) E jf_S_48 jd_S_face_16 (by assumption) (by rfl) ?_
  refine z_if_ne (pc := 19) (tgt := 25) E jd_S_face_19 (by decide) (fun c19 => ?_) (fun c19 => ?_)
  · have hn := nm1 c19
    refine z_aload_n (pc := 25) E jd_S_face_25 rfl rfl ?_
    refine z_get (pc := 26) E jf_S_73 jd_S_face_26 (by assumption) (by rfl) ?_
    refine z_iconst (v := 4) (pc := 29) E jd_S_face_29 (by decide) ?_
    refine z_iconst (v := 0) (pc := 30) E jd_S_face_30 (by decide) ?_
    refine z_aload_n (pc := 31) E jd_S_face_31 rfl rfl ?_
    refine z_get (pc := 32) E jf_S_12 jd_S_face_32 (by assumption) (by rfl) ?_
    refine z_aload_n (pc := 35) E jd_S_face_35 rfl rfl ?_
    refine z_get (pc := 36) E jf_S_16 jd_S_face_36 (by assumption) (by rfl) ?_
    refine z_cV4I (pc := 39) E (c_R_enter l G B (k := 4) hr h2 h3 (by omega) (by omega) (by omega)) jc_S_77 jv_R_enter rfl (by assumption) ⟨by decide, by decide⟩ jd_S_face_39 (Nat.le_of_ble_eq_true rfl) (by decide) (by decide) (fun v39 es39 h39 => ?_)
    skip
    refine z_iret E jd_S_face_42 ⟨_, rfl, ?_⟩
    dsimp only at h39 ⊢
    rw [if_neg hn]
    split at h39
    · rename_i q; rw [if_pos q]; exact h39
    · rename_i q; rw [if_neg q]
      split at h39
      · rename_i q2; rw [if_pos q2]; exact h39
      · rename_i q2; rw [if_neg q2]
        exact ⟨h39.1, hs.dcl hc4 (hA.face h39.2.1 h39.2.2) (h39.2.2.wide (by omega) (by omega)), h39.2.2.wide (by omega) (by omega)⟩
  · have hn := nm0 c19 t2
    refine z_bipush (v := -2) (pc := 22) E jd_S_face_22 (by decide) ?_
    exact z_iret E jd_S_face_24 ⟨_, rfl, by dsimp only; rw [if_pos hn]; exact ⟨rfl, rfl⟩⟩
set_option maxHeartbeats 4000000 in
set_option maxRecDepth 100000 in
theorem c_S_member (l : Launch) (G : zG) (B : Nat) {es : zE} {o c k : Nat} {nm sh : List Nat} {D : Nat → DT} {x m : Int32} (h : sA G B es o nm sh D) (hc : cnum D x = some c) (hk : k < 4) : Tr l G B jy_S_member jb_S_member 5 (some .int) 6 0 0 [.ref (B + o), .int x, .int (nI k), .int m] es (pI fun v es' => if nameOk k nm = false ∨ shapeOk k sh = false then v = -2 ∧ es' = es else if plc (D c).2.2.2.2.2.1 k nm sh (D c).2.2.2.2.2.2.1 0 < (D c).2.2.2.2.2.2.1 ∧ entC ((D c).2.2.2.2.2.1 (plc (D c).2.2.2.2.2.1 k nm sh (D c).2.2.2.2.2.2.1 0)) k nm sh = 0 then v = -3 ∧ es' = es else if (D c).2.2.2.2.2.2.1 = 10 then v = -4 ∧ es' = es else v = nI ((D c).2.2.2.2.2.2.1 + 1) ∧ sA G B es' o nm sh (va_up D c (dtM (D c) (ins (D c).2.2.2.2.2.1 (plc (D c).2.2.2.2.2.1 k nm sh (D c).2.2.2.2.2.2.1 0) (D c).2.2.2.2.2.2.1 (k, m &&& 65535, nm, sh)) ((D c).2.2.2.2.2.2.1 + 1))) ∧ Fr es es' o (o + 320)) := by
  have hs := h
  obtain ⟨h1, h2, h3, ⟨a, h4, h5⟩, ⟨bs, bg, h6⟩, ⟨nf, wf, h7⟩, h8⟩ := h
  obtain ⟨hxc, hc4, hth⟩ := cnum_some hc
  have hA := h8 c hc4
  obtain ⟨wf', wm', hd⟩ := id hA
  have hd1 := hd.1
  have hr := hd.2.2.2
  have hr1 := hr.1
  refine Tr.of (ls := [some (.ref (B + o)), some (.int x), some (.int (nI k)), some (.int m), none]) (by decide +kernel) (Nat.le_of_ble_eq_true rfl) rfl ?_
  intro zp ze zs zm zb zt zc E
  refine z_aload_n (pc := 0) E jd_S_member_0 rfl rfl ?_
  refine z_iload_n (pc := 1) E jd_S_member_1 rfl rfl ?_
  refine z_cV1R (pc := 2) E (c_S_declarationOf l G B hs) jc_S_69 jv_S_declarationOf rfl (by assumption) ⟨by decide, by decide⟩ jd_S_member_2 (Nat.le_of_ble_eq_true rfl) (by decide) (by decide) (fun v2 es2 h2 => ?_)
  obtain ⟨w2, e2⟩ := h2
  rw [e2, w2, hc]
  dsimp only [refD]
  refine z_astore (pc := 5) E jd_S_member_5 (by decide) rfl ?_
  dsimp only [List.set]
  refine z_aload (pc := 7) E jd_S_member_7 rfl ?_
  refine z_ifnull (pc := 9) E jd_S_member_9 ?_
  refine z_iload_n (pc := 12) E jd_S_member_12 rfl rfl ?_
  refine z_cS1I (pc := 13) E (c_S_isMemberKind l G B) jc_S_83 js_S_isMemberKind ⟨by decide, by decide⟩ jd_S_member_13 (Nat.le_of_ble_eq_true rfl) (by decide) (by decide) (fun v13 es13 h13 => ?_)
  obtain ⟨w13, e13⟩ := h13
  rw [e13, w13, if_neg (fun q => q.elim (nI_pos (by omega)) (fun q => absurd (clt (a := 3) q) (by omega)))]
  refine z_if_ne (pc := 16) (tgt := 21) E jd_S_member_16 (by decide) (fun c16 => ?_) (fun c16 => ?_)
  · refine z_aload_n (pc := 21) E jd_S_member_21 rfl rfl ?_
    refine z_iload_n (pc := 22) E jd_S_member_22 rfl rfl ?_
    refine z_cV1I (pc := 23) E (c_S_isNameFor l G B hs hk) jc_S_87 jv_S_isNameFor rfl (by assumption) ⟨by decide, by decide⟩ jd_S_member_23 (Nat.le_of_ble_eq_true rfl) (by decide) (by decide) (fun v23 es23 h23 => ?_)
    obtain ⟨w23, e23⟩ := h23
    rw [e23, w23]
    refine z_if_eq (pc := 26) (tgt := 37) E jd_S_member_26 (by decide) (fun c26 => ?_) (fun c26 => ?_)
    · have hb : nameOk k nm = false ∨ shapeOk k sh = false := Or.inl (b01 c26)
      refine z_bipush (v := -2) (pc := 37) E jd_S_member_37 (by decide) ?_
      exact z_iret E jd_S_member_39 ⟨_, rfl, by dsimp only; rw [if_pos hb]; exact ⟨rfl, rfl⟩⟩
    · refine z_aload_n (pc := 29) E jd_S_member_29 rfl rfl ?_
      refine z_iload_n (pc := 30) E jd_S_member_30 rfl rfl ?_
      refine z_cV1I (pc := 31) E (c_S_isShapeFor l G B hs hk) jc_S_90 jv_S_isShapeFor rfl (by assumption) ⟨by decide, by decide⟩ jd_S_member_31 (Nat.le_of_ble_eq_true rfl) (by decide) (by decide) (fun v31 es31 h31 => ?_)
      obtain ⟨w31, e31⟩ := h31
      rw [e31, w31]
      refine z_if_ne (pc := 34) (tgt := 40) E jd_S_member_34 (by decide) (fun c34 => ?_) (fun c34 => ?_)
      · have hb : ¬ (nameOk k nm = false ∨ shapeOk k sh = false) := by rw [b01n c26, b01n c34]; decide
        refine z_aload (pc := 40) E jd_S_member_40 rfl ?_
        refine z_get (pc := 42) E jf_S_93 jd_S_member_42 (by assumption) (by rfl) ?_
        refine z_iload_n (pc := 45) E jd_S_member_45 rfl rfl ?_
        refine z_iload_n (pc := 46) E jd_S_member_46 rfl rfl ?_
        refine z_ldc (pc := 47) E jw_204 jd_S_member_47 ?_
        refine z_iand (pc := 49) E jd_S_member_49 ?_
        refine z_aload_n (pc := 50) E jd_S_member_50 rfl rfl ?_
        refine z_get (pc := 51) E jf_S_12 jd_S_member_51 (by assumption) (by rfl) ?_
        refine z_aload_n (pc := 54) E jd_S_member_54 rfl rfl ?_
        refine z_get (pc := 55) E jf_S_16 jd_S_member_55 (by assumption) (by rfl) ?_
        refine z_cV4I (pc := 58) E (c_R_enter l G B hr h2 h3 (by omega) (by omega) (by omega)) jc_S_77 jv_R_enter rfl (by assumption) ⟨by decide, by decide⟩ jd_S_member_58 (Nat.le_of_ble_eq_true rfl) (by decide) (by decide) (fun v58 es58 h58 => ?_)
        skip
        refine z_iret E jd_S_member_61 ⟨_, rfl, ?_⟩
        dsimp only at h58 ⊢
        rw [if_neg hb]
        split at h58
        · rename_i q; rw [if_pos q]; exact h58
        · rename_i q; rw [if_neg q]
          split at h58
          · rename_i q2; rw [if_pos q2]; exact h58
          · rename_i q2; rw [if_neg q2]
            exact ⟨h58.1, hs.dcl hc4 (hA.memb h58.2.1 h58.2.2) (h58.2.2.wide (by omega) (by omega)), h58.2.2.wide (by omega) (by omega)⟩
      · have hb : nameOk k nm = false ∨ shapeOk k sh = false := Or.inr (b01 c34)
        refine z_bipush (v := -2) (pc := 37) E jd_S_member_37 (by decide) ?_
        exact z_iret E jd_S_member_39 ⟨_, rfl, by dsimp only; rw [if_pos hb]; exact ⟨rfl, rfl⟩⟩
  · exact absurd c16 (by decide)
set_option maxHeartbeats 4000000 in
set_option maxRecDepth 100000 in
theorem c_S_remove (l : Launch) (G : zG) (B : Nat) {es : zE} {o c k : Nat} {nm sh : List Nat} {D : Nat → DT} {x : Int32} (h : sA G B es o nm sh D) (hc : cnum D x = some c) (hk : k < 4) : Tr l G B jy_S_remove jb_S_remove 4 (some .int) 5 0 0 [.ref (B + o), .int x, .int (nI k)] es (pI fun v es' => if plc (D c).2.2.2.2.2.1 k nm sh (D c).2.2.2.2.2.2.1 0 < (D c).2.2.2.2.2.2.1 ∧ entC ((D c).2.2.2.2.2.1 (plc (D c).2.2.2.2.2.1 k nm sh (D c).2.2.2.2.2.2.1 0)) k nm sh = 0 then v = nI ((D c).2.2.2.2.2.2.1 - 1) ∧ sA G B es' o nm sh (va_up D c (dtM (D c) (del (D c).2.2.2.2.2.1 (plc (D c).2.2.2.2.2.1 k nm sh (D c).2.2.2.2.2.2.1 0) (D c).2.2.2.2.2.2.1) ((D c).2.2.2.2.2.2.1 - 1))) ∧ Fr es es' o (o + 320) else v = -2 ∧ es' = es) := by
  have hs := h
  obtain ⟨h1, h2, h3, ⟨a, h4, h5⟩, ⟨bs, bg, h6⟩, ⟨nf, wf, h7⟩, h8⟩ := h
  obtain ⟨hxc, hc4, hth⟩ := cnum_some hc
  have hA := h8 c hc4
  obtain ⟨wf', wm', hd⟩ := id hA
  have hd1 := hd.1
  have hr := hd.2.2.2
  have hr1 := hr.1
  refine Tr.of (ls := [some (.ref (B + o)), some (.int x), some (.int (nI k)), none]) (by decide +kernel) (Nat.le_of_ble_eq_true rfl) rfl ?_
  intro zp ze zs zm zb zt zc E
  refine z_aload_n (pc := 0) E jd_S_remove_0 rfl rfl ?_
  refine z_iload_n (pc := 1) E jd_S_remove_1 rfl rfl ?_
  refine z_cV1R (pc := 2) E (c_S_declarationOf l G B hs) jc_S_69 jv_S_declarationOf rfl (by assumption) ⟨by decide, by decide⟩ jd_S_remove_2 (Nat.le_of_ble_eq_true rfl) (by decide) (by decide) (fun v2 es2 h2 => ?_)
  obtain ⟨w2, e2⟩ := h2
  rw [e2, w2, hc]
  dsimp only [refD]
  refine z_astore_n (pc := 5) E jd_S_remove_5 rfl (by decide) rfl ?_
  dsimp only [List.set]
  refine z_aload_n (pc := 6) E jd_S_remove_6 rfl rfl ?_
  refine z_ifnull (pc := 7) E jd_S_remove_7 ?_
  refine z_iload_n (pc := 10) E jd_S_remove_10 rfl rfl ?_
  refine z_cS1I (pc := 11) E (c_S_isMemberKind l G B) jc_S_83 js_S_isMemberKind ⟨by decide, by decide⟩ jd_S_remove_11 (Nat.le_of_ble_eq_true rfl) (by decide) (by decide) (fun v11 es11 h11 => ?_)
  obtain ⟨w11, e11⟩ := h11
  rw [e11, w11, if_neg (fun q => q.elim (nI_pos (by omega)) (fun q => absurd (clt (a := 3) q) (by omega)))]
  refine z_if_ne (pc := 14) (tgt := 19) E jd_S_remove_14 (by decide) (fun c14 => ?_) (fun c14 => ?_)
  · refine z_aload_n (pc := 19) E jd_S_remove_19 rfl rfl ?_
    refine z_get (pc := 20) E jf_S_93 jd_S_remove_20 (by assumption) (by rfl) ?_
    refine z_iload_n (pc := 23) E jd_S_remove_23 rfl rfl ?_
    refine z_aload_n (pc := 24) E jd_S_remove_24 rfl rfl ?_
    refine z_get (pc := 25) E jf_S_12 jd_S_remove_25 (by assumption) (by rfl) ?_
    refine z_aload_n (pc := 28) E jd_S_remove_28 rfl rfl ?_
    refine z_get (pc := 29) E jf_S_16 jd_S_remove_29 (by assumption) (by rfl) ?_
    refine z_cV3I (pc := 32) E (c_R_takeOut l G B hr h2 h3 (by omega)) jc_S_96 jv_R_takeOut rfl (by assumption) ⟨by decide, by decide⟩ jd_S_remove_32 (Nat.le_of_ble_eq_true rfl) (by decide) (by decide) (fun v32 es32 h32 => ?_)
    skip
    refine z_iret E jd_S_remove_35 ⟨_, rfl, ?_⟩
    dsimp only at h32 ⊢
    split at h32
    · rename_i q; rw [if_pos q]
      exact ⟨h32.1, hs.dcl hc4 (hA.memb h32.2.1 h32.2.2) (h32.2.2.wide (by omega) (by omega)), h32.2.2.wide (by omega) (by omega)⟩
    · rename_i q; rw [if_neg q]; exact h32
  · exact absurd c14 (by decide)
set_option maxHeartbeats 4000000 in
set_option maxRecDepth 100000 in
theorem c_S_member_bad (l : Launch) (G : zG) (B : Nat) {es : zE} {o c : Nat} {nm sh : List Nat} {D : Nat → DT} {x k m : Int32} (h : sA G B es o nm sh D) (hc : cnum D x = some c) (hk : k < 0 ∨ 3 < k) : Tr l G B jy_S_member jb_S_member 5 (some .int) 6 0 0 [.ref (B + o), .int x, .int k, .int m] es (pI fun v es' => v = -1 ∧ es' = es) := by
  have hs := h
  have h1 := h.1
  refine Tr.of (ls := [some (.ref (B + o)), some (.int x), some (.int k), some (.int m), none]) (by decide +kernel) (Nat.le_of_ble_eq_true rfl) rfl ?_
  intro zp ze zs zm zb zt zc E
  refine z_aload_n (pc := 0) E jd_S_member_0 rfl rfl ?_
  refine z_iload_n (pc := 1) E jd_S_member_1 rfl rfl ?_
  refine z_cV1R (pc := 2) E (c_S_declarationOf l G B hs) jc_S_69 jv_S_declarationOf rfl (by assumption) ⟨by decide, by decide⟩ jd_S_member_2 (Nat.le_of_ble_eq_true rfl) (by decide) (by decide) (fun v2 es2 h2 => ?_)
  obtain ⟨w2, e2⟩ := h2
  rw [e2, w2, hc]
  dsimp only [refD]
  refine z_astore (pc := 5) E jd_S_member_5 (by decide) rfl ?_
  dsimp only [List.set]
  refine z_aload (pc := 7) E jd_S_member_7 rfl ?_
  refine z_ifnull (pc := 9) E jd_S_member_9 ?_
  refine z_iload_n (pc := 12) E jd_S_member_12 rfl rfl ?_
  refine z_cS1I (pc := 13) E (c_S_isMemberKind l G B) jc_S_83 js_S_isMemberKind ⟨by decide, by decide⟩ jd_S_member_13 (Nat.le_of_ble_eq_true rfl) (by decide) (by decide) (fun v13 es13 h13 => ?_)
  obtain ⟨w13, e13⟩ := h13
  rw [e13, w13, if_pos hk]
  refine z_if_ne (pc := 16) (tgt := 21) E jd_S_member_16 (by decide) (fun c16 => ?_) (fun c16 => ?_)
  · exact absurd rfl c16
  · refine z_iconst (v := -1) (pc := 19) E jd_S_member_19 (by decide) ?_
    exact z_iret E jd_S_member_20 ⟨_, rfl, rfl, rfl⟩
set_option maxHeartbeats 4000000 in
set_option maxRecDepth 100000 in
theorem c_S_remove_bad (l : Launch) (G : zG) (B : Nat) {es : zE} {o c : Nat} {nm sh : List Nat} {D : Nat → DT} {x k : Int32} (h : sA G B es o nm sh D) (hc : cnum D x = some c) (hk : k < 0 ∨ 3 < k) : Tr l G B jy_S_remove jb_S_remove 4 (some .int) 5 0 0 [.ref (B + o), .int x, .int k] es (pI fun v es' => v = -1 ∧ es' = es) := by
  have hs := h
  have h1 := h.1
  refine Tr.of (ls := [some (.ref (B + o)), some (.int x), some (.int k), none]) (by decide +kernel) (Nat.le_of_ble_eq_true rfl) rfl ?_
  intro zp ze zs zm zb zt zc E
  refine z_aload_n (pc := 0) E jd_S_remove_0 rfl rfl ?_
  refine z_iload_n (pc := 1) E jd_S_remove_1 rfl rfl ?_
  refine z_cV1R (pc := 2) E (c_S_declarationOf l G B hs) jc_S_69 jv_S_declarationOf rfl (by assumption) ⟨by decide, by decide⟩ jd_S_remove_2 (Nat.le_of_ble_eq_true rfl) (by decide) (by decide) (fun v2 es2 h2 => ?_)
  obtain ⟨w2, e2⟩ := h2
  rw [e2, w2, hc]
  dsimp only [refD]
  refine z_astore_n (pc := 5) E jd_S_remove_5 rfl (by decide) rfl ?_
  dsimp only [List.set]
  refine z_aload_n (pc := 6) E jd_S_remove_6 rfl rfl ?_
  refine z_ifnull (pc := 7) E jd_S_remove_7 ?_
  refine z_iload_n (pc := 10) E jd_S_remove_10 rfl rfl ?_
  refine z_cS1I (pc := 11) E (c_S_isMemberKind l G B) jc_S_83 js_S_isMemberKind ⟨by decide, by decide⟩ jd_S_remove_11 (Nat.le_of_ble_eq_true rfl) (by decide) (by decide) (fun v11 es11 h11 => ?_)
  obtain ⟨w11, e11⟩ := h11
  rw [e11, w11, if_pos hk]
  refine z_if_ne (pc := 14) (tgt := 19) E jd_S_remove_14 (by decide) (fun c14 => ?_) (fun c14 => ?_)
  · exact absurd rfl c14
  · refine z_iconst (v := -1) (pc := 17) E jd_S_remove_17 (by decide) ?_
    exact z_iret E jd_S_remove_18 ⟨_, rfl, rfl, rfl⟩
set_option maxHeartbeats 4000000 in
set_option maxRecDepth 100000 in
theorem c_S_declare (l : Launch) (G : zG) (B : Nat) {es : zE} {o c : Nat} {nm sh : List Nat} {D : Nat → DT} {x b : Int32} {z : Int64} (h : sA G B es o nm sh D) (hc : cnum D x = some c) (hb : b = 0 ∨ b = 1) : Tr l G B jy_S_declare jb_S_declare 6 (some .int) 1 0 0 [.ref (B + o), .int x, .int b, .long z] es (pI fun v es' => v = 0 ∧ sA G B es' o nm sh (va_up D c (dtO (D c) b z)) ∧ Fr es es' o (o + 320)) := by
  have hs := h
  obtain ⟨h1, h2, h3, ⟨a, h4, h5⟩, ⟨bs, bg, h6⟩, ⟨nf, wf, h7⟩, h8⟩ := h
  obtain ⟨hxc, hc4, hth⟩ := cnum_some hc
  obtain ⟨wf', wm', hd⟩ := h8 c hc4
  have hd1 := hd.1
  refine Tr.of (ls := [some (.ref (B + o)), some (.int x), some (.int b), some (.long z), none, none]) (by decide +kernel) (Nat.le_of_ble_eq_true rfl) rfl ?_
  intro zp ze zs zm zb zt zc E
  refine z_aload_n (pc := 0) E jd_S_declare_0 rfl rfl ?_
  refine z_iload_n (pc := 1) E jd_S_declare_1 rfl rfl ?_
  refine z_cV1R (pc := 2) E (c_S_declarationOf l G B hs) jc_S_69 jv_S_declarationOf rfl (by assumption) ⟨by decide, by decide⟩ jd_S_declare_2 (Nat.le_of_ble_eq_true rfl) (by decide) (by decide) (fun v2 es2 h2 => ?_)
  obtain ⟨w2, e2⟩ := h2
  rw [e2, w2, hc]
  dsimp only [refD]
  refine z_astore (pc := 5) E jd_S_declare_5 (by decide) rfl ?_
  dsimp only [List.set]
  refine z_aload (pc := 7) E jd_S_declare_7 rfl ?_
  refine z_ifnonnull (pc := 9) (tgt := 14) E jd_S_declare_9 (by decide) ?_
  refine z_aload (pc := 14) E jd_S_declare_14 rfl ?_
  refine z_iload_n (pc := 16) E jd_S_declare_16 rfl rfl ?_
  refine z_put (pc := 17) E jp_S_100 jd_S_declare_17 (by assumption) (Nat.le_of_ble_eq_true rfl) (by rcases hb with rfl | rfl <;> rfl) (by rcases hb with rfl | rfl <;> rfl) (fun es17 he17 => ?_)
  dsimp only [List.set] at he17
  have k1 := zs_eq he17 hd1
  refine z_aload (pc := 20) E jd_S_declare_20 rfl ?_
  refine z_lload_n (pc := 22) E jd_S_declare_22 rfl rfl ?_
  refine z_put (pc := 23) E jp_S_104 jd_S_declare_23 (by assumption) (Nat.le_of_ble_eq_true rfl) rfl rfl (fun es23 he23 => ?_)
  dsimp only [List.set] at he23
  have k2 := zs_eq he23 k1
  have F : Fr es es23 (o + 12 + 77 * c) (o + 12 + 77 * c + 1) := (Fr.set he17 (by omega) (by omega)).trs (Fr.set he23 (by omega) (by omega))
  have ok := hs.dcl (t := dtO (D c) b z) hc4 ⟨wf', wm', k2, hd.2.1.fr F (by omega), hd.2.2.1.fr F (by omega), hd.2.2.2.fr F (by omega)⟩ (F.wide (by omega) (by omega))
  refine z_iconst (v := 0) (pc := 26) E jd_S_declare_26 (by decide) ?_
  exact z_iret E jd_S_declare_27 ⟨_, rfl, rfl, ok, F.wide (by omega) (by omega)⟩
set_option maxHeartbeats 4000000 in
set_option maxRecDepth 100000 in
theorem c_S_face_none (l : Launch) (G : zG) (B : Nat) {es : zE} {o : Nat} {nm sh : List Nat} {D : Nat → DT} {x : Int32} (h : sA G B es o nm sh D) (hc : cnum D x = none) : Tr l G B jy_S_face jb_S_face 3 (some .int) 5 0 0 [.ref (B + o), .int x] es (pI fun v es' => v = -1 ∧ es' = es) := by
  have h1 := h.1
  refine Tr.of (ls := [some (.ref (B + o)), some (.int x), none]) (by decide +kernel) (Nat.le_of_ble_eq_true rfl) rfl ?_
  intro zp ze zs zm zb zt zc E
  refine z_aload_n (pc := 0) E jd_S_face_0 rfl rfl ?_
  refine z_iload_n (pc := 1) E jd_S_face_1 rfl rfl ?_
  refine z_cV1R (pc := 2) E (c_S_declarationOf l G B h) jc_S_69 jv_S_declarationOf rfl (by assumption) ⟨by decide, by decide⟩ jd_S_face_2 (Nat.le_of_ble_eq_true rfl) (by decide) (by decide) (fun v2 es2 h2 => ?_)
  obtain ⟨w2, e2⟩ := h2
  rw [e2, w2, hc]
  dsimp only [refD]
  refine z_astore_nN (pc := 5) E jd_S_face_5 rfl (by decide) rfl ?_
  dsimp only [List.set]
  refine z_aload_nN (pc := 6) E jd_S_face_6 rfl rfl ?_
  refine z_ifnonnullN (pc := 7) E jd_S_face_7 ?_
  refine z_iconst (v := -1) (pc := 10) E jd_S_face_10 (by decide) ?_
  exact z_iret E jd_S_face_11 ⟨_, rfl, rfl, rfl⟩
set_option maxHeartbeats 4000000 in
set_option maxRecDepth 100000 in
theorem c_S_member_none (l : Launch) (G : zG) (B : Nat) {es : zE} {o : Nat} {nm sh : List Nat} {D : Nat → DT} {x : Int32} {k m : Int32} (h : sA G B es o nm sh D) (hc : cnum D x = none) : Tr l G B jy_S_member jb_S_member 5 (some .int) 6 0 0 [.ref (B + o), .int x, .int k, .int m] es (pI fun v es' => v = -1 ∧ es' = es) := by
  have h1 := h.1
  refine Tr.of (ls := [some (.ref (B + o)), some (.int x), some (.int k), some (.int m), none]) (by decide +kernel) (Nat.le_of_ble_eq_true rfl) rfl ?_
  intro zp ze zs zm zb zt zc E
  refine z_aload_n (pc := 0) E jd_S_member_0 rfl rfl ?_
  refine z_iload_n (pc := 1) E jd_S_member_1 rfl rfl ?_
  refine z_cV1R (pc := 2) E (c_S_declarationOf l G B h) jc_S_69 jv_S_declarationOf rfl (by assumption) ⟨by decide, by decide⟩ jd_S_member_2 (Nat.le_of_ble_eq_true rfl) (by decide) (by decide) (fun v2 es2 h2 => ?_)
  obtain ⟨w2, e2⟩ := h2
  rw [e2, w2, hc]
  dsimp only [refD]
  refine z_astoreN (pc := 5) E jd_S_member_5 (by decide) rfl ?_
  dsimp only [List.set]
  refine z_aloadN (pc := 7) E jd_S_member_7 rfl ?_
  refine z_ifnullN (pc := 9) (tgt := 19) E jd_S_member_9 (by decide) ?_
  refine z_iconst (v := -1) (pc := 19) E jd_S_member_19 (by decide) ?_
  exact z_iret E jd_S_member_20 ⟨_, rfl, rfl, rfl⟩
set_option maxHeartbeats 4000000 in
set_option maxRecDepth 100000 in
theorem c_S_remove_none (l : Launch) (G : zG) (B : Nat) {es : zE} {o : Nat} {nm sh : List Nat} {D : Nat → DT} {x : Int32} {k : Int32} (h : sA G B es o nm sh D) (hc : cnum D x = none) : Tr l G B jy_S_remove jb_S_remove 4 (some .int) 5 0 0 [.ref (B + o), .int x, .int k] es (pI fun v es' => v = -1 ∧ es' = es) := by
  have h1 := h.1
  refine Tr.of (ls := [some (.ref (B + o)), some (.int x), some (.int k), none]) (by decide +kernel) (Nat.le_of_ble_eq_true rfl) rfl ?_
  intro zp ze zs zm zb zt zc E
  refine z_aload_n (pc := 0) E jd_S_remove_0 rfl rfl ?_
  refine z_iload_n (pc := 1) E jd_S_remove_1 rfl rfl ?_
  refine z_cV1R (pc := 2) E (c_S_declarationOf l G B h) jc_S_69 jv_S_declarationOf rfl (by assumption) ⟨by decide, by decide⟩ jd_S_remove_2 (Nat.le_of_ble_eq_true rfl) (by decide) (by decide) (fun v2 es2 h2 => ?_)
  obtain ⟨w2, e2⟩ := h2
  rw [e2, w2, hc]
  dsimp only [refD]
  refine z_astore_nN (pc := 5) E jd_S_remove_5 rfl (by decide) rfl ?_
  dsimp only [List.set]
  refine z_aload_nN (pc := 6) E jd_S_remove_6 rfl rfl ?_
  refine z_ifnullN (pc := 7) (tgt := 17) E jd_S_remove_7 (by decide) ?_
  refine z_iconst (v := -1) (pc := 17) E jd_S_remove_17 (by decide) ?_
  exact z_iret E jd_S_remove_18 ⟨_, rfl, rfl, rfl⟩
set_option maxHeartbeats 4000000 in
set_option maxRecDepth 100000 in
theorem c_S_declare_none (l : Launch) (G : zG) (B : Nat) {es : zE} {o : Nat} {nm sh : List Nat} {D : Nat → DT} {x : Int32} {b : Int32} {z : Int64} (h : sA G B es o nm sh D) (hc : cnum D x = none) : Tr l G B jy_S_declare jb_S_declare 6 (some .int) 1 0 0 [.ref (B + o), .int x, .int b, .long z] es (pI fun v es' => v = -1 ∧ es' = es) := by
  have h1 := h.1
  refine Tr.of (ls := [some (.ref (B + o)), some (.int x), some (.int b), some (.long z), none, none]) (by decide +kernel) (Nat.le_of_ble_eq_true rfl) rfl ?_
  intro zp ze zs zm zb zt zc E
  refine z_aload_n (pc := 0) E jd_S_declare_0 rfl rfl ?_
  refine z_iload_n (pc := 1) E jd_S_declare_1 rfl rfl ?_
  refine z_cV1R (pc := 2) E (c_S_declarationOf l G B h) jc_S_69 jv_S_declarationOf rfl (by assumption) ⟨by decide, by decide⟩ jd_S_declare_2 (Nat.le_of_ble_eq_true rfl) (by decide) (by decide) (fun v2 es2 h2 => ?_)
  obtain ⟨w2, e2⟩ := h2
  rw [e2, w2, hc]
  dsimp only [refD]
  refine z_astoreN (pc := 5) E jd_S_declare_5 (by decide) rfl ?_
  dsimp only [List.set]
  refine z_aloadN (pc := 7) E jd_S_declare_7 rfl ?_
  refine z_ifnonnullN (pc := 9) E jd_S_declare_9 ?_
  refine z_iconst (v := -1) (pc := 12) E jd_S_declare_12 (by decide) ?_
  exact z_iret E jd_S_declare_13 ⟨_, rfl, rfl, rfl⟩
set_option maxHeartbeats 4000000 in
set_option maxRecDepth 100000 in
theorem c_S_size_none (l : Launch) (G : zG) (B : Nat) {es : zE} {o : Nat} {nm sh : List Nat} {D : Nat → DT} {x : Int32} (h : sA G B es o nm sh D) (hc : cnum D x = none) : Tr l G B jy_S_size jb_S_size 3 (some .int) 8 0 0 [.ref (B + o), .int x] es (pI fun v es' => v = -1 ∧ es' = es) := by
  have h1 := h.1
  refine Tr.of (ls := [some (.ref (B + o)), some (.int x), none]) (by decide +kernel) (Nat.le_of_ble_eq_true rfl) rfl ?_
  intro zp ze zs zm zb zt zc E
  refine z_aload_n (pc := 0) E jd_S_size_0 rfl rfl ?_
  refine z_iload_n (pc := 1) E jd_S_size_1 rfl rfl ?_
  refine z_cV1R (pc := 2) E (c_S_declarationOf l G B h) jc_S_69 jv_S_declarationOf rfl (by assumption) ⟨by decide, by decide⟩ jd_S_size_2 (Nat.le_of_ble_eq_true rfl) (by decide) (by decide) (fun v2 es2 h2 => ?_)
  obtain ⟨w2, e2⟩ := h2
  rw [e2, w2, hc]
  dsimp only [refD]
  refine z_astore_nN (pc := 5) E jd_S_size_5 rfl (by decide) rfl ?_
  dsimp only [List.set]
  refine z_aload_nN (pc := 6) E jd_S_size_6 rfl rfl ?_
  refine z_ifnonnullN (pc := 7) E jd_S_size_7 ?_
  refine z_iconst (v := -1) (pc := 10) E jd_S_size_10 (by decide) ?_
  exact z_iret E jd_S_size_11 ⟨_, rfl, rfl, rfl⟩
set_option maxHeartbeats 4000000 in
set_option maxRecDepth 100000 in
theorem c_S_byteAt_none (l : Launch) (G : zG) (B : Nat) {es : zE} {o : Nat} {nm sh : List Nat} {D : Nat → DT} {x : Int32} {k : Int32} (h : sA G B es o nm sh D) (hc : cnum D x = none) : Tr l G B jy_S_byteAt jb_S_byteAt 4 (some .int) 8 0 0 [.ref (B + o), .int x, .int k] es (pI fun v es' => v = -1 ∧ es' = es) := by
  have h1 := h.1
  refine Tr.of (ls := [some (.ref (B + o)), some (.int x), some (.int k), none]) (by decide +kernel) (Nat.le_of_ble_eq_true rfl) rfl ?_
  intro zp ze zs zm zb zt zc E
  refine z_aload_n (pc := 0) E jd_S_byteAt_0 rfl rfl ?_
  refine z_iload_n (pc := 1) E jd_S_byteAt_1 rfl rfl ?_
  refine z_cV1R (pc := 2) E (c_S_declarationOf l G B h) jc_S_69 jv_S_declarationOf rfl (by assumption) ⟨by decide, by decide⟩ jd_S_byteAt_2 (Nat.le_of_ble_eq_true rfl) (by decide) (by decide) (fun v2 es2 h2 => ?_)
  obtain ⟨w2, e2⟩ := h2
  rw [e2, w2, hc]
  dsimp only [refD]
  refine z_astore_nN (pc := 5) E jd_S_byteAt_5 rfl (by decide) rfl ?_
  dsimp only [List.set]
  refine z_aload_nN (pc := 6) E jd_S_byteAt_6 rfl rfl ?_
  refine z_ifnonnullN (pc := 7) E jd_S_byteAt_7 ?_
  refine z_iconst (v := -1) (pc := 10) E jd_S_byteAt_10 (by decide) ?_
  exact z_iret E jd_S_byteAt_11 ⟨_, rfl, rfl, rfl⟩
set_option maxHeartbeats 4000000 in
set_option maxRecDepth 100000 in
theorem c_S_part_none (l : Launch) (G : zG) (B : Nat) {es : zE} {o : Nat} {nm sh : List Nat} {D : Nat → DT} {x : Int32} {k : Int32} (h : sA G B es o nm sh D) (hc : cnum D x = none) : Tr l G B jy_S_part jb_S_part 4 (some .int) 8 0 0 [.ref (B + o), .int x, .int k] es (pI fun v es' => v = -1 ∧ es' = es) := by
  have h1 := h.1
  refine Tr.of (ls := [some (.ref (B + o)), some (.int x), some (.int k), none]) (by decide +kernel) (Nat.le_of_ble_eq_true rfl) rfl ?_
  intro zp ze zs zm zb zt zc E
  refine z_aload_n (pc := 0) E jd_S_part_0 rfl rfl ?_
  refine z_iload_n (pc := 1) E jd_S_part_1 rfl rfl ?_
  refine z_cV1R (pc := 2) E (c_S_declarationOf l G B h) jc_S_69 jv_S_declarationOf rfl (by assumption) ⟨by decide, by decide⟩ jd_S_part_2 (Nat.le_of_ble_eq_true rfl) (by decide) (by decide) (fun v2 es2 h2 => ?_)
  obtain ⟨w2, e2⟩ := h2
  rw [e2, w2, hc]
  dsimp only [refD]
  refine z_astore_nN (pc := 5) E jd_S_part_5 rfl (by decide) rfl ?_
  dsimp only [List.set]
  refine z_aload_nN (pc := 6) E jd_S_part_6 rfl rfl ?_
  refine z_ifnullN (pc := 7) (tgt := 20) E jd_S_part_7 (by decide) ?_
  refine z_iconst (v := -1) (pc := 20) E jd_S_part_20 (by decide) ?_
  exact z_iret E jd_S_part_21 ⟨_, rfl, rfl, rfl⟩
set_option maxHeartbeats 4000000 in
set_option maxRecDepth 100000 in
theorem c_S_count_none (l : Launch) (G : zG) (B : Nat) {es : zE} {o : Nat} {nm sh : List Nat} {D : Nat → DT} {x : Int32} {k : Int32} (h : sA G B es o nm sh D) (hc : cnum D x = none) : Tr l G B jy_S_count jb_S_count 4 (some .int) 1 0 0 [.ref (B + o), .int x, .int k] es (pI fun v es' => v = -1 ∧ es' = es) := by
  have h1 := h.1
  refine Tr.of (ls := [some (.ref (B + o)), some (.int x), some (.int k), none]) (by decide +kernel) (Nat.le_of_ble_eq_true rfl) rfl ?_
  intro zp ze zs zm zb zt zc E
  refine z_aload_n (pc := 0) E jd_S_count_0 rfl rfl ?_
  refine z_iload_n (pc := 1) E jd_S_count_1 rfl rfl ?_
  refine z_cV1R (pc := 2) E (c_S_declarationOf l G B h) jc_S_69 jv_S_declarationOf rfl (by assumption) ⟨by decide, by decide⟩ jd_S_count_2 (Nat.le_of_ble_eq_true rfl) (by decide) (by decide) (fun v2 es2 h2 => ?_)
  obtain ⟨w2, e2⟩ := h2
  rw [e2, w2, hc]
  dsimp only [refD]
  refine z_astore_nN (pc := 5) E jd_S_count_5 rfl (by decide) rfl ?_
  dsimp only [List.set]
  refine z_aload_nN (pc := 6) E jd_S_count_6 rfl rfl ?_
  refine z_ifnonnullN (pc := 7) E jd_S_count_7 ?_
  refine z_iconst (v := -1) (pc := 10) E jd_S_count_10 (by decide) ?_
  exact z_iret E jd_S_count_11 ⟨_, rfl, rfl, rfl⟩
set_option maxHeartbeats 4000000 in
set_option maxRecDepth 100000 in
theorem c_S_id_none (l : Launch) (G : zG) (B : Nat) {es : zE} {o : Nat} {nm sh : List Nat} {D : Nat → DT} {x : Int32} (h : sA G B es o nm sh D) (hc : cnum D x = none) : Tr l G B jy_S_id jb_S_id 3 (some .long) 8 0 0 [.ref (B + o), .int x] es (pL fun v es' => v = -9000000000000000001 ∧ es' = es) := by
  have h1 := h.1
  refine Tr.of (ls := [some (.ref (B + o)), some (.int x), none]) (by decide +kernel) (Nat.le_of_ble_eq_true rfl) rfl ?_
  intro zp ze zs zm zb zt zc E
  refine z_aload_n (pc := 0) E jd_S_id_0 rfl rfl ?_
  refine z_iload_n (pc := 1) E jd_S_id_1 rfl rfl ?_
  refine z_cV1R (pc := 2) E (c_S_declarationOf l G B h) jc_S_69 jv_S_declarationOf rfl (by assumption) ⟨by decide, by decide⟩ jd_S_id_2 (Nat.le_of_ble_eq_true rfl) (by decide) (by decide) (fun v2 es2 h2 => ?_)
  obtain ⟨w2, e2⟩ := h2
  rw [e2, w2, hc]
  dsimp only [refD]
  refine z_astore_nN (pc := 5) E jd_S_id_5 rfl (by decide) rfl ?_
  dsimp only [List.set]
  refine z_aload_nN (pc := 6) E jd_S_id_6 rfl rfl ?_
  refine z_ifnonnullN (pc := 7) E jd_S_id_7 ?_
  refine z_ldc2 (pc := 10) E jw_309 jd_S_id_10 ?_
  exact z_lret E jd_S_id_13 ⟨_, rfl, rfl, rfl⟩
set_option maxHeartbeats 4000000 in
set_option maxRecDepth 100000 in
theorem c_S_hash_none (l : Launch) (G : zG) (B : Nat) {es : zE} {o : Nat} {nm sh : List Nat} {D : Nat → DT} {x : Int32} {k : Int32} (h : sA G B es o nm sh D) (hc : cnum D x = none) : Tr l G B jy_S_hash jb_S_hash 4 (some .long) 8 0 0 [.ref (B + o), .int x, .int k] es (pL fun v es' => v = -9000000000000000001 ∧ es' = es) := by
  have h1 := h.1
  refine Tr.of (ls := [some (.ref (B + o)), some (.int x), some (.int k), none]) (by decide +kernel) (Nat.le_of_ble_eq_true rfl) rfl ?_
  intro zp ze zs zm zb zt zc E
  refine z_aload_n (pc := 0) E jd_S_hash_0 rfl rfl ?_
  refine z_iload_n (pc := 1) E jd_S_hash_1 rfl rfl ?_
  refine z_cV1R (pc := 2) E (c_S_declarationOf l G B h) jc_S_69 jv_S_declarationOf rfl (by assumption) ⟨by decide, by decide⟩ jd_S_hash_2 (Nat.le_of_ble_eq_true rfl) (by decide) (by decide) (fun v2 es2 h2 => ?_)
  obtain ⟨w2, e2⟩ := h2
  rw [e2, w2, hc]
  dsimp only [refD]
  refine z_astore_nN (pc := 5) E jd_S_hash_5 rfl (by decide) rfl ?_
  dsimp only [List.set]
  refine z_aload_nN (pc := 6) E jd_S_hash_6 rfl rfl ?_
  refine z_ifnullN (pc := 7) (tgt := 19) E jd_S_hash_7 (by decide) ?_
  refine z_ldc2 (pc := 19) E jw_309 jd_S_hash_19 ?_
  exact z_lret E jd_S_hash_22 ⟨_, rfl, rfl, rfl⟩
