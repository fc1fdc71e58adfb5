/-! entries and rows of them -/
abbrev Ent : Type := Nat × Int32 × List Nat × List Nat
def en (G : zG) (B : Nat) (es : zE) (q : Nat) (e : Ent) : Prop := es[q]? = some (.inr (6, [.int (nI e.1), .int e.2.1, .ref (B + (q + 1)), .ref (B + (q + 3))])) ∧ tx G B es (q + 1) e.2.2.1 ∧ tx G B es (q + 3) e.2.2.2 ∧ e.1 < 5
theorem en.kept {G : zG} {B : Nat} {es es' : zE} {q : Nat} {e : Ent} (h : en G B es q e) (hk : ∀ j, q ≤ j → j < q + 5 → es'[j]? = es[j]?) : en G B es' q e :=
  ⟨(hk q (by omega) (by omega)).trans h.1, h.2.1.kept (fun j h1 h2 => hk j (by omega) (by omega)), h.2.2.1.kept (fun j h1 h2 => hk j (by omega) (by omega)), h.2.2.2⟩
theorem en.fr {G : zG} {B : Nat} {es es' : zE} {q lo hi : Nat} {e : Ent} (h : en G B es q e) (hk : Fr es es' lo hi) (ho : q + 5 ≤ lo ∨ hi ≤ q) : en G B es' q e := h.kept (fun j h1 h2 => hk.2 j (by omega))
def keyC (k : Nat) (n s n' s' : List Nat) : Int := if k = 1 then cmpZ s s' else if k = 2 then (if cmpZ n n' = 0 then cmpZ s s' else cmpZ n n') else if k = 3 then 0 else cmpZ n n'
def entC (e : Ent) (k' : Nat) (n' s' : List Nat) : Int := if e.1 = k' then keyC e.1 e.2.2.1 e.2.2.2 n' s' else (e.1 : Int) - k'
theorem rf_some (x : Nat) : va_rf (some x) = .ref x := rfl
theorem i0_toInt {v : Int32} : v = 0 ↔ v.toInt = 0 := ⟨fun h => by rw [h]; rfl, fun h => Int32.toInt_inj.mp (by rw [h]; rfl)⟩
theorem ilt_toInt {v : Int32} : v < 0 ↔ v.toInt < 0 := Int32.lt_iff_toInt_lt
theorem ige_toInt {v : Int32} : 0 ≤ v ↔ 0 ≤ v.toInt := Int32.le_iff_toInt_le
theorem lt5 {k : Nat} (h : k < 5) : k = 0 ∨ k = 1 ∨ k = 2 ∨ k = 3 ∨ k = 4 := by omega
set_option maxHeartbeats 4000000 in
set_option maxRecDepth 100000 in
theorem c_E_compareWith (l : Launch) (G : zG) (B : Nat) {es : zE} {q pn ps k' : Nat} {e : Ent} {n' s' : List Nat} (h : en G B es q e) (hn : tx G B es pn n') (hs : tx G B es ps s') (hk' : k' < 5) : Tr l G B jy_E_compareWith jb_E_compareWith 5 (some .int) 2 0 0 [.ref (B + q), .int (nI k'), .ref (B + pn), .ref (B + ps)] es (pI fun v es' => v.toInt = entC e k' n' s' ∧ es' = es) := by
  obtain ⟨k, m, nn, ss⟩ := e
  obtain ⟨h1, h2, h3, h4⟩ := h
  dsimp only at h1 h2 h3 h4
  obtain ⟨fn, i1, i2, i3, i4, i5⟩ := id h2
  obtain ⟨fs, j1, j2, j3, j4, j5⟩ := id h3
  refine Tr.of (ls := [some (.ref (B + q)), some (.int (nI k')), some (.ref (B + pn)), some (.ref (B + ps)), none]) (by decide +kernel) (Nat.le_of_ble_eq_true rfl) rfl ?_
  intro zp ze zs zm zb zt zc E
  refine z_aload_n (pc := 0) E jd_E_compareWith_0 rfl rfl ?_
  refine z_get (pc := 1) E jf_E_9 jd_E_compareWith_1 (by assumption) (by rfl) ?_
  refine z_iload_n (pc := 4) E jd_E_compareWith_4 rfl rfl ?_
  refine z_icmp_eq (pc := 5) (tgt := 15) E jd_E_compareWith_5 (by decide) (fun c5 => ?_) (fun c5 => ?_)
  · have hkk : k = k' := ceq c5
    subst hkk
    refine z_aload_n (pc := 15) E jd_E_compareWith_15 rfl rfl ?_
    refine z_get (pc := 16) E jf_E_9 jd_E_compareWith_16 (by assumption) (by rfl) ?_
    have hE : ∀ z : Int, keyC k nn ss n' s' = z → entC (k, m, nn, ss) k n' s' = z := fun z hz => by rw [entC, if_pos rfl]; exact hz
    rcases lt5 h4 with rfl | rfl | rfl | rfl | rfl
    · refine z_tableOut (pc := 19) (tgt := 84) E jd_E_compareWith_19 (by decide) (by decide) ?_
      refine z_aload_n (pc := 84) E jd_E_compareWith_84 rfl rfl ?_
      refine z_get (pc := 85) E jf_E_21 jd_E_compareWith_85 (by assumption) (by rfl) ?_
      refine z_aload_n (pc := 88) E jd_E_compareWith_88 rfl rfl ?_
      refine z_cV1I (pc := 89) E (c_T_compareWith l G B h2 hn) jc_E_32 jv_T_compareWith rfl (by assumption) ⟨by decide, by decide⟩ jd_E_compareWith_89 (by decide) (by decide) (by decide) (fun v89 es89 h89 => ?_)
      obtain ⟨w89, e89⟩ := h89
      rw [e89]
      exact z_iret E jd_E_compareWith_92 ⟨_, rfl, by rw [w89]; exact (hE _ rfl).symm, rfl⟩
    · refine z_tableIn (pc := 19) (tgt := 44) (off := 25) E jd_E_compareWith_19 (by decide) (by decide) (by decide) (by decide) ?_
      refine z_aload_n (pc := 44) E jd_E_compareWith_44 rfl rfl ?_
      refine z_get (pc := 45) E jf_E_25 jd_E_compareWith_45 (by assumption) (by rfl) ?_
      refine z_aload_n (pc := 48) E jd_E_compareWith_48 rfl rfl ?_
      refine z_cV1I (pc := 49) E (c_T_compareWith l G B h3 hs) jc_E_32 jv_T_compareWith rfl (by assumption) ⟨by decide, by decide⟩ jd_E_compareWith_49 (by decide) (by decide) (by decide) (fun v49 es49 h49 => ?_)
      obtain ⟨w49, e49⟩ := h49
      rw [e49]
      exact z_iret E jd_E_compareWith_52 ⟨_, rfl, by rw [w49]; exact (hE _ rfl).symm, rfl⟩
    · refine z_tableIn (pc := 19) (tgt := 53) (off := 34) E jd_E_compareWith_19 (by decide) (by decide) (by decide) (by decide) ?_
      refine z_aload_n (pc := 53) E jd_E_compareWith_53 rfl rfl ?_
      refine z_get (pc := 54) E jf_E_21 jd_E_compareWith_54 (by assumption) (by rfl) ?_
      refine z_aload_n (pc := 57) E jd_E_compareWith_57 rfl rfl ?_
      refine z_cV1I (pc := 58) E (c_T_compareWith l G B h2 hn) jc_E_32 jv_T_compareWith rfl (by assumption) ⟨by decide, by decide⟩ jd_E_compareWith_58 (by decide) (by decide) (by decide) (fun v58 es58 h58 => ?_)
      obtain ⟨w58, e58⟩ := h58
      rw [e58]
      refine z_istore (pc := 61) E jd_E_compareWith_61 (by decide) rfl ?_
      dsimp only [List.set]
      refine z_iload (pc := 63) E jd_E_compareWith_63 rfl ?_
      refine z_if_eq (pc := 65) (tgt := 73) E jd_E_compareWith_65 (by decide) (fun c65 => ?_) (fun c65 => ?_)
      · have hz : cmpZ nn n' = 0 := by rw [← w58]; exact i0_toInt.mp c65
        have hE2 := hE (cmpZ ss s') (by show (if cmpZ nn n' = 0 then _ else _) = _; rw [if_pos hz])
        refine z_aload_n (pc := 73) E jd_E_compareWith_73 rfl rfl ?_
        refine z_get (pc := 74) E jf_E_25 jd_E_compareWith_74 (by assumption) (by rfl) ?_
        refine z_aload_n (pc := 77) E jd_E_compareWith_77 rfl rfl ?_
        refine z_cV1I (pc := 78) E (c_T_compareWith l G B h3 hs) jc_E_32 jv_T_compareWith rfl (by assumption) ⟨by decide, by decide⟩ jd_E_compareWith_78 (by decide) (by decide) (by decide) (fun v78 es78 h78 => ?_)
        obtain ⟨w78, e78⟩ := h78
        rw [e78]
        exact z_iret E jd_E_compareWith_81 ⟨_, rfl, by rw [hE2]; assumption, rfl⟩
      · have hz : ¬ cmpZ nn n' = 0 := by rw [← w58]; exact fun q => c65 (i0_toInt.mpr q)
        have hE2 := hE (cmpZ nn n') (by show (if cmpZ nn n' = 0 then _ else _) = _; rw [if_neg hz])
        refine z_iload (pc := 68) E jd_E_compareWith_68 rfl ?_
        refine z_goto (pc := 70) (tgt := 81) E jd_E_compareWith_70 (by decide) ?_
        exact z_iret E jd_E_compareWith_81 ⟨_, rfl, by rw [hE2]; assumption, rfl⟩
    · refine z_tableIn (pc := 19) (tgt := 82) (off := 63) E jd_E_compareWith_19 (by decide) (by decide) (by decide) (by decide) ?_
      refine z_iconst (v := 0) (pc := 82) E jd_E_compareWith_82 (by decide) ?_
      exact z_iret E jd_E_compareWith_83 ⟨_, rfl, (hE 0 rfl).symm, rfl⟩
    · refine z_tableOut (pc := 19) (tgt := 84) E jd_E_compareWith_19 (by decide) (by decide) ?_
      refine z_aload_n (pc := 84) E jd_E_compareWith_84 rfl rfl ?_
      refine z_get (pc := 85) E jf_E_21 jd_E_compareWith_85 (by assumption) (by rfl) ?_
      refine z_aload_n (pc := 88) E jd_E_compareWith_88 rfl rfl ?_
      refine z_cV1I (pc := 89) E (c_T_compareWith l G B h2 hn) jc_E_32 jv_T_compareWith rfl (by assumption) ⟨by decide, by decide⟩ jd_E_compareWith_89 (by decide) (by decide) (by decide) (fun v89 es89 h89 => ?_)
      obtain ⟨w89, e89⟩ := h89
      rw [e89]
      exact z_iret E jd_E_compareWith_92 ⟨_, rfl, by rw [w89]; exact (hE _ rfl).symm, rfl⟩
  · have hne : ¬ k = k' := nceq c5
    refine z_aload_n (pc := 8) E jd_E_compareWith_8 rfl rfl ?_
    refine z_get (pc := 9) E jf_E_9 jd_E_compareWith_9 (by assumption) (by rfl) ?_
    refine z_iload_n (pc := 12) E jd_E_compareWith_12 rfl rfl ?_
    refine z_isub (pc := 13) E jd_E_compareWith_13 ?_
    exact z_iret E jd_E_compareWith_14 ⟨_, rfl, by rw [nI_sub_toInt (by omega) (by omega), entC, if_neg hne], rfl⟩
set_option maxHeartbeats 4000000 in
set_option maxRecDepth 100000 in
theorem c_E_become (l : Launch) (G : zG) (B : Nat) {es : zE} {q pn ps k' : Nat} {m' : Int32} {e : Ent} {n' s' : List Nat} (h : en G B es q e) (hn : tx G B es pn n') (hs : tx G B es ps s') (hk' : k' < 5) (d1 : pn + 2 ≤ q ∨ q + 5 ≤ pn) (d2 : ps + 2 ≤ q ∨ q + 5 ≤ ps) : Tr l G B jy_E_become jb_E_become 5 none 3 0 0 [.ref (B + q), .int (nI k'), .int m', .ref (B + pn), .ref (B + ps)] es (pV fun es' => en G B es' q (k', m', n', s') ∧ Fr es es' q (q + 5)) := by
  obtain ⟨k, m, nn, ss⟩ := e
  obtain ⟨h1, h2, h3, h4⟩ := h
  dsimp only at h1 h2 h3 h4
  refine Tr.of (ls := [some (.ref (B + q)), some (.int (nI k')), some (.int m'), some (.ref (B + pn)), some (.ref (B + ps))]) (by decide +kernel) (Nat.le_of_ble_eq_true rfl) rfl ?_
  intro zp ze zs zm zb zt zc E
  refine z_aload_n (pc := 0) E jd_E_become_0 rfl rfl ?_
  refine z_iload_n (pc := 1) E jd_E_become_1 rfl rfl ?_
  refine z_put (pc := 2) E jp_E_9 jd_E_become_2 (by assumption) (Nat.le_of_ble_eq_true rfl) rfl rfl (fun es2 he2 => ?_)
  dsimp only [List.set] at he2
  have F2 : Fr es es2 q (q + 1) := Fr.set he2 (by omega) (by omega)
  have k1 := zs_eq he2 h1
  refine z_aload_n (pc := 5) E jd_E_become_5 rfl rfl ?_
  refine z_iload_n (pc := 6) E jd_E_become_6 rfl rfl ?_
  refine z_put (pc := 7) E jp_E_15 jd_E_become_7 (by assumption) (Nat.le_of_ble_eq_true rfl) rfl rfl (fun es7 he7 => ?_)
  dsimp only [List.set] at he7
  have F7 : Fr es es7 q (q + 1) := F2.trs (Fr.set he7 (by omega) (by omega))
  have k2 := zs_eq he7 k1
  have t1 := h2.fr F7 (by omega)
  have t2 := hn.fr F7 (by omega)
  obtain ⟨_, i1, _⟩ := id t1
  refine z_aload_n (pc := 10) E jd_E_become_10 rfl rfl ?_
  refine z_get (pc := 11) E jf_E_21 jd_E_become_11 (by assumption) (by rfl) ?_
  refine z_aload_n (pc := 14) E jd_E_become_14 rfl rfl ?_
  refine z_cV1V (pc := 15) E (c_T_become l G B t1 t2 (by omega)) jc_E_28 jv_T_become rfl (by assumption) ⟨by decide, by decide⟩ jd_E_become_15 (by decide) (by decide) (by decide) (fun es15 h15 => ?_)
  obtain ⟨w15, F15⟩ := h15
  have t3 := (h3.fr F7 (by omega)).fr F15 (by omega)
  have t4 := (hs.fr F7 (by omega)).fr F15 (by omega)
  have k3 := F15.at (by omega) k2
  obtain ⟨_, i2, _⟩ := id t3
  refine z_aload_n (pc := 18) E jd_E_become_18 rfl rfl ?_
  refine z_get (pc := 19) E jf_E_25 jd_E_become_19 (by assumption) (by rfl) ?_
  refine z_aload (pc := 22) E jd_E_become_22 rfl ?_
  refine z_cV1V (pc := 24) E (c_T_become l G B t3 t4 (by omega)) jc_E_28 jv_T_become rfl (by assumption) ⟨by decide, by decide⟩ jd_E_become_24 (by decide) (by decide) (by decide) (fun es24 h24 => ?_)
  obtain ⟨w24, F24⟩ := h24
  have k4 := F24.at (by omega) k3
  have t5 := w15.fr F24 (by omega)
  exact z_vret E jd_E_become_27 ⟨rfl, ⟨k4, t5, w24, hk'⟩, (F7.tr F15 (lo := q) (hi := q + 5) (by omega) (by omega) (by omega) (by omega)).tr F24 (by omega) (by omega) (by omega) (by omega)⟩
def hasM (e : Ent) (z : Int32) : Bool := decide (¬ e.2.1 &&& z = 0)
set_option maxHeartbeats 4000000 in
set_option maxRecDepth 100000 in
theorem c_E_has (l : Launch) (G : zG) (B : Nat) {es : zE} {q : Nat} {e : Ent} {z : Int32} (h : en G B es q e) : Tr l G B jy_E_has jb_E_has 2 (some .boolean) 0 0 0 [.ref (B + q), .int z] es (pI fun v es' => v = (if hasM e z = true then 1 else 0) ∧ es' = es) := by
  obtain ⟨k, m, nn, ss⟩ := e
  obtain ⟨h1, h2, h3, h4⟩ := h
  dsimp only at h1 h2 h3 h4
  refine Tr.of (ls := [some (.ref (B + q)), some (.int z)]) (by decide +kernel) (Nat.le_of_ble_eq_true rfl) rfl ?_
  intro zp ze zs zm zb zt zc E
  refine z_aload_n (pc := 0) E jd_E_has_0 rfl rfl ?_
  refine z_get (pc := 1) E jf_E_15 jd_E_has_1 (by assumption) (by rfl) ?_
  refine z_iload_n (pc := 4) E jd_E_has_4 rfl rfl ?_
  refine z_iand (pc := 5) E jd_E_has_5 ?_
  refine z_if_eq (pc := 6) (tgt := 13) E jd_E_has_6 (by decide) (fun c6 => ?_) (fun c6 => ?_)
  · have hr : hasM (k, m, nn, ss) z = false := by simp [hasM, c6]
    refine z_iconst (v := 0) (pc := 13) E jd_E_has_13 (by decide) ?_
    exact z_zret E rfl jd_E_has_14 ⟨_, rfl, by rw [hr]; rfl, rfl⟩
  · have hr : hasM (k, m, nn, ss) z = true := by simp [hasM, c6]
    refine z_iconst (v := 1) (pc := 9) E jd_E_has_9 (by decide) ?_
    refine z_goto (pc := 10) (tgt := 14) E jd_E_has_10 (by decide) ?_
    exact z_zret E rfl jd_E_has_14 ⟨_, rfl, by rw [hr]; rfl, rfl⟩
def hsh (e : Ent) : Bool := if e.1 = 0 then !(hasM e 2 && (hasM e 8 || hasM e 128)) else (decide (e.1 = 4) || (decide (e.1 = 3) || !hasM e 2))
theorem b01 {b : Bool} (h : (if b = true then (1 : Int32) else 0) = 0) : b = false := by cases b <;> simp at h ⊢
theorem b01n {b : Bool} (h : ¬ (if b = true then (1 : Int32) else 0) = 0) : b = true := by cases b <;> simp at h ⊢
set_option maxHeartbeats 4000000 in
set_option maxRecDepth 100000 in
theorem c_E_isHashed (l : Launch) (G : zG) (B : Nat) {es : zE} {q : Nat} {e : Ent} (h : en G B es q e) : Tr l G B jy_E_isHashed jb_E_isHashed 1 (some .boolean) 1 0 0 [.ref (B + q)] es (pI fun v es' => v = (if hsh e = true then 1 else 0) ∧ es' = es) := by
  have hx := h
  obtain ⟨h1, h2, h3, h4⟩ := h
  refine Tr.of (ls := [some (.ref (B + q))]) (by decide +kernel) (Nat.le_of_ble_eq_true rfl) rfl ?_
  intro zp ze zs zm zb zt zc E
  refine z_aload_n (pc := 0) E jd_E_isHashed_0 rfl rfl ?_
  refine z_get (pc := 1) E jf_E_9 jd_E_isHashed_1 (by assumption) (by rfl) ?_
  refine z_if_ne (pc := 4) (tgt := 40) E jd_E_isHashed_4 (by decide) (fun c4 => ?_) (fun c4 => ?_)
  · have hk : ¬ e.1 = 0 := nceq (b := 0) c4
    refine z_aload_n (pc := 40) E jd_E_isHashed_40 rfl rfl ?_
    refine z_get (pc := 41) E jf_E_9 jd_E_isHashed_41 (by assumption) (by rfl) ?_
    refine z_iconst (v := 4) (pc := 44) E jd_E_isHashed_44 (by decide) ?_
    refine z_icmp_eq (pc := 45) (tgt := 64) E jd_E_isHashed_45 (by decide) (fun c45 => ?_) (fun c45 => ?_)
    · have hr : hsh e = true := by simp [hsh, ceq (b := 4) c45]
      refine z_iconst (v := 1) (pc := 64) E jd_E_isHashed_64 (by decide) ?_
      refine z_goto (pc := 65) (tgt := 69) E jd_E_isHashed_65 (by decide) ?_
      exact z_zret E rfl jd_E_isHashed_69 ⟨_, rfl, by rw [hr]; rfl, rfl⟩
    · refine z_aload_n (pc := 48) E jd_E_isHashed_48 rfl rfl ?_
      refine z_get (pc := 49) E jf_E_9 jd_E_isHashed_49 (by assumption) (by rfl) ?_
      refine z_iconst (v := 3) (pc := 52) E jd_E_isHashed_52 (by decide) ?_
      refine z_icmp_eq (pc := 53) (tgt := 64) E jd_E_isHashed_53 (by decide) (fun c53 => ?_) (fun c53 => ?_)
      · have hr : hsh e = true := by simp [hsh, ceq (b := 3) c53]
        refine z_iconst (v := 1) (pc := 64) E jd_E_isHashed_64 (by decide) ?_
        refine z_goto (pc := 65) (tgt := 69) E jd_E_isHashed_65 (by decide) ?_
        exact z_zret E rfl jd_E_isHashed_69 ⟨_, rfl, by rw [hr]; rfl, rfl⟩
      · refine z_aload_n (pc := 56) E jd_E_isHashed_56 rfl rfl ?_
        refine z_iconst (v := 2) (pc := 57) E jd_E_isHashed_57 (by decide) ?_
        refine z_cV1I (pc := 58) E (c_E_has l G B hx) jc_E_36 jv_E_has rfl (by assumption) ⟨by decide, by decide⟩ jd_E_isHashed_58 (by decide) (by decide) (by decide) (fun v58 es58 h58 => ?_)
        obtain ⟨w58, e58⟩ := h58
        rw [e58, w58]
        refine z_if_ne (pc := 61) (tgt := 68) E jd_E_isHashed_61 (by decide) (fun c61 => ?_) (fun c61 => ?_)
        · have hr : hsh e = false := by simp [hsh, hk, nceq (b := 4) c45, nceq (b := 3) c53, b01n c61]
          refine z_iconst (v := 0) (pc := 68) E jd_E_isHashed_68 (by decide) ?_
          exact z_zret E rfl jd_E_isHashed_69 ⟨_, rfl, by rw [hr]; rfl, rfl⟩
        · have hr : hsh e = true := by simp [hsh, hk, b01 c61]
          refine z_iconst (v := 1) (pc := 64) E jd_E_isHashed_64 (by decide) ?_
          refine z_goto (pc := 65) (tgt := 69) E jd_E_isHashed_65 (by decide) ?_
          exact z_zret E rfl jd_E_isHashed_69 ⟨_, rfl, by rw [hr]; rfl, rfl⟩
  · have hk : e.1 = 0 := ceq (b := 0) c4
    refine z_aload_n (pc := 7) E jd_E_isHashed_7 rfl rfl ?_
    refine z_iconst (v := 2) (pc := 8) E jd_E_isHashed_8 (by decide) ?_
    refine z_cV1I (pc := 9) E (c_E_has l G B hx) jc_E_36 jv_E_has rfl (by assumption) ⟨by decide, by decide⟩ jd_E_isHashed_9 (by decide) (by decide) (by decide) (fun v9 es9 h9 => ?_)
    obtain ⟨w9, e9⟩ := h9
    rw [e9, w9]
    refine z_if_eq (pc := 12) (tgt := 34) E jd_E_isHashed_12 (by decide) (fun c12 => ?_) (fun c12 => ?_)
    · have hr : hsh e = true := by simp [hsh, hk, b01 c12]
      refine z_iconst (v := 1) (pc := 34) E jd_E_isHashed_34 (by decide) ?_
      refine z_goto (pc := 35) (tgt := 39) E jd_E_isHashed_35 (by decide) ?_
      exact z_zret E rfl jd_E_isHashed_39 ⟨_, rfl, by rw [hr]; rfl, rfl⟩
    · refine z_aload_n (pc := 15) E jd_E_isHashed_15 rfl rfl ?_
      refine z_bipush (v := 8) (pc := 16) E jd_E_isHashed_16 (by decide) ?_
      refine z_cV1I (pc := 18) E (c_E_has l G B hx) jc_E_36 jv_E_has rfl (by assumption) ⟨by decide, by decide⟩ jd_E_isHashed_18 (by decide) (by decide) (by decide) (fun v18 es18 h18 => ?_)
      obtain ⟨w18, e18⟩ := h18
      rw [e18, w18]
      refine z_if_ne (pc := 21) (tgt := 38) E jd_E_isHashed_21 (by decide) (fun c21 => ?_) (fun c21 => ?_)
      · have hr : hsh e = false := by simp [hsh, hk, b01n c12, b01n c21]
        refine z_iconst (v := 0) (pc := 38) E jd_E_isHashed_38 (by decide) ?_
        exact z_zret E rfl jd_E_isHashed_39 ⟨_, rfl, by rw [hr]; rfl, rfl⟩
      · refine z_aload_n (pc := 24) E jd_E_isHashed_24 rfl rfl ?_
        refine z_sipush (v := 128) (pc := 25) E jd_E_isHashed_25 (by decide) ?_
        refine z_cV1I (pc := 28) E (c_E_has l G B hx) jc_E_36 jv_E_has rfl (by assumption) ⟨by decide, by decide⟩ jd_E_isHashed_28 (by decide) (by decide) (by decide) (fun v28 es28 h28 => ?_)
        obtain ⟨w28, e28⟩ := h28
        rw [e28, w28]
        refine z_if_ne (pc := 31) (tgt := 38) E jd_E_isHashed_31 (by decide) (fun c31 => ?_) (fun c31 => ?_)
        · have hr : hsh e = false := by simp [hsh, hk, b01n c12, b01n c31]
          refine z_iconst (v := 0) (pc := 38) E jd_E_isHashed_38 (by decide) ?_
          exact z_zret E rfl jd_E_isHashed_39 ⟨_, rfl, by rw [hr]; rfl, rfl⟩
        · have hr : hsh e = true := by simp [hsh, hk, b01n c12, b01 c21, b01 c31]
          refine z_iconst (v := 1) (pc := 34) E jd_E_isHashed_34 (by decide) ?_
          refine z_goto (pc := 35) (tgt := 39) E jd_E_isHashed_35 (by decide) ?_
          exact z_zret E rfl jd_E_isHashed_39 ⟨_, rfl, by rw [hr]; rfl, rfl⟩
