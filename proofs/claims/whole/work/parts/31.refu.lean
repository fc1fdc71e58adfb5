/-! class and reference: the same rows; the reference's bytes -/
/-- the class's t and the reference's t' hold the same, the class in canonical order -/
def RR (t t' : DT) : Prop := t.1 = t'.1 ∧ t.2.1 = t'.2.1 ∧ t.2.2.1 = t'.2.2.1 ∧ t.2.2.2.2.1 = t'.2.2.2.2.1 ∧ t.2.2.2.2.2.2.1 = t'.2.2.2.2.2.2.1 ∧ t.2.2.2.2.2.2.2.1 = t'.2.2.2.2.2.2.2.1 ∧ t.2.2.2.2.2.2.2.2 = t'.2.2.2.2.2.2.2.2 ∧ (lst t.2.2.2.1 t.2.2.2.2.1).Perm (lst t'.2.2.2.1 t.2.2.2.2.1) ∧ (lst t.2.2.2.2.2.1 t.2.2.2.2.2.2.1).Perm (lst t'.2.2.2.2.2.1 t.2.2.2.2.2.2.1) ∧ srt t.2.2.2.1 t.2.2.2.2.1 ∧ srt t.2.2.2.2.2.1 t.2.2.2.2.2.2.1
theorem ofK_ref {E E' : Nat → Ent} {u : Nat} (hp : (lst E u).Perm (lst E' u)) (k : Nat) : ∀ e, e ∈ ofK E k u ↔ (∃ j, j < u ∧ E' j = e) ∧ e.1 = k := by
  intro e
  rw [ofK_mem, ← lst_mem, ← lst_mem, hp.mem_iff]
theorem allB3 {E : Nat → Ent} {u : Nat} (hs : srt E u) : allB E 3 u = if 0 < tal E 3 u then ut (kx 0) ++ (num 8 ++ ut (kx 1)) else [] := by
  have ht : tal E 3 u = (ofK E 3 u).length := by rw [tal_cnt, List.countP_eq_length_filter]; rfl
  have hp := ofK_pw (k := 3) hs
  have hm : ∀ e ∈ ofK E 3 u, e.1 = 3 := fun e he => (ofK_mem.mp he).2
  rw [allB_flt, ht]
  generalize ofK E 3 u = L at hp hm
  match L, hp, hm with
  | [], _, _ => rfl
  | [x], _, hm =>
    have hx := hm x List.mem_cons_self
    rw [if_pos (by simp)]
    simp [flt, hsh, entB, hx]
  | x :: y :: L', hp, _ =>
    have := (List.pairwise_cons.mp hp).1 y List.mem_cons_self
    exact absurd this (by unfold kC keyC; simp)
theorem by5_len {nm : List Nat} {mo : Int32} {Ef Em : Nat → Ent} {uf um : Nat} (hn : nm.length ≤ 24) (h4 : uf ≤ 4) (h10 : um ≤ 10) (hF : ∀ j, j < uf → (Ef j).2.2.1.length ≤ 24) (hM : ∀ j, j < um → (Em j).2.2.1.length ≤ 24 ∧ (Em j).2.2.2.length ≤ 24) : (by5 nm mo Ef uf Em um).length ≤ 694 := by
  have lf := allB_face (E := Ef) uf hF
  have lm := allB_mem (E := Em) um hM
  rw [by5, by4, by3, by2, by1, hdr]
  simp only [List.length_append, ut_len, num_len]
  omega
theorem RR.len {S : MS} {c : Nat} {t t' : DT} (hR : RR t t') (hh : mC S c t') : (dBy t).length ≤ 694 := by
  obtain ⟨r1, r2, r3, r4, r5, r6, r7, r8, r9, r10, r11⟩ := hR
  obtain ⟨⟨d3, d4, d5, d7, d8, dn, du, dF⟩, d6, dm, dM⟩ := hh
  refine by5_len (by rw [r2]; exact dn.2.1) (by rw [r4]; exact du) (by rw [r5]; exact dm) (fun j hj => ?_) (fun j hj => ?_)
  · obtain ⟨i, hi, e⟩ := lst_mem.mp (r8.mem_iff.mp (lst_mem.mpr ⟨j, hj, rfl⟩))
    rw [← e]
    exact (dF i (by rw [← r4]; exact hi)).2.2.1
  · obtain ⟨i, hi, e⟩ := lst_mem.mp (r9.mem_iff.mp (lst_mem.mpr ⟨j, hj, rfl⟩))
    rw [← e]
    have := dM i (by rw [← r5]; exact hi)
    exact ⟨this.2.2.2.1.2.1, this.2.2.2.2.2.1⟩
theorem flt4 {x : Ent} (h : x.1 = 4) : (if hsh x = true then entB x else []) = ut x.2.2.1 := by
  rw [if_pos (by unfold hsh; rw [if_neg (by omega)]; simp [h])]
  unfold entB
  simp [h]
theorem and512 (x : Int32) : (x &&& 1553) &&& 512 = x &&& 512 := by
  rw [Int32.and_assoc]
  rfl
theorem hmo_0 {mo : Int32} (t : Nat) (h : mo &&& 512 = 0) : hmo mo t = mo &&& 1553 := by rw [hmo, if_pos h]
theorem hmo_1 {mo : Int32} {t : Nat} (h : ¬ mo &&& 512 = 0) (h2 : 0 < t) : hmo mo t = (mo &&& 1553) ||| 1024 := by rw [hmo, if_neg h, if_pos h2]
theorem hmo_2 {mo : Int32} {t : Nat} (h : ¬ mo &&& 512 = 0) (h2 : ¬ 0 < t) : hmo mo t = (mo &&& 1553) &&& (-1025) := by rw [hmo, if_neg h, if_neg h2]
set_option maxHeartbeats 4000000 in
set_option maxRecDepth 100000 in
theorem c_M_build (l : Launch) (G : zG) (B : Nat) {es : zE} {r c : Nat} {S : MS} {z a e : Int32} {t t' : DT} (h0 : mO G B es r S z a e) (hc4 : c < 4) (hh : mC S c t') (hR : RR t t') : Tr l G B jy_M_build jb_M_build 5 none 4 0 0 [.ref (B + r), .int (nI c)] es (pV fun es' => ∃ P, bO G B es' r S P a e (dBy t) ∧ (∀ k, k < 6 → P k = nI (dOf t k)) ∧ Fr es es' r (r + 15)) := by
  have hlen := hR.len hh
  obtain ⟨r1, r2, r3, r4, r5, r6, r7, r8, r9, r10, r11⟩ := hR
  obtain ⟨⟨d3, d4, d5, d7, d8, dn, duf, dF⟩, d6, dum, dM⟩ := id hh
  obtain ⟨m0, a1, a2, a3, a4, a5, a6, a7, a8, a9, a10, a11, a12, a13, a14⟩ := id h0
  have nl := dn.2.1
  generalize hnm : t.2.1 = nm at *
  generalize hmo' : t.2.2.1 = mo at *
  generalize hEf : t.2.2.2.1 = Ef at *
  generalize huf : t.2.2.2.2.1 = uf at *
  generalize hEm : t.2.2.2.2.2.1 = Em at *
  generalize hum : t.2.2.2.2.2.2.1 = um at *
  have hdB : dBy t = by5 nm mo Ef uf Em um := by rw [dBy, hnm, hmo', hEf, huf, hEm, hum]
  have hdO : ∀ k, dOf t k = byo nm mo Ef uf Em um k := by intro k; rw [dOf, hnm, hmo', hEf, huf, hEm, hum]
  rw [hdB] at hlen
  have hl4 : (by4 nm mo Ef uf Em um).length + (allB Em 2 um).length ≤ 694 := by rw [by5, List.length_append] at hlen; exact hlen
  have hl3 : (by3 nm mo Ef uf Em um).length + (allB Em 1 um).length ≤ 694 := by rw [by4, List.length_append] at hl4; omega
  have hl2 : (by2 nm mo Ef uf Em um).length + (allB Em 3 um).length ≤ 694 := by rw [by3, List.length_append] at hl3; omega
  have hl1 : (by1 nm mo Ef uf Em um).length + (allB Em 0 um).length ≤ 694 := by rw [by2, List.length_append] at hl2; omega
  have hl0 : (hdr nm mo (tal Em 2 um)).length + (allB Ef 4 uf).length ≤ 694 := by rw [by1, List.length_append] at hl1; omega
  have kf := fun k => ofK_ref r9 k
  have kp := fun k => ofK_pw (k := k) r11
  have kl : ∀ k, (ofK Em k um).length ≤ 10 := fun k => Nat.le_trans ofK_len (by rw [r5]; exact dum)
  have t2 := tal_perm r9 2
  have t3 := tal_perm r9 3
  have tl2 := tal_le t'.2.2.2.2.2.1 2 um
  have tl3 := tal_le t'.2.2.2.2.2.1 3 um
  have um10 : um ≤ 10 := by rw [r5]; exact dum
  have uf4 : uf ≤ 4 := by rw [r4]; exact duf
  refine Tr.of (ls := [some (.ref (B + r)), some (.int (nI c)), none, none, none]) (by decide +kernel) (Nat.le_of_ble_eq_true rfl) rfl ?_
  intro zp ze zs zm zb zt zc E
  have t190 : ∀ (x2 x3 x4 : Int32) (P1 : Nat → Int32) (es1 : zE), bO G B es1 r S P1 a e (by3 nm mo Ef uf Em um) → (∀ k, k < 4 → P1 k = nI (byo nm mo Ef uf Em um k)) → Fr es es1 r (r + 15) → Zj zp l ze (zr 4 0 0) zs zm ([.ref (B + r), .int (nI c)] : List Value).toArray zb zt zc (MQ zb (zQ G B (pV fun es' => ∃ P, bO G B es' r S P a e (dBy t) ∧ (∀ k, k < 6 → P k = nI (dOf t k)) ∧ Fr es es' r (r + 15))) ([.ref (B + r), .int (nI c)] : List Value).toArray zs 0 0 (fun q => B ≤ q)) G B 5 0 0 190 [some (.ref (B + r)), some (.int (nI c)), some (.int x2), some (.int x3), some (.int x4)] [] es1 := by
    intro x2 x3 x4 P1 es1 h1 hP F1
    have q0 := h1.obj
    have q12 := h1.c12
    refine z_aload_n (pc := 190) E jd_M_build_190 rfl rfl ?_
    refine z_get (pc := 191) E jf_M_45 jd_M_build_191 (by assumption) (by rfl) ?_
    refine z_iconst (v := 4) (pc := 194) E jd_M_build_194 (by decide) ?_
    refine z_aload_n (pc := 195) E jd_M_build_195 rfl rfl ?_
    refine z_get (pc := 196) E jf_M_92 jd_M_build_196 (by assumption) (by rfl) ?_
    refine z_iast (ti := 1) (pc := 199) E rfl jd_M_build_199 (by assumption) (vp_in_nI (n := 4) (by omega) (by omega)) (fun es199 he199 => ?_)
    rw [show (4 : Int32).toNatClampNeg = 4 from rfl] at he199
    have h2 := h1.part he199
    have q0 := h2.obj
    have F2 := F1.trs (Fr.set (lo := r) (hi := r + 15) he199 (by omega) (by omega))
    refine z_aload_n (pc := 200) E jd_M_build_200 rfl rfl ?_
    refine z_iload_n (pc := 201) E jd_M_build_201 rfl rfl ?_
    refine z_iconst (v := 1) (pc := 202) E jd_M_build_202 (by decide) ?_
    refine z_cV2V (pc := 203) E (c_M_writeMembers l G B (k := 1) (L := ofK Em 1 um) h2 hc4 (by omega) hh rfl r5.symm (kf 1) (kp 1) (kl 1) (by rw [← allB_flt]; omega)) jc_M_123 jv_M_writeMembers rfl (by assumption) ⟨Nat.le_of_ble_eq_true rfl, Nat.le_of_ble_eq_true rfl⟩ jd_M_build_203 (Nat.le_of_ble_eq_true rfl) (by decide) (by decide) (fun es203 h203 => ?_)
    obtain ⟨h3, F3⟩ := h203
    rw [← allB_flt, ← by4] at h3
    have q0 := h3.obj
    have q12 := h3.c12
    have F4 := F2.trs F3
    refine z_aload_n (pc := 206) E jd_M_build_206 rfl rfl ?_
    refine z_get (pc := 207) E jf_M_45 jd_M_build_207 (by assumption) (by rfl) ?_
    refine z_iconst (v := 5) (pc := 210) E jd_M_build_210 (by decide) ?_
    refine z_aload_n (pc := 211) E jd_M_build_211 rfl rfl ?_
    refine z_get (pc := 212) E jf_M_92 jd_M_build_212 (by assumption) (by rfl) ?_
    refine z_iast (ti := 1) (pc := 215) E rfl jd_M_build_215 (by assumption) (vp_in_nI (n := 5) (by omega) (by omega)) (fun es215 he215 => ?_)
    rw [show (5 : Int32).toNatClampNeg = 5 from rfl] at he215
    have h4 := h3.part he215
    have q0 := h4.obj
    have F5 := F4.trs (Fr.set (lo := r) (hi := r + 15) he215 (by omega) (by omega))
    refine z_aload_n (pc := 216) E jd_M_build_216 rfl rfl ?_
    refine z_iload_n (pc := 217) E jd_M_build_217 rfl rfl ?_
    refine z_iconst (v := 2) (pc := 218) E jd_M_build_218 (by decide) ?_
    refine z_cV2V (pc := 219) E (c_M_writeMembers l G B (k := 2) (L := ofK Em 2 um) h4 hc4 (by omega) hh rfl r5.symm (kf 2) (kp 2) (kl 2) (by rw [← allB_flt]; omega)) jc_M_123 jv_M_writeMembers rfl (by assumption) ⟨Nat.le_of_ble_eq_true rfl, Nat.le_of_ble_eq_true rfl⟩ jd_M_build_219 (Nat.le_of_ble_eq_true rfl) (by decide) (by decide) (fun es219 h219 => ?_)
    obtain ⟨h5, F6⟩ := h219
    rw [← allB_flt, ← by5, ← hdB] at h5
    have hPP : ∀ k, k < 6 → upd (upd P1 4 (nI (by3 nm mo Ef uf Em um).length)) 5 (nI (by4 nm mo Ef uf Em um).length) k = nI (dOf t k) := by
      intro k hk
      rw [hdO]
      by_cases e5 : k = 5
      · subst e5; exact pk_us
      · rw [pk_un e5]
        by_cases e4 : k = 4
        · subst e4; exact pk_us
        · rw [pk_un e4]; exact hP k (by omega)
    exact z_vret E jd_M_build_222 ⟨rfl, _, h5, hPP, F5.trs F6⟩
  have t116 : ∀ (x2 x3 x4 : Int32) (P1 : Nat → Int32) (es1 : zE), bO G B es1 r S P1 a e (by1 nm mo Ef uf Em um) → (∀ k, k < 2 → P1 k = nI (byo nm mo Ef uf Em um k)) → Fr es es1 r (r + 15) → Zj zp l ze (zr 4 0 0) zs zm ([.ref (B + r), .int (nI c)] : List Value).toArray zb zt zc (MQ zb (zQ G B (pV fun es' => ∃ P, bO G B es' r S P a e (dBy t) ∧ (∀ k, k < 6 → P k = nI (dOf t k)) ∧ Fr es es' r (r + 15))) ([.ref (B + r), .int (nI c)] : List Value).toArray zs 0 0 (fun q => B ≤ q)) G B 5 0 0 116 [some (.ref (B + r)), some (.int (nI c)), some (.int x2), some (.int x3), some (.int x4)] [] es1 := by
    intro x2 x3 x4 P1 es1 h1 hP F1
    have q0 := h1.obj
    have q12 := h1.c12
    refine z_aload_n (pc := 116) E jd_M_build_116 rfl rfl ?_
    refine z_get (pc := 117) E jf_M_45 jd_M_build_117 (by assumption) (by rfl) ?_
    refine z_iconst (v := 2) (pc := 120) E jd_M_build_120 (by decide) ?_
    refine z_aload_n (pc := 121) E jd_M_build_121 rfl rfl ?_
    refine z_get (pc := 122) E jf_M_92 jd_M_build_122 (by assumption) (by rfl) ?_
    refine z_iast (ti := 1) (pc := 125) E rfl jd_M_build_125 (by assumption) (vp_in_nI (n := 2) (by omega) (by omega)) (fun es125 he125 => ?_)
    rw [show (2 : Int32).toNatClampNeg = 2 from rfl] at he125
    have h2 := h1.part he125
    have q0 := h2.obj
    have F2 := F1.trs (Fr.set (lo := r) (hi := r + 15) he125 (by omega) (by omega))
    refine z_aload_n (pc := 126) E jd_M_build_126 rfl rfl ?_
    refine z_iload_n (pc := 127) E jd_M_build_127 rfl rfl ?_
    refine z_iconst (v := 0) (pc := 128) E jd_M_build_128 (by decide) ?_
    refine z_cV2V (pc := 129) E (c_M_writeMembers l G B (k := 0) (L := ofK Em 0 um) h2 hc4 (by omega) hh rfl r5.symm (kf 0) (kp 0) (kl 0) (by rw [← allB_flt]; omega)) jc_M_123 jv_M_writeMembers rfl (by assumption) ⟨Nat.le_of_ble_eq_true rfl, Nat.le_of_ble_eq_true rfl⟩ jd_M_build_129 (Nat.le_of_ble_eq_true rfl) (by decide) (by decide) (fun es129 h129 => ?_)
    obtain ⟨h3, F3⟩ := h129
    rw [← allB_flt, ← by2] at h3
    have q0 := h3.obj
    have q12 := h3.c12
    have F4 := F2.trs F3
    refine z_aload_n (pc := 132) E jd_M_build_132 rfl rfl ?_
    refine z_get (pc := 133) E jf_M_45 jd_M_build_133 (by assumption) (by rfl) ?_
    refine z_iconst (v := 3) (pc := 136) E jd_M_build_136 (by decide) ?_
    refine z_aload_n (pc := 137) E jd_M_build_137 rfl rfl ?_
    refine z_get (pc := 138) E jf_M_92 jd_M_build_138 (by assumption) (by rfl) ?_
    refine z_iast (ti := 1) (pc := 141) E rfl jd_M_build_141 (by assumption) (vp_in_nI (n := 3) (by omega) (by omega)) (fun es141 he141 => ?_)
    rw [show (3 : Int32).toNatClampNeg = 3 from rfl] at he141
    have h4 := h3.part he141
    have q0 := h4.obj
    have F5 := F4.trs (Fr.set (lo := r) (hi := r + 15) he141 (by omega) (by omega))
    obtain ⟨-, f4, hm4, -⟩ := id h4
    have hPP : ∀ k, k < 4 → upd (upd P1 2 (nI (by1 nm mo Ef uf Em um).length)) 3 (nI (by2 nm mo Ef uf Em um).length) k = nI (byo nm mo Ef uf Em um k) := by
      intro k hk
      by_cases e5 : k = 3
      · subst e5; exact pk_us
      · rw [pk_un e5]
        by_cases e4 : k = 2
        · subst e4; exact pk_us
        · rw [pk_un e4]; exact hP k (by omega)
    refine z_aload_n (pc := 142) E jd_M_build_142 rfl rfl ?_
    refine z_iload_n (pc := 143) E jd_M_build_143 rfl rfl ?_
    refine z_iconst (v := 3) (pc := 144) E jd_M_build_144 (by decide) ?_
    refine z_cV2I (pc := 145) E (c_M_counted l G B (k := 3) hm4 hc4 (by omega) (show mC (mW S f4 _) c t' from hh) rfl r5.symm) jc_M_117 jv_M_counted rfl (by assumption) ⟨Nat.le_of_ble_eq_true rfl, Nat.le_of_ble_eq_true rfl⟩ jd_M_build_145 (Nat.le_of_ble_eq_true rfl) (by decide) (by decide) (fun v145 es145 h145 => ?_)
    obtain ⟨w145, e145⟩ := h145
    rw [e145, w145]
    refine z_if_le (pc := 148) (tgt := 190) E jd_M_build_148 (by decide) (fun c148 => ?_) (fun c148 => ?_)
    · have hn : allB Em 3 um = [] := by rw [allB3 r11, if_neg (by have := cle (b := 0) c148; omega)]
      exact t190 _ _ _ _ _ (by rw [by3, hn, List.append_nil]; exact h4) hPP F5
    · have hn : allB Em 3 um = ut (kx 0) ++ (num 8 ++ ut (kx 1)) := by rw [allB3 r11, if_pos (by have := ncle (b := 0) c148; omega)]
      have hnl := congrArg List.length hn
      rw [List.length_append, List.length_append, ut_len, ut_len, num_len, kxl0, kxl1] at hnl
      refine z_aload_n (pc := 151) E jd_M_build_151 rfl rfl ?_
      refine z_iconst (v := 1) (pc := 152) E jd_M_build_152 (by decide) ?_
      refine z_cV1V (pc := 153) E (c_M_initName1 l G B h4 (by omega)) jc_M_106 jv_M_initName rfl (by assumption) ⟨Nat.le_of_ble_eq_true rfl, Nat.le_of_ble_eq_true rfl⟩ jd_M_build_153 (Nat.le_of_ble_eq_true rfl) (by decide) (by decide) (fun es153 h153 => ?_)
      obtain ⟨h5, F6⟩ := h153
      have q0 := h5.obj
      refine z_aload_n (pc := 156) E jd_M_build_156 rfl rfl ?_
      refine z_bipush (v := 8) (pc := 157) E jd_M_build_157 (by decide) ?_
      refine z_cV1V (pc := 159) E (c_M_number l G B h5 (by simp only [List.length_append, ut_len, kxl0]; omega)) jc_M_114 jv_M_number rfl (by assumption) ⟨Nat.le_of_ble_eq_true rfl, Nat.le_of_ble_eq_true rfl⟩ jd_M_build_159 (Nat.le_of_ble_eq_true rfl) (by decide) (by decide) (fun es159 h159 => ?_)
      obtain ⟨h6, F7⟩ := h159
      have q0 := h6.obj
      refine z_aload_n (pc := 162) E jd_M_build_162 rfl rfl ?_
      refine z_iconst (v := 0) (pc := 163) E jd_M_build_163 (by decide) ?_
      refine z_cV1V (pc := 164) E (c_M_put l G B h6 (by simp only [List.length_append, ut_len, kxl0, num_len]; omega)) jc_M_95 jv_M_put rfl (by assumption) ⟨Nat.le_of_ble_eq_true rfl, Nat.le_of_ble_eq_true rfl⟩ jd_M_build_164 (Nat.le_of_ble_eq_true rfl) (by decide) (by decide) (fun es164 h164 => ?_)
      obtain ⟨h7, F8⟩ := h164
      have q0 := h7.obj
      refine z_aload_n (pc := 167) E jd_M_build_167 rfl rfl ?_
      refine z_iconst (v := 3) (pc := 168) E jd_M_build_168 (by decide) ?_
      refine z_cV1V (pc := 169) E (c_M_put l G B h7 (by simp only [List.length_append, ut_len, kxl0, num_len, List.length_singleton]; omega)) jc_M_95 jv_M_put rfl (by assumption) ⟨Nat.le_of_ble_eq_true rfl, Nat.le_of_ble_eq_true rfl⟩ jd_M_build_169 (Nat.le_of_ble_eq_true rfl) (by decide) (by decide) (fun es169 h169 => ?_)
      obtain ⟨h8, F9⟩ := h169
      have q0 := h8.obj
      refine z_aload_n (pc := 172) E jd_M_build_172 rfl rfl ?_
      refine z_bipush (v := 40) (pc := 173) E jd_M_build_173 (by decide) ?_
      refine z_cV1V (pc := 175) E (c_M_put l G B h8 (by simp only [List.length_append, ut_len, kxl0, num_len, List.length_singleton]; omega)) jc_M_95 jv_M_put rfl (by assumption) ⟨Nat.le_of_ble_eq_true rfl, Nat.le_of_ble_eq_true rfl⟩ jd_M_build_175 (Nat.le_of_ble_eq_true rfl) (by decide) (by decide) (fun es175 h175 => ?_)
      obtain ⟨h9, F10⟩ := h175
      have q0 := h9.obj
      refine z_aload_n (pc := 178) E jd_M_build_178 rfl rfl ?_
      refine z_bipush (v := 41) (pc := 179) E jd_M_build_179 (by decide) ?_
      refine z_cV1V (pc := 181) E (c_M_put l G B h9 (by simp only [List.length_append, ut_len, kxl0, num_len, List.length_singleton]; omega)) jc_M_95 jv_M_put rfl (by assumption) ⟨Nat.le_of_ble_eq_true rfl, Nat.le_of_ble_eq_true rfl⟩ jd_M_build_181 (Nat.le_of_ble_eq_true rfl) (by decide) (by decide) (fun es181 h181 => ?_)
      obtain ⟨h10, F11⟩ := h181
      have q0 := h10.obj
      refine z_aload_n (pc := 184) E jd_M_build_184 rfl rfl ?_
      refine z_bipush (v := 86) (pc := 185) E jd_M_build_185 (by decide) ?_
      refine z_cV1V (pc := 187) E (c_M_put l G B h10 (by simp only [List.length_append, ut_len, kxl0, num_len, List.length_singleton]; omega)) jc_M_95 jv_M_put rfl (by assumption) ⟨Nat.le_of_ble_eq_true rfl, Nat.le_of_ble_eq_true rfl⟩ jd_M_build_187 (Nat.le_of_ble_eq_true rfl) (by decide) (by decide) (fun es187 h187 => ?_)
      obtain ⟨h11, F12⟩ := h187
      refine t190 _ _ _ _ es187 ?_ hPP ((((((F5.trs F6).trs F7).trs F8).trs F9).trs F10).trs (F11.trs F12))
      rw [by3, hn]
      simp only [List.append_assoc] at h11
      exact h11
  have loopF : ∀ (f i : Nat) (L1 L2 : List Ent) (x2 v : Int32) (P1 : Nat → Int32) (bs1 : List Nat) (es1 : zE), L2.length = f → ofK Ef 4 uf = L1 ++ L2 → L1.length = i → bs1 = hdr nm mo (tal Em 2 um) ++ flt L1 → ((v = -1 ∧ L2 = []) ∨ ∃ m L3, m < uf ∧ v = nI (6 + 4 * c + m) ∧ L2 = t'.2.2.2.1 m :: L3) → bO G B es1 r S P1 a e bs1 → (∀ k, k < 2 → P1 k = nI (byo nm mo Ef uf Em um k)) → Fr es es1 r (r + 15) → Zj zp l ze (zr 4 0 0) zs zm ([.ref (B + r), .int (nI c)] : List Value).toArray zb zt zc (MQ zb (zQ G B (pV fun es' => ∃ P, bO G B es' r S P a e (dBy t) ∧ (∀ k, k < 6 → P k = nI (dOf t k)) ∧ Fr es es' r (r + 15))) ([.ref (B + r), .int (nI c)] : List Value).toArray zs 0 0 (fun q => B ≤ q)) G B 5 0 0 87 [some (.ref (B + r)), some (.int (nI c)), some (.int x2), some (.int v), some (.int (nI i))] [] es1 := by
    intro f
    induction f with
    | zero =>
      intro i L1 L2 x2 v P1 bs1 es1 hf hLs hi hbs hv h1 hP F1
      have hL2 := List.eq_nil_of_length_eq_zero hf
      subst hL2
      rw [List.append_nil] at hLs
      have hv' : v < 0 := by
        rcases hv with ⟨rfl, -⟩ | ⟨m, L3, -, -, q⟩
        · decide
        · cases q
      rw [← hLs, ← allB_flt, ← by1] at hbs
      subst hbs
      refine z_iload (pc := 87) E jd_M_build_87 rfl ?_
      refine z_iconst (v := 4) (pc := 89) E jd_M_build_89 (by decide) ?_
      refine z_icmp_ge (pc := 90) (tgt := 116) E jd_M_build_90 (by decide) (fun c90 => ?_) (fun c90 => ?_)
      · exact t116 _ _ _ P1 es1 h1 hP F1
      · refine z_iload_n (pc := 93) E jd_M_build_93 rfl rfl ?_
        refine z_if_lt (pc := 94) (tgt := 116) E jd_M_build_94 (by decide) (fun c94 => ?_) (fun c94 => ?_)
        · exact t116 _ _ _ P1 es1 h1 hP F1
        · exact absurd hv' c94
    | succ f ih =>
      intro i L1 L2 x2 v P1 bs1 es1 hf hLs hi hbs hv h1 hP F1
      obtain ⟨m, L3, hm, hvm, hL2⟩ : ∃ m L3, m < uf ∧ v = nI (6 + 4 * c + m) ∧ L2 = t'.2.2.2.1 m :: L3 := by
        rcases hv with ⟨-, q⟩ | q
        · rw [q] at hf; cases hf
        · exact q
      subst hvm
      subst hL2
      obtain ⟨g1, g2⟩ := dF m (by omega)
      have hL4 : (ofK Ef 4 uf).length ≤ 4 := Nat.le_trans ofK_len uf4
      have hi4 : i < 4 := by rw [hLs, List.length_append, List.length_cons] at hL4; omega
      have hLs' : ofK Ef 4 uf = (L1 ++ [t'.2.2.2.1 m]) ++ L3 := by rw [hLs]; simp
      have hfl : (allB Ef 4 uf).length = (flt L1).length + ((ut (t'.2.2.2.1 m).2.2.1).length + (flt L3).length) := by
        rw [allB_flt, hLs, flt_app, flt_s, List.length_append, List.length_append, flt4 g1]
      have hbl : bs1.length = (hdr nm mo (tal Em 2 um)).length + (flt L1).length := by rw [hbs, List.length_append]
      rw [ut_len] at hfl
      have sp := split_abv (k := 4) (L1 := L1) (L2 := L3) (x := t'.2.2.2.1 m) (by rw [← hLs]; exact ofK_pw r10)
      have q0 := h1.obj
      have hA : abv t'.2.2.2.1 4 (6 + 4 * c) uf (fun x => 0 < kC 4 x (t'.2.2.2.1 m)) (nI (6 + 4 * c + m)) := Or.inr ⟨m, hm, rfl, fun _ => Iff.rfl⟩
      refine z_iload (pc := 87) E jd_M_build_87 rfl ?_
      refine z_iconst (v := 4) (pc := 89) E jd_M_build_89 (by decide) ?_
      refine z_icmp_ge (pc := 90) (tgt := 116) E jd_M_build_90 (by decide) (fun c90 => ?_) (fun c90 => ?_)
      · exact absurd (cle (a := 4) c90) (by omega)
      · refine z_iload_n (pc := 93) E jd_M_build_93 rfl rfl ?_
        refine z_if_lt (pc := 94) (tgt := 116) E jd_M_build_94 (by decide) (fun c94 => ?_) (fun c94 => ?_)
        · exact absurd c94 (nI_pos (by omega))
        · refine z_aload_n (pc := 97) E jd_M_build_97 rfl rfl ?_
          refine z_iload_n (pc := 98) E jd_M_build_98 rfl rfl ?_
          refine z_iconst (v := 0) (pc := 99) E jd_M_build_99 (by decide) ?_
          refine z_cV2V (pc := 100) E (c_M_utf l G B false h1 g2 (by omega) (by decide) (by omega)) jc_M_110 jv_M_utf rfl (by assumption) ⟨Nat.le_of_ble_eq_true rfl, Nat.le_of_ble_eq_true rfl⟩ jd_M_build_100 (Nat.le_of_ble_eq_true rfl) (by decide) (by decide) (fun es100 h100 => ?_)
          obtain ⟨h2, F2⟩ := h100
          rw [utg_f] at h2
          have q0 := h2.obj
          obtain ⟨-, f2, hm2, -⟩ := id h2
          refine z_aload_n (pc := 103) E jd_M_build_103 rfl rfl ?_
          refine z_iload_n (pc := 104) E jd_M_build_104 rfl rfl ?_
          refine z_iload_n (pc := 105) E jd_M_build_105 rfl rfl ?_
          refine z_cV2I (pc := 106) E (c_M_nextFace l G B (A := fun x => 0 < kC 4 x (t'.2.2.2.1 m)) hm2 hc4 (show mC (mW S f2 P1) c t' from hh) rfl r4.symm hA) jc_M_120 jv_M_nextFace rfl (by assumption) ⟨Nat.le_of_ble_eq_true rfl, Nat.le_of_ble_eq_true rfl⟩ jd_M_build_106 (Nat.le_of_ble_eq_true rfl) (by decide) (by decide) (fun v106 es106 h106 => ?_)
          obtain ⟨w106, e106⟩ := h106
          rw [e106]
          refine z_istore_n (pc := 109) E jd_M_build_109 rfl (by decide) rfl ?_
          dsimp only [List.set]
          refine z_iinc (pc := 110) E jd_M_build_110 rfl rfl (by decide) rfl ?_
          dsimp only [List.set]
          refine z_goto (pc := 113) (tgt := 87) E jd_M_build_113 (by decide) ?_
          have := ih (i + 1) (L1 ++ [t'.2.2.2.1 m]) L3 x2 v106 P1 _ es100 (by rw [List.length_cons] at hf; omega) hLs' (by rw [List.length_append, List.length_singleton, hi]) (by rw [flt_app, hbs, List.append_assoc, flt_s, flt4 g1]; simp [flt]) (BP_next w106 (by omega) (by rw [← hLs']; exact ofK_ref r8 4) sp.2.2 sp.1 sp.2.1) h2 hP (F1.trs F2)
          rw [nI_succ i] at this
          exact this
  have t62 : ∀ (es1 : zE) (P1 : Nat → Int32), P1 0 = 0 → bO G B es1 r S P1 a e (ut nm) → Fr es es1 r (r + 15) → Zj zp l ze (zr 4 0 0) zs zm ([.ref (B + r), .int (nI c)] : List Value).toArray zb zt zc (MQ zb (zQ G B (pV fun es' => ∃ P, bO G B es' r S P a e (dBy t) ∧ (∀ k, k < 6 → P k = nI (dOf t k)) ∧ Fr es es' r (r + 15))) ([.ref (B + r), .int (nI c)] : List Value).toArray zs 0 0 (fun q => B ≤ q)) G B 5 0 0 62 [some (.ref (B + r)), some (.int (nI c)), some (.int (hmo mo (tal Em 2 um))), none, none] [] es1 := by
    intro es1 P1 hP h1 F1
    have q0 := h1.obj
    have hA : abv t'.2.2.2.1 4 (6 + 4 * c) uf (fun _ => True) (-1) := Or.inl ⟨by decide, fun _ => trivial⟩
    refine z_aload_n (pc := 62) E jd_M_build_62 rfl rfl ?_
    refine z_iload_n (pc := 63) E jd_M_build_63 rfl rfl ?_
    refine z_cV1V (pc := 64) E (c_M_number l G B h1 (by rw [ut_len, r2]; omega)) jc_M_114 jv_M_number rfl (by assumption) ⟨Nat.le_of_ble_eq_true rfl, Nat.le_of_ble_eq_true rfl⟩ jd_M_build_64 (Nat.le_of_ble_eq_true rfl) (by decide) (by decide) (fun es64 h64 => ?_)
    obtain ⟨h2, F2⟩ := h64
    rw [← hdr] at h2
    have q0 := h2.obj
    have q12 := h2.c12
    refine z_aload_n (pc := 67) E jd_M_build_67 rfl rfl ?_
    refine z_get (pc := 68) E jf_M_45 jd_M_build_68 (by assumption) (by rfl) ?_
    refine z_iconst (v := 1) (pc := 71) E jd_M_build_71 (by decide) ?_
    refine z_aload_n (pc := 72) E jd_M_build_72 rfl rfl ?_
    refine z_get (pc := 73) E jf_M_92 jd_M_build_73 (by assumption) (by rfl) ?_
    refine z_iast (ti := 1) (pc := 76) E rfl jd_M_build_76 (by assumption) (vp_in_nI (n := 1) (by omega) (by omega)) (fun es76 he76 => ?_)
    rw [show (1 : Int32).toNatClampNeg = 1 from rfl] at he76
    have h3 := h2.part he76
    have q0 := h3.obj
    obtain ⟨-, f3, hm3, -⟩ := id h3
    have hPP : ∀ k, k < 2 → upd P1 1 (nI (hdr nm mo (tal Em 2 um)).length) k = nI (byo nm mo Ef uf Em um k) := by
      intro k hk
      by_cases e5 : k = 1
      · subst e5; exact pk_us
      · rw [pk_un e5, show k = 0 by omega, hP]; rfl
    refine z_aload_n (pc := 77) E jd_M_build_77 rfl rfl ?_
    refine z_iload_n (pc := 78) E jd_M_build_78 rfl rfl ?_
    refine z_iconst (v := -1) (pc := 79) E jd_M_build_79 (by decide) ?_
    refine z_cV2I (pc := 80) E (c_M_nextFace l G B (A := fun _ => True) hm3 hc4 (show mC (mW S f3 _) c t' from hh) rfl r4.symm hA) jc_M_120 jv_M_nextFace rfl (by assumption) ⟨Nat.le_of_ble_eq_true rfl, Nat.le_of_ble_eq_true rfl⟩ jd_M_build_80 (Nat.le_of_ble_eq_true rfl) (by decide) (by decide) (fun v80 es80 h80 => ?_)
    obtain ⟨w80, e80⟩ := h80
    rw [e80]
    refine z_istore_n (pc := 83) E jd_M_build_83 rfl (by decide) rfl ?_
    dsimp only [List.set]
    refine z_iconst (v := 0) (pc := 84) E jd_M_build_84 (by decide) ?_
    refine z_istore (pc := 85) E jd_M_build_85 (by decide) rfl ?_
    dsimp only [List.set]
    exact loopF (ofK Ef 4 uf).length 0 [] (ofK Ef 4 uf) _ v80 _ _ es76 rfl rfl rfl (by simp [flt]) (BP_next (L1 := []) w80 (by omega) (ofK_ref r8 4) (ofK_pw r10) (fun _ q => by cases q) (fun _ _ => trivial)) h3 hPP ((F1.trs F2).trs (Fr.set he76 (by omega) (by omega)))
  refine z_aload_n (pc := 0) E jd_M_build_0 rfl rfl ?_
  refine z_iconst (v := 0) (pc := 1) E jd_M_build_1 (by decide) ?_
  refine z_put (pc := 2) E jp_M_92 jd_M_build_2 (by assumption) (Nat.le_of_ble_eq_true rfl) rfl rfl (fun es2 he2 => ?_)
  dsimp only [List.set] at he2
  have h1 := h0.s0 (z' := nI 0) (a' := a) (e' := e) he2
  obtain ⟨p0, p1, p2, p3, p4, p5, p6, p7, p8, p9, p10, p11, p12, p13, p14⟩ := id h1
  refine z_aload_n (pc := 5) E jd_M_build_5 rfl rfl ?_
  refine z_get (pc := 6) E jf_M_45 jd_M_build_6 (by assumption) (by rfl) ?_
  refine z_iconst (v := 0) (pc := 9) E jd_M_build_9 (by decide) ?_
  refine z_iconst (v := 0) (pc := 10) E jd_M_build_10 (by decide) ?_
  refine z_iast (ti := 1) (pc := 11) E rfl jd_M_build_11 (by assumption) (vp_in_nI (n := 0) (by omega) (by omega)) (fun es11 he11 => ?_)
  rw [show (0 : Int32).toNatClampNeg = 0 from rfl] at he11
  have h2 := h1.s12 he11
  have h3 : bO G B es11 r S (upd S.2.2.2.2.2.2.2.2.2.2.2.1 0 0) a e [] := ⟨by simp, _, h2, fun j hj => absurd hj (Nat.not_lt_zero j)⟩
  have q0 := h3.obj
  have F3 : Fr es es11 r (r + 15) := (Fr.set he2 (by omega) (by omega)).trs (Fr.set he11 (by omega) (by omega))
  refine z_aload_n (pc := 12) E jd_M_build_12 rfl rfl ?_
  refine z_iconst (v := 2) (pc := 13) E jd_M_build_13 (by decide) ?_
  refine z_iload_n (pc := 14) E jd_M_build_14 rfl rfl ?_
  refine z_iadd (pc := 15) E jd_M_build_15 ?_
  refine z_topi (y := nI (2 + c)) (nI_add 2 c) ?_
  refine z_iconst (v := 0) (pc := 16) E jd_M_build_16 (by decide) ?_
  refine z_cV2V (pc := 17) E (c_M_utf l G B false h3 dn (by omega) (by decide) (by simp only [List.length_nil]; omega)) jc_M_110 jv_M_utf rfl (by assumption) ⟨Nat.le_of_ble_eq_true rfl, Nat.le_of_ble_eq_true rfl⟩ jd_M_build_17 (Nat.le_of_ble_eq_true rfl) (by decide) (by decide) (fun es17 h17 => ?_)
  obtain ⟨h4, F4⟩ := h17
  rw [utg_f, List.nil_append, ← r2] at h4
  have q0 := h4.obj
  have q4 := h4.c4
  obtain ⟨-, f4, hm4, -⟩ := id h4
  have F5 := F3.trs F4
  refine z_aload_n (pc := 20) E jd_M_build_20 rfl rfl ?_
  refine z_get (pc := 21) E jf_M_20 jd_M_build_21 (by assumption) (by rfl) ?_
  refine z_iload_n (pc := 24) E jd_M_build_24 rfl rfl ?_
  refine z_iald (ti := 1) (pc := 25) E rfl jd_M_build_25 (by assumption) (vp_in_nI (by omega) (by omega)) ?_
  rw [nI_clamp (by omega), d4, ← r3]
  refine z_sipush (v := 1553) (pc := 26) E jd_M_build_26 (by decide) ?_
  refine z_iand (pc := 29) E jd_M_build_29 ?_
  refine z_istore_n (pc := 30) E jd_M_build_30 rfl (by decide) rfl ?_
  dsimp only [List.set]
  refine z_iload_n (pc := 31) E jd_M_build_31 rfl rfl ?_
  refine z_sipush (v := 512) (pc := 32) E jd_M_build_32 (by decide) ?_
  refine z_iand (pc := 35) E jd_M_build_35 ?_
  refine z_if_eq (pc := 36) (tgt := 62) E jd_M_build_36 (by decide) (fun c36 => ?_) (fun c36 => ?_)
  · have hm := hmo_0 (tal Em 2 um) ((and512 mo).symm.trans c36)
    first | exact hz ▸ t62 es17 _ pk_us h4 F5 | exact hm ▸ t62 es17 _ pk_us h4 F5
  · have hm := fun q => hmo_1 (t := tal Em 2 um) (fun q => c36 ((and512 mo).trans q)) q
    have hm' := fun q => hmo_2 (t := tal Em 2 um) (fun q => c36 ((and512 mo).trans q)) q
    refine z_aload_n (pc := 39) E jd_M_build_39 rfl rfl ?_
    refine z_iload_n (pc := 40) E jd_M_build_40 rfl rfl ?_
    refine z_iconst (v := 2) (pc := 41) E jd_M_build_41 (by decide) ?_
    refine z_cV2I (pc := 42) E (c_M_counted l G B (k := 2) hm4 hc4 (by omega) (show mC (mW S f4 _) c t' from hh) rfl r5.symm) jc_M_117 jv_M_counted rfl (by assumption) ⟨Nat.le_of_ble_eq_true rfl, Nat.le_of_ble_eq_true rfl⟩ jd_M_build_42 (Nat.le_of_ble_eq_true rfl) (by decide) (by decide) (fun v42 es42 h42 => ?_)
    obtain ⟨w42, e42⟩ := h42
    rw [e42, w42, ← t2]
    refine z_if_le (pc := 45) (tgt := 56) E jd_M_build_45 (by decide) (fun c45 => ?_) (fun c45 => ?_)
    · have hz := hm' (by have := cle (b := 0) c45; omega)
      refine z_iload_n (pc := 56) E jd_M_build_56 rfl rfl ?_
      refine z_sipush (v := -1025) (pc := 57) E jd_M_build_57 (by decide) ?_
      refine z_iand (pc := 60) E jd_M_build_60 ?_
      refine z_istore_n (pc := 61) E jd_M_build_61 rfl (by decide) rfl ?_
      dsimp only [List.set]
      first | exact hz ▸ t62 es17 _ pk_us h4 F5 | exact hm ▸ t62 es17 _ pk_us h4 F5
    · have hz := hm (by have := ncle (b := 0) c45; omega)
      refine z_iload_n (pc := 48) E jd_M_build_48 rfl rfl ?_
      refine z_sipush (v := 1024) (pc := 49) E jd_M_build_49 (by decide) ?_
      refine z_ior (pc := 52) E jd_M_build_52 ?_
      refine z_goto (pc := 53) (tgt := 61) E jd_M_build_53 (by decide) ?_
      refine z_istore_n (pc := 61) E jd_M_build_61 rfl (by decide) rfl ?_
      dsimp only [List.set]
      first | exact hz ▸ t62 es17 _ pk_us h4 F5 | exact hm ▸ t62 es17 _ pk_us h4 F5
