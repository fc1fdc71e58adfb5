/-! the reference: remove, declare, count -/
def shE (E : Nat → Ent) (i k j : Nat) : Ent := if j < i then E j else if j < k then E (j + 1) else E j
def rmv (E : Nat → Ent) (i : Nat) : Nat → Ent := fun j => if j < i then E j else E (j + 1)
theorem shE_end {E : Nat → Ent} {i k q : Nat} (h : q < k) : shE E i k q = rmv E i q := by
  rw [shE, rmv, if_pos h]
theorem shE_0 {E : Nat → Ent} {i q : Nat} : shE E i i q = E q := by
  rw [shE]
  by_cases h : q < i
  · rw [if_pos h]
  · rw [if_neg h, if_neg h]
theorem shE_step {E : Nat → Ent} {i j q : Nat} (h : q ≠ j) : shE E i (j + 1) q = shE E i j q := by
  rw [shE, shE]
  by_cases e2 : q < j
  · rw [if_pos e2, if_pos (show q < j + 1 by omega)]
  · rw [if_neg e2, if_neg (show ¬ q < j + 1 by omega)]
set_option maxHeartbeats 4000000 in
set_option maxRecDepth 100000 in
theorem c_M_remove (l : Launch) (G : zG) (B : Nat) {es : zE} {r c u k : Nat} {nm sh : List Nat} {R : Nat → DT} {E0 : Nat → Ent} (h : rA G B es r nm sh R) (hc : cnum R (nI c) = some c) (hk : k < 4) (hE : (R c).2.2.2.2.2.1 = E0) (hu : (R c).2.2.2.2.2.2.1 = u) : Tr l G B jy_M_remove jb_M_remove 5 (some .int) 3 0 0 [.ref (B + r), .int (nI c), .int (nI k)] es (pI fun v es' => if fnd E0 k nm sh u 0 < u then v = nI (u - 1) ∧ rA G B es' r nm sh (va_up R c (dtM (R c) (rmv E0 (fnd E0 k nm sh u 0)) (u - 1))) ∧ Fr es es' r (r + 15) else v = -2 ∧ es' = es) := by
  have hr := h
  obtain ⟨S, z, a, e, h0, t0, t1, hC⟩ := h
  obtain ⟨m0, a1, a2, a3, a4, a5, a6, a7, a8, a9, a10, a11, a12, a13, a14⟩ := id h0
  obtain ⟨-, hc4, hth⟩ := cnum_some hc
  have hcn : ¬ cnuM S (nI c) = none := by rw [cnuM_eq hC, hc]; exact fun q => by cases q
  have hh := hC c hc4
  obtain ⟨d0, d6, du, dM⟩ := id hh
  rw [hE, hu] at dM
  rw [hu] at d6 du
  have hfl := (fnd_le E0 k nm sh u 0).2
  refine Tr.of (ls := [some (.ref (B + r)), some (.int (nI c)), some (.int (nI k)), none, none]) (by decide +kernel) (Nat.le_of_ble_eq_true rfl) rfl ?_
  intro zp ze zs zm zb zt zc E
  have loop : ∀ (f i j : Nat) (S1 : MS) (es1 : zE), fnd E0 k nm sh u 0 = i → i < u → i ≤ j → j + f = u - 1 → mO G B es1 r S1 z a e → mD S1 c (R c) → S1.2.2.2.2.2.1 c = nI (u - 1) → (∀ c', c' < 4 → c' ≠ c → mC S1 c' (R c')) → rt S1 0 nm → rt S1 1 sh → (∀ q, q < u → mE S1 (10 * c + q) (shE E0 i j q)) → Fr es es1 r (r + 15) → Zj zp l ze (zr 3 0 0) zs zm ([.ref (B + r), .int (nI c), .int (nI k)] : List Value).toArray zb zt zc (MQ zb (zQ G B (pI fun v es' => if fnd E0 k nm sh u 0 < u then v = nI (u - 1) ∧ rA G B es' r nm sh (va_up R c (dtM (R c) (rmv E0 (fnd E0 k nm sh u 0)) (u - 1))) ∧ Fr es es' r (r + 15) else v = -2 ∧ es' = es)) ([.ref (B + r), .int (nI c), .int (nI k)] : List Value).toArray zs 0 0 (fun q => B ≤ q)) G B 5 0 0 46 [some (.ref (B + r)), some (.int (nI c)), some (.int (nI k)), some (.int (nI (10 * c + i))), some (.int (nI (10 * c + j)))] [] es1 := by
    intro f
    induction f with
    | zero =>
      intro i j S1 es1 hfi hiu hij hj h1 D1 c6 hC1 s0 s1 hM F1
      have hju : j = u - 1 := by omega
      subst hju
      obtain ⟨p0, p1, p2, p3, p4, p5, p6, p7, p8, p9, p10, p11, p12, p13, p14⟩ := id h1
      refine z_iload (pc := 46) E jd_M_remove_46 rfl ?_
      refine z_bipush (v := 10) (pc := 48) E jd_M_remove_48 (by decide) ?_
      refine z_iload_n (pc := 50) E jd_M_remove_50 rfl rfl ?_
      refine z_imul (pc := 51) E jd_M_remove_51 ?_
      refine z_topi (y := nI (10 * c)) (pk_mul 10 c) ?_
      refine z_aload_n (pc := 52) E jd_M_remove_52 rfl rfl ?_
      refine z_get (pc := 53) E jf_M_26 jd_M_remove_53 (by assumption) (by rfl) ?_
      refine z_iload_n (pc := 56) E jd_M_remove_56 rfl rfl ?_
      refine z_iald (ti := 1) (pc := 57) E rfl jd_M_remove_57 (by assumption) (vp_in_nI (by omega) (by omega)) ?_
      rw [nI_clamp (by omega), c6]
      refine z_iadd (pc := 58) E jd_M_remove_58 ?_
      rw [nI_add]
      refine z_icmp_ge (pc := 59) (tgt := 128) E jd_M_remove_59 (by decide) (fun c59 => ?_) (fun c59 => ?_)
      · refine z_aload_n (pc := 128) E jd_M_remove_128 rfl rfl ?_
        refine z_get (pc := 129) E jf_M_26 jd_M_remove_129 (by assumption) (by rfl) ?_
        refine z_iload_n (pc := 132) E jd_M_remove_132 rfl rfl ?_
        refine z_iald (ti := 1) (pc := 133) E rfl jd_M_remove_133 (by assumption) (vp_in_nI (by omega) (by omega)) ?_
        rw [nI_clamp (by omega), c6]
        refine z_iret E jd_M_remove_134 ⟨_, rfl, ?_⟩
        dsimp only
        rw [hfi, if_pos hiu]
        refine ⟨rfl, ⟨S1, z, a, e, h1, s0, s1, fun c' hc' => ?_⟩, F1⟩
        by_cases ec : c' = c
        · subst ec
          rw [va_up_self]
          refine ⟨D1, c6, by show u - 1 ≤ 10; omega, fun q hq => ?_⟩
          have hq : q < u - 1 := hq
          have := hM q (by omega)
          rw [shE_end hq] at this
          exact this
        · rw [va_up_ne _ _ ec]
          exact hC1 c' hc' ec
      · exact absurd ((nI_leI (by omega) (by omega)).mpr (Nat.le_refl _)) c59
    | succ f ih =>
      intro i j S1 es1 hfi hiu hij hj h1 D1 c6 hC1 s0 s1 hM F1
      obtain ⟨p0, p1, p2, p3, p4, p5, p6, p7, p8, p9, p10, p11, p12, p13, p14⟩ := id h1
      obtain ⟨g1, g2, g3, g4, g5⟩ := hM (j + 1) (by omega)
      have hse : shE E0 i j (j + 1) = E0 (j + 1) := by rw [shE, if_neg (by omega), if_neg (by omega)]
      rw [hse] at g1 g2 g3 g4 g5
      refine z_iload (pc := 46) E jd_M_remove_46 rfl ?_
      refine z_bipush (v := 10) (pc := 48) E jd_M_remove_48 (by decide) ?_
      refine z_iload_n (pc := 50) E jd_M_remove_50 rfl rfl ?_
      refine z_imul (pc := 51) E jd_M_remove_51 ?_
      refine z_topi (y := nI (10 * c)) (pk_mul 10 c) ?_
      refine z_aload_n (pc := 52) E jd_M_remove_52 rfl rfl ?_
      refine z_get (pc := 53) E jf_M_26 jd_M_remove_53 (by assumption) (by rfl) ?_
      refine z_iload_n (pc := 56) E jd_M_remove_56 rfl rfl ?_
      refine z_iald (ti := 1) (pc := 57) E rfl jd_M_remove_57 (by assumption) (vp_in_nI (by omega) (by omega)) ?_
      rw [nI_clamp (by omega), c6]
      refine z_iadd (pc := 58) E jd_M_remove_58 ?_
      rw [nI_add]
      refine z_icmp_ge (pc := 59) (tgt := 128) E jd_M_remove_59 (by decide) (fun c59 => ?_) (fun c59 => ?_)
      · exact absurd ((nI_leI (by omega) (by omega)).mp c59) (by omega)
      · refine z_aload_n (pc := 62) E jd_M_remove_62 rfl rfl ?_
        refine z_get (pc := 63) E jf_M_36 jd_M_remove_63 (by assumption) (by rfl) ?_
        refine z_iload (pc := 66) E jd_M_remove_66 rfl ?_
        refine z_aload_n (pc := 68) E jd_M_remove_68 rfl rfl ?_
        refine z_get (pc := 69) E jf_M_36 jd_M_remove_69 (by assumption) (by rfl) ?_
        refine z_iload (pc := 72) E jd_M_remove_72 rfl ?_
        refine z_iconst (v := 1) (pc := 74) E jd_M_remove_74 (by decide) ?_
        refine z_iadd (pc := 75) E jd_M_remove_75 ?_
        refine z_topi (y := nI (10 * c + (j + 1))) (nI_1 (10 * c + j)) ?_
        refine z_iald (ti := 1) (pc := 76) E rfl jd_M_remove_76 (by assumption) (vp_in_nI (by omega) (by omega)) ?_
        rw [nI_clamp (by omega), g1]
        refine z_iast (ti := 1) (pc := 77) E rfl jd_M_remove_77 (by assumption) (vp_in_nI (by omega) (by omega)) (fun es77 he77 => ?_)
        rw [nI_clamp (by omega)] at he77
        have h2 := h1.s9 he77
        obtain ⟨q0, q1, q2, q3, q4, q5, q6, q7, q8, q9, q10, -⟩ := id h2
        refine z_aload_n (pc := 78) E jd_M_remove_78 rfl rfl ?_
        refine z_get (pc := 79) E jf_M_39 jd_M_remove_79 (by assumption) (by rfl) ?_
        refine z_iload (pc := 82) E jd_M_remove_82 rfl ?_
        refine z_aload_n (pc := 84) E jd_M_remove_84 rfl rfl ?_
        refine z_get (pc := 85) E jf_M_39 jd_M_remove_85 (by assumption) (by rfl) ?_
        refine z_iload (pc := 88) E jd_M_remove_88 rfl ?_
        refine z_iconst (v := 1) (pc := 90) E jd_M_remove_90 (by decide) ?_
        refine z_iadd (pc := 91) E jd_M_remove_91 ?_
        refine z_topi (y := nI (10 * c + (j + 1))) (nI_1 (10 * c + j)) ?_
        refine z_iald (ti := 1) (pc := 92) E rfl jd_M_remove_92 (by assumption) (vp_in_nI (by omega) (by omega)) ?_
        rw [nI_clamp (by omega)]
        refine z_topi (y := (E0 (j + 1)).2.1) g3 ?_
        refine z_iast (ti := 1) (pc := 93) E rfl jd_M_remove_93 (by assumption) (vp_in_nI (by omega) (by omega)) (fun es93 he93 => ?_)
        rw [nI_clamp (by omega)] at he93
        have h3 := h2.s10 he93
        dsimp only at h3
        have q0' := h3.1
        refine z_aload_n (pc := 94) E jd_M_remove_94 rfl rfl ?_
        refine z_bipush (v := 23) (pc := 95) E jd_M_remove_95 (by decide) ?_
        refine z_iload (pc := 97) E jd_M_remove_97 rfl ?_
        refine z_iadd (pc := 99) E jd_M_remove_99 ?_
        refine z_topi (y := nI (22 + (10 * c + (j + 1)))) (show nI 23 + nI (10 * c + j) = _ by rw [nI_add]; congr 1; omega) ?_
        refine z_bipush (v := 22) (pc := 100) E jd_M_remove_100 (by decide) ?_
        refine z_iload (pc := 102) E jd_M_remove_102 rfl ?_
        refine z_iadd (pc := 104) E jd_M_remove_104 ?_
        refine z_topi (y := nI (22 + (10 * c + j))) (nI_add 22 _) ?_
        refine z_cV2V (pc := 105) E (c_M_copy l G B (f := 22 + (10 * c + (j + 1))) (t := 22 + (10 * c + j)) h3 (by omega) (by omega) (by omega)) jc_M_74 jv_M_copy rfl (by assumption) ⟨Nat.le_of_ble_eq_true rfl, Nat.le_of_ble_eq_true rfl⟩ jd_M_remove_105 (Nat.le_of_ble_eq_true rfl) (by decide) (by decide) (fun es105 h105 => ?_)
        obtain ⟨h4, F4⟩ := h105
        have q1' := h4.1
        refine z_aload_n (pc := 108) E jd_M_remove_108 rfl rfl ?_
        refine z_bipush (v := 63) (pc := 109) E jd_M_remove_109 (by decide) ?_
        refine z_iload (pc := 111) E jd_M_remove_111 rfl ?_
        refine z_iadd (pc := 113) E jd_M_remove_113 ?_
        refine z_topi (y := nI (62 + (10 * c + (j + 1)))) (show nI 63 + nI (10 * c + j) = _ by rw [nI_add]; congr 1; omega) ?_
        refine z_bipush (v := 62) (pc := 114) E jd_M_remove_114 (by decide) ?_
        refine z_iload (pc := 116) E jd_M_remove_116 rfl ?_
        refine z_iadd (pc := 118) E jd_M_remove_118 ?_
        refine z_topi (y := nI (62 + (10 * c + j))) (nI_add 62 _) ?_
        refine z_cV2V (pc := 119) E (c_M_copy l G B (f := 62 + (10 * c + (j + 1))) (t := 62 + (10 * c + j)) h4 (by omega) (by omega) (by omega)) jc_M_74 jv_M_copy rfl (by assumption) ⟨Nat.le_of_ble_eq_true rfl, Nat.le_of_ble_eq_true rfl⟩ jd_M_remove_119 (Nat.le_of_ble_eq_true rfl) (by decide) (by decide) (fun es119 h119 => ?_)
        obtain ⟨h5, F5⟩ := h119
        refine z_iinc (pc := 122) E jd_M_remove_122 rfl rfl (by decide) rfl ?_
        dsimp only [List.set]
        refine z_goto (pc := 125) (tgt := 46) E jd_M_remove_125 (by decide) ?_
        have oE := onlyE_of (S := S1) (m := 10 * c + j) (f := 22 + (10 * c + (j + 1))) (g := 62 + (10 * c + (j + 1))) (kd := nI (E0 (j + 1)).1) (fl := (E0 (j + 1)).2.1) (by omega) (by omega) (by omega)
        have mE' := mE_of (S := S1) (m := 10 * c + j) (f := 22 + (10 * c + (j + 1))) (g := 62 + (10 * c + (j + 1))) (k := (E0 (j + 1)).1) (fl := (E0 (j + 1)).2.1) (by omega) g2 g4 g5
        have FF : Fr es es119 r (r + 15) := (((F1.trs (Fr.set he77 (by omega) (by omega))).trs (Fr.set he93 (by omega) (by omega))).trs F4).trs F5
        have := ih i (j + 1) _ es119 hfi hiu (by omega) (by omega) h5 (D1.onlyE oE hc4) (by rw [oE.2.2.2.2.1]; exact c6) (fun c' hc' ec => (hC1 c' hc' ec).onlyE oE hc4 hc' (by omega) ec) (oE.1 0 nm (by omega) (by omega) s0) (oE.1 1 sh (by omega) (by omega) s1) ?_ FF
        · rw [show 10 * c + (j + 1) = 10 * c + j + 1 by omega, nI_succ (10 * c + j)] at this
          exact this
        · intro q hq
          by_cases eq : q = j
          · subst eq
            rw [shE, if_neg (by omega), if_pos (by omega)]
            exact mE'
          · have := (hM q hq).onlyE oE (by omega) (by omega) (by omega)
            rw [shE_step eq]
            exact this
  refine z_aload_n (pc := 0) E jd_M_remove_0 rfl rfl ?_
  refine z_iload_n (pc := 1) E jd_M_remove_1 rfl rfl ?_
  refine z_cV1I (pc := 2) E (c_M_none l G B h0) jc_M_78 jv_M_none rfl (by assumption) ⟨Nat.le_of_ble_eq_true rfl, Nat.le_of_ble_eq_true rfl⟩ jd_M_remove_2 (Nat.le_of_ble_eq_true rfl) (by decide) (by decide) (fun v2 es2 h2 => ?_)
  obtain ⟨w2, e2⟩ := h2
  rw [e2, w2, if_neg hcn]
  refine z_if_ne (pc := 5) (tgt := 17) E jd_M_remove_5 (by decide) (fun c5 => ?_) (fun c5 => ?_)
  · exact absurd rfl c5
  · refine z_aload_n (pc := 8) E jd_M_remove_8 rfl rfl ?_
    refine z_iload_n (pc := 9) E jd_M_remove_9 rfl rfl ?_
    refine z_iconst (v := 4) (pc := 10) E jd_M_remove_10 (by decide) ?_
    refine z_cV2I (pc := 11) E (c_M_out l G B) jc_M_54 jv_M_out rfl (by assumption) ⟨Nat.le_of_ble_eq_true rfl, Nat.le_of_ble_eq_true rfl⟩ jd_M_remove_11 (Nat.le_of_ble_eq_true rfl) (by decide) (by decide) (fun v11 es11 h11 => ?_)
    obtain ⟨w11, e11⟩ := h11
    rw [e11, w11, if_neg (fun q => q.elim (nI_pos (by omega)) (fun q => absurd (cle (a := 4) q) (by omega)))]
    refine z_if_eq (pc := 14) (tgt := 19) E jd_M_remove_14 (by decide) (fun c14 => ?_) (fun c14 => ?_)
    · refine z_aload_n (pc := 19) E jd_M_remove_19 rfl rfl ?_
      refine z_iload_n (pc := 20) E jd_M_remove_20 rfl rfl ?_
      refine z_iload_n (pc := 21) E jd_M_remove_21 rfl rfl ?_
      refine z_cV2I (pc := 22) E (c_M_find l G B h0 t0 t1 hc4 hk hh hE hu) jc_M_89 jv_M_find rfl (by assumption) ⟨Nat.le_of_ble_eq_true rfl, Nat.le_of_ble_eq_true rfl⟩ jd_M_remove_22 (Nat.le_of_ble_eq_true rfl) (by decide) (by decide) (fun v22 es22 h22 => ?_)
      obtain ⟨w22, e22⟩ := h22
      rw [e22, w22]
      refine z_istore_n (pc := 25) E jd_M_remove_25 rfl (by decide) rfl ?_
      dsimp only [List.set]
      refine z_iload_n (pc := 26) E jd_M_remove_26 rfl rfl ?_
      refine z_if_ge (pc := 27) (tgt := 33) E jd_M_remove_27 (by decide) (fun c27 => ?_) (fun c27 => ?_)
      · have hf : fnd E0 k nm sh u 0 < u := Decidable.byContradiction fun q => by rw [if_neg q] at c27; exact absurd c27 (by decide)
        rw [if_pos hf]
        refine z_aload_n (pc := 33) E jd_M_remove_33 rfl rfl ?_
        refine z_get (pc := 34) E jf_M_26 jd_M_remove_34 (by assumption) (by rfl) ?_
        refine z_iload_n (pc := 37) E jd_M_remove_37 rfl rfl ?_
        refine z_dup2 (pc := 38) E jd_M_remove_38 rfl rfl ?_
        refine z_iald (ti := 1) (pc := 39) E rfl jd_M_remove_39 (by assumption) (vp_in_nI (by omega) (by omega)) ?_
        rw [nI_clamp (by omega), d6]
        refine z_iconst (v := 1) (pc := 40) E jd_M_remove_40 (by decide) ?_
        refine z_isub (pc := 41) E jd_M_remove_41 ?_
        refine z_topi (y := nI (u - 1)) (wsub (k := 1) (by omega)) ?_
        refine z_iast (ti := 1) (pc := 42) E rfl jd_M_remove_42 (by assumption) (vp_in_nI (by omega) (by omega)) (fun es42 he42 => ?_)
        rw [nI_clamp (by omega)] at he42
        have h1 := h0.s6 he42
        refine z_iload_n (pc := 43) E jd_M_remove_43 rfl rfl ?_
        refine z_istore (pc := 44) E jd_M_remove_44 (by decide) rfl ?_
        dsimp only [List.set]
        refine loop (u - 1 - fnd E0 k nm sh u 0) (fnd E0 k nm sh u 0) (fnd E0 k nm sh u 0) _ es42 rfl hf (Nat.le_refl _) (by omega) h1 d0 pk_us (fun c' hc' ec => ?_) t0 t1 (fun q hq => ?_) (Fr.set he42 (by omega) (by omega))
        · exact ⟨(hC c' hc').1, (pk_un ec).trans (hC c' hc').2.1, (hC c' hc').2.2.1, (hC c' hc').2.2.2⟩
        · rw [shE_0]
          exact dM q hq
      · have hf : ¬ fnd E0 k nm sh u 0 < u := fun q => c27 (by rw [if_pos q]; exact Int32.not_lt.mp (nI_pos (by omega)))
        refine z_bipush (v := -2) (pc := 30) E jd_M_remove_30 (by decide) ?_
        exact z_iret E jd_M_remove_32 ⟨_, rfl, by dsimp only; rw [if_neg hf]; exact ⟨rfl, rfl⟩⟩
    · exact absurd rfl c14
theorem vlu (f : Nat → Int64) (c : Nat) (x : Int64) : vp_updL f c x c = x := by simp [vp_updL]
theorem vln {f : Nat → Int64} {c j : Nat} {x : Int64} (h : j ≠ c) : vp_updL f c x j = f j := by simp [vp_updL, h]
set_option maxHeartbeats 4000000 in
set_option maxRecDepth 100000 in
theorem c_M_declare (l : Launch) (G : zG) (B : Nat) {es : zE} {r c : Nat} {nm sh : List Nat} {R : Nat → DT} {b : Int32} {y : Int64} (h : rA G B es r nm sh R) (hc : cnum R (nI c) = some c) (hb : b = 0 ∨ b = 1) : Tr l G B jy_M_declare jb_M_declare 5 (some .int) 2 0 0 [.ref (B + r), .int (nI c), .int b, .long y] es (pI fun v es' => v = 0 ∧ rA G B es' r nm sh (va_up R c (dtO (R c) b y)) ∧ Fr es es' r (r + 15)) := by
  obtain ⟨S, z, a, e, h0, t0, t1, hC⟩ := h
  obtain ⟨m0, a1, a2, a3, a4, a5, a6, a7, a8, a9, a10, a11, a12, a13, a14⟩ := id h0
  obtain ⟨-, hc4, hth⟩ := cnum_some hc
  have hcn : ¬ cnuM S (nI c) = none := by rw [cnuM_eq hC, hc]; exact fun q => by cases q
  have hnb : vp_nar .boolean b = b := by rcases hb with rfl | rfl <;> rfl
  refine Tr.of (ls := [some (.ref (B + r)), some (.int (nI c)), some (.int b), some (.long y), none]) (by decide +kernel) (Nat.le_of_ble_eq_true rfl) rfl ?_
  intro zp ze zs zm zb zt zc E
  refine z_aload_n (pc := 0) E jd_M_declare_0 rfl rfl ?_
  refine z_iload_n (pc := 1) E jd_M_declare_1 rfl rfl ?_
  refine z_cV1I (pc := 2) E (c_M_none l G B h0) jc_M_78 jv_M_none rfl (by assumption) ⟨Nat.le_of_ble_eq_true rfl, Nat.le_of_ble_eq_true rfl⟩ jd_M_declare_2 (Nat.le_of_ble_eq_true rfl) (by decide) (by decide) (fun v2 es2 h2 => ?_)
  obtain ⟨w2, e2⟩ := h2
  rw [e2, w2, if_neg hcn]
  refine z_if_eq (pc := 5) (tgt := 10) E jd_M_declare_5 (by decide) (fun c5 => ?_) (fun c5 => ?_)
  · refine z_aload_n (pc := 10) E jd_M_declare_10 rfl rfl ?_
    refine z_get (pc := 11) E jf_M_29 jd_M_declare_11 (by assumption) (by rfl) ?_
    refine z_iload_n (pc := 14) E jd_M_declare_14 rfl rfl ?_
    refine z_iload_n (pc := 15) E jd_M_declare_15 rfl rfl ?_
    refine z_zast (ti := 2) (pc := 16) E rfl jd_M_declare_16 (by assumption) (vp_in_nI (by omega) (by omega)) (fun es16 he16 => ?_)
    rw [nI_clamp (by omega)] at he16
    rw [hnb] at he16
    have h1 := h0.s7 he16
    obtain ⟨p0, p1, p2, p3, p4, p5, p6, p7, p8, -⟩ := id h1
    refine z_aload_n (pc := 17) E jd_M_declare_17 rfl rfl ?_
    refine z_get (pc := 18) E jf_M_32 jd_M_declare_18 (by assumption) (by rfl) ?_
    refine z_iload_n (pc := 21) E jd_M_declare_21 rfl rfl ?_
    refine z_lload_n (pc := 22) E jd_M_declare_22 rfl rfl ?_
    refine z_last (ti := 3) (pc := 23) E rfl jd_M_declare_23 (by assumption) (vp_in_nI (by omega) (by omega)) (fun es23 he23 => ?_)
    rw [nI_clamp (by omega)] at he23
    have h2 := h1.s8 he23
    have FF : Fr es es23 r (r + 15) := (Fr.set he16 (by omega) (by omega)).trs (Fr.set he23 (by omega) (by omega))
    have hN : ∀ c', c' < 4 → mC (S.1, S.2.1, S.2.2.1, S.2.2.2.1, S.2.2.2.2.1, S.2.2.2.2.2.1, upd S.2.2.2.2.2.2.1 c b, vp_updL S.2.2.2.2.2.2.2.1 c y, S.2.2.2.2.2.2.2.2) c' (va_up R c (dtO (R c) b y) c') := by
      intro c' hc'
      by_cases ec : c' = c
      · subst ec
        rw [va_up_self]
        obtain ⟨⟨d3, d4, d5, d7, d8, dn, du, dF⟩, dr⟩ := hC c' hc'
        exact ⟨⟨d3, d4, d5, pk_us, vlu _ _ _, dn, du, dF⟩, dr⟩
      · rw [va_up_ne _ _ ec]
        obtain ⟨⟨d3, d4, d5, d7, d8, dn, du, dF⟩, dr⟩ := hC c' hc'
        exact ⟨⟨d3, d4, d5, (pk_un ec).trans d7, (vln ec).trans d8, dn, du, dF⟩, dr⟩
    refine z_iconst (v := 0) (pc := 24) E jd_M_declare_24 (by decide) ?_
    exact z_iret E jd_M_declare_25 ⟨_, rfl, rfl, ⟨_, z, a, e, h2, t0, t1, hN⟩, FF⟩
  · exact absurd rfl c5
/-! counted, count -/
set_option maxHeartbeats 4000000 in
set_option maxRecDepth 100000 in
theorem c_M_counted (l : Launch) (G : zG) (B : Nat) {es : zE} {r c u k : Nat} {S : MS} {z a e : Int32} {t : DT} {E0 : Nat → Ent} (h0 : mO G B es r S z a e) (hc4 : c < 4) (hk : k < 4) (hh : mC S c t) (hE : t.2.2.2.2.2.1 = E0) (hu : t.2.2.2.2.2.2.1 = u) : Tr l G B jy_M_counted jb_M_counted 5 (some .int) 0 0 0 [.ref (B + r), .int (nI c), .int (nI k)] es (pI fun v es' => v = nI (tal E0 k u) ∧ es' = es) := by
  obtain ⟨m0, a1, a2, a3, a4, a5, a6, a7, a8, a9, a10, a11, a12, a13, a14⟩ := id h0
  obtain ⟨-, d6, du, dM⟩ := id hh
  rw [hE, hu] at dM
  rw [hu] at d6 du
  refine Tr.of (ls := [some (.ref (B + r)), some (.int (nI c)), some (.int (nI k)), none, none]) (by decide +kernel) (Nat.le_of_ble_eq_true rfl) rfl ?_
  intro zp ze zs zm zb zt zc E
  have loop : ∀ (f i : Nat), i + f = u → Zj zp l ze (zr 0 0 0) zs zm ([.ref (B + r), .int (nI c), .int (nI k)] : List Value).toArray zb zt zc (MQ zb (zQ G B (pI fun v es' => v = nI (tal E0 k u) ∧ es' = es)) ([.ref (B + r), .int (nI c), .int (nI k)] : List Value).toArray zs 0 0 (fun q => B ≤ q)) G B 5 0 0 8 [some (.ref (B + r)), some (.int (nI c)), some (.int (nI k)), some (.int (nI (tal E0 k i))), some (.int (nI (10 * c + i)))] [] es := by
    intro f
    induction f with
    | zero =>
      intro i hi
      have hiu : i = u := by omega
      subst hiu
      refine z_iload (pc := 8) E jd_M_counted_8 rfl ?_
      refine z_bipush (v := 10) (pc := 10) E jd_M_counted_10 (by decide) ?_
      refine z_iload_n (pc := 12) E jd_M_counted_12 rfl rfl ?_
      refine z_imul (pc := 13) E jd_M_counted_13 ?_
      refine z_topi (y := nI (10 * c)) (pk_mul 10 c) ?_
      refine z_aload_n (pc := 14) E jd_M_counted_14 rfl rfl ?_
      refine z_get (pc := 15) E jf_M_26 jd_M_counted_15 (by assumption) (by rfl) ?_
      refine z_iload_n (pc := 18) E jd_M_counted_18 rfl rfl ?_
      refine z_iald (ti := 1) (pc := 19) E rfl jd_M_counted_19 (by assumption) (vp_in_nI (by omega) (by omega)) ?_
      rw [nI_clamp (by omega), d6]
      refine z_iadd (pc := 20) E jd_M_counted_20 ?_
      rw [nI_add]
      refine z_icmp_ge (pc := 21) (tgt := 49) E jd_M_counted_21 (by decide) (fun c21 => ?_) (fun c21 => ?_)
      · refine z_iload_n (pc := 49) E jd_M_counted_49 rfl rfl ?_
        exact z_iret E jd_M_counted_50 ⟨_, rfl, rfl, rfl⟩
      · exact absurd ((nI_leI (by omega) (by omega)).mpr (Nat.le_refl _)) c21
    | succ f ih =>
      intro i hi
      obtain ⟨g1, g2, g3, g4, g5⟩ := dM i (by omega)
      have ht := tal_le E0 k i
      refine z_iload (pc := 8) E jd_M_counted_8 rfl ?_
      refine z_bipush (v := 10) (pc := 10) E jd_M_counted_10 (by decide) ?_
      refine z_iload_n (pc := 12) E jd_M_counted_12 rfl rfl ?_
      refine z_imul (pc := 13) E jd_M_counted_13 ?_
      refine z_topi (y := nI (10 * c)) (pk_mul 10 c) ?_
      refine z_aload_n (pc := 14) E jd_M_counted_14 rfl rfl ?_
      refine z_get (pc := 15) E jf_M_26 jd_M_counted_15 (by assumption) (by rfl) ?_
      refine z_iload_n (pc := 18) E jd_M_counted_18 rfl rfl ?_
      refine z_iald (ti := 1) (pc := 19) E rfl jd_M_counted_19 (by assumption) (vp_in_nI (by omega) (by omega)) ?_
      rw [nI_clamp (by omega), d6]
      refine z_iadd (pc := 20) E jd_M_counted_20 ?_
      rw [nI_add]
      refine z_icmp_ge (pc := 21) (tgt := 49) E jd_M_counted_21 (by decide) (fun c21 => ?_) (fun c21 => ?_)
      · exact absurd ((nI_leI (by omega) (by omega)).mp c21) (by omega)
      · refine z_iload_n (pc := 24) E jd_M_counted_24 rfl rfl ?_
        refine z_aload_n (pc := 25) E jd_M_counted_25 rfl rfl ?_
        refine z_get (pc := 26) E jf_M_36 jd_M_counted_26 (by assumption) (by rfl) ?_
        refine z_iload (pc := 29) E jd_M_counted_29 rfl ?_
        refine z_iald (ti := 1) (pc := 31) E rfl jd_M_counted_31 (by assumption) (vp_in_nI (by omega) (by omega)) ?_
        rw [nI_clamp (by omega), g1]
        refine z_iload_n (pc := 32) E jd_M_counted_32 rfl rfl ?_
        refine z_icmp_ne (pc := 33) (tgt := 40) E jd_M_counted_33 (by decide) (fun c33 => ?_) (fun c33 => ?_)
        · have hts : tal E0 k (i + 1) = tal E0 k i := by rw [tal, if_neg (nceq c33), Nat.add_zero]
          refine z_iconst (v := 0) (pc := 40) E jd_M_counted_40 (by decide) ?_
          refine z_iadd (pc := 41) E jd_M_counted_41 ?_
          refine z_topi (y := nI (tal E0 k (i + 1))) (by rw [hts]; first | exact nI_1 _ | exact Int32.add_zero _) ?_
          refine z_istore_n (pc := 42) E jd_M_counted_42 rfl (by decide) rfl ?_
          dsimp only [List.set]
          refine z_iinc (pc := 43) E jd_M_counted_43 rfl rfl (by decide) rfl ?_
          dsimp only [List.set]
          refine z_goto (pc := 46) (tgt := 8) E jd_M_counted_46 (by decide) ?_
          have := ih (i + 1) (by omega)
          rw [show 10 * c + (i + 1) = 10 * c + i + 1 by omega, nI_succ (10 * c + i)] at this
          exact this
        · have hts : tal E0 k (i + 1) = tal E0 k i + 1 := by rw [tal, if_pos (ceq c33)]
          refine z_iconst (v := 1) (pc := 36) E jd_M_counted_36 (by decide) ?_
          refine z_goto (pc := 37) (tgt := 41) E jd_M_counted_37 (by decide) ?_
          refine z_iadd (pc := 41) E jd_M_counted_41 ?_
          refine z_topi (y := nI (tal E0 k (i + 1))) (by rw [hts]; first | exact nI_1 _ | exact Int32.add_zero _) ?_
          refine z_istore_n (pc := 42) E jd_M_counted_42 rfl (by decide) rfl ?_
          dsimp only [List.set]
          refine z_iinc (pc := 43) E jd_M_counted_43 rfl rfl (by decide) rfl ?_
          dsimp only [List.set]
          refine z_goto (pc := 46) (tgt := 8) E jd_M_counted_46 (by decide) ?_
          have := ih (i + 1) (by omega)
          rw [show 10 * c + (i + 1) = 10 * c + i + 1 by omega, nI_succ (10 * c + i)] at this
          exact this
  refine z_iconst (v := 0) (pc := 0) E jd_M_counted_0 (by decide) ?_
  refine z_istore_n (pc := 1) E jd_M_counted_1 rfl (by decide) rfl ?_
  dsimp only [List.set]
  refine z_bipush (v := 10) (pc := 2) E jd_M_counted_2 (by decide) ?_
  refine z_iload_n (pc := 4) E jd_M_counted_4 rfl rfl ?_
  refine z_imul (pc := 5) E jd_M_counted_5 ?_
  refine z_topi (y := nI (10 * c + 0)) (pk_mul 10 c) ?_
  refine z_istore (pc := 6) E jd_M_counted_6 (by decide) rfl ?_
  dsimp only [List.set]
  exact loop u 0 (by omega)
set_option maxHeartbeats 4000000 in
set_option maxRecDepth 100000 in
theorem c_M_count (l : Launch) (G : zG) (B : Nat) {es : zE} {r c : Nat} {nm sh : List Nat} {R : Nat → DT} {i : Int32} (h : rA G B es r nm sh R) (hc : cnum R (nI c) = some c) : Tr l G B jy_M_count jb_M_count 3 (some .int) 2 0 0 [.ref (B + r), .int (nI c), .int i] es (pI fun v es' => v = (if i < 0 ∨ 8 ≤ i then -1 else cntV (R c) i.toNatClampNeg) ∧ es' = es) := by
  obtain ⟨S, z, a, e, h0, t0, t1, hC⟩ := h
  obtain ⟨m0, a1, a2, a3, a4, a5, a6, a7, a8, a9, a10, a11, a12, a13, a14⟩ := id h0
  obtain ⟨-, hc4, hth⟩ := cnum_some hc
  have hcn : ¬ cnuM S (nI c) = none := by rw [cnuM_eq hC, hc]; exact fun q => by cases q
  have hh := hC c hc4
  obtain ⟨⟨d3, d4, d5, d7, d8, dn, duf, dF⟩, d6, du, dM⟩ := id hh
  refine Tr.of (ls := [some (.ref (B + r)), some (.int (nI c)), some (.int i)]) (by decide +kernel) (Nat.le_of_ble_eq_true rfl) rfl ?_
  intro zp ze zs zm zb zt zc E
  refine z_aload_n (pc := 0) E jd_M_count_0 rfl rfl ?_
  refine z_iload_n (pc := 1) E jd_M_count_1 rfl rfl ?_
  refine z_cV1I (pc := 2) E (c_M_none l G B h0) jc_M_78 jv_M_none rfl (by assumption) ⟨Nat.le_of_ble_eq_true rfl, Nat.le_of_ble_eq_true rfl⟩ jd_M_count_2 (Nat.le_of_ble_eq_true rfl) (by decide) (by decide) (fun v2 es2 h2 => ?_)
  obtain ⟨w2, e2⟩ := h2
  rw [e2, w2, if_neg hcn]
  refine z_if_ne (pc := 5) (tgt := 18) E jd_M_count_5 (by decide) (fun c5 => ?_) (fun c5 => ?_)
  · exact absurd rfl c5
  · refine z_aload_n (pc := 8) E jd_M_count_8 rfl rfl ?_
    refine z_iload_n (pc := 9) E jd_M_count_9 rfl rfl ?_
    refine z_bipush (v := 8) (pc := 10) E jd_M_count_10 (by decide) ?_
    refine z_cV2I (pc := 12) E (c_M_out l G B) jc_M_54 jv_M_out rfl (by assumption) ⟨Nat.le_of_ble_eq_true rfl, Nat.le_of_ble_eq_true rfl⟩ jd_M_count_12 (Nat.le_of_ble_eq_true rfl) (by decide) (by decide) (fun v12 es12 h12 => ?_)
    obtain ⟨w12, e12⟩ := h12
    rw [e12, w12]
    refine z_if_eq (pc := 15) (tgt := 20) E jd_M_count_15 (by decide) (fun c15 => ?_) (fun c15 => ?_)
    · have hi : ¬ (i < 0 ∨ 8 ≤ i) := fun q => by rw [if_pos q] at c15; exact absurd c15 (by decide)
      refine z_iload_n (pc := 20) E jd_M_count_20 rfl rfl ?_
      obtain ⟨j, hj, rfl⟩ := nI_of (fun q => hi (Or.inl q))
      have hj8 : j < 8 := Nat.lt_of_not_le fun q => hi (Or.inr (nI_le (a := 8) q hj))
      rcases (show j = 0 ∨ j = 1 ∨ j = 2 ∨ j = 3 ∨ j = 4 ∨ j = 5 ∨ j = 6 ∨ j = 7 by omega) with rfl | rfl | rfl | rfl | rfl | rfl | rfl | rfl
      · refine z_tableIn (pc := 21) (tgt := 64) (off := 43) E jd_M_count_21 (by decide) (by decide) (by decide) (by decide) ?_
        refine z_aload_n (pc := 64) E jd_M_count_64 rfl rfl ?_
        refine z_get (pc := 65) E jf_M_23 jd_M_count_65 (by assumption) (by rfl) ?_
        refine z_iload_n (pc := 68) E jd_M_count_68 rfl rfl ?_
        refine z_iald (ti := 1) (pc := 69) E rfl jd_M_count_69 (by assumption) (vp_in_nI (by omega) (by omega)) ?_
        rw [nI_clamp (show c < 2 ^ 31 by omega), d5]
        exact z_iret E jd_M_count_70 ⟨_, rfl, by rw [if_neg hi, nI_clamp hj]; rfl, rfl⟩
      · refine z_tableIn (pc := 21) (tgt := 71) (off := 50) E jd_M_count_21 (by decide) (by decide) (by decide) (by decide) ?_
        refine z_aload_n (pc := 71) E jd_M_count_71 rfl rfl ?_
        refine z_get (pc := 72) E jf_M_26 jd_M_count_72 (by assumption) (by rfl) ?_
        refine z_iload_n (pc := 75) E jd_M_count_75 rfl rfl ?_
        refine z_iald (ti := 1) (pc := 76) E rfl jd_M_count_76 (by assumption) (vp_in_nI (by omega) (by omega)) ?_
        rw [nI_clamp (show c < 2 ^ 31 by omega), d6]
        exact z_iret E jd_M_count_77 ⟨_, rfl, by rw [if_neg hi, nI_clamp hj]; rfl, rfl⟩
      · refine z_tableIn (pc := 21) (tgt := 78) (off := 57) E jd_M_count_21 (by decide) (by decide) (by decide) (by decide) ?_
        refine z_aload_n (pc := 78) E jd_M_count_78 rfl rfl ?_
        refine z_iload_n (pc := 79) E jd_M_count_79 rfl rfl ?_
        refine z_iconst (v := 0) (pc := 80) E jd_M_count_80 (by decide) ?_
        refine z_cV2I (pc := 81) E (c_M_counted l G B (k := 0) h0 hc4 (by omega) hh rfl rfl) jc_M_117 jv_M_counted rfl (by assumption) ⟨Nat.le_of_ble_eq_true rfl, Nat.le_of_ble_eq_true rfl⟩ jd_M_count_81 (Nat.le_of_ble_eq_true rfl) (by decide) (by decide) (fun v81 es81 h81 => ?_)
        obtain ⟨w81, e81⟩ := h81
        rw [e81, w81]
        exact z_iret E jd_M_count_84 ⟨_, rfl, by rw [if_neg hi, nI_clamp hj]; rfl, rfl⟩
      · refine z_tableIn (pc := 21) (tgt := 85) (off := 64) E jd_M_count_21 (by decide) (by decide) (by decide) (by decide) ?_
        refine z_aload_n (pc := 85) E jd_M_count_85 rfl rfl ?_
        refine z_iload_n (pc := 86) E jd_M_count_86 rfl rfl ?_
        refine z_iconst (v := 1) (pc := 87) E jd_M_count_87 (by decide) ?_
        refine z_cV2I (pc := 88) E (c_M_counted l G B (k := 1) h0 hc4 (by omega) hh rfl rfl) jc_M_117 jv_M_counted rfl (by assumption) ⟨Nat.le_of_ble_eq_true rfl, Nat.le_of_ble_eq_true rfl⟩ jd_M_count_88 (Nat.le_of_ble_eq_true rfl) (by decide) (by decide) (fun v88 es88 h88 => ?_)
        obtain ⟨w88, e88⟩ := h88
        rw [e88, w88]
        exact z_iret E jd_M_count_91 ⟨_, rfl, by rw [if_neg hi, nI_clamp hj]; rfl, rfl⟩
      · refine z_tableIn (pc := 21) (tgt := 92) (off := 71) E jd_M_count_21 (by decide) (by decide) (by decide) (by decide) ?_
        refine z_aload_n (pc := 92) E jd_M_count_92 rfl rfl ?_
        refine z_iload_n (pc := 93) E jd_M_count_93 rfl rfl ?_
        refine z_iconst (v := 2) (pc := 94) E jd_M_count_94 (by decide) ?_
        refine z_cV2I (pc := 95) E (c_M_counted l G B (k := 2) h0 hc4 (by omega) hh rfl rfl) jc_M_117 jv_M_counted rfl (by assumption) ⟨Nat.le_of_ble_eq_true rfl, Nat.le_of_ble_eq_true rfl⟩ jd_M_count_95 (Nat.le_of_ble_eq_true rfl) (by decide) (by decide) (fun v95 es95 h95 => ?_)
        obtain ⟨w95, e95⟩ := h95
        rw [e95, w95]
        exact z_iret E jd_M_count_98 ⟨_, rfl, by rw [if_neg hi, nI_clamp hj]; rfl, rfl⟩
      · refine z_tableIn (pc := 21) (tgt := 99) (off := 78) E jd_M_count_21 (by decide) (by decide) (by decide) (by decide) ?_
        refine z_aload_n (pc := 99) E jd_M_count_99 rfl rfl ?_
        refine z_iload_n (pc := 100) E jd_M_count_100 rfl rfl ?_
        refine z_iconst (v := 3) (pc := 101) E jd_M_count_101 (by decide) ?_
        refine z_cV2I (pc := 102) E (c_M_counted l G B (k := 3) h0 hc4 (by omega) hh rfl rfl) jc_M_117 jv_M_counted rfl (by assumption) ⟨Nat.le_of_ble_eq_true rfl, Nat.le_of_ble_eq_true rfl⟩ jd_M_count_102 (Nat.le_of_ble_eq_true rfl) (by decide) (by decide) (fun v102 es102 h102 => ?_)
        obtain ⟨w102, e102⟩ := h102
        rw [e102, w102]
        exact z_iret E jd_M_count_105 ⟨_, rfl, by rw [if_neg hi, nI_clamp hj]; rfl, rfl⟩
      · refine z_tableIn (pc := 21) (tgt := 106) (off := 85) E jd_M_count_21 (by decide) (by decide) (by decide) (by decide) ?_
        refine z_aload_n (pc := 106) E jd_M_count_106 rfl rfl ?_
        refine z_get (pc := 107) E jf_M_20 jd_M_count_107 (by assumption) (by rfl) ?_
        refine z_iload_n (pc := 110) E jd_M_count_110 rfl rfl ?_
        refine z_iald (ti := 1) (pc := 111) E rfl jd_M_count_111 (by assumption) (vp_in_nI (by omega) (by omega)) ?_
        rw [nI_clamp (show c < 2 ^ 31 by omega), d4]
        exact z_iret E jd_M_count_112 ⟨_, rfl, by rw [if_neg hi, nI_clamp hj]; rfl, rfl⟩
      · refine z_tableOut (pc := 21) (tgt := 113) E jd_M_count_21 (by decide) (by decide) ?_
        refine z_aload_n (pc := 113) E jd_M_count_113 rfl rfl ?_
        refine z_get (pc := 114) E jf_M_29 jd_M_count_114 (by assumption) (by rfl) ?_
        refine z_iload_n (pc := 117) E jd_M_count_117 rfl rfl ?_
        refine z_zald (ti := 2) (pc := 118) E rfl jd_M_count_118 (by assumption) (vp_in_nI (by omega) (by omega)) ?_
        rw [nI_clamp (show c < 2 ^ 31 by omega), d7]
        refine z_if_eq (pc := 119) (tgt := 126) E jd_M_count_119 (by decide) (fun c119 => ?_) (fun c119 => ?_)
        · refine z_iconst (v := 0) (pc := 126) E jd_M_count_126 (by decide) ?_
          exact z_iret E jd_M_count_127 ⟨_, rfl, by rw [if_neg hi, nI_clamp hj]; simp only [cntV, c119]; rfl, rfl⟩
        · refine z_iconst (v := 1) (pc := 122) E jd_M_count_122 (by decide) ?_
          refine z_goto (pc := 123) (tgt := 127) E jd_M_count_123 (by decide) ?_
          exact z_iret E jd_M_count_127 ⟨_, rfl, by rw [if_neg hi, nI_clamp hj]; simp only [cntV, c119]; rfl, rfl⟩
    · have hi : i < 0 ∨ 8 ≤ i := Decidable.byContradiction fun q => c15 (by rw [if_neg q])
      refine z_iconst (v := -1) (pc := 18) E jd_M_count_18 (by decide) ?_
      exact z_iret E jd_M_count_19 ⟨_, rfl, by rw [if_pos hi], rfl⟩
