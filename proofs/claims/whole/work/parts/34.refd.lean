/-! the reference: digest, id, hash, size, byteAt, part -/
theorem upd5 (g : Nat → Int32) : ∀ k, k < 5 → upd (upd (upd (upd (upd g 0 1732584193) 1 (-271733879)) 2 (-1732584194)) 3 271733878) 4 (-1009589776) k = h0 k := by
  intro k hk
  rcases (show k = 0 ∨ k = 1 ∨ k = 2 ∨ k = 3 ∨ k = 4 by omega) with rfl | rfl | rfl | rfl | rfl <;> rfl
set_option maxHeartbeats 4000000 in
set_option maxRecDepth 100000 in
theorem c_M_digest (l : Launch) (G : zG) (B : Nat) {es : zE} {r c : Nat} {S : MS} {z a e : Int32} {t t' : DT} {bs : List Nat} (h0' : mO G B es r S z a e) (hc4 : c < 4) (hh : mC S c t') (hR : RR t t') (hbs : dBy t = bs) : Tr l G B jy_M_digest jb_M_digest 4 none 5 0 0 [.ref (B + r), .int (nI c)] es (pV fun es' => ∃ z' f P hf wf, mO G B es' r (mX S f P hf wf) z' a e ∧ (∀ k, k < 5 → hf k = sha bs k) ∧ Fr es es' r (r + 15)) := by
  have hlen := hR.len hh
  have hpl := pad_len (dBy t)
  have m0 := h0'.1
  have hzp : zpad (dBy t).length + ((dBy t).length + 9) = 64 * (((dBy t).length + 72) / 64) := by rw [zpad]; omega
  rw [hbs] at hlen hpl hzp
  refine Tr.of (ls := [some (.ref (B + r)), some (.int (nI c)), none, none]) (by decide +kernel) (Nat.le_of_ble_eq_true rfl) rfl ?_
  intro zp ze zs zm zb zt zc E
  have loopB : ∀ (f P : Nat → Int32), (∀ j, j < (pad bs).length → f j = nI ((pad bs).getD j 0)) → ∀ (n b : Nat) (hf wf : Nat → Int32) (es1 : zE), b + n = (bs.length + 72) / 64 → mO G B es1 r (mX S f P hf wf) (nI (pad bs).length) a e → (∀ k, k < 5 → hf k = shaH (shaP bs) b k) → Fr es es1 r (r + 15) → Zj zp l ze (zr 5 0 0) zs zm ([.ref (B + r), .int (nI c)] : List Value).toArray zb zt zc (MQ zb (zQ G B (pV fun es' => ∃ z' f P hf wf, mO G B es' r (mX S f P hf wf) z' a e ∧ (∀ k, k < 5 → hf k = sha bs k) ∧ Fr es es' r (r + 15))) ([.ref (B + r), .int (nI c)] : List Value).toArray zs 0 0 (fun q => B ≤ q)) G B 4 0 0 92 [some (.ref (B + r)), some (.int (nI c)), some (.int (nI bs.length)), some (.int (nI (64 * b)))] [] es1 := by
    intro f P hf0 n
    induction n with
    | zero =>
      intro b hf wf es1 hb h1 hk F1
      have g0 := mX.c0 h1
      have hbe : b = (bs.length + 72) / 64 := by omega
      refine z_iload_n (pc := 92) E jd_M_digest_92 rfl rfl ?_
      refine z_aload_n (pc := 93) E jd_M_digest_93 rfl rfl ?_
      refine z_get (pc := 94) E jf_M_92 jd_M_digest_94 (by assumption) (by rfl) ?_
      refine z_icmp_ge (pc := 97) (tgt := 111) E jd_M_digest_97 (by decide) (fun c97 => ?_) (fun c97 => ?_)
      · refine z_aload_n (pc := 111) E jd_M_digest_111 rfl rfl ?_
        refine z_iload_n (pc := 112) E jd_M_digest_112 rfl rfl ?_
        refine z_put (pc := 113) E jp_M_92 jd_M_digest_113 (by assumption) (Nat.le_of_ble_eq_true rfl) rfl rfl (fun es113 he113 => ?_)
        dsimp only [List.set] at he113
        have h2 := h1.s0 (z' := nI bs.length) (a' := a) (e' := e) he113
        exact z_vret E jd_M_digest_116 ⟨rfl, _, f, P, hf, wf, h2, fun k hk5 => by rw [hk k hk5, hbe]; rfl, F1.trs (Fr.set he113 (by omega) (by omega))⟩
      · exact absurd ((nI_leI (by omega) (by omega)).mpr (by omega)) c97
    | succ n ih =>
      intro b hf wf es1 hb h1 hk F1
      have g0 := mX.c0 h1
      refine z_iload_n (pc := 92) E jd_M_digest_92 rfl rfl ?_
      refine z_aload_n (pc := 93) E jd_M_digest_93 rfl rfl ?_
      refine z_get (pc := 94) E jf_M_92 jd_M_digest_94 (by assumption) (by rfl) ?_
      refine z_icmp_ge (pc := 97) (tgt := 111) E jd_M_digest_97 (by decide) (fun c97 => ?_) (fun c97 => ?_)
      · exact absurd ((nI_leI (by omega) (by omega)).mp c97) (by omega)
      · refine z_aload_n (pc := 100) E jd_M_digest_100 rfl rfl ?_
        refine z_iload_n (pc := 101) E jd_M_digest_101 rfl rfl ?_
        refine z_cV1V (pc := 102) E (c_M_block l G B (ps := pad bs) h1 (by omega) hf0 (by omega)) jc_M_148 jv_M_block rfl (by assumption) ⟨Nat.le_of_ble_eq_true rfl, Nat.le_of_ble_eq_true rfl⟩ jd_M_digest_102 (Nat.le_of_ble_eq_true rfl) (by decide) (by decide) (fun es102 h102 => ?_)
        obtain ⟨hf2, wf2, h2, x2, F2⟩ := h102
        refine z_iinc (pc := 105) E jd_M_digest_105 rfl rfl (by decide) rfl ?_
        dsimp only [List.set]
        refine z_goto (pc := 108) (tgt := 92) E jd_M_digest_108 (by decide) ?_
        have := ih (b + 1) hf2 wf2 es102 (by omega) h2 (fun k hk5 => by rw [x2 k hk5, shaH]; exact blk_congr hk k hk5) (F1.trs F2)
        rw [show 64 * (b + 1) = 64 * b + 64 by omega, ← nI_add] at this
        exact this
  have t37 : ∀ (P : Nat → Int32) (es1 : zE), bO G B es1 r S P a e (bs ++ 128 :: List.replicate (zpad bs.length) 0) → Fr es es1 r (r + 15) → Zj zp l ze (zr 5 0 0) zs zm ([.ref (B + r), .int (nI c)] : List Value).toArray zb zt zc (MQ zb (zQ G B (pV fun es' => ∃ z' f P hf wf, mO G B es' r (mX S f P hf wf) z' a e ∧ (∀ k, k < 5 → hf k = sha bs k) ∧ Fr es es' r (r + 15))) ([.ref (B + r), .int (nI c)] : List Value).toArray zs 0 0 (fun q => B ≤ q)) G B 4 0 0 37 [some (.ref (B + r)), some (.int (nI c)), some (.int (nI bs.length)), none] [] es1 := by
    intro P es1 h1 F1
    have g0 := h1.obj
    refine z_aload_n (pc := 37) E jd_M_digest_37 rfl rfl ?_
    refine z_iconst (v := 0) (pc := 38) E jd_M_digest_38 (by decide) ?_
    refine z_cV1V (pc := 39) E (c_M_number l G B h1 (by simp only [List.length_append, List.length_cons, List.length_replicate]; omega)) jc_M_114 jv_M_number rfl (by assumption) ⟨Nat.le_of_ble_eq_true rfl, Nat.le_of_ble_eq_true rfl⟩ jd_M_digest_39 (Nat.le_of_ble_eq_true rfl) (by decide) (by decide) (fun es39 h39 => ?_)
    obtain ⟨h2, F2⟩ := h39
    have g0 := h2.obj
    refine z_aload_n (pc := 42) E jd_M_digest_42 rfl rfl ?_
    refine z_bipush (v := 8) (pc := 43) E jd_M_digest_43 (by decide) ?_
    refine z_iload_n (pc := 45) E jd_M_digest_45 rfl rfl ?_
    refine z_imul (pc := 46) E jd_M_digest_46 ?_
    refine z_topi (y := nI (8 * bs.length)) (pk_mul 8 _) ?_
    refine z_cV1V (pc := 47) E (c_M_number l G B h2 (by simp only [List.length_append, List.length_cons, List.length_replicate, num_len]; omega)) jc_M_114 jv_M_number rfl (by assumption) ⟨Nat.le_of_ble_eq_true rfl, Nat.le_of_ble_eq_true rfl⟩ jd_M_digest_47 (Nat.le_of_ble_eq_true rfl) (by decide) (by decide) (fun es47 h47 => ?_)
    obtain ⟨h3, F3⟩ := h47
    have h4 : bO G B es47 r S P a e (pad bs) := by
      rw [show bs ++ 128 :: List.replicate (zpad bs.length) 0 ++ num 0 ++ num (nI (8 * bs.length)) = pad bs by rw [pad]; simp] at h3
      exact h3
    obtain ⟨hl4, f, hm4, hf4⟩ := h4
    have h5 : mO G B es47 r (mX S f P S.2.2.2.2.2.2.2.2.2.2.2.2.1 S.2.2.2.2.2.2.2.2.2.2.2.2.2) (nI (pad bs).length) a e := hm4
    have g0 := mX.c0 h5
    have g13 := mX.c13 h5
    refine z_aload_n (pc := 50) E jd_M_digest_50 rfl rfl ?_
    refine z_get (pc := 51) E jf_M_48 jd_M_digest_51 (by assumption) (by rfl) ?_
    refine z_iconst (v := 0) (pc := 54) E jd_M_digest_54 (by decide) ?_
    refine z_ldc (pc := 55) E jw_645 jd_M_digest_55 ?_
    refine z_iast (ti := 1) (pc := 57) E rfl jd_M_digest_57 (by assumption) (by unfold vp_in; decide) (fun es57 he57 => ?_)
    have h6 := mX.s13 h5 he57
    have g0 := mX.c0 h6
    have k13 := mX.c13 h6
    refine z_aload_n (pc := 58) E jd_M_digest_58 rfl rfl ?_
    refine z_get (pc := 59) E jf_M_48 jd_M_digest_59 (by assumption) (by rfl) ?_
    refine z_iconst (v := 1) (pc := 62) E jd_M_digest_62 (by decide) ?_
    refine z_ldc (pc := 63) E jw_646 jd_M_digest_63 ?_
    refine z_iast (ti := 1) (pc := 65) E rfl jd_M_digest_65 (by assumption) (by unfold vp_in; decide) (fun es65 he65 => ?_)
    have h7 := mX.s13 h6 he65
    have g0 := mX.c0 h7
    have m13 := mX.c13 h7
    refine z_aload_n (pc := 66) E jd_M_digest_66 rfl rfl ?_
    refine z_get (pc := 67) E jf_M_48 jd_M_digest_67 (by assumption) (by rfl) ?_
    refine z_iconst (v := 2) (pc := 70) E jd_M_digest_70 (by decide) ?_
    refine z_ldc (pc := 71) E jw_647 jd_M_digest_71 ?_
    refine z_iast (ti := 1) (pc := 73) E rfl jd_M_digest_73 (by assumption) (by unfold vp_in; decide) (fun es73 he73 => ?_)
    have h8 := mX.s13 h7 he73
    have g0 := mX.c0 h8
    have n13 := mX.c13 h8
    refine z_aload_n (pc := 74) E jd_M_digest_74 rfl rfl ?_
    refine z_get (pc := 75) E jf_M_48 jd_M_digest_75 (by assumption) (by rfl) ?_
    refine z_iconst (v := 3) (pc := 78) E jd_M_digest_78 (by decide) ?_
    refine z_ldc (pc := 79) E jw_648 jd_M_digest_79 ?_
    refine z_iast (ti := 1) (pc := 81) E rfl jd_M_digest_81 (by assumption) (by unfold vp_in; decide) (fun es81 he81 => ?_)
    have h9 := mX.s13 h8 he81
    have g0 := mX.c0 h9
    have o13 := mX.c13 h9
    refine z_aload_n (pc := 82) E jd_M_digest_82 rfl rfl ?_
    refine z_get (pc := 83) E jf_M_48 jd_M_digest_83 (by assumption) (by rfl) ?_
    refine z_iconst (v := 4) (pc := 86) E jd_M_digest_86 (by decide) ?_
    refine z_ldc (pc := 87) E jw_649 jd_M_digest_87 ?_
    refine z_iast (ti := 1) (pc := 89) E rfl jd_M_digest_89 (by assumption) (by unfold vp_in; decide) (fun es89 he89 => ?_)
    have h10 := mX.s13 h9 he89
    have FF : Fr es es89 r (r + 15) := ((F1.trs F2).trs F3).trs (((((Fr.set he57 (by omega) (by omega)).trs (Fr.set he65 (by omega) (by omega))).trs (Fr.set he73 (by omega) (by omega))).trs (Fr.set he81 (by omega) (by omega))).trs (Fr.set he89 (by omega) (by omega)))
    refine z_iconst (v := 0) (pc := 90) E jd_M_digest_90 (by decide) ?_
    refine z_istore_n (pc := 91) E jd_M_digest_91 rfl (by decide) rfl ?_
    dsimp only [List.set]
    exact loopB f P hf4 ((bs.length + 72) / 64) 0 _ _ es89 (by omega) h10 (fun k hk => upd5 _ k hk) FF
  have loopP : ∀ (P : Nat → Int32) (n j : Nat) (es1 : zE), j + n = zpad bs.length → bO G B es1 r S P a e (bs ++ 128 :: List.replicate j 0) → Fr es es1 r (r + 15) → Zj zp l ze (zr 5 0 0) zs zm ([.ref (B + r), .int (nI c)] : List Value).toArray zb zt zc (MQ zb (zQ G B (pV fun es' => ∃ z' f P hf wf, mO G B es' r (mX S f P hf wf) z' a e ∧ (∀ k, k < 5 → hf k = sha bs k) ∧ Fr es es' r (r + 15))) ([.ref (B + r), .int (nI c)] : List Value).toArray zs 0 0 (fun q => B ≤ q)) G B 4 0 0 17 [some (.ref (B + r)), some (.int (nI c)), some (.int (nI bs.length)), none] [] es1 := by
    intro P n
    induction n with
    | zero =>
      intro j es1 hj h1 F1
      have g0 := h1.obj
      have hjz : j = zpad bs.length := by omega
      subst hjz
      have hl1 : (bs ++ 128 :: List.replicate (zpad bs.length) 0).length = bs.length + (zpad bs.length + 1) := by simp
      refine z_aload_n (pc := 17) E jd_M_digest_17 rfl rfl ?_
      refine z_get (pc := 18) E jf_M_92 jd_M_digest_18 (by assumption) (by rfl) ?_
      refine z_bipush (v := 64) (pc := 21) E jd_M_digest_21 (by decide) ?_
      refine z_irem (pc := 23) E jd_M_digest_23 (by decide) ?_
      refine z_topi (y := nI ((bs ++ 128 :: List.replicate (zpad bs.length) 0).length % 64)) (pk_rem (d := 64) (by omega) (by omega) (by omega)) ?_
      rw [hl1]
      refine z_bipush (v := 56) (pc := 24) E jd_M_digest_24 (by decide) ?_
      refine z_icmp_eq (pc := 26) (tgt := 37) E jd_M_digest_26 (by decide) (fun c26 => ?_) (fun c26 => ?_)
      · exact t37 P es1 h1 F1
      · exact absurd (show nI _ = nI 56 by congr 1; omega) c26
    | succ n ih =>
      intro j es1 hj h1 F1
      have g0 := h1.obj
      have hl1 : (bs ++ 128 :: List.replicate j 0).length = bs.length + (j + 1) := by simp
      refine z_aload_n (pc := 17) E jd_M_digest_17 rfl rfl ?_
      refine z_get (pc := 18) E jf_M_92 jd_M_digest_18 (by assumption) (by rfl) ?_
      refine z_bipush (v := 64) (pc := 21) E jd_M_digest_21 (by decide) ?_
      refine z_irem (pc := 23) E jd_M_digest_23 (by decide) ?_
      refine z_topi (y := nI ((bs ++ 128 :: List.replicate j 0).length % 64)) (pk_rem (d := 64) (by omega) (by omega) (by omega)) ?_
      rw [hl1]
      refine z_bipush (v := 56) (pc := 24) E jd_M_digest_24 (by decide) ?_
      refine z_icmp_eq (pc := 26) (tgt := 37) E jd_M_digest_26 (by decide) (fun c26 => ?_) (fun c26 => ?_)
      · exact absurd (ceq (b := 56) c26) (by omega)
      · refine z_aload_n (pc := 29) E jd_M_digest_29 rfl rfl ?_
        refine z_iconst (v := 0) (pc := 30) E jd_M_digest_30 (by decide) ?_
        refine z_cV1V (pc := 31) E (c_M_put l G B h1 (by rw [hl1]; omega)) jc_M_95 jv_M_put rfl (by assumption) ⟨Nat.le_of_ble_eq_true rfl, Nat.le_of_ble_eq_true rfl⟩ jd_M_digest_31 (Nat.le_of_ble_eq_true rfl) (by decide) (by decide) (fun es31 h31 => ?_)
        obtain ⟨h2, F2⟩ := h31
        rw [show by8 0 = 0 from rfl] at h2
        refine z_goto (pc := 34) (tgt := 17) E jd_M_digest_34 (by decide) ?_
        refine ih (j + 1) es31 (by omega) ?_ (F1.trs F2)
        rw [List.replicate_succ', ← List.cons_append, ← List.append_assoc]
        exact h2
  refine z_aload_n (pc := 0) E jd_M_digest_0 rfl rfl ?_
  refine z_iload_n (pc := 1) E jd_M_digest_1 rfl rfl ?_
  refine z_cV1V (pc := 2) E (c_M_build l G B h0' hc4 hh hR) jc_M_140 jv_M_build rfl (by assumption) ⟨Nat.le_of_ble_eq_true rfl, Nat.le_of_ble_eq_true rfl⟩ jd_M_digest_2 (Nat.le_of_ble_eq_true rfl) (by decide) (by decide) (fun es2 h2 => ?_)
  obtain ⟨P, h2, hP, F2⟩ := h2
  rw [hbs] at h2
  have g0 := h2.obj
  refine z_aload_n (pc := 5) E jd_M_digest_5 rfl rfl ?_
  refine z_get (pc := 6) E jf_M_92 jd_M_digest_6 (by assumption) (by rfl) ?_
  refine z_istore_n (pc := 9) E jd_M_digest_9 rfl (by decide) rfl ?_
  dsimp only [List.set]
  refine z_aload_n (pc := 10) E jd_M_digest_10 rfl rfl ?_
  refine z_sipush (v := 128) (pc := 11) E jd_M_digest_11 (by decide) ?_
  refine z_cV1V (pc := 14) E (c_M_put l G B h2 (by omega)) jc_M_95 jv_M_put rfl (by assumption) ⟨Nat.le_of_ble_eq_true rfl, Nat.le_of_ble_eq_true rfl⟩ jd_M_digest_14 (Nat.le_of_ble_eq_true rfl) (by decide) (by decide) (fun es14 h14 => ?_)
  obtain ⟨h3, F3⟩ := h14
  rw [show by8 128 = 128 from rfl] at h3
  exact loopP P (zpad bs.length) 0 es14 (by omega) h3 (F2.trs F3)
set_option maxHeartbeats 4000000 in
set_option maxRecDepth 100000 in
theorem c_M_id (l : Launch) (G : zG) (B : Nat) {es : zE} {r c : Nat} {nm sh : List Nat} {R : Nat → DT} {t : DT} (h : rA G B es r nm sh R) (hc : cnum R (nI c) = some c) (hR : RR t (R c)) : Tr l G B jy_M_id jb_M_id 5 (some .long) 6 0 0 [.ref (B + r), .int (nI c)] es (pL fun v es' => v = (if ¬ t.2.2.1 &&& 16384 = 0 then 0 else if ¬ t.2.2.2.2.2.2.2.1 = 0 then t.2.2.2.2.2.2.2.2 else id8 (sha (dBy t) 0) (sha (dBy t) 1)) ∧ rA G B es' r nm sh R ∧ Fr es es' r (r + 15)) := by
  have hr := h
  obtain ⟨S, z, a, e, h0, t0, t1, hC⟩ := h
  obtain ⟨m0, a1, a2, a3, a4, a5, a6, a7, a8, a9, a10, a11, a12, a13, a14⟩ := id h0
  obtain ⟨-, hc4, hth⟩ := cnum_some hc
  have hcn : ¬ cnuM S (nI c) = none := by rw [cnuM_eq hC, hc]; exact fun q => by cases q
  have hh := hC c hc4
  obtain ⟨⟨d3, d4, d5, d7, d8, dn, duf, dF⟩, -⟩ := id hh
  obtain ⟨r1, r2, r3, r4, r5, r6, r7, -⟩ := id hR
  rw [← r3] at d4
  rw [← r6] at d7
  rw [← r7] at d8
  refine Tr.of (ls := [some (.ref (B + r)), some (.int (nI c)), none, none, none]) (by decide +kernel) (Nat.le_of_ble_eq_true rfl) rfl ?_
  intro zp ze zs zm zb zt zc E
  have loop : ∀ (hf : Nat → Int32) (es1 : zE), t.2.2.1 &&& 16384 = 0 → t.2.2.2.2.2.2.2.1 = 0 → (∀ k, k < 5 → hf k = sha (dBy t) k) → es1[r + 13]? = some (.inl (G.2.1 1, 5, .inl hf)) → (∃ z' a' e', es1[r]? = some (.inr (7, [.ref (B + (r + 1)), .ref (B + (r + 2)), .ref (B + (r + 3)), .ref (B + (r + 4)), .ref (B + (r + 5)), .ref (B + (r + 6)), .ref (B + (r + 7)), .ref (B + (r + 8)), .ref (B + (r + 9)), .ref (B + (r + 10)), .ref (B + (r + 11)), .int z', .ref (B + (r + 12)), .ref (B + (r + 13)), .ref (B + (r + 14)), .int a', .int e']))) → rA G B es1 r nm sh R → Fr es es1 r (r + 15) → ∀ (m : Nat) (v : Int64), m ≤ 8 → (∀ i, i < 64 → v.toBitVec.getLsbD i = if i + 8 * m < 64 then hbit hf (i + 8 * m) else false) → Zj zp l ze (zr 6 0 0) zs zm ([.ref (B + r), .int (nI c)] : List Value).toArray zb zt zc (MQ zb (zQ G B (pL fun v es' => v = (if ¬ t.2.2.1 &&& 16384 = 0 then 0 else if ¬ t.2.2.2.2.2.2.2.1 = 0 then t.2.2.2.2.2.2.2.2 else id8 (sha (dBy t) 0) (sha (dBy t) 1)) ∧ rA G B es' r nm sh R ∧ Fr es es' r (r + 15))) ([.ref (B + r), .int (nI c)] : List Value).toArray zs 0 0 (fun q => B ≤ q)) G B 5 0 0 54 [some (.ref (B + r)), some (.int (nI c)), some (.long v), none, some (.int (nI m - 1))] [] es1 := by
    intro hf es1 hz1 hz2 hsh g13 hg0 hr1 F1 m
    obtain ⟨z', a', e', g0⟩ := hg0
    induction m with
    | zero =>
      intro v hm hv
      have hve : v = id8 (sha (dBy t) 0) (sha (dBy t) 1) := by
        rw [← hsh 0 (by omega), ← hsh 1 (by omega)]
        apply Int64.toBitVec_inj.mp
        apply BitVec.eq_of_getLsbD_eq
        intro i hi
        rw [id8_bit hf hi, hv i hi, if_pos (by omega)]
        rfl
      refine z_iload (pc := 54) E jd_M_id_54 rfl ?_
      refine z_if_lt (pc := 56) (tgt := 96) E jd_M_id_56 (by decide) (fun c56 => ?_) (fun c56 => ?_)
      · refine z_lload_n (pc := 96) E jd_M_id_96 rfl rfl ?_
        exact z_lret E jd_M_id_97 ⟨_, rfl, by rw [if_neg (not_not_intro hz1), if_neg (not_not_intro hz2), hve], hr1, F1⟩
      · exact absurd (by decide) c56
    | succ m ih =>
      intro v hm hv
      rw [nI_pred m]
      refine z_iload (pc := 54) E jd_M_id_54 rfl ?_
      refine z_if_lt (pc := 56) (tgt := 96) E jd_M_id_56 (by decide) (fun c56 => ?_) (fun c56 => ?_)
      · exact absurd c56 (nI_pos (by omega))
      · refine z_lload_n (pc := 59) E jd_M_id_59 rfl rfl ?_
        refine z_bipush (v := 8) (pc := 60) E jd_M_id_60 (by decide) ?_
        refine z_lshl (pc := 62) E jd_M_id_62 ?_
        refine z_aload_n (pc := 63) E jd_M_id_63 rfl rfl ?_
        refine z_get (pc := 64) E jf_M_48 jd_M_id_64 (by assumption) (by rfl) ?_
        refine z_iload (pc := 67) E jd_M_id_67 rfl ?_
        refine z_iconst (v := 4) (pc := 69) E jd_M_id_69 (by decide) ?_
        refine z_idiv (pc := 70) E jd_M_id_70 (by decide) ?_
        refine z_topi (y := nI (m / 4)) (pk_div (d := 4) (by omega) (by omega) (by omega)) ?_
        refine z_iald (ti := 1) (pc := 71) E rfl jd_M_id_71 (by assumption) (vp_in_nI (by omega) (by omega)) ?_
        rw [nI_clamp (by omega)]
        refine z_bipush (v := 24) (pc := 72) E jd_M_id_72 (by decide) ?_
        refine z_bipush (v := 8) (pc := 74) E jd_M_id_74 (by decide) ?_
        refine z_iload (pc := 76) E jd_M_id_76 rfl ?_
        refine z_iconst (v := 4) (pc := 78) E jd_M_id_78 (by decide) ?_
        refine z_irem (pc := 79) E jd_M_id_79 (by decide) ?_
        refine z_topi (y := nI (m % 4)) (pk_rem (d := 4) (by omega) (by omega) (by omega)) ?_
        refine z_imul (pc := 80) E jd_M_id_80 ?_
        refine z_topi (y := nI (8 * (m % 4))) (pk_mul 8 _) ?_
        refine z_isub (pc := 81) E jd_M_id_81 ?_
        refine z_topi (y := nI (8 * (3 - m % 4))) (by rw [show 8 * (3 - m % 4) = 24 - 8 * (m % 4) by omega]; exact wsub (t := 24) (by omega)) ?_
        refine z_ishr (pc := 82) E jd_M_id_82 ?_
        refine z_sipush (v := 255) (pc := 83) E jd_M_id_83 (by decide) ?_
        refine z_iand (pc := 86) E jd_M_id_86 ?_
        refine z_topi (by8_255 _) ?_
        rw [by8_shr _ (by omega)]
        refine z_i2l (pc := 87) E jd_M_id_87 ?_
        refine z_lor (pc := 88) E jd_M_id_88 ?_
        refine z_lstore_n (pc := 89) E jd_M_id_89 rfl (by decide) rfl ?_
        dsimp only [List.set]
        refine z_iinc (pc := 90) E jd_M_id_90 rfl rfl (by decide) rfl ?_
        dsimp only [List.set]
        refine z_goto (pc := 93) (tgt := 54) E jd_M_id_93 (by decide) ?_
        rw [m1]
        refine ih _ (by omega) (fun i hi => ?_)
        rw [sh8_bit _ (Nat.mod_lt _ (by decide)) hi]
        by_cases h8 : i < 8
        · rw [if_pos h8, byb _ h8, if_pos (by omega), hbit, show (i + 8 * m) / 32 = m / 4 by omega, show (i + 8 * m) / 8 % 4 = m % 4 by omega, show (i + 8 * m) % 8 = i by omega, show 24 - 8 * (m % 4) + i = 8 * (3 - m % 4) + i by omega]
        · rw [if_neg h8, hv (i - 8) (by omega), show i - 8 + 8 * (m + 1) = i + 8 * m by omega]
  refine z_aload_n (pc := 0) E jd_M_id_0 rfl rfl ?_
  refine z_iload_n (pc := 1) E jd_M_id_1 rfl rfl ?_
  refine z_cV1I (pc := 2) E (c_M_none l G B h0) jc_M_78 jv_M_none rfl (by assumption) ⟨Nat.le_of_ble_eq_true rfl, Nat.le_of_ble_eq_true rfl⟩ jd_M_id_2 (Nat.le_of_ble_eq_true rfl) (by decide) (by decide) (fun v2 es2 h2 => ?_)
  obtain ⟨w2, e2⟩ := h2
  rw [e2, w2, if_neg hcn]
  refine z_if_eq (pc := 5) (tgt := 12) E jd_M_id_5 (by decide) (fun c5 => ?_) (fun c5 => ?_)
  · refine z_aload_n (pc := 12) E jd_M_id_12 rfl rfl ?_
    refine z_get (pc := 13) E jf_M_20 jd_M_id_13 (by assumption) (by rfl) ?_
    refine z_iload_n (pc := 16) E jd_M_id_16 rfl rfl ?_
    refine z_iald (ti := 1) (pc := 17) E rfl jd_M_id_17 (by assumption) (vp_in_nI (by omega) (by omega)) ?_
    rw [nI_clamp (by omega), d4]
    refine z_sipush (v := 16384) (pc := 18) E jd_M_id_18 (by decide) ?_
    refine z_iand (pc := 21) E jd_M_id_21 ?_
    refine z_if_eq (pc := 22) (tgt := 27) E jd_M_id_22 (by decide) (fun c22 => ?_) (fun c22 => ?_)
    · refine z_aload_n (pc := 27) E jd_M_id_27 rfl rfl ?_
      refine z_get (pc := 28) E jf_M_29 jd_M_id_28 (by assumption) (by rfl) ?_
      refine z_iload_n (pc := 31) E jd_M_id_31 rfl rfl ?_
      refine z_zald (ti := 2) (pc := 32) E rfl jd_M_id_32 (by assumption) (vp_in_nI (by omega) (by omega)) ?_
      rw [nI_clamp (by omega), d7]
      refine z_if_eq (pc := 33) (tgt := 43) E jd_M_id_33 (by decide) (fun c33 => ?_) (fun c33 => ?_)
      · refine z_aload_n (pc := 43) E jd_M_id_43 rfl rfl ?_
        refine z_iload_n (pc := 44) E jd_M_id_44 rfl rfl ?_
        refine z_cV1V (pc := 45) E (c_M_digest l G B h0 hc4 hh hR rfl) jc_M_153 jv_M_digest rfl (by assumption) ⟨Nat.le_of_ble_eq_true rfl, Nat.le_of_ble_eq_true rfl⟩ jd_M_id_45 (Nat.le_of_ble_eq_true rfl) (by decide) (by decide) (fun es45 h45 => ?_)
        obtain ⟨z2, f2, P2, hf2, wf2, h2, x2, F2⟩ := h45
        have hr2 : rA G B es45 r nm sh R := ⟨_, z2, a, e, h2, t0, t1, hC⟩
        refine z_lconst (v := 0) (pc := 48) E jd_M_id_48 (by decide) ?_
        refine z_lstore_n (pc := 49) E jd_M_id_49 rfl (by decide) rfl ?_
        dsimp only [List.set]
        refine z_bipush (v := 7) (pc := 50) E jd_M_id_50 (by decide) ?_
        refine z_istore (pc := 52) E jd_M_id_52 (by decide) rfl ?_
        dsimp only [List.set]
        exact loop hf2 es45 c22 c33 x2 (mX.c13 h2) ⟨z2, a, e, mX.c0 h2⟩ hr2 F2 8 0 (by omega) (fun i hi => by rw [if_neg (by omega)]; simp)
      · refine z_aload_n (pc := 36) E jd_M_id_36 rfl rfl ?_
        refine z_get (pc := 37) E jf_M_32 jd_M_id_37 (by assumption) (by rfl) ?_
        refine z_iload_n (pc := 40) E jd_M_id_40 rfl rfl ?_
        refine z_lald (ti := 3) (pc := 41) E rfl jd_M_id_41 (by assumption) (vp_in_nI (by omega) (by omega)) ?_
        rw [nI_clamp (by omega), d8]
        exact z_lret E jd_M_id_42 ⟨_, rfl, by rw [if_neg (not_not_intro c22), if_pos c33], hr, Fr.rf⟩
    · refine z_lconst (v := 0) (pc := 25) E jd_M_id_25 (by decide) ?_
      exact z_lret E jd_M_id_26 ⟨_, rfl, by rw [if_pos c22], hr, Fr.rf⟩
  · exact absurd rfl c5
set_option maxHeartbeats 4000000 in
set_option maxRecDepth 100000 in
theorem c_M_hash (l : Launch) (G : zG) (B : Nat) {es : zE} {r c : Nat} {nm sh : List Nat} {R : Nat → DT} {t : DT} {i : Int32} (h : rA G B es r nm sh R) (hc : cnum R (nI c) = some c) (hR : RR t (R c)) : Tr l G B jy_M_hash jb_M_hash 3 (some .long) 6 0 0 [.ref (B + r), .int (nI c), .int i] es (pL fun v es' => v = (if i < 0 ∨ 5 ≤ i then -9000000000000000001 else (sha (dBy t) i.toNatClampNeg).toInt64) ∧ rA G B es' r nm sh R ∧ Fr es es' r (r + 15)) := by
  have hr := h
  obtain ⟨S, z, a, e, h0, t0, t1, hC⟩ := h
  have m0 := h0.1
  obtain ⟨-, hc4, hth⟩ := cnum_some hc
  have hcn : ¬ cnuM S (nI c) = none := by rw [cnuM_eq hC, hc]; exact fun q => by cases q
  have hh := hC c hc4
  refine Tr.of (ls := [some (.ref (B + r)), some (.int (nI c)), some (.int i)]) (by decide +kernel) (Nat.le_of_ble_eq_true rfl) rfl ?_
  intro zp ze zs zm zb zt zc E
  refine z_aload_n (pc := 0) E jd_M_hash_0 rfl rfl ?_
  refine z_iload_n (pc := 1) E jd_M_hash_1 rfl rfl ?_
  refine z_cV1I (pc := 2) E (c_M_none l G B h0) jc_M_78 jv_M_none rfl (by assumption) ⟨Nat.le_of_ble_eq_true rfl, Nat.le_of_ble_eq_true rfl⟩ jd_M_hash_2 (Nat.le_of_ble_eq_true rfl) (by decide) (by decide) (fun v2 es2 h2 => ?_)
  obtain ⟨w2, e2⟩ := h2
  rw [e2, w2, if_neg hcn]
  refine z_if_ne (pc := 5) (tgt := 17) E jd_M_hash_5 (by decide) (fun c5 => ?_) (fun c5 => ?_)
  · exact absurd rfl c5
  · refine z_aload_n (pc := 8) E jd_M_hash_8 rfl rfl ?_
    refine z_iload_n (pc := 9) E jd_M_hash_9 rfl rfl ?_
    refine z_iconst (v := 5) (pc := 10) E jd_M_hash_10 (by decide) ?_
    refine z_cV2I (pc := 11) E (c_M_out l G B) jc_M_54 jv_M_out rfl (by assumption) ⟨Nat.le_of_ble_eq_true rfl, Nat.le_of_ble_eq_true rfl⟩ jd_M_hash_11 (Nat.le_of_ble_eq_true rfl) (by decide) (by decide) (fun v11 es11 h11 => ?_)
    obtain ⟨w11, e11⟩ := h11
    rw [e11, w11]
    refine z_if_eq (pc := 14) (tgt := 21) E jd_M_hash_14 (by decide) (fun c14 => ?_) (fun c14 => ?_)
    · have hi : ¬ (i < 0 ∨ 5 ≤ i) := fun q => by rw [if_pos q] at c14; exact absurd c14 (by decide)
      obtain ⟨j, hj, rfl⟩ := nI_of (fun q => hi (Or.inl q))
      have hj5 : j < 5 := Nat.lt_of_not_le fun q => hi (Or.inr (nI_le (a := 5) q hj))
      refine z_aload_n (pc := 21) E jd_M_hash_21 rfl rfl ?_
      refine z_iload_n (pc := 22) E jd_M_hash_22 rfl rfl ?_
      refine z_cV1V (pc := 23) E (c_M_digest l G B h0 hc4 hh hR rfl) jc_M_153 jv_M_digest rfl (by assumption) ⟨Nat.le_of_ble_eq_true rfl, Nat.le_of_ble_eq_true rfl⟩ jd_M_hash_23 (Nat.le_of_ble_eq_true rfl) (by decide) (by decide) (fun es23 h23 => ?_)
      obtain ⟨z2, f2, P2, hf2, wf2, h2, x2, F2⟩ := h23
      have hr2 : rA G B es23 r nm sh R := ⟨_, z2, a, e, h2, t0, t1, hC⟩
      have g0 := mX.c0 h2
      have g13 := mX.c13 h2
      refine z_aload_n (pc := 26) E jd_M_hash_26 rfl rfl ?_
      refine z_get (pc := 27) E jf_M_48 jd_M_hash_27 (by assumption) (by rfl) ?_
      refine z_iload_n (pc := 30) E jd_M_hash_30 rfl rfl ?_
      refine z_iald (ti := 1) (pc := 31) E rfl jd_M_hash_31 (by assumption) (vp_in_nI (by omega) (by omega)) ?_
      rw [nI_clamp (show j < 2 ^ 31 by omega), x2 j hj5]
      refine z_i2l (pc := 32) E jd_M_hash_32 ?_
      exact z_lret E jd_M_hash_33 ⟨_, rfl, by rw [if_neg hi], hr2, F2⟩
    · have hi : i < 0 ∨ 5 ≤ i := Decidable.byContradiction fun q => c14 (by rw [if_neg q])
      refine z_ldc2 (pc := 17) E jw_600 jd_M_hash_17 ?_
      exact z_lret E jd_M_hash_20 ⟨_, rfl, by rw [if_pos hi], hr, Fr.rf⟩
set_option maxHeartbeats 4000000 in
set_option maxRecDepth 100000 in
theorem c_M_size (l : Launch) (G : zG) (B : Nat) {es : zE} {r c : Nat} {nm sh : List Nat} {R : Nat → DT} {t : DT} (h : rA G B es r nm sh R) (hc : cnum R (nI c) = some c) (hR : RR t (R c)) : Tr l G B jy_M_size jb_M_size 2 (some .int) 5 0 0 [.ref (B + r), .int (nI c)] es (pI fun v es' => v = nI (dBy t).length ∧ rA G B es' r nm sh R ∧ Fr es es' r (r + 15)) := by
  obtain ⟨S, z, a, e, h0, t0, t1, hC⟩ := h
  have m0 := h0.1
  obtain ⟨-, hc4, hth⟩ := cnum_some hc
  have hcn : ¬ cnuM S (nI c) = none := by rw [cnuM_eq hC, hc]; exact fun q => by cases q
  have hh := hC c hc4
  refine Tr.of (ls := [some (.ref (B + r)), some (.int (nI c))]) (by decide +kernel) (Nat.le_of_ble_eq_true rfl) rfl ?_
  intro zp ze zs zm zb zt zc E
  refine z_aload_n (pc := 0) E jd_M_size_0 rfl rfl ?_
  refine z_iload_n (pc := 1) E jd_M_size_1 rfl rfl ?_
  refine z_cV1I (pc := 2) E (c_M_none l G B h0) jc_M_78 jv_M_none rfl (by assumption) ⟨Nat.le_of_ble_eq_true rfl, Nat.le_of_ble_eq_true rfl⟩ jd_M_size_2 (Nat.le_of_ble_eq_true rfl) (by decide) (by decide) (fun v2 es2 h2 => ?_)
  obtain ⟨w2, e2⟩ := h2
  rw [e2, w2, if_neg hcn]
  refine z_if_eq (pc := 5) (tgt := 10) E jd_M_size_5 (by decide) (fun c5 => ?_) (fun c5 => ?_)
  · refine z_aload_n (pc := 10) E jd_M_size_10 rfl rfl ?_
    refine z_iload_n (pc := 11) E jd_M_size_11 rfl rfl ?_
    refine z_cV1V (pc := 12) E (c_M_build l G B h0 hc4 hh hR) jc_M_140 jv_M_build rfl (by assumption) ⟨Nat.le_of_ble_eq_true rfl, Nat.le_of_ble_eq_true rfl⟩ jd_M_size_12 (Nat.le_of_ble_eq_true rfl) (by decide) (by decide) (fun es12 h12 => ?_)
    obtain ⟨P, h2, hP, F2⟩ := h12
    have g0 := h2.obj
    obtain ⟨-, f2, hm2, -⟩ := h2
    have hr2 : rA G B es12 r nm sh R := ⟨_, _, a, e, hm2, t0, t1, hC⟩
    refine z_aload_n (pc := 15) E jd_M_size_15 rfl rfl ?_
    refine z_get (pc := 16) E jf_M_92 jd_M_size_16 (by assumption) (by rfl) ?_
    exact z_iret E jd_M_size_19 ⟨_, rfl, rfl, hr2, F2⟩
  · exact absurd rfl c5
set_option maxHeartbeats 4000000 in
set_option maxRecDepth 100000 in
theorem c_M_byteAt (l : Launch) (G : zG) (B : Nat) {es : zE} {r c : Nat} {nm sh : List Nat} {R : Nat → DT} {t : DT} {i : Int32} (h : rA G B es r nm sh R) (hc : cnum R (nI c) = some c) (hR : RR t (R c)) : Tr l G B jy_M_byteAt jb_M_byteAt 3 (some .int) 5 0 0 [.ref (B + r), .int (nI c), .int i] es (pI fun v es' => v = (if i < 0 ∨ nI (dBy t).length ≤ i then -1 else tat (dBy t) i) ∧ rA G B es' r nm sh R ∧ Fr es es' r (r + 15)) := by
  obtain ⟨S, z, a, e, h0, t0, t1, hC⟩ := h
  have m0 := h0.1
  obtain ⟨-, hc4, hth⟩ := cnum_some hc
  have hcn : ¬ cnuM S (nI c) = none := by rw [cnuM_eq hC, hc]; exact fun q => by cases q
  have hh := hC c hc4
  have hlen := hR.len hh
  refine Tr.of (ls := [some (.ref (B + r)), some (.int (nI c)), some (.int i)]) (by decide +kernel) (Nat.le_of_ble_eq_true rfl) rfl ?_
  intro zp ze zs zm zb zt zc E
  refine z_aload_n (pc := 0) E jd_M_byteAt_0 rfl rfl ?_
  refine z_iload_n (pc := 1) E jd_M_byteAt_1 rfl rfl ?_
  refine z_cV1I (pc := 2) E (c_M_none l G B h0) jc_M_78 jv_M_none rfl (by assumption) ⟨Nat.le_of_ble_eq_true rfl, Nat.le_of_ble_eq_true rfl⟩ jd_M_byteAt_2 (Nat.le_of_ble_eq_true rfl) (by decide) (by decide) (fun v2 es2 h2 => ?_)
  obtain ⟨w2, e2⟩ := h2
  rw [e2, w2, if_neg hcn]
  refine z_if_eq (pc := 5) (tgt := 10) E jd_M_byteAt_5 (by decide) (fun c5 => ?_) (fun c5 => ?_)
  · refine z_aload_n (pc := 10) E jd_M_byteAt_10 rfl rfl ?_
    refine z_iload_n (pc := 11) E jd_M_byteAt_11 rfl rfl ?_
    refine z_cV1V (pc := 12) E (c_M_build l G B h0 hc4 hh hR) jc_M_140 jv_M_build rfl (by assumption) ⟨Nat.le_of_ble_eq_true rfl, Nat.le_of_ble_eq_true rfl⟩ jd_M_byteAt_12 (Nat.le_of_ble_eq_true rfl) (by decide) (by decide) (fun es12 h12 => ?_)
    obtain ⟨P, h2, hP, F2⟩ := h12
    have g0 := h2.obj
    obtain ⟨-, f2, hm2, hf2⟩ := h2
    have hr2 : rA G B es12 r nm sh R := ⟨_, _, a, e, hm2, t0, t1, hC⟩
    have g11 : es12[r + 11]? = some (.inl (G.2.1 1, 1100, .inl f2)) := hm2.2.2.2.2.2.2.2.2.2.2.2.1
    refine z_aload_n (pc := 15) E jd_M_byteAt_15 rfl rfl ?_
    refine z_iload_n (pc := 16) E jd_M_byteAt_16 rfl rfl ?_
    refine z_aload_n (pc := 17) E jd_M_byteAt_17 rfl rfl ?_
    refine z_get (pc := 18) E jf_M_92 jd_M_byteAt_18 (by assumption) (by rfl) ?_
    refine z_cV2I (pc := 21) E (c_M_out l G B) jc_M_54 jv_M_out rfl (by assumption) ⟨Nat.le_of_ble_eq_true rfl, Nat.le_of_ble_eq_true rfl⟩ jd_M_byteAt_21 (Nat.le_of_ble_eq_true rfl) (by decide) (by decide) (fun v21 es21 h21 => ?_)
    obtain ⟨w21, e21⟩ := h21
    rw [e21, w21]
    refine z_if_eq (pc := 24) (tgt := 31) E jd_M_byteAt_24 (by decide) (fun c24 => ?_) (fun c24 => ?_)
    · have hi : ¬ (i < 0 ∨ nI (dBy t).length ≤ i) := fun q => by rw [if_pos q] at c24; exact absurd c24 (by decide)
      obtain ⟨j, hj, rfl⟩ := nI_of (fun q => hi (Or.inl q))
      have hj5 : j < (dBy t).length := Nat.lt_of_not_le fun q => hi (Or.inr (nI_le q hj))
      have hv : nI ((dBy t).getD j 0) = (if nI j < 0 ∨ nI (dBy t).length ≤ nI j then -1 else tat (dBy t) (nI j)) := by rw [if_neg hi, tat_nI hj]
      refine z_aload_n (pc := 31) E jd_M_byteAt_31 rfl rfl ?_
      refine z_get (pc := 32) E jf_M_42 jd_M_byteAt_32 (by assumption) (by rfl) ?_
      refine z_iload_n (pc := 35) E jd_M_byteAt_35 rfl rfl ?_
      refine z_iald (ti := 1) (pc := 36) E rfl jd_M_byteAt_36 (by assumption) (vp_in_nI (by omega) (by omega)) ?_
      rw [nI_clamp (show j < 2 ^ 31 by omega), hf2 j hj5]
      exact z_iret E jd_M_byteAt_37 ⟨_, rfl, hv, hr2, F2⟩
    · have hi : i < 0 ∨ nI (dBy t).length ≤ i := Decidable.byContradiction fun q => c24 (by rw [if_neg q])
      have hv : (-1 : Int32) = (if i < 0 ∨ nI (dBy t).length ≤ i then -1 else tat (dBy t) i) := by rw [if_pos hi]
      refine z_iconst (v := -1) (pc := 27) E jd_M_byteAt_27 (by decide) ?_
      refine z_goto (pc := 28) (tgt := 37) E jd_M_byteAt_28 (by decide) ?_
      exact z_iret E jd_M_byteAt_37 ⟨_, rfl, hv, hr2, F2⟩
  · exact absurd rfl c5
set_option maxHeartbeats 4000000 in
set_option maxRecDepth 100000 in
theorem c_M_part (l : Launch) (G : zG) (B : Nat) {es : zE} {r c : Nat} {nm sh : List Nat} {R : Nat → DT} {t : DT} {i : Int32} (h : rA G B es r nm sh R) (hc : cnum R (nI c) = some c) (hR : RR t (R c)) : Tr l G B jy_M_part jb_M_part 3 (some .int) 5 0 0 [.ref (B + r), .int (nI c), .int i] es (pI fun v es' => v = (if i < 0 ∨ 6 ≤ i then -1 else nI (dOf t i.toNatClampNeg)) ∧ rA G B es' r nm sh R ∧ Fr es es' r (r + 15)) := by
  have hr := h
  obtain ⟨S, z, a, e, h0, t0, t1, hC⟩ := h
  have m0 := h0.1
  obtain ⟨-, hc4, hth⟩ := cnum_some hc
  have hcn : ¬ cnuM S (nI c) = none := by rw [cnuM_eq hC, hc]; exact fun q => by cases q
  have hh := hC c hc4
  refine Tr.of (ls := [some (.ref (B + r)), some (.int (nI c)), some (.int i)]) (by decide +kernel) (Nat.le_of_ble_eq_true rfl) rfl ?_
  intro zp ze zs zm zb zt zc E
  refine z_aload_n (pc := 0) E jd_M_part_0 rfl rfl ?_
  refine z_iload_n (pc := 1) E jd_M_part_1 rfl rfl ?_
  refine z_cV1I (pc := 2) E (c_M_none l G B h0) jc_M_78 jv_M_none rfl (by assumption) ⟨Nat.le_of_ble_eq_true rfl, Nat.le_of_ble_eq_true rfl⟩ jd_M_part_2 (Nat.le_of_ble_eq_true rfl) (by decide) (by decide) (fun v2 es2 h2 => ?_)
  obtain ⟨w2, e2⟩ := h2
  rw [e2, w2, if_neg hcn]
  refine z_if_ne (pc := 5) (tgt := 18) E jd_M_part_5 (by decide) (fun c5 => ?_) (fun c5 => ?_)
  · exact absurd rfl c5
  · refine z_aload_n (pc := 8) E jd_M_part_8 rfl rfl ?_
    refine z_iload_n (pc := 9) E jd_M_part_9 rfl rfl ?_
    refine z_bipush (v := 6) (pc := 10) E jd_M_part_10 (by decide) ?_
    refine z_cV2I (pc := 12) E (c_M_out l G B) jc_M_54 jv_M_out rfl (by assumption) ⟨Nat.le_of_ble_eq_true rfl, Nat.le_of_ble_eq_true rfl⟩ jd_M_part_12 (Nat.le_of_ble_eq_true rfl) (by decide) (by decide) (fun v12 es12 h12 => ?_)
    obtain ⟨w12, e12⟩ := h12
    rw [e12, w12]
    refine z_if_eq (pc := 15) (tgt := 20) E jd_M_part_15 (by decide) (fun c15 => ?_) (fun c15 => ?_)
    · have hi : ¬ (i < 0 ∨ 6 ≤ i) := fun q => by rw [if_pos q] at c15; exact absurd c15 (by decide)
      obtain ⟨j, hj, rfl⟩ := nI_of (fun q => hi (Or.inl q))
      have hj6 : j < 6 := Nat.lt_of_not_le fun q => hi (Or.inr (nI_le (a := 6) q hj))
      refine z_aload_n (pc := 20) E jd_M_part_20 rfl rfl ?_
      refine z_iload_n (pc := 21) E jd_M_part_21 rfl rfl ?_
      refine z_cV1V (pc := 22) E (c_M_build l G B h0 hc4 hh hR) jc_M_140 jv_M_build rfl (by assumption) ⟨Nat.le_of_ble_eq_true rfl, Nat.le_of_ble_eq_true rfl⟩ jd_M_part_22 (Nat.le_of_ble_eq_true rfl) (by decide) (by decide) (fun es22 h22 => ?_)
      obtain ⟨P, h2, hP, F2⟩ := h22
      have g0 := h2.obj
      have g12 := h2.c12
      obtain ⟨-, f2, hm2, hf2⟩ := h2
      have hr2 : rA G B es22 r nm sh R := ⟨_, _, a, e, hm2, t0, t1, hC⟩
      refine z_aload_n (pc := 25) E jd_M_part_25 rfl rfl ?_
      refine z_get (pc := 26) E jf_M_45 jd_M_part_26 (by assumption) (by rfl) ?_
      refine z_iload_n (pc := 29) E jd_M_part_29 rfl rfl ?_
      refine z_iald (ti := 1) (pc := 30) E rfl jd_M_part_30 (by assumption) (vp_in_nI (by omega) (by omega)) ?_
      rw [nI_clamp (show j < 2 ^ 31 by omega), hP j hj6]
      exact z_iret E jd_M_part_31 ⟨_, rfl, by rw [if_neg hi], hr2, F2⟩
    · have hi : i < 0 ∨ 6 ≤ i := Decidable.byContradiction fun q => c15 (by rw [if_neg q])
      refine z_iconst (v := -1) (pc := 18) E jd_M_part_18 (by decide) ?_
      exact z_iret E jd_M_part_19 ⟨_, rfl, by rw [if_pos hi], hr, Fr.rf⟩
