/-! the reference: type, copy, compare -/
theorem sh_s : ∀ k, k < 8 → (((nI (8 * k)).toInt64 &&& 63).toBitVec.smod 64).toNat = 8 * k := by decide +kernel
theorem zb_s (z : Int64) {k : Nat} (hk : k < 8) : (z >>> ((nI (8 * k)).toInt64 &&& 63)).toInt32 &&& 255 = nI (zby z k) := by
  rw [by8_255]
  congr 1
  rw [by8, l2i_nat, Nat.mod_mod_of_dvd _ (by decide)]
  have e : (z >>> ((nI (8 * k)).toInt64 &&& 63)).toBitVec = z.toBitVec.sshiftRight (8 * k) := by
    rw [Int64.toBitVec_shiftRight, BitVec.sshiftRight_eq', sh_s k hk]
  rw [e, zby]
  have e2 : (z.toBitVec.sshiftRight (8 * k)).setWidth 8 = (z.toBitVec >>> (8 * k)).setWidth 8 := by
    apply BitVec.eq_of_getLsbD_eq
    intro i hi
    rw [BitVec.getLsbD_setWidth, BitVec.getLsbD_setWidth, BitVec.getLsbD_sshiftRight, BitVec.getLsbD_ushiftRight]
    simp [show ¬ 64 ≤ i by omega, show 8 * k + i < 64 by omega]
  have e3 := congrArg BitVec.toNat e2
  rw [BitVec.toNat_setWidth, BitVec.toNat_setWidth, BitVec.toNat_ushiftRight, Nat.shiftRight_eq_div_pow] at e3
  exact e3
theorem okA_f {z : Int64} : ∀ {n m : Nat}, okB (zby z m) = false → m < n → okA z n = false
  | n + 1, m, h, hm => by
    rw [okA_s]
    by_cases e : m = n
    · rw [← e, h]; rfl
    · rw [okA_f h (by omega), Bool.and_false]
theorem m1 (x : Int32) : x + Int32.ofInt (-1) = x - 1 := by rw [Int32.sub_eq_add_neg]; rfl
set_option maxHeartbeats 4000000 in
set_option maxRecDepth 100000 in
theorem c_M_type (l : Launch) (G : zG) (B : Nat) {es : zE} {r b : Nat} {S : MS} {z a e : Int32} {y : Int64} {xs : List Nat} (h : mO G B es r S z a e) (hb : b < 2) (ht : rt S b xs) : Tr l G B jy_M_type jb_M_type 7 (some .int) 1 0 0 [.ref (B + r), .int (nI b), .long y] es (pI fun v es' => if okA y 8 = false then v = -1 ∧ es' = es else if 24 < xs.length + scn y 8 then v = -4 ∧ es' = es else v = nI (xs.length + scn y 8) ∧ (∃ S', mO G B es' r S' z a e ∧ rt S' b (xs ++ sgL y 8) ∧ onlyT S S' b) ∧ Fr es es' r (r + 15)) := by
  have hm := h
  obtain ⟨m0, a1, a2, a3, a4, a5, a6, a7, a8, a9, a10, a11, a12, a13, a14⟩ := h
  have hl24 := ht.2.1
  have hs8 := scn_le y 8
  refine Tr.of (ls := [some (.ref (B + r)), some (.int (nI b)), some (.long y), none, none, none, none]) (by decide +kernel) (Nat.le_of_ble_eq_true rfl) rfl ?_
  intro zp ze zs zm zb zt zc E
  have loop2 : okA y 8 = true → ¬ 24 < xs.length + scn y 8 → ∀ (m : Nat) (ys : List Nat) (a4 : Int32) (a6 : Option Value) (S1 : MS) (es1 : zE), m ≤ 8 → ys ++ sgL y m = xs ++ sgL y 8 → mO G B es1 r S1 z a e → rt S1 b ys → onlyT S S1 b → Fr es es1 r (r + 15) → Zj zp l ze (zr 1 0 0) zs zm ([.ref (B + r), .int (nI b), .long y] : List Value).toArray zb zt zc (MQ zb (zQ G B (pI fun v es' => if okA y 8 = false then v = -1 ∧ es' = es else if 24 < xs.length + scn y 8 then v = -4 ∧ es' = es else v = nI (xs.length + scn y 8) ∧ (∃ S', mO G B es' r S' z a e ∧ rt S' b (xs ++ sgL y 8) ∧ onlyT S S' b) ∧ Fr es es' r (r + 15))) ([.ref (B + r), .int (nI b), .long y] : List Value).toArray zs 0 0 (fun q => B ≤ q)) G B 7 0 0 101 [some (.ref (B + r)), some (.int (nI b)), some (.long y), none, some (.int a4), some (.int (nI m - 1)), a6] [] es1 := by
    intro hok hfl m
    have hok' : ¬ okA y 8 = false := by rw [hok]; decide
    induction m with
    | zero =>
      intro ys a4 a6 S1 es1 hm he h1 t1 o1 F1
      rw [show sgL y 0 = [] from rfl, List.append_nil] at he
      subst he
      obtain ⟨n0, n1, n2, -⟩ := id h1
      refine z_iload (pc := 101) E jd_M_type_101 rfl ?_
      refine z_if_lt (pc := 103) (tgt := 159) E jd_M_type_103 (by decide) (fun c103 => ?_) (fun c103 => ?_)
      · refine z_aload_n (pc := 159) E jd_M_type_159 rfl rfl ?_
        refine z_get (pc := 160) E jf_M_13 jd_M_type_160 (by assumption) (by rfl) ?_
        refine z_iload_n (pc := 163) E jd_M_type_163 rfl rfl ?_
        refine z_iald (ti := 1) (pc := 164) E rfl jd_M_type_164 (by assumption) (vp_in_nI (by omega) (by omega)) ?_
        rw [nI_clamp (by omega)]
        refine z_iret E jd_M_type_165 ⟨_, rfl, ?_⟩
        dsimp only
        rw [if_neg hok', if_neg hfl, t1.1, List.length_append, sgL_len]
        exact ⟨rfl, ⟨S1, h1, t1, o1⟩, F1⟩
      · exact absurd (by decide) c103
    | succ m ih =>
      intro ys a4 a6 S1 es1 hm he h1 t1 o1 F1
      obtain ⟨n0, n1, n2, -⟩ := id h1
      have hlt := zb_lt y m
      have hb1 := okA_at hok (show m < 8 by omega)
      have hle : ys.length + scn y (m + 1) = xs.length + scn y 8 := by rw [← sgL_len, ← sgL_len, ← List.length_append, ← List.length_append, he]
      rw [scn_s y m] at hle
      rw [sgL_s y m] at he
      rw [nI_pred m]
      refine z_iload (pc := 101) E jd_M_type_101 rfl ?_
      refine z_if_lt (pc := 103) (tgt := 159) E jd_M_type_103 (by decide) (fun c103 => ?_) (fun c103 => ?_)
      · exact absurd c103 (nI_pos (by omega))
      · refine z_lload_n (pc := 106) E jd_M_type_106 rfl rfl ?_
        refine z_bipush (v := 8) (pc := 107) E jd_M_type_107 (by decide) ?_
        refine z_iload (pc := 109) E jd_M_type_109 rfl ?_
        refine z_imul (pc := 111) E jd_M_type_111 ?_
        refine z_topi (y := nI (8 * m)) (pk_mul 8 m) ?_
        refine z_lshr (pc := 112) E jd_M_type_112 ?_
        refine z_l2i (pc := 113) E jd_M_type_113 ?_
        refine z_sipush (v := 255) (pc := 114) E jd_M_type_114 (by decide) ?_
        refine z_iand (pc := 117) E jd_M_type_117 ?_
        refine z_topi (zb_s y (by omega)) ?_
        refine z_istore (pc := 118) E jd_M_type_118 (by decide) rfl ?_
        dsimp only [List.set]
        refine z_iload (pc := 120) E jd_M_type_120 rfl ?_
        refine z_if_eq (pc := 122) (tgt := 153) E jd_M_type_122 (by decide) (fun c122 => ?_) (fun c122 => ?_)
        · rw [if_pos (ceq (b := 0) c122), List.nil_append] at he
          have nx := fun a6 => ih ys a4 a6 S1 es1 (by omega) he h1 t1 o1 F1
          refine z_iinc (pc := 153) E jd_M_type_153 rfl rfl (by decide) rfl ?_
          dsimp only [List.set]
          refine z_goto (pc := 156) (tgt := 101) E jd_M_type_156 (by decide) ?_
          rw [m1]
          exact nx _
        · have hz0 := nceq (b := 0) c122
          rw [if_neg hz0] at hle
          rw [if_neg hz0, ← List.append_assoc] at he
          have hz2 : zby y m < 128 := by rw [okB, decide_eq_true_eq] at hb1; omega
          have hyl : ys.length < 24 := by omega
          refine z_aload_n (pc := 125) E jd_M_type_125 rfl rfl ?_
          refine z_get (pc := 126) E jf_M_7 jd_M_type_126 (by assumption) (by rfl) ?_
          refine z_bipush (v := 24) (pc := 129) E jd_M_type_129 (by decide) ?_
          refine z_iload_n (pc := 131) E jd_M_type_131 rfl rfl ?_
          refine z_imul (pc := 132) E jd_M_type_132 ?_
          refine z_topi (y := nI (24 * b)) (pk_mul 24 b) ?_
          refine z_aload_n (pc := 133) E jd_M_type_133 rfl rfl ?_
          refine z_get (pc := 134) E jf_M_13 jd_M_type_134 (by assumption) (by rfl) ?_
          refine z_iload_n (pc := 137) E jd_M_type_137 rfl rfl ?_
          refine z_iald (ti := 1) (pc := 138) E rfl jd_M_type_138 (by assumption) (vp_in_nI (by omega) (by omega)) ?_
          rw [nI_clamp (by omega), t1.1]
          refine z_iadd (pc := 139) E jd_M_type_139 ?_
          rw [nI_add]
          refine z_iload (pc := 140) E jd_M_type_140 rfl ?_
          refine z_iast (ti := 1) (pc := 142) E rfl jd_M_type_142 (by assumption) (vp_in_nI (by omega) (by omega)) (fun es142 he142 => ?_)
          rw [nI_clamp (by omega)] at he142
          have h2 := h1.s1 he142
          obtain ⟨p0, p1, p2, -⟩ := id h2
          dsimp only at p2
          refine z_aload_n (pc := 143) E jd_M_type_143 rfl rfl ?_
          refine z_get (pc := 144) E jf_M_13 jd_M_type_144 (by assumption) (by rfl) ?_
          refine z_iload_n (pc := 147) E jd_M_type_147 rfl rfl ?_
          refine z_dup2 (pc := 148) E jd_M_type_148 rfl rfl ?_
          refine z_iald (ti := 1) (pc := 149) E rfl jd_M_type_149 (by assumption) (vp_in_nI (by omega) (by omega)) ?_
          rw [nI_clamp (by omega), t1.1]
          refine z_iconst (v := 1) (pc := 150) E jd_M_type_150 (by decide) ?_
          refine z_iadd (pc := 151) E jd_M_type_151 ?_
          rw [nI_1]
          refine z_iast (ti := 1) (pc := 152) E rfl jd_M_type_152 (by assumption) (vp_in_nI (by omega) (by omega)) (fun es152 he152 => ?_)
          rw [nI_clamp (by omega)] at he152
          have h3 := h2.s2 he152
          dsimp only at h3
          have t3 : rt (upd S1.1 (24 * b + ys.length) (nI (zby y m)), upd S1.2.1 b (nI (ys.length + 1)), S1.2.2) b (ys ++ [zby y m]) := by
            refine ⟨by dsimp only; rw [pk_us]; simp, by simp; omega, fun j hj => ?_, fun q hq => ?_⟩
            · dsimp only
              rw [List.length_append] at hj
              have hj : j < ys.length + 1 := hj
              by_cases hjl : j = ys.length
              · subst hjl
                rw [pk_us, getD_app_r (Nat.le_refl _), Nat.sub_self]; rfl
              · rw [pk_un (by omega), getD_app_l (by omega), t1.2.2.1 j (by omega)]
            · rcases List.mem_append.mp hq with h | h
              · exact t1.2.2.2 q h
              · rw [List.mem_singleton.mp h]; exact hz2
          have o3 : onlyT S1 (upd S1.1 (24 * b + ys.length) (nI (zby y m)), upd S1.2.1 b (nI (ys.length + 1)), S1.2.2) b := by
            refine ⟨fun t ws hne q => ⟨?_, q.2.1, fun j hj => ?_, q.2.2.2⟩, rfl⟩
            · dsimp only; rw [pk_un hne]; exact q.1
            · dsimp only
              have := q.2.1
              rw [pk_un (by omega)]; exact q.2.2.1 j hj
          have nx := fun a6 => ih (ys ++ [zby y m]) a4 a6 _ es152 (by omega) he h3 t3 (o1.tr o3) ((F1.trs (Fr.set he142 (by omega) (by omega))).trs (Fr.set he152 (by omega) (by omega)))
          refine z_iinc (pc := 153) E jd_M_type_153 rfl rfl (by decide) rfl ?_
          dsimp only [List.set]
          refine z_goto (pc := 156) (tgt := 101) E jd_M_type_156 (by decide) ?_
          rw [m1]
          exact nx _
  have loop1 : ∀ (f k : Nat) (a6 : Option Value), k + f = 8 → okA y k = true → Zj zp l ze (zr 1 0 0) zs zm ([.ref (B + r), .int (nI b), .long y] : List Value).toArray zb zt zc (MQ zb (zQ G B (pI fun v es' => if okA y 8 = false then v = -1 ∧ es' = es else if 24 < xs.length + scn y 8 then v = -4 ∧ es' = es else v = nI (xs.length + scn y 8) ∧ (∃ S', mO G B es' r S' z a e ∧ rt S' b (xs ++ sgL y 8) ∧ onlyT S S' b) ∧ Fr es es' r (r + 15))) ([.ref (B + r), .int (nI b), .long y] : List Value).toArray zs 0 0 (fun q => B ≤ q)) G B 7 0 0 17 [some (.ref (B + r)), some (.int (nI b)), some (.long y), none, some (.int (nI (scn y k))), some (.int (nI k)), a6] [] es := by
    intro f
    induction f with
    | zero =>
      intro k a6 hk hok
      have hk : k = 8 := by omega
      subst hk
      have hok' : ¬ okA y 8 = false := by rw [hok]; decide
      refine z_iload (pc := 17) E jd_M_type_17 rfl ?_
      refine z_bipush (v := 8) (pc := 19) E jd_M_type_19 (by decide) ?_
      refine z_icmp_ge (pc := 21) (tgt := 80) E jd_M_type_21 (by decide) (fun c21 => ?_) (fun c21 => ?_)
      · refine z_aload_n (pc := 80) E jd_M_type_80 rfl rfl ?_
        refine z_get (pc := 81) E jf_M_13 jd_M_type_81 (by assumption) (by rfl) ?_
        refine z_iload_n (pc := 84) E jd_M_type_84 rfl rfl ?_
        refine z_iald (ti := 1) (pc := 85) E rfl jd_M_type_85 (by assumption) (vp_in_nI (by omega) (by omega)) ?_
        rw [nI_clamp (by omega), ht.1]
        refine z_iload (pc := 86) E jd_M_type_86 rfl ?_
        refine z_iadd (pc := 88) E jd_M_type_88 ?_
        rw [nI_add]
        refine z_bipush (v := 24) (pc := 89) E jd_M_type_89 (by decide) ?_
        refine z_icmp_le (pc := 91) (tgt := 97) E jd_M_type_91 (by decide) (fun c91 => ?_) (fun c91 => ?_)
        · have hfl : ¬ 24 < xs.length + scn y 8 := by have := cle (b := 24) c91; omega
          refine z_bipush (v := 7) (pc := 97) E jd_M_type_97 (by decide) ?_
          refine z_istore (pc := 99) E jd_M_type_99 (by decide) rfl ?_
          dsimp only [List.set]
          exact loop2 hok hfl 8 xs _ _ S es (Nat.le_refl _) rfl hm ht onlyT.rf Fr.rf
        · have hfl : 24 < xs.length + scn y 8 := ncle (b := 24) c91
          refine z_bipush (v := -4) (pc := 94) E jd_M_type_94 (by decide) ?_
          exact z_iret E jd_M_type_96 ⟨_, rfl, by dsimp only; rw [if_neg hok', if_pos hfl]; exact ⟨rfl, rfl⟩⟩
      · exact absurd (nI_le (a := 8) (b := 8) (Nat.le_refl _) (by omega)) c21
    | succ f ih =>
      intro k a6 hk hok
      have hlt := zb_lt y k
      have hsk := scn_le y k
      have next : okB (zby y k) = true → Zj zp l ze (zr 1 0 0) zs zm ([.ref (B + r), .int (nI b), .long y] : List Value).toArray zb zt zc (MQ zb (zQ G B (pI fun v es' => if okA y 8 = false then v = -1 ∧ es' = es else if 24 < xs.length + scn y 8 then v = -4 ∧ es' = es else v = nI (xs.length + scn y 8) ∧ (∃ S', mO G B es' r S' z a e ∧ rt S' b (xs ++ sgL y 8) ∧ onlyT S S' b) ∧ Fr es es' r (r + 15))) ([.ref (B + r), .int (nI b), .long y] : List Value).toArray zs 0 0 (fun q => B ≤ q)) G B 7 0 0 59 [some (.ref (B + r)), some (.int (nI b)), some (.long y), none, some (.int (nI (scn y k))), some (.int (nI k)), some (.int (nI (zby y k)))] [] es := by
        intro hbk
        refine z_iload (pc := 59) E jd_M_type_59 rfl ?_
        refine z_iload (pc := 61) E jd_M_type_61 rfl ?_
        refine z_if_eq (pc := 63) (tgt := 70) E jd_M_type_63 (by decide) (fun c63 => ?_) (fun c63 => ?_)
        · have hsc : scn y (k + 1) = scn y k := by rw [scn_s, if_pos (ceq (b := 0) c63), Nat.zero_add]
          refine z_iconst (v := 0) (pc := 70) E jd_M_type_70 (by decide) ?_
          refine z_iadd (pc := 71) E jd_M_type_71 ?_
          refine z_topi (y := nI (scn y (k + 1))) (by rw [hsc]; first | exact nI_1 _ | exact Int32.add_zero _) ?_
          refine z_istore (pc := 72) E jd_M_type_72 (by decide) rfl ?_
          dsimp only [List.set]
          refine z_iinc (pc := 74) E jd_M_type_74 rfl rfl (by decide) rfl ?_
          dsimp only [List.set]
          refine z_goto (pc := 77) (tgt := 17) E jd_M_type_77 (by decide) ?_
          have := ih (k + 1) (some (.int (nI (zby y k)))) (by omega) (by rw [okA_s, hbk, hok]; rfl)
          rw [nI_succ k] at this
          exact this
        · have hsc : scn y (k + 1) = scn y k + 1 := by rw [scn_s, if_neg (nceq (b := 0) c63), Nat.add_comm]
          refine z_iconst (v := 1) (pc := 66) E jd_M_type_66 (by decide) ?_
          refine z_goto (pc := 67) (tgt := 71) E jd_M_type_67 (by decide) ?_
          refine z_iadd (pc := 71) E jd_M_type_71 ?_
          refine z_topi (y := nI (scn y (k + 1))) (by rw [hsc]; first | exact nI_1 _ | exact Int32.add_zero _) ?_
          refine z_istore (pc := 72) E jd_M_type_72 (by decide) rfl ?_
          dsimp only [List.set]
          refine z_iinc (pc := 74) E jd_M_type_74 rfl rfl (by decide) rfl ?_
          dsimp only [List.set]
          refine z_goto (pc := 77) (tgt := 17) E jd_M_type_77 (by decide) ?_
          have := ih (k + 1) (some (.int (nI (zby y k)))) (by omega) (by rw [okA_s, hbk, hok]; rfl)
          rw [nI_succ k] at this
          exact this
      have bad : okB (zby y k) = false → Zj zp l ze (zr 1 0 0) zs zm ([.ref (B + r), .int (nI b), .long y] : List Value).toArray zb zt zc (MQ zb (zQ G B (pI fun v es' => if okA y 8 = false then v = -1 ∧ es' = es else if 24 < xs.length + scn y 8 then v = -4 ∧ es' = es else v = nI (xs.length + scn y 8) ∧ (∃ S', mO G B es' r S' z a e ∧ rt S' b (xs ++ sgL y 8) ∧ onlyT S S' b) ∧ Fr es es' r (r + 15))) ([.ref (B + r), .int (nI b), .long y] : List Value).toArray zs 0 0 (fun q => B ≤ q)) G B 7 0 0 57 [some (.ref (B + r)), some (.int (nI b)), some (.long y), none, some (.int (nI (scn y k))), some (.int (nI k)), some (.int (nI (zby y k)))] [] es := by
        intro hbk
        have hok8 := okA_f (n := 8) hbk (by omega)
        refine z_iconst (v := -1) (pc := 57) E jd_M_type_57 (by decide) ?_
        exact z_iret E jd_M_type_58 ⟨_, rfl, by dsimp only; rw [if_pos hok8]; exact ⟨rfl, rfl⟩⟩
      refine z_iload (pc := 17) E jd_M_type_17 rfl ?_
      refine z_bipush (v := 8) (pc := 19) E jd_M_type_19 (by decide) ?_
      refine z_icmp_ge (pc := 21) (tgt := 80) E jd_M_type_21 (by decide) (fun c21 => ?_) (fun c21 => ?_)
      · exact absurd (cle (a := 8) c21) (by omega)
      · refine z_lload_n (pc := 24) E jd_M_type_24 rfl rfl ?_
        refine z_bipush (v := 8) (pc := 25) E jd_M_type_25 (by decide) ?_
        refine z_iload (pc := 27) E jd_M_type_27 rfl ?_
        refine z_imul (pc := 29) E jd_M_type_29 ?_
        refine z_topi (y := nI (8 * k)) (pk_mul 8 k) ?_
        refine z_lshr (pc := 30) E jd_M_type_30 ?_
        refine z_l2i (pc := 31) E jd_M_type_31 ?_
        refine z_sipush (v := 255) (pc := 32) E jd_M_type_32 (by decide) ?_
        refine z_iand (pc := 35) E jd_M_type_35 ?_
        refine z_topi (zb_s y (by omega)) ?_
        refine z_istore (pc := 36) E jd_M_type_36 (by decide) rfl ?_
        dsimp only [List.set]
        refine z_iload (pc := 38) E jd_M_type_38 rfl ?_
        refine z_if_eq (pc := 40) (tgt := 59) E jd_M_type_40 (by decide) (fun c40 => ?_) (fun c40 => ?_)
        · exact next (by have := ceq (b := 0) c40; simp [okB, this])
        · refine z_iload (pc := 43) E jd_M_type_43 rfl ?_
          refine z_bipush (v := 33) (pc := 45) E jd_M_type_45 (by decide) ?_
          refine z_icmp_lt (pc := 47) (tgt := 57) E jd_M_type_47 (by decide) (fun c47 => ?_) (fun c47 => ?_)
          · exact bad (by have q1 := nceq (b := 0) c40; have q2 := clt (b := 33) c47; simp [okB, q1]; omega)
          · refine z_iload (pc := 50) E jd_M_type_50 rfl ?_
            refine z_bipush (v := 126) (pc := 52) E jd_M_type_52 (by decide) ?_
            refine z_icmp_le (pc := 54) (tgt := 59) E jd_M_type_54 (by decide) (fun c54 => ?_) (fun c54 => ?_)
            · exact next (by have q2 := nclt (b := 33) c47; have q3 := cle (b := 126) c54; simp [okB, q2, q3])
            · exact bad (by have q1 := nceq (b := 0) c40; have q3 := ncle (b := 126) c54; simp [okB, q1]; omega)
  refine z_aload_n (pc := 0) E jd_M_type_0 rfl rfl ?_
  refine z_iload_n (pc := 1) E jd_M_type_1 rfl rfl ?_
  refine z_iconst (v := 2) (pc := 2) E jd_M_type_2 (by decide) ?_
  refine z_cV2I (pc := 3) E (c_M_out l G B) jc_M_54 jv_M_out rfl (by assumption) ⟨Nat.le_of_ble_eq_true rfl, Nat.le_of_ble_eq_true rfl⟩ jd_M_type_3 (Nat.le_of_ble_eq_true rfl) (by decide) (by decide) (fun v3 es3 h3 => ?_)
  obtain ⟨w3, e3⟩ := h3
  rw [e3, w3, if_neg (fun q => q.elim (nI_pos (by omega)) (fun q => absurd (cle (a := 2) q) (by omega)))]
  refine z_if_eq (pc := 6) (tgt := 11) E jd_M_type_6 (by decide) (fun c6 => ?_) (fun c6 => ?_)
  · refine z_iconst (v := 0) (pc := 11) E jd_M_type_11 (by decide) ?_
    refine z_istore (pc := 12) E jd_M_type_12 (by decide) rfl ?_
    dsimp only [List.set]
    refine z_iconst (v := 0) (pc := 14) E jd_M_type_14 (by decide) ?_
    refine z_istore (pc := 15) E jd_M_type_15 (by decide) rfl ?_
    dsimp only [List.set]
    exact loop1 8 0 none rfl rfl
  · exact absurd rfl c6
/-- the text f copied to the text t -/
def cpS (S : MS) (f t : Nat) : MS := (va_cpy S.1 S.1 (24 * f) (24 * t) 24, upd S.2.1 t (S.2.1 f), S.2.2)
theorem cpS_to {S : MS} {f t : Nat} {xs : List Nat} (h : rt S f xs) : rt (cpS S f t) t xs := by
  refine ⟨pk_us.trans h.1, h.2.1, fun j hj => ?_, h.2.2.2⟩
  have := h.2.1
  show va_cpy S.1 S.1 (24 * f) (24 * t) 24 (24 * t + j) = _
  rw [pk_cpy_in (by omega) (by omega), show 24 * f + (24 * t + j - 24 * t) = 24 * f + j by omega]
  exact h.2.2.1 j hj
theorem cpS_ne {S : MS} {f t u : Nat} {xs : List Nat} (hu : u ≠ t) (h : rt S u xs) : rt (cpS S f t) u xs := by
  refine ⟨(pk_un hu).trans h.1, h.2.1, fun j hj => ?_, h.2.2.2⟩
  have := h.2.1
  show va_cpy S.1 S.1 (24 * f) (24 * t) 24 (24 * u + j) = _
  rw [pk_cpy_out (by omega)]
  exact h.2.2.1 j hj
set_option maxHeartbeats 4000000 in
set_option maxRecDepth 100000 in
theorem c_M_copy (l : Launch) (G : zG) (B : Nat) {es : zE} {r f t : Nat} {S : MS} {z a e : Int32} (h : mO G B es r S z a e) (hf : f < 102) (ht : t < 102) (hne : f ≠ t) : Tr l G B jy_M_copy jb_M_copy 4 none 0 0 0 [.ref (B + r), .int (nI f), .int (nI t)] es (pV fun es' => mO G B es' r (cpS S f t) z a e ∧ Fr es es' r (r + 15)) := by
  have hm := h
  obtain ⟨m0, a1, a2, a3, a4, a5, a6, a7, a8, a9, a10, a11, a12, a13, a14⟩ := h
  refine Tr.of (ls := [some (.ref (B + r)), some (.int (nI f)), some (.int (nI t)), none]) (by decide +kernel) (Nat.le_of_ble_eq_true rfl) rfl ?_
  intro zp ze zs zm zb zt zc E
  have loop : ∀ (n k : Nat) (s1 : Nat → Int32) (es1 : zE), k + n = 24 → mO G B es1 r (s1, upd S.2.1 t (S.2.1 f), S.2.2) z a e → s1 = va_cpy S.1 S.1 (24 * f) (24 * t) k → Fr es es1 r (r + 15) → Zj zp l ze (zr 0 0 0) zs zm ([.ref (B + r), .int (nI f), .int (nI t)] : List Value).toArray zb zt zc (MQ zb (zQ G B (pV fun es' => mO G B es' r (cpS S f t) z a e ∧ Fr es es' r (r + 15))) ([.ref (B + r), .int (nI f), .int (nI t)] : List Value).toArray zs 0 0 (fun q => B ≤ q)) G B 4 0 0 14 [some (.ref (B + r)), some (.int (nI f)), some (.int (nI t)), some (.int (nI k))] [] es1 := by
    intro n
    induction n with
    | zero =>
      intro k s1 es1 hk h1 hs F1
      have hk : k = 24 := by omega
      subst hk
      refine z_iload_n (pc := 14) E jd_M_copy_14 rfl rfl ?_
      refine z_bipush (v := 24) (pc := 15) E jd_M_copy_15 (by decide) ?_
      refine z_icmp_ge (pc := 17) (tgt := 48) E jd_M_copy_17 (by decide) (fun c17 => ?_) (fun c17 => ?_)
      · exact z_vret E jd_M_copy_48 ⟨rfl, by rw [hs] at h1; exact h1, F1⟩
      · exact absurd (nI_le (a := 24) (b := 24) (Nat.le_refl _) (by omega)) c17
    | succ n ih =>
      intro k s1 es1 hk h1 hs F1
      obtain ⟨n0, n1, n2, -⟩ := id h1
      dsimp only at n1 n2
      refine z_iload_n (pc := 14) E jd_M_copy_14 rfl rfl ?_
      refine z_bipush (v := 24) (pc := 15) E jd_M_copy_15 (by decide) ?_
      refine z_icmp_ge (pc := 17) (tgt := 48) E jd_M_copy_17 (by decide) (fun c17 => ?_) (fun c17 => ?_)
      · exact absurd (cle (a := 24) c17) (by omega)
      · refine z_aload_n (pc := 20) E jd_M_copy_20 rfl rfl ?_
        refine z_get (pc := 21) E jf_M_7 jd_M_copy_21 (by assumption) (by rfl) ?_
        refine z_bipush (v := 24) (pc := 24) E jd_M_copy_24 (by decide) ?_
        refine z_iload_n (pc := 26) E jd_M_copy_26 rfl rfl ?_
        refine z_imul (pc := 27) E jd_M_copy_27 ?_
        refine z_topi (y := nI (24 * t)) (pk_mul 24 t) ?_
        refine z_iload_n (pc := 28) E jd_M_copy_28 rfl rfl ?_
        refine z_iadd (pc := 29) E jd_M_copy_29 ?_
        rw [nI_add]
        refine z_aload_n (pc := 30) E jd_M_copy_30 rfl rfl ?_
        refine z_get (pc := 31) E jf_M_7 jd_M_copy_31 (by assumption) (by rfl) ?_
        refine z_bipush (v := 24) (pc := 34) E jd_M_copy_34 (by decide) ?_
        refine z_iload_n (pc := 36) E jd_M_copy_36 rfl rfl ?_
        refine z_imul (pc := 37) E jd_M_copy_37 ?_
        refine z_topi (y := nI (24 * f)) (pk_mul 24 f) ?_
        refine z_iload_n (pc := 38) E jd_M_copy_38 rfl rfl ?_
        refine z_iadd (pc := 39) E jd_M_copy_39 ?_
        rw [nI_add]
        refine z_iald (ti := 1) (pc := 40) E rfl jd_M_copy_40 (by assumption) (vp_in_nI (by omega) (by omega)) ?_
        rw [nI_clamp (by omega)]
        refine z_iast (ti := 1) (pc := 41) E rfl jd_M_copy_41 (by assumption) (vp_in_nI (by omega) (by omega)) (fun es41 he41 => ?_)
        rw [nI_clamp (by omega)] at he41
        refine z_iinc (pc := 42) E jd_M_copy_42 rfl rfl (by decide) rfl ?_
        dsimp only [List.set]
        refine z_goto (pc := 45) (tgt := 14) E jd_M_copy_45 (by decide) ?_
        have h2 := h1.s1 he41
        dsimp only at h2
        have := ih (k + 1) _ es41 (by omega) h2 ?_ (F1.trs (Fr.set he41 (by omega) (by omega)))
        · rw [nI_succ k] at this
          exact this
        · funext j
          have e0 : s1 (24 * f + k) = S.1 (24 * f + k) := by rw [hs, pk_cpy_out (by omega)]
          by_cases hj : j = 24 * t + k
          · subst hj
            rw [pk_us, pk_cpy_in (by omega) (by omega), e0, show 24 * f + (24 * t + k - 24 * t) = 24 * f + k by omega]
          · rw [pk_un hj, hs]
            by_cases hin : 24 * t ≤ j ∧ j < 24 * t + k
            · rw [pk_cpy_in hin.1 hin.2, pk_cpy_in hin.1 (by omega)]
            · rw [pk_cpy_out (by omega), pk_cpy_out (by omega)]
  refine z_aload_n (pc := 0) E jd_M_copy_0 rfl rfl ?_
  refine z_get (pc := 1) E jf_M_13 jd_M_copy_1 (by assumption) (by rfl) ?_
  refine z_iload_n (pc := 4) E jd_M_copy_4 rfl rfl ?_
  refine z_aload_n (pc := 5) E jd_M_copy_5 rfl rfl ?_
  refine z_get (pc := 6) E jf_M_13 jd_M_copy_6 (by assumption) (by rfl) ?_
  refine z_iload_n (pc := 9) E jd_M_copy_9 rfl rfl ?_
  refine z_iald (ti := 1) (pc := 10) E rfl jd_M_copy_10 (by assumption) (vp_in_nI (by omega) (by omega)) ?_
  rw [nI_clamp (by omega)]
  refine z_iast (ti := 1) (pc := 11) E rfl jd_M_copy_11 (by assumption) (vp_in_nI (by omega) (by omega)) (fun es11 he11 => ?_)
  rw [nI_clamp (by omega)] at he11
  have h2 := hm.s2 he11
  refine z_iconst (v := 0) (pc := 12) E jd_M_copy_12 (by decide) ?_
  refine z_istore_n (pc := 13) E jd_M_copy_13 rfl (by decide) rfl ?_
  dsimp only [List.set]
  exact loop 24 0 S.1 es11 rfl h2 (by funext j; rw [pk_cpy_out (by omega)]) (Fr.set he11 (by omega) (by omega))
set_option maxHeartbeats 4000000 in
set_option maxRecDepth 100000 in
theorem c_M_compare (l : Launch) (G : zG) (B : Nat) {es : zE} {r u v : Nat} {S : MS} {z a e : Int32} {xs ys : List Nat} (h : mO G B es r S z a e) (hu : u < 102) (hv : v < 102) (hx : rt S u xs) (hy : rt S v ys) : Tr l G B jy_M_compare jb_M_compare 6 (some .int) 0 0 0 [.ref (B + r), .int (nI u), .int (nI v)] es (pI fun w es' => w.toInt = cmpZ xs ys ∧ es' = es) := by
  have hm := h
  obtain ⟨m0, a1, a2, a3, a4, a5, a6, a7, a8, a9, a10, a11, a12, a13, a14⟩ := h
  have l1 := hx.2.1
  have l2 := hy.2.1
  refine Tr.of (ls := [some (.ref (B + r)), some (.int (nI u)), some (.int (nI v)), none, none, none]) (by decide +kernel) (Nat.le_of_ble_eq_true rfl) rfl ?_
  intro zp ze zs zm zb zt zc E
  have loop : ∀ (n i k : Nat) (a5 : Option Value), i + n = k → (k ≤ xs.length ∧ k ≤ ys.length ∧ (k = xs.length ∨ k = ys.length)) → cmpZ (xs.drop i) (ys.drop i) = cmpZ xs ys → Zj zp l ze (zr 0 0 0) zs zm ([.ref (B + r), .int (nI u), .int (nI v)] : List Value).toArray zb zt zc (MQ zb (zQ G B (pI fun w es' => w.toInt = cmpZ xs ys ∧ es' = es)) ([.ref (B + r), .int (nI u), .int (nI v)] : List Value).toArray zs 0 0 (fun q => B ≤ q)) G B 6 0 0 34 [some (.ref (B + r)), some (.int (nI u)), some (.int (nI v)), some (.int (nI k)), some (.int (nI i)), a5] [] es := by
    intro n
    induction n with
    | zero =>
      intro i k a5 hi hs hc
      have hi : i = k := by omega
      refine z_iload (pc := 34) E jd_M_compare_34 rfl ?_
      refine z_iload_n (pc := 36) E jd_M_compare_36 rfl rfl ?_
      refine z_icmp_ge (pc := 37) (tgt := 81) E jd_M_compare_37 (by decide) (fun c37 => ?_) (fun c37 => ?_)
      · refine z_aload_n (pc := 81) E jd_M_compare_81 rfl rfl ?_
        refine z_get (pc := 82) E jf_M_13 jd_M_compare_82 (by assumption) (by rfl) ?_
        refine z_iload_n (pc := 85) E jd_M_compare_85 rfl rfl ?_
        refine z_iald (ti := 1) (pc := 86) E rfl jd_M_compare_86 (by assumption) (vp_in_nI (by omega) (by omega)) ?_
        rw [nI_clamp (by omega), hx.1]
        refine z_aload_n (pc := 87) E jd_M_compare_87 rfl rfl ?_
        refine z_get (pc := 88) E jf_M_13 jd_M_compare_88 (by assumption) (by rfl) ?_
        refine z_iload_n (pc := 91) E jd_M_compare_91 rfl rfl ?_
        refine z_iald (ti := 1) (pc := 92) E rfl jd_M_compare_92 (by assumption) (vp_in_nI (by omega) (by omega)) ?_
        rw [nI_clamp (by omega), hy.1]
        refine z_isub (pc := 93) E jd_M_compare_93 ?_
        have hr : (nI xs.length - nI ys.length).toInt = cmpZ xs ys := by
          rw [nI_sub_toInt (by omega) (by omega), ← hc]
          rcases hs.2.2 with e | e
          · rw [List.drop_eq_nil_of_le (as := xs) (by omega)]
            show _ = -(((ys.drop i).length : Nat) : Int)
            rw [List.length_drop]; omega
          · rw [List.drop_eq_nil_of_le (as := ys) (by omega), cmpZ_nil_r, List.length_drop]; omega
        exact z_iret E jd_M_compare_94 ⟨_, rfl, hr, rfl⟩
      · exact absurd ((nI_leI (by omega) (by omega)).mpr (by omega)) c37
    | succ n ih =>
      intro i k a5 hi hs hc
      have hd1 := drop_cons_getD (xs := xs) (i := i) (by omega)
      have hd2 := drop_cons_getD (xs := ys) (i := i) (by omega)
      have e1 := hx.2.2.1 i (by omega)
      have e2 := hy.2.2.1 i (by omega)
      have b1 := getD_lt (j := i) hx.2.2.2
      have b2 := getD_lt (j := i) hy.2.2.2
      have hst : ∀ w : Int32, w = nI (xs.getD i 0) - nI (ys.getD i 0) → (w = 0 ↔ xs.getD i 0 = ys.getD i 0) := by
        intro w hw
        rw [i0_toInt, hw, nI_sub_toInt (by omega) (by omega)]; omega
      refine z_iload (pc := 34) E jd_M_compare_34 rfl ?_
      refine z_iload_n (pc := 36) E jd_M_compare_36 rfl rfl ?_
      refine z_icmp_ge (pc := 37) (tgt := 81) E jd_M_compare_37 (by decide) (fun c37 => ?_) (fun c37 => ?_)
      · exact absurd ((nI_leI (by omega) (by omega)).mp c37) (by omega)
      · refine z_aload_n (pc := 40) E jd_M_compare_40 rfl rfl ?_
        refine z_get (pc := 41) E jf_M_7 jd_M_compare_41 (by assumption) (by rfl) ?_
        refine z_bipush (v := 24) (pc := 44) E jd_M_compare_44 (by decide) ?_
        refine z_iload_n (pc := 46) E jd_M_compare_46 rfl rfl ?_
        refine z_imul (pc := 47) E jd_M_compare_47 ?_
        refine z_topi (y := nI (24 * u)) (pk_mul 24 u) ?_
        refine z_iload (pc := 48) E jd_M_compare_48 rfl ?_
        refine z_iadd (pc := 50) E jd_M_compare_50 ?_
        rw [nI_add]
        refine z_iald (ti := 1) (pc := 51) E rfl jd_M_compare_51 (by assumption) (vp_in_nI (by omega) (by omega)) ?_
        rw [nI_clamp (by omega), e1]
        refine z_aload_n (pc := 52) E jd_M_compare_52 rfl rfl ?_
        refine z_get (pc := 53) E jf_M_7 jd_M_compare_53 (by assumption) (by rfl) ?_
        refine z_bipush (v := 24) (pc := 56) E jd_M_compare_56 (by decide) ?_
        refine z_iload_n (pc := 58) E jd_M_compare_58 rfl rfl ?_
        refine z_imul (pc := 59) E jd_M_compare_59 ?_
        refine z_topi (y := nI (24 * v)) (pk_mul 24 v) ?_
        refine z_iload (pc := 60) E jd_M_compare_60 rfl ?_
        refine z_iadd (pc := 62) E jd_M_compare_62 ?_
        rw [nI_add]
        refine z_iald (ti := 1) (pc := 63) E rfl jd_M_compare_63 (by assumption) (vp_in_nI (by omega) (by omega)) ?_
        rw [nI_clamp (by omega), e2]
        refine z_isub (pc := 64) E jd_M_compare_64 ?_
        refine z_istore (pc := 65) E jd_M_compare_65 (by decide) rfl ?_
        dsimp only [List.set]
        refine z_iload (pc := 67) E jd_M_compare_67 rfl ?_
        refine z_if_eq (pc := 69) (tgt := 75) E jd_M_compare_69 (by decide) (fun c69 => ?_) (fun c69 => ?_)
        · have he : xs.getD i 0 = ys.getD i 0 := (hst _ rfl).mp c69
          refine z_iinc (pc := 75) E jd_M_compare_75 rfl rfl (by decide) rfl ?_
          dsimp only [List.set]
          refine z_goto (pc := 78) (tgt := 34) E jd_M_compare_78 (by decide) ?_
          have := ih (i + 1) k (some (.int (nI (xs.getD i 0) - nI (ys.getD i 0)))) (by omega) hs (by rw [← hc, hd1, hd2]; show _ = if _ then _ else _; rw [if_pos he])
          rw [nI_succ i] at this
          exact this
        · have he : ¬ xs.getD i 0 = ys.getD i 0 := fun q => c69 ((hst _ rfl).mpr q)
          refine z_iload (pc := 72) E jd_M_compare_72 rfl ?_
          have hr : (nI (xs.getD i 0) - nI (ys.getD i 0)).toInt = cmpZ xs ys := by
            rw [nI_sub_toInt (by omega) (by omega), ← hc, hd1, hd2]
            show _ = if _ then _ else _
            rw [if_neg he]
          exact z_iret E jd_M_compare_74 ⟨_, rfl, hr, rfl⟩
  refine z_aload_n (pc := 0) E jd_M_compare_0 rfl rfl ?_
  refine z_get (pc := 1) E jf_M_13 jd_M_compare_1 (by assumption) (by rfl) ?_
  refine z_iload_n (pc := 4) E jd_M_compare_4 rfl rfl ?_
  refine z_iald (ti := 1) (pc := 5) E rfl jd_M_compare_5 (by assumption) (vp_in_nI (by omega) (by omega)) ?_
  rw [nI_clamp (by omega), hx.1]
  refine z_aload_n (pc := 6) E jd_M_compare_6 rfl rfl ?_
  refine z_get (pc := 7) E jf_M_13 jd_M_compare_7 (by assumption) (by rfl) ?_
  refine z_iload_n (pc := 10) E jd_M_compare_10 rfl rfl ?_
  refine z_iald (ti := 1) (pc := 11) E rfl jd_M_compare_11 (by assumption) (vp_in_nI (by omega) (by omega)) ?_
  rw [nI_clamp (by omega), hy.1]
  refine z_icmp_ge (pc := 12) (tgt := 24) E jd_M_compare_12 (by decide) (fun c12 => ?_) (fun c12 => ?_)
  · have hmn := cle c12
    refine z_aload_n (pc := 24) E jd_M_compare_24 rfl rfl ?_
    refine z_get (pc := 25) E jf_M_13 jd_M_compare_25 (by assumption) (by rfl) ?_
    refine z_iload_n (pc := 28) E jd_M_compare_28 rfl rfl ?_
    refine z_iald (ti := 1) (pc := 29) E rfl jd_M_compare_29 (by assumption) (vp_in_nI (by omega) (by omega)) ?_
    rw [nI_clamp (by omega), hy.1]
    refine z_istore_n (pc := 30) E jd_M_compare_30 rfl (by decide) rfl ?_
    dsimp only [List.set]
    refine z_iconst (v := 0) (pc := 31) E jd_M_compare_31 (by decide) ?_
    refine z_istore (pc := 32) E jd_M_compare_32 (by decide) rfl ?_
    dsimp only [List.set]
    first | exact loop xs.length 0 xs.length none (by omega) ⟨by omega, by omega, by omega⟩ rfl | exact loop ys.length 0 ys.length none (by omega) ⟨by omega, by omega, by omega⟩ rfl
  · have hmn := ncle c12
    refine z_aload_n (pc := 15) E jd_M_compare_15 rfl rfl ?_
    refine z_get (pc := 16) E jf_M_13 jd_M_compare_16 (by assumption) (by rfl) ?_
    refine z_iload_n (pc := 19) E jd_M_compare_19 rfl rfl ?_
    refine z_iald (ti := 1) (pc := 20) E rfl jd_M_compare_20 (by assumption) (vp_in_nI (by omega) (by omega)) ?_
    rw [nI_clamp (by omega), hx.1]
    refine z_goto (pc := 21) (tgt := 30) E jd_M_compare_21 (by decide) ?_
    refine z_istore_n (pc := 30) E jd_M_compare_30 rfl (by decide) rfl ?_
    dsimp only [List.set]
    refine z_iconst (v := 0) (pc := 31) E jd_M_compare_31 (by decide) ?_
    refine z_istore (pc := 32) E jd_M_compare_32 (by decide) rfl ?_
    dsimp only [List.set]
    first | exact loop xs.length 0 xs.length none (by omega) ⟨by omega, by omega, by omega⟩ rfl | exact loop ys.length 0 ys.length none (by omega) ⟨by omega, by omega, by omega⟩ rfl
