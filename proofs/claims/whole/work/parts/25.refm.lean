/-! the reference: members -/
set_option maxHeartbeats 4000000 in
set_option maxRecDepth 100000 in
theorem c_M_find (l : Launch) (G : zG) (B : Nat) {es : zE} {r c u k : Nat} {S : MS} {z a e : Int32} {nm sh : List Nat} {t : DT} {E0 : Nat → Ent} (h0 : mO G B es r S z a e) (t0 : rt S 0 nm) (t1 : rt S 1 sh) (hc4 : c < 4) (hk : k < 4) (hh : mC S c t) (hE : t.2.2.2.2.2.1 = E0) (hu : t.2.2.2.2.2.2.1 = u) : Tr l G B jy_M_find jb_M_find 6 (some .int) 1 0 0 [.ref (B + r), .int (nI c), .int (nI k)] es (pI fun v es' => v = (if fnd E0 k nm sh u 0 < u then nI (10 * c + fnd E0 k nm sh u 0) else -1) ∧ es' = es) := by
  obtain ⟨m0, a1, a2, a3, a4, a5, a6, a7, a8, a9, a10, a11, a12, a13, a14⟩ := id h0
  obtain ⟨-, d6, du, dM⟩ := id hh
  rw [hE, hu] at dM
  rw [hu] at d6 du
  refine Tr.of (ls := [some (.ref (B + r)), some (.int (nI c)), some (.int (nI k)), none, none, none]) (by decide +kernel) (Nat.le_of_ble_eq_true rfl) rfl ?_
  intro zp ze zs zm zb zt zc E
  have loop : ∀ (f i : Nat) (b4 b5 : Option Value), i + f = u → fnd E0 k nm sh f i = fnd E0 k nm sh u 0 → Zj zp l ze (zr 1 0 0) zs zm ([.ref (B + r), .int (nI c), .int (nI k)] : List Value).toArray zb zt zc (MQ zb (zQ G B (pI fun v es' => v = (if fnd E0 k nm sh u 0 < u then nI (10 * c + fnd E0 k nm sh u 0) else -1) ∧ es' = es)) ([.ref (B + r), .int (nI c), .int (nI k)] : List Value).toArray zs 0 0 (fun q => B ≤ q)) G B 6 0 0 5 [some (.ref (B + r)), some (.int (nI c)), some (.int (nI k)), some (.int (nI (10 * c + i))), b4, b5] [] es := by
    intro f
    induction f with
    | zero =>
      intro i b4 b5 hi he
      have hiu : i = u := by omega
      subst hiu
      refine z_iload_n (pc := 5) E jd_M_find_5 rfl rfl ?_
      refine z_bipush (v := 10) (pc := 6) E jd_M_find_6 (by decide) ?_
      refine z_iload_n (pc := 8) E jd_M_find_8 rfl rfl ?_
      refine z_imul (pc := 9) E jd_M_find_9 ?_
      refine z_topi (y := nI (10 * c)) (pk_mul 10 c) ?_
      refine z_aload_n (pc := 10) E jd_M_find_10 rfl rfl ?_
      refine z_get (pc := 11) E jf_M_26 jd_M_find_11 (by assumption) (by rfl) ?_
      refine z_iload_n (pc := 14) E jd_M_find_14 rfl rfl ?_
      refine z_iald (ti := 1) (pc := 15) E rfl jd_M_find_15 (by assumption) (vp_in_nI (by omega) (by omega)) ?_
      rw [nI_clamp (by omega), d6]
      refine z_iadd (pc := 16) E jd_M_find_16 ?_
      rw [nI_add]
      refine z_icmp_ge (pc := 17) (tgt := 105) E jd_M_find_17 (by decide) (fun c17 => ?_) (fun c17 => ?_)
      · refine z_iconst (v := -1) (pc := 105) E jd_M_find_105 (by decide) ?_
        exact z_iret E jd_M_find_106 ⟨_, rfl, by rw [if_neg (by rw [← he]; exact Nat.lt_irrefl _)], rfl⟩
      · exact absurd ((nI_leI (by omega) (by omega)).mpr (Nat.le_refl _)) c17
    | succ f ih =>
      intro i b4 b5 hi he
      obtain ⟨g1, g2, g3, g4, g5⟩ := dM i (by omega)
      rw [fnd] at he
      have t75 : ∀ (x1 x2 : Int32) (b5 : Option Value), (¬ x1 = 0 ↔ k = 1 ∨ k = 3 ∨ cmpZ nm (E0 i).2.2.1 = 0) → (¬ x2 = 0 ↔ k = 0 ∨ k = 3 ∨ cmpZ sh (E0 i).2.2.2 = 0) → Zj zp l ze (zr 1 0 0) zs zm ([.ref (B + r), .int (nI c), .int (nI k)] : List Value).toArray zb zt zc (MQ zb (zQ G B (pI fun v es' => v = (if fnd E0 k nm sh u 0 < u then nI (10 * c + fnd E0 k nm sh u 0) else -1) ∧ es' = es)) ([.ref (B + r), .int (nI c), .int (nI k)] : List Value).toArray zs 0 0 (fun q => B ≤ q)) G B 6 0 0 75 [some (.ref (B + r)), some (.int (nI c)), some (.int (nI k)), some (.int (nI (10 * c + i))), some (.int x1), b5] [.int x2] es := by
        intro x1 x2 b5 hx1 hx2
        have miss : ∀ b5 : Option Value, ¬ entC (E0 i) k nm sh = 0 → Zj zp l ze (zr 1 0 0) zs zm ([.ref (B + r), .int (nI c), .int (nI k)] : List Value).toArray zb zt zc (MQ zb (zQ G B (pI fun v es' => v = (if fnd E0 k nm sh u 0 < u then nI (10 * c + fnd E0 k nm sh u 0) else -1) ∧ es' = es)) ([.ref (B + r), .int (nI c), .int (nI k)] : List Value).toArray zs 0 0 (fun q => B ≤ q)) G B 6 0 0 99 [some (.ref (B + r)), some (.int (nI c)), some (.int (nI k)), some (.int (nI (10 * c + i))), some (.int x1), b5] [] es := by
          intro b5 hne
          rw [if_neg hne] at he
          refine z_iinc (pc := 99) E jd_M_find_99 rfl rfl (by decide) rfl ?_
          dsimp only [List.set]
          refine z_goto (pc := 102) (tgt := 5) E jd_M_find_102 (by decide) ?_
          have := ih (i + 1) (some (.int x1)) b5 (by omega) he
          rw [show 10 * c + (i + 1) = 10 * c + i + 1 by omega, nI_succ (10 * c + i)] at this
          exact this
        refine z_istore (pc := 75) E jd_M_find_75 (by decide) rfl ?_
        dsimp only [List.set]
        refine z_aload_n (pc := 77) E jd_M_find_77 rfl rfl ?_
        refine z_get (pc := 78) E jf_M_36 jd_M_find_78 (by assumption) (by rfl) ?_
        refine z_iload_n (pc := 81) E jd_M_find_81 rfl rfl ?_
        refine z_iald (ti := 1) (pc := 82) E rfl jd_M_find_82 (by assumption) (vp_in_nI (by omega) (by omega)) ?_
        rw [nI_clamp (by omega), g1]
        refine z_iload_n (pc := 83) E jd_M_find_83 rfl rfl ?_
        refine z_icmp_ne (pc := 84) (tgt := 99) E jd_M_find_84 (by decide) (fun c84 => ?_) (fun c84 => ?_)
        · exact miss _ fun q => c84 (by rw [((entC_zero hk).mp q).1])
        · refine z_iload (pc := 87) E jd_M_find_87 rfl ?_
          refine z_if_eq (pc := 89) (tgt := 99) E jd_M_find_89 (by decide) (fun c89 => ?_) (fun c89 => ?_)
          · exact miss _ fun q => hx1.mpr ((entC_zero hk).mp q).2.1 c89
          · refine z_iload (pc := 92) E jd_M_find_92 rfl ?_
            refine z_if_eq (pc := 94) (tgt := 99) E jd_M_find_94 (by decide) (fun c94 => ?_) (fun c94 => ?_)
            · exact miss _ fun q => hx2.mpr ((entC_zero hk).mp q).2.2 c94
            · rw [if_pos ((entC_zero hk).mpr ⟨ceq c84, hx1.mp c89, hx2.mp c94⟩)] at he
              refine z_iload_n (pc := 97) E jd_M_find_97 rfl rfl ?_
              exact z_iret E jd_M_find_98 ⟨_, rfl, by rw [← he, if_pos (by omega)], rfl⟩
      have t47 : ∀ (x1 : Int32), (¬ x1 = 0 ↔ k = 1 ∨ k = 3 ∨ cmpZ nm (E0 i).2.2.1 = 0) → Zj zp l ze (zr 1 0 0) zs zm ([.ref (B + r), .int (nI c), .int (nI k)] : List Value).toArray zb zt zc (MQ zb (zQ G B (pI fun v es' => v = (if fnd E0 k nm sh u 0 < u then nI (10 * c + fnd E0 k nm sh u 0) else -1) ∧ es' = es)) ([.ref (B + r), .int (nI c), .int (nI k)] : List Value).toArray zs 0 0 (fun q => B ≤ q)) G B 6 0 0 47 [some (.ref (B + r)), some (.int (nI c)), some (.int (nI k)), some (.int (nI (10 * c + i))), b4, b5] [.int x1] es := by
        intro x1 hx1
        refine z_istore (pc := 47) E jd_M_find_47 (by decide) rfl ?_
        dsimp only [List.set]
        refine z_iload_n (pc := 49) E jd_M_find_49 rfl rfl ?_
        refine z_if_eq (pc := 50) (tgt := 70) E jd_M_find_50 (by decide) (fun c50 => ?_) (fun c50 => ?_)
        · have hp : k = 0 ∨ k = 3 ∨ cmpZ sh (E0 i).2.2.2 = 0 := Or.inl (ceq (b := 0) c50)
          refine z_iconst (v := 1) (pc := 70) E jd_M_find_70 (by decide) ?_
          refine z_goto (pc := 71) (tgt := 75) E jd_M_find_71 (by decide) ?_
          exact t75 x1 _ _ hx1 ⟨fun q => by first | exact hp | exact absurd rfl q, fun q => by first | exact absurd q hp | decide⟩
        · refine z_iload_n (pc := 53) E jd_M_find_53 rfl rfl ?_
          refine z_iconst (v := 3) (pc := 54) E jd_M_find_54 (by decide) ?_
          refine z_icmp_eq (pc := 55) (tgt := 70) E jd_M_find_55 (by decide) (fun c55 => ?_) (fun c55 => ?_)
          · have hp : k = 0 ∨ k = 3 ∨ cmpZ sh (E0 i).2.2.2 = 0 := Or.inr (Or.inl (ceq (b := 3) c55))
            refine z_iconst (v := 1) (pc := 70) E jd_M_find_70 (by decide) ?_
            refine z_goto (pc := 71) (tgt := 75) E jd_M_find_71 (by decide) ?_
            exact t75 x1 _ _ hx1 ⟨fun q => by first | exact hp | exact absurd rfl q, fun q => by first | exact absurd q hp | decide⟩
          · refine z_aload_n (pc := 58) E jd_M_find_58 rfl rfl ?_
            refine z_iconst (v := 1) (pc := 59) E jd_M_find_59 (by decide) ?_
            refine z_bipush (v := 62) (pc := 60) E jd_M_find_60 (by decide) ?_
            refine z_iload_n (pc := 62) E jd_M_find_62 rfl rfl ?_
            refine z_iadd (pc := 63) E jd_M_find_63 ?_
            refine z_topi (y := nI (62 + (10 * c + i))) (nI_add 62 _) ?_
            refine z_cV2I (pc := 64) E (c_M_compare l G B (u := 1) (v := 62 + (10 * c + i)) h0 (by omega) (by omega) t1 g5) jc_M_82 jv_M_compare rfl (by assumption) ⟨Nat.le_of_ble_eq_true rfl, Nat.le_of_ble_eq_true rfl⟩ jd_M_find_64 (Nat.le_of_ble_eq_true rfl) (by decide) (by decide) (fun v64 es64 h64 => ?_)
            obtain ⟨w64, e64⟩ := h64
            rw [e64]
            refine z_if_ne (pc := 67) (tgt := 74) E jd_M_find_67 (by decide) (fun c67 => ?_) (fun c67 => ?_)
            · have hp : ¬ (k = 0 ∨ k = 3 ∨ cmpZ sh (E0 i).2.2.2 = 0) := fun q => q.elim (nceq (b := 0) c50) fun q => q.elim (nceq (b := 3) c55) fun q => c67 (i0_toInt.mpr (w64.trans q))
              refine z_iconst (v := 0) (pc := 74) E jd_M_find_74 (by decide) ?_
              exact t75 x1 _ _ hx1 ⟨fun q => by first | exact hp | exact absurd rfl q, fun q => by first | exact absurd q hp | decide⟩
            · have hp : k = 0 ∨ k = 3 ∨ cmpZ sh (E0 i).2.2.2 = 0 := Or.inr (Or.inr (w64.symm.trans (i0_toInt.mp c67)))
              refine z_iconst (v := 1) (pc := 70) E jd_M_find_70 (by decide) ?_
              refine z_goto (pc := 71) (tgt := 75) E jd_M_find_71 (by decide) ?_
              exact t75 x1 _ _ hx1 ⟨fun q => by first | exact hp | exact absurd rfl q, fun q => by first | exact absurd q hp | decide⟩
      refine z_iload_n (pc := 5) E jd_M_find_5 rfl rfl ?_
      refine z_bipush (v := 10) (pc := 6) E jd_M_find_6 (by decide) ?_
      refine z_iload_n (pc := 8) E jd_M_find_8 rfl rfl ?_
      refine z_imul (pc := 9) E jd_M_find_9 ?_
      refine z_topi (y := nI (10 * c)) (pk_mul 10 c) ?_
      refine z_aload_n (pc := 10) E jd_M_find_10 rfl rfl ?_
      refine z_get (pc := 11) E jf_M_26 jd_M_find_11 (by assumption) (by rfl) ?_
      refine z_iload_n (pc := 14) E jd_M_find_14 rfl rfl ?_
      refine z_iald (ti := 1) (pc := 15) E rfl jd_M_find_15 (by assumption) (vp_in_nI (by omega) (by omega)) ?_
      rw [nI_clamp (by omega), d6]
      refine z_iadd (pc := 16) E jd_M_find_16 ?_
      rw [nI_add]
      refine z_icmp_ge (pc := 17) (tgt := 105) E jd_M_find_17 (by decide) (fun c17 => ?_) (fun c17 => ?_)
      · exact absurd ((nI_leI (by omega) (by omega)).mp c17) (by omega)
      · refine z_iload_n (pc := 20) E jd_M_find_20 rfl rfl ?_
        refine z_iconst (v := 1) (pc := 21) E jd_M_find_21 (by decide) ?_
        refine z_icmp_eq (pc := 22) (tgt := 42) E jd_M_find_22 (by decide) (fun c22 => ?_) (fun c22 => ?_)
        · have hp : k = 1 ∨ k = 3 ∨ cmpZ nm (E0 i).2.2.1 = 0 := Or.inl (ceq (b := 1) c22)
          refine z_iconst (v := 1) (pc := 42) E jd_M_find_42 (by decide) ?_
          refine z_goto (pc := 43) (tgt := 47) E jd_M_find_43 (by decide) ?_
          exact t47 _ ⟨fun q => by first | exact hp | exact absurd rfl q, fun q => by first | exact absurd q hp | decide⟩
        · refine z_iload_n (pc := 25) E jd_M_find_25 rfl rfl ?_
          refine z_iconst (v := 3) (pc := 26) E jd_M_find_26 (by decide) ?_
          refine z_icmp_eq (pc := 27) (tgt := 42) E jd_M_find_27 (by decide) (fun c27 => ?_) (fun c27 => ?_)
          · have hp : k = 1 ∨ k = 3 ∨ cmpZ nm (E0 i).2.2.1 = 0 := Or.inr (Or.inl (ceq (b := 3) c27))
            refine z_iconst (v := 1) (pc := 42) E jd_M_find_42 (by decide) ?_
            refine z_goto (pc := 43) (tgt := 47) E jd_M_find_43 (by decide) ?_
            exact t47 _ ⟨fun q => by first | exact hp | exact absurd rfl q, fun q => by first | exact absurd q hp | decide⟩
          · refine z_aload_n (pc := 30) E jd_M_find_30 rfl rfl ?_
            refine z_iconst (v := 0) (pc := 31) E jd_M_find_31 (by decide) ?_
            refine z_bipush (v := 22) (pc := 32) E jd_M_find_32 (by decide) ?_
            refine z_iload_n (pc := 34) E jd_M_find_34 rfl rfl ?_
            refine z_iadd (pc := 35) E jd_M_find_35 ?_
            refine z_topi (y := nI (22 + (10 * c + i))) (nI_add 22 _) ?_
            refine z_cV2I (pc := 36) E (c_M_compare l G B (u := 0) (v := 22 + (10 * c + i)) h0 (by omega) (by omega) t0 g4) jc_M_82 jv_M_compare rfl (by assumption) ⟨Nat.le_of_ble_eq_true rfl, Nat.le_of_ble_eq_true rfl⟩ jd_M_find_36 (Nat.le_of_ble_eq_true rfl) (by decide) (by decide) (fun v36 es36 h36 => ?_)
            obtain ⟨w36, e36⟩ := h36
            rw [e36]
            refine z_if_ne (pc := 39) (tgt := 46) E jd_M_find_39 (by decide) (fun c39 => ?_) (fun c39 => ?_)
            · have hp : ¬ (k = 1 ∨ k = 3 ∨ cmpZ nm (E0 i).2.2.1 = 0) := fun q => q.elim (nceq (b := 1) c22) fun q => q.elim (nceq (b := 3) c27) fun q => c39 (i0_toInt.mpr (w36.trans q))
              refine z_iconst (v := 0) (pc := 46) E jd_M_find_46 (by decide) ?_
              exact t47 _ ⟨fun q => by first | exact hp | exact absurd rfl q, fun q => by first | exact absurd q hp | decide⟩
            · have hp : k = 1 ∨ k = 3 ∨ cmpZ nm (E0 i).2.2.1 = 0 := Or.inr (Or.inr (w36.symm.trans (i0_toInt.mp c39)))
              refine z_iconst (v := 1) (pc := 42) E jd_M_find_42 (by decide) ?_
              refine z_goto (pc := 43) (tgt := 47) E jd_M_find_43 (by decide) ?_
              exact t47 _ ⟨fun q => by first | exact hp | exact absurd rfl q, fun q => by first | exact absurd q hp | decide⟩
  refine z_bipush (v := 10) (pc := 0) E jd_M_find_0 (by decide) ?_
  refine z_iload_n (pc := 2) E jd_M_find_2 rfl rfl ?_
  refine z_imul (pc := 3) E jd_M_find_3 ?_
  refine z_topi (y := nI (10 * c + 0)) (pk_mul 10 c) ?_
  refine z_istore_n (pc := 4) E jd_M_find_4 rfl (by decide) rfl ?_
  dsimp only [List.set]
  exact loop u 0 none none (by omega) rfl
theorem onlyE_of {S : MS} {m f g : Nat} {kd fl : Int32} (hf : f ≠ 22 + m) (hg : g ≠ 62 + m) (hfg : g ≠ 22 + m) : onlyE S (cpS (cpS (S.1, S.2.1, S.2.2.1, S.2.2.2.1, S.2.2.2.2.1, S.2.2.2.2.2.1, S.2.2.2.2.2.2.1, S.2.2.2.2.2.2.2.1, upd S.2.2.2.2.2.2.2.2.1 m kd, upd S.2.2.2.2.2.2.2.2.2.1 m fl, S.2.2.2.2.2.2.2.2.2.2) f (22 + m)) g (62 + m)) m := by
  refine ⟨fun u ys h1 h2 q => cpS_ne h2 (cpS_ne h1 q), rfl, rfl, rfl, rfl, rfl, rfl, fun j hj => ⟨pk_un hj, pk_un hj⟩⟩
theorem mE_of {S : MS} {m f g k : Nat} {fl : Int32} {n s : List Nat} (hg : g ≠ 22 + m) (hk : k < 4) (h1 : rt S f n) (h2 : rt S g s) : mE (cpS (cpS (S.1, S.2.1, S.2.2.1, S.2.2.2.1, S.2.2.2.2.1, S.2.2.2.2.2.1, S.2.2.2.2.2.2.1, S.2.2.2.2.2.2.2.1, upd S.2.2.2.2.2.2.2.2.1 m (nI k), upd S.2.2.2.2.2.2.2.2.2.1 m fl, S.2.2.2.2.2.2.2.2.2.2) f (22 + m)) g (62 + m)) m (k, fl, n, s) := by
  refine ⟨pk_us, hk, pk_us, cpS_ne (by omega) (cpS_to h1), cpS_to (cpS_ne hg h2)⟩
/-! member -/
set_option maxHeartbeats 4000000 in
set_option maxRecDepth 100000 in
theorem c_M_member (l : Launch) (G : zG) (B : Nat) {es : zE} {r c u k : Nat} {nm sh : List Nat} {R : Nat → DT} {E0 : Nat → Ent} {m : Int32} (h : rA G B es r nm sh R) (hz : ∀ x ∈ sh, x ≠ 0) (hc : cnum R (nI c) = some c) (hk : k < 4) (hE : (R c).2.2.2.2.2.1 = E0) (hu : (R c).2.2.2.2.2.2.1 = u) : Tr l G B jy_M_member jb_M_member 5 (some .int) 3 0 0 [.ref (B + r), .int (nI c), .int (nI k), .int m] es (pI fun v es' => (if nameOk k nm = false ∨ shapeOk k sh = false then v = -2 ∧ rA G B es' r nm sh R else if fnd E0 k nm sh u 0 < u then v = -3 ∧ rA G B es' r nm sh R else if u = 10 then v = -4 ∧ rA G B es' r nm sh R else v = nI (u + 1) ∧ rA G B es' r nm sh (va_up R c (dtM (R c) (va_up E0 u (k, m &&& 65535, nm, sh)) (u + 1)))) ∧ Fr es es' r (r + 15)) := by
  have hr := h
  obtain ⟨S, z, a, e, h0, t0, t1, hC⟩ := h
  obtain ⟨m0, a1, a2, a3, a4, a5, a6, a7, a8, a9, a10, a11, a12, a13, a14⟩ := id h0
  obtain ⟨-, hc4, hth⟩ := cnum_some hc
  have hcn : ¬ cnuM S (nI c) = none := by rw [cnuM_eq hC, hc]; exact fun q => by cases q
  have hl := t0.2.1
  have hh := hC c hc4
  obtain ⟨d0, d6, du, dM⟩ := id hh
  rw [hE, hu] at dM
  rw [hu] at d6 du
  refine Tr.of (ls := [some (.ref (B + r)), some (.int (nI c)), some (.int (nI k)), some (.int m), none]) (by decide +kernel) (Nat.le_of_ble_eq_true rfl) rfl ?_
  intro zp ze zs zm zb zt zc E
  have bad : ∀ (es1 : zE), nameOk k nm = false ∨ shapeOk k sh = false → rA G B es1 r nm sh R → Fr es es1 r (r + 15) → Zj zp l ze (zr 3 0 0) zs zm ([.ref (B + r), .int (nI c), .int (nI k), .int m] : List Value).toArray zb zt zc (MQ zb (zQ G B (pI fun v es' => (if nameOk k nm = false ∨ shapeOk k sh = false then v = -2 ∧ rA G B es' r nm sh R else if fnd E0 k nm sh u 0 < u then v = -3 ∧ rA G B es' r nm sh R else if u = 10 then v = -4 ∧ rA G B es' r nm sh R else v = nI (u + 1) ∧ rA G B es' r nm sh (va_up R c (dtM (R c) (va_up E0 u (k, m &&& 65535, nm, sh)) (u + 1)))) ∧ Fr es es' r (r + 15))) ([.ref (B + r), .int (nI c), .int (nI k), .int m] : List Value).toArray zs 0 0 (fun q => B ≤ q)) G B 5 0 0 50 [some (.ref (B + r)), some (.int (nI c)), some (.int (nI k)), some (.int m), none] [] es1 := by
    intro es1 hb h1 F1
    refine z_bipush (v := -2) (pc := 50) E jd_M_member_50 (by decide) ?_
    exact z_iret E jd_M_member_52 ⟨_, rfl, by rw [if_pos hb]; exact ⟨rfl, h1⟩, F1⟩
  have t53 : ∀ (es1 : zE) (a e : Int32), ¬ (nameOk k nm = false ∨ shapeOk k sh = false) → mO G B es1 r S z a e → Fr es es1 r (r + 15) → Zj zp l ze (zr 3 0 0) zs zm ([.ref (B + r), .int (nI c), .int (nI k), .int m] : List Value).toArray zb zt zc (MQ zb (zQ G B (pI fun v es' => (if nameOk k nm = false ∨ shapeOk k sh = false then v = -2 ∧ rA G B es' r nm sh R else if fnd E0 k nm sh u 0 < u then v = -3 ∧ rA G B es' r nm sh R else if u = 10 then v = -4 ∧ rA G B es' r nm sh R else v = nI (u + 1) ∧ rA G B es' r nm sh (va_up R c (dtM (R c) (va_up E0 u (k, m &&& 65535, nm, sh)) (u + 1)))) ∧ Fr es es' r (r + 15))) ([.ref (B + r), .int (nI c), .int (nI k), .int m] : List Value).toArray zs 0 0 (fun q => B ≤ q)) G B 5 0 0 53 [some (.ref (B + r)), some (.int (nI c)), some (.int (nI k)), some (.int m), none] [] es1 := by
    intro es1 a e hb h1 F1
    have hr1 : rA G B es1 r nm sh R := ⟨S, z, a, e, h1, t0, t1, hC⟩
    obtain ⟨m0, a1, a2, a3, a4, a5, a6, a7, a8, a9, a10, a11, a12, a13, a14⟩ := id h1
    refine z_aload_n (pc := 53) E jd_M_member_53 rfl rfl ?_
    refine z_iload_n (pc := 54) E jd_M_member_54 rfl rfl ?_
    refine z_iload_n (pc := 55) E jd_M_member_55 rfl rfl ?_
    refine z_cV2I (pc := 56) E (c_M_find l G B h1 t0 t1 hc4 hk hh hE hu) jc_M_89 jv_M_find rfl (by assumption) ⟨Nat.le_of_ble_eq_true rfl, Nat.le_of_ble_eq_true rfl⟩ jd_M_member_56 (Nat.le_of_ble_eq_true rfl) (by decide) (by decide) (fun v56 es56 h56 => ?_)
    obtain ⟨w56, e56⟩ := h56
    rw [e56, w56]
    have hfl := (fnd_le E0 k nm sh u 0).2
    refine z_if_lt (pc := 59) (tgt := 65) E jd_M_member_59 (by decide) (fun c59 => ?_) (fun c59 => ?_)
    · have hf : ¬ fnd E0 k nm sh u 0 < u := fun q => by rw [if_pos q] at c59; exact nI_pos (by omega) c59
      refine z_aload_n (pc := 65) E jd_M_member_65 rfl rfl ?_
      refine z_get (pc := 66) E jf_M_26 jd_M_member_66 (by assumption) (by rfl) ?_
      refine z_iload_n (pc := 69) E jd_M_member_69 rfl rfl ?_
      refine z_iald (ti := 1) (pc := 70) E rfl jd_M_member_70 (by assumption) (vp_in_nI (by omega) (by omega)) ?_
      rw [nI_clamp (by omega), d6]
      refine z_bipush (v := 10) (pc := 71) E jd_M_member_71 (by decide) ?_
      refine z_icmp_ne (pc := 73) (tgt := 79) E jd_M_member_73 (by decide) (fun c73 => ?_) (fun c73 => ?_)
      · have h10 := nceq (b := 10) c73
        refine z_bipush (v := 10) (pc := 79) E jd_M_member_79 (by decide) ?_
        refine z_iload_n (pc := 81) E jd_M_member_81 rfl rfl ?_
        refine z_imul (pc := 82) E jd_M_member_82 ?_
        refine z_topi (y := nI (10 * c)) (pk_mul 10 c) ?_
        refine z_aload_n (pc := 83) E jd_M_member_83 rfl rfl ?_
        refine z_get (pc := 84) E jf_M_26 jd_M_member_84 (by assumption) (by rfl) ?_
        refine z_iload_n (pc := 87) E jd_M_member_87 rfl rfl ?_
        refine z_iald (ti := 1) (pc := 88) E rfl jd_M_member_88 (by assumption) (vp_in_nI (by omega) (by omega)) ?_
        rw [nI_clamp (by omega), d6]
        refine z_iadd (pc := 89) E jd_M_member_89 ?_
        rw [nI_add]
        refine z_istore (pc := 90) E jd_M_member_90 (by decide) rfl ?_
        dsimp only [List.set]
        refine z_aload_n (pc := 92) E jd_M_member_92 rfl rfl ?_
        refine z_get (pc := 93) E jf_M_36 jd_M_member_93 (by assumption) (by rfl) ?_
        refine z_iload (pc := 96) E jd_M_member_96 rfl ?_
        refine z_iload_n (pc := 98) E jd_M_member_98 rfl rfl ?_
        refine z_iast (ti := 1) (pc := 99) E rfl jd_M_member_99 (by assumption) (vp_in_nI (by omega) (by omega)) (fun es99 he99 => ?_)
        rw [nI_clamp (by omega)] at he99
        have h2 := h1.s9 he99
        obtain ⟨p0, p1, p2, p3, p4, p5, p6, p7, p8, p9, p10, p11, p12, p13, p14⟩ := id h2
        refine z_aload_n (pc := 100) E jd_M_member_100 rfl rfl ?_
        refine z_get (pc := 101) E jf_M_39 jd_M_member_101 (by assumption) (by rfl) ?_
        refine z_iload (pc := 104) E jd_M_member_104 rfl ?_
        refine z_iload_n (pc := 106) E jd_M_member_106 rfl rfl ?_
        refine z_ldc (pc := 107) E jw_551 jd_M_member_107 ?_
        refine z_iand (pc := 109) E jd_M_member_109 ?_
        refine z_iast (ti := 1) (pc := 110) E rfl jd_M_member_110 (by assumption) (vp_in_nI (by omega) (by omega)) (fun es110 he110 => ?_)
        rw [nI_clamp (by omega)] at he110
        have h3 := h2.s10 he110
        dsimp only at h3
        have q0 := h3.1
        refine z_aload_n (pc := 111) E jd_M_member_111 rfl rfl ?_
        refine z_iconst (v := 0) (pc := 112) E jd_M_member_112 (by decide) ?_
        refine z_bipush (v := 22) (pc := 113) E jd_M_member_113 (by decide) ?_
        refine z_iload (pc := 115) E jd_M_member_115 rfl ?_
        refine z_iadd (pc := 117) E jd_M_member_117 ?_
        refine z_topi (y := nI (22 + (10 * c + u))) (nI_add 22 _) ?_
        refine z_cV2V (pc := 118) E (c_M_copy l G B (f := 0) (t := 22 + (10 * c + u)) h3 (by omega) (by omega) (by omega)) jc_M_74 jv_M_copy rfl (by assumption) ⟨Nat.le_of_ble_eq_true rfl, Nat.le_of_ble_eq_true rfl⟩ jd_M_member_118 (Nat.le_of_ble_eq_true rfl) (by decide) (by decide) (fun es118 h118 => ?_)
        obtain ⟨h4, F4⟩ := h118
        have q1 := h4.1
        refine z_aload_n (pc := 121) E jd_M_member_121 rfl rfl ?_
        refine z_iconst (v := 1) (pc := 122) E jd_M_member_122 (by decide) ?_
        refine z_bipush (v := 62) (pc := 123) E jd_M_member_123 (by decide) ?_
        refine z_iload (pc := 125) E jd_M_member_125 rfl ?_
        refine z_iadd (pc := 127) E jd_M_member_127 ?_
        refine z_topi (y := nI (62 + (10 * c + u))) (nI_add 62 _) ?_
        refine z_cV2V (pc := 128) E (c_M_copy l G B (f := 1) (t := 62 + (10 * c + u)) h4 (by omega) (by omega) (by omega)) jc_M_74 jv_M_copy rfl (by assumption) ⟨Nat.le_of_ble_eq_true rfl, Nat.le_of_ble_eq_true rfl⟩ jd_M_member_128 (Nat.le_of_ble_eq_true rfl) (by decide) (by decide) (fun es128 h128 => ?_)
        obtain ⟨h5, F5⟩ := h128
        obtain ⟨w0, w1, w2, w3, w4, w5, w6, -⟩ := id h5
        refine z_aload_n (pc := 131) E jd_M_member_131 rfl rfl ?_
        refine z_get (pc := 132) E jf_M_26 jd_M_member_132 (by assumption) (by rfl) ?_
        refine z_iload_n (pc := 135) E jd_M_member_135 rfl rfl ?_
        refine z_dup2 (pc := 136) E jd_M_member_136 rfl rfl ?_
        refine z_iald (ti := 1) (pc := 137) E rfl jd_M_member_137 (by assumption) (vp_in_nI (by omega) (by omega)) ?_
        rw [nI_clamp (by omega)]
        refine z_topi (y := nI u) d6 ?_
        refine z_iconst (v := 1) (pc := 138) E jd_M_member_138 (by decide) ?_
        refine z_iadd (pc := 139) E jd_M_member_139 ?_
        refine z_topi (y := nI (u + 1)) (nI_1 u) ?_
        refine z_iast (ti := 1) (pc := 140) E rfl jd_M_member_140 (by assumption) (vp_in_nI (by omega) (by omega)) (fun es140 he140 => ?_)
        rw [nI_clamp (by omega)] at he140
        have h6 := h5.s6 he140
        obtain ⟨v0, v1, v2, v3, v4, v5, v6, -⟩ := id h6
        have FF : Fr es es140 r (r + 15) := (((((F1.trs (Fr.set he99 (by omega) (by omega))).trs (Fr.set he110 (by omega) (by omega))).trs F4).trs F5)).trs (Fr.set he140 (by omega) (by omega))
        refine z_aload_n (pc := 141) E jd_M_member_141 rfl rfl ?_
        refine z_get (pc := 142) E jf_M_26 jd_M_member_142 (by assumption) (by rfl) ?_
        refine z_iload_n (pc := 145) E jd_M_member_145 rfl rfl ?_
        refine z_iald (ti := 1) (pc := 146) E rfl jd_M_member_146 (by assumption) (vp_in_nI (by omega) (by omega)) ?_
        rw [nI_clamp (by omega)]
        dsimp only
        rw [pk_us]
        refine z_iret E jd_M_member_147 ⟨_, rfl, ?_⟩
        dsimp only
        rw [if_neg hb, if_neg hf, if_neg h10]
        have oE := onlyE_of (S := S) (m := 10 * c + u) (f := 0) (g := 1) (kd := nI k) (fl := m &&& 65535) (by omega) (by omega) (by omega)
        have mE' := mE_of (S := S) (m := 10 * c + u) (f := 0) (g := 1) (k := k) (fl := m &&& 65535) (by omega) hk t0 t1
        have d1 := d0.onlyE oE hc4
        refine ⟨⟨rfl, ⟨_, z, a, e, h6, oE.1 0 nm (by omega) (by omega) t0, oE.1 1 sh (by omega) (by omega) t1, fun c' hc' => ?_⟩⟩, FF⟩
        by_cases ec : c' = c
        · subst ec
          rw [va_up_self]
          refine ⟨d1, pk_us, by show u + 1 ≤ 10; omega, fun j hj => ?_⟩
          have hj : j < u + 1 := hj
          show mE _ (10 * c' + j) (va_up E0 u (k, m &&& 65535, nm, sh) j)
          by_cases ej : j = u
          · subst ej
            rw [va_up_self]
            exact mE'
          · rw [va_up_ne _ _ ej]
            have := (dM j (by omega)).onlyE oE (by omega) (by omega) (by omega)
            exact this
        · rw [va_up_ne _ _ ec]
          have hh' := (hC c' hc').onlyE oE hc4 hc' (by omega) ec
          exact ⟨hh'.1, (pk_un ec).trans hh'.2.1, hh'.2.2.1, hh'.2.2.2⟩
      · have h10 := ceq (b := 10) c73
        refine z_bipush (v := -4) (pc := 76) E jd_M_member_76 (by decide) ?_
        exact z_iret E jd_M_member_78 ⟨_, rfl, by rw [if_neg hb, if_neg hf, if_pos h10]; exact ⟨rfl, hr1⟩, F1⟩
    · have hf : fnd E0 k nm sh u 0 < u := Decidable.byContradiction fun q => c59 (by rw [if_neg q]; decide)
      refine z_bipush (v := -3) (pc := 62) E jd_M_member_62 (by decide) ?_
      exact z_iret E jd_M_member_64 ⟨_, rfl, by rw [if_neg hb, if_pos hf]; exact ⟨rfl, hr1⟩, F1⟩
  have t37 : nameOk k nm = true → Zj zp l ze (zr 3 0 0) zs zm ([.ref (B + r), .int (nI c), .int (nI k), .int m] : List Value).toArray zb zt zc (MQ zb (zQ G B (pI fun v es' => (if nameOk k nm = false ∨ shapeOk k sh = false then v = -2 ∧ rA G B es' r nm sh R else if fnd E0 k nm sh u 0 < u then v = -3 ∧ rA G B es' r nm sh R else if u = 10 then v = -4 ∧ rA G B es' r nm sh R else v = nI (u + 1) ∧ rA G B es' r nm sh (va_up R c (dtM (R c) (va_up E0 u (k, m &&& 65535, nm, sh)) (u + 1)))) ∧ Fr es es' r (r + 15))) ([.ref (B + r), .int (nI c), .int (nI k), .int m] : List Value).toArray zs 0 0 (fun q => B ≤ q)) G B 5 0 0 37 [some (.ref (B + r)), some (.int (nI c)), some (.int (nI k)), some (.int m), none] [] es := by
    intro hn
    have hn' : ¬ nameOk k nm = false := by rw [hn]; decide
    refine z_iload_n (pc := 37) E jd_M_member_37 rfl rfl ?_
    refine z_iconst (v := 3) (pc := 38) E jd_M_member_38 (by decide) ?_
    refine z_icmp_eq (pc := 39) (tgt := 53) E jd_M_member_39 (by decide) (fun c39 => ?_) (fun c39 => ?_)
    · have hk3 : k = 3 := ceq (b := 3) c39
      first | exact t53 es44 a' e' (fun q => q.elim hn' hs) h1 F1 | exact t53 es a e (fun q => q.elim hn' (by subst hk3; exact fun q => by cases q)) h0 Fr.rf
    · have hk3 : ¬ k = 3 := nceq (b := 3) c39
      refine z_aload_n (pc := 42) E jd_M_member_42 rfl rfl ?_
      refine z_iload_n (pc := 43) E jd_M_member_43 rfl rfl ?_
      refine z_cV1I (pc := 44) E (c_M_goodShape l G B h0 t1 hz (by omega)) jc_M_86 jv_M_goodShape rfl (by assumption) ⟨Nat.le_of_ble_eq_true rfl, Nat.le_of_ble_eq_true rfl⟩ jd_M_member_44 (Nat.le_of_ble_eq_true rfl) (by decide) (by decide) (fun v44 es44 h44 => ?_)
      obtain ⟨w44, ⟨a', e', h1⟩, F1⟩ := h44
      rw [w44]
      refine z_if_ne (pc := 47) (tgt := 53) E jd_M_member_47 (by decide) (fun c47 => ?_) (fun c47 => ?_)
      · have hs : ¬ shapeOk k sh = false := by have := b01n c47; rw [this]; decide
        first | exact t53 es44 a' e' (fun q => q.elim hn' hs) h1 F1 | exact t53 es a e (fun q => q.elim hn' (by subst hk3; exact fun q => by cases q)) h0 Fr.rf
      · exact bad es44 (Or.inr (b01 c47)) ⟨S, z, a', e', h1, t0, t1, hC⟩ F1
  refine z_aload_n (pc := 0) E jd_M_member_0 rfl rfl ?_
  refine z_iload_n (pc := 1) E jd_M_member_1 rfl rfl ?_
  refine z_cV1I (pc := 2) E (c_M_none l G B h0) jc_M_78 jv_M_none rfl (by assumption) ⟨Nat.le_of_ble_eq_true rfl, Nat.le_of_ble_eq_true rfl⟩ jd_M_member_2 (Nat.le_of_ble_eq_true rfl) (by decide) (by decide) (fun v2 es2 h2 => ?_)
  obtain ⟨w2, e2⟩ := h2
  rw [e2, w2, if_neg hcn]
  refine z_if_ne (pc := 5) (tgt := 17) E jd_M_member_5 (by decide) (fun c5 => ?_) (fun c5 => ?_)
  · exact absurd rfl c5
  · refine z_aload_n (pc := 8) E jd_M_member_8 rfl rfl ?_
    refine z_iload_n (pc := 9) E jd_M_member_9 rfl rfl ?_
    refine z_iconst (v := 4) (pc := 10) E jd_M_member_10 (by decide) ?_
    refine z_cV2I (pc := 11) E (c_M_out l G B) jc_M_54 jv_M_out rfl (by assumption) ⟨Nat.le_of_ble_eq_true rfl, Nat.le_of_ble_eq_true rfl⟩ jd_M_member_11 (Nat.le_of_ble_eq_true rfl) (by decide) (by decide) (fun v11 es11 h11 => ?_)
    obtain ⟨w11, e11⟩ := h11
    rw [e11, w11, if_neg (fun q => q.elim (nI_pos (by omega)) (fun q => absurd (cle (a := 4) q) (by omega)))]
    refine z_if_eq (pc := 14) (tgt := 19) E jd_M_member_14 (by decide) (fun c14 => ?_) (fun c14 => ?_)
    · refine z_iload_n (pc := 19) E jd_M_member_19 rfl rfl ?_
      refine z_if_eq (pc := 20) (tgt := 28) E jd_M_member_20 (by decide) (fun c20 => ?_) (fun c20 => ?_)
      · have hk0 : k = 0 := ceq (b := 0) c20
        have hk02 : k = 0 ∨ k = 2 := Or.inl hk0
        refine z_aload_n (pc := 28) E jd_M_member_28 rfl rfl ?_
        refine z_get (pc := 29) E jf_M_13 jd_M_member_29 (by assumption) (by rfl) ?_
        refine z_iconst (v := 0) (pc := 32) E jd_M_member_32 (by decide) ?_
        refine z_iald (ti := 1) (pc := 33) E rfl jd_M_member_33 (by assumption) (vp_in_nI (n := 0) (by omega) (by omega)) ?_
        refine z_topi (y := nI nm.length) t0.1 ?_
        refine z_if_eq (pc := 34) (tgt := 50) E jd_M_member_34 (by decide) (fun c34 => ?_) (fun c34 => ?_)
        · exact bad es (Or.inl (by have := nm0 c34 hl; subst this; simp [nameOk]; omega)) hr Fr.rf
        · have hn : nameOk k nm = true := by have := nceq (b := 0) c34; simp [nameOk]; omega
          exact t37 hn
      · refine z_iload_n (pc := 23) E jd_M_member_23 rfl rfl ?_
        refine z_iconst (v := 2) (pc := 24) E jd_M_member_24 (by decide) ?_
        refine z_icmp_ne (pc := 25) (tgt := 37) E jd_M_member_25 (by decide) (fun c25 => ?_) (fun c25 => ?_)
        · have hn : nameOk k nm = true := by have q1 := nceq (b := 0) c20; have q2 := nceq (b := 2) c25; simp [nameOk]; omega
          exact t37 hn
        · have hk02 : k = 0 ∨ k = 2 := Or.inr (ceq (b := 2) c25)
          refine z_aload_n (pc := 28) E jd_M_member_28 rfl rfl ?_
          refine z_get (pc := 29) E jf_M_13 jd_M_member_29 (by assumption) (by rfl) ?_
          refine z_iconst (v := 0) (pc := 32) E jd_M_member_32 (by decide) ?_
          refine z_iald (ti := 1) (pc := 33) E rfl jd_M_member_33 (by assumption) (vp_in_nI (n := 0) (by omega) (by omega)) ?_
          refine z_topi (y := nI nm.length) t0.1 ?_
          refine z_if_eq (pc := 34) (tgt := 50) E jd_M_member_34 (by decide) (fun c34 => ?_) (fun c34 => ?_)
          · exact bad es (Or.inl (by have := nm0 c34 hl; subst this; simp [nameOk]; omega)) hr Fr.rf
          · have hn : nameOk k nm = true := by have := nceq (b := 0) c34; simp [nameOk]; omega
            exact t37 hn
    · exact absurd rfl c14
