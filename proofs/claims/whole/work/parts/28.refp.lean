/-! the reference: its bytes -/
def mW (S : MS) (f P : Nat → Int32) : MS := (S.1, S.2.1, S.2.2.1, S.2.2.2.1, S.2.2.2.2.1, S.2.2.2.2.2.1, S.2.2.2.2.2.2.1, S.2.2.2.2.2.2.2.1, S.2.2.2.2.2.2.2.2.1, S.2.2.2.2.2.2.2.2.2.1, f, P, S.2.2.2.2.2.2.2.2.2.2.2.2)
/-- the reference with the bytes bs and the parts P -/
def bO (G : zG) (B : Nat) (es : zE) (r : Nat) (S : MS) (P : Nat → Int32) (a e : Int32) (bs : List Nat) : Prop := bs.length ≤ 1100 ∧ ∃ f, mO G B es r (mW S f P) (nI bs.length) a e ∧ ∀ j, j < bs.length → f j = nI (bs.getD j 0)
theorem bO.obj {G : zG} {B : Nat} {es : zE} {r : Nat} {S : MS} {P : Nat → Int32} {a e : Int32} {bs : List Nat} (h : bO G B es r S P a e bs) : es[r]? = some (.inr (7, [.ref (B + (r + 1)), .ref (B + (r + 2)), .ref (B + (r + 3)), .ref (B + (r + 4)), .ref (B + (r + 5)), .ref (B + (r + 6)), .ref (B + (r + 7)), .ref (B + (r + 8)), .ref (B + (r + 9)), .ref (B + (r + 10)), .ref (B + (r + 11)), .int (nI bs.length), .ref (B + (r + 12)), .ref (B + (r + 13)), .ref (B + (r + 14)), .int a, .int e])) := by
  obtain ⟨-, f, h, -⟩ := h
  exact h.1
theorem bO.c1 {G : zG} {B : Nat} {es : zE} {r : Nat} {S : MS} {P : Nat → Int32} {a e : Int32} {bs : List Nat} (h : bO G B es r S P a e bs) : es[r + 1]? = some (.inl (G.2.1 1, 2448, .inl S.1)) := by
  obtain ⟨-, f, h, -⟩ := h
  exact h.2.1
theorem bO.c2 {G : zG} {B : Nat} {es : zE} {r : Nat} {S : MS} {P : Nat → Int32} {a e : Int32} {bs : List Nat} (h : bO G B es r S P a e bs) : es[r + 2]? = some (.inl (G.2.1 1, 102, .inl S.2.1)) := by
  obtain ⟨-, f, h, -⟩ := h
  exact h.2.2.1
theorem bO.c4 {G : zG} {B : Nat} {es : zE} {r : Nat} {S : MS} {P : Nat → Int32} {a e : Int32} {bs : List Nat} (h : bO G B es r S P a e bs) : es[r + 4]? = some (.inl (G.2.1 1, 4, .inl S.2.2.2.1)) := by
  obtain ⟨-, f, h, -⟩ := h
  exact h.2.2.2.2.1
theorem bO.c10 {G : zG} {B : Nat} {es : zE} {r : Nat} {S : MS} {P : Nat → Int32} {a e : Int32} {bs : List Nat} (h : bO G B es r S P a e bs) : es[r + 10]? = some (.inl (G.2.1 1, 40, .inl S.2.2.2.2.2.2.2.2.2.1)) := by
  obtain ⟨-, f, h, -⟩ := h
  exact h.2.2.2.2.2.2.2.2.2.2.1
theorem bO.c12 {G : zG} {B : Nat} {es : zE} {r : Nat} {S : MS} {P : Nat → Int32} {a e : Int32} {bs : List Nat} (h : bO G B es r S P a e bs) : es[r + 12]? = some (.inl (G.2.1 1, 6, .inl P)) := by
  obtain ⟨-, f, h, -⟩ := h
  exact h.2.2.2.2.2.2.2.2.2.2.2.2.1
theorem bO.part {G : zG} {B : Nat} {es es1 : zE} {r : Nat} {S : MS} {P P' : Nat → Int32} {a e : Int32} {bs : List Nat} (h : bO G B es r S P a e bs) (he : es1 = es.set (r + 12) (.inl (G.2.1 1, 6, .inl P'))) : bO G B es1 r S P' a e bs := by
  obtain ⟨h1, f, h2, h3⟩ := h
  exact ⟨h1, f, h2.s12 he, h3⟩
set_option maxHeartbeats 4000000 in
set_option maxRecDepth 100000 in
theorem c_M_put (l : Launch) (G : zG) (B : Nat) {es : zE} {r : Nat} {S : MS} {P : Nat → Int32} {a e v : Int32} {bs : List Nat} (h : bO G B es r S P a e bs) (hl : bs.length < 1100) : Tr l G B jy_M_put jb_M_put 2 none 0 0 0 [.ref (B + r), .int v] es (pV fun es' => bO G B es' r S P a e (bs ++ [by8 v]) ∧ Fr es es' r (r + 15)) := by
  obtain ⟨h1, f, h2, h3⟩ := h
  obtain ⟨m0, a1, a2, a3, a4, a5, a6, a7, a8, a9, a10, a11, a12, a13, a14⟩ := id h2
  refine Tr.of (ls := [some (.ref (B + r)), some (.int v)]) (by decide +kernel) (Nat.le_of_ble_eq_true rfl) rfl ?_
  intro zp ze zs zm zb zt zc E
  refine z_aload_n (pc := 0) E jd_M_put_0 rfl rfl ?_
  refine z_get (pc := 1) E jf_M_42 jd_M_put_1 (by assumption) (by rfl) ?_
  refine z_aload_n (pc := 4) E jd_M_put_4 rfl rfl ?_
  refine z_get (pc := 5) E jf_M_92 jd_M_put_5 (by assumption) (by rfl) ?_
  refine z_iload_n (pc := 8) E jd_M_put_8 rfl rfl ?_
  refine z_sipush (v := 255) (pc := 9) E jd_M_put_9 (by decide) ?_
  refine z_iand (pc := 12) E jd_M_put_12 ?_
  rw [by8_255]
  refine z_iast (ti := 1) (pc := 13) E rfl jd_M_put_13 (by assumption) (vp_in_nI (by omega) (by omega)) (fun es13 he13 => ?_)
  rw [nI_clamp (by omega)] at he13
  have h4 := h2.s11 he13
  have q0 := h4.1
  refine z_aload_n (pc := 14) E jd_M_put_14 rfl rfl ?_
  refine z_dup (pc := 15) E jd_M_put_15 rfl ?_
  refine z_get (pc := 16) E jf_M_92 jd_M_put_16 (by assumption) (by rfl) ?_
  refine z_iconst (v := 1) (pc := 19) E jd_M_put_19 (by decide) ?_
  refine z_iadd (pc := 20) E jd_M_put_20 ?_
  rw [nI_1]
  refine z_put (pc := 21) E jp_M_92 jd_M_put_21 (by assumption) (Nat.le_of_ble_eq_true rfl) rfl rfl (fun es21 he21 => ?_)
  dsimp only [List.set] at he21
  have h5 := h4.s0 (z' := nI (bs.length + 1)) (a' := a) (e' := e) he21
  have FF : Fr es es21 r (r + 15) := (Fr.set he13 (by omega) (by omega)).trs (Fr.set he21 (by omega) (by omega))
  have ok : bO G B es21 r S P a e (bs ++ [by8 v]) := by
    refine ⟨by rw [List.length_append]; exact hl, upd f bs.length (nI (by8 v)), ?_, fun j hj => ?_⟩
    · rw [List.length_append]
      exact h5
    · rw [List.length_append] at hj
      have hj : j < bs.length + 1 := hj
      by_cases e : j = bs.length
      · subst e
        rw [pk_us, getD_app_r (Nat.le_refl _), Nat.sub_self]; rfl
      · rw [pk_un e, getD_app_l (by omega)]
        exact h3 j (by omega)
  exact z_vret E jd_M_put_24 ⟨rfl, ok, FF⟩
theorem sh_s32 : ∀ k, k < 4 → ((nI (8 * k) &&& 31).toBitVec.smod 32).toNat = 8 * k := by decide +kernel
theorem by8_shr (v : Int32) {k : Nat} (hk : k < 4) : by8 (v >>> (nI (8 * k) &&& 31)) = v.toBitVec.toNat / 2 ^ (8 * k) % 256 := by
  have e : (v >>> (nI (8 * k) &&& 31)).toBitVec = v.toBitVec.sshiftRight (8 * k) := by
    rw [Int32.toBitVec_shiftRight, BitVec.sshiftRight_eq', sh_s32 k hk]
  rw [by8, e]
  have e2 : (v.toBitVec.sshiftRight (8 * k)).setWidth 8 = (v.toBitVec >>> (8 * k)).setWidth 8 := by
    apply BitVec.eq_of_getLsbD_eq
    intro i hi
    rw [BitVec.getLsbD_setWidth, BitVec.getLsbD_setWidth, BitVec.getLsbD_sshiftRight, BitVec.getLsbD_ushiftRight]
    simp [show ¬ 32 ≤ i by omega, show 8 * k + i < 32 by omega]
  have e3 := congrArg BitVec.toNat e2
  rw [BitVec.toNat_setWidth, BitVec.toNat_setWidth, BitVec.toNat_ushiftRight, Nat.shiftRight_eq_div_pow] at e3
  exact e3
def numT (v : Int32) : Nat → List Nat
  | 0 => []
  | m + 1 => (v.toBitVec.toNat / 2 ^ (8 * m) % 256) :: numT v m
theorem numT_4 (v : Int32) : numT v 4 = num v := by
  simp only [numT, num]
  simp
set_option maxHeartbeats 4000000 in
set_option maxRecDepth 100000 in
theorem c_M_number (l : Launch) (G : zG) (B : Nat) {es : zE} {r : Nat} {S : MS} {P : Nat → Int32} {a e v : Int32} {bs : List Nat} (h : bO G B es r S P a e bs) (hl : bs.length + 4 ≤ 1100) : Tr l G B jy_M_number jb_M_number 3 none 1 0 0 [.ref (B + r), .int v] es (pV fun es' => bO G B es' r S P a e (bs ++ num v) ∧ Fr es es' r (r + 15)) := by
  refine Tr.of (ls := [some (.ref (B + r)), some (.int v), none]) (by decide +kernel) (Nat.le_of_ble_eq_true rfl) rfl ?_
  intro zp ze zs zm zb zt zc E
  have loop : ∀ (m : Nat) (bs1 : List Nat) (es1 : zE), m ≤ 4 → bs1.length + m ≤ 1100 → bs1 ++ numT v m = bs ++ num v → bO G B es1 r S P a e bs1 → Fr es es1 r (r + 15) → Zj zp l ze (zr 1 0 0) zs zm ([.ref (B + r), .int v] : List Value).toArray zb zt zc (MQ zb (zQ G B (pV fun es' => bO G B es' r S P a e (bs ++ num v) ∧ Fr es es' r (r + 15))) ([.ref (B + r), .int v] : List Value).toArray zs 0 0 (fun q => B ≤ q)) G B 3 0 0 3 [some (.ref (B + r)), some (.int v), some (.int (shf m))] [] es1 := by
    intro m
    induction m with
    | zero =>
      intro bs1 es1 hm hl1 he h1 F1
      rw [numT, List.append_nil] at he
      subst he
      refine z_iload_n (pc := 3) E jd_M_number_3 rfl rfl ?_
      refine z_if_lt (pc := 4) (tgt := 20) E jd_M_number_4 (by decide) (fun c4 => ?_) (fun c4 => ?_)
      · exact z_vret E jd_M_number_20 ⟨rfl, h1, F1⟩
      · exact absurd (by decide) c4
    | succ m ih =>
      intro bs1 es1 hm hl1 he h1 F1
      have m0 := h1.obj
      obtain ⟨s1, s2, s3⟩ := shf_s m (by omega)
      rw [numT] at he
      refine z_iload_n (pc := 3) E jd_M_number_3 rfl rfl ?_
      refine z_if_lt (pc := 4) (tgt := 20) E jd_M_number_4 (by decide) (fun c4 => ?_) (fun c4 => ?_)
      · exact absurd c4 s3
      · refine z_aload_n (pc := 7) E jd_M_number_7 rfl rfl ?_
        refine z_iload_n (pc := 8) E jd_M_number_8 rfl rfl ?_
        refine z_iload_n (pc := 9) E jd_M_number_9 rfl rfl ?_
        refine z_ishr (pc := 10) E jd_M_number_10 ?_
        rw [s1]
        refine z_cV1V (pc := 11) E (c_M_put l G B h1 (by omega)) jc_M_95 jv_M_put rfl (by assumption) ⟨Nat.le_of_ble_eq_true rfl, Nat.le_of_ble_eq_true rfl⟩ jd_M_number_11 (Nat.le_of_ble_eq_true rfl) (by decide) (by decide) (fun es11 h11 => ?_)
        obtain ⟨h2, F2⟩ := h11
        rw [by8_shr v (by omega)] at h2
        refine z_iinc (pc := 14) E jd_M_number_14 rfl rfl (by decide) rfl ?_
        dsimp only [List.set]
        refine z_goto (pc := 17) (tgt := 3) E jd_M_number_17 (by decide) ?_
        rw [← s1, s2]
        exact ih _ es11 (by omega) (by rw [List.length_append, List.length_singleton]; omega) (by rw [List.append_assoc]; exact he) h2 (F1.trs F2)
  refine z_bipush (v := 24) (pc := 0) E jd_M_number_0 (by decide) ?_
  refine z_istore_n (pc := 2) E jd_M_number_2 rfl (by decide) rfl ?_
  dsimp only [List.set]
  exact loop 4 bs es (by omega) hl (by rw [numT_4]) h Fr.rf
def utg (b : Bool) (xs : List Nat) : List Nat := 0 :: xs.length :: xs.map fun c => if b = true then dot c else c
theorem utg_f (xs : List Nat) : utg false xs = ut xs := by
  simp [utg, ut]
theorem utg_t (xs : List Nat) : utg true xs = utd xs := by
  simp [utg, utd]
set_option maxHeartbeats 4000000 in
set_option maxRecDepth 100000 in
theorem c_M_utf (l : Launch) (G : zG) (B : Nat) {es : zE} {r t : Nat} {S : MS} {P : Nat → Int32} {a e y : Int32} {bs xs : List Nat} (b : Bool) (h : bO G B es r S P a e bs) (hx : rt S t xs) (ht : t < 102) (hy : y = 0 ↔ b = false) (hl : bs.length + (xs.length + 2) ≤ 1100) : Tr l G B jy_M_utf jb_M_utf 5 none 1 0 0 [.ref (B + r), .int (nI t), .int y] es (pV fun es' => bO G B es' r S P a e (bs ++ utg b xs) ∧ Fr es es' r (r + 15)) := by
  have m0 := h.obj
  have k1 := h.c1
  have k2 := h.c2
  have l1 := hx.2.1
  have l4 := hx.2.2.2
  refine Tr.of (ls := [some (.ref (B + r)), some (.int (nI t)), some (.int y), none, none]) (by decide +kernel) (Nat.le_of_ble_eq_true rfl) rfl ?_
  intro zp ze zs zm zb zt zc E
  have loop : ∀ (f i : Nat) (b4 : Option Value) (bs1 : List Nat) (es1 : zE), i + f = xs.length → bs1 = bs ++ 0 :: xs.length :: ((xs.take i).map fun c => if b = true then dot c else c) → bO G B es1 r S P a e bs1 → Fr es es1 r (r + 15) → Zj zp l ze (zr 1 0 0) zs zm ([.ref (B + r), .int (nI t), .int y] : List Value).toArray zb zt zc (MQ zb (zQ G B (pV fun es' => bO G B es' r S P a e (bs ++ utg b xs) ∧ Fr es es' r (r + 15))) ([.ref (B + r), .int (nI t), .int y] : List Value).toArray zs 0 0 (fun q => B ≤ q)) G B 5 0 0 17 [some (.ref (B + r)), some (.int (nI t)), some (.int y), some (.int (nI i)), b4] [] es1 := by
    intro f
    induction f with
    | zero =>
      intro i b4 bs1 es1 hi he h1 F1
      have hi : i = xs.length := by omega
      subst hi
      have m0 := h1.obj
      have k2 := h1.c2
      rw [List.take_of_length_le (Nat.le_refl _)] at he
      refine z_iload_n (pc := 17) E jd_M_utf_17 rfl rfl ?_
      refine z_aload_n (pc := 18) E jd_M_utf_18 rfl rfl ?_
      refine z_get (pc := 19) E jf_M_13 jd_M_utf_19 (by assumption) (by rfl) ?_
      refine z_iload_n (pc := 22) E jd_M_utf_22 rfl rfl ?_
      refine z_iald (ti := 1) (pc := 23) E rfl jd_M_utf_23 (by assumption) (vp_in_nI (by omega) (by omega)) ?_
      rw [nI_clamp (by omega), hx.1]
      refine z_icmp_ge (pc := 24) (tgt := 68) E jd_M_utf_24 (by decide) (fun c24 => ?_) (fun c24 => ?_)
      · exact z_vret E jd_M_utf_68 ⟨rfl, by rw [he] at h1; exact h1, F1⟩
      · exact absurd ((nI_leI (by omega) (by omega)).mpr (Nat.le_refl _)) c24
    | succ f ih =>
      intro i b4 bs1 es1 hi he h1 F1
      have m0 := h1.obj
      have k1 := h1.c1
      have k2 := h1.c2
      have hlt := getD_lt (j := i) l4
      have hbl : bs1.length = bs.length + (i + 2) := by
        rw [he, List.length_append, List.length_cons, List.length_cons, List.length_map, List.length_take]; omega
      have put : ∀ w : Nat, w < 128 → w = (if b = true then dot (xs.getD i 0) else xs.getD i 0) → Zj zp l ze (zr 1 0 0) zs zm ([.ref (B + r), .int (nI t), .int y] : List Value).toArray zb zt zc (MQ zb (zQ G B (pV fun es' => bO G B es' r S P a e (bs ++ utg b xs) ∧ Fr es es' r (r + 15))) ([.ref (B + r), .int (nI t), .int y] : List Value).toArray zs 0 0 (fun q => B ≤ q)) G B 5 0 0 59 [some (.ref (B + r)), some (.int (nI t)), some (.int y), some (.int (nI i)), some (.int (nI (xs.getD i 0)))] [.int (nI w), .ref (B + r)] es1 := by
        intro w hw hwe
        refine z_cV1V (pc := 59) E (c_M_put l G B h1 (by omega)) jc_M_95 jv_M_put rfl (by assumption) ⟨Nat.le_of_ble_eq_true rfl, Nat.le_of_ble_eq_true rfl⟩ jd_M_utf_59 (Nat.le_of_ble_eq_true rfl) (by decide) (by decide) (fun es59 h59 => ?_)
        obtain ⟨h2, F2⟩ := h59
        rw [by8_nI (by omega)] at h2
        refine z_iinc (pc := 62) E jd_M_utf_62 rfl rfl (by decide) rfl ?_
        dsimp only [List.set]
        refine z_goto (pc := 65) (tgt := 17) E jd_M_utf_65 (by decide) ?_
        have := ih (i + 1) (some (.int (nI (xs.getD i 0)))) _ es59 (by omega) ?_ h2 (F1.trs F2)
        · rw [nI_succ i] at this
          exact this
        · rw [he, take_succ_getD (by omega), List.map_append, hwe]
          simp
      refine z_iload_n (pc := 17) E jd_M_utf_17 rfl rfl ?_
      refine z_aload_n (pc := 18) E jd_M_utf_18 rfl rfl ?_
      refine z_get (pc := 19) E jf_M_13 jd_M_utf_19 (by assumption) (by rfl) ?_
      refine z_iload_n (pc := 22) E jd_M_utf_22 rfl rfl ?_
      refine z_iald (ti := 1) (pc := 23) E rfl jd_M_utf_23 (by assumption) (vp_in_nI (by omega) (by omega)) ?_
      rw [nI_clamp (by omega), hx.1]
      refine z_icmp_ge (pc := 24) (tgt := 68) E jd_M_utf_24 (by decide) (fun c24 => ?_) (fun c24 => ?_)
      · exact absurd ((nI_leI (by omega) (by omega)).mp c24) (by omega)
      · refine z_aload_n (pc := 27) E jd_M_utf_27 rfl rfl ?_
        refine z_get (pc := 28) E jf_M_7 jd_M_utf_28 (by assumption) (by rfl) ?_
        refine z_bipush (v := 24) (pc := 31) E jd_M_utf_31 (by decide) ?_
        refine z_iload_n (pc := 33) E jd_M_utf_33 rfl rfl ?_
        refine z_imul (pc := 34) E jd_M_utf_34 ?_
        refine z_topi (y := nI (24 * t)) (pk_mul 24 t) ?_
        refine z_iload_n (pc := 35) E jd_M_utf_35 rfl rfl ?_
        refine z_iadd (pc := 36) E jd_M_utf_36 ?_
        rw [nI_add]
        refine z_iald (ti := 1) (pc := 37) E rfl jd_M_utf_37 (by assumption) (vp_in_nI (by omega) (by omega)) ?_
        rw [nI_clamp (by omega), hx.2.2.1 i (by omega)]
        refine z_istore (pc := 38) E jd_M_utf_38 (by decide) rfl ?_
        dsimp only [List.set]
        refine z_aload_n (pc := 40) E jd_M_utf_40 rfl rfl ?_
        refine z_iload_n (pc := 41) E jd_M_utf_41 rfl rfl ?_
        refine z_if_eq (pc := 42) (tgt := 57) E jd_M_utf_42 (by decide) (fun c42 => ?_) (fun c42 => ?_)
        · have hb := hy.mp c42
          refine z_iload (pc := 57) E jd_M_utf_57 rfl ?_
          first | exact put 46 (by omega) (by rw [if_pos hb, dot, if_pos h47]) | exact put _ hlt (by rw [if_pos hb, dot, if_neg h47]) | exact put _ hlt (by rw [hb, if_neg (by decide)])
        · have hb : b = true := by cases hq : b with | true => rfl | false => exact absurd (hy.mpr hq) c42
          refine z_iload (pc := 45) E jd_M_utf_45 rfl ?_
          refine z_bipush (v := 47) (pc := 47) E jd_M_utf_47 (by decide) ?_
          refine z_icmp_ne (pc := 49) (tgt := 57) E jd_M_utf_49 (by decide) (fun c49 => ?_) (fun c49 => ?_)
          · have h47 := nceq (b := 47) c49
            refine z_iload (pc := 57) E jd_M_utf_57 rfl ?_
            first | exact put 46 (by omega) (by rw [if_pos hb, dot, if_pos h47]) | exact put _ hlt (by rw [if_pos hb, dot, if_neg h47]) | exact put _ hlt (by rw [hb, if_neg (by decide)])
          · have h47 := ceq (b := 47) c49
            refine z_bipush (v := 46) (pc := 52) E jd_M_utf_52 (by decide) ?_
            refine z_goto (pc := 54) (tgt := 59) E jd_M_utf_54 (by decide) ?_
            first | exact put 46 (by omega) (by rw [if_pos hb, dot, if_pos h47]) | exact put _ hlt (by rw [if_pos hb, dot, if_neg h47]) | exact put _ hlt (by rw [hb, if_neg (by decide)])
  refine z_aload_n (pc := 0) E jd_M_utf_0 rfl rfl ?_
  refine z_iconst (v := 0) (pc := 1) E jd_M_utf_1 (by decide) ?_
  refine z_cV1V (pc := 2) E (c_M_put l G B h (by omega)) jc_M_95 jv_M_put rfl (by assumption) ⟨Nat.le_of_ble_eq_true rfl, Nat.le_of_ble_eq_true rfl⟩ jd_M_utf_2 (Nat.le_of_ble_eq_true rfl) (by decide) (by decide) (fun es2 h2 => ?_)
  obtain ⟨h2, F2⟩ := h2
  rw [show by8 0 = 0 from rfl] at h2
  have m1 := h2.obj
  have k1 := h2.c1
  have k2 := h2.c2
  refine z_aload_n (pc := 5) E jd_M_utf_5 rfl rfl ?_
  refine z_aload_n (pc := 6) E jd_M_utf_6 rfl rfl ?_
  refine z_get (pc := 7) E jf_M_13 jd_M_utf_7 (by assumption) (by rfl) ?_
  refine z_iload_n (pc := 10) E jd_M_utf_10 rfl rfl ?_
  refine z_iald (ti := 1) (pc := 11) E rfl jd_M_utf_11 (by assumption) (vp_in_nI (by omega) (by omega)) ?_
  rw [nI_clamp (by omega), hx.1]
  refine z_cV1V (pc := 12) E (c_M_put l G B h2 (by rw [List.length_append, List.length_singleton]; omega)) jc_M_95 jv_M_put rfl (by assumption) ⟨Nat.le_of_ble_eq_true rfl, Nat.le_of_ble_eq_true rfl⟩ jd_M_utf_12 (Nat.le_of_ble_eq_true rfl) (by decide) (by decide) (fun es12 h12 => ?_)
  obtain ⟨h3, F3⟩ := h12
  rw [by8_nI (by omega)] at h3
  refine z_iconst (v := 0) (pc := 15) E jd_M_utf_15 (by decide) ?_
  refine z_istore_n (pc := 16) E jd_M_utf_16 rfl (by decide) rfl ?_
  dsimp only [List.set]
  exact loop xs.length 0 none _ es12 (by omega) (by simp) h3 (F2.trs F3)
