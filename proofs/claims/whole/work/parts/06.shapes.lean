/-! which texts are shapes -/
def simpleC (c : Nat) : Bool := c == 66 || c == 67 || c == 68 || c == 70 || c == 73 || c == 74 || c == 83 || c == 90
def mayC (c : Nat) : Bool := !(c == 59 || c == 91 || c == 40 || c == 41 || c == 46)
/-- behind the brackets, at most f of them -/
def brk (xs : List Nat) : Nat → Nat → Nat
  | 0, i => i
  | f + 1, i => if xs.getD i 0 = 91 then brk xs f (i + 1) else i
/-- behind the signs of a name -/
def eonA (xs : List Nat) : Nat → Nat → Nat
  | 0, i => i
  | f + 1, i => if mayC (xs.getD i 0) = true then eonA xs f (i + 1) else i
def eon (xs : List Nat) (i : Nat) : Option Nat := if i < eonA xs (xs.length - i) i ∧ xs.getD (eonA xs (xs.length - i) i) 0 = 59 then some (eonA xs (xs.length - i) i + 1) else none
/-- behind the type that begins at i -/
def eot (xs : List Nat) (i : Nat) : Option Nat := if xs.getD (brk xs 3 i) 0 = 76 then eon xs (brk xs 3 i + 1) else if simpleC (xs.getD (brk xs 3 i) 0) = true then some (brk xs 3 i + 1) else none
/-- the place of the ) behind types -/
def ets (xs : List Nat) : Nat → Nat → Option Nat
  | 0, _ => none
  | f + 1, i => if xs.getD i 0 = 41 then some i else match eot xs i with
    | none => none
    | some j => ets xs f j
/-- 0: no method shape; 1: one that ends in V; 2: one that ends in a type -/
def shM (xs : List Nat) : Nat := if xs.getD 0 0 = 40 then (match ets xs 24 1 with
  | none => 0
  | some c => if xs.getD (c + 1) 0 = 86 then (if c + 2 = xs.length then 1 else 0) else if eot xs (c + 1) = some xs.length then 2 else 0) else 0
def oI : Option Nat → Int32
  | none => -1
  | some j => nI j
theorem brk_ge (xs : List Nat) : ∀ f i, i ≤ brk xs f i ∧ brk xs f i ≤ i + f
  | 0, i => ⟨Nat.le_refl _, Nat.le_refl _⟩
  | f + 1, i => by
    rw [brk]
    split
    · have := brk_ge xs f (i + 1); omega
    · omega
theorem eonA_ge (xs : List Nat) : ∀ f i, i ≤ eonA xs f i ∧ eonA xs f i ≤ i + f
  | 0, i => ⟨Nat.le_refl _, Nat.le_refl _⟩
  | f + 1, i => by
    rw [eonA]
    split
    · have := eonA_ge xs f (i + 1); omega
    · omega
theorem eon_lt {xs : List Nat} {i j : Nat} (h : eon xs i = some j) : i + 1 < j ∧ j ≤ xs.length ∧ xs.getD (j - 1) 0 = 59 := by
  unfold eon at h
  split at h
  · rename_i hc
    cases h
    refine ⟨by omega, ?_, hc.2⟩
    apply Nat.lt_of_not_le
    intro q
    have := hc.2
    rw [getD_oob (by omega)] at this
    cases this
  · cases h
theorem eot_lt {xs : List Nat} {i j : Nat} (h : eot xs i = some j) : i < j ∧ j ≤ xs.length ∧ xs.getD (j - 1) 0 ≠ 86 := by
  have hb := brk_ge xs 3 i
  unfold eot at h
  split at h
  · have := eon_lt h
    refine ⟨by omega, this.2.1, ?_⟩
    rw [this.2.2]; decide
  · split at h
    · rename_i hs
      cases h
      refine ⟨by omega, ?_, ?_⟩
      · apply Nat.lt_of_not_le
        intro q
        rw [getD_oob (by omega)] at hs
        cases hs
      · intro q
        rw [Nat.add_sub_cancel] at q
        rw [q] at hs
        cases hs
    · cases h
theorem sw_simple : ∀ c, c < 128 → (((nI c).toInt < 66 ∨ 90 < (nI c).toInt) ∧ simpleC c = false) ∨ (¬ (nI c).toInt < 66 ∧ ¬ 90 < (nI c).toInt ∧ (#[115, 115, 115, 117, 115, 117, 117, 115, 115, 117, 117, 117, 117, 117, 117, 117, 117, 115, 117, 117, 117, 117, 117, 117, 115] : Array Int)[((nI c).toInt - 66).toNat]? = some (if simpleC c = true then 115 else 117)) := by decide +kernel
set_option maxHeartbeats 4000000 in
set_option maxRecDepth 100000 in
theorem c_H_isSimple (l : Launch) (G : zG) (B : Nat) {es : zE} {c : Nat} (hc : c < 128) : Tr l G B jy_H_isSimple jb_H_isSimple 1 (some .boolean) 0 0 0 [.int (nI c)] es (pI fun v es' => v = (if simpleC c = true then 1 else 0) ∧ es' = es) := by
  refine Tr.of (ls := [some (.int (nI c))]) (by decide +kernel) (Nat.le_of_ble_eq_true rfl) rfl ?_
  intro zp ze zs zm zb zt zc E
  refine z_iload_n (pc := 0) E jd_H_isSimple_0 rfl rfl ?_
  rcases sw_simple c hc with ⟨h, hs⟩ | ⟨h1, h2, h3⟩
  · refine z_tableOut (pc := 1) (tgt := 118) E jd_H_isSimple_1 h (by decide) ?_
    rw [hs]
    refine z_iconst (v := 0) (pc := 118) E jd_H_isSimple_118 (by decide) ?_
    exact z_zret E rfl jd_H_isSimple_119 ⟨_, rfl, rfl, rfl⟩
  · cases hs : simpleC c with
    | true =>
      rw [hs] at h3
      refine z_tableIn (pc := 1) (tgt := 116) E jd_H_isSimple_1 h1 h2 h3 (by decide) ?_
      refine z_iconst (v := 1) (pc := 116) E jd_H_isSimple_116 (by decide) ?_
      exact z_zret E rfl jd_H_isSimple_117 ⟨_, rfl, rfl, rfl⟩
    | false =>
      rw [hs] at h3
      refine z_tableIn (pc := 1) (tgt := 118) E jd_H_isSimple_1 h1 h2 h3 (by decide) ?_
      refine z_iconst (v := 0) (pc := 118) E jd_H_isSimple_118 (by decide) ?_
      exact z_zret E rfl jd_H_isSimple_119 ⟨_, rfl, rfl, rfl⟩
theorem may_f {c : Nat} (h : c = 59 ∨ c = 91 ∨ c = 40 ∨ c = 41 ∨ c = 46) : mayC c = false := by
  rcases h with rfl | rfl | rfl | rfl | rfl <;> rfl
theorem may_t {c : Nat} (h1 : c ≠ 59) (h2 : c ≠ 91) (h3 : c ≠ 40) (h4 : c ≠ 41) (h5 : c ≠ 46) : mayC c = true := by
  simp [mayC, h1, h2, h3, h4, h5]
set_option maxHeartbeats 4000000 in
set_option maxRecDepth 100000 in
theorem c_H_mayStandInName (l : Launch) (G : zG) (B : Nat) {es : zE} {c : Nat} (hc : c < 128) : Tr l G B jy_H_mayStandInName jb_H_mayStandInName 1 (some .boolean) 0 0 0 [.int (nI c)] es (pI fun v es' => v = (if mayC c = true then 1 else 0) ∧ es' = es) := by
  refine Tr.of (ls := [some (.int (nI c))]) (by decide +kernel) (Nat.le_of_ble_eq_true rfl) rfl ?_
  intro zp ze zs zm zb zt zc E
  refine z_iload_n (pc := 0) E jd_H_mayStandInName_0 rfl rfl ?_
  refine z_bipush (v := 59) (pc := 1) E jd_H_mayStandInName_1 (by decide) ?_
  refine z_icmp_eq (pc := 3) (tgt := 34) E jd_H_mayStandInName_3 (by decide) (fun c3 => ?_) (fun c3 => ?_)
  · have hm : mayC c = false := may_f (by have := ceq (b := 59) c3; omega)
    refine z_iconst (v := 0) (pc := 34) E jd_H_mayStandInName_34 (by decide) ?_
    exact z_zret E rfl jd_H_mayStandInName_35 ⟨_, rfl, by rw [hm]; rfl, rfl⟩
  · refine z_iload_n (pc := 6) E jd_H_mayStandInName_6 rfl rfl ?_
    refine z_bipush (v := 91) (pc := 7) E jd_H_mayStandInName_7 (by decide) ?_
    refine z_icmp_eq (pc := 9) (tgt := 34) E jd_H_mayStandInName_9 (by decide) (fun c9 => ?_) (fun c9 => ?_)
    · have hm : mayC c = false := may_f (by have := ceq (b := 91) c9; omega)
      refine z_iconst (v := 0) (pc := 34) E jd_H_mayStandInName_34 (by decide) ?_
      exact z_zret E rfl jd_H_mayStandInName_35 ⟨_, rfl, by rw [hm]; rfl, rfl⟩
    · refine z_iload_n (pc := 12) E jd_H_mayStandInName_12 rfl rfl ?_
      refine z_bipush (v := 40) (pc := 13) E jd_H_mayStandInName_13 (by decide) ?_
      refine z_icmp_eq (pc := 15) (tgt := 34) E jd_H_mayStandInName_15 (by decide) (fun c15 => ?_) (fun c15 => ?_)
      · have hm : mayC c = false := may_f (by have := ceq (b := 40) c15; omega)
        refine z_iconst (v := 0) (pc := 34) E jd_H_mayStandInName_34 (by decide) ?_
        exact z_zret E rfl jd_H_mayStandInName_35 ⟨_, rfl, by rw [hm]; rfl, rfl⟩
      · refine z_iload_n (pc := 18) E jd_H_mayStandInName_18 rfl rfl ?_
        refine z_bipush (v := 41) (pc := 19) E jd_H_mayStandInName_19 (by decide) ?_
        refine z_icmp_eq (pc := 21) (tgt := 34) E jd_H_mayStandInName_21 (by decide) (fun c21 => ?_) (fun c21 => ?_)
        · have hm : mayC c = false := may_f (by have := ceq (b := 41) c21; omega)
          refine z_iconst (v := 0) (pc := 34) E jd_H_mayStandInName_34 (by decide) ?_
          exact z_zret E rfl jd_H_mayStandInName_35 ⟨_, rfl, by rw [hm]; rfl, rfl⟩
        · refine z_iload_n (pc := 24) E jd_H_mayStandInName_24 rfl rfl ?_
          refine z_bipush (v := 46) (pc := 25) E jd_H_mayStandInName_25 (by decide) ?_
          refine z_icmp_eq (pc := 27) (tgt := 34) E jd_H_mayStandInName_27 (by decide) (fun c27 => ?_) (fun c27 => ?_)
          · have hm : mayC c = false := may_f (by have := ceq (b := 46) c27; omega)
            refine z_iconst (v := 0) (pc := 34) E jd_H_mayStandInName_34 (by decide) ?_
            exact z_zret E rfl jd_H_mayStandInName_35 ⟨_, rfl, by rw [hm]; rfl, rfl⟩
          · have hm : mayC c = true := may_t (nceq (b := 59) c3) (nceq (b := 91) c9) (nceq (b := 40) c15) (nceq (b := 41) c21) (nceq (b := 46) c27)
            refine z_iconst (v := 1) (pc := 30) E jd_H_mayStandInName_30 (by decide) ?_
            refine z_goto (pc := 31) (tgt := 35) E jd_H_mayStandInName_31 (by decide) ?_
            exact z_zret E rfl jd_H_mayStandInName_35 ⟨_, rfl, by rw [hm]; rfl, rfl⟩
set_option maxHeartbeats 4000000 in
set_option maxRecDepth 100000 in
theorem c_H_endOfName (l : Launch) (G : zG) (B : Nat) {es : zE} {p i : Nat} {xs : List Nat} (h : tx G B es p xs) (hi : i < 100) : Tr l G B jy_H_endOfName jb_H_endOfName 3 (some .int) 1 0 0 [.ref (B + p), .int (nI i)] es (pI fun v es' => v = oI (eon xs i) ∧ es' = es) := by
  have hx := h
  obtain ⟨f, h1, h2, h3, h4, h5⟩ := h
  refine Tr.of (ls := [some (.ref (B + p)), some (.int (nI i)), none]) (by decide +kernel) (Nat.le_of_ble_eq_true rfl) rfl ?_
  intro zp ze zs zm zb zt zc E
  have tail : ∀ a : Nat, a = eonA xs (xs.length - i) i → Zj zp l ze (zr 1 0 0) zs zm ([.ref (B + p), .int (nI i)] : List Value).toArray zb zt zc (MQ zb (zQ G B (pI fun v es' => v = oI (eon xs i) ∧ es' = es)) ([.ref (B + p), .int (nI i)] : List Value).toArray zs 0 0 (fun q => B ≤ q)) G B 3 0 0 27 [some (.ref (B + p)), some (.int (nI i)), some (.int (nI a))] [] es := by
    intro a ha
    have hg := eonA_ge xs (xs.length - i) i
    refine z_iload_n (pc := 27) E jd_H_endOfName_27 rfl rfl ?_
    refine z_iload_n (pc := 28) E jd_H_endOfName_28 rfl rfl ?_
    refine z_icmp_le (pc := 29) (tgt := 48) E jd_H_endOfName_29 (by decide) (fun c29 => ?_) (fun c29 => ?_)
    · have hr : eon xs i = none := by rw [eon, if_neg]; rw [← ha]; have := cle c29; omega
      refine z_iconst (v := -1) (pc := 48) E jd_H_endOfName_48 (by decide) ?_
      exact z_iret E jd_H_endOfName_49 ⟨_, rfl, by rw [hr]; first | rfl | exact nI_1 a, rfl⟩
    · refine z_aload_n (pc := 32) E jd_H_endOfName_32 rfl rfl ?_
      refine z_iload_n (pc := 33) E jd_H_endOfName_33 rfl rfl ?_
      refine z_cV1I (pc := 34) E (c_T_at l G B hx) jc_H_21 jv_T_at rfl (by assumption) ⟨by decide, by decide⟩ jd_H_endOfName_34 (by decide) (by decide) (by decide) (fun v34 es34 h34 => ?_)
      obtain ⟨w34, e34⟩ := h34
      rw [e34, w34, tat_nI (by omega)]
      refine z_bipush (v := 59) (pc := 37) E jd_H_endOfName_37 (by decide) ?_
      refine z_icmp_ne (pc := 39) (tgt := 48) E jd_H_endOfName_39 (by decide) (fun c39 => ?_) (fun c39 => ?_)
      · have hr : eon xs i = none := by rw [eon, if_neg]; rw [← ha]; exact fun q => c39 (by rw [q.2]; rfl)
        refine z_iconst (v := -1) (pc := 48) E jd_H_endOfName_48 (by decide) ?_
        exact z_iret E jd_H_endOfName_49 ⟨_, rfl, by rw [hr]; first | rfl | exact nI_1 a, rfl⟩
      · have hr : eon xs i = some (a + 1) := by
          have h6 := ncle c29
          have h7 : xs.getD a 0 = 59 := ceq (b := 59) c39 (by have := getD_lt (j := a) h5; omega)
          rw [eon, ← ha, if_pos ⟨h6, h7⟩]
        refine z_iload_n (pc := 42) E jd_H_endOfName_42 rfl rfl ?_
        refine z_iconst (v := 1) (pc := 43) E jd_H_endOfName_43 (by decide) ?_
        refine z_iadd (pc := 44) E jd_H_endOfName_44 ?_
        refine z_goto (pc := 45) (tgt := 49) E jd_H_endOfName_45 (by decide) ?_
        exact z_iret E jd_H_endOfName_49 ⟨_, rfl, by rw [hr]; first | rfl | exact nI_1 a, rfl⟩
  have loop : ∀ (n a : Nat), i ≤ a → n = xs.length - a → eonA xs n a = eonA xs (xs.length - i) i → Zj zp l ze (zr 1 0 0) zs zm ([.ref (B + p), .int (nI i)] : List Value).toArray zb zt zc (MQ zb (zQ G B (pI fun v es' => v = oI (eon xs i) ∧ es' = es)) ([.ref (B + p), .int (nI i)] : List Value).toArray zs 0 0 (fun q => B ≤ q)) G B 3 0 0 2 [some (.ref (B + p)), some (.int (nI i)), some (.int (nI a))] [] es := by
    intro n
    induction n with
    | zero =>
      intro a hia hn he
      refine z_iload_n (pc := 2) E jd_H_endOfName_2 rfl rfl ?_
      refine z_aload_n (pc := 3) E jd_H_endOfName_3 rfl rfl ?_
      refine z_get (pc := 4) E jf_H_15 jd_H_endOfName_4 (by assumption) (by rfl) ?_
      have ha : a < 2 ^ 30 := by have := eonA_ge xs (xs.length - i) i; have h0 : a = eonA xs (xs.length - i) i := he; omega
      refine z_icmp_ge (pc := 7) (tgt := 27) E jd_H_endOfName_7 (by decide) (fun c7 => ?_) (fun c7 => ?_)
      · exact tail a he
      · exact absurd (nI_le (by omega) (by omega)) c7
    | succ n ih =>
      intro a hia hn he
      rw [eonA] at he
      refine z_iload_n (pc := 2) E jd_H_endOfName_2 rfl rfl ?_
      refine z_aload_n (pc := 3) E jd_H_endOfName_3 rfl rfl ?_
      refine z_get (pc := 4) E jf_H_15 jd_H_endOfName_4 (by assumption) (by rfl) ?_
      refine z_icmp_ge (pc := 7) (tgt := 27) E jd_H_endOfName_7 (by decide) (fun c7 => ?_) (fun c7 => ?_)
      · exact absurd (cle c7) (by omega)
      · refine z_aload_n (pc := 10) E jd_H_endOfName_10 rfl rfl ?_
        refine z_iload_n (pc := 11) E jd_H_endOfName_11 rfl rfl ?_
        refine z_cV1I (pc := 12) E (c_T_at l G B hx) jc_H_21 jv_T_at rfl (by assumption) ⟨by decide, by decide⟩ jd_H_endOfName_12 (by decide) (by decide) (by decide) (fun v12 es12 h12 => ?_)
        obtain ⟨w12, e12⟩ := h12
        rw [e12, w12, tat_nI (by omega)]
        refine z_cS1I (pc := 15) E (c_H_mayStandInName l G B (getD_lt h5)) jc_H_35 js_H_mayStandInName ⟨by decide, by decide⟩ jd_H_endOfName_15 (by decide) (by decide) (by decide) (fun v15 es15 h15 => ?_)
        obtain ⟨w15, e15⟩ := h15
        rw [e15, w15]
        refine z_if_eq (pc := 18) (tgt := 27) E jd_H_endOfName_18 (by decide) (fun c18 => ?_) (fun c18 => ?_)
        · have hm : ¬ mayC (xs.getD a 0) = true := fun q => by rw [if_pos q] at c18; exact absurd c18 (by decide)
          rw [if_neg hm] at he
          exact tail a he
        · have hm : mayC (xs.getD a 0) = true := by
            cases hb : mayC (xs.getD a 0) with
            | true => rfl
            | false => rw [hb] at c18; exact absurd rfl c18
          rw [if_pos hm] at he
          refine z_iinc (pc := 21) E jd_H_endOfName_21 rfl rfl (by decide) rfl ?_
          dsimp only [List.set]
          refine z_goto (pc := 24) (tgt := 2) E jd_H_endOfName_24 (by decide) ?_
          have := ih (a + 1) (by omega) (by omega) he
          rw [nI_succ] at this
          exact this
  refine z_iload_n (pc := 0) E jd_H_endOfName_0 rfl rfl ?_
  refine z_istore_n (pc := 1) E jd_H_endOfName_1 rfl (by decide) rfl ?_
  dsimp only [List.set]
  exact loop (xs.length - i) i (Nat.le_refl _) rfl rfl
set_option maxHeartbeats 4000000 in
set_option maxRecDepth 100000 in
theorem c_H_endOfType (l : Launch) (G : zG) (B : Nat) {es : zE} {p i : Nat} {xs : List Nat} (h : tx G B es p xs) (hi : i < 50) : Tr l G B jy_H_endOfType jb_H_endOfType 3 (some .int) 2 0 0 [.ref (B + p), .int (nI i)] es (pI fun v es' => v = oI (eot xs i) ∧ es' = es) := by
  have hx := h
  obtain ⟨f, h1, h2, h3, h4, h5⟩ := h
  refine Tr.of (ls := [some (.ref (B + p)), some (.int (nI i)), none]) (by decide +kernel) (Nat.le_of_ble_eq_true rfl) rfl ?_
  intro zp ze zs zm zb zt zc E
  have hbr := brk_ge xs 3 i
  have tail : ∀ a : Nat, a = brk xs 3 i → Zj zp l ze (zr 2 0 0) zs zm ([.ref (B + p), .int (nI i)] : List Value).toArray zb zt zc (MQ zb (zQ G B (pI fun v es' => v = oI (eot xs i) ∧ es' = es)) ([.ref (B + p), .int (nI i)] : List Value).toArray zs 0 0 (fun q => B ≤ q)) G B 3 0 0 25 [some (.ref (B + p)), some (.int (nI i)), some (.int (nI a))] [] es := by
    intro a ha
    refine z_aload_n (pc := 25) E jd_H_endOfType_25 rfl rfl ?_
    refine z_iload_n (pc := 26) E jd_H_endOfType_26 rfl rfl ?_
    refine z_cV1I (pc := 27) E (c_T_at l G B hx) jc_H_21 jv_T_at rfl (by assumption) ⟨by decide, by decide⟩ jd_H_endOfType_27 (by decide) (by decide) (by decide) (fun v27 es27 h27 => ?_)
    obtain ⟨w27, e27⟩ := h27
    rw [e27, w27, tat_nI (by omega)]
    refine z_bipush (v := 76) (pc := 30) E jd_H_endOfType_30 (by decide) ?_
    refine z_icmp_ne (pc := 32) (tgt := 43) E jd_H_endOfType_32 (by decide) (fun c32 => ?_) (fun c32 => ?_)
    · have hL : ¬ xs.getD a 0 = 76 := nceq (b := 76) c32
      refine z_aload_n (pc := 43) E jd_H_endOfType_43 rfl rfl ?_
      refine z_iload_n (pc := 44) E jd_H_endOfType_44 rfl rfl ?_
      refine z_cV1I (pc := 45) E (c_T_at l G B hx) jc_H_21 jv_T_at rfl (by assumption) ⟨by decide, by decide⟩ jd_H_endOfType_45 (by decide) (by decide) (by decide) (fun v45 es45 h45 => ?_)
      obtain ⟨w45, e45⟩ := h45
      rw [e45, w45, tat_nI (by omega)]
      refine z_cS1I (pc := 48) E (c_H_isSimple l G B (getD_lt h5)) jc_H_31 js_H_isSimple ⟨by decide, by decide⟩ jd_H_endOfType_48 (by decide) (by decide) (by decide) (fun v48 es48 h48 => ?_)
      obtain ⟨w48, e48⟩ := h48
      rw [e48, w48]
      refine z_if_eq (pc := 51) (tgt := 60) E jd_H_endOfType_51 (by decide) (fun c51 => ?_) (fun c51 => ?_)
      · have hr : eot xs i = none := by
          rw [eot, ← ha, if_neg hL, if_neg]
          intro q
          rw [if_pos q] at c51; exact absurd c51 (by decide)
        refine z_iconst (v := -1) (pc := 60) E jd_H_endOfType_60 (by decide) ?_
        exact z_iret E jd_H_endOfType_61 ⟨_, rfl, by rw [hr]; first | rfl | exact nI_1 a, rfl⟩
      · have hr : eot xs i = some (a + 1) := by
          rw [eot, ← ha, if_neg hL, if_pos]
          cases hb : simpleC (xs.getD a 0) with
          | true => rfl
          | false => rw [hb] at c51; exact absurd rfl c51
        refine z_iload_n (pc := 54) E jd_H_endOfType_54 rfl rfl ?_
        refine z_iconst (v := 1) (pc := 55) E jd_H_endOfType_55 (by decide) ?_
        refine z_iadd (pc := 56) E jd_H_endOfType_56 ?_
        refine z_goto (pc := 57) (tgt := 61) E jd_H_endOfType_57 (by decide) ?_
        exact z_iret E jd_H_endOfType_61 ⟨_, rfl, by rw [hr]; first | rfl | exact nI_1 a, rfl⟩
    · have hL : xs.getD a 0 = 76 := ceq (b := 76) c32 (by have := getD_lt (j := a) h5; omega)
      refine z_aload_n (pc := 35) E jd_H_endOfType_35 rfl rfl ?_
      refine z_iload_n (pc := 36) E jd_H_endOfType_36 rfl rfl ?_
      refine z_iconst (v := 1) (pc := 37) E jd_H_endOfType_37 (by decide) ?_
      refine z_iadd (pc := 38) E jd_H_endOfType_38 ?_
      rw [nI_1]
      refine z_cS2I (pc := 39) E (c_H_endOfName l G B (i := a + 1) hx (by omega)) jc_H_28 js_H_endOfName ⟨by decide, by decide⟩ jd_H_endOfType_39 (by decide) (by decide) (by decide) (fun v39 es39 h39 => ?_)
      obtain ⟨w39, e39⟩ := h39
      rw [e39, w39]
      have hr : eot xs i = eon xs (a + 1) := by rw [eot, ← ha, if_pos hL]
      exact z_iret E jd_H_endOfType_42 ⟨_, rfl, by rw [hr], rfl⟩
  have loop : ∀ (n a : Nat), a + n = i + 3 → brk xs n a = brk xs 3 i → Zj zp l ze (zr 2 0 0) zs zm ([.ref (B + p), .int (nI i)] : List Value).toArray zb zt zc (MQ zb (zQ G B (pI fun v es' => v = oI (eot xs i) ∧ es' = es)) ([.ref (B + p), .int (nI i)] : List Value).toArray zs 0 0 (fun q => B ≤ q)) G B 3 0 0 2 [some (.ref (B + p)), some (.int (nI i)), some (.int (nI a))] [] es := by
    intro n
    induction n with
    | zero =>
      intro a hn he
      refine z_iload_n (pc := 2) E jd_H_endOfType_2 rfl rfl ?_
      refine z_iload_n (pc := 3) E jd_H_endOfType_3 rfl rfl ?_
      refine z_iconst (v := 3) (pc := 4) E jd_H_endOfType_4 (by decide) ?_
      refine z_iadd (pc := 5) E jd_H_endOfType_5 ?_
      rw [show nI i + 3 = nI (i + 3) from nI_add i 3]
      refine z_icmp_ge (pc := 6) (tgt := 25) E jd_H_endOfType_6 (by decide) (fun c6 => ?_) (fun c6 => ?_)
      · exact tail a he
      · exact absurd (nI_le (by omega) (by omega)) c6
    | succ n ih =>
      intro a hn he
      rw [brk] at he
      refine z_iload_n (pc := 2) E jd_H_endOfType_2 rfl rfl ?_
      refine z_iload_n (pc := 3) E jd_H_endOfType_3 rfl rfl ?_
      refine z_iconst (v := 3) (pc := 4) E jd_H_endOfType_4 (by decide) ?_
      refine z_iadd (pc := 5) E jd_H_endOfType_5 ?_
      rw [show nI i + 3 = nI (i + 3) from nI_add i 3]
      refine z_icmp_ge (pc := 6) (tgt := 25) E jd_H_endOfType_6 (by decide) (fun c6 => ?_) (fun c6 => ?_)
      · exact absurd (cle c6) (by omega)
      · refine z_aload_n (pc := 9) E jd_H_endOfType_9 rfl rfl ?_
        refine z_iload_n (pc := 10) E jd_H_endOfType_10 rfl rfl ?_
        refine z_cV1I (pc := 11) E (c_T_at l G B hx) jc_H_21 jv_T_at rfl (by assumption) ⟨by decide, by decide⟩ jd_H_endOfType_11 (by decide) (by decide) (by decide) (fun v11 es11 h11 => ?_)
        obtain ⟨w11, e11⟩ := h11
        rw [e11, w11, tat_nI (by omega)]
        refine z_bipush (v := 91) (pc := 14) E jd_H_endOfType_14 (by decide) ?_
        refine z_icmp_ne (pc := 16) (tgt := 25) E jd_H_endOfType_16 (by decide) (fun c16 => ?_) (fun c16 => ?_)
        · rw [if_neg (nceq (b := 91) c16)] at he
          exact tail a he
        · rw [if_pos (ceq (b := 91) c16 (by have := getD_lt (j := a) h5; omega))] at he
          refine z_iinc (pc := 19) E jd_H_endOfType_19 rfl rfl (by decide) rfl ?_
          dsimp only [List.set]
          refine z_goto (pc := 22) (tgt := 2) E jd_H_endOfType_22 (by decide) ?_
          have := ih (a + 1) (by omega) he
          rw [nI_succ] at this
          exact this
  refine z_iload_n (pc := 0) E jd_H_endOfType_0 rfl rfl ?_
  refine z_istore_n (pc := 1) E jd_H_endOfType_1 rfl (by decide) rfl ?_
  dsimp only [List.set]
  exact loop 3 i rfl rfl
theorem oI_eq {o : Option Nat} {n : Nat} (ho : ∀ j, o = some j → j < 2 ^ 31) (hn : n < 2 ^ 31) : oI o = nI n ↔ o = some n := by
  cases o with
  | none =>
    constructor
    · intro h
      have h2 : (0 : Int32) ≤ -1 := by rw [show (-1 : Int32) = nI n from h]; exact nI_pos' hn
      exact absurd h2 (by decide)
    · intro h; cases h
  | some j => exact ⟨fun h => by rw [(nI_eq (ho j rfl) hn).mp h], fun h => by rw [Option.some.inj h]; rfl⟩
theorem eot_b {xs : List Nat} {i : Nat} (h3 : xs.length ≤ 24) : ∀ j, eot xs i = some j → j < 2 ^ 31 := fun j h => by have := (eot_lt h).2.1; omega
set_option maxHeartbeats 4000000 in
set_option maxRecDepth 100000 in
theorem c_H_isType (l : Launch) (G : zG) (B : Nat) {es : zE} {p : Nat} {xs : List Nat} (h : tx G B es p xs) : Tr l G B jy_H_isType jb_H_isType 1 (some .boolean) 3 0 0 [.ref (B + p)] es (pI fun v es' => v = (if eot xs 0 = some xs.length then 1 else 0) ∧ es' = es) := by
  have hx := h
  obtain ⟨f, h1, h2, h3, h4, h5⟩ := h
  refine Tr.of (ls := [some (.ref (B + p))]) (by decide +kernel) (Nat.le_of_ble_eq_true rfl) rfl ?_
  intro zp ze zs zm zb zt zc E
  refine z_aload_n (pc := 0) E jd_H_isType_0 rfl rfl ?_
  refine z_iconst (v := 0) (pc := 1) E jd_H_isType_1 (by decide) ?_
  refine z_cS2I (pc := 2) E (c_H_endOfType l G B (i := 0) hx (by omega)) jc_H_9 js_H_endOfType ⟨by decide, by decide⟩ jd_H_isType_2 (by decide) (by decide) (by decide) (fun v2 es2 h2 => ?_)
  obtain ⟨w2, e2⟩ := h2
  rw [e2, w2]
  refine z_aload_n (pc := 5) E jd_H_isType_5 rfl rfl ?_
  refine z_get (pc := 6) E jf_H_15 jd_H_isType_6 (by assumption) (by rfl) ?_
  refine z_icmp_ne (pc := 9) (tgt := 16) E jd_H_isType_9 (by decide) (fun c9 => ?_) (fun c9 => ?_)
  · have hr : ¬ eot xs 0 = some xs.length := fun q => c9 ((oI_eq (eot_b h3) (by omega)).mpr q)
    refine z_iconst (v := 0) (pc := 16) E jd_H_isType_16 (by decide) ?_
    exact z_zret E rfl jd_H_isType_17 ⟨_, rfl, by simp [hr], rfl⟩
  · have hr : eot xs 0 = some xs.length := (oI_eq (eot_b h3) (by omega)).mp c9
    refine z_iconst (v := 1) (pc := 12) E jd_H_isType_12 (by decide) ?_
    refine z_goto (pc := 13) (tgt := 17) E jd_H_isType_13 (by decide) ?_
    exact z_zret E rfl jd_H_isType_17 ⟨_, rfl, by simp [hr], rfl⟩
set_option maxHeartbeats 4000000 in
set_option maxRecDepth 100000 in
theorem c_H_endOfTypes (l : Launch) (G : zG) (B : Nat) {es : zE} {p : Nat} {xs : List Nat} (h : tx G B es p xs) : Tr l G B jy_H_endOfTypes jb_H_endOfTypes 4 (some .int) 3 0 0 [.ref (B + p), .int (nI 1)] es (pI fun v es' => ((∃ c, c ≤ 24 ∧ ets xs 24 1 = some c ∧ v = nI c ∧ xs.getD c 0 = 41) ∨ (ets xs 24 1 = none ∧ v = -1)) ∧ es' = es) := by
  have hx := h
  obtain ⟨f, h1, h2, h3, h4, h5⟩ := h
  refine Tr.of (ls := [some (.ref (B + p)), some (.int (nI 1)), none, none]) (by decide +kernel) (Nat.le_of_ble_eq_true rfl) rfl ?_
  intro zp ze zs zm zb zt zc E
  have loop : ∀ (f n : Nat) (o : Option Nat), n + f = 24 → (o = none → ets xs 24 1 = none) → (∀ a, o = some a → ets xs f a = ets xs 24 1 ∧ n + 1 ≤ a ∧ a ≤ 24) → Zj zp l ze (zr 3 0 0) zs zm ([.ref (B + p), .int (nI 1)] : List Value).toArray zb zt zc (MQ zb (zQ G B (pI fun v es' => ((∃ c, c ≤ 24 ∧ ets xs 24 1 = some c ∧ v = nI c ∧ xs.getD c 0 = 41) ∨ (ets xs 24 1 = none ∧ v = -1)) ∧ es' = es)) ([.ref (B + p), .int (nI 1)] : List Value).toArray zs 0 0 (fun q => B ≤ q)) G B 4 0 0 4 [some (.ref (B + p)), some (.int (nI 1)), some (.int (oI o)), some (.int (nI n))] [] es := by
    intro f
    induction f with
    | zero =>
      intro n o hn ho ha
      cases o with
      | some a => exact absurd (ha a rfl).2 (by omega)
      | none =>
        have hr := ho rfl
        refine z_iload_n (pc := 4) E jd_H_endOfTypes_4 rfl rfl ?_
        refine z_bipush (v := 24) (pc := 5) E jd_H_endOfTypes_5 (by decide) ?_
        refine z_icmp_ge (pc := 7) (tgt := 39) E jd_H_endOfTypes_7 (by decide) (fun c7 => ?_) (fun c7 => ?_)
        · refine z_iload_n (pc := 39) E jd_H_endOfTypes_39 rfl rfl ?_
          exact z_iret E jd_H_endOfTypes_40 ⟨_, rfl, Or.inr ⟨hr, rfl⟩, rfl⟩
        · exact absurd (nI_le (a := 24) (b := n) (by omega) (by omega)) c7
    | succ f ih =>
      intro n o hn ho ha
      cases o with
      | none =>
        have hr := ho rfl
        refine z_iload_n (pc := 4) E jd_H_endOfTypes_4 rfl rfl ?_
        refine z_bipush (v := 24) (pc := 5) E jd_H_endOfTypes_5 (by decide) ?_
        refine z_icmp_ge (pc := 7) (tgt := 39) E jd_H_endOfTypes_7 (by decide) (fun c7 => ?_) (fun c7 => ?_)
        · exact absurd (cle (a := 24) c7) (by omega)
        · refine z_iload_n (pc := 10) E jd_H_endOfTypes_10 rfl rfl ?_
          refine z_iconst (v := -1) (pc := 11) E jd_H_endOfTypes_11 (by decide) ?_
          refine z_icmp_eq (pc := 12) (tgt := 25) E jd_H_endOfTypes_12 (by decide) (fun c12 => ?_) (fun c12 => ?_)
          · refine z_iload_n (pc := 25) E jd_H_endOfTypes_25 rfl rfl ?_
            exact z_iret E jd_H_endOfTypes_26 ⟨_, rfl, Or.inr ⟨hr, rfl⟩, rfl⟩
          · exact absurd rfl c12
      | some a =>
        obtain ⟨ha1, ha2, ha3⟩ := ha a rfl
        rw [ets] at ha1
        refine z_iload_n (pc := 4) E jd_H_endOfTypes_4 rfl rfl ?_
        refine z_bipush (v := 24) (pc := 5) E jd_H_endOfTypes_5 (by decide) ?_
        refine z_icmp_ge (pc := 7) (tgt := 39) E jd_H_endOfTypes_7 (by decide) (fun c7 => ?_) (fun c7 => ?_)
        · exact absurd (cle (a := 24) c7) (by omega)
        · refine z_iload_n (pc := 10) E jd_H_endOfTypes_10 rfl rfl ?_
          refine z_iconst (v := -1) (pc := 11) E jd_H_endOfTypes_11 (by decide) ?_
          refine z_icmp_eq (pc := 12) (tgt := 25) E jd_H_endOfTypes_12 (by decide) (fun c12 => ?_) (fun c12 => ?_)
          · exact absurd (c12.symm ▸ nI_pos' (n := a) (by omega) : (0 : Int32) ≤ -1) (by decide)
          · refine z_aload_n (pc := 15) E jd_H_endOfTypes_15 rfl rfl ?_
            refine z_iload_n (pc := 16) E jd_H_endOfTypes_16 rfl rfl ?_
            refine z_cV1I (pc := 17) E (c_T_at l G B hx) jc_H_21 jv_T_at rfl (by assumption) ⟨by decide, by decide⟩ jd_H_endOfTypes_17 (by decide) (by decide) (by decide) (fun v17 es17 h17 => ?_)
            obtain ⟨w17, e17⟩ := h17
            rw [e17, w17, show tat xs (oI (some a)) = nI (xs.getD a 0) from tat_nI (by omega)]
            refine z_bipush (v := 41) (pc := 20) E jd_H_endOfTypes_20 (by decide) ?_
            refine z_icmp_ne (pc := 22) (tgt := 27) E jd_H_endOfTypes_22 (by decide) (fun c22 => ?_) (fun c22 => ?_)
            · have hc : ¬ xs.getD a 0 = 41 := nceq (b := 41) c22
              rw [if_neg hc] at ha1
              refine z_aload_n (pc := 27) E jd_H_endOfTypes_27 rfl rfl ?_
              refine z_iload_n (pc := 28) E jd_H_endOfTypes_28 rfl rfl ?_
              refine z_cS2I (pc := 29) E (c_H_endOfType l G B (i := a) hx (by omega)) jc_H_9 js_H_endOfType ⟨by decide, by decide⟩ jd_H_endOfTypes_29 (by decide) (by decide) (by decide) (fun v29 es29 h29 => ?_)
              obtain ⟨w29, e29⟩ := h29
              rw [e29, w29]
              refine z_istore_n (pc := 32) E jd_H_endOfTypes_32 rfl (by decide) rfl ?_
              dsimp only [List.set]
              refine z_iinc (pc := 33) E jd_H_endOfTypes_33 rfl rfl (by decide) rfl ?_
              dsimp only [List.set]
              refine z_goto (pc := 36) (tgt := 4) E jd_H_endOfTypes_36 (by decide) ?_
              have := ih (n + 1) (eot xs a) (by omega) (fun q => by rw [q] at ha1; exact ha1.symm) (fun b q => by rw [q] at ha1; have := eot_lt q; exact ⟨ha1, by omega, by omega⟩)
              rw [nI_succ n] at this
              exact this
            · have hc : xs.getD a 0 = 41 := ceq (b := 41) c22 (by have := getD_lt (j := a) h5; omega)
              rw [if_pos hc] at ha1
              refine z_iload_n (pc := 25) E jd_H_endOfTypes_25 rfl rfl ?_
              exact z_iret E jd_H_endOfTypes_26 ⟨_, rfl, Or.inl ⟨a, ha3, ha1.symm, rfl, hc⟩, rfl⟩
  refine z_iload_n (pc := 0) E jd_H_endOfTypes_0 rfl rfl ?_
  refine z_istore_n (pc := 1) E jd_H_endOfTypes_1 rfl (by decide) rfl ?_
  dsimp only [List.set]
  refine z_iconst (v := 0) (pc := 2) E jd_H_endOfTypes_2 (by decide) ?_
  refine z_istore_n (pc := 3) E jd_H_endOfTypes_3 rfl (by decide) rfl ?_
  dsimp only [List.set]
  exact loop 24 0 (some 1) rfl (fun q => by cases q) (fun a q => by cases q; exact ⟨rfl, by omega, by omega⟩)
set_option maxHeartbeats 4000000 in
set_option maxRecDepth 100000 in
theorem c_H_isMethod (l : Launch) (G : zG) (B : Nat) {es : zE} {p : Nat} {xs : List Nat} (h : tx G B es p xs) : Tr l G B jy_H_isMethod jb_H_isMethod 4 (some .boolean) 4 0 0 [.ref (B + p)] es (pI fun v es' => v = (if shM xs = 0 then 0 else 1) ∧ es' = es) := by
  have hx := h
  obtain ⟨f, h1, h2, h3, h4, h5⟩ := h
  refine Tr.of (ls := [some (.ref (B + p)), none, none, none]) (by decide +kernel) (Nat.le_of_ble_eq_true rfl) rfl ?_
  intro zp ze zs zm zb zt zc E
  have fin : ∀ (o : Option Nat) (c : Nat), c ≤ 24 → xs.getD 0 0 = 40 → ets xs 24 1 = some c → (∀ j, o = some j → j < 2 ^ 31) → ((o = some xs.length) ↔ ¬ shM xs = 0) → Zj zp l ze (zr 4 0 0) zs zm ([.ref (B + p)] : List Value).toArray zb zt zc (MQ zb (zQ G B (pI fun v es' => v = (if shM xs = 0 then 0 else 1) ∧ es' = es)) ([.ref (B + p)] : List Value).toArray zs 0 0 (fun q => B ≤ q)) G B 4 0 0 60 [some (.ref (B + p)), some (.int (nI c)), some (.int (nI c + 1)), none] [.int (oI o)] es := by
    intro o c hc h0 he hb hsh
    refine z_istore_n (pc := 60) E jd_H_isMethod_60 rfl (by decide) rfl ?_
    dsimp only [List.set]
    refine z_iload_n (pc := 61) E jd_H_isMethod_61 rfl rfl ?_
    refine z_aload_n (pc := 62) E jd_H_isMethod_62 rfl rfl ?_
    refine z_get (pc := 63) E jf_H_15 jd_H_isMethod_63 (by assumption) (by rfl) ?_
    refine z_icmp_ne (pc := 66) (tgt := 73) E jd_H_isMethod_66 (by decide) (fun c66 => ?_) (fun c66 => ?_)
    · have hr : shM xs = 0 := Decidable.byContradiction fun q => c66 ((oI_eq hb (by omega)).mpr (hsh.mpr q))
      refine z_iconst (v := 0) (pc := 73) E jd_H_isMethod_73 (by decide) ?_
      exact z_zret E rfl jd_H_isMethod_74 ⟨_, rfl, by simp [hr], rfl⟩
    · have hr : ¬ shM xs = 0 := hsh.mp ((oI_eq hb (by omega)).mp c66)
      refine z_iconst (v := 1) (pc := 69) E jd_H_isMethod_69 (by decide) ?_
      refine z_goto (pc := 70) (tgt := 74) E jd_H_isMethod_70 (by decide) ?_
      exact z_zret E rfl jd_H_isMethod_74 ⟨_, rfl, by simp [hr], rfl⟩
  refine z_aload_n (pc := 0) E jd_H_isMethod_0 rfl rfl ?_
  refine z_iconst (v := 0) (pc := 1) E jd_H_isMethod_1 (by decide) ?_
  refine z_cV1I (pc := 2) E (c_T_at l G B hx) jc_H_21 jv_T_at rfl (by assumption) ⟨by decide, by decide⟩ jd_H_isMethod_2 (by decide) (by decide) (by decide) (fun v2 es2 h2 => ?_)
  obtain ⟨w2, e2⟩ := h2
  rw [e2, w2, show tat xs 0 = nI (xs.getD 0 0) from tat_nI (j := 0) (by omega)]
  refine z_bipush (v := 40) (pc := 5) E jd_H_isMethod_5 (by decide) ?_
  refine z_icmp_eq (pc := 7) (tgt := 12) E jd_H_isMethod_7 (by decide) (fun c7 => ?_) (fun c7 => ?_)
  · have h0 : xs.getD 0 0 = 40 := ceq (b := 40) c7 (by have := getD_lt (j := 0) h5; omega)
    refine z_aload_n (pc := 12) E jd_H_isMethod_12 rfl rfl ?_
    refine z_iconst (v := 1) (pc := 13) E jd_H_isMethod_13 (by decide) ?_
    refine z_cS2I (pc := 14) E (c_H_endOfTypes l G B hx) jc_H_25 js_H_endOfTypes ⟨by decide, by decide⟩ jd_H_isMethod_14 (by decide) (by decide) (by decide) (fun v14 es14 h14 => ?_)
    obtain ⟨w14, e14⟩ := h14
    rw [e14]
    rcases w14 with ⟨cl, hcl, het, rfl, hpc⟩ | ⟨het, rfl⟩
    rotate_left
    · refine z_istore_n (pc := 17) E jd_H_isMethod_17 rfl (by decide) rfl ?_
      dsimp only [List.set]
      refine z_iload_n (pc := 18) E jd_H_isMethod_18 rfl rfl ?_
      refine z_iconst (v := -1) (pc := 19) E jd_H_isMethod_19 (by decide) ?_
      refine z_icmp_eq (pc := 20) (tgt := 33) E jd_H_isMethod_20 (by decide) (fun c20 => ?_) (fun c20 => ?_)
      · refine z_iconst (v := 0) (pc := 33) E jd_H_isMethod_33 (by decide) ?_
        exact z_zret E rfl jd_H_isMethod_34 ⟨_, rfl, by rw [if_pos]; rw [shM, if_pos h0, het], rfl⟩
      · exact absurd rfl c20
    refine z_istore_n (pc := 17) E jd_H_isMethod_17 rfl (by decide) rfl ?_
    dsimp only [List.set]
    refine z_iload_n (pc := 18) E jd_H_isMethod_18 rfl rfl ?_
    refine z_iconst (v := -1) (pc := 19) E jd_H_isMethod_19 (by decide) ?_
    refine z_icmp_eq (pc := 20) (tgt := 33) E jd_H_isMethod_20 (by decide) (fun c20 => ?_) (fun c20 => ?_)
    · exact absurd (c20.symm ▸ nI_pos' (n := cl) (by omega) : (0 : Int32) ≤ -1) (by decide)
    · refine z_aload_n (pc := 23) E jd_H_isMethod_23 rfl rfl ?_
      refine z_iload_n (pc := 24) E jd_H_isMethod_24 rfl rfl ?_
      refine z_cV1I (pc := 25) E (c_T_at l G B hx) jc_H_21 jv_T_at rfl (by assumption) ⟨by decide, by decide⟩ jd_H_isMethod_25 (by decide) (by decide) (by decide) (fun v25 es25 h25 => ?_)
      obtain ⟨w25, e25⟩ := h25
      rw [e25, w25, tat_nI (by omega)]
      refine z_bipush (v := 41) (pc := 28) E jd_H_isMethod_28 (by decide) ?_
      refine z_icmp_eq (pc := 30) (tgt := 35) E jd_H_isMethod_30 (by decide) (fun c30 => ?_) (fun c30 => ?_)
      · refine z_iload_n (pc := 35) E jd_H_isMethod_35 rfl rfl ?_
        refine z_iconst (v := 1) (pc := 36) E jd_H_isMethod_36 (by decide) ?_
        refine z_iadd (pc := 37) E jd_H_isMethod_37 ?_
        refine z_istore_n (pc := 38) E jd_H_isMethod_38 rfl (by decide) rfl ?_
        dsimp only [List.set]
        refine z_aload_n (pc := 39) E jd_H_isMethod_39 rfl rfl ?_
        refine z_iload_n (pc := 40) E jd_H_isMethod_40 rfl rfl ?_
        refine z_cV1I (pc := 41) E (c_T_at l G B hx) jc_H_21 jv_T_at rfl (by assumption) ⟨by decide, by decide⟩ jd_H_isMethod_41 (by decide) (by decide) (by decide) (fun v41 es41 h41 => ?_)
        obtain ⟨w41, e41⟩ := h41
        rw [e41, w41, show tat xs (nI cl + 1) = nI (xs.getD (cl + 1) 0) by rw [nI_1]; exact tat_nI (by omega)]
        refine z_bipush (v := 86) (pc := 44) E jd_H_isMethod_44 (by decide) ?_
        refine z_icmp_ne (pc := 46) (tgt := 55) E jd_H_isMethod_46 (by decide) (fun c46 => ?_) (fun c46 => ?_)
        · have hV : ¬ xs.getD (cl + 1) 0 = 86 := nceq (b := 86) c46
          refine z_aload_n (pc := 55) E jd_H_isMethod_55 rfl rfl ?_
          refine z_iload_n (pc := 56) E jd_H_isMethod_56 rfl rfl ?_
          rw [nI_1]
          refine z_cS2I (pc := 57) E (c_H_endOfType l G B (i := cl + 1) hx (by omega)) jc_H_9 js_H_endOfType ⟨by decide, by decide⟩ jd_H_isMethod_57 (by decide) (by decide) (by decide) (fun v57 es57 h57 => ?_)
          obtain ⟨w57, e57⟩ := h57
          rw [e57, w57, ← nI_1]
          refine fin (eot xs (cl + 1)) cl hcl h0 het (eot_b h3) ?_
          rw [shM, if_pos h0, het]
          dsimp only
          rw [if_neg hV]
          constructor
          · intro q; rw [if_pos q]; decide
          · intro q; exact Decidable.byContradiction fun q2 => q (by rw [if_neg q2])
        · have hV : xs.getD (cl + 1) 0 = 86 := ceq (b := 86) c46 (by have := getD_lt (j := cl + 1) h5; omega)
          refine z_iload_n (pc := 49) E jd_H_isMethod_49 rfl rfl ?_
          refine z_iconst (v := 1) (pc := 50) E jd_H_isMethod_50 (by decide) ?_
          refine z_iadd (pc := 51) E jd_H_isMethod_51 ?_
          refine z_goto (pc := 52) (tgt := 60) E jd_H_isMethod_52 (by decide) ?_
          refine z_st (st' := [.int (oI (some (cl + 2)))]) (by rw [nI_1, nI_1]; rfl) ?_
          refine fin (some (cl + 2)) cl hcl h0 het (fun j q => by cases q; omega) ?_
          rw [shM, if_pos h0, het]
          dsimp only
          rw [if_pos hV]
          constructor
          · intro q; rw [if_pos (Option.some.inj q)]; decide
          · intro q; exact congrArg some (Decidable.byContradiction fun q2 => q (by rw [if_neg q2]))
      · exact absurd (by rw [hpc]; rfl) c30
  · have h0 : ¬ xs.getD 0 0 = 40 := nceq (b := 40) c7
    refine z_iconst (v := 0) (pc := 10) E jd_H_isMethod_10 (by decide) ?_
    exact z_zret E rfl jd_H_isMethod_11 ⟨_, rfl, by rw [if_pos]; rw [shM, if_neg h0], rfl⟩
