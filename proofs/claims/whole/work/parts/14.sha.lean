/-! the hash -/
def rot (x s : Int32) : Int32 := (x <<< (s &&& 31)) ||| (x.toUInt32 >>> ((32 - s).toUInt32 &&& Int32.toUInt32 31)).toInt32
def cho (t : Nat) (b c d : Int32) : Int32 := if t < 20 then (b &&& c) ||| ((b ^^^ (-1)) &&& d) else if t < 40 ∨ 60 ≤ t then (b ^^^ c) ^^^ d else ((b &&& c) ||| (b &&& d)) ||| (c &&& d)
def kon (t : Nat) : Int32 := if t < 20 then 1518500249 else if t < 40 then 1859775393 else if t < 60 then -1894007588 else -899497514
def wfd (P : Nat → Int32) (i : Nat) : Nat → Int32
  | 0 => 0
  | k + 1 => (wfd P i k <<< ((8 : Int32) &&& 31)) ||| P (i + k)
def Wd (P : Nat → Int32) (b : Nat) (t : Nat) : Int32 := if h : t < 16 then wfd P (b + 4 * t) 4 else rot (((Wd P b (t - 3) ^^^ Wd P b (t - 8)) ^^^ Wd P b (t - 14)) ^^^ Wd P b (t - 16)) 1
termination_by t
decreasing_by all_goals omega
theorem Wd_hi {P : Nat → Int32} {b t : Nat} (h : ¬ t < 16) : Wd P b t = rot (((Wd P b (t - 3) ^^^ Wd P b (t - 8)) ^^^ Wd P b (t - 14)) ^^^ Wd P b (t - 16)) 1 := by
  conv => lhs; rw [Wd]
  exact dif_neg h
theorem Wd_lo {P : Nat → Int32} {b t : Nat} (h : t < 16) : Wd P b t = wfd P (b + 4 * t) 4 := by
  rw [Wd]; exact dif_pos h
abbrev Q5 : Type := Int32 × Int32 × Int32 × Int32 × Int32
def rnd (W : Nat → Int32) (t : Nat) (q : Q5) : Q5 := ((((rot q.1 5 + cho t q.2.1 q.2.2.1 q.2.2.2.1) + q.2.2.2.2) + W t) + kon t, q.1, rot q.2.1 30, q.2.2.1, q.2.2.2.1)
def rnds (W : Nat → Int32) (q : Q5) : Nat → Q5
  | 0 => q
  | n + 1 => rnd W n (rnds W q n)
def pk5 (q : Q5) (k : Nat) : Int32 := if k = 0 then q.1 else if k = 1 then q.2.1 else if k = 2 then q.2.2.1 else if k = 3 then q.2.2.2.1 else q.2.2.2.2
def blk (W : Nat → Int32) (h : Nat → Int32) : Nat → Int32 := fun k => h k + pk5 (rnds W (h 0, h 1, h 2, h 3, h 4) 80) k
def h0 (k : Nat) : Int32 := ([1732584193, -271733879, -1732584194, 271733878, -1009589776] : List Int32).getD k 0
/-- the five numbers behind n blocks -/
def shaH (P : Nat → Int32) : Nat → Nat → Int32
  | 0 => h0
  | n + 1 => blk (Wd P (64 * n)) (shaH P n)
theorem blk_congr {W : Nat → Int32} {f g : Nat → Int32} (h : ∀ k, k < 5 → f k = g k) : ∀ k, k < 5 → blk W f k = blk W g k := by
  intro k hk
  unfold blk
  rw [h k hk, h 0 (by omega), h 1 (by omega), h 2 (by omega), h 3 (by omega), h 4 (by omega)]
theorem rnds_congr {W W' : Nat → Int32} {q : Q5} : ∀ n, (∀ t, t < n → W t = W' t) → rnds W q n = rnds W' q n
  | 0, _ => rfl
  | n + 1, h => by
    rw [rnds, rnds, rnds_congr n (fun t ht => h t (by omega)), rnd, rnd, h n (by omega)]
theorem blk_congrW {W W' : Nat → Int32} {f : Nat → Int32} (h : ∀ t, t < 80 → W t = W' t) : blk W f = blk W' f := by
  funext k
  unfold blk
  rw [rnds_congr 80 h]
/-- how many zeros stand behind the byte 80 -/
def zpad (n : Nat) : Nat := 64 * ((n + 72) / 64) - (n + 9)
def pad (bs : List Nat) : List Nat := bs ++ (128 :: (List.replicate (zpad bs.length) 0 ++ (num 0 ++ num (nI (8 * bs.length)))))
theorem pad_len (bs : List Nat) : (pad bs).length = 64 * ((bs.length + 72) / 64) := by
  simp only [pad, List.length_append, List.length_cons, List.length_replicate, num_len, zpad]
  omega
def shaP (bs : List Nat) (i : Nat) : Int32 := nI ((pad bs).getD i 0)
/-- the HASH's five numbers -/
def sha (bs : List Nat) : Nat → Int32 := shaH (shaP bs) ((bs.length + 72) / 64)
theorem pad_lo {bs : List Nat} {i : Nat} (h : i < bs.length) : (pad bs).getD i 0 = bs.getD i 0 := getD_app_l h
theorem pad_mid {bs : List Nat} : (pad bs).getD bs.length 0 = 128 := by
  rw [pad, getD_app_r (Nat.le_refl _), Nat.sub_self]; rfl
theorem getD_rep {n j : Nat} : (List.replicate n 0).getD j 0 = 0 := by
  rw [List.getD_eq_getElem?_getD, List.getElem?_replicate]
  split <;> rfl
theorem pad_hi {bs : List Nat} {i : Nat} (h1 : bs.length < i) (h2 : i + 4 < (pad bs).length) : (pad bs).getD i 0 = 0 := by
  rw [pad_len] at h2
  have hz : zpad bs.length = 64 * ((bs.length + 72) / 64) - (bs.length + 9) := rfl
  rw [pad, getD_app_r (by omega), show i - bs.length = (i - bs.length - 1) + 1 by omega, List.getD_cons_succ]
  by_cases hr : i - bs.length - 1 < zpad bs.length
  · rw [getD_app_l (by rw [List.length_replicate]; exact hr), getD_rep]
  · rw [getD_app_r (by rw [List.length_replicate]; omega), List.length_replicate, getD_app_l (by rw [num_len]; omega)]
    generalize hj : i - bs.length - 1 - zpad bs.length = j
    rcases (show j = 0 ∨ j = 1 ∨ j = 2 ∨ j = 3 by omega) with rfl | rfl | rfl | rfl <;> rfl
theorem pad_end {bs : List Nat} {k : Nat} (hk : k < 4) : (pad bs).getD ((pad bs).length - 1 - k) 0 = (num (nI (8 * bs.length))).getD (3 - k) 0 := by
  have hl := pad_len bs
  have hz : zpad bs.length = 64 * ((bs.length + 72) / 64) - (bs.length + 9) := rfl
  rw [hl, pad, getD_app_r (by omega), show 64 * ((bs.length + 72) / 64) - 1 - k - bs.length = (64 * ((bs.length + 72) / 64) - 1 - k - bs.length - 1) + 1 by omega, List.getD_cons_succ, getD_app_r (by rw [List.length_replicate]; omega), List.length_replicate, getD_app_r (by rw [num_len]; omega), num_len]
  congr 1
  omega
/-- a Digest at p -/
def gO (G : zG) (B : Nat) (es : zE) (p : Nat) (nf wf : Nat → Int32) : Prop := es[p]? = some (.inr (3, [.ref (B + (p + 1)), .ref (B + (p + 2))])) ∧ es[p + 1]? = some (.inl (G.2.1 1, 5, .inl nf)) ∧ es[p + 2]? = some (.inl (G.2.1 1, 80, .inl wf))
theorem gO.fr {G : zG} {B : Nat} {es es' : zE} {p lo hi : Nat} {nf wf : Nat → Int32} (h : gO G B es p nf wf) (hk : Fr es es' lo hi) (ho : p + 3 ≤ lo ∨ hi ≤ p) : gO G B es' p nf wf := ⟨hk.at (by omega) h.1, hk.at (by omega) h.2.1, hk.at (by omega) h.2.2⟩
set_option maxHeartbeats 4000000 in
set_option maxRecDepth 100000 in
theorem c_G_turned (l : Launch) (G : zG) (B : Nat) {es : zE} {x s : Int32} : Tr l G B jy_G_turned jb_G_turned 2 (some .int) 0 0 0 [.int x, .int s] es (pI fun v es' => v = rot x s ∧ es' = es) := by
  refine Tr.of (ls := [some (.int x), some (.int s)]) (by decide +kernel) (Nat.le_of_ble_eq_true rfl) rfl ?_
  intro zp ze zs zm zb zt zc E
  refine z_iload_n (pc := 0) E jd_G_turned_0 rfl rfl ?_
  refine z_iload_n (pc := 1) E jd_G_turned_1 rfl rfl ?_
  refine z_ishl (pc := 2) E jd_G_turned_2 ?_
  refine z_iload_n (pc := 3) E jd_G_turned_3 rfl rfl ?_
  refine z_bipush (v := 32) (pc := 4) E jd_G_turned_4 (by decide) ?_
  refine z_iload_n (pc := 6) E jd_G_turned_6 rfl rfl ?_
  refine z_isub (pc := 7) E jd_G_turned_7 ?_
  refine z_iushr (pc := 8) E jd_G_turned_8 ?_
  refine z_ior (pc := 9) E jd_G_turned_9 ?_
  exact z_iret E jd_G_turned_10 ⟨_, rfl, rfl, rfl⟩
set_option maxHeartbeats 4000000 in
set_option maxRecDepth 100000 in
theorem c_G_chosen (l : Launch) (G : zG) (B : Nat) {es : zE} {t : Nat} {b c d : Int32} (ht : t < 80) : Tr l G B jy_G_chosen jb_G_chosen 4 (some .int) 0 0 0 [.int (nI t), .int b, .int c, .int d] es (pI fun v es' => v = cho t b c d ∧ es' = es) := by
  refine Tr.of (ls := [some (.int (nI t)), some (.int b), some (.int c), some (.int d)]) (by decide +kernel) (Nat.le_of_ble_eq_true rfl) rfl ?_
  intro zp ze zs zm zb zt zc E
  refine z_iload_n (pc := 0) E jd_G_chosen_0 rfl rfl ?_
  refine z_bipush (v := 20) (pc := 1) E jd_G_chosen_1 (by decide) ?_
  refine z_icmp_ge (pc := 3) (tgt := 16) E jd_G_chosen_3 (by decide) (fun c3 => ?_) (fun c3 => ?_)
  · have q3 := cle (a := 20) c3
    refine z_iload_n (pc := 16) E jd_G_chosen_16 rfl rfl ?_
    refine z_bipush (v := 40) (pc := 17) E jd_G_chosen_17 (by decide) ?_
    refine z_icmp_lt (pc := 19) (tgt := 40) E jd_G_chosen_19 (by decide) (fun c19 => ?_) (fun c19 => ?_)
    · have hr : cho t b c d = (b ^^^ c) ^^^ d := by rw [cho, if_neg (by omega), if_pos (by have := clt (b := 40) c19; omega)]
      refine z_iload_n (pc := 40) E jd_G_chosen_40 rfl rfl ?_
      refine z_iload_n (pc := 41) E jd_G_chosen_41 rfl rfl ?_
      refine z_ixor (pc := 42) E jd_G_chosen_42 ?_
      refine z_iload_n (pc := 43) E jd_G_chosen_43 rfl rfl ?_
      refine z_ixor (pc := 44) E jd_G_chosen_44 ?_
      exact z_iret E jd_G_chosen_45 ⟨_, rfl, hr.symm, rfl⟩
    · refine z_iload_n (pc := 22) E jd_G_chosen_22 rfl rfl ?_
      refine z_bipush (v := 60) (pc := 23) E jd_G_chosen_23 (by decide) ?_
      refine z_icmp_ge (pc := 25) (tgt := 40) E jd_G_chosen_25 (by decide) (fun c25 => ?_) (fun c25 => ?_)
      · have hr : cho t b c d = (b ^^^ c) ^^^ d := by rw [cho, if_neg (by omega), if_pos (by have := cle (a := 60) c25; omega)]
        refine z_iload_n (pc := 40) E jd_G_chosen_40 rfl rfl ?_
        refine z_iload_n (pc := 41) E jd_G_chosen_41 rfl rfl ?_
        refine z_ixor (pc := 42) E jd_G_chosen_42 ?_
        refine z_iload_n (pc := 43) E jd_G_chosen_43 rfl rfl ?_
        refine z_ixor (pc := 44) E jd_G_chosen_44 ?_
        exact z_iret E jd_G_chosen_45 ⟨_, rfl, hr.symm, rfl⟩
      · have hr : cho t b c d = ((b &&& c) ||| (b &&& d)) ||| (c &&& d) := by rw [cho, if_neg (by omega), if_neg (by have := ncle (a := 60) c25; have := nclt (b := 40) c19; omega)]
        refine z_iload_n (pc := 28) E jd_G_chosen_28 rfl rfl ?_
        refine z_iload_n (pc := 29) E jd_G_chosen_29 rfl rfl ?_
        refine z_iand (pc := 30) E jd_G_chosen_30 ?_
        refine z_iload_n (pc := 31) E jd_G_chosen_31 rfl rfl ?_
        refine z_iload_n (pc := 32) E jd_G_chosen_32 rfl rfl ?_
        refine z_iand (pc := 33) E jd_G_chosen_33 ?_
        refine z_ior (pc := 34) E jd_G_chosen_34 ?_
        refine z_iload_n (pc := 35) E jd_G_chosen_35 rfl rfl ?_
        refine z_iload_n (pc := 36) E jd_G_chosen_36 rfl rfl ?_
        refine z_iand (pc := 37) E jd_G_chosen_37 ?_
        refine z_ior (pc := 38) E jd_G_chosen_38 ?_
        exact z_iret E jd_G_chosen_39 ⟨_, rfl, hr.symm, rfl⟩
  · have q3 := ncle (a := 20) c3
    have hr : cho t b c d = (b &&& c) ||| ((b ^^^ (-1)) &&& d) := by rw [cho, if_pos q3]
    refine z_iload_n (pc := 6) E jd_G_chosen_6 rfl rfl ?_
    refine z_iload_n (pc := 7) E jd_G_chosen_7 rfl rfl ?_
    refine z_iand (pc := 8) E jd_G_chosen_8 ?_
    refine z_iload_n (pc := 9) E jd_G_chosen_9 rfl rfl ?_
    refine z_iconst (v := -1) (pc := 10) E jd_G_chosen_10 (by decide) ?_
    refine z_ixor (pc := 11) E jd_G_chosen_11 ?_
    refine z_iload_n (pc := 12) E jd_G_chosen_12 rfl rfl ?_
    refine z_iand (pc := 13) E jd_G_chosen_13 ?_
    refine z_ior (pc := 14) E jd_G_chosen_14 ?_
    exact z_iret E jd_G_chosen_15 ⟨_, rfl, hr.symm, rfl⟩
theorem s_u : ∀ n, n < 32 → (((nI n).toUInt32 &&& Int32.toUInt32 31).toBitVec % 32).toNat = n := by decide +kernel
theorem num_at (v : Int32) : ∀ k, k < 4 → (num v).getD (3 - k) 0 = v.toBitVec.toNat / 2 ^ (8 * k) % 256 := by
  intro k hk
  rcases (show k = 0 ∨ k = 1 ∨ k = 2 ∨ k = 3 by omega) with rfl | rfl | rfl | rfl
  · simp [num]
  · rfl
  · rfl
  · rfl
theorem by8_255 (v : Int32) : v &&& 255 = nI (by8 v) := by
  have := pk_and v (m := 255) 8 (by decide)
  exact this
set_option maxHeartbeats 4000000 in
set_option maxRecDepth 100000 in
theorem c_G_paddedAt (l : Launch) (G : zG) (B : Nat) {es : zE} {q i : Nat} {bs : List Nat} {bg : Nat → Int32} (h : ly G B es q bs bg) (hi : i < (pad bs).length) : Tr l G B jy_G_paddedAt jb_G_paddedAt 4 (some .int) 1 0 0 [.ref (B + q), .int (nI i), .int (nI (pad bs).length)] es (pI fun v es' => v = shaP bs i ∧ es' = es) := by
  have hx := h
  have h1 := h.obj
  obtain ⟨f, -, -, -, h4, -⟩ := h
  have hpl := pad_len bs
  have hbd : (pad bs).length ≤ 1000 := by rw [hpl]; omega
  refine Tr.of (ls := [some (.ref (B + q)), some (.int (nI i)), some (.int (nI (pad bs).length)), none]) (by decide +kernel) (Nat.le_of_ble_eq_true rfl) rfl ?_
  intro zp ze zs zm zb zt zc E
  refine z_iload_n (pc := 0) E jd_G_paddedAt_0 rfl rfl ?_
  refine z_aload_n (pc := 1) E jd_G_paddedAt_1 rfl rfl ?_
  refine z_get (pc := 2) E jf_G_27 jd_G_paddedAt_2 (by assumption) (by rfl) ?_
  refine z_icmp_ge (pc := 5) (tgt := 14) E jd_G_paddedAt_5 (by decide) (fun c5 => ?_) (fun c5 => ?_)
  · refine z_iload_n (pc := 14) E jd_G_paddedAt_14 rfl rfl ?_
    refine z_aload_n (pc := 15) E jd_G_paddedAt_15 rfl rfl ?_
    refine z_get (pc := 16) E jf_G_27 jd_G_paddedAt_16 (by assumption) (by rfl) ?_
    refine z_icmp_ne (pc := 19) (tgt := 26) E jd_G_paddedAt_19 (by decide) (fun c19 => ?_) (fun c19 => ?_)
    · have hlt : bs.length < i := by have := cle c5; have := nceq c19; omega
      refine z_iload_n (pc := 26) E jd_G_paddedAt_26 rfl rfl ?_
      refine z_iconst (v := 1) (pc := 27) E jd_G_paddedAt_27 (by decide) ?_
      refine z_isub (pc := 28) E jd_G_paddedAt_28 ?_
      refine z_topi (y := nI ((pad bs).length - 1)) (pk_sub (b := 1) (by omega)) ?_
      refine z_iload_n (pc := 29) E jd_G_paddedAt_29 rfl rfl ?_
      refine z_isub (pc := 30) E jd_G_paddedAt_30 ?_
      refine z_topi (y := nI ((pad bs).length - 1 - i)) (pk_sub (by omega)) ?_
      refine z_istore_n (pc := 31) E jd_G_paddedAt_31 rfl (by decide) rfl ?_
      dsimp only [List.set]
      refine z_iload_n (pc := 32) E jd_G_paddedAt_32 rfl rfl ?_
      refine z_iconst (v := 4) (pc := 33) E jd_G_paddedAt_33 (by decide) ?_
      refine z_icmp_ge (pc := 34) (tgt := 56) E jd_G_paddedAt_34 (by decide) (fun c34 => ?_) (fun c34 => ?_)
      · have hr : shaP bs i = 0 := by rw [shaP, pad_hi hlt (by have := cle (a := 4) c34; omega)]; rfl
        refine z_iconst (v := 0) (pc := 56) E jd_G_paddedAt_56 (by decide) ?_
        exact z_iret E jd_G_paddedAt_57 ⟨_, rfl, hr.symm, rfl⟩
      · have hk := ncle (a := 4) c34
        refine z_bipush (v := 8) (pc := 37) E jd_G_paddedAt_37 (by decide) ?_
        refine z_aload_n (pc := 39) E jd_G_paddedAt_39 rfl rfl ?_
        refine z_get (pc := 40) E jf_G_27 jd_G_paddedAt_40 (by assumption) (by rfl) ?_
        refine z_imul (pc := 43) E jd_G_paddedAt_43 ?_
        refine z_topi (y := nI (8 * bs.length)) (pk_mul 8 _) ?_
        refine z_bipush (v := 8) (pc := 44) E jd_G_paddedAt_44 (by decide) ?_
        refine z_iload_n (pc := 46) E jd_G_paddedAt_46 rfl rfl ?_
        refine z_imul (pc := 47) E jd_G_paddedAt_47 ?_
        refine z_topi (y := nI (8 * ((pad bs).length - 1 - i))) (pk_mul 8 _) ?_
        refine z_iushr (pc := 48) E jd_G_paddedAt_48 ?_
        refine z_sipush (v := 255) (pc := 49) E jd_G_paddedAt_49 (by decide) ?_
        refine z_iand (pc := 52) E jd_G_paddedAt_52 ?_
        rw [by8_255]
        have hr : shaP bs i = nI (by8 ((nI (8 * bs.length)).toUInt32 >>> ((nI (8 * ((pad bs).length - 1 - i))).toUInt32 &&& Int32.toUInt32 31)).toInt32) := by
          have e1 := pad_end (bs := bs) (k := (pad bs).length - 1 - i) (by omega)
          rw [show (pad bs).length - 1 - ((pad bs).length - 1 - i) = i by omega] at e1
          rw [shaP, e1, num_at _ _ (by omega), by8_ushr _ _ (8 * ((pad bs).length - 1 - i)) (s_u _ (by omega))]
        refine z_goto (pc := 53) (tgt := 57) E jd_G_paddedAt_53 (by decide) ?_
        exact z_iret E jd_G_paddedAt_57 ⟨_, rfl, hr.symm, rfl⟩
    · refine z_sipush (v := 128) (pc := 22) E jd_G_paddedAt_22 (by decide) ?_
      exact z_iret E jd_G_paddedAt_25 ⟨_, rfl, by rw [shaP, ceq c19, pad_mid]; rfl, rfl⟩
  · refine z_aload_n (pc := 8) E jd_G_paddedAt_8 rfl rfl ?_
    refine z_iload_n (pc := 9) E jd_G_paddedAt_9 rfl rfl ?_
    refine z_cV1I (pc := 10) E (c_L_at l G B hx) jc_G_54 jv_L_at rfl (by assumption) ⟨by decide, by decide⟩ jd_G_paddedAt_10 (Nat.le_of_ble_eq_true rfl) (by decide) (by decide) (fun v10 es10 h10 => ?_)
    obtain ⟨w10, e10⟩ := h10
    rw [e10, w10, tat_nI (by omega)]
    exact z_iret E jd_G_paddedAt_13 ⟨_, rfl, by rw [shaP, pad_lo (ncle c5)], rfl⟩
theorem wsub {t k : Nat} (h : k ≤ t) : nI t - nI k = nI (t - k) := pk_sub h
set_option maxHeartbeats 4000000 in
set_option maxRecDepth 100000 in
theorem c_G_fillWords (l : Launch) (G : zG) (B : Nat) {es : zE} {p q b : Nat} {bs : List Nat} {bg nf wf : Nat → Int32} (hg : gO G B es p nf wf) (h : ly G B es q bs bg) (hd : p + 3 ≤ q ∨ q + 3 ≤ p) (hb : 64 * b + 64 ≤ (pad bs).length) : Tr l G B jy_G_fillWords jb_G_fillWords 7 none 2 0 0 [.ref (B + p), .ref (B + q), .int (nI (64 * b)), .int (nI (pad bs).length)] es (pV fun es' => ∃ wf', gO G B es' p nf wf' ∧ (∀ t, t < 80 → wf' t = Wd (shaP bs) (64 * b) t) ∧ Fr es es' (p + 2) (p + 3)) := by
  obtain ⟨g1, g2, g3⟩ := hg
  have hbd : (pad bs).length ≤ 1000 := by have := h; obtain ⟨f, -, -, -, h4, -⟩ := h; rw [pad_len]; omega
  refine Tr.of (ls := [some (.ref (B + p)), some (.ref (B + q)), some (.int (nI (64 * b))), some (.int (nI (pad bs).length)), none, none, none]) (by decide +kernel) (Nat.le_of_ble_eq_true rfl) rfl ?_
  intro zp ze zs zm zb zt zc E
  have loop2 : ∀ (f t : Nat) (a5 a6 : Option Value) (w1 : Nat → Int32) (es1 : zE), t + f = 80 → 16 ≤ t → es1 = es.set (p + 2) (.inl (G.2.1 1, 80, .inl w1)) → (∀ j, j < t → w1 j = Wd (shaP bs) (64 * b) j) → Zj zp l ze (zr 2 0 0) zs zm ([.ref (B + p), .ref (B + q), .int (nI (64 * b)), .int (nI (pad bs).length)] : List Value).toArray zb zt zc (MQ zb (zQ G B (pV fun es' => ∃ wf', gO G B es' p nf wf' ∧ (∀ t, t < 80 → wf' t = Wd (shaP bs) (64 * b) t) ∧ Fr es es' (p + 2) (p + 3))) ([.ref (B + p), .ref (B + q), .int (nI (64 * b)), .int (nI (pad bs).length)] : List Value).toArray zs 0 0 (fun q => B ≤ q)) G B 7 0 0 69 [some (.ref (B + p)), some (.ref (B + q)), some (.int (nI (64 * b))), some (.int (nI (pad bs).length)), some (.int (nI t)), a5, a6] [] es1 := by
    intro f
    induction f with
    | zero =>
      intro t a5 a6 w1 es1 hf ht he hw
      have k1 := zs_ne he (by omega) g1
      have k2 := zs_ne he (by omega) g2
      have k3 := zs_eq he g3
      refine z_iload (pc := 69) E jd_G_fillWords_69 rfl ?_
      refine z_bipush (v := 80) (pc := 71) E jd_G_fillWords_71 (by decide) ?_
      refine z_icmp_ge (pc := 73) (tgt := 135) E jd_G_fillWords_73 (by decide) (fun c73 => ?_) (fun c73 => ?_)
      · exact z_vret E jd_G_fillWords_135 ⟨rfl, w1, ⟨k1, k2, k3⟩, fun j hj => hw j (by omega), Fr.set he (by omega) (by omega)⟩
      · exact absurd (nI_le (a := 80) (by omega) (by omega)) c73
    | succ f ih =>
      intro t a5 a6 w1 es1 hf ht he hw
      have k1 := zs_ne he (by omega) g1
      have k3 := zs_eq he g3
      refine z_iload (pc := 69) E jd_G_fillWords_69 rfl ?_
      refine z_bipush (v := 80) (pc := 71) E jd_G_fillWords_71 (by decide) ?_
      refine z_icmp_ge (pc := 73) (tgt := 135) E jd_G_fillWords_73 (by decide) (fun c73 => ?_) (fun c73 => ?_)
      · exact absurd (cle (a := 80) c73) (by omega)
      · refine z_aload_n (pc := 76) E jd_G_fillWords_76 rfl rfl ?_
        refine z_get (pc := 77) E jf_G_15 jd_G_fillWords_77 (by assumption) (by rfl) ?_
        refine z_iload (pc := 80) E jd_G_fillWords_80 rfl ?_
        refine z_aload_n (pc := 82) E jd_G_fillWords_82 rfl rfl ?_
        refine z_get (pc := 83) E jf_G_15 jd_G_fillWords_83 (by assumption) (by rfl) ?_
        refine z_iload (pc := 86) E jd_G_fillWords_86 rfl ?_
        refine z_iconst (v := 3) (pc := 88) E jd_G_fillWords_88 (by decide) ?_
        refine z_isub (pc := 89) E jd_G_fillWords_89 ?_
        refine z_topi (y := nI (t - 3)) (wsub (k := 3) (by omega)) ?_
        refine z_iald (ti := 1) (pc := 90) E rfl jd_G_fillWords_90 (by assumption) (vp_in_nI (by omega) (by omega)) ?_
        rw [nI_clamp (by omega)]
        refine z_aload_n (pc := 91) E jd_G_fillWords_91 rfl rfl ?_
        refine z_get (pc := 92) E jf_G_15 jd_G_fillWords_92 (by assumption) (by rfl) ?_
        refine z_iload (pc := 95) E jd_G_fillWords_95 rfl ?_
        refine z_bipush (v := 8) (pc := 97) E jd_G_fillWords_97 (by decide) ?_
        refine z_isub (pc := 99) E jd_G_fillWords_99 ?_
        refine z_topi (y := nI (t - 8)) (wsub (k := 8) (by omega)) ?_
        refine z_iald (ti := 1) (pc := 100) E rfl jd_G_fillWords_100 (by assumption) (vp_in_nI (by omega) (by omega)) ?_
        rw [nI_clamp (by omega)]
        refine z_ixor (pc := 101) E jd_G_fillWords_101 ?_
        refine z_aload_n (pc := 102) E jd_G_fillWords_102 rfl rfl ?_
        refine z_get (pc := 103) E jf_G_15 jd_G_fillWords_103 (by assumption) (by rfl) ?_
        refine z_iload (pc := 106) E jd_G_fillWords_106 rfl ?_
        refine z_bipush (v := 14) (pc := 108) E jd_G_fillWords_108 (by decide) ?_
        refine z_isub (pc := 110) E jd_G_fillWords_110 ?_
        refine z_topi (y := nI (t - 14)) (wsub (k := 14) (by omega)) ?_
        refine z_iald (ti := 1) (pc := 111) E rfl jd_G_fillWords_111 (by assumption) (vp_in_nI (by omega) (by omega)) ?_
        rw [nI_clamp (by omega)]
        refine z_ixor (pc := 112) E jd_G_fillWords_112 ?_
        refine z_aload_n (pc := 113) E jd_G_fillWords_113 rfl rfl ?_
        refine z_get (pc := 114) E jf_G_15 jd_G_fillWords_114 (by assumption) (by rfl) ?_
        refine z_iload (pc := 117) E jd_G_fillWords_117 rfl ?_
        refine z_bipush (v := 16) (pc := 119) E jd_G_fillWords_119 (by decide) ?_
        refine z_isub (pc := 121) E jd_G_fillWords_121 ?_
        refine z_topi (y := nI (t - 16)) (wsub (k := 16) (by omega)) ?_
        refine z_iald (ti := 1) (pc := 122) E rfl jd_G_fillWords_122 (by assumption) (vp_in_nI (by omega) (by omega)) ?_
        rw [nI_clamp (by omega)]
        refine z_ixor (pc := 123) E jd_G_fillWords_123 ?_
        refine z_iconst (v := 1) (pc := 124) E jd_G_fillWords_124 (by decide) ?_
        refine z_cS2I (pc := 125) E (c_G_turned l G B) jc_G_50 js_G_turned ⟨by decide, by decide⟩ jd_G_fillWords_125 (Nat.le_of_ble_eq_true rfl) (by decide) (by decide) (fun v125 es125 h125 => ?_)
        obtain ⟨w125, e125⟩ := h125
        rw [e125, w125, hw _ (by omega), hw _ (by omega), hw _ (by omega), hw _ (by omega)]
        refine z_iast (ti := 1) (pc := 128) E rfl jd_G_fillWords_128 (by assumption) (vp_in_nI (by omega) (by omega)) (fun es128 he128 => ?_)
        rw [nI_clamp (by omega)] at he128
        refine z_iinc (pc := 129) E jd_G_fillWords_129 rfl rfl (by decide) rfl ?_
        dsimp only [List.set]
        refine z_goto (pc := 132) (tgt := 69) E jd_G_fillWords_132 (by decide) ?_
        have := ih (t + 1) a5 a6 _ es128 (by omega) (by omega) (zs_set2 he he128) (fun j hj => ?_)
        · rw [nI_succ t] at this
          exact this
        · by_cases hjt : j = t
          · subst hjt
            rw [pk_us]; exact (Wd_hi (by omega)).symm
          · rw [pk_un hjt]; exact hw j (by omega)
  have loop1 : ∀ (f t : Nat) (a5 a6 : Option Value) (w1 : Nat → Int32) (es1 : zE), t + f = 16 → es1 = es.set (p + 2) (.inl (G.2.1 1, 80, .inl w1)) → (∀ j, j < t → w1 j = Wd (shaP bs) (64 * b) j) → Zj zp l ze (zr 2 0 0) zs zm ([.ref (B + p), .ref (B + q), .int (nI (64 * b)), .int (nI (pad bs).length)] : List Value).toArray zb zt zc (MQ zb (zQ G B (pV fun es' => ∃ wf', gO G B es' p nf wf' ∧ (∀ t, t < 80 → wf' t = Wd (shaP bs) (64 * b) t) ∧ Fr es es' (p + 2) (p + 3))) ([.ref (B + p), .ref (B + q), .int (nI (64 * b)), .int (nI (pad bs).length)] : List Value).toArray zs 0 0 (fun q => B ≤ q)) G B 7 0 0 3 [some (.ref (B + p)), some (.ref (B + q)), some (.int (nI (64 * b))), some (.int (nI (pad bs).length)), some (.int (nI t)), a5, a6] [] es1 := by
    intro f
    induction f with
    | zero =>
      intro t a5 a6 w1 es1 hf he hw
      refine z_iload (pc := 3) E jd_G_fillWords_3 rfl ?_
      refine z_bipush (v := 16) (pc := 5) E jd_G_fillWords_5 (by decide) ?_
      refine z_icmp_ge (pc := 7) (tgt := 65) E jd_G_fillWords_7 (by decide) (fun c7 => ?_) (fun c7 => ?_)
      · refine z_bipush (v := 16) (pc := 65) E jd_G_fillWords_65 (by decide) ?_
        refine z_istore (pc := 67) E jd_G_fillWords_67 (by decide) rfl ?_
        dsimp only [List.set]
        exact loop2 64 16 a5 a6 w1 es1 rfl (by omega) he (fun j hj => hw j (by omega))
      · exact absurd (nI_le (a := 16) (by omega) (by omega)) c7
    | succ f ih =>
      intro t a5 a6 w1 es1 hf he hw
      have k1 := zs_ne he (by omega) g1
      have k3 := zs_eq he g3
      have hy := h.fr (Fr.set (lo := p + 2) (hi := p + 3) he (by omega) (by omega)) (by omega)
      have inner : ∀ (m k : Nat), k + m = 4 → Zj zp l ze (zr 2 0 0) zs zm ([.ref (B + p), .ref (B + q), .int (nI (64 * b)), .int (nI (pad bs).length)] : List Value).toArray zb zt zc (MQ zb (zQ G B (pV fun es' => ∃ wf', gO G B es' p nf wf' ∧ (∀ t, t < 80 → wf' t = Wd (shaP bs) (64 * b) t) ∧ Fr es es' (p + 2) (p + 3))) ([.ref (B + p), .ref (B + q), .int (nI (64 * b)), .int (nI (pad bs).length)] : List Value).toArray zs 0 0 (fun q => B ≤ q)) G B 7 0 0 16 [some (.ref (B + p)), some (.ref (B + q)), some (.int (nI (64 * b))), some (.int (nI (pad bs).length)), some (.int (nI t)), some (.int (wfd (shaP bs) (64 * b + 4 * t) k)), some (.int (nI k))] [] es1 := by
        intro m
        induction m with
        | zero =>
          intro k hk
          have hk : k = 4 := by omega
          subst hk
          refine z_iload (pc := 16) E jd_G_fillWords_16 rfl ?_
          refine z_iconst (v := 4) (pc := 18) E jd_G_fillWords_18 (by decide) ?_
          refine z_icmp_ge (pc := 19) (tgt := 50) E jd_G_fillWords_19 (by decide) (fun c19 => ?_) (fun c19 => ?_)
          · refine z_aload_n (pc := 50) E jd_G_fillWords_50 rfl rfl ?_
            refine z_get (pc := 51) E jf_G_15 jd_G_fillWords_51 (by assumption) (by rfl) ?_
            refine z_iload (pc := 54) E jd_G_fillWords_54 rfl ?_
            refine z_iload (pc := 56) E jd_G_fillWords_56 rfl ?_
            refine z_iast (ti := 1) (pc := 58) E rfl jd_G_fillWords_58 (by assumption) (vp_in_nI (by omega) (by omega)) (fun es58 he58 => ?_)
            rw [nI_clamp (by omega)] at he58
            refine z_iinc (pc := 59) E jd_G_fillWords_59 rfl rfl (by decide) rfl ?_
            dsimp only [List.set]
            refine z_goto (pc := 62) (tgt := 3) E jd_G_fillWords_62 (by decide) ?_
            have := ih (t + 1) (some (.int (wfd (shaP bs) (64 * b + 4 * t) 4))) (some (.int (nI 4))) _ es58 (by omega) (zs_set2 he he58) (fun j hj => ?_)
            · rw [nI_succ t] at this
              exact this
            · by_cases hjt : j = t
              · subst hjt
                rw [pk_us, Wd_lo (by omega)]
              · rw [pk_un hjt]; exact hw j (by omega)
          · exact absurd (nI_le (a := 4) (b := 4) (by omega) (by omega)) c19
        | succ m ih2 =>
          intro k hk
          refine z_iload (pc := 16) E jd_G_fillWords_16 rfl ?_
          refine z_iconst (v := 4) (pc := 18) E jd_G_fillWords_18 (by decide) ?_
          refine z_icmp_ge (pc := 19) (tgt := 50) E jd_G_fillWords_19 (by decide) (fun c19 => ?_) (fun c19 => ?_)
          · exact absurd (cle (a := 4) c19) (by omega)
          · refine z_iload (pc := 22) E jd_G_fillWords_22 rfl ?_
            refine z_bipush (v := 8) (pc := 24) E jd_G_fillWords_24 (by decide) ?_
            refine z_ishl (pc := 26) E jd_G_fillWords_26 ?_
            refine z_aload_n (pc := 27) E jd_G_fillWords_27 rfl rfl ?_
            refine z_iload_n (pc := 28) E jd_G_fillWords_28 rfl rfl ?_
            refine z_iconst (v := 4) (pc := 29) E jd_G_fillWords_29 (by decide) ?_
            refine z_iload (pc := 30) E jd_G_fillWords_30 rfl ?_
            refine z_imul (pc := 32) E jd_G_fillWords_32 ?_
            refine z_topi (y := nI (4 * t)) (pk_mul 4 t) ?_
            refine z_iadd (pc := 33) E jd_G_fillWords_33 ?_
            refine z_topi (y := nI (64 * b + 4 * t)) (nI_add _ _) ?_
            refine z_iload (pc := 34) E jd_G_fillWords_34 rfl ?_
            refine z_iadd (pc := 36) E jd_G_fillWords_36 ?_
            refine z_topi (y := nI (64 * b + 4 * t + k)) (nI_add _ _) ?_
            refine z_iload_n (pc := 37) E jd_G_fillWords_37 rfl rfl ?_
            refine z_cS3I (pc := 38) E (c_G_paddedAt l G B hy (by omega)) jc_G_46 js_G_paddedAt ⟨by decide, by decide⟩ jd_G_fillWords_38 (Nat.le_of_ble_eq_true rfl) (by decide) (by decide) (fun v38 es38 h38 => ?_)
            obtain ⟨w38, e38⟩ := h38
            rw [e38, w38]
            refine z_ior (pc := 41) E jd_G_fillWords_41 ?_
            refine z_istore (pc := 42) E jd_G_fillWords_42 (by decide) rfl ?_
            dsimp only [List.set]
            refine z_iinc (pc := 44) E jd_G_fillWords_44 rfl rfl (by decide) rfl ?_
            dsimp only [List.set]
            refine z_goto (pc := 47) (tgt := 16) E jd_G_fillWords_47 (by decide) ?_
            have := ih2 (k + 1) (by omega)
            rw [nI_succ k] at this
            exact this
      refine z_iload (pc := 3) E jd_G_fillWords_3 rfl ?_
      refine z_bipush (v := 16) (pc := 5) E jd_G_fillWords_5 (by decide) ?_
      refine z_icmp_ge (pc := 7) (tgt := 65) E jd_G_fillWords_7 (by decide) (fun c7 => ?_) (fun c7 => ?_)
      · exact absurd (cle (a := 16) c7) (by omega)
      · refine z_iconst (v := 0) (pc := 10) E jd_G_fillWords_10 (by decide) ?_
        refine z_istore (pc := 11) E jd_G_fillWords_11 (by decide) rfl ?_
        dsimp only [List.set]
        refine z_iconst (v := 0) (pc := 13) E jd_G_fillWords_13 (by decide) ?_
        refine z_istore (pc := 14) E jd_G_fillWords_14 (by decide) rfl ?_
        dsimp only [List.set]
        exact inner 4 0 rfl
  refine z_iconst (v := 0) (pc := 0) E jd_G_fillWords_0 (by decide) ?_
  refine z_istore (pc := 1) E jd_G_fillWords_1 (by decide) rfl ?_
  dsimp only [List.set]
  exact loop1 16 0 none none wf es rfl (zs_self g3) (fun j hj => absurd hj (Nat.not_lt_zero _))
theorem kon_at : ∀ t, t < 80 → ([1518500249, 1859775393, -1894007588, -899497514] : List Int32).getD (t / 20) 0 = kon t := by decide +kernel
set_option maxHeartbeats 4000000 in
set_option maxRecDepth 100000 in
theorem c_G_mixWords (l : Launch) (G : zG) (B : Nat) {es : zE} {p : Nat} {nf wf : Nat → Int32} (hg : gO G B es p nf wf) : Tr l G B jy_G_mixWords jb_G_mixWords 8 none 1 0 0 [.ref (B + p)] es (pV fun es' => ∃ nf', gO G B es' p nf' wf ∧ (∀ k, k < 5 → nf' k = blk wf nf k) ∧ Fr es es' (p + 1) (p + 2)) := by
  obtain ⟨g1, g2, g3⟩ := hg
  refine Tr.of (ls := [some (.ref (B + p)), none, none, none, none, none, none, none]) (by decide +kernel) (Nat.le_of_ble_eq_true rfl) rfl ?_
  intro zp ze zs zm zb zt zc E
  have loop : ∀ (f t : Nat) (a7 : Option Value) (q : Q5), t + f = 80 → q = rnds wf (nf 0, nf 1, nf 2, nf 3, nf 4) t → Zj zp l ze (zr 1 0 0) zs zm ([.ref (B + p)] : List Value).toArray zb zt zc (MQ zb (zQ G B (pV fun es' => ∃ nf', gO G B es' p nf' wf ∧ (∀ k, k < 5 → nf' k = blk wf nf k) ∧ Fr es es' (p + 1) (p + 2))) ([.ref (B + p)] : List Value).toArray zs 0 0 (fun q => B ≤ q)) G B 8 0 0 40 [some (.ref (B + p)), some (.int q.1), some (.int q.2.1), some (.int q.2.2.1), some (.int q.2.2.2.1), some (.int q.2.2.2.2), some (.int (nI t)), a7] [] es := by
    intro f
    induction f with
    | zero =>
      intro t a7 q hf hq
      have ht : t = 80 := by omega
      subst ht
      refine z_iload (pc := 40) E jd_G_mixWords_40 rfl ?_
      refine z_bipush (v := 80) (pc := 42) E jd_G_mixWords_42 (by decide) ?_
      refine z_icmp_ge (pc := 44) (tgt := 110) E jd_G_mixWords_44 (by decide) (fun c44 => ?_) (fun c44 => ?_)
      · refine z_aload_n (pc := 110) E jd_G_mixWords_110 rfl rfl ?_
        refine z_get (pc := 111) E jf_G_9 jd_G_mixWords_111 (by assumption) (by rfl) ?_
        refine z_iconst (v := 0) (pc := 114) E jd_G_mixWords_114 (by decide) ?_
        refine z_dup2 (pc := 115) E jd_G_mixWords_115 rfl rfl ?_
        refine z_iald (ti := 1) (pc := 116) E rfl jd_G_mixWords_116 (by assumption) (by unfold vp_in; decide) ?_
        skip
        refine z_iload_n (pc := 117) E jd_G_mixWords_117 rfl rfl ?_
        refine z_iadd (pc := 118) E jd_G_mixWords_118 ?_
        refine z_iast (ti := 1) (pc := 119) E rfl jd_G_mixWords_119 (by assumption) (by unfold vp_in; decide) (fun es119 he119 => ?_)
        have k1 := zs_ne he119 (by omega) g1
        have k2 := zs_eq he119 g2
        refine z_aload_n (pc := 120) E jd_G_mixWords_120 rfl rfl ?_
        refine z_get (pc := 121) E jf_G_9 jd_G_mixWords_121 (by assumption) (by rfl) ?_
        refine z_iconst (v := 1) (pc := 124) E jd_G_mixWords_124 (by decide) ?_
        refine z_dup2 (pc := 125) E jd_G_mixWords_125 rfl rfl ?_
        refine z_iald (ti := 1) (pc := 126) E rfl jd_G_mixWords_126 (by assumption) (by unfold vp_in; decide) ?_
        skip
        refine z_iload_n (pc := 127) E jd_G_mixWords_127 rfl rfl ?_
        refine z_iadd (pc := 128) E jd_G_mixWords_128 ?_
        refine z_iast (ti := 1) (pc := 129) E rfl jd_G_mixWords_129 (by assumption) (by unfold vp_in; decide) (fun es129 he129 => ?_)
        have m1 := zs_ne he129 (by omega) k1
        have m2 := zs_eq he129 k2
        refine z_aload_n (pc := 130) E jd_G_mixWords_130 rfl rfl ?_
        refine z_get (pc := 131) E jf_G_9 jd_G_mixWords_131 (by assumption) (by rfl) ?_
        refine z_iconst (v := 2) (pc := 134) E jd_G_mixWords_134 (by decide) ?_
        refine z_dup2 (pc := 135) E jd_G_mixWords_135 rfl rfl ?_
        refine z_iald (ti := 1) (pc := 136) E rfl jd_G_mixWords_136 (by assumption) (by unfold vp_in; decide) ?_
        skip
        refine z_iload_n (pc := 137) E jd_G_mixWords_137 rfl rfl ?_
        refine z_iadd (pc := 138) E jd_G_mixWords_138 ?_
        refine z_iast (ti := 1) (pc := 139) E rfl jd_G_mixWords_139 (by assumption) (by unfold vp_in; decide) (fun es139 he139 => ?_)
        have n1 := zs_ne he139 (by omega) m1
        have n2 := zs_eq he139 m2
        refine z_aload_n (pc := 140) E jd_G_mixWords_140 rfl rfl ?_
        refine z_get (pc := 141) E jf_G_9 jd_G_mixWords_141 (by assumption) (by rfl) ?_
        refine z_iconst (v := 3) (pc := 144) E jd_G_mixWords_144 (by decide) ?_
        refine z_dup2 (pc := 145) E jd_G_mixWords_145 rfl rfl ?_
        refine z_iald (ti := 1) (pc := 146) E rfl jd_G_mixWords_146 (by assumption) (by unfold vp_in; decide) ?_
        skip
        refine z_iload (pc := 147) E jd_G_mixWords_147 rfl ?_
        refine z_iadd (pc := 149) E jd_G_mixWords_149 ?_
        refine z_iast (ti := 1) (pc := 150) E rfl jd_G_mixWords_150 (by assumption) (by unfold vp_in; decide) (fun es150 he150 => ?_)
        have o1 := zs_ne he150 (by omega) n1
        have o2 := zs_eq he150 n2
        refine z_aload_n (pc := 151) E jd_G_mixWords_151 rfl rfl ?_
        refine z_get (pc := 152) E jf_G_9 jd_G_mixWords_152 (by assumption) (by rfl) ?_
        refine z_iconst (v := 4) (pc := 155) E jd_G_mixWords_155 (by decide) ?_
        refine z_dup2 (pc := 156) E jd_G_mixWords_156 rfl rfl ?_
        refine z_iald (ti := 1) (pc := 157) E rfl jd_G_mixWords_157 (by assumption) (by unfold vp_in; decide) ?_
        skip
        refine z_iload (pc := 158) E jd_G_mixWords_158 rfl ?_
        refine z_iadd (pc := 160) E jd_G_mixWords_160 ?_
        refine z_iast (ti := 1) (pc := 161) E rfl jd_G_mixWords_161 (by assumption) (by unfold vp_in; decide) (fun es161 he161 => ?_)
        have u1 := zs_ne he161 (by omega) o1
        have u2 := zs_eq he161 o2
        have FF : Fr es es161 (p + 1) (p + 2) := ((((Fr.set he119 (by omega) (by omega)).trs (Fr.set he129 (by omega) (by omega))).trs (Fr.set he139 (by omega) (by omega))).trs (Fr.set he150 (by omega) (by omega))).trs (Fr.set he161 (by omega) (by omega))
        have u3 := FF.at (by omega) g3
        exact z_vret E jd_G_mixWords_162 ⟨rfl, _, ⟨u1, u2, u3⟩, fun k hk => by rw [blk, ← hq]; rcases (show k = 0 ∨ k = 1 ∨ k = 2 ∨ k = 3 ∨ k = 4 by omega) with rfl | rfl | rfl | rfl | rfl <;> rfl, FF⟩
      · exact absurd (nI_le (a := 80) (b := 80) (by omega) (by omega)) c44
    | succ f ih =>
      intro t a7 q hf hq
      refine z_iload (pc := 40) E jd_G_mixWords_40 rfl ?_
      refine z_bipush (v := 80) (pc := 42) E jd_G_mixWords_42 (by decide) ?_
      refine z_icmp_ge (pc := 44) (tgt := 110) E jd_G_mixWords_44 (by decide) (fun c44 => ?_) (fun c44 => ?_)
      · exact absurd (cle (a := 80) c44) (by omega)
      · refine z_iload_n (pc := 47) E jd_G_mixWords_47 rfl rfl ?_
        refine z_iconst (v := 5) (pc := 48) E jd_G_mixWords_48 (by decide) ?_
        refine z_cS2I (pc := 49) E (c_G_turned l G B) jc_G_50 js_G_turned ⟨by decide, by decide⟩ jd_G_mixWords_49 (Nat.le_of_ble_eq_true rfl) (by decide) (by decide) (fun v49 es49 h49 => ?_)
        obtain ⟨w49, e49⟩ := h49
        rw [e49, w49]
        refine z_iload (pc := 52) E jd_G_mixWords_52 rfl ?_
        refine z_iload_n (pc := 54) E jd_G_mixWords_54 rfl rfl ?_
        refine z_iload_n (pc := 55) E jd_G_mixWords_55 rfl rfl ?_
        refine z_iload (pc := 56) E jd_G_mixWords_56 rfl ?_
        refine z_cS4I (pc := 58) E (c_G_chosen l G B (by omega)) jc_G_57 js_G_chosen ⟨by decide, by decide⟩ jd_G_mixWords_58 (Nat.le_of_ble_eq_true rfl) (by decide) (by decide) (fun v58 es58 h58 => ?_)
        obtain ⟨w58, e58⟩ := h58
        rw [e58, w58]
        refine z_iadd (pc := 61) E jd_G_mixWords_61 ?_
        refine z_iload (pc := 62) E jd_G_mixWords_62 rfl ?_
        refine z_iadd (pc := 64) E jd_G_mixWords_64 ?_
        refine z_aload_n (pc := 65) E jd_G_mixWords_65 rfl rfl ?_
        refine z_get (pc := 66) E jf_G_15 jd_G_mixWords_66 (by assumption) (by rfl) ?_
        refine z_iload (pc := 69) E jd_G_mixWords_69 rfl ?_
        refine z_iald (ti := 1) (pc := 71) E rfl jd_G_mixWords_71 (by assumption) (vp_in_nI (by omega) (by omega)) ?_
        rw [nI_clamp (by omega)]
        refine z_iadd (pc := 72) E jd_G_mixWords_72 ?_
        refine z_gets (i := 1) (pc := 73) E rfl (Or.inr ⟨"StreamIds", List.mem_of_getElem? (i := 26) (by decide +kernel)⟩) jd_G_mixWords_73 ?_
        refine z_iload (pc := 76) E jd_G_mixWords_76 rfl ?_
        refine z_bipush (v := 20) (pc := 78) E jd_G_mixWords_78 (by decide) ?_
        refine z_idiv (pc := 80) E jd_G_mixWords_80 (by decide) ?_
        refine z_topi (y := nI (t / 20)) (pk_div (d := 20) (by omega) (by omega) (by omega)) ?_
        refine z_ti (i := 1) (pc := 81) E rfl jd_G_mixWords_81 (vp_in_nI (by show t / 20 < 4; omega) (by decide)) ?_
        rw [nI_clamp (by omega)]
        refine z_topi (kon_at t (by omega)) ?_
        refine z_iadd (pc := 82) E jd_G_mixWords_82 ?_
        refine z_istore (pc := 83) E jd_G_mixWords_83 (by decide) rfl ?_
        dsimp only [List.set]
        refine z_iload (pc := 85) E jd_G_mixWords_85 rfl ?_
        refine z_istore (pc := 87) E jd_G_mixWords_87 (by decide) rfl ?_
        dsimp only [List.set]
        refine z_iload_n (pc := 89) E jd_G_mixWords_89 rfl rfl ?_
        refine z_istore (pc := 90) E jd_G_mixWords_90 (by decide) rfl ?_
        dsimp only [List.set]
        refine z_iload_n (pc := 92) E jd_G_mixWords_92 rfl rfl ?_
        refine z_bipush (v := 30) (pc := 93) E jd_G_mixWords_93 (by decide) ?_
        refine z_cS2I (pc := 95) E (c_G_turned l G B) jc_G_50 js_G_turned ⟨by decide, by decide⟩ jd_G_mixWords_95 (Nat.le_of_ble_eq_true rfl) (by decide) (by decide) (fun v95 es95 h95 => ?_)
        obtain ⟨w95, e95⟩ := h95
        rw [e95, w95]
        refine z_istore_n (pc := 98) E jd_G_mixWords_98 rfl (by decide) rfl ?_
        dsimp only [List.set]
        refine z_iload_n (pc := 99) E jd_G_mixWords_99 rfl rfl ?_
        refine z_istore_n (pc := 100) E jd_G_mixWords_100 rfl (by decide) rfl ?_
        dsimp only [List.set]
        refine z_iload (pc := 101) E jd_G_mixWords_101 rfl ?_
        refine z_istore_n (pc := 103) E jd_G_mixWords_103 rfl (by decide) rfl ?_
        dsimp only [List.set]
        refine z_iinc (pc := 104) E jd_G_mixWords_104 rfl rfl (by decide) rfl ?_
        dsimp only [List.set]
        refine z_goto (pc := 107) (tgt := 40) E jd_G_mixWords_107 (by decide) ?_
        have := ih (t + 1) (some (.int (((((rot q.1 5 + cho t q.2.1 q.2.2.1 q.2.2.2.1) + q.2.2.2.2) + wf t) + kon t)))) (rnd wf t q) (by omega) (by rw [rnds, hq])
        rw [nI_succ t] at this
        exact this
  refine z_aload_n (pc := 0) E jd_G_mixWords_0 rfl rfl ?_
  refine z_get (pc := 1) E jf_G_9 jd_G_mixWords_1 (by assumption) (by rfl) ?_
  refine z_iconst (v := 0) (pc := 4) E jd_G_mixWords_4 (by decide) ?_
  refine z_iald (ti := 1) (pc := 5) E rfl jd_G_mixWords_5 (by assumption) (by unfold vp_in; decide) ?_
  skip
  refine z_istore_n (pc := 6) E jd_G_mixWords_6 rfl (by decide) rfl ?_
  dsimp only [List.set]
  refine z_aload_n (pc := 7) E jd_G_mixWords_7 rfl rfl ?_
  refine z_get (pc := 8) E jf_G_9 jd_G_mixWords_8 (by assumption) (by rfl) ?_
  refine z_iconst (v := 1) (pc := 11) E jd_G_mixWords_11 (by decide) ?_
  refine z_iald (ti := 1) (pc := 12) E rfl jd_G_mixWords_12 (by assumption) (by unfold vp_in; decide) ?_
  skip
  refine z_istore_n (pc := 13) E jd_G_mixWords_13 rfl (by decide) rfl ?_
  dsimp only [List.set]
  refine z_aload_n (pc := 14) E jd_G_mixWords_14 rfl rfl ?_
  refine z_get (pc := 15) E jf_G_9 jd_G_mixWords_15 (by assumption) (by rfl) ?_
  refine z_iconst (v := 2) (pc := 18) E jd_G_mixWords_18 (by decide) ?_
  refine z_iald (ti := 1) (pc := 19) E rfl jd_G_mixWords_19 (by assumption) (by unfold vp_in; decide) ?_
  skip
  refine z_istore_n (pc := 20) E jd_G_mixWords_20 rfl (by decide) rfl ?_
  dsimp only [List.set]
  refine z_aload_n (pc := 21) E jd_G_mixWords_21 rfl rfl ?_
  refine z_get (pc := 22) E jf_G_9 jd_G_mixWords_22 (by assumption) (by rfl) ?_
  refine z_iconst (v := 3) (pc := 25) E jd_G_mixWords_25 (by decide) ?_
  refine z_iald (ti := 1) (pc := 26) E rfl jd_G_mixWords_26 (by assumption) (by unfold vp_in; decide) ?_
  skip
  refine z_istore (pc := 27) E jd_G_mixWords_27 (by decide) rfl ?_
  dsimp only [List.set]
  refine z_aload_n (pc := 29) E jd_G_mixWords_29 rfl rfl ?_
  refine z_get (pc := 30) E jf_G_9 jd_G_mixWords_30 (by assumption) (by rfl) ?_
  refine z_iconst (v := 4) (pc := 33) E jd_G_mixWords_33 (by decide) ?_
  refine z_iald (ti := 1) (pc := 34) E rfl jd_G_mixWords_34 (by assumption) (by unfold vp_in; decide) ?_
  skip
  refine z_istore (pc := 35) E jd_G_mixWords_35 (by decide) rfl ?_
  dsimp only [List.set]
  refine z_iconst (v := 0) (pc := 37) E jd_G_mixWords_37 (by decide) ?_
  refine z_istore (pc := 38) E jd_G_mixWords_38 (by decide) rfl ?_
  dsimp only [List.set]
  exact loop 80 0 none (nf 0, nf 1, nf 2, nf 3, nf 4) rfl rfl
set_option maxHeartbeats 4000000 in
set_option maxRecDepth 100000 in
theorem c_G_take (l : Launch) (G : zG) (B : Nat) {es : zE} {p q : Nat} {bs : List Nat} {bg nf wf : Nat → Int32} (hg : gO G B es p nf wf) (h : ly G B es q bs bg) (hd : p + 3 ≤ q ∨ q + 3 ≤ p) : Tr l G B jy_G_take jb_G_take 4 none 3 0 0 [.ref (B + p), .ref (B + q)] es (pV fun es' => ∃ nf' wf', gO G B es' p nf' wf' ∧ (∀ k, k < 5 → nf' k = sha bs k) ∧ Fr es es' p (p + 3)) := by
  have h1 := h.obj
  have h4 : bs.length ≤ 694 := by obtain ⟨f, -, -, -, h4, -⟩ := h; exact h4
  obtain ⟨g1, g2, g3⟩ := hg
  have hpl := pad_len bs
  refine Tr.of (ls := [some (.ref (B + p)), some (.ref (B + q)), none, none]) (by decide +kernel) (Nat.le_of_ble_eq_true rfl) rfl ?_
  intro zp ze zs zm zb zt zc E
  have loop : ∀ (f b : Nat) (nf1 wf1 : Nat → Int32) (es1 : zE), b + f = (bs.length + 72) / 64 → gO G B es1 p nf1 wf1 → (∀ k, k < 5 → nf1 k = shaH (shaP bs) b k) → Fr es es1 p (p + 3) → Zj zp l ze (zr 3 0 0) zs zm ([.ref (B + p), .ref (B + q)] : List Value).toArray zb zt zc (MQ zb (zQ G B (pV fun es' => ∃ nf' wf', gO G B es' p nf' wf' ∧ (∀ k, k < 5 → nf' k = sha bs k) ∧ Fr es es' p (p + 3))) ([.ref (B + p), .ref (B + q)] : List Value).toArray zs 0 0 (fun q => B ≤ q)) G B 4 0 0 33 [some (.ref (B + p)), some (.ref (B + q)), some (.int (nI ((bs.length + 72) / 64))), some (.int (nI b))] [] es1 := by
    intro f
    induction f with
    | zero =>
      intro b nf1 wf1 es1 hf hg hn hF
      have hb : b = (bs.length + 72) / 64 := by omega
      refine z_iload_n (pc := 33) E jd_G_take_33 rfl rfl ?_
      refine z_iload_n (pc := 34) E jd_G_take_34 rfl rfl ?_
      refine z_icmp_ge (pc := 35) (tgt := 61) E jd_G_take_35 (by decide) (fun c35 => ?_) (fun c35 => ?_)
      · exact z_vret E jd_G_take_61 ⟨rfl, nf1, wf1, hg, fun k hk => by rw [hn k hk, hb]; rfl, hF⟩
      · exact absurd (nI_le (by omega) (by omega)) c35
    | succ f ih =>
      intro b nf1 wf1 es1 hf hg hn hF
      have o1 := hg.1
      have hy := h.fr hF (by omega)
      refine z_iload_n (pc := 33) E jd_G_take_33 rfl rfl ?_
      refine z_iload_n (pc := 34) E jd_G_take_34 rfl rfl ?_
      refine z_icmp_ge (pc := 35) (tgt := 61) E jd_G_take_35 (by decide) (fun c35 => ?_) (fun c35 => ?_)
      · exact absurd (cle c35) (by omega)
      · refine z_aload_n (pc := 38) E jd_G_take_38 rfl rfl ?_
        refine z_aload_n (pc := 39) E jd_G_take_39 rfl rfl ?_
        refine z_iload_n (pc := 40) E jd_G_take_40 rfl rfl ?_
        refine z_bipush (v := 64) (pc := 41) E jd_G_take_41 (by decide) ?_
        refine z_imul (pc := 43) E jd_G_take_43 ?_
        refine z_topi (y := nI (64 * b)) (by rw [Nat.mul_comm]; exact pk_mul b 64) ?_
        refine z_iload_n (pc := 44) E jd_G_take_44 rfl rfl ?_
        refine z_bipush (v := 64) (pc := 45) E jd_G_take_45 (by decide) ?_
        refine z_imul (pc := 47) E jd_G_take_47 ?_
        refine z_topi (y := nI (pad bs).length) (by rw [hpl, Nat.mul_comm]; exact pk_mul ((bs.length + 72) / 64) 64) ?_
        refine z_cV3V (pc := 48) E (c_G_fillWords l G B hg hy hd (by omega)) jc_G_33 jv_G_fillWords rfl (by assumption) ⟨by decide, by decide⟩ jd_G_take_48 (Nat.le_of_ble_eq_true rfl) (by decide) (by decide) (fun es48 h48 => ?_)
        obtain ⟨wf2, w48, x48, F48⟩ := h48
        have o1 := w48.1
        refine z_aload_n (pc := 51) E jd_G_take_51 rfl rfl ?_
        refine z_cV0V (pc := 52) E (c_G_mixWords l G B w48) jc_G_37 jv_G_mixWords rfl (by assumption) ⟨by decide, by decide⟩ jd_G_take_52 (Nat.le_of_ble_eq_true rfl) (by decide) (by decide) (fun es52 h52 => ?_)
        obtain ⟨nf2, w52, x52, F52⟩ := h52
        refine z_iinc (pc := 55) E jd_G_take_55 rfl rfl (by decide) rfl ?_
        dsimp only [List.set]
        refine z_goto (pc := 58) (tgt := 33) E jd_G_take_58 (by decide) ?_
        have := ih (b + 1) nf2 wf2 es52 (by omega) w52 (fun k hk => by rw [x52 k hk, blk_congrW x48, shaH]; exact blk_congr hn k hk) ((hF.tr F48 (lo := p) (hi := p + 3) (by omega) (by omega) (by omega) (by omega)).tr F52 (by omega) (by omega) (by omega) (by omega))
        rw [nI_succ b] at this
        exact this
  refine z_gets (i := 0) (pc := 0) E rfl (Or.inr ⟨"StreamIds", List.mem_of_getElem? (i := 25) (by decide +kernel)⟩) jd_G_take_0 ?_
  refine z_iconst (v := 0) (pc := 3) E jd_G_take_3 (by decide) ?_
  refine z_aload_n (pc := 4) E jd_G_take_4 rfl rfl ?_
  refine z_get (pc := 5) E jf_G_9 jd_G_take_5 (by assumption) (by rfl) ?_
  refine z_iconst (v := 0) (pc := 8) E jd_G_take_8 (by decide) ?_
  refine z_iconst (v := 5) (pc := 9) E jd_G_take_9 (by decide) ?_
  refine z_copyT (i0 := 0) (ti := 1) (pc := 10) E ⟨jw_420, jw_215, jw_214, jw_9⟩ rfl rfl jd_G_take_10 g2 (by decide) (by decide) (by decide) (by decide) (by decide) (by decide) (by decide) (fun es10 he10 => ?_)
  have k1 := zs_ne he10 (by omega) g1
  have k2 := zs_eq he10 g2
  have k3 := zs_ne he10 (by omega) g3
  have F10 : Fr es es10 p (p + 3) := Fr.set he10 (by omega) (by omega)
  have y1 := (h.fr F10 (by omega)).obj
  refine z_aload_n (pc := 13) E jd_G_take_13 rfl rfl ?_
  refine z_get (pc := 14) E jf_G_27 jd_G_take_14 (by assumption) (by rfl) ?_
  refine z_iconst (v := 1) (pc := 17) E jd_G_take_17 (by decide) ?_
  refine z_iadd (pc := 18) E jd_G_take_18 ?_
  refine z_bipush (v := 8) (pc := 19) E jd_G_take_19 (by decide) ?_
  refine z_iadd (pc := 21) E jd_G_take_21 ?_
  refine z_bipush (v := 64) (pc := 22) E jd_G_take_22 (by decide) ?_
  refine z_iadd (pc := 24) E jd_G_take_24 ?_
  refine z_iconst (v := 1) (pc := 25) E jd_G_take_25 (by decide) ?_
  refine z_isub (pc := 26) E jd_G_take_26 ?_
  refine z_topi (y := nI (bs.length + 72)) (by rw [show (1 : Int32) = nI 1 from rfl, show (8 : Int32) = nI 8 from rfl, show (64 : Int32) = nI 64 from rfl, nI_add, nI_add, nI_add, pk_sub (by omega)]; congr 1) ?_
  refine z_bipush (v := 64) (pc := 27) E jd_G_take_27 (by decide) ?_
  refine z_idiv (pc := 29) E jd_G_take_29 (by decide) ?_
  refine z_topi (y := nI ((bs.length + 72) / 64)) (pk_div (d := 64) (by omega) (by omega) (by omega)) ?_
  refine z_istore_n (pc := 30) E jd_G_take_30 rfl (by decide) rfl ?_
  dsimp only [List.set]
  refine z_iconst (v := 0) (pc := 31) E jd_G_take_31 (by decide) ?_
  refine z_istore_n (pc := 32) E jd_G_take_32 rfl (by decide) rfl ?_
  dsimp only [List.set]
  exact loop ((bs.length + 72) / 64) 0 _ wf es10 (by omega) ⟨k1, k2, k3⟩ (fun k hk => by rcases (show k = 0 ∨ k = 1 ∨ k = 2 ∨ k = 3 ∨ k = 4 by omega) with rfl | rfl | rfl | rfl | rfl <;> rfl) F10
def rev4 (x : Int32) : Int32 := (((x <<< ((24 : Int32) &&& 31)) ||| ((x &&& 65280) <<< ((8 : Int32) &&& 31))) ||| ((x.toUInt32 >>> ((8 : Int32).toUInt32 &&& Int32.toUInt32 31)).toInt32 &&& 65280)) ||| (x.toUInt32 >>> ((24 : Int32).toUInt32 &&& Int32.toUInt32 31)).toInt32
set_option maxHeartbeats 4000000 in
set_option maxRecDepth 100000 in
theorem c_G_reversed (l : Launch) (G : zG) (B : Nat) {es : zE} {x : Int32} : Tr l G B jy_G_reversed jb_G_reversed 1 (some .int) 0 0 0 [.int x] es (pI fun v es' => v = rev4 x ∧ es' = es) := by
  refine Tr.of (ls := [some (.int x)]) (by decide +kernel) (Nat.le_of_ble_eq_true rfl) rfl ?_
  intro zp ze zs zm zb zt zc E
  refine z_iload_n (pc := 0) E jd_G_reversed_0 rfl rfl ?_
  refine z_bipush (v := 24) (pc := 1) E jd_G_reversed_1 (by decide) ?_
  refine z_ishl (pc := 3) E jd_G_reversed_3 ?_
  refine z_iload_n (pc := 4) E jd_G_reversed_4 rfl rfl ?_
  refine z_ldc (pc := 5) E jw_451 jd_G_reversed_5 ?_
  refine z_iand (pc := 7) E jd_G_reversed_7 ?_
  refine z_bipush (v := 8) (pc := 8) E jd_G_reversed_8 (by decide) ?_
  refine z_ishl (pc := 10) E jd_G_reversed_10 ?_
  refine z_ior (pc := 11) E jd_G_reversed_11 ?_
  refine z_iload_n (pc := 12) E jd_G_reversed_12 rfl rfl ?_
  refine z_bipush (v := 8) (pc := 13) E jd_G_reversed_13 (by decide) ?_
  refine z_iushr (pc := 15) E jd_G_reversed_15 ?_
  refine z_ldc (pc := 16) E jw_451 jd_G_reversed_16 ?_
  refine z_iand (pc := 18) E jd_G_reversed_18 ?_
  refine z_ior (pc := 19) E jd_G_reversed_19 ?_
  refine z_iload_n (pc := 20) E jd_G_reversed_20 rfl rfl ?_
  refine z_bipush (v := 24) (pc := 21) E jd_G_reversed_21 (by decide) ?_
  refine z_iushr (pc := 23) E jd_G_reversed_23 ?_
  refine z_ior (pc := 24) E jd_G_reversed_24 ?_
  exact z_iret E jd_G_reversed_25 ⟨_, rfl, rfl, rfl⟩
def id8 (a b : Int32) : Int64 := ((rev4 b).toInt64 <<< ((32 : Int32).toInt64 &&& 63)) ||| ((rev4 a).toInt64 &&& 4294967295)
set_option maxHeartbeats 4000000 in
set_option maxRecDepth 100000 in
theorem c_G_firstEightReversed (l : Launch) (G : zG) (B : Nat) {es : zE} {p : Nat} {nf wf : Nat → Int32} (hg : gO G B es p nf wf) : Tr l G B jy_G_firstEightReversed jb_G_firstEightReversed 5 (some .long) 1 0 0 [.ref (B + p)] es (pL fun v es' => v = id8 (nf 0) (nf 1) ∧ es' = es) := by
  obtain ⟨g1, g2, g3⟩ := hg
  refine Tr.of (ls := [some (.ref (B + p)), none, none, none, none]) (by decide +kernel) (Nat.le_of_ble_eq_true rfl) rfl ?_
  intro zp ze zs zm zb zt zc E
  refine z_aload_n (pc := 0) E jd_G_firstEightReversed_0 rfl rfl ?_
  refine z_get (pc := 1) E jf_G_9 jd_G_firstEightReversed_1 (by assumption) (by rfl) ?_
  refine z_iconst (v := 0) (pc := 4) E jd_G_firstEightReversed_4 (by decide) ?_
  refine z_iald (ti := 1) (pc := 5) E rfl jd_G_firstEightReversed_5 (by assumption) (by unfold vp_in; decide) ?_
  skip
  refine z_cS1I (pc := 6) E (c_G_reversed l G B) jc_G_40 js_G_reversed ⟨by decide, by decide⟩ jd_G_firstEightReversed_6 (Nat.le_of_ble_eq_true rfl) (by decide) (by decide) (fun v6 es6 h6 => ?_)
  obtain ⟨w6, e6⟩ := h6
  rw [e6, w6]
  refine z_i2l (pc := 9) E jd_G_firstEightReversed_9 ?_
  refine z_ldc2 (pc := 10) E jw_452 jd_G_firstEightReversed_10 ?_
  refine z_land (pc := 13) E jd_G_firstEightReversed_13 ?_
  refine z_lstore_n (pc := 14) E jd_G_firstEightReversed_14 rfl (by decide) rfl ?_
  dsimp only [List.set]
  refine z_aload_n (pc := 15) E jd_G_firstEightReversed_15 rfl rfl ?_
  refine z_get (pc := 16) E jf_G_9 jd_G_firstEightReversed_16 (by assumption) (by rfl) ?_
  refine z_iconst (v := 1) (pc := 19) E jd_G_firstEightReversed_19 (by decide) ?_
  refine z_iald (ti := 1) (pc := 20) E rfl jd_G_firstEightReversed_20 (by assumption) (by unfold vp_in; decide) ?_
  skip
  refine z_cS1I (pc := 21) E (c_G_reversed l G B) jc_G_40 js_G_reversed ⟨by decide, by decide⟩ jd_G_firstEightReversed_21 (Nat.le_of_ble_eq_true rfl) (by decide) (by decide) (fun v21 es21 h21 => ?_)
  obtain ⟨w21, e21⟩ := h21
  rw [e21, w21]
  refine z_i2l (pc := 24) E jd_G_firstEightReversed_24 ?_
  refine z_lstore_n (pc := 25) E jd_G_firstEightReversed_25 rfl (by decide) rfl ?_
  dsimp only [List.set]
  refine z_lload_n (pc := 26) E jd_G_firstEightReversed_26 rfl rfl ?_
  refine z_bipush (v := 32) (pc := 27) E jd_G_firstEightReversed_27 (by decide) ?_
  refine z_lshl (pc := 29) E jd_G_firstEightReversed_29 ?_
  refine z_lload_n (pc := 30) E jd_G_firstEightReversed_30 rfl rfl ?_
  refine z_lor (pc := 31) E jd_G_firstEightReversed_31 ?_
  exact z_lret E jd_G_firstEightReversed_32 ⟨_, rfl, rfl, rfl⟩
