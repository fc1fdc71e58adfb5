/-! constructors -/
theorem at_mid {es0 r : zE} {x : va_E} {q : Nat} (h : es0.length = q) : (es0 ++ [x] ++ r)[q]? = some x := by
  rw [List.append_assoc, List.getElem?_append_right (by omega), ← h, Nat.sub_self]; rfl
theorem at_end {es0 : zE} {x : va_E} {q : Nat} (h : es0.length = q) : (es0 ++ [x])[q]? = some x := by
  have := at_mid (r := []) (x := x) h
  rwa [List.append_nil] at this
theorem set_mid {es0 r : zE} {x y : va_E} {q : Nat} (h : es0.length = q) : (es0 ++ [x] ++ r).set q y = es0 ++ [y] ++ r := by
  rw [List.append_assoc, List.set_append_right _ _ (by omega), ← h, Nat.sub_self, List.append_assoc]; rfl
theorem set_end {es0 : zE} {x y : va_E} {q : Nat} (h : es0.length = q) : (es0 ++ [x]).set q y = es0 ++ [y] := by
  have := set_mid (r := []) (x := x) (y := y) h
  rwa [List.append_nil, List.append_nil] at this
theorem len_mid {es0 r : zE} {x : va_E} {q : Nat} (h : es0.length = q) : (es0 ++ [x] ++ r).length = q + 1 + r.length := by
  rw [List.length_append, List.length_append, h]; rfl
theorem len_end {es0 : zE} {x : va_E} {q : Nat} (h : es0.length = q) : (es0 ++ [x]).length = q + 1 := by
  rw [List.length_append, h]; rfl
def cT (G : zG) (B q : Nat) : zE := [.inr (1, [.ref (B + (q + 1)), .int 0]), .inl (G.2.1 0, 24, .inl (fun _ => 0))]
set_option maxHeartbeats 4000000 in
set_option maxRecDepth 100000 in
theorem c_T_init (l : Launch) (G : zG) (B : Nat) {es0 : zE} {q : Nat} (hq : es0.length = q) : Tr l G B jy_T_init jb_T_init 1 none 1 1 24 [.ref (B + q)] (es0 ++ [.inr (1, [.null, .int 0])]) (pV fun es' => es' = es0 ++ cT G B q) := by
  refine Tr.of (ls := [some (.ref (B + q))]) (by decide +kernel) (Nat.le_of_ble_eq_true rfl) rfl ?_
  intro zp ze zs zm zb zt zc E
  refine z_aload_n (pc := 0) E jd_T_init_0 rfl rfl ?_
  refine z_objInit (pc := 1) E ⟨jw_29, jw_22, jw_23⟩ jd_T_init_1 (Nat.le_of_ble_eq_true rfl) (Nat.le_of_ble_eq_true rfl) ?_
  refine z_aload_n (pc := 4) E jd_T_init_4 rfl rfl ?_
  refine z_bipush (v := 24) (pc := 5) E jd_T_init_5 (by decide) ?_
  refine z_newa (atype := .byte) (ty := .byte) (ti := 0) (N := 24) (a0 := (24, .inl (fun _ => 0))) (pc := 7) E rfl (fun C h => by cases h) jw_40 rfl jd_T_init_7 (fun cA => rfl) (by decide) rfl (by decide) (by decide) (by decide) ?_
  rw [len_end hq]
  refine z_putF (pc := 9) E jp_T_9 rfl jd_T_init_9 (at_mid hq) (Nat.le_of_ble_eq_true rfl) rfl rfl (fun es9 he9 => ?_)
  dsimp only [List.set] at he9
  rw [set_mid hq] at he9
  refine z_aload_n (pc := 12) E jd_T_init_12 rfl rfl ?_
  refine z_iconst (v := 0) (pc := 13) E jd_T_init_13 (by decide) ?_
  refine z_put (pc := 14) E jp_T_15 jd_T_init_14 (by rw [he9]; exact at_mid hq) (Nat.le_of_ble_eq_true rfl) rfl rfl (fun es14 he14 => ?_)
  dsimp only [List.set] at he14
  rw [he9, set_mid hq] at he14
  exact z_vret E jd_T_init_17 ⟨rfl, by rw [he14, List.append_assoc]; rfl⟩
def cE (G : zG) (B q : Nat) : zE := [.inr (6, [.int 0, .int 0, .ref (B + (q + 1)), .ref (B + (q + 3))])] ++ (cT G B (q + 1) ++ cT G B (q + 3))
set_option maxHeartbeats 4000000 in
set_option maxRecDepth 100000 in
theorem c_E_init (l : Launch) (G : zG) (B : Nat) {es0 : zE} {q : Nat} (hq : es0.length = q) : Tr l G B jy_E_init jb_E_init 1 none 2 4 52 [.ref (B + q)] (es0 ++ [.inr (6, [.int 0, .int 0, .null, .null])]) (pV fun es' => es' = es0 ++ cE G B q) := by
  refine Tr.of (ls := [some (.ref (B + q))]) (by decide +kernel) (Nat.le_of_ble_eq_true rfl) rfl ?_
  intro zp ze zs zm zb zt zc E
  refine z_aload_n (pc := 0) E jd_E_init_0 rfl rfl ?_
  refine z_objInit (pc := 1) E ⟨jw_96, jw_22, jw_23⟩ jd_E_init_1 (Nat.le_of_ble_eq_true rfl) (Nat.le_of_ble_eq_true rfl) ?_
  refine z_aload_n (pc := 4) E jd_E_init_4 rfl rfl ?_
  refine z_iconst (v := 0) (pc := 5) E jd_E_init_5 (by decide) ?_
  refine z_put (pc := 6) E jp_E_9 jd_E_init_6 (at_end hq) (Nat.le_of_ble_eq_true rfl) rfl rfl (fun es6 he6 => ?_)
  dsimp only [List.set] at he6
  rw [set_end hq] at he6
  refine z_aload_n (pc := 9) E jd_E_init_9 rfl rfl ?_
  refine z_iconst (v := 0) (pc := 10) E jd_E_init_10 (by decide) ?_
  refine z_put (pc := 11) E jp_E_15 jd_E_init_11 (by rw [he6]; exact at_end hq) (Nat.le_of_ble_eq_true rfl) rfl rfl (fun es11 he11 => ?_)
  dsimp only [List.set] at he11
  rw [he6, set_end hq] at he11
  have hl : es11.length = q + 1 := by rw [he11]; exact len_end hq
  refine z_aload_n (pc := 14) E jd_E_init_14 rfl rfl ?_
  refine z_new (pc := 15) E jnw_E_18 jd_E_init_15 (by decide) (by decide) ?_
  rw [hl]
  refine z_dup (pc := 18) E jd_E_init_18 rfl ?_
  refine z_cI0V (pc := 19) E (c_T_init l G B hl) jc_E_20 ji_T_init ⟨Nat.le_of_ble_eq_true rfl, Nat.le_of_ble_eq_true rfl⟩ jd_E_init_19 (Nat.le_of_ble_eq_true rfl) (by decide) (by decide) (fun es19 h19 => ?_)
  rw [he11] at h19
  refine z_putF (pc := 22) E jp_E_21 rfl jd_E_init_22 (by rw [h19]; exact at_mid hq) (Nat.le_of_ble_eq_true rfl) rfl rfl (fun es22 he22 => ?_)
  dsimp only [List.set] at he22
  rw [h19, set_mid hq] at he22
  have hl2 : es22.length = q + 3 := by rw [he22, len_mid hq]; rfl
  refine z_aload_n (pc := 25) E jd_E_init_25 rfl rfl ?_
  refine z_new (pc := 26) E jnw_E_18 jd_E_init_26 (by decide) (by decide) ?_
  rw [hl2]
  refine z_dup (pc := 29) E jd_E_init_29 rfl ?_
  refine z_cI0V (pc := 30) E (c_T_init l G B hl2) jc_E_20 ji_T_init ⟨Nat.le_of_ble_eq_true rfl, Nat.le_of_ble_eq_true rfl⟩ jd_E_init_30 (Nat.le_of_ble_eq_true rfl) (by decide) (by decide) (fun es30 h30 => ?_)
  rw [he22, List.append_assoc] at h30
  refine z_putF (pc := 33) E jp_E_25 rfl jd_E_init_33 (by rw [h30]; exact at_mid hq) (Nat.le_of_ble_eq_true rfl) rfl rfl (fun es33 he33 => ?_)
  dsimp only [List.set] at he33
  rw [h30, set_mid hq] at he33
  exact z_vret E jd_E_init_36 ⟨rfl, by rw [he33, List.append_assoc]; rfl⟩
set_option maxHeartbeats 4000000 in
set_option maxRecDepth 100000 in
theorem c_L_init (l : Launch) (G : zG) (B : Nat) {es0 : zE} {q : Nat} (hq : es0.length = q) : Tr l G B jy_L_init jb_L_init 1 none 1 2 700 [.ref (B + q)] (es0 ++ [.inr (2, [.null, .int 0, .null])]) (pV fun es' => es' = es0 ++ [.inr (2, [.ref (B + (q + 1)), .int 0, .ref (B + (q + 2))]), .inl (G.2.1 0, 694, .inl (fun _ => 0)), .inl (G.2.1 1, 6, .inl (fun _ => 0))]) := by
  refine Tr.of (ls := [some (.ref (B + q))]) (by decide +kernel) (Nat.le_of_ble_eq_true rfl) rfl ?_
  intro zp ze zs zm zb zt zc E
  refine z_aload_n (pc := 0) E jd_L_init_0 rfl rfl ?_
  refine z_objInit (pc := 1) E ⟨jw_48, jw_22, jw_23⟩ jd_L_init_1 (Nat.le_of_ble_eq_true rfl) (Nat.le_of_ble_eq_true rfl) ?_
  refine z_aload_n (pc := 4) E jd_L_init_4 rfl rfl ?_
  refine z_sipush (v := 694) (pc := 5) E jd_L_init_5 (by decide) ?_
  refine z_newa (atype := .byte) (ty := .byte) (ti := 0) (N := 694) (a0 := (694, .inl (fun _ => 0))) (pc := 8) E rfl (fun C h => by cases h) jw_40 rfl jd_L_init_8 (fun cA => rfl) (by decide) rfl (by decide) (by decide) (by decide) ?_
  rw [len_end hq]
  refine z_putF (pc := 10) E jp_L_9 rfl jd_L_init_10 (at_mid hq) (Nat.le_of_ble_eq_true rfl) rfl rfl (fun es10 he10 => ?_)
  dsimp only [List.set] at he10
  rw [set_mid hq] at he10
  refine z_aload_n (pc := 13) E jd_L_init_13 rfl rfl ?_
  refine z_iconst (v := 0) (pc := 14) E jd_L_init_14 (by decide) ?_
  refine z_put (pc := 15) E jp_L_15 jd_L_init_15 (by rw [he10]; exact at_mid hq) (Nat.le_of_ble_eq_true rfl) rfl rfl (fun es15 he15 => ?_)
  dsimp only [List.set] at he15
  rw [he10, set_mid hq] at he15
  have hl : es15.length = q + 2 := by rw [he15, len_mid hq]; rfl
  refine z_aload_n (pc := 18) E jd_L_init_18 rfl rfl ?_
  refine z_bipush (v := 6) (pc := 19) E jd_L_init_19 (by decide) ?_
  refine z_newa (atype := .int) (ty := .int) (ti := 1) (N := 6) (a0 := (6, .inl (fun _ => 0))) (pc := 21) E rfl (fun C h => by cases h) jw_62 rfl jd_L_init_21 (fun cA => rfl) (by decide) rfl (by decide) (by decide) (by decide) ?_
  rw [hl]
  refine z_putF (pc := 23) E jp_L_19 rfl jd_L_init_23 (by rw [he15, List.append_assoc]; exact at_mid hq) (Nat.le_of_ble_eq_true rfl) rfl rfl (fun es23 he23 => ?_)
  dsimp only [List.set] at he23
  rw [he15, List.append_assoc, set_mid hq] at he23
  exact z_vret E jd_L_init_26 ⟨rfl, by rw [he23, List.append_assoc]; rfl⟩
set_option maxHeartbeats 4000000 in
set_option maxRecDepth 100000 in
theorem c_G_init (l : Launch) (G : zG) (B : Nat) {es0 : zE} {q : Nat} (hq : es0.length = q) : Tr l G B jy_G_init jb_G_init 1 none 1 2 85 [.ref (B + q)] (es0 ++ [.inr (3, [.null, .null])]) (pV fun es' => es' = es0 ++ [.inr (3, [.ref (B + (q + 1)), .ref (B + (q + 2))]), .inl (G.2.1 1, 5, .inl (fun _ => 0)), .inl (G.2.1 1, 80, .inl (fun _ => 0))]) := by
  refine Tr.of (ls := [some (.ref (B + q))]) (by decide +kernel) (Nat.le_of_ble_eq_true rfl) rfl ?_
  intro zp ze zs zm zb zt zc E
  refine z_aload_n (pc := 0) E jd_G_init_0 rfl rfl ?_
  refine z_objInit (pc := 1) E ⟨jw_68, jw_22, jw_23⟩ jd_G_init_1 (Nat.le_of_ble_eq_true rfl) (Nat.le_of_ble_eq_true rfl) ?_
  refine z_aload_n (pc := 4) E jd_G_init_4 rfl rfl ?_
  refine z_iconst (v := 5) (pc := 5) E jd_G_init_5 (by decide) ?_
  refine z_newa (atype := .int) (ty := .int) (ti := 1) (N := 5) (a0 := (5, .inl (fun _ => 0))) (pc := 6) E rfl (fun C h => by cases h) jw_62 rfl jd_G_init_6 (fun cA => rfl) (by decide) rfl (by decide) (by decide) (by decide) ?_
  rw [len_end hq]
  refine z_putF (pc := 8) E jp_G_9 rfl jd_G_init_8 (at_mid hq) (Nat.le_of_ble_eq_true rfl) rfl rfl (fun es8 he8 => ?_)
  dsimp only [List.set] at he8
  rw [set_mid hq] at he8
  have hl : es8.length = q + 2 := by rw [he8, len_mid hq]; rfl
  refine z_aload_n (pc := 11) E jd_G_init_11 rfl rfl ?_
  refine z_bipush (v := 80) (pc := 12) E jd_G_init_12 (by decide) ?_
  refine z_newa (atype := .int) (ty := .int) (ti := 1) (N := 80) (a0 := (80, .inl (fun _ => 0))) (pc := 14) E rfl (fun C h => by cases h) jw_62 rfl jd_G_init_14 (fun cA => rfl) (by decide) rfl (by decide) (by decide) (by decide) ?_
  rw [hl]
  refine z_putF (pc := 16) E jp_G_15 rfl jd_G_init_16 (by rw [he8, List.append_assoc]; exact at_mid hq) (Nat.le_of_ble_eq_true rfl) rfl rfl (fun es16 he16 => ?_)
  dsimp only [List.set] at he16
  rw [he8, List.append_assoc, set_mid hq] at he16
  exact z_vret E jd_G_init_19 ⟨rfl, by rw [he16, List.append_assoc]; rfl⟩
def cEs (G : zG) (B q : Nat) : Nat → zE
  | 0 => []
  | n + 1 => cEs G B q n ++ cE G B (q + 5 * n)
theorem cE_len (G : zG) (B q : Nat) : (cE G B q).length = 5 := rfl
theorem cEs_len (G : zG) (B q : Nat) : ∀ n, (cEs G B q n).length = 5 * n
  | 0 => rfl
  | n + 1 => by rw [cEs, List.length_append, cEs_len G B q n, cE_len]; omega
def rowA (B q : Nat) (n : Nat) : Nat → Option Nat := fun j => if j < n then some (B + (q + 2 + 5 * j)) else none
def cRw (G : zG) (B q most n : Nat) : zE := [.inr (5, [.ref (B + (q + 1)), .int 0])] ++ ([.inl (G.2.1 4, most, .inr (.inr (.inr (.inr (rowA B q n)))))] ++ cEs G B (q + 2) n)
theorem cRw_len (G : zG) (B q most n : Nat) : (cRw G B q most n).length = 2 + 5 * n := by
  rw [cRw, List.length_append, List.length_append, cEs_len]; simp; omega
set_option maxHeartbeats 4000000 in
set_option maxRecDepth 100000 in
theorem c_R_init (l : Launch) (G : zG) (B : Nat) {es0 : zE} {q most : Nat} (hq : es0.length = q) (hm : most ≤ 10) : Tr l G B jy_R_init jb_R_init 3 none 3 (1 + 5 * most) (57 * most) [.ref (B + q), .int (nI most)] (es0 ++ [.inr (5, [.null, .int 0])]) (pV fun es' => es' = es0 ++ cRw G B q most most) := by
  refine Tr.of (ls := [some (.ref (B + q)), some (.int (nI most)), none]) (by decide +kernel) (Nat.le_of_ble_eq_true rfl) rfl ?_
  intro zp ze zs zm zb zt zc E
  have loop : ∀ (f i : Nat) (es1 : zE), i + f = most → es1 = es0 ++ cRw G B q most i → Zj zp l ze (zr 3 (1 + 5 * most) (57 * most)) zs zm ([.ref (B + q), .int (nI most)] : List Value).toArray zb zt zc (MQ zb (zQ G B (pV fun es' => es' = es0 ++ cRw G B q most most)) ([.ref (B + q), .int (nI most)] : List Value).toArray zs (1 + 5 * most) (57 * most) (fun q => B ≤ q)) G B 3 (1 + 5 * i) (most + 56 * i) 19 [some (.ref (B + q)), some (.int (nI most)), some (.int (nI i))] [] es1 := by
    intro f
    induction f with
    | zero =>
      intro i es1 hi he
      have hi : i = most := by omega
      subst hi
      refine z_iload_n (pc := 19) E jd_R_init_19 rfl rfl ?_
      refine z_iload_n (pc := 20) E jd_R_init_20 rfl rfl ?_
      refine z_icmp_ge (pc := 21) (tgt := 43) E jd_R_init_21 (by decide) (fun c21 => ?_) (fun c21 => ?_)
      · exact z_vret E jd_R_init_43 ⟨rfl, he⟩
      · exact absurd (nI_le (Nat.le_refl _) (by omega)) c21
    | succ f ih =>
      intro i es1 hi he
      have he1 : es1 = es0 ++ [.inr (5, [.ref (B + (q + 1)), .int 0])] ++ ([.inl (G.2.1 4, most, .inr (.inr (.inr (.inr (rowA B q i)))))] ++ cEs G B (q + 2) i) := by rw [he, cRw, List.append_assoc]
      have k1 : es1[q]? = some (.inr (5, [.ref (B + (q + 1)), .int 0])) := by rw [he1]; exact at_mid hq
      have hl : es1.length = q + 2 + 5 * i := by rw [he, List.length_append, cRw_len, hq]; omega
      refine z_iload_n (pc := 19) E jd_R_init_19 rfl rfl ?_
      refine z_iload_n (pc := 20) E jd_R_init_20 rfl rfl ?_
      refine z_icmp_ge (pc := 21) (tgt := 43) E jd_R_init_21 (by decide) (fun c21 => ?_) (fun c21 => ?_)
      · exact absurd (cle c21) (by omega)
      · refine z_aload_n (pc := 24) E jd_R_init_24 rfl rfl ?_
        refine z_get (pc := 25) E jf_R_17 jd_R_init_25 (by assumption) (by rfl) ?_
        refine z_iload_n (pc := 28) E jd_R_init_28 rfl rfl ?_
        refine z_new (pc := 29) E jnw_R_15 jd_R_init_29 (by show _ ≤ 1 + 5 * most; omega) (by show _ ≤ 57 * most; omega) ?_
        rw [hl]
        refine z_dup (pc := 32) E jd_R_init_32 rfl ?_
        refine z_cI0V (pc := 33) E (c_E_init l G B hl) jc_R_21 ji_E_init ⟨Nat.le_of_ble_eq_true rfl, Nat.le_of_ble_eq_true rfl⟩ jd_R_init_33 (Nat.le_of_ble_eq_true rfl) (by show _ ≤ 1 + 5 * most; omega) (by show _ ≤ 57 * most; omega) (fun es33 h33 => ?_)
        have k2 : es33[q + 1]? = some (.inl (G.2.1 4, most, .inr (.inr (.inr (.inr (rowA B q i)))))) := by rw [h33, he1, ← List.append_assoc, List.append_assoc]; exact at_mid (len_end hq)
        have k3 : es33[q + 2 + 5 * i]? = some (.inr (6, [.int 0, .int 0, .ref (B + (q + 2 + 5 * i + 1)), .ref (B + (q + 2 + 5 * i + 3))])) := by rw [h33, List.getElem?_append_right (by omega), hl, Nat.sub_self]; rfl
        refine z_aast (ti := 4) (ci := 6) (r := ("StreamIds$Entry", jT_E, 4)) (pc := 36) E rfl rfl jd_R_init_36 k2 k3 rfl (vp_in_nI (by omega) (by omega)) (fun es36 he36 => ?_)
        rw [nI_clamp (by omega), h33, he1, ← List.append_assoc, List.append_assoc, set_mid (len_end hq)] at he36
        refine z_iinc (pc := 37) E jd_R_init_37 rfl rfl (by decide) rfl ?_
        dsimp only [List.set]
        refine z_goto (pc := 40) (tgt := 19) E jd_R_init_40 (by decide) ?_
        refine z_widen (k' := 1 + 5 * (i + 1)) (n' := most + 56 * (i + 1)) (by omega) (by omega) ?_
        have hA : va_up (rowA B q i) i (some (B + (q + 2 + 5 * i))) = rowA B q (i + 1) := by
          funext j
          by_cases hj : j = i
          · subst hj; rw [va_up_self, rowA, if_pos (by omega)]
          · rw [va_up_ne _ _ hj, rowA, rowA]
            by_cases hj2 : j < i
            · rw [if_pos hj2, if_pos (by omega)]
            · rw [if_neg hj2, if_neg (by omega)]
        have := ih (i + 1) es36 (by omega) (by rw [he36, hA, cRw, cEs]; simp only [List.append_assoc])
        rw [nI_succ i] at this
        exact this
  refine z_aload_n (pc := 0) E jd_R_init_0 rfl rfl ?_
  refine z_objInit (pc := 1) E ⟨jw_89, jw_22, jw_23⟩ jd_R_init_1 (Nat.le_of_ble_eq_true rfl) (Nat.le_of_ble_eq_true rfl) ?_
  refine z_aload_n (pc := 4) E jd_R_init_4 rfl rfl ?_
  refine z_iconst (v := 0) (pc := 5) E jd_R_init_5 (by decide) ?_
  refine z_put (pc := 6) E jp_R_9 jd_R_init_6 (at_end hq) (Nat.le_of_ble_eq_true rfl) rfl rfl (fun es6 he6 => ?_)
  dsimp only [List.set] at he6
  rw [set_end hq] at he6
  have hl : es6.length = q + 1 := by rw [he6]; exact len_end hq
  refine z_aload_n (pc := 9) E jd_R_init_9 rfl rfl ?_
  refine z_iload_n (pc := 10) E jd_R_init_10 rfl rfl ?_
  refine z_newq (ti := 4) (N := most) (C := "StreamIds$Entry") (pc := 11) E jw_90 (by decide) rfl jd_R_init_11 (nI_pos (by omega)) (nI_clamp (by omega)) (by omega) (by show _ ≤ 1 + 5 * most; omega) (by show _ ≤ 57 * most; omega) ?_
  rw [hl]
  refine z_putF (pc := 14) E jp_R_17 rfl jd_R_init_14 (by rw [he6]; exact at_mid hq) (Nat.le_of_ble_eq_true rfl) rfl rfl (fun es14 he14 => ?_)
  dsimp only [List.set] at he14
  rw [he6, set_mid hq] at he14
  refine z_iconst (v := 0) (pc := 17) E jd_R_init_17 (by decide) ?_
  refine z_istore_n (pc := 18) E jd_R_init_18 rfl (by decide) rfl ?_
  dsimp only [List.set]
  refine z_widen (k' := 1 + 5 * 0) (n' := most + 56 * 0) (by omega) (by omega) ?_
  exact loop most 0 es14 (by omega) (by rw [he14, cRw, List.append_assoc]; rfl)
