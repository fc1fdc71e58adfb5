def cD (G : zG) (B q : Nat) : zE := [.inr (4, [.int 0, .ref (B + (q + 1)), .int 0, .ref (B + (q + 3)), .ref (B + (q + 25)), .int 0, .long 0])] ++ (cT G B (q + 1) ++ (cRw G B (q + 3) 4 4 ++ cRw G B (q + 25) 10 10))
theorem cT_len (G : zG) (B q : Nat) : (cT G B q).length = 2 := rfl
theorem cD_len (G : zG) (B q : Nat) : (cD G B q).length = 77 := by
  rw [cD, List.length_append, List.length_append, List.length_append, cT_len, cRw_len, cRw_len]; rfl
set_option maxHeartbeats 4000000 in
set_option maxRecDepth 100000 in
theorem c_D_init (l : Launch) (G : zG) (B : Nat) {es0 : zE} {q : Nat} (hq : es0.length = q) : Tr l G B jy_D_init jb_D_init 1 none 4 76 828 [.ref (B + q)] (es0 ++ [.inr (4, [.int 0, .null, .int 0, .null, .null, .int 0, .long 0])]) (pV fun es' => es' = es0 ++ cD G B q) := by
  refine Tr.of (ls := [some (.ref (B + q))]) (by decide +kernel) (Nat.le_of_ble_eq_true rfl) rfl ?_
  intro zp ze zs zm zb zt zc E
  refine z_aload_n (pc := 0) E jd_D_init_0 rfl rfl ?_
  refine z_objInit (pc := 1) E ⟨jw_81, jw_22, jw_23⟩ jd_D_init_1 (Nat.le_of_ble_eq_true rfl) (Nat.le_of_ble_eq_true rfl) ?_
  refine z_aload_n (pc := 4) E jd_D_init_4 rfl rfl ?_
  refine z_iconst (v := 0) (pc := 5) E jd_D_init_5 (by decide) ?_
  refine z_put (pc := 6) E jp_D_9 jd_D_init_6 (at_end hq) (Nat.le_of_ble_eq_true rfl) rfl rfl (fun es6 he6 => ?_)
  dsimp only [List.set] at he6
  rw [set_end hq] at he6
  have hl : es6.length = q + 1 := by rw [he6]; exact len_end hq
  refine z_aload_n (pc := 9) E jd_D_init_9 rfl rfl ?_
  refine z_new (pc := 10) E jnw_D_15 jd_D_init_10 (by decide) (by decide) ?_
  rw [hl]
  refine z_dup (pc := 13) E jd_D_init_13 rfl ?_
  refine z_cI0V (pc := 14) E (c_T_init l G B hl) jc_D_17 ji_T_init ⟨Nat.le_of_ble_eq_true rfl, Nat.le_of_ble_eq_true rfl⟩ jd_D_init_14 (Nat.le_of_ble_eq_true rfl) (by decide) (by decide) (fun es14 h14 => ?_)
  rw [he6] at h14
  refine z_putF (pc := 17) E jp_D_18 rfl jd_D_init_17 (by rw [h14]; exact at_mid hq) (Nat.le_of_ble_eq_true rfl) rfl rfl (fun es17 he17 => ?_)
  dsimp only [List.set] at he17
  rw [h14, set_mid hq] at he17
  refine z_aload_n (pc := 20) E jd_D_init_20 rfl rfl ?_
  refine z_iconst (v := 0) (pc := 21) E jd_D_init_21 (by decide) ?_
  refine z_put (pc := 22) E jp_D_22 jd_D_init_22 (by rw [he17]; exact at_mid hq) (Nat.le_of_ble_eq_true rfl) rfl rfl (fun es22 he22 => ?_)
  dsimp only [List.set] at he22
  rw [he17, set_mid hq] at he22
  have hl2 : es22.length = q + 3 := by rw [he22, len_mid hq]; rfl
  refine z_aload_n (pc := 25) E jd_D_init_25 rfl rfl ?_
  refine z_new (pc := 26) E jnw_D_26 jd_D_init_26 (by decide) (by decide) ?_
  rw [hl2]
  refine z_dup (pc := 29) E jd_D_init_29 rfl ?_
  refine z_iconst (v := 4) (pc := 30) E jd_D_init_30 (by decide) ?_
  refine z_cI1V (pc := 31) E (c_R_init l G B (most := 4) hl2 (by omega)) jc_D_28 ji_R_init ⟨Nat.le_of_ble_eq_true rfl, Nat.le_of_ble_eq_true rfl⟩ jd_D_init_31 (Nat.le_of_ble_eq_true rfl) (by decide) (by decide) (fun es31 h31 => ?_)
  rw [he22, List.append_assoc] at h31
  refine z_putF (pc := 34) E jp_D_31 rfl jd_D_init_34 (by rw [h31]; exact at_mid hq) (Nat.le_of_ble_eq_true rfl) rfl rfl (fun es34 he34 => ?_)
  dsimp only [List.set] at he34
  rw [h31, set_mid hq] at he34
  have hl3 : es34.length = q + 25 := by rw [he34, len_mid hq, List.length_append, cT_len, cRw_len]
  refine z_aload_n (pc := 37) E jd_D_init_37 rfl rfl ?_
  refine z_new (pc := 38) E jnw_D_26 jd_D_init_38 (by decide) (by decide) ?_
  rw [hl3]
  refine z_dup (pc := 41) E jd_D_init_41 rfl ?_
  refine z_bipush (v := 10) (pc := 42) E jd_D_init_42 (by decide) ?_
  refine z_cI1V (pc := 44) E (c_R_init l G B (most := 10) hl3 (by omega)) jc_D_28 ji_R_init ⟨Nat.le_of_ble_eq_true rfl, Nat.le_of_ble_eq_true rfl⟩ jd_D_init_44 (Nat.le_of_ble_eq_true rfl) (by decide) (by decide) (fun es44 h44 => ?_)
  rw [he34, List.append_assoc] at h44
  refine z_putF (pc := 47) E jp_D_35 rfl jd_D_init_47 (by rw [h44]; exact at_mid hq) (Nat.le_of_ble_eq_true rfl) rfl rfl (fun es47 he47 => ?_)
  dsimp only [List.set] at he47
  rw [h44, set_mid hq] at he47
  refine z_aload_n (pc := 50) E jd_D_init_50 rfl rfl ?_
  refine z_iconst (v := 0) (pc := 51) E jd_D_init_51 (by decide) ?_
  refine z_put (pc := 52) E jp_D_38 jd_D_init_52 (by rw [he47]; exact at_mid hq) (Nat.le_of_ble_eq_true rfl) rfl rfl (fun es52 he52 => ?_)
  dsimp only [List.set] at he52
  rw [he47, set_mid hq] at he52
  refine z_aload_n (pc := 55) E jd_D_init_55 rfl rfl ?_
  refine z_lconst (v := 0) (pc := 56) E jd_D_init_56 (by decide) ?_
  refine z_put (pc := 57) E jp_D_41 jd_D_init_57 (by rw [he52]; exact at_mid hq) (Nat.le_of_ble_eq_true rfl) rfl rfl (fun es57 he57 => ?_)
  dsimp only [List.set] at he57
  rw [he52, set_mid hq] at he57
  exact z_vret E jd_D_init_60 ⟨rfl, by rw [he57, cD]; simp only [List.append_assoc]⟩
def cDs (G : zG) (B q : Nat) : Nat → zE
  | 0 => []
  | n + 1 => cDs G B q n ++ cD G B (q + 77 * n)
theorem cDs_len (G : zG) (B q : Nat) : ∀ n, (cDs G B q n).length = 77 * n
  | 0 => rfl
  | n + 1 => by rw [cDs, List.length_append, cDs_len G B q n, cD_len]; omega
def decA (B q : Nat) (n : Nat) : Nat → Option Nat := fun j => if j < n then some (B + (q + 12 + 77 * j)) else none
def cL (G : zG) (B q : Nat) : zE := [.inr (2, [.ref (B + (q + 1)), .int 0, .ref (B + (q + 2))]), .inl (G.2.1 0, 694, .inl (fun _ => 0)), .inl (G.2.1 1, 6, .inl (fun _ => 0))]
def cGd (G : zG) (B q : Nat) : zE := [.inr (3, [.ref (B + (q + 1)), .ref (B + (q + 2))]), .inl (G.2.1 1, 5, .inl (fun _ => 0)), .inl (G.2.1 1, 80, .inl (fun _ => 0))]
/-- the object, its two texts -/
def cS1 (G : zG) (B q : Nat) : zE := [.inr (0, [.ref (B + (q + 1)), .ref (B + (q + 3)), .ref (B + (q + 5)), .ref (B + (q + 6)), .ref (B + (q + 9))])] ++ (cT G B (q + 1) ++ cT G B (q + 3))
def cS (G : zG) (B q n : Nat) : zE := cS1 G B q ++ ([.inl (G.2.1 5, 4, .inr (.inr (.inr (.inr (decA B q n)))))] ++ (cL G B (q + 6) ++ (cGd G B (q + 9) ++ cDs G B (q + 12) n)))
theorem cS1_len (G : zG) (B q : Nat) : (cS1 G B q).length = 5 := rfl
theorem cS_len (G : zG) (B q n : Nat) : (cS G B q n).length = 12 + 77 * n := by
  rw [cS, List.length_append, List.length_append, List.length_append, List.length_append, cS1_len, cDs_len]
  show 5 + (1 + (3 + (3 + 77 * n))) = _
  omega
set_option maxHeartbeats 4000000 in
set_option maxRecDepth 100000 in
theorem c_S_init (l : Launch) (G : zG) (B : Nat) {es0 : zE} {q : Nat} (hq : es0.length = q) : Tr l G B jy_S_init jb_S_init 2 none 5 319 4186 [.ref (B + q)] (es0 ++ [.inr (0, [.null, .null, .null, .null, .null])]) (pV fun es' => es' = es0 ++ cS G B q 4) := by
  refine Tr.of (ls := [some (.ref (B + q)), none]) (by decide +kernel) (Nat.le_of_ble_eq_true rfl) rfl ?_
  intro zp ze zs zm zb zt zc E
  have loop : ∀ (f i : Nat) (es1 : zE), i + f = 4 → es1 = es0 ++ cS G B q i → Zj zp l ze (zr 5 319 4186) zs zm ([.ref (B + q)] : List Value).toArray zb zt zc (MQ zb (zQ G B (pV fun es' => es' = es0 ++ cS G B q 4)) ([.ref (B + q)] : List Value).toArray zs 319 4186 (fun q => B ≤ q)) G B 2 (11 + 77 * i) (846 + 835 * i) 58 [some (.ref (B + q)), some (.int (nI i))] [] es1 := by
    intro f
    induction f with
    | zero =>
      intro i es1 hi he
      have hi : i = 4 := by omega
      subst hi
      refine z_iload_n (pc := 58) E jd_S_init_58 rfl rfl ?_
      refine z_iconst (v := 4) (pc := 59) E jd_S_init_59 (by decide) ?_
      refine z_icmp_ge (pc := 60) (tgt := 82) E jd_S_init_60 (by decide) (fun c60 => ?_) (fun c60 => ?_)
      · exact z_vret E jd_S_init_82 ⟨rfl, he⟩
      · exact absurd (nI_le (a := 4) (b := 4) (Nat.le_refl _) (by omega)) c60
    | succ f ih =>
      intro i es1 hi he
      have he0 : es1 = es0 ++ [.inr (0, [.ref (B + (q + 1)), .ref (B + (q + 3)), .ref (B + (q + 5)), .ref (B + (q + 6)), .ref (B + (q + 9))])] ++ ((cT G B (q + 1) ++ cT G B (q + 3)) ++ ([.inl (G.2.1 5, 4, .inr (.inr (.inr (.inr (decA B q i)))))] ++ (cL G B (q + 6) ++ (cGd G B (q + 9) ++ cDs G B (q + 12) i)))) := by rw [he, cS, cS1]; simp only [List.append_assoc]
      have he1 : es1 = (es0 ++ cS1 G B q) ++ [.inl (G.2.1 5, 4, .inr (.inr (.inr (.inr (decA B q i)))))] ++ (cL G B (q + 6) ++ (cGd G B (q + 9) ++ cDs G B (q + 12) i)) := by rw [he, cS]; simp only [List.append_assoc]
      have hq5 : (es0 ++ cS1 G B q).length = q + 5 := by rw [List.length_append, cS1_len, hq]
      have k1 : es1[q]? = some (.inr (0, [.ref (B + (q + 1)), .ref (B + (q + 3)), .ref (B + (q + 5)), .ref (B + (q + 6)), .ref (B + (q + 9))])) := by rw [he0]; exact at_mid hq
      have hl : es1.length = q + 12 + 77 * i := by rw [he, List.length_append, cS_len, hq]; omega
      refine z_iload_n (pc := 58) E jd_S_init_58 rfl rfl ?_
      refine z_iconst (v := 4) (pc := 59) E jd_S_init_59 (by decide) ?_
      refine z_icmp_ge (pc := 60) (tgt := 82) E jd_S_init_60 (by decide) (fun c60 => ?_) (fun c60 => ?_)
      · exact absurd (cle (a := 4) c60) (by omega)
      · refine z_aload_n (pc := 63) E jd_S_init_63 rfl rfl ?_
        refine z_get (pc := 64) E jf_S_21 jd_S_init_64 (by assumption) (by rfl) ?_
        refine z_iload_n (pc := 67) E jd_S_init_67 rfl rfl ?_
        refine z_new (pc := 68) E jnw_S_19 jd_S_init_68 (by show _ ≤ 319; omega) (by show _ ≤ 4186; omega) ?_
        rw [hl]
        refine z_dup (pc := 71) E jd_S_init_71 rfl ?_
        refine z_cI0V (pc := 72) E (c_D_init l G B hl) jc_S_39 ji_D_init ⟨Nat.le_of_ble_eq_true rfl, Nat.le_of_ble_eq_true rfl⟩ jd_S_init_72 (Nat.le_of_ble_eq_true rfl) (by show _ ≤ 319; omega) (by show _ ≤ 4186; omega) (fun es72 h72 => ?_)
        have k2 : es72[q + 5]? = some (.inl (G.2.1 5, 4, .inr (.inr (.inr (.inr (decA B q i)))))) := by rw [h72, he1, List.append_assoc]; exact at_mid hq5
        have k3 : es72[q + 12 + 77 * i]? = some (.inr (4, [.int 0, .ref (B + (q + 12 + 77 * i + 1)), .int 0, .ref (B + (q + 12 + 77 * i + 3)), .ref (B + (q + 12 + 77 * i + 25)), .int 0, .long 0])) := by rw [h72, List.getElem?_append_right (by omega), hl, Nat.sub_self]; rfl
        refine z_aast (ti := 5) (ci := 4) (r := ("StreamIds$Declaration", jT_D, 7)) (pc := 75) E rfl rfl jd_S_init_75 k2 k3 rfl (vp_in_nI (by omega) (by omega)) (fun es75 he75 => ?_)
        rw [nI_clamp (by omega), h72, he1, List.append_assoc, set_mid hq5] at he75
        refine z_iinc (pc := 76) E jd_S_init_76 rfl rfl (by decide) rfl ?_
        dsimp only [List.set]
        refine z_goto (pc := 79) (tgt := 58) E jd_S_init_79 (by decide) ?_
        refine z_widen (k' := 11 + 77 * (i + 1)) (n' := 846 + 835 * (i + 1)) (by omega) (by omega) ?_
        have hA : va_up (decA B q i) i (some (B + (q + 12 + 77 * i))) = decA B q (i + 1) := by
          funext j
          by_cases hj : j = i
          · subst hj; rw [va_up_self, decA, if_pos (by omega)]
          · rw [va_up_ne _ _ hj, decA, decA]
            by_cases hj2 : j < i
            · rw [if_pos hj2, if_pos (by omega)]
            · rw [if_neg hj2, if_neg (by omega)]
        have := ih (i + 1) es75 (by omega) (by rw [he75, hA, cS, cDs]; simp only [List.append_assoc])
        rw [nI_succ i] at this
        exact this
  refine z_aload_n (pc := 0) E jd_S_init_0 rfl rfl ?_
  refine z_objInit (pc := 1) E ⟨jw_21, jw_22, jw_23⟩ jd_S_init_1 (Nat.le_of_ble_eq_true rfl) (Nat.le_of_ble_eq_true rfl) ?_
  refine z_aload_n (pc := 4) E jd_S_init_4 rfl rfl ?_
  refine z_new (pc := 5) E jnw_S_9 jd_S_init_5 (by decide) (by decide) ?_
  rw [len_end hq]
  refine z_dup (pc := 8) E jd_S_init_8 rfl ?_
  refine z_cI0V (pc := 9) E (c_T_init l G B (len_end hq)) jc_S_11 ji_T_init ⟨Nat.le_of_ble_eq_true rfl, Nat.le_of_ble_eq_true rfl⟩ jd_S_init_9 (Nat.le_of_ble_eq_true rfl) (by decide) (by decide) (fun es9 h9 => ?_)
  skip
  refine z_putF (pc := 12) E jp_S_12 rfl jd_S_init_12 (by rw [h9]; exact at_mid hq) (Nat.le_of_ble_eq_true rfl) rfl rfl (fun es12 he12 => ?_)
  dsimp only [List.set] at he12
  rw [h9, set_mid hq] at he12
  have hl2 : es12.length = q + 3 := by rw [he12, len_mid hq]; rfl
  refine z_aload_n (pc := 15) E jd_S_init_15 rfl rfl ?_
  refine z_new (pc := 16) E jnw_S_9 jd_S_init_16 (by decide) (by decide) ?_
  rw [hl2]
  refine z_dup (pc := 19) E jd_S_init_19 rfl ?_
  refine z_cI0V (pc := 20) E (c_T_init l G B hl2) jc_S_11 ji_T_init ⟨Nat.le_of_ble_eq_true rfl, Nat.le_of_ble_eq_true rfl⟩ jd_S_init_20 (Nat.le_of_ble_eq_true rfl) (by decide) (by decide) (fun es20 h20 => ?_)
  rw [he12, List.append_assoc] at h20
  refine z_putF (pc := 23) E jp_S_16 rfl jd_S_init_23 (by rw [h20]; exact at_mid hq) (Nat.le_of_ble_eq_true rfl) rfl rfl (fun es23 he23 => ?_)
  dsimp only [List.set] at he23
  rw [h20, set_mid hq] at he23
  have hl3 : es23.length = q + 5 := by rw [he23, len_mid hq]; rfl
  refine z_aload_n (pc := 26) E jd_S_init_26 rfl rfl ?_
  refine z_iconst (v := 4) (pc := 27) E jd_S_init_27 (by decide) ?_
  refine z_newq (ti := 5) (N := 4) (C := "StreamIds$Declaration") (pc := 28) E jw_41 (by decide) rfl jd_S_init_28 (by decide) rfl (by decide) (by decide) (by decide) ?_
  rw [hl3]
  refine z_putF (pc := 31) E jp_S_21 rfl jd_S_init_31 (by rw [he23, List.append_assoc]; exact at_mid hq) (Nat.le_of_ble_eq_true rfl) rfl rfl (fun es31 he31 => ?_)
  dsimp only [List.set] at he31
  rw [he23, List.append_assoc, set_mid hq] at he31
  have hl4 : es31.length = q + 6 := by rw [he31, len_mid hq]; rfl
  refine z_aload_n (pc := 34) E jd_S_init_34 rfl rfl ?_
  refine z_new (pc := 35) E jnw_S_25 jd_S_init_35 (by decide) (by decide) ?_
  rw [hl4]
  refine z_dup (pc := 38) E jd_S_init_38 rfl ?_
  refine z_cI0V (pc := 39) E (c_L_init l G B hl4) jc_S_27 ji_L_init ⟨Nat.le_of_ble_eq_true rfl, Nat.le_of_ble_eq_true rfl⟩ jd_S_init_39 (Nat.le_of_ble_eq_true rfl) (by decide) (by decide) (fun es39 h39 => ?_)
  rw [he31, List.append_assoc] at h39
  refine z_putF (pc := 42) E jp_S_28 rfl jd_S_init_42 (by rw [h39]; exact at_mid hq) (Nat.le_of_ble_eq_true rfl) rfl rfl (fun es42 he42 => ?_)
  dsimp only [List.set] at he42
  rw [h39, set_mid hq] at he42
  have hl5 : es42.length = q + 9 := by rw [he42, len_mid hq]; rfl
  refine z_aload_n (pc := 45) E jd_S_init_45 rfl rfl ?_
  refine z_new (pc := 46) E jnw_S_32 jd_S_init_46 (by decide) (by decide) ?_
  rw [hl5]
  refine z_dup (pc := 49) E jd_S_init_49 rfl ?_
  refine z_cI0V (pc := 50) E (c_G_init l G B hl5) jc_S_34 ji_G_init ⟨Nat.le_of_ble_eq_true rfl, Nat.le_of_ble_eq_true rfl⟩ jd_S_init_50 (Nat.le_of_ble_eq_true rfl) (by decide) (by decide) (fun es50 h50 => ?_)
  rw [he42, List.append_assoc] at h50
  refine z_putF (pc := 53) E jp_S_35 rfl jd_S_init_53 (by rw [h50]; exact at_mid hq) (Nat.le_of_ble_eq_true rfl) rfl rfl (fun es53 he53 => ?_)
  dsimp only [List.set] at he53
  rw [h50, set_mid hq] at he53
  refine z_iconst (v := 0) (pc := 56) E jd_S_init_56 (by decide) ?_
  refine z_istore_n (pc := 57) E jd_S_init_57 rfl (by decide) rfl ?_
  dsimp only [List.set]
  refine z_widen (k' := 11 + 77 * 0) (n' := 846 + 835 * 0) (by omega) (by omega) ?_
  exact loop 4 0 es53 rfl (by rw [he53, cS, cS1, cL, cGd]; simp only [List.append_assoc]; rfl)
/-! what the new cells hold -/
def Seg (es : zE) (p : Nat) (xs : zE) : Prop := ∀ (i : Nat) (x : va_E), xs[i]? = some x → es[p + i]? = some x
theorem Seg.of {es0 xs : zE} {q : Nat} (h : es0.length = q) : Seg (es0 ++ xs) q xs := fun i x hx => by
  rw [List.getElem?_append_right (by omega), h, Nat.add_sub_cancel_left]; exact hx
theorem Seg.l {es a b : zE} {p : Nat} (h : Seg es p (a ++ b)) : Seg es p a := fun i x hx => h i x (by rw [List.getElem?_append_left (List.getElem?_eq_some_iff.mp hx).1]; exact hx)
theorem Seg.r {es a b : zE} {p n : Nat} (h : Seg es p (a ++ b)) (hn : a.length = n) : Seg es (p + n) b := fun i x hx => by
  have := h (n + i) x (by rw [List.getElem?_append_right (by omega), hn, Nat.add_sub_cancel_left]; exact hx)
  rwa [← Nat.add_assoc] at this
theorem Seg.zTx {G : zG} {B : Nat} {es : zE} {p : Nat} (h : Seg es p (cT G B p)) : tx G B es p [] :=
  ⟨fun _ => 0, h 0 _ rfl, h 1 _ rfl, Nat.zero_le _, fun j hj => absurd hj (Nat.not_lt_zero _), fun x hx => by cases hx⟩
def e0 : Ent := (0, 0, [], [])
theorem Seg.zEn {G : zG} {B : Nat} {es : zE} {p : Nat} (h : Seg es p (cE G B p)) : en G B es p e0 :=
  ⟨h 0 _ rfl, (h.r (n := 1) rfl).l.zTx, ((h.r (n := 1) rfl).r (n := 2) rfl).zTx, by decide⟩
theorem Seg.zEns {G : zG} {B : Nat} {es : zE} {p : Nat} : ∀ n, Seg es p (cEs G B p n) → ∀ j, j < n → en G B es (p + 5 * j) e0
  | n + 1, h, j, hj => by
    by_cases e : j = n
    · subst e
      exact Seg.zEn (Seg.r h (cEs_len G B p j))
    · exact Seg.zEns n (Seg.l h) j (by omega)
theorem Seg.zRow {G : zG} {B : Nat} {es : zE} {p most : Nat} (hm : most ≤ 10) (h : Seg es p (cRw G B p most most)) : rO G B es p most (fun j => j) (fun _ => e0) 0 := by
  refine ⟨h 0 _ rfl, ⟨_, (h.r (n := 1) rfl).l 0 _ rfl, fun j hj => by rw [rowA, if_pos hj]⟩, Nat.zero_le _, hm, fun j hj => hj, fun i j _ _ h => h, fun j hj => ?_⟩
  exact Seg.zEns most ((h.r (n := 1) rfl).r (n := 1) rfl) j hj
def d0 : DT := (0, [], 0, fun _ => e0, 0, fun _ => e0, 0, 0, 0)
theorem Seg.zDcl {G : zG} {B : Nat} {es : zE} {p : Nat} (h : Seg es p (cD G B p)) : dA G B es p d0 :=
  ⟨_, _, h 0 _ rfl, (h.r (n := 1) rfl).l.zTx, Seg.zRow (by decide) ((h.r (n := 1) rfl).r (n := 2) rfl).l, Seg.zRow (by decide) (((h.r (n := 1) rfl).r (n := 2) rfl).r (n := 22) (cRw_len G B (p + 3) 4 4))⟩
theorem Seg.zDcls {G : zG} {B : Nat} {es : zE} {p : Nat} : ∀ n, Seg es p (cDs G B p n) → ∀ j, j < n → dA G B es (p + 77 * j) d0
  | n + 1, h, j, hj => by
    by_cases e : j = n
    · subst e
      exact Seg.zDcl (Seg.r h (cDs_len G B p j))
    · exact Seg.zDcls n (Seg.l h) j (by omega)
theorem Seg.zSA {G : zG} {B : Nat} {es : zE} {o : Nat} (h : Seg es o (cS G B o 4)) : sA G B es o [] [] (fun _ => d0) := by
  have h1 := h.l
  have h2 := h.r (n := 5) rfl
  have h3 := h2.r (n := 1) rfl
  have h4 := h3.r (n := 3) rfl
  have h5 := h4.r (n := 3) rfl
  refine ⟨h1 0 _ rfl, (h1.r (n := 1) rfl).l.zTx, ((h1.r (n := 1) rfl).r (n := 2) rfl).zTx, ⟨_, h2 0 _ rfl, fun c hc => by rw [decA, if_pos hc]⟩, ⟨[], _, _, h3.l 0 _ rfl, h3.l 1 _ rfl, h3.l 2 _ rfl, Nat.zero_le _, fun j hj => absurd hj (Nat.not_lt_zero _), fun x hx => by cases hx⟩, ⟨_, _, h4.l 0 _ rfl, h4.l 1 _ rfl, h4.l 2 _ rfl⟩, fun c hc => Seg.zDcls 4 h5 c hc⟩
