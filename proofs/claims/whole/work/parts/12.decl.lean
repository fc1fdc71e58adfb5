/-! Declaration, Layout.write -/
def dO (G : zG) (B : Nat) (es : zE) (q : Nat) (th : Int32) (nm : List Nat) (mo : Int32) (wf : Nat → Nat) (Ef : Nat → Ent) (uf : Nat) (wm : Nat → Nat) (Em : Nat → Ent) (um : Nat) (ho : Int32) (oi : Int64) : Prop :=
  es[q]? = some (.inr (4, [.int th, .ref (B + (q + 1)), .int mo, .ref (B + (q + 3)), .ref (B + (q + 25)), .int ho, .long oi])) ∧ tx G B es (q + 1) nm ∧ rO G B es (q + 3) 4 wf Ef uf ∧ rO G B es (q + 25) 10 wm Em um
theorem dO.kept {G : zG} {B : Nat} {es es' : zE} {q : Nat} {th : Int32} {nm : List Nat} {mo : Int32} {wf : Nat → Nat} {Ef : Nat → Ent} {uf : Nat} {wm : Nat → Nat} {Em : Nat → Ent} {um : Nat} {ho : Int32} {oi : Int64} (h : dO G B es q th nm mo wf Ef uf wm Em um ho oi) (hk : ∀ j, q ≤ j → j < q + 77 → es'[j]? = es[j]?) : dO G B es' q th nm mo wf Ef uf wm Em um ho oi :=
  ⟨(hk q (by omega) (by omega)).trans h.1, h.2.1.kept (fun j h1 h2 => hk j (by omega) (by omega)), h.2.2.1.kept (fun j h1 h2 => hk j (by omega) (by omega)), h.2.2.2.kept (fun j h1 h2 => hk j (by omega) (by omega))⟩
theorem dO.fr {G : zG} {B : Nat} {es es' : zE} {q lo hi : Nat} {th : Int32} {nm : List Nat} {mo : Int32} {wf : Nat → Nat} {Ef : Nat → Ent} {uf : Nat} {wm : Nat → Nat} {Em : Nat → Ent} {um : Nat} {ho : Int32} {oi : Int64} (h : dO G B es q th nm mo wf Ef uf wm Em um ho oi) (hk : Fr es es' lo hi) (hx : q + 77 ≤ lo ∨ hi ≤ q) : dO G B es' q th nm mo wf Ef uf wm Em um ho oi := h.kept (fun j h1 h2 => hk.2 j (by omega))
theorem rO.used {G : zG} {B : Nat} {es es1 : zE} {p most u u' : Nat} {w : Nat → Nat} {E : Nat → Ent} (h : rO G B es p most w E u) (he : es1 = es.set p (.inr (5, [.ref (B + (p + 1)), .int (nI u')]))) (hu : u' ≤ most) : rO G B es1 p most w E u' := by
  obtain ⟨h1, ⟨a, h2, h3⟩, h4, h5, h6, h7, h8⟩ := h
  have F : Fr es es1 p (p + 1) := Fr.set he (by omega) (by omega)
  exact ⟨zs_eq he h1, ⟨a, F.at (by omega) h2, h3⟩, hu, h5, h6, h7, fun j hj => (h8 j hj).fr F (by omega)⟩
set_option maxHeartbeats 4000000 in
set_option maxRecDepth 100000 in
theorem c_D_begin (l : Launch) (G : zG) (B : Nat) {es : zE} {q pn : Nat} {th : Int32} {nm : List Nat} {mo : Int32} {wf : Nat → Nat} {Ef : Nat → Ent} {uf : Nat} {wm : Nat → Nat} {Em : Nat → Ent} {um : Nat} {ho : Int32} {oi : Int64} {n' : List Nat} {m' : Int32} (h : dO G B es q th nm mo wf Ef uf wm Em um ho oi) (hn : tx G B es pn n') (d1 : pn + 2 ≤ q ∨ q + 77 ≤ pn) : Tr l G B jy_D_begin jb_D_begin 3 none 3 0 0 [.ref (B + q), .ref (B + pn), .int m'] es (pV fun es' => dO G B es' q 1 n' m' wf Ef 0 wm Em 0 0 oi ∧ Fr es es' q (q + 77)) := by
  obtain ⟨h1, h2, h3, h4⟩ := h
  refine Tr.of (ls := [some (.ref (B + q)), some (.ref (B + pn)), some (.int m')]) (by decide +kernel) (Nat.le_of_ble_eq_true rfl) rfl ?_
  intro zp ze zs zm zb zt zc E
  refine z_aload_n (pc := 0) E jd_D_begin_0 rfl rfl ?_
  refine z_iconst (v := 1) (pc := 1) E jd_D_begin_1 (by decide) ?_
  refine z_put (pc := 2) E jp_D_9 jd_D_begin_2 (by assumption) (Nat.le_of_ble_eq_true rfl) rfl rfl (fun es2 he2 => ?_)
  dsimp only [List.set] at he2
  have F2 : Fr es es2 q (q + 1) := Fr.set he2 (by omega) (by omega)
  have k1 := zs_eq he2 h1
  have t1 := h2.fr F2 (by omega)
  have t2 := hn.fr F2 (by omega)
  have t1o := t1.obj
  refine z_aload_n (pc := 5) E jd_D_begin_5 rfl rfl ?_
  refine z_get (pc := 6) E jf_D_18 jd_D_begin_6 (by assumption) (by rfl) ?_
  refine z_aload_n (pc := 9) E jd_D_begin_9 rfl rfl ?_
  refine z_cV1V (pc := 10) E (c_T_become l G B t1 t2 (by omega)) jc_D_45 jv_T_become rfl (by assumption) ⟨by decide, by decide⟩ jd_D_begin_10 (Nat.le_of_ble_eq_true rfl) (by decide) (by decide) (fun es10 h10 => ?_)
  obtain ⟨w10, F10⟩ := h10
  have k2 := F10.at (by omega) k1
  have G10 : Fr es es10 q (q + 3) := F2.tr F10 (by omega) (by omega) (by omega) (by omega)
  refine z_aload_n (pc := 13) E jd_D_begin_13 rfl rfl ?_
  refine z_iload_n (pc := 14) E jd_D_begin_14 rfl rfl ?_
  refine z_put (pc := 15) E jp_D_22 jd_D_begin_15 (by assumption) (Nat.le_of_ble_eq_true rfl) rfl rfl (fun es15 he15 => ?_)
  dsimp only [List.set] at he15
  have k3 := zs_eq he15 k2
  have G15 : Fr es es15 q (q + 3) := G10.tr (Fr.set (lo := q) (hi := q + 3) he15 (by omega) (by omega)) (by omega) (by omega) (by omega) (by omega)
  have w15 := w10.fr (Fr.set (lo := q) (hi := q + 1) he15 (by omega) (by omega)) (by omega)
  have r15 := h3.fr G15 (by omega)
  have s15 := h4.fr G15 (by omega)
  have ro := r15.1
  refine z_aload_n (pc := 18) E jd_D_begin_18 rfl rfl ?_
  refine z_get (pc := 19) E jf_D_31 jd_D_begin_19 (by assumption) (by rfl) ?_
  refine z_iconst (v := 0) (pc := 22) E jd_D_begin_22 (by decide) ?_
  refine z_put (pc := 23) E jp_D_49 jd_D_begin_23 (by assumption) (Nat.le_of_ble_eq_true rfl) rfl rfl (fun es23 he23 => ?_)
  dsimp only [List.set] at he23
  have F23 : Fr es15 es23 (q + 3) (q + 4) := Fr.set he23 (by omega) (by omega)
  have r23 := r15.used (u' := 0) he23 (by omega)
  have s23 := s15.fr F23 (by omega)
  have so := s23.1
  have k4 := F23.at (by omega) k3
  refine z_aload_n (pc := 26) E jd_D_begin_26 rfl rfl ?_
  refine z_get (pc := 27) E jf_D_35 jd_D_begin_27 (by assumption) (by rfl) ?_
  refine z_iconst (v := 0) (pc := 30) E jd_D_begin_30 (by decide) ?_
  refine z_put (pc := 31) E jp_D_49 jd_D_begin_31 (by assumption) (Nat.le_of_ble_eq_true rfl) rfl rfl (fun es31 he31 => ?_)
  dsimp only [List.set] at he31
  have F31 : Fr es23 es31 (q + 25) (q + 26) := Fr.set he31 (by omega) (by omega)
  have s31 := s23.used (u' := 0) he31 (by omega)
  have r31 := r23.fr F31 (by omega)
  have k5 := F31.at (by omega) k4
  have w31 := (w15.fr F23 (by omega)).fr F31 (by omega)
  refine z_aload_n (pc := 34) E jd_D_begin_34 rfl rfl ?_
  refine z_iconst (v := 0) (pc := 35) E jd_D_begin_35 (by decide) ?_
  refine z_put (pc := 36) E jp_D_38 jd_D_begin_36 (by assumption) (Nat.le_of_ble_eq_true rfl) rfl rfl (fun es36 he36 => ?_)
  dsimp only [List.set] at he36
  have F36 : Fr es31 es36 q (q + 1) := Fr.set he36 (by omega) (by omega)
  have k6 := zs_eq he36 k5
  have ok : dO G B es36 q 1 n' m' wf Ef 0 wm Em 0 0 oi := ⟨k6, w31.fr F36 (by omega), r31.fr F36 (by omega), s31.fr F36 (by omega)⟩
  have FF : Fr es es36 q (q + 77) := ((G15.tr F23 (lo := q) (hi := q + 77) (by omega) (by omega) (by omega) (by omega)).tr F31 (lo := q) (hi := q + 77) (by omega) (by omega) (by omega) (by omega)).tr F36 (by omega) (by omega) (by omega) (by omega)
  exact z_vret E jd_D_begin_39 ⟨rfl, ok, FF⟩
/-- a class's MODIFIERS as they are hashed; t: how many METHODS it has -/
def hmo (mo : Int32) (t : Nat) : Int32 := if mo &&& 512 = 0 then mo &&& 1553 else if 0 < t then (mo &&& 1553) ||| 1024 else (mo &&& 1553) &&& (-1025)
set_option maxHeartbeats 4000000 in
set_option maxRecDepth 100000 in
theorem c_D_hashedModifiers (l : Launch) (G : zG) (B : Nat) {es : zE} {q : Nat} {th : Int32} {nm : List Nat} {mo : Int32} {wf : Nat → Nat} {Ef : Nat → Ent} {uf : Nat} {wm : Nat → Nat} {Em : Nat → Ent} {um : Nat} {ho : Int32} {oi : Int64} (h : dO G B es q th nm mo wf Ef uf wm Em um ho oi) : Tr l G B jy_D_hashedModifiers jb_D_hashedModifiers 2 (some .int) 1 0 0 [.ref (B + q)] es (pI fun v es' => v = hmo mo (tal Em 2 um) ∧ es' = es) := by
  obtain ⟨h1, h2, h3, h4⟩ := h
  have h4o := h4.1
  have hum := h4.2.2.1
  have htl := tal_le Em 2 um
  refine Tr.of (ls := [some (.ref (B + q)), none]) (by decide +kernel) (Nat.le_of_ble_eq_true rfl) rfl ?_
  intro zp ze zs zm zb zt zc E
  refine z_aload_n (pc := 0) E jd_D_hashedModifiers_0 rfl rfl ?_
  refine z_get (pc := 1) E jf_D_22 jd_D_hashedModifiers_1 (by assumption) (by rfl) ?_
  refine z_sipush (v := 1553) (pc := 4) E jd_D_hashedModifiers_4 (by decide) ?_
  refine z_iand (pc := 7) E jd_D_hashedModifiers_7 ?_
  refine z_istore_n (pc := 8) E jd_D_hashedModifiers_8 rfl (by decide) rfl ?_
  dsimp only [List.set]
  refine z_aload_n (pc := 9) E jd_D_hashedModifiers_9 rfl rfl ?_
  refine z_get (pc := 10) E jf_D_22 jd_D_hashedModifiers_10 (by assumption) (by rfl) ?_
  refine z_sipush (v := 512) (pc := 13) E jd_D_hashedModifiers_13 (by decide) ?_
  refine z_iand (pc := 16) E jd_D_hashedModifiers_16 ?_
  refine z_if_ne (pc := 17) (tgt := 22) E jd_D_hashedModifiers_17 (by decide) (fun c17 => ?_) (fun c17 => ?_)
  · refine z_aload_n (pc := 22) E jd_D_hashedModifiers_22 rfl rfl ?_
    refine z_get (pc := 23) E jf_D_35 jd_D_hashedModifiers_23 (by assumption) (by rfl) ?_
    refine z_iconst (v := 2) (pc := 26) E jd_D_hashedModifiers_26 (by decide) ?_
    refine z_cV1I (pc := 27) E (c_R_tally l G B (k := 2) h4 (by omega)) jc_D_52 jv_R_tally rfl (by assumption) ⟨by decide, by decide⟩ jd_D_hashedModifiers_27 (Nat.le_of_ble_eq_true rfl) (by decide) (by decide) (fun v27 es27 h27 => ?_)
    obtain ⟨w27, e27⟩ := h27
    rw [e27, w27]
    refine z_if_le (pc := 30) (tgt := 41) E jd_D_hashedModifiers_30 (by decide) (fun c30 => ?_) (fun c30 => ?_)
    · have hr : hmo mo (tal Em 2 um) = (mo &&& 1553) &&& (-1025) := by rw [hmo, if_neg c17, if_neg (by have := cle (b := 0) c30; omega)]
      refine z_iload_n (pc := 41) E jd_D_hashedModifiers_41 rfl rfl ?_
      refine z_sipush (v := -1025) (pc := 42) E jd_D_hashedModifiers_42 (by decide) ?_
      refine z_iand (pc := 45) E jd_D_hashedModifiers_45 ?_
      exact z_iret E jd_D_hashedModifiers_46 ⟨_, rfl, hr.symm, rfl⟩
    · have hr : hmo mo (tal Em 2 um) = (mo &&& 1553) ||| 1024 := by rw [hmo, if_neg c17, if_pos (by have := ncle (b := 0) c30; omega)]
      refine z_iload_n (pc := 33) E jd_D_hashedModifiers_33 rfl rfl ?_
      refine z_sipush (v := 1024) (pc := 34) E jd_D_hashedModifiers_34 (by decide) ?_
      refine z_ior (pc := 37) E jd_D_hashedModifiers_37 ?_
      refine z_goto (pc := 38) (tgt := 46) E jd_D_hashedModifiers_38 (by decide) ?_
      exact z_iret E jd_D_hashedModifiers_46 ⟨_, rfl, hr.symm, rfl⟩
  · have hr : hmo mo (tal Em 2 um) = mo &&& 1553 := by rw [hmo, if_pos c17]
    refine z_iload_n (pc := 20) E jd_D_hashedModifiers_20 rfl rfl ?_
    exact z_iret E jd_D_hashedModifiers_21 ⟨_, rfl, hr.symm, rfl⟩
theorem allB_face {E : Nat → Ent} : ∀ n, (∀ j, j < n → (E j).2.2.1.length ≤ 24) → (allB E 4 n).length ≤ 26 * n
  | 0, _ => Nat.zero_le _
  | n + 1, h => by
    have := allB_face n (fun j hj => h j (by omega))
    have h2 := h n (by omega)
    rw [allB, List.length_append]
    split
    · rename_i hc
      have : entB (E n) = ut (E n).2.2.1 := by unfold entB; simp [hc.1]
      rw [this, ut_len]; omega
    · simp only [List.length_nil]; omega
theorem allB_mem {E : Nat → Ent} : ∀ n, (∀ j, j < n → (E j).2.2.1.length ≤ 24 ∧ (E j).2.2.2.length ≤ 24) → (allB E 0 n).length + (allB E 3 n).length + (allB E 1 n).length + (allB E 2 n).length ≤ 56 * n
  | 0, _ => Nat.zero_le _
  | n + 1, h => by
    have ih := allB_mem n (fun j hj => h j (by omega))
    have hb := entB_len (h n (by omega)).1 (h n (by omega)).2
    have one : ∀ k, (allB E k (n + 1)).length = (allB E k n).length + (if (E n).1 = k ∧ hsh (E n) = true then entB (E n) else []).length := fun k => by rw [allB, List.length_append]
    rw [one 0, one 3, one 1, one 2]
    by_cases hh : hsh (E n) = true
    · have hx : ∀ k, (if (E n).1 = k ∧ hsh (E n) = true then entB (E n) else []).length = if (E n).1 = k then (entB (E n)).length else 0 := by
        intro k
        by_cases e : (E n).1 = k
        · rw [if_pos ⟨e, hh⟩, if_pos e]
        · rw [if_neg (fun q => e q.1), if_neg e]; rfl
      rw [hx, hx, hx, hx]
      split <;> split <;> split <;> split <;> omega
    · have hx : ∀ k, (if (E n).1 = k ∧ hsh (E n) = true then entB (E n) else []).length = 0 := by
        intro k
        rw [if_neg (fun q => hh q.2)]; rfl
      rw [hx, hx, hx, hx]
      omega
/-- the BYTES, part by part -/
def hdr (nm : List Nat) (mo : Int32) (t : Nat) : List Nat := ut nm ++ num (hmo mo t)
def by1 (nm : List Nat) (mo : Int32) (Ef : Nat → Ent) (uf : Nat) (Em : Nat → Ent) (um : Nat) : List Nat := hdr nm mo (tal Em 2 um) ++ allB Ef 4 uf
def by2 (nm : List Nat) (mo : Int32) (Ef : Nat → Ent) (uf : Nat) (Em : Nat → Ent) (um : Nat) : List Nat := by1 nm mo Ef uf Em um ++ allB Em 0 um
def by3 (nm : List Nat) (mo : Int32) (Ef : Nat → Ent) (uf : Nat) (Em : Nat → Ent) (um : Nat) : List Nat := by2 nm mo Ef uf Em um ++ allB Em 3 um
def by4 (nm : List Nat) (mo : Int32) (Ef : Nat → Ent) (uf : Nat) (Em : Nat → Ent) (um : Nat) : List Nat := by3 nm mo Ef uf Em um ++ allB Em 1 um
def by5 (nm : List Nat) (mo : Int32) (Ef : Nat → Ent) (uf : Nat) (Em : Nat → Ent) (um : Nat) : List Nat := by4 nm mo Ef uf Em um ++ allB Em 2 um
/-- where the parts begin -/
def byo (nm : List Nat) (mo : Int32) (Ef : Nat → Ent) (uf : Nat) (Em : Nat → Ent) (um : Nat) (k : Nat) : Nat := if k = 0 then 0 else if k = 1 then (hdr nm mo (tal Em 2 um)).length else if k = 2 then (by1 nm mo Ef uf Em um).length else if k = 3 then (by2 nm mo Ef uf Em um).length else if k = 4 then (by3 nm mo Ef uf Em um).length else (by4 nm mo Ef uf Em um).length
theorem ly.bgs {G : zG} {B : Nat} {es es1 : zE} {p : Nat} {bs : List Nat} {bg bg' : Nat → Int32} (h : ly G B es p bs bg) (he : es1 = es.set (p + 2) (.inl (G.2.1 1, 6, .inl bg'))) : ly G B es1 p bs bg' := by
  obtain ⟨f, h1, h2, h3, h4⟩ := h
  exact ⟨f, zs_ne he (by omega) h1, zs_ne he (by omega) h2, zs_eq he h3, h4⟩
theorem ly.bg {G : zG} {B : Nat} {es : zE} {p : Nat} {bs : List Nat} {bg : Nat → Int32} (h : ly G B es p bs bg) : es[p + 2]? = some (.inl (G.2.1 1, 6, .inl bg)) := by
  obtain ⟨f, h1, h2, h3, h4⟩ := h; exact h3
theorem ly.nil {G : zG} {B : Nat} {es es1 : zE} {p : Nat} {bs : List Nat} {bg : Nat → Int32} (h : ly G B es p bs bg) (he : es1 = es.set p (.inr (2, [.ref (B + (p + 1)), .int 0, .ref (B + (p + 2))]))) : ly G B es1 p [] bg := by
  obtain ⟨f, h1, h2, h3, h4⟩ := h
  exact ⟨f, zs_eq he h1, zs_ne he (by omega) h2, zs_ne he (by omega) h3, Nat.zero_le _, fun j hj => absurd hj (Nat.not_lt_zero _), fun b hb => by cases hb⟩
