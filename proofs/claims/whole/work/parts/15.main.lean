/-! StreamIds -/
/-- what is declared of a class: there, name, modifiers, interface names and how many, members and how many, declared, the identifier -/
abbrev DT : Type := Int32 × List Nat × Int32 × (Nat → Ent) × Nat × (Nat → Ent) × Nat × Int32 × Int64
def dA (G : zG) (B : Nat) (es : zE) (q : Nat) (t : DT) : Prop := ∃ wf wm, dO G B es q t.1 t.2.1 t.2.2.1 wf t.2.2.2.1 t.2.2.2.2.1 wm t.2.2.2.2.2.1 t.2.2.2.2.2.2.1 t.2.2.2.2.2.2.2.1 t.2.2.2.2.2.2.2.2
theorem dA.fr {G : zG} {B : Nat} {es es' : zE} {q lo hi : Nat} {t : DT} (h : dA G B es q t) (hk : Fr es es' lo hi) (hx : q + 77 ≤ lo ∨ hi ≤ q) : dA G B es' q t := by
  obtain ⟨wf, wm, h⟩ := h
  exact ⟨wf, wm, h.fr hk hx⟩
def sA (G : zG) (B : Nat) (es : zE) (o : Nat) (nm sh : List Nat) (D : Nat → DT) : Prop :=
  es[o]? = some (.inr (0, [.ref (B + (o + 1)), .ref (B + (o + 3)), .ref (B + (o + 5)), .ref (B + (o + 6)), .ref (B + (o + 9))])) ∧ tx G B es (o + 1) nm ∧ tx G B es (o + 3) sh ∧ (∃ a : Nat → Option Nat, es[o + 5]? = some (.inl (G.2.1 5, 4, .inr (.inr (.inr (.inr a))))) ∧ ∀ c, c < 4 → a c = some (B + (o + 12 + 77 * c))) ∧ (∃ bs bg, ly G B es (o + 6) bs bg) ∧ (∃ nf wf, gO G B es (o + 9) nf wf) ∧ ∀ c, c < 4 → dA G B es (o + 12 + 77 * c) (D c)
theorem sA.fr {G : zG} {B : Nat} {es es' : zE} {o lo hi : Nat} {nm sh : List Nat} {D : Nat → DT} (h : sA G B es o nm sh D) (hk : Fr es es' lo hi) (hx : o + 320 ≤ lo ∨ hi ≤ o) : sA G B es' o nm sh D := by
  obtain ⟨h1, h2, h3, ⟨a, h4, h5⟩, ⟨bs, bg, h6⟩, ⟨nf, wf, h7⟩, h8⟩ := h
  exact ⟨hk.at (by omega) h1, h2.fr hk (by omega), h3.fr hk (by omega), ⟨a, hk.at (by omega) h4, h5⟩, ⟨bs, bg, h6.fr hk (by omega)⟩, ⟨nf, wf, h7.fr hk (by omega)⟩, fun c hc => (h8 c hc).fr hk (by omega)⟩
theorem sA.lay {G : zG} {B : Nat} {es es' : zE} {o : Nat} {nm sh : List Nat} {D : Nat → DT} {bs : List Nat} {bg : Nat → Int32} (h : sA G B es o nm sh D) (hy : ly G B es' (o + 6) bs bg) (hk : Fr es es' (o + 6) (o + 9)) : sA G B es' o nm sh D := by
  obtain ⟨h1, h2, h3, ⟨a, h4, h5⟩, -, ⟨nf, wf, h7⟩, h8⟩ := h
  exact ⟨hk.at (by omega) h1, h2.fr hk (by omega), h3.fr hk (by omega), ⟨a, hk.at (by omega) h4, h5⟩, ⟨bs, bg, hy⟩, ⟨nf, wf, h7.fr hk (by omega)⟩, fun c hc => (h8 c hc).fr hk (by omega)⟩
theorem sA.dig {G : zG} {B : Nat} {es es' : zE} {o : Nat} {nm sh : List Nat} {D : Nat → DT} {nf wf : Nat → Int32} (h : sA G B es o nm sh D) (hy : gO G B es' (o + 9) nf wf) (hk : Fr es es' (o + 9) (o + 12)) : sA G B es' o nm sh D := by
  obtain ⟨h1, h2, h3, ⟨a, h4, h5⟩, ⟨bs, bg, h6⟩, -, h8⟩ := h
  exact ⟨hk.at (by omega) h1, h2.fr hk (by omega), h3.fr hk (by omega), ⟨a, hk.at (by omega) h4, h5⟩, ⟨bs, bg, h6.fr hk (by omega)⟩, ⟨nf, wf, hy⟩, fun c hc => (h8 c hc).fr hk (by omega)⟩
theorem sA.name {G : zG} {B : Nat} {es es' : zE} {o : Nat} {nm sh nm' : List Nat} {D : Nat → DT} (h : sA G B es o nm sh D) (hy : tx G B es' (o + 1) nm') (hk : Fr es es' (o + 1) (o + 3)) : sA G B es' o nm' sh D := by
  obtain ⟨h1, h2, h3, ⟨a, h4, h5⟩, ⟨bs, bg, h6⟩, ⟨nf, wf, h7⟩, h8⟩ := h
  exact ⟨hk.at (by omega) h1, hy, h3.fr hk (by omega), ⟨a, hk.at (by omega) h4, h5⟩, ⟨bs, bg, h6.fr hk (by omega)⟩, ⟨nf, wf, h7.fr hk (by omega)⟩, fun c hc => (h8 c hc).fr hk (by omega)⟩
theorem sA.shape {G : zG} {B : Nat} {es es' : zE} {o : Nat} {nm sh sh' : List Nat} {D : Nat → DT} (h : sA G B es o nm sh D) (hy : tx G B es' (o + 3) sh') (hk : Fr es es' (o + 3) (o + 5)) : sA G B es' o nm sh' D := by
  obtain ⟨h1, h2, h3, ⟨a, h4, h5⟩, ⟨bs, bg, h6⟩, ⟨nf, wf, h7⟩, h8⟩ := h
  exact ⟨hk.at (by omega) h1, h2.fr hk (by omega), hy, ⟨a, hk.at (by omega) h4, h5⟩, ⟨bs, bg, h6.fr hk (by omega)⟩, ⟨nf, wf, h7.fr hk (by omega)⟩, fun c hc => (h8 c hc).fr hk (by omega)⟩
theorem sA.dcl {G : zG} {B : Nat} {es es' : zE} {o c : Nat} {nm sh : List Nat} {D : Nat → DT} {t : DT} (h : sA G B es o nm sh D) (hc : c < 4) (hy : dA G B es' (o + 12 + 77 * c) t) (hk : Fr es es' (o + 12 + 77 * c) (o + 12 + 77 * c + 77)) : sA G B es' o nm sh (va_up D c t) := by
  obtain ⟨h1, h2, h3, ⟨a, h4, h5⟩, ⟨bs, bg, h6⟩, ⟨nf, wf, h7⟩, h8⟩ := h
  refine ⟨hk.at (by omega) h1, h2.fr hk (by omega), h3.fr hk (by omega), ⟨a, hk.at (by omega) h4, h5⟩, ⟨bs, bg, h6.fr hk (by omega)⟩, ⟨nf, wf, h7.fr hk (by omega)⟩, fun c' hc' => ?_⟩
  by_cases e : c' = c
  · subst e; rw [va_up_self]; exact hy
  · rw [va_up_ne _ _ e]; exact (h8 c' hc').fr hk (by omega)
/-- the class that a number names, if it is there -/
def cnum (D : Nat → DT) (x : Int32) : Option Nat := if x < 0 ∨ 4 ≤ x then none else if (D x.toNatClampNeg).1 = 0 then none else some x.toNatClampNeg
def refD (B o : Nat) : Option Nat → Value
  | none => .null
  | some c => .ref (B + (o + 12 + 77 * c))
theorem cnum_some {D : Nat → DT} {x : Int32} {c : Nat} (h : cnum D x = some c) : x = nI c ∧ c < 4 ∧ ¬ (D c).1 = 0 := by
  unfold cnum at h
  split at h
  · cases h
  · rename_i hx
    split at h
    · cases h
    · rename_i hd
      cases h
      obtain ⟨j, hj, rfl⟩ := nI_of (fun q => hx (Or.inl q))
      have h4 : j < 4 := Nat.lt_of_not_le fun q => hx (Or.inr (nI_le (a := 4) q hj))
      rw [nI_clamp hj] at hd ⊢
      exact ⟨rfl, h4, hd⟩
set_option maxHeartbeats 4000000 in
set_option maxRecDepth 100000 in
theorem c_S_declarationOf (l : Launch) (G : zG) (B : Nat) {es : zE} {o : Nat} {nm sh : List Nat} {D : Nat → DT} {x : Int32} (h : sA G B es o nm sh D) : Tr l G B jy_S_declarationOf jb_S_declarationOf 2 (some (.object "StreamIds$Declaration")) 0 0 0 [.ref (B + o), .int x] es (pR fun v es' => v = refD B o (cnum D x) ∧ es' = es) := by
  obtain ⟨h1, h2, h3, ⟨a, h4, h5⟩, ⟨bs, bg, h6⟩, ⟨nf, wf, h7⟩, h8⟩ := h
  refine Tr.of (ls := [some (.ref (B + o)), some (.int x)]) (by decide +kernel) (Nat.le_of_ble_eq_true rfl) rfl ?_
  intro zp ze zs zm zb zt zc E
  refine z_iload_n (pc := 0) E jd_S_declarationOf_0 rfl rfl ?_
  refine z_if_lt (pc := 1) (tgt := 21) E jd_S_declarationOf_1 (by decide) (fun c1 => ?_) (fun c1 => ?_)
  · have hr : cnum D x = none := by rw [cnum, if_pos (Or.inl c1)]
    refine z_null (pc := 21) E jd_S_declarationOf_21 ?_
    exact z_aret E (Or.inl ⟨_, rfl⟩) (by first | exact Or.inl rfl | exact Or.inr ⟨_, rfl⟩) jd_S_declarationOf_22 ⟨_, rfl, by rw [hr]; rfl, rfl⟩
  · refine z_iload_n (pc := 4) E jd_S_declarationOf_4 rfl rfl ?_
    refine z_iconst (v := 4) (pc := 5) E jd_S_declarationOf_5 (by decide) ?_
    refine z_icmp_ge (pc := 6) (tgt := 21) E jd_S_declarationOf_6 (by decide) (fun c6 => ?_) (fun c6 => ?_)
    · have hr : cnum D x = none := by rw [cnum, if_pos (Or.inr c6)]
      refine z_null (pc := 21) E jd_S_declarationOf_21 ?_
      exact z_aret E (Or.inl ⟨_, rfl⟩) (by first | exact Or.inl rfl | exact Or.inr ⟨_, rfl⟩) jd_S_declarationOf_22 ⟨_, rfl, by rw [hr]; rfl, rfl⟩
    · have hx : ¬ (x < 0 ∨ 4 ≤ x) := fun q => q.elim c1 c6
      obtain ⟨j, hj, rfl⟩ := nI_of c1
      have hj4 : j < 4 := ncle (a := 4) c6
      obtain ⟨wf', wm', hd⟩ := h8 j hj4
      have hd1 := hd.1
      refine z_aload_n (pc := 9) E jd_S_declarationOf_9 rfl rfl ?_
      refine z_get (pc := 10) E jf_S_21 jd_S_declarationOf_10 (by assumption) (by rfl) ?_
      refine z_iload_n (pc := 13) E jd_S_declarationOf_13 rfl rfl ?_
      refine z_aald (ti := 5) (pc := 14) E rfl jd_S_declarationOf_14 (by assumption) (vp_in_nI (by omega) (by omega)) ?_
      rw [nI_clamp (by omega), h5 j hj4, rf_some]
      refine z_get (pc := 15) E jf_S_143 jd_S_declarationOf_15 (by assumption) (by rfl) ?_
      refine z_if_ne (pc := 18) (tgt := 23) E jd_S_declarationOf_18 (by decide) (fun c18 => ?_) (fun c18 => ?_)
      · have hr : cnum D (nI j) = some j := by rw [cnum, if_neg hx, nI_clamp hj, if_neg c18]
        refine z_aload_n (pc := 23) E jd_S_declarationOf_23 rfl rfl ?_
        refine z_get (pc := 24) E jf_S_21 jd_S_declarationOf_24 (by assumption) (by rfl) ?_
        refine z_iload_n (pc := 27) E jd_S_declarationOf_27 rfl rfl ?_
        refine z_aald (ti := 5) (pc := 28) E rfl jd_S_declarationOf_28 (by assumption) (vp_in_nI (by omega) (by omega)) ?_
        rw [nI_clamp (by omega), h5 j hj4, rf_some]
        exact z_aret E (Or.inl ⟨_, rfl⟩) (by first | exact Or.inl rfl | exact Or.inr ⟨_, rfl⟩) jd_S_declarationOf_29 ⟨_, rfl, by rw [hr]; rfl, rfl⟩
      · have hr : cnum D (nI j) = none := by rw [cnum, if_neg hx, nI_clamp hj, if_pos c18]
        refine z_null (pc := 21) E jd_S_declarationOf_21 ?_
        exact z_aret E (Or.inl ⟨_, rfl⟩) (by first | exact Or.inl rfl | exact Or.inr ⟨_, rfl⟩) jd_S_declarationOf_22 ⟨_, rfl, by rw [hr]; rfl, rfl⟩
set_option maxHeartbeats 4000000 in
set_option maxRecDepth 100000 in
theorem c_S_bufferOf (l : Launch) (G : zG) (B : Nat) {es : zE} {o : Nat} {nm sh : List Nat} {D : Nat → DT} {x : Int32} (h : sA G B es o nm sh D) : Tr l G B jy_S_bufferOf jb_S_bufferOf 2 (some (.object "StreamIds$Text")) 0 0 0 [.ref (B + o), .int x] es (pR fun v es' => v = (if x = 0 then .ref (B + (o + 1)) else if x = 1 then .ref (B + (o + 3)) else .null) ∧ es' = es) := by
  obtain ⟨h1, h2, h3, ⟨a, h4, h5⟩, ⟨bs, bg, h6⟩, ⟨nf, wf, h7⟩, h8⟩ := h
  refine Tr.of (ls := [some (.ref (B + o)), some (.int x)]) (by decide +kernel) (Nat.le_of_ble_eq_true rfl) rfl ?_
  intro zp ze zs zm zb zt zc E
  refine z_iload_n (pc := 0) E jd_S_bufferOf_0 rfl rfl ?_
  refine z_if_ne (pc := 1) (tgt := 9) E jd_S_bufferOf_1 (by decide) (fun c1 => ?_) (fun c1 => ?_)
  · refine z_iload_n (pc := 9) E jd_S_bufferOf_9 rfl rfl ?_
    refine z_iconst (v := 1) (pc := 10) E jd_S_bufferOf_10 (by decide) ?_
    refine z_icmp_ne (pc := 11) (tgt := 21) E jd_S_bufferOf_11 (by decide) (fun c11 => ?_) (fun c11 => ?_)
    · refine z_null (pc := 21) E jd_S_bufferOf_21 ?_
      exact z_aret E (Or.inl ⟨_, rfl⟩) (by first | exact Or.inl rfl | exact Or.inr ⟨_, rfl⟩) jd_S_bufferOf_22 ⟨_, rfl, by simp [*], rfl⟩
    · refine z_aload_n (pc := 14) E jd_S_bufferOf_14 rfl rfl ?_
      refine z_get (pc := 15) E jf_S_16 jd_S_bufferOf_15 (by assumption) (by rfl) ?_
      refine z_goto (pc := 18) (tgt := 22) E jd_S_bufferOf_18 (by decide) ?_
      exact z_aret E (Or.inl ⟨_, rfl⟩) (by first | exact Or.inl rfl | exact Or.inr ⟨_, rfl⟩) jd_S_bufferOf_22 ⟨_, rfl, by simp [*], rfl⟩
  · refine z_aload_n (pc := 4) E jd_S_bufferOf_4 rfl rfl ?_
    refine z_get (pc := 5) E jf_S_12 jd_S_bufferOf_5 (by assumption) (by rfl) ?_
    exact z_aret E (Or.inl ⟨_, rfl⟩) (by first | exact Or.inl rfl | exact Or.inr ⟨_, rfl⟩) jd_S_bufferOf_8 ⟨_, rfl, by simp [*], rfl⟩
set_option maxHeartbeats 4000000 in
set_option maxRecDepth 100000 in
theorem c_S_isMemberKind (l : Launch) (G : zG) (B : Nat) {es : zE} {x : Int32} : Tr l G B jy_S_isMemberKind jb_S_isMemberKind 1 (some .boolean) 0 0 0 [.int x] es (pI fun v es' => v = (if x < 0 ∨ 3 < x then 0 else 1) ∧ es' = es) := by
  refine Tr.of (ls := [some (.int x)]) (by decide +kernel) (Nat.le_of_ble_eq_true rfl) rfl ?_
  intro zp ze zs zm zb zt zc E
  refine z_iload_n (pc := 0) E jd_S_isMemberKind_0 rfl rfl ?_
  refine z_if_lt (pc := 1) (tgt := 13) E jd_S_isMemberKind_1 (by decide) (fun c1 => ?_) (fun c1 => ?_)
  · refine z_iconst (v := 0) (pc := 13) E jd_S_isMemberKind_13 (by decide) ?_
    exact z_zret E rfl jd_S_isMemberKind_14 ⟨_, rfl, by simp [*], rfl⟩
  · refine z_iload_n (pc := 4) E jd_S_isMemberKind_4 rfl rfl ?_
    refine z_iconst (v := 3) (pc := 5) E jd_S_isMemberKind_5 (by decide) ?_
    refine z_icmp_gt (pc := 6) (tgt := 13) E jd_S_isMemberKind_6 (by decide) (fun c6 => ?_) (fun c6 => ?_)
    · refine z_iconst (v := 0) (pc := 13) E jd_S_isMemberKind_13 (by decide) ?_
      exact z_zret E rfl jd_S_isMemberKind_14 ⟨_, rfl, by simp [*], rfl⟩
    · refine z_iconst (v := 1) (pc := 9) E jd_S_isMemberKind_9 (by decide) ?_
      refine z_goto (pc := 10) (tgt := 14) E jd_S_isMemberKind_10 (by decide) ?_
      exact z_zret E rfl jd_S_isMemberKind_14 ⟨_, rfl, by simp [*], rfl⟩
def nameOk (k : Nat) (nm : List Nat) : Bool := decide (k = 1 ∨ k = 3 ∨ 0 < nm.length)
def shapeOk (k : Nat) (sh : List Nat) : Bool := if k = 0 then decide (eot sh 0 = some sh.length) else if k = 1 then decide (shM sh = 1) else if k = 2 then decide (¬ shM sh = 0) else true
set_option maxHeartbeats 4000000 in
set_option maxRecDepth 100000 in
theorem c_S_isNameFor (l : Launch) (G : zG) (B : Nat) {es : zE} {o k : Nat} {nm sh : List Nat} {D : Nat → DT} (h : sA G B es o nm sh D) (hk : k < 4) : Tr l G B jy_S_isNameFor jb_S_isNameFor 2 (some .boolean) 0 0 0 [.ref (B + o), .int (nI k)] es (pI fun v es' => v = (if nameOk k nm = true then 1 else 0) ∧ es' = es) := by
  obtain ⟨h1, h2, h3, ⟨a, h4, h5⟩, ⟨bs, bg, h6⟩, ⟨nf, wf, h7⟩, h8⟩ := h
  have t1 := h2.obj
  have t2 := h2.len
  refine Tr.of (ls := [some (.ref (B + o)), some (.int (nI k))]) (by decide +kernel) (Nat.le_of_ble_eq_true rfl) rfl ?_
  intro zp ze zs zm zb zt zc E
  refine z_iload_n (pc := 0) E jd_S_isNameFor_0 rfl rfl ?_
  refine z_iconst (v := 1) (pc := 1) E jd_S_isNameFor_1 (by decide) ?_
  refine z_icmp_eq (pc := 2) (tgt := 20) E jd_S_isNameFor_2 (by decide) (fun c2 => ?_) (fun c2 => ?_)
  · have hr : nameOk k nm = true := by simp [nameOk, ceq (b := 1) c2]
    refine z_iconst (v := 1) (pc := 20) E jd_S_isNameFor_20 (by decide) ?_
    refine z_goto (pc := 21) (tgt := 25) E jd_S_isNameFor_21 (by decide) ?_
    exact z_zret E rfl jd_S_isNameFor_25 ⟨_, rfl, by rw [hr]; rfl, rfl⟩
  · refine z_iload_n (pc := 5) E jd_S_isNameFor_5 rfl rfl ?_
    refine z_iconst (v := 3) (pc := 6) E jd_S_isNameFor_6 (by decide) ?_
    refine z_icmp_eq (pc := 7) (tgt := 20) E jd_S_isNameFor_7 (by decide) (fun c7 => ?_) (fun c7 => ?_)
    · have hr : nameOk k nm = true := by simp [nameOk, ceq (b := 3) c7]
      refine z_iconst (v := 1) (pc := 20) E jd_S_isNameFor_20 (by decide) ?_
      refine z_goto (pc := 21) (tgt := 25) E jd_S_isNameFor_21 (by decide) ?_
      exact z_zret E rfl jd_S_isNameFor_25 ⟨_, rfl, by rw [hr]; rfl, rfl⟩
    · refine z_aload_n (pc := 10) E jd_S_isNameFor_10 rfl rfl ?_
      refine z_get (pc := 11) E jf_S_12 jd_S_isNameFor_11 (by assumption) (by rfl) ?_
      refine z_get (pc := 14) E jf_S_48 jd_S_isNameFor_14 (by assumption) (by rfl) ?_
      refine z_if_le (pc := 17) (tgt := 24) E jd_S_isNameFor_17 (by decide) (fun c17 => ?_) (fun c17 => ?_)
      · have hr : nameOk k nm = false := by have q1 := nceq (b := 1) c2; have q2 := nceq (b := 3) c7; have q3 := cle (b := 0) c17; simp [nameOk, q1, q2]; exact List.eq_nil_of_length_eq_zero (by omega)
        refine z_iconst (v := 0) (pc := 24) E jd_S_isNameFor_24 (by decide) ?_
        exact z_zret E rfl jd_S_isNameFor_25 ⟨_, rfl, by rw [hr]; rfl, rfl⟩
      · have hr : nameOk k nm = true := by have q3 := ncle (b := 0) c17; rw [nameOk, decide_eq_true_eq]; omega
        refine z_iconst (v := 1) (pc := 20) E jd_S_isNameFor_20 (by decide) ?_
        refine z_goto (pc := 21) (tgt := 25) E jd_S_isNameFor_21 (by decide) ?_
        exact z_zret E rfl jd_S_isNameFor_25 ⟨_, rfl, by rw [hr]; rfl, rfl⟩
theorem shM_last {xs : List Nat} : shM xs = 1 ↔ ¬ shM xs = 0 ∧ xs.getD (xs.length - 1) 0 = 86 := by
  unfold shM
  split
  · cases he : ets xs 24 1 with
    | none => simp
    | some c =>
      dsimp only
      split
      · rename_i hV
        split
        · rename_i hl
          simp only [true_iff]
          refine ⟨by decide, ?_⟩
          rw [← hl]
          exact hV
        · simp
      · split
        · rename_i he2
          have := (eot_lt he2).2.2
          simp only [Nat.reduceEqDiff, false_iff, not_and]
          exact fun _ => this
        · simp
  · simp
theorem shM_le (xs : List Nat) : shM xs = 0 ∨ shM xs = 1 ∨ shM xs = 2 := by
  unfold shM
  split
  · split
    · simp
    · split
      · split <;> simp
      · split <;> simp
  · simp
set_option maxHeartbeats 4000000 in
set_option maxRecDepth 100000 in
theorem c_S_isShapeFor (l : Launch) (G : zG) (B : Nat) {es : zE} {o k : Nat} {nm sh : List Nat} {D : Nat → DT} (h : sA G B es o nm sh D) (hk : k < 4) : Tr l G B jy_S_isShapeFor jb_S_isShapeFor 2 (some .boolean) 5 0 0 [.ref (B + o), .int (nI k)] es (pI fun v es' => v = (if shapeOk k sh = true then 1 else 0) ∧ es' = es) := by
  obtain ⟨h1, h2, h3, ⟨a, h4, h5⟩, ⟨bs, bg, h6⟩, ⟨nf, wf, h7⟩, h8⟩ := h
  have t1 := h3.obj
  have t2 := h3.len
  have t5 := h3.lt
  have hsl := shM_last (xs := sh)
  refine Tr.of (ls := [some (.ref (B + o)), some (.int (nI k))]) (by decide +kernel) (Nat.le_of_ble_eq_true rfl) rfl ?_
  intro zp ze zs zm zb zt zc E
  refine z_iload_n (pc := 0) E jd_S_isShapeFor_0 rfl rfl ?_
  rcases (show k = 0 ∨ k = 1 ∨ k = 2 ∨ k = 3 by omega) with rfl | rfl | rfl | rfl
  · refine z_tableIn (pc := 1) (tgt := 28) (off := 27) E jd_S_isShapeFor_1 (by decide) (by decide) (by decide) (by decide) ?_
    refine z_aload_n (pc := 28) E jd_S_isShapeFor_28 rfl rfl ?_
    refine z_get (pc := 29) E jf_S_16 jd_S_isShapeFor_29 (by assumption) (by rfl) ?_
    refine z_cS1I (pc := 32) E (c_H_isType l G B h3) jc_S_146 js_H_isType ⟨by decide, by decide⟩ jd_S_isShapeFor_32 (Nat.le_of_ble_eq_true rfl) (by decide) (by decide) (fun v32 es32 h32 => ?_)
    obtain ⟨w32, e32⟩ := h32
    rw [e32, w32]
    exact z_zret E (by split <;> rfl) jd_S_isShapeFor_35 ⟨_, rfl, by simp [shapeOk], rfl⟩
  · refine z_tableIn (pc := 1) (tgt := 36) (off := 35) E jd_S_isShapeFor_1 (by decide) (by decide) (by decide) (by decide) ?_
    refine z_aload_n (pc := 36) E jd_S_isShapeFor_36 rfl rfl ?_
    refine z_get (pc := 37) E jf_S_16 jd_S_isShapeFor_37 (by assumption) (by rfl) ?_
    refine z_cS1I (pc := 40) E (c_H_isMethod l G B h3) jc_S_152 js_H_isMethod ⟨by decide, by decide⟩ jd_S_isShapeFor_40 (Nat.le_of_ble_eq_true rfl) (by decide) (by decide) (fun v40 es40 h40 => ?_)
    obtain ⟨w40, e40⟩ := h40
    rw [e40, w40]
    refine z_if_eq (pc := 43) (tgt := 71) E jd_S_isShapeFor_43 (by decide) (fun c43 => ?_) (fun c43 => ?_)
    · have hm : shM sh = 0 := Decidable.byContradiction fun q => by rw [if_neg q] at c43; exact absurd c43 (by decide)
      have hr : shapeOk 1 sh = false := by simp [shapeOk, hm]
      refine z_iconst (v := 0) (pc := 71) E jd_S_isShapeFor_71 (by decide) ?_
      exact z_zret E rfl jd_S_isShapeFor_72 ⟨_, rfl, by rw [hr]; rfl, rfl⟩
    · have hm : ¬ shM sh = 0 := fun q => c43 (by rw [if_pos q])
      have hpos : 0 < sh.length := Nat.pos_of_ne_zero fun q => hm (by unfold shM; rw [getD_oob (by omega), if_neg (by decide)])
      refine z_aload_n (pc := 46) E jd_S_isShapeFor_46 rfl rfl ?_
      refine z_get (pc := 47) E jf_S_16 jd_S_isShapeFor_47 (by assumption) (by rfl) ?_
      refine z_aload_n (pc := 50) E jd_S_isShapeFor_50 rfl rfl ?_
      refine z_get (pc := 51) E jf_S_16 jd_S_isShapeFor_51 (by assumption) (by rfl) ?_
      refine z_get (pc := 54) E jf_S_48 jd_S_isShapeFor_54 (by assumption) (by rfl) ?_
      refine z_iconst (v := 1) (pc := 57) E jd_S_isShapeFor_57 (by decide) ?_
      refine z_isub (pc := 58) E jd_S_isShapeFor_58 ?_
      refine z_topi (y := nI (sh.length - 1)) (pk_sub (b := 1) (by omega)) ?_
      refine z_cV1I (pc := 59) E (c_T_at l G B h3) jc_S_155 jv_T_at rfl (by assumption) ⟨by decide, by decide⟩ jd_S_isShapeFor_59 (Nat.le_of_ble_eq_true rfl) (by decide) (by decide) (fun v59 es59 h59 => ?_)
      obtain ⟨w59, e59⟩ := h59
      rw [e59, w59, tat_nI (by omega)]
      refine z_bipush (v := 86) (pc := 62) E jd_S_isShapeFor_62 (by decide) ?_
      refine z_icmp_ne (pc := 64) (tgt := 71) E jd_S_isShapeFor_64 (by decide) (fun c64 => ?_) (fun c64 => ?_)
      · have hr : shapeOk 1 sh = false := by simp [shapeOk, hsl]; exact fun _ q => c64 (by rw [← List.getD_eq_getElem?_getD] at q; rw [q]; rfl)
        refine z_iconst (v := 0) (pc := 71) E jd_S_isShapeFor_71 (by decide) ?_
        exact z_zret E rfl jd_S_isShapeFor_72 ⟨_, rfl, by rw [hr]; rfl, rfl⟩
      · have hr : shapeOk 1 sh = true := by have := ceq (b := 86) c64 (by have := getD_lt (j := sh.length - 1) t5; omega); rw [shapeOk, if_neg (by decide), if_pos rfl, decide_eq_true_eq, hsl]; exact ⟨hm, this⟩
        refine z_iconst (v := 1) (pc := 67) E jd_S_isShapeFor_67 (by decide) ?_
        refine z_goto (pc := 68) (tgt := 72) E jd_S_isShapeFor_68 (by decide) ?_
        exact z_zret E rfl jd_S_isShapeFor_72 ⟨_, rfl, by rw [hr]; rfl, rfl⟩
  · refine z_tableIn (pc := 1) (tgt := 73) (off := 72) E jd_S_isShapeFor_1 (by decide) (by decide) (by decide) (by decide) ?_
    refine z_aload_n (pc := 73) E jd_S_isShapeFor_73 rfl rfl ?_
    refine z_get (pc := 74) E jf_S_16 jd_S_isShapeFor_74 (by assumption) (by rfl) ?_
    refine z_cS1I (pc := 77) E (c_H_isMethod l G B h3) jc_S_152 js_H_isMethod ⟨by decide, by decide⟩ jd_S_isShapeFor_77 (Nat.le_of_ble_eq_true rfl) (by decide) (by decide) (fun v77 es77 h77 => ?_)
    obtain ⟨w77, e77⟩ := h77
    rw [e77, w77]
    exact z_zret E (by split <;> rfl) jd_S_isShapeFor_80 ⟨_, rfl, by simp [shapeOk], rfl⟩
  · refine z_tableOut (pc := 1) (tgt := 81) E jd_S_isShapeFor_1 (by decide) (by decide) ?_
    refine z_iconst (v := 1) (pc := 81) E jd_S_isShapeFor_81 (by decide) ?_
    exact z_zret E rfl jd_S_isShapeFor_82 ⟨_, rfl, rfl, rfl⟩
