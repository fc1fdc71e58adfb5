/-! class and reference side by side: each call answers the same, and what they hold stays the same -/
theorem Tr.mono {l : Launch} {G : zG} {B : Nat} {y : MethodName} {cc : ByteArray} {maxL : Nat} {ret : Option FieldType} {d mc ms : Nat} {av : List Value} {es : zE} {P P' : Option Value → zE → Prop} (h : Tr l G B y cc maxL ret d mc ms av es P) (hp : ∀ r es', P r es' → P' r es') : Tr l G B y cc maxL ret d mc ms av es P' := by
  intro p e ha hc hk s m args below hf happ hP hK
  obtain ⟨n, o, h1, h2, h3, ⟨⟨r, es', e1, e2, e3⟩, e4⟩, e5⟩ := h p e ha hc hk s m args below hf happ hP hK
  exact ⟨n, o, h1, h2, h3, ⟨⟨r, es', e1, hp r es' e2, e3⟩, e4⟩, e5⟩
def LI (G : zG) (B : Nat) (es : zE) : Prop := ∃ nm sh D R, sA G B es 0 nm sh D ∧ rA G B es 320 nm sh R ∧ (∀ c, c < 4 → RR (D c) (R c)) ∧ ∀ x ∈ sh, x ≠ 0
theorem rA.fr {G : zG} {B : Nat} {es es1 : zE} {r : Nat} {nm sh : List Nat} {R : Nat → DT} {lo hi : Nat} (h : rA G B es r nm sh R) (hk : Fr es es1 lo hi) (ho : r + 15 ≤ lo ∨ hi ≤ r) : rA G B es1 r nm sh R := by
  obtain ⟨S, z, a, e, h0, t0, t1, hC⟩ := h
  exact ⟨S, z, a, e, h0.fr hk ho, t0, t1, hC⟩
theorem rA.ob {G : zG} {B : Nat} {es : zE} {r : Nat} {nm sh : List Nat} {R : Nat → DT} (h : rA G B es r nm sh R) : ∃ fs, es[r]? = some (.inr (7, fs)) := by
  obtain ⟨S, z, a, e, h0, -⟩ := h
  exact ⟨_, h0.1⟩
theorem LI.cl {G : zG} {B : Nat} {es : zE} (h : LI G B es) : ∃ fs, es[0]? = some (.inr (0, fs)) := by
  obtain ⟨nm, sh, D, R, hs, -⟩ := h
  exact ⟨_, hs.1⟩
theorem not01 {x : Int32} (h0 : ¬ x = 0) (h1 : ¬ x = 1) : x < 0 ∨ 2 ≤ x := by
  by_cases hx : x < 0
  · exact Or.inl hx
  · obtain ⟨j, hj, rfl⟩ := nI_of hx
    have q0 : j ≠ 0 := fun q => h0 (by rw [q]; rfl)
    have q1 : j ≠ 1 := fun q => h1 (by rw [q]; rfl)
    exact Or.inr (nI_le (a := 2) (by omega) hj)
theorem sgL_nz (z : Int64) : ∀ m, ∀ x ∈ sgL z m, x ≠ 0
  | 0, x, h => by cases h
  | m + 1, x, h => by
    rw [sgL_s] at h
    rcases List.mem_append.mp h with q | q
    · by_cases e : zby z m = 0
      · rw [if_pos e] at q; cases q
      · rw [if_neg e] at q; rw [List.mem_singleton.mp q]; exact e
    · exact sgL_nz z m x q
theorem RR_up {D R : Nat → DT} {c : Nat} {t t' : DT} (h : ∀ c, c < 4 → RR (D c) (R c)) (ht : RR t t') : ∀ c', c' < 4 → RR (va_up D c t c') (va_up R c t' c') := by
  intro c' hc'
  by_cases e : c' = c
  · subst e; rw [va_up_self, va_up_self]; exact ht
  · rw [va_up_ne _ _ e, va_up_ne _ _ e]; exact h c' hc'
theorem cnum_RR {D R : Nat → DT} (h : ∀ c, c < 4 → RR (D c) (R c)) (x : Int32) : cnum R x = cnum D x := by
  unfold cnum
  by_cases hx : x < 0 ∨ 4 ≤ x
  · rw [if_pos hx, if_pos hx]
  · obtain ⟨j, hj, rfl⟩ := nI_of (fun q => hx (Or.inl q))
    have h4 : j < 4 := Nat.lt_of_not_le fun q => hx (Or.inr (nI_le (a := 4) q hj))
    rw [if_neg hx, if_neg hx, nI_clamp hj, (h j h4).1]
theorem p_type (l : Launch) (G : zG) (B : Nat) {es : zE} {x : Int32} {y : Int64} (h : LI G B es) : Tr l G B jy_S_type jb_S_type 7 (some .int) 2 0 0 [.ref (B + 0), .int x, .long y] es (pI fun v es1 => (∃ fs, es1[320]? = some (.inr (7, fs))) ∧ Tr l G B jy_M_type jb_M_type 7 (some .int) 1 0 0 [.ref (B + 320), .int x, .long y] es1 (pI fun w es2 => w = v ∧ LI G B es2)) := by
  have hLI := h
  obtain ⟨nm, sh, D, R, hs, hm, hRR, hz⟩ := h
  obtain ⟨S, z, a, e, h0, t0, t1, hC⟩ := hm
  by_cases hx0 : x = 0
  · subst hx0
    refine (c_S_type l G B hs (Or.inl ⟨rfl, rfl⟩) hs.2.1).mono ?_
    rintro r es1 ⟨v, rfl, hp⟩
    refine ⟨v, rfl, ?_⟩
    by_cases h1 : okA y 8 = false
    · rw [if_pos h1] at hp
      obtain ⟨hv, he⟩ := hp
      subst he
      refine ⟨⟨_, h0.1⟩, (c_M_type l G B (b := 0) h0 (by omega) t0).mono ?_⟩
      rintro r es2 ⟨w, rfl, hq⟩
      rw [if_pos h1] at hq
      exact ⟨w, rfl, hq.1.trans hv.symm, by rw [hq.2]; exact hLI⟩
    · rw [if_neg h1] at hp
      by_cases h2 : 24 < nm.length + scn y 8
      · rw [if_pos h2] at hp
        obtain ⟨hv, he⟩ := hp
        subst he
        refine ⟨⟨_, h0.1⟩, (c_M_type l G B (b := 0) h0 (by omega) t0).mono ?_⟩
        rintro r es2 ⟨w, rfl, hq⟩
        rw [if_neg h1, if_pos h2] at hq
        exact ⟨w, rfl, hq.1.trans hv.symm, by rw [hq.2]; exact hLI⟩
      · rw [if_neg h2] at hp
        obtain ⟨hv, hp2, F⟩ := hp
        have h0' := h0.fr F (by omega)
        refine ⟨⟨_, h0'.1⟩, (c_M_type l G B (b := 0) h0' (by omega) t0).mono ?_⟩
        rintro r es2 ⟨w, rfl, hq⟩
        rw [if_neg h1, if_neg h2] at hq
        obtain ⟨hw, ⟨S', h0'', t0', ho⟩, F2⟩ := hq
        exact ⟨w, rfl, hw.trans hv.symm, nm ++ sgL y 8, sh, D, R, (hs.name hp2 F).fr F2 (by omega), ⟨S', z, a, e, h0'', t0', ho.1 1 sh (by omega) t1, fun c hc => (hC c hc).onlyT ho (by omega)⟩, hRR, hz⟩
  · by_cases hx1 : x = 1
    · subst hx1
      refine (c_S_type l G B hs (Or.inr ⟨rfl, rfl⟩) hs.2.2.1).mono ?_
      rintro r es1 ⟨v, rfl, hp⟩
      refine ⟨v, rfl, ?_⟩
      by_cases h1 : okA y 8 = false
      · rw [if_pos h1] at hp
        obtain ⟨hv, he⟩ := hp
        subst he
        refine ⟨⟨_, h0.1⟩, (c_M_type l G B (b := 1) h0 (by omega) t1).mono ?_⟩
        rintro r es2 ⟨w, rfl, hq⟩
        rw [if_pos h1] at hq
        exact ⟨w, rfl, hq.1.trans hv.symm, by rw [hq.2]; exact hLI⟩
      · rw [if_neg h1] at hp
        by_cases h2 : 24 < sh.length + scn y 8
        · rw [if_pos h2] at hp
          obtain ⟨hv, he⟩ := hp
          subst he
          refine ⟨⟨_, h0.1⟩, (c_M_type l G B (b := 1) h0 (by omega) t1).mono ?_⟩
          rintro r es2 ⟨w, rfl, hq⟩
          rw [if_neg h1, if_pos h2] at hq
          exact ⟨w, rfl, hq.1.trans hv.symm, by rw [hq.2]; exact hLI⟩
        · rw [if_neg h2] at hp
          obtain ⟨hv, hp2, F⟩ := hp
          have h0' := h0.fr F (by omega)
          refine ⟨⟨_, h0'.1⟩, (c_M_type l G B (b := 1) h0' (by omega) t1).mono ?_⟩
          rintro r es2 ⟨w, rfl, hq⟩
          rw [if_neg h1, if_neg h2] at hq
          obtain ⟨hw, ⟨S', h0'', t1', ho⟩, F2⟩ := hq
          refine ⟨w, rfl, hw.trans hv.symm, nm, sh ++ sgL y 8, D, R, (hs.shape hp2 F).fr F2 (by omega), ⟨S', z, a, e, h0'', ho.1 0 nm (by omega) t0, t1', fun c hc => (hC c hc).onlyT ho (by omega)⟩, hRR, fun q hq => ?_⟩
          rcases List.mem_append.mp hq with q' | q'
          · exact hz q q'
          · exact sgL_nz y 8 q q'
    · refine (c_S_type_bad l G B hs hx0 hx1).mono ?_
      rintro r es1 ⟨v, rfl, hv, he⟩
      subst he
      refine ⟨v, rfl, ⟨_, h0.1⟩, (c_M_type_bad l G B h0 (not01 hx0 hx1)).mono ?_⟩
      rintro r es2 ⟨w, rfl, hw, he⟩
      exact ⟨w, rfl, hw.trans hv.symm, by rw [he]; exact hLI⟩
theorem p_clear (l : Launch) (G : zG) (B : Nat) {es : zE} {x : Int32} (h : LI G B es) : Tr l G B jy_S_clear jb_S_clear 4 (some .int) 1 0 0 [.ref (B + 0), .int x] es (pI fun v es1 => (∃ fs, es1[320]? = some (.inr (7, fs))) ∧ Tr l G B jy_M_clear jb_M_clear 3 (some .int) 1 0 0 [.ref (B + 320), .int x] es1 (pI fun w es2 => w = v ∧ LI G B es2)) := by
  have hLI := h
  obtain ⟨nm, sh, D, R, hs, hm, hRR, hz⟩ := h
  obtain ⟨S, z, a, e, h0, t0, t1, hC⟩ := hm
  by_cases hx0 : x = 0
  · subst hx0
    refine (c_S_clear l G B hs (Or.inl ⟨rfl, rfl⟩) hs.2.1).mono ?_
    rintro r es1 ⟨v, rfl, hv, hp2, F⟩
    have h0' := h0.fr F (by omega)
    refine ⟨v, rfl, ⟨_, h0'.1⟩, (c_M_clear l G B (b := 0) h0' (by omega) t0).mono ?_⟩
    rintro r es2 ⟨w, rfl, hw, ⟨S', h0'', t0', ho⟩, F2⟩
    exact ⟨w, rfl, hw.trans hv.symm, [], sh, D, R, (hs.name hp2 F).fr F2 (by omega), ⟨S', z, a, e, h0'', t0', ho.1 1 sh (by omega) t1, fun c hc => (hC c hc).onlyT ho (by omega)⟩, hRR, hz⟩
  · by_cases hx1 : x = 1
    · subst hx1
      refine (c_S_clear l G B hs (Or.inr ⟨rfl, rfl⟩) hs.2.2.1).mono ?_
      rintro r es1 ⟨v, rfl, hv, hp2, F⟩
      have h0' := h0.fr F (by omega)
      refine ⟨v, rfl, ⟨_, h0'.1⟩, (c_M_clear l G B (b := 1) h0' (by omega) t1).mono ?_⟩
      rintro r es2 ⟨w, rfl, hw, ⟨S', h0'', t1', ho⟩, F2⟩
      exact ⟨w, rfl, hw.trans hv.symm, nm, [], D, R, (hs.shape hp2 F).fr F2 (by omega), ⟨S', z, a, e, h0'', ho.1 0 nm (by omega) t0, t1', fun c hc => (hC c hc).onlyT ho (by omega)⟩, hRR, fun q hq => by cases hq⟩
    · refine (c_S_clear_bad l G B hs hx0 hx1).mono ?_
      rintro r es1 ⟨v, rfl, hv, he⟩
      subst he
      refine ⟨v, rfl, ⟨_, h0.1⟩, (c_M_clear_bad l G B h0 (not01 hx0 hx1)).mono ?_⟩
      rintro r es2 ⟨w, rfl, hw, he⟩
      exact ⟨w, rfl, hw.trans hv.symm, by rw [he]; exact hLI⟩
theorem RR_def {t t' : DT} (h : RR t t') (nm : List Nat) (m : Int32) : RR (dtN t nm m) (dtN t' nm m) := by
  obtain ⟨r1, r2, r3, r4, r5, r6, r7, r8, r9, r10, r11⟩ := h
  exact ⟨rfl, rfl, rfl, rfl, rfl, rfl, r7, List.Perm.nil, List.Perm.nil, fun i j _ h => absurd h (Nat.not_lt_zero j), fun i j _ h => absurd h (Nat.not_lt_zero j)⟩
theorem p_define (l : Launch) (G : zG) (B : Nat) {es : zE} {x m : Int32} (h : LI G B es) : Tr l G B jy_S_define jb_S_define 3 (some .int) 4 0 0 [.ref (B + 0), .int x, .int m] es (pI fun v es1 => (∃ fs, es1[320]? = some (.inr (7, fs))) ∧ Tr l G B jy_M_define jb_M_define 3 (some .int) 2 0 0 [.ref (B + 320), .int x, .int m] es1 (pI fun w es2 => w = v ∧ LI G B es2)) := by
  have hLI := h
  obtain ⟨nm, sh, D, R, hs, hm, hRR, hz⟩ := h
  refine (c_S_define l G B hs).mono ?_
  rintro r es1 ⟨v, rfl, hp⟩
  refine ⟨v, rfl, ?_⟩
  by_cases hx : x < 0 ∨ 4 ≤ x
  · rw [if_pos hx] at hp
    obtain ⟨hv, he⟩ := hp
    subst he
    refine ⟨hm.ob, (c_M_define l G B hm).mono ?_⟩
    rintro r es2 ⟨w, rfl, hq⟩
    rw [if_pos hx] at hq
    exact ⟨w, rfl, hq.1.trans hv.symm, by rw [hq.2]; exact hLI⟩
  · rw [if_neg hx] at hp
    by_cases hn : nm = []
    · rw [if_pos hn] at hp
      obtain ⟨hv, he⟩ := hp
      subst he
      refine ⟨hm.ob, (c_M_define l G B hm).mono ?_⟩
      rintro r es2 ⟨w, rfl, hq⟩
      rw [if_neg hx, if_pos hn] at hq
      exact ⟨w, rfl, hq.1.trans hv.symm, by rw [hq.2]; exact hLI⟩
    · rw [if_neg hn] at hp
      obtain ⟨hv, hp2, F⟩ := hp
      have hm' := hm.fr F (by omega)
      refine ⟨hm'.ob, (c_M_define l G B hm').mono ?_⟩
      rintro r es2 ⟨w, rfl, hq⟩
      rw [if_neg hx, if_neg hn] at hq
      obtain ⟨hw, hq2, F2⟩ := hq
      obtain ⟨j, hj, rfl⟩ := nI_of (fun q => hx (Or.inl q))
      have h4 : j < 4 := Nat.lt_of_not_le fun q => hx (Or.inr (nI_le (a := 4) q hj))
      rw [nI_clamp hj] at hp2 hq2
      exact ⟨w, rfl, hw.trans hv.symm, nm, sh, _, _, hp2.fr F2 (by omega), hq2, RR_up hRR (RR_def (hRR j h4) nm _), hz⟩
theorem RR_face {t t' : DT} {nm sh : List Nat} (h : RR t t') (hn : ¬ (plc t.2.2.2.1 4 nm sh t.2.2.2.2.1 0 < t.2.2.2.2.1 ∧ entC (t.2.2.2.1 (plc t.2.2.2.1 4 nm sh t.2.2.2.2.1 0)) 4 nm sh = 0)) : RR (dtF t (ins t.2.2.2.1 (plc t.2.2.2.1 4 nm sh t.2.2.2.2.1 0) t.2.2.2.2.1 (4, 0, nm, sh)) (t.2.2.2.2.1 + 1)) (dtF t' (va_up t'.2.2.2.1 t.2.2.2.2.1 (4, 0, nm, sh)) (t.2.2.2.2.1 + 1)) := by
  obtain ⟨r1, r2, r3, r4, r5, r6, r7, r8, r9, r10, r11⟩ := h
  exact ⟨r1, r2, r3, rfl, r5, r6, r7, ins_perm (by have := (plc_le t.2.2.2.1 4 nm sh t.2.2.2.2.1 0).2; omega) r8, r9, ins_srt r10 hn, r11⟩
theorem RR_memb {t t' : DT} {k : Nat} {m : Int32} {nm sh : List Nat} (h : RR t t') (hn : ¬ (plc t.2.2.2.2.2.1 k nm sh t.2.2.2.2.2.2.1 0 < t.2.2.2.2.2.2.1 ∧ entC (t.2.2.2.2.2.1 (plc t.2.2.2.2.2.1 k nm sh t.2.2.2.2.2.2.1 0)) k nm sh = 0)) : RR (dtM t (ins t.2.2.2.2.2.1 (plc t.2.2.2.2.2.1 k nm sh t.2.2.2.2.2.2.1 0) t.2.2.2.2.2.2.1 (k, m, nm, sh)) (t.2.2.2.2.2.2.1 + 1)) (dtM t' (va_up t'.2.2.2.2.2.1 t.2.2.2.2.2.2.1 (k, m, nm, sh)) (t.2.2.2.2.2.2.1 + 1)) := by
  obtain ⟨r1, r2, r3, r4, r5, r6, r7, r8, r9, r10, r11⟩ := h
  exact ⟨r1, r2, r3, r4, rfl, r6, r7, r8, ins_perm (by have := (plc_le t.2.2.2.2.2.1 k nm sh t.2.2.2.2.2.2.1 0).2; omega) r9, r10, ins_srt r11 hn⟩
theorem RR_rem {t t' : DT} {k : Nat} {nm sh : List Nat} (h : RR t t') (hf : fnd t'.2.2.2.2.2.1 k nm sh t.2.2.2.2.2.2.1 0 < t.2.2.2.2.2.2.1) (hp : plc t.2.2.2.2.2.1 k nm sh t.2.2.2.2.2.2.1 0 < t.2.2.2.2.2.2.1) : RR (dtM t (del t.2.2.2.2.2.1 (plc t.2.2.2.2.2.1 k nm sh t.2.2.2.2.2.2.1 0) t.2.2.2.2.2.2.1) (t.2.2.2.2.2.2.1 - 1)) (dtM t' (rmv t'.2.2.2.2.2.1 (fnd t'.2.2.2.2.2.1 k nm sh t.2.2.2.2.2.2.1 0)) (t.2.2.2.2.2.2.1 - 1)) := by
  obtain ⟨r1, r2, r3, r4, r5, r6, r7, r8, r9, r10, r11⟩ := h
  exact ⟨r1, r2, r3, r4, rfl, r6, r7, r8, del_perm r11 r9 hf, r10, del_srt r11 hp⟩
theorem p_face (l : Launch) (G : zG) (B : Nat) {es : zE} {x : Int32} (h : LI G B es) : Tr l G B jy_S_face jb_S_face 3 (some .int) 5 0 0 [.ref (B + 0), .int x] es (pI fun v es1 => (∃ fs, es1[320]? = some (.inr (7, fs))) ∧ Tr l G B jy_M_face jb_M_face 3 (some .int) 2 0 0 [.ref (B + 320), .int x] es1 (pI fun w es2 => w = v ∧ LI G B es2)) := by
  have hLI := h
  obtain ⟨nm, sh, D, R, hs, hm, hRR, hz⟩ := h
  have hcR := cnum_RR hRR x
  cases hc : cnum D x with
  | none =>
    refine (c_S_face_none l G B hs hc).mono ?_
    rintro r es1 ⟨v, rfl, hv, he⟩
    subst he
    refine ⟨v, rfl, hm.ob, (c_M_face_none l G B hm (hcR.trans hc)).mono ?_⟩
    rintro r es2 ⟨w, rfl, hw, he⟩
    exact ⟨w, rfl, hw.trans hv.symm, by rw [he]; exact hLI⟩
  | some c =>
    obtain ⟨hxc, hc4, -⟩ := cnum_some hc
    subst hxc
    have hR := hRR c hc4
    have hit := hit_iff (k := 4) (n := nm) (s := sh) hR.2.2.2.2.2.2.2.2.2.1 hR.2.2.2.2.2.2.2.1
    have hM := fun {es1 : zE} (hm1 : rA G B es1 320 nm sh R) => c_M_face l G B hm1 (hcR.trans hc) rfl hR.2.2.2.1.symm
    refine (c_S_face l G B hs hc).mono ?_
    rintro r es1 ⟨v, rfl, hp⟩
    refine ⟨v, rfl, ?_⟩
    by_cases hn : nm = []
    · rw [if_pos hn] at hp
      obtain ⟨hv, he⟩ := hp
      subst he
      refine ⟨hm.ob, (hM hm).mono ?_⟩
      rintro r es2 ⟨w, rfl, hq⟩
      rw [if_pos hn] at hq
      exact ⟨w, rfl, hq.1.trans hv.symm, by rw [hq.2]; exact hLI⟩
    · rw [if_neg hn] at hp
      by_cases hh : fnd (R c).2.2.2.1 4 nm sh (D c).2.2.2.2.1 0 < (D c).2.2.2.2.1
      · rw [if_pos (hit.mpr hh)] at hp
        obtain ⟨hv, he⟩ := hp
        subst he
        refine ⟨hm.ob, (hM hm).mono ?_⟩
        rintro r es2 ⟨w, rfl, hq⟩
        rw [if_neg hn, if_pos hh] at hq
        exact ⟨w, rfl, hq.1.trans hv.symm, by rw [hq.2]; exact hLI⟩
      · rw [if_neg (fun q => hh (hit.mp q))] at hp
        by_cases h4 : (D c).2.2.2.2.1 = 4
        · rw [if_pos h4] at hp
          obtain ⟨hv, he⟩ := hp
          subst he
          refine ⟨hm.ob, (hM hm).mono ?_⟩
          rintro r es2 ⟨w, rfl, hq⟩
          rw [if_neg hn, if_neg hh, if_pos h4] at hq
          exact ⟨w, rfl, hq.1.trans hv.symm, by rw [hq.2]; exact hLI⟩
        · rw [if_neg h4] at hp
          obtain ⟨hv, hp2, F⟩ := hp
          have hm' := hm.fr F (by omega)
          refine ⟨hm'.ob, (hM hm').mono ?_⟩
          rintro r es2 ⟨w, rfl, hq⟩
          rw [if_neg hn, if_neg hh, if_neg h4] at hq
          obtain ⟨hw, hq2, F2⟩ := hq
          exact ⟨w, rfl, hw.trans hv.symm, nm, sh, _, _, hp2.fr F2 (by omega), hq2, RR_up hRR (RR_face hR (fun q => hh (hit.mp q))), hz⟩
theorem p_member (l : Launch) (G : zG) (B : Nat) {es : zE} {x k m : Int32} (h : LI G B es) : Tr l G B jy_S_member jb_S_member 5 (some .int) 6 0 0 [.ref (B + 0), .int x, .int k, .int m] es (pI fun v es1 => (∃ fs, es1[320]? = some (.inr (7, fs))) ∧ Tr l G B jy_M_member jb_M_member 5 (some .int) 3 0 0 [.ref (B + 320), .int x, .int k, .int m] es1 (pI fun w es2 => w = v ∧ LI G B es2)) := by
  have hLI := h
  obtain ⟨nm, sh, D, R, hs, hm, hRR, hz⟩ := h
  have hcR := cnum_RR hRR x
  cases hc : cnum D x with
  | none =>
    refine (c_S_member_none l G B hs hc).mono ?_
    rintro r es1 ⟨v, rfl, hv, he⟩
    subst he
    refine ⟨v, rfl, hm.ob, (c_M_member_none l G B hm (hcR.trans hc)).mono ?_⟩
    rintro r es2 ⟨w, rfl, hw, he⟩
    exact ⟨w, rfl, hw.trans hv.symm, by rw [he]; exact hLI⟩
  | some c =>
    obtain ⟨hxc, hc4, -⟩ := cnum_some hc
    subst hxc
    have hR := hRR c hc4
    by_cases hk : k < 0 ∨ 3 < k
    · refine (c_S_member_bad l G B hs hc hk).mono ?_
      rintro r es1 ⟨v, rfl, hv, he⟩
      subst he
      refine ⟨v, rfl, hm.ob, (c_M_member_bad l G B hm (hcR.trans hc) hk).mono ?_⟩
      rintro r es2 ⟨w, rfl, hw, he⟩
      exact ⟨w, rfl, hw.trans hv.symm, by rw [he]; exact hLI⟩
    · obtain ⟨j, hj, rfl⟩ := nI_of (fun q => hk (Or.inl q))
      have hj4 : j < 4 := Nat.lt_of_not_le fun q => hk (Or.inr (nI_lt (a := 3) (by omega) hj))
      have hit := hit_iff (k := j) (n := nm) (s := sh) hR.2.2.2.2.2.2.2.2.2.2 hR.2.2.2.2.2.2.2.2.1
      have hM := fun {es1 : zE} (hm1 : rA G B es1 320 nm sh R) => c_M_member l G B (m := m) hm1 hz (hcR.trans hc) hj4 rfl hR.2.2.2.2.1.symm
      refine (c_S_member l G B hs hc hj4).mono ?_
      rintro r es1 ⟨v, rfl, hp⟩
      refine ⟨v, rfl, ?_⟩
      by_cases hn : nameOk j nm = false ∨ shapeOk j sh = false
      · rw [if_pos hn] at hp
        obtain ⟨hv, he⟩ := hp
        subst he
        refine ⟨hm.ob, (hM hm).mono ?_⟩
        rintro r es2 ⟨w, rfl, hq, F2⟩
        rw [if_pos hn] at hq
        exact ⟨w, rfl, hq.1.trans hv.symm, nm, sh, D, R, hs.fr F2 (by omega), hq.2, hRR, hz⟩
      · rw [if_neg hn] at hp
        by_cases hh : fnd (R c).2.2.2.2.2.1 j nm sh (D c).2.2.2.2.2.2.1 0 < (D c).2.2.2.2.2.2.1
        · rw [if_pos (hit.mpr hh)] at hp
          obtain ⟨hv, he⟩ := hp
          subst he
          refine ⟨hm.ob, (hM hm).mono ?_⟩
          rintro r es2 ⟨w, rfl, hq, F2⟩
          rw [if_neg hn, if_pos hh] at hq
          exact ⟨w, rfl, hq.1.trans hv.symm, nm, sh, D, R, hs.fr F2 (by omega), hq.2, hRR, hz⟩
        · rw [if_neg (fun q => hh (hit.mp q))] at hp
          by_cases h4 : (D c).2.2.2.2.2.2.1 = 10
          · rw [if_pos h4] at hp
            obtain ⟨hv, he⟩ := hp
            subst he
            refine ⟨hm.ob, (hM hm).mono ?_⟩
            rintro r es2 ⟨w, rfl, hq, F2⟩
            rw [if_neg hn, if_neg hh, if_pos h4] at hq
            exact ⟨w, rfl, hq.1.trans hv.symm, nm, sh, D, R, hs.fr F2 (by omega), hq.2, hRR, hz⟩
          · rw [if_neg h4] at hp
            obtain ⟨hv, hp2, F⟩ := hp
            have hm' := hm.fr F (by omega)
            refine ⟨hm'.ob, (hM hm').mono ?_⟩
            rintro r es2 ⟨w, rfl, hq, F2⟩
            rw [if_neg hn, if_neg hh, if_neg h4] at hq
            obtain ⟨hw, hq2⟩ := hq
            exact ⟨w, rfl, hw.trans hv.symm, nm, sh, _, _, hp2.fr F2 (by omega), hq2, RR_up hRR (RR_memb hR (fun q => hh (hit.mp q))), hz⟩
theorem p_remove (l : Launch) (G : zG) (B : Nat) {es : zE} {x k : Int32} (h : LI G B es) : Tr l G B jy_S_remove jb_S_remove 4 (some .int) 5 0 0 [.ref (B + 0), .int x, .int k] es (pI fun v es1 => (∃ fs, es1[320]? = some (.inr (7, fs))) ∧ Tr l G B jy_M_remove jb_M_remove 5 (some .int) 3 0 0 [.ref (B + 320), .int x, .int k] es1 (pI fun w es2 => w = v ∧ LI G B es2)) := by
  have hLI := h
  obtain ⟨nm, sh, D, R, hs, hm, hRR, hz⟩ := h
  have hcR := cnum_RR hRR x
  cases hc : cnum D x with
  | none =>
    refine (c_S_remove_none l G B hs hc).mono ?_
    rintro r es1 ⟨v, rfl, hv, he⟩
    subst he
    refine ⟨v, rfl, hm.ob, (c_M_remove_none l G B hm (hcR.trans hc)).mono ?_⟩
    rintro r es2 ⟨w, rfl, hw, he⟩
    exact ⟨w, rfl, hw.trans hv.symm, by rw [he]; exact hLI⟩
  | some c =>
    obtain ⟨hxc, hc4, -⟩ := cnum_some hc
    subst hxc
    have hR := hRR c hc4
    by_cases hk : k < 0 ∨ 3 < k
    · refine (c_S_remove_bad l G B hs hc hk).mono ?_
      rintro r es1 ⟨v, rfl, hv, he⟩
      subst he
      refine ⟨v, rfl, hm.ob, (c_M_remove_bad l G B hm (hcR.trans hc) hk).mono ?_⟩
      rintro r es2 ⟨w, rfl, hw, he⟩
      exact ⟨w, rfl, hw.trans hv.symm, by rw [he]; exact hLI⟩
    · obtain ⟨j, hj, rfl⟩ := nI_of (fun q => hk (Or.inl q))
      have hj4 : j < 4 := Nat.lt_of_not_le fun q => hk (Or.inr (nI_lt (a := 3) (by omega) hj))
      have hit := hit_iff (k := j) (n := nm) (s := sh) hR.2.2.2.2.2.2.2.2.2.2 hR.2.2.2.2.2.2.2.2.1
      have hM := fun {es1 : zE} (hm1 : rA G B es1 320 nm sh R) => c_M_remove l G B hm1 (hcR.trans hc) hj4 rfl hR.2.2.2.2.1.symm
      refine (c_S_remove l G B hs hc hj4).mono ?_
      rintro r es1 ⟨v, rfl, hp⟩
      refine ⟨v, rfl, ?_⟩
      by_cases hh : fnd (R c).2.2.2.2.2.1 j nm sh (D c).2.2.2.2.2.2.1 0 < (D c).2.2.2.2.2.2.1
      · rw [if_pos (hit.mpr hh)] at hp
        obtain ⟨hv, hp2, F⟩ := hp
        have hm' := hm.fr F (by omega)
        refine ⟨hm'.ob, (hM hm').mono ?_⟩
        rintro r es2 ⟨w, rfl, hq⟩
        rw [if_pos hh] at hq
        obtain ⟨hw, hq2, F2⟩ := hq
        exact ⟨w, rfl, hw.trans hv.symm, nm, sh, _, _, hp2.fr F2 (by omega), hq2, RR_up hRR (RR_rem hR hh (hit.mpr hh).1), hz⟩
      · rw [if_neg (fun q => hh (hit.mp q))] at hp
        obtain ⟨hv, he⟩ := hp
        subst he
        refine ⟨hm.ob, (hM hm).mono ?_⟩
        rintro r es2 ⟨w, rfl, hq⟩
        rw [if_neg hh] at hq
        exact ⟨w, rfl, hq.1.trans hv.symm, by rw [hq.2]; exact hLI⟩
theorem p_declare (l : Launch) (G : zG) (B : Nat) {es : zE} {x b : Int32} {y : Int64} (h : LI G B es) (hb : b = 0 ∨ b = 1) : Tr l G B jy_S_declare jb_S_declare 6 (some .int) 1 0 0 [.ref (B + 0), .int x, .int b, .long y] es (pI fun v es1 => (∃ fs, es1[320]? = some (.inr (7, fs))) ∧ Tr l G B jy_M_declare jb_M_declare 5 (some .int) 2 0 0 [.ref (B + 320), .int x, .int b, .long y] es1 (pI fun w es2 => w = v ∧ LI G B es2)) := by
  have hLI := h
  obtain ⟨nm, sh, D, R, hs, hm, hRR, hz⟩ := h
  have hcR := cnum_RR hRR x
  cases hc : cnum D x with
  | none =>
    refine (c_S_declare_none l G B hs hc).mono ?_
    rintro r es1 ⟨v, rfl, hv, he⟩
    subst he
    refine ⟨v, rfl, hm.ob, (c_M_declare_none l G B hm (hcR.trans hc)).mono ?_⟩
    rintro r es2 ⟨w, rfl, hw, he⟩
    exact ⟨w, rfl, hw.trans hv.symm, by rw [he]; exact hLI⟩
  | some c =>
    obtain ⟨hxc, hc4, -⟩ := cnum_some hc
    subst hxc
    have hR := hRR c hc4
    refine (c_S_declare l G B hs hc hb).mono ?_
    rintro r es1 ⟨v, rfl, hv, hp2, F⟩
    have hm' := hm.fr F (by omega)
    refine ⟨v, rfl, hm'.ob, (c_M_declare l G B hm' (hcR.trans hc) hb).mono ?_⟩
    rintro r es2 ⟨w, rfl, hw, hq2, F2⟩
    obtain ⟨r1, r2, r3, r4, r5, r6, r7, r8, r9, r10, r11⟩ := hR
    exact ⟨w, rfl, hw.trans hv.symm, nm, sh, _, _, hp2.fr F2 (by omega), hq2, RR_up hRR ⟨r1, r2, r3, r4, r5, rfl, rfl, r8, r9, r10, r11⟩, hz⟩
theorem cntV_RR {t t' : DT} (h : RR t t') (i : Nat) : cntV t' i = cntV t i := by
  obtain ⟨r1, r2, r3, r4, r5, r6, r7, r8, r9, r10, r11⟩ := h
  unfold cntV
  rw [← r4, ← r5, ← r3, ← r6, ← tal_perm r9 0, ← tal_perm r9 1, ← tal_perm r9 2, ← tal_perm r9 3]
theorem p_count (l : Launch) (G : zG) (B : Nat) {es : zE} {x k : Int32} (h : LI G B es) : Tr l G B jy_S_count jb_S_count 4 (some .int) 1 0 0 [.ref (B + 0), .int x, .int k] es (pI fun v es1 => (∃ fs, es1[320]? = some (.inr (7, fs))) ∧ Tr l G B jy_M_count jb_M_count 3 (some .int) 2 0 0 [.ref (B + 320), .int x, .int k] es1 (pI fun w es2 => w = v ∧ LI G B es2)) := by
  have hLI := h
  obtain ⟨nm, sh, D, R, hs, hm, hRR, hz⟩ := h
  have hcR := cnum_RR hRR x
  cases hc : cnum D x with
  | none =>
    refine (c_S_count_none l G B hs hc).mono ?_
    rintro r es1 ⟨v, rfl, hv, he⟩
    subst he
    refine ⟨v, rfl, hm.ob, (c_M_count_none l G B hm (hcR.trans hc)).mono ?_⟩
    rintro r es2 ⟨w, rfl, hw, he⟩
    exact ⟨w, rfl, hw.trans hv.symm, by rw [he]; exact hLI⟩
  | some c =>
    obtain ⟨hxc, hc4, -⟩ := cnum_some hc
    subst hxc
    refine (c_S_count l G B hs hc).mono ?_
    rintro r es1 ⟨v, rfl, hv, he⟩
    subst he
    refine ⟨v, rfl, hm.ob, (c_M_count l G B hm (hcR.trans hc)).mono ?_⟩
    rintro r es2 ⟨w, rfl, hw, he⟩
    exact ⟨w, rfl, by rw [hw, hv, cntV_RR (hRR c hc4)], by rw [he]; exact hLI⟩
theorem p_size (l : Launch) (G : zG) (B : Nat) {es : zE} {x : Int32} (h : LI G B es) : Tr l G B jy_S_size jb_S_size 3 (some .int) 8 0 0 [.ref (B + 0), .int x] es (pI fun v es1 => (∃ fs, es1[320]? = some (.inr (7, fs))) ∧ Tr l G B jy_M_size jb_M_size 2 (some .int) 5 0 0 [.ref (B + 320), .int x] es1 (pI fun w es2 => w = v ∧ LI G B es2)) := by
  have hLI := h
  obtain ⟨nm, sh, D, R, hs, hm, hRR, hz⟩ := h
  have hcR := cnum_RR hRR x
  cases hc : cnum D x with
  | none =>
    refine (c_S_size_none l G B hs hc).mono ?_
    rintro r es1 ⟨v, rfl, hv, he⟩
    subst he
    refine ⟨v, rfl, hm.ob, (c_M_size_none l G B hm (hcR.trans hc)).mono ?_⟩
    rintro r es2 ⟨w, rfl, hw, he⟩
    exact ⟨w, rfl, hw.trans hv.symm, by rw [he]; exact hLI⟩
  | some c =>
    obtain ⟨hxc, hc4, -⟩ := cnum_some hc
    subst hxc
    refine (c_S_size l G B hs hc).mono ?_
    rintro r es1 ⟨v, rfl, hv, hp2, F⟩
    have hm' := hm.fr F (by omega)
    refine ⟨v, rfl, hm'.ob, (c_M_size l G B hm' (hcR.trans hc) (hRR c hc4)).mono ?_⟩
    rintro r es2 ⟨w, rfl, hw, hq2, F2⟩
    exact ⟨w, rfl, hw.trans hv.symm, nm, sh, D, R, hp2.fr F2 (by omega), hq2, hRR, hz⟩
theorem p_byteAt (l : Launch) (G : zG) (B : Nat) {es : zE} {x k : Int32} (h : LI G B es) : Tr l G B jy_S_byteAt jb_S_byteAt 4 (some .int) 8 0 0 [.ref (B + 0), .int x, .int k] es (pI fun v es1 => (∃ fs, es1[320]? = some (.inr (7, fs))) ∧ Tr l G B jy_M_byteAt jb_M_byteAt 3 (some .int) 5 0 0 [.ref (B + 320), .int x, .int k] es1 (pI fun w es2 => w = v ∧ LI G B es2)) := by
  have hLI := h
  obtain ⟨nm, sh, D, R, hs, hm, hRR, hz⟩ := h
  have hcR := cnum_RR hRR x
  cases hc : cnum D x with
  | none =>
    refine (c_S_byteAt_none l G B hs hc).mono ?_
    rintro r es1 ⟨v, rfl, hv, he⟩
    subst he
    refine ⟨v, rfl, hm.ob, (c_M_byteAt_none l G B hm (hcR.trans hc)).mono ?_⟩
    rintro r es2 ⟨w, rfl, hw, he⟩
    exact ⟨w, rfl, hw.trans hv.symm, by rw [he]; exact hLI⟩
  | some c =>
    obtain ⟨hxc, hc4, -⟩ := cnum_some hc
    subst hxc
    refine (c_S_byteAt l G B hs hc).mono ?_
    rintro r es1 ⟨v, rfl, hv, -, hp2, F⟩
    have hm' := hm.fr F (by omega)
    refine ⟨v, rfl, hm'.ob, (c_M_byteAt l G B hm' (hcR.trans hc) (hRR c hc4)).mono ?_⟩
    rintro r es2 ⟨w, rfl, hw, hq2, F2⟩
    exact ⟨w, rfl, hw.trans hv.symm, nm, sh, D, R, hp2.fr F2 (by omega), hq2, hRR, hz⟩
theorem p_part (l : Launch) (G : zG) (B : Nat) {es : zE} {x k : Int32} (h : LI G B es) : Tr l G B jy_S_part jb_S_part 4 (some .int) 8 0 0 [.ref (B + 0), .int x, .int k] es (pI fun v es1 => (∃ fs, es1[320]? = some (.inr (7, fs))) ∧ Tr l G B jy_M_part jb_M_part 3 (some .int) 5 0 0 [.ref (B + 320), .int x, .int k] es1 (pI fun w es2 => w = v ∧ LI G B es2)) := by
  have hLI := h
  obtain ⟨nm, sh, D, R, hs, hm, hRR, hz⟩ := h
  have hcR := cnum_RR hRR x
  cases hc : cnum D x with
  | none =>
    refine (c_S_part_none l G B hs hc).mono ?_
    rintro r es1 ⟨v, rfl, hv, he⟩
    subst he
    refine ⟨v, rfl, hm.ob, (c_M_part_none l G B hm (hcR.trans hc)).mono ?_⟩
    rintro r es2 ⟨w, rfl, hw, he⟩
    exact ⟨w, rfl, hw.trans hv.symm, by rw [he]; exact hLI⟩
  | some c =>
    obtain ⟨hxc, hc4, -⟩ := cnum_some hc
    subst hxc
    refine (c_S_part l G B hs hc).mono ?_
    rintro r es1 ⟨v, rfl, hv, hp2, F⟩
    have hm' := hm.fr F (by omega)
    refine ⟨v, rfl, hm'.ob, (c_M_part l G B hm' (hcR.trans hc) (hRR c hc4)).mono ?_⟩
    rintro r es2 ⟨w, rfl, hw, hq2, F2⟩
    exact ⟨w, rfl, hw.trans hv.symm, nm, sh, D, R, hp2.fr F2 (by omega), hq2, hRR, hz⟩
theorem p_id (l : Launch) (G : zG) (B : Nat) {es : zE} {x : Int32} (h : LI G B es) : Tr l G B jy_S_id jb_S_id 3 (some .long) 8 0 0 [.ref (B + 0), .int x] es (pL fun v es1 => (∃ fs, es1[320]? = some (.inr (7, fs))) ∧ Tr l G B jy_M_id jb_M_id 5 (some .long) 6 0 0 [.ref (B + 320), .int x] es1 (pL fun w es2 => w = v ∧ LI G B es2)) := by
  have hLI := h
  obtain ⟨nm, sh, D, R, hs, hm, hRR, hz⟩ := h
  have hcR := cnum_RR hRR x
  cases hc : cnum D x with
  | none =>
    refine (c_S_id_none l G B hs hc).mono ?_
    rintro r es1 ⟨v, rfl, hv, he⟩
    subst he
    refine ⟨v, rfl, hm.ob, (c_M_id_none l G B hm (hcR.trans hc)).mono ?_⟩
    rintro r es2 ⟨w, rfl, hw, he⟩
    exact ⟨w, rfl, hw.trans hv.symm, by rw [he]; exact hLI⟩
  | some c =>
    obtain ⟨hxc, hc4, -⟩ := cnum_some hc
    subst hxc
    refine (c_S_id l G B hs hc).mono ?_
    rintro r es1 ⟨v, rfl, hv, hp2, F⟩
    have hm' := hm.fr F (by omega)
    refine ⟨v, rfl, hm'.ob, (c_M_id l G B hm' (hcR.trans hc) (hRR c hc4)).mono ?_⟩
    rintro r es2 ⟨w, rfl, hw, hq2, F2⟩
    exact ⟨w, rfl, hw.trans hv.symm, nm, sh, D, R, hp2.fr F2 (by omega), hq2, hRR, hz⟩
theorem p_hash (l : Launch) (G : zG) (B : Nat) {es : zE} {x k : Int32} (h : LI G B es) : Tr l G B jy_S_hash jb_S_hash 4 (some .long) 8 0 0 [.ref (B + 0), .int x, .int k] es (pL fun v es1 => (∃ fs, es1[320]? = some (.inr (7, fs))) ∧ Tr l G B jy_M_hash jb_M_hash 3 (some .long) 6 0 0 [.ref (B + 320), .int x, .int k] es1 (pL fun w es2 => w = v ∧ LI G B es2)) := by
  have hLI := h
  obtain ⟨nm, sh, D, R, hs, hm, hRR, hz⟩ := h
  have hcR := cnum_RR hRR x
  cases hc : cnum D x with
  | none =>
    refine (c_S_hash_none l G B hs hc).mono ?_
    rintro r es1 ⟨v, rfl, hv, he⟩
    subst he
    refine ⟨v, rfl, hm.ob, (c_M_hash_none l G B hm (hcR.trans hc)).mono ?_⟩
    rintro r es2 ⟨w, rfl, hw, he⟩
    exact ⟨w, rfl, hw.trans hv.symm, by rw [he]; exact hLI⟩
  | some c =>
    obtain ⟨hxc, hc4, -⟩ := cnum_some hc
    subst hxc
    refine (c_S_hash l G B hs hc).mono ?_
    rintro r es1 ⟨v, rfl, hv, hp2, F⟩
    have hm' := hm.fr F (by omega)
    refine ⟨v, rfl, hm'.ob, (c_M_hash l G B hm' (hcR.trans hc) (hRR c hc4)).mono ?_⟩
    rintro r es2 ⟨w, rfl, hw, hq2, F2⟩
    exact ⟨w, rfl, hw.trans hv.symm, nm, sh, D, R, hp2.fr F2 (by omega), hq2, hRR, hz⟩
