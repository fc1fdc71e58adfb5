/-! Row.enter and Row.takeOut -/
def ins {α : Type} (f : Nat → α) (pl u : Nat) (x : α) : Nat → α := fun j => if j < pl then f j else if j = pl then x else if j ≤ u then f (j - 1) else f j
def del {α : Type} (f : Nat → α) (pl u : Nat) : Nat → α := fun j => if j < pl then f j else if j + 1 < u then f (j + 1) else if j + 1 = u then f pl else f j
theorem zs_self {es : zE} {i : Nat} {e : va_E} (h : es[i]? = some e) : es = es.set i e := by
  apply List.ext_getElem?
  intro j
  by_cases hij : i = j
  · subst hij
    rw [List.getElem?_set_self (List.getElem?_eq_some_iff.mp h).1, h]
  · rw [List.getElem?_set_ne hij]
theorem zs_set2 {es es1 es2 : zE} {i : Nat} {e1 e2 : va_E} (h1 : es1 = es.set i e1) (h2 : es2 = es1.set i e2) : es2 = es.set i e2 := by
  rw [h2, h1, List.set_set]
theorem ins_w {w : Nat → Nat} {pl u most : Nat} (hpl : pl ≤ u) (hu : u < most) (h6 : ∀ j, j < most → w j < most) (h7 : ∀ i j, i < most → j < most → w i = w j → i = j) : (∀ j, j < most → ins w pl u (w u) j < most) ∧ ∀ i j, i < most → j < most → ins w pl u (w u) i = ins w pl u (w u) j → i = j := by
  have key : ∀ j, j < most → ∃ j', j' < most ∧ ins w pl u (w u) j = w j' ∧ ((j < pl ∧ j' = j) ∨ (j = pl ∧ j' = u) ∨ (pl < j ∧ j ≤ u ∧ j' + 1 = j) ∨ (u < j ∧ j' = j)) := by
    intro j hj
    by_cases h1 : j < pl
    · exact ⟨j, hj, by simp [ins, h1], by omega⟩
    · by_cases h2 : j = pl
      · exact ⟨u, hu, by simp [ins, h2], by omega⟩
      · by_cases h3 : j ≤ u
        · exact ⟨j - 1, by omega, by simp [ins, h1, h2, h3], by omega⟩
        · exact ⟨j, hj, by simp [ins, h1, h2, h3], by omega⟩
  refine ⟨fun j hj => ?_, fun i j hi hj h => ?_⟩
  · obtain ⟨j', h1, h2, -⟩ := key j hj
    rw [h2]; exact h6 j' h1
  · obtain ⟨i', a1, a2, a3⟩ := key i hi
    obtain ⟨j', b1, b2, b3⟩ := key j hj
    have := h7 i' j' a1 b1 (by rw [← a2, ← b2]; exact h)
    omega
theorem del_w {w : Nat → Nat} {pl u most : Nat} (hpl : pl < u) (hu : u ≤ most) (h6 : ∀ j, j < most → w j < most) (h7 : ∀ i j, i < most → j < most → w i = w j → i = j) : (∀ j, j < most → del w pl u j < most) ∧ ∀ i j, i < most → j < most → del w pl u i = del w pl u j → i = j := by
  have key : ∀ j, j < most → ∃ j', j' < most ∧ del w pl u j = w j' ∧ ((j < pl ∧ j' = j) ∨ (pl ≤ j ∧ j + 1 < u ∧ j' = j + 1) ∨ (j + 1 = u ∧ j' = pl) ∨ (u ≤ j ∧ j' = j)) := by
    intro j hj
    by_cases h1 : j < pl
    · exact ⟨j, hj, by simp [del, h1], by omega⟩
    · by_cases h2 : j + 1 < u
      · exact ⟨j + 1, by omega, by simp [del, h1, h2], by omega⟩
      · by_cases h3 : j + 1 = u
        · exact ⟨pl, by omega, by simp [del, h1, h3], by omega⟩
        · exact ⟨j, hj, by simp [del, h1, h2, h3], by omega⟩
  refine ⟨fun j hj => ?_, fun i j hi hj h => ?_⟩
  · obtain ⟨j', h1, h2, -⟩ := key j hj
    rw [h2]; exact h6 j' h1
  · obtain ⟨i', a1, a2, a3⟩ := key i hi
    obtain ⟨j', b1, b2, b3⟩ := key j hj
    have := h7 i' j' a1 b1 (by rw [← a2, ← b2]; exact h)
    omega
set_option maxHeartbeats 4000000 in
set_option maxRecDepth 100000 in
theorem c_R_enter (l : Launch) (G : zG) (B : Nat) {es : zE} {p most u pn ps k : Nat} {m : Int32} {w : Nat → Nat} {E : Nat → Ent} {n s : List Nat} (h : rO G B es p most w E u) (hn : tx G B es pn n) (hs : tx G B es ps s) (hk : k < 5) (d1 : pn + 2 ≤ p ∨ p + 2 + 5 * most ≤ pn) (d2 : ps + 2 ≤ p ∨ p + 2 + 5 * most ≤ ps) : Tr l G B jy_R_enter jb_R_enter 8 (some .int) 4 0 0 [.ref (B + p), .int (nI k), .int m, .ref (B + pn), .ref (B + ps)] es (pI fun v es' => if plc E k n s u 0 < u ∧ entC (E (plc E k n s u 0)) k n s = 0 then v = -3 ∧ es' = es else if u = most then v = -4 ∧ es' = es else v = nI (u + 1) ∧ rO G B es' p most (ins w (plc E k n s u 0) u (w u)) (ins E (plc E k n s u 0) u (k, m, n, s)) (u + 1) ∧ Fr es es' p (p + 2 + 5 * most)) := by
  have hr := h
  obtain ⟨h1, ⟨a, h2, h3⟩, h4, hm10, h6, h7, h8⟩ := h
  obtain ⟨pl, hpl⟩ : ∃ x, x = plc E k n s u 0 := ⟨_, rfl⟩
  have hple : pl ≤ u := by have := plc_le E k n s u 0; omega
  refine Tr.of (ls := [some (.ref (B + p)), some (.int (nI k)), some (.int m), some (.ref (B + pn)), some (.ref (B + ps)), none, none, none]) (by decide +kernel) (Nat.le_of_ble_eq_true rfl) rfl ?_
  intro zp ze zs zm zb zt zc zE0
  refine z_aload_n (pc := 0) zE0 jd_R_enter_0 rfl rfl ?_
  refine z_iload_n (pc := 1) zE0 jd_R_enter_1 rfl rfl ?_
  refine z_aload_n (pc := 2) zE0 jd_R_enter_2 rfl rfl ?_
  refine z_aload (pc := 3) zE0 jd_R_enter_3 rfl ?_
  refine z_cV3I (pc := 5) zE0 (c_R_placeOf l G B hr hn hs hk) jc_R_22 jv_R_placeOf rfl (by assumption) ⟨by decide, by decide⟩ jd_R_enter_5 (by decide) (by decide) (by decide) (fun v5 es5 h5 => ?_)
  obtain ⟨w5, e5⟩ := h5
  rw [← hpl] at w5
  rw [e5, w5]
  refine z_istore (pc := 8) zE0 jd_R_enter_8 (by decide) rfl ?_
  dsimp only [List.set]
  refine z_aload_n (pc := 10) zE0 jd_R_enter_10 rfl rfl ?_
  refine z_iload (pc := 11) zE0 jd_R_enter_11 rfl ?_
  refine z_iload_n (pc := 13) zE0 jd_R_enter_13 rfl rfl ?_
  refine z_aload_n (pc := 14) zE0 jd_R_enter_14 rfl rfl ?_
  refine z_aload (pc := 15) zE0 jd_R_enter_15 rfl ?_
  refine z_cV4I (pc := 17) zE0 (c_R_isAt l G B hr hn hs hk hple) jc_R_26 jv_R_isAt rfl (by assumption) ⟨by decide, by decide⟩ jd_R_enter_17 (by decide) (by decide) (by decide) (fun v17 es17 h17 => ?_)
  obtain ⟨w17, e17⟩ := h17
  rw [e17, w17]
  refine z_if_eq (pc := 20) (tgt := 26) zE0 jd_R_enter_20 (by decide) (fun c20 => ?_) (fun c20 => ?_)
  · have hC : ¬ (pl < u ∧ entC (E pl) k n s = 0) := fun q => by rw [if_pos q] at c20; exact absurd c20 (by decide)
    refine z_aload_n (pc := 26) zE0 jd_R_enter_26 rfl rfl ?_
    refine z_get (pc := 27) zE0 jf_R_9 jd_R_enter_27 (by assumption) (by rfl) ?_
    refine z_aload_n (pc := 30) zE0 jd_R_enter_30 rfl rfl ?_
    refine z_get (pc := 31) zE0 jf_R_17 jd_R_enter_31 (by assumption) (by rfl) ?_
    refine z_alen (ti := 4) (pc := 34) zE0 rfl jd_R_enter_34 h2 ?_
    refine z_icmp_lt (pc := 35) (tgt := 41) zE0 jd_R_enter_35 (by decide) (fun c35 => ?_) (fun c35 => ?_)
    · have hum : u < most := clt (b := most) c35
      have hq := h8 u hum
      have hwu := h6 u hum
      refine z_aload_n (pc := 41) zE0 jd_R_enter_41 rfl rfl ?_
      refine z_get (pc := 42) zE0 jf_R_17 jd_R_enter_42 (by assumption) (by rfl) ?_
      refine z_aload_n (pc := 45) zE0 jd_R_enter_45 rfl rfl ?_
      refine z_get (pc := 46) zE0 jf_R_9 jd_R_enter_46 (by assumption) (by rfl) ?_
      refine z_aald (ti := 4) (pc := 49) zE0 rfl jd_R_enter_49 (by assumption) (vp_in_nI (by omega) (by omega)) ?_
      rw [nI_clamp (by omega), h3 u hum, rf_some]
      refine z_astore (pc := 50) zE0 jd_R_enter_50 (by decide) rfl ?_
      dsimp only [List.set]
      refine z_aload_n (pc := 52) zE0 jd_R_enter_52 rfl rfl ?_
      refine z_get (pc := 53) zE0 jf_R_9 jd_R_enter_53 (by assumption) (by rfl) ?_
      refine z_istore (pc := 56) zE0 jd_R_enter_56 (by decide) rfl ?_
      dsimp only [List.set]
      have loop : ∀ (f i : Nat) (a' : Nat → Option Nat) (es1 : zE), i = pl + f → i ≤ u → (∀ j, j < most → a' j = if j ≤ i then a j else if j ≤ u then a (j - 1) else a j) → es1 = es.set (p + 1) (.inl (G.2.1 4, most, .inr (.inr (.inr (.inr a'))))) → Zj zp l ze (zr 4 0 0) zs zm ([.ref (B + p), .int (nI k), .int m, .ref (B + pn), .ref (B + ps)] : List Value).toArray zb zt zc (MQ zb (zQ G B (pI fun v es' => if plc E k n s u 0 < u ∧ entC (E (plc E k n s u 0)) k n s = 0 then v = -3 ∧ es' = es else if u = most then v = -4 ∧ es' = es else v = nI (u + 1) ∧ rO G B es' p most (ins w (plc E k n s u 0) u (w u)) (ins E (plc E k n s u 0) u (k, m, n, s)) (u + 1) ∧ Fr es es' p (p + 2 + 5 * most))) ([.ref (B + p), .int (nI k), .int m, .ref (B + pn), .ref (B + ps)] : List Value).toArray zs 0 0 (fun q => B ≤ q)) G B 8 0 0 58 [some (.ref (B + p)), some (.int (nI k)), some (.int m), some (.ref (B + pn)), some (.ref (B + ps)), some (.int (nI pl)), some (.ref (B + (p + 2 + 5 * w u))), some (.int (nI i))] [] es1 := by
        intro f
        induction f with
        | zero =>
          intro i a' es1 hi hiu ha' he1
          have hi : i = pl := by omega
          subst hi
          have F1 : Fr es es1 (p + 1) (p + 2) := Fr.set he1 (by omega) (by omega)
          have r1 := zs_ne he1 (by omega) h1
          have r2 := zs_eq he1 h2
          have q1 := hq.fr F1 (by omega)
          have q2 := q1.1
          refine z_iload (pc := 58) zE0 jd_R_enter_58 rfl ?_
          refine z_iload (pc := 60) zE0 jd_R_enter_60 rfl ?_
          refine z_icmp_le (pc := 62) (tgt := 87) zE0 jd_R_enter_62 (by decide) (fun c62 => ?_) (fun c62 => ?_)
          · refine z_aload (pc := 87) zE0 jd_R_enter_87 rfl ?_
            refine z_iload_n (pc := 89) zE0 jd_R_enter_89 rfl rfl ?_
            refine z_iload_n (pc := 90) zE0 jd_R_enter_90 rfl rfl ?_
            refine z_aload_n (pc := 91) zE0 jd_R_enter_91 rfl rfl ?_
            refine z_aload (pc := 92) zE0 jd_R_enter_92 rfl ?_
            refine z_cV4V (pc := 94) zE0 (c_E_become l G B q1 (hn.fr F1 (by omega)) (hs.fr F1 (by omega)) hk (by omega) (by omega)) jc_R_30 jv_E_become rfl (by assumption) ⟨by decide, by decide⟩ jd_R_enter_94 (by decide) (by decide) (by decide) (fun es94 h94 => ?_)
            obtain ⟨w94, F94⟩ := h94
            have s1 := F94.at (by omega) r1
            have s2 := F94.at (by omega) r2
            have s3 := w94.1
            refine z_aload_n (pc := 97) zE0 jd_R_enter_97 rfl rfl ?_
            refine z_get (pc := 98) zE0 jf_R_17 jd_R_enter_98 (by assumption) (by rfl) ?_
            refine z_iload (pc := 101) zE0 jd_R_enter_101 rfl ?_
            refine z_aload (pc := 103) zE0 jd_R_enter_103 rfl ?_
            refine z_aast (ti := 4) (ci := 6) (r := ("StreamIds$Entry", jT_E, 4)) (pc := 105) zE0 rfl rfl jd_R_enter_105 s2 s3 rfl (vp_in_nI (by omega) (by omega)) (fun es105 he105 => ?_)
            rw [nI_clamp (by omega)] at he105
            have t1 := zs_ne he105 (by omega) s1
            have t2 := zs_eq he105 s2
            refine z_aload_n (pc := 106) zE0 jd_R_enter_106 rfl rfl ?_
            refine z_dup (pc := 107) zE0 jd_R_enter_107 rfl ?_
            refine z_get (pc := 108) zE0 jf_R_9 jd_R_enter_108 (by assumption) (by rfl) ?_
            refine z_iconst (v := 1) (pc := 111) zE0 jd_R_enter_111 (by decide) ?_
            refine z_iadd (pc := 112) zE0 jd_R_enter_112 ?_
            refine z_put (pc := 113) zE0 jp_R_9 jd_R_enter_113 (by assumption) (Nat.le_of_ble_eq_true rfl) rfl rfl (fun es113 he113 => ?_)
            dsimp only [List.set] at he113
            have v1 := zs_eq he113 t1
            have v2 := zs_ne he113 (by omega) t2
            rw [nI_1] at v1
            have F113 : Fr es94 es113 p (p + 2) := (Fr.set he105 (by omega) (by omega)).trs (Fr.set he113 (by omega) (by omega))
            have FF : Fr es es113 p (p + 2 + 5 * most) := ((F1.tr F94 (lo := p) (hi := p + 2 + 5 * most) (by omega) (by omega) (by omega) (by omega))).tr F113 (by omega) (by omega) (by omega) (by omega)
            obtain ⟨g6, g7⟩ := ins_w (w := w) hple hum h6 h7
            have ok : rO G B es113 p most (ins w i u (w u)) (ins E i u (k, m, n, s)) (u + 1) := by
              refine ⟨v1, ⟨_, v2, fun j hj => ?_⟩, by omega, hm10, g6, g7, fun j hj => ?_⟩
              · by_cases e1 : j = i
                · subst e1
                  simp [va_up, ins]
                · rw [va_up_ne _ _ e1, ha' j hj]
                  by_cases e2 : j < i
                  · rw [if_pos (by omega), h3 j hj]; simp [ins, e2]
                  · by_cases e3 : j ≤ u
                    · rw [if_neg (by omega), if_pos e3, h3 (j - 1) (by omega)]; simp [ins, e1, e2, e3]
                    · rw [if_neg (by omega), if_neg e3, h3 j hj]; simp [ins, e1, e2, e3]
              · have key : ∀ j', j' < most → j' ≠ u → en G B es113 (p + 2 + 5 * w j') (E j') := by
                  intro j' hj' hne
                  have hx1 : w j' ≠ w u := fun q => hne (h7 j' u hj' hum q)
                  have hx2 := h6 j' hj'
                  exact (((h8 j' hj').fr F1 (by omega)).fr F94 (by omega)).fr F113 (by omega)
                by_cases e1 : j = i
                · subst e1
                  have := w94.fr F113 (by omega)
                  simpa [ins] using this
                · by_cases e2 : j < i
                  · have := key j hj (by omega)
                    simpa [ins, e2] using this
                  · by_cases e3 : j ≤ u
                    · have := key (j - 1) (by omega) (by omega)
                      simpa [ins, e1, e2, e3] using this
                    · have := key j hj (by omega)
                      simpa [ins, e1, e2, e3] using this
            refine z_aload_n (pc := 116) zE0 jd_R_enter_116 rfl rfl ?_
            refine z_get (pc := 117) zE0 jf_R_9 jd_R_enter_117 (by assumption) (by rfl) ?_
            exact z_iret zE0 jd_R_enter_120 ⟨_, rfl, by dsimp only; rw [← hpl, if_neg hC, if_neg (by omega)]; exact ⟨rfl, ok, FF⟩⟩
          · exact absurd (nI_le (Nat.le_refl _) (by omega)) c62
        | succ f ih =>
          intro i a' es1 hi hiu ha' he1
          have r1 := zs_ne he1 (by omega) h1
          have r2 := zs_eq he1 h2
          have hen := h8 (i - 1) (by omega)
          have hw1 := h6 (i - 1) (by omega)
          have r3 := zs_ne he1 (by omega) hen.1
          refine z_iload (pc := 58) zE0 jd_R_enter_58 rfl ?_
          refine z_iload (pc := 60) zE0 jd_R_enter_60 rfl ?_
          refine z_icmp_le (pc := 62) (tgt := 87) zE0 jd_R_enter_62 (by decide) (fun c62 => ?_) (fun c62 => ?_)
          · exact absurd (cle c62) (by omega)
          · refine z_aload_n (pc := 65) zE0 jd_R_enter_65 rfl rfl ?_
            refine z_get (pc := 66) zE0 jf_R_17 jd_R_enter_66 (by assumption) (by rfl) ?_
            refine z_iload (pc := 69) zE0 jd_R_enter_69 rfl ?_
            refine z_aload_n (pc := 71) zE0 jd_R_enter_71 rfl rfl ?_
            refine z_get (pc := 72) zE0 jf_R_17 jd_R_enter_72 (by assumption) (by rfl) ?_
            refine z_iload (pc := 75) zE0 jd_R_enter_75 rfl ?_
            refine z_iconst (v := 1) (pc := 77) zE0 jd_R_enter_77 (by decide) ?_
            refine z_isub (pc := 78) zE0 jd_R_enter_78 ?_
            rw [show nI i - 1 = nI (i - 1) by rw [← pk_sub (by omega)]; rfl]
            refine z_aald (ti := 4) (pc := 79) zE0 rfl jd_R_enter_79 (by assumption) (vp_in_nI (by omega) (by omega)) ?_
            rw [nI_clamp (by omega), ha' (i - 1) (by omega), if_pos (by omega), h3 (i - 1) (by omega), rf_some]
            refine z_aast (ti := 4) (ci := 6) (r := ("StreamIds$Entry", jT_E, 4)) (pc := 80) zE0 rfl rfl jd_R_enter_80 r2 r3 rfl (vp_in_nI (by omega) (by omega)) (fun es80 he80 => ?_)
            rw [nI_clamp (by omega)] at he80
            refine z_iinc (pc := 81) zE0 jd_R_enter_81 rfl rfl (by decide) rfl ?_
            dsimp only [List.set]
            refine z_goto (pc := 84) (tgt := 58) zE0 jd_R_enter_84 (by decide) ?_
            rw [show nI i + Int32.ofInt (-1) = nI (i - 1) by rw [show i = (i - 1) + 1 by omega]; exact pk_m1 (i - 1)]
            refine ih (i - 1) _ es80 (by omega) (by omega) (fun j hj => ?_) (zs_set2 he1 he80)
            by_cases e1 : j = i
            · subst e1
              rw [va_up_self, if_neg (by omega), if_pos (by omega), h3 (j - 1) (by omega)]
            · rw [va_up_ne _ _ e1, ha' j hj]
              by_cases e2 : j < i
              · simp [show j ≤ i by omega, show j ≤ i - 1 by omega]
              · simp [show ¬ j ≤ i by omega, show ¬ j ≤ i - 1 by omega]
      exact loop (u - pl) u a es (by omega) (Nat.le_refl _) (fun j hj => by by_cases hju : j ≤ u <;> simp [hju]) (zs_self h2)
    · have hum : u = most := by have := nclt (b := most) c35; omega
      refine z_bipush (v := -4) (pc := 38) zE0 jd_R_enter_38 (by decide) ?_
      exact z_iret zE0 jd_R_enter_40 ⟨_, rfl, by dsimp only; rw [← hpl, if_neg hC, if_pos hum]; exact ⟨rfl, rfl⟩⟩
  · have hC : pl < u ∧ entC (E pl) k n s = 0 := Decidable.byContradiction fun q => c20 (by rw [if_neg q])
    refine z_bipush (v := -3) (pc := 23) zE0 jd_R_enter_23 (by decide) ?_
    exact z_iret zE0 jd_R_enter_25 ⟨_, rfl, by dsimp only; rw [← hpl, if_pos hC]; exact ⟨rfl, rfl⟩⟩
set_option maxHeartbeats 4000000 in
set_option maxRecDepth 100000 in
theorem c_R_takeOut (l : Launch) (G : zG) (B : Nat) {es : zE} {p most u pn ps k : Nat} {w : Nat → Nat} {E : Nat → Ent} {n s : List Nat} (h : rO G B es p most w E u) (hn : tx G B es pn n) (hs : tx G B es ps s) (hk : k < 5) : Tr l G B jy_R_takeOut jb_R_takeOut 7 (some .int) 4 0 0 [.ref (B + p), .int (nI k), .ref (B + pn), .ref (B + ps)] es (pI fun v es' => if plc E k n s u 0 < u ∧ entC (E (plc E k n s u 0)) k n s = 0 then v = nI (u - 1) ∧ rO G B es' p most (del w (plc E k n s u 0) u) (del E (plc E k n s u 0) u) (u - 1) ∧ Fr es es' p (p + 2 + 5 * most) else v = -2 ∧ es' = es) := by
  have hr := h
  obtain ⟨h1, ⟨a, h2, h3⟩, h4, hm10, h6, h7, h8⟩ := h
  obtain ⟨pl, hpl⟩ : ∃ x, x = plc E k n s u 0 := ⟨_, rfl⟩
  have hple : pl ≤ u := by have := plc_le E k n s u 0; omega
  refine Tr.of (ls := [some (.ref (B + p)), some (.int (nI k)), some (.ref (B + pn)), some (.ref (B + ps)), none, none, none]) (by decide +kernel) (Nat.le_of_ble_eq_true rfl) rfl ?_
  intro zp ze zs zm zb zt zc zE0
  refine z_aload_n (pc := 0) zE0 jd_R_takeOut_0 rfl rfl ?_
  refine z_iload_n (pc := 1) zE0 jd_R_takeOut_1 rfl rfl ?_
  refine z_aload_n (pc := 2) zE0 jd_R_takeOut_2 rfl rfl ?_
  refine z_aload_n (pc := 3) zE0 jd_R_takeOut_3 rfl rfl ?_
  refine z_cV3I (pc := 4) zE0 (c_R_placeOf l G B hr hn hs hk) jc_R_22 jv_R_placeOf rfl (by assumption) ⟨by decide, by decide⟩ jd_R_takeOut_4 (by decide) (by decide) (by decide) (fun v4 es4 h4 => ?_)
  obtain ⟨w4, e4⟩ := h4
  rw [← hpl] at w4
  rw [e4, w4]
  refine z_istore (pc := 7) zE0 jd_R_takeOut_7 (by decide) rfl ?_
  dsimp only [List.set]
  refine z_aload_n (pc := 9) zE0 jd_R_takeOut_9 rfl rfl ?_
  refine z_iload (pc := 10) zE0 jd_R_takeOut_10 rfl ?_
  refine z_iload_n (pc := 12) zE0 jd_R_takeOut_12 rfl rfl ?_
  refine z_aload_n (pc := 13) zE0 jd_R_takeOut_13 rfl rfl ?_
  refine z_aload_n (pc := 14) zE0 jd_R_takeOut_14 rfl rfl ?_
  refine z_cV4I (pc := 15) zE0 (c_R_isAt l G B hr hn hs hk hple) jc_R_26 jv_R_isAt rfl (by assumption) ⟨by decide, by decide⟩ jd_R_takeOut_15 (by decide) (by decide) (by decide) (fun v15 es15 h15 => ?_)
  obtain ⟨w15, e15⟩ := h15
  rw [e15, w15]
  refine z_if_ne (pc := 18) (tgt := 24) zE0 jd_R_takeOut_18 (by decide) (fun c18 => ?_) (fun c18 => ?_)
  · have hC : pl < u ∧ entC (E pl) k n s = 0 := Decidable.byContradiction fun q => c18 (by rw [if_neg q])
    have hpu := hC.1
    have hq := h8 pl (by omega)
    have hwp := h6 pl (by omega)
    refine z_aload_n (pc := 24) zE0 jd_R_takeOut_24 rfl rfl ?_
    refine z_get (pc := 25) zE0 jf_R_17 jd_R_takeOut_25 (by assumption) (by rfl) ?_
    refine z_iload (pc := 28) zE0 jd_R_takeOut_28 rfl ?_
    refine z_aald (ti := 4) (pc := 30) zE0 rfl jd_R_takeOut_30 (by assumption) (vp_in_nI (by omega) (by omega)) ?_
    rw [nI_clamp (by omega), h3 pl (by omega), rf_some]
    refine z_astore (pc := 31) zE0 jd_R_takeOut_31 (by decide) rfl ?_
    dsimp only [List.set]
    refine z_aload_n (pc := 33) zE0 jd_R_takeOut_33 rfl rfl ?_
    refine z_dup (pc := 34) zE0 jd_R_takeOut_34 rfl ?_
    refine z_get (pc := 35) zE0 jf_R_9 jd_R_takeOut_35 (by assumption) (by rfl) ?_
    refine z_iconst (v := 1) (pc := 38) zE0 jd_R_takeOut_38 (by decide) ?_
    refine z_isub (pc := 39) zE0 jd_R_takeOut_39 ?_
    refine z_put (pc := 40) zE0 jp_R_9 jd_R_takeOut_40 (by assumption) (Nat.le_of_ble_eq_true rfl) rfl rfl (fun es40 he40 => ?_)
    dsimp only [List.set] at he40
    rw [show nI u - 1 = nI (u - 1) by rw [← pk_sub (by omega)]; rfl] at he40
    have b1 := zs_eq he40 h1
    have b2 := zs_ne he40 (by omega) h2
    have F40 : Fr es es40 p (p + 1) := Fr.set he40 (by omega) (by omega)
    refine z_iload (pc := 43) zE0 jd_R_takeOut_43 rfl ?_
    refine z_istore (pc := 45) zE0 jd_R_takeOut_45 (by decide) rfl ?_
    dsimp only [List.set]
    have loop : ∀ (f i : Nat) (a' : Nat → Option Nat) (es1 : zE), i + f + 1 = u → pl ≤ i → (∀ j, j < most → a' j = if j < pl then a j else if j < i then a (j + 1) else a j) → es1 = es40.set (p + 1) (.inl (G.2.1 4, most, .inr (.inr (.inr (.inr a'))))) → Zj zp l ze (zr 4 0 0) zs zm ([.ref (B + p), .int (nI k), .ref (B + pn), .ref (B + ps)] : List Value).toArray zb zt zc (MQ zb (zQ G B (pI fun v es' => if plc E k n s u 0 < u ∧ entC (E (plc E k n s u 0)) k n s = 0 then v = nI (u - 1) ∧ rO G B es' p most (del w (plc E k n s u 0) u) (del E (plc E k n s u 0) u) (u - 1) ∧ Fr es es' p (p + 2 + 5 * most) else v = -2 ∧ es' = es)) ([.ref (B + p), .int (nI k), .ref (B + pn), .ref (B + ps)] : List Value).toArray zs 0 0 (fun q => B ≤ q)) G B 7 0 0 47 [some (.ref (B + p)), some (.int (nI k)), some (.ref (B + pn)), some (.ref (B + ps)), some (.int (nI pl)), some (.ref (B + (p + 2 + 5 * w pl))), some (.int (nI i))] [] es1 := by
      intro f
      induction f with
      | zero =>
        intro i a' es1 hi hiu ha' he1
        have F1 : Fr es40 es1 (p + 1) (p + 2) := Fr.set he1 (by omega) (by omega)
        have r1 := zs_ne he1 (by omega) b1
        have r2 := zs_eq he1 b2
        have q1 := (hq.fr F40 (by omega)).fr F1 (by omega)
        have q2 := q1.1
        refine z_iload (pc := 47) zE0 jd_R_takeOut_47 rfl ?_
        refine z_aload_n (pc := 49) zE0 jd_R_takeOut_49 rfl rfl ?_
        refine z_get (pc := 50) zE0 jf_R_9 jd_R_takeOut_50 (by assumption) (by rfl) ?_
        refine z_icmp_ge (pc := 53) (tgt := 78) zE0 jd_R_takeOut_53 (by decide) (fun c53 => ?_) (fun c53 => ?_)
        · refine z_aload_n (pc := 78) zE0 jd_R_takeOut_78 rfl rfl ?_
          refine z_get (pc := 79) zE0 jf_R_17 jd_R_takeOut_79 (by assumption) (by rfl) ?_
          refine z_aload_n (pc := 82) zE0 jd_R_takeOut_82 rfl rfl ?_
          refine z_get (pc := 83) zE0 jf_R_9 jd_R_takeOut_83 (by assumption) (by rfl) ?_
          refine z_aload (pc := 86) zE0 jd_R_takeOut_86 rfl ?_
          refine z_aast (ti := 4) (ci := 6) (r := ("StreamIds$Entry", jT_E, 4)) (pc := 88) zE0 rfl rfl jd_R_takeOut_88 r2 q2 rfl (vp_in_nI (by omega) (by omega)) (fun es88 he88 => ?_)
          rw [nI_clamp (by omega)] at he88
          have t1 := zs_ne he88 (by omega) r1
          have t2 := zs_eq he88 r2
          have F88 : Fr es1 es88 (p + 1) (p + 2) := Fr.set he88 (by omega) (by omega)
          have FA : Fr es es88 p (p + 2) := ((F40.tr F1 (lo := p) (hi := p + 2) (by omega) (by omega) (by omega) (by omega))).tr F88 (by omega) (by omega) (by omega) (by omega)
          obtain ⟨g6, g7⟩ := del_w (w := w) hpu h4 h6 h7
          have ok : rO G B es88 p most (del w pl u) (del E pl u) (u - 1) := by
            refine ⟨t1, ⟨_, t2, fun j hj => ?_⟩, by omega, hm10, g6, g7, fun j hj => ?_⟩
            · by_cases e1 : j = u - 1
              · subst e1
                rw [va_up_self]
                simp [del, show ¬ u - 1 < pl by omega, show ¬ u - 1 + 1 < u by omega, show u - 1 + 1 = u by omega]
              · rw [va_up_ne _ _ e1, ha' j hj]
                by_cases e2 : j < pl
                · rw [if_pos e2, h3 j hj]; simp [del, e2]
                · by_cases e3 : j < i
                  · rw [if_neg e2, if_pos e3, h3 (j + 1) (by omega)]; simp [del, e2, show j + 1 < u by omega]
                  · rw [if_neg e2, if_neg e3, h3 j hj]; simp [del, e2, show ¬ j + 1 < u by omega, show ¬ j + 1 = u by omega]
            · have key : ∀ j', j' < most → en G B es88 (p + 2 + 5 * w j') (E j') := by
                intro j' hj'
                exact (h8 j' hj').fr FA (by omega)
              by_cases e2 : j < pl
              · have := key j hj
                simpa [del, e2] using this
              · by_cases e3 : j + 1 < u
                · have := key (j + 1) (by omega)
                  simpa [del, e2, e3] using this
                · by_cases e4 : j + 1 = u
                  · have := key pl (by omega)
                    simpa [del, e2, e3, e4] using this
                  · have := key j hj
                    simpa [del, e2, e3, e4] using this
          refine z_aload_n (pc := 89) zE0 jd_R_takeOut_89 rfl rfl ?_
          refine z_get (pc := 90) zE0 jf_R_9 jd_R_takeOut_90 (by assumption) (by rfl) ?_
          exact z_iret zE0 jd_R_takeOut_93 ⟨_, rfl, by dsimp only; rw [← hpl, if_pos hC]; exact ⟨rfl, ok, FA.tr (Fr.rf (lo := p) (hi := p + 2)) (by omega) (by omega) (by omega) (by omega)⟩⟩
        · exact absurd (nI_le (by omega) (by omega)) c53
      | succ f ih =>
        intro i a' es1 hi hiu ha' he1
        have r1 := zs_ne he1 (by omega) b1
        have r2 := zs_eq he1 b2
        have hen := (h8 (i + 1) (by omega)).fr F40 (by omega)
        have hw1 := h6 (i + 1) (by omega)
        have r3 := zs_ne he1 (by omega) hen.1
        refine z_iload (pc := 47) zE0 jd_R_takeOut_47 rfl ?_
        refine z_aload_n (pc := 49) zE0 jd_R_takeOut_49 rfl rfl ?_
        refine z_get (pc := 50) zE0 jf_R_9 jd_R_takeOut_50 (by assumption) (by rfl) ?_
        refine z_icmp_ge (pc := 53) (tgt := 78) zE0 jd_R_takeOut_53 (by decide) (fun c53 => ?_) (fun c53 => ?_)
        · exact absurd (cle c53) (by omega)
        · refine z_aload_n (pc := 56) zE0 jd_R_takeOut_56 rfl rfl ?_
          refine z_get (pc := 57) zE0 jf_R_17 jd_R_takeOut_57 (by assumption) (by rfl) ?_
          refine z_iload (pc := 60) zE0 jd_R_takeOut_60 rfl ?_
          refine z_aload_n (pc := 62) zE0 jd_R_takeOut_62 rfl rfl ?_
          refine z_get (pc := 63) zE0 jf_R_17 jd_R_takeOut_63 (by assumption) (by rfl) ?_
          refine z_iload (pc := 66) zE0 jd_R_takeOut_66 rfl ?_
          refine z_iconst (v := 1) (pc := 68) zE0 jd_R_takeOut_68 (by decide) ?_
          refine z_iadd (pc := 69) zE0 jd_R_takeOut_69 ?_
          rw [nI_1]
          refine z_aald (ti := 4) (pc := 70) zE0 rfl jd_R_takeOut_70 (by assumption) (vp_in_nI (by omega) (by omega)) ?_
          rw [nI_clamp (by omega), ha' (i + 1) (by omega), if_neg (by omega), if_neg (by omega), h3 (i + 1) (by omega), rf_some]
          refine z_aast (ti := 4) (ci := 6) (r := ("StreamIds$Entry", jT_E, 4)) (pc := 71) zE0 rfl rfl jd_R_takeOut_71 r2 r3 rfl (vp_in_nI (by omega) (by omega)) (fun es71 he71 => ?_)
          rw [nI_clamp (by omega)] at he71
          refine z_iinc (pc := 72) zE0 jd_R_takeOut_72 rfl rfl (by decide) rfl ?_
          dsimp only [List.set]
          refine z_goto (pc := 75) (tgt := 47) zE0 jd_R_takeOut_75 (by decide) ?_
          have := ih (i + 1) _ es71 (by omega) (by omega) (fun j hj => ?_) (zs_set2 he1 he71)
          · rw [nI_succ i] at this
            exact this
          · by_cases e1 : j = i
            · subst e1
              rw [va_up_self, if_neg (by omega), if_pos (by omega), h3 (j + 1) (by omega)]
            · rw [va_up_ne _ _ e1, ha' j hj]
              by_cases e2 : j < pl
              · simp [e2]
              · by_cases e3 : j < i
                · simp [e2, e3, show j < i + 1 by omega]
                · simp [e2, e3, show ¬ j < i + 1 by omega]
    exact loop (u - 1 - pl) pl a es40 (by omega) (Nat.le_refl _) (fun j hj => by by_cases q1 : j < pl <;> simp [q1]) (zs_self b2)
  · have hC : ¬ (pl < u ∧ entC (E pl) k n s = 0) := fun q => by rw [if_pos q] at c18; exact absurd c18 (by decide)
    refine z_bipush (v := -2) (pc := 21) zE0 jd_R_takeOut_21 (by decide) ?_
    exact z_iret zE0 jd_R_takeOut_23 ⟨_, rfl, by dsimp only; rw [← hpl, if_neg hC]; exact ⟨rfl, rfl⟩⟩
