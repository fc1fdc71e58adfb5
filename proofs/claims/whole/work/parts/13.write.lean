theorem tcl (k : Nat) (h : k < 2 ^ 31) : (nI k).toNatClampNeg = k := nI_clamp h
set_option maxHeartbeats 4000000 in
set_option maxRecDepth 100000 in
theorem c_L_write (l : Launch) (G : zG) (B : Nat) {es : zE} {p q : Nat} {bs : List Nat} {bg : Nat → Int32} {th : Int32} {nm : List Nat} {mo : Int32} {wf : Nat → Nat} {Ef : Nat → Ent} {uf : Nat} {wm : Nat → Nat} {Em : Nat → Ent} {um : Nat} {ho : Int32} {oi : Int64} (hy : ly G B es p bs bg) (h : dO G B es q th nm mo wf Ef uf wm Em um ho oi) (d1 : q + 77 ≤ p ∨ p + 3 ≤ q) : Tr l G B jy_L_write jb_L_write 2 none 7 0 0 [.ref (B + p), .ref (B + q)] es (pV fun es' => ∃ bg', ly G B es' p (by5 nm mo Ef uf Em um) bg' ∧ (∀ k, k < 6 → bg' k = nI (byo nm mo Ef uf Em um k)) ∧ (by5 nm mo Ef uf Em um).length ≤ 694 ∧ Fr es es' p (p + 3)) := by
  have hD := h
  obtain ⟨h1, h2, h3, h4⟩ := h
  have y1 := hy.obj
  have y3 := hy.bg
  have lf : (allB Ef 4 uf).length ≤ 26 * 4 := by
    have := allB_face (E := Ef) uf (fun j hj => (h3.2.2.2.2.2.2 j (by have := h3.2.2.1; omega)).2.1.len)
    have := h3.2.2.1
    omega
  have lm : (allB Em 0 um).length + (allB Em 3 um).length + (allB Em 1 um).length + (allB Em 2 um).length ≤ 560 := by
    have := allB_mem (E := Em) um (fun j hj => ⟨(h4.2.2.2.2.2.2 j (by have := h4.2.2.1; omega)).2.1.len, (h4.2.2.2.2.2.2 j (by have := h4.2.2.1; omega)).2.2.1.len⟩)
    have := h4.2.2.1
    omega
  have ln := h2.len
  have hh : (hdr nm mo (tal Em 2 um)).length = nm.length + 6 := by rw [hdr, List.length_append, ut_len, num_len]
  have hb1 : (by1 nm mo Ef uf Em um).length = nm.length + 6 + (allB Ef 4 uf).length := by rw [by1, List.length_append, hh]
  have hb2 : (by2 nm mo Ef uf Em um).length = nm.length + 6 + (allB Ef 4 uf).length + (allB Em 0 um).length := by rw [by2, List.length_append, hb1]
  have hb3 : (by3 nm mo Ef uf Em um).length = nm.length + 6 + (allB Ef 4 uf).length + (allB Em 0 um).length + (allB Em 3 um).length := by rw [by3, List.length_append, hb2]
  have hb4 : (by4 nm mo Ef uf Em um).length = nm.length + 6 + (allB Ef 4 uf).length + (allB Em 0 um).length + (allB Em 3 um).length + (allB Em 1 um).length := by rw [by4, List.length_append, hb3]
  have hb5 : (by5 nm mo Ef uf Em um).length = nm.length + 6 + (allB Ef 4 uf).length + (allB Em 0 um).length + (allB Em 3 um).length + (allB Em 1 um).length + (allB Em 2 um).length := by rw [by5, List.length_append, hb4]
  refine Tr.of (ls := [some (.ref (B + p)), some (.ref (B + q))]) (by decide +kernel) (Nat.le_of_ble_eq_true rfl) rfl ?_
  intro zp ze zs zm zb zt zc E
  refine z_aload_n (pc := 0) E jd_L_write_0 rfl rfl ?_
  refine z_iconst (v := 0) (pc := 1) E jd_L_write_1 (by decide) ?_
  refine z_put (pc := 2) E jp_L_15 jd_L_write_2 (by assumption) (Nat.le_of_ble_eq_true rfl) rfl rfl (fun es2 he2 => ?_)
  dsimp only [List.set] at he2
  have g2 := hy.nil he2
  have F2 : Fr es es2 p (p + 3) := Fr.set he2 (by omega) (by omega)
  have y1 := g2.obj
  have y3 := g2.bg
  refine z_aload_n (pc := 5) E jd_L_write_5 rfl rfl ?_
  refine z_get (pc := 6) E jf_L_19 jd_L_write_6 (by assumption) (by rfl) ?_
  refine z_iconst (v := 0) (pc := 9) E jd_L_write_9 (by decide) ?_
  refine z_aload_n (pc := 10) E jd_L_write_10 rfl rfl ?_
  refine z_get (pc := 11) E jf_L_15 jd_L_write_11 (by assumption) (by rfl) ?_
  refine z_iast (ti := 1) (pc := 14) E rfl jd_L_write_14 (by assumption) (vp_in_nI (n := 0) (by omega) (by omega)) (fun es14 he14 => ?_)
  rw [show (0 : Int32).toNatClampNeg = 0 from rfl] at he14
  have g14 := g2.bgs he14
  have F14 : Fr es es14 p (p + 3) := F2.trs (Fr.set he14 (by omega) (by omega))
  have D14 := hD.fr F14 (by omega)
  have o1 := D14.1
  have y1 := g14.obj
  refine z_aload_n (pc := 15) E jd_L_write_15 rfl rfl ?_
  refine z_aload_n (pc := 16) E jd_L_write_16 rfl rfl ?_
  refine z_get (pc := 17) E jf_L_23 jd_L_write_17 (by assumption) (by rfl) ?_
  refine z_cV1V (pc := 20) E (c_L_putText l G B g14 D14.2.1 (by omega) (by simp only [List.length_nil]; omega)) jc_L_29 jv_L_putText rfl (by assumption) ⟨by decide, by decide⟩ jd_L_write_20 (Nat.le_of_ble_eq_true rfl) (by decide) (by decide) (fun es20 h20 => ?_)
  obtain ⟨w20, f20⟩ := h20
  rw [List.nil_append] at w20
  have F20 := F14.trs f20
  have D20 := hD.fr F20 (by omega)
  have o1 := D20.1
  have y1 := w20.obj
  refine z_aload_n (pc := 23) E jd_L_write_23 rfl rfl ?_
  refine z_aload_n (pc := 24) E jd_L_write_24 rfl rfl ?_
  refine z_cV0I (pc := 25) E (c_D_hashedModifiers l G B D20) jc_L_33 jv_D_hashedModifiers rfl (by assumption) ⟨by decide, by decide⟩ jd_L_write_25 (Nat.le_of_ble_eq_true rfl) (by decide) (by decide) (fun v25 es25 h25 => ?_)
  obtain ⟨w25, e25⟩ := h25
  rw [e25, w25]
  refine z_cV1V (pc := 28) E (c_L_putNumber l G B w20 (by rw [ut_len]; omega)) jc_L_37 jv_L_putNumber rfl (by assumption) ⟨by decide, by decide⟩ jd_L_write_28 (Nat.le_of_ble_eq_true rfl) (by decide) (by decide) (fun es28 h28 => ?_)
  obtain ⟨w28, f28⟩ := h28
  have w28 : ly G B es28 p (hdr nm mo (tal Em 2 um)) _ := w28
  have F28 := F20.trs f28
  have y1 := w28.obj
  have y3 := w28.bg
  refine z_aload_n (pc := 31) E jd_L_write_31 rfl rfl ?_
  refine z_get (pc := 32) E jf_L_19 jd_L_write_32 (by assumption) (by rfl) ?_
  refine z_iconst (v := 1) (pc := 35) E jd_L_write_35 (by decide) ?_
  refine z_aload_n (pc := 36) E jd_L_write_36 rfl rfl ?_
  refine z_get (pc := 37) E jf_L_15 jd_L_write_37 (by assumption) (by rfl) ?_
  refine z_iast (ti := 1) (pc := 40) E rfl jd_L_write_40 (by assumption) (vp_in_nI (n := 1) (by omega) (by omega)) (fun es40 he40 => ?_)
  rw [show (1 : Int32).toNatClampNeg = 1 from rfl] at he40
  have g40 := w28.bgs he40
  have F40 := F28.trs (Fr.set (lo := p) (hi := p + 3) he40 (by omega) (by omega))
  have D40 := hD.fr F40 (by omega)
  have o1 := D40.1
  have y1 := g40.obj
  refine z_aload_n (pc := 41) E jd_L_write_41 rfl rfl ?_
  refine z_aload_n (pc := 42) E jd_L_write_42 rfl rfl ?_
  refine z_get (pc := 43) E jf_L_41 jd_L_write_43 (by assumption) (by rfl) ?_
  refine z_iconst (v := 4) (pc := 46) E jd_L_write_46 (by decide) ?_
  refine z_cV2V (pc := 47) E (c_L_putAll l G B (k := 4) g40 D40.2.2.1 (by omega) (by omega) (by omega)) jc_L_45 jv_L_putAll rfl (by assumption) ⟨by decide, by decide⟩ jd_L_write_47 (Nat.le_of_ble_eq_true rfl) (by decide) (by decide) (fun es47 h47 => ?_)
  obtain ⟨w47, f47⟩ := h47
  have w47 : ly G B es47 p (by1 nm mo Ef uf Em um) _ := w47
  have F47 := F40.trs f47
  have y1 := w47.obj
  have y3 := w47.bg
  refine z_aload_n (pc := 50) E jd_L_write_50 rfl rfl ?_
  refine z_get (pc := 51) E jf_L_19 jd_L_write_51 (by assumption) (by rfl) ?_
  refine z_iconst (v := 2) (pc := 54) E jd_L_write_54 (by decide) ?_
  refine z_aload_n (pc := 55) E jd_L_write_55 rfl rfl ?_
  refine z_get (pc := 56) E jf_L_15 jd_L_write_56 (by assumption) (by rfl) ?_
  refine z_iast (ti := 1) (pc := 59) E rfl jd_L_write_59 (by assumption) (vp_in_nI (n := 2) (by omega) (by omega)) (fun es59 he59 => ?_)
  rw [show (2 : Int32).toNatClampNeg = 2 from rfl] at he59
  have g59 := w47.bgs he59
  have F59 := F47.trs (Fr.set (lo := p) (hi := p + 3) he59 (by omega) (by omega))
  have D59 := hD.fr F59 (by omega)
  have o1 := D59.1
  have y1 := g59.obj
  refine z_aload_n (pc := 60) E jd_L_write_60 rfl rfl ?_
  refine z_aload_n (pc := 61) E jd_L_write_61 rfl rfl ?_
  refine z_get (pc := 62) E jf_L_49 jd_L_write_62 (by assumption) (by rfl) ?_
  refine z_iconst (v := 0) (pc := 65) E jd_L_write_65 (by decide) ?_
  refine z_cV2V (pc := 66) E (c_L_putAll l G B (k := 0) g59 D59.2.2.2 (by omega) (by omega) (by omega)) jc_L_45 jv_L_putAll rfl (by assumption) ⟨by decide, by decide⟩ jd_L_write_66 (Nat.le_of_ble_eq_true rfl) (by decide) (by decide) (fun es66 h66 => ?_)
  obtain ⟨w66, f66⟩ := h66
  have w66 : ly G B es66 p (by2 nm mo Ef uf Em um) _ := w66
  have F66 := F59.trs f66
  have y1 := w66.obj
  have y3 := w66.bg
  refine z_aload_n (pc := 69) E jd_L_write_69 rfl rfl ?_
  refine z_get (pc := 70) E jf_L_19 jd_L_write_70 (by assumption) (by rfl) ?_
  refine z_iconst (v := 3) (pc := 73) E jd_L_write_73 (by decide) ?_
  refine z_aload_n (pc := 74) E jd_L_write_74 rfl rfl ?_
  refine z_get (pc := 75) E jf_L_15 jd_L_write_75 (by assumption) (by rfl) ?_
  refine z_iast (ti := 1) (pc := 78) E rfl jd_L_write_78 (by assumption) (vp_in_nI (n := 3) (by omega) (by omega)) (fun es78 he78 => ?_)
  rw [show (3 : Int32).toNatClampNeg = 3 from rfl] at he78
  have g78 := w66.bgs he78
  have F78 := F66.trs (Fr.set (lo := p) (hi := p + 3) he78 (by omega) (by omega))
  have D78 := hD.fr F78 (by omega)
  have o1 := D78.1
  have y1 := g78.obj
  refine z_aload_n (pc := 79) E jd_L_write_79 rfl rfl ?_
  refine z_aload_n (pc := 80) E jd_L_write_80 rfl rfl ?_
  refine z_get (pc := 81) E jf_L_49 jd_L_write_81 (by assumption) (by rfl) ?_
  refine z_iconst (v := 3) (pc := 84) E jd_L_write_84 (by decide) ?_
  refine z_cV2V (pc := 85) E (c_L_putAll l G B (k := 3) g78 D78.2.2.2 (by omega) (by omega) (by omega)) jc_L_45 jv_L_putAll rfl (by assumption) ⟨by decide, by decide⟩ jd_L_write_85 (Nat.le_of_ble_eq_true rfl) (by decide) (by decide) (fun es85 h85 => ?_)
  obtain ⟨w85, f85⟩ := h85
  have w85 : ly G B es85 p (by3 nm mo Ef uf Em um) _ := w85
  have F85 := F78.trs f85
  have y1 := w85.obj
  have y3 := w85.bg
  refine z_aload_n (pc := 88) E jd_L_write_88 rfl rfl ?_
  refine z_get (pc := 89) E jf_L_19 jd_L_write_89 (by assumption) (by rfl) ?_
  refine z_iconst (v := 4) (pc := 92) E jd_L_write_92 (by decide) ?_
  refine z_aload_n (pc := 93) E jd_L_write_93 rfl rfl ?_
  refine z_get (pc := 94) E jf_L_15 jd_L_write_94 (by assumption) (by rfl) ?_
  refine z_iast (ti := 1) (pc := 97) E rfl jd_L_write_97 (by assumption) (vp_in_nI (n := 4) (by omega) (by omega)) (fun es97 he97 => ?_)
  rw [show (4 : Int32).toNatClampNeg = 4 from rfl] at he97
  have g97 := w85.bgs he97
  have F97 := F85.trs (Fr.set (lo := p) (hi := p + 3) he97 (by omega) (by omega))
  have D97 := hD.fr F97 (by omega)
  have o1 := D97.1
  have y1 := g97.obj
  refine z_aload_n (pc := 98) E jd_L_write_98 rfl rfl ?_
  refine z_aload_n (pc := 99) E jd_L_write_99 rfl rfl ?_
  refine z_get (pc := 100) E jf_L_49 jd_L_write_100 (by assumption) (by rfl) ?_
  refine z_iconst (v := 1) (pc := 103) E jd_L_write_103 (by decide) ?_
  refine z_cV2V (pc := 104) E (c_L_putAll l G B (k := 1) g97 D97.2.2.2 (by omega) (by omega) (by omega)) jc_L_45 jv_L_putAll rfl (by assumption) ⟨by decide, by decide⟩ jd_L_write_104 (Nat.le_of_ble_eq_true rfl) (by decide) (by decide) (fun es104 h104 => ?_)
  obtain ⟨w104, f104⟩ := h104
  have w104 : ly G B es104 p (by4 nm mo Ef uf Em um) _ := w104
  have F104 := F97.trs f104
  have y1 := w104.obj
  have y3 := w104.bg
  refine z_aload_n (pc := 107) E jd_L_write_107 rfl rfl ?_
  refine z_get (pc := 108) E jf_L_19 jd_L_write_108 (by assumption) (by rfl) ?_
  refine z_iconst (v := 5) (pc := 111) E jd_L_write_111 (by decide) ?_
  refine z_aload_n (pc := 112) E jd_L_write_112 rfl rfl ?_
  refine z_get (pc := 113) E jf_L_15 jd_L_write_113 (by assumption) (by rfl) ?_
  refine z_iast (ti := 1) (pc := 116) E rfl jd_L_write_116 (by assumption) (vp_in_nI (n := 5) (by omega) (by omega)) (fun es116 he116 => ?_)
  rw [show (5 : Int32).toNatClampNeg = 5 from rfl] at he116
  have g116 := w104.bgs he116
  have F116 := F104.trs (Fr.set (lo := p) (hi := p + 3) he116 (by omega) (by omega))
  have D116 := hD.fr F116 (by omega)
  have o1 := D116.1
  have y1 := g116.obj
  refine z_aload_n (pc := 117) E jd_L_write_117 rfl rfl ?_
  refine z_aload_n (pc := 118) E jd_L_write_118 rfl rfl ?_
  refine z_get (pc := 119) E jf_L_49 jd_L_write_119 (by assumption) (by rfl) ?_
  refine z_iconst (v := 2) (pc := 122) E jd_L_write_122 (by decide) ?_
  refine z_cV2V (pc := 123) E (c_L_putAll l G B (k := 2) g116 D116.2.2.2 (by omega) (by omega) (by omega)) jc_L_45 jv_L_putAll rfl (by assumption) ⟨by decide, by decide⟩ jd_L_write_123 (Nat.le_of_ble_eq_true rfl) (by decide) (by decide) (fun es123 h123 => ?_)
  obtain ⟨w123, f123⟩ := h123
  have w123 : ly G B es123 p (by5 nm mo Ef uf Em um) _ := w123
  have F123 := F116.trs f123
  have hk : ∀ k, k < 6 → upd (upd (upd (upd (upd (upd bg 0 (nI ([] : List Nat).length)) 1 (nI (hdr nm mo (tal Em 2 um)).length)) 2 (nI (by1 nm mo Ef uf Em um).length)) 3 (nI (by2 nm mo Ef uf Em um).length)) 4 (nI (by3 nm mo Ef uf Em um).length)) 5 (nI (by4 nm mo Ef uf Em um).length) k = nI (byo nm mo Ef uf Em um k) := by
    intro k hk
    rcases (show k = 0 ∨ k = 1 ∨ k = 2 ∨ k = 3 ∨ k = 4 ∨ k = 5 by omega) with rfl | rfl | rfl | rfl | rfl | rfl <;> rfl
  exact z_vret E jd_L_write_126 ⟨rfl, _, w123, hk, by omega, F123⟩
