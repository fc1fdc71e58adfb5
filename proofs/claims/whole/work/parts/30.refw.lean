/-! the reference: members and faces in order -/
/-- the entries of a kind, in order, and what the next one is -/
theorem BP_none {E : Nat → Ent} {k b u : Nat} {A : Ent → Prop} {v : Int32} {L : List Ent} (h : BP E k b A u v) (hv : v < 0) (hb : b + u < 1000) (hL : ∀ e, e ∈ L → (∃ j, j < u ∧ E j = e) ∧ e.1 = k) : ∀ e ∈ L, ¬ A e := by
  intro e he ha
  obtain ⟨⟨j, hj, rfl⟩, hk⟩ := hL e he
  rcases h with ⟨h1, h2⟩ | ⟨m, h1, h2, h3, h4, h5⟩
  · exact h2 j hj hk ha
  · rw [h2] at hv; exact nI_pos (by omega) hv
/-- from the sorted entries: the first, or the one behind, is the best -/
theorem BP_next {E : Nat → Ent} {k b u : Nat} {A : Ent → Prop} {v : Int32} {L1 L2 : List Ent} (h : BP E k b A u v) (hb : b + u < 1000) (hL : ∀ e, e ∈ L1 ++ L2 ↔ (∃ j, j < u ∧ E j = e) ∧ e.1 = k) (hp : L2.Pairwise (fun a b => kC k a b < 0)) (h1 : ∀ e ∈ L1, ¬ A e) (h2 : ∀ e ∈ L2, A e) : (v = -1 ∧ L2 = []) ∨ ∃ m L3, m < u ∧ v = nI (b + m) ∧ L2 = E m :: L3 := by
  rcases h with ⟨g1, g2⟩ | ⟨m, g1, g2, g3, g4, g5⟩
  · left
    refine ⟨g1, ?_⟩
    cases L2 with
    | nil => rfl
    | cons x L3 =>
      obtain ⟨⟨j, hj, e⟩, hk⟩ := (hL x).mp (List.mem_append_right _ List.mem_cons_self)
      exact absurd (by rw [e]; exact h2 x List.mem_cons_self) (g2 j hj (by rw [e]; exact hk))
  · right
    have hm := (hL (E m)).mpr ⟨⟨m, g1, rfl⟩, g3⟩
    rcases List.mem_append.mp hm with q | q
    · exact absurd g4 (h1 _ q)
    · cases L2 with
      | nil => cases q
      | cons x L3 =>
        refine ⟨m, L3, g1, g2, ?_⟩
        rcases List.mem_cons.mp q with q | q
        · rw [q]
        · have hlt := (List.pairwise_cons.mp hp).1 _ q
          obtain ⟨⟨j, hj, e⟩, hk⟩ := (hL x).mp (List.mem_append_right _ List.mem_cons_self)
          exact absurd (by rw [e]; exact hlt) (g5 j hj (by rw [e]; exact hk) (by rw [e]; exact h2 x List.mem_cons_self))
/-- which entries lie above one of the sorted ones -/
theorem split_abv {k : Nat} {L1 L2 : List Ent} {x : Ent} (hp : (L1 ++ x :: L2).Pairwise (fun a b => kC k a b < 0)) : (∀ e ∈ L1 ++ [x], ¬ 0 < kC k e x) ∧ (∀ e ∈ L2, 0 < kC k e x) ∧ L2.Pairwise (fun a b => kC k a b < 0) := by
  rw [List.pairwise_append] at hp
  obtain ⟨p1, p2, p3⟩ := hp
  rw [List.pairwise_cons] at p2
  refine ⟨fun e he => ?_, fun e he => ?_, p2.2⟩
  · rcases List.mem_append.mp he with q | q
    · have := p3 e q x List.mem_cons_self
      omega
    · rw [List.mem_singleton.mp q]
      have := kC_sw k x x
      omega
  · have h1 := p2.1 e he
    have := kC_sw k x e
    omega
theorem flt_s (x : Ent) (L : List Ent) : flt (x :: L) = (if hsh x = true then entB x else []) ++ flt L := by
  rw [flt, List.flatMap_cons]; rfl
theorem i_and_or (x y z : Int32) : x &&& (y ||| z) = (x &&& y) ||| (x &&& z) := by
  apply Int32.toBitVec_inj.mp
  apply BitVec.eq_of_getLsbD_eq
  intro i hi
  simp only [Int32.toBitVec_and, Int32.toBitVec_or, BitVec.getLsbD_and, BitVec.getLsbD_or]
  cases x.toBitVec.getLsbD i <;> simp
theorem and136 (x : Int32) : x &&& 136 = 0 ↔ (x &&& 8 = 0 ∧ x &&& 128 = 0) := by
  rw [show (136 : Int32) = 8 ||| 128 from rfl, i_and_or, Int32.or_eq_zero_iff]
def nmB (k : Nat) (x : Ent) : List Nat := if k = 1 then ut (kx 2) else ut x.2.2.1
def mskB (k : Nat) : Int32 := if k = 0 then 223 else 3391
theorem entB_ref {x : Ent} {k : Nat} (h : x.1 = k) (hk : k < 3) : entB x = nmB k x ++ (num (x.2.1 &&& mskB k) ++ utg (decide (0 < k)) x.2.2.2) := by
  unfold entB nmB mskB
  rcases (show k = 0 ∨ k = 1 ∨ k = 2 by omega) with rfl | rfl | rfl <;> simp [h, utg_f, utg_t]
theorem hsh_ref {x : Ent} {k : Nat} (h : x.1 = k) (hk : k < 3) : hsh x = true ↔ ¬ (¬ x.2.1 &&& 2 = 0 ∧ (0 < k ∨ ¬ x.2.1 &&& 136 = 0)) := by
  rw [and136]
  unfold hsh hasM
  rcases (show k = 0 ∨ k = 1 ∨ k = 2 by omega) with rfl | rfl | rfl
  · rw [if_pos h]
    by_cases h2 : x.2.1 &&& 2 = 0 <;> by_cases h8 : x.2.1 &&& 8 = 0 <;> by_cases h9 : x.2.1 &&& 128 = 0 <;> simp [h2, h8, h9]
  · rw [if_neg (by omega), h]
    by_cases h2 : x.2.1 &&& 2 = 0 <;> simp [h2]
  · rw [if_neg (by omega), h]
    by_cases h2 : x.2.1 &&& 2 = 0 <;> simp [h2]
set_option maxHeartbeats 4000000 in
set_option maxRecDepth 100000 in
theorem c_M_writeMembers (l : Launch) (G : zG) (B : Nat) {es : zE} {r c u k : Nat} {S : MS} {P : Nat → Int32} {a e : Int32} {bs : List Nat} {t : DT} {E0 : Nat → Ent} {L : List Ent} (h : bO G B es r S P a e bs) (hc4 : c < 4) (hk : k < 3) (hh : mC S c t) (hE : t.2.2.2.2.2.1 = E0) (hu : t.2.2.2.2.2.2.1 = u) (hL : ∀ e, e ∈ L ↔ (∃ j, j < u ∧ E0 j = e) ∧ e.1 = k) (hp : L.Pairwise (fun a b => kC k a b < 0)) (hl : L.length ≤ 10) (hb : bs.length + (flt L).length ≤ 1000) : Tr l G B jy_M_writeMembers jb_M_writeMembers 6 none 3 0 0 [.ref (B + r), .int (nI c), .int (nI k)] es (pV fun es' => bO G B es' r S P a e (bs ++ flt L) ∧ Fr es es' r (r + 15)) := by
  have du : u ≤ 10 := hu ▸ hh.2.2.1
  have dM : ∀ j, j < u → mE S (10 * c + j) (E0 j) := by
    intro j hj
    have := hh.2.2.2 j (by rw [hu]; exact hj)
    rw [hE] at this
    exact this
  have hkk : (nI k < 0) = False := by simp only [eq_iff_iff, iff_false]; exact nI_pos (by omega)
  refine Tr.of (ls := [some (.ref (B + r)), some (.int (nI c)), some (.int (nI k)), none, none, none]) (by decide +kernel) (Nat.le_of_ble_eq_true rfl) rfl ?_
  intro zp ze zs zm zb zt zc E
  have loop : ∀ (f i : Nat) (L1 L2 : List Ent) (v : Int32) (b5 : Option Value) (bs1 : List Nat) (es1 : zE), L2.length = f → L = L1 ++ L2 → L1.length = i → bs1 = bs ++ flt L1 → ((v = -1 ∧ L2 = []) ∨ ∃ m L3, m < u ∧ v = nI (10 * c + m) ∧ L2 = E0 m :: L3) → bO G B es1 r S P a e bs1 → Fr es es1 r (r + 15) → Zj zp l ze (zr 3 0 0) zs zm ([.ref (B + r), .int (nI c), .int (nI k)] : List Value).toArray zb zt zc (MQ zb (zQ G B (pV fun es' => bO G B es' r S P a e (bs ++ flt L) ∧ Fr es es' r (r + 15))) ([.ref (B + r), .int (nI c), .int (nI k)] : List Value).toArray zs 0 0 (fun q => B ≤ q)) G B 6 0 0 11 [some (.ref (B + r)), some (.int (nI c)), some (.int (nI k)), some (.int v), some (.int (nI i)), b5] [] es1 := by
    intro f
    induction f with
    | zero =>
      intro i L1 L2 v b5 bs1 es1 hf hLs hi hbs hv h1 F1
      have hL2 := List.eq_nil_of_length_eq_zero hf
      subst hL2
      rw [List.append_nil] at hLs
      have hv' : v < 0 := by
        rcases hv with ⟨rfl, -⟩ | ⟨m, L3, -, -, q⟩
        · decide
        · cases q
      refine z_iload (pc := 11) E jd_M_writeMembers_11 rfl ?_
      refine z_bipush (v := 10) (pc := 13) E jd_M_writeMembers_13 (by decide) ?_
      refine z_icmp_ge (pc := 15) (tgt := 139) E jd_M_writeMembers_15 (by decide) (fun c15 => ?_) (fun c15 => ?_)
      · exact z_vret E jd_M_writeMembers_139 ⟨rfl, by rw [hLs, ← hbs]; exact h1, F1⟩
      · refine z_iload_n (pc := 18) E jd_M_writeMembers_18 rfl rfl ?_
        refine z_if_lt (pc := 19) (tgt := 139) E jd_M_writeMembers_19 (by decide) (fun c19 => ?_) (fun c19 => ?_)
        · exact z_vret E jd_M_writeMembers_139 ⟨rfl, by rw [hLs, ← hbs]; exact h1, F1⟩
        · exact absurd hv' c19
    | succ f ih =>
      intro i L1 L2 v b5 bs1 es1 hf hLs hi hbs hv h1 F1
      obtain ⟨m, L3, hm, hvm, hL2⟩ : ∃ m L3, m < u ∧ v = nI (10 * c + m) ∧ L2 = E0 m :: L3 := by
        rcases hv with ⟨-, q⟩ | q
        · rw [q] at hf; cases hf
        · exact q
      subst hvm
      subst hL2
      have hkm : (E0 m).1 = k := ((hL (E0 m)).mp (by rw [hLs]; exact List.mem_append_right _ List.mem_cons_self)).2
      obtain ⟨g1, g2, g3, g4, g5⟩ := dM m hm
      have hi10 : i < 10 := by rw [hLs, List.length_append, List.length_cons] at hl; omega
      have hLs' : L = (L1 ++ [E0 m]) ++ L3 := by rw [hLs]; simp
      have hfl : (flt L).length = (flt L1).length + ((if hsh (E0 m) = true then entB (E0 m) else []).length + (flt L3).length) := by
        rw [hLs, flt_app, flt_s, List.length_append, List.length_append]
      have hbl : bs1.length = bs.length + (flt L1).length := by rw [hbs, List.length_append]
      have sp := split_abv (k := k) (L1 := L1) (L2 := L3) (x := E0 m) (by rw [← hLs]; exact hp)
      have hn24 := g4.2.1
      have hs24 := g5.2.1
      have m0 := h1.obj
      have k10 := h1.c10
      have t125 : ∀ (b5 : Option Value) (es2 : zE), bO G B es2 r S P a e (bs1 ++ (if hsh (E0 m) = true then entB (E0 m) else [])) → Fr es es2 r (r + 15) → Zj zp l ze (zr 3 0 0) zs zm ([.ref (B + r), .int (nI c), .int (nI k)] : List Value).toArray zb zt zc (MQ zb (zQ G B (pV fun es' => bO G B es' r S P a e (bs ++ flt L) ∧ Fr es es' r (r + 15))) ([.ref (B + r), .int (nI c), .int (nI k)] : List Value).toArray zs 0 0 (fun q => B ≤ q)) G B 6 0 0 125 [some (.ref (B + r)), some (.int (nI c)), some (.int (nI k)), some (.int (nI (10 * c + m))), some (.int (nI i)), b5] [] es2 := by
        intro b5 es2 h2 F2
        have q0 := h2.obj
        obtain ⟨hbl2, f2, hm2, hf2⟩ := id h2
        have hA : abv E0 k (10 * c) u (fun x => 0 < kC k x (E0 m)) (nI (10 * c + m)) := Or.inr ⟨m, hm, rfl, fun _ => Iff.rfl⟩
        refine z_aload_n (pc := 125) E jd_M_writeMembers_125 rfl rfl ?_
        refine z_iload_n (pc := 126) E jd_M_writeMembers_126 rfl rfl ?_
        refine z_iload_n (pc := 127) E jd_M_writeMembers_127 rfl rfl ?_
        refine z_iload_n (pc := 128) E jd_M_writeMembers_128 rfl rfl ?_
        refine z_cV3I (pc := 129) E (c_M_following l G B (A := fun x => 0 < kC k x (E0 m)) hm2 hc4 hk (show mC (mW S f2 P) c t from hh) hE hu hA) jc_M_103 jv_M_following rfl (by assumption) ⟨Nat.le_of_ble_eq_true rfl, Nat.le_of_ble_eq_true rfl⟩ jd_M_writeMembers_129 (Nat.le_of_ble_eq_true rfl) (by decide) (by decide) (fun v129 es129 h129 => ?_)
        obtain ⟨w129, e129⟩ := h129
        rw [e129]
        refine z_istore_n (pc := 132) E jd_M_writeMembers_132 rfl (by decide) rfl ?_
        dsimp only [List.set]
        refine z_iinc (pc := 133) E jd_M_writeMembers_133 rfl rfl (by decide) rfl ?_
        dsimp only [List.set]
        refine z_goto (pc := 136) (tgt := 11) E jd_M_writeMembers_136 (by decide) ?_
        have := ih (i + 1) (L1 ++ [E0 m]) L3 v129 b5 _ es2 (by rw [List.length_cons] at hf; omega) hLs' (by rw [List.length_append, List.length_singleton, hi]) (by rw [flt_app, hbs, List.append_assoc, flt_s]; simp [flt]) (BP_next w129 (by omega) (by rw [← hLs']; exact hL) sp.2.2 sp.1 sp.2.1) h2 F2
        rw [nI_succ i] at this
        exact this
      have t84 : ∀ (es2 : zE) (b5 : Option Value), hsh (E0 m) = true → bO G B es2 r S P a e (bs1 ++ nmB k (E0 m)) → Fr es es2 r (r + 15) → Zj zp l ze (zr 3 0 0) zs zm ([.ref (B + r), .int (nI c), .int (nI k)] : List Value).toArray zb zt zc (MQ zb (zQ G B (pV fun es' => bO G B es' r S P a e (bs ++ flt L) ∧ Fr es es' r (r + 15))) ([.ref (B + r), .int (nI c), .int (nI k)] : List Value).toArray zs 0 0 (fun q => B ≤ q)) G B 6 0 0 84 [some (.ref (B + r)), some (.int (nI c)), some (.int (nI k)), some (.int (nI (10 * c + m))), some (.int (nI i)), b5] [] es2 := by
        intro es2 b5 hs h2 F2
        have q0 := h2.obj
        have q10 := h2.c10
        rw [if_pos hs] at hfl
        have hel : (entB (E0 m)).length = (nmB k (E0 m)).length + (4 + ((E0 m).2.2.2.length + 2)) := by
          rw [entB_ref hkm hk, List.length_append, List.length_append, num_len, utg, List.length_cons, List.length_cons, List.length_map]
        have t108 : ∀ (es3 : zE), bO G B es3 r S P a e (bs1 ++ nmB k (E0 m) ++ num ((E0 m).2.1 &&& mskB k)) → Fr es es3 r (r + 15) → Zj zp l ze (zr 3 0 0) zs zm ([.ref (B + r), .int (nI c), .int (nI k)] : List Value).toArray zb zt zc (MQ zb (zQ G B (pV fun es' => bO G B es' r S P a e (bs ++ flt L) ∧ Fr es es' r (r + 15))) ([.ref (B + r), .int (nI c), .int (nI k)] : List Value).toArray zs 0 0 (fun q => B ≤ q)) G B 6 0 0 108 [some (.ref (B + r)), some (.int (nI c)), some (.int (nI k)), some (.int (nI (10 * c + m))), some (.int (nI i)), b5] [] es3 := by
          intro es3 h3 F3
          have q0 := h3.obj
          have fin : ∀ y : Int32, (y = 0 ↔ decide (0 < k) = false) → Zj zp l ze (zr 3 0 0) zs zm ([.ref (B + r), .int (nI c), .int (nI k)] : List Value).toArray zb zt zc (MQ zb (zQ G B (pV fun es' => bO G B es' r S P a e (bs ++ flt L) ∧ Fr es es' r (r + 15))) ([.ref (B + r), .int (nI c), .int (nI k)] : List Value).toArray zs 0 0 (fun q => B ≤ q)) G B 6 0 0 122 [some (.ref (B + r)), some (.int (nI c)), some (.int (nI k)), some (.int (nI (10 * c + m))), some (.int (nI i)), b5] [.int y, .int (nI (62 + (10 * c + m))), .ref (B + r)] es3 := by
            intro y hy
            refine z_cV2V (pc := 122) E (c_M_utf l G B (decide (0 < k)) h3 g5 (by omega) hy (by simp only [List.length_append, num_len]; omega)) jc_M_110 jv_M_utf rfl (by assumption) ⟨Nat.le_of_ble_eq_true rfl, Nat.le_of_ble_eq_true rfl⟩ jd_M_writeMembers_122 (Nat.le_of_ble_eq_true rfl) (by decide) (by decide) (fun es122 h122 => ?_)
            obtain ⟨h4, F4⟩ := h122
            rw [List.append_assoc, List.append_assoc, ← entB_ref hkm hk] at h4
            exact t125 b5 es122 (by rw [if_pos hs]; exact h4) (F3.trs F4)
          refine z_aload_n (pc := 108) E jd_M_writeMembers_108 rfl rfl ?_
          refine z_bipush (v := 62) (pc := 109) E jd_M_writeMembers_109 (by decide) ?_
          refine z_iload_n (pc := 111) E jd_M_writeMembers_111 rfl rfl ?_
          refine z_iadd (pc := 112) E jd_M_writeMembers_112 ?_
          refine z_topi (y := nI (62 + (10 * c + m))) (nI_add 62 _) ?_
          refine z_iload_n (pc := 113) E jd_M_writeMembers_113 rfl rfl ?_
          refine z_if_le (pc := 114) (tgt := 121) E jd_M_writeMembers_114 (by decide) (fun c114 => ?_) (fun c114 => ?_)
          · have hk0 : k = 0 := by have := cle (b := 0) c114; omega
            refine z_iconst (v := 0) (pc := 121) E jd_M_writeMembers_121 (by decide) ?_
            first | exact fin 0 (by subst hk0; decide) | exact fin 1 (by simp [hk0])
          · have hk0 : 0 < k := ncle (b := 0) c114
            refine z_iconst (v := 1) (pc := 117) E jd_M_writeMembers_117 (by decide) ?_
            refine z_goto (pc := 118) (tgt := 122) E jd_M_writeMembers_118 (by decide) ?_
            first | exact fin 0 (by subst hk0; decide) | exact fin 1 (by simp [hk0])
        refine z_aload_n (pc := 84) E jd_M_writeMembers_84 rfl rfl ?_
        refine z_aload_n (pc := 85) E jd_M_writeMembers_85 rfl rfl ?_
        refine z_get (pc := 86) E jf_M_39 jd_M_writeMembers_86 (by assumption) (by rfl) ?_
        refine z_iload_n (pc := 89) E jd_M_writeMembers_89 rfl rfl ?_
        refine z_iald (ti := 1) (pc := 90) E rfl jd_M_writeMembers_90 (by assumption) (vp_in_nI (by omega) (by omega)) ?_
        rw [nI_clamp (by omega), g3]
        refine z_iload_n (pc := 91) E jd_M_writeMembers_91 rfl rfl ?_
        refine z_if_ne (pc := 92) (tgt := 101) E jd_M_writeMembers_92 (by decide) (fun c92 => ?_) (fun c92 => ?_)
        · have hmk : mskB k = 3391 := by rw [mskB, if_neg (nceq (b := 0) c92)]
          refine z_sipush (v := 3391) (pc := 101) E jd_M_writeMembers_101 (by decide) ?_
          refine z_iand (pc := 104) E jd_M_writeMembers_104 ?_
          refine z_cV1V (pc := 105) E (c_M_number l G B h2 (by rw [List.length_append]; omega)) jc_M_114 jv_M_number rfl (by assumption) ⟨Nat.le_of_ble_eq_true rfl, Nat.le_of_ble_eq_true rfl⟩ jd_M_writeMembers_105 (Nat.le_of_ble_eq_true rfl) (by decide) (by decide) (fun es105 h105 => ?_)
          obtain ⟨h3, F3⟩ := h105
          exact t108 es105 (by rw [hmk]; exact h3) (F2.trs F3)
        · have hmk : mskB k = 223 := by rw [mskB, if_pos (ceq (b := 0) c92)]
          refine z_sipush (v := 223) (pc := 95) E jd_M_writeMembers_95 (by decide) ?_
          refine z_goto (pc := 98) (tgt := 104) E jd_M_writeMembers_98 (by decide) ?_
          refine z_iand (pc := 104) E jd_M_writeMembers_104 ?_
          refine z_cV1V (pc := 105) E (c_M_number l G B h2 (by rw [List.length_append]; omega)) jc_M_114 jv_M_number rfl (by assumption) ⟨Nat.le_of_ble_eq_true rfl, Nat.le_of_ble_eq_true rfl⟩ jd_M_writeMembers_105 (Nat.le_of_ble_eq_true rfl) (by decide) (by decide) (fun es105 h105 => ?_)
          obtain ⟨h3, F3⟩ := h105
          exact t108 es105 (by rw [hmk]; exact h3) (F2.trs F3)
      have t55 : ∀ y : Int32, (y = 0 ↔ hsh (E0 m) = true) → Zj zp l ze (zr 3 0 0) zs zm ([.ref (B + r), .int (nI c), .int (nI k)] : List Value).toArray zb zt zc (MQ zb (zQ G B (pV fun es' => bO G B es' r S P a e (bs ++ flt L) ∧ Fr es es' r (r + 15))) ([.ref (B + r), .int (nI c), .int (nI k)] : List Value).toArray zs 0 0 (fun q => B ≤ q)) G B 6 0 0 55 [some (.ref (B + r)), some (.int (nI c)), some (.int (nI k)), some (.int (nI (10 * c + m))), some (.int (nI i)), b5] [.int y] es1 := by
        intro y hy
        refine z_istore (pc := 55) E jd_M_writeMembers_55 (by decide) rfl ?_
        dsimp only [List.set]
        refine z_iload (pc := 57) E jd_M_writeMembers_57 rfl ?_
        refine z_if_ne (pc := 59) (tgt := 125) E jd_M_writeMembers_59 (by decide) (fun c59 => ?_) (fun c59 => ?_)
        · exact t125 _ es1 (by rw [if_neg (fun q => c59 (hy.mpr q)), List.append_nil]; exact h1) F1
        · have hs := hy.mp c59
          rw [if_pos hs] at hfl
          have hel : (entB (E0 m)).length = (nmB k (E0 m)).length + (4 + ((E0 m).2.2.2.length + 2)) := by
            rw [entB_ref hkm hk, List.length_append, List.length_append, num_len, utg, List.length_cons, List.length_cons, List.length_map]
          refine z_iload_n (pc := 62) E jd_M_writeMembers_62 rfl rfl ?_
          refine z_iconst (v := 1) (pc := 63) E jd_M_writeMembers_63 (by decide) ?_
          refine z_icmp_ne (pc := 64) (tgt := 75) E jd_M_writeMembers_64 (by decide) (fun c64 => ?_) (fun c64 => ?_)
          · have hk1 : ¬ k = 1 := nceq (b := 1) c64
            refine z_aload_n (pc := 75) E jd_M_writeMembers_75 rfl rfl ?_
            refine z_bipush (v := 22) (pc := 76) E jd_M_writeMembers_76 (by decide) ?_
            refine z_iload_n (pc := 78) E jd_M_writeMembers_78 rfl rfl ?_
            refine z_iadd (pc := 79) E jd_M_writeMembers_79 ?_
            refine z_topi (y := nI (22 + (10 * c + m))) (nI_add 22 _) ?_
            refine z_iconst (v := 0) (pc := 80) E jd_M_writeMembers_80 (by decide) ?_
            refine z_cV2V (pc := 81) E (c_M_utf l G B false h1 g4 (by omega) (by decide) (by omega)) jc_M_110 jv_M_utf rfl (by assumption) ⟨Nat.le_of_ble_eq_true rfl, Nat.le_of_ble_eq_true rfl⟩ jd_M_writeMembers_81 (Nat.le_of_ble_eq_true rfl) (by decide) (by decide) (fun es81 h81 => ?_)
            obtain ⟨h2, F2⟩ := h81
            have h3 : bO G B es81 r S P a e (bs1 ++ nmB k (E0 m)) := by rw [nmB, if_neg hk1, ← utg_f]; exact h2
            exact t84 _ _ hs h3 (F1.trs F2)
          · have hk1 : k = 1 := ceq (b := 1) c64
            refine z_aload_n (pc := 67) E jd_M_writeMembers_67 rfl rfl ?_
            refine z_iconst (v := 0) (pc := 68) E jd_M_writeMembers_68 (by decide) ?_
            refine z_cV1V (pc := 69) E (c_M_initName0 l G B h1 (by omega)) jc_M_106 jv_M_initName rfl (by assumption) ⟨Nat.le_of_ble_eq_true rfl, Nat.le_of_ble_eq_true rfl⟩ jd_M_writeMembers_69 (Nat.le_of_ble_eq_true rfl) (by decide) (by decide) (fun es69 h69 => ?_)
            obtain ⟨h2, F2⟩ := h69
            have h3 : bO G B es69 r S P a e (bs1 ++ nmB k (E0 m)) := by rw [nmB, if_pos hk1]; exact h2
            refine z_goto (pc := 72) (tgt := 84) E jd_M_writeMembers_72 (by decide) ?_
            exact t84 _ _ hs h3 (F1.trs F2)
      have hr := hsh_ref hkm hk
      refine z_iload (pc := 11) E jd_M_writeMembers_11 rfl ?_
      refine z_bipush (v := 10) (pc := 13) E jd_M_writeMembers_13 (by decide) ?_
      refine z_icmp_ge (pc := 15) (tgt := 139) E jd_M_writeMembers_15 (by decide) (fun c15 => ?_) (fun c15 => ?_)
      · exact absurd (cle (a := 10) c15) (by omega)
      · refine z_iload_n (pc := 18) E jd_M_writeMembers_18 rfl rfl ?_
        refine z_if_lt (pc := 19) (tgt := 139) E jd_M_writeMembers_19 (by decide) (fun c19 => ?_) (fun c19 => ?_)
        · exact absurd c19 (nI_pos (by omega))
        · refine z_aload_n (pc := 22) E jd_M_writeMembers_22 rfl rfl ?_
          refine z_get (pc := 23) E jf_M_39 jd_M_writeMembers_23 (by assumption) (by rfl) ?_
          refine z_iload_n (pc := 26) E jd_M_writeMembers_26 rfl rfl ?_
          refine z_iald (ti := 1) (pc := 27) E rfl jd_M_writeMembers_27 (by assumption) (vp_in_nI (by omega) (by omega)) ?_
          rw [nI_clamp (by omega), g3]
          refine z_iconst (v := 2) (pc := 28) E jd_M_writeMembers_28 (by decide) ?_
          refine z_iand (pc := 29) E jd_M_writeMembers_29 ?_
          refine z_if_eq (pc := 30) (tgt := 54) E jd_M_writeMembers_30 (by decide) (fun c30 => ?_) (fun c30 => ?_)
          · have hs : hsh (E0 m) = true := hr.mpr fun q => q.1 c30
            refine z_iconst (v := 0) (pc := 54) E jd_M_writeMembers_54 (by decide) ?_
            exact t55 _ ⟨fun q => by first | exact hs | exact absurd q (by decide), fun q => by first | rfl | exact absurd q hs⟩
          · refine z_iload_n (pc := 33) E jd_M_writeMembers_33 rfl rfl ?_
            refine z_if_gt (pc := 34) (tgt := 50) E jd_M_writeMembers_34 (by decide) (fun c34 => ?_) (fun c34 => ?_)
            · have hs : ¬ hsh (E0 m) = true := fun q => hr.mp q ⟨c30, Or.inl (clt (a := 0) c34)⟩
              refine z_iconst (v := 1) (pc := 50) E jd_M_writeMembers_50 (by decide) ?_
              refine z_goto (pc := 51) (tgt := 55) E jd_M_writeMembers_51 (by decide) ?_
              exact t55 _ ⟨fun q => by first | exact hs | exact absurd q (by decide), fun q => by first | rfl | exact absurd q hs⟩
            · refine z_aload_n (pc := 37) E jd_M_writeMembers_37 rfl rfl ?_
              refine z_get (pc := 38) E jf_M_39 jd_M_writeMembers_38 (by assumption) (by rfl) ?_
              refine z_iload_n (pc := 41) E jd_M_writeMembers_41 rfl rfl ?_
              refine z_iald (ti := 1) (pc := 42) E rfl jd_M_writeMembers_42 (by assumption) (vp_in_nI (by omega) (by omega)) ?_
              rw [nI_clamp (by omega), g3]
              refine z_sipush (v := 136) (pc := 43) E jd_M_writeMembers_43 (by decide) ?_
              refine z_iand (pc := 46) E jd_M_writeMembers_46 ?_
              refine z_if_eq (pc := 47) (tgt := 54) E jd_M_writeMembers_47 (by decide) (fun c47 => ?_) (fun c47 => ?_)
              · have hs : hsh (E0 m) = true := hr.mpr fun q => q.2.elim (fun q => c34 (nI_lt (a := 0) q (by omega))) (fun q => q c47)
                refine z_iconst (v := 0) (pc := 54) E jd_M_writeMembers_54 (by decide) ?_
                exact t55 _ ⟨fun q => by first | exact hs | exact absurd q (by decide), fun q => by first | rfl | exact absurd q hs⟩
              · have hs : ¬ hsh (E0 m) = true := fun q => hr.mp q ⟨c30, Or.inr c47⟩
                refine z_iconst (v := 1) (pc := 50) E jd_M_writeMembers_50 (by decide) ?_
                refine z_goto (pc := 51) (tgt := 55) E jd_M_writeMembers_51 (by decide) ?_
                exact t55 _ ⟨fun q => by first | exact hs | exact absurd q (by decide), fun q => by first | rfl | exact absurd q hs⟩
  have m0 := h.obj
  obtain ⟨hbl, f0, hm0, hf0⟩ := id h
  have hA : abv E0 k (10 * c) u (fun _ => True) (-1) := Or.inl ⟨by decide, fun _ => trivial⟩
  refine z_aload_n (pc := 0) E jd_M_writeMembers_0 rfl rfl ?_
  refine z_iload_n (pc := 1) E jd_M_writeMembers_1 rfl rfl ?_
  refine z_iload_n (pc := 2) E jd_M_writeMembers_2 rfl rfl ?_
  refine z_iconst (v := -1) (pc := 3) E jd_M_writeMembers_3 (by decide) ?_
  refine z_cV3I (pc := 4) E (c_M_following l G B (A := fun _ => True) hm0 hc4 hk (show mC (mW S f0 P) c t from hh) hE hu hA) jc_M_103 jv_M_following rfl (by assumption) ⟨Nat.le_of_ble_eq_true rfl, Nat.le_of_ble_eq_true rfl⟩ jd_M_writeMembers_4 (Nat.le_of_ble_eq_true rfl) (by decide) (by decide) (fun v4 es4 h4 => ?_)
  obtain ⟨w4, e4⟩ := h4
  rw [e4]
  refine z_istore_n (pc := 7) E jd_M_writeMembers_7 rfl (by decide) rfl ?_
  dsimp only [List.set]
  refine z_iconst (v := 0) (pc := 8) E jd_M_writeMembers_8 (by decide) ?_
  refine z_istore (pc := 9) E jd_M_writeMembers_9 (by decide) rfl ?_
  dsimp only [List.set]
  exact loop L.length 0 [] L v4 none bs es rfl rfl rfl (by simp [flt]) (BP_next (L1 := []) w4 (by omega) hL hp (fun _ q => by cases q) (fun _ _ => trivial)) h Fr.rf
