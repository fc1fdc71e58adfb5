/-! the reference: the hash -/
def mH (S : MS) (hf wf : Nat → Int32) : MS := (S.1, S.2.1, S.2.2.1, S.2.2.2.1, S.2.2.2.2.1, S.2.2.2.2.2.1, S.2.2.2.2.2.2.1, S.2.2.2.2.2.2.2.1, S.2.2.2.2.2.2.2.2.1, S.2.2.2.2.2.2.2.2.2.1, S.2.2.2.2.2.2.2.2.2.2.1, S.2.2.2.2.2.2.2.2.2.2.2.1, hf, wf)
/-- the reference, told apart: bytes, parts, numbers, words -/
def mX (S : MS) (f P hf wf : Nat → Int32) : MS := mW (mH S hf wf) f P
theorem mX.c0 {G : zG} {B : Nat} {es : zE} {r : Nat} {S : MS} {f P hf wf : Nat → Int32} {z a e : Int32} (h : mO G B es r (mX S f P hf wf) z a e) : es[r]? = some (.inr (7, [.ref (B + (r + 1)), .ref (B + (r + 2)), .ref (B + (r + 3)), .ref (B + (r + 4)), .ref (B + (r + 5)), .ref (B + (r + 6)), .ref (B + (r + 7)), .ref (B + (r + 8)), .ref (B + (r + 9)), .ref (B + (r + 10)), .ref (B + (r + 11)), .int z, .ref (B + (r + 12)), .ref (B + (r + 13)), .ref (B + (r + 14)), .int a, .int e])) := h.1
theorem mX.c11 {G : zG} {B : Nat} {es : zE} {r : Nat} {S : MS} {f P hf wf : Nat → Int32} {z a e : Int32} (h : mO G B es r (mX S f P hf wf) z a e) : es[r + 11]? = some (.inl (G.2.1 1, 1100, .inl f)) := h.2.2.2.2.2.2.2.2.2.2.2.1
theorem mX.c13 {G : zG} {B : Nat} {es : zE} {r : Nat} {S : MS} {f P hf wf : Nat → Int32} {z a e : Int32} (h : mO G B es r (mX S f P hf wf) z a e) : es[r + 13]? = some (.inl (G.2.1 1, 5, .inl hf)) := h.2.2.2.2.2.2.2.2.2.2.2.2.2.1
theorem mX.c14 {G : zG} {B : Nat} {es : zE} {r : Nat} {S : MS} {f P hf wf : Nat → Int32} {z a e : Int32} (h : mO G B es r (mX S f P hf wf) z a e) : es[r + 14]? = some (.inl (G.2.1 1, 80, .inl wf)) := h.2.2.2.2.2.2.2.2.2.2.2.2.2.2
theorem mX.s13 {G : zG} {B : Nat} {es es1 : zE} {r : Nat} {S : MS} {f P hf wf hf' : Nat → Int32} {z a e : Int32} (h : mO G B es r (mX S f P hf wf) z a e) (he : es1 = es.set (r + 13) (.inl (G.2.1 1, 5, .inl hf'))) : mO G B es1 r (mX S f P hf' wf) z a e := mO.s13 h he
theorem mX.s14 {G : zG} {B : Nat} {es es1 : zE} {r : Nat} {S : MS} {f P hf wf wf' : Nat → Int32} {z a e : Int32} (h : mO G B es r (mX S f P hf wf) z a e) (he : es1 = es.set (r + 14) (.inl (G.2.1 1, 80, .inl wf'))) : mO G B es1 r (mX S f P hf wf') z a e := mO.s14 h he
set_option maxHeartbeats 4000000 in
set_option maxRecDepth 100000 in
theorem c_M_turned (l : Launch) (G : zG) (B : Nat) {es : zE} {r : Nat} {x s : Int32} : Tr l G B jy_M_turned jb_M_turned 3 (some .int) 0 0 0 [.ref (B + r), .int x, .int s] es (pI fun v es' => v = rot x s ∧ es' = es) := by
  refine Tr.of (ls := [some (.ref (B + r)), some (.int x), some (.int s)]) (by decide +kernel) (Nat.le_of_ble_eq_true rfl) rfl ?_
  intro zp ze zs zm zb zt zc E
  refine z_iload_n (pc := 0) E jd_M_turned_0 rfl rfl ?_
  refine z_iload_n (pc := 1) E jd_M_turned_1 rfl rfl ?_
  refine z_ishl (pc := 2) E jd_M_turned_2 ?_
  refine z_iload_n (pc := 3) E jd_M_turned_3 rfl rfl ?_
  refine z_bipush (v := 32) (pc := 4) E jd_M_turned_4 (by decide) ?_
  refine z_iload_n (pc := 6) E jd_M_turned_6 rfl rfl ?_
  refine z_isub (pc := 7) E jd_M_turned_7 ?_
  refine z_iushr (pc := 8) E jd_M_turned_8 ?_
  refine z_ior (pc := 9) E jd_M_turned_9 ?_
  exact z_iret E jd_M_turned_10 ⟨_, rfl, rfl, rfl⟩
set_option maxHeartbeats 4000000 in
set_option maxRecDepth 100000 in
theorem c_M_mixed (l : Launch) (G : zG) (B : Nat) {es : zE} {r t : Nat} {b c d : Int32} (ht : t < 80) : Tr l G B jy_M_mixed jb_M_mixed 5 (some .int) 0 0 0 [.ref (B + r), .int (nI t), .int b, .int c, .int d] es (pI fun v es' => v = cho t b c d ∧ es' = es) := by
  refine Tr.of (ls := [some (.ref (B + r)), some (.int (nI t)), some (.int b), some (.int c), some (.int d)]) (by decide +kernel) (Nat.le_of_ble_eq_true rfl) rfl ?_
  intro zp ze zs zm zb zt zc E
  refine z_iload_n (pc := 0) E jd_M_mixed_0 rfl rfl ?_
  refine z_bipush (v := 20) (pc := 1) E jd_M_mixed_1 (by decide) ?_
  refine z_icmp_ge (pc := 3) (tgt := 17) E jd_M_mixed_3 (by decide) (fun c3 => ?_) (fun c3 => ?_)
  · have h1 : ¬ t < 20 := by have := cle (a := 20) c3; omega
    refine z_iload_n (pc := 17) E jd_M_mixed_17 rfl rfl ?_
    refine z_bipush (v := 40) (pc := 18) E jd_M_mixed_18 (by decide) ?_
    refine z_icmp_lt (pc := 20) (tgt := 29) E jd_M_mixed_20 (by decide) (fun c20 => ?_) (fun c20 => ?_)
    · have h2 : t < 40 ∨ 60 ≤ t := Or.inl (clt (b := 40) c20)
      refine z_iload_n (pc := 29) E jd_M_mixed_29 rfl rfl ?_
      refine z_iload_n (pc := 30) E jd_M_mixed_30 rfl rfl ?_
      refine z_ixor (pc := 31) E jd_M_mixed_31 ?_
      refine z_iload (pc := 32) E jd_M_mixed_32 rfl ?_
      refine z_ixor (pc := 34) E jd_M_mixed_34 ?_
      exact z_iret E jd_M_mixed_35 ⟨_, rfl, by rw [cho]; simp only [h1, h2]; rfl, rfl⟩
    · refine z_iload_n (pc := 23) E jd_M_mixed_23 rfl rfl ?_
      refine z_bipush (v := 60) (pc := 24) E jd_M_mixed_24 (by decide) ?_
      refine z_icmp_lt (pc := 26) (tgt := 36) E jd_M_mixed_26 (by decide) (fun c26 => ?_) (fun c26 => ?_)
      · have h2 : ¬ (t < 40 ∨ 60 ≤ t) := by have := nclt (b := 40) c20; have := clt (b := 60) c26; omega
        refine z_iload_n (pc := 36) E jd_M_mixed_36 rfl rfl ?_
        refine z_iload_n (pc := 37) E jd_M_mixed_37 rfl rfl ?_
        refine z_iand (pc := 38) E jd_M_mixed_38 ?_
        refine z_iload_n (pc := 39) E jd_M_mixed_39 rfl rfl ?_
        refine z_iload (pc := 40) E jd_M_mixed_40 rfl ?_
        refine z_iand (pc := 42) E jd_M_mixed_42 ?_
        refine z_ior (pc := 43) E jd_M_mixed_43 ?_
        refine z_iload_n (pc := 44) E jd_M_mixed_44 rfl rfl ?_
        refine z_iload (pc := 45) E jd_M_mixed_45 rfl ?_
        refine z_iand (pc := 47) E jd_M_mixed_47 ?_
        refine z_ior (pc := 48) E jd_M_mixed_48 ?_
        exact z_iret E jd_M_mixed_49 ⟨_, rfl, by rw [cho]; simp only [h1, h2]; rfl, rfl⟩
      · have h2 : t < 40 ∨ 60 ≤ t := Or.inr (nclt (b := 60) c26)
        refine z_iload_n (pc := 29) E jd_M_mixed_29 rfl rfl ?_
        refine z_iload_n (pc := 30) E jd_M_mixed_30 rfl rfl ?_
        refine z_ixor (pc := 31) E jd_M_mixed_31 ?_
        refine z_iload (pc := 32) E jd_M_mixed_32 rfl ?_
        refine z_ixor (pc := 34) E jd_M_mixed_34 ?_
        exact z_iret E jd_M_mixed_35 ⟨_, rfl, by rw [cho]; simp only [h1, h2]; rfl, rfl⟩
  · have h1 : t < 20 := ncle (a := 20) c3
    refine z_iload_n (pc := 6) E jd_M_mixed_6 rfl rfl ?_
    refine z_iload_n (pc := 7) E jd_M_mixed_7 rfl rfl ?_
    refine z_iand (pc := 8) E jd_M_mixed_8 ?_
    refine z_iload_n (pc := 9) E jd_M_mixed_9 rfl rfl ?_
    refine z_iconst (v := -1) (pc := 10) E jd_M_mixed_10 (by decide) ?_
    refine z_ixor (pc := 11) E jd_M_mixed_11 ?_
    refine z_iload (pc := 12) E jd_M_mixed_12 rfl ?_
    refine z_iand (pc := 14) E jd_M_mixed_14 ?_
    refine z_ior (pc := 15) E jd_M_mixed_15 ?_
    exact z_iret E jd_M_mixed_16 ⟨_, rfl, by rw [cho, if_pos h1], rfl⟩
set_option maxHeartbeats 4000000 in
set_option maxRecDepth 100000 in
theorem c_M_constant (l : Launch) (G : zG) (B : Nat) {es : zE} {r t : Nat} (ht : t < 80) : Tr l G B jy_M_constant jb_M_constant 2 (some .int) 0 0 0 [.ref (B + r), .int (nI t)] es (pI fun v es' => v = kon t ∧ es' = es) := by
  refine Tr.of (ls := [some (.ref (B + r)), some (.int (nI t))]) (by decide +kernel) (Nat.le_of_ble_eq_true rfl) rfl ?_
  intro zp ze zs zm zb zt zc E
  refine z_iload_n (pc := 0) E jd_M_constant_0 rfl rfl ?_
  refine z_bipush (v := 20) (pc := 1) E jd_M_constant_1 (by decide) ?_
  refine z_icmp_ge (pc := 3) (tgt := 11) E jd_M_constant_3 (by decide) (fun c3 => ?_) (fun c3 => ?_)
  · have h1 : ¬ t < 20 := by have := cle (a := 20) c3; omega
    refine z_iload_n (pc := 11) E jd_M_constant_11 rfl rfl ?_
    refine z_bipush (v := 40) (pc := 12) E jd_M_constant_12 (by decide) ?_
    refine z_icmp_ge (pc := 14) (tgt := 22) E jd_M_constant_14 (by decide) (fun c14 => ?_) (fun c14 => ?_)
    · have h2 : ¬ t < 40 := by have := cle (a := 40) c14; omega
      refine z_iload_n (pc := 22) E jd_M_constant_22 rfl rfl ?_
      refine z_bipush (v := 60) (pc := 23) E jd_M_constant_23 (by decide) ?_
      refine z_icmp_ge (pc := 25) (tgt := 33) E jd_M_constant_25 (by decide) (fun c25 => ?_) (fun c25 => ?_)
      · have h3 : ¬ t < 60 := by have := cle (a := 60) c25; omega
        have hr : kon t = -899497514 := by rw [kon, if_neg h1, if_neg h2, if_neg h3]
        refine z_ldc (pc := 33) E jw_669 jd_M_constant_33 ?_
        exact z_iret E jd_M_constant_35 ⟨_, rfl, hr.symm, rfl⟩
      · have h3 : t < 60 := ncle (a := 60) c25
        have hr : kon t = -1894007588 := by rw [kon, if_neg h1, if_neg h2, if_pos h3]
        refine z_ldc (pc := 28) E jw_668 jd_M_constant_28 ?_
        refine z_goto (pc := 30) (tgt := 35) E jd_M_constant_30 (by decide) ?_
        exact z_iret E jd_M_constant_35 ⟨_, rfl, hr.symm, rfl⟩
    · have h2 : t < 40 := ncle (a := 40) c14
      have hr : kon t = 1859775393 := by rw [kon, if_neg h1, if_pos h2]
      refine z_ldc (pc := 17) E jw_667 jd_M_constant_17 ?_
      refine z_goto (pc := 19) (tgt := 35) E jd_M_constant_19 (by decide) ?_
      exact z_iret E jd_M_constant_35 ⟨_, rfl, hr.symm, rfl⟩
  · have h1 : t < 20 := ncle (a := 20) c3
    have hr : kon t = 1518500249 := by rw [kon, if_pos h1]
    refine z_ldc (pc := 6) E jw_666 jd_M_constant_6 ?_
    refine z_goto (pc := 8) (tgt := 35) E jd_M_constant_8 (by decide) ?_
    exact z_iret E jd_M_constant_35 ⟨_, rfl, hr.symm, rfl⟩
set_option maxHeartbeats 4000000 in
set_option maxRecDepth 100000 in
theorem c_M_block (l : Launch) (G : zG) (B : Nat) {es : zE} {r b : Nat} {S : MS} {f P hf wf : Nat → Int32} {z a e : Int32} {ps : List Nat} (h : mO G B es r (mX S f P hf wf) z a e) (hps : ps.length ≤ 1100) (hf0 : ∀ j, j < ps.length → f j = nI (ps.getD j 0)) (hb : 64 * b + 64 ≤ ps.length) : Tr l G B jy_M_block jb_M_block 9 none 1 0 0 [.ref (B + r), .int (nI (64 * b))] es (pV fun es' => ∃ hf' wf', mO G B es' r (mX S f P hf' wf') z a e ∧ (∀ k, k < 5 → hf' k = blk (Wd (fun i => nI (ps.getD i 0)) (64 * b)) hf k) ∧ Fr es es' r (r + 15)) := by
  refine Tr.of (ls := [some (.ref (B + r)), some (.int (nI (64 * b))), none, none, none, none, none, none, none]) (by decide +kernel) (Nat.le_of_ble_eq_true rfl) rfl ?_
  intro zp ze zs zm zb zt zc E
  have fin : ∀ (wf1 : Nat → Int32) (es1 : zE) (a8 : Option Value) (q : Q5), mO G B es1 r (mX S f P hf wf1) z a e → (∀ j, j < 80 → wf1 j = Wd (fun i => nI (ps.getD i 0)) (64 * b) j) → Fr es es1 r (r + 15) → q = rnds wf1 (hf 0, hf 1, hf 2, hf 3, hf 4) 80 → Zj zp l ze (zr 1 0 0) zs zm ([.ref (B + r), .int (nI (64 * b))] : List Value).toArray zb zt zc (MQ zb (zQ G B (pV fun es' => ∃ hf' wf', mO G B es' r (mX S f P hf' wf') z a e ∧ (∀ k, k < 5 → hf' k = blk (Wd (fun i => nI (ps.getD i 0)) (64 * b)) hf k) ∧ Fr es es' r (r + 15))) ([.ref (B + r), .int (nI (64 * b))] : List Value).toArray zs 0 0 (fun q => B ≤ q)) G B 9 0 0 234 [some (.ref (B + r)), some (.int (nI (64 * b))), some (.int q.1), some (.int q.2.1), some (.int q.2.2.1), some (.int q.2.2.2.1), some (.int q.2.2.2.2), some (.int (nI 80)), a8] [] es1 := by
    intro wf1 es1 a8 q h1 hw F1 hq
    have g0 := mX.c0 h1
    have g13 := mX.c13 h1
    refine z_aload_n (pc := 234) E jd_M_block_234 rfl rfl ?_
    refine z_get (pc := 235) E jf_M_48 jd_M_block_235 (by assumption) (by rfl) ?_
    refine z_iconst (v := 0) (pc := 238) E jd_M_block_238 (by decide) ?_
    refine z_dup2 (pc := 239) E jd_M_block_239 rfl rfl ?_
    refine z_iald (ti := 1) (pc := 240) E rfl jd_M_block_240 (by assumption) (by unfold vp_in; decide) ?_
    skip
    refine z_iload_n (pc := 241) E jd_M_block_241 rfl rfl ?_
    refine z_iadd (pc := 242) E jd_M_block_242 ?_
    refine z_iast (ti := 1) (pc := 243) E rfl jd_M_block_243 (by assumption) (by unfold vp_in; decide) (fun es243 he243 => ?_)
    have h2 := mX.s13 h1 he243
    have g0 := mX.c0 h2
    have k13 := mX.c13 h2
    refine z_aload_n (pc := 244) E jd_M_block_244 rfl rfl ?_
    refine z_get (pc := 245) E jf_M_48 jd_M_block_245 (by assumption) (by rfl) ?_
    refine z_iconst (v := 1) (pc := 248) E jd_M_block_248 (by decide) ?_
    refine z_dup2 (pc := 249) E jd_M_block_249 rfl rfl ?_
    refine z_iald (ti := 1) (pc := 250) E rfl jd_M_block_250 (by assumption) (by unfold vp_in; decide) ?_
    skip
    refine z_iload_n (pc := 251) E jd_M_block_251 rfl rfl ?_
    refine z_iadd (pc := 252) E jd_M_block_252 ?_
    refine z_iast (ti := 1) (pc := 253) E rfl jd_M_block_253 (by assumption) (by unfold vp_in; decide) (fun es253 he253 => ?_)
    have h3 := mX.s13 h2 he253
    have g0 := mX.c0 h3
    have m13 := mX.c13 h3
    refine z_aload_n (pc := 254) E jd_M_block_254 rfl rfl ?_
    refine z_get (pc := 255) E jf_M_48 jd_M_block_255 (by assumption) (by rfl) ?_
    refine z_iconst (v := 2) (pc := 258) E jd_M_block_258 (by decide) ?_
    refine z_dup2 (pc := 259) E jd_M_block_259 rfl rfl ?_
    refine z_iald (ti := 1) (pc := 260) E rfl jd_M_block_260 (by assumption) (by unfold vp_in; decide) ?_
    skip
    refine z_iload (pc := 261) E jd_M_block_261 rfl ?_
    refine z_iadd (pc := 263) E jd_M_block_263 ?_
    refine z_iast (ti := 1) (pc := 264) E rfl jd_M_block_264 (by assumption) (by unfold vp_in; decide) (fun es264 he264 => ?_)
    have h4 := mX.s13 h3 he264
    have g0 := mX.c0 h4
    have n13 := mX.c13 h4
    refine z_aload_n (pc := 265) E jd_M_block_265 rfl rfl ?_
    refine z_get (pc := 266) E jf_M_48 jd_M_block_266 (by assumption) (by rfl) ?_
    refine z_iconst (v := 3) (pc := 269) E jd_M_block_269 (by decide) ?_
    refine z_dup2 (pc := 270) E jd_M_block_270 rfl rfl ?_
    refine z_iald (ti := 1) (pc := 271) E rfl jd_M_block_271 (by assumption) (by unfold vp_in; decide) ?_
    skip
    refine z_iload (pc := 272) E jd_M_block_272 rfl ?_
    refine z_iadd (pc := 274) E jd_M_block_274 ?_
    refine z_iast (ti := 1) (pc := 275) E rfl jd_M_block_275 (by assumption) (by unfold vp_in; decide) (fun es275 he275 => ?_)
    have h5 := mX.s13 h4 he275
    have g0 := mX.c0 h5
    have o13 := mX.c13 h5
    refine z_aload_n (pc := 276) E jd_M_block_276 rfl rfl ?_
    refine z_get (pc := 277) E jf_M_48 jd_M_block_277 (by assumption) (by rfl) ?_
    refine z_iconst (v := 4) (pc := 280) E jd_M_block_280 (by decide) ?_
    refine z_dup2 (pc := 281) E jd_M_block_281 rfl rfl ?_
    refine z_iald (ti := 1) (pc := 282) E rfl jd_M_block_282 (by assumption) (by unfold vp_in; decide) ?_
    skip
    refine z_iload (pc := 283) E jd_M_block_283 rfl ?_
    refine z_iadd (pc := 285) E jd_M_block_285 ?_
    refine z_iast (ti := 1) (pc := 286) E rfl jd_M_block_286 (by assumption) (by unfold vp_in; decide) (fun es286 he286 => ?_)
    have h6 := mX.s13 h5 he286
    have FF : Fr es es286 r (r + 15) := F1.trs (((((Fr.set he243 (by omega) (by omega)).trs (Fr.set he253 (by omega) (by omega))).trs (Fr.set he264 (by omega) (by omega))).trs (Fr.set he275 (by omega) (by omega))).trs (Fr.set he286 (by omega) (by omega)))
    exact z_vret E jd_M_block_287 ⟨rfl, _, wf1, h6, fun k hk => by rw [← blk_congrW hw, blk, ← hq]; rcases (show k = 0 ∨ k = 1 ∨ k = 2 ∨ k = 3 ∨ k = 4 by omega) with rfl | rfl | rfl | rfl | rfl <;> rfl, FF⟩
  have loop2 : ∀ (wf1 : Nat → Int32) (es1 : zE), mO G B es1 r (mX S f P hf wf1) z a e → (∀ j, j < 80 → wf1 j = Wd (fun i => nI (ps.getD i 0)) (64 * b) j) → Fr es es1 r (r + 15) → ∀ (n t : Nat) (a8 : Option Value) (q : Q5), t + n = 80 → q = rnds wf1 (hf 0, hf 1, hf 2, hf 3, hf 4) t → Zj zp l ze (zr 1 0 0) zs zm ([.ref (B + r), .int (nI (64 * b))] : List Value).toArray zb zt zc (MQ zb (zQ G B (pV fun es' => ∃ hf' wf', mO G B es' r (mX S f P hf' wf') z a e ∧ (∀ k, k < 5 → hf' k = blk (Wd (fun i => nI (ps.getD i 0)) (64 * b)) hf k) ∧ Fr es es' r (r + 15))) ([.ref (B + r), .int (nI (64 * b))] : List Value).toArray zs 0 0 (fun q => B ≤ q)) G B 9 0 0 161 [some (.ref (B + r)), some (.int (nI (64 * b))), some (.int q.1), some (.int q.2.1), some (.int q.2.2.1), some (.int q.2.2.2.1), some (.int q.2.2.2.2), some (.int (nI t)), a8] [] es1 := by
    intro wf1 es1 h1 hw F1 n
    have g0 := mX.c0 h1
    have g14 := mX.c14 h1
    induction n with
    | zero =>
      intro t a8 q hn hq
      have ht : t = 80 := by omega
      subst ht
      refine z_iload (pc := 161) E jd_M_block_161 rfl ?_
      refine z_bipush (v := 80) (pc := 163) E jd_M_block_163 (by decide) ?_
      refine z_icmp_ge (pc := 165) (tgt := 234) E jd_M_block_165 (by decide) (fun c165 => ?_) (fun c165 => ?_)
      · exact fin wf1 es1 a8 q h1 hw F1 hq
      · exact absurd (nI_le (a := 80) (b := 80) (by omega) (by omega)) c165
    | succ n ih =>
      intro t a8 q hn hq
      refine z_iload (pc := 161) E jd_M_block_161 rfl ?_
      refine z_bipush (v := 80) (pc := 163) E jd_M_block_163 (by decide) ?_
      refine z_icmp_ge (pc := 165) (tgt := 234) E jd_M_block_165 (by decide) (fun c165 => ?_) (fun c165 => ?_)
      · exact absurd (cle (a := 80) c165) (by omega)
      · refine z_aload_n (pc := 168) E jd_M_block_168 rfl rfl ?_
        refine z_iload_n (pc := 169) E jd_M_block_169 rfl rfl ?_
        refine z_iconst (v := 5) (pc := 170) E jd_M_block_170 (by decide) ?_
        refine z_cV2I (pc := 171) E (c_M_turned l G B) jc_M_130 jv_M_turned rfl (by assumption) ⟨Nat.le_of_ble_eq_true rfl, Nat.le_of_ble_eq_true rfl⟩ jd_M_block_171 (Nat.le_of_ble_eq_true rfl) (by decide) (by decide) (fun v171 es171 h171 => ?_)
        obtain ⟨w171, e171⟩ := h171
        rw [e171, w171]
        refine z_aload_n (pc := 174) E jd_M_block_174 rfl rfl ?_
        refine z_iload (pc := 175) E jd_M_block_175 rfl ?_
        refine z_iload_n (pc := 177) E jd_M_block_177 rfl rfl ?_
        refine z_iload (pc := 178) E jd_M_block_178 rfl ?_
        refine z_iload (pc := 180) E jd_M_block_180 rfl ?_
        refine z_cV4I (pc := 182) E (c_M_mixed l G B (by omega)) jc_M_133 jv_M_mixed rfl (by assumption) ⟨Nat.le_of_ble_eq_true rfl, Nat.le_of_ble_eq_true rfl⟩ jd_M_block_182 (Nat.le_of_ble_eq_true rfl) (by decide) (by decide) (fun v182 es182 h182 => ?_)
        obtain ⟨w182, e182⟩ := h182
        rw [e182, w182]
        refine z_iadd (pc := 185) E jd_M_block_185 ?_
        refine z_iload (pc := 186) E jd_M_block_186 rfl ?_
        refine z_iadd (pc := 188) E jd_M_block_188 ?_
        refine z_aload_n (pc := 189) E jd_M_block_189 rfl rfl ?_
        refine z_get (pc := 190) E jf_M_51 jd_M_block_190 (by assumption) (by rfl) ?_
        refine z_iload (pc := 193) E jd_M_block_193 rfl ?_
        refine z_iald (ti := 1) (pc := 195) E rfl jd_M_block_195 (by assumption) (vp_in_nI (by omega) (by omega)) ?_
        rw [nI_clamp (by omega)]
        refine z_iadd (pc := 196) E jd_M_block_196 ?_
        refine z_aload_n (pc := 197) E jd_M_block_197 rfl rfl ?_
        refine z_iload (pc := 198) E jd_M_block_198 rfl ?_
        refine z_cV1I (pc := 200) E (c_M_constant l G B (by omega)) jc_M_137 jv_M_constant rfl (by assumption) ⟨Nat.le_of_ble_eq_true rfl, Nat.le_of_ble_eq_true rfl⟩ jd_M_block_200 (Nat.le_of_ble_eq_true rfl) (by decide) (by decide) (fun v200 es200 h200 => ?_)
        obtain ⟨w200, e200⟩ := h200
        rw [e200, w200]
        refine z_iadd (pc := 203) E jd_M_block_203 ?_
        refine z_istore (pc := 204) E jd_M_block_204 (by decide) rfl ?_
        dsimp only [List.set]
        refine z_iload (pc := 206) E jd_M_block_206 rfl ?_
        refine z_istore (pc := 208) E jd_M_block_208 (by decide) rfl ?_
        dsimp only [List.set]
        refine z_iload (pc := 210) E jd_M_block_210 rfl ?_
        refine z_istore (pc := 212) E jd_M_block_212 (by decide) rfl ?_
        dsimp only [List.set]
        refine z_aload_n (pc := 214) E jd_M_block_214 rfl rfl ?_
        refine z_iload_n (pc := 215) E jd_M_block_215 rfl rfl ?_
        refine z_bipush (v := 30) (pc := 216) E jd_M_block_216 (by decide) ?_
        refine z_cV2I (pc := 218) E (c_M_turned l G B) jc_M_130 jv_M_turned rfl (by assumption) ⟨Nat.le_of_ble_eq_true rfl, Nat.le_of_ble_eq_true rfl⟩ jd_M_block_218 (Nat.le_of_ble_eq_true rfl) (by decide) (by decide) (fun v218 es218 h218 => ?_)
        obtain ⟨w218, e218⟩ := h218
        rw [e218, w218]
        refine z_istore (pc := 221) E jd_M_block_221 (by decide) rfl ?_
        dsimp only [List.set]
        refine z_iload_n (pc := 223) E jd_M_block_223 rfl rfl ?_
        refine z_istore_n (pc := 224) E jd_M_block_224 rfl (by decide) rfl ?_
        dsimp only [List.set]
        refine z_iload (pc := 225) E jd_M_block_225 rfl ?_
        refine z_istore_n (pc := 227) E jd_M_block_227 rfl (by decide) rfl ?_
        dsimp only [List.set]
        refine z_iinc (pc := 228) E jd_M_block_228 rfl rfl (by decide) rfl ?_
        dsimp only [List.set]
        refine z_goto (pc := 231) (tgt := 161) E jd_M_block_231 (by decide) ?_
        have := ih (t + 1) (some (.int (((((rot q.1 5 + cho t q.2.1 q.2.2.1 q.2.2.2.1) + q.2.2.2.2) + wf1 t) + kon t)))) (rnd wf1 t q) (by omega) (by rw [rnds, hq])
        rw [nI_succ t] at this
        exact this
  have t120 : ∀ (wf1 : Nat → Int32) (es1 : zE) (a3 : Option Value), mO G B es1 r (mX S f P hf wf1) z a e → (∀ j, j < 80 → wf1 j = Wd (fun i => nI (ps.getD i 0)) (64 * b) j) → Fr es es1 r (r + 15) → Zj zp l ze (zr 1 0 0) zs zm ([.ref (B + r), .int (nI (64 * b))] : List Value).toArray zb zt zc (MQ zb (zQ G B (pV fun es' => ∃ hf' wf', mO G B es' r (mX S f P hf' wf') z a e ∧ (∀ k, k < 5 → hf' k = blk (Wd (fun i => nI (ps.getD i 0)) (64 * b)) hf k) ∧ Fr es es' r (r + 15))) ([.ref (B + r), .int (nI (64 * b))] : List Value).toArray zs 0 0 (fun q => B ≤ q)) G B 9 0 0 120 [some (.ref (B + r)), some (.int (nI (64 * b))), some (.int (nI 80)), a3, none, none, none, none, none] [] es1 := by
    intro wf1 es1 a3 h1 hw F1
    have g0 := mX.c0 h1
    have g13 := mX.c13 h1
    refine z_aload_n (pc := 120) E jd_M_block_120 rfl rfl ?_
    refine z_get (pc := 121) E jf_M_48 jd_M_block_121 (by assumption) (by rfl) ?_
    refine z_iconst (v := 0) (pc := 124) E jd_M_block_124 (by decide) ?_
    refine z_iald (ti := 1) (pc := 125) E rfl jd_M_block_125 (by assumption) (by unfold vp_in; decide) ?_
    skip
    refine z_istore_n (pc := 126) E jd_M_block_126 rfl (by decide) rfl ?_
    dsimp only [List.set]
    refine z_aload_n (pc := 127) E jd_M_block_127 rfl rfl ?_
    refine z_get (pc := 128) E jf_M_48 jd_M_block_128 (by assumption) (by rfl) ?_
    refine z_iconst (v := 1) (pc := 131) E jd_M_block_131 (by decide) ?_
    refine z_iald (ti := 1) (pc := 132) E rfl jd_M_block_132 (by assumption) (by unfold vp_in; decide) ?_
    skip
    refine z_istore_n (pc := 133) E jd_M_block_133 rfl (by decide) rfl ?_
    dsimp only [List.set]
    refine z_aload_n (pc := 134) E jd_M_block_134 rfl rfl ?_
    refine z_get (pc := 135) E jf_M_48 jd_M_block_135 (by assumption) (by rfl) ?_
    refine z_iconst (v := 2) (pc := 138) E jd_M_block_138 (by decide) ?_
    refine z_iald (ti := 1) (pc := 139) E rfl jd_M_block_139 (by assumption) (by unfold vp_in; decide) ?_
    skip
    refine z_istore (pc := 140) E jd_M_block_140 (by decide) rfl ?_
    dsimp only [List.set]
    refine z_aload_n (pc := 142) E jd_M_block_142 rfl rfl ?_
    refine z_get (pc := 143) E jf_M_48 jd_M_block_143 (by assumption) (by rfl) ?_
    refine z_iconst (v := 3) (pc := 146) E jd_M_block_146 (by decide) ?_
    refine z_iald (ti := 1) (pc := 147) E rfl jd_M_block_147 (by assumption) (by unfold vp_in; decide) ?_
    skip
    refine z_istore (pc := 148) E jd_M_block_148 (by decide) rfl ?_
    dsimp only [List.set]
    refine z_aload_n (pc := 150) E jd_M_block_150 rfl rfl ?_
    refine z_get (pc := 151) E jf_M_48 jd_M_block_151 (by assumption) (by rfl) ?_
    refine z_iconst (v := 4) (pc := 154) E jd_M_block_154 (by decide) ?_
    refine z_iald (ti := 1) (pc := 155) E rfl jd_M_block_155 (by assumption) (by unfold vp_in; decide) ?_
    skip
    refine z_istore (pc := 156) E jd_M_block_156 (by decide) rfl ?_
    dsimp only [List.set]
    refine z_iconst (v := 0) (pc := 158) E jd_M_block_158 (by decide) ?_
    refine z_istore (pc := 159) E jd_M_block_159 (by decide) rfl ?_
    dsimp only [List.set]
    exact loop2 wf1 es1 h1 hw F1 80 0 none (hf 0, hf 1, hf 2, hf 3, hf 4) rfl rfl
  have loop1 : ∀ (n t : Nat) (a3 : Option Value) (wf1 : Nat → Int32) (es1 : zE), t + n = 80 → mO G B es1 r (mX S f P hf wf1) z a e → (∀ j, j < t → wf1 j = Wd (fun i => nI (ps.getD i 0)) (64 * b) j) → Fr es es1 r (r + 15) → Zj zp l ze (zr 1 0 0) zs zm ([.ref (B + r), .int (nI (64 * b))] : List Value).toArray zb zt zc (MQ zb (zQ G B (pV fun es' => ∃ hf' wf', mO G B es' r (mX S f P hf' wf') z a e ∧ (∀ k, k < 5 → hf' k = blk (Wd (fun i => nI (ps.getD i 0)) (64 * b)) hf k) ∧ Fr es es' r (r + 15))) ([.ref (B + r), .int (nI (64 * b))] : List Value).toArray zs 0 0 (fun q => B ≤ q)) G B 9 0 0 2 [some (.ref (B + r)), some (.int (nI (64 * b))), some (.int (nI t)), a3, none, none, none, none, none] [] es1 := by
    intro n
    induction n with
    | zero =>
      intro t a3 wf1 es1 hn h1 hw F1
      have ht : t = 80 := by omega
      subst ht
      refine z_iload_n (pc := 2) E jd_M_block_2 rfl rfl ?_
      refine z_bipush (v := 80) (pc := 3) E jd_M_block_3 (by decide) ?_
      refine z_icmp_ge (pc := 5) (tgt := 120) E jd_M_block_5 (by decide) (fun c5 => ?_) (fun c5 => ?_)
      · exact t120 wf1 es1 a3 h1 hw F1
      · exact absurd (nI_le (a := 80) (b := 80) (by omega) (by omega)) c5
    | succ n ih =>
      intro t a3 wf1 es1 hn h1 hw F1
      have g0 := mX.c0 h1
      have g14 := mX.c14 h1
      have next : ∀ (a3 : Option Value) (wf2 : Nat → Int32) (es2 : zE), mO G B es2 r (mX S f P hf wf2) z a e → (∀ j, j < t + 1 → wf2 j = Wd (fun i => nI (ps.getD i 0)) (64 * b) j) → Fr es es2 r (r + 15) → Zj zp l ze (zr 1 0 0) zs zm ([.ref (B + r), .int (nI (64 * b))] : List Value).toArray zb zt zc (MQ zb (zQ G B (pV fun es' => ∃ hf' wf', mO G B es' r (mX S f P hf' wf') z a e ∧ (∀ k, k < 5 → hf' k = blk (Wd (fun i => nI (ps.getD i 0)) (64 * b)) hf k) ∧ Fr es es' r (r + 15))) ([.ref (B + r), .int (nI (64 * b))] : List Value).toArray zs 0 0 (fun q => B ≤ q)) G B 9 0 0 114 [some (.ref (B + r)), some (.int (nI (64 * b))), some (.int (nI t)), a3, none, none, none, none, none] [] es2 := by
        intro a3 wf2 es2 h2 hw2 F2
        refine z_iinc (pc := 114) E jd_M_block_114 rfl rfl (by decide) rfl ?_
        dsimp only [List.set]
        refine z_goto (pc := 117) (tgt := 2) E jd_M_block_117 (by decide) ?_
        have := ih (t + 1) a3 wf2 es2 (by omega) h2 hw2 F2
        rw [nI_succ t] at this
        exact this
      have inner : t < 16 → ∀ (m k : Nat) (wf2 : Nat → Int32) (es2 : zE), k + m = 4 → mO G B es2 r (mX S f P hf wf2) z a e → (∀ j, j < t → wf2 j = Wd (fun i => nI (ps.getD i 0)) (64 * b) j) → wf2 t = wfd (fun i => nI (ps.getD i 0)) (64 * b + 4 * t) k → Fr es es2 r (r + 15) → Zj zp l ze (zr 1 0 0) zs zm ([.ref (B + r), .int (nI (64 * b))] : List Value).toArray zb zt zc (MQ zb (zQ G B (pV fun es' => ∃ hf' wf', mO G B es' r (mX S f P hf' wf') z a e ∧ (∀ k, k < 5 → hf' k = blk (Wd (fun i => nI (ps.getD i 0)) (64 * b)) hf k) ∧ Fr es es' r (r + 15))) ([.ref (B + r), .int (nI (64 * b))] : List Value).toArray zs 0 0 (fun q => B ≤ q)) G B 9 0 0 23 [some (.ref (B + r)), some (.int (nI (64 * b))), some (.int (nI t)), some (.int (nI k)), none, none, none, none, none] [] es2 := by
        intro ht m
        induction m with
        | zero =>
          intro k wf2 es2 hk h2 hw2 hwt F2
          have hk : k = 4 := by omega
          subst hk
          refine z_iload_n (pc := 23) E jd_M_block_23 rfl rfl ?_
          refine z_iconst (v := 4) (pc := 24) E jd_M_block_24 (by decide) ?_
          refine z_icmp_ge (pc := 25) (tgt := 62) E jd_M_block_25 (by decide) (fun c25 => ?_) (fun c25 => ?_)
          · refine z_goto (pc := 62) (tgt := 114) E jd_M_block_62 (by decide) ?_
            refine next _ wf2 es2 h2 (fun j hj => ?_) F2
            by_cases hjt : j = t
            · subst hjt
              rw [hwt, Wd_lo (by omega)]
            · exact hw2 j (by omega)
          · exact absurd (nI_le (a := 4) (b := 4) (by omega) (by omega)) c25
        | succ m ih2 =>
          intro k wf2 es2 hk h2 hw2 hwt F2
          have g0 := mX.c0 h2
          have g14 := mX.c14 h2
          have g11 := mX.c11 h2
          refine z_iload_n (pc := 23) E jd_M_block_23 rfl rfl ?_
          refine z_iconst (v := 4) (pc := 24) E jd_M_block_24 (by decide) ?_
          refine z_icmp_ge (pc := 25) (tgt := 62) E jd_M_block_25 (by decide) (fun c25 => ?_) (fun c25 => ?_)
          · exact absurd (cle (a := 4) c25) (by omega)
          · refine z_aload_n (pc := 28) E jd_M_block_28 rfl rfl ?_
            refine z_get (pc := 29) E jf_M_51 jd_M_block_29 (by assumption) (by rfl) ?_
            refine z_iload_n (pc := 32) E jd_M_block_32 rfl rfl ?_
            refine z_aload_n (pc := 33) E jd_M_block_33 rfl rfl ?_
            refine z_get (pc := 34) E jf_M_51 jd_M_block_34 (by assumption) (by rfl) ?_
            refine z_iload_n (pc := 37) E jd_M_block_37 rfl rfl ?_
            refine z_iald (ti := 1) (pc := 38) E rfl jd_M_block_38 (by assumption) (vp_in_nI (by omega) (by omega)) ?_
            rw [nI_clamp (by omega), hwt]
            refine z_bipush (v := 8) (pc := 39) E jd_M_block_39 (by decide) ?_
            refine z_ishl (pc := 41) E jd_M_block_41 ?_
            refine z_aload_n (pc := 42) E jd_M_block_42 rfl rfl ?_
            refine z_get (pc := 43) E jf_M_42 jd_M_block_43 (by assumption) (by rfl) ?_
            refine z_iload_n (pc := 46) E jd_M_block_46 rfl rfl ?_
            refine z_iconst (v := 4) (pc := 47) E jd_M_block_47 (by decide) ?_
            refine z_iload_n (pc := 48) E jd_M_block_48 rfl rfl ?_
            refine z_imul (pc := 49) E jd_M_block_49 ?_
            refine z_topi (y := nI (4 * t)) (pk_mul 4 t) ?_
            refine z_iadd (pc := 50) E jd_M_block_50 ?_
            refine z_topi (y := nI (64 * b + 4 * t)) (nI_add _ _) ?_
            refine z_iload_n (pc := 51) E jd_M_block_51 rfl rfl ?_
            refine z_iadd (pc := 52) E jd_M_block_52 ?_
            refine z_topi (y := nI (64 * b + 4 * t + k)) (nI_add _ _) ?_
            refine z_iald (ti := 1) (pc := 53) E rfl jd_M_block_53 (by assumption) (vp_in_nI (by omega) (by omega)) ?_
            rw [nI_clamp (by omega), hf0 _ (by omega)]
            refine z_ior (pc := 54) E jd_M_block_54 ?_
            refine z_iast (ti := 1) (pc := 55) E rfl jd_M_block_55 (by assumption) (vp_in_nI (by omega) (by omega)) (fun es55 he55 => ?_)
            rw [nI_clamp (by omega)] at he55
            refine z_iinc (pc := 56) E jd_M_block_56 rfl rfl (by decide) rfl ?_
            dsimp only [List.set]
            refine z_goto (pc := 59) (tgt := 23) E jd_M_block_59 (by decide) ?_
            have := ih2 (k + 1) _ es55 (by omega) (mX.s14 h2 he55) (fun j hj => by rw [pk_un (by omega)]; exact hw2 j hj) pk_us (F2.trs (Fr.set he55 (by omega) (by omega)))
            rw [nI_succ k] at this
            exact this
      refine z_iload_n (pc := 2) E jd_M_block_2 rfl rfl ?_
      refine z_bipush (v := 80) (pc := 3) E jd_M_block_3 (by decide) ?_
      refine z_icmp_ge (pc := 5) (tgt := 120) E jd_M_block_5 (by decide) (fun c5 => ?_) (fun c5 => ?_)
      · exact absurd (cle (a := 80) c5) (by omega)
      · refine z_iload_n (pc := 8) E jd_M_block_8 rfl rfl ?_
        refine z_bipush (v := 16) (pc := 9) E jd_M_block_9 (by decide) ?_
        refine z_icmp_ge (pc := 11) (tgt := 65) E jd_M_block_11 (by decide) (fun c11 => ?_) (fun c11 => ?_)
        · have ht16 : ¬ t < 16 := by have := cle (a := 16) c11; omega
          refine z_aload_n (pc := 65) E jd_M_block_65 rfl rfl ?_
          refine z_get (pc := 66) E jf_M_51 jd_M_block_66 (by assumption) (by rfl) ?_
          refine z_iload_n (pc := 69) E jd_M_block_69 rfl rfl ?_
          refine z_aload_n (pc := 70) E jd_M_block_70 rfl rfl ?_
          refine z_aload_n (pc := 71) E jd_M_block_71 rfl rfl ?_
          refine z_get (pc := 72) E jf_M_51 jd_M_block_72 (by assumption) (by rfl) ?_
          refine z_iload_n (pc := 75) E jd_M_block_75 rfl rfl ?_
          refine z_iconst (v := 3) (pc := 76) E jd_M_block_76 (by decide) ?_
          refine z_isub (pc := 77) E jd_M_block_77 ?_
          refine z_topi (y := nI (t - 3)) (wsub (k := 3) (by omega)) ?_
          refine z_iald (ti := 1) (pc := 78) E rfl jd_M_block_78 (by assumption) (vp_in_nI (by omega) (by omega)) ?_
          rw [nI_clamp (by omega)]
          refine z_aload_n (pc := 79) E jd_M_block_79 rfl rfl ?_
          refine z_get (pc := 80) E jf_M_51 jd_M_block_80 (by assumption) (by rfl) ?_
          refine z_iload_n (pc := 83) E jd_M_block_83 rfl rfl ?_
          refine z_bipush (v := 8) (pc := 84) E jd_M_block_84 (by decide) ?_
          refine z_isub (pc := 86) E jd_M_block_86 ?_
          refine z_topi (y := nI (t - 8)) (wsub (k := 8) (by omega)) ?_
          refine z_iald (ti := 1) (pc := 87) E rfl jd_M_block_87 (by assumption) (vp_in_nI (by omega) (by omega)) ?_
          rw [nI_clamp (by omega)]
          refine z_ixor (pc := 88) E jd_M_block_88 ?_
          refine z_aload_n (pc := 89) E jd_M_block_89 rfl rfl ?_
          refine z_get (pc := 90) E jf_M_51 jd_M_block_90 (by assumption) (by rfl) ?_
          refine z_iload_n (pc := 93) E jd_M_block_93 rfl rfl ?_
          refine z_bipush (v := 14) (pc := 94) E jd_M_block_94 (by decide) ?_
          refine z_isub (pc := 96) E jd_M_block_96 ?_
          refine z_topi (y := nI (t - 14)) (wsub (k := 14) (by omega)) ?_
          refine z_iald (ti := 1) (pc := 97) E rfl jd_M_block_97 (by assumption) (vp_in_nI (by omega) (by omega)) ?_
          rw [nI_clamp (by omega)]
          refine z_ixor (pc := 98) E jd_M_block_98 ?_
          refine z_aload_n (pc := 99) E jd_M_block_99 rfl rfl ?_
          refine z_get (pc := 100) E jf_M_51 jd_M_block_100 (by assumption) (by rfl) ?_
          refine z_iload_n (pc := 103) E jd_M_block_103 rfl rfl ?_
          refine z_bipush (v := 16) (pc := 104) E jd_M_block_104 (by decide) ?_
          refine z_isub (pc := 106) E jd_M_block_106 ?_
          refine z_topi (y := nI (t - 16)) (wsub (k := 16) (by omega)) ?_
          refine z_iald (ti := 1) (pc := 107) E rfl jd_M_block_107 (by assumption) (vp_in_nI (by omega) (by omega)) ?_
          rw [nI_clamp (by omega)]
          refine z_ixor (pc := 108) E jd_M_block_108 ?_
          refine z_iconst (v := 1) (pc := 109) E jd_M_block_109 (by decide) ?_
          refine z_cV2I (pc := 110) E (c_M_turned l G B) jc_M_130 jv_M_turned rfl (by assumption) ⟨Nat.le_of_ble_eq_true rfl, Nat.le_of_ble_eq_true rfl⟩ jd_M_block_110 (Nat.le_of_ble_eq_true rfl) (by decide) (by decide) (fun v110 es110 h110 => ?_)
          obtain ⟨w110, e110⟩ := h110
          rw [e110, w110, hw _ (by omega), hw _ (by omega), hw _ (by omega), hw _ (by omega)]
          refine z_iast (ti := 1) (pc := 113) E rfl jd_M_block_113 (by assumption) (vp_in_nI (by omega) (by omega)) (fun es113 he113 => ?_)
          rw [nI_clamp (by omega)] at he113
          refine next _ _ es113 (mX.s14 h1 he113) (fun j hj => ?_) (F1.trs (Fr.set he113 (by omega) (by omega)))
          by_cases hjt : j = t
          · subst hjt
            rw [pk_us]; exact (Wd_hi (by omega)).symm
          · rw [pk_un hjt]; exact hw j (by omega)
        · have ht16 : t < 16 := ncle (a := 16) c11
          refine z_aload_n (pc := 14) E jd_M_block_14 rfl rfl ?_
          refine z_get (pc := 15) E jf_M_51 jd_M_block_15 (by assumption) (by rfl) ?_
          refine z_iload_n (pc := 18) E jd_M_block_18 rfl rfl ?_
          refine z_iconst (v := 0) (pc := 19) E jd_M_block_19 (by decide) ?_
          refine z_iast (ti := 1) (pc := 20) E rfl jd_M_block_20 (by assumption) (vp_in_nI (by omega) (by omega)) (fun es20 he20 => ?_)
          rw [nI_clamp (by omega)] at he20
          refine z_iconst (v := 0) (pc := 21) E jd_M_block_21 (by decide) ?_
          refine z_istore_n (pc := 22) E jd_M_block_22 rfl (by decide) rfl ?_
          dsimp only [List.set]
          exact inner ht16 4 0 _ es20 rfl (mX.s14 h1 he20) (fun j hj => by rw [pk_un (by omega)]; exact hw j hj) pk_us (F1.trs (Fr.set he20 (by omega) (by omega)))
  refine z_iconst (v := 0) (pc := 0) E jd_M_block_0 (by decide) ?_
  refine z_istore_n (pc := 1) E jd_M_block_1 rfl (by decide) rfl ?_
  dsimp only [List.set]
  exact loop1 80 0 none wf es rfl h (fun j hj => absurd hj (Nat.not_lt_zero _)) Fr.rf
