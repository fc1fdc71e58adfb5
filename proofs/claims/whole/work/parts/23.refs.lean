/-! the reference: shapes -/
set_option maxHeartbeats 4000000 in
set_option maxRecDepth 100000 in
theorem c_M_signAt (l : Launch) (G : zG) (B : Nat) {es : zE} {r i : Nat} {S : MS} {z a : Int32} {xs : List Nat} (h : mO G B es r S z a (nI (24 + xs.length))) (hx : rt S 1 xs) (hi : i < 100) : Tr l G B jy_M_signAt jb_M_signAt 2 (some .int) 0 0 0 [.ref (B + r), .int (nI (24 + i))] es (pI fun v es' => v = nI (xs.getD i 0) ∧ es' = es) := by
  obtain ⟨m0, a1, -⟩ := id h
  have l1 := hx.2.1
  refine Tr.of (ls := [some (.ref (B + r)), some (.int (nI (24 + i)))]) (by decide +kernel) (Nat.le_of_ble_eq_true rfl) rfl ?_
  intro zp ze zs zm zb zt zc E
  refine z_iload_n (pc := 0) E jd_M_signAt_0 rfl rfl ?_
  refine z_aload_n (pc := 1) E jd_M_signAt_1 rfl rfl ?_
  refine z_get (pc := 2) E jf_M_58 jd_M_signAt_2 (by assumption) (by rfl) ?_
  refine z_icmp_ge (pc := 5) (tgt := 17) E jd_M_signAt_5 (by decide) (fun c5 => ?_) (fun c5 => ?_)
  · have hr : xs.getD i 0 = 0 := getD_oob (by have := cle c5; omega)
    refine z_iconst (v := 0) (pc := 17) E jd_M_signAt_17 (by decide) ?_
    exact z_iret E jd_M_signAt_18 ⟨_, rfl, by first | rfl | (rw [hr]; rfl), rfl⟩
  · have hlt := ncle c5
    have hr := hx.2.2.1 i (by omega)
    refine z_aload_n (pc := 8) E jd_M_signAt_8 rfl rfl ?_
    refine z_get (pc := 9) E jf_M_7 jd_M_signAt_9 (by assumption) (by rfl) ?_
    refine z_iload_n (pc := 12) E jd_M_signAt_12 rfl rfl ?_
    refine z_iald (ti := 1) (pc := 13) E rfl jd_M_signAt_13 (by assumption) (vp_in_nI (by omega) (by omega)) ?_
    rw [nI_clamp (by omega)]
    refine z_topi hr ?_
    refine z_goto (pc := 14) (tgt := 18) E jd_M_signAt_14 (by decide) ?_
    exact z_iret E jd_M_signAt_18 ⟨_, rfl, by first | rfl | (rw [hr]; rfl), rfl⟩
def ptP (G : zG) (B : Nat) (es : zE) (r : Nat) (S : MS) (z e : Int32) (xs : List Nat) (i : Nat) : Int32 → zE → Prop := fun v es' => ((∃ j, eot xs i = some j ∧ v = 1 ∧ mO G B es' r S z (nI (24 + j)) e) ∨ (eot xs i = none ∧ v = 0 ∧ ∃ a', mO G B es' r S z a' e)) ∧ Fr es es' r (r + 15)
theorem ptP_t {G : zG} {B : Nat} {es es' : zE} {r i : Nat} {S : MS} {z e v : Int32} {xs : List Nat} (h : ptP G B es r S z e xs i v es') (hv : ¬ v = 0) : ∃ j, eot xs i = some j ∧ mO G B es' r S z (nI (24 + j)) e := by
  rcases h.1 with ⟨j, q1, -, q3⟩ | ⟨-, q, -⟩
  · exact ⟨j, q1, q3⟩
  · exact absurd q hv
theorem ptP_f {G : zG} {B : Nat} {es es' : zE} {r i : Nat} {S : MS} {z e v : Int32} {xs : List Nat} (h : ptP G B es r S z e xs i v es') (hv : v = 0) : eot xs i = none ∧ ∃ a' e', mO G B es' r S z a' e' := by
  rcases h.1 with ⟨j, q1, q2, q3⟩ | ⟨q1, q2, a', q3⟩
  · rw [q2] at hv; exact absurd hv (by decide)
  · exact ⟨q1, _, _, q3⟩
theorem eot_L {xs : List Nat} {i b : Nat} (hb : brk xs 3 i = b) (h : xs.getD b 0 = 76) : eot xs i = eon xs (b + 1) := by rw [eot, hb, if_pos h]
theorem eot_s {xs : List Nat} {i b : Nat} (hb : brk xs 3 i = b) (h : simpleC (xs.getD b 0) = true) (h2 : xs.getD b 0 ≠ 76) : eot xs i = some (b + 1) := by rw [eot, hb, if_neg h2, if_pos h]
theorem eot_n {xs : List Nat} {i b : Nat} (hb : brk xs 3 i = b) (h : simpleC (xs.getD b 0) = false) (h2 : xs.getD b 0 ≠ 76) : eot xs i = none := by rw [eot, hb, if_neg h2, if_neg (by rw [h]; decide)]
set_option maxHeartbeats 4000000 in
set_option maxRecDepth 100000 in
theorem c_M_passType (l : Launch) (G : zG) (B : Nat) {es : zE} {r i : Nat} {S : MS} {z : Int32} {xs : List Nat} (h : mO G B es r S z (nI (24 + i)) (nI (24 + xs.length))) (hx : rt S 1 xs) (hz : ∀ x ∈ xs, x ≠ 0) (hi : i ≤ 30) : Tr l G B jy_M_passType jb_M_passType 6 (some .boolean) 1 0 0 [.ref (B + r)] es (pI (ptP G B es r S z (nI (24 + xs.length)) xs i)) := by
  have l1 := hx.2.1
  have l4 := hx.2.2.2
  have hnz : ∀ b, xs.getD b 0 = 0 → xs.length ≤ b := by
    intro b hb
    apply Nat.le_of_not_lt
    intro hlt
    rw [List.getD_eq_getElem?_getD, List.getElem?_eq_getElem hlt] at hb
    exact hz _ (List.getElem_mem hlt) hb
  refine Tr.of (ls := [some (.ref (B + r)), none, none, none, none, none]) (by decide +kernel) (Nat.le_of_ble_eq_true rfl) rfl ?_
  intro zp ze zs zm zb zt zc E
  have name : ∀ (n a : Nat) (x1 : Int32), a ≤ 34 → brk xs 3 i = a → xs.getD a 0 = 76 → ∀ (f b k : Nat) (a5 : Option Value) (es1 : zE), b + f = xs.length → a + 1 + k = b → eonA xs f b = eonA xs (xs.length - (a + 1)) (a + 1) → mO G B es1 r S z (nI (24 + b)) (nI (24 + xs.length)) → Fr es es1 r (r + 15) → Zj zp l ze (zr 1 0 0) zs zm ([.ref (B + r)] : List Value).toArray zb zt zc (MQ zb (zQ G B (pI (ptP G B es r S z (nI (24 + xs.length)) xs i))) ([.ref (B + r)] : List Value).toArray zs 0 0 (fun q => B ≤ q)) G B 6 0 0 132 [some (.ref (B + r)), some (.int x1), some (.int (nI (xs.getD a 0))), some (.int (nI (24 + (a + 1)))), some (.int (nI k)), a5] [] es1 := by
    intro n a x1 ha34 hbrk hL f
    have heot := eot_L hbrk hL
    induction f with
    | zero =>
      intro b k a5 es1 hb hk he h1 F1
      have m0 := h1.1
      have hbl : b = xs.length := by omega
      have hg0 : xs.getD b 0 = 0 := getD_oob (by omega)
      have hen : eon xs (a + 1) = none := by
        rw [eon, ← he]
        show (if a + 1 < b ∧ xs.getD b 0 = 59 then _ else _) = _
        rw [hg0, if_neg (fun q => absurd q.2 (by decide))]
      refine z_iload (pc := 132) E jd_M_passType_132 rfl ?_
      refine z_bipush (v := 24) (pc := 134) E jd_M_passType_134 (by decide) ?_
      refine z_icmp_ge (pc := 136) (tgt := 233) E jd_M_passType_136 (by decide) (fun c136 => ?_) (fun c136 => ?_)
      · exact absurd (cle (a := 24) c136) (by omega)
      · refine z_aload_n (pc := 139) E jd_M_passType_139 rfl rfl ?_
        refine z_aload_n (pc := 140) E jd_M_passType_140 rfl rfl ?_
        refine z_get (pc := 141) E jf_M_62 jd_M_passType_141 (by assumption) (by rfl) ?_
        refine z_cV1I (pc := 144) E (c_M_signAt l G B h1 hx (by omega)) jc_M_65 jv_M_signAt rfl (by assumption) ⟨Nat.le_of_ble_eq_true rfl, Nat.le_of_ble_eq_true rfl⟩ jd_M_passType_144 (Nat.le_of_ble_eq_true rfl) (by decide) (by decide) (fun v144 es144 h144 => ?_)
        obtain ⟨w144, e144⟩ := h144
        rw [e144, w144, hg0]
        refine z_istore (pc := 147) E jd_M_passType_147 (by decide) rfl ?_
        dsimp only [List.set]
        refine z_iload (pc := 149) E jd_M_passType_149 rfl ?_
        refine z_bipush (v := 59) (pc := 151) E jd_M_passType_151 (by decide) ?_
        refine z_icmp_ne (pc := 153) (tgt := 182) E jd_M_passType_153 (by decide) (fun c153 => ?_) (fun c153 => ?_)
        · refine z_iload (pc := 182) E jd_M_passType_182 rfl ?_
          refine z_if_eq (pc := 184) (tgt := 215) E jd_M_passType_184 (by decide) (fun c184 => ?_) (fun c184 => ?_)
          · refine z_iconst (v := 0) (pc := 215) E jd_M_passType_215 (by decide) ?_
            exact z_zret E rfl jd_M_passType_216 ⟨_, rfl, Or.inr ⟨heot.trans hen, rfl, _, h1⟩, F1⟩
          · exact absurd rfl c184
        · exact absurd c153 (by decide)
    | succ f ih =>
      intro b k a5 es1 hb hk he h1 F1
      have m0 := h1.1
      have hlt := getD_lt (j := b) l4
      rw [eonA] at he
      have hne0 : ¬ xs.getD b 0 = 0 := fun q => absurd (hnz b q) (by omega)
      refine z_iload (pc := 132) E jd_M_passType_132 rfl ?_
      refine z_bipush (v := 24) (pc := 134) E jd_M_passType_134 (by decide) ?_
      refine z_icmp_ge (pc := 136) (tgt := 233) E jd_M_passType_136 (by decide) (fun c136 => ?_) (fun c136 => ?_)
      · exact absurd (cle (a := 24) c136) (by omega)
      · refine z_aload_n (pc := 139) E jd_M_passType_139 rfl rfl ?_
        refine z_aload_n (pc := 140) E jd_M_passType_140 rfl rfl ?_
        refine z_get (pc := 141) E jf_M_62 jd_M_passType_141 (by assumption) (by rfl) ?_
        refine z_cV1I (pc := 144) E (c_M_signAt l G B h1 hx (by omega)) jc_M_65 jv_M_signAt rfl (by assumption) ⟨Nat.le_of_ble_eq_true rfl, Nat.le_of_ble_eq_true rfl⟩ jd_M_passType_144 (Nat.le_of_ble_eq_true rfl) (by decide) (by decide) (fun v144 es144 h144 => ?_)
        obtain ⟨w144, e144⟩ := h144
        rw [e144, w144]
        refine z_istore (pc := 147) E jd_M_passType_147 (by decide) rfl ?_
        dsimp only [List.set]
        refine z_iload (pc := 149) E jd_M_passType_149 rfl ?_
        refine z_bipush (v := 59) (pc := 151) E jd_M_passType_151 (by decide) ?_
        refine z_icmp_ne (pc := 153) (tgt := 182) E jd_M_passType_153 (by decide) (fun c153 => ?_) (fun c153 => ?_)
        · have hc59 : ¬ xs.getD b 0 = 59 := nceq (b := 59) c153
          refine z_iload (pc := 182) E jd_M_passType_182 rfl ?_
          refine z_if_eq (pc := 184) (tgt := 215) E jd_M_passType_184 (by decide) (fun c184 => ?_) (fun c184 => ?_)
          · exact absurd (ceq (b := 0) c184) hne0
          · refine z_iload (pc := 187) E jd_M_passType_187 rfl ?_
            refine z_bipush (v := 91) (pc := 189) E jd_M_passType_189 (by decide) ?_
            refine z_icmp_eq (pc := 191) (tgt := 215) E jd_M_passType_191 (by decide) (fun c191 => ?_) (fun c191 => ?_)
            · have hm : mayC (xs.getD b 0) = false := may_f (by have := ceq (b := 91) c191; omega)
              refine z_iconst (v := 0) (pc := 215) E jd_M_passType_215 (by decide) ?_
              exact z_zret E rfl jd_M_passType_216 ⟨_, rfl, Or.inr ⟨heot.trans (by rw [if_neg (by rw [hm]; decide)] at he; rw [eon, ← he, if_neg (fun q => hc59 q.2)]), rfl, _, h1⟩, F1⟩
            · refine z_iload (pc := 194) E jd_M_passType_194 rfl ?_
              refine z_bipush (v := 40) (pc := 196) E jd_M_passType_196 (by decide) ?_
              refine z_icmp_eq (pc := 198) (tgt := 215) E jd_M_passType_198 (by decide) (fun c198 => ?_) (fun c198 => ?_)
              · have hm : mayC (xs.getD b 0) = false := may_f (by have := ceq (b := 40) c198; omega)
                refine z_iconst (v := 0) (pc := 215) E jd_M_passType_215 (by decide) ?_
                exact z_zret E rfl jd_M_passType_216 ⟨_, rfl, Or.inr ⟨heot.trans (by rw [if_neg (by rw [hm]; decide)] at he; rw [eon, ← he, if_neg (fun q => hc59 q.2)]), rfl, _, h1⟩, F1⟩
              · refine z_iload (pc := 201) E jd_M_passType_201 rfl ?_
                refine z_bipush (v := 41) (pc := 203) E jd_M_passType_203 (by decide) ?_
                refine z_icmp_eq (pc := 205) (tgt := 215) E jd_M_passType_205 (by decide) (fun c205 => ?_) (fun c205 => ?_)
                · have hm : mayC (xs.getD b 0) = false := may_f (by have := ceq (b := 41) c205; omega)
                  refine z_iconst (v := 0) (pc := 215) E jd_M_passType_215 (by decide) ?_
                  exact z_zret E rfl jd_M_passType_216 ⟨_, rfl, Or.inr ⟨heot.trans (by rw [if_neg (by rw [hm]; decide)] at he; rw [eon, ← he, if_neg (fun q => hc59 q.2)]), rfl, _, h1⟩, F1⟩
                · refine z_iload (pc := 208) E jd_M_passType_208 rfl ?_
                  refine z_bipush (v := 46) (pc := 210) E jd_M_passType_210 (by decide) ?_
                  refine z_icmp_ne (pc := 212) (tgt := 217) E jd_M_passType_212 (by decide) (fun c212 => ?_) (fun c212 => ?_)
                  · have hm : mayC (xs.getD b 0) = true := may_t hc59 (nceq (b := 91) c191) (nceq (b := 40) c198) (nceq (b := 41) c205) (nceq (b := 46) c212)
                    rw [if_pos hm] at he
                    refine z_aload_n (pc := 217) E jd_M_passType_217 rfl rfl ?_
                    refine z_dup (pc := 218) E jd_M_passType_218 rfl ?_
                    refine z_get (pc := 219) E jf_M_62 jd_M_passType_219 (by assumption) (by rfl) ?_
                    refine z_iconst (v := 1) (pc := 222) E jd_M_passType_222 (by decide) ?_
                    refine z_iadd (pc := 223) E jd_M_passType_223 ?_
                    rw [nI_1]
                    refine z_put (pc := 224) E jp_M_62 jd_M_passType_224 (by assumption) (Nat.le_of_ble_eq_true rfl) rfl rfl (fun es224 he224 => ?_)
                    dsimp only [List.set] at he224
                    have h2 := h1.s0 (z' := z) (a' := nI (24 + b + 1)) (e' := nI (24 + xs.length)) he224
                    refine z_iinc (pc := 227) E jd_M_passType_227 rfl rfl (by decide) rfl ?_
                    dsimp only [List.set]
                    refine z_goto (pc := 230) (tgt := 132) E jd_M_passType_230 (by decide) ?_
                    have := ih (b + 1) (k + 1) (some (.int (nI (xs.getD b 0)))) es224 (by omega) (by omega) he h2 (F1.trs (Fr.set he224 (by omega) (by omega)))
                    rw [nI_succ k] at this
                    exact this
                  · have hm : mayC (xs.getD b 0) = false := may_f (by have := ceq (b := 46) c212; omega)
                    refine z_iconst (v := 0) (pc := 215) E jd_M_passType_215 (by decide) ?_
                    exact z_zret E rfl jd_M_passType_216 ⟨_, rfl, Or.inr ⟨heot.trans (by rw [if_neg (by rw [hm]; decide)] at he; rw [eon, ← he, if_neg (fun q => hc59 q.2)]), rfl, _, h1⟩, F1⟩
        · have hc := ceq (b := 59) c153
          rw [if_neg (by rw [hc]; decide)] at he
          refine z_aload_n (pc := 156) E jd_M_passType_156 rfl rfl ?_
          refine z_dup (pc := 157) E jd_M_passType_157 rfl ?_
          refine z_get (pc := 158) E jf_M_62 jd_M_passType_158 (by assumption) (by rfl) ?_
          refine z_iconst (v := 1) (pc := 161) E jd_M_passType_161 (by decide) ?_
          refine z_iadd (pc := 162) E jd_M_passType_162 ?_
          rw [nI_1]
          refine z_put (pc := 163) E jp_M_62 jd_M_passType_163 (by assumption) (Nat.le_of_ble_eq_true rfl) rfl rfl (fun es163 he163 => ?_)
          dsimp only [List.set] at he163
          have h2 := h1.s0 (z' := z) (a' := nI (24 + b + 1)) (e' := nI (24 + xs.length)) he163
          have m1' := h2.1
          have F2 := F1.trs (Fr.set (lo := r) (hi := r + 15) he163 (by omega) (by omega))
          refine z_aload_n (pc := 166) E jd_M_passType_166 rfl rfl ?_
          refine z_get (pc := 167) E jf_M_62 jd_M_passType_167 (by assumption) (by rfl) ?_
          refine z_iconst (v := 1) (pc := 170) E jd_M_passType_170 (by decide) ?_
          refine z_isub (pc := 171) E jd_M_passType_171 ?_
          refine z_topi (y := nI (24 + b)) (nI_pred (24 + b)) ?_
          refine z_iload_n (pc := 172) E jd_M_passType_172 rfl rfl ?_
          refine z_icmp_le (pc := 173) (tgt := 180) E jd_M_passType_173 (by decide) (fun c173 => ?_) (fun c173 => ?_)
          · have hen : eon xs (a + 1) = none := by
              rw [eon, ← he, if_neg (fun q => by have := cle c173; omega)]
            have fin := (Or.inr ⟨heot.trans hen, rfl, _, h2⟩ : (∃ j, eot xs i = some j ∧ (0 : Int32) = 1 ∧ mO G B es163 r S z (nI (24 + j)) (nI (24 + xs.length))) ∨ (eot xs i = none ∧ (0 : Int32) = 0 ∧ ∃ a', mO G B es163 r S z a' (nI (24 + xs.length))))
            refine z_iconst (v := 0) (pc := 180) E jd_M_passType_180 (by decide) ?_
            exact z_zret E rfl jd_M_passType_181 ⟨_, rfl, fin, F2⟩
          · have hen : eon xs (a + 1) = some (b + 1) := by
              rw [eon, ← he, if_pos ⟨by have := ncle c173; omega, hc⟩]
            have fin := (Or.inl ⟨b + 1, heot.trans hen, rfl, h2⟩ : (∃ j, eot xs i = some j ∧ (1 : Int32) = 1 ∧ mO G B es163 r S z (nI (24 + j)) (nI (24 + xs.length))) ∨ (eot xs i = none ∧ (1 : Int32) = 0 ∧ ∃ a', mO G B es163 r S z a' (nI (24 + xs.length))))
            refine z_iconst (v := 1) (pc := 176) E jd_M_passType_176 (by decide) ?_
            refine z_goto (pc := 177) (tgt := 181) E jd_M_passType_177 (by decide) ?_
            exact z_zret E rfl jd_M_passType_181 ⟨_, rfl, fin, F2⟩
  have tail : ∀ (n a : Nat) (es1 : zE), a = i + n → n ≤ 3 → brk xs 3 i = a → mO G B es1 r S z (nI (24 + a)) (nI (24 + xs.length)) → Fr es es1 r (r + 15) → Zj zp l ze (zr 1 0 0) zs zm ([.ref (B + r)] : List Value).toArray zb zt zc (MQ zb (zQ G B (pI (ptP G B es r S z (nI (24 + xs.length)) xs i))) ([.ref (B + r)] : List Value).toArray zs 0 0 (fun q => B ≤ q)) G B 6 0 0 36 [some (.ref (B + r)), some (.int (nI n)), none, none, none, none] [] es1 := by
    intro n a es1 ha hn hbrk h1 F1
    have m0 := h1.1
    have hlt := getD_lt (j := a) l4
    have yes : ∀ es2 : zE, mO G B es2 r S z (nI (24 + a + 1)) (nI (24 + xs.length)) → Fr es es2 r (r + 15) → simpleC (xs.getD a 0) = true → xs.getD a 0 ≠ 76 → Zj zp l ze (zr 1 0 0) zs zm ([.ref (B + r)] : List Value).toArray zb zt zc (MQ zb (zQ G B (pI (ptP G B es r S z (nI (24 + xs.length)) xs i))) ([.ref (B + r)] : List Value).toArray zs 0 0 (fun q => B ≤ q)) G B 6 0 0 114 [some (.ref (B + r)), some (.int (nI n)), some (.int (nI (xs.getD a 0))), none, none, none] [] es2 := by
      intro es2 h2 F2 hs h76
      refine z_iconst (v := 1) (pc := 114) E jd_M_passType_114 (by decide) ?_
      exact z_zret E rfl jd_M_passType_115 ⟨_, rfl, Or.inl ⟨a + 1, eot_s hbrk hs h76, rfl, h2⟩, F2⟩
    refine z_aload_n (pc := 36) E jd_M_passType_36 rfl rfl ?_
    refine z_aload_n (pc := 37) E jd_M_passType_37 rfl rfl ?_
    refine z_get (pc := 38) E jf_M_62 jd_M_passType_38 (by assumption) (by rfl) ?_
    refine z_cV1I (pc := 41) E (c_M_signAt l G B h1 hx (by omega)) jc_M_65 jv_M_signAt rfl (by assumption) ⟨Nat.le_of_ble_eq_true rfl, Nat.le_of_ble_eq_true rfl⟩ jd_M_passType_41 (Nat.le_of_ble_eq_true rfl) (by decide) (by decide) (fun v41 es41 h41 => ?_)
    obtain ⟨w41, e41⟩ := h41
    rw [e41, w41]
    refine z_istore_n (pc := 44) E jd_M_passType_44 rfl (by decide) rfl ?_
    dsimp only [List.set]
    refine z_aload_n (pc := 45) E jd_M_passType_45 rfl rfl ?_
    refine z_dup (pc := 46) E jd_M_passType_46 rfl ?_
    refine z_get (pc := 47) E jf_M_62 jd_M_passType_47 (by assumption) (by rfl) ?_
    refine z_iconst (v := 1) (pc := 50) E jd_M_passType_50 (by decide) ?_
    refine z_iadd (pc := 51) E jd_M_passType_51 ?_
    rw [nI_1]
    refine z_put (pc := 52) E jp_M_62 jd_M_passType_52 (by assumption) (Nat.le_of_ble_eq_true rfl) rfl rfl (fun es52 he52 => ?_)
    dsimp only [List.set] at he52
    have h2 := h1.s0 (z' := z) (a' := nI (24 + a + 1)) (e' := nI (24 + xs.length)) he52
    have m2 := h2.1
    have F2 := F1.trs (Fr.set (lo := r) (hi := r + 15) he52 (by omega) (by omega))
    refine z_iload_n (pc := 55) E jd_M_passType_55 rfl rfl ?_
    refine z_iconst (v := 3) (pc := 56) E jd_M_passType_56 (by decide) ?_
    refine z_icmp_gt (pc := 57) (tgt := 64) E jd_M_passType_57 (by decide) (fun c57 => ?_) (fun c57 => ?_)
    · exact absurd (clt (a := 3) c57) (by omega)
    · refine z_iload_n (pc := 60) E jd_M_passType_60 rfl rfl ?_
      refine z_if_ne (pc := 61) (tgt := 66) E jd_M_passType_61 (by decide) (fun c61 => ?_) (fun c61 => ?_)
      · refine z_iload_n (pc := 66) E jd_M_passType_66 rfl rfl ?_
        refine z_bipush (v := 66) (pc := 67) E jd_M_passType_67 (by decide) ?_
        refine z_icmp_eq (pc := 69) (tgt := 114) E jd_M_passType_69 (by decide) (fun c69 => ?_) (fun c69 => ?_)
        · have hc := ceq (b := 66) c69
          exact yes es52 h2 F2 (by rw [hc]; rfl) (by omega)
        · refine z_iload_n (pc := 72) E jd_M_passType_72 rfl rfl ?_
          refine z_bipush (v := 67) (pc := 73) E jd_M_passType_73 (by decide) ?_
          refine z_icmp_eq (pc := 75) (tgt := 114) E jd_M_passType_75 (by decide) (fun c75 => ?_) (fun c75 => ?_)
          · have hc := ceq (b := 67) c75
            exact yes es52 h2 F2 (by rw [hc]; rfl) (by omega)
          · refine z_iload_n (pc := 78) E jd_M_passType_78 rfl rfl ?_
            refine z_bipush (v := 68) (pc := 79) E jd_M_passType_79 (by decide) ?_
            refine z_icmp_eq (pc := 81) (tgt := 114) E jd_M_passType_81 (by decide) (fun c81 => ?_) (fun c81 => ?_)
            · have hc := ceq (b := 68) c81
              exact yes es52 h2 F2 (by rw [hc]; rfl) (by omega)
            · refine z_iload_n (pc := 84) E jd_M_passType_84 rfl rfl ?_
              refine z_bipush (v := 70) (pc := 85) E jd_M_passType_85 (by decide) ?_
              refine z_icmp_eq (pc := 87) (tgt := 114) E jd_M_passType_87 (by decide) (fun c87 => ?_) (fun c87 => ?_)
              · have hc := ceq (b := 70) c87
                exact yes es52 h2 F2 (by rw [hc]; rfl) (by omega)
              · refine z_iload_n (pc := 90) E jd_M_passType_90 rfl rfl ?_
                refine z_bipush (v := 73) (pc := 91) E jd_M_passType_91 (by decide) ?_
                refine z_icmp_eq (pc := 93) (tgt := 114) E jd_M_passType_93 (by decide) (fun c93 => ?_) (fun c93 => ?_)
                · have hc := ceq (b := 73) c93
                  exact yes es52 h2 F2 (by rw [hc]; rfl) (by omega)
                · refine z_iload_n (pc := 96) E jd_M_passType_96 rfl rfl ?_
                  refine z_bipush (v := 74) (pc := 97) E jd_M_passType_97 (by decide) ?_
                  refine z_icmp_eq (pc := 99) (tgt := 114) E jd_M_passType_99 (by decide) (fun c99 => ?_) (fun c99 => ?_)
                  · have hc := ceq (b := 74) c99
                    exact yes es52 h2 F2 (by rw [hc]; rfl) (by omega)
                  · refine z_iload_n (pc := 102) E jd_M_passType_102 rfl rfl ?_
                    refine z_bipush (v := 83) (pc := 103) E jd_M_passType_103 (by decide) ?_
                    refine z_icmp_eq (pc := 105) (tgt := 114) E jd_M_passType_105 (by decide) (fun c105 => ?_) (fun c105 => ?_)
                    · have hc := ceq (b := 83) c105
                      exact yes es52 h2 F2 (by rw [hc]; rfl) (by omega)
                    · refine z_iload_n (pc := 108) E jd_M_passType_108 rfl rfl ?_
                      refine z_bipush (v := 90) (pc := 109) E jd_M_passType_109 (by decide) ?_
                      refine z_icmp_ne (pc := 111) (tgt := 116) E jd_M_passType_111 (by decide) (fun c111 => ?_) (fun c111 => ?_)
                      · have hns : simpleC (xs.getD a 0) = false := by
                          have q1 := nceq (b := 66) c69
                          have q2 := nceq (b := 67) c75
                          have q3 := nceq (b := 68) c81
                          have q4 := nceq (b := 70) c87
                          have q5 := nceq (b := 73) c93
                          have q6 := nceq (b := 74) c99
                          have q7 := nceq (b := 83) c105
                          have q8 := nceq (b := 90) c111
                          simp only [simpleC, Bool.or_eq_false_iff, beq_eq_false_iff_ne]
                          exact ⟨⟨⟨⟨⟨⟨⟨q1, q2⟩, q3⟩, q4⟩, q5⟩, q6⟩, q7⟩, q8⟩
                        refine z_iload_n (pc := 116) E jd_M_passType_116 rfl rfl ?_
                        refine z_bipush (v := 76) (pc := 117) E jd_M_passType_117 (by decide) ?_
                        refine z_icmp_eq (pc := 119) (tgt := 124) E jd_M_passType_119 (by decide) (fun c119 => ?_) (fun c119 => ?_)
                        · have hL := ceq (b := 76) c119
                          have hal : a + 1 ≤ xs.length := Nat.lt_of_not_le fun q => by rw [getD_oob q] at hL; cases hL
                          refine z_aload_n (pc := 124) E jd_M_passType_124 rfl rfl ?_
                          refine z_get (pc := 125) E jf_M_62 jd_M_passType_125 (by assumption) (by rfl) ?_
                          refine z_istore_n (pc := 128) E jd_M_passType_128 rfl (by decide) rfl ?_
                          dsimp only [List.set]
                          refine z_iconst (v := 0) (pc := 129) E jd_M_passType_129 (by decide) ?_
                          refine z_istore (pc := 130) E jd_M_passType_130 (by decide) rfl ?_
                          dsimp only [List.set]
                          exact name n a (nI n) (by omega) hbrk hL (xs.length - (a + 1)) (a + 1) 0 none es52 (by omega) (by omega) rfl h2 F2
                        · refine z_iconst (v := 0) (pc := 122) E jd_M_passType_122 (by decide) ?_
                          exact z_zret E rfl jd_M_passType_123 ⟨_, rfl, Or.inr ⟨eot_n hbrk hns (nceq (b := 76) c119), rfl, _, h2⟩, F2⟩
                      · have hc := ceq (b := 90) c111
                        exact yes es52 h2 F2 (by rw [hc]; rfl) (by omega)
      · have hc0 := ceq (b := 0) c61
        refine z_iconst (v := 0) (pc := 64) E jd_M_passType_64 (by decide) ?_
        exact z_zret E rfl jd_M_passType_65 ⟨_, rfl, Or.inr ⟨eot_n hbrk (by rw [hc0]; rfl) (by rw [hc0]; decide), rfl, _, h2⟩, F2⟩
  have tail4 : ∀ (es1 : zE), xs.getD (i + 3) 0 = 91 → brk xs 3 i = i + 3 → mO G B es1 r S z (nI (24 + (i + 4))) (nI (24 + xs.length)) → Fr es es1 r (r + 15) → Zj zp l ze (zr 1 0 0) zs zm ([.ref (B + r)] : List Value).toArray zb zt zc (MQ zb (zQ G B (pI (ptP G B es r S z (nI (24 + xs.length)) xs i))) ([.ref (B + r)] : List Value).toArray zs 0 0 (fun q => B ≤ q)) G B 6 0 0 36 [some (.ref (B + r)), some (.int (nI 4)), none, none, none, none] [] es1 := by
    intro es1 h91 hbrk h1 F1
    have m0 := h1.1
    refine z_aload_n (pc := 36) E jd_M_passType_36 rfl rfl ?_
    refine z_aload_n (pc := 37) E jd_M_passType_37 rfl rfl ?_
    refine z_get (pc := 38) E jf_M_62 jd_M_passType_38 (by assumption) (by rfl) ?_
    refine z_cV1I (pc := 41) E (c_M_signAt l G B h1 hx (by omega)) jc_M_65 jv_M_signAt rfl (by assumption) ⟨Nat.le_of_ble_eq_true rfl, Nat.le_of_ble_eq_true rfl⟩ jd_M_passType_41 (Nat.le_of_ble_eq_true rfl) (by decide) (by decide) (fun v41 es41 h41 => ?_)
    obtain ⟨w41, e41⟩ := h41
    rw [e41, w41]
    refine z_istore_n (pc := 44) E jd_M_passType_44 rfl (by decide) rfl ?_
    dsimp only [List.set]
    refine z_aload_n (pc := 45) E jd_M_passType_45 rfl rfl ?_
    refine z_dup (pc := 46) E jd_M_passType_46 rfl ?_
    refine z_get (pc := 47) E jf_M_62 jd_M_passType_47 (by assumption) (by rfl) ?_
    refine z_iconst (v := 1) (pc := 50) E jd_M_passType_50 (by decide) ?_
    refine z_iadd (pc := 51) E jd_M_passType_51 ?_
    rw [nI_1]
    refine z_put (pc := 52) E jp_M_62 jd_M_passType_52 (by assumption) (Nat.le_of_ble_eq_true rfl) rfl rfl (fun es52 he52 => ?_)
    dsimp only [List.set] at he52
    have h2 := h1.s0 (z' := z) (a' := nI (24 + (i + 4) + 1)) (e' := nI (24 + xs.length)) he52
    have F2 := F1.trs (Fr.set (lo := r) (hi := r + 15) he52 (by omega) (by omega))
    refine z_iload_n (pc := 55) E jd_M_passType_55 rfl rfl ?_
    refine z_iconst (v := 3) (pc := 56) E jd_M_passType_56 (by decide) ?_
    refine z_icmp_gt (pc := 57) (tgt := 64) E jd_M_passType_57 (by decide) (fun c57 => ?_) (fun c57 => ?_)
    · refine z_iconst (v := 0) (pc := 64) E jd_M_passType_64 (by decide) ?_
      exact z_zret E rfl jd_M_passType_65 ⟨_, rfl, Or.inr ⟨eot_n hbrk (by rw [h91]; rfl) (by rw [h91]; decide), rfl, _, h2⟩, F2⟩
    · exact absurd (nI_lt (a := 3) (b := 4) (by omega) (by omega)) c57
  have loop : ∀ (f n : Nat) (es1 : zE), n + f = 3 → brk xs f (i + n) = brk xs 3 i → mO G B es1 r S z (nI (24 + (i + n))) (nI (24 + xs.length)) → Fr es es1 r (r + 15) → Zj zp l ze (zr 1 0 0) zs zm ([.ref (B + r)] : List Value).toArray zb zt zc (MQ zb (zQ G B (pI (ptP G B es r S z (nI (24 + xs.length)) xs i))) ([.ref (B + r)] : List Value).toArray zs 0 0 (fun q => B ≤ q)) G B 6 0 0 2 [some (.ref (B + r)), some (.int (nI n)), none, none, none, none] [] es1 := by
    intro f
    induction f with
    | zero =>
      intro n es1 hn hbrk h1 F1
      have m0 := h1.1
      have hlt := getD_lt (j := i + n) l4
      have hn3 : n = 3 := by omega
      subst hn3
      refine z_aload_n (pc := 2) E jd_M_passType_2 rfl rfl ?_
      refine z_aload_n (pc := 3) E jd_M_passType_3 rfl rfl ?_
      refine z_get (pc := 4) E jf_M_62 jd_M_passType_4 (by assumption) (by rfl) ?_
      refine z_cV1I (pc := 7) E (c_M_signAt l G B h1 hx (by omega)) jc_M_65 jv_M_signAt rfl (by assumption) ⟨Nat.le_of_ble_eq_true rfl, Nat.le_of_ble_eq_true rfl⟩ jd_M_passType_7 (Nat.le_of_ble_eq_true rfl) (by decide) (by decide) (fun v7 es7 h7 => ?_)
      obtain ⟨w7, e7⟩ := h7
      rw [e7, w7]
      refine z_bipush (v := 91) (pc := 10) E jd_M_passType_10 (by decide) ?_
      refine z_icmp_ne (pc := 12) (tgt := 36) E jd_M_passType_12 (by decide) (fun c12 => ?_) (fun c12 => ?_)
      · exact tail 3 (i + 3) es1 rfl (by omega) hbrk.symm h1 F1
      · have h91 := ceq (b := 91) c12
        refine z_iload_n (pc := 15) E jd_M_passType_15 rfl rfl ?_
        refine z_iconst (v := 4) (pc := 16) E jd_M_passType_16 (by decide) ?_
        refine z_icmp_ge (pc := 17) (tgt := 36) E jd_M_passType_17 (by decide) (fun c17 => ?_) (fun c17 => ?_)
        · exact absurd (cle (a := 4) c17) (by omega)
        · refine z_aload_n (pc := 20) E jd_M_passType_20 rfl rfl ?_
          refine z_dup (pc := 21) E jd_M_passType_21 rfl ?_
          refine z_get (pc := 22) E jf_M_62 jd_M_passType_22 (by assumption) (by rfl) ?_
          refine z_iconst (v := 1) (pc := 25) E jd_M_passType_25 (by decide) ?_
          refine z_iadd (pc := 26) E jd_M_passType_26 ?_
          rw [nI_1]
          refine z_put (pc := 27) E jp_M_62 jd_M_passType_27 (by assumption) (Nat.le_of_ble_eq_true rfl) rfl rfl (fun es27 he27 => ?_)
          dsimp only [List.set] at he27
          have h2 := h1.s0 (z' := z) (a' := nI (24 + (i + 3) + 1)) (e' := nI (24 + xs.length)) he27
          have F2 := F1.trs (Fr.set (lo := r) (hi := r + 15) he27 (by omega) (by omega))
          have m2 := h2.1
          refine z_iinc (pc := 30) E jd_M_passType_30 rfl rfl (by decide) rfl ?_
          dsimp only [List.set]
          refine z_goto (pc := 33) (tgt := 2) E jd_M_passType_33 (by decide) ?_
          refine z_aload_n (pc := 2) E jd_M_passType_2 rfl rfl ?_
          refine z_aload_n (pc := 3) E jd_M_passType_3 rfl rfl ?_
          refine z_get (pc := 4) E jf_M_62 jd_M_passType_4 (by assumption) (by rfl) ?_
          refine z_cV1I (pc := 7) E (c_M_signAt l G B (i := i + 4) h2 hx (by omega)) jc_M_65 jv_M_signAt rfl (by assumption) ⟨Nat.le_of_ble_eq_true rfl, Nat.le_of_ble_eq_true rfl⟩ jd_M_passType_7 (Nat.le_of_ble_eq_true rfl) (by decide) (by decide) (fun v7 es7 h7 => ?_)
          obtain ⟨w7b, e7b⟩ := h7
          rw [e7b, w7b]
          refine z_bipush (v := 91) (pc := 10) E jd_M_passType_10 (by decide) ?_
          refine z_icmp_ne (pc := 12) (tgt := 36) E jd_M_passType_12 (by decide) (fun c12 => ?_) (fun c12 => ?_)
          · exact tail4 es27 h91 hbrk.symm h2 F2
          · skip
            refine z_iload_n (pc := 15) E jd_M_passType_15 rfl rfl ?_
            refine z_iconst (v := 4) (pc := 16) E jd_M_passType_16 (by decide) ?_
            refine z_icmp_ge (pc := 17) (tgt := 36) E jd_M_passType_17 (by decide) (fun c17 => ?_) (fun c17 => ?_)
            · exact tail4 es27 h91 hbrk.symm h2 F2
            · exact absurd (nI_le (a := 4) (b := 4) (by omega) (by omega)) c17
    | succ f ih =>
      intro n es1 hn hbrk h1 F1
      have m0 := h1.1
      have hlt := getD_lt (j := i + n) l4
      rw [show brk xs (f + 1) (i + n) = if xs.getD (i + n) 0 = 91 then brk xs f (i + n + 1) else i + n from rfl] at hbrk
      refine z_aload_n (pc := 2) E jd_M_passType_2 rfl rfl ?_
      refine z_aload_n (pc := 3) E jd_M_passType_3 rfl rfl ?_
      refine z_get (pc := 4) E jf_M_62 jd_M_passType_4 (by assumption) (by rfl) ?_
      refine z_cV1I (pc := 7) E (c_M_signAt l G B h1 hx (by omega)) jc_M_65 jv_M_signAt rfl (by assumption) ⟨Nat.le_of_ble_eq_true rfl, Nat.le_of_ble_eq_true rfl⟩ jd_M_passType_7 (Nat.le_of_ble_eq_true rfl) (by decide) (by decide) (fun v7 es7 h7 => ?_)
      obtain ⟨w7, e7⟩ := h7
      rw [e7, w7]
      refine z_bipush (v := 91) (pc := 10) E jd_M_passType_10 (by decide) ?_
      refine z_icmp_ne (pc := 12) (tgt := 36) E jd_M_passType_12 (by decide) (fun c12 => ?_) (fun c12 => ?_)
      · rw [if_neg (nceq (b := 91) c12)] at hbrk
        exact tail n (i + n) es1 rfl (by omega) hbrk.symm h1 F1
      · rw [if_pos (ceq (b := 91) c12)] at hbrk
        refine z_iload_n (pc := 15) E jd_M_passType_15 rfl rfl ?_
        refine z_iconst (v := 4) (pc := 16) E jd_M_passType_16 (by decide) ?_
        refine z_icmp_ge (pc := 17) (tgt := 36) E jd_M_passType_17 (by decide) (fun c17 => ?_) (fun c17 => ?_)
        · exact absurd (cle (a := 4) c17) (by omega)
        · refine z_aload_n (pc := 20) E jd_M_passType_20 rfl rfl ?_
          refine z_dup (pc := 21) E jd_M_passType_21 rfl ?_
          refine z_get (pc := 22) E jf_M_62 jd_M_passType_22 (by assumption) (by rfl) ?_
          refine z_iconst (v := 1) (pc := 25) E jd_M_passType_25 (by decide) ?_
          refine z_iadd (pc := 26) E jd_M_passType_26 ?_
          rw [nI_1]
          refine z_put (pc := 27) E jp_M_62 jd_M_passType_27 (by assumption) (Nat.le_of_ble_eq_true rfl) rfl rfl (fun es27 he27 => ?_)
          dsimp only [List.set] at he27
          have h2 := h1.s0 (z' := z) (a' := nI (24 + (i + n) + 1)) (e' := nI (24 + xs.length)) he27
          have F2 := F1.trs (Fr.set (lo := r) (hi := r + 15) he27 (by omega) (by omega))
          refine z_iinc (pc := 30) E jd_M_passType_30 rfl rfl (by decide) rfl ?_
          dsimp only [List.set]
          refine z_goto (pc := 33) (tgt := 2) E jd_M_passType_33 (by decide) ?_
          have := ih (n + 1) es27 (by omega) hbrk h2 F2
          rw [nI_succ n] at this
          exact this
  refine z_iconst (v := 0) (pc := 0) E jd_M_passType_0 (by decide) ?_
  refine z_istore_n (pc := 1) E jd_M_passType_1 rfl (by decide) rfl ?_
  dsimp only [List.set]
  exact loop 3 0 es rfl rfl h Fr.rf
set_option maxHeartbeats 4000000 in
set_option maxRecDepth 100000 in
theorem c_M_goodShape (l : Launch) (G : zG) (B : Nat) {es : zE} {r k : Nat} {S : MS} {z a e : Int32} {xs : List Nat} (h : mO G B es r S z a e) (hx : rt S 1 xs) (hz : ∀ x ∈ xs, x ≠ 0) (hk : k < 3) : Tr l G B jy_M_goodShape jb_M_goodShape 2 (some .boolean) 2 0 0 [.ref (B + r), .int (nI k)] es (pI fun v es' => v = (if shapeOk k xs = true then 1 else 0) ∧ (∃ a' e', mO G B es' r S z a' e') ∧ Fr es es' r (r + 15)) := by
  have hm := h
  obtain ⟨m0, a1, a2, -⟩ := id h
  have l1 := hx.2.1
  have l4 := hx.2.2.2
  refine Tr.of (ls := [some (.ref (B + r)), some (.int (nI k))]) (by decide +kernel) (Nat.le_of_ble_eq_true rfl) rfl ?_
  intro zp ze zs zm zb zt zc E
  have fin : ∀ (c : Nat) (es1 : zE), ¬ k = 0 → xs.getD 0 0 = 40 → ets xs 24 1 = some c → c ≤ 24 → xs.getD c 0 = 41 → mO G B es1 r S z (nI (24 + c)) (nI (24 + xs.length)) → Fr es es1 r (r + 15) → Zj zp l ze (zr 2 0 0) zs zm ([.ref (B + r), .int (nI k)] : List Value).toArray zb zt zc (MQ zb (zQ G B (pI fun v es' => v = (if shapeOk k xs = true then 1 else 0) ∧ (∃ a' e', mO G B es' r S z a' e') ∧ Fr es es' r (r + 15))) ([.ref (B + r), .int (nI k)] : List Value).toArray zs 0 0 (fun q => B ≤ q)) G B 2 0 0 105 [some (.ref (B + r)), some (.int (nI k))] [] es1 := by
    intro c es1 hk0 h40 het hc24 hc41 h1 F1
    have m1 := h1.1
    have hlt := getD_lt (j := c + 1) l4
    have hsh : shM xs = if xs.getD (c + 1) 0 = 86 then (if c + 2 = xs.length then 1 else 0) else if eot xs (c + 1) = some xs.length then 2 else 0 := by rw [shM, if_pos h40, het]
    refine z_aload_n (pc := 105) E jd_M_goodShape_105 rfl rfl ?_
    refine z_aload_n (pc := 106) E jd_M_goodShape_106 rfl rfl ?_
    refine z_get (pc := 107) E jf_M_62 jd_M_goodShape_107 (by assumption) (by rfl) ?_
    refine z_cV1I (pc := 110) E (c_M_signAt l G B h1 hx (by omega)) jc_M_65 jv_M_signAt rfl (by assumption) ⟨Nat.le_of_ble_eq_true rfl, Nat.le_of_ble_eq_true rfl⟩ jd_M_goodShape_110 (Nat.le_of_ble_eq_true rfl) (by decide) (by decide) (fun v110 es110 h110 => ?_)
    obtain ⟨w110, e110⟩ := h110
    rw [e110, w110, hc41]
    refine z_bipush (v := 41) (pc := 113) E jd_M_goodShape_113 (by decide) ?_
    refine z_icmp_eq (pc := 115) (tgt := 120) E jd_M_goodShape_115 (by decide) (fun c115 => ?_) (fun c115 => ?_)
    · refine z_aload_n (pc := 120) E jd_M_goodShape_120 rfl rfl ?_
      refine z_dup (pc := 121) E jd_M_goodShape_121 rfl ?_
      refine z_get (pc := 122) E jf_M_62 jd_M_goodShape_122 (by assumption) (by rfl) ?_
      refine z_iconst (v := 1) (pc := 125) E jd_M_goodShape_125 (by decide) ?_
      refine z_iadd (pc := 126) E jd_M_goodShape_126 ?_
      rw [nI_1]
      refine z_put (pc := 127) E jp_M_62 jd_M_goodShape_127 (by assumption) (Nat.le_of_ble_eq_true rfl) rfl rfl (fun es127 he127 => ?_)
      dsimp only [List.set] at he127
      have h2 := h1.s0 (z' := z) (a' := nI (24 + c + 1)) (e' := nI (24 + xs.length)) he127
      have F2 := F1.trs (Fr.set (lo := r) (hi := r + 15) he127 (by omega) (by omega))
      have m2 := h2.1
      refine z_aload_n (pc := 130) E jd_M_goodShape_130 rfl rfl ?_
      refine z_aload_n (pc := 131) E jd_M_goodShape_131 rfl rfl ?_
      refine z_get (pc := 132) E jf_M_62 jd_M_goodShape_132 (by assumption) (by rfl) ?_
      refine z_cV1I (pc := 135) E (c_M_signAt l G B (i := c + 1) h2 hx (by omega)) jc_M_65 jv_M_signAt rfl (by assumption) ⟨Nat.le_of_ble_eq_true rfl, Nat.le_of_ble_eq_true rfl⟩ jd_M_goodShape_135 (Nat.le_of_ble_eq_true rfl) (by decide) (by decide) (fun v135 es135 h135 => ?_)
      obtain ⟨w135, e135⟩ := h135
      rw [e135, w135]
      refine z_bipush (v := 86) (pc := 138) E jd_M_goodShape_138 (by decide) ?_
      refine z_icmp_ne (pc := 140) (tgt := 162) E jd_M_goodShape_140 (by decide) (fun c140 => ?_) (fun c140 => ?_)
      · rw [if_neg (nceq (b := 86) c140)] at hsh
        refine z_iload_n (pc := 162) E jd_M_goodShape_162 rfl rfl ?_
        refine z_iconst (v := 2) (pc := 163) E jd_M_goodShape_163 (by decide) ?_
        refine z_icmp_ne (pc := 164) (tgt := 189) E jd_M_goodShape_164 (by decide) (fun c164 => ?_) (fun c164 => ?_)
        · have hr : shapeOk k xs = false := by
            have hk1 : k = 1 := by have := nceq (b := 2) c164; omega
            subst hk1
            by_cases q : eot xs (c + 1) = some xs.length
            · rw [if_pos q] at hsh; simp [shapeOk, hsh]
            · rw [if_neg q] at hsh; simp [shapeOk, hsh]
          have h3 : ∃ a' e', mO G B es127 r S z a' e' := ⟨_, _, h2⟩
          have F3 := F2
          refine z_iconst (v := 0) (pc := 189) E jd_M_goodShape_189 (by decide) ?_
          exact z_zret E rfl jd_M_goodShape_190 ⟨_, rfl, by rw [hr]; rfl, h3, F3⟩
        · have hk2 : k = 2 := ceq (b := 2) c164
          subst hk2
          refine z_aload_n (pc := 167) E jd_M_goodShape_167 rfl rfl ?_
          refine z_cV0I (pc := 168) E (c_M_passType l G B (i := c + 1) h2 hx hz (by omega)) jc_M_69 jv_M_passType rfl (by assumption) ⟨Nat.le_of_ble_eq_true rfl, Nat.le_of_ble_eq_true rfl⟩ jd_M_goodShape_168 (Nat.le_of_ble_eq_true rfl) (by decide) (by decide) (fun v168 es168 h168 => ?_)
          have F3 := F2.trs h168.2
          refine z_if_eq (pc := 171) (tgt := 189) E jd_M_goodShape_171 (by decide) (fun c171 => ?_) (fun c171 => ?_)
          · obtain ⟨hen, h3⟩ := ptP_f h168 c171
            have hr : shapeOk 2 xs = false := by rw [hen, if_neg (fun q => by cases q)] at hsh; simp [shapeOk, hsh]
            refine z_iconst (v := 0) (pc := 189) E jd_M_goodShape_189 (by decide) ?_
            exact z_zret E rfl jd_M_goodShape_190 ⟨_, rfl, by rw [hr]; rfl, h3, F3⟩
          · obtain ⟨j, hej, h4⟩ := ptP_t h168 c171
            have m4 := h4.1
            have hjl := (eot_lt hej).2.1
            have h3 : ∃ a' e', mO G B es168 r S z a' e' := ⟨_, _, h4⟩
            refine z_aload_n (pc := 174) E jd_M_goodShape_174 rfl rfl ?_
            refine z_get (pc := 175) E jf_M_62 jd_M_goodShape_175 (by assumption) (by rfl) ?_
            refine z_aload_n (pc := 178) E jd_M_goodShape_178 rfl rfl ?_
            refine z_get (pc := 179) E jf_M_58 jd_M_goodShape_179 (by assumption) (by rfl) ?_
            refine z_icmp_ne (pc := 182) (tgt := 189) E jd_M_goodShape_182 (by decide) (fun c182 => ?_) (fun c182 => ?_)
            · have hr : shapeOk 2 xs = false := by rw [if_neg (fun q => c182 (by rw [hej] at q; rw [Option.some.inj q]))] at hsh; simp [shapeOk, hsh]
              refine z_iconst (v := 0) (pc := 189) E jd_M_goodShape_189 (by decide) ?_
              exact z_zret E rfl jd_M_goodShape_190 ⟨_, rfl, by rw [hr]; rfl, h3, F3⟩
            · have hr : shapeOk 2 xs = true := by rw [if_pos (by rw [hej]; have := ceq c182; exact congrArg some (by omega))] at hsh; simp [shapeOk, hsh]
              refine z_iconst (v := 1) (pc := 185) E jd_M_goodShape_185 (by decide) ?_
              refine z_goto (pc := 186) (tgt := 190) E jd_M_goodShape_186 (by decide) ?_
              exact z_zret E rfl jd_M_goodShape_190 ⟨_, rfl, by rw [hr]; rfl, h3, F3⟩
      · rw [if_pos (ceq (b := 86) c140)] at hsh
        refine z_aload_n (pc := 143) E jd_M_goodShape_143 rfl rfl ?_
        refine z_get (pc := 144) E jf_M_62 jd_M_goodShape_144 (by assumption) (by rfl) ?_
        refine z_iconst (v := 1) (pc := 147) E jd_M_goodShape_147 (by decide) ?_
        refine z_iadd (pc := 148) E jd_M_goodShape_148 ?_
        rw [nI_1]
        refine z_aload_n (pc := 149) E jd_M_goodShape_149 rfl rfl ?_
        refine z_get (pc := 150) E jf_M_58 jd_M_goodShape_150 (by assumption) (by rfl) ?_
        refine z_icmp_ne (pc := 153) (tgt := 160) E jd_M_goodShape_153 (by decide) (fun c153 => ?_) (fun c153 => ?_)
        · have hr : shapeOk k xs = false := by
            rw [if_neg (by have := nceq c153; omega)] at hsh
            rcases (show k = 1 ∨ k = 2 by omega) with rfl | rfl <;> simp [shapeOk, hsh]
          refine z_iconst (v := 0) (pc := 160) E jd_M_goodShape_160 (by decide) ?_
          exact z_zret E rfl jd_M_goodShape_161 ⟨_, rfl, by rw [hr]; rfl, ⟨_, _, h2⟩, F2⟩
        · have hr : shapeOk k xs = true := by
            rw [if_pos (by have := ceq c153; omega)] at hsh
            rcases (show k = 1 ∨ k = 2 by omega) with rfl | rfl <;> simp [shapeOk, hsh]
          refine z_iconst (v := 1) (pc := 156) E jd_M_goodShape_156 (by decide) ?_
          refine z_goto (pc := 157) (tgt := 161) E jd_M_goodShape_157 (by decide) ?_
          exact z_zret E rfl jd_M_goodShape_161 ⟨_, rfl, by rw [hr]; rfl, ⟨_, _, h2⟩, F2⟩
    · exact absurd rfl c115
  have loop : ∀ (f i : Nat) (es1 : zE), ¬ k = 0 → xs.getD 0 0 = 40 → ets xs f i = ets xs 24 1 → 25 ≤ i + f → i ≤ 24 ∨ i ≤ xs.length → mO G B es1 r S z (nI (24 + i)) (nI (24 + xs.length)) → Fr es es1 r (r + 15) → Zj zp l ze (zr 2 0 0) zs zm ([.ref (B + r), .int (nI k)] : List Value).toArray zb zt zc (MQ zb (zQ G B (pI fun v es' => v = (if shapeOk k xs = true then 1 else 0) ∧ (∃ a' e', mO G B es' r S z a' e') ∧ Fr es es' r (r + 15))) ([.ref (B + r), .int (nI k)] : List Value).toArray zs 0 0 (fun q => B ≤ q)) G B 2 0 0 72 [some (.ref (B + r)), some (.int (nI k))] [] es1 := by
    intro f
    induction f with
    | zero =>
      intro i es1 hk0 h40 het hif hil h1 F1
      exact absurd hif (by omega)
    | succ f ih =>
      intro i es1 hk0 h40 het hif hil h1 F1
      have m1 := h1.1
      have hlt := getD_lt (j := i) l4
      rw [ets] at het
      refine z_aload_n (pc := 72) E jd_M_goodShape_72 rfl rfl ?_
      refine z_get (pc := 73) E jf_M_62 jd_M_goodShape_73 (by assumption) (by rfl) ?_
      refine z_aload_n (pc := 76) E jd_M_goodShape_76 rfl rfl ?_
      refine z_get (pc := 77) E jf_M_58 jd_M_goodShape_77 (by assumption) (by rfl) ?_
      refine z_icmp_ge (pc := 80) (tgt := 105) E jd_M_goodShape_80 (by decide) (fun c80 => ?_) (fun c80 => ?_)
      · have hil2 : xs.length ≤ i := by have := cle c80; omega
        have hg0 : xs.getD i 0 = 0 := getD_oob hil2
        refine z_aload_n (pc := 105) E jd_M_goodShape_105 rfl rfl ?_
        refine z_aload_n (pc := 106) E jd_M_goodShape_106 rfl rfl ?_
        refine z_get (pc := 107) E jf_M_62 jd_M_goodShape_107 (by assumption) (by rfl) ?_
        refine z_cV1I (pc := 110) E (c_M_signAt l G B h1 hx (by omega)) jc_M_65 jv_M_signAt rfl (by assumption) ⟨Nat.le_of_ble_eq_true rfl, Nat.le_of_ble_eq_true rfl⟩ jd_M_goodShape_110 (Nat.le_of_ble_eq_true rfl) (by decide) (by decide) (fun v110 es110 h110 => ?_)
        obtain ⟨w110, e110⟩ := h110
        rw [e110, w110, hg0]
        refine z_bipush (v := 41) (pc := 113) E jd_M_goodShape_113 (by decide) ?_
        refine z_icmp_eq (pc := 115) (tgt := 120) E jd_M_goodShape_115 (by decide) (fun c115 => ?_) (fun c115 => ?_)
        · exact absurd c115 (by decide)
        · have hen : eot xs i = none := by
            cases hq : eot xs i with
            | none => rfl
            | some j => exact absurd (eot_lt hq).1 (by have := (eot_lt hq).2.1; omega)
          have hs0 : shM xs = 0 := by rw [hg0, if_neg (by decide), hen] at het; rw [shM, if_pos h40, ← het]
          have hr : shapeOk k xs = false := by rcases (show k = 1 ∨ k = 2 by omega) with rfl | rfl <;> simp [shapeOk, hs0]
          refine z_iconst (v := 0) (pc := 118) E jd_M_goodShape_118 (by decide) ?_
          exact z_zret E rfl jd_M_goodShape_119 ⟨_, rfl, by rw [hr]; rfl, ⟨_, _, h1⟩, F1⟩
      · have hil2 : i < xs.length := by have := ncle c80; omega
        refine z_aload_n (pc := 83) E jd_M_goodShape_83 rfl rfl ?_
        refine z_aload_n (pc := 84) E jd_M_goodShape_84 rfl rfl ?_
        refine z_get (pc := 85) E jf_M_62 jd_M_goodShape_85 (by assumption) (by rfl) ?_
        refine z_cV1I (pc := 88) E (c_M_signAt l G B h1 hx (by omega)) jc_M_65 jv_M_signAt rfl (by assumption) ⟨Nat.le_of_ble_eq_true rfl, Nat.le_of_ble_eq_true rfl⟩ jd_M_goodShape_88 (Nat.le_of_ble_eq_true rfl) (by decide) (by decide) (fun v88 es88 h88 => ?_)
        obtain ⟨w88, e88⟩ := h88
        rw [e88, w88]
        refine z_bipush (v := 41) (pc := 91) E jd_M_goodShape_91 (by decide) ?_
        refine z_icmp_eq (pc := 93) (tgt := 105) E jd_M_goodShape_93 (by decide) (fun c93 => ?_) (fun c93 => ?_)
        · have h41 := ceq (b := 41) c93
          rw [if_pos h41] at het
          exact fin i es1 hk0 h40 het.symm (by omega) h41 h1 F1
        · rw [if_neg (nceq (b := 41) c93)] at het
          refine z_aload_n (pc := 96) E jd_M_goodShape_96 rfl rfl ?_
          refine z_cV0I (pc := 97) E (c_M_passType l G B h1 hx hz (by omega)) jc_M_69 jv_M_passType rfl (by assumption) ⟨Nat.le_of_ble_eq_true rfl, Nat.le_of_ble_eq_true rfl⟩ jd_M_goodShape_97 (Nat.le_of_ble_eq_true rfl) (by decide) (by decide) (fun v97 es97 h97 => ?_)
          have F97 := h97.2
          refine z_if_ne (pc := 100) (tgt := 72) E jd_M_goodShape_100 (by decide) (fun c100 => ?_) (fun c100 => ?_)
          · obtain ⟨j, q1, q3⟩ := ptP_t h97 c100
            rw [q1] at het
            have := eot_lt q1
            exact ih j es97 hk0 h40 het (by omega) (by omega) q3 (F1.trs F97)
          · have hen := ptP_f h97 c100
            have hs0 : shM xs = 0 := by rw [hen.1] at het; rw [shM, if_pos h40, ← het]
            have hr : shapeOk k xs = false := by rcases (show k = 1 ∨ k = 2 by omega) with rfl | rfl <;> simp [shapeOk, hs0]
            refine z_iconst (v := 0) (pc := 103) E jd_M_goodShape_103 (by decide) ?_
            exact z_zret E rfl jd_M_goodShape_104 ⟨_, rfl, by rw [hr]; rfl, hen.2, F1.trs F97⟩
  refine z_aload_n (pc := 0) E jd_M_goodShape_0 rfl rfl ?_
  refine z_bipush (v := 24) (pc := 1) E jd_M_goodShape_1 (by decide) ?_
  refine z_put (pc := 3) E jp_M_62 jd_M_goodShape_3 (by assumption) (Nat.le_of_ble_eq_true rfl) rfl rfl (fun es3 he3 => ?_)
  dsimp only [List.set] at he3
  have h2 := hm.s0 (z' := z) (a' := nI 24) (e' := e) he3
  obtain ⟨n0, n1, n2, -⟩ := id h2
  have F2 : Fr es es3 r (r + 15) := Fr.set he3 (by omega) (by omega)
  refine z_aload_n (pc := 6) E jd_M_goodShape_6 rfl rfl ?_
  refine z_bipush (v := 24) (pc := 7) E jd_M_goodShape_7 (by decide) ?_
  refine z_aload_n (pc := 9) E jd_M_goodShape_9 rfl rfl ?_
  refine z_get (pc := 10) E jf_M_13 jd_M_goodShape_10 (by assumption) (by rfl) ?_
  refine z_iconst (v := 1) (pc := 13) E jd_M_goodShape_13 (by decide) ?_
  refine z_iald (ti := 1) (pc := 14) E rfl jd_M_goodShape_14 (by assumption) (vp_in_nI (n := 1) (by omega) (by omega)) ?_
  refine z_topi (y := nI xs.length) hx.1 ?_
  refine z_iadd (pc := 15) E jd_M_goodShape_15 ?_
  refine z_topi (y := nI (24 + xs.length)) (nI_add 24 _) ?_
  refine z_put (pc := 16) E jp_M_58 jd_M_goodShape_16 (by assumption) (Nat.le_of_ble_eq_true rfl) rfl rfl (fun es16 he16 => ?_)
  dsimp only [List.set] at he16
  have h3 := h2.s0 (z' := z) (a' := nI 24) (e' := nI (24 + xs.length)) he16
  have F3 := F2.trs (Fr.set (lo := r) (hi := r + 15) he16 (by omega) (by omega))
  have m3 := h3.1
  have hl0 := getD_lt (j := 0) l4
  refine z_iload_n (pc := 19) E jd_M_goodShape_19 rfl rfl ?_
  refine z_if_ne (pc := 20) (tgt := 47) E jd_M_goodShape_20 (by decide) (fun c20 => ?_) (fun c20 => ?_)
  · have hk0 : ¬ k = 0 := nceq (b := 0) c20
    refine z_aload_n (pc := 47) E jd_M_goodShape_47 rfl rfl ?_
    refine z_aload_n (pc := 48) E jd_M_goodShape_48 rfl rfl ?_
    refine z_get (pc := 49) E jf_M_62 jd_M_goodShape_49 (by assumption) (by rfl) ?_
    refine z_cV1I (pc := 52) E (c_M_signAt l G B (i := 0) h3 hx (by omega)) jc_M_65 jv_M_signAt rfl (by assumption) ⟨Nat.le_of_ble_eq_true rfl, Nat.le_of_ble_eq_true rfl⟩ jd_M_goodShape_52 (Nat.le_of_ble_eq_true rfl) (by decide) (by decide) (fun v52 es52 h52 => ?_)
    obtain ⟨w52, e52⟩ := h52
    rw [e52, w52]
    refine z_bipush (v := 40) (pc := 55) E jd_M_goodShape_55 (by decide) ?_
    refine z_icmp_eq (pc := 57) (tgt := 62) E jd_M_goodShape_57 (by decide) (fun c57 => ?_) (fun c57 => ?_)
    · have h40 := ceq (b := 40) c57
      refine z_aload_n (pc := 62) E jd_M_goodShape_62 rfl rfl ?_
      refine z_dup (pc := 63) E jd_M_goodShape_63 rfl ?_
      refine z_get (pc := 64) E jf_M_62 jd_M_goodShape_64 (by assumption) (by rfl) ?_
      refine z_iconst (v := 1) (pc := 67) E jd_M_goodShape_67 (by decide) ?_
      refine z_iadd (pc := 68) E jd_M_goodShape_68 ?_
      refine z_topi (y := nI (24 + 1)) (nI_1 24) ?_
      refine z_put (pc := 69) E jp_M_62 jd_M_goodShape_69 (by assumption) (Nat.le_of_ble_eq_true rfl) rfl rfl (fun es69 he69 => ?_)
      dsimp only [List.set] at he69
      have h4 := h3.s0 (z' := z) (a' := nI (24 + 1)) (e' := nI (24 + xs.length)) he69
      have F4 := F3.trs (Fr.set (lo := r) (hi := r + 15) he69 (by omega) (by omega))
      exact loop 24 1 es69 hk0 h40 rfl (by omega) (by omega) h4 F4
    · have hs0 : shM xs = 0 := by rw [shM, if_neg (nceq (b := 40) c57)]
      have hr : shapeOk k xs = false := by rcases (show k = 1 ∨ k = 2 by omega) with rfl | rfl <;> simp [shapeOk, hs0]
      refine z_iconst (v := 0) (pc := 60) E jd_M_goodShape_60 (by decide) ?_
      exact z_zret E rfl jd_M_goodShape_61 ⟨_, rfl, by rw [hr]; rfl, ⟨_, _, h3⟩, F3⟩
  · have hk0 : k = 0 := ceq (b := 0) c20
    subst hk0
    refine z_aload_n (pc := 23) E jd_M_goodShape_23 rfl rfl ?_
    refine z_cV0I (pc := 24) E (c_M_passType l G B (i := 0) h3 hx hz (by omega)) jc_M_69 jv_M_passType rfl (by assumption) ⟨Nat.le_of_ble_eq_true rfl, Nat.le_of_ble_eq_true rfl⟩ jd_M_goodShape_24 (Nat.le_of_ble_eq_true rfl) (by decide) (by decide) (fun v24 es24 h24 => ?_)
    have F4 := F3.trs h24.2
    refine z_if_eq (pc := 27) (tgt := 45) E jd_M_goodShape_27 (by decide) (fun c27 => ?_) (fun c27 => ?_)
    · have hen := ptP_f h24 c27
      have hr : shapeOk 0 xs = false := by simp [shapeOk, hen.1]
      have h5 := hen.2
      refine z_iconst (v := 0) (pc := 45) E jd_M_goodShape_45 (by decide) ?_
      exact z_zret E rfl jd_M_goodShape_46 ⟨_, rfl, by rw [hr]; rfl, h5, F4⟩
    · obtain ⟨j, hej, h4⟩ := ptP_t h24 c27
      have m4 := h4.1
      have hjl := (eot_lt hej).2.1
      have h5 : ∃ a' e', mO G B es24 r S z a' e' := ⟨_, _, h4⟩
      refine z_aload_n (pc := 30) E jd_M_goodShape_30 rfl rfl ?_
      refine z_get (pc := 31) E jf_M_62 jd_M_goodShape_31 (by assumption) (by rfl) ?_
      refine z_aload_n (pc := 34) E jd_M_goodShape_34 rfl rfl ?_
      refine z_get (pc := 35) E jf_M_58 jd_M_goodShape_35 (by assumption) (by rfl) ?_
      refine z_icmp_ne (pc := 38) (tgt := 45) E jd_M_goodShape_38 (by decide) (fun c38 => ?_) (fun c38 => ?_)
      · have hr : shapeOk 0 xs = false := by simp [shapeOk, hej]; intro q; exact c38 (by rw [q])
        refine z_iconst (v := 0) (pc := 45) E jd_M_goodShape_45 (by decide) ?_
        exact z_zret E rfl jd_M_goodShape_46 ⟨_, rfl, by rw [hr]; rfl, h5, F4⟩
      · have hr : shapeOk 0 xs = true := by have := ceq c38; simp [shapeOk, hej]; omega
        refine z_iconst (v := 1) (pc := 41) E jd_M_goodShape_41 (by decide) ?_
        refine z_goto (pc := 42) (tgt := 46) E jd_M_goodShape_42 (by decide) ?_
        exact z_zret E rfl jd_M_goodShape_46 ⟨_, rfl, by rw [hr]; rfl, h5, F4⟩
