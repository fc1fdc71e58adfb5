/-! the law's loop -/
section ZL
variable {p : Program} {l : Launch} {e : Env} {R : Room} {s : State} {m : MethodId} {args : Array Value} {below : List Frame} {meth : Method} {c : Code} {Q : State → Prop} {G : zG} {nL k n pc : Nat} {ls : List (Option Value)} {st : List Value} {es : zE} {cc : ByteArray} {own mn : String} {rt : Option FieldType}
theorem z_sld (E : En p s m args meth c G s.heap.size nL cc own mn rt) {b L : Nat} {xs : Nat → Int32} (hX : va_X b L xs s s.heap) (hbl : b < s.heap.size) {i : Int32} (hin : vp_in i L) (d : decode cc pc = .ok (.iaload, 1)) (kk : Zj p l e R s m args below meth c Q G s.heap.size nL k n (pc + 1) ls (.int (xs i.toNatClampNeg) :: st) es) : Zj p l e R s m args below meth c Q G s.heap.size nL k n pc ls (.int i :: .ref b :: st) es :=
  fun H lo la hW hS hl => va_sld E.1 E.2.1 hX hbl (Nat.not_le.mpr hbl) hS hin d (kk H lo la hW hS hl)
theorem z_slen (E : En p s m args meth c G s.heap.size nL cc own mn rt) {b L : Nat} {xs : Nat → Int32} (hX : va_X b L xs s s.heap) (hbl : b < s.heap.size) (d : decode cc pc = .ok (.arraylength, 1)) (kk : Zj p l e R s m args below meth c Q G s.heap.size nL k n (pc + 1) ls (.int (nI L) :: st) es) : Zj p l e R s m args below meth c Q G s.heap.size nL k n pc ls (.ref b :: st) es :=
  fun H lo la hW hS hl => va_slen E.1 E.2.1 hX hbl (Nat.not_le.mpr hbl) hS d (kk H lo la hW hS hl)
end ZL
theorem z_lawret {p : Program} {l : Launch} {e : Env} {s : State} {m : MethodId} {below : List Frame} {meth : Method} {c : Code} {G : zG} {k n pc b : Nat} {ls : List (Option Value)} {es : zE} {mn : String} (E : En p s m #[Value.ref b] meth c G s.heap.size 4 code "StreamIdsLaw" mn ret) (hk : k ≤ 600000) (hn : n ≤ 7302250) (d : decode code pc = .ok (.ireturn, 1)) : Zj p l e room_1 s m #[Value.ref b] below meth c (lw_Z below #[Value.ref b] s) G s.heap.size 4 k n pc ls [.int 1] es := by
  intro H lo la hW hS hl
  refine va_forget (fun q hq => hS.2.2 q hq) ?_
  refine W.widen (k := 600000) (n := 7302250) hk hn ?_
  exact lw_ret E.1 E.2.1 E.2.2.2.2.2.2.2.2.2.2.1 E.2.2.2.2.2.2.2.2.2.1 d
theorem and15 (v : Int32) : ∃ j, j < 16 ∧ v &&& 15 = nI j := by
  refine ⟨v.toBitVec.toNat % 16, Nat.mod_lt _ (by decide), ?_⟩
  apply Int32.toBitVec_inj.mp
  apply BitVec.eq_of_toNat_eq
  rw [Int32.toBitVec_and, BitVec.toNat_and, nI_bv, BitVec.toNat_ofNat, show (15 : Int32).toBitVec.toNat = 2 ^ 4 - 1 from rfl, Nat.and_two_pow_sub_one_eq_mod]
  have := Nat.mod_lt v.toBitVec.toNat (show 0 < 2 ^ 4 by decide)
  rw [Nat.mod_eq_of_lt (show v.toBitVec.toNat % 16 < 2 ^ 32 by omega)]
theorem lt16 {i : Nat} (h : i < 16) : i = 0 ∨ i = 1 ∨ i = 2 ∨ i = 3 ∨ i = 4 ∨ i = 5 ∨ i = 6 ∨ i = 7 ∨ i = 8 ∨ i = 9 ∨ i = 10 ∨ i = 11 ∨ i = 12 ∨ i = 13 ∨ i = 14 ∨ i = 15 := by omega
theorem cmp_z (x : Int64) : lg_cmp x x = 0 := by simp [lg_cmp]
def bo (x : Int32) : Int32 := if x = 0 then 0 else 1
theorem bo01 (x : Int32) : bo x = 0 ∨ bo x = 1 := by unfold bo; split; exact Or.inl rfl; exact Or.inr rfl
theorem sub5 {L i : Nat} (hL : L ≤ 2560) (hi : i ≤ L) (h : ¬ (nI L - 5) < nI i) : i + 5 ≤ L := by
  have h1 := Int32.not_lt.mp h
  have h2 := Int32.le_iff_toInt_le.mp h1
  rw [show (5 : Int32) = nI 5 from rfl, nI_sub_toInt (by omega) (by omega), nI_toInt (by omega)] at h2
  omega
set_option maxHeartbeats 16000000 in
set_option maxRecDepth 100000 in
theorem law_loop {p : Program} {l : Launch} {e : Env} {s : State} {m : MethodId} {below : List Frame} {meth : Method} {c : Code} {G : zG} {b L : Nat} {xs : Nat → Int32} {mn : String} (hL : L ≤ 2560) (hX : va_X b L xs s s.heap) (hbl : b < s.heap.size) (E : En p s m #[Value.ref b] meth c G s.heap.size 4 code "StreamIdsLaw" mn ret) :
    ∀ (f i : Nat) (es : zE), i ≤ L → L ≤ i + 5 * f → LI G s.heap.size es → Zj p l e room_1 s m #[Value.ref b] below meth c (lw_Z below #[Value.ref b] s) G s.heap.size 4 335 8053 18 [some (.ref b), some (.ref (s.heap.size + 0)), some (.ref (s.heap.size + 320)), some (.int (nI i))] [] es := by
  intro f
  induction f with
  | zero =>
    intro i es hi hf hLI
    refine z_iload_n (pc := 18) E jd_law_18 rfl rfl ?_
    refine z_aload_n (pc := 19) E jd_law_19 rfl rfl ?_
    refine z_slen (pc := 20) E hX hbl jd_law_20 ?_
    refine z_iconst (v := 5) (pc := 21) E jd_law_21 (by decide) ?_
    refine z_isub (pc := 22) E jd_law_22 ?_
    refine z_icmp_gt (pc := 23) (tgt := 593) E jd_law_23 (by decide) (fun c23 => ?_) (fun c23 => ?_)
    · refine z_iconst (v := 1) (pc := 593) E jd_law_593 (by decide) ?_
      exact z_lawret E (by decide) (by decide) jd_law_594
    · exact absurd (sub5 hL hi c23) (by omega)
  | succ f ih =>
    intro i es hi hf hLI
    obtain ⟨fs0, hcl⟩ := hLI.cl
    have next : ∀ es2 : zE, i + 5 ≤ L → LI G s.heap.size es2 → Zj p l e room_1 s m #[Value.ref b] below meth c (lw_Z below #[Value.ref b] s) G s.heap.size 4 335 8053 587 [some (.ref b), some (.ref (s.heap.size + 0)), some (.ref (s.heap.size + 320)), some (.int (nI i))] [] es2 := by
      intro es2 hi5 h2
      refine z_iinc (pc := 587) E jd_law_587 rfl rfl (by decide) rfl ?_
      dsimp only [List.set]
      refine z_goto (pc := 590) (tgt := 18) E jd_law_590 (by decide) ?_
      have := ih (i + 5) es2 (by omega) (by omega) h2
      rw [← nI_add] at this
      exact this
    have q_type : i + 5 ≤ L → Zj p l e room_1 s m #[Value.ref b] below meth c (lw_Z below #[Value.ref b] s) G s.heap.size 4 335 8053 100 [some (.ref b), some (.ref (s.heap.size + 0)), some (.ref (s.heap.size + 320)), some (.int (nI i))] [] es := by
      intro hi5
      refine z_aload_n (pc := 100) E jd_law_100 rfl rfl ?_
      refine z_aload_n (pc := 101) E jd_law_101 rfl rfl ?_
      refine z_iload_n (pc := 102) E jd_law_102 rfl rfl ?_
      refine z_iconst (v := 1) (pc := 103) E jd_law_103 (by decide) ?_
      refine z_iadd (pc := 104) E jd_law_104 ?_
      refine z_topi (y := nI (i + 1)) (nI_add i 1) ?_
      refine z_sld (pc := 105) E hX hbl (vp_in_nI (by omega) (by omega)) jd_law_105 ?_
      rw [nI_clamp (by omega)]
      refine z_aload_n (pc := 106) E jd_law_106 rfl rfl ?_
      refine z_iload_n (pc := 107) E jd_law_107 rfl rfl ?_
      refine z_iconst (v := 2) (pc := 108) E jd_law_108 (by decide) ?_
      refine z_iadd (pc := 109) E jd_law_109 ?_
      refine z_topi (y := nI (i + 2)) (nI_add i 2) ?_
      refine z_sld (pc := 110) E hX hbl (vp_in_nI (by omega) (by omega)) jd_law_110 ?_
      rw [nI_clamp (by omega)]
      refine z_i2l (pc := 111) E jd_law_111 ?_
      refine z_bipush (v := 32) (pc := 112) E jd_law_112 (by decide) ?_
      refine z_lshl (pc := 114) E jd_law_114 ?_
      refine z_aload_n (pc := 115) E jd_law_115 rfl rfl ?_
      refine z_iload_n (pc := 116) E jd_law_116 rfl rfl ?_
      refine z_iconst (v := 3) (pc := 117) E jd_law_117 (by decide) ?_
      refine z_iadd (pc := 118) E jd_law_118 ?_
      refine z_topi (y := nI (i + 3)) (nI_add i 3) ?_
      refine z_sld (pc := 119) E hX hbl (vp_in_nI (by omega) (by omega)) jd_law_119 ?_
      rw [nI_clamp (by omega)]
      refine z_i2l (pc := 120) E jd_law_120 ?_
      refine z_ldc2 (pc := 121) E jw_690 jd_law_121 ?_
      refine z_land (pc := 124) E jd_law_124 ?_
      refine z_lor (pc := 125) E jd_law_125 ?_
      refine z_cV2I (pc := 126) E (p_type l G s.heap.size hLI) jc_W_15 jv_S_type rfl (by assumption) ⟨Nat.le_of_ble_eq_true rfl, Nat.le_of_ble_eq_true rfl⟩ jd_law_126 (Nat.le_of_ble_eq_true rfl) (by decide) (by decide) (fun v126 es126 h126 => ?_)
      obtain ⟨⟨fs1, hml⟩, hT⟩ := h126
      refine z_aload_n (pc := 129) E jd_law_129 rfl rfl ?_
      refine z_aload_n (pc := 130) E jd_law_130 rfl rfl ?_
      refine z_iload_n (pc := 131) E jd_law_131 rfl rfl ?_
      refine z_iconst (v := 1) (pc := 132) E jd_law_132 (by decide) ?_
      refine z_iadd (pc := 133) E jd_law_133 ?_
      refine z_topi (y := nI (i + 1)) (nI_add i 1) ?_
      refine z_sld (pc := 134) E hX hbl (vp_in_nI (by omega) (by omega)) jd_law_134 ?_
      rw [nI_clamp (by omega)]
      refine z_aload_n (pc := 135) E jd_law_135 rfl rfl ?_
      refine z_iload_n (pc := 136) E jd_law_136 rfl rfl ?_
      refine z_iconst (v := 2) (pc := 137) E jd_law_137 (by decide) ?_
      refine z_iadd (pc := 138) E jd_law_138 ?_
      refine z_topi (y := nI (i + 2)) (nI_add i 2) ?_
      refine z_sld (pc := 139) E hX hbl (vp_in_nI (by omega) (by omega)) jd_law_139 ?_
      rw [nI_clamp (by omega)]
      refine z_i2l (pc := 140) E jd_law_140 ?_
      refine z_bipush (v := 32) (pc := 141) E jd_law_141 (by decide) ?_
      refine z_lshl (pc := 143) E jd_law_143 ?_
      refine z_aload_n (pc := 144) E jd_law_144 rfl rfl ?_
      refine z_iload_n (pc := 145) E jd_law_145 rfl rfl ?_
      refine z_iconst (v := 3) (pc := 146) E jd_law_146 (by decide) ?_
      refine z_iadd (pc := 147) E jd_law_147 ?_
      refine z_topi (y := nI (i + 3)) (nI_add i 3) ?_
      refine z_sld (pc := 148) E hX hbl (vp_in_nI (by omega) (by omega)) jd_law_148 ?_
      rw [nI_clamp (by omega)]
      refine z_i2l (pc := 149) E jd_law_149 ?_
      refine z_ldc2 (pc := 150) E jw_690 jd_law_150 ?_
      refine z_land (pc := 153) E jd_law_153 ?_
      refine z_lor (pc := 154) E jd_law_154 ?_
      refine z_cV2I (pc := 155) E (hT) jc_W_19 jv_M_type rfl (by assumption) ⟨Nat.le_of_ble_eq_true rfl, Nat.le_of_ble_eq_true rfl⟩ jd_law_155 (Nat.le_of_ble_eq_true rfl) (by decide) (by decide) (fun v155 es155 h155 => ?_)
      obtain ⟨hw, h2⟩ := h155
      refine z_icmp_eq (pc := 158) (tgt := 587) E jd_law_158 (by decide) (fun c158 => ?_) (fun c158 => ?_)
      · exact next _ hi5 h2
      · exact absurd hw.symm c158
    have q_clear : i + 5 ≤ L → Zj p l e room_1 s m #[Value.ref b] below meth c (lw_Z below #[Value.ref b] s) G s.heap.size 4 335 8053 163 [some (.ref b), some (.ref (s.heap.size + 0)), some (.ref (s.heap.size + 320)), some (.int (nI i))] [] es := by
      intro hi5
      refine z_aload_n (pc := 163) E jd_law_163 rfl rfl ?_
      refine z_aload_n (pc := 164) E jd_law_164 rfl rfl ?_
      refine z_iload_n (pc := 165) E jd_law_165 rfl rfl ?_
      refine z_iconst (v := 1) (pc := 166) E jd_law_166 (by decide) ?_
      refine z_iadd (pc := 167) E jd_law_167 ?_
      refine z_topi (y := nI (i + 1)) (nI_add i 1) ?_
      refine z_sld (pc := 168) E hX hbl (vp_in_nI (by omega) (by omega)) jd_law_168 ?_
      rw [nI_clamp (by omega)]
      refine z_cV1I (pc := 169) E (p_clear l G s.heap.size hLI) jc_W_20 jv_S_clear rfl (by assumption) ⟨Nat.le_of_ble_eq_true rfl, Nat.le_of_ble_eq_true rfl⟩ jd_law_169 (Nat.le_of_ble_eq_true rfl) (by decide) (by decide) (fun v169 es169 h169 => ?_)
      obtain ⟨⟨fs1, hml⟩, hT⟩ := h169
      refine z_aload_n (pc := 172) E jd_law_172 rfl rfl ?_
      refine z_aload_n (pc := 173) E jd_law_173 rfl rfl ?_
      refine z_iload_n (pc := 174) E jd_law_174 rfl rfl ?_
      refine z_iconst (v := 1) (pc := 175) E jd_law_175 (by decide) ?_
      refine z_iadd (pc := 176) E jd_law_176 ?_
      refine z_topi (y := nI (i + 1)) (nI_add i 1) ?_
      refine z_sld (pc := 177) E hX hbl (vp_in_nI (by omega) (by omega)) jd_law_177 ?_
      rw [nI_clamp (by omega)]
      refine z_cV1I (pc := 178) E (hT) jc_W_24 jv_M_clear rfl (by assumption) ⟨Nat.le_of_ble_eq_true rfl, Nat.le_of_ble_eq_true rfl⟩ jd_law_178 (Nat.le_of_ble_eq_true rfl) (by decide) (by decide) (fun v178 es178 h178 => ?_)
      obtain ⟨hw, h2⟩ := h178
      refine z_icmp_eq (pc := 181) (tgt := 587) E jd_law_181 (by decide) (fun c181 => ?_) (fun c181 => ?_)
      · exact next _ hi5 h2
      · exact absurd hw.symm c181
    have q_define : i + 5 ≤ L → Zj p l e room_1 s m #[Value.ref b] below meth c (lw_Z below #[Value.ref b] s) G s.heap.size 4 335 8053 186 [some (.ref b), some (.ref (s.heap.size + 0)), some (.ref (s.heap.size + 320)), some (.int (nI i))] [] es := by
      intro hi5
      refine z_aload_n (pc := 186) E jd_law_186 rfl rfl ?_
      refine z_aload_n (pc := 187) E jd_law_187 rfl rfl ?_
      refine z_iload_n (pc := 188) E jd_law_188 rfl rfl ?_
      refine z_iconst (v := 1) (pc := 189) E jd_law_189 (by decide) ?_
      refine z_iadd (pc := 190) E jd_law_190 ?_
      refine z_topi (y := nI (i + 1)) (nI_add i 1) ?_
      refine z_sld (pc := 191) E hX hbl (vp_in_nI (by omega) (by omega)) jd_law_191 ?_
      rw [nI_clamp (by omega)]
      refine z_aload_n (pc := 192) E jd_law_192 rfl rfl ?_
      refine z_iload_n (pc := 193) E jd_law_193 rfl rfl ?_
      refine z_iconst (v := 2) (pc := 194) E jd_law_194 (by decide) ?_
      refine z_iadd (pc := 195) E jd_law_195 ?_
      refine z_topi (y := nI (i + 2)) (nI_add i 2) ?_
      refine z_sld (pc := 196) E hX hbl (vp_in_nI (by omega) (by omega)) jd_law_196 ?_
      rw [nI_clamp (by omega)]
      refine z_cV2I (pc := 197) E (p_define l G s.heap.size hLI) jc_W_25 jv_S_define rfl (by assumption) ⟨Nat.le_of_ble_eq_true rfl, Nat.le_of_ble_eq_true rfl⟩ jd_law_197 (Nat.le_of_ble_eq_true rfl) (by decide) (by decide) (fun v197 es197 h197 => ?_)
      obtain ⟨⟨fs1, hml⟩, hT⟩ := h197
      refine z_aload_n (pc := 200) E jd_law_200 rfl rfl ?_
      refine z_aload_n (pc := 201) E jd_law_201 rfl rfl ?_
      refine z_iload_n (pc := 202) E jd_law_202 rfl rfl ?_
      refine z_iconst (v := 1) (pc := 203) E jd_law_203 (by decide) ?_
      refine z_iadd (pc := 204) E jd_law_204 ?_
      refine z_topi (y := nI (i + 1)) (nI_add i 1) ?_
      refine z_sld (pc := 205) E hX hbl (vp_in_nI (by omega) (by omega)) jd_law_205 ?_
      rw [nI_clamp (by omega)]
      refine z_aload_n (pc := 206) E jd_law_206 rfl rfl ?_
      refine z_iload_n (pc := 207) E jd_law_207 rfl rfl ?_
      refine z_iconst (v := 2) (pc := 208) E jd_law_208 (by decide) ?_
      refine z_iadd (pc := 209) E jd_law_209 ?_
      refine z_topi (y := nI (i + 2)) (nI_add i 2) ?_
      refine z_sld (pc := 210) E hX hbl (vp_in_nI (by omega) (by omega)) jd_law_210 ?_
      rw [nI_clamp (by omega)]
      refine z_cV2I (pc := 211) E (hT) jc_W_29 jv_M_define rfl (by assumption) ⟨Nat.le_of_ble_eq_true rfl, Nat.le_of_ble_eq_true rfl⟩ jd_law_211 (Nat.le_of_ble_eq_true rfl) (by decide) (by decide) (fun v211 es211 h211 => ?_)
      obtain ⟨hw, h2⟩ := h211
      refine z_icmp_eq (pc := 214) (tgt := 587) E jd_law_214 (by decide) (fun c214 => ?_) (fun c214 => ?_)
      · exact next _ hi5 h2
      · exact absurd hw.symm c214
    have q_face : i + 5 ≤ L → Zj p l e room_1 s m #[Value.ref b] below meth c (lw_Z below #[Value.ref b] s) G s.heap.size 4 335 8053 219 [some (.ref b), some (.ref (s.heap.size + 0)), some (.ref (s.heap.size + 320)), some (.int (nI i))] [] es := by
      intro hi5
      refine z_aload_n (pc := 219) E jd_law_219 rfl rfl ?_
      refine z_aload_n (pc := 220) E jd_law_220 rfl rfl ?_
      refine z_iload_n (pc := 221) E jd_law_221 rfl rfl ?_
      refine z_iconst (v := 1) (pc := 222) E jd_law_222 (by decide) ?_
      refine z_iadd (pc := 223) E jd_law_223 ?_
      refine z_topi (y := nI (i + 1)) (nI_add i 1) ?_
      refine z_sld (pc := 224) E hX hbl (vp_in_nI (by omega) (by omega)) jd_law_224 ?_
      rw [nI_clamp (by omega)]
      refine z_cV1I (pc := 225) E (p_face l G s.heap.size hLI) jc_W_30 jv_S_face rfl (by assumption) ⟨Nat.le_of_ble_eq_true rfl, Nat.le_of_ble_eq_true rfl⟩ jd_law_225 (Nat.le_of_ble_eq_true rfl) (by decide) (by decide) (fun v225 es225 h225 => ?_)
      obtain ⟨⟨fs1, hml⟩, hT⟩ := h225
      refine z_aload_n (pc := 228) E jd_law_228 rfl rfl ?_
      refine z_aload_n (pc := 229) E jd_law_229 rfl rfl ?_
      refine z_iload_n (pc := 230) E jd_law_230 rfl rfl ?_
      refine z_iconst (v := 1) (pc := 231) E jd_law_231 (by decide) ?_
      refine z_iadd (pc := 232) E jd_law_232 ?_
      refine z_topi (y := nI (i + 1)) (nI_add i 1) ?_
      refine z_sld (pc := 233) E hX hbl (vp_in_nI (by omega) (by omega)) jd_law_233 ?_
      rw [nI_clamp (by omega)]
      refine z_cV1I (pc := 234) E (hT) jc_W_33 jv_M_face rfl (by assumption) ⟨Nat.le_of_ble_eq_true rfl, Nat.le_of_ble_eq_true rfl⟩ jd_law_234 (Nat.le_of_ble_eq_true rfl) (by decide) (by decide) (fun v234 es234 h234 => ?_)
      obtain ⟨hw, h2⟩ := h234
      refine z_icmp_eq (pc := 237) (tgt := 587) E jd_law_237 (by decide) (fun c237 => ?_) (fun c237 => ?_)
      · exact next _ hi5 h2
      · exact absurd hw.symm c237
    have q_member : i + 5 ≤ L → Zj p l e room_1 s m #[Value.ref b] below meth c (lw_Z below #[Value.ref b] s) G s.heap.size 4 335 8053 242 [some (.ref b), some (.ref (s.heap.size + 0)), some (.ref (s.heap.size + 320)), some (.int (nI i))] [] es := by
      intro hi5
      refine z_aload_n (pc := 242) E jd_law_242 rfl rfl ?_
      refine z_aload_n (pc := 243) E jd_law_243 rfl rfl ?_
      refine z_iload_n (pc := 244) E jd_law_244 rfl rfl ?_
      refine z_iconst (v := 1) (pc := 245) E jd_law_245 (by decide) ?_
      refine z_iadd (pc := 246) E jd_law_246 ?_
      refine z_topi (y := nI (i + 1)) (nI_add i 1) ?_
      refine z_sld (pc := 247) E hX hbl (vp_in_nI (by omega) (by omega)) jd_law_247 ?_
      rw [nI_clamp (by omega)]
      refine z_aload_n (pc := 248) E jd_law_248 rfl rfl ?_
      refine z_iload_n (pc := 249) E jd_law_249 rfl rfl ?_
      refine z_iconst (v := 2) (pc := 250) E jd_law_250 (by decide) ?_
      refine z_iadd (pc := 251) E jd_law_251 ?_
      refine z_topi (y := nI (i + 2)) (nI_add i 2) ?_
      refine z_sld (pc := 252) E hX hbl (vp_in_nI (by omega) (by omega)) jd_law_252 ?_
      rw [nI_clamp (by omega)]
      refine z_aload_n (pc := 253) E jd_law_253 rfl rfl ?_
      refine z_iload_n (pc := 254) E jd_law_254 rfl rfl ?_
      refine z_iconst (v := 3) (pc := 255) E jd_law_255 (by decide) ?_
      refine z_iadd (pc := 256) E jd_law_256 ?_
      refine z_topi (y := nI (i + 3)) (nI_add i 3) ?_
      refine z_sld (pc := 257) E hX hbl (vp_in_nI (by omega) (by omega)) jd_law_257 ?_
      rw [nI_clamp (by omega)]
      refine z_cV3I (pc := 258) E (p_member l G s.heap.size hLI) jc_W_34 jv_S_member rfl (by assumption) ⟨Nat.le_of_ble_eq_true rfl, Nat.le_of_ble_eq_true rfl⟩ jd_law_258 (Nat.le_of_ble_eq_true rfl) (by decide) (by decide) (fun v258 es258 h258 => ?_)
      obtain ⟨⟨fs1, hml⟩, hT⟩ := h258
      refine z_aload_n (pc := 261) E jd_law_261 rfl rfl ?_
      refine z_aload_n (pc := 262) E jd_law_262 rfl rfl ?_
      refine z_iload_n (pc := 263) E jd_law_263 rfl rfl ?_
      refine z_iconst (v := 1) (pc := 264) E jd_law_264 (by decide) ?_
      refine z_iadd (pc := 265) E jd_law_265 ?_
      refine z_topi (y := nI (i + 1)) (nI_add i 1) ?_
      refine z_sld (pc := 266) E hX hbl (vp_in_nI (by omega) (by omega)) jd_law_266 ?_
      rw [nI_clamp (by omega)]
      refine z_aload_n (pc := 267) E jd_law_267 rfl rfl ?_
      refine z_iload_n (pc := 268) E jd_law_268 rfl rfl ?_
      refine z_iconst (v := 2) (pc := 269) E jd_law_269 (by decide) ?_
      refine z_iadd (pc := 270) E jd_law_270 ?_
      refine z_topi (y := nI (i + 2)) (nI_add i 2) ?_
      refine z_sld (pc := 271) E hX hbl (vp_in_nI (by omega) (by omega)) jd_law_271 ?_
      rw [nI_clamp (by omega)]
      refine z_aload_n (pc := 272) E jd_law_272 rfl rfl ?_
      refine z_iload_n (pc := 273) E jd_law_273 rfl rfl ?_
      refine z_iconst (v := 3) (pc := 274) E jd_law_274 (by decide) ?_
      refine z_iadd (pc := 275) E jd_law_275 ?_
      refine z_topi (y := nI (i + 3)) (nI_add i 3) ?_
      refine z_sld (pc := 276) E hX hbl (vp_in_nI (by omega) (by omega)) jd_law_276 ?_
      rw [nI_clamp (by omega)]
      refine z_cV3I (pc := 277) E (hT) jc_W_38 jv_M_member rfl (by assumption) ⟨Nat.le_of_ble_eq_true rfl, Nat.le_of_ble_eq_true rfl⟩ jd_law_277 (Nat.le_of_ble_eq_true rfl) (by decide) (by decide) (fun v277 es277 h277 => ?_)
      obtain ⟨hw, h2⟩ := h277
      refine z_icmp_eq (pc := 280) (tgt := 587) E jd_law_280 (by decide) (fun c280 => ?_) (fun c280 => ?_)
      · exact next _ hi5 h2
      · exact absurd hw.symm c280
    have q_remove : i + 5 ≤ L → Zj p l e room_1 s m #[Value.ref b] below meth c (lw_Z below #[Value.ref b] s) G s.heap.size 4 335 8053 285 [some (.ref b), some (.ref (s.heap.size + 0)), some (.ref (s.heap.size + 320)), some (.int (nI i))] [] es := by
      intro hi5
      refine z_aload_n (pc := 285) E jd_law_285 rfl rfl ?_
      refine z_aload_n (pc := 286) E jd_law_286 rfl rfl ?_
      refine z_iload_n (pc := 287) E jd_law_287 rfl rfl ?_
      refine z_iconst (v := 1) (pc := 288) E jd_law_288 (by decide) ?_
      refine z_iadd (pc := 289) E jd_law_289 ?_
      refine z_topi (y := nI (i + 1)) (nI_add i 1) ?_
      refine z_sld (pc := 290) E hX hbl (vp_in_nI (by omega) (by omega)) jd_law_290 ?_
      rw [nI_clamp (by omega)]
      refine z_aload_n (pc := 291) E jd_law_291 rfl rfl ?_
      refine z_iload_n (pc := 292) E jd_law_292 rfl rfl ?_
      refine z_iconst (v := 2) (pc := 293) E jd_law_293 (by decide) ?_
      refine z_iadd (pc := 294) E jd_law_294 ?_
      refine z_topi (y := nI (i + 2)) (nI_add i 2) ?_
      refine z_sld (pc := 295) E hX hbl (vp_in_nI (by omega) (by omega)) jd_law_295 ?_
      rw [nI_clamp (by omega)]
      refine z_cV2I (pc := 296) E (p_remove l G s.heap.size hLI) jc_W_39 jv_S_remove rfl (by assumption) ⟨Nat.le_of_ble_eq_true rfl, Nat.le_of_ble_eq_true rfl⟩ jd_law_296 (Nat.le_of_ble_eq_true rfl) (by decide) (by decide) (fun v296 es296 h296 => ?_)
      obtain ⟨⟨fs1, hml⟩, hT⟩ := h296
      refine z_aload_n (pc := 299) E jd_law_299 rfl rfl ?_
      refine z_aload_n (pc := 300) E jd_law_300 rfl rfl ?_
      refine z_iload_n (pc := 301) E jd_law_301 rfl rfl ?_
      refine z_iconst (v := 1) (pc := 302) E jd_law_302 (by decide) ?_
      refine z_iadd (pc := 303) E jd_law_303 ?_
      refine z_topi (y := nI (i + 1)) (nI_add i 1) ?_
      refine z_sld (pc := 304) E hX hbl (vp_in_nI (by omega) (by omega)) jd_law_304 ?_
      rw [nI_clamp (by omega)]
      refine z_aload_n (pc := 305) E jd_law_305 rfl rfl ?_
      refine z_iload_n (pc := 306) E jd_law_306 rfl rfl ?_
      refine z_iconst (v := 2) (pc := 307) E jd_law_307 (by decide) ?_
      refine z_iadd (pc := 308) E jd_law_308 ?_
      refine z_topi (y := nI (i + 2)) (nI_add i 2) ?_
      refine z_sld (pc := 309) E hX hbl (vp_in_nI (by omega) (by omega)) jd_law_309 ?_
      rw [nI_clamp (by omega)]
      refine z_cV2I (pc := 310) E (hT) jc_W_42 jv_M_remove rfl (by assumption) ⟨Nat.le_of_ble_eq_true rfl, Nat.le_of_ble_eq_true rfl⟩ jd_law_310 (Nat.le_of_ble_eq_true rfl) (by decide) (by decide) (fun v310 es310 h310 => ?_)
      obtain ⟨hw, h2⟩ := h310
      refine z_icmp_eq (pc := 313) (tgt := 587) E jd_law_313 (by decide) (fun c313 => ?_) (fun c313 => ?_)
      · exact next _ hi5 h2
      · exact absurd hw.symm c313
    have q_id : i + 5 ≤ L → Zj p l e room_1 s m #[Value.ref b] below meth c (lw_Z below #[Value.ref b] s) G s.heap.size 4 335 8053 407 [some (.ref b), some (.ref (s.heap.size + 0)), some (.ref (s.heap.size + 320)), some (.int (nI i))] [] es := by
      intro hi5
      refine z_aload_n (pc := 407) E jd_law_407 rfl rfl ?_
      refine z_aload_n (pc := 408) E jd_law_408 rfl rfl ?_
      refine z_iload_n (pc := 409) E jd_law_409 rfl rfl ?_
      refine z_iconst (v := 1) (pc := 410) E jd_law_410 (by decide) ?_
      refine z_iadd (pc := 411) E jd_law_411 ?_
      refine z_topi (y := nI (i + 1)) (nI_add i 1) ?_
      refine z_sld (pc := 412) E hX hbl (vp_in_nI (by omega) (by omega)) jd_law_412 ?_
      rw [nI_clamp (by omega)]
      refine z_cV1L (pc := 413) E (p_id l G s.heap.size hLI) jc_W_48 jv_S_id rfl (by assumption) ⟨Nat.le_of_ble_eq_true rfl, Nat.le_of_ble_eq_true rfl⟩ jd_law_413 (Nat.le_of_ble_eq_true rfl) (by decide) (by decide) (fun v413 es413 h413 => ?_)
      obtain ⟨⟨fs1, hml⟩, hT⟩ := h413
      refine z_aload_n (pc := 416) E jd_law_416 rfl rfl ?_
      refine z_aload_n (pc := 417) E jd_law_417 rfl rfl ?_
      refine z_iload_n (pc := 418) E jd_law_418 rfl rfl ?_
      refine z_iconst (v := 1) (pc := 419) E jd_law_419 (by decide) ?_
      refine z_iadd (pc := 420) E jd_law_420 ?_
      refine z_topi (y := nI (i + 1)) (nI_add i 1) ?_
      refine z_sld (pc := 421) E hX hbl (vp_in_nI (by omega) (by omega)) jd_law_421 ?_
      rw [nI_clamp (by omega)]
      refine z_cV1L (pc := 422) E (hT) jc_W_52 jv_M_id rfl (by assumption) ⟨Nat.le_of_ble_eq_true rfl, Nat.le_of_ble_eq_true rfl⟩ jd_law_422 (Nat.le_of_ble_eq_true rfl) (by decide) (by decide) (fun v422 es422 h422 => ?_)
      obtain ⟨hw, h2⟩ := h422
      refine z_lcmp (pc := 425) E jd_law_425 ?_
      refine z_if_eq (pc := 426) (tgt := 587) E jd_law_426 (by decide) (fun c426 => ?_) (fun c426 => ?_)
      · exact next _ hi5 h2
      · exact absurd (by rw [hw]; exact cmp_z _) c426
    have q_hash : i + 5 ≤ L → Zj p l e room_1 s m #[Value.ref b] below meth c (lw_Z below #[Value.ref b] s) G s.heap.size 4 335 8053 431 [some (.ref b), some (.ref (s.heap.size + 0)), some (.ref (s.heap.size + 320)), some (.int (nI i))] [] es := by
      intro hi5
      refine z_aload_n (pc := 431) E jd_law_431 rfl rfl ?_
      refine z_aload_n (pc := 432) E jd_law_432 rfl rfl ?_
      refine z_iload_n (pc := 433) E jd_law_433 rfl rfl ?_
      refine z_iconst (v := 1) (pc := 434) E jd_law_434 (by decide) ?_
      refine z_iadd (pc := 435) E jd_law_435 ?_
      refine z_topi (y := nI (i + 1)) (nI_add i 1) ?_
      refine z_sld (pc := 436) E hX hbl (vp_in_nI (by omega) (by omega)) jd_law_436 ?_
      rw [nI_clamp (by omega)]
      refine z_aload_n (pc := 437) E jd_law_437 rfl rfl ?_
      refine z_iload_n (pc := 438) E jd_law_438 rfl rfl ?_
      refine z_iconst (v := 2) (pc := 439) E jd_law_439 (by decide) ?_
      refine z_iadd (pc := 440) E jd_law_440 ?_
      refine z_topi (y := nI (i + 2)) (nI_add i 2) ?_
      refine z_sld (pc := 441) E hX hbl (vp_in_nI (by omega) (by omega)) jd_law_441 ?_
      rw [nI_clamp (by omega)]
      refine z_cV2L (pc := 442) E (p_hash l G s.heap.size hLI) jc_W_53 jv_S_hash rfl (by assumption) ⟨Nat.le_of_ble_eq_true rfl, Nat.le_of_ble_eq_true rfl⟩ jd_law_442 (Nat.le_of_ble_eq_true rfl) (by decide) (by decide) (fun v442 es442 h442 => ?_)
      obtain ⟨⟨fs1, hml⟩, hT⟩ := h442
      refine z_aload_n (pc := 445) E jd_law_445 rfl rfl ?_
      refine z_aload_n (pc := 446) E jd_law_446 rfl rfl ?_
      refine z_iload_n (pc := 447) E jd_law_447 rfl rfl ?_
      refine z_iconst (v := 1) (pc := 448) E jd_law_448 (by decide) ?_
      refine z_iadd (pc := 449) E jd_law_449 ?_
      refine z_topi (y := nI (i + 1)) (nI_add i 1) ?_
      refine z_sld (pc := 450) E hX hbl (vp_in_nI (by omega) (by omega)) jd_law_450 ?_
      rw [nI_clamp (by omega)]
      refine z_aload_n (pc := 451) E jd_law_451 rfl rfl ?_
      refine z_iload_n (pc := 452) E jd_law_452 rfl rfl ?_
      refine z_iconst (v := 2) (pc := 453) E jd_law_453 (by decide) ?_
      refine z_iadd (pc := 454) E jd_law_454 ?_
      refine z_topi (y := nI (i + 2)) (nI_add i 2) ?_
      refine z_sld (pc := 455) E hX hbl (vp_in_nI (by omega) (by omega)) jd_law_455 ?_
      rw [nI_clamp (by omega)]
      refine z_cV2L (pc := 456) E (hT) jc_W_57 jv_M_hash rfl (by assumption) ⟨Nat.le_of_ble_eq_true rfl, Nat.le_of_ble_eq_true rfl⟩ jd_law_456 (Nat.le_of_ble_eq_true rfl) (by decide) (by decide) (fun v456 es456 h456 => ?_)
      obtain ⟨hw, h2⟩ := h456
      refine z_lcmp (pc := 459) E jd_law_459 ?_
      refine z_if_eq (pc := 460) (tgt := 587) E jd_law_460 (by decide) (fun c460 => ?_) (fun c460 => ?_)
      · exact next _ hi5 h2
      · exact absurd (by rw [hw]; exact cmp_z _) c460
    have q_size : i + 5 ≤ L → Zj p l e room_1 s m #[Value.ref b] below meth c (lw_Z below #[Value.ref b] s) G s.heap.size 4 335 8053 465 [some (.ref b), some (.ref (s.heap.size + 0)), some (.ref (s.heap.size + 320)), some (.int (nI i))] [] es := by
      intro hi5
      refine z_aload_n (pc := 465) E jd_law_465 rfl rfl ?_
      refine z_aload_n (pc := 466) E jd_law_466 rfl rfl ?_
      refine z_iload_n (pc := 467) E jd_law_467 rfl rfl ?_
      refine z_iconst (v := 1) (pc := 468) E jd_law_468 (by decide) ?_
      refine z_iadd (pc := 469) E jd_law_469 ?_
      refine z_topi (y := nI (i + 1)) (nI_add i 1) ?_
      refine z_sld (pc := 470) E hX hbl (vp_in_nI (by omega) (by omega)) jd_law_470 ?_
      rw [nI_clamp (by omega)]
      refine z_cV1I (pc := 471) E (p_size l G s.heap.size hLI) jc_W_58 jv_S_size rfl (by assumption) ⟨Nat.le_of_ble_eq_true rfl, Nat.le_of_ble_eq_true rfl⟩ jd_law_471 (Nat.le_of_ble_eq_true rfl) (by decide) (by decide) (fun v471 es471 h471 => ?_)
      obtain ⟨⟨fs1, hml⟩, hT⟩ := h471
      refine z_aload_n (pc := 474) E jd_law_474 rfl rfl ?_
      refine z_aload_n (pc := 475) E jd_law_475 rfl rfl ?_
      refine z_iload_n (pc := 476) E jd_law_476 rfl rfl ?_
      refine z_iconst (v := 1) (pc := 477) E jd_law_477 (by decide) ?_
      refine z_iadd (pc := 478) E jd_law_478 ?_
      refine z_topi (y := nI (i + 1)) (nI_add i 1) ?_
      refine z_sld (pc := 479) E hX hbl (vp_in_nI (by omega) (by omega)) jd_law_479 ?_
      rw [nI_clamp (by omega)]
      refine z_cV1I (pc := 480) E (hT) jc_W_61 jv_M_size rfl (by assumption) ⟨Nat.le_of_ble_eq_true rfl, Nat.le_of_ble_eq_true rfl⟩ jd_law_480 (Nat.le_of_ble_eq_true rfl) (by decide) (by decide) (fun v480 es480 h480 => ?_)
      obtain ⟨hw, h2⟩ := h480
      refine z_icmp_eq (pc := 483) (tgt := 587) E jd_law_483 (by decide) (fun c483 => ?_) (fun c483 => ?_)
      · exact next _ hi5 h2
      · exact absurd hw.symm c483
    have q_byteAt : i + 5 ≤ L → Zj p l e room_1 s m #[Value.ref b] below meth c (lw_Z below #[Value.ref b] s) G s.heap.size 4 335 8053 488 [some (.ref b), some (.ref (s.heap.size + 0)), some (.ref (s.heap.size + 320)), some (.int (nI i))] [] es := by
      intro hi5
      refine z_aload_n (pc := 488) E jd_law_488 rfl rfl ?_
      refine z_aload_n (pc := 489) E jd_law_489 rfl rfl ?_
      refine z_iload_n (pc := 490) E jd_law_490 rfl rfl ?_
      refine z_iconst (v := 1) (pc := 491) E jd_law_491 (by decide) ?_
      refine z_iadd (pc := 492) E jd_law_492 ?_
      refine z_topi (y := nI (i + 1)) (nI_add i 1) ?_
      refine z_sld (pc := 493) E hX hbl (vp_in_nI (by omega) (by omega)) jd_law_493 ?_
      rw [nI_clamp (by omega)]
      refine z_aload_n (pc := 494) E jd_law_494 rfl rfl ?_
      refine z_iload_n (pc := 495) E jd_law_495 rfl rfl ?_
      refine z_iconst (v := 2) (pc := 496) E jd_law_496 (by decide) ?_
      refine z_iadd (pc := 497) E jd_law_497 ?_
      refine z_topi (y := nI (i + 2)) (nI_add i 2) ?_
      refine z_sld (pc := 498) E hX hbl (vp_in_nI (by omega) (by omega)) jd_law_498 ?_
      rw [nI_clamp (by omega)]
      refine z_cV2I (pc := 499) E (p_byteAt l G s.heap.size hLI) jc_W_62 jv_S_byteAt rfl (by assumption) ⟨Nat.le_of_ble_eq_true rfl, Nat.le_of_ble_eq_true rfl⟩ jd_law_499 (Nat.le_of_ble_eq_true rfl) (by decide) (by decide) (fun v499 es499 h499 => ?_)
      obtain ⟨⟨fs1, hml⟩, hT⟩ := h499
      refine z_aload_n (pc := 502) E jd_law_502 rfl rfl ?_
      refine z_aload_n (pc := 503) E jd_law_503 rfl rfl ?_
      refine z_iload_n (pc := 504) E jd_law_504 rfl rfl ?_
      refine z_iconst (v := 1) (pc := 505) E jd_law_505 (by decide) ?_
      refine z_iadd (pc := 506) E jd_law_506 ?_
      refine z_topi (y := nI (i + 1)) (nI_add i 1) ?_
      refine z_sld (pc := 507) E hX hbl (vp_in_nI (by omega) (by omega)) jd_law_507 ?_
      rw [nI_clamp (by omega)]
      refine z_aload_n (pc := 508) E jd_law_508 rfl rfl ?_
      refine z_iload_n (pc := 509) E jd_law_509 rfl rfl ?_
      refine z_iconst (v := 2) (pc := 510) E jd_law_510 (by decide) ?_
      refine z_iadd (pc := 511) E jd_law_511 ?_
      refine z_topi (y := nI (i + 2)) (nI_add i 2) ?_
      refine z_sld (pc := 512) E hX hbl (vp_in_nI (by omega) (by omega)) jd_law_512 ?_
      rw [nI_clamp (by omega)]
      refine z_cV2I (pc := 513) E (hT) jc_W_65 jv_M_byteAt rfl (by assumption) ⟨Nat.le_of_ble_eq_true rfl, Nat.le_of_ble_eq_true rfl⟩ jd_law_513 (Nat.le_of_ble_eq_true rfl) (by decide) (by decide) (fun v513 es513 h513 => ?_)
      obtain ⟨hw, h2⟩ := h513
      refine z_icmp_eq (pc := 516) (tgt := 587) E jd_law_516 (by decide) (fun c516 => ?_) (fun c516 => ?_)
      · exact next _ hi5 h2
      · exact absurd hw.symm c516
    have q_part : i + 5 ≤ L → Zj p l e room_1 s m #[Value.ref b] below meth c (lw_Z below #[Value.ref b] s) G s.heap.size 4 335 8053 521 [some (.ref b), some (.ref (s.heap.size + 0)), some (.ref (s.heap.size + 320)), some (.int (nI i))] [] es := by
      intro hi5
      refine z_aload_n (pc := 521) E jd_law_521 rfl rfl ?_
      refine z_aload_n (pc := 522) E jd_law_522 rfl rfl ?_
      refine z_iload_n (pc := 523) E jd_law_523 rfl rfl ?_
      refine z_iconst (v := 1) (pc := 524) E jd_law_524 (by decide) ?_
      refine z_iadd (pc := 525) E jd_law_525 ?_
      refine z_topi (y := nI (i + 1)) (nI_add i 1) ?_
      refine z_sld (pc := 526) E hX hbl (vp_in_nI (by omega) (by omega)) jd_law_526 ?_
      rw [nI_clamp (by omega)]
      refine z_aload_n (pc := 527) E jd_law_527 rfl rfl ?_
      refine z_iload_n (pc := 528) E jd_law_528 rfl rfl ?_
      refine z_iconst (v := 2) (pc := 529) E jd_law_529 (by decide) ?_
      refine z_iadd (pc := 530) E jd_law_530 ?_
      refine z_topi (y := nI (i + 2)) (nI_add i 2) ?_
      refine z_sld (pc := 531) E hX hbl (vp_in_nI (by omega) (by omega)) jd_law_531 ?_
      rw [nI_clamp (by omega)]
      refine z_cV2I (pc := 532) E (p_part l G s.heap.size hLI) jc_W_66 jv_S_part rfl (by assumption) ⟨Nat.le_of_ble_eq_true rfl, Nat.le_of_ble_eq_true rfl⟩ jd_law_532 (Nat.le_of_ble_eq_true rfl) (by decide) (by decide) (fun v532 es532 h532 => ?_)
      obtain ⟨⟨fs1, hml⟩, hT⟩ := h532
      refine z_aload_n (pc := 535) E jd_law_535 rfl rfl ?_
      refine z_aload_n (pc := 536) E jd_law_536 rfl rfl ?_
      refine z_iload_n (pc := 537) E jd_law_537 rfl rfl ?_
      refine z_iconst (v := 1) (pc := 538) E jd_law_538 (by decide) ?_
      refine z_iadd (pc := 539) E jd_law_539 ?_
      refine z_topi (y := nI (i + 1)) (nI_add i 1) ?_
      refine z_sld (pc := 540) E hX hbl (vp_in_nI (by omega) (by omega)) jd_law_540 ?_
      rw [nI_clamp (by omega)]
      refine z_aload_n (pc := 541) E jd_law_541 rfl rfl ?_
      refine z_iload_n (pc := 542) E jd_law_542 rfl rfl ?_
      refine z_iconst (v := 2) (pc := 543) E jd_law_543 (by decide) ?_
      refine z_iadd (pc := 544) E jd_law_544 ?_
      refine z_topi (y := nI (i + 2)) (nI_add i 2) ?_
      refine z_sld (pc := 545) E hX hbl (vp_in_nI (by omega) (by omega)) jd_law_545 ?_
      rw [nI_clamp (by omega)]
      refine z_cV2I (pc := 546) E (hT) jc_W_69 jv_M_part rfl (by assumption) ⟨Nat.le_of_ble_eq_true rfl, Nat.le_of_ble_eq_true rfl⟩ jd_law_546 (Nat.le_of_ble_eq_true rfl) (by decide) (by decide) (fun v546 es546 h546 => ?_)
      obtain ⟨hw, h2⟩ := h546
      refine z_icmp_eq (pc := 549) (tgt := 587) E jd_law_549 (by decide) (fun c549 => ?_) (fun c549 => ?_)
      · exact next _ hi5 h2
      · exact absurd hw.symm c549
    have q_count : i + 5 ≤ L → Zj p l e room_1 s m #[Value.ref b] below meth c (lw_Z below #[Value.ref b] s) G s.heap.size 4 335 8053 554 [some (.ref b), some (.ref (s.heap.size + 0)), some (.ref (s.heap.size + 320)), some (.int (nI i))] [] es := by
      intro hi5
      refine z_aload_n (pc := 554) E jd_law_554 rfl rfl ?_
      refine z_aload_n (pc := 555) E jd_law_555 rfl rfl ?_
      refine z_iload_n (pc := 556) E jd_law_556 rfl rfl ?_
      refine z_iconst (v := 1) (pc := 557) E jd_law_557 (by decide) ?_
      refine z_iadd (pc := 558) E jd_law_558 ?_
      refine z_topi (y := nI (i + 1)) (nI_add i 1) ?_
      refine z_sld (pc := 559) E hX hbl (vp_in_nI (by omega) (by omega)) jd_law_559 ?_
      rw [nI_clamp (by omega)]
      refine z_aload_n (pc := 560) E jd_law_560 rfl rfl ?_
      refine z_iload_n (pc := 561) E jd_law_561 rfl rfl ?_
      refine z_iconst (v := 2) (pc := 562) E jd_law_562 (by decide) ?_
      refine z_iadd (pc := 563) E jd_law_563 ?_
      refine z_topi (y := nI (i + 2)) (nI_add i 2) ?_
      refine z_sld (pc := 564) E hX hbl (vp_in_nI (by omega) (by omega)) jd_law_564 ?_
      rw [nI_clamp (by omega)]
      refine z_cV2I (pc := 565) E (p_count l G s.heap.size hLI) jc_W_70 jv_S_count rfl (by assumption) ⟨Nat.le_of_ble_eq_true rfl, Nat.le_of_ble_eq_true rfl⟩ jd_law_565 (Nat.le_of_ble_eq_true rfl) (by decide) (by decide) (fun v565 es565 h565 => ?_)
      obtain ⟨⟨fs1, hml⟩, hT⟩ := h565
      refine z_aload_n (pc := 568) E jd_law_568 rfl rfl ?_
      refine z_aload_n (pc := 569) E jd_law_569 rfl rfl ?_
      refine z_iload_n (pc := 570) E jd_law_570 rfl rfl ?_
      refine z_iconst (v := 1) (pc := 571) E jd_law_571 (by decide) ?_
      refine z_iadd (pc := 572) E jd_law_572 ?_
      refine z_topi (y := nI (i + 1)) (nI_add i 1) ?_
      refine z_sld (pc := 573) E hX hbl (vp_in_nI (by omega) (by omega)) jd_law_573 ?_
      rw [nI_clamp (by omega)]
      refine z_aload_n (pc := 574) E jd_law_574 rfl rfl ?_
      refine z_iload_n (pc := 575) E jd_law_575 rfl rfl ?_
      refine z_iconst (v := 2) (pc := 576) E jd_law_576 (by decide) ?_
      refine z_iadd (pc := 577) E jd_law_577 ?_
      refine z_topi (y := nI (i + 2)) (nI_add i 2) ?_
      refine z_sld (pc := 578) E hX hbl (vp_in_nI (by omega) (by omega)) jd_law_578 ?_
      rw [nI_clamp (by omega)]
      refine z_cV2I (pc := 579) E (hT) jc_W_73 jv_M_count rfl (by assumption) ⟨Nat.le_of_ble_eq_true rfl, Nat.le_of_ble_eq_true rfl⟩ jd_law_579 (Nat.le_of_ble_eq_true rfl) (by decide) (by decide) (fun v579 es579 h579 => ?_)
      obtain ⟨hw, h2⟩ := h579
      refine z_icmp_eq (pc := 582) (tgt := 587) E jd_law_582 (by decide) (fun c582 => ?_) (fun c582 => ?_)
      · exact next _ hi5 h2
      · exact absurd hw.symm c582
    have q_declare : i + 5 ≤ L → Zj p l e room_1 s m #[Value.ref b] below meth c (lw_Z below #[Value.ref b] s) G s.heap.size 4 335 8053 318 [some (.ref b), some (.ref (s.heap.size + 0)), some (.ref (s.heap.size + 320)), some (.int (nI i))] [] es := by
      intro hi5
      have t379 : ∀ (es1 : zE) (v : Int32), (∃ fs, es1[320]? = some (.inr (7, fs))) → (Tr l G s.heap.size jy_M_declare jb_M_declare 5 (some .int) 2 0 0 [.ref (s.heap.size + 320), .int (xs (i + 1)), .int (bo (xs (i + 2))), .long (((xs (i + 3)).toInt64 <<< ((32 : Int32).toInt64 &&& 63)) ||| ((xs (i + 4)).toInt64 &&& 4294967295))] es1 (pI fun w es2 => w = v ∧ LI G s.heap.size es2)) → Zj p l e room_1 s m #[Value.ref b] below meth c (lw_Z below #[Value.ref b] s) G s.heap.size 4 335 8053 379 [some (.ref b), some (.ref (s.heap.size + 0)), some (.ref (s.heap.size + 320)), some (.int (nI i))] [.int (bo (xs (i + 2))), .int (xs (i + 1)), .ref (s.heap.size + 320), .int v] es1 := by
        intro es1 v hml hT
        obtain ⟨fs1, hml⟩ := hml
        refine z_aload_n (pc := 379) E jd_law_379 rfl rfl ?_
        refine z_iload_n (pc := 380) E jd_law_380 rfl rfl ?_
        refine z_iconst (v := 3) (pc := 381) E jd_law_381 (by decide) ?_
        refine z_iadd (pc := 382) E jd_law_382 ?_
        refine z_topi (y := nI (i + 3)) (nI_add i 3) ?_
        refine z_sld (pc := 383) E hX hbl (vp_in_nI (by omega) (by omega)) jd_law_383 ?_
        rw [nI_clamp (by omega)]
        refine z_i2l (pc := 384) E jd_law_384 ?_
        refine z_bipush (v := 32) (pc := 385) E jd_law_385 (by decide) ?_
        refine z_lshl (pc := 387) E jd_law_387 ?_
        refine z_aload_n (pc := 388) E jd_law_388 rfl rfl ?_
        refine z_iload_n (pc := 389) E jd_law_389 rfl rfl ?_
        refine z_iconst (v := 4) (pc := 390) E jd_law_390 (by decide) ?_
        refine z_iadd (pc := 391) E jd_law_391 ?_
        refine z_topi (y := nI (i + 4)) (nI_add i 4) ?_
        refine z_sld (pc := 392) E hX hbl (vp_in_nI (by omega) (by omega)) jd_law_392 ?_
        rw [nI_clamp (by omega)]
        refine z_i2l (pc := 393) E jd_law_393 ?_
        refine z_ldc2 (pc := 394) E jw_690 jd_law_394 ?_
        refine z_land (pc := 397) E jd_law_397 ?_
        refine z_lor (pc := 398) E jd_law_398 ?_
        refine z_cV3I (pc := 399) E (hT) jc_W_47 jv_M_declare rfl (by assumption) ⟨Nat.le_of_ble_eq_true rfl, Nat.le_of_ble_eq_true rfl⟩ jd_law_399 (Nat.le_of_ble_eq_true rfl) (by decide) (by decide) (fun v399 es399 h399 => ?_)
        obtain ⟨hw, h2⟩ := h399
        refine z_icmp_eq (pc := 402) (tgt := 587) E jd_law_402 (by decide) (fun c402 => ?_) (fun c402 => ?_)
        · exact next _ hi5 h2
        · exact absurd hw.symm c402
      have t337 : Zj p l e room_1 s m #[Value.ref b] below meth c (lw_Z below #[Value.ref b] s) G s.heap.size 4 335 8053 337 [some (.ref b), some (.ref (s.heap.size + 0)), some (.ref (s.heap.size + 320)), some (.int (nI i))] [.int (bo (xs (i + 2))), .int (xs (i + 1)), .ref (s.heap.size + 0)] es := by
        refine z_aload_n (pc := 337) E jd_law_337 rfl rfl ?_
        refine z_iload_n (pc := 338) E jd_law_338 rfl rfl ?_
        refine z_iconst (v := 3) (pc := 339) E jd_law_339 (by decide) ?_
        refine z_iadd (pc := 340) E jd_law_340 ?_
        refine z_topi (y := nI (i + 3)) (nI_add i 3) ?_
        refine z_sld (pc := 341) E hX hbl (vp_in_nI (by omega) (by omega)) jd_law_341 ?_
        rw [nI_clamp (by omega)]
        refine z_i2l (pc := 342) E jd_law_342 ?_
        refine z_bipush (v := 32) (pc := 343) E jd_law_343 (by decide) ?_
        refine z_lshl (pc := 345) E jd_law_345 ?_
        refine z_aload_n (pc := 346) E jd_law_346 rfl rfl ?_
        refine z_iload_n (pc := 347) E jd_law_347 rfl rfl ?_
        refine z_iconst (v := 4) (pc := 348) E jd_law_348 (by decide) ?_
        refine z_iadd (pc := 349) E jd_law_349 ?_
        refine z_topi (y := nI (i + 4)) (nI_add i 4) ?_
        refine z_sld (pc := 350) E hX hbl (vp_in_nI (by omega) (by omega)) jd_law_350 ?_
        rw [nI_clamp (by omega)]
        refine z_i2l (pc := 351) E jd_law_351 ?_
        refine z_ldc2 (pc := 352) E jw_690 jd_law_352 ?_
        refine z_land (pc := 355) E jd_law_355 ?_
        refine z_lor (pc := 356) E jd_law_356 ?_
        refine z_cV3I (pc := 357) E (p_declare l G s.heap.size hLI (bo01 _)) jc_W_43 jv_S_declare rfl (by assumption) ⟨Nat.le_of_ble_eq_true rfl, Nat.le_of_ble_eq_true rfl⟩ jd_law_357 (Nat.le_of_ble_eq_true rfl) (by decide) (by decide) (fun v357 es357 h357 => ?_)
        obtain ⟨hml, hT⟩ := h357
        refine z_aload_n (pc := 360) E jd_law_360 rfl rfl ?_
        refine z_aload_n (pc := 361) E jd_law_361 rfl rfl ?_
        refine z_iload_n (pc := 362) E jd_law_362 rfl rfl ?_
        refine z_iconst (v := 1) (pc := 363) E jd_law_363 (by decide) ?_
        refine z_iadd (pc := 364) E jd_law_364 ?_
        refine z_topi (y := nI (i + 1)) (nI_add i 1) ?_
        refine z_sld (pc := 365) E hX hbl (vp_in_nI (by omega) (by omega)) jd_law_365 ?_
        rw [nI_clamp (by omega)]
        refine z_aload_n (pc := 366) E jd_law_366 rfl rfl ?_
        refine z_iload_n (pc := 367) E jd_law_367 rfl rfl ?_
        refine z_iconst (v := 2) (pc := 368) E jd_law_368 (by decide) ?_
        refine z_iadd (pc := 369) E jd_law_369 ?_
        refine z_topi (y := nI (i + 2)) (nI_add i 2) ?_
        refine z_sld (pc := 370) E hX hbl (vp_in_nI (by omega) (by omega)) jd_law_370 ?_
        rw [nI_clamp (by omega)]
        refine z_if_eq (pc := 371) (tgt := 378) E jd_law_371 (by decide) (fun c371 => ?_) (fun c371 => ?_)
        · have hbo : bo (xs (i + 2)) = 0 := by rw [bo, if_pos c371]
          refine z_iconst (v := 0) (pc := 378) E jd_law_378 (by decide) ?_
          refine z_topi hbo.symm ?_
          exact t379 _ _ hml hT
        · have hbo : bo (xs (i + 2)) = 1 := by rw [bo, if_neg c371]
          refine z_iconst (v := 1) (pc := 374) E jd_law_374 (by decide) ?_
          refine z_goto (pc := 375) (tgt := 379) E jd_law_375 (by decide) ?_
          refine z_topi hbo.symm ?_
          exact t379 _ _ hml hT
      refine z_aload_n (pc := 318) E jd_law_318 rfl rfl ?_
      refine z_aload_n (pc := 319) E jd_law_319 rfl rfl ?_
      refine z_iload_n (pc := 320) E jd_law_320 rfl rfl ?_
      refine z_iconst (v := 1) (pc := 321) E jd_law_321 (by decide) ?_
      refine z_iadd (pc := 322) E jd_law_322 ?_
      refine z_topi (y := nI (i + 1)) (nI_add i 1) ?_
      refine z_sld (pc := 323) E hX hbl (vp_in_nI (by omega) (by omega)) jd_law_323 ?_
      rw [nI_clamp (by omega)]
      refine z_aload_n (pc := 324) E jd_law_324 rfl rfl ?_
      refine z_iload_n (pc := 325) E jd_law_325 rfl rfl ?_
      refine z_iconst (v := 2) (pc := 326) E jd_law_326 (by decide) ?_
      refine z_iadd (pc := 327) E jd_law_327 ?_
      refine z_topi (y := nI (i + 2)) (nI_add i 2) ?_
      refine z_sld (pc := 328) E hX hbl (vp_in_nI (by omega) (by omega)) jd_law_328 ?_
      rw [nI_clamp (by omega)]
      refine z_if_eq (pc := 329) (tgt := 336) E jd_law_329 (by decide) (fun c329 => ?_) (fun c329 => ?_)
      · have hbo : bo (xs (i + 2)) = 0 := by rw [bo, if_pos c329]
        refine z_iconst (v := 0) (pc := 336) E jd_law_336 (by decide) ?_
        refine z_topi hbo.symm ?_
        exact t337
      · have hbo : bo (xs (i + 2)) = 1 := by rw [bo, if_neg c329]
        refine z_iconst (v := 1) (pc := 332) E jd_law_332 (by decide) ?_
        refine z_goto (pc := 333) (tgt := 337) E jd_law_333 (by decide) ?_
        refine z_topi hbo.symm ?_
        exact t337
    refine z_iload_n (pc := 18) E jd_law_18 rfl rfl ?_
    refine z_aload_n (pc := 19) E jd_law_19 rfl rfl ?_
    refine z_slen (pc := 20) E hX hbl jd_law_20 ?_
    refine z_iconst (v := 5) (pc := 21) E jd_law_21 (by decide) ?_
    refine z_isub (pc := 22) E jd_law_22 ?_
    refine z_icmp_gt (pc := 23) (tgt := 593) E jd_law_23 (by decide) (fun c23 => ?_) (fun c23 => ?_)
    · refine z_iconst (v := 1) (pc := 593) E jd_law_593 (by decide) ?_
      exact z_lawret E (by decide) (by decide) jd_law_594
    · have hi5 := sub5 hL hi c23
      refine z_aload_n (pc := 26) E jd_law_26 rfl rfl ?_
      refine z_iload_n (pc := 27) E jd_law_27 rfl rfl ?_
      refine z_sld (pc := 28) E hX hbl (vp_in_nI (by omega) (by omega)) jd_law_28 ?_
      rw [nI_clamp (by omega)]
      refine z_bipush (v := 15) (pc := 29) E jd_law_29 (by decide) ?_
      refine z_iand (pc := 31) E jd_law_31 ?_
      obtain ⟨j, hj, hje⟩ := and15 (xs i)
      refine z_topi hje ?_
      rcases lt16 hj with rfl | rfl | rfl | rfl | rfl | rfl | rfl | rfl | rfl | rfl | rfl | rfl | rfl | rfl | rfl | rfl
      · refine z_tableIn (pc := 32) (tgt := 100) (off := 68) E jd_law_32 (by decide) (by decide) (by decide) (by decide) ?_
        exact q_type hi5
      · refine z_tableIn (pc := 32) (tgt := 163) (off := 131) E jd_law_32 (by decide) (by decide) (by decide) (by decide) ?_
        exact q_clear hi5
      · refine z_tableIn (pc := 32) (tgt := 186) (off := 154) E jd_law_32 (by decide) (by decide) (by decide) (by decide) ?_
        exact q_define hi5
      · refine z_tableIn (pc := 32) (tgt := 219) (off := 187) E jd_law_32 (by decide) (by decide) (by decide) (by decide) ?_
        exact q_face hi5
      · refine z_tableIn (pc := 32) (tgt := 242) (off := 210) E jd_law_32 (by decide) (by decide) (by decide) (by decide) ?_
        exact q_member hi5
      · refine z_tableIn (pc := 32) (tgt := 285) (off := 253) E jd_law_32 (by decide) (by decide) (by decide) (by decide) ?_
        exact q_remove hi5
      · refine z_tableIn (pc := 32) (tgt := 318) (off := 286) E jd_law_32 (by decide) (by decide) (by decide) (by decide) ?_
        exact q_declare hi5
      · refine z_tableIn (pc := 32) (tgt := 407) (off := 375) E jd_law_32 (by decide) (by decide) (by decide) (by decide) ?_
        exact q_id hi5
      · refine z_tableIn (pc := 32) (tgt := 431) (off := 399) E jd_law_32 (by decide) (by decide) (by decide) (by decide) ?_
        exact q_hash hi5
      · refine z_tableIn (pc := 32) (tgt := 465) (off := 433) E jd_law_32 (by decide) (by decide) (by decide) (by decide) ?_
        exact q_size hi5
      · refine z_tableIn (pc := 32) (tgt := 488) (off := 456) E jd_law_32 (by decide) (by decide) (by decide) (by decide) ?_
        exact q_byteAt hi5
      · refine z_tableIn (pc := 32) (tgt := 521) (off := 489) E jd_law_32 (by decide) (by decide) (by decide) (by decide) ?_
        exact q_part hi5
      · refine z_tableIn (pc := 32) (tgt := 554) (off := 522) E jd_law_32 (by decide) (by decide) (by decide) (by decide) ?_
        exact q_count hi5
      · refine z_tableOut (pc := 32) (tgt := 587) E jd_law_32 (by decide) (by decide) ?_
        exact next _ hi5 hLI
      · refine z_tableOut (pc := 32) (tgt := 587) E jd_law_32 (by decide) (by decide) ?_
        exact next _ hi5 hLI
      · refine z_tableOut (pc := 32) (tgt := 587) E jd_law_32 (by decide) (by decide) ?_
        exact next _ hi5 hLI
