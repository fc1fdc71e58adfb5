/-! the law from its entry -/
theorem RR00 : RR d0 d0 := ⟨rfl, rfl, rfl, rfl, rfl, rfl, rfl, List.Perm.refl _, List.Perm.refl _, fun i j _ h => absurd h (Nat.not_lt_zero j), fun i j _ h => absurd h (Nat.not_lt_zero j)⟩
theorem LI0 {G : zG} {B : Nat} {es : zE} (h : es = cS G B 0 4 ++ cM G B 320) : LI G B es := by
  have hl : (cS G B 0 4).length = 320 := by rw [cS_len]
  have s1 : Seg es 0 (cS G B 0 4) := by
    have := Seg.of (es0 := []) (xs := cS G B 0 4 ++ cM G B 320) (q := 0) rfl
    rw [List.nil_append] at this
    rw [h]
    exact this.l
  have s2 : Seg es 320 (cM G B 320) := by rw [h]; exact Seg.of hl
  exact ⟨[], [], fun _ => d0, fun _ => d0, s1.zSA, s2.zRA, fun _ _ => RR00, fun x hx => by cases hx⟩
set_option maxHeartbeats 4000000 in
set_option maxRecDepth 100000 in
theorem law_start {p : Program} {l : Launch} {e : Env} {s : State} {m : MethodId} {below : List Frame} {meth : Method} {c : Code} {G : zG} {b L : Nat} {xs : Nat → Int32} {mn : String} (hL : L ≤ 2560) (hX : va_X b L xs s s.heap) (hbl : b < s.heap.size) (E : En p s m #[Value.ref b] meth c G s.heap.size 4 code "StreamIdsLaw" mn ret) :
    Zj p l e room_1 s m #[Value.ref b] below meth c (lw_Z below #[Value.ref b] s) G s.heap.size 4 0 0 0 [some (.ref b), none, none, none] [] [] := by
  refine z_new (pc := 0) E jnw_W_7 jd_law_0 (by decide) (by decide) ?_
  rw [show ([] : zE).length = 0 from rfl]
  refine z_dup (pc := 3) E jd_law_3 rfl ?_
  refine z_cI0V (pc := 4) E (c_S_init l G s.heap.size (es0 := []) (q := 0) rfl) jc_W_9 ji_S_init ⟨Nat.le_of_ble_eq_true rfl, Nat.le_of_ble_eq_true rfl⟩ jd_law_4 (Nat.le_of_ble_eq_true rfl) (by decide) (by decide) (fun es4 h4 => ?_)
  rw [List.nil_append] at h4
  have hl4 : es4.length = 320 := by rw [h4, cS_len]
  refine z_astore_n (pc := 7) E jd_law_7 rfl (by decide) rfl ?_
  dsimp only [List.set]
  refine z_new (pc := 8) E jnw_W_10 jd_law_8 (by decide) (by decide) ?_
  rw [hl4]
  refine z_dup (pc := 11) E jd_law_11 rfl ?_
  refine z_cI0V (pc := 12) E (c_M_init l G s.heap.size hl4) jc_W_12 ji_M_init ⟨Nat.le_of_ble_eq_true rfl, Nat.le_of_ble_eq_true rfl⟩ jd_law_12 (Nat.le_of_ble_eq_true rfl) (by decide) (by decide) (fun es12 h12 => ?_)
  rw [h4] at h12
  refine z_astore_n (pc := 15) E jd_law_15 rfl (by decide) rfl ?_
  dsimp only [List.set]
  refine z_iconst (v := 0) (pc := 16) E jd_law_16 (by decide) ?_
  refine z_istore_n (pc := 17) E jd_law_17 rfl (by decide) rfl ?_
  dsimp only [List.set]
  exact law_loop hL hX hbl E L 0 es12 (Nat.zero_le _) (by omega) (LI0 h12)
theorem whole_start {p : Program} {e : Env} {s : State} {m : MethodId} {below : List Frame} {meth : Method} {c : Code} (l : Launch) {b L : Nat} {xs : Nat → Int32} (hL : L ≤ 2560) (C0 : lw_At p s m meth c b L xs) : W p l e room_1 s m #[Value.ref b] below meth c s.heap [] 0 0 (lw_Z below #[Value.ref b] s) (entryFrame m ([Value.ref b] : List Value).toArray 4) := by
  obtain ⟨G, E⟩ := law_env C0
  obtain ⟨hx, hb, hr, hml, hown, hts, hX, hbl, hlocks, hgv⟩ := C0
  have hl := lv_entry ([.ref b]) (n := 4) (Nat.le_of_ble_eq_true rfl)
  rw [lg_entry_eq]
  refine law_start hL hX hbl E s.heap [] _ ⟨by simp, fun k q h => by simp [zw] at h⟩ va_S.rf ⟨hl.1, hl.2.1, fun i v hv => hl.2.2 (i, v) ?_⟩
  have := zent_args [Value.ref b] 4 0 i (w := v) (by exact hv)
  rwa [Nat.zero_add] at this
