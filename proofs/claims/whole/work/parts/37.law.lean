/-! the law: what holds at its entry; its own rows -/
def R_law : String := "StreamIdsLaw"
def lw_P (b : Addr) (xs : List Int32) (args : Array Value) (s : State) : Prop := args = #[.ref b] ∧ s.IntsAt b xs ∧ xs.length ≤ 2560 ∧ (Jvm.Cond.and given_1 narrow_1).before args s = true
def lw_Q (_ : Array Value) (s : State) (o : Outcome) (t : State) : Prop := o = .returned (some (.int 1)) ∧ Framed s o t [] 600000 7302250
def lw_Z (below : List Frame) (a : Array Value) (s : State) : State → Prop := fun t => ∃ o, t.status = .running ∧ Ended t below o ∧ lw_Q a s o t
/-- the law's own end, with 1 on the stack, nothing written that was there before, its room as the claim has it -/
theorem lw_ret {p : Program} {l : Launch} {e : Env} {s : State} {m : MethodId} {below : List Frame} {meth : Method} {c : Code} {b : Nat} (hx : p.tables.exec = Jvm.exec) (hb : c.code = code) (hr : meth.sig.returnType = ret) (hlocks : meth.locks = false) {pc : Nat} {H : Heap} {ls : Array Slot} (hdg : decode code pc = .ok (.ireturn, 1)) : W p l e room_1 s m #[Value.ref b] below meth c H [] 600000 7302250 (lw_Z below #[Value.ref b] s) (F0 m pc ls [.int 1]) := by
  intro T hT X
  obtain ⟨fs, hret, hrun, hended, hW, hframe⟩ := X.leave (v := some (.int 1)) (hlocks := hlocks) (fun h => by rw [hr] at h; cases h)
  have hmeth' : T.vm.method? m = some meth := X.method'
  refine ⟨T.setFrames fs, ?_, .returned (some (.int 1)), hrun, hended, rfl, ⟨_, rfl⟩, hW, hframe⟩
  jvm_step X.here [X.here.top, hx, hb, hdg, hmeth', hr, ret, narrow_b1]
  (try refine ⟨rfl, ?_⟩); (try refine ⟨rfl, ?_⟩)
  first | (intro acts; rw [hret _ acts rfl rfl rfl]) | rw [hret _ _ rfl rfl rfl]
  exact Steps.refl _
/-- what holds at the law's entry: the machine, the code, the tables' words (any of lw_tbl by 'hts w (by decide +kernel)'), the script of L ints xs at the cell b, what the Statement gives of the start (any of its parts by flat_of_before) -/
def lw_At (p : Program) (s : State) (m : MethodId) (meth : Method) (c : Code) (b L : Nat) (xs : Nat → Int32) : Prop :=
  p.tables.exec = Jvm.exec ∧ c.code = code ∧ meth.sig.returnType = ret ∧ c.maxLocals = 4 ∧ s.vm.findClass R_law = some m.cls ∧ (∀ w ∈ lw_tbl, w.before #[Value.ref b] s = true) ∧ va_X b L xs s s.heap ∧ b < s.heap.size ∧ meth.locks = false ∧ (Jvm.Cond.and given_1 narrow_1).before #[Value.ref b] s = true
theorem zNF_tbl : ∀ q ∈ zzNF, Cond.fieldLinkNest q.1 q.2.1 q.2.2.1 q.2.2.2.1 q.2.2.2.2.1 q.2.2.2.2.2 ∈ lw_tbl := List.forall_mem_cons.mpr ⟨(List.mem_append_right _ (List.mem_of_getElem? (i := 32) (by decide +kernel))), List.forall_mem_cons.mpr ⟨(List.mem_append_right _ (List.mem_of_getElem? (i := 33) (by decide +kernel))), List.forall_mem_cons.mpr ⟨(List.mem_append_right _ (List.mem_of_getElem? (i := 34) (by decide +kernel))), List.forall_mem_cons.mpr ⟨(List.mem_append_right _ (List.mem_of_getElem? (i := 51) (by decide +kernel))), List.forall_mem_cons.mpr ⟨(List.mem_append_right _ (List.mem_of_getElem? (i := 52) (by decide +kernel))), List.forall_mem_cons.mpr ⟨(List.mem_append_right _ (List.mem_of_getElem? (i := 54) (by decide +kernel))), List.forall_mem_cons.mpr ⟨(List.mem_append_right _ (List.mem_of_getElem? (i := 70) (by decide +kernel))), List.forall_mem_cons.mpr ⟨(List.mem_append_right _ (List.mem_of_getElem? (i := 100) (by decide +kernel))), List.forall_mem_cons.mpr ⟨(List.mem_append_right _ (List.mem_of_getElem? (i := 101) (by decide +kernel))), List.forall_mem_cons.mpr ⟨(List.mem_append_right _ (List.mem_of_getElem? (i := 103) (by decide +kernel))), List.forall_mem_cons.mpr ⟨(List.mem_append_right _ (List.mem_of_getElem? (i := 105) (by decide +kernel))), List.forall_mem_cons.mpr ⟨(List.mem_append_right _ (List.mem_of_getElem? (i := 107) (by decide +kernel))), List.forall_mem_cons.mpr ⟨(List.mem_append_right _ (List.mem_of_getElem? (i := 118) (by decide +kernel))), List.forall_mem_cons.mpr ⟨(List.mem_append_right _ (List.mem_of_getElem? (i := 120) (by decide +kernel))), List.forall_mem_cons.mpr ⟨(List.mem_append_right _ (List.mem_of_getElem? (i := 121) (by decide +kernel))), List.forall_mem_cons.mpr ⟨(List.mem_append_right _ (List.mem_of_getElem? (i := 122) (by decide +kernel))), List.forall_mem_cons.mpr ⟨(List.mem_append_right _ (List.mem_of_getElem? (i := 129) (by decide +kernel))), List.forall_mem_cons.mpr ⟨(List.mem_append_right _ (List.mem_of_getElem? (i := 131) (by decide +kernel))), List.forall_mem_cons.mpr ⟨(List.mem_append_right _ (List.mem_of_getElem? (i := 133) (by decide +kernel))), List.forall_mem_cons.mpr ⟨(List.mem_append_right _ (List.mem_of_getElem? (i := 135) (by decide +kernel))), List.forall_mem_cons.mpr ⟨(List.mem_append_right _ (List.mem_of_getElem? (i := 136) (by decide +kernel))), List.forall_mem_cons.mpr ⟨(List.mem_append_right _ (List.mem_of_getElem? (i := 138) (by decide +kernel))), List.forall_mem_cons.mpr ⟨(List.mem_append_right _ (List.mem_of_getElem? (i := 139) (by decide +kernel))), List.forall_mem_cons.mpr ⟨(List.mem_append_right _ (List.mem_of_getElem? (i := 141) (by decide +kernel))), List.forall_mem_cons.mpr ⟨(List.mem_append_right _ (List.mem_of_getElem? (i := 143) (by decide +kernel))), List.forall_mem_cons.mpr ⟨(List.mem_append_right _ (List.mem_of_getElem? (i := 418) (by decide +kernel))), List.forall_mem_cons.mpr ⟨(List.mem_append_right _ (List.mem_of_getElem? (i := 442) (by decide +kernel))), fun _ h => absurd h List.not_mem_nil⟩⟩⟩⟩⟩⟩⟩⟩⟩⟩⟩⟩⟩⟩⟩⟩⟩⟩⟩⟩⟩⟩⟩⟩⟩⟩⟩
theorem zNM_tbl : ∀ q ∈ zzNM, Cond.methodLinkNest q.1 q.2.1 q.2.2.1 q.2.2.2 ∈ lw_tbl := List.forall_mem_cons.mpr ⟨(List.mem_append_right _ (List.mem_of_getElem? (i := 26) (by decide +kernel))), List.forall_mem_cons.mpr ⟨(List.mem_append_right _ (List.mem_of_getElem? (i := 45) (by decide +kernel))), List.forall_mem_cons.mpr ⟨(List.mem_append_right _ (List.mem_of_getElem? (i := 65) (by decide +kernel))), List.forall_mem_cons.mpr ⟨(List.mem_append_right _ (List.mem_of_getElem? (i := 78) (by decide +kernel))), List.forall_mem_cons.mpr ⟨(List.mem_append_right _ (List.mem_of_getElem? (i := 83) (by decide +kernel))), List.forall_mem_cons.mpr ⟨(List.mem_append_right _ (List.mem_of_getElem? (i := 93) (by decide +kernel))), List.forall_mem_cons.mpr ⟨(List.mem_append_right _ (List.mem_of_getElem? (i := 98) (by decide +kernel))), fun _ h => absurd h List.not_mem_nil⟩⟩⟩⟩⟩⟩⟩
theorem kn_of {s : State} {args : Array Value} {own : String} {idx ci N : Nat} {fs : List Value} (hts : ∀ w ∈ zzW, w.before args s = true) (h : zNw own idx ci N fs) : ∃ q : ClassId × (Nat → Nat), ∀ r, vwCl[ci]? = some r → u_Kn s r.1 r.2.1 r.2.2 q.1 q.2 := by
  obtain ⟨C, T, ty, h1, h2, h3, h4, h5, -⟩ := h
  obtain ⟨cC, iS, hK⟩ := u_known hts h2 (hts _ h5)
  exact ⟨(cC, iS), fun r hr => by rw [h1] at hr; cases hr; exact hK⟩
theorem ar_of {s : State} {args : Array Value} {ty : FieldType} (h : (Cond.arrayClass ty).before args s = true) (hty : ∀ C, ty ≠ .object C) : ∃ cA : ClassId, ArrOfT s cA ty ∧ va_RA s cA ty := by
  obtain ⟨cA, kA, comp, h1, h2, h3⟩ := Cond.arrayClass_spec h
  refine ⟨cA, fun N z => ⟨(fun k h => by cases h), kA, h2, comp, h3⟩, ?_⟩
  cases ty with
  | object C => exact absurd rfl (hty C)
  | _ => exact h1
theorem ao_of {s : State} {args : Array Value} {C : String} (h : (Cond.arrayOver (.object C)).before args s = true) : ∃ cA : ClassId, ArrOfT s cA (.object C) ∧ va_RA s cA (.object C) := by
  obtain ⟨comp, cA, kA, hcomp, hidx, hkA, hkindA, hnameA⟩ := Cond.arrayOver_spec h
  exact ⟨cA, fun N z => ⟨(fun k h => by cases h), kA, hkA, comp, hkindA⟩, kA, comp, hkA, hkindA, hcomp, hnameA⟩
def ztm (i : Nat) : Term := .string "StreamIds$Layout" (if i = 0 then 81 else if i = 1 then 87 else 88)
theorem lt3 {i : Nat} (h : i < 3) : i = 0 ∨ i = 1 ∨ i = 2 := by omega
theorem lt8 {i : Nat} (h : i < 8) : i = 0 ∨ i = 1 ∨ i = 2 ∨ i = 3 ∨ i = 4 ∨ i = 5 ∨ i = 6 ∨ i = 7 := by omega
theorem lt6 {i : Nat} (h : i < 6) : i = 0 ∨ i = 1 ∨ i = 2 ∨ i = 3 ∨ i = 4 ∨ i = 5 := by omega
theorem lt5_z {i : Nat} (h : i < 5) : i = 0 ∨ i = 1 ∨ i = 2 ∨ i = 3 ∨ i = 4 := by omega
theorem lt4_z {i : Nat} (h : i < 4) : i = 0 ∨ i = 1 ∨ i = 2 ∨ i = 3 := by omega
set_option maxHeartbeats 4000000 in
set_option maxRecDepth 100000 in
theorem law_env {p : Program} {s : State} {m : MethodId} {meth : Method} {c : Code} {b L : Nat} {xs : Nat → Int32} (C0 : lw_At p s m meth c b L xs) : ∃ G : zG, En p s m #[Value.ref b] meth c G s.heap.size 4 code "StreamIdsLaw" meth.name ret := by
  obtain ⟨hx, hb, hr, hml, hown, hts, hX, hbl, hlocks, hgv⟩ := C0
  have hg := flat_of_before _ hgv
  have hA : ∀ a : Nat, a < s.heap.size → ¬ (fun q : Nat => s.heap.size ≤ q) a := fun a h q => absurd q (Nat.not_le.mpr h)
  have htz : ∀ w ∈ zzW, w.before #[Value.ref b] s = true := fun w hw => hts w (zzW_tbl w hw)
  have kn : ∀ k : Nat, ∃ q : ClassId × (Nat → Nat), ∀ r, vwCl[k]? = some r → u_Kn s r.1 r.2.1 r.2.2 q.1 q.2 := by
    intro k
    match k with
    | 0 => exact kn_of htz jnw_W_7
    | 1 => exact kn_of htz jnw_S_9
    | 2 => exact kn_of htz jnw_S_25
    | 3 => exact kn_of htz jnw_S_32
    | 4 => exact kn_of htz jnw_S_19
    | 5 => exact kn_of htz jnw_D_26
    | 6 => exact kn_of htz jnw_R_15
    | 7 => exact kn_of htz jnw_W_10
    | k + 8 => exact ⟨(0, fun _ => 0), fun r h => by simp [vwCl] at h⟩
  obtain ⟨kf, hkf⟩ := Classical.axiomOfChoice kn
  have ar : ∀ k : Nat, ∃ cA : ClassId, ∀ t, zzTy[k]? = some t → ArrOfT s cA t ∧ va_RA s cA t := by
    intro k
    match k with
    | 0 => obtain ⟨cA, h⟩ := ar_of (htz _ jw_40) (fun C h => by cases h); exact ⟨cA, fun t ht => by cases ht; exact h⟩
    | 1 => obtain ⟨cA, h⟩ := ar_of (htz _ jw_62) (fun C h => by cases h); exact ⟨cA, fun t ht => by cases ht; exact h⟩
    | 2 => obtain ⟨cA, h⟩ := ar_of (htz _ jw_533) (fun C h => by cases h); exact ⟨cA, fun t ht => by cases ht; exact h⟩
    | 3 => obtain ⟨cA, h⟩ := ar_of (htz _ jw_534) (fun C h => by cases h); exact ⟨cA, fun t ht => by cases ht; exact h⟩
    | 4 => obtain ⟨cA, h⟩ := ao_of (hts (.arrayOver (.object "StreamIds$Entry")) (List.mem_append_right _ (List.mem_of_getElem? (i := 91) (by decide +kernel)))); exact ⟨cA, fun t ht => by cases ht; exact h⟩
    | 5 => obtain ⟨cA, h⟩ := ao_of (hts (.arrayOver (.object "StreamIds$Declaration")) (List.mem_append_right _ (List.mem_of_getElem? (i := 42) (by decide +kernel)))); exact ⟨cA, fun t ht => by cases ht; exact h⟩
    | k + 6 => exact ⟨0, fun t h => by simp [zzTy] at h⟩
  obtain ⟨af, haf⟩ := Classical.axiomOfChoice ar
  have tb : ∀ i : Nat, ∃ t : Nat, ∀ q, zzT[i]? = some q → va_Z q.1 q.2.1 "[I" (.ref t) (fun a => s.heap.size ≤ a) s s.heap ∧ va_T .int t q.2.2.length (fun j => .int (q.2.2.getD j 0)) (fun a => s.heap.size ≤ a) s s.heap := by
    intro i
    match i with
    | 0 =>
      obtain ⟨t, ht, hT⟩ := va_Tof (args := #[Value.ref b]) (tm := .static "StreamIds" "HASH_BEGIN" "[I") (ty := .int) (N := 5) (f := fun j => .int (([1732584193, -271733879, -1732584194, 271733878, -1009589776] : List Int32).getD j 0)) (A := fun a => s.heap.size ≤ a) (by decide) (hg _ (by decide +kernel)) (va_eqt (hg _ (by decide +kernel))) (fun j hj => by rcases lt5_z hj with rfl | rfl | rfl | rfl | rfl <;> exact va_eqt (hg _ (by decide +kernel))) hA
      exact ⟨t, fun q hq => by cases hq; exact ⟨va_Zof (hts (.laysStatic "StreamIds" "HASH_BEGIN" "[I") (List.mem_append_right _ (List.mem_of_getElem? (i := 419) (by decide +kernel)))) (hts (.initialized "StreamIds") (List.mem_append_right _ (List.mem_of_getElem? (i := 1) (by decide +kernel)))) ht hA, hT⟩⟩
    | 1 =>
      obtain ⟨t, ht, hT⟩ := va_Tof (args := #[Value.ref b]) (tm := .static "StreamIds" "ROUND_NUMBERS" "[I") (ty := .int) (N := 4) (f := fun j => .int (([1518500249, 1859775393, -1894007588, -899497514] : List Int32).getD j 0)) (A := fun a => s.heap.size ≤ a) (by decide) (hg _ (by decide +kernel)) (va_eqt (hg _ (by decide +kernel))) (fun j hj => by rcases lt4_z hj with rfl | rfl | rfl | rfl <;> exact va_eqt (hg _ (by decide +kernel))) hA
      exact ⟨t, fun q hq => by cases hq; exact ⟨va_Zof (hts (.laysStatic "StreamIds" "ROUND_NUMBERS" "[I") (List.mem_append_right _ (List.mem_of_getElem? (i := 443) (by decide +kernel)))) (hts (.initialized "StreamIds") (List.mem_append_right _ (List.mem_of_getElem? (i := 1) (by decide +kernel)))) ht hA, hT⟩⟩
    | i + 2 => exact ⟨0, fun q h => by simp [zzT] at h⟩
  obtain ⟨tf, htf⟩ := Classical.axiomOfChoice tb
  obtain ⟨adK, adV, hSt, hev⟩ := vk_Sof (args := #[Value.ref b]) (s := s) (N := zzX.length) (tm := ztm) (len := zzXl) (byt := zzXb) (A := fun a => s.heap.size ≤ a)
    (fun i hi => by rcases lt3 (show i < 3 from hi) with rfl | rfl | rfl <;> decide)
    (fun i hi => by rcases lt3 (show i < 3 from hi) with rfl | rfl | rfl <;> exact hg _ (by decide +kernel))
    (fun i hi => by rcases lt3 (show i < 3 from hi) with rfl | rfl | rfl <;> exact hg _ (by decide +kernel))
    (fun i hi => by rcases lt3 (show i < 3 from hi) with rfl | rfl | rfl <;> exact hg _ (by decide +kernel))
    (fun i hi => by rcases lt3 (show i < 3 from hi) with rfl | rfl | rfl <;> exact hg _ (by decide +kernel))
    (fun i hi j hj => by
      rcases lt3 (show i < 3 from hi) with rfl | rfl | rfl
      · rcases lt8 (show j < 8 from hj) with rfl | rfl | rfl | rfl | rfl | rfl | rfl | rfl <;> exact hg _ (by decide +kernel)
      · rcases lt3 (show j < 3 from hj) with rfl | rfl | rfl <;> exact hg _ (by decide +kernel)
      · rcases lt6 (show j < 6 from hj) with rfl | rfl | rfl | rfl | rfl | rfl <;> exact hg _ (by decide +kernel))
    (fun i j hi hj hij => by
      rcases lt3 (show i < 3 from hi) with rfl | rfl | rfl <;> rcases lt3 (show j < 3 from hj) with rfl | rfl | rfl
      · exact absurd rfl hij
      · exact Or.inl (hg _ (by decide +kernel))
      · exact Or.inl (hg _ (by decide +kernel))
      · exact Or.inr (hg _ (by decide +kernel))
      · exact absurd rfl hij
      · exact Or.inl (hg _ (by decide +kernel))
      · exact Or.inr (hg _ (by decide +kernel))
      · exact Or.inr (hg _ (by decide +kernel))
      · exact absurd rfl hij) hA
  refine ⟨((fun k => (kf k).1, fun k => (kf k).2), af, tf, adK, adV), hx, hb, hml, hown, htz, ⟨fun k r hq => hkf k r hq, fun k r hq => ?_⟩, ⟨fun q hq => va_Nw.of rfl (hts _ (zNF_tbl q hq)), fun q hq => va_Nw.of rfl (hts _ (zNM_tbl q hq))⟩, ⟨fun i q hq => htf i q hq, fun C hC => ?_, fun i q hq => ?_, va_Zqof (args := #[Value.ref b]) (hts (.laysStatic "jdk/internal/util/Preconditions" "SIOOBE_FORMATTER" "Ljava/util/function/BiFunction;") (List.mem_append_right _ (List.mem_of_getElem? (i := 385) (by decide +kernel)))) (hts (.initialized "jdk/internal/util/Preconditions") (List.mem_append_right _ (List.mem_of_getElem? (i := 14) (by decide +kernel)))) (hg _ (by decide +kernel)) hA, fun i q hq => ?_, hSt⟩, Nat.le_refl _, hlocks, hr, rfl⟩
  · have hq' : zzTy[k]? = some r.2 ∧ r.1 = af k := by
      rw [zty, List.getElem?_mapIdx] at hq
      cases hz : zzTy[k]? with
      | none => rw [hz] at hq; cases hq
      | some t => rw [hz] at hq; cases hq; exact ⟨rfl, rfl⟩
    rw [hq'.2]
    exact haf k _ hq'.1
  · rcases List.mem_cons.mp hC with rfl | hC
    · exact va_AO.of (hts (.arrayOver (.object "StreamIds$Declaration")) (List.mem_append_right _ (List.mem_of_getElem? (i := 42) (by decide +kernel))))
    · rcases List.mem_cons.mp hC with rfl | hC
      · exact va_AO.of (hts (.arrayOver (.object "StreamIds$Entry")) (List.mem_append_right _ (List.mem_of_getElem? (i := 91) (by decide +kernel))))
      · exact absurd hC List.not_mem_nil
  · match i, hq with
    | 0, hq => cases hq; exact va_Zof (hts (.laysStatic "java/lang/String" "COMPACT_STRINGS" "Z") (List.mem_append_right _ (List.mem_of_getElem? (i := 369) (by decide +kernel)))) (hts (.initialized "java/lang/String") (List.mem_append_right _ (List.mem_of_getElem? (i := 12) (by decide +kernel)))) (va_eqt (hg _ (by decide +kernel))) hA
    | i + 1, hq => simp [zzI] at hq
  · match i, hq with
    | 0, hq => cases hq; exact vk_R.of (hts (.stringRef "StreamIds$Layout" 81 "<clinit>") (List.mem_append_right _ (List.mem_of_getElem? (i := 355) (by decide +kernel)))) (hev 0 (by decide))
    | 1, hq => cases hq; exact vk_R.of (hts (.stringRef "StreamIds$Layout" 87 "()V") (List.mem_append_right _ (List.mem_of_getElem? (i := 408) (by decide +kernel)))) (hev 1 (by decide))
    | 2, hq => cases hq; exact vk_R.of (hts (.stringRef "StreamIds$Layout" 88 "<init>") (List.mem_append_right _ (List.mem_of_getElem? (i := 409) (by decide +kernel)))) (hev 2 (by decide))
    | i + 3, hq => simp [zzX] at hq
