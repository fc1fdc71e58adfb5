/-! THE WORLD: the cells made since the base B, one behind the other: cell i lies at the address B + i. -/
abbrev zE : Type := List va_E
/-- the classes' numbers and slots; the array classes; the addresses of the static tables, of the texts, of the texts' bytes -/
abbrev zG : Type := va_G × (Nat → ClassId) × (Nat → Nat) × (Nat → Nat) × (Nat → Nat)
def zw (B : Nat) (es : zE) : va_W := es.mapIdx (fun i e => (B + i, e))
theorem zw_get {B i : Nat} {es : zE} : (zw B es)[i]? = (es[i]?).map (fun e => (B + i, e)) := by simp [zw]
theorem zw_at {B i : Nat} {es : zE} {e : va_E} (h : es[i]? = some e) : (zw B es)[i]? = some (B + i, e) := by rw [zw_get, h]; rfl
theorem zw_inv {B i : Nat} {es : zE} {q : Nat × va_E} (h : (zw B es)[i]? = some q) : ∃ e, es[i]? = some e ∧ q = (B + i, e) := by
  rw [zw_get] at h
  cases he : es[i]? with
  | none => rw [he] at h; cases h
  | some e => rw [he] at h; exact ⟨e, rfl, (Option.some.inj h).symm⟩
theorem zw_set {B i : Nat} {es : zE} {e : va_E} : (zw B es).set i (B + i, e) = zw B (es.set i e) := by
  apply List.ext_getElem?
  intro j
  rw [zw_get]
  by_cases h : i = j
  · subst h
    by_cases hl : i < es.length
    · rw [List.getElem?_set_self (by simpa [zw] using hl), List.getElem?_set_self hl]; rfl
    · rw [List.getElem?_eq_none (by simp [zw]; omega), List.getElem?_eq_none (by simp; omega)]; rfl
  · rw [List.getElem?_set_ne h, List.getElem?_set_ne h, zw_get]
theorem zw_D {B : Nat} {es : zE} : va_D (fun q => B ≤ q) (zw B es) := by
  refine ⟨fun i j p q hi hj h => ?_, fun k q hk => ?_⟩
  · obtain ⟨e, -, rfl⟩ := zw_inv hi
    obtain ⟨e', -, rfl⟩ := zw_inv hj
    have h : B + i = B + j := h
    omega
  · obtain ⟨e, -, rfl⟩ := zw_inv hk
    exact Nat.le_add_right B k
def zH (G : zG) (B : Nat) (es : zE) (H : Heap) : Prop := H.size = B + es.length ∧ va_P G.1 vwCl (zw B es) H
theorem zH.upd {G : zG} {B i : Nat} {es : zE} {e : va_E} {H H1 : Heap} (h : zH G B es H) (hz : H1.size = H.size) (hP : va_P G.1 vwCl ((zw B es).set i (B + i, e)) H1) : zH G B (es.set i e) H1 := ⟨by rw [hz, h.1, List.length_set], by rw [← zw_set]; exact hP⟩
theorem zH.new {G : zG} {B : Nat} {es : zE} {e : va_E} {H H1 : Heap} (h : zH G B es H) (hz : H1.size = H.size + 1) (ho : ∀ q, q < H.size → H1[q]? = H[q]?) (hn : va_at G.1 vwCl (H.size, e) H1) : zH G B (es ++ [e]) H1 := by
  refine ⟨by rw [hz, h.1, List.length_append]; rfl, fun i q hq => ?_⟩
  obtain ⟨e', he, rfl⟩ := zw_inv hq
  by_cases hl : i < es.length
  · rw [List.getElem?_append_left hl] at he
    have := h.2 i _ (zw_at he)
    exact this.kept (ho _ this.lt)
  · have hi : i = es.length := by
      have := (List.getElem?_eq_some_iff.mp he).1
      rw [List.length_append] at this
      have h1 : ([e] : zE).length = 1 := rfl
      omega
    subst hi
    rw [List.getElem?_append_right (Nat.le_refl _), Nat.sub_self] at he
    cases he
    rw [← h.1]
    exact hn
theorem zH.lt {G : zG} {B i : Nat} {es : zE} {e : va_E} {H : Heap} (h : zH G B es H) (he : es[i]? = some e) : B + i < H.size := by
  have := (List.getElem?_eq_some_iff.mp he).1
  rw [h.1]; omega
/-! locals: by places; the second half of a long is none -/
def zl (la : Array Slot) (nL : Nat) (ls : List (Option Value)) : Prop := la.size = nL ∧ lv_wf la ∧ ∀ (i : Nat) (v : Value), ls[i]? = some (some v) → la[i]? = some (.val v)
def za : Nat → List (Option Value) → List (Nat × Value)
  | _, [] => []
  | i, none :: t => za (i + 1) t
  | i, some v :: t => (i, v) :: za (i + 1) t
theorem za_mem {v : Value} : ∀ (ls : List (Option Value)) (i j : Nat), (j, v) ∈ za i ls ↔ ∃ k, j = i + k ∧ ls[k]? = some (some v)
  | [], i, j => by simp [za]
  | none :: t, i, j => by
    rw [show za i (none :: t) = za (i + 1) t from rfl, za_mem t (i + 1) j]
    constructor
    · rintro ⟨k, h1, h2⟩; exact ⟨k + 1, by omega, by simpa using h2⟩
    · rintro ⟨k, h1, h2⟩
      cases k with
      | zero => simp at h2
      | succ k => exact ⟨k, by omega, by simpa using h2⟩
  | some w :: t, i, j => by
    rw [show za i (some w :: t) = (i, w) :: za (i + 1) t from rfl, List.mem_cons, za_mem t (i + 1) j]
    constructor
    · rintro (h | ⟨k, h1, h2⟩)
      · cases h; exact ⟨0, rfl, rfl⟩
      · exact ⟨k + 1, by omega, by simpa using h2⟩
    · rintro ⟨k, h1, h2⟩
      cases k with
      | zero =>
        left
        have h3 : w = v := by simpa using h2
        rw [h3, h1]; rfl
      | succ k => right; exact ⟨k, by omega, by simpa using h2⟩
theorem zl.has {la : Array Slot} {nL : Nat} {ls : List (Option Value)} (h : zl la nL ls) : lv_has la nL (za 0 ls) := by
  refine ⟨h.1, h.2.1, fun q hq => ?_⟩
  obtain ⟨i, v⟩ := q
  obtain ⟨k, h1, h2⟩ := (za_mem ls 0 i).mp hq
  have : i = k := by omega
  subst this
  exact h.2.2 i v h2
def zprev (ls : List (Option Value)) : Nat → Bool
  | 0 => true
  | k + 1 => match ls[k]? with
    | some (some v) => v.category == 1
    | _ => true
theorem zprev_ok {ls : List (Option Value)} {i : Nat} (hp : zprev ls i = true) {j : Nat} {w : Value} (h : ls[j]? = some (some w)) (hj : j + 1 = i) : w.category = 1 := by
  subst hj
  rw [show zprev ls (j + 1) = (match ls[j]? with | some (some v) => v.category == 1 | _ => true) from rfl, h] at hp
  simpa using hp
theorem zl.st1 {la : Array Slot} {nL : Nat} {ls : List (Option Value)} {i : Nat} {v : Value} (hp : zprev ls i = true) (h : lv_has la nL ((i, v) :: (za 0 ls).filter (fun q => !(q.1 == i) && !(q.1 + 1 == i && q.2.category == 2)))) : zl la nL (ls.set i (some v)) := by
  refine ⟨h.1, h.2.1, fun j w hj => ?_⟩
  by_cases hij : i = j
  · subst hij
    have hl : i < ls.length := by
      have := (List.getElem?_eq_some_iff.mp hj).1
      simpa using this
    rw [List.getElem?_set_self hl] at hj
    cases hj
    exact h.2.2 (i, v) List.mem_cons_self
  · rw [List.getElem?_set_ne hij] at hj
    refine h.2.2 (j, w) (List.mem_cons_of_mem _ (List.mem_filter.mpr ⟨(za_mem ls 0 j).mpr ⟨j, by omega, hj⟩, ?_⟩))
    have h1 : (j == i) = false := by simp; omega
    by_cases h2 : j + 1 = i
    · have h3 := zprev_ok hp hj h2
      simp [h1, h3]
    · have h4 : (j + 1 == i) = false := by simp; omega
      simp [h1, h4]
theorem zl.st2 {la : Array Slot} {nL : Nat} {ls : List (Option Value)} {i : Nat} {v : Value} (hp : zprev ls i = true) (h : lv_has la nL ((i, v) :: (za 0 ls).filter (fun q => !(q.1 == i) && (!(q.1 == i + 1) && !(q.1 + 1 == i && q.2.category == 2))))) : zl la nL ((ls.set i (some v)).set (i + 1) none) := by
  refine ⟨h.1, h.2.1, fun j w hj => ?_⟩
  by_cases hj1 : i + 1 = j
  · subst hj1
    have hl : i + 1 < (ls.set i (some v)).length := by
      have := (List.getElem?_eq_some_iff.mp hj).1
      simpa using this
    rw [List.getElem?_set_self hl] at hj
    cases hj
  · rw [List.getElem?_set_ne hj1] at hj
    by_cases hij : i = j
    · subst hij
      have hl : i < ls.length := by
        have := (List.getElem?_eq_some_iff.mp hj).1
        simpa using this
      rw [List.getElem?_set_self hl] at hj
      cases hj
      exact h.2.2 (i, v) List.mem_cons_self
    · rw [List.getElem?_set_ne hij] at hj
      refine h.2.2 (j, w) (List.mem_cons_of_mem _ (List.mem_filter.mpr ⟨(za_mem ls 0 j).mpr ⟨j, by omega, hj⟩, ?_⟩))
      have h1 : (j == i) = false := by simp; omega
      have h5 : (j == i + 1) = false := by simp; omega
      by_cases h2 : j + 1 = i
      · have h3 := zprev_ok hp hj h2
        simp [h1, h3, h5]
      · have h4 : (j + 1 == i) = false := by simp; omega
        simp [h1, h4, h5]
theorem zl.sub {la : Array Slot} {nL : Nat} {ls ls' : List (Option Value)} (h : zl la nL ls) (hs : ∀ (i : Nat) (v : Value), ls'[i]? = some (some v) → ls[i]? = some (some v)) : zl la nL ls' := ⟨h.1, h.2.1, fun i v hv => h.2.2 i v (hs i v hv)⟩
/-- a method's locals at its entry -/
def zent : List Value → Nat → List (Option Value)
  | [], n => List.replicate n none
  | v :: vs, n => if v.category = 2 then some v :: none :: zent vs (n - 2) else some v :: zent vs (n - 1)
theorem zent_args {w : Value} : ∀ (vs : List Value) (n i j : Nat), (zent vs n)[j]? = some (some w) → (i + j, w) ∈ lv_args i vs
  | [], n, i, j, h => by
    rw [show zent [] n = List.replicate n none from rfl, List.getElem?_replicate] at h
    split at h <;> cases h
  | v :: vs, n, i, j, h => by
    rw [show lv_args i (v :: vs) = (i, v) :: lv_args (if v.category = 2 then i + 2 else i + 1) vs from rfl]
    by_cases hc : v.category = 2
    · rw [show zent (v :: vs) n = some v :: none :: zent vs (n - 2) by rw [zent, if_pos hc]] at h
      rw [if_pos hc]
      match j, h with
      | 0, h =>
        have h3 : v = w := by simpa using h
        rw [h3]; exact List.mem_cons_self
      | 1, h => simp at h
      | j + 2, h =>
        have := zent_args vs (n - 2) (i + 2) j (by simpa using h)
        rw [show i + (j + 2) = i + 2 + j by omega]
        exact List.mem_cons_of_mem _ this
    · rw [show zent (v :: vs) n = some v :: zent vs (n - 1) by rw [zent, if_neg hc]] at h
      rw [if_neg hc]
      match j, h with
      | 0, h =>
        have h3 : v = w := by simpa using h
        rw [h3]; exact List.mem_cons_self
      | j + 1, h =>
        have := zent_args vs (n - 1) (i + 1) j (by simpa using h)
        rw [show i + (j + 1) = i + 1 + j by omega]
        exact List.mem_cons_of_mem _ this
/-- the array classes that the worlds hold -/
def zty (G : zG) : List (ClassId × FieldType) := zzTy.mapIdx (fun i t => (G.2.1 i, t))
theorem zty_at {G : zG} {i : Nat} {t : FieldType} (h : zzTy[i]? = some t) : (zty G)[i]? = some (G.2.1 i, t) := by simp [zty, h]
/-- the words of nest mates -/
def zN (U : State) : Prop := (∀ q ∈ zzNF, va_Nw (.fieldLinkNest q.1 q.2.1 q.2.2.1 q.2.2.2.1 q.2.2.2.2.1 q.2.2.2.2.2) U) ∧ ∀ q ∈ zzNM, va_Nw (.methodLinkNest q.1 q.2.1 q.2.2.1 q.2.2.2) U
theorem zN.warm {s U : State} (hW : s.WarmedH U.vm) (h : zN s) : zN U := ⟨fun q hq => (h.1 q hq).warmF hW, fun q hq => (h.2 q hq).warmM hW⟩
theorem zN.same {u U : State} (hv : u.vm = U.vm) (h : zN u) : zN U := ⟨fun q hq => va_Nw.same rfl hv (h.1 q hq), fun q hq => va_Nw.same rfl hv (h.2 q hq)⟩
/-- what nobody writes: static tables of ints; arrays of objects that can be made; texts -/
def zS (G : zG) (B : Nat) (U : State) (H : Heap) : Prop :=
  (∀ (i : Nat) (q : String × String × List Int32), zzT[i]? = some q → va_Z q.1 q.2.1 "[I" (.ref (G.2.2.1 i)) (fun a => B ≤ a) U H ∧ va_T .int (G.2.2.1 i) q.2.2.length (fun j => .int (q.2.2.getD j 0)) (fun a => B ≤ a) U H) ∧
  (∀ C ∈ zzAO, va_AO C U) ∧
  (∀ (i : Nat) (q : String × String × String × Int32), zzI[i]? = some q → va_Z q.1 q.2.1 q.2.2.1 (.int q.2.2.2) (fun a => B ≤ a) U H) ∧ va_Zq "jdk/internal/util/Preconditions" "SIOOBE_FORMATTER" "Ljava/util/function/BiFunction;" (fun a => B ≤ a) U H ∧
  (∀ (i : Nat) (q : String × Nat × String), zzX[i]? = some q → vk_R q.1 q.2.1 q.2.2 (G.2.2.2.1 i) U) ∧ vk_S zzX.length zzXl zzXb G.2.2.2.1 G.2.2.2.2 (fun a => B ≤ a) U H
theorem zS.warm {G : zG} {B : Nat} {s U : State} {H : Heap} (hW : s.WarmedH U.vm) (h : zS G B s H) : zS G B U H :=
  ⟨fun i q hq => ⟨(h.1 i q hq).1.moved hW.alike, (h.1 i q hq).2.moved hW.alike⟩, fun C hC => (h.2.1 C hC).moved hW.alike, fun i q hq => (h.2.2.1 i q hq).moved hW.alike, h.2.2.2.1.moved hW.alike, fun i q hq => (h.2.2.2.2.1 i q hq).warm hW, h.2.2.2.2.2.moved hW.alike⟩
theorem zS.same {G : zG} {B : Nat} {u U : State} {H : Heap} (hv : u.vm = U.vm) (h : zS G B u H) : zS G B U H := by
  have ha : u.vm.Alike U.vm := by rw [hv]; exact Vm.Alike.refl _
  exact ⟨fun i q hq => ⟨(h.1 i q hq).1.moved ha, (h.1 i q hq).2.moved ha⟩, fun C hC => (h.2.1 C hC).moved ha, fun i q hq => (h.2.2.1 i q hq).moved ha, h.2.2.2.1.moved ha, fun i q hq => (h.2.2.2.2.1 i q hq).same hv.symm, h.2.2.2.2.2.moved ha⟩
theorem zS.kept {G : zG} {B : Nat} {U : State} {H H1 : Heap} (h : zS G B U H) (hq : ∀ a : Nat, a < H.size → ¬ B ≤ a → H1[a]? = H[a]?) : zS G B U H1 :=
  ⟨fun i q h9 => ⟨(h.1 i q h9).1.kept hq, (h.1 i q h9).2.kept hq⟩, h.2.1, fun i q h9 => (h.2.2.1 i q h9).kept hq, h.2.2.2.1.kept hq, h.2.2.2.2.1, h.2.2.2.2.2.kept hq⟩
def zU (G : zG) (B : Nat) (es : zE) (U : State) : Prop := zH G B es U.heap ∧ va_K G.1 vwCl (zty G) U ∧ zN U ∧ zS G B U U.heap
abbrev zr (d mc ms : Nat) : Room := { frames := d, cells := mc, slots := ms, locals := 40 * d }
def zQ (G : zG) (B : Nat) (P : Option Value → zE → Prop) : Array Value → State → Outcome → State → Prop := fun _ st oc t => (∃ (r : Option Value) (es : zE), oc = .returned r ∧ P r es ∧ zH G B es t.heap) ∧ va_F (fun q => B ≤ q) st t
/-- A CONTRACT: at the world es, with the arguments av, the method returns, and P holds of its answer and of the world behind it -/
def Tr (l : Launch) (G : zG) (B : Nat) (y : MethodName) (cc : ByteArray) (maxL : Nat) (ret : Option FieldType) (d mc ms : Nat) (av : List Value) (es : zE) (P : Option Value → zE → Prop) : Prop :=
  Met l y (Cond.code y cc maxL ret :: zzW) (zr d mc ms) (va_Pc av (zU G B es)) (zQ G B P) mc ms (fun q => B ≤ q)
def Zj (p : Program) (l : Launch) (e : Env) (R : Room) (s : State) (m : MethodId) (args : Array Value) (below : List Frame) (meth : Method) (c : Code) (Q : State → Prop) (G : zG) (B nL k n pc : Nat) (ls : List (Option Value)) (st : List Value) (es : zE) : Prop :=
  ∀ (H : Heap) (lo : List Loc) (la : Array Slot), zH G B es H → va_S (fun q => B ≤ q) s.heap H lo → zl la nL ls → W p l e R s m args below meth c H lo k n Q (F0 m pc la st)
def En (p : Program) (s : State) (m : MethodId) (args : Array Value) (meth : Method) (c : Code) (G : zG) (B nL : Nat) (cc : ByteArray) (own mn : String) (rt : Option FieldType) : Prop :=
  p.tables.exec = Jvm.exec ∧ c.code = cc ∧ c.maxLocals = nL ∧ s.vm.findClass own = some m.cls ∧ (∀ w ∈ zzW, w.before args s = true) ∧ va_K G.1 vwCl (zty G) s ∧ zN s ∧ zS G B s s.heap ∧ B ≤ s.heap.size ∧ meth.locks = false ∧ meth.sig.returnType = rt ∧ meth.name = mn
section ZR
variable {p : Program} {l : Launch} {e : Env} {R : Room} {s : State} {m : MethodId} {args : Array Value} {below : List Frame} {meth : Method} {c : Code} {Q : State → Prop} {G : zG} {B nL k n pc : Nat} {ls : List (Option Value)} {st : List Value} {es : zE} {cc : ByteArray} {own mn : String} {rt : Option FieldType}
theorem z_iadd (E : En p s m args meth c G B nL cc own mn rt) {x y : Int32} (d : decode cc pc = .ok (.iadd, 1))  (kk : Zj p l e R s m args below meth c Q G B nL k n (pc + 1) ls (.int (x + y) :: st) es) : Zj p l e R s m args below meth c Q G B nL k n (pc) ls (.int y :: .int x :: st) es :=
  fun H lo la hW hS hl => lv_iadd E.1 E.2.1 d (kk H lo la hW hS hl)
theorem z_isub (E : En p s m args meth c G B nL cc own mn rt) {x y : Int32} (d : decode cc pc = .ok (.isub, 1))  (kk : Zj p l e R s m args below meth c Q G B nL k n (pc + 1) ls (.int (x - y) :: st) es) : Zj p l e R s m args below meth c Q G B nL k n (pc) ls (.int y :: .int x :: st) es :=
  fun H lo la hW hS hl => lv_isub E.1 E.2.1 d (kk H lo la hW hS hl)
theorem z_imul (E : En p s m args meth c G B nL cc own mn rt) {x y : Int32} (d : decode cc pc = .ok (.imul, 1))  (kk : Zj p l e R s m args below meth c Q G B nL k n (pc + 1) ls (.int (x * y) :: st) es) : Zj p l e R s m args below meth c Q G B nL k n (pc) ls (.int y :: .int x :: st) es :=
  fun H lo la hW hS hl => lv_imul E.1 E.2.1 d (kk H lo la hW hS hl)
theorem z_iand (E : En p s m args meth c G B nL cc own mn rt) {x y : Int32} (d : decode cc pc = .ok (.iand, 1))  (kk : Zj p l e R s m args below meth c Q G B nL k n (pc + 1) ls (.int (x &&& y) :: st) es) : Zj p l e R s m args below meth c Q G B nL k n (pc) ls (.int y :: .int x :: st) es :=
  fun H lo la hW hS hl => lv_iand E.1 E.2.1 d (kk H lo la hW hS hl)
theorem z_ior (E : En p s m args meth c G B nL cc own mn rt) {x y : Int32} (d : decode cc pc = .ok (.ior, 1))  (kk : Zj p l e R s m args below meth c Q G B nL k n (pc + 1) ls (.int (x ||| y) :: st) es) : Zj p l e R s m args below meth c Q G B nL k n (pc) ls (.int y :: .int x :: st) es :=
  fun H lo la hW hS hl => lv_ior E.1 E.2.1 d (kk H lo la hW hS hl)
theorem z_ixor (E : En p s m args meth c G B nL cc own mn rt) {x y : Int32} (d : decode cc pc = .ok (.ixor, 1))  (kk : Zj p l e R s m args below meth c Q G B nL k n (pc + 1) ls (.int (x ^^^ y) :: st) es) : Zj p l e R s m args below meth c Q G B nL k n (pc) ls (.int y :: .int x :: st) es :=
  fun H lo la hW hS hl => lv_ixor E.1 E.2.1 d (kk H lo la hW hS hl)
theorem z_ishl (E : En p s m args meth c G B nL cc own mn rt) {x y : Int32} (d : decode cc pc = .ok (.ishl, 1))  (kk : Zj p l e R s m args below meth c Q G B nL k n (pc + 1) ls (.int (x <<< (y &&& 31)) :: st) es) : Zj p l e R s m args below meth c Q G B nL k n (pc) ls (.int y :: .int x :: st) es :=
  fun H lo la hW hS hl => lv_ishl E.1 E.2.1 d (kk H lo la hW hS hl)
theorem z_ishr (E : En p s m args meth c G B nL cc own mn rt) {x y : Int32} (d : decode cc pc = .ok (.ishr, 1))  (kk : Zj p l e R s m args below meth c Q G B nL k n (pc + 1) ls (.int (x >>> (y &&& 31)) :: st) es) : Zj p l e R s m args below meth c Q G B nL k n (pc) ls (.int y :: .int x :: st) es :=
  fun H lo la hW hS hl => lv_ishr E.1 E.2.1 d (kk H lo la hW hS hl)
theorem z_idiv (E : En p s m args meth c G B nL cc own mn rt) {x y : Int32} (d : decode cc pc = .ok (.idiv, 1)) (hne : ¬ y = 0) (kk : Zj p l e R s m args below meth c Q G B nL k n (pc + 1) ls (.int (x / y) :: st) es) : Zj p l e R s m args below meth c Q G B nL k n (pc) ls (.int y :: .int x :: st) es :=
  fun H lo la hW hS hl => lv_idiv E.1 E.2.1 d hne (kk H lo la hW hS hl)
theorem z_irem (E : En p s m args meth c G B nL cc own mn rt) {x y : Int32} (d : decode cc pc = .ok (.irem, 1)) (hne : ¬ y = 0) (kk : Zj p l e R s m args below meth c Q G B nL k n (pc + 1) ls (.int (x - x / y * y) :: st) es) : Zj p l e R s m args below meth c Q G B nL k n (pc) ls (.int y :: .int x :: st) es :=
  fun H lo la hW hS hl => lv_irem E.1 E.2.1 d hne (kk H lo la hW hS hl)
theorem z_ineg (E : En p s m args meth c G B nL cc own mn rt) {x : Int32} (d : decode cc pc = .ok (.ineg, 1))  (kk : Zj p l e R s m args below meth c Q G B nL k n (pc + 1) ls (.int (-x) :: st) es) : Zj p l e R s m args below meth c Q G B nL k n (pc) ls (.int x :: st) es :=
  fun H lo la hW hS hl => lv_ineg E.1 E.2.1 d (kk H lo la hW hS hl)
theorem z_lneg (E : En p s m args meth c G B nL cc own mn rt) {x : Int64} (d : decode cc pc = .ok (.lneg, 1))  (kk : Zj p l e R s m args below meth c Q G B nL k n (pc + 1) ls (.long (-x) :: st) es) : Zj p l e R s m args below meth c Q G B nL k n (pc) ls (.long x :: st) es :=
  fun H lo la hW hS hl => lv_lneg E.1 E.2.1 d (kk H lo la hW hS hl)
theorem z_ladd (E : En p s m args meth c G B nL cc own mn rt) {x y : Int64} (d : decode cc pc = .ok (.ladd, 1))  (kk : Zj p l e R s m args below meth c Q G B nL k n (pc + 1) ls (.long (x + y) :: st) es) : Zj p l e R s m args below meth c Q G B nL k n (pc) ls (.long y :: .long x :: st) es :=
  fun H lo la hW hS hl => lv_ladd E.1 E.2.1 d (kk H lo la hW hS hl)
theorem z_lsub (E : En p s m args meth c G B nL cc own mn rt) {x y : Int64} (d : decode cc pc = .ok (.lsub, 1))  (kk : Zj p l e R s m args below meth c Q G B nL k n (pc + 1) ls (.long (x - y) :: st) es) : Zj p l e R s m args below meth c Q G B nL k n (pc) ls (.long y :: .long x :: st) es :=
  fun H lo la hW hS hl => lv_lsub E.1 E.2.1 d (kk H lo la hW hS hl)
theorem z_lmul (E : En p s m args meth c G B nL cc own mn rt) {x y : Int64} (d : decode cc pc = .ok (.lmul, 1))  (kk : Zj p l e R s m args below meth c Q G B nL k n (pc + 1) ls (.long (x * y) :: st) es) : Zj p l e R s m args below meth c Q G B nL k n (pc) ls (.long y :: .long x :: st) es :=
  fun H lo la hW hS hl => lv_lmul E.1 E.2.1 d (kk H lo la hW hS hl)
theorem z_land (E : En p s m args meth c G B nL cc own mn rt) {x y : Int64} (d : decode cc pc = .ok (.land, 1))  (kk : Zj p l e R s m args below meth c Q G B nL k n (pc + 1) ls (.long (x &&& y) :: st) es) : Zj p l e R s m args below meth c Q G B nL k n (pc) ls (.long y :: .long x :: st) es :=
  fun H lo la hW hS hl => lv_land E.1 E.2.1 d (kk H lo la hW hS hl)
theorem z_lor (E : En p s m args meth c G B nL cc own mn rt) {x y : Int64} (d : decode cc pc = .ok (.lor, 1))  (kk : Zj p l e R s m args below meth c Q G B nL k n (pc + 1) ls (.long (x ||| y) :: st) es) : Zj p l e R s m args below meth c Q G B nL k n (pc) ls (.long y :: .long x :: st) es :=
  fun H lo la hW hS hl => lv_lor E.1 E.2.1 d (kk H lo la hW hS hl)
theorem z_lxor (E : En p s m args meth c G B nL cc own mn rt) {x y : Int64} (d : decode cc pc = .ok (.lxor, 1))  (kk : Zj p l e R s m args below meth c Q G B nL k n (pc + 1) ls (.long (x ^^^ y) :: st) es) : Zj p l e R s m args below meth c Q G B nL k n (pc) ls (.long y :: .long x :: st) es :=
  fun H lo la hW hS hl => lv_lxor E.1 E.2.1 d (kk H lo la hW hS hl)
theorem z_iushr (E : En p s m args meth c G B nL cc own mn rt) {x y : Int32} (d : decode cc pc = .ok (.iushr, 1))  (kk : Zj p l e R s m args below meth c Q G B nL k n (pc + 1) ls (.int ((x.toUInt32 >>> (y.toUInt32 &&& Int32.toUInt32 31)).toInt32) :: st) es) : Zj p l e R s m args below meth c Q G B nL k n (pc) ls (.int y :: .int x :: st) es :=
  fun H lo la hW hS hl => lv_iushr E.1 E.2.1 d rfl (kk H lo la hW hS hl)
theorem z_lushr (E : En p s m args meth c G B nL cc own mn rt) {x : Int64} {y : Int32} (d : decode cc pc = .ok (.lushr, 1))  (kk : Zj p l e R s m args below meth c Q G B nL k n (pc + 1) ls (.long ((x.toUInt64 >>> (y.toInt64.toUInt64 &&& Int64.toUInt64 63)).toInt64) :: st) es) : Zj p l e R s m args below meth c Q G B nL k n (pc) ls (.int y :: .long x :: st) es :=
  fun H lo la hW hS hl => lv_lushr E.1 E.2.1 d rfl (kk H lo la hW hS hl)
theorem z_lshl (E : En p s m args meth c G B nL cc own mn rt) {x : Int64} {y : Int32} (d : decode cc pc = .ok (.lshl, 1))  (kk : Zj p l e R s m args below meth c Q G B nL k n (pc + 1) ls (.long (x <<< (y.toInt64 &&& 63)) :: st) es) : Zj p l e R s m args below meth c Q G B nL k n (pc) ls (.int y :: .long x :: st) es :=
  fun H lo la hW hS hl => lv_lshl E.1 E.2.1 d rfl (kk H lo la hW hS hl)
theorem z_lshr (E : En p s m args meth c G B nL cc own mn rt) {x : Int64} {y : Int32} (d : decode cc pc = .ok (.lshr, 1))  (kk : Zj p l e R s m args below meth c Q G B nL k n (pc + 1) ls (.long (x >>> (y.toInt64 &&& 63)) :: st) es) : Zj p l e R s m args below meth c Q G B nL k n (pc) ls (.int y :: .long x :: st) es :=
  fun H lo la hW hS hl => lv_lshr E.1 E.2.1 d rfl (kk H lo la hW hS hl)
theorem z_i2l (E : En p s m args meth c G B nL cc own mn rt) {x : Int32} (d : decode cc pc = .ok (.i2l, 1))  (kk : Zj p l e R s m args below meth c Q G B nL k n (pc + 1) ls (.long x.toInt64 :: st) es) : Zj p l e R s m args below meth c Q G B nL k n (pc) ls (.int x :: st) es :=
  fun H lo la hW hS hl => lv_i2l E.1 E.2.1 d rfl (kk H lo la hW hS hl)
theorem z_l2i (E : En p s m args meth c G B nL cc own mn rt) {x : Int64} (d : decode cc pc = .ok (.l2i, 1))  (kk : Zj p l e R s m args below meth c Q G B nL k n (pc + 1) ls (.int x.toInt32 :: st) es) : Zj p l e R s m args below meth c Q G B nL k n (pc) ls (.long x :: st) es :=
  fun H lo la hW hS hl => lv_l2i E.1 E.2.1 d rfl (kk H lo la hW hS hl)
theorem z_i2b (E : En p s m args meth c G B nL cc own mn rt) {x : Int32} (d : decode cc pc = .ok (.i2b, 1))  (kk : Zj p l e R s m args below meth c Q G B nL k n (pc + 1) ls (.int x.toInt8.toInt32 :: st) es) : Zj p l e R s m args below meth c Q G B nL k n (pc) ls (.int x :: st) es :=
  fun H lo la hW hS hl => lv_i2b E.1 E.2.1 d rfl (kk H lo la hW hS hl)
theorem z_i2s (E : En p s m args meth c G B nL cc own mn rt) {x : Int32} (d : decode cc pc = .ok (.i2s, 1))  (kk : Zj p l e R s m args below meth c Q G B nL k n (pc + 1) ls (.int x.toInt16.toInt32 :: st) es) : Zj p l e R s m args below meth c Q G B nL k n (pc) ls (.int x :: st) es :=
  fun H lo la hW hS hl => lv_i2s E.1 E.2.1 d rfl (kk H lo la hW hS hl)
theorem z_i2c (E : En p s m args meth c G B nL cc own mn rt) {x : Int32} (d : decode cc pc = .ok (.i2c, 1))  (kk : Zj p l e R s m args below meth c Q G B nL k n (pc + 1) ls (.int (x.toUInt32 % 65536).toInt32 :: st) es) : Zj p l e R s m args below meth c Q G B nL k n (pc) ls (.int x :: st) es :=
  fun H lo la hW hS hl => lv_i2c E.1 E.2.1 d rfl (kk H lo la hW hS hl)
theorem z_iconst (E : En p s m args meth c G B nL cc own mn rt) {z : Int} {v : Int32} (d : decode cc pc = .ok (.iconst z, 1)) (hv : Int32.ofInt z = v) (kk : Zj p l e R s m args below meth c Q G B nL k n (pc + 1) ls (.int v :: st) es) : Zj p l e R s m args below meth c Q G B nL k n (pc) ls (st) es :=
  fun H lo la hW hS hl => lv_iconst E.1 E.2.1 d hv (kk H lo la hW hS hl)
theorem z_bipush (E : En p s m args meth c G B nL cc own mn rt) {z : Int} {v : Int32} (d : decode cc pc = .ok (.bipush z, 2)) (hv : (Int8.ofInt z).toInt32 = v) (kk : Zj p l e R s m args below meth c Q G B nL k n (pc + 2) ls (.int v :: st) es) : Zj p l e R s m args below meth c Q G B nL k n (pc) ls (st) es :=
  fun H lo la hW hS hl => lv_bipush E.1 E.2.1 d hv (kk H lo la hW hS hl)
theorem z_sipush (E : En p s m args meth c G B nL cc own mn rt) {z : Int} {v : Int32} (d : decode cc pc = .ok (.sipush z, 3)) (hv : (Int16.ofInt z).toInt32 = v) (kk : Zj p l e R s m args below meth c Q G B nL k n (pc + 3) ls (.int v :: st) es) : Zj p l e R s m args below meth c Q G B nL k n (pc) ls (st) es :=
  fun H lo la hW hS hl => lv_sipush E.1 E.2.1 d hv (kk H lo la hW hS hl)
theorem z_lconst (E : En p s m args meth c G B nL cc own mn rt) {z : Fin 2} {v : Int64} (d : decode cc pc = .ok (.lconst z, 1)) (hv : Int64.ofNat (z : Nat) = v) (kk : Zj p l e R s m args below meth c Q G B nL k n (pc + 1) ls (.long v :: st) es) : Zj p l e R s m args below meth c Q G B nL k n (pc) ls (st) es :=
  fun H lo la hW hS hl => lv_lconst E.1 E.2.1 d hv (kk H lo la hW hS hl)
theorem z_null (E : En p s m args meth c G B nL cc own mn rt)  (d : decode cc pc = .ok (.aconst_null, 1))  (kk : Zj p l e R s m args below meth c Q G B nL k n (pc + 1) ls (.null :: st) es) : Zj p l e R s m args below meth c Q G B nL k n (pc) ls (st) es :=
  fun H lo la hW hS hl => lv_null E.1 E.2.1 d (kk H lo la hW hS hl)
theorem z_iload_n (E : En p s m args meth c G B nL cc own mn rt) {q : Fin 4} {i : Nat} {x : Int32} (d : decode cc pc = .ok (.iload_n q, 1)) (hi : (q : Nat) = i) (hv : ls[i]? = some (some (.int x))) (kk : Zj p l e R s m args below meth c Q G B nL k n (pc + 1) ls (.int x :: st) es) : Zj p l e R s m args below meth c Q G B nL k n (pc) ls (st) es :=
  fun H lo la hW hS hl => lv_iload_n E.1 E.2.1 d hi (hl.2.2 _ _ hv) (kk H lo la hW hS hl)
theorem z_iload (E : En p s m args meth c G B nL cc own mn rt) {i : Nat} {x : Int32} (d : decode cc pc = .ok (.iload i, 2)) (hv : ls[i]? = some (some (.int x))) (kk : Zj p l e R s m args below meth c Q G B nL k n (pc + 2) ls (.int x :: st) es) : Zj p l e R s m args below meth c Q G B nL k n (pc) ls (st) es :=
  fun H lo la hW hS hl => lv_iload E.1 E.2.1 d (hl.2.2 _ _ hv) (kk H lo la hW hS hl)
theorem z_lload_n (E : En p s m args meth c G B nL cc own mn rt) {q : Fin 4} {i : Nat} {x : Int64} (d : decode cc pc = .ok (.lload_n q, 1)) (hi : (q : Nat) = i) (hv : ls[i]? = some (some (.long x))) (kk : Zj p l e R s m args below meth c Q G B nL k n (pc + 1) ls (.long x :: st) es) : Zj p l e R s m args below meth c Q G B nL k n (pc) ls (st) es :=
  fun H lo la hW hS hl => lv_lload_n E.1 E.2.1 d hi (hl.2.2 _ _ hv) (kk H lo la hW hS hl)
theorem z_lload (E : En p s m args meth c G B nL cc own mn rt) {i : Nat} {x : Int64} (d : decode cc pc = .ok (.lload i, 2)) (hv : ls[i]? = some (some (.long x))) (kk : Zj p l e R s m args below meth c Q G B nL k n (pc + 2) ls (.long x :: st) es) : Zj p l e R s m args below meth c Q G B nL k n (pc) ls (st) es :=
  fun H lo la hW hS hl => lv_lload E.1 E.2.1 d (hl.2.2 _ _ hv) (kk H lo la hW hS hl)
theorem z_aload_n (E : En p s m args meth c G B nL cc own mn rt) {q : Fin 4} {i : Nat} {x : Nat} (d : decode cc pc = .ok (.aload_n q, 1)) (hi : (q : Nat) = i) (hv : ls[i]? = some (some (.ref x))) (kk : Zj p l e R s m args below meth c Q G B nL k n (pc + 1) ls (.ref x :: st) es) : Zj p l e R s m args below meth c Q G B nL k n (pc) ls (st) es :=
  fun H lo la hW hS hl => lv_aload_n E.1 E.2.1 d hi (hl.2.2 _ _ hv) (kk H lo la hW hS hl)
theorem z_aload (E : En p s m args meth c G B nL cc own mn rt) {i : Nat} {x : Nat} (d : decode cc pc = .ok (.aload i, 2)) (hv : ls[i]? = some (some (.ref x))) (kk : Zj p l e R s m args below meth c Q G B nL k n (pc + 2) ls (.ref x :: st) es) : Zj p l e R s m args below meth c Q G B nL k n (pc) ls (st) es :=
  fun H lo la hW hS hl => lv_aload E.1 E.2.1 d (hl.2.2 _ _ hv) (kk H lo la hW hS hl)
theorem z_aload_nN (E : En p s m args meth c G B nL cc own mn rt) {q : Fin 4} {i : Nat} (d : decode cc pc = .ok (.aload_n q, 1)) (hi : (q : Nat) = i) (hv : ls[i]? = some (some .null)) (kk : Zj p l e R s m args below meth c Q G B nL k n (pc + 1) ls (.null :: st) es) : Zj p l e R s m args below meth c Q G B nL k n (pc) ls (st) es :=
  fun H lo la hW hS hl => lv_aload_nN E.1 E.2.1 d hi (hl.2.2 _ _ hv) (kk H lo la hW hS hl)
theorem z_aloadN (E : En p s m args meth c G B nL cc own mn rt) {i : Nat} (d : decode cc pc = .ok (.aload i, 2)) (hv : ls[i]? = some (some .null)) (kk : Zj p l e R s m args below meth c Q G B nL k n (pc + 2) ls (.null :: st) es) : Zj p l e R s m args below meth c Q G B nL k n (pc) ls (st) es :=
  fun H lo la hW hS hl => lv_aloadN E.1 E.2.1 d (hl.2.2 _ _ hv) (kk H lo la hW hS hl)
theorem z_dup (E : En p s m args meth c G B nL cc own mn rt) {va : Value} (d : decode cc pc = .ok (.dup, 1)) (h1 : va.category = 1) (kk : Zj p l e R s m args below meth c Q G B nL k n (pc + 1) ls (va :: va :: st) es) : Zj p l e R s m args below meth c Q G B nL k n (pc) ls (va :: st) es :=
  fun H lo la hW hS hl => lv_dup E.1 E.2.1 d h1 (kk H lo la hW hS hl)
theorem z_pop (E : En p s m args meth c G B nL cc own mn rt) {va : Value} (d : decode cc pc = .ok (.pop, 1)) (h1 : va.category = 1) (kk : Zj p l e R s m args below meth c Q G B nL k n (pc + 1) ls (st) es) : Zj p l e R s m args below meth c Q G B nL k n (pc) ls (va :: st) es :=
  fun H lo la hW hS hl => lv_pop E.1 E.2.1 d h1 (kk H lo la hW hS hl)
theorem z_dup_x1 (E : En p s m args meth c G B nL cc own mn rt) {va vb : Value} (d : decode cc pc = .ok (.dup_x1, 1)) (h1 : va.category = 1) (h2 : vb.category = 1) (kk : Zj p l e R s m args below meth c Q G B nL k n (pc + 1) ls (va :: vb :: va :: st) es) : Zj p l e R s m args below meth c Q G B nL k n (pc) ls (va :: vb :: st) es :=
  fun H lo la hW hS hl => lv_dup_x1 E.1 E.2.1 d h1 h2 (kk H lo la hW hS hl)
theorem z_dup_x2 (E : En p s m args meth c G B nL cc own mn rt) {va vb vd : Value} (d : decode cc pc = .ok (.dup_x2, 1)) (h1 : va.category = 1) (h2 : vb.category = 1) (h3 : vd.category = 1) (kk : Zj p l e R s m args below meth c Q G B nL k n (pc + 1) ls (va :: vb :: vd :: va :: st) es) : Zj p l e R s m args below meth c Q G B nL k n (pc) ls (va :: vb :: vd :: st) es :=
  fun H lo la hW hS hl => lv_dup_x2 E.1 E.2.1 d h1 h2 h3 (kk H lo la hW hS hl)
theorem z_dup2 (E : En p s m args meth c G B nL cc own mn rt) {va vb : Value} (d : decode cc pc = .ok (.dup2, 1)) (h1 : va.category = 1) (h2 : vb.category = 1) (kk : Zj p l e R s m args below meth c Q G B nL k n (pc + 1) ls (va :: vb :: va :: vb :: st) es) : Zj p l e R s m args below meth c Q G B nL k n (pc) ls (va :: vb :: st) es :=
  fun H lo la hW hS hl => lv_dup2_11 E.1 E.2.1 d h1 h2 (kk H lo la hW hS hl)
theorem z_dup2L (E : En p s m args meth c G B nL cc own mn rt) {va : Value} (d : decode cc pc = .ok (.dup2, 1)) (h1 : va.category = 2) (kk : Zj p l e R s m args below meth c Q G B nL k n (pc + 1) ls (va :: va :: st) es) : Zj p l e R s m args below meth c Q G B nL k n (pc) ls (va :: st) es :=
  fun H lo la hW hS hl => lv_dup2_2 E.1 E.2.1 d h1 (kk H lo la hW hS hl)
theorem z_pop2L (E : En p s m args meth c G B nL cc own mn rt) {va : Value} (d : decode cc pc = .ok (.pop2, 1)) (h1 : va.category = 2) (kk : Zj p l e R s m args below meth c Q G B nL k n (pc + 1) ls (st) es) : Zj p l e R s m args below meth c Q G B nL k n (pc) ls (va :: st) es :=
  fun H lo la hW hS hl => lv_pop2_2 E.1 E.2.1 d h1 (kk H lo la hW hS hl)
theorem z_lcmp (E : En p s m args meth c G B nL cc own mn rt) {x y : Int64} (d : decode cc pc = .ok (.lcmp, 1))  (kk : Zj p l e R s m args below meth c Q G B nL k n (pc + 1) ls (.int (lg_cmp x y) :: st) es) : Zj p l e R s m args below meth c Q G B nL k n (pc) ls (.long y :: .long x :: st) es :=
  fun H lo la hW hS hl => W.lcmp E.1 E.2.1 d (kk H lo la hW hS hl)
theorem z_istore_n (E : En p s m args meth c G B nL cc own mn rt) {q : Fin 4} {i : Nat} {x : Int32} (d : decode cc pc = .ok (.istore_n q, 1)) (hi : (q : Nat) = i) (hn : i < nL) (hp : zprev ls i = true) (kk : Zj p l e R s m args below meth c Q G B nL k n (pc + 1) (ls.set i (some (.int x))) (st) es) : Zj p l e R s m args below meth c Q G B nL k n (pc) ls (.int x :: st) es :=
  fun H lo la hW hS hl => lv_istore_n E.1 E.2.1 d hi hl.has hn rfl (fun la hq => kk H lo la hW hS (zl.st1 hp hq))
theorem z_istore (E : En p s m args meth c G B nL cc own mn rt) {i : Nat} {x : Int32} (d : decode cc pc = .ok (.istore i, 2))  (hn : i < nL) (hp : zprev ls i = true) (kk : Zj p l e R s m args below meth c Q G B nL k n (pc + 2) (ls.set i (some (.int x))) (st) es) : Zj p l e R s m args below meth c Q G B nL k n (pc) ls (.int x :: st) es :=
  fun H lo la hW hS hl => lv_istore E.1 E.2.1 d hl.has hn rfl (fun la hq => kk H lo la hW hS (zl.st1 hp hq))
theorem z_lstore_n (E : En p s m args meth c G B nL cc own mn rt) {q : Fin 4} {i : Nat} {x : Int64} (d : decode cc pc = .ok (.lstore_n q, 1)) (hi : (q : Nat) = i) (hn : i + 1 < nL) (hp : zprev ls i = true) (kk : Zj p l e R s m args below meth c Q G B nL k n (pc + 1) ((ls.set i (some (.long x))).set (i + 1) none) (st) es) : Zj p l e R s m args below meth c Q G B nL k n (pc) ls (.long x :: st) es :=
  fun H lo la hW hS hl => lv_lstore_n E.1 E.2.1 d hi hl.has hn rfl (fun la hq => kk H lo la hW hS (zl.st2 hp hq))
theorem z_lstore (E : En p s m args meth c G B nL cc own mn rt) {i : Nat} {x : Int64} (d : decode cc pc = .ok (.lstore i, 2))  (hn : i + 1 < nL) (hp : zprev ls i = true) (kk : Zj p l e R s m args below meth c Q G B nL k n (pc + 2) ((ls.set i (some (.long x))).set (i + 1) none) (st) es) : Zj p l e R s m args below meth c Q G B nL k n (pc) ls (.long x :: st) es :=
  fun H lo la hW hS hl => lv_lstore E.1 E.2.1 d hl.has hn rfl (fun la hq => kk H lo la hW hS (zl.st2 hp hq))
theorem z_astore_n (E : En p s m args meth c G B nL cc own mn rt) {q : Fin 4} {i : Nat} {x : Nat} (d : decode cc pc = .ok (.astore_n q, 1)) (hi : (q : Nat) = i) (hn : i < nL) (hp : zprev ls i = true) (kk : Zj p l e R s m args below meth c Q G B nL k n (pc + 1) (ls.set i (some (.ref x))) (st) es) : Zj p l e R s m args below meth c Q G B nL k n (pc) ls (.ref x :: st) es :=
  fun H lo la hW hS hl => lv_astore_n E.1 E.2.1 d hi hl.has hn rfl (fun la hq => kk H lo la hW hS (zl.st1 hp hq))
theorem z_astore (E : En p s m args meth c G B nL cc own mn rt) {i : Nat} {x : Nat} (d : decode cc pc = .ok (.astore i, 2))  (hn : i < nL) (hp : zprev ls i = true) (kk : Zj p l e R s m args below meth c Q G B nL k n (pc + 2) (ls.set i (some (.ref x))) (st) es) : Zj p l e R s m args below meth c Q G B nL k n (pc) ls (.ref x :: st) es :=
  fun H lo la hW hS hl => lv_astore E.1 E.2.1 d hl.has hn rfl (fun la hq => kk H lo la hW hS (zl.st1 hp hq))
theorem z_astore_nN (E : En p s m args meth c G B nL cc own mn rt) {q : Fin 4} {i : Nat} (d : decode cc pc = .ok (.astore_n q, 1)) (hi : (q : Nat) = i) (hn : i < nL) (hp : zprev ls i = true) (kk : Zj p l e R s m args below meth c Q G B nL k n (pc + 1) (ls.set i (some (.null))) (st) es) : Zj p l e R s m args below meth c Q G B nL k n (pc) ls (.null :: st) es :=
  fun H lo la hW hS hl => lv_astore_nN E.1 E.2.1 d hi hl.has hn rfl (fun la hq => kk H lo la hW hS (zl.st1 hp hq))
theorem z_astoreN (E : En p s m args meth c G B nL cc own mn rt) {i : Nat} (d : decode cc pc = .ok (.astore i, 2))  (hn : i < nL) (hp : zprev ls i = true) (kk : Zj p l e R s m args below meth c Q G B nL k n (pc + 2) (ls.set i (some (.null))) (st) es) : Zj p l e R s m args below meth c Q G B nL k n (pc) ls (.null :: st) es :=
  fun H lo la hW hS hl => lv_astoreN E.1 E.2.1 d hl.has hn rfl (fun la hq => kk H lo la hW hS (zl.st1 hp hq))
theorem z_iinc (E : En p s m args meth c G B nL cc own mn rt) {i : Nat} {z : Int} {x v : Int32} (d : decode cc pc = .ok (.iinc i z, 3)) (hx : ls[i]? = some (some (.int x))) (hv : x + Int32.ofInt z = v) (hn : i < nL) (hp : zprev ls i = true) (kk : Zj p l e R s m args below meth c Q G B nL k n (pc + 3) (ls.set i (some (.int v))) (st) es) : Zj p l e R s m args below meth c Q G B nL k n (pc) ls (st) es := by
  intro H lo la hW hS hl
  obtain ⟨j, hj⟩ := List.getElem?_of_mem ((za_mem ls 0 i).mpr ⟨i, by omega, hx⟩)
  exact lv_iinc E.1 E.2.1 d hl.has hj hv hn rfl (fun la hq => kk H lo la hW hS (zl.st1 hp hq))
theorem z_sub {ls' : List (Option Value)} (hs : ∀ (i : Nat) (v : Value), ls'[i]? = some (some v) → ls[i]? = some (some v)) (kk : Zj p l e R s m args below meth c Q G B nL k n (pc) ls' (st) es) : Zj p l e R s m args below meth c Q G B nL k n (pc) ls (st) es := fun H lo la hW hS hl => kk H lo la hW hS (hl.sub hs)
theorem z_drop (i : Nat) (kk : Zj p l e R s m args below meth c Q G B nL k n (pc) (ls.set i none) (st) es) : Zj p l e R s m args below meth c Q G B nL k n (pc) ls (st) es := by
  refine z_sub (fun j v h => ?_) kk
  by_cases hij : i = j
  · subst hij
    have hl : i < ls.length := by
      have := (List.getElem?_eq_some_iff.mp h).1
      simpa using this
    rw [List.getElem?_set_self hl] at h
    cases h
  · rwa [List.getElem?_set_ne hij] at h
theorem z_if_eq (E : En p s m args meth c G B nL cc own mn rt) {x : Int32} {off : Int} {tgt : Nat} (d : decode cc pc = .ok (.ifCond .eq off, 3)) (ht : (pc : Int) + off = (tgt : Int)) (kt : x = 0 → Zj p l e R s m args below meth c Q G B nL k n (tgt) ls (st) es) (kf : ¬ x = 0 → Zj p l e R s m args below meth c Q G B nL k n (pc + 3) ls (st) es) : Zj p l e R s m args below meth c Q G B nL k n (pc) ls (.int x :: st) es :=
  fun H lo la hW hS hl => lv_if_eq E.1 E.2.1 d ht (fun h => kt h H lo la hW hS hl) (fun h => kf h H lo la hW hS hl)
theorem z_icmp_eq (E : En p s m args meth c G B nL cc own mn rt) {x y : Int32} {off : Int} {tgt : Nat} (d : decode cc pc = .ok (.if_icmp .eq off, 3)) (ht : (pc : Int) + off = (tgt : Int)) (kt : x = y → Zj p l e R s m args below meth c Q G B nL k n (tgt) ls (st) es) (kf : ¬ x = y → Zj p l e R s m args below meth c Q G B nL k n (pc + 3) ls (st) es) : Zj p l e R s m args below meth c Q G B nL k n (pc) ls (.int y :: .int x :: st) es :=
  fun H lo la hW hS hl => lv_icmp_eq E.1 E.2.1 d ht (fun h => kt h H lo la hW hS hl) (fun h => kf h H lo la hW hS hl)
theorem z_if_ne (E : En p s m args meth c G B nL cc own mn rt) {x : Int32} {off : Int} {tgt : Nat} (d : decode cc pc = .ok (.ifCond .ne off, 3)) (ht : (pc : Int) + off = (tgt : Int)) (kt : ¬ x = 0 → Zj p l e R s m args below meth c Q G B nL k n (tgt) ls (st) es) (kf : x = 0 → Zj p l e R s m args below meth c Q G B nL k n (pc + 3) ls (st) es) : Zj p l e R s m args below meth c Q G B nL k n (pc) ls (.int x :: st) es :=
  fun H lo la hW hS hl => lv_if_ne E.1 E.2.1 d ht (fun h => kt h H lo la hW hS hl) (fun h => kf h H lo la hW hS hl)
theorem z_icmp_ne (E : En p s m args meth c G B nL cc own mn rt) {x y : Int32} {off : Int} {tgt : Nat} (d : decode cc pc = .ok (.if_icmp .ne off, 3)) (ht : (pc : Int) + off = (tgt : Int)) (kt : ¬ x = y → Zj p l e R s m args below meth c Q G B nL k n (tgt) ls (st) es) (kf : x = y → Zj p l e R s m args below meth c Q G B nL k n (pc + 3) ls (st) es) : Zj p l e R s m args below meth c Q G B nL k n (pc) ls (.int y :: .int x :: st) es :=
  fun H lo la hW hS hl => lv_icmp_ne E.1 E.2.1 d ht (fun h => kt h H lo la hW hS hl) (fun h => kf h H lo la hW hS hl)
theorem z_if_lt (E : En p s m args meth c G B nL cc own mn rt) {x : Int32} {off : Int} {tgt : Nat} (d : decode cc pc = .ok (.ifCond .lt off, 3)) (ht : (pc : Int) + off = (tgt : Int)) (kt : x < 0 → Zj p l e R s m args below meth c Q G B nL k n (tgt) ls (st) es) (kf : ¬ x < 0 → Zj p l e R s m args below meth c Q G B nL k n (pc + 3) ls (st) es) : Zj p l e R s m args below meth c Q G B nL k n (pc) ls (.int x :: st) es :=
  fun H lo la hW hS hl => lv_if_lt E.1 E.2.1 d ht (fun h => kt h H lo la hW hS hl) (fun h => kf h H lo la hW hS hl)
theorem z_icmp_lt (E : En p s m args meth c G B nL cc own mn rt) {x y : Int32} {off : Int} {tgt : Nat} (d : decode cc pc = .ok (.if_icmp .lt off, 3)) (ht : (pc : Int) + off = (tgt : Int)) (kt : x < y → Zj p l e R s m args below meth c Q G B nL k n (tgt) ls (st) es) (kf : ¬ x < y → Zj p l e R s m args below meth c Q G B nL k n (pc + 3) ls (st) es) : Zj p l e R s m args below meth c Q G B nL k n (pc) ls (.int y :: .int x :: st) es :=
  fun H lo la hW hS hl => lv_icmp_lt E.1 E.2.1 d ht (fun h => kt h H lo la hW hS hl) (fun h => kf h H lo la hW hS hl)
theorem z_if_ge (E : En p s m args meth c G B nL cc own mn rt) {x : Int32} {off : Int} {tgt : Nat} (d : decode cc pc = .ok (.ifCond .ge off, 3)) (ht : (pc : Int) + off = (tgt : Int)) (kt : 0 ≤ x → Zj p l e R s m args below meth c Q G B nL k n (tgt) ls (st) es) (kf : ¬ 0 ≤ x → Zj p l e R s m args below meth c Q G B nL k n (pc + 3) ls (st) es) : Zj p l e R s m args below meth c Q G B nL k n (pc) ls (.int x :: st) es :=
  fun H lo la hW hS hl => lv_if_ge E.1 E.2.1 d ht (fun h => kt h H lo la hW hS hl) (fun h => kf h H lo la hW hS hl)
theorem z_icmp_ge (E : En p s m args meth c G B nL cc own mn rt) {x y : Int32} {off : Int} {tgt : Nat} (d : decode cc pc = .ok (.if_icmp .ge off, 3)) (ht : (pc : Int) + off = (tgt : Int)) (kt : y ≤ x → Zj p l e R s m args below meth c Q G B nL k n (tgt) ls (st) es) (kf : ¬ y ≤ x → Zj p l e R s m args below meth c Q G B nL k n (pc + 3) ls (st) es) : Zj p l e R s m args below meth c Q G B nL k n (pc) ls (.int y :: .int x :: st) es :=
  fun H lo la hW hS hl => lv_icmp_ge E.1 E.2.1 d ht (fun h => kt h H lo la hW hS hl) (fun h => kf h H lo la hW hS hl)
theorem z_if_gt (E : En p s m args meth c G B nL cc own mn rt) {x : Int32} {off : Int} {tgt : Nat} (d : decode cc pc = .ok (.ifCond .gt off, 3)) (ht : (pc : Int) + off = (tgt : Int)) (kt : 0 < x → Zj p l e R s m args below meth c Q G B nL k n (tgt) ls (st) es) (kf : ¬ 0 < x → Zj p l e R s m args below meth c Q G B nL k n (pc + 3) ls (st) es) : Zj p l e R s m args below meth c Q G B nL k n (pc) ls (.int x :: st) es :=
  fun H lo la hW hS hl => lv_if_gt E.1 E.2.1 d ht (fun h => kt h H lo la hW hS hl) (fun h => kf h H lo la hW hS hl)
theorem z_icmp_gt (E : En p s m args meth c G B nL cc own mn rt) {x y : Int32} {off : Int} {tgt : Nat} (d : decode cc pc = .ok (.if_icmp .gt off, 3)) (ht : (pc : Int) + off = (tgt : Int)) (kt : y < x → Zj p l e R s m args below meth c Q G B nL k n (tgt) ls (st) es) (kf : ¬ y < x → Zj p l e R s m args below meth c Q G B nL k n (pc + 3) ls (st) es) : Zj p l e R s m args below meth c Q G B nL k n (pc) ls (.int y :: .int x :: st) es :=
  fun H lo la hW hS hl => lv_icmp_gt E.1 E.2.1 d ht (fun h => kt h H lo la hW hS hl) (fun h => kf h H lo la hW hS hl)
theorem z_if_le (E : En p s m args meth c G B nL cc own mn rt) {x : Int32} {off : Int} {tgt : Nat} (d : decode cc pc = .ok (.ifCond .le off, 3)) (ht : (pc : Int) + off = (tgt : Int)) (kt : x ≤ 0 → Zj p l e R s m args below meth c Q G B nL k n (tgt) ls (st) es) (kf : ¬ x ≤ 0 → Zj p l e R s m args below meth c Q G B nL k n (pc + 3) ls (st) es) : Zj p l e R s m args below meth c Q G B nL k n (pc) ls (.int x :: st) es :=
  fun H lo la hW hS hl => lv_if_le E.1 E.2.1 d ht (fun h => kt h H lo la hW hS hl) (fun h => kf h H lo la hW hS hl)
theorem z_icmp_le (E : En p s m args meth c G B nL cc own mn rt) {x y : Int32} {off : Int} {tgt : Nat} (d : decode cc pc = .ok (.if_icmp .le off, 3)) (ht : (pc : Int) + off = (tgt : Int)) (kt : x ≤ y → Zj p l e R s m args below meth c Q G B nL k n (tgt) ls (st) es) (kf : ¬ x ≤ y → Zj p l e R s m args below meth c Q G B nL k n (pc + 3) ls (st) es) : Zj p l e R s m args below meth c Q G B nL k n (pc) ls (.int y :: .int x :: st) es :=
  fun H lo la hW hS hl => lv_icmp_le E.1 E.2.1 d ht (fun h => kt h H lo la hW hS hl) (fun h => kf h H lo la hW hS hl)
theorem z_goto (E : En p s m args meth c G B nL cc own mn rt) {off : Int} {tgt : Nat} (d : decode cc pc = .ok (.goto off, 3)) (ht : (pc : Int) + off = (tgt : Int)) (kk : Zj p l e R s m args below meth c Q G B nL k n (tgt) ls (st) es) : Zj p l e R s m args below meth c Q G B nL k n (pc) ls (st) es := fun H lo la hW hS hl => lv_goto E.1 E.2.1 d ht (kk H lo la hW hS hl)
theorem z_ifnonnull (E : En p s m args meth c G B nL cc own mn rt) {x : Nat} {off : Int} {tgt : Nat} (d : decode cc pc = .ok (.ifnonnull off, 3)) (ht : (pc : Int) + off = (tgt : Int)) (kk : Zj p l e R s m args below meth c Q G B nL k n (tgt) ls (st) es) : Zj p l e R s m args below meth c Q G B nL k n (pc) ls (.ref x :: st) es := fun H lo la hW hS hl => lv_ifnonnull E.1 E.2.1 d ht (kk H lo la hW hS hl)
theorem z_ifnull (E : En p s m args meth c G B nL cc own mn rt) {x : Nat} {off : Int} (d : decode cc pc = .ok (.ifnull off, 3)) (kk : Zj p l e R s m args below meth c Q G B nL k n (pc + 3) ls (st) es) : Zj p l e R s m args below meth c Q G B nL k n (pc) ls (.ref x :: st) es := fun H lo la hW hS hl => lv_ifnull E.1 E.2.1 d (kk H lo la hW hS hl)
theorem z_ifnullN (E : En p s m args meth c G B nL cc own mn rt) {off : Int} {tgt : Nat} (d : decode cc pc = .ok (.ifnull off, 3)) (ht : (pc : Int) + off = (tgt : Int)) (kk : Zj p l e R s m args below meth c Q G B nL k n (tgt) ls (st) es) : Zj p l e R s m args below meth c Q G B nL k n (pc) ls (.null :: st) es := fun H lo la hW hS hl => lv_ifnullN E.1 E.2.1 d ht (kk H lo la hW hS hl)
theorem z_ifnonnullN (E : En p s m args meth c G B nL cc own mn rt) {off : Int} (d : decode cc pc = .ok (.ifnonnull off, 3)) (kk : Zj p l e R s m args below meth c Q G B nL k n (pc + 3) ls (st) es) : Zj p l e R s m args below meth c Q G B nL k n (pc) ls (.null :: st) es := fun H lo la hW hS hl => lv_ifnonnullN E.1 E.2.1 d (kk H lo la hW hS hl)
theorem z_tableIn (E : En p s m args meth c G B nL cc own mn rt) {dflt lo hi : Int} {offs : Array Int} {len : Nat} {x : Int32} {off : Int} {tgt : Nat} (d : decode cc pc = .ok (.tableswitch dflt lo hi offs, len)) (h1 : ¬ x.toInt < lo) (h2 : ¬ hi < x.toInt) (ho : offs[(x.toInt - lo).toNat]? = some off) (ht : (pc : Int) + off = (tgt : Int)) (kk : Zj p l e R s m args below meth c Q G B nL k n (tgt) ls (st) es) : Zj p l e R s m args below meth c Q G B nL k n (pc) ls (.int x :: st) es := fun H loo la hW hS hl => lv_tableIn E.1 E.2.1 d h1 h2 ho ht (kk H loo la hW hS hl)
theorem z_tableOut (E : En p s m args meth c G B nL cc own mn rt) {dflt lo hi : Int} {offs : Array Int} {len : Nat} {x : Int32} {tgt : Nat} (d : decode cc pc = .ok (.tableswitch dflt lo hi offs, len)) (h : x.toInt < lo ∨ hi < x.toInt) (ht : (pc : Int) + dflt = (tgt : Int)) (kk : Zj p l e R s m args below meth c Q G B nL k n (tgt) ls (st) es) : Zj p l e R s m args below meth c Q G B nL k n (pc) ls (.int x :: st) es := fun H loo la hW hS hl => lv_tableOut E.1 E.2.1 d h ht (kk H loo la hW hS hl)
theorem z_lookup (E : En p s m args meth c G B nL cc own mn rt) {dflt : Int} {ps : Array (Int × Int)} {len : Nat} {x : Int32} {off : Int} {tgt : Nat} (d : decode cc pc = .ok (.lookupswitch dflt ps, len)) (hp : (ps.toList.zip (ps.toList.drop 1)).all (fun (a, next) => a.1 < next.1) = true) (ho : Op.lookupswitch.offset ps.toList dflt x.toInt = off) (ht : (pc : Int) + off = (tgt : Int)) (kk : Zj p l e R s m args below meth c Q G B nL k n (tgt) ls (st) es) : Zj p l e R s m args below meth c Q G B nL k n (pc) ls (.int x :: st) es := fun H lo la hW hS hl => lv_lookup E.1 E.2.1 d hp ho ht (kk H lo la hW hS hl)
theorem z_ldc (E : En p s m args meth c G B nL cc own mn rt) {index : Nat} {v : Int32} (hc : Cond.constant own index v ∈ zzW) (d : decode cc pc = .ok (.ldc index, 2)) (kk : Zj p l e R s m args below meth c Q G B nL k n (pc + 2) ls (.int v :: st) es) : Zj p l e R s m args below meth c Q G B nL k n (pc) ls (st) es := fun H lo la hW hS hl => lv_ldc E.1 E.2.1 E.2.2.2.1 (E.2.2.2.2.1 _ hc) d (kk H lo la hW hS hl)
theorem z_ldc2 (E : En p s m args meth c G B nL cc own mn rt) {index : Nat} {v : Int64} (hc : Cond.constantLong own index v ∈ zzW) (d : decode cc pc = .ok (.ldc2_w index, 3)) (kk : Zj p l e R s m args below meth c Q G B nL k n (pc + 3) ls (.long v :: st) es) : Zj p l e R s m args below meth c Q G B nL k n (pc) ls (st) es := fun H lo la hW hS hl => lv_ldc2 E.1 E.2.1 E.2.2.2.1 (E.2.2.2.2.1 _ hc) d (kk H lo la hW hS hl)
theorem z_topi {x y : Int32} (h : x = y) (kk : Zj p l e R s m args below meth c Q G B nL k n (pc) ls (.int y :: st) es) : Zj p l e R s m args below meth c Q G B nL k n (pc) ls (.int x :: st) es := by rw [h]; exact kk
theorem z_topl {x y : Int64} (h : x = y) (kk : Zj p l e R s m args below meth c Q G B nL k n (pc) ls (.long y :: st) es) : Zj p l e R s m args below meth c Q G B nL k n (pc) ls (.long x :: st) es := by rw [h]; exact kk
theorem z_st {st' : List Value} (h : st = st') (kk : Zj p l e R s m args below meth c Q G B nL k n (pc) ls (st') es) : Zj p l e R s m args below meth c Q G B nL k n (pc) ls (st) es := by rw [h]; exact kk
theorem z_widen {k' n' : Nat} (h1 : k ≤ k') (h2 : n ≤ n') (kk : Zj p l e R s m args below meth c Q G B nL k' n' pc ls st es) : Zj p l e R s m args below meth c Q G B nL k n (pc) ls (st) es := fun H lo la hW hS hl => W.widen h1 h2 (kk H lo la hW hS hl)
/-- the link of a getfield or putfield: the class's place, the field's place; by a word of the tables, or of nest mates -/
def zFw (own : String) (idx : Nat) (q : String × String × String) : Prop := Cond.fieldLink own idx q.1 q.2.1 q.2.2 ∈ zzW ∨ ∃ host, (own, idx, q.1, q.2.1, q.2.2, host) ∈ zzNF
def zF (own : String) (idx ci kf : Nat) : Prop := ∃ (C : String) (T : u_T) (N : Nat), vwCl[ci]? = some (C, T, N) ∧ (∀ w ∈ u_ws C T N, w ∈ zzW) ∧ kf < N ∧ zFw own idx ((T kf).1, (T kf).2.1, (T kf).2.2.1)
def zFp (own : String) (idx ci kf : Nat) (ty : FieldType) (fin : Bool) : Prop := ∃ (C : String) (T : u_T) (N : Nat) (ty0 : Nat → FieldType), vwCl[ci]? = some (C, T, N) ∧ (∀ w ∈ u_ws C T N, w ∈ zzW) ∧ (∀ k, k < N → parseFieldDescriptor (T k).2.2.1 = some (ty0 k)) ∧ (∀ a, a < N → ∀ b, b < N → a ≠ b → (T a).2.1 ≠ (T b).2.1) ∧ kf < N ∧ zFw own idx ((T kf).1, (T kf).2.1, (T kf).2.2.1) ∧ (T kf).2.2.2 = fin ∧ parseFieldDescriptor (T kf).2.2.1 = some ty ∧ (fin = true → (T kf).1 = own ∧ Cond.fieldLink own idx (T kf).1 (T kf).2.1 (T kf).2.2.1 ∈ zzW)
theorem z_get (E : En p s m args meth c G B nL cc own mn rt) {idx ci kf i : Nat} {fs : List Value} {v : Value} (hf : zF own idx ci kf) (d : decode cc pc = .ok (.getfield idx, 3)) (he : es[i]? = some (.inr (ci, fs))) (hv : fs[kf]? = some v) (kk : Zj p l e R s m args below meth c Q G B nL k n (pc + 3) ls (v :: st) es) : Zj p l e R s m args below meth c Q G B nL k n (pc) ls (.ref (B + i) :: st) es := by
  intro H lo la hW hS hl
  obtain ⟨C, T, N, hc, hw, hk, hlk | ⟨host, hlk⟩⟩ := hf
  · exact va_get (C := C) (T := T) (N := N) E.1 E.2.1 E.2.2.2.2.1 hw E.2.2.2.1 E.2.2.2.2.2.1 hW.2 i (zw_at he) hc kf hk (E.2.2.2.2.1 _ hlk) (fun _ h => h) hv d (kk H lo la hW hS hl)
  · exact va_getN (C := C) (T := T) (N := N) E.1 E.2.1 E.2.2.2.2.1 hw E.2.2.2.1 E.2.2.2.2.2.1 hW.2 i (zw_at he) hc kf hk (va_Nw.use rfl (E.2.2.2.2.2.2.1.1 _ hlk)) (fun _ h => h) hv d (kk H lo la hW hS hl)
theorem z_put (E : En p s m args meth c G B nL cc own mn rt) {idx ci kf i : Nat} {fs : List Value} {v : Value} {ty : FieldType} (hf : zFp own idx ci kf ty false) (d : decode cc pc = .ok (.putfield idx, 3)) (he : es[i]? = some (.inr (ci, fs))) (hl : kf < fs.length) (hn : narrow ty v = v) (hfit : fits ty v = true) (kk : ∀ es', es' = es.set i (.inr (ci, fs.set kf v)) → Zj p l e R s m args below meth c Q G B nL k n (pc + 3) ls (st) es') : Zj p l e R s m args below meth c Q G B nL k n (pc) ls (v :: .ref (B + i) :: st) es := by
  intro H lo la hW hS hl2
  have sz : ∀ (H1 : Heap) (lo1 : List Loc), va_P G.1 vwCl ((zw B es).set i (B + i, .inr (ci, fs.set kf v))) H1 → H1.size = H.size → va_S (fun q => B ≤ q) s.heap H1 lo1 → W p l e R s m args below meth c H1 lo1 k n Q (F0 m (pc + 3) la st) := fun H1 lo1 h1 hz h2 => kk _ rfl H1 lo1 la (hW.upd hz h1) h2 hl2
  obtain ⟨C, T, N, ty0, hc, hw, hty, hnm, hk, hlk, hfin, hd, -⟩ := hf
  have hap := va_apart (own := own) E.2.2.2.2.1 hw ty0 hty hnm E.2.2.2.2.2.1 hc
  obtain ⟨r, h1, cell, q1, q2, q3, q4⟩ := hW.2 i _ (zw_at he)
  have hr : r = (C, T, N) := Option.some.inj (h1.symm.trans hc)
  subst hr
  obtain ⟨hSl, hfc, kC, hkC, hkind⟩ := E.2.2.2.2.2.1.1 ci _ hc
  obtain ⟨cf, kf', fi, f, hi, hsl⟩ := hSl kf hk
  have hlay := E.2.2.2.2.1 _ (hw _ (u_in_lay hk))
  unfold u_lay at hlay
  rw [if_neg (by rw [hfin]; decide)] at hlay
  have hst := (u_facts hfc hkC (u_lays E.2.2.2.2.1 hw hk) hi).1
  have h6 := u_store hfc hkC hkind hlay hi hd hn hfit
  have fin : ∀ H' : Heap, H'[B + i]? = some (cell.setSlot f.slot v) → H'.size = H.size → (∀ q, q ≠ B + i → H'[q]? = H[q]?) → W p l e R s m args below meth c H' (lo ++ [⟨B + i, f.slot⟩]) k n Q (F0 m (pc + 3) la st) := by
    intro H' e1 e2 e3
    rw [hsl] at e1
    refine sz H' _ (hW.2.set zw_D (zw_at he) ⟨_, hc, t_OB.to (V := updV (vp_V fs) kf v) ⟨_, e1, q2, q3, t_set q4 hap hk v⟩ (fun j _ => vp_updV_set hl v j)⟩ e3) e2 (hS.put e2 e3 (Nat.le_add_right B i))
  rcases hlk with hlk | ⟨host, hlk⟩
  · exact W.putK E.1 E.2.1 (f := f) ⟨E.2.2.2.1, E.2.2.2.2.1 _ hlk, ⟨_, _, _, hi⟩, hst⟩ (by rw [q2]; exact h6) q1 q3 (by rw [hsl]; exact k2_hasslot (q4 kf hk)) rfl rfl d fin
  · exact va_WputK E.1 E.2.1 (f := f) E.2.2.2.1 (va_Nw.use rfl (E.2.2.2.2.2.2.1.1 _ hlk)) hi hst (by rw [q2]; exact h6) q1 q3 (by rw [hsl]; exact k2_hasslot (q4 kf hk)) rfl rfl d fin
theorem z_putF (E : En p s m args meth c G B nL cc own mn rt) {idx ci kf i : Nat} {fs : List Value} {v : Value} {ty : FieldType} (hf : zFp own idx ci kf ty true) (hmn : mn = "<init>") (d : decode cc pc = .ok (.putfield idx, 3)) (he : es[i]? = some (.inr (ci, fs))) (hl : kf < fs.length) (hn : narrow ty v = v) (hfit : fits ty v = true) (kk : ∀ es', es' = es.set i (.inr (ci, fs.set kf v)) → Zj p l e R s m args below meth c Q G B nL k n (pc + 3) ls (st) es') : Zj p l e R s m args below meth c Q G B nL k n (pc) ls (v :: .ref (B + i) :: st) es := by
  intro H lo la hW hS hl2
  have sz : ∀ (H1 : Heap) (lo1 : List Loc), va_P G.1 vwCl ((zw B es).set i (B + i, .inr (ci, fs.set kf v))) H1 → H1.size = H.size → va_S (fun q => B ≤ q) s.heap H1 lo1 → W p l e R s m args below meth c H1 lo1 k n Q (F0 m (pc + 3) la st) := fun H1 lo1 h1 hz h2 => kk _ rfl H1 lo1 la (hW.upd hz h1) h2 hl2
  obtain ⟨C, T, N, ty0, hc, hw, hty, hnm, hk, -, hfin, hd, hown⟩ := hf
  obtain ⟨hdecl, hlk⟩ := hown rfl
  have hap := va_apart (own := own) E.2.2.2.2.1 hw ty0 hty hnm E.2.2.2.2.2.1 hc
  obtain ⟨r, h1, cell, q1, q2, q3, q4⟩ := hW.2 i _ (zw_at he)
  have hr : r = (C, T, N) := Option.some.inj (h1.symm.trans hc)
  subst hr
  obtain ⟨hSl, hfc, kC, hkC, hkind⟩ := E.2.2.2.2.2.1.1 ci _ hc
  obtain ⟨cf, kf', fi, f, hi, hsl⟩ := hSl kf hk
  have hlay := E.2.2.2.2.1 _ (hw _ (u_in_lay hk))
  unfold u_lay at hlay
  rw [if_pos hfin] at hlay
  have hst := (u_facts hfc hkC (u_lays E.2.2.2.2.1 hw hk) hi).1
  have hcf : m.cls = cf := by
    obtain ⟨_, _, c', _, _, _, -, -, hf', -, -, -, hown2, -⟩ := Cond.laysFinal_spec hlay
    have e1 : c' = cf := by have := hi.symm.trans hf'; simp at this; exact this.1.symm
    rw [hdecl] at hown2
    rw [← e1]; exact Option.some.inj (E.2.2.2.1.symm.trans hown2)
  have h6 := u_fits hfc hkC hkind (Or.inr hlay) hi hd hn hfit
  refine W.putFinK E.1 E.2.1 E.2.2.2.1 (E.2.2.2.2.1 _ hlk) hi hst hcf (E.2.2.2.2.2.2.2.2.2.2.2.trans hmn) (by rw [q2]; exact h6) q1 q3 (by rw [hsl]; exact k2_hasslot (q4 kf hk)) rfl rfl d fun H' e1 e2 e3 => ?_
  rw [hsl] at e1
  exact sz H' _ (hW.2.set zw_D (zw_at he) ⟨_, hc, t_OB.to (V := updV (vp_V fs) kf v) ⟨_, e1, q2, q3, t_set q4 hap hk v⟩ (fun j _ => vp_updV_set hl v j)⟩ e3) e2 (hS.put e2 e3 (Nat.le_add_right B i))
theorem z_iald (E : En p s m args meth c G B nL cc own mn rt) {i ti N : Nat} {f : Nat → Int32} {j : Int32} (ht : zzTy[ti]? = some .int) (d : decode cc pc = .ok (.iaload, 1)) (he : es[i]? = some (.inl (G.2.1 ti, N, .inl f))) (hin : vp_in j N) (kk : Zj p l e R s m args below meth c Q G B nL k n (pc + 1) ls (.int (f j.toNatClampNeg) :: st) es) : Zj p l e R s m args below meth c Q G B nL k n (pc) ls (.int j :: .ref (B + i) :: st) es :=
  fun H lo la hW hS hl => va_iald E.1 E.2.1 E.2.2.2.2.2.1 hW.2 i ti (zw_at he) (zty_at ht) hin d (kk H lo la hW hS hl)
theorem z_bald (E : En p s m args meth c G B nL cc own mn rt) {i ti N : Nat} {f : Nat → Int32} {j : Int32} (ht : zzTy[ti]? = some .byte) (d : decode cc pc = .ok (.baload, 1)) (he : es[i]? = some (.inl (G.2.1 ti, N, .inl f))) (hin : vp_in j N) (kk : Zj p l e R s m args below meth c Q G B nL k n (pc + 1) ls (.int (f j.toNatClampNeg) :: st) es) : Zj p l e R s m args below meth c Q G B nL k n (pc) ls (.int j :: .ref (B + i) :: st) es :=
  fun H lo la hW hS hl => va_bald E.1 E.2.1 E.2.2.2.2.2.1 hW.2 i ti (zw_at he) (zty_at ht) hin d (kk H lo la hW hS hl)
theorem z_zald (E : En p s m args meth c G B nL cc own mn rt) {i ti N : Nat} {f : Nat → Int32} {j : Int32} (ht : zzTy[ti]? = some .boolean) (d : decode cc pc = .ok (.baload, 1)) (he : es[i]? = some (.inl (G.2.1 ti, N, .inl f))) (hin : vp_in j N) (kk : Zj p l e R s m args below meth c Q G B nL k n (pc + 1) ls (.int (f j.toNatClampNeg) :: st) es) : Zj p l e R s m args below meth c Q G B nL k n (pc) ls (.int j :: .ref (B + i) :: st) es :=
  fun H lo la hW hS hl => va_zald E.1 E.2.1 E.2.2.2.2.2.1 hW.2 i ti (zw_at he) (zty_at ht) hin d (kk H lo la hW hS hl)
theorem z_cald (E : En p s m args meth c G B nL cc own mn rt) {i ti N : Nat} {f : Nat → Int32} {j : Int32} (ht : zzTy[ti]? = some .char) (d : decode cc pc = .ok (.caload, 1)) (he : es[i]? = some (.inl (G.2.1 ti, N, .inl f))) (hin : vp_in j N) (kk : Zj p l e R s m args below meth c Q G B nL k n (pc + 1) ls (.int (f j.toNatClampNeg) :: st) es) : Zj p l e R s m args below meth c Q G B nL k n (pc) ls (.int j :: .ref (B + i) :: st) es :=
  fun H lo la hW hS hl => va_cald E.1 E.2.1 E.2.2.2.2.2.1 hW.2 i ti (zw_at he) (zty_at ht) hin d (kk H lo la hW hS hl)
theorem z_sald (E : En p s m args meth c G B nL cc own mn rt) {i ti N : Nat} {f : Nat → Int32} {j : Int32} (ht : zzTy[ti]? = some .short) (d : decode cc pc = .ok (.saload, 1)) (he : es[i]? = some (.inl (G.2.1 ti, N, .inl f))) (hin : vp_in j N) (kk : Zj p l e R s m args below meth c Q G B nL k n (pc + 1) ls (.int (f j.toNatClampNeg) :: st) es) : Zj p l e R s m args below meth c Q G B nL k n (pc) ls (.int j :: .ref (B + i) :: st) es :=
  fun H lo la hW hS hl => va_sald E.1 E.2.1 E.2.2.2.2.2.1 hW.2 i ti (zw_at he) (zty_at ht) hin d (kk H lo la hW hS hl)
theorem z_lald (E : En p s m args meth c G B nL cc own mn rt) {i ti N : Nat} {f : Nat → Int64} {j : Int32} (ht : zzTy[ti]? = some .long) (d : decode cc pc = .ok (.laload, 1)) (he : es[i]? = some (.inl (G.2.1 ti, N, .inr (.inl (f))))) (hin : vp_in j N) (kk : Zj p l e R s m args below meth c Q G B nL k n (pc + 1) ls (.long (f j.toNatClampNeg) :: st) es) : Zj p l e R s m args below meth c Q G B nL k n (pc) ls (.int j :: .ref (B + i) :: st) es :=
  fun H lo la hW hS hl => va_lald E.1 E.2.1 E.2.2.2.2.2.1 hW.2 i ti (zw_at he) (zty_at ht) hin d (kk H lo la hW hS hl)
theorem z_aald (E : En p s m args meth c G B nL cc own mn rt) {i ti N : Nat} {C : String} {f : Nat → Option Nat} {j : Int32} (ht : zzTy[ti]? = some (.object C)) (d : decode cc pc = .ok (.aaload, 1)) (he : es[i]? = some (.inl (G.2.1 ti, N, .inr (.inr (.inr (.inr (f))))))) (hin : vp_in j N) (kk : Zj p l e R s m args below meth c Q G B nL k n (pc + 1) ls (va_rf (f j.toNatClampNeg) :: st) es) : Zj p l e R s m args below meth c Q G B nL k n (pc) ls (.int j :: .ref (B + i) :: st) es :=
  fun H lo la hW hS hl => va_aldq E.1 E.2.1 E.2.2.2.2.2.1 hW.2 i ti (zw_at he) (zty_at ht) hin d (kk H lo la hW hS hl)
theorem z_iast (E : En p s m args meth c G B nL cc own mn rt) {i ti N : Nat} {f : Nat → Int32} {j : Int32} {x : Int32} (ht : zzTy[ti]? = some .int) (d : decode cc pc = .ok (.iastore, 1)) (he : es[i]? = some (.inl (G.2.1 ti, N, .inl f))) (hin : vp_in j N) (kk : ∀ es', es' = es.set i (.inl (G.2.1 ti, N, .inl (upd f j.toNatClampNeg x))) → Zj p l e R s m args below meth c Q G B nL k n (pc + 1) ls (st) es') : Zj p l e R s m args below meth c Q G B nL k n (pc) ls (.int (x) :: .int j :: .ref (B + i) :: st) es := by
  intro H lo la hW hS hl
  refine W.iast E.1 E.2.1 (hW.2 i _ (zw_at he)) ((E.2.2.2.2.2.1.2 ti _ (zty_at ht)).1 N (fun j => .int (f j))) (fun q => by cases q) (by show ¬ (j < 0 ∨ (arrV _ _ _).slots.size ≤ _); rw [arrV_size]; exact hin) rfl rfl d fun H1 e z oq => ?_
  refine kk _ rfl H1 _ la (hW.upd z (hW.2.set zw_D (zw_at he) ?_ oq)) (hS.put z oq (Nat.le_add_right B i)) hl
  show H1[B + i]? = some (vp_cell _ _)
  rw [e, vp_cell_i, vp_cell_i, arrV_store]
  congr 2
  funext q
  by_cases hq : q = j.toNatClampNeg
  · subst hq
    simp [updV, upd]
  · simp [updV, upd, vp_updL, hq]
theorem z_bast (E : En p s m args meth c G B nL cc own mn rt) {i ti N : Nat} {f : Nat → Int32} {j : Int32} {x : Int32} (ht : zzTy[ti]? = some .byte) (d : decode cc pc = .ok (.bastore, 1)) (he : es[i]? = some (.inl (G.2.1 ti, N, .inl f))) (hin : vp_in j N) (kk : ∀ es', es' = es.set i (.inl (G.2.1 ti, N, .inl (upd f j.toNatClampNeg (vp_nar .byte x)))) → Zj p l e R s m args below meth c Q G B nL k n (pc + 1) ls (st) es') : Zj p l e R s m args below meth c Q G B nL k n (pc) ls (.int (x) :: .int j :: .ref (B + i) :: st) es := by
  intro H lo la hW hS hl
  refine W.bast E.1 E.2.1 (hW.2 i _ (zw_at he)) ((E.2.2.2.2.2.1.2 ti _ (zty_at ht)).1 N (fun j => .int (f j))) (fun q => by cases q) (by show ¬ (j < 0 ∨ (arrV _ _ _).slots.size ≤ _); rw [arrV_size]; exact hin) rfl rfl d fun H1 e z oq => ?_
  refine kk _ rfl H1 _ la (hW.upd z (hW.2.set zw_D (zw_at he) ?_ oq)) (hS.put z oq (Nat.le_add_right B i)) hl
  show H1[B + i]? = some (vp_cell _ _)
  rw [e, vp_cell_i, vp_cell_i, arrV_store]
  congr 2
  funext q
  by_cases hq : q = j.toNatClampNeg
  · subst hq
    simp [updV, upd, vp_nar]; try rfl
  · simp [updV, upd, vp_updL, hq]
theorem z_zast (E : En p s m args meth c G B nL cc own mn rt) {i ti N : Nat} {f : Nat → Int32} {j : Int32} {x : Int32} (ht : zzTy[ti]? = some .boolean) (d : decode cc pc = .ok (.bastore, 1)) (he : es[i]? = some (.inl (G.2.1 ti, N, .inl f))) (hin : vp_in j N) (kk : ∀ es', es' = es.set i (.inl (G.2.1 ti, N, .inl (upd f j.toNatClampNeg (vp_nar .boolean x)))) → Zj p l e R s m args below meth c Q G B nL k n (pc + 1) ls (st) es') : Zj p l e R s m args below meth c Q G B nL k n (pc) ls (.int (x) :: .int j :: .ref (B + i) :: st) es := by
  intro H lo la hW hS hl
  refine W.zast E.1 E.2.1 (hW.2 i _ (zw_at he)) ((E.2.2.2.2.2.1.2 ti _ (zty_at ht)).1 N (fun j => .int (f j))) (fun q => by cases q) (by show ¬ (j < 0 ∨ (arrV _ _ _).slots.size ≤ _); rw [arrV_size]; exact hin) rfl rfl d fun H1 e z oq => ?_
  refine kk _ rfl H1 _ la (hW.upd z (hW.2.set zw_D (zw_at he) ?_ oq)) (hS.put z oq (Nat.le_add_right B i)) hl
  show H1[B + i]? = some (vp_cell _ _)
  rw [e, vp_cell_i, vp_cell_i, arrV_store]
  congr 2
  funext q
  by_cases hq : q = j.toNatClampNeg
  · subst hq
    simp [updV, upd, vp_nar]; try rfl
  · simp [updV, upd, vp_updL, hq]
theorem z_last (E : En p s m args meth c G B nL cc own mn rt) {i ti N : Nat} {f : Nat → Int64} {j : Int32} {x : Int64} (ht : zzTy[ti]? = some .long) (d : decode cc pc = .ok (.lastore, 1)) (he : es[i]? = some (.inl (G.2.1 ti, N, .inr (.inl (f))))) (hin : vp_in j N) (kk : ∀ es', es' = es.set i (.inl (G.2.1 ti, N, .inr (.inl (vp_updL f j.toNatClampNeg x)))) → Zj p l e R s m args below meth c Q G B nL k n (pc + 1) ls (st) es') : Zj p l e R s m args below meth c Q G B nL k n (pc) ls (.long (x) :: .int j :: .ref (B + i) :: st) es := by
  intro H lo la hW hS hl
  refine W.last E.1 E.2.1 (hW.2 i _ (zw_at he)) ((E.2.2.2.2.2.1.2 ti _ (zty_at ht)).1 N (fun j => .long (f j))) (fun q => by cases q) (by show ¬ (j < 0 ∨ (arrV _ _ _).slots.size ≤ _); rw [arrV_size]; exact hin) rfl rfl d fun H1 e z oq => ?_
  refine kk _ rfl H1 _ la (hW.upd z (hW.2.set zw_D (zw_at he) ?_ oq)) (hS.put z oq (Nat.le_add_right B i)) hl
  show H1[B + i]? = some (vp_cell _ _)
  rw [e, vp_cell_l, vp_cell_l, arrV_store]
  congr 2
  funext q
  by_cases hq : q = j.toNatClampNeg
  · subst hq
    simp [updV, vp_updL]
  · simp [updV, upd, vp_updL, hq]
theorem z_aast (E : En p s m args meth c G B nL cc own mn rt) {i ti N qk ci a : Nat} {r : vw_C} {vs : List Value} {f : Nat → Option Nat} {j : Int32} (ht : zzTy[ti]? = some (.object r.1)) (hc : vwCl[ci]? = some r) (d : decode cc pc = .ok (.aastore, 1)) (he : es[i]? = some (.inl (G.2.1 ti, N, .inr (.inr (.inr (.inr (f))))))) (hv : es[qk]? = some (.inr (ci, vs))) (ha : a = B + qk) (hin : vp_in j N) (kk : ∀ es', es' = es.set i (.inl (G.2.1 ti, N, .inr (.inr (.inr (.inr (va_up f j.toNatClampNeg (some a))))))) → Zj p l e R s m args below meth c Q G B nL k n (pc + 1) ls (st) es') : Zj p l e R s m args below meth c Q G B nL k n (pc) ls (.ref a :: .int j :: .ref (B + i) :: st) es := by
  intro H lo la hW hS hl
  subst ha
  have hlt : j.toNatClampNeg < N := Nat.not_le.mp fun q => hin (Or.inr q)
  have h0 : ¬ j < 0 := fun q => hin (Or.inl q)
  obtain ⟨r', hr', cellV, g1, g2, g3, -⟩ := hW.2 qk _ (zw_at hv)
  have hcls := (E.2.2.2.2.2.1.1 ci r hc).2
  obtain ⟨kA, comp, k1, k2, k3, -⟩ := (E.2.2.2.2.2.1.2 ti _ (zty_at ht)).2
  have hcomp : comp = G.1.1 ci := Option.some.inj (k3.symm.trans hcls.1)
  subst hcomp
  obtain ⟨kC, hkC, -⟩ := hcls.2
  refine W.aast E.1 E.2.1 (hW.2 i _ (zw_at he)) (fun q h => by cases h) (fun h => by cases h) k1 k2 rfl hkC ⟨h0, by show _ < (arrV _ _ _).slots.size; rw [arrV_size]; exact hlt⟩ g1 (fun q h => by rw [g3] at h; cases h) (by rw [g2]; exact hkC) (by rw [g2]; exact va_assign hcls) rfl rfl d fun H1 e z oq => ?_
  refine kk _ rfl H1 _ la (hW.upd z (hW.2.set zw_D (zw_at he) ?_ oq)) (hS.put z oq (Nat.le_add_right B i)) hl
  show H1[B + i]? = some (vp_cell _ _)
  rw [e, vp_cell_q, vp_cell_q, arrV_store]
  congr 2
  funext q
  by_cases hq : q = j.toNatClampNeg
  · subst hq
    simp [updV, va_up, va_rf]
  · simp [updV, va_up, hq]
theorem z_alen (E : En p s m args meth c G B nL cc own mn rt) {i ti : Nat} {x : vp_A} {ty : FieldType} (ht : zzTy[ti]? = some ty) (d : decode cc pc = .ok (.arraylength, 1)) (he : es[i]? = some (.inl (G.2.1 ti, x))) (kk : Zj p l e R s m args below meth c Q G B nL k n (pc + 1) ls (.int (Int32.ofNat x.1) :: st) es) : Zj p l e R s m args below meth c Q G B nL k n (pc) ls (.ref (B + i) :: st) es :=
  fun H lo la hW hS hl => va_alen E.1 E.2.1 E.2.2.2.2.2.1 hW.2 i ti (zw_at he) (zty_at ht) rfl d (kk H lo la hW hS hl)
/-! static tables -/
theorem z_gets (E : En p s m args meth c G B nL cc own mn rt) {idx i : Nat} {q : String × String × List Int32} (hq : zzT[i]? = some q) (hlk : zFw own idx (q.1, q.2.1, "[I")) (d : decode cc pc = .ok (.getstatic idx, 3)) (kk : Zj p l e R s m args below meth c Q G B nL k n (pc + 3) ls (.ref (G.2.2.1 i) :: st) es) : Zj p l e R s m args below meth c Q G B nL k n (pc) ls (st) es := by
  intro H lo la hW hS hl
  rcases hlk with hlk | ⟨host, hlk⟩
  · exact va_gets E.1 E.2.1 (E.2.2.2.2.2.2.2.1.1 i q hq).1 hS E.2.2.2.1 (E.2.2.2.2.1 _ hlk) (fun _ h => h) d (kk H lo la hW hS hl)
  · exact va_getsN E.1 E.2.1 (E.2.2.2.2.2.2.2.1.1 i q hq).1 hS E.2.2.2.1 (va_Nw.use rfl (E.2.2.2.2.2.2.1.1 _ hlk)) (fun _ h => h) d (kk H lo la hW hS hl)
theorem z_ti (E : En p s m args meth c G B nL cc own mn rt) {i : Nat} {q : String × String × List Int32} {j : Int32} (hq : zzT[i]? = some q) (d : decode cc pc = .ok (.iaload, 1)) (hin : vp_in j q.2.2.length) (kk : Zj p l e R s m args below meth c Q G B nL k n (pc + 1) ls (.int (q.2.2.getD j.toNatClampNeg 0) :: st) es) : Zj p l e R s m args below meth c Q G B nL k n (pc) ls (.int j :: .ref (G.2.2.1 i) :: st) es :=
  fun H lo la hW hS hl => va_ti E.1 E.2.1 (E.2.2.2.2.2.2.2.1.1 i q hq).2 hS hin rfl d (kk H lo la hW hS hl)
theorem z_tlen (E : En p s m args meth c G B nL cc own mn rt) {i : Nat} {q : String × String × List Int32} (hq : zzT[i]? = some q) (d : decode cc pc = .ok (.arraylength, 1)) (kk : Zj p l e R s m args below meth c Q G B nL k n (pc + 1) ls (.int (Int32.ofNat q.2.2.length) :: st) es) : Zj p l e R s m args below meth c Q G B nL k n (pc) ls (.ref (G.2.2.1 i) :: st) es :=
  fun H lo la hW hS hl => va_tlen E.1 E.2.1 (E.2.2.2.2.2.2.2.1.1 i q hq).2 hS rfl d (kk H lo la hW hS hl)
/-! new cells -/
def zNw (own : String) (idx ci N : Nat) (fs : List Value) : Prop := ∃ (C : String) (T : u_T) (ty : Nat → FieldType), vwCl[ci]? = some (C, T, N) ∧ (∀ w ∈ u_ws C T N, w ∈ zzW) ∧ (∀ k, k < N → parseFieldDescriptor (T k).2.2.1 = some (ty k)) ∧ Cond.classLink own idx C ∈ zzW ∧ Cond.instantiable C N ∈ zzW ∧ Cond.initialized C ∈ zzW ∧ ∀ j, j < N → defaultValue (ty j) = vp_V fs j
theorem z_new (E : En p s m args meth c G B nL cc own mn rt) {idx ci N : Nat} {fs : List Value} (hn : zNw own idx ci N fs) (d : decode cc pc = .ok (.new idx, 3)) (hc : k + 1 ≤ R.cells) (hs : n + N ≤ R.slots) (kk : Zj p l e R s m args below meth c Q G B nL (k + 1) (n + N) (pc + 3) ls (.ref (B + es.length) :: st) (es ++ [.inr (ci, fs)])) : Zj p l e R s m args below meth c Q G B nL k n (pc) ls (st) es := by
  intro H lo la hW hS hl
  obtain ⟨C, T, ty, hcl, hw, hty, h1, h2, h3, hfs⟩ := hn
  have hKn := E.2.2.2.2.2.1.1 ci _ hcl
  refine W.newcK E.1 E.2.1 E.2.2.2.1 (E.2.2.2.2.1 _ h1) (E.2.2.2.2.1 _ h2) (E.2.2.2.2.1 _ h3) rfl d hc hs hKn.2.1 rfl fun H1 kC hkC e1 z1 o1 => ?_
  have := kk H1 lo la (hW.new z1 o1 ⟨_, hcl, (u_born ty E.2.2.2.2.1 hw hKn hkC e1 hty).to hfs⟩) ⟨Nat.le_trans hS.1 (by omega), fun x g1 g2 => (o1 x (Nat.lt_of_lt_of_le g1 hS.1)).trans (hS.2.1 x g1 g2), hS.2.2⟩ hl
  rw [← hW.1] at this
  exact this
theorem z_newa (E : En p s m args meth c G B nL cc own mn rt) {atype : ArrayType} {ty : FieldType} {ti N : Nat} {j : Int32} {a0 : vp_A} (hty : newarray.typeOf atype = ty) (hrf : ∀ C, ty ≠ .object C) (hw : Cond.arrayClass ty ∈ zzW) (ht : zzTy[ti]? = some ty) (d : decode cc pc = .ok (.newarray atype, 2)) (ha : ∀ cA : ClassId, vp_cell cA a0 = arrV cA N (fun _ => defaultValue ty)) (hj : ¬ j < 0) (hN : j.toNatClampNeg = N) (hby : N * componentBytes ty ≤ 536870912) (hc : k + 1 ≤ R.cells) (hs : n + N ≤ R.slots) (kk : Zj p l e R s m args below meth c Q G B nL (k + 1) (n + N) (pc + 2) ls (.ref (B + es.length) :: st) (es ++ [.inl (G.2.1 ti, a0)])) : Zj p l e R s m args below meth c Q G B nL k n (pc) ls (.int j :: st) es := by
  intro H lo la hW hS hl
  subst hty
  refine va_newaK E.1 E.2.1 (E.2.2.2.2.1 _ hw) rfl d rfl hj hN hby hc hs rfl fun H1 cA e1 z1 o1 hAr hNm => ?_
  have hcA : G.2.1 ti = cA := by
    have h := (E.2.2.2.2.2.1.2 ti _ (zty_at ht)).2
    have h' : s.vm.findClass ("[" ++ (newarray.typeOf atype).toString) = some (G.2.1 ti) := by
      revert h
      cases atype <;> exact fun h => h
    exact Option.some.inj (h'.symm.trans hNm)
  have := kk H1 lo la (hW.new z1 o1 (show H1[H.size]? = some (vp_cell _ _) by rw [ha, hcA]; exact e1)) ⟨Nat.le_trans hS.1 (by omega), fun x g1 g2 => (o1 x (Nat.lt_of_lt_of_le g1 hS.1)).trans (hS.2.1 x g1 g2), hS.2.2⟩ hl
  rw [← hW.1] at this
  exact this
theorem z_newq (E : En p s m args meth c G B nL cc own mn rt) {idx ti N : Nat} {C : String} {j : Int32} (hw : Cond.classLink own idx C ∈ zzW) (hao : C ∈ zzAO) (ht : zzTy[ti]? = some (.object C)) (d : decode cc pc = .ok (.anewarray idx, 3)) (hj : ¬ j < 0) (hN : j.toNatClampNeg = N) (hby : N * 4 ≤ 536870912) (hc : k + 1 ≤ R.cells) (hs : n + N ≤ R.slots) (kk : Zj p l e R s m args below meth c Q G B nL (k + 1) (n + N) (pc + 3) ls (.ref (B + es.length) :: st) (es ++ [.inl (G.2.1 ti, N, .inr (.inr (.inr (.inr (fun _ => none)))))])) : Zj p l e R s m args below meth c Q G B nL k n (pc) ls (.int j :: st) es := by
  intro H lo la hW hS hl
  subst hN
  refine W.anew E.1 E.2.1 E.2.2.2.1 (E.2.2.2.2.1 _ hw) (va_AO.use (E.2.2.2.2.2.2.2.1.2.1 C hao)) rfl d rfl hj hby hc hs fun cA kA comp f1 f2 f3 f4 => ?_
  have hcA : G.2.1 ti = cA := by
    obtain ⟨kA', comp', -, -, -, h4⟩ := (E.2.2.2.2.2.1.2 ti _ (zty_at ht)).2
    exact Option.some.inj (h4.symm.trans f1)
  have h := kk (H.push ({ cls := cA, slots := Array.replicate j.toNatClampNeg .null, vm := .none } : Cell)) lo la (hW.new (by rw [Array.size_push]) (fun q hq => by rw [Array.getElem?_push, if_neg (Nat.ne_of_lt hq)]) (show (H.push _)[H.size]? = some (vp_cell _ _) by rw [Array.getElem?_push_size, vp_cell_q, hcA]; exact congrArg some (arrV_new _ _ _))) ⟨Nat.le_trans hS.1 (by rw [Array.size_push]; omega), fun x g1 g2 => (by rw [Array.getElem?_push, if_neg (Nat.ne_of_lt (Nat.lt_of_lt_of_le g1 hS.1))]; exact hS.2.1 x g1 g2), hS.2.2⟩ hl
  rw [← hW.1] at h
  exact h
variable {P : Option Value → zE → Prop} {mc ms : Nat}
theorem z_iret (E : En p s m args meth c G B nL cc own mn (some .int)) {v : Int32} (d : decode cc pc = .ok (.ireturn, 1)) (hp : P (some (.int v)) es) (h1 : k ≤ mc := by omega) (h2 : n ≤ ms := by omega) : Zj p l e R s m args below meth c (MQ below (zQ G B P) args s mc ms (fun q => B ≤ q)) G B nL k n pc ls [.int v] es :=
  fun H lo la hW hS hl => W.widen h1 h2 (W.iret E.1 E.2.1 E.2.2.2.2.2.2.2.2.2.2.1 (fun t ht _ => ⟨⟨_, _, rfl, hp, by rw [ht]; exact hW⟩, hS.F ht⟩) hS.2.2 d E.2.2.2.2.2.2.2.2.2.1)
theorem z_lret (E : En p s m args meth c G B nL cc own mn (some .long)) {v : Int64} (d : decode cc pc = .ok (.lreturn, 1)) (hp : P (some (.long v)) es) (h1 : k ≤ mc := by omega) (h2 : n ≤ ms := by omega) : Zj p l e R s m args below meth c (MQ below (zQ G B P) args s mc ms (fun q => B ≤ q)) G B nL k n pc ls [.long v] es :=
  fun H lo la hW hS hl => W.widen h1 h2 (W.lret E.1 E.2.1 E.2.2.2.2.2.2.2.2.2.2.1 (fun t ht _ => ⟨⟨_, _, rfl, hp, by rw [ht]; exact hW⟩, hS.F ht⟩) hS.2.2 d E.2.2.2.2.2.2.2.2.2.1)
theorem z_zret {ty : FieldType} (E : En p s m args meth c G B nL cc own mn (some ty)) {v : Int32} (hn : narrow ty (.int v) = .int v) (d : decode cc pc = .ok (.ireturn, 1)) (hp : P (some (.int v)) es) (h1 : k ≤ mc := by omega) (h2 : n ≤ ms := by omega) : Zj p l e R s m args below meth c (MQ below (zQ G B P) args s mc ms (fun q => B ≤ q)) G B nL k n pc ls [.int v] es :=
  fun H lo la hW hS hl => W.widen h1 h2 (W.zret E.1 E.2.1 E.2.2.2.2.2.2.2.2.2.2.1 hn (fun t ht _ => ⟨⟨_, _, rfl, hp, by rw [ht]; exact hW⟩, hS.F ht⟩) hS.2.2 d E.2.2.2.2.2.2.2.2.2.1)
theorem z_vret (E : En p s m args meth c G B nL cc own mn none) (d : decode cc pc = .ok (.return_, 1)) (hp : P none es) (h1 : k ≤ mc := by omega) (h2 : n ≤ ms := by omega) : Zj p l e R s m args below meth c (MQ below (zQ G B P) args s mc ms (fun q => B ≤ q)) G B nL k n pc ls [] es :=
  fun H lo la hW hS hl => W.widen h1 h2 (W.vret E.1 E.2.1 E.2.2.2.2.2.2.2.2.2.2.1 (fun t ht _ => ⟨⟨_, _, rfl, hp, by rw [ht]; exact hW⟩, hS.F ht⟩) hS.2.2 d E.2.2.2.2.2.2.2.2.2.1)
theorem z_aret {ty : FieldType} (E : En p s m args meth c G B nL cc own mn (some ty)) {v : Value} (hty : (∃ n, ty = .object n) ∨ ∃ t, ty = .array t) (hv : v = .null ∨ ∃ a, v = .ref a) (d : decode cc pc = .ok (.areturn, 1)) (hp : P (some v) es) (h1 : k ≤ mc := by omega) (h2 : n ≤ ms := by omega) : Zj p l e R s m args below meth c (MQ below (zQ G B P) args s mc ms (fun q => B ≤ q)) G B nL k n pc ls [v] es :=
  fun H lo la hW hS hl => W.widen h1 h2 (W.aret E.1 E.2.1 E.2.2.2.2.2.2.2.2.2.2.1 hty hv (fun t ht _ => ⟨⟨_, _, rfl, hp, by rw [ht]; exact hW⟩, hS.F ht⟩) hS.2.2 d E.2.2.2.2.2.2.2.2.2.1)
/-! calls -/
theorem zU.blind {av : List Value} : FrameBlind (va_Pc av (zU G B es)) := fun a U g mk q => ⟨q.1, q.2.1, va_K.moved (u := U) (U := U.calling g mk a) (Vm.Alike.refl U.vm) q.2.2.1, q.2.2.2.1.same rfl, q.2.2.2.2.same rfl⟩
theorem zU.of (E : En p s m args meth c G B nL cc own mn rt) {H : Heap} {lo : List Loc} (hW : zH G B es H) (hS : va_S (fun q => B ≤ q) s.heap H lo) {U : State} (hU : U.heap = H) (hw : s.WarmedH U.vm) : zU G B es U := by
  refine ⟨by rw [hU]; exact hW, va_K.moved hw.alike E.2.2.2.2.2.1, E.2.2.2.2.2.2.1.warm hw, ?_⟩
  rw [hU]
  exact (E.2.2.2.2.2.2.2.1.warm hw).kept hS.2.1
/-- the words of a call: by the tables, or of nest mates -/
def zMw (own : String) (idx : Nat) (y : MethodName) : Prop := Cond.methodLink own idx y ∈ zzW ∨ ∃ host, (own, idx, y, host) ∈ zzNM
def zC (own : String) (idx : Nat) (y : MethodName) (bytes : ByteArray) (maxL : Nat) (ret : Option FieldType) (na : Nat) : Prop := zMw own idx y ∧ Cond.code y bytes maxL ret ∈ zzW ∧ Cond.initialized y.cls ∈ zzW ∧ (y.cls ≠ "java/lang/invoke/MethodHandle" ∧ y.cls ≠ "java/lang/invoke/VarHandle" ∧ (parseMethodDescriptor y.desc).map (fun d => d.parameters.length) = some na) ∧ maxL ≤ 21
theorem zG_in {x : Cond} (hx : x ∈ zzW) : GoodIn zzW (x :: zzW) := by
  intro w hw
  rcases List.mem_cons.mp hw with h | h
  · rw [h]; exact ⟨hx, zzW_good _ hx⟩
  · exact ⟨h, zzW_good _ h⟩
variable {mc ms d' : Nat} {y : MethodName} {bytes : ByteArray} {maxL na : Nat} {ret : Option FieldType} {idx : Nat} {PP : Option Value → zE → Prop} {As : List Value}
theorem z_back (E : En p s m args meth c G B nL cc own mn rt) {g : JFrame} {H : Heap} {lo : List Loc} {rest : List Value} {a : Array Value} (hW : zH G B es H) (hS : va_S (fun q => B ≤ q) s.heap H lo) (hr : va_Run p l e R s m args below meth c H lo k n mc ms g rest (zQ G B PP a) (fun q => B ≤ q)) (kk : ∀ (r : Option Value) (es' : zE) (H1 : Heap) (lo1 : List Loc), PP r es' → zH G B es' H1 → va_S (fun q => B ≤ q) s.heap H1 lo1 → W p l e R s m args below meth c H1 lo1 (k + mc) (n + ms) Q { g with pc := g.pc + 3, stack := r.toList ++ rest }) : W p l e R s m args below meth c H lo k n Q g := by
  intro T hT X
  obtain ⟨v, st₀, t, T', L, h0, X', hL, e1, e2, ⟨⟨r, es', hv, hp, hz⟩, hf⟩, st⟩ := hr T hT X
  cases hv
  obtain ⟨t2, a1, b1⟩ := kk v es' T'.heap (lo ++ L) hp (by rw [e1]; exact hz) ⟨by rw [e1]; exact Nat.le_trans hS.1 (by rw [← h0]; exact hf.1), fun q g1 g2 => by
      rw [e1, hf.2 q (by rw [h0]; exact Nat.lt_of_lt_of_le g1 hS.1) g2, h0]
      exact hS.2.1 q g1 g2, fun q hq => by
      rcases List.mem_append.mp hq with h | h
      · exact hS.2.2 q h
      · exact hL q h⟩ T' rfl X'
  exact ⟨t2, st t2 a1, b1⟩
theorem z_room {d' maxL : Nat} (hR : d' + 1 ≤ R.frames ∧ 40 * d' + 40 ≤ R.locals) (hm : maxL ≤ 21) : d' + 1 ≤ R.frames ∧ 8 + (maxL + 11) + 40 * d' ≤ R.locals := ⟨hR.1, by omega⟩
theorem z_callS (E : En p s m args meth c G B nL cc own mn rt) (hM : Tr l G B y bytes maxL ret d' mc ms As es PP) (hC : zC own idx y bytes maxL ret na) (hst : Cond.static y ∈ zzW) (hR : d' + 1 ≤ R.frames ∧ 40 * d' + 40 ≤ R.locals) (d : decode cc pc = .ok (.invokestatic idx, 3)) (hn : As.length = na) (hrm : (st.map fun v => v.category).sum ≤ 8) (hc : k + mc ≤ R.cells) (hs : n + ms ≤ R.slots) (kk : ∀ (r : Option Value) (es' : zE), PP r es' → Zj p l e R s m args below meth c Q G B nL (k + mc) (n + ms) (pc + 3) ls (r.toList ++ st) es') : Zj p l e R s m args below meth c Q G B nL k n (pc) ls (As.reverse ++ st) es := by
  intro H lo la hW hS hl
  obtain ⟨hlk, hcode, hini, hd3, hmL⟩ := hC
  have hrr := z_room hR hmL
  refine z_back E hW hS (rest := st) (a := As.toArray) ?_ (fun r es' H1 lo1 hp h1 h2 => kk r es' hp H1 lo1 la h1 h2 hl)
  rcases hlk with hlk | ⟨host, hlk⟩
  · exact va_runS (As := As) (rest := st) ⟨E.1, E.2.1, E.2.2.1, E.2.2.2.1, E.2.2.2.2.1⟩ hM ⟨callB_of na E.2.2.2.2.1 (zG_in hcode) rfl rfl rfl (E.2.2.2.2.1 _ hini) (E.2.2.2.2.1 _ hlk) hd3 hrr, E.2.2.2.2.1 _ hst⟩ ⟨zU.blind, fun U hU hw => ⟨rfl, zU.of E hW hS hU hw⟩⟩ rfl hn hl.1 rfl (lv_room hrm) d ⟨hc, hs⟩
  · exact va_runSN (As := As) (rest := st) ⟨E.1, E.2.1, E.2.2.1, E.2.2.2.1, E.2.2.2.2.1⟩ hM ⟨va_cnB na E.2.2.2.2.1 (zG_in hcode) rfl rfl rfl (E.2.2.2.2.2.2.1.2 _ hlk) (E.2.2.2.2.1 _ hini) hd3 hrr, E.2.2.2.2.1 _ hst, trivial⟩ ⟨zU.blind, fun U hU hw => ⟨rfl, zU.of E hW hS hU hw⟩⟩ rfl hn hl.1 rfl (lv_room hrm) d ⟨hc, hs⟩
theorem z_callI (E : En p s m args meth c G B nL cc own mn rt) {a : Nat} (hM : Tr l G B y bytes maxL none d' mc ms (.ref a :: As) es PP) (hC : zC own idx y bytes maxL none na) (hin : y.name = "<init>" ∧ Cond.instanceMethod y ∈ zzW) (hR : d' + 1 ≤ R.frames ∧ 40 * d' + 40 ≤ R.locals) (d : decode cc pc = .ok (.invokespecial idx, 3)) (hn : As.length = na) (hrm : (st.map fun v => v.category).sum ≤ 8) (hc : k + mc ≤ R.cells) (hs : n + ms ≤ R.slots) (kk : ∀ (r : Option Value) (es' : zE), PP r es' → Zj p l e R s m args below meth c Q G B nL (k + mc) (n + ms) (pc + 3) ls (r.toList ++ st) es') : Zj p l e R s m args below meth c Q G B nL k n (pc) ls (As.reverse ++ .ref a :: st) es := by
  intro H lo la hW hS hl
  obtain ⟨hlk, hcode, hini, hd3, hmL⟩ := hC
  have hrr := z_room hR hmL
  refine z_back E hW hS (rest := st) (a := (Value.ref a :: As).toArray) ?_ (fun r es' H1 lo1 hp h1 h2 => kk r es' hp H1 lo1 la h1 h2 hl)
  rcases hlk with hlk | ⟨host, hlk⟩
  · exact va_runI (As := As) (rest := st) ⟨E.1, E.2.1, E.2.2.1, E.2.2.2.1, E.2.2.2.2.1⟩ hM ⟨callB_of na E.2.2.2.2.1 (zG_in hcode) rfl rfl rfl (E.2.2.2.2.1 _ hini) (E.2.2.2.2.1 _ hlk) hd3 hrr, hin.1, E.2.2.2.2.1 _ hin.2⟩ ⟨zU.blind, fun U hU hw => ⟨rfl, zU.of E hW hS hU hw⟩⟩ rfl hn hl.1 rfl (lv_room hrm) d ⟨hc, hs⟩
  · exact va_runIN (As := As) (rest := st) ⟨E.1, E.2.1, E.2.2.1, E.2.2.2.1, E.2.2.2.2.1⟩ hM ⟨va_cnB na E.2.2.2.2.1 (zG_in hcode) rfl rfl rfl (E.2.2.2.2.2.2.1.2 _ hlk) (E.2.2.2.2.1 _ hini) hd3 hrr, hin.1, E.2.2.2.2.1 _ hin.2⟩ ⟨zU.blind, fun U hU hw => ⟨rfl, zU.of E hW hS hU hw⟩⟩ rfl hn hl.1 rfl (lv_room hrm) d ⟨hc, hs⟩
theorem z_callV (E : En p s m args meth c G B nL cc own mn rt) {i ci : Nat} {C : String} {T : u_T} {N : Nat} {fs : List Value} (hM : Tr l G B y bytes maxL ret d' mc ms (.ref (B + i) :: As) es PP) (hC : zC own idx y bytes maxL ret na) (hin : Cond.instanceMethod y ∈ zzW ∧ Cond.selects C y y ∈ zzW) (hci : vwCl[ci]? = some (C, T, N)) (he : es[i]? = some (.inr (ci, fs))) (hR : d' + 1 ≤ R.frames ∧ 40 * d' + 40 ≤ R.locals) (d : decode cc pc = .ok (.invokevirtual idx, 3)) (hn : As.length = na) (hrm : (st.map fun v => v.category).sum ≤ 8) (hc : k + mc ≤ R.cells) (hs : n + ms ≤ R.slots) (kk : ∀ (r : Option Value) (es' : zE), PP r es' → Zj p l e R s m args below meth c Q G B nL (k + mc) (n + ms) (pc + 3) ls (r.toList ++ st) es') : Zj p l e R s m args below meth c Q G B nL k n (pc) ls (As.reverse ++ .ref (B + i) :: st) es := by
  intro H lo la hW hS hl
  obtain ⟨hlk, hcode, hini, hd3, hmL⟩ := hC
  have hrr := z_room hR hmL
  have hrecv := va_recv (q := (C, T, N)) E.2.2.2.2.2.1 hW.2 hci (zw_at he)
  refine z_back E hW hS (rest := st) (a := (Value.ref (B + i) :: As).toArray) ?_ (fun r es' H1 lo1 hp h1 h2 => kk r es' hp H1 lo1 la h1 h2 hl)
  rcases hlk with hlk | ⟨host, hlk⟩
  · exact va_runV (C := C) (As := As) (rest := st) ⟨E.1, E.2.1, E.2.2.1, E.2.2.2.1, E.2.2.2.2.1⟩ hM ⟨callB_of na E.2.2.2.2.1 (zG_in hcode) rfl rfl rfl (E.2.2.2.2.1 _ hini) (E.2.2.2.2.1 _ hlk) hd3 hrr, E.2.2.2.2.1 _ hin.1, E.2.2.2.2.1 _ hin.2⟩ ⟨zU.blind, hrecv, fun U hU hw => ⟨rfl, zU.of E hW hS hU hw⟩⟩ rfl hn hl.1 rfl (lv_room hrm) d ⟨hc, hs⟩
  · exact va_runVN (C := C) (As := As) (rest := st) ⟨E.1, E.2.1, E.2.2.1, E.2.2.2.1, E.2.2.2.2.1⟩ hM ⟨va_cnB na E.2.2.2.2.1 (zG_in hcode) rfl rfl rfl (E.2.2.2.2.2.2.1.2 _ hlk) (E.2.2.2.2.1 _ hini) hd3 hrr, E.2.2.2.2.1 _ hin.1, E.2.2.2.2.1 _ hin.2⟩ ⟨zU.blind, hrecv, fun U hU hw => ⟨rfl, zU.of E hW hS hU hw⟩⟩ rfl hn hl.1 rfl (lv_room hrm) d ⟨hc, hs⟩
theorem z_objInit (E : En p s m args meth c G B nL cc own mn rt) {a : Nat} (hw : Cond.methodLink own idx objectInit ∈ zzW ∧ Cond.instanceMethod objectInit ∈ zzW ∧ Cond.code objectInit ⟨#[0xb1]⟩ 1 none ∈ zzW) (d : decode cc pc = .ok (.invokespecial idx, 3)) (hf : 1 ≤ R.frames) (hrm : (st.map fun v => v.category).sum + 12 ≤ R.locals) (kk : Zj p l e R s m args below meth c Q G B nL k n (pc + 3) ls (st) es) : Zj p l e R s m args below meth c Q G B nL k n (pc) ls (.ref a :: st) es :=
  fun H lo la hW hS hl => W.objInit E.1 E.2.1 E.2.2.2.1 (E.2.2.2.2.1 _ hw.1) (E.2.2.2.2.1 _ hw.2.1) (E.2.2.2.2.1 _ hw.2.2) rfl (by rw [E.2.2.1]; exact hl.1) rfl d hf (by show 2 * 0 + _ + 12 ≤ _; omega) (kk H lo la hW hS hl)

/-! static ints; texts -/
theorem z_getsI (E : En p s m args meth c G B nL cc own mn rt) {idx i : Nat} {q : String × String × String × Int32} (hq : zzI[i]? = some q) (hlk : Cond.fieldLink own idx q.1 q.2.1 q.2.2.1 ∈ zzW) (d : decode cc pc = .ok (.getstatic idx, 3)) (kk : Zj p l e R s m args below meth c Q G B nL k n (pc + 3) ls (.int q.2.2.2 :: st) es) : Zj p l e R s m args below meth c Q G B nL k n (pc) ls (st) es :=
  fun H lo la hW hS hl => va_gets E.1 E.2.1 (E.2.2.2.2.2.2.2.1.2.2.1 i q hq) hS E.2.2.2.1 (E.2.2.2.2.1 _ hlk) (fun _ h => h) d (kk H lo la hW hS hl)
theorem z_getsQ (E : En p s m args meth c G B nL cc own mn rt) {idx : Nat} (hlk : Cond.fieldLink own idx "jdk/internal/util/Preconditions" "SIOOBE_FORMATTER" "Ljava/util/function/BiFunction;" ∈ zzW) (d : decode cc pc = .ok (.getstatic idx, 3)) (kk : ∀ v : Value, (v = .null ∨ ∃ t, v = .ref t) → Zj p l e R s m args below meth c Q G B nL k n (pc + 3) ls (v :: st) es) : Zj p l e R s m args below meth c Q G B nL k n (pc) ls (st) es := by
  intro H lo la hW hS hl
  rcases E.2.2.2.2.2.2.2.1.2.2.2.1 with h | ⟨t, h⟩
  · exact va_gets E.1 E.2.1 h hS E.2.2.2.1 (E.2.2.2.2.1 _ hlk) (fun _ h => h) d (kk _ (Or.inl rfl) H lo la hW hS hl)
  · exact va_gets E.1 E.2.1 h hS E.2.2.2.1 (E.2.2.2.2.1 _ hlk) (fun _ h => h) d (kk _ (Or.inr ⟨t, rfl⟩) H lo la hW hS hl)
theorem z_ldcS (E : En p s m args meth c G B nL cc own mn rt) {idx i : Nat} {q : String × Nat × String} (hq : zzX[i]? = some q) (ho : q.1 = own ∧ q.2.1 = idx) (d : decode cc pc = .ok (.ldc idx, 2)) (kk : Zj p l e R s m args below meth c Q G B nL k n (pc + 2) ls (.ref (G.2.2.2.1 i) :: st) es) : Zj p l e R s m args below meth c Q G B nL k n (pc) ls (st) es := by
  obtain ⟨rfl, rfl⟩ := ho
  exact fun H lo la hW hS hl => va_ldcS E.1 E.2.1 E.2.2.2.1 (E.2.2.2.2.2.2.2.1.2.2.2.2.1 i q hq) d (kk H lo la hW hS hl)
theorem z_getKv (E : En p s m args meth c G B nL cc own mn rt) {idx i : Nat} (hi : i < zzX.length) (hlk : Cond.fieldLink own idx "java/lang/String" "value" "[B" ∈ zzW) (d : decode cc pc = .ok (.getfield idx, 3)) (kk : Zj p l e R s m args below meth c Q G B nL k n (pc + 3) ls (.ref (G.2.2.2.2 i) :: st) es) : Zj p l e R s m args below meth c Q G B nL k n (pc) ls (.ref (G.2.2.2.1 i) :: st) es :=
  fun H lo la hW hS hl => vk_getf E.1 E.2.1 (E.2.2.2.2.2.2.2.1.2.2.2.2.2.1 i hi).2.2.1 hS E.2.2.2.1 (E.2.2.2.2.1 _ hlk) (fun _ h => h) d (kk H lo la hW hS hl)
theorem z_getKc (E : En p s m args meth c G B nL cc own mn rt) {idx i : Nat} (hi : i < zzX.length) (hlk : Cond.fieldLink own idx "java/lang/String" "coder" "B" ∈ zzW) (d : decode cc pc = .ok (.getfield idx, 3)) (kk : Zj p l e R s m args below meth c Q G B nL k n (pc + 3) ls (.int 0 :: st) es) : Zj p l e R s m args below meth c Q G B nL k n (pc) ls (.ref (G.2.2.2.1 i) :: st) es :=
  fun H lo la hW hS hl => vk_getf E.1 E.2.1 (E.2.2.2.2.2.2.2.1.2.2.2.2.2.1 i hi).2.1 hS E.2.2.2.1 (E.2.2.2.2.1 _ hlk) (fun _ h => h) d (kk H lo la hW hS hl)
theorem z_lenK (E : En p s m args meth c G B nL cc own mn rt) {i : Nat} (hi : i < zzX.length) (d : decode cc pc = .ok (.arraylength, 1)) (kk : Zj p l e R s m args below meth c Q G B nL k n (pc + 1) ls (.int (Int32.ofNat (zzXl.getD i 0)) :: st) es) : Zj p l e R s m args below meth c Q G B nL k n (pc) ls (.ref (G.2.2.2.2 i) :: st) es :=
  fun H lo la hW hS hl => va_tlen E.1 E.2.1 (E.2.2.2.2.2.2.2.1.2.2.2.2.2.1 i hi).2.2.2 hS rfl d (kk H lo la hW hS hl)
theorem z_tbK (E : En p s m args meth c G B nL cc own mn rt) {i : Nat} {j : Int32} (hi : i < zzX.length) (hin : vp_in j (zzXl.getD i 0)) (d : decode cc pc = .ok (.baload, 1)) (kk : Zj p l e R s m args below meth c Q G B nL k n (pc + 1) ls (.int ((zzXb.getD i []).getD j.toNatClampNeg 0) :: st) es) : Zj p l e R s m args below meth c Q G B nL k n (pc) ls (.int j :: .ref (G.2.2.2.2 i) :: st) es :=
  fun H lo la hW hS hl => va_tb E.1 E.2.1 (E.2.2.2.2.2.2.2.1.2.2.2.2.2.1 i hi).2.2.2 hS hin rfl d (kk H lo la hW hS hl)
theorem z_callK (E : En p s m args meth c G B nL cc own mn rt) {i : Nat} (hi : i < zzX.length) (hM : Tr l G B y bytes maxL ret d' mc ms (.ref (G.2.2.2.1 i) :: As) es PP) (hC : zC own idx y bytes maxL ret na) (hin : Cond.instanceMethod y ∈ zzW ∧ Cond.selects "java/lang/String" y y ∈ zzW) (hR : d' + 1 ≤ R.frames ∧ 40 * d' + 40 ≤ R.locals) (d : decode cc pc = .ok (.invokevirtual idx, 3)) (hn : As.length = na) (hrm : (st.map fun v => v.category).sum ≤ 8) (hc : k + mc ≤ R.cells) (hs : n + ms ≤ R.slots) (kk : ∀ (r : Option Value) (es' : zE), PP r es' → Zj p l e R s m args below meth c Q G B nL (k + mc) (n + ms) (pc + 3) ls (r.toList ++ st) es') : Zj p l e R s m args below meth c Q G B nL k n (pc) ls (As.reverse ++ .ref (G.2.2.2.1 i) :: st) es := by
  intro H lo la hW hS hl
  obtain ⟨hlk, hcode, hini, hd3, hmL⟩ := hC
  have hrr := z_room hR hmL
  have hrecv := vk_recv E.2.2.2.2.2.2.2.1.2.2.2.2.2 hi hS
  refine z_back E hW hS (rest := st) (a := (Value.ref (G.2.2.2.1 i) :: As).toArray) ?_ (fun r es' H1 lo1 hp h1 h2 => kk r es' hp H1 lo1 la h1 h2 hl)
  rcases hlk with hlk | ⟨host, hlk⟩
  · exact va_runV (C := "java/lang/String") (As := As) (rest := st) ⟨E.1, E.2.1, E.2.2.1, E.2.2.2.1, E.2.2.2.2.1⟩ hM ⟨callB_of na E.2.2.2.2.1 (zG_in hcode) rfl rfl rfl (E.2.2.2.2.1 _ hini) (E.2.2.2.2.1 _ hlk) hd3 hrr, E.2.2.2.2.1 _ hin.1, E.2.2.2.2.1 _ hin.2⟩ ⟨zU.blind, hrecv, fun U hU hw => ⟨rfl, zU.of E hW hS hU hw⟩⟩ rfl hn hl.1 rfl (lv_room hrm) d ⟨hc, hs⟩
  · exact va_runVN (C := "java/lang/String") (As := As) (rest := st) ⟨E.1, E.2.1, E.2.2.1, E.2.2.2.1, E.2.2.2.2.1⟩ hM ⟨va_cnB na E.2.2.2.2.1 (zG_in hcode) rfl rfl rfl (E.2.2.2.2.2.2.1.2 _ hlk) (E.2.2.2.2.1 _ hini) hd3 hrr, E.2.2.2.2.1 _ hin.1, E.2.2.2.2.1 _ hin.2⟩ ⟨zU.blind, hrecv, fun U hU hw => ⟨rfl, zU.of E hW hS hU hw⟩⟩ rfl hn hl.1 rfl (lv_room hrm) d ⟨hc, hs⟩
theorem z_min (E : En p s m args meth c G B nL cc own mn rt) {x y : Int32} (hw : Cond.methodLink own idx Lib.Math.min.name ∈ zzW ∧ Cond.static Lib.Math.min.name ∈ zzW ∧ Cond.initialized "java/lang/Math" ∈ zzW ∧ Cond.code Lib.Math.min.name Lib.Math.min.code 2 (some .int) ∈ zzW) (d : decode cc pc = .ok (.invokestatic idx, 3)) (hf : 1 ≤ R.frames) (hrm : (st.map fun v => v.category).sum + 13 ≤ R.locals) (hc : k ≤ R.cells) (hs : n ≤ R.slots) (kk : Zj p l e R s m args below meth c Q G B nL k n (pc + 3) ls (.int (if y < x then y else x) :: st) es) : Zj p l e R s m args below meth c Q G B nL k n (pc) ls (.int y :: .int x :: st) es :=
  fun H lo la hW hS hl => va_mmin E.1 E.2.1 (E.2.2.1.trans hl.1.symm) E.2.2.2.1 (E.2.2.2.2.1 _ hw.1) (E.2.2.2.2.1 _ hw.2.1) (E.2.2.2.2.1 _ hw.2.2.1) (E.2.2.2.2.1 _ hw.2.2.2) hf hrm hc hs d (kk H lo la hW hS hl)
theorem z_nn (z : Int32) (hz : ¬ z < 0) : z.toInt = (z.toNatClampNeg : Int) := by
  have hz0 : (0 : Int) ≤ z.toInt := by
    have := Int32.not_lt.mp hz
    simpa using Int32.le_iff_toInt_le.mp this
  show z.toInt = ((z.toInt.toNat : Nat) : Int)
  omega
/-- arraycopy, a row of bytes or ints of the world onto another -/
theorem z_copy (E : En p s m args meth c G B nL cc own mn rt) {i0 i1 ti n0 n1 : Nat} {f g : Nat → Int32} {ty : FieldType} {sp dp cn : Int32} (hw : Cond.methodLink own idx arraycopyName ∈ zzW ∧ Cond.native arraycopyName ∈ zzW ∧ Cond.static arraycopyName ∈ zzW ∧ Cond.initialized "java/lang/System" ∈ zzW) (ht : zzTy[ti]? = some ty) (hprim : refKind ty = false) (d : decode cc pc = .ok (.invokestatic idx, 3)) (he0 : es[i0]? = some (.inl (G.2.1 ti, n0, .inl f))) (he1 : es[i1]? = some (.inl (G.2.1 ti, n1, .inl g))) (h1 : ¬ sp < 0) (h2 : ¬ dp < 0) (h3 : ¬ cn < 0) (h4 : sp.toNatClampNeg + cn.toNatClampNeg ≤ n0) (h5 : dp.toNatClampNeg + cn.toNatClampNeg ≤ n1) (hfit : ∀ i, i < cn.toNatClampNeg → fits ty (.int (f (sp.toNatClampNeg + i))) = true) (hf : 1 ≤ R.frames) (hrm : (st.map fun v => v.category).sum + (nativeFrameWords "java/lang/System" "arraycopy" 5 + 11) ≤ R.locals) (kk : ∀ es', es' = es.set i1 (.inl (G.2.1 ti, n1, .inl (va_cpy f g sp.toNatClampNeg dp.toNatClampNeg cn.toNatClampNeg))) → Zj p l e R s m args below meth c Q G B nL k n (pc + 3) ls (st) es') : Zj p l e R s m args below meth c Q G B nL k n (pc) ls (.int cn :: .int dp :: .ref (B + i1) :: .int sp :: .ref (B + i0) :: st) es := by
  intro H lo la hW hS hl T hT X
  have hc0 : H[B + i0]? = some (vp_cell (G.2.1 ti) (n0, .inl f)) := hW.2 i0 _ (zw_at he0)
  have hc1 : H[B + i1]? = some (vp_cell (G.2.1 ti) (n1, .inl g)) := hW.2 i1 _ (zw_at he1)
  obtain ⟨-, k0, hk0, cm0, hkk0⟩ := (E.2.2.2.2.2.1.2 ti _ (zty_at ht)).1 n0 (fun j => .int (f j))
  obtain ⟨-, k1, hk1, cm1, hkk1⟩ := (E.2.2.2.2.2.1.2 ti _ (zty_at ht)).1 n1 (fun j => .int (g j))
  obtain ⟨vm', X', step⟩ := X.arraycopy E.1 E.2.2.2.1 (E.2.2.2.2.1 _ hw.1) (E.2.2.2.2.1 _ hw.2.1) (E.2.2.2.2.1 _ hw.2.2.1) (E.2.2.2.2.1 _ hw.2.2.2) (src := B + i0) (dst := B + i1) (cs := vp_cell (G.2.1 ti) (n0, .inl f)) (cd := vp_cell (G.2.1 ti) (n1, .inl g)) (srcPos := sp) (destPos := dp) (n := cn) (by rw [hT]; exact hc0) (by rw [hT]; exact hc1)
    (fun _ h => by cases h) (fun _ h => by cases h) (fun h => by cases h) (fun h => by cases h) hk0 hk1 hkk0 hkk1 (by simp [hprim]) h1 h2 h3
    (by rw [z_nn sp h1, z_nn cn h3]; show ¬ _ > ((arrV _ n0 (fun j => .int (f j))).slots.size : Int); rw [arrV_size]; omega)
    (by rw [z_nn dp h2, z_nn cn h3]; show ¬ _ > ((arrV _ n1 (fun j => .int (g j))).slots.size : Int); rw [arrV_size]; omega)
    (fun vm₁ _ i hi => by
      have e : (vp_cell (G.2.1 ti) (n0, .inl f)).slots.getD (sp.toNatClampNeg + i) .null = .int (f (sp.toNatClampNeg + i)) := by
        show (arrV _ n0 (fun j => .int (f j))).slots.getD _ _ = _
        rw [Array.getD_eq_getD_getElem?, arrV_read _ _ (by omega)]
        rfl
      refine ⟨?_, ?_⟩
      · rw [e]
        exact hfit i hi
      · rw [e]
        exact trivial)
    (g := F0 m pc la (.int cn :: .int dp :: .ref (B + i1) :: .int sp :: .ref (B + i0) :: st)) rfl (by rw [E.2.2.1]; exact hl.1) (rest := st) rfl (by rw [E.2.1]; exact d) hf (by show 2 * 0 + _ + _ ≤ _; omega)
  have e1 : copied (vp_cell (G.2.1 ti) (n0, .inl f)) (vp_cell (G.2.1 ti) (n1, .inl g)) sp dp cn = vp_cell (G.2.1 ti) (n1, .inl (va_cpy f g sp.toNatClampNeg dp.toNatClampNeg cn.toNatClampNeg)) := va_copied (fun z => .int z) _ _ f g h4
  rw [e1] at X' step
  have hl1 : B + i1 < H.size := (Array.getElem?_eq_some_iff.mp hc1).1
  have hheap : ((T.setVm vm').setCell (B + i1) (vp_cell (G.2.1 ti) (n1, .inl (va_cpy f g sp.toNatClampNeg dp.toNatClampNeg cn.toNatClampNeg)))).heap = H.setIfInBounds (B + i1) (vp_cell (G.2.1 ti) (n1, .inl (va_cpy f g sp.toNatClampNeg dp.toNatClampNeg cn.toNatClampNeg))) := by rw [← hT]; rfl
  have oq : ∀ q : Nat, q ≠ B + i1 → (H.setIfInBounds (B + i1) (vp_cell (G.2.1 ti) (n1, .inl (va_cpy f g sp.toNatClampNeg dp.toNatClampNeg cn.toNatClampNeg))))[q]? = H[q]? := fun q hq => by simp [Array.getElem?_setIfInBounds, Ne.symm hq]
  obtain ⟨t, a1, b1⟩ := kk _ rfl _ _ la (hW.upd (by simp) (hW.2.set zw_D (zw_at he1) (show (H.setIfInBounds (B + i1) _)[B + i1]? = some _ by simp [Array.getElem?_setIfInBounds, hl1]) oq)) ⟨by simp; exact hS.1, fun q g1 g2 => by
      rw [oq q (fun e => g2 (by rw [e]; exact Nat.le_add_right B i1))]
      exact hS.2.1 q g1 g2, fun q hq => by
      rcases List.mem_append.mp hq with h | h
      · exact hS.2.2 q h
      · obtain ⟨z, -, hz⟩ := List.mem_map.mp h
        rw [← hz]
        exact Nat.le_add_right B i1⟩ hl _ hheap X'
  exact ⟨t, step t a1, b1⟩
/-- arraycopy, a static table of ints onto a row of the world -/
theorem z_copyT (E : En p s m args meth c G B nL cc own mn rt) {i0 i1 ti n1 : Nat} {q : String × String × List Int32} {g : Nat → Int32} {sp dp cn : Int32} (hw : Cond.methodLink own idx arraycopyName ∈ zzW ∧ Cond.native arraycopyName ∈ zzW ∧ Cond.static arraycopyName ∈ zzW ∧ Cond.initialized "java/lang/System" ∈ zzW) (hq : zzT[i0]? = some q) (ht : zzTy[ti]? = some .int) (d : decode cc pc = .ok (.invokestatic idx, 3)) (he1 : es[i1]? = some (.inl (G.2.1 ti, n1, .inl g))) (h1 : ¬ sp < 0) (h2 : ¬ dp < 0) (h3 : ¬ cn < 0) (h4 : sp.toNatClampNeg + cn.toNatClampNeg ≤ q.2.2.length) (h5 : dp.toNatClampNeg + cn.toNatClampNeg ≤ n1) (hf : 1 ≤ R.frames) (hrm : (st.map fun v => v.category).sum + (nativeFrameWords "java/lang/System" "arraycopy" 5 + 11) ≤ R.locals) (kk : ∀ es', es' = es.set i1 (.inl (G.2.1 ti, n1, .inl (va_cpy (fun j => q.2.2.getD j 0) g sp.toNatClampNeg dp.toNatClampNeg cn.toNatClampNeg))) → Zj p l e R s m args below meth c Q G B nL k n (pc + 3) ls (st) es') : Zj p l e R s m args below meth c Q G B nL k n (pc) ls (.int cn :: .int dp :: .ref (B + i1) :: .int sp :: .ref (G.2.2.1 i0) :: st) es := by
  intro H lo la hW hS hl T hT X
  obtain ⟨scr, hs1, hs2, hs3, hs4, -, hs5, hs7⟩ := (E.2.2.2.2.2.2.2.1.1 i0 q hq).2
  have hc0 : H[G.2.2.1 i0]? = some scr := by rw [hS.2.1 _ (Array.getElem?_eq_some_iff.mp hs1).1 hs7]; exact hs1
  have hc1 : H[B + i1]? = some (vp_cell (G.2.1 ti) (n1, .inl g)) := hW.2 i1 _ (zw_at he1)
  obtain ⟨hs6, k0, hk0, cm0, hkk0⟩ := hs2
  obtain ⟨-, k1, hk1, cm1, hkk1⟩ := (E.2.2.2.2.2.1.2 ti _ (zty_at ht)).1 n1 (fun j => .int (g j))
  obtain ⟨vm', X', step⟩ := X.arraycopy E.1 E.2.2.2.1 (E.2.2.2.2.1 _ hw.1) (E.2.2.2.2.1 _ hw.2.1) (E.2.2.2.2.1 _ hw.2.2.1) (E.2.2.2.2.1 _ hw.2.2.2) (src := G.2.2.1 i0) (dst := B + i1) (cs := scr) (cd := vp_cell (G.2.1 ti) (n1, .inl g)) (srcPos := sp) (destPos := dp) (n := cn) (by rw [hT]; exact hc0) (by rw [hT]; exact hc1)
    hs6 (fun _ h => by cases h) hs3 (fun h => by cases h) hk0 hk1 hkk0 hkk1 (by simp [refKind]) h1 h2 h3
    (by rw [z_nn sp h1, z_nn cn h3]; omega)
    (by rw [z_nn dp h2, z_nn cn h3]; show ¬ _ > ((arrV _ n1 (fun j => .int (g j))).slots.size : Int); rw [arrV_size]; omega)
    (fun vm₁ _ i hi => by
      have e : scr.slots.getD (sp.toNatClampNeg + i) .null = .int (q.2.2.getD (sp.toNatClampNeg + i) 0) := by
        rw [Array.getD_eq_getD_getElem?, hs5 _ (by omega)]
        rfl
      refine ⟨?_, ?_⟩
      · rw [e]
        rfl
      · rw [e]
        exact trivial)
    (g := F0 m pc la (.int cn :: .int dp :: .ref (B + i1) :: .int sp :: .ref (G.2.2.1 i0) :: st)) rfl (by rw [E.2.2.1]; exact hl.1) (rest := st) rfl (by rw [E.2.1]; exact d) hf (by show 2 * 0 + _ + _ ≤ _; omega)
  have e1 : copied scr (vp_cell (G.2.1 ti) (n1, .inl g)) sp dp cn = vp_cell (G.2.1 ti) (n1, .inl (va_cpy (fun j => q.2.2.getD j 0) g sp.toNatClampNeg dp.toNatClampNeg cn.toNatClampNeg)) := va_copiedX (fun z => .int z) scr _ (fun j => q.2.2.getD j 0) g hs5 h4
  rw [e1] at X' step
  have hl1 : B + i1 < H.size := (Array.getElem?_eq_some_iff.mp hc1).1
  have hheap : ((T.setVm vm').setCell (B + i1) (vp_cell (G.2.1 ti) (n1, .inl (va_cpy (fun j => q.2.2.getD j 0) g sp.toNatClampNeg dp.toNatClampNeg cn.toNatClampNeg)))).heap = H.setIfInBounds (B + i1) (vp_cell (G.2.1 ti) (n1, .inl (va_cpy (fun j => q.2.2.getD j 0) g sp.toNatClampNeg dp.toNatClampNeg cn.toNatClampNeg))) := by rw [← hT]; rfl
  have oq : ∀ q' : Nat, q' ≠ B + i1 → (H.setIfInBounds (B + i1) (vp_cell (G.2.1 ti) (n1, .inl (va_cpy (fun j => q.2.2.getD j 0) g sp.toNatClampNeg dp.toNatClampNeg cn.toNatClampNeg))))[q']? = H[q']? := fun q' hq' => by simp [Array.getElem?_setIfInBounds, Ne.symm hq']
  obtain ⟨t, a1, b1⟩ := kk _ rfl _ _ la (hW.upd (by simp) (hW.2.set zw_D (zw_at he1) (show (H.setIfInBounds (B + i1) _)[B + i1]? = some _ by simp [Array.getElem?_setIfInBounds, hl1]) oq)) ⟨by simp; exact hS.1, fun q' g1 g2 => by
      rw [oq q' (fun e => g2 (by rw [e]; exact Nat.le_add_right B i1))]
      exact hS.2.1 q' g1 g2, fun q' hq' => by
      rcases List.mem_append.mp hq' with h | h
      · exact hS.2.2 q' h
      · obtain ⟨z, -, hz⟩ := List.mem_map.mp h
        rw [← hz]
        exact Nat.le_add_right B i1⟩ hl _ hheap X'
  exact ⟨t, step t a1, b1⟩
end ZR
/-- a contract out of the walk from the entry -/
theorem Tr.of {l : Launch} {G : zG} {B : Nat} {y : MethodName} {cc : ByteArray} {maxL : Nat} {ret : Option FieldType} {d mc ms : Nat} {av : List Value} {es : zE} {P : Option Value → zE → Prop} {ls : List (Option Value)} (hy : plainName y.cls = true) (hlen : (lg_sl av).length ≤ maxL) (hls : zent av maxL = ls)
    (body : ∀ (p : Program) (e : Env) (s : State) (m : MethodId) (below : List Frame) (meth : Method) (c : Code), En p s m av.toArray meth c G B maxL cc y.cls y.name ret → Zj p l e (zr d mc ms) s m av.toArray below meth c (MQ below (zQ G B P) av.toArray s mc ms (fun q => B ≤ q)) G B maxL 0 0 0 ls [] es) : Tr l G B y cc maxL ret d mc ms av es P := by
  refine Met.ofW (cc := cc) (maxL := maxL) (ret := ret) hy rfl ?_
  intro p e s m args below meth c s₁ Bd hml hv
  obtain ⟨rfl, hH, hK, hN, hZ⟩ := hv
  have hts := atoms_spec (ws := Cond.code y cc maxL ret :: zzW) Bd.pre
  have E : En p s m av.toArray meth c G B maxL cc y.cls y.name ret := ⟨Bd.exec, Bd.bytes, hml, findClass_of_methodNamed Bd.named, fun w hw => hts w (List.mem_cons_of_mem _ hw), hK, hN, hZ, by rw [hH.1]; exact Nat.le_add_right _ _, Bd.notSynchronized, Bd.returns, (name_of_methodNamed Bd.named Bd.method).1⟩
  have hl := lv_entry av (n := maxL) hlen
  rw [lg_entry_eq]
  exact body p e s m below meth c E s.heap [] _ hH va_S.rf ⟨hl.1, hl.2.1, fun i v hv => hl.2.2 (i, v) (by have := zent_args av maxL 0 i (by rw [hls]; exact hv); rwa [Nat.zero_add] at this)⟩
/-! what a contract says of an answer: an int, a long, a reference or null, nothing -/
def pI (P : Int32 → zE → Prop) : Option Value → zE → Prop := fun r es => ∃ v : Int32, r = some (.int v) ∧ P v es
def pL (P : Int64 → zE → Prop) : Option Value → zE → Prop := fun r es => ∃ v : Int64, r = some (.long v) ∧ P v es
def pR (P : Value → zE → Prop) : Option Value → zE → Prop := fun r es => ∃ v : Value, r = some v ∧ P v es
def pV (P : zE → Prop) : Option Value → zE → Prop := fun r es => r = none ∧ P es
section ZC
variable {p : Program} {l : Launch} {e : Env} {R : Room} {s : State} {m : MethodId} {args : Array Value} {below : List Frame} {meth : Method} {c : Code} {Q : State → Prop} {G : zG} {B nL k n pc : Nat} {ls : List (Option Value)} {st : List Value} {es : zE} {cc : ByteArray} {own mn : String} {rt : Option FieldType}
variable {mc ms d' : Nat} {y : MethodName} {bytes : ByteArray} {maxL : Nat} {ret : Option FieldType} {idx : Nat}
theorem z_cS0I (E : En p s m args meth c G B nL cc own mn rt) {P : Int32 → zE → Prop} (hM : Tr l G B y bytes maxL ret d' mc ms [] es (pI P)) (hC : zC own idx y bytes maxL ret 0) (hst : Cond.static y ∈ zzW) (hR : d' + 1 ≤ R.frames ∧ 40 * d' + 40 ≤ R.locals) (d : decode cc pc = .ok (.invokestatic idx, 3)) (hrm : (st.map fun v => v.category).sum ≤ 8) (hc : k + mc ≤ R.cells) (hs : n + ms ≤ R.slots) (kk : ∀ v es', P v es' → Zj p l e R s m args below meth c Q G B nL (k + mc) (n + ms) (pc + 3) ls (.int v :: st) es') : Zj p l e R s m args below meth c Q G B nL k n (pc) ls (st) es :=
  z_callS (As := []) E hM hC hst hR d rfl hrm hc hs (fun r es' h => by obtain ⟨v, rfl, hp⟩ := h; exact kk v es' hp)
theorem z_cV0I (E : En p s m args meth c G B nL cc own mn rt) {P : Int32 → zE → Prop} {i ci : Nat} {C : String} {T : u_T} {N : Nat} {fs : List Value} (hM : Tr l G B y bytes maxL ret d' mc ms [.ref (B + i)] es (pI P)) (hC : zC own idx y bytes maxL ret 0) (hin : Cond.instanceMethod y ∈ zzW ∧ Cond.selects C y y ∈ zzW) (hci : vwCl[ci]? = some (C, T, N)) (he : es[i]? = some (.inr (ci, fs))) (hR : d' + 1 ≤ R.frames ∧ 40 * d' + 40 ≤ R.locals) (d : decode cc pc = .ok (.invokevirtual idx, 3)) (hrm : (st.map fun v => v.category).sum ≤ 8) (hc : k + mc ≤ R.cells) (hs : n + ms ≤ R.slots) (kk : ∀ v es', P v es' → Zj p l e R s m args below meth c Q G B nL (k + mc) (n + ms) (pc + 3) ls (.int v :: st) es') : Zj p l e R s m args below meth c Q G B nL k n (pc) ls (.ref (B + i) :: st) es :=
  z_callV (As := []) E hM hC hin hci he hR d rfl hrm hc hs (fun r es' h => by obtain ⟨v, rfl, hp⟩ := h; exact kk v es' hp)
theorem z_cS0L (E : En p s m args meth c G B nL cc own mn rt) {P : Int64 → zE → Prop} (hM : Tr l G B y bytes maxL ret d' mc ms [] es (pL P)) (hC : zC own idx y bytes maxL ret 0) (hst : Cond.static y ∈ zzW) (hR : d' + 1 ≤ R.frames ∧ 40 * d' + 40 ≤ R.locals) (d : decode cc pc = .ok (.invokestatic idx, 3)) (hrm : (st.map fun v => v.category).sum ≤ 8) (hc : k + mc ≤ R.cells) (hs : n + ms ≤ R.slots) (kk : ∀ v es', P v es' → Zj p l e R s m args below meth c Q G B nL (k + mc) (n + ms) (pc + 3) ls (.long v :: st) es') : Zj p l e R s m args below meth c Q G B nL k n (pc) ls (st) es :=
  z_callS (As := []) E hM hC hst hR d rfl hrm hc hs (fun r es' h => by obtain ⟨v, rfl, hp⟩ := h; exact kk v es' hp)
theorem z_cV0L (E : En p s m args meth c G B nL cc own mn rt) {P : Int64 → zE → Prop} {i ci : Nat} {C : String} {T : u_T} {N : Nat} {fs : List Value} (hM : Tr l G B y bytes maxL ret d' mc ms [.ref (B + i)] es (pL P)) (hC : zC own idx y bytes maxL ret 0) (hin : Cond.instanceMethod y ∈ zzW ∧ Cond.selects C y y ∈ zzW) (hci : vwCl[ci]? = some (C, T, N)) (he : es[i]? = some (.inr (ci, fs))) (hR : d' + 1 ≤ R.frames ∧ 40 * d' + 40 ≤ R.locals) (d : decode cc pc = .ok (.invokevirtual idx, 3)) (hrm : (st.map fun v => v.category).sum ≤ 8) (hc : k + mc ≤ R.cells) (hs : n + ms ≤ R.slots) (kk : ∀ v es', P v es' → Zj p l e R s m args below meth c Q G B nL (k + mc) (n + ms) (pc + 3) ls (.long v :: st) es') : Zj p l e R s m args below meth c Q G B nL k n (pc) ls (.ref (B + i) :: st) es :=
  z_callV (As := []) E hM hC hin hci he hR d rfl hrm hc hs (fun r es' h => by obtain ⟨v, rfl, hp⟩ := h; exact kk v es' hp)
theorem z_cS0R (E : En p s m args meth c G B nL cc own mn rt) {P : Value → zE → Prop} (hM : Tr l G B y bytes maxL ret d' mc ms [] es (pR P)) (hC : zC own idx y bytes maxL ret 0) (hst : Cond.static y ∈ zzW) (hR : d' + 1 ≤ R.frames ∧ 40 * d' + 40 ≤ R.locals) (d : decode cc pc = .ok (.invokestatic idx, 3)) (hrm : (st.map fun v => v.category).sum ≤ 8) (hc : k + mc ≤ R.cells) (hs : n + ms ≤ R.slots) (kk : ∀ v es', P v es' → Zj p l e R s m args below meth c Q G B nL (k + mc) (n + ms) (pc + 3) ls (v :: st) es') : Zj p l e R s m args below meth c Q G B nL k n (pc) ls (st) es :=
  z_callS (As := []) E hM hC hst hR d rfl hrm hc hs (fun r es' h => by obtain ⟨v, rfl, hp⟩ := h; exact kk v es' hp)
theorem z_cV0R (E : En p s m args meth c G B nL cc own mn rt) {P : Value → zE → Prop} {i ci : Nat} {C : String} {T : u_T} {N : Nat} {fs : List Value} (hM : Tr l G B y bytes maxL ret d' mc ms [.ref (B + i)] es (pR P)) (hC : zC own idx y bytes maxL ret 0) (hin : Cond.instanceMethod y ∈ zzW ∧ Cond.selects C y y ∈ zzW) (hci : vwCl[ci]? = some (C, T, N)) (he : es[i]? = some (.inr (ci, fs))) (hR : d' + 1 ≤ R.frames ∧ 40 * d' + 40 ≤ R.locals) (d : decode cc pc = .ok (.invokevirtual idx, 3)) (hrm : (st.map fun v => v.category).sum ≤ 8) (hc : k + mc ≤ R.cells) (hs : n + ms ≤ R.slots) (kk : ∀ v es', P v es' → Zj p l e R s m args below meth c Q G B nL (k + mc) (n + ms) (pc + 3) ls (v :: st) es') : Zj p l e R s m args below meth c Q G B nL k n (pc) ls (.ref (B + i) :: st) es :=
  z_callV (As := []) E hM hC hin hci he hR d rfl hrm hc hs (fun r es' h => by obtain ⟨v, rfl, hp⟩ := h; exact kk v es' hp)
theorem z_cS0V (E : En p s m args meth c G B nL cc own mn rt) {P : zE → Prop} (hM : Tr l G B y bytes maxL ret d' mc ms [] es (pV P)) (hC : zC own idx y bytes maxL ret 0) (hst : Cond.static y ∈ zzW) (hR : d' + 1 ≤ R.frames ∧ 40 * d' + 40 ≤ R.locals) (d : decode cc pc = .ok (.invokestatic idx, 3)) (hrm : (st.map fun v => v.category).sum ≤ 8) (hc : k + mc ≤ R.cells) (hs : n + ms ≤ R.slots) (kk : ∀ es', P es' → Zj p l e R s m args below meth c Q G B nL (k + mc) (n + ms) (pc + 3) ls (st) es') : Zj p l e R s m args below meth c Q G B nL k n (pc) ls (st) es :=
  z_callS (As := []) E hM hC hst hR d rfl hrm hc hs (fun r es' h => by obtain ⟨rfl, hp⟩ := h; exact kk es' hp)
theorem z_cV0V (E : En p s m args meth c G B nL cc own mn rt) {P : zE → Prop} {i ci : Nat} {C : String} {T : u_T} {N : Nat} {fs : List Value} (hM : Tr l G B y bytes maxL ret d' mc ms [.ref (B + i)] es (pV P)) (hC : zC own idx y bytes maxL ret 0) (hin : Cond.instanceMethod y ∈ zzW ∧ Cond.selects C y y ∈ zzW) (hci : vwCl[ci]? = some (C, T, N)) (he : es[i]? = some (.inr (ci, fs))) (hR : d' + 1 ≤ R.frames ∧ 40 * d' + 40 ≤ R.locals) (d : decode cc pc = .ok (.invokevirtual idx, 3)) (hrm : (st.map fun v => v.category).sum ≤ 8) (hc : k + mc ≤ R.cells) (hs : n + ms ≤ R.slots) (kk : ∀ es', P es' → Zj p l e R s m args below meth c Q G B nL (k + mc) (n + ms) (pc + 3) ls (st) es') : Zj p l e R s m args below meth c Q G B nL k n (pc) ls (.ref (B + i) :: st) es :=
  z_callV (As := []) E hM hC hin hci he hR d rfl hrm hc hs (fun r es' h => by obtain ⟨rfl, hp⟩ := h; exact kk es' hp)
theorem z_cI0V (E : En p s m args meth c G B nL cc own mn rt) {P : zE → Prop} {a : Nat} (hM : Tr l G B y bytes maxL none d' mc ms [.ref a] es (pV P)) (hC : zC own idx y bytes maxL none 0) (hin : y.name = "<init>" ∧ Cond.instanceMethod y ∈ zzW) (hR : d' + 1 ≤ R.frames ∧ 40 * d' + 40 ≤ R.locals) (d : decode cc pc = .ok (.invokespecial idx, 3)) (hrm : (st.map fun v => v.category).sum ≤ 8) (hc : k + mc ≤ R.cells) (hs : n + ms ≤ R.slots) (kk : ∀ es', P es' → Zj p l e R s m args below meth c Q G B nL (k + mc) (n + ms) (pc + 3) ls (st) es') : Zj p l e R s m args below meth c Q G B nL k n (pc) ls (.ref a :: st) es :=
  z_callI (As := []) E hM hC hin hR d rfl hrm hc hs (fun r es' h => by obtain ⟨rfl, hp⟩ := h; exact kk es' hp)
theorem z_cS1I (E : En p s m args meth c G B nL cc own mn rt) {x1 : Value} {P : Int32 → zE → Prop} (hM : Tr l G B y bytes maxL ret d' mc ms [x1] es (pI P)) (hC : zC own idx y bytes maxL ret 1) (hst : Cond.static y ∈ zzW) (hR : d' + 1 ≤ R.frames ∧ 40 * d' + 40 ≤ R.locals) (d : decode cc pc = .ok (.invokestatic idx, 3)) (hrm : (st.map fun v => v.category).sum ≤ 8) (hc : k + mc ≤ R.cells) (hs : n + ms ≤ R.slots) (kk : ∀ v es', P v es' → Zj p l e R s m args below meth c Q G B nL (k + mc) (n + ms) (pc + 3) ls (.int v :: st) es') : Zj p l e R s m args below meth c Q G B nL k n (pc) ls (x1 :: st) es :=
  z_callS (As := [x1]) E hM hC hst hR d rfl hrm hc hs (fun r es' h => by obtain ⟨v, rfl, hp⟩ := h; exact kk v es' hp)
theorem z_cV1I (E : En p s m args meth c G B nL cc own mn rt) {x1 : Value} {P : Int32 → zE → Prop} {i ci : Nat} {C : String} {T : u_T} {N : Nat} {fs : List Value} (hM : Tr l G B y bytes maxL ret d' mc ms [.ref (B + i), x1] es (pI P)) (hC : zC own idx y bytes maxL ret 1) (hin : Cond.instanceMethod y ∈ zzW ∧ Cond.selects C y y ∈ zzW) (hci : vwCl[ci]? = some (C, T, N)) (he : es[i]? = some (.inr (ci, fs))) (hR : d' + 1 ≤ R.frames ∧ 40 * d' + 40 ≤ R.locals) (d : decode cc pc = .ok (.invokevirtual idx, 3)) (hrm : (st.map fun v => v.category).sum ≤ 8) (hc : k + mc ≤ R.cells) (hs : n + ms ≤ R.slots) (kk : ∀ v es', P v es' → Zj p l e R s m args below meth c Q G B nL (k + mc) (n + ms) (pc + 3) ls (.int v :: st) es') : Zj p l e R s m args below meth c Q G B nL k n (pc) ls (x1 :: .ref (B + i) :: st) es :=
  z_callV (As := [x1]) E hM hC hin hci he hR d rfl hrm hc hs (fun r es' h => by obtain ⟨v, rfl, hp⟩ := h; exact kk v es' hp)
theorem z_cS1L (E : En p s m args meth c G B nL cc own mn rt) {x1 : Value} {P : Int64 → zE → Prop} (hM : Tr l G B y bytes maxL ret d' mc ms [x1] es (pL P)) (hC : zC own idx y bytes maxL ret 1) (hst : Cond.static y ∈ zzW) (hR : d' + 1 ≤ R.frames ∧ 40 * d' + 40 ≤ R.locals) (d : decode cc pc = .ok (.invokestatic idx, 3)) (hrm : (st.map fun v => v.category).sum ≤ 8) (hc : k + mc ≤ R.cells) (hs : n + ms ≤ R.slots) (kk : ∀ v es', P v es' → Zj p l e R s m args below meth c Q G B nL (k + mc) (n + ms) (pc + 3) ls (.long v :: st) es') : Zj p l e R s m args below meth c Q G B nL k n (pc) ls (x1 :: st) es :=
  z_callS (As := [x1]) E hM hC hst hR d rfl hrm hc hs (fun r es' h => by obtain ⟨v, rfl, hp⟩ := h; exact kk v es' hp)
theorem z_cV1L (E : En p s m args meth c G B nL cc own mn rt) {x1 : Value} {P : Int64 → zE → Prop} {i ci : Nat} {C : String} {T : u_T} {N : Nat} {fs : List Value} (hM : Tr l G B y bytes maxL ret d' mc ms [.ref (B + i), x1] es (pL P)) (hC : zC own idx y bytes maxL ret 1) (hin : Cond.instanceMethod y ∈ zzW ∧ Cond.selects C y y ∈ zzW) (hci : vwCl[ci]? = some (C, T, N)) (he : es[i]? = some (.inr (ci, fs))) (hR : d' + 1 ≤ R.frames ∧ 40 * d' + 40 ≤ R.locals) (d : decode cc pc = .ok (.invokevirtual idx, 3)) (hrm : (st.map fun v => v.category).sum ≤ 8) (hc : k + mc ≤ R.cells) (hs : n + ms ≤ R.slots) (kk : ∀ v es', P v es' → Zj p l e R s m args below meth c Q G B nL (k + mc) (n + ms) (pc + 3) ls (.long v :: st) es') : Zj p l e R s m args below meth c Q G B nL k n (pc) ls (x1 :: .ref (B + i) :: st) es :=
  z_callV (As := [x1]) E hM hC hin hci he hR d rfl hrm hc hs (fun r es' h => by obtain ⟨v, rfl, hp⟩ := h; exact kk v es' hp)
theorem z_cS1R (E : En p s m args meth c G B nL cc own mn rt) {x1 : Value} {P : Value → zE → Prop} (hM : Tr l G B y bytes maxL ret d' mc ms [x1] es (pR P)) (hC : zC own idx y bytes maxL ret 1) (hst : Cond.static y ∈ zzW) (hR : d' + 1 ≤ R.frames ∧ 40 * d' + 40 ≤ R.locals) (d : decode cc pc = .ok (.invokestatic idx, 3)) (hrm : (st.map fun v => v.category).sum ≤ 8) (hc : k + mc ≤ R.cells) (hs : n + ms ≤ R.slots) (kk : ∀ v es', P v es' → Zj p l e R s m args below meth c Q G B nL (k + mc) (n + ms) (pc + 3) ls (v :: st) es') : Zj p l e R s m args below meth c Q G B nL k n (pc) ls (x1 :: st) es :=
  z_callS (As := [x1]) E hM hC hst hR d rfl hrm hc hs (fun r es' h => by obtain ⟨v, rfl, hp⟩ := h; exact kk v es' hp)
theorem z_cV1R (E : En p s m args meth c G B nL cc own mn rt) {x1 : Value} {P : Value → zE → Prop} {i ci : Nat} {C : String} {T : u_T} {N : Nat} {fs : List Value} (hM : Tr l G B y bytes maxL ret d' mc ms [.ref (B + i), x1] es (pR P)) (hC : zC own idx y bytes maxL ret 1) (hin : Cond.instanceMethod y ∈ zzW ∧ Cond.selects C y y ∈ zzW) (hci : vwCl[ci]? = some (C, T, N)) (he : es[i]? = some (.inr (ci, fs))) (hR : d' + 1 ≤ R.frames ∧ 40 * d' + 40 ≤ R.locals) (d : decode cc pc = .ok (.invokevirtual idx, 3)) (hrm : (st.map fun v => v.category).sum ≤ 8) (hc : k + mc ≤ R.cells) (hs : n + ms ≤ R.slots) (kk : ∀ v es', P v es' → Zj p l e R s m args below meth c Q G B nL (k + mc) (n + ms) (pc + 3) ls (v :: st) es') : Zj p l e R s m args below meth c Q G B nL k n (pc) ls (x1 :: .ref (B + i) :: st) es :=
  z_callV (As := [x1]) E hM hC hin hci he hR d rfl hrm hc hs (fun r es' h => by obtain ⟨v, rfl, hp⟩ := h; exact kk v es' hp)
theorem z_cS1V (E : En p s m args meth c G B nL cc own mn rt) {x1 : Value} {P : zE → Prop} (hM : Tr l G B y bytes maxL ret d' mc ms [x1] es (pV P)) (hC : zC own idx y bytes maxL ret 1) (hst : Cond.static y ∈ zzW) (hR : d' + 1 ≤ R.frames ∧ 40 * d' + 40 ≤ R.locals) (d : decode cc pc = .ok (.invokestatic idx, 3)) (hrm : (st.map fun v => v.category).sum ≤ 8) (hc : k + mc ≤ R.cells) (hs : n + ms ≤ R.slots) (kk : ∀ es', P es' → Zj p l e R s m args below meth c Q G B nL (k + mc) (n + ms) (pc + 3) ls (st) es') : Zj p l e R s m args below meth c Q G B nL k n (pc) ls (x1 :: st) es :=
  z_callS (As := [x1]) E hM hC hst hR d rfl hrm hc hs (fun r es' h => by obtain ⟨rfl, hp⟩ := h; exact kk es' hp)
theorem z_cV1V (E : En p s m args meth c G B nL cc own mn rt) {x1 : Value} {P : zE → Prop} {i ci : Nat} {C : String} {T : u_T} {N : Nat} {fs : List Value} (hM : Tr l G B y bytes maxL ret d' mc ms [.ref (B + i), x1] es (pV P)) (hC : zC own idx y bytes maxL ret 1) (hin : Cond.instanceMethod y ∈ zzW ∧ Cond.selects C y y ∈ zzW) (hci : vwCl[ci]? = some (C, T, N)) (he : es[i]? = some (.inr (ci, fs))) (hR : d' + 1 ≤ R.frames ∧ 40 * d' + 40 ≤ R.locals) (d : decode cc pc = .ok (.invokevirtual idx, 3)) (hrm : (st.map fun v => v.category).sum ≤ 8) (hc : k + mc ≤ R.cells) (hs : n + ms ≤ R.slots) (kk : ∀ es', P es' → Zj p l e R s m args below meth c Q G B nL (k + mc) (n + ms) (pc + 3) ls (st) es') : Zj p l e R s m args below meth c Q G B nL k n (pc) ls (x1 :: .ref (B + i) :: st) es :=
  z_callV (As := [x1]) E hM hC hin hci he hR d rfl hrm hc hs (fun r es' h => by obtain ⟨rfl, hp⟩ := h; exact kk es' hp)
theorem z_cI1V (E : En p s m args meth c G B nL cc own mn rt) {x1 : Value} {P : zE → Prop} {a : Nat} (hM : Tr l G B y bytes maxL none d' mc ms [.ref a, x1] es (pV P)) (hC : zC own idx y bytes maxL none 1) (hin : y.name = "<init>" ∧ Cond.instanceMethod y ∈ zzW) (hR : d' + 1 ≤ R.frames ∧ 40 * d' + 40 ≤ R.locals) (d : decode cc pc = .ok (.invokespecial idx, 3)) (hrm : (st.map fun v => v.category).sum ≤ 8) (hc : k + mc ≤ R.cells) (hs : n + ms ≤ R.slots) (kk : ∀ es', P es' → Zj p l e R s m args below meth c Q G B nL (k + mc) (n + ms) (pc + 3) ls (st) es') : Zj p l e R s m args below meth c Q G B nL k n (pc) ls (x1 :: .ref a :: st) es :=
  z_callI (As := [x1]) E hM hC hin hR d rfl hrm hc hs (fun r es' h => by obtain ⟨rfl, hp⟩ := h; exact kk es' hp)
theorem z_cS2I (E : En p s m args meth c G B nL cc own mn rt) {x1 x2 : Value} {P : Int32 → zE → Prop} (hM : Tr l G B y bytes maxL ret d' mc ms [x1, x2] es (pI P)) (hC : zC own idx y bytes maxL ret 2) (hst : Cond.static y ∈ zzW) (hR : d' + 1 ≤ R.frames ∧ 40 * d' + 40 ≤ R.locals) (d : decode cc pc = .ok (.invokestatic idx, 3)) (hrm : (st.map fun v => v.category).sum ≤ 8) (hc : k + mc ≤ R.cells) (hs : n + ms ≤ R.slots) (kk : ∀ v es', P v es' → Zj p l e R s m args below meth c Q G B nL (k + mc) (n + ms) (pc + 3) ls (.int v :: st) es') : Zj p l e R s m args below meth c Q G B nL k n (pc) ls (x2 :: x1 :: st) es :=
  z_callS (As := [x1, x2]) E hM hC hst hR d rfl hrm hc hs (fun r es' h => by obtain ⟨v, rfl, hp⟩ := h; exact kk v es' hp)
theorem z_cV2I (E : En p s m args meth c G B nL cc own mn rt) {x1 x2 : Value} {P : Int32 → zE → Prop} {i ci : Nat} {C : String} {T : u_T} {N : Nat} {fs : List Value} (hM : Tr l G B y bytes maxL ret d' mc ms [.ref (B + i), x1, x2] es (pI P)) (hC : zC own idx y bytes maxL ret 2) (hin : Cond.instanceMethod y ∈ zzW ∧ Cond.selects C y y ∈ zzW) (hci : vwCl[ci]? = some (C, T, N)) (he : es[i]? = some (.inr (ci, fs))) (hR : d' + 1 ≤ R.frames ∧ 40 * d' + 40 ≤ R.locals) (d : decode cc pc = .ok (.invokevirtual idx, 3)) (hrm : (st.map fun v => v.category).sum ≤ 8) (hc : k + mc ≤ R.cells) (hs : n + ms ≤ R.slots) (kk : ∀ v es', P v es' → Zj p l e R s m args below meth c Q G B nL (k + mc) (n + ms) (pc + 3) ls (.int v :: st) es') : Zj p l e R s m args below meth c Q G B nL k n (pc) ls (x2 :: x1 :: .ref (B + i) :: st) es :=
  z_callV (As := [x1, x2]) E hM hC hin hci he hR d rfl hrm hc hs (fun r es' h => by obtain ⟨v, rfl, hp⟩ := h; exact kk v es' hp)
theorem z_cS2L (E : En p s m args meth c G B nL cc own mn rt) {x1 x2 : Value} {P : Int64 → zE → Prop} (hM : Tr l G B y bytes maxL ret d' mc ms [x1, x2] es (pL P)) (hC : zC own idx y bytes maxL ret 2) (hst : Cond.static y ∈ zzW) (hR : d' + 1 ≤ R.frames ∧ 40 * d' + 40 ≤ R.locals) (d : decode cc pc = .ok (.invokestatic idx, 3)) (hrm : (st.map fun v => v.category).sum ≤ 8) (hc : k + mc ≤ R.cells) (hs : n + ms ≤ R.slots) (kk : ∀ v es', P v es' → Zj p l e R s m args below meth c Q G B nL (k + mc) (n + ms) (pc + 3) ls (.long v :: st) es') : Zj p l e R s m args below meth c Q G B nL k n (pc) ls (x2 :: x1 :: st) es :=
  z_callS (As := [x1, x2]) E hM hC hst hR d rfl hrm hc hs (fun r es' h => by obtain ⟨v, rfl, hp⟩ := h; exact kk v es' hp)
theorem z_cV2L (E : En p s m args meth c G B nL cc own mn rt) {x1 x2 : Value} {P : Int64 → zE → Prop} {i ci : Nat} {C : String} {T : u_T} {N : Nat} {fs : List Value} (hM : Tr l G B y bytes maxL ret d' mc ms [.ref (B + i), x1, x2] es (pL P)) (hC : zC own idx y bytes maxL ret 2) (hin : Cond.instanceMethod y ∈ zzW ∧ Cond.selects C y y ∈ zzW) (hci : vwCl[ci]? = some (C, T, N)) (he : es[i]? = some (.inr (ci, fs))) (hR : d' + 1 ≤ R.frames ∧ 40 * d' + 40 ≤ R.locals) (d : decode cc pc = .ok (.invokevirtual idx, 3)) (hrm : (st.map fun v => v.category).sum ≤ 8) (hc : k + mc ≤ R.cells) (hs : n + ms ≤ R.slots) (kk : ∀ v es', P v es' → Zj p l e R s m args below meth c Q G B nL (k + mc) (n + ms) (pc + 3) ls (.long v :: st) es') : Zj p l e R s m args below meth c Q G B nL k n (pc) ls (x2 :: x1 :: .ref (B + i) :: st) es :=
  z_callV (As := [x1, x2]) E hM hC hin hci he hR d rfl hrm hc hs (fun r es' h => by obtain ⟨v, rfl, hp⟩ := h; exact kk v es' hp)
theorem z_cS2R (E : En p s m args meth c G B nL cc own mn rt) {x1 x2 : Value} {P : Value → zE → Prop} (hM : Tr l G B y bytes maxL ret d' mc ms [x1, x2] es (pR P)) (hC : zC own idx y bytes maxL ret 2) (hst : Cond.static y ∈ zzW) (hR : d' + 1 ≤ R.frames ∧ 40 * d' + 40 ≤ R.locals) (d : decode cc pc = .ok (.invokestatic idx, 3)) (hrm : (st.map fun v => v.category).sum ≤ 8) (hc : k + mc ≤ R.cells) (hs : n + ms ≤ R.slots) (kk : ∀ v es', P v es' → Zj p l e R s m args below meth c Q G B nL (k + mc) (n + ms) (pc + 3) ls (v :: st) es') : Zj p l e R s m args below meth c Q G B nL k n (pc) ls (x2 :: x1 :: st) es :=
  z_callS (As := [x1, x2]) E hM hC hst hR d rfl hrm hc hs (fun r es' h => by obtain ⟨v, rfl, hp⟩ := h; exact kk v es' hp)
theorem z_cV2R (E : En p s m args meth c G B nL cc own mn rt) {x1 x2 : Value} {P : Value → zE → Prop} {i ci : Nat} {C : String} {T : u_T} {N : Nat} {fs : List Value} (hM : Tr l G B y bytes maxL ret d' mc ms [.ref (B + i), x1, x2] es (pR P)) (hC : zC own idx y bytes maxL ret 2) (hin : Cond.instanceMethod y ∈ zzW ∧ Cond.selects C y y ∈ zzW) (hci : vwCl[ci]? = some (C, T, N)) (he : es[i]? = some (.inr (ci, fs))) (hR : d' + 1 ≤ R.frames ∧ 40 * d' + 40 ≤ R.locals) (d : decode cc pc = .ok (.invokevirtual idx, 3)) (hrm : (st.map fun v => v.category).sum ≤ 8) (hc : k + mc ≤ R.cells) (hs : n + ms ≤ R.slots) (kk : ∀ v es', P v es' → Zj p l e R s m args below meth c Q G B nL (k + mc) (n + ms) (pc + 3) ls (v :: st) es') : Zj p l e R s m args below meth c Q G B nL k n (pc) ls (x2 :: x1 :: .ref (B + i) :: st) es :=
  z_callV (As := [x1, x2]) E hM hC hin hci he hR d rfl hrm hc hs (fun r es' h => by obtain ⟨v, rfl, hp⟩ := h; exact kk v es' hp)
theorem z_cS2V (E : En p s m args meth c G B nL cc own mn rt) {x1 x2 : Value} {P : zE → Prop} (hM : Tr l G B y bytes maxL ret d' mc ms [x1, x2] es (pV P)) (hC : zC own idx y bytes maxL ret 2) (hst : Cond.static y ∈ zzW) (hR : d' + 1 ≤ R.frames ∧ 40 * d' + 40 ≤ R.locals) (d : decode cc pc = .ok (.invokestatic idx, 3)) (hrm : (st.map fun v => v.category).sum ≤ 8) (hc : k + mc ≤ R.cells) (hs : n + ms ≤ R.slots) (kk : ∀ es', P es' → Zj p l e R s m args below meth c Q G B nL (k + mc) (n + ms) (pc + 3) ls (st) es') : Zj p l e R s m args below meth c Q G B nL k n (pc) ls (x2 :: x1 :: st) es :=
  z_callS (As := [x1, x2]) E hM hC hst hR d rfl hrm hc hs (fun r es' h => by obtain ⟨rfl, hp⟩ := h; exact kk es' hp)
theorem z_cV2V (E : En p s m args meth c G B nL cc own mn rt) {x1 x2 : Value} {P : zE → Prop} {i ci : Nat} {C : String} {T : u_T} {N : Nat} {fs : List Value} (hM : Tr l G B y bytes maxL ret d' mc ms [.ref (B + i), x1, x2] es (pV P)) (hC : zC own idx y bytes maxL ret 2) (hin : Cond.instanceMethod y ∈ zzW ∧ Cond.selects C y y ∈ zzW) (hci : vwCl[ci]? = some (C, T, N)) (he : es[i]? = some (.inr (ci, fs))) (hR : d' + 1 ≤ R.frames ∧ 40 * d' + 40 ≤ R.locals) (d : decode cc pc = .ok (.invokevirtual idx, 3)) (hrm : (st.map fun v => v.category).sum ≤ 8) (hc : k + mc ≤ R.cells) (hs : n + ms ≤ R.slots) (kk : ∀ es', P es' → Zj p l e R s m args below meth c Q G B nL (k + mc) (n + ms) (pc + 3) ls (st) es') : Zj p l e R s m args below meth c Q G B nL k n (pc) ls (x2 :: x1 :: .ref (B + i) :: st) es :=
  z_callV (As := [x1, x2]) E hM hC hin hci he hR d rfl hrm hc hs (fun r es' h => by obtain ⟨rfl, hp⟩ := h; exact kk es' hp)
theorem z_cI2V (E : En p s m args meth c G B nL cc own mn rt) {x1 x2 : Value} {P : zE → Prop} {a : Nat} (hM : Tr l G B y bytes maxL none d' mc ms [.ref a, x1, x2] es (pV P)) (hC : zC own idx y bytes maxL none 2) (hin : y.name = "<init>" ∧ Cond.instanceMethod y ∈ zzW) (hR : d' + 1 ≤ R.frames ∧ 40 * d' + 40 ≤ R.locals) (d : decode cc pc = .ok (.invokespecial idx, 3)) (hrm : (st.map fun v => v.category).sum ≤ 8) (hc : k + mc ≤ R.cells) (hs : n + ms ≤ R.slots) (kk : ∀ es', P es' → Zj p l e R s m args below meth c Q G B nL (k + mc) (n + ms) (pc + 3) ls (st) es') : Zj p l e R s m args below meth c Q G B nL k n (pc) ls (x2 :: x1 :: .ref a :: st) es :=
  z_callI (As := [x1, x2]) E hM hC hin hR d rfl hrm hc hs (fun r es' h => by obtain ⟨rfl, hp⟩ := h; exact kk es' hp)
theorem z_cS3I (E : En p s m args meth c G B nL cc own mn rt) {x1 x2 x3 : Value} {P : Int32 → zE → Prop} (hM : Tr l G B y bytes maxL ret d' mc ms [x1, x2, x3] es (pI P)) (hC : zC own idx y bytes maxL ret 3) (hst : Cond.static y ∈ zzW) (hR : d' + 1 ≤ R.frames ∧ 40 * d' + 40 ≤ R.locals) (d : decode cc pc = .ok (.invokestatic idx, 3)) (hrm : (st.map fun v => v.category).sum ≤ 8) (hc : k + mc ≤ R.cells) (hs : n + ms ≤ R.slots) (kk : ∀ v es', P v es' → Zj p l e R s m args below meth c Q G B nL (k + mc) (n + ms) (pc + 3) ls (.int v :: st) es') : Zj p l e R s m args below meth c Q G B nL k n (pc) ls (x3 :: x2 :: x1 :: st) es :=
  z_callS (As := [x1, x2, x3]) E hM hC hst hR d rfl hrm hc hs (fun r es' h => by obtain ⟨v, rfl, hp⟩ := h; exact kk v es' hp)
theorem z_cV3I (E : En p s m args meth c G B nL cc own mn rt) {x1 x2 x3 : Value} {P : Int32 → zE → Prop} {i ci : Nat} {C : String} {T : u_T} {N : Nat} {fs : List Value} (hM : Tr l G B y bytes maxL ret d' mc ms [.ref (B + i), x1, x2, x3] es (pI P)) (hC : zC own idx y bytes maxL ret 3) (hin : Cond.instanceMethod y ∈ zzW ∧ Cond.selects C y y ∈ zzW) (hci : vwCl[ci]? = some (C, T, N)) (he : es[i]? = some (.inr (ci, fs))) (hR : d' + 1 ≤ R.frames ∧ 40 * d' + 40 ≤ R.locals) (d : decode cc pc = .ok (.invokevirtual idx, 3)) (hrm : (st.map fun v => v.category).sum ≤ 8) (hc : k + mc ≤ R.cells) (hs : n + ms ≤ R.slots) (kk : ∀ v es', P v es' → Zj p l e R s m args below meth c Q G B nL (k + mc) (n + ms) (pc + 3) ls (.int v :: st) es') : Zj p l e R s m args below meth c Q G B nL k n (pc) ls (x3 :: x2 :: x1 :: .ref (B + i) :: st) es :=
  z_callV (As := [x1, x2, x3]) E hM hC hin hci he hR d rfl hrm hc hs (fun r es' h => by obtain ⟨v, rfl, hp⟩ := h; exact kk v es' hp)
theorem z_cS3L (E : En p s m args meth c G B nL cc own mn rt) {x1 x2 x3 : Value} {P : Int64 → zE → Prop} (hM : Tr l G B y bytes maxL ret d' mc ms [x1, x2, x3] es (pL P)) (hC : zC own idx y bytes maxL ret 3) (hst : Cond.static y ∈ zzW) (hR : d' + 1 ≤ R.frames ∧ 40 * d' + 40 ≤ R.locals) (d : decode cc pc = .ok (.invokestatic idx, 3)) (hrm : (st.map fun v => v.category).sum ≤ 8) (hc : k + mc ≤ R.cells) (hs : n + ms ≤ R.slots) (kk : ∀ v es', P v es' → Zj p l e R s m args below meth c Q G B nL (k + mc) (n + ms) (pc + 3) ls (.long v :: st) es') : Zj p l e R s m args below meth c Q G B nL k n (pc) ls (x3 :: x2 :: x1 :: st) es :=
  z_callS (As := [x1, x2, x3]) E hM hC hst hR d rfl hrm hc hs (fun r es' h => by obtain ⟨v, rfl, hp⟩ := h; exact kk v es' hp)
theorem z_cV3L (E : En p s m args meth c G B nL cc own mn rt) {x1 x2 x3 : Value} {P : Int64 → zE → Prop} {i ci : Nat} {C : String} {T : u_T} {N : Nat} {fs : List Value} (hM : Tr l G B y bytes maxL ret d' mc ms [.ref (B + i), x1, x2, x3] es (pL P)) (hC : zC own idx y bytes maxL ret 3) (hin : Cond.instanceMethod y ∈ zzW ∧ Cond.selects C y y ∈ zzW) (hci : vwCl[ci]? = some (C, T, N)) (he : es[i]? = some (.inr (ci, fs))) (hR : d' + 1 ≤ R.frames ∧ 40 * d' + 40 ≤ R.locals) (d : decode cc pc = .ok (.invokevirtual idx, 3)) (hrm : (st.map fun v => v.category).sum ≤ 8) (hc : k + mc ≤ R.cells) (hs : n + ms ≤ R.slots) (kk : ∀ v es', P v es' → Zj p l e R s m args below meth c Q G B nL (k + mc) (n + ms) (pc + 3) ls (.long v :: st) es') : Zj p l e R s m args below meth c Q G B nL k n (pc) ls (x3 :: x2 :: x1 :: .ref (B + i) :: st) es :=
  z_callV (As := [x1, x2, x3]) E hM hC hin hci he hR d rfl hrm hc hs (fun r es' h => by obtain ⟨v, rfl, hp⟩ := h; exact kk v es' hp)
theorem z_cS3R (E : En p s m args meth c G B nL cc own mn rt) {x1 x2 x3 : Value} {P : Value → zE → Prop} (hM : Tr l G B y bytes maxL ret d' mc ms [x1, x2, x3] es (pR P)) (hC : zC own idx y bytes maxL ret 3) (hst : Cond.static y ∈ zzW) (hR : d' + 1 ≤ R.frames ∧ 40 * d' + 40 ≤ R.locals) (d : decode cc pc = .ok (.invokestatic idx, 3)) (hrm : (st.map fun v => v.category).sum ≤ 8) (hc : k + mc ≤ R.cells) (hs : n + ms ≤ R.slots) (kk : ∀ v es', P v es' → Zj p l e R s m args below meth c Q G B nL (k + mc) (n + ms) (pc + 3) ls (v :: st) es') : Zj p l e R s m args below meth c Q G B nL k n (pc) ls (x3 :: x2 :: x1 :: st) es :=
  z_callS (As := [x1, x2, x3]) E hM hC hst hR d rfl hrm hc hs (fun r es' h => by obtain ⟨v, rfl, hp⟩ := h; exact kk v es' hp)
theorem z_cV3R (E : En p s m args meth c G B nL cc own mn rt) {x1 x2 x3 : Value} {P : Value → zE → Prop} {i ci : Nat} {C : String} {T : u_T} {N : Nat} {fs : List Value} (hM : Tr l G B y bytes maxL ret d' mc ms [.ref (B + i), x1, x2, x3] es (pR P)) (hC : zC own idx y bytes maxL ret 3) (hin : Cond.instanceMethod y ∈ zzW ∧ Cond.selects C y y ∈ zzW) (hci : vwCl[ci]? = some (C, T, N)) (he : es[i]? = some (.inr (ci, fs))) (hR : d' + 1 ≤ R.frames ∧ 40 * d' + 40 ≤ R.locals) (d : decode cc pc = .ok (.invokevirtual idx, 3)) (hrm : (st.map fun v => v.category).sum ≤ 8) (hc : k + mc ≤ R.cells) (hs : n + ms ≤ R.slots) (kk : ∀ v es', P v es' → Zj p l e R s m args below meth c Q G B nL (k + mc) (n + ms) (pc + 3) ls (v :: st) es') : Zj p l e R s m args below meth c Q G B nL k n (pc) ls (x3 :: x2 :: x1 :: .ref (B + i) :: st) es :=
  z_callV (As := [x1, x2, x3]) E hM hC hin hci he hR d rfl hrm hc hs (fun r es' h => by obtain ⟨v, rfl, hp⟩ := h; exact kk v es' hp)
theorem z_cS3V (E : En p s m args meth c G B nL cc own mn rt) {x1 x2 x3 : Value} {P : zE → Prop} (hM : Tr l G B y bytes maxL ret d' mc ms [x1, x2, x3] es (pV P)) (hC : zC own idx y bytes maxL ret 3) (hst : Cond.static y ∈ zzW) (hR : d' + 1 ≤ R.frames ∧ 40 * d' + 40 ≤ R.locals) (d : decode cc pc = .ok (.invokestatic idx, 3)) (hrm : (st.map fun v => v.category).sum ≤ 8) (hc : k + mc ≤ R.cells) (hs : n + ms ≤ R.slots) (kk : ∀ es', P es' → Zj p l e R s m args below meth c Q G B nL (k + mc) (n + ms) (pc + 3) ls (st) es') : Zj p l e R s m args below meth c Q G B nL k n (pc) ls (x3 :: x2 :: x1 :: st) es :=
  z_callS (As := [x1, x2, x3]) E hM hC hst hR d rfl hrm hc hs (fun r es' h => by obtain ⟨rfl, hp⟩ := h; exact kk es' hp)
theorem z_cV3V (E : En p s m args meth c G B nL cc own mn rt) {x1 x2 x3 : Value} {P : zE → Prop} {i ci : Nat} {C : String} {T : u_T} {N : Nat} {fs : List Value} (hM : Tr l G B y bytes maxL ret d' mc ms [.ref (B + i), x1, x2, x3] es (pV P)) (hC : zC own idx y bytes maxL ret 3) (hin : Cond.instanceMethod y ∈ zzW ∧ Cond.selects C y y ∈ zzW) (hci : vwCl[ci]? = some (C, T, N)) (he : es[i]? = some (.inr (ci, fs))) (hR : d' + 1 ≤ R.frames ∧ 40 * d' + 40 ≤ R.locals) (d : decode cc pc = .ok (.invokevirtual idx, 3)) (hrm : (st.map fun v => v.category).sum ≤ 8) (hc : k + mc ≤ R.cells) (hs : n + ms ≤ R.slots) (kk : ∀ es', P es' → Zj p l e R s m args below meth c Q G B nL (k + mc) (n + ms) (pc + 3) ls (st) es') : Zj p l e R s m args below meth c Q G B nL k n (pc) ls (x3 :: x2 :: x1 :: .ref (B + i) :: st) es :=
  z_callV (As := [x1, x2, x3]) E hM hC hin hci he hR d rfl hrm hc hs (fun r es' h => by obtain ⟨rfl, hp⟩ := h; exact kk es' hp)
theorem z_cI3V (E : En p s m args meth c G B nL cc own mn rt) {x1 x2 x3 : Value} {P : zE → Prop} {a : Nat} (hM : Tr l G B y bytes maxL none d' mc ms [.ref a, x1, x2, x3] es (pV P)) (hC : zC own idx y bytes maxL none 3) (hin : y.name = "<init>" ∧ Cond.instanceMethod y ∈ zzW) (hR : d' + 1 ≤ R.frames ∧ 40 * d' + 40 ≤ R.locals) (d : decode cc pc = .ok (.invokespecial idx, 3)) (hrm : (st.map fun v => v.category).sum ≤ 8) (hc : k + mc ≤ R.cells) (hs : n + ms ≤ R.slots) (kk : ∀ es', P es' → Zj p l e R s m args below meth c Q G B nL (k + mc) (n + ms) (pc + 3) ls (st) es') : Zj p l e R s m args below meth c Q G B nL k n (pc) ls (x3 :: x2 :: x1 :: .ref a :: st) es :=
  z_callI (As := [x1, x2, x3]) E hM hC hin hR d rfl hrm hc hs (fun r es' h => by obtain ⟨rfl, hp⟩ := h; exact kk es' hp)
theorem z_cS4I (E : En p s m args meth c G B nL cc own mn rt) {x1 x2 x3 x4 : Value} {P : Int32 → zE → Prop} (hM : Tr l G B y bytes maxL ret d' mc ms [x1, x2, x3, x4] es (pI P)) (hC : zC own idx y bytes maxL ret 4) (hst : Cond.static y ∈ zzW) (hR : d' + 1 ≤ R.frames ∧ 40 * d' + 40 ≤ R.locals) (d : decode cc pc = .ok (.invokestatic idx, 3)) (hrm : (st.map fun v => v.category).sum ≤ 8) (hc : k + mc ≤ R.cells) (hs : n + ms ≤ R.slots) (kk : ∀ v es', P v es' → Zj p l e R s m args below meth c Q G B nL (k + mc) (n + ms) (pc + 3) ls (.int v :: st) es') : Zj p l e R s m args below meth c Q G B nL k n (pc) ls (x4 :: x3 :: x2 :: x1 :: st) es :=
  z_callS (As := [x1, x2, x3, x4]) E hM hC hst hR d rfl hrm hc hs (fun r es' h => by obtain ⟨v, rfl, hp⟩ := h; exact kk v es' hp)
theorem z_cV4I (E : En p s m args meth c G B nL cc own mn rt) {x1 x2 x3 x4 : Value} {P : Int32 → zE → Prop} {i ci : Nat} {C : String} {T : u_T} {N : Nat} {fs : List Value} (hM : Tr l G B y bytes maxL ret d' mc ms [.ref (B + i), x1, x2, x3, x4] es (pI P)) (hC : zC own idx y bytes maxL ret 4) (hin : Cond.instanceMethod y ∈ zzW ∧ Cond.selects C y y ∈ zzW) (hci : vwCl[ci]? = some (C, T, N)) (he : es[i]? = some (.inr (ci, fs))) (hR : d' + 1 ≤ R.frames ∧ 40 * d' + 40 ≤ R.locals) (d : decode cc pc = .ok (.invokevirtual idx, 3)) (hrm : (st.map fun v => v.category).sum ≤ 8) (hc : k + mc ≤ R.cells) (hs : n + ms ≤ R.slots) (kk : ∀ v es', P v es' → Zj p l e R s m args below meth c Q G B nL (k + mc) (n + ms) (pc + 3) ls (.int v :: st) es') : Zj p l e R s m args below meth c Q G B nL k n (pc) ls (x4 :: x3 :: x2 :: x1 :: .ref (B + i) :: st) es :=
  z_callV (As := [x1, x2, x3, x4]) E hM hC hin hci he hR d rfl hrm hc hs (fun r es' h => by obtain ⟨v, rfl, hp⟩ := h; exact kk v es' hp)
theorem z_cS4L (E : En p s m args meth c G B nL cc own mn rt) {x1 x2 x3 x4 : Value} {P : Int64 → zE → Prop} (hM : Tr l G B y bytes maxL ret d' mc ms [x1, x2, x3, x4] es (pL P)) (hC : zC own idx y bytes maxL ret 4) (hst : Cond.static y ∈ zzW) (hR : d' + 1 ≤ R.frames ∧ 40 * d' + 40 ≤ R.locals) (d : decode cc pc = .ok (.invokestatic idx, 3)) (hrm : (st.map fun v => v.category).sum ≤ 8) (hc : k + mc ≤ R.cells) (hs : n + ms ≤ R.slots) (kk : ∀ v es', P v es' → Zj p l e R s m args below meth c Q G B nL (k + mc) (n + ms) (pc + 3) ls (.long v :: st) es') : Zj p l e R s m args below meth c Q G B nL k n (pc) ls (x4 :: x3 :: x2 :: x1 :: st) es :=
  z_callS (As := [x1, x2, x3, x4]) E hM hC hst hR d rfl hrm hc hs (fun r es' h => by obtain ⟨v, rfl, hp⟩ := h; exact kk v es' hp)
theorem z_cV4L (E : En p s m args meth c G B nL cc own mn rt) {x1 x2 x3 x4 : Value} {P : Int64 → zE → Prop} {i ci : Nat} {C : String} {T : u_T} {N : Nat} {fs : List Value} (hM : Tr l G B y bytes maxL ret d' mc ms [.ref (B + i), x1, x2, x3, x4] es (pL P)) (hC : zC own idx y bytes maxL ret 4) (hin : Cond.instanceMethod y ∈ zzW ∧ Cond.selects C y y ∈ zzW) (hci : vwCl[ci]? = some (C, T, N)) (he : es[i]? = some (.inr (ci, fs))) (hR : d' + 1 ≤ R.frames ∧ 40 * d' + 40 ≤ R.locals) (d : decode cc pc = .ok (.invokevirtual idx, 3)) (hrm : (st.map fun v => v.category).sum ≤ 8) (hc : k + mc ≤ R.cells) (hs : n + ms ≤ R.slots) (kk : ∀ v es', P v es' → Zj p l e R s m args below meth c Q G B nL (k + mc) (n + ms) (pc + 3) ls (.long v :: st) es') : Zj p l e R s m args below meth c Q G B nL k n (pc) ls (x4 :: x3 :: x2 :: x1 :: .ref (B + i) :: st) es :=
  z_callV (As := [x1, x2, x3, x4]) E hM hC hin hci he hR d rfl hrm hc hs (fun r es' h => by obtain ⟨v, rfl, hp⟩ := h; exact kk v es' hp)
theorem z_cS4R (E : En p s m args meth c G B nL cc own mn rt) {x1 x2 x3 x4 : Value} {P : Value → zE → Prop} (hM : Tr l G B y bytes maxL ret d' mc ms [x1, x2, x3, x4] es (pR P)) (hC : zC own idx y bytes maxL ret 4) (hst : Cond.static y ∈ zzW) (hR : d' + 1 ≤ R.frames ∧ 40 * d' + 40 ≤ R.locals) (d : decode cc pc = .ok (.invokestatic idx, 3)) (hrm : (st.map fun v => v.category).sum ≤ 8) (hc : k + mc ≤ R.cells) (hs : n + ms ≤ R.slots) (kk : ∀ v es', P v es' → Zj p l e R s m args below meth c Q G B nL (k + mc) (n + ms) (pc + 3) ls (v :: st) es') : Zj p l e R s m args below meth c Q G B nL k n (pc) ls (x4 :: x3 :: x2 :: x1 :: st) es :=
  z_callS (As := [x1, x2, x3, x4]) E hM hC hst hR d rfl hrm hc hs (fun r es' h => by obtain ⟨v, rfl, hp⟩ := h; exact kk v es' hp)
theorem z_cV4R (E : En p s m args meth c G B nL cc own mn rt) {x1 x2 x3 x4 : Value} {P : Value → zE → Prop} {i ci : Nat} {C : String} {T : u_T} {N : Nat} {fs : List Value} (hM : Tr l G B y bytes maxL ret d' mc ms [.ref (B + i), x1, x2, x3, x4] es (pR P)) (hC : zC own idx y bytes maxL ret 4) (hin : Cond.instanceMethod y ∈ zzW ∧ Cond.selects C y y ∈ zzW) (hci : vwCl[ci]? = some (C, T, N)) (he : es[i]? = some (.inr (ci, fs))) (hR : d' + 1 ≤ R.frames ∧ 40 * d' + 40 ≤ R.locals) (d : decode cc pc = .ok (.invokevirtual idx, 3)) (hrm : (st.map fun v => v.category).sum ≤ 8) (hc : k + mc ≤ R.cells) (hs : n + ms ≤ R.slots) (kk : ∀ v es', P v es' → Zj p l e R s m args below meth c Q G B nL (k + mc) (n + ms) (pc + 3) ls (v :: st) es') : Zj p l e R s m args below meth c Q G B nL k n (pc) ls (x4 :: x3 :: x2 :: x1 :: .ref (B + i) :: st) es :=
  z_callV (As := [x1, x2, x3, x4]) E hM hC hin hci he hR d rfl hrm hc hs (fun r es' h => by obtain ⟨v, rfl, hp⟩ := h; exact kk v es' hp)
theorem z_cS4V (E : En p s m args meth c G B nL cc own mn rt) {x1 x2 x3 x4 : Value} {P : zE → Prop} (hM : Tr l G B y bytes maxL ret d' mc ms [x1, x2, x3, x4] es (pV P)) (hC : zC own idx y bytes maxL ret 4) (hst : Cond.static y ∈ zzW) (hR : d' + 1 ≤ R.frames ∧ 40 * d' + 40 ≤ R.locals) (d : decode cc pc = .ok (.invokestatic idx, 3)) (hrm : (st.map fun v => v.category).sum ≤ 8) (hc : k + mc ≤ R.cells) (hs : n + ms ≤ R.slots) (kk : ∀ es', P es' → Zj p l e R s m args below meth c Q G B nL (k + mc) (n + ms) (pc + 3) ls (st) es') : Zj p l e R s m args below meth c Q G B nL k n (pc) ls (x4 :: x3 :: x2 :: x1 :: st) es :=
  z_callS (As := [x1, x2, x3, x4]) E hM hC hst hR d rfl hrm hc hs (fun r es' h => by obtain ⟨rfl, hp⟩ := h; exact kk es' hp)
theorem z_cV4V (E : En p s m args meth c G B nL cc own mn rt) {x1 x2 x3 x4 : Value} {P : zE → Prop} {i ci : Nat} {C : String} {T : u_T} {N : Nat} {fs : List Value} (hM : Tr l G B y bytes maxL ret d' mc ms [.ref (B + i), x1, x2, x3, x4] es (pV P)) (hC : zC own idx y bytes maxL ret 4) (hin : Cond.instanceMethod y ∈ zzW ∧ Cond.selects C y y ∈ zzW) (hci : vwCl[ci]? = some (C, T, N)) (he : es[i]? = some (.inr (ci, fs))) (hR : d' + 1 ≤ R.frames ∧ 40 * d' + 40 ≤ R.locals) (d : decode cc pc = .ok (.invokevirtual idx, 3)) (hrm : (st.map fun v => v.category).sum ≤ 8) (hc : k + mc ≤ R.cells) (hs : n + ms ≤ R.slots) (kk : ∀ es', P es' → Zj p l e R s m args below meth c Q G B nL (k + mc) (n + ms) (pc + 3) ls (st) es') : Zj p l e R s m args below meth c Q G B nL k n (pc) ls (x4 :: x3 :: x2 :: x1 :: .ref (B + i) :: st) es :=
  z_callV (As := [x1, x2, x3, x4]) E hM hC hin hci he hR d rfl hrm hc hs (fun r es' h => by obtain ⟨rfl, hp⟩ := h; exact kk es' hp)
theorem z_cI4V (E : En p s m args meth c G B nL cc own mn rt) {x1 x2 x3 x4 : Value} {P : zE → Prop} {a : Nat} (hM : Tr l G B y bytes maxL none d' mc ms [.ref a, x1, x2, x3, x4] es (pV P)) (hC : zC own idx y bytes maxL none 4) (hin : y.name = "<init>" ∧ Cond.instanceMethod y ∈ zzW) (hR : d' + 1 ≤ R.frames ∧ 40 * d' + 40 ≤ R.locals) (d : decode cc pc = .ok (.invokespecial idx, 3)) (hrm : (st.map fun v => v.category).sum ≤ 8) (hc : k + mc ≤ R.cells) (hs : n + ms ≤ R.slots) (kk : ∀ es', P es' → Zj p l e R s m args below meth c Q G B nL (k + mc) (n + ms) (pc + 3) ls (st) es') : Zj p l e R s m args below meth c Q G B nL k n (pc) ls (x4 :: x3 :: x2 :: x1 :: .ref a :: st) es :=
  z_callI (As := [x1, x2, x3, x4]) E hM hC hin hR d rfl hrm hc hs (fun r es' h => by obtain ⟨rfl, hp⟩ := h; exact kk es' hp)
theorem z_cS5I (E : En p s m args meth c G B nL cc own mn rt) {x1 x2 x3 x4 x5 : Value} {P : Int32 → zE → Prop} (hM : Tr l G B y bytes maxL ret d' mc ms [x1, x2, x3, x4, x5] es (pI P)) (hC : zC own idx y bytes maxL ret 5) (hst : Cond.static y ∈ zzW) (hR : d' + 1 ≤ R.frames ∧ 40 * d' + 40 ≤ R.locals) (d : decode cc pc = .ok (.invokestatic idx, 3)) (hrm : (st.map fun v => v.category).sum ≤ 8) (hc : k + mc ≤ R.cells) (hs : n + ms ≤ R.slots) (kk : ∀ v es', P v es' → Zj p l e R s m args below meth c Q G B nL (k + mc) (n + ms) (pc + 3) ls (.int v :: st) es') : Zj p l e R s m args below meth c Q G B nL k n (pc) ls (x5 :: x4 :: x3 :: x2 :: x1 :: st) es :=
  z_callS (As := [x1, x2, x3, x4, x5]) E hM hC hst hR d rfl hrm hc hs (fun r es' h => by obtain ⟨v, rfl, hp⟩ := h; exact kk v es' hp)
theorem z_cV5I (E : En p s m args meth c G B nL cc own mn rt) {x1 x2 x3 x4 x5 : Value} {P : Int32 → zE → Prop} {i ci : Nat} {C : String} {T : u_T} {N : Nat} {fs : List Value} (hM : Tr l G B y bytes maxL ret d' mc ms [.ref (B + i), x1, x2, x3, x4, x5] es (pI P)) (hC : zC own idx y bytes maxL ret 5) (hin : Cond.instanceMethod y ∈ zzW ∧ Cond.selects C y y ∈ zzW) (hci : vwCl[ci]? = some (C, T, N)) (he : es[i]? = some (.inr (ci, fs))) (hR : d' + 1 ≤ R.frames ∧ 40 * d' + 40 ≤ R.locals) (d : decode cc pc = .ok (.invokevirtual idx, 3)) (hrm : (st.map fun v => v.category).sum ≤ 8) (hc : k + mc ≤ R.cells) (hs : n + ms ≤ R.slots) (kk : ∀ v es', P v es' → Zj p l e R s m args below meth c Q G B nL (k + mc) (n + ms) (pc + 3) ls (.int v :: st) es') : Zj p l e R s m args below meth c Q G B nL k n (pc) ls (x5 :: x4 :: x3 :: x2 :: x1 :: .ref (B + i) :: st) es :=
  z_callV (As := [x1, x2, x3, x4, x5]) E hM hC hin hci he hR d rfl hrm hc hs (fun r es' h => by obtain ⟨v, rfl, hp⟩ := h; exact kk v es' hp)
theorem z_cS5L (E : En p s m args meth c G B nL cc own mn rt) {x1 x2 x3 x4 x5 : Value} {P : Int64 → zE → Prop} (hM : Tr l G B y bytes maxL ret d' mc ms [x1, x2, x3, x4, x5] es (pL P)) (hC : zC own idx y bytes maxL ret 5) (hst : Cond.static y ∈ zzW) (hR : d' + 1 ≤ R.frames ∧ 40 * d' + 40 ≤ R.locals) (d : decode cc pc = .ok (.invokestatic idx, 3)) (hrm : (st.map fun v => v.category).sum ≤ 8) (hc : k + mc ≤ R.cells) (hs : n + ms ≤ R.slots) (kk : ∀ v es', P v es' → Zj p l e R s m args below meth c Q G B nL (k + mc) (n + ms) (pc + 3) ls (.long v :: st) es') : Zj p l e R s m args below meth c Q G B nL k n (pc) ls (x5 :: x4 :: x3 :: x2 :: x1 :: st) es :=
  z_callS (As := [x1, x2, x3, x4, x5]) E hM hC hst hR d rfl hrm hc hs (fun r es' h => by obtain ⟨v, rfl, hp⟩ := h; exact kk v es' hp)
theorem z_cV5L (E : En p s m args meth c G B nL cc own mn rt) {x1 x2 x3 x4 x5 : Value} {P : Int64 → zE → Prop} {i ci : Nat} {C : String} {T : u_T} {N : Nat} {fs : List Value} (hM : Tr l G B y bytes maxL ret d' mc ms [.ref (B + i), x1, x2, x3, x4, x5] es (pL P)) (hC : zC own idx y bytes maxL ret 5) (hin : Cond.instanceMethod y ∈ zzW ∧ Cond.selects C y y ∈ zzW) (hci : vwCl[ci]? = some (C, T, N)) (he : es[i]? = some (.inr (ci, fs))) (hR : d' + 1 ≤ R.frames ∧ 40 * d' + 40 ≤ R.locals) (d : decode cc pc = .ok (.invokevirtual idx, 3)) (hrm : (st.map fun v => v.category).sum ≤ 8) (hc : k + mc ≤ R.cells) (hs : n + ms ≤ R.slots) (kk : ∀ v es', P v es' → Zj p l e R s m args below meth c Q G B nL (k + mc) (n + ms) (pc + 3) ls (.long v :: st) es') : Zj p l e R s m args below meth c Q G B nL k n (pc) ls (x5 :: x4 :: x3 :: x2 :: x1 :: .ref (B + i) :: st) es :=
  z_callV (As := [x1, x2, x3, x4, x5]) E hM hC hin hci he hR d rfl hrm hc hs (fun r es' h => by obtain ⟨v, rfl, hp⟩ := h; exact kk v es' hp)
theorem z_cS5R (E : En p s m args meth c G B nL cc own mn rt) {x1 x2 x3 x4 x5 : Value} {P : Value → zE → Prop} (hM : Tr l G B y bytes maxL ret d' mc ms [x1, x2, x3, x4, x5] es (pR P)) (hC : zC own idx y bytes maxL ret 5) (hst : Cond.static y ∈ zzW) (hR : d' + 1 ≤ R.frames ∧ 40 * d' + 40 ≤ R.locals) (d : decode cc pc = .ok (.invokestatic idx, 3)) (hrm : (st.map fun v => v.category).sum ≤ 8) (hc : k + mc ≤ R.cells) (hs : n + ms ≤ R.slots) (kk : ∀ v es', P v es' → Zj p l e R s m args below meth c Q G B nL (k + mc) (n + ms) (pc + 3) ls (v :: st) es') : Zj p l e R s m args below meth c Q G B nL k n (pc) ls (x5 :: x4 :: x3 :: x2 :: x1 :: st) es :=
  z_callS (As := [x1, x2, x3, x4, x5]) E hM hC hst hR d rfl hrm hc hs (fun r es' h => by obtain ⟨v, rfl, hp⟩ := h; exact kk v es' hp)
theorem z_cV5R (E : En p s m args meth c G B nL cc own mn rt) {x1 x2 x3 x4 x5 : Value} {P : Value → zE → Prop} {i ci : Nat} {C : String} {T : u_T} {N : Nat} {fs : List Value} (hM : Tr l G B y bytes maxL ret d' mc ms [.ref (B + i), x1, x2, x3, x4, x5] es (pR P)) (hC : zC own idx y bytes maxL ret 5) (hin : Cond.instanceMethod y ∈ zzW ∧ Cond.selects C y y ∈ zzW) (hci : vwCl[ci]? = some (C, T, N)) (he : es[i]? = some (.inr (ci, fs))) (hR : d' + 1 ≤ R.frames ∧ 40 * d' + 40 ≤ R.locals) (d : decode cc pc = .ok (.invokevirtual idx, 3)) (hrm : (st.map fun v => v.category).sum ≤ 8) (hc : k + mc ≤ R.cells) (hs : n + ms ≤ R.slots) (kk : ∀ v es', P v es' → Zj p l e R s m args below meth c Q G B nL (k + mc) (n + ms) (pc + 3) ls (v :: st) es') : Zj p l e R s m args below meth c Q G B nL k n (pc) ls (x5 :: x4 :: x3 :: x2 :: x1 :: .ref (B + i) :: st) es :=
  z_callV (As := [x1, x2, x3, x4, x5]) E hM hC hin hci he hR d rfl hrm hc hs (fun r es' h => by obtain ⟨v, rfl, hp⟩ := h; exact kk v es' hp)
theorem z_cS5V (E : En p s m args meth c G B nL cc own mn rt) {x1 x2 x3 x4 x5 : Value} {P : zE → Prop} (hM : Tr l G B y bytes maxL ret d' mc ms [x1, x2, x3, x4, x5] es (pV P)) (hC : zC own idx y bytes maxL ret 5) (hst : Cond.static y ∈ zzW) (hR : d' + 1 ≤ R.frames ∧ 40 * d' + 40 ≤ R.locals) (d : decode cc pc = .ok (.invokestatic idx, 3)) (hrm : (st.map fun v => v.category).sum ≤ 8) (hc : k + mc ≤ R.cells) (hs : n + ms ≤ R.slots) (kk : ∀ es', P es' → Zj p l e R s m args below meth c Q G B nL (k + mc) (n + ms) (pc + 3) ls (st) es') : Zj p l e R s m args below meth c Q G B nL k n (pc) ls (x5 :: x4 :: x3 :: x2 :: x1 :: st) es :=
  z_callS (As := [x1, x2, x3, x4, x5]) E hM hC hst hR d rfl hrm hc hs (fun r es' h => by obtain ⟨rfl, hp⟩ := h; exact kk es' hp)
theorem z_cV5V (E : En p s m args meth c G B nL cc own mn rt) {x1 x2 x3 x4 x5 : Value} {P : zE → Prop} {i ci : Nat} {C : String} {T : u_T} {N : Nat} {fs : List Value} (hM : Tr l G B y bytes maxL ret d' mc ms [.ref (B + i), x1, x2, x3, x4, x5] es (pV P)) (hC : zC own idx y bytes maxL ret 5) (hin : Cond.instanceMethod y ∈ zzW ∧ Cond.selects C y y ∈ zzW) (hci : vwCl[ci]? = some (C, T, N)) (he : es[i]? = some (.inr (ci, fs))) (hR : d' + 1 ≤ R.frames ∧ 40 * d' + 40 ≤ R.locals) (d : decode cc pc = .ok (.invokevirtual idx, 3)) (hrm : (st.map fun v => v.category).sum ≤ 8) (hc : k + mc ≤ R.cells) (hs : n + ms ≤ R.slots) (kk : ∀ es', P es' → Zj p l e R s m args below meth c Q G B nL (k + mc) (n + ms) (pc + 3) ls (st) es') : Zj p l e R s m args below meth c Q G B nL k n (pc) ls (x5 :: x4 :: x3 :: x2 :: x1 :: .ref (B + i) :: st) es :=
  z_callV (As := [x1, x2, x3, x4, x5]) E hM hC hin hci he hR d rfl hrm hc hs (fun r es' h => by obtain ⟨rfl, hp⟩ := h; exact kk es' hp)
theorem z_cI5V (E : En p s m args meth c G B nL cc own mn rt) {x1 x2 x3 x4 x5 : Value} {P : zE → Prop} {a : Nat} (hM : Tr l G B y bytes maxL none d' mc ms [.ref a, x1, x2, x3, x4, x5] es (pV P)) (hC : zC own idx y bytes maxL none 5) (hin : y.name = "<init>" ∧ Cond.instanceMethod y ∈ zzW) (hR : d' + 1 ≤ R.frames ∧ 40 * d' + 40 ≤ R.locals) (d : decode cc pc = .ok (.invokespecial idx, 3)) (hrm : (st.map fun v => v.category).sum ≤ 8) (hc : k + mc ≤ R.cells) (hs : n + ms ≤ R.slots) (kk : ∀ es', P es' → Zj p l e R s m args below meth c Q G B nL (k + mc) (n + ms) (pc + 3) ls (st) es') : Zj p l e R s m args below meth c Q G B nL k n (pc) ls (x5 :: x4 :: x3 :: x2 :: x1 :: .ref a :: st) es :=
  z_callI (As := [x1, x2, x3, x4, x5]) E hM hC hin hR d rfl hrm hc hs (fun r es' h => by obtain ⟨rfl, hp⟩ := h; exact kk es' hp)
theorem z_cS6I (E : En p s m args meth c G B nL cc own mn rt) {x1 x2 x3 x4 x5 x6 : Value} {P : Int32 → zE → Prop} (hM : Tr l G B y bytes maxL ret d' mc ms [x1, x2, x3, x4, x5, x6] es (pI P)) (hC : zC own idx y bytes maxL ret 6) (hst : Cond.static y ∈ zzW) (hR : d' + 1 ≤ R.frames ∧ 40 * d' + 40 ≤ R.locals) (d : decode cc pc = .ok (.invokestatic idx, 3)) (hrm : (st.map fun v => v.category).sum ≤ 8) (hc : k + mc ≤ R.cells) (hs : n + ms ≤ R.slots) (kk : ∀ v es', P v es' → Zj p l e R s m args below meth c Q G B nL (k + mc) (n + ms) (pc + 3) ls (.int v :: st) es') : Zj p l e R s m args below meth c Q G B nL k n (pc) ls (x6 :: x5 :: x4 :: x3 :: x2 :: x1 :: st) es :=
  z_callS (As := [x1, x2, x3, x4, x5, x6]) E hM hC hst hR d rfl hrm hc hs (fun r es' h => by obtain ⟨v, rfl, hp⟩ := h; exact kk v es' hp)
theorem z_cV6I (E : En p s m args meth c G B nL cc own mn rt) {x1 x2 x3 x4 x5 x6 : Value} {P : Int32 → zE → Prop} {i ci : Nat} {C : String} {T : u_T} {N : Nat} {fs : List Value} (hM : Tr l G B y bytes maxL ret d' mc ms [.ref (B + i), x1, x2, x3, x4, x5, x6] es (pI P)) (hC : zC own idx y bytes maxL ret 6) (hin : Cond.instanceMethod y ∈ zzW ∧ Cond.selects C y y ∈ zzW) (hci : vwCl[ci]? = some (C, T, N)) (he : es[i]? = some (.inr (ci, fs))) (hR : d' + 1 ≤ R.frames ∧ 40 * d' + 40 ≤ R.locals) (d : decode cc pc = .ok (.invokevirtual idx, 3)) (hrm : (st.map fun v => v.category).sum ≤ 8) (hc : k + mc ≤ R.cells) (hs : n + ms ≤ R.slots) (kk : ∀ v es', P v es' → Zj p l e R s m args below meth c Q G B nL (k + mc) (n + ms) (pc + 3) ls (.int v :: st) es') : Zj p l e R s m args below meth c Q G B nL k n (pc) ls (x6 :: x5 :: x4 :: x3 :: x2 :: x1 :: .ref (B + i) :: st) es :=
  z_callV (As := [x1, x2, x3, x4, x5, x6]) E hM hC hin hci he hR d rfl hrm hc hs (fun r es' h => by obtain ⟨v, rfl, hp⟩ := h; exact kk v es' hp)
theorem z_cS6L (E : En p s m args meth c G B nL cc own mn rt) {x1 x2 x3 x4 x5 x6 : Value} {P : Int64 → zE → Prop} (hM : Tr l G B y bytes maxL ret d' mc ms [x1, x2, x3, x4, x5, x6] es (pL P)) (hC : zC own idx y bytes maxL ret 6) (hst : Cond.static y ∈ zzW) (hR : d' + 1 ≤ R.frames ∧ 40 * d' + 40 ≤ R.locals) (d : decode cc pc = .ok (.invokestatic idx, 3)) (hrm : (st.map fun v => v.category).sum ≤ 8) (hc : k + mc ≤ R.cells) (hs : n + ms ≤ R.slots) (kk : ∀ v es', P v es' → Zj p l e R s m args below meth c Q G B nL (k + mc) (n + ms) (pc + 3) ls (.long v :: st) es') : Zj p l e R s m args below meth c Q G B nL k n (pc) ls (x6 :: x5 :: x4 :: x3 :: x2 :: x1 :: st) es :=
  z_callS (As := [x1, x2, x3, x4, x5, x6]) E hM hC hst hR d rfl hrm hc hs (fun r es' h => by obtain ⟨v, rfl, hp⟩ := h; exact kk v es' hp)
theorem z_cV6L (E : En p s m args meth c G B nL cc own mn rt) {x1 x2 x3 x4 x5 x6 : Value} {P : Int64 → zE → Prop} {i ci : Nat} {C : String} {T : u_T} {N : Nat} {fs : List Value} (hM : Tr l G B y bytes maxL ret d' mc ms [.ref (B + i), x1, x2, x3, x4, x5, x6] es (pL P)) (hC : zC own idx y bytes maxL ret 6) (hin : Cond.instanceMethod y ∈ zzW ∧ Cond.selects C y y ∈ zzW) (hci : vwCl[ci]? = some (C, T, N)) (he : es[i]? = some (.inr (ci, fs))) (hR : d' + 1 ≤ R.frames ∧ 40 * d' + 40 ≤ R.locals) (d : decode cc pc = .ok (.invokevirtual idx, 3)) (hrm : (st.map fun v => v.category).sum ≤ 8) (hc : k + mc ≤ R.cells) (hs : n + ms ≤ R.slots) (kk : ∀ v es', P v es' → Zj p l e R s m args below meth c Q G B nL (k + mc) (n + ms) (pc + 3) ls (.long v :: st) es') : Zj p l e R s m args below meth c Q G B nL k n (pc) ls (x6 :: x5 :: x4 :: x3 :: x2 :: x1 :: .ref (B + i) :: st) es :=
  z_callV (As := [x1, x2, x3, x4, x5, x6]) E hM hC hin hci he hR d rfl hrm hc hs (fun r es' h => by obtain ⟨v, rfl, hp⟩ := h; exact kk v es' hp)
theorem z_cS6R (E : En p s m args meth c G B nL cc own mn rt) {x1 x2 x3 x4 x5 x6 : Value} {P : Value → zE → Prop} (hM : Tr l G B y bytes maxL ret d' mc ms [x1, x2, x3, x4, x5, x6] es (pR P)) (hC : zC own idx y bytes maxL ret 6) (hst : Cond.static y ∈ zzW) (hR : d' + 1 ≤ R.frames ∧ 40 * d' + 40 ≤ R.locals) (d : decode cc pc = .ok (.invokestatic idx, 3)) (hrm : (st.map fun v => v.category).sum ≤ 8) (hc : k + mc ≤ R.cells) (hs : n + ms ≤ R.slots) (kk : ∀ v es', P v es' → Zj p l e R s m args below meth c Q G B nL (k + mc) (n + ms) (pc + 3) ls (v :: st) es') : Zj p l e R s m args below meth c Q G B nL k n (pc) ls (x6 :: x5 :: x4 :: x3 :: x2 :: x1 :: st) es :=
  z_callS (As := [x1, x2, x3, x4, x5, x6]) E hM hC hst hR d rfl hrm hc hs (fun r es' h => by obtain ⟨v, rfl, hp⟩ := h; exact kk v es' hp)
theorem z_cV6R (E : En p s m args meth c G B nL cc own mn rt) {x1 x2 x3 x4 x5 x6 : Value} {P : Value → zE → Prop} {i ci : Nat} {C : String} {T : u_T} {N : Nat} {fs : List Value} (hM : Tr l G B y bytes maxL ret d' mc ms [.ref (B + i), x1, x2, x3, x4, x5, x6] es (pR P)) (hC : zC own idx y bytes maxL ret 6) (hin : Cond.instanceMethod y ∈ zzW ∧ Cond.selects C y y ∈ zzW) (hci : vwCl[ci]? = some (C, T, N)) (he : es[i]? = some (.inr (ci, fs))) (hR : d' + 1 ≤ R.frames ∧ 40 * d' + 40 ≤ R.locals) (d : decode cc pc = .ok (.invokevirtual idx, 3)) (hrm : (st.map fun v => v.category).sum ≤ 8) (hc : k + mc ≤ R.cells) (hs : n + ms ≤ R.slots) (kk : ∀ v es', P v es' → Zj p l e R s m args below meth c Q G B nL (k + mc) (n + ms) (pc + 3) ls (v :: st) es') : Zj p l e R s m args below meth c Q G B nL k n (pc) ls (x6 :: x5 :: x4 :: x3 :: x2 :: x1 :: .ref (B + i) :: st) es :=
  z_callV (As := [x1, x2, x3, x4, x5, x6]) E hM hC hin hci he hR d rfl hrm hc hs (fun r es' h => by obtain ⟨v, rfl, hp⟩ := h; exact kk v es' hp)
theorem z_cS6V (E : En p s m args meth c G B nL cc own mn rt) {x1 x2 x3 x4 x5 x6 : Value} {P : zE → Prop} (hM : Tr l G B y bytes maxL ret d' mc ms [x1, x2, x3, x4, x5, x6] es (pV P)) (hC : zC own idx y bytes maxL ret 6) (hst : Cond.static y ∈ zzW) (hR : d' + 1 ≤ R.frames ∧ 40 * d' + 40 ≤ R.locals) (d : decode cc pc = .ok (.invokestatic idx, 3)) (hrm : (st.map fun v => v.category).sum ≤ 8) (hc : k + mc ≤ R.cells) (hs : n + ms ≤ R.slots) (kk : ∀ es', P es' → Zj p l e R s m args below meth c Q G B nL (k + mc) (n + ms) (pc + 3) ls (st) es') : Zj p l e R s m args below meth c Q G B nL k n (pc) ls (x6 :: x5 :: x4 :: x3 :: x2 :: x1 :: st) es :=
  z_callS (As := [x1, x2, x3, x4, x5, x6]) E hM hC hst hR d rfl hrm hc hs (fun r es' h => by obtain ⟨rfl, hp⟩ := h; exact kk es' hp)
theorem z_cV6V (E : En p s m args meth c G B nL cc own mn rt) {x1 x2 x3 x4 x5 x6 : Value} {P : zE → Prop} {i ci : Nat} {C : String} {T : u_T} {N : Nat} {fs : List Value} (hM : Tr l G B y bytes maxL ret d' mc ms [.ref (B + i), x1, x2, x3, x4, x5, x6] es (pV P)) (hC : zC own idx y bytes maxL ret 6) (hin : Cond.instanceMethod y ∈ zzW ∧ Cond.selects C y y ∈ zzW) (hci : vwCl[ci]? = some (C, T, N)) (he : es[i]? = some (.inr (ci, fs))) (hR : d' + 1 ≤ R.frames ∧ 40 * d' + 40 ≤ R.locals) (d : decode cc pc = .ok (.invokevirtual idx, 3)) (hrm : (st.map fun v => v.category).sum ≤ 8) (hc : k + mc ≤ R.cells) (hs : n + ms ≤ R.slots) (kk : ∀ es', P es' → Zj p l e R s m args below meth c Q G B nL (k + mc) (n + ms) (pc + 3) ls (st) es') : Zj p l e R s m args below meth c Q G B nL k n (pc) ls (x6 :: x5 :: x4 :: x3 :: x2 :: x1 :: .ref (B + i) :: st) es :=
  z_callV (As := [x1, x2, x3, x4, x5, x6]) E hM hC hin hci he hR d rfl hrm hc hs (fun r es' h => by obtain ⟨rfl, hp⟩ := h; exact kk es' hp)
theorem z_cI6V (E : En p s m args meth c G B nL cc own mn rt) {x1 x2 x3 x4 x5 x6 : Value} {P : zE → Prop} {a : Nat} (hM : Tr l G B y bytes maxL none d' mc ms [.ref a, x1, x2, x3, x4, x5, x6] es (pV P)) (hC : zC own idx y bytes maxL none 6) (hin : y.name = "<init>" ∧ Cond.instanceMethod y ∈ zzW) (hR : d' + 1 ≤ R.frames ∧ 40 * d' + 40 ≤ R.locals) (d : decode cc pc = .ok (.invokespecial idx, 3)) (hrm : (st.map fun v => v.category).sum ≤ 8) (hc : k + mc ≤ R.cells) (hs : n + ms ≤ R.slots) (kk : ∀ es', P es' → Zj p l e R s m args below meth c Q G B nL (k + mc) (n + ms) (pc + 3) ls (st) es') : Zj p l e R s m args below meth c Q G B nL k n (pc) ls (x6 :: x5 :: x4 :: x3 :: x2 :: x1 :: .ref a :: st) es :=
  z_callI (As := [x1, x2, x3, x4, x5, x6]) E hM hC hin hR d rfl hrm hc hs (fun r es' h => by obtain ⟨rfl, hp⟩ := h; exact kk es' hp)
end ZC
