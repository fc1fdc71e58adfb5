/-! the reference: members and faces in order -/
/-- the entries of a kind, in order, and what the next one is -/
theorem BP_none {E : Nat → Ent} {k b u : Nat} {A : Ent → Prop} {v : Int32} {L : List Ent} (h : BP E k b A u v) (hv : v < 0) (hb : b + u < 1000) (hL : ∀ e, e ∈ L → (∃ j, j < u ∧ E j = e) ∧ e.1 = k) : ∀ e ∈ L, ¬ A e := by
  intro e he ha
  obtain ⟨⟨j, hj, rfl⟩, hk⟩ := hL e he
  rcases h with ⟨h1, h2⟩ | ⟨m, h1, h2, h3, h4, h5⟩
  · exact h2 j hj hk ha
  · rw [h2] at hv; exact nI_pos (by omega) hv
/-- from the sorted entries: the first, or the one behind, is the best -/
theorem BP_next {E : Nat → Ent} {k b u : Nat} {A : Ent → Prop} {v : Int32} {L1 L2 : List Ent} (h : BP E k b A u v) (hb : b + u < 1000) (hL : ∀ e, e ∈ L1 ++ L2 ↔ (∃ j, j < u ∧ E j = e) ∧ e.1 = k) (hp : L2.Pairwise (fun a b => kC k a b < 0)) (h1 : ∀ e ∈ L1, ¬ A e) (h2 : ∀ e ∈ L2, A e) : (v = -1 ∧ L2 = []) ∨ ∃ m L3, m < u ∧ v = nI (b + m) ∧ L2 = E m :: L3 := by
  rcases h with ⟨g1, g2⟩ | ⟨m, g1, g2, g3, g4, g5⟩
  · left
    refine ⟨g1, ?_⟩
    cases L2 with
    | nil => rfl
    | cons x L3 =>
      obtain ⟨⟨j, hj, e⟩, hk⟩ := (hL x).mp (List.mem_append_right _ List.mem_cons_self)
      exact absurd (by rw [e]; exact h2 x List.mem_cons_self) (g2 j hj (by rw [e]; exact hk))
  · right
    have hm := (hL (E m)).mpr ⟨⟨m, g1, rfl⟩, g3⟩
    rcases List.mem_append.mp hm with q | q
    · exact absurd g4 (h1 _ q)
    · cases L2 with
      | nil => cases q
      | cons x L3 =>
        refine ⟨m, L3, g1, g2, ?_⟩
        rcases List.mem_cons.mp q with q | q
        · rw [q]
        · have hlt := (List.pairwise_cons.mp hp).1 _ q
          obtain ⟨⟨j, hj, e⟩, hk⟩ := (hL x).mp (List.mem_append_right _ List.mem_cons_self)
          exact absurd (by rw [e]; exact hlt) (g5 j hj (by rw [e]; exact hk) (by rw [e]; exact h2 x List.mem_cons_self))
/-- which entries lie above one of the sorted ones -/
theorem split_abv {k : Nat} {L1 L2 : List Ent} {x : Ent} (hp : (L1 ++ x :: L2).Pairwise (fun a b => kC k a b < 0)) : (∀ e ∈ L1 ++ [x], ¬ 0 < kC k e x) ∧ (∀ e ∈ L2, 0 < kC k e x) ∧ L2.Pairwise (fun a b => kC k a b < 0) := by
  rw [List.pairwise_append] at hp
  obtain ⟨p1, p2, p3⟩ := hp
  rw [List.pairwise_cons] at p2
  refine ⟨fun e he => ?_, fun e he => ?_, p2.2⟩
  · rcases List.mem_append.mp he with q | q
    · have := p3 e q x List.mem_cons_self
      omega
    · rw [List.mem_singleton.mp q]
      have := kC_sw k x x
      omega
  · have h1 := p2.1 e he
    have := kC_sw k x e
    omega
theorem flt_s (x : Ent) (L : List Ent) : flt (x :: L) = (if hsh x = true then entB x else []) ++ flt L := by
  rw [flt, List.flatMap_cons]; rfl
theorem and136 (x : Int32) : x &&& 136 = 0 ↔ (x &&& 8 = 0 ∧ x &&& 128 = 0) := by
  rw [show (136 : Int32) = 8 ||| 128 from rfl]
  constructor
  · intro h
    have : x.toBitVec &&& (8#32 ||| 128#32) = 0#32 := by have := congrArg Int32.toBitVec h; exact this
    constructor
    · apply Int32.toBitVec_inj.mp
      show x.toBitVec &&& 8#32 = 0#32
      bv_decide
    · apply Int32.toBitVec_inj.mp
      show x.toBitVec &&& 128#32 = 0#32
      bv_decide
  · rintro ⟨h1, h2⟩
    have e1 : x.toBitVec &&& 8#32 = 0#32 := congrArg Int32.toBitVec h1
    have e2 : x.toBitVec &&& 128#32 = 0#32 := congrArg Int32.toBitVec h2
    apply Int32.toBitVec_inj.mp
    show x.toBitVec &&& (8#32 ||| 128#32) = 0#32
    bv_decide
