/-! the order of entries; rows as lists -/
theorem cmpZ_eq : ∀ {a b : List Nat}, cmpZ a b = 0 → a = b
  | [], [], _ => rfl
  | [], y :: ys, h => by simp [cmpZ] at h; omega
  | x :: xs, [], h => by simp [cmpZ] at h; omega
  | x :: xs, y :: ys, h => by
    by_cases e : x = y
    · subst e
      simp only [cmpZ, if_true] at h
      rw [cmpZ_eq h]
    · simp only [cmpZ, if_neg e] at h; omega
theorem cmpZ_rfl : ∀ a : List Nat, cmpZ a a = 0
  | [] => rfl
  | x :: xs => by simp only [cmpZ, if_true]; exact cmpZ_rfl xs
theorem cmpZ_tr : ∀ {a b c : List Nat}, cmpZ a b < 0 → cmpZ b c < 0 → cmpZ a c < 0
  | [], [], c, h, _ => by simp [cmpZ] at h
  | [], y :: ys, [], _, h => by simp [cmpZ] at h; omega
  | [], y :: ys, z :: zs, _, _ => by simp [cmpZ]
  | x :: xs, [], c, h, _ => by simp [cmpZ] at h; omega
  | x :: xs, y :: ys, [], _, h => by simp [cmpZ] at h; omega
  | x :: xs, y :: ys, z :: zs, h1, h2 => by
    simp only [cmpZ] at h1 h2 ⊢
    by_cases e1 : x = y
    · subst e1
      rw [if_pos rfl] at h1
      by_cases e2 : x = z
      · subst e2
        rw [if_pos rfl] at h2 ⊢
        exact cmpZ_tr h1 h2
      · rw [if_neg e2] at h2 ⊢; exact h2
    · rw [if_neg e1] at h1
      by_cases e2 : y = z
      · subst e2
        rw [if_neg e1]; exact h1
      · rw [if_neg e2] at h2
        rw [if_neg (by omega)]; omega
/-- entries of one kind by what orders them -/
def kC (k : Nat) (a b : Ent) : Int := keyC k a.2.2.1 a.2.2.2 b.2.2.1 b.2.2.2
def eC (a b : Ent) : Int := entC a b.1 b.2.2.1 b.2.2.2
theorem kC_tr {k : Nat} {a b c : Ent} (h1 : kC k a b < 0) (h2 : kC k b c < 0) : kC k a c < 0 := by
  unfold kC keyC at *
  by_cases k1 : k = 1
  · simp only [if_pos k1] at *
    exact cmpZ_tr h1 h2
  · by_cases k2 : k = 2
    · simp only [if_neg k1, if_pos k2] at *
      by_cases e1 : cmpZ a.2.2.1 b.2.2.1 = 0
      · rw [if_pos e1] at h1
        rw [cmpZ_eq e1]
        by_cases e2 : cmpZ b.2.2.1 c.2.2.1 = 0
        · rw [if_pos e2] at h2 ⊢
          exact cmpZ_tr h1 h2
        · rw [if_neg e2] at h2 ⊢
          exact h2
      · rw [if_neg e1] at h1
        by_cases e2 : cmpZ b.2.2.1 c.2.2.1 = 0
        · rw [← cmpZ_eq e2, if_neg e1]; exact h1
        · rw [if_neg e2] at h2
          have := cmpZ_tr h1 h2
          rw [if_neg (by omega)]; exact this
    · by_cases k3 : k = 3
      · simp only [if_neg k1, if_neg k2, if_pos k3] at h1; omega
      · simp only [if_neg k1, if_neg k2, if_neg k3] at *
        exact cmpZ_tr h1 h2
theorem kC_sw (k : Nat) (a b : Ent) : kC k a b = -kC k b a := by
  unfold kC keyC
  have s1 := cmpZ_swap a.2.2.1 b.2.2.1
  have s2 := cmpZ_swap a.2.2.2 b.2.2.2
  by_cases k1 : k = 1
  · simp only [if_pos k1]; exact s2
  · by_cases k2 : k = 2
    · simp only [if_neg k1, if_pos k2]
      by_cases e : cmpZ b.2.2.1 a.2.2.1 = 0
      · rw [if_pos e, if_pos (by omega)]; exact s2
      · rw [if_neg e, if_neg (by omega)]; exact s1
    · by_cases k3 : k = 3
      · simp only [if_neg k1, if_neg k2, if_pos k3]; rfl
      · simp only [if_neg k1, if_neg k2, if_neg k3]; exact s1
theorem kC_z {k : Nat} {b q : Ent} (h : kC k b q = 0) (a : Ent) : kC k a b = kC k a q := by
  unfold kC keyC at *
  by_cases k1 : k = 1
  · simp only [if_pos k1] at *; rw [cmpZ_eq h]
  · by_cases k2 : k = 2
    · simp only [if_neg k1, if_pos k2] at *
      by_cases e : cmpZ b.2.2.1 q.2.2.1 = 0
      · rw [if_pos e] at h
        rw [cmpZ_eq e, cmpZ_eq h]
      · rw [if_neg e] at h; exact absurd h e
    · by_cases k3 : k = 3
      · simp only [if_neg k1, if_neg k2, if_pos k3]
      · simp only [if_neg k1, if_neg k2, if_neg k3] at *; rw [cmpZ_eq h]
theorem eC_k {a b : Ent} (h : a.1 = b.1) : eC a b = kC b.1 a b := by rw [eC, entC, if_pos h, h, kC]
theorem eC_n {a b : Ent} (h : ¬ a.1 = b.1) : eC a b = (a.1 : Int) - b.1 := by rw [eC, entC, if_neg h]
theorem eC_tr {a b c : Ent} (h1 : eC a b < 0) (h2 : eC b c < 0) : eC a c < 0 := by
  by_cases e1 : a.1 = b.1
  · rw [eC_k e1] at h1
    by_cases e2 : b.1 = c.1
    · rw [eC_k e2] at h2
      rw [eC_k (e1.trans e2)]
      rw [e2] at h1
      exact kC_tr h1 h2
    · rw [eC_n e2] at h2
      rw [eC_n (by omega)]; omega
  · rw [eC_n e1] at h1
    by_cases e2 : b.1 = c.1
    · rw [eC_n (by omega)]; omega
    · rw [eC_n e2] at h2
      rw [eC_n (by omega)]; omega
theorem eC_sw (a b : Ent) : eC a b = -eC b a := by
  by_cases e : a.1 = b.1
  · rw [eC_k e, eC_k e.symm, e]; exact kC_sw _ _ _
  · rw [eC_n e, eC_n (fun q => e q.symm)]; omega
theorem eC_z {b q : Ent} (h : eC b q = 0) (a : Ent) : eC a b = eC a q := by
  have e : b.1 = q.1 := Decidable.byContradiction fun e => by rw [eC_n e] at h; omega
  rw [eC_k e] at h
  by_cases e1 : a.1 = b.1
  · rw [eC_k e1, eC_k (e1.trans e), e]; exact kC_z h a
  · rw [eC_n e1, eC_n (by omega), e]
/-- the entries from a place on -/
def lsf (E : Nat → Ent) : Nat → Nat → List Ent
  | _, 0 => []
  | i, n + 1 => E i :: lsf E (i + 1) n
theorem lsf_congr {f g : Nat → Ent} : ∀ {n a b : Nat}, (∀ j, j < n → f (a + j) = g (b + j)) → lsf f a n = lsf g b n
  | 0, _, _, _ => rfl
  | n + 1, a, b, h => by
    rw [lsf, lsf, show f a = g b from h 0 (by omega)]
    congr 1
    exact lsf_congr fun j hj => by have := h (j + 1) (by omega); rw [show a + 1 + j = a + (j + 1) by omega, show b + 1 + j = b + (j + 1) by omega]; exact this
theorem lsf_app (f : Nat → Ent) : ∀ (m a n : Nat), lsf f a (m + n) = lsf f a m ++ lsf f (a + m) n
  | 0, a, n => by rw [Nat.zero_add]; rfl
  | m + 1, a, n => by
    rw [show m + 1 + n = (m + n) + 1 by omega, lsf, lsf, lsf_app f m (a + 1) n, show a + 1 + m = a + (m + 1) by omega]; rfl
theorem lsf_mem {f : Nat → Ent} {e : Ent} : ∀ {n a : Nat}, e ∈ lsf f a n ↔ ∃ j, j < n ∧ f (a + j) = e
  | 0, a => by simp [lsf]
  | n + 1, a => by
    rw [lsf, List.mem_cons, lsf_mem]
    constructor
    · rintro (rfl | ⟨j, hj, rfl⟩)
      · exact ⟨0, by omega, rfl⟩
      · exact ⟨j + 1, by omega, by rw [show a + (j + 1) = a + 1 + j by omega]⟩
    · rintro ⟨j, hj, rfl⟩
      cases j with
      | zero => exact Or.inl rfl
      | succ j => exact Or.inr ⟨j, by omega, by rw [show a + (j + 1) = a + 1 + j by omega]⟩
theorem lsf_len {f : Nat → Ent} : ∀ {n a : Nat}, (lsf f a n).length = n
  | 0, _ => rfl
  | n + 1, a => by rw [lsf, List.length_cons, lsf_len]
def lst (E : Nat → Ent) (u : Nat) : List Ent := lsf E 0 u
theorem lst_mem {E : Nat → Ent} {u : Nat} {e : Ent} : e ∈ lst E u ↔ ∃ j, j < u ∧ E j = e := by
  rw [lst, lsf_mem]
  constructor
  · rintro ⟨j, h1, h2⟩; exact ⟨j, h1, by rw [Nat.zero_add] at h2; exact h2⟩
  · rintro ⟨j, h1, h2⟩; exact ⟨j, h1, by rw [Nat.zero_add]; exact h2⟩
theorem lst_s (E : Nat → Ent) (u : Nat) : lst E (u + 1) = lst E u ++ [E u] := by rw [lst, lsf_app, Nat.zero_add]; rfl
theorem lst_up (E : Nat → Ent) (u : Nat) (x : Ent) : lst (va_up E u x) (u + 1) = lst E u ++ [x] := by
  rw [lst_s, va_up_self]
  congr 1
  exact lsf_congr fun j hj => va_up_ne _ _ (by omega)
theorem lst_ins {E : Nat → Ent} {pl u : Nat} {x : Ent} (h : pl ≤ u) : (lst (ins E pl u x) (u + 1)).Perm (x :: lst E u) := by
  have e1 : lst (ins E pl u x) (u + 1) = lsf E 0 pl ++ x :: lsf E pl (u - pl) := by
    rw [lst, show u + 1 = pl + (u - pl + 1) by omega, lsf_app, lsf]
    congr 1
    · exact lsf_congr fun j hj => by rw [ins, if_pos (by omega)]
    · congr 1
      · rw [ins, if_neg (by omega), if_pos (by omega)]
      · exact lsf_congr fun j hj => by rw [ins, if_neg (by omega), if_neg (by omega), if_pos (by omega)]; congr 1; omega
  have e2 : lst E u = lsf E 0 pl ++ lsf E pl (u - pl) := by
    rw [lst, show u = pl + (u - pl) by omega, lsf_app, Nat.zero_add, show pl + (u - pl) - pl = u - pl by omega]
  rw [e1, e2]
  exact List.perm_middle
theorem lst_out {E : Nat → Ent} {pl u : Nat} (h : pl < u) : lst E u = lsf E 0 pl ++ E pl :: lsf E (pl + 1) (u - 1 - pl) := by
  rw [lst, show u = pl + (u - 1 - pl + 1) by omega, lsf_app, lsf, Nat.zero_add, show pl + (u - 1 - pl + 1) - 1 - pl = u - 1 - pl by omega]
theorem lst_del {E : Nat → Ent} {pl u : Nat} (h : pl < u) : (lst E u).Perm (E pl :: lst (del E pl u) (u - 1)) := by
  have e2 : lst (del E pl u) (u - 1) = lsf E 0 pl ++ lsf E (pl + 1) (u - 1 - pl) := by
    rw [lst, show u - 1 = pl + (u - 1 - pl) by omega, lsf_app, Nat.zero_add, show pl + (u - 1 - pl) - pl = u - 1 - pl by omega]
    congr 1
    · exact lsf_congr fun j hj => by rw [del, if_pos (by omega)]
    · exact lsf_congr fun j hj => by rw [del, if_neg (by omega), if_pos (by omega)]; congr 1; omega
  rw [e2, lst_out h]
  exact List.perm_middle
theorem lst_rmv {E : Nat → Ent} {pl u : Nat} (h : pl < u) : (lst E u).Perm (E pl :: lst (rmv E pl) (u - 1)) := by
  have e2 : lst (rmv E pl) (u - 1) = lsf E 0 pl ++ lsf E (pl + 1) (u - 1 - pl) := by
    rw [lst, show u - 1 = pl + (u - 1 - pl) by omega, lsf_app, Nat.zero_add, show pl + (u - 1 - pl) - pl = u - 1 - pl by omega]
    congr 1
    · exact lsf_congr fun j hj => by rw [rmv, if_pos (by omega)]
    · exact lsf_congr fun j hj => by rw [rmv, if_neg (by omega)]; congr 1; omega
  rw [e2, lst_out h]
  exact List.perm_middle
/-- in canonical order -/
def srt (E : Nat → Ent) (u : Nat) : Prop := ∀ i j, i < j → j < u → eC (E i) (E j) < 0
theorem srt_pw {E : Nat → Ent} : ∀ {u : Nat}, srt E u → (lst E u).Pairwise (fun a b => eC a b < 0)
  | 0, _ => List.Pairwise.nil
  | u + 1, h => by
    rw [lst_s, List.pairwise_append]
    refine ⟨srt_pw fun i j h1 h2 => h i j h1 (by omega), List.pairwise_singleton _ _, fun a ha b hb => ?_⟩
    obtain ⟨i, hi, rfl⟩ := lst_mem.mp ha
    rw [List.mem_singleton.mp hb]
    exact h i u hi (by omega)
theorem fnd_spec {E : Nat → Ent} {k : Nat} {n s : List Nat} : ∀ {f i : Nat}, fnd E k n s f i < i + f → entC (E (fnd E k n s f i)) k n s = 0
  | 0, i, h => by rw [fnd] at h; omega
  | f + 1, i, h => by
    rw [fnd] at h ⊢
    by_cases e : entC (E i) k n s = 0
    · rw [if_pos e]; exact e
    · rw [if_neg e] at h ⊢; exact fnd_spec (by omega)
theorem fnd_hit {E : Nat → Ent} {k : Nat} {n s : List Nat} : ∀ {f i j : Nat}, i ≤ j → j < i + f → entC (E j) k n s = 0 → fnd E k n s f i < i + f
  | 0, i, j, h1, h2, _ => by omega
  | f + 1, i, j, h1, h2, h3 => by
    rw [fnd]
    by_cases e : entC (E i) k n s = 0
    · rw [if_pos e]; omega
    · rw [if_neg e]
      have : i ≠ j := fun q => e (by rw [q]; exact h3)
      have := fnd_hit (E := E) (k := k) (n := n) (s := s) (f := f) (i := i + 1) (j := j) (by omega) (by omega) h3
      omega
theorem plc_lo {E : Nat → Ent} {k : Nat} {n s : List Nat} : ∀ {f i j : Nat}, i ≤ j → j < plc E k n s f i → entC (E j) k n s < 0
  | 0, i, j, h1, h2 => by rw [plc] at h2; omega
  | f + 1, i, j, h1, h2 => by
    rw [plc] at h2
    by_cases e : entC (E i) k n s < 0
    · rw [if_pos e] at h2
      by_cases e2 : i = j
      · rw [← e2]; exact e
      · exact plc_lo (by omega) h2
    · rw [if_neg e] at h2; omega
theorem plc_at {E : Nat → Ent} {k : Nat} {n s : List Nat} : ∀ {f i : Nat}, plc E k n s f i < i + f → ¬ entC (E (plc E k n s f i)) k n s < 0
  | 0, i, h => by rw [plc] at h; omega
  | f + 1, i, h => by
    rw [plc] at h ⊢
    by_cases e : entC (E i) k n s < 0
    · rw [if_pos e] at h ⊢; exact plc_at (by omega)
    · rw [if_neg e]; exact e
/-- found in the sorted row: the place is it -/
theorem plc_hit {E : Nat → Ent} {k u j : Nat} {n s : List Nat} (hs : srt E u) (hj : j < u) (h0 : entC (E j) k n s = 0) : plc E k n s u 0 = j := by
  have q0 : eC (E j) (k, 0, n, s) = 0 := h0
  have hle := plc_le E k n s u 0
  rcases Nat.lt_trichotomy (plc E k n s u 0) j with h | h | h
  · have h1 := plc_at (E := E) (k := k) (n := n) (s := s) (f := u) (i := 0) (by omega)
    have h2 := hs _ j h hj
    rw [eC_z q0] at h2
    exact absurd h2 h1
  · exact h
  · have := plc_lo (E := E) (k := k) (n := n) (s := s) (f := u) (i := 0) (Nat.zero_le j) h
    omega
theorem hit_iff {E E' : Nat → Ent} {k u : Nat} {n s : List Nat} (hs : srt E u) (hp : (lst E u).Perm (lst E' u)) : (plc E k n s u 0 < u ∧ entC (E (plc E k n s u 0)) k n s = 0) ↔ fnd E' k n s u 0 < u := by
  constructor
  · rintro ⟨h1, h2⟩
    have hm : E (plc E k n s u 0) ∈ lst E' u := hp.mem_iff.mp (lst_mem.mpr ⟨_, h1, rfl⟩)
    obtain ⟨j, hj, e⟩ := lst_mem.mp hm
    have := fnd_hit (E := E') (k := k) (n := n) (s := s) (f := u) (i := 0) (j := j) (Nat.zero_le _) (by omega) (by rw [e]; exact h2)
    omega
  · intro h
    have h2 := fnd_spec (E := E') (k := k) (n := n) (s := s) (f := u) (i := 0) (by omega)
    have hm : E' (fnd E' k n s u 0) ∈ lst E u := hp.mem_iff.mpr (lst_mem.mpr ⟨_, h, rfl⟩)
    obtain ⟨j, hj, e⟩ := lst_mem.mp hm
    have h3 : entC (E j) k n s = 0 := by rw [e]; exact h2
    have h4 := plc_hit hs hj h3
    rw [h4]
    exact ⟨hj, h3⟩
theorem ins_srt {E : Nat → Ent} {k u : Nat} {m : Int32} {n s : List Nat} (hs : srt E u) (hn : ¬ (plc E k n s u 0 < u ∧ entC (E (plc E k n s u 0)) k n s = 0)) : srt (ins E (plc E k n s u 0) u (k, m, n, s)) (u + 1) := by
  have hle := (plc_le E k n s u 0).2
  generalize hpl : plc E k n s u 0 = pl at *
  have lo : ∀ j, j < pl → eC (E j) (k, m, n, s) < 0 := fun j hj => plc_lo (f := u) (i := 0) (Nat.zero_le j) (by rw [hpl]; exact hj)
  have at' : pl < u → eC (k, m, n, s) (E pl) < 0 := by
    intro h
    have h1 := plc_at (E := E) (k := k) (n := n) (s := s) (f := u) (i := 0) (by omega)
    rw [hpl] at h1
    have h2 : ¬ entC (E pl) k n s = 0 := fun q => hn ⟨h, q⟩
    rw [eC_sw]
    have : eC (E pl) (k, m, n, s) = entC (E pl) k n s := rfl
    omega
  have hi : ∀ j, pl ≤ j → j < u → eC (k, m, n, s) (E j) < 0 := by
    intro j h1 h2
    by_cases e : pl = j
    · rw [← e]; exact at' (by omega)
    · exact eC_tr (at' (by omega)) (hs pl j (by omega) h2)
  intro i j hij hj
  by_cases c1 : j < pl
  · rw [ins, ins, if_pos c1, if_pos (by omega)]; exact hs i j hij (by omega)
  · by_cases c2 : j = pl
    · rw [ins, ins, if_neg c1, if_pos c2, if_pos (by omega)]; exact lo i (by omega)
    · rw [ins, ins, if_neg c1, if_neg c2, if_pos (show j ≤ u by omega)]
      by_cases d1 : i < pl
      · rw [if_pos d1]; exact hs i (j - 1) (by omega) (by omega)
      · by_cases d2 : i = pl
        · rw [if_neg d1, if_pos d2]; exact hi (j - 1) (by omega) (by omega)
        · rw [if_neg d1, if_neg d2, if_pos (show i ≤ u by omega)]; exact hs (i - 1) (j - 1) (by omega) (by omega)
theorem del_srt {E : Nat → Ent} {pl u : Nat} (hs : srt E u) (h : pl < u) : srt (del E pl u) (u - 1) := by
  intro i j hij hj
  by_cases c1 : j < pl
  · rw [del, del, if_pos c1, if_pos (by omega)]; exact hs i j hij (by omega)
  · rw [del, del, if_neg c1, if_pos (show j + 1 < u by omega)]
    by_cases d1 : i < pl
    · rw [if_pos d1]; exact hs i (j + 1) (by omega) (by omega)
    · rw [if_neg d1, if_pos (show i + 1 < u by omega)]; exact hs (i + 1) (j + 1) (by omega) (by omega)
theorem ins_perm {E E' : Nat → Ent} {pl u : Nat} {x : Ent} (hpl : pl ≤ u) (hp : (lst E u).Perm (lst E' u)) : (lst (ins E pl u x) (u + 1)).Perm (lst (va_up E' u x) (u + 1)) := by
  rw [lst_up]
  exact (lst_ins hpl).trans ((hp.cons x).trans (List.perm_append_singleton x (lst E' u)).symm)
theorem del_perm {E E' : Nat → Ent} {k u : Nat} {n s : List Nat} (hs : srt E u) (hp : (lst E u).Perm (lst E' u)) (h : fnd E' k n s u 0 < u) : (lst (del E (plc E k n s u 0) u) (u - 1)).Perm (lst (rmv E' (fnd E' k n s u 0)) (u - 1)) := by
  have h2 := fnd_spec (E := E') (k := k) (n := n) (s := s) (f := u) (i := 0) (by omega)
  have hm : E' (fnd E' k n s u 0) ∈ lst E u := hp.mem_iff.mpr (lst_mem.mpr ⟨_, h, rfl⟩)
  obtain ⟨j, hj, e⟩ := lst_mem.mp hm
  have h3 : entC (E j) k n s = 0 := by rw [e]; exact h2
  have h4 := plc_hit hs hj h3
  rw [h4]
  have p1 := lst_del (E := E) hj
  have p2 := lst_rmv (E := E') h
  rw [← e] at p2
  exact ((p1.symm.trans hp).trans p2).cons_inv
theorem tal_cnt (E : Nat → Ent) (k : Nat) : ∀ u, tal E k u = (lst E u).countP (fun e => decide (e.1 = k))
  | 0 => rfl
  | u + 1 => by
    rw [lst_s, List.countP_append, tal, tal_cnt E k u]
    by_cases h : (E u).1 = k
    · simp [h]
    · simp [h]
theorem tal_perm {E E' : Nat → Ent} {u : Nat} (hp : (lst E u).Perm (lst E' u)) (k : Nat) : tal E k u = tal E' k u := by
  rw [tal_cnt, tal_cnt]; exact hp.countP_eq _
/-- the bytes of entries -/
def flt (L : List Ent) : List Nat := L.flatMap fun e => if hsh e = true then entB e else []
def ofK (E : Nat → Ent) (k u : Nat) : List Ent := (lst E u).filter fun e => decide (e.1 = k)
theorem flt_app (a b : List Ent) : flt (a ++ b) = flt a ++ flt b := List.flatMap_append
theorem allB_flt (E : Nat → Ent) (k : Nat) : ∀ u, allB E k u = flt (ofK E k u)
  | 0 => rfl
  | u + 1 => by
    rw [ofK, lst_s, List.filter_append, flt_app, allB, allB_flt E k u, ofK]
    congr 1
    by_cases h : (E u).1 = k
    · by_cases h2 : hsh (E u) = true
      · simp [flt, h, h2]
      · simp [flt, h, h2]
    · simp [flt, h]
theorem ofK_mem {E : Nat → Ent} {k u : Nat} {e : Ent} : e ∈ ofK E k u ↔ (∃ j, j < u ∧ E j = e) ∧ e.1 = k := by
  rw [ofK, List.mem_filter, lst_mem, decide_eq_true_eq]
theorem ofK_len {E : Nat → Ent} {k u : Nat} : (ofK E k u).length ≤ u := by
  have := List.length_filter_le (fun e : Ent => decide (e.1 = k)) (lst E u)
  rw [show (lst E u).length = u from lsf_len] at this
  exact this
theorem ofK_pw {E : Nat → Ent} {k u : Nat} (hs : srt E u) : (ofK E k u).Pairwise (fun a b => kC k a b < 0) := by
  have h1 := (srt_pw hs).filter (fun e => decide (e.1 = k))
  refine List.Pairwise.imp_of_mem (fun {a b} ha hb h => ?_) h1
  have ka := (ofK_mem.mp ha).2
  have kb := (ofK_mem.mp hb).2
  rw [eC_k (ka.trans kb.symm), kb] at h
  exact h
