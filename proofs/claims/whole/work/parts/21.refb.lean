/-! THE REFERENCE: its rows: sign, length, there, modifiers, faces, members, declared, given, kind, flags, bytes, part, h, w -/
abbrev MS : Type := (Nat → Int32) × (Nat → Int32) × (Nat → Int32) × (Nat → Int32) × (Nat → Int32) × (Nat → Int32) × (Nat → Int32) × (Nat → Int64) × (Nat → Int32) × (Nat → Int32) × (Nat → Int32) × (Nat → Int32) × (Nat → Int32) × (Nat → Int32)
def mF (B r : Nat) (z a e : Int32) : List Value := [.ref (B + (r + 1)), .ref (B + (r + 2)), .ref (B + (r + 3)), .ref (B + (r + 4)), .ref (B + (r + 5)), .ref (B + (r + 6)), .ref (B + (r + 7)), .ref (B + (r + 8)), .ref (B + (r + 9)), .ref (B + (r + 10)), .ref (B + (r + 11)), .int z, .ref (B + (r + 12)), .ref (B + (r + 13)), .ref (B + (r + 14)), .int a, .int e]
def mO (G : zG) (B : Nat) (es : zE) (r : Nat) (S : MS) (z a e : Int32) : Prop := es[r]? = some (.inr (7, [.ref (B + (r + 1)), .ref (B + (r + 2)), .ref (B + (r + 3)), .ref (B + (r + 4)), .ref (B + (r + 5)), .ref (B + (r + 6)), .ref (B + (r + 7)), .ref (B + (r + 8)), .ref (B + (r + 9)), .ref (B + (r + 10)), .ref (B + (r + 11)), .int z, .ref (B + (r + 12)), .ref (B + (r + 13)), .ref (B + (r + 14)), .int a, .int e])) ∧ es[r + 1]? = some (.inl (G.2.1 1, 2448, .inl (S.1))) ∧ es[r + 2]? = some (.inl (G.2.1 1, 102, .inl (S.2.1))) ∧ es[r + 3]? = some (.inl (G.2.1 2, 4, .inl (S.2.2.1))) ∧ es[r + 4]? = some (.inl (G.2.1 1, 4, .inl (S.2.2.2.1))) ∧ es[r + 5]? = some (.inl (G.2.1 1, 4, .inl (S.2.2.2.2.1))) ∧ es[r + 6]? = some (.inl (G.2.1 1, 4, .inl (S.2.2.2.2.2.1))) ∧ es[r + 7]? = some (.inl (G.2.1 2, 4, .inl (S.2.2.2.2.2.2.1))) ∧ es[r + 8]? = some (.inl (G.2.1 3, 4, .inr (.inl (S.2.2.2.2.2.2.2.1)))) ∧ es[r + 9]? = some (.inl (G.2.1 1, 40, .inl (S.2.2.2.2.2.2.2.2.1))) ∧ es[r + 10]? = some (.inl (G.2.1 1, 40, .inl (S.2.2.2.2.2.2.2.2.2.1))) ∧ es[r + 11]? = some (.inl (G.2.1 1, 1100, .inl (S.2.2.2.2.2.2.2.2.2.2.1))) ∧ es[r + 12]? = some (.inl (G.2.1 1, 6, .inl (S.2.2.2.2.2.2.2.2.2.2.2.1))) ∧ es[r + 13]? = some (.inl (G.2.1 1, 5, .inl (S.2.2.2.2.2.2.2.2.2.2.2.2.1))) ∧ es[r + 14]? = some (.inl (G.2.1 1, 80, .inl (S.2.2.2.2.2.2.2.2.2.2.2.2.2)))
theorem mO.fr {G : zG} {B : Nat} {es es1 : zE} {r : Nat} {S : MS} {z a e : Int32} {lo hi : Nat} (h : mO G B es r S z a e) (hk : Fr es es1 lo hi) (ho : r + 15 ≤ lo ∨ hi ≤ r) : mO G B es1 r S z a e := by
  obtain ⟨m0, a1, a2, a3, a4, a5, a6, a7, a8, a9, a10, a11, a12, a13, a14⟩ := h
  exact ⟨hk.at (by omega) m0, hk.at (by omega) a1, hk.at (by omega) a2, hk.at (by omega) a3, hk.at (by omega) a4, hk.at (by omega) a5, hk.at (by omega) a6, hk.at (by omega) a7, hk.at (by omega) a8, hk.at (by omega) a9, hk.at (by omega) a10, hk.at (by omega) a11, hk.at (by omega) a12, hk.at (by omega) a13, hk.at (by omega) a14⟩
theorem mO.s1 {G : zG} {B : Nat} {es es1 : zE} {r : Nat} {S : MS} {z a e : Int32} {f : Nat → Int32} (h : mO G B es r S z a e) (he : es1 = es.set (r + 1) (.inl (G.2.1 1, 2448, .inl (f)))) : mO G B es1 r (f, S.2) z a e := by
  obtain ⟨m0, a1, a2, a3, a4, a5, a6, a7, a8, a9, a10, a11, a12, a13, a14⟩ := h
  exact ⟨zs_ne he (by omega) m0, zs_eq he a1, zs_ne he (by omega) a2, zs_ne he (by omega) a3, zs_ne he (by omega) a4, zs_ne he (by omega) a5, zs_ne he (by omega) a6, zs_ne he (by omega) a7, zs_ne he (by omega) a8, zs_ne he (by omega) a9, zs_ne he (by omega) a10, zs_ne he (by omega) a11, zs_ne he (by omega) a12, zs_ne he (by omega) a13, zs_ne he (by omega) a14⟩
theorem mO.s2 {G : zG} {B : Nat} {es es1 : zE} {r : Nat} {S : MS} {z a e : Int32} {f : Nat → Int32} (h : mO G B es r S z a e) (he : es1 = es.set (r + 2) (.inl (G.2.1 1, 102, .inl (f)))) : mO G B es1 r (S.1, f, S.2.2) z a e := by
  obtain ⟨m0, a1, a2, a3, a4, a5, a6, a7, a8, a9, a10, a11, a12, a13, a14⟩ := h
  exact ⟨zs_ne he (by omega) m0, zs_ne he (by omega) a1, zs_eq he a2, zs_ne he (by omega) a3, zs_ne he (by omega) a4, zs_ne he (by omega) a5, zs_ne he (by omega) a6, zs_ne he (by omega) a7, zs_ne he (by omega) a8, zs_ne he (by omega) a9, zs_ne he (by omega) a10, zs_ne he (by omega) a11, zs_ne he (by omega) a12, zs_ne he (by omega) a13, zs_ne he (by omega) a14⟩
theorem mO.s3 {G : zG} {B : Nat} {es es1 : zE} {r : Nat} {S : MS} {z a e : Int32} {f : Nat → Int32} (h : mO G B es r S z a e) (he : es1 = es.set (r + 3) (.inl (G.2.1 2, 4, .inl (f)))) : mO G B es1 r (S.1, S.2.1, f, S.2.2.2) z a e := by
  obtain ⟨m0, a1, a2, a3, a4, a5, a6, a7, a8, a9, a10, a11, a12, a13, a14⟩ := h
  exact ⟨zs_ne he (by omega) m0, zs_ne he (by omega) a1, zs_ne he (by omega) a2, zs_eq he a3, zs_ne he (by omega) a4, zs_ne he (by omega) a5, zs_ne he (by omega) a6, zs_ne he (by omega) a7, zs_ne he (by omega) a8, zs_ne he (by omega) a9, zs_ne he (by omega) a10, zs_ne he (by omega) a11, zs_ne he (by omega) a12, zs_ne he (by omega) a13, zs_ne he (by omega) a14⟩
theorem mO.s4 {G : zG} {B : Nat} {es es1 : zE} {r : Nat} {S : MS} {z a e : Int32} {f : Nat → Int32} (h : mO G B es r S z a e) (he : es1 = es.set (r + 4) (.inl (G.2.1 1, 4, .inl (f)))) : mO G B es1 r (S.1, S.2.1, S.2.2.1, f, S.2.2.2.2) z a e := by
  obtain ⟨m0, a1, a2, a3, a4, a5, a6, a7, a8, a9, a10, a11, a12, a13, a14⟩ := h
  exact ⟨zs_ne he (by omega) m0, zs_ne he (by omega) a1, zs_ne he (by omega) a2, zs_ne he (by omega) a3, zs_eq he a4, zs_ne he (by omega) a5, zs_ne he (by omega) a6, zs_ne he (by omega) a7, zs_ne he (by omega) a8, zs_ne he (by omega) a9, zs_ne he (by omega) a10, zs_ne he (by omega) a11, zs_ne he (by omega) a12, zs_ne he (by omega) a13, zs_ne he (by omega) a14⟩
theorem mO.s5 {G : zG} {B : Nat} {es es1 : zE} {r : Nat} {S : MS} {z a e : Int32} {f : Nat → Int32} (h : mO G B es r S z a e) (he : es1 = es.set (r + 5) (.inl (G.2.1 1, 4, .inl (f)))) : mO G B es1 r (S.1, S.2.1, S.2.2.1, S.2.2.2.1, f, S.2.2.2.2.2) z a e := by
  obtain ⟨m0, a1, a2, a3, a4, a5, a6, a7, a8, a9, a10, a11, a12, a13, a14⟩ := h
  exact ⟨zs_ne he (by omega) m0, zs_ne he (by omega) a1, zs_ne he (by omega) a2, zs_ne he (by omega) a3, zs_ne he (by omega) a4, zs_eq he a5, zs_ne he (by omega) a6, zs_ne he (by omega) a7, zs_ne he (by omega) a8, zs_ne he (by omega) a9, zs_ne he (by omega) a10, zs_ne he (by omega) a11, zs_ne he (by omega) a12, zs_ne he (by omega) a13, zs_ne he (by omega) a14⟩
theorem mO.s6 {G : zG} {B : Nat} {es es1 : zE} {r : Nat} {S : MS} {z a e : Int32} {f : Nat → Int32} (h : mO G B es r S z a e) (he : es1 = es.set (r + 6) (.inl (G.2.1 1, 4, .inl (f)))) : mO G B es1 r (S.1, S.2.1, S.2.2.1, S.2.2.2.1, S.2.2.2.2.1, f, S.2.2.2.2.2.2) z a e := by
  obtain ⟨m0, a1, a2, a3, a4, a5, a6, a7, a8, a9, a10, a11, a12, a13, a14⟩ := h
  exact ⟨zs_ne he (by omega) m0, zs_ne he (by omega) a1, zs_ne he (by omega) a2, zs_ne he (by omega) a3, zs_ne he (by omega) a4, zs_ne he (by omega) a5, zs_eq he a6, zs_ne he (by omega) a7, zs_ne he (by omega) a8, zs_ne he (by omega) a9, zs_ne he (by omega) a10, zs_ne he (by omega) a11, zs_ne he (by omega) a12, zs_ne he (by omega) a13, zs_ne he (by omega) a14⟩
theorem mO.s7 {G : zG} {B : Nat} {es es1 : zE} {r : Nat} {S : MS} {z a e : Int32} {f : Nat → Int32} (h : mO G B es r S z a e) (he : es1 = es.set (r + 7) (.inl (G.2.1 2, 4, .inl (f)))) : mO G B es1 r (S.1, S.2.1, S.2.2.1, S.2.2.2.1, S.2.2.2.2.1, S.2.2.2.2.2.1, f, S.2.2.2.2.2.2.2) z a e := by
  obtain ⟨m0, a1, a2, a3, a4, a5, a6, a7, a8, a9, a10, a11, a12, a13, a14⟩ := h
  exact ⟨zs_ne he (by omega) m0, zs_ne he (by omega) a1, zs_ne he (by omega) a2, zs_ne he (by omega) a3, zs_ne he (by omega) a4, zs_ne he (by omega) a5, zs_ne he (by omega) a6, zs_eq he a7, zs_ne he (by omega) a8, zs_ne he (by omega) a9, zs_ne he (by omega) a10, zs_ne he (by omega) a11, zs_ne he (by omega) a12, zs_ne he (by omega) a13, zs_ne he (by omega) a14⟩
theorem mO.s8 {G : zG} {B : Nat} {es es1 : zE} {r : Nat} {S : MS} {z a e : Int32} {f : Nat → Int64} (h : mO G B es r S z a e) (he : es1 = es.set (r + 8) (.inl (G.2.1 3, 4, .inr (.inl (f))))) : mO G B es1 r (S.1, S.2.1, S.2.2.1, S.2.2.2.1, S.2.2.2.2.1, S.2.2.2.2.2.1, S.2.2.2.2.2.2.1, f, S.2.2.2.2.2.2.2.2) z a e := by
  obtain ⟨m0, a1, a2, a3, a4, a5, a6, a7, a8, a9, a10, a11, a12, a13, a14⟩ := h
  exact ⟨zs_ne he (by omega) m0, zs_ne he (by omega) a1, zs_ne he (by omega) a2, zs_ne he (by omega) a3, zs_ne he (by omega) a4, zs_ne he (by omega) a5, zs_ne he (by omega) a6, zs_ne he (by omega) a7, zs_eq he a8, zs_ne he (by omega) a9, zs_ne he (by omega) a10, zs_ne he (by omega) a11, zs_ne he (by omega) a12, zs_ne he (by omega) a13, zs_ne he (by omega) a14⟩
theorem mO.s9 {G : zG} {B : Nat} {es es1 : zE} {r : Nat} {S : MS} {z a e : Int32} {f : Nat → Int32} (h : mO G B es r S z a e) (he : es1 = es.set (r + 9) (.inl (G.2.1 1, 40, .inl (f)))) : mO G B es1 r (S.1, S.2.1, S.2.2.1, S.2.2.2.1, S.2.2.2.2.1, S.2.2.2.2.2.1, S.2.2.2.2.2.2.1, S.2.2.2.2.2.2.2.1, f, S.2.2.2.2.2.2.2.2.2) z a e := by
  obtain ⟨m0, a1, a2, a3, a4, a5, a6, a7, a8, a9, a10, a11, a12, a13, a14⟩ := h
  exact ⟨zs_ne he (by omega) m0, zs_ne he (by omega) a1, zs_ne he (by omega) a2, zs_ne he (by omega) a3, zs_ne he (by omega) a4, zs_ne he (by omega) a5, zs_ne he (by omega) a6, zs_ne he (by omega) a7, zs_ne he (by omega) a8, zs_eq he a9, zs_ne he (by omega) a10, zs_ne he (by omega) a11, zs_ne he (by omega) a12, zs_ne he (by omega) a13, zs_ne he (by omega) a14⟩
theorem mO.s10 {G : zG} {B : Nat} {es es1 : zE} {r : Nat} {S : MS} {z a e : Int32} {f : Nat → Int32} (h : mO G B es r S z a e) (he : es1 = es.set (r + 10) (.inl (G.2.1 1, 40, .inl (f)))) : mO G B es1 r (S.1, S.2.1, S.2.2.1, S.2.2.2.1, S.2.2.2.2.1, S.2.2.2.2.2.1, S.2.2.2.2.2.2.1, S.2.2.2.2.2.2.2.1, S.2.2.2.2.2.2.2.2.1, f, S.2.2.2.2.2.2.2.2.2.2) z a e := by
  obtain ⟨m0, a1, a2, a3, a4, a5, a6, a7, a8, a9, a10, a11, a12, a13, a14⟩ := h
  exact ⟨zs_ne he (by omega) m0, zs_ne he (by omega) a1, zs_ne he (by omega) a2, zs_ne he (by omega) a3, zs_ne he (by omega) a4, zs_ne he (by omega) a5, zs_ne he (by omega) a6, zs_ne he (by omega) a7, zs_ne he (by omega) a8, zs_ne he (by omega) a9, zs_eq he a10, zs_ne he (by omega) a11, zs_ne he (by omega) a12, zs_ne he (by omega) a13, zs_ne he (by omega) a14⟩
theorem mO.s11 {G : zG} {B : Nat} {es es1 : zE} {r : Nat} {S : MS} {z a e : Int32} {f : Nat → Int32} (h : mO G B es r S z a e) (he : es1 = es.set (r + 11) (.inl (G.2.1 1, 1100, .inl (f)))) : mO G B es1 r (S.1, S.2.1, S.2.2.1, S.2.2.2.1, S.2.2.2.2.1, S.2.2.2.2.2.1, S.2.2.2.2.2.2.1, S.2.2.2.2.2.2.2.1, S.2.2.2.2.2.2.2.2.1, S.2.2.2.2.2.2.2.2.2.1, f, S.2.2.2.2.2.2.2.2.2.2.2) z a e := by
  obtain ⟨m0, a1, a2, a3, a4, a5, a6, a7, a8, a9, a10, a11, a12, a13, a14⟩ := h
  exact ⟨zs_ne he (by omega) m0, zs_ne he (by omega) a1, zs_ne he (by omega) a2, zs_ne he (by omega) a3, zs_ne he (by omega) a4, zs_ne he (by omega) a5, zs_ne he (by omega) a6, zs_ne he (by omega) a7, zs_ne he (by omega) a8, zs_ne he (by omega) a9, zs_ne he (by omega) a10, zs_eq he a11, zs_ne he (by omega) a12, zs_ne he (by omega) a13, zs_ne he (by omega) a14⟩
theorem mO.s12 {G : zG} {B : Nat} {es es1 : zE} {r : Nat} {S : MS} {z a e : Int32} {f : Nat → Int32} (h : mO G B es r S z a e) (he : es1 = es.set (r + 12) (.inl (G.2.1 1, 6, .inl (f)))) : mO G B es1 r (S.1, S.2.1, S.2.2.1, S.2.2.2.1, S.2.2.2.2.1, S.2.2.2.2.2.1, S.2.2.2.2.2.2.1, S.2.2.2.2.2.2.2.1, S.2.2.2.2.2.2.2.2.1, S.2.2.2.2.2.2.2.2.2.1, S.2.2.2.2.2.2.2.2.2.2.1, f, S.2.2.2.2.2.2.2.2.2.2.2.2) z a e := by
  obtain ⟨m0, a1, a2, a3, a4, a5, a6, a7, a8, a9, a10, a11, a12, a13, a14⟩ := h
  exact ⟨zs_ne he (by omega) m0, zs_ne he (by omega) a1, zs_ne he (by omega) a2, zs_ne he (by omega) a3, zs_ne he (by omega) a4, zs_ne he (by omega) a5, zs_ne he (by omega) a6, zs_ne he (by omega) a7, zs_ne he (by omega) a8, zs_ne he (by omega) a9, zs_ne he (by omega) a10, zs_ne he (by omega) a11, zs_eq he a12, zs_ne he (by omega) a13, zs_ne he (by omega) a14⟩
theorem mO.s13 {G : zG} {B : Nat} {es es1 : zE} {r : Nat} {S : MS} {z a e : Int32} {f : Nat → Int32} (h : mO G B es r S z a e) (he : es1 = es.set (r + 13) (.inl (G.2.1 1, 5, .inl (f)))) : mO G B es1 r (S.1, S.2.1, S.2.2.1, S.2.2.2.1, S.2.2.2.2.1, S.2.2.2.2.2.1, S.2.2.2.2.2.2.1, S.2.2.2.2.2.2.2.1, S.2.2.2.2.2.2.2.2.1, S.2.2.2.2.2.2.2.2.2.1, S.2.2.2.2.2.2.2.2.2.2.1, S.2.2.2.2.2.2.2.2.2.2.2.1, f, S.2.2.2.2.2.2.2.2.2.2.2.2.2) z a e := by
  obtain ⟨m0, a1, a2, a3, a4, a5, a6, a7, a8, a9, a10, a11, a12, a13, a14⟩ := h
  exact ⟨zs_ne he (by omega) m0, zs_ne he (by omega) a1, zs_ne he (by omega) a2, zs_ne he (by omega) a3, zs_ne he (by omega) a4, zs_ne he (by omega) a5, zs_ne he (by omega) a6, zs_ne he (by omega) a7, zs_ne he (by omega) a8, zs_ne he (by omega) a9, zs_ne he (by omega) a10, zs_ne he (by omega) a11, zs_ne he (by omega) a12, zs_eq he a13, zs_ne he (by omega) a14⟩
theorem mO.s14 {G : zG} {B : Nat} {es es1 : zE} {r : Nat} {S : MS} {z a e : Int32} {f : Nat → Int32} (h : mO G B es r S z a e) (he : es1 = es.set (r + 14) (.inl (G.2.1 1, 80, .inl (f)))) : mO G B es1 r (S.1, S.2.1, S.2.2.1, S.2.2.2.1, S.2.2.2.2.1, S.2.2.2.2.2.1, S.2.2.2.2.2.2.1, S.2.2.2.2.2.2.2.1, S.2.2.2.2.2.2.2.2.1, S.2.2.2.2.2.2.2.2.2.1, S.2.2.2.2.2.2.2.2.2.2.1, S.2.2.2.2.2.2.2.2.2.2.2.1, S.2.2.2.2.2.2.2.2.2.2.2.2.1, f) z a e := by
  obtain ⟨m0, a1, a2, a3, a4, a5, a6, a7, a8, a9, a10, a11, a12, a13, a14⟩ := h
  exact ⟨zs_ne he (by omega) m0, zs_ne he (by omega) a1, zs_ne he (by omega) a2, zs_ne he (by omega) a3, zs_ne he (by omega) a4, zs_ne he (by omega) a5, zs_ne he (by omega) a6, zs_ne he (by omega) a7, zs_ne he (by omega) a8, zs_ne he (by omega) a9, zs_ne he (by omega) a10, zs_ne he (by omega) a11, zs_ne he (by omega) a12, zs_ne he (by omega) a13, zs_eq he a14⟩
theorem mO.s0 {G : zG} {B : Nat} {es es1 : zE} {r : Nat} {S : MS} {z a e : Int32} {z' a' e' : Int32} (h : mO G B es r S z a e) (he : es1 = es.set r (.inr (7, [.ref (B + (r + 1)), .ref (B + (r + 2)), .ref (B + (r + 3)), .ref (B + (r + 4)), .ref (B + (r + 5)), .ref (B + (r + 6)), .ref (B + (r + 7)), .ref (B + (r + 8)), .ref (B + (r + 9)), .ref (B + (r + 10)), .ref (B + (r + 11)), .int z', .ref (B + (r + 12)), .ref (B + (r + 13)), .ref (B + (r + 14)), .int a', .int e'])) ) : mO G B es1 r S z' a' e' := by
  obtain ⟨m0, a1, a2, a3, a4, a5, a6, a7, a8, a9, a10, a11, a12, a13, a14⟩ := h
  exact ⟨zs_eq he m0, zs_ne he (by omega) a1, zs_ne he (by omega) a2, zs_ne he (by omega) a3, zs_ne he (by omega) a4, zs_ne he (by omega) a5, zs_ne he (by omega) a6, zs_ne he (by omega) a7, zs_ne he (by omega) a8, zs_ne he (by omega) a9, zs_ne he (by omega) a10, zs_ne he (by omega) a11, zs_ne he (by omega) a12, zs_ne he (by omega) a13, zs_ne he (by omega) a14⟩
theorem mO.obj {G : zG} {B : Nat} {es : zE} {r : Nat} {S : MS} {z a e : Int32} (h : mO G B es r S z a e) : es[r]? = some (.inr (7, mF B r z a e)) := h.1
/-- the text t of the reference holds the codes xs -/
def rt (S : MS) (t : Nat) (xs : List Nat) : Prop := S.2.1 t = nI xs.length ∧ xs.length ≤ 24 ∧ (∀ j, j < xs.length → S.1 (24 * t + j) = nI (xs.getD j 0)) ∧ ∀ x ∈ xs, x < 128
/-- only the text b may have changed -/
def onlyT (S S' : MS) (b : Nat) : Prop := (∀ t ys, t ≠ b → rt S t ys → rt S' t ys) ∧ S'.2.2 = S.2.2
theorem onlyT.rf {S : MS} {b : Nat} : onlyT S S b := ⟨fun _ _ _ h => h, rfl⟩
theorem onlyT.tr {S S1 S2 : MS} {b : Nat} (h1 : onlyT S S1 b) (h2 : onlyT S1 S2 b) : onlyT S S2 b := ⟨fun t ys ht h => h2.1 t ys ht (h1.1 t ys ht h), h2.2.trans h1.2⟩
set_option maxHeartbeats 4000000 in
set_option maxRecDepth 100000 in
theorem c_M_out (l : Launch) (G : zG) (B : Nat) {es : zE} {a : Nat} {x n : Int32} : Tr l G B jy_M_out jb_M_out 3 (some .boolean) 0 0 0 [.ref a, .int x, .int n] es (pI fun v es' => v = (if x < 0 ∨ n ≤ x then 1 else 0) ∧ es' = es) := by
  refine Tr.of (ls := [some (.ref a), some (.int x), some (.int n)]) (by decide +kernel) (Nat.le_of_ble_eq_true rfl) rfl ?_
  intro zp ze zs zm zb zt zc E
  refine z_iload_n (pc := 0) E jd_M_out_0 rfl rfl ?_
  refine z_if_lt (pc := 1) (tgt := 9) E jd_M_out_1 (by decide) (fun c1 => ?_) (fun c1 => ?_)
  · have hr : x < 0 ∨ n ≤ x := Or.inl c1
    refine z_iconst (v := 1) (pc := 9) E jd_M_out_9 (by decide) ?_
    refine z_goto (pc := 10) (tgt := 14) E jd_M_out_10 (by decide) ?_
    exact z_zret E rfl jd_M_out_14 ⟨_, rfl, by simp only [hr]; rfl, rfl⟩
  · refine z_iload_n (pc := 4) E jd_M_out_4 rfl rfl ?_
    refine z_iload_n (pc := 5) E jd_M_out_5 rfl rfl ?_
    refine z_icmp_lt (pc := 6) (tgt := 13) E jd_M_out_6 (by decide) (fun c6 => ?_) (fun c6 => ?_)
    · have hr : ¬ (x < 0 ∨ n ≤ x) := fun q => q.elim c1 (fun q => Int32.not_le.mpr c6 q)
      refine z_iconst (v := 0) (pc := 13) E jd_M_out_13 (by decide) ?_
      exact z_zret E rfl jd_M_out_14 ⟨_, rfl, by simp only [hr]; rfl, rfl⟩
    · have hr : x < 0 ∨ n ≤ x := Or.inr (Int32.not_lt.mp c6)
      refine z_iconst (v := 1) (pc := 9) E jd_M_out_9 (by decide) ?_
      refine z_goto (pc := 10) (tgt := 14) E jd_M_out_10 (by decide) ?_
      exact z_zret E rfl jd_M_out_14 ⟨_, rfl, by simp only [hr]; rfl, rfl⟩
/-- the class that a number names, if it is there -/
def cnuM (S : MS) (x : Int32) : Option Nat := if x < 0 ∨ 4 ≤ x then none else if S.2.2.1 x.toNatClampNeg = 0 then none else some x.toNatClampNeg
theorem cnuM_some {S : MS} {x : Int32} {c : Nat} (h : cnuM S x = some c) : x = nI c ∧ c < 4 ∧ ¬ S.2.2.1 c = 0 := by
  unfold cnuM at h
  split at h
  · cases h
  · rename_i hx
    split at h
    · cases h
    · rename_i hd
      cases h
      obtain ⟨j, hj, rfl⟩ := nI_of (fun q => hx (Or.inl q))
      have h4 : j < 4 := Nat.lt_of_not_le fun q => hx (Or.inr (nI_le (a := 4) q hj))
      rw [nI_clamp hj] at hd ⊢
      exact ⟨rfl, h4, hd⟩
set_option maxHeartbeats 4000000 in
set_option maxRecDepth 100000 in
theorem c_M_none (l : Launch) (G : zG) (B : Nat) {es : zE} {r : Nat} {S : MS} {z a e x : Int32} (h : mO G B es r S z a e) : Tr l G B jy_M_none jb_M_none 2 (some .boolean) 1 0 0 [.ref (B + r), .int x] es (pI fun v es' => v = (if cnuM S x = none then 1 else 0) ∧ es' = es) := by
  obtain ⟨m0, a1, a2, a3, a4, a5, a6, a7, a8, a9, a10, a11, a12, a13, a14⟩ := h
  refine Tr.of (ls := [some (.ref (B + r)), some (.int x)]) (by decide +kernel) (Nat.le_of_ble_eq_true rfl) rfl ?_
  intro zp ze zs zm zb zt zc E
  refine z_aload_n (pc := 0) E jd_M_none_0 rfl rfl ?_
  refine z_iload_n (pc := 1) E jd_M_none_1 rfl rfl ?_
  refine z_iconst (v := 4) (pc := 2) E jd_M_none_2 (by decide) ?_
  refine z_cV2I (pc := 3) E (c_M_out l G B) jc_M_54 jv_M_out rfl (by assumption) ⟨Nat.le_of_ble_eq_true rfl, Nat.le_of_ble_eq_true rfl⟩ jd_M_none_3 (Nat.le_of_ble_eq_true rfl) (by decide) (by decide) (fun v3 es3 h3 => ?_)
  obtain ⟨w3, e3⟩ := h3
  rw [e3, w3]
  refine z_if_ne (pc := 6) (tgt := 18) E jd_M_none_6 (by decide) (fun c6 => ?_) (fun c6 => ?_)
  · have hx : x < 0 ∨ 4 ≤ x := Decidable.byContradiction fun q => c6 (by rw [if_neg q])
    have hr : cnuM S x = none := by rw [cnuM, if_pos hx]
    refine z_iconst (v := 1) (pc := 18) E jd_M_none_18 (by decide) ?_
    refine z_goto (pc := 19) (tgt := 23) E jd_M_none_19 (by decide) ?_
    exact z_zret E rfl jd_M_none_23 ⟨_, rfl, by simp only [hr]; rfl, rfl⟩
  · have hx : ¬ (x < 0 ∨ 4 ≤ x) := fun q => by rw [if_pos q] at c6; exact absurd c6 (by decide)
    obtain ⟨j, hj, rfl⟩ := nI_of (fun q => hx (Or.inl q))
    have hj4 : j < 4 := Nat.lt_of_not_le fun q => hx (Or.inr (nI_le (a := 4) q hj))
    refine z_aload_n (pc := 9) E jd_M_none_9 rfl rfl ?_
    refine z_get (pc := 10) E jf_M_16 jd_M_none_10 (by assumption) (by rfl) ?_
    refine z_iload_n (pc := 13) E jd_M_none_13 rfl rfl ?_
    refine z_zald (ti := 2) (pc := 14) E rfl jd_M_none_14 (by assumption) (vp_in_nI (by omega) (by omega)) ?_
    rw [nI_clamp (by omega)]
    refine z_if_ne (pc := 15) (tgt := 22) E jd_M_none_15 (by decide) (fun c15 => ?_) (fun c15 => ?_)
    · have hr : ¬ cnuM S (nI j) = none := by rw [cnuM, if_neg hx, nI_clamp hj, if_neg c15]; exact fun q => by cases q
      refine z_iconst (v := 0) (pc := 22) E jd_M_none_22 (by decide) ?_
      exact z_zret E rfl jd_M_none_23 ⟨_, rfl, by simp only [hr]; rfl, rfl⟩
    · have hr : cnuM S (nI j) = none := by rw [cnuM, if_neg hx, nI_clamp hj, if_pos c15]
      refine z_iconst (v := 1) (pc := 18) E jd_M_none_18 (by decide) ?_
      refine z_goto (pc := 19) (tgt := 23) E jd_M_none_19 (by decide) ?_
      exact z_zret E rfl jd_M_none_23 ⟨_, rfl, by simp only [hr]; rfl, rfl⟩
set_option maxHeartbeats 4000000 in
set_option maxRecDepth 100000 in
theorem c_M_clear (l : Launch) (G : zG) (B : Nat) {es : zE} {r b : Nat} {S : MS} {z a e : Int32} {xs : List Nat} (h : mO G B es r S z a e) (hb : b < 2) (ht : rt S b xs) : Tr l G B jy_M_clear jb_M_clear 3 (some .int) 1 0 0 [.ref (B + r), .int (nI b)] es (pI fun v es' => v = nI xs.length ∧ (∃ S', mO G B es' r S' z a e ∧ rt S' b [] ∧ onlyT S S' b) ∧ Fr es es' r (r + 15)) := by
  have hm := h
  obtain ⟨m0, a1, a2, a3, a4, a5, a6, a7, a8, a9, a10, a11, a12, a13, a14⟩ := h
  refine Tr.of (ls := [some (.ref (B + r)), some (.int (nI b)), none]) (by decide +kernel) (Nat.le_of_ble_eq_true rfl) rfl ?_
  intro zp ze zs zm zb zt zc E
  refine z_aload_n (pc := 0) E jd_M_clear_0 rfl rfl ?_
  refine z_iload_n (pc := 1) E jd_M_clear_1 rfl rfl ?_
  refine z_iconst (v := 2) (pc := 2) E jd_M_clear_2 (by decide) ?_
  refine z_cV2I (pc := 3) E (c_M_out l G B) jc_M_54 jv_M_out rfl (by assumption) ⟨Nat.le_of_ble_eq_true rfl, Nat.le_of_ble_eq_true rfl⟩ jd_M_clear_3 (Nat.le_of_ble_eq_true rfl) (by decide) (by decide) (fun v3 es3 h3 => ?_)
  obtain ⟨w3, e3⟩ := h3
  rw [e3, w3, if_neg (fun q => q.elim (nI_pos (by omega)) (fun q => absurd (cle (a := 2) q) (by omega)))]
  refine z_if_eq (pc := 6) (tgt := 11) E jd_M_clear_6 (by decide) (fun c6 => ?_) (fun c6 => ?_)
  · refine z_aload_n (pc := 11) E jd_M_clear_11 rfl rfl ?_
    refine z_get (pc := 12) E jf_M_13 jd_M_clear_12 (by assumption) (by rfl) ?_
    refine z_iload_n (pc := 15) E jd_M_clear_15 rfl rfl ?_
    refine z_iald (ti := 1) (pc := 16) E rfl jd_M_clear_16 (by assumption) (vp_in_nI (by omega) (by omega)) ?_
    rw [nI_clamp (by omega)]
    refine z_istore_n (pc := 17) E jd_M_clear_17 rfl (by decide) rfl ?_
    dsimp only [List.set]
    refine z_aload_n (pc := 18) E jd_M_clear_18 rfl rfl ?_
    refine z_get (pc := 19) E jf_M_13 jd_M_clear_19 (by assumption) (by rfl) ?_
    refine z_iload_n (pc := 22) E jd_M_clear_22 rfl rfl ?_
    refine z_iconst (v := 0) (pc := 23) E jd_M_clear_23 (by decide) ?_
    refine z_iast (ti := 1) (pc := 24) E rfl jd_M_clear_24 (by assumption) (vp_in_nI (by omega) (by omega)) (fun es24 he24 => ?_)
    rw [nI_clamp (by omega)] at he24
    have ok := hm.s2 he24
    have o2 : rt (S.1, upd S.2.1 b 0, S.2.2) b [] := ⟨pk_us, Nat.zero_le _, fun j hj => absurd hj (Nat.not_lt_zero _), fun x hx => by cases hx⟩
    have o3 : onlyT S (S.1, upd S.2.1 b 0, S.2.2) b := ⟨fun t ys hne q => ⟨(pk_un hne).trans q.1, q.2⟩, rfl⟩
    refine z_iload_n (pc := 25) E jd_M_clear_25 rfl rfl ?_
    exact z_iret E jd_M_clear_26 ⟨_, rfl, ht.1, ⟨_, ok, o2, o3⟩, Fr.set he24 (by omega) (by omega)⟩
  · exact absurd rfl c6
set_option maxHeartbeats 4000000 in
set_option maxRecDepth 100000 in
theorem c_M_clear_bad (l : Launch) (G : zG) (B : Nat) {es : zE} {r : Nat} {S : MS} {z a e x : Int32} (h : mO G B es r S z a e) (hx : x < 0 ∨ 2 ≤ x) : Tr l G B jy_M_clear jb_M_clear 3 (some .int) 1 0 0 [.ref (B + r), .int x] es (pI fun v es' => v = -1 ∧ es' = es) := by
  have m0 := h.1
  refine Tr.of (ls := [some (.ref (B + r)), some (.int x), none]) (by decide +kernel) (Nat.le_of_ble_eq_true rfl) rfl ?_
  intro zp ze zs zm zb zt zc E
  refine z_aload_n (pc := 0) E jd_M_clear_0 rfl rfl ?_
  refine z_iload_n (pc := 1) E jd_M_clear_1 rfl rfl ?_
  refine z_iconst (v := 2) (pc := 2) E jd_M_clear_2 (by decide) ?_
  refine z_cV2I (pc := 3) E (c_M_out l G B) jc_M_54 jv_M_out rfl (by assumption) ⟨Nat.le_of_ble_eq_true rfl, Nat.le_of_ble_eq_true rfl⟩ jd_M_clear_3 (Nat.le_of_ble_eq_true rfl) (by decide) (by decide) (fun v3 es3 h3 => ?_)
  obtain ⟨w3, e3⟩ := h3
  rw [e3, w3, if_pos hx]
  refine z_if_eq (pc := 6) (tgt := 11) E jd_M_clear_6 (by decide) (fun c6 => ?_) (fun c6 => ?_)
  · exact absurd c6 (by decide)
  · refine z_iconst (v := -1) (pc := 9) E jd_M_clear_9 (by decide) ?_
    exact z_iret E jd_M_clear_10 ⟨_, rfl, rfl, rfl⟩
set_option maxHeartbeats 4000000 in
set_option maxRecDepth 100000 in
theorem c_M_type_bad (l : Launch) (G : zG) (B : Nat) {es : zE} {r : Nat} {S : MS} {z a e x : Int32} {y : Int64} (h : mO G B es r S z a e) (hx : x < 0 ∨ 2 ≤ x) : Tr l G B jy_M_type jb_M_type 7 (some .int) 1 0 0 [.ref (B + r), .int x, .long y] es (pI fun v es' => v = -1 ∧ es' = es) := by
  have m0 := h.1
  refine Tr.of (ls := [some (.ref (B + r)), some (.int x), some (.long y), none, none, none, none]) (by decide +kernel) (Nat.le_of_ble_eq_true rfl) rfl ?_
  intro zp ze zs zm zb zt zc E
  refine z_aload_n (pc := 0) E jd_M_type_0 rfl rfl ?_
  refine z_iload_n (pc := 1) E jd_M_type_1 rfl rfl ?_
  refine z_iconst (v := 2) (pc := 2) E jd_M_type_2 (by decide) ?_
  refine z_cV2I (pc := 3) E (c_M_out l G B) jc_M_54 jv_M_out rfl (by assumption) ⟨Nat.le_of_ble_eq_true rfl, Nat.le_of_ble_eq_true rfl⟩ jd_M_type_3 (Nat.le_of_ble_eq_true rfl) (by decide) (by decide) (fun v3 es3 h3 => ?_)
  obtain ⟨w3, e3⟩ := h3
  rw [e3, w3, if_pos hx]
  refine z_if_eq (pc := 6) (tgt := 11) E jd_M_type_6 (by decide) (fun c6 => ?_) (fun c6 => ?_)
  · exact absurd c6 (by decide)
  · refine z_iconst (v := -1) (pc := 9) E jd_M_type_9 (by decide) ?_
    exact z_iret E jd_M_type_10 ⟨_, rfl, rfl, rfl⟩
