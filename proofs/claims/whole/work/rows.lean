section
-- ===== PART A: goes FIRST, ahead of the names: the tables' words, and 'selects' of the private methods out of them =====
/-- a private method of a class that the tables say can be made, by its rows of tables_1 -/
def lw_okq (q : MethodName × Nat) : Prop := (q.1.cls ≠ "java/lang/invoke/MethodHandle" ∧ q.1.cls ≠ "java/lang/invoke/VarHandle") ∧ Cond.instantiable q.1.cls q.2 ∈ tables_1 ∧ Cond.privateMethod q.1 ∈ tables_1 ∧ Cond.instanceMethod q.1 ∈ tables_1
theorem lw_p0 : lw_okq (⟨"StreamIds", "bufferOf", "(I)LStreamIds$Text;"⟩, 5) := ⟨⟨by decide +kernel, by decide +kernel⟩, List.mem_of_getElem? (i := 17) (by decide +kernel), List.mem_of_getElem? (i := 180) (by decide +kernel), List.mem_of_getElem? (i := 181) (by decide +kernel)⟩
theorem lw_p1 : lw_okq (⟨"StreamIds", "declarationOf", "(I)LStreamIds$Declaration;"⟩, 5) := ⟨⟨by decide +kernel, by decide +kernel⟩, List.mem_of_getElem? (i := 17) (by decide +kernel), List.mem_of_getElem? (i := 221) (by decide +kernel), List.mem_of_getElem? (i := 222) (by decide +kernel)⟩
theorem lw_p2 : lw_okq (⟨"StreamIds$Row", "placeOf", "(ILStreamIds$Text;LStreamIds$Text;)I"⟩, 2) := ⟨⟨by decide +kernel, by decide +kernel⟩, List.mem_of_getElem? (i := 85) (by decide +kernel), List.mem_of_getElem? (i := 229) (by decide +kernel), List.mem_of_getElem? (i := 230) (by decide +kernel)⟩
theorem lw_p3 : lw_okq (⟨"StreamIds$Row", "isAt", "(IILStreamIds$Text;LStreamIds$Text;)Z"⟩, 2) := ⟨⟨by decide +kernel, by decide +kernel⟩, List.mem_of_getElem? (i := 85) (by decide +kernel), List.mem_of_getElem? (i := 244) (by decide +kernel), List.mem_of_getElem? (i := 245) (by decide +kernel)⟩
theorem lw_p4 : lw_okq (⟨"StreamIds", "isNameFor", "(I)Z"⟩, 5) := ⟨⟨by decide +kernel, by decide +kernel⟩, List.mem_of_getElem? (i := 17) (by decide +kernel), List.mem_of_getElem? (i := 260) (by decide +kernel), List.mem_of_getElem? (i := 261) (by decide +kernel)⟩
theorem lw_p5 : lw_okq (⟨"StreamIds", "isShapeFor", "(I)Z"⟩, 5) := ⟨⟨by decide +kernel, by decide +kernel⟩, List.mem_of_getElem? (i := 17) (by decide +kernel), List.mem_of_getElem? (i := 264) (by decide +kernel), List.mem_of_getElem? (i := 265) (by decide +kernel)⟩
theorem lw_p6 : lw_okq (⟨"StreamIds$Layout", "putText", "(LStreamIds$Text;)V"⟩, 3) := ⟨⟨by decide +kernel, by decide +kernel⟩, List.mem_of_getElem? (i := 44) (by decide +kernel), List.mem_of_getElem? (i := 315) (by decide +kernel), List.mem_of_getElem? (i := 316) (by decide +kernel)⟩
theorem lw_p7 : lw_okq (⟨"StreamIds$Layout", "putLength", "(I)V"⟩, 3) := ⟨⟨by decide +kernel, by decide +kernel⟩, List.mem_of_getElem? (i := 44) (by decide +kernel), List.mem_of_getElem? (i := 319) (by decide +kernel), List.mem_of_getElem? (i := 320) (by decide +kernel)⟩
theorem lw_p8 : lw_okq (⟨"StreamIds$Layout", "put", "(I)V"⟩, 3) := ⟨⟨by decide +kernel, by decide +kernel⟩, List.mem_of_getElem? (i := 44) (by decide +kernel), List.mem_of_getElem? (i := 323) (by decide +kernel), List.mem_of_getElem? (i := 324) (by decide +kernel)⟩
theorem lw_p9 : lw_okq (⟨"StreamIds$Layout", "putNumber", "(I)V"⟩, 3) := ⟨⟨by decide +kernel, by decide +kernel⟩, List.mem_of_getElem? (i := 44) (by decide +kernel), List.mem_of_getElem? (i := 336) (by decide +kernel), List.mem_of_getElem? (i := 337) (by decide +kernel)⟩
theorem lw_p10 : lw_okq (⟨"StreamIds$Layout", "putAll", "(LStreamIds$Row;I)V"⟩, 3) := ⟨⟨by decide +kernel, by decide +kernel⟩, List.mem_of_getElem? (i := 44) (by decide +kernel), List.mem_of_getElem? (i := 340) (by decide +kernel), List.mem_of_getElem? (i := 341) (by decide +kernel)⟩
theorem lw_p11 : lw_okq (⟨"StreamIds$Layout", "putEntry", "(LStreamIds$Entry;)V"⟩, 3) := ⟨⟨by decide +kernel, by decide +kernel⟩, List.mem_of_getElem? (i := 44) (by decide +kernel), List.mem_of_getElem? (i := 352) (by decide +kernel), List.mem_of_getElem? (i := 353) (by decide +kernel)⟩
theorem lw_p12 : lw_okq (⟨"StreamIds$Layout", "putConstant", "(Ljava/lang/String;)V"⟩, 3) := ⟨⟨by decide +kernel, by decide +kernel⟩, List.mem_of_getElem? (i := 44) (by decide +kernel), List.mem_of_getElem? (i := 357) (by decide +kernel), List.mem_of_getElem? (i := 358) (by decide +kernel)⟩
theorem lw_p13 : lw_okq (⟨"StreamIds$Layout", "putDotted", "(LStreamIds$Text;)V"⟩, 3) := ⟨⟨by decide +kernel, by decide +kernel⟩, List.mem_of_getElem? (i := 44) (by decide +kernel), List.mem_of_getElem? (i := 411) (by decide +kernel), List.mem_of_getElem? (i := 412) (by decide +kernel)⟩
theorem lw_p14 : lw_okq (⟨"StreamIds$Digest", "fillWords", "(LStreamIds$Layout;II)V"⟩, 2) := ⟨⟨by decide +kernel, by decide +kernel⟩, List.mem_of_getElem? (i := 64) (by decide +kernel), List.mem_of_getElem? (i := 422) (by decide +kernel), List.mem_of_getElem? (i := 423) (by decide +kernel)⟩
theorem lw_p15 : lw_okq (⟨"StreamIds$Digest", "mixWords", "()V"⟩, 2) := ⟨⟨by decide +kernel, by decide +kernel⟩, List.mem_of_getElem? (i := 64) (by decide +kernel), List.mem_of_getElem? (i := 436) (by decide +kernel), List.mem_of_getElem? (i := 437) (by decide +kernel)⟩
def lw_privs_1 : List (MethodName × Nat) := [(⟨"StreamIds", "bufferOf", "(I)LStreamIds$Text;"⟩, 5), (⟨"StreamIds", "declarationOf", "(I)LStreamIds$Declaration;"⟩, 5), (⟨"StreamIds$Row", "placeOf", "(ILStreamIds$Text;LStreamIds$Text;)I"⟩, 2), (⟨"StreamIds$Row", "isAt", "(IILStreamIds$Text;LStreamIds$Text;)Z"⟩, 2), (⟨"StreamIds", "isNameFor", "(I)Z"⟩, 5), (⟨"StreamIds", "isShapeFor", "(I)Z"⟩, 5), (⟨"StreamIds$Layout", "putText", "(LStreamIds$Text;)V"⟩, 3), (⟨"StreamIds$Layout", "putLength", "(I)V"⟩, 3), (⟨"StreamIds$Layout", "put", "(I)V"⟩, 3), (⟨"StreamIds$Layout", "putNumber", "(I)V"⟩, 3), (⟨"StreamIds$Layout", "putAll", "(LStreamIds$Row;I)V"⟩, 3), (⟨"StreamIds$Layout", "putEntry", "(LStreamIds$Entry;)V"⟩, 3), (⟨"StreamIds$Layout", "putConstant", "(Ljava/lang/String;)V"⟩, 3), (⟨"StreamIds$Layout", "putDotted", "(LStreamIds$Text;)V"⟩, 3), (⟨"StreamIds$Digest", "fillWords", "(LStreamIds$Layout;II)V"⟩, 2), (⟨"StreamIds$Digest", "mixWords", "()V"⟩, 2)]
theorem lw_r1 : ∀ q ∈ lw_privs_1, lw_okq q := List.forall_mem_cons.mpr ⟨lw_p0, List.forall_mem_cons.mpr ⟨lw_p1, List.forall_mem_cons.mpr ⟨lw_p2, List.forall_mem_cons.mpr ⟨lw_p3, List.forall_mem_cons.mpr ⟨lw_p4, List.forall_mem_cons.mpr ⟨lw_p5, List.forall_mem_cons.mpr ⟨lw_p6, List.forall_mem_cons.mpr ⟨lw_p7, List.forall_mem_cons.mpr ⟨lw_p8, List.forall_mem_cons.mpr ⟨lw_p9, List.forall_mem_cons.mpr ⟨lw_p10, List.forall_mem_cons.mpr ⟨lw_p11, List.forall_mem_cons.mpr ⟨lw_p12, List.forall_mem_cons.mpr ⟨lw_p13, List.forall_mem_cons.mpr ⟨lw_p14, List.forall_mem_cons.mpr ⟨lw_p15, fun _ h => absurd h List.not_mem_nil⟩⟩⟩⟩⟩⟩⟩⟩⟩⟩⟩⟩⟩⟩⟩⟩
theorem lw_p16 : lw_okq (⟨"StreamIdsModel", "out", "(II)Z"⟩, 17) := ⟨⟨by decide +kernel, by decide +kernel⟩, List.mem_of_getElem? (i := 476) (by decide +kernel), List.mem_of_getElem? (i := 540) (by decide +kernel), List.mem_of_getElem? (i := 541) (by decide +kernel)⟩
theorem lw_p17 : lw_okq (⟨"StreamIdsModel", "copy", "(II)V"⟩, 17) := ⟨⟨by decide +kernel, by decide +kernel⟩, List.mem_of_getElem? (i := 476) (by decide +kernel), List.mem_of_getElem? (i := 553) (by decide +kernel), List.mem_of_getElem? (i := 554) (by decide +kernel)⟩
theorem lw_p18 : lw_okq (⟨"StreamIdsModel", "none", "(I)Z"⟩, 17) := ⟨⟨by decide +kernel, by decide +kernel⟩, List.mem_of_getElem? (i := 476) (by decide +kernel), List.mem_of_getElem? (i := 561) (by decide +kernel), List.mem_of_getElem? (i := 562) (by decide +kernel)⟩
theorem lw_p19 : lw_okq (⟨"StreamIdsModel", "compare", "(II)I"⟩, 17) := ⟨⟨by decide +kernel, by decide +kernel⟩, List.mem_of_getElem? (i := 476) (by decide +kernel), List.mem_of_getElem? (i := 565) (by decide +kernel), List.mem_of_getElem? (i := 566) (by decide +kernel)⟩
theorem lw_p20 : lw_okq (⟨"StreamIdsModel", "goodShape", "(I)Z"⟩, 17) := ⟨⟨by decide +kernel, by decide +kernel⟩, List.mem_of_getElem? (i := 476) (by decide +kernel), List.mem_of_getElem? (i := 573) (by decide +kernel), List.mem_of_getElem? (i := 574) (by decide +kernel)⟩
theorem lw_p21 : lw_okq (⟨"StreamIdsModel", "passType", "()Z"⟩, 17) := ⟨⟨by decide +kernel, by decide +kernel⟩, List.mem_of_getElem? (i := 476) (by decide +kernel), List.mem_of_getElem? (i := 577) (by decide +kernel), List.mem_of_getElem? (i := 578) (by decide +kernel)⟩
theorem lw_p22 : lw_okq (⟨"StreamIdsModel", "signAt", "(I)I"⟩, 17) := ⟨⟨by decide +kernel, by decide +kernel⟩, List.mem_of_getElem? (i := 476) (by decide +kernel), List.mem_of_getElem? (i := 581) (by decide +kernel), List.mem_of_getElem? (i := 582) (by decide +kernel)⟩
theorem lw_p23 : lw_okq (⟨"StreamIdsModel", "find", "(II)I"⟩, 17) := ⟨⟨by decide +kernel, by decide +kernel⟩, List.mem_of_getElem? (i := 476) (by decide +kernel), List.mem_of_getElem? (i := 585) (by decide +kernel), List.mem_of_getElem? (i := 586) (by decide +kernel)⟩
theorem lw_p24 : lw_okq (⟨"StreamIdsModel", "digest", "(I)V"⟩, 17) := ⟨⟨by decide +kernel, by decide +kernel⟩, List.mem_of_getElem? (i := 476) (by decide +kernel), List.mem_of_getElem? (i := 602) (by decide +kernel), List.mem_of_getElem? (i := 603) (by decide +kernel)⟩
theorem lw_p25 : lw_okq (⟨"StreamIdsModel", "build", "(I)V"⟩, 17) := ⟨⟨by decide +kernel, by decide +kernel⟩, List.mem_of_getElem? (i := 476) (by decide +kernel), List.mem_of_getElem? (i := 606) (by decide +kernel), List.mem_of_getElem? (i := 607) (by decide +kernel)⟩
theorem lw_p26 : lw_okq (⟨"StreamIdsModel", "utf", "(IZ)V"⟩, 17) := ⟨⟨by decide +kernel, by decide +kernel⟩, List.mem_of_getElem? (i := 476) (by decide +kernel), List.mem_of_getElem? (i := 610) (by decide +kernel), List.mem_of_getElem? (i := 611) (by decide +kernel)⟩
theorem lw_p27 : lw_okq (⟨"StreamIdsModel", "put", "(I)V"⟩, 17) := ⟨⟨by decide +kernel, by decide +kernel⟩, List.mem_of_getElem? (i := 476) (by decide +kernel), List.mem_of_getElem? (i := 614) (by decide +kernel), List.mem_of_getElem? (i := 615) (by decide +kernel)⟩
theorem lw_p28 : lw_okq (⟨"StreamIdsModel", "counted", "(II)I"⟩, 17) := ⟨⟨by decide +kernel, by decide +kernel⟩, List.mem_of_getElem? (i := 476) (by decide +kernel), List.mem_of_getElem? (i := 618) (by decide +kernel), List.mem_of_getElem? (i := 619) (by decide +kernel)⟩
theorem lw_p29 : lw_okq (⟨"StreamIdsModel", "number", "(I)V"⟩, 17) := ⟨⟨by decide +kernel, by decide +kernel⟩, List.mem_of_getElem? (i := 476) (by decide +kernel), List.mem_of_getElem? (i := 622) (by decide +kernel), List.mem_of_getElem? (i := 623) (by decide +kernel)⟩
theorem lw_p30 : lw_okq (⟨"StreamIdsModel", "nextFace", "(II)I"⟩, 17) := ⟨⟨by decide +kernel, by decide +kernel⟩, List.mem_of_getElem? (i := 476) (by decide +kernel), List.mem_of_getElem? (i := 626) (by decide +kernel), List.mem_of_getElem? (i := 627) (by decide +kernel)⟩
theorem lw_p31 : lw_okq (⟨"StreamIdsModel", "writeMembers", "(II)V"⟩, 17) := ⟨⟨by decide +kernel, by decide +kernel⟩, List.mem_of_getElem? (i := 476) (by decide +kernel), List.mem_of_getElem? (i := 630) (by decide +kernel), List.mem_of_getElem? (i := 631) (by decide +kernel)⟩
def lw_privs_2 : List (MethodName × Nat) := [(⟨"StreamIdsModel", "out", "(II)Z"⟩, 17), (⟨"StreamIdsModel", "copy", "(II)V"⟩, 17), (⟨"StreamIdsModel", "none", "(I)Z"⟩, 17), (⟨"StreamIdsModel", "compare", "(II)I"⟩, 17), (⟨"StreamIdsModel", "goodShape", "(I)Z"⟩, 17), (⟨"StreamIdsModel", "passType", "()Z"⟩, 17), (⟨"StreamIdsModel", "signAt", "(I)I"⟩, 17), (⟨"StreamIdsModel", "find", "(II)I"⟩, 17), (⟨"StreamIdsModel", "digest", "(I)V"⟩, 17), (⟨"StreamIdsModel", "build", "(I)V"⟩, 17), (⟨"StreamIdsModel", "utf", "(IZ)V"⟩, 17), (⟨"StreamIdsModel", "put", "(I)V"⟩, 17), (⟨"StreamIdsModel", "counted", "(II)I"⟩, 17), (⟨"StreamIdsModel", "number", "(I)V"⟩, 17), (⟨"StreamIdsModel", "nextFace", "(II)I"⟩, 17), (⟨"StreamIdsModel", "writeMembers", "(II)V"⟩, 17)]
theorem lw_r2 : ∀ q ∈ lw_privs_2, lw_okq q := List.forall_mem_cons.mpr ⟨lw_p16, List.forall_mem_cons.mpr ⟨lw_p17, List.forall_mem_cons.mpr ⟨lw_p18, List.forall_mem_cons.mpr ⟨lw_p19, List.forall_mem_cons.mpr ⟨lw_p20, List.forall_mem_cons.mpr ⟨lw_p21, List.forall_mem_cons.mpr ⟨lw_p22, List.forall_mem_cons.mpr ⟨lw_p23, List.forall_mem_cons.mpr ⟨lw_p24, List.forall_mem_cons.mpr ⟨lw_p25, List.forall_mem_cons.mpr ⟨lw_p26, List.forall_mem_cons.mpr ⟨lw_p27, List.forall_mem_cons.mpr ⟨lw_p28, List.forall_mem_cons.mpr ⟨lw_p29, List.forall_mem_cons.mpr ⟨lw_p30, List.forall_mem_cons.mpr ⟨lw_p31, fun _ h => absurd h List.not_mem_nil⟩⟩⟩⟩⟩⟩⟩⟩⟩⟩⟩⟩⟩⟩⟩⟩
theorem lw_p32 : lw_okq (⟨"StreamIdsModel", "following", "(III)I"⟩, 17) := ⟨⟨by decide +kernel, by decide +kernel⟩, List.mem_of_getElem? (i := 476) (by decide +kernel), List.mem_of_getElem? (i := 634) (by decide +kernel), List.mem_of_getElem? (i := 635) (by decide +kernel)⟩
theorem lw_p33 : lw_okq (⟨"StreamIdsModel", "orderOf", "(III)I"⟩, 17) := ⟨⟨by decide +kernel, by decide +kernel⟩, List.mem_of_getElem? (i := 476) (by decide +kernel), List.mem_of_getElem? (i := 638) (by decide +kernel), List.mem_of_getElem? (i := 639) (by decide +kernel)⟩
theorem lw_p34 : lw_okq (⟨"StreamIdsModel", "initName", "(Z)V"⟩, 17) := ⟨⟨by decide +kernel, by decide +kernel⟩, List.mem_of_getElem? (i := 476) (by decide +kernel), List.mem_of_getElem? (i := 642) (by decide +kernel), List.mem_of_getElem? (i := 643) (by decide +kernel)⟩
theorem lw_p35 : lw_okq (⟨"StreamIdsModel", "block", "(I)V"⟩, 17) := ⟨⟨by decide +kernel, by decide +kernel⟩, List.mem_of_getElem? (i := 476) (by decide +kernel), List.mem_of_getElem? (i := 651) (by decide +kernel), List.mem_of_getElem? (i := 652) (by decide +kernel)⟩
theorem lw_p36 : lw_okq (⟨"StreamIdsModel", "turned", "(II)I"⟩, 17) := ⟨⟨by decide +kernel, by decide +kernel⟩, List.mem_of_getElem? (i := 476) (by decide +kernel), List.mem_of_getElem? (i := 655) (by decide +kernel), List.mem_of_getElem? (i := 656) (by decide +kernel)⟩
theorem lw_p37 : lw_okq (⟨"StreamIdsModel", "mixed", "(IIII)I"⟩, 17) := ⟨⟨by decide +kernel, by decide +kernel⟩, List.mem_of_getElem? (i := 476) (by decide +kernel), List.mem_of_getElem? (i := 659) (by decide +kernel), List.mem_of_getElem? (i := 660) (by decide +kernel)⟩
theorem lw_p38 : lw_okq (⟨"StreamIdsModel", "constant", "(I)I"⟩, 17) := ⟨⟨by decide +kernel, by decide +kernel⟩, List.mem_of_getElem? (i := 476) (by decide +kernel), List.mem_of_getElem? (i := 663) (by decide +kernel), List.mem_of_getElem? (i := 664) (by decide +kernel)⟩
def lw_privs_3 : List (MethodName × Nat) := [(⟨"StreamIdsModel", "following", "(III)I"⟩, 17), (⟨"StreamIdsModel", "orderOf", "(III)I"⟩, 17), (⟨"StreamIdsModel", "initName", "(Z)V"⟩, 17), (⟨"StreamIdsModel", "block", "(I)V"⟩, 17), (⟨"StreamIdsModel", "turned", "(II)I"⟩, 17), (⟨"StreamIdsModel", "mixed", "(IIII)I"⟩, 17), (⟨"StreamIdsModel", "constant", "(I)I"⟩, 17)]
theorem lw_r3 : ∀ q ∈ lw_privs_3, lw_okq q := List.forall_mem_cons.mpr ⟨lw_p32, List.forall_mem_cons.mpr ⟨lw_p33, List.forall_mem_cons.mpr ⟨lw_p34, List.forall_mem_cons.mpr ⟨lw_p35, List.forall_mem_cons.mpr ⟨lw_p36, List.forall_mem_cons.mpr ⟨lw_p37, List.forall_mem_cons.mpr ⟨lw_p38, fun _ h => absurd h List.not_mem_nil⟩⟩⟩⟩⟩⟩⟩
def lw_privs : List (MethodName × Nat) := lw_privs_1 ++ (lw_privs_2 ++ (lw_privs_3))
def lw_tbl : List Cond := k2_sels lw_privs ++ tables_1
theorem lw_privs_ok : ∀ q ∈ lw_privs, lw_okq q := by
  show ∀ q ∈ lw_privs_1 ++ (lw_privs_2 ++ (lw_privs_3)), lw_okq q
  exact List.forall_mem_append.mpr ⟨lw_r1, List.forall_mem_append.mpr ⟨lw_r2, lw_r3⟩⟩
end
section
def zzok (w : Cond) : Bool := (w.onTables && w.keeps) || (match w with | .arrayClass _ => true | _ => false)
def zzW : List Cond := lw_tbl.filter zzok
theorem zzW_good : ∀ w ∈ zzW, (w.onTables && w.keeps) = true ∨ ∃ ty, w = .arrayClass ty := by
  intro w hw
  have h := (List.mem_filter.mp hw).2
  unfold zzok at h
  rcases Bool.or_eq_true_iff.mp h with h | h
  · exact Or.inl h
  · right
    cases w <;> first | exact ⟨_, rfl⟩ | (simp at h; done)
theorem zzW_tbl : ∀ w ∈ zzW, w ∈ lw_tbl := fun _ hw => (List.mem_filter.mp hw).1
theorem jw_of {w : Cond} {i : Nat} (h : tables_1[i]? = some w) (hk : zzok w = true) : w ∈ zzW := List.mem_filter.mpr ⟨List.mem_append_right _ (List.mem_of_getElem? h), hk⟩
theorem jw_sel {w : Cond} {i : Nat} (h : (k2_sels lw_privs)[i]? = some w) (hk : zzok w = true) : w ∈ zzW := List.mem_filter.mpr ⟨List.mem_append_left _ (List.mem_of_getElem? h), hk⟩
abbrev jy_S_init : MethodName := ⟨"StreamIds", "<init>", "()V"⟩
abbrev jb_S_init : ByteArray := prog_1_method_1_code
abbrev jy_O_init : MethodName := ⟨"java/lang/Object", "<init>", "()V"⟩
abbrev jb_O_init : ByteArray := object_method_1_code
abbrev jy_T_init : MethodName := ⟨"StreamIds$Text", "<init>", "()V"⟩
abbrev jb_T_init : ByteArray := prog_8_method_1_code
abbrev jy_L_init : MethodName := ⟨"StreamIds$Layout", "<init>", "()V"⟩
abbrev jb_L_init : ByteArray := prog_5_method_1_code
abbrev jy_G_init : MethodName := ⟨"StreamIds$Digest", "<init>", "()V"⟩
abbrev jb_G_init : ByteArray := prog_3_method_1_code
abbrev jy_D_init : MethodName := ⟨"StreamIds$Declaration", "<init>", "()V"⟩
abbrev jb_D_init : ByteArray := prog_2_method_1_code
abbrev jy_R_init : MethodName := ⟨"StreamIds$Row", "<init>", "(I)V"⟩
abbrev jb_R_init : ByteArray := prog_6_method_1_code
abbrev jy_E_init : MethodName := ⟨"StreamIds$Entry", "<init>", "()V"⟩
abbrev jb_E_init : ByteArray := prog_4_method_1_code
abbrev jy_S_type : MethodName := ⟨"StreamIds", "type", "(IJ)I"⟩
abbrev jb_S_type : ByteArray := prog_1_method_2_code
abbrev jy_S_bufferOf : MethodName := ⟨"StreamIds", "bufferOf", "(I)LStreamIds$Text;"⟩
abbrev jb_S_bufferOf : ByteArray := prog_1_method_15_code
abbrev jy_S_areSigns : MethodName := ⟨"StreamIds", "areSigns", "(J)Z"⟩
abbrev jb_S_areSigns : ByteArray := prog_1_method_21_code
abbrev jy_S_byteOf : MethodName := ⟨"StreamIds", "byteOf", "(JI)I"⟩
abbrev jb_S_byteOf : ByteArray := prog_1_method_20_code
abbrev jy_S_signsIn : MethodName := ⟨"StreamIds", "signsIn", "(J)I"⟩
abbrev jb_S_signsIn : ByteArray := prog_1_method_22_code
abbrev jy_T_append : MethodName := ⟨"StreamIds$Text", "append", "(I)V"⟩
abbrev jb_T_append : ByteArray := prog_8_method_3_code
abbrev jy_S_clear : MethodName := ⟨"StreamIds", "clear", "(I)I"⟩
abbrev jb_S_clear : ByteArray := prog_1_method_3_code
abbrev jy_S_define : MethodName := ⟨"StreamIds", "define", "(II)I"⟩
abbrev jb_S_define : ByteArray := prog_1_method_4_code
abbrev jy_D_begin : MethodName := ⟨"StreamIds$Declaration", "begin", "(LStreamIds$Text;I)V"⟩
abbrev jb_D_begin : ByteArray := prog_2_method_2_code
abbrev jy_T_become : MethodName := ⟨"StreamIds$Text", "become", "(LStreamIds$Text;)V"⟩
abbrev jb_T_become : ByteArray := prog_8_method_4_code
abbrev jy_S_face : MethodName := ⟨"StreamIds", "face", "(I)I"⟩
abbrev jb_S_face : ByteArray := prog_1_method_5_code
abbrev jy_S_declarationOf : MethodName := ⟨"StreamIds", "declarationOf", "(I)LStreamIds$Declaration;"⟩
abbrev jb_S_declarationOf : ByteArray := prog_1_method_16_code
abbrev jy_R_enter : MethodName := ⟨"StreamIds$Row", "enter", "(IILStreamIds$Text;LStreamIds$Text;)I"⟩
abbrev jb_R_enter : ByteArray := prog_6_method_2_code
abbrev jy_R_placeOf : MethodName := ⟨"StreamIds$Row", "placeOf", "(ILStreamIds$Text;LStreamIds$Text;)I"⟩
abbrev jb_R_placeOf : ByteArray := prog_6_method_5_code
abbrev jy_E_compareWith : MethodName := ⟨"StreamIds$Entry", "compareWith", "(ILStreamIds$Text;LStreamIds$Text;)I"⟩
abbrev jb_E_compareWith : ByteArray := prog_4_method_3_code
abbrev jy_T_compareWith : MethodName := ⟨"StreamIds$Text", "compareWith", "(LStreamIds$Text;)I"⟩
abbrev jb_T_compareWith : ByteArray := prog_8_method_5_code
abbrev jy_A_min : MethodName := ⟨"java/lang/Math", "min", "(II)I"⟩
abbrev jb_A_min : ByteArray := prog_11_method_69_code
abbrev jy_R_isAt : MethodName := ⟨"StreamIds$Row", "isAt", "(IILStreamIds$Text;LStreamIds$Text;)Z"⟩
abbrev jb_R_isAt : ByteArray := prog_6_method_6_code
abbrev jy_E_become : MethodName := ⟨"StreamIds$Entry", "become", "(IILStreamIds$Text;LStreamIds$Text;)V"⟩
abbrev jb_E_become : ByteArray := prog_4_method_2_code
abbrev jy_S_member : MethodName := ⟨"StreamIds", "member", "(III)I"⟩
abbrev jb_S_member : ByteArray := prog_1_method_6_code
abbrev jy_S_isMemberKind : MethodName := ⟨"StreamIds", "isMemberKind", "(I)Z"⟩
abbrev jb_S_isMemberKind : ByteArray := prog_1_method_17_code
abbrev jy_S_isNameFor : MethodName := ⟨"StreamIds", "isNameFor", "(I)Z"⟩
abbrev jb_S_isNameFor : ByteArray := prog_1_method_18_code
abbrev jy_S_isShapeFor : MethodName := ⟨"StreamIds", "isShapeFor", "(I)Z"⟩
abbrev jb_S_isShapeFor : ByteArray := prog_1_method_19_code
abbrev jy_H_isType : MethodName := ⟨"StreamIds$Shapes", "isType", "(LStreamIds$Text;)Z"⟩
abbrev jb_H_isType : ByteArray := prog_7_method_2_code
abbrev jy_H_endOfType : MethodName := ⟨"StreamIds$Shapes", "endOfType", "(LStreamIds$Text;I)I"⟩
abbrev jb_H_endOfType : ByteArray := prog_7_method_5_code
abbrev jy_T_at : MethodName := ⟨"StreamIds$Text", "at", "(I)I"⟩
abbrev jb_T_at : ByteArray := prog_8_method_2_code
abbrev jy_H_endOfName : MethodName := ⟨"StreamIds$Shapes", "endOfName", "(LStreamIds$Text;I)I"⟩
abbrev jb_H_endOfName : ByteArray := prog_7_method_6_code
abbrev jy_H_mayStandInName : MethodName := ⟨"StreamIds$Shapes", "mayStandInName", "(I)Z"⟩
abbrev jb_H_mayStandInName : ByteArray := prog_7_method_8_code
abbrev jy_H_isSimple : MethodName := ⟨"StreamIds$Shapes", "isSimple", "(I)Z"⟩
abbrev jb_H_isSimple : ByteArray := prog_7_method_7_code
abbrev jy_H_isMethod : MethodName := ⟨"StreamIds$Shapes", "isMethod", "(LStreamIds$Text;)Z"⟩
abbrev jb_H_isMethod : ByteArray := prog_7_method_3_code
abbrev jy_H_endOfTypes : MethodName := ⟨"StreamIds$Shapes", "endOfTypes", "(LStreamIds$Text;I)I"⟩
abbrev jb_H_endOfTypes : ByteArray := prog_7_method_4_code
abbrev jy_S_remove : MethodName := ⟨"StreamIds", "remove", "(II)I"⟩
abbrev jb_S_remove : ByteArray := prog_1_method_7_code
abbrev jy_R_takeOut : MethodName := ⟨"StreamIds$Row", "takeOut", "(ILStreamIds$Text;LStreamIds$Text;)I"⟩
abbrev jb_R_takeOut : ByteArray := prog_6_method_3_code
abbrev jy_S_declare : MethodName := ⟨"StreamIds", "declare", "(IZJ)I"⟩
abbrev jb_S_declare : ByteArray := prog_1_method_8_code
abbrev jy_S_id : MethodName := ⟨"StreamIds", "id", "(I)J"⟩
abbrev jb_S_id : ByteArray := prog_1_method_9_code
abbrev jy_L_write : MethodName := ⟨"StreamIds$Layout", "write", "(LStreamIds$Declaration;)V"⟩
abbrev jb_L_write : ByteArray := prog_5_method_2_code
abbrev jy_L_putText : MethodName := ⟨"StreamIds$Layout", "putText", "(LStreamIds$Text;)V"⟩
abbrev jb_L_putText : ByteArray := prog_5_method_6_code
abbrev jy_L_putLength : MethodName := ⟨"StreamIds$Layout", "putLength", "(I)V"⟩
abbrev jb_L_putLength : ByteArray := prog_5_method_9_code
abbrev jy_L_put : MethodName := ⟨"StreamIds$Layout", "put", "(I)V"⟩
abbrev jb_L_put : ByteArray := prog_5_method_11_code
abbrev jy_D_hashedModifiers : MethodName := ⟨"StreamIds$Declaration", "hashedModifiers", "()I"⟩
abbrev jb_D_hashedModifiers : ByteArray := prog_2_method_3_code
abbrev jy_R_tally : MethodName := ⟨"StreamIds$Row", "tally", "(I)I"⟩
abbrev jb_R_tally : ByteArray := prog_6_method_4_code
abbrev jy_L_putNumber : MethodName := ⟨"StreamIds$Layout", "putNumber", "(I)V"⟩
abbrev jb_L_putNumber : ByteArray := prog_5_method_10_code
abbrev jy_L_putAll : MethodName := ⟨"StreamIds$Layout", "putAll", "(LStreamIds$Row;I)V"⟩
abbrev jb_L_putAll : ByteArray := prog_5_method_4_code
abbrev jy_E_isHashed : MethodName := ⟨"StreamIds$Entry", "isHashed", "()Z"⟩
abbrev jb_E_isHashed : ByteArray := prog_4_method_5_code
abbrev jy_E_has : MethodName := ⟨"StreamIds$Entry", "has", "(I)Z"⟩
abbrev jb_E_has : ByteArray := prog_4_method_4_code
abbrev jy_L_putEntry : MethodName := ⟨"StreamIds$Layout", "putEntry", "(LStreamIds$Entry;)V"⟩
abbrev jb_L_putEntry : ByteArray := prog_5_method_5_code
abbrev jy_L_putConstant : MethodName := ⟨"StreamIds$Layout", "putConstant", "(Ljava/lang/String;)V"⟩
abbrev jb_L_putConstant : ByteArray := prog_5_method_8_code
abbrev jy_JS_length : MethodName := ⟨"java/lang/String", "length", "()I"⟩
abbrev jb_JS_length : ByteArray := prog_12_method_54_code
abbrev jy_JS_coder : MethodName := ⟨"java/lang/String", "coder", "()B"⟩
abbrev jb_JS_coder : ByteArray := prog_12_method_152_code
abbrev jy_JS_charAt : MethodName := ⟨"java/lang/String", "charAt", "(I)C"⟩
abbrev jb_JS_charAt : ByteArray := prog_12_method_56_code
abbrev jy_JS_isLatin1 : MethodName := ⟨"java/lang/String", "isLatin1", "()Z"⟩
abbrev jb_JS_isLatin1 : ByteArray := prog_12_method_154_code
abbrev jy_JL_charAt : MethodName := ⟨"java/lang/StringLatin1", "charAt", "([BI)C"⟩
abbrev jb_JL_charAt : ByteArray := prog_13_method_2_code
abbrev jy_JS_checkIndex : MethodName := ⟨"java/lang/String", "checkIndex", "(II)V"⟩
abbrev jb_JS_checkIndex : ByteArray := prog_12_method_155_code
abbrev jy_JP_checkIndex : MethodName := ⟨"jdk/internal/util/Preconditions", "checkIndex", "(IILjava/util/function/BiFunction;)I"⟩
abbrev jb_JP_checkIndex : ByteArray := prog_16_method_11_code
abbrev jy_JU_charAt : MethodName := ⟨"java/lang/StringUTF16", "charAt", "([BI)C"⟩
abbrev jb_JU_charAt : ByteArray := prog_14_method_83_code
abbrev jy_JU_checkIndex : MethodName := ⟨"java/lang/StringUTF16", "checkIndex", "(I[B)V"⟩
abbrev jb_JU_checkIndex : ByteArray := prog_14_method_91_code
abbrev jy_JU_length : MethodName := ⟨"java/lang/StringUTF16", "length", "([B)I"⟩
abbrev jb_JU_length : ByteArray := prog_14_method_6_code
abbrev jy_JU_getChar : MethodName := ⟨"java/lang/StringUTF16", "getChar", "([BI)C"⟩
abbrev jb_JU_getChar : ByteArray := prog_14_method_5_code
abbrev jy_L_putDotted : MethodName := ⟨"StreamIds$Layout", "putDotted", "(LStreamIds$Text;)V"⟩
abbrev jb_L_putDotted : ByteArray := prog_5_method_7_code
abbrev jy_G_take : MethodName := ⟨"StreamIds$Digest", "take", "(LStreamIds$Layout;)V"⟩
abbrev jb_G_take : ByteArray := prog_3_method_2_code
abbrev jy_G_fillWords : MethodName := ⟨"StreamIds$Digest", "fillWords", "(LStreamIds$Layout;II)V"⟩
abbrev jb_G_fillWords : ByteArray := prog_3_method_4_code
abbrev jy_G_paddedAt : MethodName := ⟨"StreamIds$Digest", "paddedAt", "(LStreamIds$Layout;II)I"⟩
abbrev jb_G_paddedAt : ByteArray := prog_3_method_5_code
abbrev jy_L_at : MethodName := ⟨"StreamIds$Layout", "at", "(I)I"⟩
abbrev jb_L_at : ByteArray := prog_5_method_3_code
abbrev jy_G_turned : MethodName := ⟨"StreamIds$Digest", "turned", "(II)I"⟩
abbrev jb_G_turned : ByteArray := prog_3_method_8_code
abbrev jy_G_mixWords : MethodName := ⟨"StreamIds$Digest", "mixWords", "()V"⟩
abbrev jb_G_mixWords : ByteArray := prog_3_method_6_code
abbrev jy_G_chosen : MethodName := ⟨"StreamIds$Digest", "chosen", "(IIII)I"⟩
abbrev jb_G_chosen : ByteArray := prog_3_method_7_code
abbrev jy_G_firstEightReversed : MethodName := ⟨"StreamIds$Digest", "firstEightReversed", "()J"⟩
abbrev jb_G_firstEightReversed : ByteArray := prog_3_method_3_code
abbrev jy_G_reversed : MethodName := ⟨"StreamIds$Digest", "reversed", "(I)I"⟩
abbrev jb_G_reversed : ByteArray := prog_3_method_9_code
abbrev jy_S_hash : MethodName := ⟨"StreamIds", "hash", "(II)J"⟩
abbrev jb_S_hash : ByteArray := prog_1_method_10_code
abbrev jy_S_size : MethodName := ⟨"StreamIds", "size", "(I)I"⟩
abbrev jb_S_size : ByteArray := prog_1_method_11_code
abbrev jy_S_byteAt : MethodName := ⟨"StreamIds", "byteAt", "(II)I"⟩
abbrev jb_S_byteAt : ByteArray := prog_1_method_12_code
abbrev jy_S_part : MethodName := ⟨"StreamIds", "part", "(II)I"⟩
abbrev jb_S_part : ByteArray := prog_1_method_13_code
abbrev jy_S_count : MethodName := ⟨"StreamIds", "count", "(II)I"⟩
abbrev jb_S_count : ByteArray := prog_1_method_14_code
abbrev jy_M_init : MethodName := ⟨"StreamIdsModel", "<init>", "()V"⟩
abbrev jb_M_init : ByteArray := prog_10_method_1_code
abbrev jy_M_type : MethodName := ⟨"StreamIdsModel", "type", "(IJ)I"⟩
abbrev jb_M_type : ByteArray := prog_10_method_4_code
abbrev jy_M_out : MethodName := ⟨"StreamIdsModel", "out", "(II)Z"⟩
abbrev jb_M_out : ByteArray := prog_10_method_2_code
abbrev jy_M_clear : MethodName := ⟨"StreamIdsModel", "clear", "(I)I"⟩
abbrev jb_M_clear : ByteArray := prog_10_method_5_code
abbrev jy_M_define : MethodName := ⟨"StreamIdsModel", "define", "(II)I"⟩
abbrev jb_M_define : ByteArray := prog_10_method_11_code
abbrev jy_M_copy : MethodName := ⟨"StreamIdsModel", "copy", "(II)V"⟩
abbrev jb_M_copy : ByteArray := prog_10_method_6_code
abbrev jy_M_face : MethodName := ⟨"StreamIdsModel", "face", "(I)I"⟩
abbrev jb_M_face : ByteArray := prog_10_method_12_code
abbrev jy_M_none : MethodName := ⟨"StreamIdsModel", "none", "(I)Z"⟩
abbrev jb_M_none : ByteArray := prog_10_method_3_code
abbrev jy_M_compare : MethodName := ⟨"StreamIdsModel", "compare", "(II)I"⟩
abbrev jb_M_compare : ByteArray := prog_10_method_7_code
abbrev jy_M_member : MethodName := ⟨"StreamIdsModel", "member", "(III)I"⟩
abbrev jb_M_member : ByteArray := prog_10_method_14_code
abbrev jy_M_goodShape : MethodName := ⟨"StreamIdsModel", "goodShape", "(I)Z"⟩
abbrev jb_M_goodShape : ByteArray := prog_10_method_10_code
abbrev jy_M_passType : MethodName := ⟨"StreamIdsModel", "passType", "()Z"⟩
abbrev jb_M_passType : ByteArray := prog_10_method_9_code
abbrev jy_M_signAt : MethodName := ⟨"StreamIdsModel", "signAt", "(I)I"⟩
abbrev jb_M_signAt : ByteArray := prog_10_method_8_code
abbrev jy_M_find : MethodName := ⟨"StreamIdsModel", "find", "(II)I"⟩
abbrev jb_M_find : ByteArray := prog_10_method_13_code
abbrev jy_M_remove : MethodName := ⟨"StreamIdsModel", "remove", "(II)I"⟩
abbrev jb_M_remove : ByteArray := prog_10_method_15_code
abbrev jy_M_declare : MethodName := ⟨"StreamIdsModel", "declare", "(IZJ)I"⟩
abbrev jb_M_declare : ByteArray := prog_10_method_16_code
abbrev jy_M_id : MethodName := ⟨"StreamIdsModel", "id", "(I)J"⟩
abbrev jb_M_id : ByteArray := prog_10_method_32_code
abbrev jy_M_digest : MethodName := ⟨"StreamIdsModel", "digest", "(I)V"⟩
abbrev jb_M_digest : ByteArray := prog_10_method_31_code
abbrev jy_M_build : MethodName := ⟨"StreamIdsModel", "build", "(I)V"⟩
abbrev jb_M_build : ByteArray := prog_10_method_26_code
abbrev jy_M_utf : MethodName := ⟨"StreamIdsModel", "utf", "(IZ)V"⟩
abbrev jb_M_utf : ByteArray := prog_10_method_19_code
abbrev jy_M_put : MethodName := ⟨"StreamIdsModel", "put", "(I)V"⟩
abbrev jb_M_put : ByteArray := prog_10_method_17_code
abbrev jy_M_counted : MethodName := ⟨"StreamIdsModel", "counted", "(II)I"⟩
abbrev jb_M_counted : ByteArray := prog_10_method_24_code
abbrev jy_M_number : MethodName := ⟨"StreamIdsModel", "number", "(I)V"⟩
abbrev jb_M_number : ByteArray := prog_10_method_18_code
abbrev jy_M_nextFace : MethodName := ⟨"StreamIdsModel", "nextFace", "(II)I"⟩
abbrev jb_M_nextFace : ByteArray := prog_10_method_23_code
abbrev jy_M_writeMembers : MethodName := ⟨"StreamIdsModel", "writeMembers", "(II)V"⟩
abbrev jb_M_writeMembers : ByteArray := prog_10_method_25_code
abbrev jy_M_following : MethodName := ⟨"StreamIdsModel", "following", "(III)I"⟩
abbrev jb_M_following : ByteArray := prog_10_method_22_code
abbrev jy_M_orderOf : MethodName := ⟨"StreamIdsModel", "orderOf", "(III)I"⟩
abbrev jb_M_orderOf : ByteArray := prog_10_method_21_code
abbrev jy_M_initName : MethodName := ⟨"StreamIdsModel", "initName", "(Z)V"⟩
abbrev jb_M_initName : ByteArray := prog_10_method_20_code
abbrev jy_M_block : MethodName := ⟨"StreamIdsModel", "block", "(I)V"⟩
abbrev jb_M_block : ByteArray := prog_10_method_30_code
abbrev jy_M_turned : MethodName := ⟨"StreamIdsModel", "turned", "(II)I"⟩
abbrev jb_M_turned : ByteArray := prog_10_method_27_code
abbrev jy_M_mixed : MethodName := ⟨"StreamIdsModel", "mixed", "(IIII)I"⟩
abbrev jb_M_mixed : ByteArray := prog_10_method_28_code
abbrev jy_M_constant : MethodName := ⟨"StreamIdsModel", "constant", "(I)I"⟩
abbrev jb_M_constant : ByteArray := prog_10_method_29_code
abbrev jy_M_hash : MethodName := ⟨"StreamIdsModel", "hash", "(II)J"⟩
abbrev jb_M_hash : ByteArray := prog_10_method_33_code
abbrev jy_M_size : MethodName := ⟨"StreamIdsModel", "size", "(I)I"⟩
abbrev jb_M_size : ByteArray := prog_10_method_34_code
abbrev jy_M_byteAt : MethodName := ⟨"StreamIdsModel", "byteAt", "(II)I"⟩
abbrev jb_M_byteAt : ByteArray := prog_10_method_35_code
abbrev jy_M_part : MethodName := ⟨"StreamIdsModel", "part", "(II)I"⟩
abbrev jb_M_part : ByteArray := prog_10_method_36_code
abbrev jy_M_count : MethodName := ⟨"StreamIdsModel", "count", "(II)I"⟩
abbrev jb_M_count : ByteArray := prog_10_method_37_code
theorem jw_0 : (Jvm.Cond.initialized "StreamIdsLaw") ∈ zzW := jw_of (i := 0) (by decide +kernel) (by decide +kernel)
theorem jw_1 : (Jvm.Cond.initialized "StreamIds") ∈ zzW := jw_of (i := 1) (by decide +kernel) (by decide +kernel)
theorem jw_2 : (Jvm.Cond.initialized "StreamIds$Text") ∈ zzW := jw_of (i := 2) (by decide +kernel) (by decide +kernel)
theorem jw_3 : (Jvm.Cond.initialized "StreamIds$Layout") ∈ zzW := jw_of (i := 3) (by decide +kernel) (by decide +kernel)
theorem jw_4 : (Jvm.Cond.initialized "StreamIds$Digest") ∈ zzW := jw_of (i := 4) (by decide +kernel) (by decide +kernel)
theorem jw_5 : (Jvm.Cond.initialized "StreamIds$Declaration") ∈ zzW := jw_of (i := 5) (by decide +kernel) (by decide +kernel)
theorem jw_6 : (Jvm.Cond.initialized "StreamIds$Row") ∈ zzW := jw_of (i := 6) (by decide +kernel) (by decide +kernel)
theorem jw_7 : (Jvm.Cond.initialized "StreamIds$Entry") ∈ zzW := jw_of (i := 7) (by decide +kernel) (by decide +kernel)
theorem jw_8 : (Jvm.Cond.initialized "StreamIdsModel") ∈ zzW := jw_of (i := 8) (by decide +kernel) (by decide +kernel)
theorem jw_9 : (Jvm.Cond.initialized "java/lang/System") ∈ zzW := jw_of (i := 9) (by decide +kernel) (by decide +kernel)
theorem jw_10 : (Jvm.Cond.initialized "java/lang/Math") ∈ zzW := jw_of (i := 10) (by decide +kernel) (by decide +kernel)
theorem jw_11 : (Jvm.Cond.initialized "StreamIds$Shapes") ∈ zzW := jw_of (i := 11) (by decide +kernel) (by decide +kernel)
theorem jw_12 : (Jvm.Cond.initialized "java/lang/String") ∈ zzW := jw_of (i := 12) (by decide +kernel) (by decide +kernel)
theorem jw_13 : (Jvm.Cond.initialized "java/lang/StringLatin1") ∈ zzW := jw_of (i := 13) (by decide +kernel) (by decide +kernel)
theorem jw_14 : (Jvm.Cond.initialized "jdk/internal/util/Preconditions") ∈ zzW := jw_of (i := 14) (by decide +kernel) (by decide +kernel)
theorem jw_15 : (Jvm.Cond.initialized "java/lang/StringUTF16") ∈ zzW := jw_of (i := 15) (by decide +kernel) (by decide +kernel)
theorem jw_16 : (Jvm.Cond.classLink "StreamIdsLaw" (7 : Nat) "StreamIds") ∈ zzW := jw_of (i := 16) (by decide +kernel) (by decide +kernel)
theorem jw_17 : (Jvm.Cond.instantiable "StreamIds" (5 : Nat)) ∈ zzW := jw_of (i := 17) (by decide +kernel) (by decide +kernel)
theorem jw_18 : (Jvm.Cond.methodLink "StreamIdsLaw" (9 : Nat) ({ cls := "StreamIds", name := "<init>", desc := "()V" } : Jvm.MethodName)) ∈ zzW := jw_of (i := 18) (by decide +kernel) (by decide +kernel)
theorem jw_19 : (Jvm.Cond.instanceMethod ({ cls := "StreamIds", name := "<init>", desc := "()V" } : Jvm.MethodName)) ∈ zzW := jw_of (i := 19) (by decide +kernel) (by decide +kernel)
theorem jw_20 : (Jvm.Cond.code ({ cls := "StreamIds", name := "<init>", desc := "()V" } : Jvm.MethodName) prog_1_method_1_code (2 : Nat) (Option.none : Option Jvm.ClassFile.FieldType)) ∈ zzW := jw_of (i := 20) (by decide +kernel) (by decide +kernel)
theorem jw_21 : (Jvm.Cond.methodLink "StreamIds" (3 : Nat) ({ cls := "java/lang/Object", name := "<init>", desc := "()V" } : Jvm.MethodName)) ∈ zzW := jw_of (i := 21) (by decide +kernel) (by decide +kernel)
theorem jw_22 : (Jvm.Cond.instanceMethod ({ cls := "java/lang/Object", name := "<init>", desc := "()V" } : Jvm.MethodName)) ∈ zzW := jw_of (i := 22) (by decide +kernel) (by decide +kernel)
theorem jw_23 : (Jvm.Cond.code ({ cls := "java/lang/Object", name := "<init>", desc := "()V" } : Jvm.MethodName) object_method_1_code (1 : Nat) (Option.none : Option Jvm.ClassFile.FieldType)) ∈ zzW := jw_of (i := 23) (by decide +kernel) (by decide +kernel)
theorem jw_24 : (Jvm.Cond.classLink "StreamIds" (9 : Nat) "StreamIds$Text") ∈ zzW := jw_of (i := 24) (by decide +kernel) (by decide +kernel)
theorem jw_25 : (Jvm.Cond.instantiable "StreamIds$Text" (2 : Nat)) ∈ zzW := jw_of (i := 25) (by decide +kernel) (by decide +kernel)
theorem jw_27 : (Jvm.Cond.instanceMethod ({ cls := "StreamIds$Text", name := "<init>", desc := "()V" } : Jvm.MethodName)) ∈ zzW := jw_of (i := 27) (by decide +kernel) (by decide +kernel)
theorem jw_28 : (Jvm.Cond.code ({ cls := "StreamIds$Text", name := "<init>", desc := "()V" } : Jvm.MethodName) prog_8_method_1_code (1 : Nat) (Option.none : Option Jvm.ClassFile.FieldType)) ∈ zzW := jw_of (i := 28) (by decide +kernel) (by decide +kernel)
theorem jw_29 : (Jvm.Cond.methodLink "StreamIds$Text" (3 : Nat) ({ cls := "java/lang/Object", name := "<init>", desc := "()V" } : Jvm.MethodName)) ∈ zzW := jw_of (i := 29) (by decide +kernel) (by decide +kernel)
theorem jw_30 : (Jvm.Cond.fieldLink "StreamIds$Text" (9 : Nat) "StreamIds$Text" "signs" "[B") ∈ zzW := jw_of (i := 30) (by decide +kernel) (by decide +kernel)
theorem jw_31 : (Jvm.Cond.fieldLink "StreamIds$Text" (15 : Nat) "StreamIds$Text" "length" "I") ∈ zzW := jw_of (i := 31) (by decide +kernel) (by decide +kernel)
theorem jw_35 : (Jvm.Cond.laysFinal "StreamIds$Text" "StreamIds$Text" "signs" "[B") ∈ zzW := jw_of (i := 35) (by decide +kernel) (by decide +kernel)
theorem jw_37 : (Jvm.Cond.lays "StreamIds$Text" "StreamIds$Text" "length" "I") ∈ zzW := jw_of (i := 37) (by decide +kernel) (by decide +kernel)
theorem jw_40 : (Jvm.Cond.arrayClass Jvm.ClassFile.FieldType.byte) ∈ zzW := jw_of (i := 40) (by decide +kernel) (by decide +kernel)
theorem jw_41 : (Jvm.Cond.classLink "StreamIds" (19 : Nat) "StreamIds$Declaration") ∈ zzW := jw_of (i := 41) (by decide +kernel) (by decide +kernel)
theorem jw_43 : (Jvm.Cond.classLink "StreamIds" (25 : Nat) "StreamIds$Layout") ∈ zzW := jw_of (i := 43) (by decide +kernel) (by decide +kernel)
theorem jw_44 : (Jvm.Cond.instantiable "StreamIds$Layout" (3 : Nat)) ∈ zzW := jw_of (i := 44) (by decide +kernel) (by decide +kernel)
theorem jw_46 : (Jvm.Cond.instanceMethod ({ cls := "StreamIds$Layout", name := "<init>", desc := "()V" } : Jvm.MethodName)) ∈ zzW := jw_of (i := 46) (by decide +kernel) (by decide +kernel)
theorem jw_47 : (Jvm.Cond.code ({ cls := "StreamIds$Layout", name := "<init>", desc := "()V" } : Jvm.MethodName) prog_5_method_1_code (1 : Nat) (Option.none : Option Jvm.ClassFile.FieldType)) ∈ zzW := jw_of (i := 47) (by decide +kernel) (by decide +kernel)
theorem jw_48 : (Jvm.Cond.methodLink "StreamIds$Layout" (3 : Nat) ({ cls := "java/lang/Object", name := "<init>", desc := "()V" } : Jvm.MethodName)) ∈ zzW := jw_of (i := 48) (by decide +kernel) (by decide +kernel)
theorem jw_49 : (Jvm.Cond.fieldLink "StreamIds$Layout" (9 : Nat) "StreamIds$Layout" "bytes" "[B") ∈ zzW := jw_of (i := 49) (by decide +kernel) (by decide +kernel)
theorem jw_50 : (Jvm.Cond.fieldLink "StreamIds$Layout" (15 : Nat) "StreamIds$Layout" "length" "I") ∈ zzW := jw_of (i := 50) (by decide +kernel) (by decide +kernel)
theorem jw_53 : (Jvm.Cond.fieldLink "StreamIds$Layout" (19 : Nat) "StreamIds$Layout" "begins" "[I") ∈ zzW := jw_of (i := 53) (by decide +kernel) (by decide +kernel)
theorem jw_55 : (Jvm.Cond.laysFinal "StreamIds$Layout" "StreamIds$Layout" "bytes" "[B") ∈ zzW := jw_of (i := 55) (by decide +kernel) (by decide +kernel)
theorem jw_57 : (Jvm.Cond.lays "StreamIds$Layout" "StreamIds$Layout" "length" "I") ∈ zzW := jw_of (i := 57) (by decide +kernel) (by decide +kernel)
theorem jw_59 : (Jvm.Cond.laysFinal "StreamIds$Layout" "StreamIds$Layout" "begins" "[I") ∈ zzW := jw_of (i := 59) (by decide +kernel) (by decide +kernel)
theorem jw_62 : (Jvm.Cond.arrayClass Jvm.ClassFile.FieldType.int) ∈ zzW := jw_of (i := 62) (by decide +kernel) (by decide +kernel)
theorem jw_63 : (Jvm.Cond.classLink "StreamIds" (32 : Nat) "StreamIds$Digest") ∈ zzW := jw_of (i := 63) (by decide +kernel) (by decide +kernel)
theorem jw_64 : (Jvm.Cond.instantiable "StreamIds$Digest" (2 : Nat)) ∈ zzW := jw_of (i := 64) (by decide +kernel) (by decide +kernel)
theorem jw_66 : (Jvm.Cond.instanceMethod ({ cls := "StreamIds$Digest", name := "<init>", desc := "()V" } : Jvm.MethodName)) ∈ zzW := jw_of (i := 66) (by decide +kernel) (by decide +kernel)
theorem jw_67 : (Jvm.Cond.code ({ cls := "StreamIds$Digest", name := "<init>", desc := "()V" } : Jvm.MethodName) prog_3_method_1_code (1 : Nat) (Option.none : Option Jvm.ClassFile.FieldType)) ∈ zzW := jw_of (i := 67) (by decide +kernel) (by decide +kernel)
theorem jw_68 : (Jvm.Cond.methodLink "StreamIds$Digest" (3 : Nat) ({ cls := "java/lang/Object", name := "<init>", desc := "()V" } : Jvm.MethodName)) ∈ zzW := jw_of (i := 68) (by decide +kernel) (by decide +kernel)
theorem jw_69 : (Jvm.Cond.fieldLink "StreamIds$Digest" (9 : Nat) "StreamIds$Digest" "numbers" "[I") ∈ zzW := jw_of (i := 69) (by decide +kernel) (by decide +kernel)
theorem jw_71 : (Jvm.Cond.fieldLink "StreamIds$Digest" (15 : Nat) "StreamIds$Digest" "words" "[I") ∈ zzW := jw_of (i := 71) (by decide +kernel) (by decide +kernel)
theorem jw_72 : (Jvm.Cond.laysFinal "StreamIds$Digest" "StreamIds$Digest" "numbers" "[I") ∈ zzW := jw_of (i := 72) (by decide +kernel) (by decide +kernel)
theorem jw_74 : (Jvm.Cond.laysFinal "StreamIds$Digest" "StreamIds$Digest" "words" "[I") ∈ zzW := jw_of (i := 74) (by decide +kernel) (by decide +kernel)
theorem jw_77 : (Jvm.Cond.instantiable "StreamIds$Declaration" (7 : Nat)) ∈ zzW := jw_of (i := 77) (by decide +kernel) (by decide +kernel)
theorem jw_79 : (Jvm.Cond.instanceMethod ({ cls := "StreamIds$Declaration", name := "<init>", desc := "()V" } : Jvm.MethodName)) ∈ zzW := jw_of (i := 79) (by decide +kernel) (by decide +kernel)
theorem jw_80 : (Jvm.Cond.code ({ cls := "StreamIds$Declaration", name := "<init>", desc := "()V" } : Jvm.MethodName) prog_2_method_1_code (1 : Nat) (Option.none : Option Jvm.ClassFile.FieldType)) ∈ zzW := jw_of (i := 80) (by decide +kernel) (by decide +kernel)
theorem jw_81 : (Jvm.Cond.methodLink "StreamIds$Declaration" (3 : Nat) ({ cls := "java/lang/Object", name := "<init>", desc := "()V" } : Jvm.MethodName)) ∈ zzW := jw_of (i := 81) (by decide +kernel) (by decide +kernel)
theorem jw_82 : (Jvm.Cond.classLink "StreamIds$Declaration" (15 : Nat) "StreamIds$Text") ∈ zzW := jw_of (i := 82) (by decide +kernel) (by decide +kernel)
theorem jw_84 : (Jvm.Cond.classLink "StreamIds$Declaration" (26 : Nat) "StreamIds$Row") ∈ zzW := jw_of (i := 84) (by decide +kernel) (by decide +kernel)
theorem jw_85 : (Jvm.Cond.instantiable "StreamIds$Row" (2 : Nat)) ∈ zzW := jw_of (i := 85) (by decide +kernel) (by decide +kernel)
theorem jw_86 : (Jvm.Cond.methodLink "StreamIds$Declaration" (28 : Nat) ({ cls := "StreamIds$Row", name := "<init>", desc := "(I)V" } : Jvm.MethodName)) ∈ zzW := jw_of (i := 86) (by decide +kernel) (by decide +kernel)
theorem jw_87 : (Jvm.Cond.instanceMethod ({ cls := "StreamIds$Row", name := "<init>", desc := "(I)V" } : Jvm.MethodName)) ∈ zzW := jw_of (i := 87) (by decide +kernel) (by decide +kernel)
theorem jw_88 : (Jvm.Cond.code ({ cls := "StreamIds$Row", name := "<init>", desc := "(I)V" } : Jvm.MethodName) prog_6_method_1_code (3 : Nat) (Option.none : Option Jvm.ClassFile.FieldType)) ∈ zzW := jw_of (i := 88) (by decide +kernel) (by decide +kernel)
theorem jw_89 : (Jvm.Cond.methodLink "StreamIds$Row" (3 : Nat) ({ cls := "java/lang/Object", name := "<init>", desc := "()V" } : Jvm.MethodName)) ∈ zzW := jw_of (i := 89) (by decide +kernel) (by decide +kernel)
theorem jw_90 : (Jvm.Cond.classLink "StreamIds$Row" (15 : Nat) "StreamIds$Entry") ∈ zzW := jw_of (i := 90) (by decide +kernel) (by decide +kernel)
theorem jw_92 : (Jvm.Cond.instantiable "StreamIds$Entry" (4 : Nat)) ∈ zzW := jw_of (i := 92) (by decide +kernel) (by decide +kernel)
theorem jw_94 : (Jvm.Cond.instanceMethod ({ cls := "StreamIds$Entry", name := "<init>", desc := "()V" } : Jvm.MethodName)) ∈ zzW := jw_of (i := 94) (by decide +kernel) (by decide +kernel)
theorem jw_95 : (Jvm.Cond.code ({ cls := "StreamIds$Entry", name := "<init>", desc := "()V" } : Jvm.MethodName) prog_4_method_1_code (1 : Nat) (Option.none : Option Jvm.ClassFile.FieldType)) ∈ zzW := jw_of (i := 95) (by decide +kernel) (by decide +kernel)
theorem jw_96 : (Jvm.Cond.methodLink "StreamIds$Entry" (3 : Nat) ({ cls := "java/lang/Object", name := "<init>", desc := "()V" } : Jvm.MethodName)) ∈ zzW := jw_of (i := 96) (by decide +kernel) (by decide +kernel)
theorem jw_97 : (Jvm.Cond.classLink "StreamIds$Entry" (18 : Nat) "StreamIds$Text") ∈ zzW := jw_of (i := 97) (by decide +kernel) (by decide +kernel)
theorem jw_99 : (Jvm.Cond.fieldLink "StreamIds$Entry" (9 : Nat) "StreamIds$Entry" "kind" "I") ∈ zzW := jw_of (i := 99) (by decide +kernel) (by decide +kernel)
theorem jw_102 : (Jvm.Cond.fieldLink "StreamIds$Entry" (15 : Nat) "StreamIds$Entry" "modifiers" "I") ∈ zzW := jw_of (i := 102) (by decide +kernel) (by decide +kernel)
theorem jw_104 : (Jvm.Cond.fieldLink "StreamIds$Entry" (21 : Nat) "StreamIds$Entry" "name" "LStreamIds$Text;") ∈ zzW := jw_of (i := 104) (by decide +kernel) (by decide +kernel)
theorem jw_106 : (Jvm.Cond.fieldLink "StreamIds$Entry" (25 : Nat) "StreamIds$Entry" "shape" "LStreamIds$Text;") ∈ zzW := jw_of (i := 106) (by decide +kernel) (by decide +kernel)
theorem jw_108 : (Jvm.Cond.lays "StreamIds$Entry" "StreamIds$Entry" "kind" "I") ∈ zzW := jw_of (i := 108) (by decide +kernel) (by decide +kernel)
theorem jw_110 : (Jvm.Cond.lays "StreamIds$Entry" "StreamIds$Entry" "modifiers" "I") ∈ zzW := jw_of (i := 110) (by decide +kernel) (by decide +kernel)
theorem jw_112 : (Jvm.Cond.laysFinal "StreamIds$Entry" "StreamIds$Entry" "name" "LStreamIds$Text;") ∈ zzW := jw_of (i := 112) (by decide +kernel) (by decide +kernel)
theorem jw_114 : (Jvm.Cond.laysFinal "StreamIds$Entry" "StreamIds$Entry" "shape" "LStreamIds$Text;") ∈ zzW := jw_of (i := 114) (by decide +kernel) (by decide +kernel)
theorem jw_117 : (Jvm.Cond.fieldLink "StreamIds$Row" (17 : Nat) "StreamIds$Row" "entries" "[LStreamIds$Entry;") ∈ zzW := jw_of (i := 117) (by decide +kernel) (by decide +kernel)
theorem jw_119 : (Jvm.Cond.fieldLink "StreamIds$Row" (9 : Nat) "StreamIds$Row" "used" "I") ∈ zzW := jw_of (i := 119) (by decide +kernel) (by decide +kernel)
theorem jw_123 : (Jvm.Cond.laysFinal "StreamIds$Row" "StreamIds$Row" "entries" "[LStreamIds$Entry;") ∈ zzW := jw_of (i := 123) (by decide +kernel) (by decide +kernel)
theorem jw_125 : (Jvm.Cond.lays "StreamIds$Row" "StreamIds$Row" "used" "I") ∈ zzW := jw_of (i := 125) (by decide +kernel) (by decide +kernel)
theorem jw_128 : (Jvm.Cond.fieldLink "StreamIds$Declaration" (9 : Nat) "StreamIds$Declaration" "isThere" "Z") ∈ zzW := jw_of (i := 128) (by decide +kernel) (by decide +kernel)
theorem jw_130 : (Jvm.Cond.fieldLink "StreamIds$Declaration" (18 : Nat) "StreamIds$Declaration" "name" "LStreamIds$Text;") ∈ zzW := jw_of (i := 130) (by decide +kernel) (by decide +kernel)
theorem jw_132 : (Jvm.Cond.fieldLink "StreamIds$Declaration" (22 : Nat) "StreamIds$Declaration" "modifiers" "I") ∈ zzW := jw_of (i := 132) (by decide +kernel) (by decide +kernel)
theorem jw_134 : (Jvm.Cond.fieldLink "StreamIds$Declaration" (31 : Nat) "StreamIds$Declaration" "faces" "LStreamIds$Row;") ∈ zzW := jw_of (i := 134) (by decide +kernel) (by decide +kernel)
theorem jw_137 : (Jvm.Cond.fieldLink "StreamIds$Declaration" (35 : Nat) "StreamIds$Declaration" "members" "LStreamIds$Row;") ∈ zzW := jw_of (i := 137) (by decide +kernel) (by decide +kernel)
theorem jw_140 : (Jvm.Cond.fieldLink "StreamIds$Declaration" (38 : Nat) "StreamIds$Declaration" "hasOwnId" "Z") ∈ zzW := jw_of (i := 140) (by decide +kernel) (by decide +kernel)
theorem jw_142 : (Jvm.Cond.fieldLink "StreamIds$Declaration" (41 : Nat) "StreamIds$Declaration" "ownId" "J") ∈ zzW := jw_of (i := 142) (by decide +kernel) (by decide +kernel)
theorem jw_144 : (Jvm.Cond.lays "StreamIds$Declaration" "StreamIds$Declaration" "isThere" "Z") ∈ zzW := jw_of (i := 144) (by decide +kernel) (by decide +kernel)
theorem jw_146 : (Jvm.Cond.laysFinal "StreamIds$Declaration" "StreamIds$Declaration" "name" "LStreamIds$Text;") ∈ zzW := jw_of (i := 146) (by decide +kernel) (by decide +kernel)
theorem jw_148 : (Jvm.Cond.lays "StreamIds$Declaration" "StreamIds$Declaration" "modifiers" "I") ∈ zzW := jw_of (i := 148) (by decide +kernel) (by decide +kernel)
theorem jw_150 : (Jvm.Cond.laysFinal "StreamIds$Declaration" "StreamIds$Declaration" "faces" "LStreamIds$Row;") ∈ zzW := jw_of (i := 150) (by decide +kernel) (by decide +kernel)
theorem jw_152 : (Jvm.Cond.laysFinal "StreamIds$Declaration" "StreamIds$Declaration" "members" "LStreamIds$Row;") ∈ zzW := jw_of (i := 152) (by decide +kernel) (by decide +kernel)
theorem jw_154 : (Jvm.Cond.lays "StreamIds$Declaration" "StreamIds$Declaration" "hasOwnId" "Z") ∈ zzW := jw_of (i := 154) (by decide +kernel) (by decide +kernel)
theorem jw_156 : (Jvm.Cond.lays "StreamIds$Declaration" "StreamIds$Declaration" "ownId" "J") ∈ zzW := jw_of (i := 156) (by decide +kernel) (by decide +kernel)
theorem jw_159 : (Jvm.Cond.fieldLink "StreamIds" (12 : Nat) "StreamIds" "name" "LStreamIds$Text;") ∈ zzW := jw_of (i := 159) (by decide +kernel) (by decide +kernel)
theorem jw_160 : (Jvm.Cond.fieldLink "StreamIds" (16 : Nat) "StreamIds" "shape" "LStreamIds$Text;") ∈ zzW := jw_of (i := 160) (by decide +kernel) (by decide +kernel)
theorem jw_161 : (Jvm.Cond.fieldLink "StreamIds" (21 : Nat) "StreamIds" "declarations" "[LStreamIds$Declaration;") ∈ zzW := jw_of (i := 161) (by decide +kernel) (by decide +kernel)
theorem jw_162 : (Jvm.Cond.fieldLink "StreamIds" (28 : Nat) "StreamIds" "layout" "LStreamIds$Layout;") ∈ zzW := jw_of (i := 162) (by decide +kernel) (by decide +kernel)
theorem jw_163 : (Jvm.Cond.fieldLink "StreamIds" (35 : Nat) "StreamIds" "digest" "LStreamIds$Digest;") ∈ zzW := jw_of (i := 163) (by decide +kernel) (by decide +kernel)
theorem jw_164 : (Jvm.Cond.laysFinal "StreamIds" "StreamIds" "name" "LStreamIds$Text;") ∈ zzW := jw_of (i := 164) (by decide +kernel) (by decide +kernel)
theorem jw_166 : (Jvm.Cond.laysFinal "StreamIds" "StreamIds" "shape" "LStreamIds$Text;") ∈ zzW := jw_of (i := 166) (by decide +kernel) (by decide +kernel)
theorem jw_168 : (Jvm.Cond.laysFinal "StreamIds" "StreamIds" "declarations" "[LStreamIds$Declaration;") ∈ zzW := jw_of (i := 168) (by decide +kernel) (by decide +kernel)
theorem jw_170 : (Jvm.Cond.laysFinal "StreamIds" "StreamIds" "layout" "LStreamIds$Layout;") ∈ zzW := jw_of (i := 170) (by decide +kernel) (by decide +kernel)
theorem jw_172 : (Jvm.Cond.laysFinal "StreamIds" "StreamIds" "digest" "LStreamIds$Digest;") ∈ zzW := jw_of (i := 172) (by decide +kernel) (by decide +kernel)
theorem jw_175 : (Jvm.Cond.methodLink "StreamIdsLaw" (15 : Nat) ({ cls := "StreamIds", name := "type", desc := "(IJ)I" } : Jvm.MethodName)) ∈ zzW := jw_of (i := 175) (by decide +kernel) (by decide +kernel)
theorem jw_176 : (Jvm.Cond.instanceMethod ({ cls := "StreamIds", name := "type", desc := "(IJ)I" } : Jvm.MethodName)) ∈ zzW := jw_of (i := 176) (by decide +kernel) (by decide +kernel)
theorem jw_177 : (Jvm.Cond.selects "StreamIds" ({ cls := "StreamIds", name := "type", desc := "(IJ)I" } : Jvm.MethodName) ({ cls := "StreamIds", name := "type", desc := "(IJ)I" } : Jvm.MethodName)) ∈ zzW := jw_of (i := 177) (by decide +kernel) (by decide +kernel)
theorem jw_178 : (Jvm.Cond.code ({ cls := "StreamIds", name := "type", desc := "(IJ)I" } : Jvm.MethodName) prog_1_method_2_code (7 : Nat) (Option.some Jvm.ClassFile.FieldType.int)) ∈ zzW := jw_of (i := 178) (by decide +kernel) (by decide +kernel)
theorem jw_179 : (Jvm.Cond.methodLink "StreamIds" (40 : Nat) ({ cls := "StreamIds", name := "bufferOf", desc := "(I)LStreamIds$Text;" } : Jvm.MethodName)) ∈ zzW := jw_of (i := 179) (by decide +kernel) (by decide +kernel)
theorem jw_181 : (Jvm.Cond.instanceMethod ({ cls := "StreamIds", name := "bufferOf", desc := "(I)LStreamIds$Text;" } : Jvm.MethodName)) ∈ zzW := jw_of (i := 181) (by decide +kernel) (by decide +kernel)
theorem jw_182 : (Jvm.Cond.code ({ cls := "StreamIds", name := "bufferOf", desc := "(I)LStreamIds$Text;" } : Jvm.MethodName) prog_1_method_15_code (2 : Nat) (Option.some (Jvm.ClassFile.FieldType.object "StreamIds$Text"))) ∈ zzW := jw_of (i := 182) (by decide +kernel) (by decide +kernel)
theorem jw_183 : (Jvm.Cond.methodLink "StreamIds" (44 : Nat) ({ cls := "StreamIds", name := "areSigns", desc := "(J)Z" } : Jvm.MethodName)) ∈ zzW := jw_of (i := 183) (by decide +kernel) (by decide +kernel)
theorem jw_184 : (Jvm.Cond.static ({ cls := "StreamIds", name := "areSigns", desc := "(J)Z" } : Jvm.MethodName)) ∈ zzW := jw_of (i := 184) (by decide +kernel) (by decide +kernel)
theorem jw_185 : (Jvm.Cond.code ({ cls := "StreamIds", name := "areSigns", desc := "(J)Z" } : Jvm.MethodName) prog_1_method_21_code (4 : Nat) (Option.some Jvm.ClassFile.FieldType.boolean)) ∈ zzW := jw_of (i := 185) (by decide +kernel) (by decide +kernel)
theorem jw_186 : (Jvm.Cond.methodLink "StreamIds" (56 : Nat) ({ cls := "StreamIds", name := "byteOf", desc := "(JI)I" } : Jvm.MethodName)) ∈ zzW := jw_of (i := 186) (by decide +kernel) (by decide +kernel)
theorem jw_187 : (Jvm.Cond.static ({ cls := "StreamIds", name := "byteOf", desc := "(JI)I" } : Jvm.MethodName)) ∈ zzW := jw_of (i := 187) (by decide +kernel) (by decide +kernel)
theorem jw_188 : (Jvm.Cond.code ({ cls := "StreamIds", name := "byteOf", desc := "(JI)I" } : Jvm.MethodName) prog_1_method_20_code (3 : Nat) (Option.some Jvm.ClassFile.FieldType.int)) ∈ zzW := jw_of (i := 188) (by decide +kernel) (by decide +kernel)
theorem jw_189 : (Jvm.Cond.methodLink "StreamIds" (52 : Nat) ({ cls := "StreamIds", name := "signsIn", desc := "(J)I" } : Jvm.MethodName)) ∈ zzW := jw_of (i := 189) (by decide +kernel) (by decide +kernel)
theorem jw_190 : (Jvm.Cond.static ({ cls := "StreamIds", name := "signsIn", desc := "(J)I" } : Jvm.MethodName)) ∈ zzW := jw_of (i := 190) (by decide +kernel) (by decide +kernel)
theorem jw_191 : (Jvm.Cond.code ({ cls := "StreamIds", name := "signsIn", desc := "(J)I" } : Jvm.MethodName) prog_1_method_22_code (4 : Nat) (Option.some Jvm.ClassFile.FieldType.int)) ∈ zzW := jw_of (i := 191) (by decide +kernel) (by decide +kernel)
theorem jw_192 : (Jvm.Cond.methodLink "StreamIds" (60 : Nat) ({ cls := "StreamIds$Text", name := "append", desc := "(I)V" } : Jvm.MethodName)) ∈ zzW := jw_of (i := 192) (by decide +kernel) (by decide +kernel)
theorem jw_193 : (Jvm.Cond.instanceMethod ({ cls := "StreamIds$Text", name := "append", desc := "(I)V" } : Jvm.MethodName)) ∈ zzW := jw_of (i := 193) (by decide +kernel) (by decide +kernel)
theorem jw_194 : (Jvm.Cond.selects "StreamIds$Text" ({ cls := "StreamIds$Text", name := "append", desc := "(I)V" } : Jvm.MethodName) ({ cls := "StreamIds$Text", name := "append", desc := "(I)V" } : Jvm.MethodName)) ∈ zzW := jw_of (i := 194) (by decide +kernel) (by decide +kernel)
theorem jw_195 : (Jvm.Cond.code ({ cls := "StreamIds$Text", name := "append", desc := "(I)V" } : Jvm.MethodName) prog_8_method_3_code (2 : Nat) (Option.none : Option Jvm.ClassFile.FieldType)) ∈ zzW := jw_of (i := 195) (by decide +kernel) (by decide +kernel)
theorem jw_196 : (Jvm.Cond.methodLink "StreamIdsLaw" (20 : Nat) ({ cls := "StreamIds", name := "clear", desc := "(I)I" } : Jvm.MethodName)) ∈ zzW := jw_of (i := 196) (by decide +kernel) (by decide +kernel)
theorem jw_197 : (Jvm.Cond.instanceMethod ({ cls := "StreamIds", name := "clear", desc := "(I)I" } : Jvm.MethodName)) ∈ zzW := jw_of (i := 197) (by decide +kernel) (by decide +kernel)
theorem jw_198 : (Jvm.Cond.selects "StreamIds" ({ cls := "StreamIds", name := "clear", desc := "(I)I" } : Jvm.MethodName) ({ cls := "StreamIds", name := "clear", desc := "(I)I" } : Jvm.MethodName)) ∈ zzW := jw_of (i := 198) (by decide +kernel) (by decide +kernel)
theorem jw_199 : (Jvm.Cond.code ({ cls := "StreamIds", name := "clear", desc := "(I)I" } : Jvm.MethodName) prog_1_method_3_code (4 : Nat) (Option.some Jvm.ClassFile.FieldType.int)) ∈ zzW := jw_of (i := 199) (by decide +kernel) (by decide +kernel)
theorem jw_200 : (Jvm.Cond.methodLink "StreamIdsLaw" (25 : Nat) ({ cls := "StreamIds", name := "define", desc := "(II)I" } : Jvm.MethodName)) ∈ zzW := jw_of (i := 200) (by decide +kernel) (by decide +kernel)
theorem jw_201 : (Jvm.Cond.instanceMethod ({ cls := "StreamIds", name := "define", desc := "(II)I" } : Jvm.MethodName)) ∈ zzW := jw_of (i := 201) (by decide +kernel) (by decide +kernel)
theorem jw_202 : (Jvm.Cond.selects "StreamIds" ({ cls := "StreamIds", name := "define", desc := "(II)I" } : Jvm.MethodName) ({ cls := "StreamIds", name := "define", desc := "(II)I" } : Jvm.MethodName)) ∈ zzW := jw_of (i := 202) (by decide +kernel) (by decide +kernel)
theorem jw_203 : (Jvm.Cond.code ({ cls := "StreamIds", name := "define", desc := "(II)I" } : Jvm.MethodName) prog_1_method_4_code (3 : Nat) (Option.some Jvm.ClassFile.FieldType.int)) ∈ zzW := jw_of (i := 203) (by decide +kernel) (by decide +kernel)
theorem jw_204 : (Jvm.Cond.constant "StreamIds" (64 : Nat) (65535 : Int32)) ∈ zzW := jw_of (i := 204) (by decide +kernel) (by decide +kernel)
theorem jw_205 : (Jvm.Cond.methodLink "StreamIds" (65 : Nat) ({ cls := "StreamIds$Declaration", name := "begin", desc := "(LStreamIds$Text;I)V" } : Jvm.MethodName)) ∈ zzW := jw_of (i := 205) (by decide +kernel) (by decide +kernel)
theorem jw_206 : (Jvm.Cond.instanceMethod ({ cls := "StreamIds$Declaration", name := "begin", desc := "(LStreamIds$Text;I)V" } : Jvm.MethodName)) ∈ zzW := jw_of (i := 206) (by decide +kernel) (by decide +kernel)
theorem jw_207 : (Jvm.Cond.selects "StreamIds$Declaration" ({ cls := "StreamIds$Declaration", name := "begin", desc := "(LStreamIds$Text;I)V" } : Jvm.MethodName) ({ cls := "StreamIds$Declaration", name := "begin", desc := "(LStreamIds$Text;I)V" } : Jvm.MethodName)) ∈ zzW := jw_of (i := 207) (by decide +kernel) (by decide +kernel)
theorem jw_208 : (Jvm.Cond.code ({ cls := "StreamIds$Declaration", name := "begin", desc := "(LStreamIds$Text;I)V" } : Jvm.MethodName) prog_2_method_2_code (3 : Nat) (Option.none : Option Jvm.ClassFile.FieldType)) ∈ zzW := jw_of (i := 208) (by decide +kernel) (by decide +kernel)
theorem jw_209 : (Jvm.Cond.methodLink "StreamIds$Declaration" (45 : Nat) ({ cls := "StreamIds$Text", name := "become", desc := "(LStreamIds$Text;)V" } : Jvm.MethodName)) ∈ zzW := jw_of (i := 209) (by decide +kernel) (by decide +kernel)
theorem jw_210 : (Jvm.Cond.instanceMethod ({ cls := "StreamIds$Text", name := "become", desc := "(LStreamIds$Text;)V" } : Jvm.MethodName)) ∈ zzW := jw_of (i := 210) (by decide +kernel) (by decide +kernel)
theorem jw_211 : (Jvm.Cond.selects "StreamIds$Text" ({ cls := "StreamIds$Text", name := "become", desc := "(LStreamIds$Text;)V" } : Jvm.MethodName) ({ cls := "StreamIds$Text", name := "become", desc := "(LStreamIds$Text;)V" } : Jvm.MethodName)) ∈ zzW := jw_of (i := 211) (by decide +kernel) (by decide +kernel)
theorem jw_212 : (Jvm.Cond.code ({ cls := "StreamIds$Text", name := "become", desc := "(LStreamIds$Text;)V" } : Jvm.MethodName) prog_8_method_4_code (2 : Nat) (Option.none : Option Jvm.ClassFile.FieldType)) ∈ zzW := jw_of (i := 212) (by decide +kernel) (by decide +kernel)
theorem jw_213 : (Jvm.Cond.methodLink "StreamIds$Text" (19 : Nat) ({ cls := "java/lang/System", name := "arraycopy", desc := "(Ljava/lang/Object;ILjava/lang/Object;II)V" } : Jvm.MethodName)) ∈ zzW := jw_of (i := 213) (by decide +kernel) (by decide +kernel)
theorem jw_214 : (Jvm.Cond.static ({ cls := "java/lang/System", name := "arraycopy", desc := "(Ljava/lang/Object;ILjava/lang/Object;II)V" } : Jvm.MethodName)) ∈ zzW := jw_of (i := 214) (by decide +kernel) (by decide +kernel)
theorem jw_215 : (Jvm.Cond.native ({ cls := "java/lang/System", name := "arraycopy", desc := "(Ljava/lang/Object;ILjava/lang/Object;II)V" } : Jvm.MethodName)) ∈ zzW := jw_of (i := 215) (by decide +kernel) (by decide +kernel)
theorem jw_216 : (Jvm.Cond.methodLink "StreamIdsLaw" (30 : Nat) ({ cls := "StreamIds", name := "face", desc := "(I)I" } : Jvm.MethodName)) ∈ zzW := jw_of (i := 216) (by decide +kernel) (by decide +kernel)
theorem jw_217 : (Jvm.Cond.instanceMethod ({ cls := "StreamIds", name := "face", desc := "(I)I" } : Jvm.MethodName)) ∈ zzW := jw_of (i := 217) (by decide +kernel) (by decide +kernel)
theorem jw_218 : (Jvm.Cond.selects "StreamIds" ({ cls := "StreamIds", name := "face", desc := "(I)I" } : Jvm.MethodName) ({ cls := "StreamIds", name := "face", desc := "(I)I" } : Jvm.MethodName)) ∈ zzW := jw_of (i := 218) (by decide +kernel) (by decide +kernel)
theorem jw_219 : (Jvm.Cond.code ({ cls := "StreamIds", name := "face", desc := "(I)I" } : Jvm.MethodName) prog_1_method_5_code (3 : Nat) (Option.some Jvm.ClassFile.FieldType.int)) ∈ zzW := jw_of (i := 219) (by decide +kernel) (by decide +kernel)
theorem jw_220 : (Jvm.Cond.methodLink "StreamIds" (69 : Nat) ({ cls := "StreamIds", name := "declarationOf", desc := "(I)LStreamIds$Declaration;" } : Jvm.MethodName)) ∈ zzW := jw_of (i := 220) (by decide +kernel) (by decide +kernel)
theorem jw_222 : (Jvm.Cond.instanceMethod ({ cls := "StreamIds", name := "declarationOf", desc := "(I)LStreamIds$Declaration;" } : Jvm.MethodName)) ∈ zzW := jw_of (i := 222) (by decide +kernel) (by decide +kernel)
theorem jw_223 : (Jvm.Cond.code ({ cls := "StreamIds", name := "declarationOf", desc := "(I)LStreamIds$Declaration;" } : Jvm.MethodName) prog_1_method_16_code (2 : Nat) (Option.some (Jvm.ClassFile.FieldType.object "StreamIds$Declaration"))) ∈ zzW := jw_of (i := 223) (by decide +kernel) (by decide +kernel)
theorem jw_224 : (Jvm.Cond.methodLink "StreamIds" (77 : Nat) ({ cls := "StreamIds$Row", name := "enter", desc := "(IILStreamIds$Text;LStreamIds$Text;)I" } : Jvm.MethodName)) ∈ zzW := jw_of (i := 224) (by decide +kernel) (by decide +kernel)
theorem jw_225 : (Jvm.Cond.instanceMethod ({ cls := "StreamIds$Row", name := "enter", desc := "(IILStreamIds$Text;LStreamIds$Text;)I" } : Jvm.MethodName)) ∈ zzW := jw_of (i := 225) (by decide +kernel) (by decide +kernel)
theorem jw_226 : (Jvm.Cond.selects "StreamIds$Row" ({ cls := "StreamIds$Row", name := "enter", desc := "(IILStreamIds$Text;LStreamIds$Text;)I" } : Jvm.MethodName) ({ cls := "StreamIds$Row", name := "enter", desc := "(IILStreamIds$Text;LStreamIds$Text;)I" } : Jvm.MethodName)) ∈ zzW := jw_of (i := 226) (by decide +kernel) (by decide +kernel)
theorem jw_227 : (Jvm.Cond.code ({ cls := "StreamIds$Row", name := "enter", desc := "(IILStreamIds$Text;LStreamIds$Text;)I" } : Jvm.MethodName) prog_6_method_2_code (8 : Nat) (Option.some Jvm.ClassFile.FieldType.int)) ∈ zzW := jw_of (i := 227) (by decide +kernel) (by decide +kernel)
theorem jw_228 : (Jvm.Cond.methodLink "StreamIds$Row" (22 : Nat) ({ cls := "StreamIds$Row", name := "placeOf", desc := "(ILStreamIds$Text;LStreamIds$Text;)I" } : Jvm.MethodName)) ∈ zzW := jw_of (i := 228) (by decide +kernel) (by decide +kernel)
theorem jw_230 : (Jvm.Cond.instanceMethod ({ cls := "StreamIds$Row", name := "placeOf", desc := "(ILStreamIds$Text;LStreamIds$Text;)I" } : Jvm.MethodName)) ∈ zzW := jw_of (i := 230) (by decide +kernel) (by decide +kernel)
theorem jw_231 : (Jvm.Cond.code ({ cls := "StreamIds$Row", name := "placeOf", desc := "(ILStreamIds$Text;LStreamIds$Text;)I" } : Jvm.MethodName) prog_6_method_5_code (5 : Nat) (Option.some Jvm.ClassFile.FieldType.int)) ∈ zzW := jw_of (i := 231) (by decide +kernel) (by decide +kernel)
theorem jw_232 : (Jvm.Cond.methodLink "StreamIds$Row" (37 : Nat) ({ cls := "StreamIds$Entry", name := "compareWith", desc := "(ILStreamIds$Text;LStreamIds$Text;)I" } : Jvm.MethodName)) ∈ zzW := jw_of (i := 232) (by decide +kernel) (by decide +kernel)
theorem jw_233 : (Jvm.Cond.instanceMethod ({ cls := "StreamIds$Entry", name := "compareWith", desc := "(ILStreamIds$Text;LStreamIds$Text;)I" } : Jvm.MethodName)) ∈ zzW := jw_of (i := 233) (by decide +kernel) (by decide +kernel)
theorem jw_234 : (Jvm.Cond.selects "StreamIds$Entry" ({ cls := "StreamIds$Entry", name := "compareWith", desc := "(ILStreamIds$Text;LStreamIds$Text;)I" } : Jvm.MethodName) ({ cls := "StreamIds$Entry", name := "compareWith", desc := "(ILStreamIds$Text;LStreamIds$Text;)I" } : Jvm.MethodName)) ∈ zzW := jw_of (i := 234) (by decide +kernel) (by decide +kernel)
theorem jw_235 : (Jvm.Cond.code ({ cls := "StreamIds$Entry", name := "compareWith", desc := "(ILStreamIds$Text;LStreamIds$Text;)I" } : Jvm.MethodName) prog_4_method_3_code (5 : Nat) (Option.some Jvm.ClassFile.FieldType.int)) ∈ zzW := jw_of (i := 235) (by decide +kernel) (by decide +kernel)
theorem jw_236 : (Jvm.Cond.methodLink "StreamIds$Entry" (32 : Nat) ({ cls := "StreamIds$Text", name := "compareWith", desc := "(LStreamIds$Text;)I" } : Jvm.MethodName)) ∈ zzW := jw_of (i := 236) (by decide +kernel) (by decide +kernel)
theorem jw_237 : (Jvm.Cond.instanceMethod ({ cls := "StreamIds$Text", name := "compareWith", desc := "(LStreamIds$Text;)I" } : Jvm.MethodName)) ∈ zzW := jw_of (i := 237) (by decide +kernel) (by decide +kernel)
theorem jw_238 : (Jvm.Cond.selects "StreamIds$Text" ({ cls := "StreamIds$Text", name := "compareWith", desc := "(LStreamIds$Text;)I" } : Jvm.MethodName) ({ cls := "StreamIds$Text", name := "compareWith", desc := "(LStreamIds$Text;)I" } : Jvm.MethodName)) ∈ zzW := jw_of (i := 238) (by decide +kernel) (by decide +kernel)
theorem jw_239 : (Jvm.Cond.code ({ cls := "StreamIds$Text", name := "compareWith", desc := "(LStreamIds$Text;)I" } : Jvm.MethodName) prog_8_method_5_code (4 : Nat) (Option.some Jvm.ClassFile.FieldType.int)) ∈ zzW := jw_of (i := 239) (by decide +kernel) (by decide +kernel)
theorem jw_240 : (Jvm.Cond.methodLink "StreamIds$Text" (25 : Nat) ({ cls := "java/lang/Math", name := "min", desc := "(II)I" } : Jvm.MethodName)) ∈ zzW := jw_of (i := 240) (by decide +kernel) (by decide +kernel)
theorem jw_241 : (Jvm.Cond.static ({ cls := "java/lang/Math", name := "min", desc := "(II)I" } : Jvm.MethodName)) ∈ zzW := jw_of (i := 241) (by decide +kernel) (by decide +kernel)
theorem jw_242 : (Jvm.Cond.code ({ cls := "java/lang/Math", name := "min", desc := "(II)I" } : Jvm.MethodName) prog_11_method_69_code (2 : Nat) (Option.some Jvm.ClassFile.FieldType.int)) ∈ zzW := jw_of (i := 242) (by decide +kernel) (by decide +kernel)
theorem jw_243 : (Jvm.Cond.methodLink "StreamIds$Row" (26 : Nat) ({ cls := "StreamIds$Row", name := "isAt", desc := "(IILStreamIds$Text;LStreamIds$Text;)Z" } : Jvm.MethodName)) ∈ zzW := jw_of (i := 243) (by decide +kernel) (by decide +kernel)
theorem jw_245 : (Jvm.Cond.instanceMethod ({ cls := "StreamIds$Row", name := "isAt", desc := "(IILStreamIds$Text;LStreamIds$Text;)Z" } : Jvm.MethodName)) ∈ zzW := jw_of (i := 245) (by decide +kernel) (by decide +kernel)
theorem jw_246 : (Jvm.Cond.code ({ cls := "StreamIds$Row", name := "isAt", desc := "(IILStreamIds$Text;LStreamIds$Text;)Z" } : Jvm.MethodName) prog_6_method_6_code (5 : Nat) (Option.some Jvm.ClassFile.FieldType.boolean)) ∈ zzW := jw_of (i := 246) (by decide +kernel) (by decide +kernel)
theorem jw_247 : (Jvm.Cond.methodLink "StreamIds$Row" (30 : Nat) ({ cls := "StreamIds$Entry", name := "become", desc := "(IILStreamIds$Text;LStreamIds$Text;)V" } : Jvm.MethodName)) ∈ zzW := jw_of (i := 247) (by decide +kernel) (by decide +kernel)
theorem jw_248 : (Jvm.Cond.instanceMethod ({ cls := "StreamIds$Entry", name := "become", desc := "(IILStreamIds$Text;LStreamIds$Text;)V" } : Jvm.MethodName)) ∈ zzW := jw_of (i := 248) (by decide +kernel) (by decide +kernel)
theorem jw_249 : (Jvm.Cond.selects "StreamIds$Entry" ({ cls := "StreamIds$Entry", name := "become", desc := "(IILStreamIds$Text;LStreamIds$Text;)V" } : Jvm.MethodName) ({ cls := "StreamIds$Entry", name := "become", desc := "(IILStreamIds$Text;LStreamIds$Text;)V" } : Jvm.MethodName)) ∈ zzW := jw_of (i := 249) (by decide +kernel) (by decide +kernel)
theorem jw_250 : (Jvm.Cond.code ({ cls := "StreamIds$Entry", name := "become", desc := "(IILStreamIds$Text;LStreamIds$Text;)V" } : Jvm.MethodName) prog_4_method_2_code (5 : Nat) (Option.none : Option Jvm.ClassFile.FieldType)) ∈ zzW := jw_of (i := 250) (by decide +kernel) (by decide +kernel)
theorem jw_251 : (Jvm.Cond.methodLink "StreamIds$Entry" (28 : Nat) ({ cls := "StreamIds$Text", name := "become", desc := "(LStreamIds$Text;)V" } : Jvm.MethodName)) ∈ zzW := jw_of (i := 251) (by decide +kernel) (by decide +kernel)
theorem jw_252 : (Jvm.Cond.methodLink "StreamIdsLaw" (34 : Nat) ({ cls := "StreamIds", name := "member", desc := "(III)I" } : Jvm.MethodName)) ∈ zzW := jw_of (i := 252) (by decide +kernel) (by decide +kernel)
theorem jw_253 : (Jvm.Cond.instanceMethod ({ cls := "StreamIds", name := "member", desc := "(III)I" } : Jvm.MethodName)) ∈ zzW := jw_of (i := 253) (by decide +kernel) (by decide +kernel)
theorem jw_254 : (Jvm.Cond.selects "StreamIds" ({ cls := "StreamIds", name := "member", desc := "(III)I" } : Jvm.MethodName) ({ cls := "StreamIds", name := "member", desc := "(III)I" } : Jvm.MethodName)) ∈ zzW := jw_of (i := 254) (by decide +kernel) (by decide +kernel)
theorem jw_255 : (Jvm.Cond.code ({ cls := "StreamIds", name := "member", desc := "(III)I" } : Jvm.MethodName) prog_1_method_6_code (5 : Nat) (Option.some Jvm.ClassFile.FieldType.int)) ∈ zzW := jw_of (i := 255) (by decide +kernel) (by decide +kernel)
theorem jw_256 : (Jvm.Cond.methodLink "StreamIds" (83 : Nat) ({ cls := "StreamIds", name := "isMemberKind", desc := "(I)Z" } : Jvm.MethodName)) ∈ zzW := jw_of (i := 256) (by decide +kernel) (by decide +kernel)
theorem jw_257 : (Jvm.Cond.static ({ cls := "StreamIds", name := "isMemberKind", desc := "(I)Z" } : Jvm.MethodName)) ∈ zzW := jw_of (i := 257) (by decide +kernel) (by decide +kernel)
theorem jw_258 : (Jvm.Cond.code ({ cls := "StreamIds", name := "isMemberKind", desc := "(I)Z" } : Jvm.MethodName) prog_1_method_17_code (1 : Nat) (Option.some Jvm.ClassFile.FieldType.boolean)) ∈ zzW := jw_of (i := 258) (by decide +kernel) (by decide +kernel)
theorem jw_259 : (Jvm.Cond.methodLink "StreamIds" (87 : Nat) ({ cls := "StreamIds", name := "isNameFor", desc := "(I)Z" } : Jvm.MethodName)) ∈ zzW := jw_of (i := 259) (by decide +kernel) (by decide +kernel)
theorem jw_261 : (Jvm.Cond.instanceMethod ({ cls := "StreamIds", name := "isNameFor", desc := "(I)Z" } : Jvm.MethodName)) ∈ zzW := jw_of (i := 261) (by decide +kernel) (by decide +kernel)
theorem jw_262 : (Jvm.Cond.code ({ cls := "StreamIds", name := "isNameFor", desc := "(I)Z" } : Jvm.MethodName) prog_1_method_18_code (2 : Nat) (Option.some Jvm.ClassFile.FieldType.boolean)) ∈ zzW := jw_of (i := 262) (by decide +kernel) (by decide +kernel)
theorem jw_263 : (Jvm.Cond.methodLink "StreamIds" (90 : Nat) ({ cls := "StreamIds", name := "isShapeFor", desc := "(I)Z" } : Jvm.MethodName)) ∈ zzW := jw_of (i := 263) (by decide +kernel) (by decide +kernel)
theorem jw_265 : (Jvm.Cond.instanceMethod ({ cls := "StreamIds", name := "isShapeFor", desc := "(I)Z" } : Jvm.MethodName)) ∈ zzW := jw_of (i := 265) (by decide +kernel) (by decide +kernel)
theorem jw_266 : (Jvm.Cond.code ({ cls := "StreamIds", name := "isShapeFor", desc := "(I)Z" } : Jvm.MethodName) prog_1_method_19_code (2 : Nat) (Option.some Jvm.ClassFile.FieldType.boolean)) ∈ zzW := jw_of (i := 266) (by decide +kernel) (by decide +kernel)
theorem jw_267 : (Jvm.Cond.methodLink "StreamIds" (146 : Nat) ({ cls := "StreamIds$Shapes", name := "isType", desc := "(LStreamIds$Text;)Z" } : Jvm.MethodName)) ∈ zzW := jw_of (i := 267) (by decide +kernel) (by decide +kernel)
theorem jw_268 : (Jvm.Cond.static ({ cls := "StreamIds$Shapes", name := "isType", desc := "(LStreamIds$Text;)Z" } : Jvm.MethodName)) ∈ zzW := jw_of (i := 268) (by decide +kernel) (by decide +kernel)
theorem jw_269 : (Jvm.Cond.code ({ cls := "StreamIds$Shapes", name := "isType", desc := "(LStreamIds$Text;)Z" } : Jvm.MethodName) prog_7_method_2_code (1 : Nat) (Option.some Jvm.ClassFile.FieldType.boolean)) ∈ zzW := jw_of (i := 269) (by decide +kernel) (by decide +kernel)
theorem jw_270 : (Jvm.Cond.methodLink "StreamIds$Shapes" (9 : Nat) ({ cls := "StreamIds$Shapes", name := "endOfType", desc := "(LStreamIds$Text;I)I" } : Jvm.MethodName)) ∈ zzW := jw_of (i := 270) (by decide +kernel) (by decide +kernel)
theorem jw_271 : (Jvm.Cond.static ({ cls := "StreamIds$Shapes", name := "endOfType", desc := "(LStreamIds$Text;I)I" } : Jvm.MethodName)) ∈ zzW := jw_of (i := 271) (by decide +kernel) (by decide +kernel)
theorem jw_272 : (Jvm.Cond.code ({ cls := "StreamIds$Shapes", name := "endOfType", desc := "(LStreamIds$Text;I)I" } : Jvm.MethodName) prog_7_method_5_code (3 : Nat) (Option.some Jvm.ClassFile.FieldType.int)) ∈ zzW := jw_of (i := 272) (by decide +kernel) (by decide +kernel)
theorem jw_273 : (Jvm.Cond.methodLink "StreamIds$Shapes" (21 : Nat) ({ cls := "StreamIds$Text", name := "at", desc := "(I)I" } : Jvm.MethodName)) ∈ zzW := jw_of (i := 273) (by decide +kernel) (by decide +kernel)
theorem jw_274 : (Jvm.Cond.instanceMethod ({ cls := "StreamIds$Text", name := "at", desc := "(I)I" } : Jvm.MethodName)) ∈ zzW := jw_of (i := 274) (by decide +kernel) (by decide +kernel)
theorem jw_275 : (Jvm.Cond.selects "StreamIds$Text" ({ cls := "StreamIds$Text", name := "at", desc := "(I)I" } : Jvm.MethodName) ({ cls := "StreamIds$Text", name := "at", desc := "(I)I" } : Jvm.MethodName)) ∈ zzW := jw_of (i := 275) (by decide +kernel) (by decide +kernel)
theorem jw_276 : (Jvm.Cond.code ({ cls := "StreamIds$Text", name := "at", desc := "(I)I" } : Jvm.MethodName) prog_8_method_2_code (2 : Nat) (Option.some Jvm.ClassFile.FieldType.int)) ∈ zzW := jw_of (i := 276) (by decide +kernel) (by decide +kernel)
theorem jw_277 : (Jvm.Cond.methodLink "StreamIds$Shapes" (28 : Nat) ({ cls := "StreamIds$Shapes", name := "endOfName", desc := "(LStreamIds$Text;I)I" } : Jvm.MethodName)) ∈ zzW := jw_of (i := 277) (by decide +kernel) (by decide +kernel)
theorem jw_278 : (Jvm.Cond.static ({ cls := "StreamIds$Shapes", name := "endOfName", desc := "(LStreamIds$Text;I)I" } : Jvm.MethodName)) ∈ zzW := jw_of (i := 278) (by decide +kernel) (by decide +kernel)
theorem jw_279 : (Jvm.Cond.code ({ cls := "StreamIds$Shapes", name := "endOfName", desc := "(LStreamIds$Text;I)I" } : Jvm.MethodName) prog_7_method_6_code (3 : Nat) (Option.some Jvm.ClassFile.FieldType.int)) ∈ zzW := jw_of (i := 279) (by decide +kernel) (by decide +kernel)
theorem jw_280 : (Jvm.Cond.methodLink "StreamIds$Shapes" (35 : Nat) ({ cls := "StreamIds$Shapes", name := "mayStandInName", desc := "(I)Z" } : Jvm.MethodName)) ∈ zzW := jw_of (i := 280) (by decide +kernel) (by decide +kernel)
theorem jw_281 : (Jvm.Cond.static ({ cls := "StreamIds$Shapes", name := "mayStandInName", desc := "(I)Z" } : Jvm.MethodName)) ∈ zzW := jw_of (i := 281) (by decide +kernel) (by decide +kernel)
theorem jw_282 : (Jvm.Cond.code ({ cls := "StreamIds$Shapes", name := "mayStandInName", desc := "(I)Z" } : Jvm.MethodName) prog_7_method_8_code (1 : Nat) (Option.some Jvm.ClassFile.FieldType.boolean)) ∈ zzW := jw_of (i := 282) (by decide +kernel) (by decide +kernel)
theorem jw_283 : (Jvm.Cond.methodLink "StreamIds$Shapes" (31 : Nat) ({ cls := "StreamIds$Shapes", name := "isSimple", desc := "(I)Z" } : Jvm.MethodName)) ∈ zzW := jw_of (i := 283) (by decide +kernel) (by decide +kernel)
theorem jw_284 : (Jvm.Cond.static ({ cls := "StreamIds$Shapes", name := "isSimple", desc := "(I)Z" } : Jvm.MethodName)) ∈ zzW := jw_of (i := 284) (by decide +kernel) (by decide +kernel)
theorem jw_285 : (Jvm.Cond.code ({ cls := "StreamIds$Shapes", name := "isSimple", desc := "(I)Z" } : Jvm.MethodName) prog_7_method_7_code (1 : Nat) (Option.some Jvm.ClassFile.FieldType.boolean)) ∈ zzW := jw_of (i := 285) (by decide +kernel) (by decide +kernel)
theorem jw_286 : (Jvm.Cond.methodLink "StreamIds" (152 : Nat) ({ cls := "StreamIds$Shapes", name := "isMethod", desc := "(LStreamIds$Text;)Z" } : Jvm.MethodName)) ∈ zzW := jw_of (i := 286) (by decide +kernel) (by decide +kernel)
theorem jw_287 : (Jvm.Cond.static ({ cls := "StreamIds$Shapes", name := "isMethod", desc := "(LStreamIds$Text;)Z" } : Jvm.MethodName)) ∈ zzW := jw_of (i := 287) (by decide +kernel) (by decide +kernel)
theorem jw_288 : (Jvm.Cond.code ({ cls := "StreamIds$Shapes", name := "isMethod", desc := "(LStreamIds$Text;)Z" } : Jvm.MethodName) prog_7_method_3_code (4 : Nat) (Option.some Jvm.ClassFile.FieldType.boolean)) ∈ zzW := jw_of (i := 288) (by decide +kernel) (by decide +kernel)
theorem jw_289 : (Jvm.Cond.methodLink "StreamIds$Shapes" (25 : Nat) ({ cls := "StreamIds$Shapes", name := "endOfTypes", desc := "(LStreamIds$Text;I)I" } : Jvm.MethodName)) ∈ zzW := jw_of (i := 289) (by decide +kernel) (by decide +kernel)
theorem jw_290 : (Jvm.Cond.static ({ cls := "StreamIds$Shapes", name := "endOfTypes", desc := "(LStreamIds$Text;I)I" } : Jvm.MethodName)) ∈ zzW := jw_of (i := 290) (by decide +kernel) (by decide +kernel)
theorem jw_291 : (Jvm.Cond.code ({ cls := "StreamIds$Shapes", name := "endOfTypes", desc := "(LStreamIds$Text;I)I" } : Jvm.MethodName) prog_7_method_4_code (4 : Nat) (Option.some Jvm.ClassFile.FieldType.int)) ∈ zzW := jw_of (i := 291) (by decide +kernel) (by decide +kernel)
theorem jw_292 : (Jvm.Cond.methodLink "StreamIds" (155 : Nat) ({ cls := "StreamIds$Text", name := "at", desc := "(I)I" } : Jvm.MethodName)) ∈ zzW := jw_of (i := 292) (by decide +kernel) (by decide +kernel)
theorem jw_293 : (Jvm.Cond.methodLink "StreamIdsLaw" (39 : Nat) ({ cls := "StreamIds", name := "remove", desc := "(II)I" } : Jvm.MethodName)) ∈ zzW := jw_of (i := 293) (by decide +kernel) (by decide +kernel)
theorem jw_294 : (Jvm.Cond.instanceMethod ({ cls := "StreamIds", name := "remove", desc := "(II)I" } : Jvm.MethodName)) ∈ zzW := jw_of (i := 294) (by decide +kernel) (by decide +kernel)
theorem jw_295 : (Jvm.Cond.selects "StreamIds" ({ cls := "StreamIds", name := "remove", desc := "(II)I" } : Jvm.MethodName) ({ cls := "StreamIds", name := "remove", desc := "(II)I" } : Jvm.MethodName)) ∈ zzW := jw_of (i := 295) (by decide +kernel) (by decide +kernel)
theorem jw_296 : (Jvm.Cond.code ({ cls := "StreamIds", name := "remove", desc := "(II)I" } : Jvm.MethodName) prog_1_method_7_code (4 : Nat) (Option.some Jvm.ClassFile.FieldType.int)) ∈ zzW := jw_of (i := 296) (by decide +kernel) (by decide +kernel)
theorem jw_297 : (Jvm.Cond.methodLink "StreamIds" (96 : Nat) ({ cls := "StreamIds$Row", name := "takeOut", desc := "(ILStreamIds$Text;LStreamIds$Text;)I" } : Jvm.MethodName)) ∈ zzW := jw_of (i := 297) (by decide +kernel) (by decide +kernel)
theorem jw_298 : (Jvm.Cond.instanceMethod ({ cls := "StreamIds$Row", name := "takeOut", desc := "(ILStreamIds$Text;LStreamIds$Text;)I" } : Jvm.MethodName)) ∈ zzW := jw_of (i := 298) (by decide +kernel) (by decide +kernel)
theorem jw_299 : (Jvm.Cond.selects "StreamIds$Row" ({ cls := "StreamIds$Row", name := "takeOut", desc := "(ILStreamIds$Text;LStreamIds$Text;)I" } : Jvm.MethodName) ({ cls := "StreamIds$Row", name := "takeOut", desc := "(ILStreamIds$Text;LStreamIds$Text;)I" } : Jvm.MethodName)) ∈ zzW := jw_of (i := 299) (by decide +kernel) (by decide +kernel)
theorem jw_300 : (Jvm.Cond.code ({ cls := "StreamIds$Row", name := "takeOut", desc := "(ILStreamIds$Text;LStreamIds$Text;)I" } : Jvm.MethodName) prog_6_method_3_code (7 : Nat) (Option.some Jvm.ClassFile.FieldType.int)) ∈ zzW := jw_of (i := 300) (by decide +kernel) (by decide +kernel)
theorem jw_301 : (Jvm.Cond.methodLink "StreamIdsLaw" (43 : Nat) ({ cls := "StreamIds", name := "declare", desc := "(IZJ)I" } : Jvm.MethodName)) ∈ zzW := jw_of (i := 301) (by decide +kernel) (by decide +kernel)
theorem jw_302 : (Jvm.Cond.instanceMethod ({ cls := "StreamIds", name := "declare", desc := "(IZJ)I" } : Jvm.MethodName)) ∈ zzW := jw_of (i := 302) (by decide +kernel) (by decide +kernel)
theorem jw_303 : (Jvm.Cond.selects "StreamIds" ({ cls := "StreamIds", name := "declare", desc := "(IZJ)I" } : Jvm.MethodName) ({ cls := "StreamIds", name := "declare", desc := "(IZJ)I" } : Jvm.MethodName)) ∈ zzW := jw_of (i := 303) (by decide +kernel) (by decide +kernel)
theorem jw_304 : (Jvm.Cond.code ({ cls := "StreamIds", name := "declare", desc := "(IZJ)I" } : Jvm.MethodName) prog_1_method_8_code (6 : Nat) (Option.some Jvm.ClassFile.FieldType.int)) ∈ zzW := jw_of (i := 304) (by decide +kernel) (by decide +kernel)
theorem jw_305 : (Jvm.Cond.methodLink "StreamIdsLaw" (48 : Nat) ({ cls := "StreamIds", name := "id", desc := "(I)J" } : Jvm.MethodName)) ∈ zzW := jw_of (i := 305) (by decide +kernel) (by decide +kernel)
theorem jw_306 : (Jvm.Cond.instanceMethod ({ cls := "StreamIds", name := "id", desc := "(I)J" } : Jvm.MethodName)) ∈ zzW := jw_of (i := 306) (by decide +kernel) (by decide +kernel)
theorem jw_307 : (Jvm.Cond.selects "StreamIds" ({ cls := "StreamIds", name := "id", desc := "(I)J" } : Jvm.MethodName) ({ cls := "StreamIds", name := "id", desc := "(I)J" } : Jvm.MethodName)) ∈ zzW := jw_of (i := 307) (by decide +kernel) (by decide +kernel)
theorem jw_308 : (Jvm.Cond.code ({ cls := "StreamIds", name := "id", desc := "(I)J" } : Jvm.MethodName) prog_1_method_9_code (3 : Nat) (Option.some Jvm.ClassFile.FieldType.long)) ∈ zzW := jw_of (i := 308) (by decide +kernel) (by decide +kernel)
theorem jw_309 : (Jvm.Cond.constantLong "StreamIds" (108 : Nat) (-9000000000000000001 : Int64)) ∈ zzW := jw_of (i := 309) (by decide +kernel) (by decide +kernel)
theorem jw_310 : (Jvm.Cond.methodLink "StreamIds" (113 : Nat) ({ cls := "StreamIds$Layout", name := "write", desc := "(LStreamIds$Declaration;)V" } : Jvm.MethodName)) ∈ zzW := jw_of (i := 310) (by decide +kernel) (by decide +kernel)
theorem jw_311 : (Jvm.Cond.instanceMethod ({ cls := "StreamIds$Layout", name := "write", desc := "(LStreamIds$Declaration;)V" } : Jvm.MethodName)) ∈ zzW := jw_of (i := 311) (by decide +kernel) (by decide +kernel)
theorem jw_312 : (Jvm.Cond.selects "StreamIds$Layout" ({ cls := "StreamIds$Layout", name := "write", desc := "(LStreamIds$Declaration;)V" } : Jvm.MethodName) ({ cls := "StreamIds$Layout", name := "write", desc := "(LStreamIds$Declaration;)V" } : Jvm.MethodName)) ∈ zzW := jw_of (i := 312) (by decide +kernel) (by decide +kernel)
theorem jw_313 : (Jvm.Cond.code ({ cls := "StreamIds$Layout", name := "write", desc := "(LStreamIds$Declaration;)V" } : Jvm.MethodName) prog_5_method_2_code (2 : Nat) (Option.none : Option Jvm.ClassFile.FieldType)) ∈ zzW := jw_of (i := 313) (by decide +kernel) (by decide +kernel)
theorem jw_314 : (Jvm.Cond.methodLink "StreamIds$Layout" (29 : Nat) ({ cls := "StreamIds$Layout", name := "putText", desc := "(LStreamIds$Text;)V" } : Jvm.MethodName)) ∈ zzW := jw_of (i := 314) (by decide +kernel) (by decide +kernel)
theorem jw_316 : (Jvm.Cond.instanceMethod ({ cls := "StreamIds$Layout", name := "putText", desc := "(LStreamIds$Text;)V" } : Jvm.MethodName)) ∈ zzW := jw_of (i := 316) (by decide +kernel) (by decide +kernel)
theorem jw_317 : (Jvm.Cond.code ({ cls := "StreamIds$Layout", name := "putText", desc := "(LStreamIds$Text;)V" } : Jvm.MethodName) prog_5_method_6_code (3 : Nat) (Option.none : Option Jvm.ClassFile.FieldType)) ∈ zzW := jw_of (i := 317) (by decide +kernel) (by decide +kernel)
theorem jw_318 : (Jvm.Cond.methodLink "StreamIds$Layout" (95 : Nat) ({ cls := "StreamIds$Layout", name := "putLength", desc := "(I)V" } : Jvm.MethodName)) ∈ zzW := jw_of (i := 318) (by decide +kernel) (by decide +kernel)
theorem jw_320 : (Jvm.Cond.instanceMethod ({ cls := "StreamIds$Layout", name := "putLength", desc := "(I)V" } : Jvm.MethodName)) ∈ zzW := jw_of (i := 320) (by decide +kernel) (by decide +kernel)
theorem jw_321 : (Jvm.Cond.code ({ cls := "StreamIds$Layout", name := "putLength", desc := "(I)V" } : Jvm.MethodName) prog_5_method_9_code (2 : Nat) (Option.none : Option Jvm.ClassFile.FieldType)) ∈ zzW := jw_of (i := 321) (by decide +kernel) (by decide +kernel)
theorem jw_322 : (Jvm.Cond.methodLink "StreamIds$Layout" (102 : Nat) ({ cls := "StreamIds$Layout", name := "put", desc := "(I)V" } : Jvm.MethodName)) ∈ zzW := jw_of (i := 322) (by decide +kernel) (by decide +kernel)
theorem jw_324 : (Jvm.Cond.instanceMethod ({ cls := "StreamIds$Layout", name := "put", desc := "(I)V" } : Jvm.MethodName)) ∈ zzW := jw_of (i := 324) (by decide +kernel) (by decide +kernel)
theorem jw_325 : (Jvm.Cond.code ({ cls := "StreamIds$Layout", name := "put", desc := "(I)V" } : Jvm.MethodName) prog_5_method_11_code (2 : Nat) (Option.none : Option Jvm.ClassFile.FieldType)) ∈ zzW := jw_of (i := 325) (by decide +kernel) (by decide +kernel)
theorem jw_326 : (Jvm.Cond.methodLink "StreamIds$Layout" (98 : Nat) ({ cls := "StreamIds$Text", name := "at", desc := "(I)I" } : Jvm.MethodName)) ∈ zzW := jw_of (i := 326) (by decide +kernel) (by decide +kernel)
theorem jw_327 : (Jvm.Cond.methodLink "StreamIds$Layout" (33 : Nat) ({ cls := "StreamIds$Declaration", name := "hashedModifiers", desc := "()I" } : Jvm.MethodName)) ∈ zzW := jw_of (i := 327) (by decide +kernel) (by decide +kernel)
theorem jw_328 : (Jvm.Cond.instanceMethod ({ cls := "StreamIds$Declaration", name := "hashedModifiers", desc := "()I" } : Jvm.MethodName)) ∈ zzW := jw_of (i := 328) (by decide +kernel) (by decide +kernel)
theorem jw_329 : (Jvm.Cond.selects "StreamIds$Declaration" ({ cls := "StreamIds$Declaration", name := "hashedModifiers", desc := "()I" } : Jvm.MethodName) ({ cls := "StreamIds$Declaration", name := "hashedModifiers", desc := "()I" } : Jvm.MethodName)) ∈ zzW := jw_of (i := 329) (by decide +kernel) (by decide +kernel)
theorem jw_330 : (Jvm.Cond.code ({ cls := "StreamIds$Declaration", name := "hashedModifiers", desc := "()I" } : Jvm.MethodName) prog_2_method_3_code (2 : Nat) (Option.some Jvm.ClassFile.FieldType.int)) ∈ zzW := jw_of (i := 330) (by decide +kernel) (by decide +kernel)
theorem jw_331 : (Jvm.Cond.methodLink "StreamIds$Declaration" (52 : Nat) ({ cls := "StreamIds$Row", name := "tally", desc := "(I)I" } : Jvm.MethodName)) ∈ zzW := jw_of (i := 331) (by decide +kernel) (by decide +kernel)
theorem jw_332 : (Jvm.Cond.instanceMethod ({ cls := "StreamIds$Row", name := "tally", desc := "(I)I" } : Jvm.MethodName)) ∈ zzW := jw_of (i := 332) (by decide +kernel) (by decide +kernel)
theorem jw_333 : (Jvm.Cond.selects "StreamIds$Row" ({ cls := "StreamIds$Row", name := "tally", desc := "(I)I" } : Jvm.MethodName) ({ cls := "StreamIds$Row", name := "tally", desc := "(I)I" } : Jvm.MethodName)) ∈ zzW := jw_of (i := 333) (by decide +kernel) (by decide +kernel)
theorem jw_334 : (Jvm.Cond.code ({ cls := "StreamIds$Row", name := "tally", desc := "(I)I" } : Jvm.MethodName) prog_6_method_4_code (4 : Nat) (Option.some Jvm.ClassFile.FieldType.int)) ∈ zzW := jw_of (i := 334) (by decide +kernel) (by decide +kernel)
theorem jw_335 : (Jvm.Cond.methodLink "StreamIds$Layout" (37 : Nat) ({ cls := "StreamIds$Layout", name := "putNumber", desc := "(I)V" } : Jvm.MethodName)) ∈ zzW := jw_of (i := 335) (by decide +kernel) (by decide +kernel)
theorem jw_337 : (Jvm.Cond.instanceMethod ({ cls := "StreamIds$Layout", name := "putNumber", desc := "(I)V" } : Jvm.MethodName)) ∈ zzW := jw_of (i := 337) (by decide +kernel) (by decide +kernel)
theorem jw_338 : (Jvm.Cond.code ({ cls := "StreamIds$Layout", name := "putNumber", desc := "(I)V" } : Jvm.MethodName) prog_5_method_10_code (2 : Nat) (Option.none : Option Jvm.ClassFile.FieldType)) ∈ zzW := jw_of (i := 338) (by decide +kernel) (by decide +kernel)
theorem jw_339 : (Jvm.Cond.methodLink "StreamIds$Layout" (45 : Nat) ({ cls := "StreamIds$Layout", name := "putAll", desc := "(LStreamIds$Row;I)V" } : Jvm.MethodName)) ∈ zzW := jw_of (i := 339) (by decide +kernel) (by decide +kernel)
theorem jw_341 : (Jvm.Cond.instanceMethod ({ cls := "StreamIds$Layout", name := "putAll", desc := "(LStreamIds$Row;I)V" } : Jvm.MethodName)) ∈ zzW := jw_of (i := 341) (by decide +kernel) (by decide +kernel)
theorem jw_342 : (Jvm.Cond.code ({ cls := "StreamIds$Layout", name := "putAll", desc := "(LStreamIds$Row;I)V" } : Jvm.MethodName) prog_5_method_4_code (5 : Nat) (Option.none : Option Jvm.ClassFile.FieldType)) ∈ zzW := jw_of (i := 342) (by decide +kernel) (by decide +kernel)
theorem jw_343 : (Jvm.Cond.methodLink "StreamIds$Layout" (66 : Nat) ({ cls := "StreamIds$Entry", name := "isHashed", desc := "()Z" } : Jvm.MethodName)) ∈ zzW := jw_of (i := 343) (by decide +kernel) (by decide +kernel)
theorem jw_344 : (Jvm.Cond.instanceMethod ({ cls := "StreamIds$Entry", name := "isHashed", desc := "()Z" } : Jvm.MethodName)) ∈ zzW := jw_of (i := 344) (by decide +kernel) (by decide +kernel)
theorem jw_345 : (Jvm.Cond.selects "StreamIds$Entry" ({ cls := "StreamIds$Entry", name := "isHashed", desc := "()Z" } : Jvm.MethodName) ({ cls := "StreamIds$Entry", name := "isHashed", desc := "()Z" } : Jvm.MethodName)) ∈ zzW := jw_of (i := 345) (by decide +kernel) (by decide +kernel)
theorem jw_346 : (Jvm.Cond.code ({ cls := "StreamIds$Entry", name := "isHashed", desc := "()Z" } : Jvm.MethodName) prog_4_method_5_code (1 : Nat) (Option.some Jvm.ClassFile.FieldType.boolean)) ∈ zzW := jw_of (i := 346) (by decide +kernel) (by decide +kernel)
theorem jw_347 : (Jvm.Cond.methodLink "StreamIds$Entry" (36 : Nat) ({ cls := "StreamIds$Entry", name := "has", desc := "(I)Z" } : Jvm.MethodName)) ∈ zzW := jw_of (i := 347) (by decide +kernel) (by decide +kernel)
theorem jw_348 : (Jvm.Cond.instanceMethod ({ cls := "StreamIds$Entry", name := "has", desc := "(I)Z" } : Jvm.MethodName)) ∈ zzW := jw_of (i := 348) (by decide +kernel) (by decide +kernel)
theorem jw_349 : (Jvm.Cond.selects "StreamIds$Entry" ({ cls := "StreamIds$Entry", name := "has", desc := "(I)Z" } : Jvm.MethodName) ({ cls := "StreamIds$Entry", name := "has", desc := "(I)Z" } : Jvm.MethodName)) ∈ zzW := jw_of (i := 349) (by decide +kernel) (by decide +kernel)
theorem jw_350 : (Jvm.Cond.code ({ cls := "StreamIds$Entry", name := "has", desc := "(I)Z" } : Jvm.MethodName) prog_4_method_4_code (2 : Nat) (Option.some Jvm.ClassFile.FieldType.boolean)) ∈ zzW := jw_of (i := 350) (by decide +kernel) (by decide +kernel)
theorem jw_351 : (Jvm.Cond.methodLink "StreamIds$Layout" (70 : Nat) ({ cls := "StreamIds$Layout", name := "putEntry", desc := "(LStreamIds$Entry;)V" } : Jvm.MethodName)) ∈ zzW := jw_of (i := 351) (by decide +kernel) (by decide +kernel)
theorem jw_353 : (Jvm.Cond.instanceMethod ({ cls := "StreamIds$Layout", name := "putEntry", desc := "(LStreamIds$Entry;)V" } : Jvm.MethodName)) ∈ zzW := jw_of (i := 353) (by decide +kernel) (by decide +kernel)
theorem jw_354 : (Jvm.Cond.code ({ cls := "StreamIds$Layout", name := "putEntry", desc := "(LStreamIds$Entry;)V" } : Jvm.MethodName) prog_5_method_5_code (2 : Nat) (Option.none : Option Jvm.ClassFile.FieldType)) ∈ zzW := jw_of (i := 354) (by decide +kernel) (by decide +kernel)
theorem jw_356 : (Jvm.Cond.methodLink "StreamIds$Layout" (83 : Nat) ({ cls := "StreamIds$Layout", name := "putConstant", desc := "(Ljava/lang/String;)V" } : Jvm.MethodName)) ∈ zzW := jw_of (i := 356) (by decide +kernel) (by decide +kernel)
theorem jw_358 : (Jvm.Cond.instanceMethod ({ cls := "StreamIds$Layout", name := "putConstant", desc := "(Ljava/lang/String;)V" } : Jvm.MethodName)) ∈ zzW := jw_of (i := 358) (by decide +kernel) (by decide +kernel)
theorem jw_359 : (Jvm.Cond.code ({ cls := "StreamIds$Layout", name := "putConstant", desc := "(Ljava/lang/String;)V" } : Jvm.MethodName) prog_5_method_8_code (3 : Nat) (Option.none : Option Jvm.ClassFile.FieldType)) ∈ zzW := jw_of (i := 359) (by decide +kernel) (by decide +kernel)
theorem jw_360 : (Jvm.Cond.methodLink "StreamIds$Layout" (105 : Nat) ({ cls := "java/lang/String", name := "length", desc := "()I" } : Jvm.MethodName)) ∈ zzW := jw_of (i := 360) (by decide +kernel) (by decide +kernel)
theorem jw_361 : (Jvm.Cond.instanceMethod ({ cls := "java/lang/String", name := "length", desc := "()I" } : Jvm.MethodName)) ∈ zzW := jw_of (i := 361) (by decide +kernel) (by decide +kernel)
theorem jw_362 : (Jvm.Cond.selects "java/lang/String" ({ cls := "java/lang/String", name := "length", desc := "()I" } : Jvm.MethodName) ({ cls := "java/lang/String", name := "length", desc := "()I" } : Jvm.MethodName)) ∈ zzW := jw_of (i := 362) (by decide +kernel) (by decide +kernel)
theorem jw_363 : (Jvm.Cond.code ({ cls := "java/lang/String", name := "length", desc := "()I" } : Jvm.MethodName) prog_12_method_54_code (1 : Nat) (Option.some Jvm.ClassFile.FieldType.int)) ∈ zzW := jw_of (i := 363) (by decide +kernel) (by decide +kernel)
theorem jw_364 : (Jvm.Cond.methodLink "java/lang/String" (335 : Nat) ({ cls := "java/lang/String", name := "coder", desc := "()B" } : Jvm.MethodName)) ∈ zzW := jw_of (i := 364) (by decide +kernel) (by decide +kernel)
theorem jw_365 : (Jvm.Cond.instanceMethod ({ cls := "java/lang/String", name := "coder", desc := "()B" } : Jvm.MethodName)) ∈ zzW := jw_of (i := 365) (by decide +kernel) (by decide +kernel)
theorem jw_366 : (Jvm.Cond.selects "java/lang/String" ({ cls := "java/lang/String", name := "coder", desc := "()B" } : Jvm.MethodName) ({ cls := "java/lang/String", name := "coder", desc := "()B" } : Jvm.MethodName)) ∈ zzW := jw_of (i := 366) (by decide +kernel) (by decide +kernel)
theorem jw_367 : (Jvm.Cond.code ({ cls := "java/lang/String", name := "coder", desc := "()B" } : Jvm.MethodName) prog_12_method_152_code (1 : Nat) (Option.some Jvm.ClassFile.FieldType.byte)) ∈ zzW := jw_of (i := 367) (by decide +kernel) (by decide +kernel)
theorem jw_368 : (Jvm.Cond.fieldLink "java/lang/String" (38 : Nat) "java/lang/String" "COMPACT_STRINGS" "Z") ∈ zzW := jw_of (i := 368) (by decide +kernel) (by decide +kernel)
theorem jw_370 : (Jvm.Cond.methodLink "StreamIds$Layout" (109 : Nat) ({ cls := "java/lang/String", name := "charAt", desc := "(I)C" } : Jvm.MethodName)) ∈ zzW := jw_of (i := 370) (by decide +kernel) (by decide +kernel)
theorem jw_371 : (Jvm.Cond.instanceMethod ({ cls := "java/lang/String", name := "charAt", desc := "(I)C" } : Jvm.MethodName)) ∈ zzW := jw_of (i := 371) (by decide +kernel) (by decide +kernel)
theorem jw_372 : (Jvm.Cond.selects "java/lang/String" ({ cls := "java/lang/String", name := "charAt", desc := "(I)C" } : Jvm.MethodName) ({ cls := "java/lang/String", name := "charAt", desc := "(I)C" } : Jvm.MethodName)) ∈ zzW := jw_of (i := 372) (by decide +kernel) (by decide +kernel)
theorem jw_373 : (Jvm.Cond.code ({ cls := "java/lang/String", name := "charAt", desc := "(I)C" } : Jvm.MethodName) prog_12_method_56_code (2 : Nat) (Option.some Jvm.ClassFile.FieldType.char)) ∈ zzW := jw_of (i := 373) (by decide +kernel) (by decide +kernel)
theorem jw_374 : (Jvm.Cond.methodLink "java/lang/String" (492 : Nat) ({ cls := "java/lang/String", name := "isLatin1", desc := "()Z" } : Jvm.MethodName)) ∈ zzW := jw_of (i := 374) (by decide +kernel) (by decide +kernel)
theorem jw_375 : (Jvm.Cond.instanceMethod ({ cls := "java/lang/String", name := "isLatin1", desc := "()Z" } : Jvm.MethodName)) ∈ zzW := jw_of (i := 375) (by decide +kernel) (by decide +kernel)
theorem jw_376 : (Jvm.Cond.selects "java/lang/String" ({ cls := "java/lang/String", name := "isLatin1", desc := "()Z" } : Jvm.MethodName) ({ cls := "java/lang/String", name := "isLatin1", desc := "()Z" } : Jvm.MethodName)) ∈ zzW := jw_of (i := 376) (by decide +kernel) (by decide +kernel)
theorem jw_377 : (Jvm.Cond.code ({ cls := "java/lang/String", name := "isLatin1", desc := "()Z" } : Jvm.MethodName) prog_12_method_154_code (1 : Nat) (Option.some Jvm.ClassFile.FieldType.boolean)) ∈ zzW := jw_of (i := 377) (by decide +kernel) (by decide +kernel)
theorem jw_378 : (Jvm.Cond.methodLink "java/lang/String" (495 : Nat) ({ cls := "java/lang/StringLatin1", name := "charAt", desc := "([BI)C" } : Jvm.MethodName)) ∈ zzW := jw_of (i := 378) (by decide +kernel) (by decide +kernel)
theorem jw_379 : (Jvm.Cond.static ({ cls := "java/lang/StringLatin1", name := "charAt", desc := "([BI)C" } : Jvm.MethodName)) ∈ zzW := jw_of (i := 379) (by decide +kernel) (by decide +kernel)
theorem jw_380 : (Jvm.Cond.code ({ cls := "java/lang/StringLatin1", name := "charAt", desc := "([BI)C" } : Jvm.MethodName) prog_13_method_2_code (2 : Nat) (Option.some Jvm.ClassFile.FieldType.char)) ∈ zzW := jw_of (i := 380) (by decide +kernel) (by decide +kernel)
theorem jw_381 : (Jvm.Cond.methodLink "java/lang/StringLatin1" (9 : Nat) ({ cls := "java/lang/String", name := "checkIndex", desc := "(II)V" } : Jvm.MethodName)) ∈ zzW := jw_of (i := 381) (by decide +kernel) (by decide +kernel)
theorem jw_382 : (Jvm.Cond.static ({ cls := "java/lang/String", name := "checkIndex", desc := "(II)V" } : Jvm.MethodName)) ∈ zzW := jw_of (i := 382) (by decide +kernel) (by decide +kernel)
theorem jw_383 : (Jvm.Cond.code ({ cls := "java/lang/String", name := "checkIndex", desc := "(II)V" } : Jvm.MethodName) prog_12_method_155_code (2 : Nat) (Option.none : Option Jvm.ClassFile.FieldType)) ∈ zzW := jw_of (i := 383) (by decide +kernel) (by decide +kernel)
theorem jw_384 : (Jvm.Cond.fieldLink "java/lang/String" (1053 : Nat) "jdk/internal/util/Preconditions" "SIOOBE_FORMATTER" "Ljava/util/function/BiFunction;") ∈ zzW := jw_of (i := 384) (by decide +kernel) (by decide +kernel)
theorem jw_386 : (Jvm.Cond.methodLink "java/lang/String" (1059 : Nat) ({ cls := "jdk/internal/util/Preconditions", name := "checkIndex", desc := "(IILjava/util/function/BiFunction;)I" } : Jvm.MethodName)) ∈ zzW := jw_of (i := 386) (by decide +kernel) (by decide +kernel)
theorem jw_387 : (Jvm.Cond.static ({ cls := "jdk/internal/util/Preconditions", name := "checkIndex", desc := "(IILjava/util/function/BiFunction;)I" } : Jvm.MethodName)) ∈ zzW := jw_of (i := 387) (by decide +kernel) (by decide +kernel)
theorem jw_388 : (Jvm.Cond.code ({ cls := "jdk/internal/util/Preconditions", name := "checkIndex", desc := "(IILjava/util/function/BiFunction;)I" } : Jvm.MethodName) prog_16_method_11_code (3 : Nat) (Option.some Jvm.ClassFile.FieldType.int)) ∈ zzW := jw_of (i := 388) (by decide +kernel) (by decide +kernel)
theorem jw_389 : (Jvm.Cond.methodLink "java/lang/String" (498 : Nat) ({ cls := "java/lang/StringUTF16", name := "charAt", desc := "([BI)C" } : Jvm.MethodName)) ∈ zzW := jw_of (i := 389) (by decide +kernel) (by decide +kernel)
theorem jw_390 : (Jvm.Cond.static ({ cls := "java/lang/StringUTF16", name := "charAt", desc := "([BI)C" } : Jvm.MethodName)) ∈ zzW := jw_of (i := 390) (by decide +kernel) (by decide +kernel)
theorem jw_391 : (Jvm.Cond.code ({ cls := "java/lang/StringUTF16", name := "charAt", desc := "([BI)C" } : Jvm.MethodName) prog_14_method_83_code (2 : Nat) (Option.some Jvm.ClassFile.FieldType.char)) ∈ zzW := jw_of (i := 391) (by decide +kernel) (by decide +kernel)
theorem jw_392 : (Jvm.Cond.methodLink "java/lang/StringUTF16" (67 : Nat) ({ cls := "java/lang/StringUTF16", name := "checkIndex", desc := "(I[B)V" } : Jvm.MethodName)) ∈ zzW := jw_of (i := 392) (by decide +kernel) (by decide +kernel)
theorem jw_393 : (Jvm.Cond.static ({ cls := "java/lang/StringUTF16", name := "checkIndex", desc := "(I[B)V" } : Jvm.MethodName)) ∈ zzW := jw_of (i := 393) (by decide +kernel) (by decide +kernel)
theorem jw_394 : (Jvm.Cond.code ({ cls := "java/lang/StringUTF16", name := "checkIndex", desc := "(I[B)V" } : Jvm.MethodName) prog_14_method_91_code (2 : Nat) (Option.none : Option Jvm.ClassFile.FieldType)) ∈ zzW := jw_of (i := 394) (by decide +kernel) (by decide +kernel)
theorem jw_395 : (Jvm.Cond.methodLink "java/lang/StringUTF16" (48 : Nat) ({ cls := "java/lang/StringUTF16", name := "length", desc := "([B)I" } : Jvm.MethodName)) ∈ zzW := jw_of (i := 395) (by decide +kernel) (by decide +kernel)
theorem jw_396 : (Jvm.Cond.static ({ cls := "java/lang/StringUTF16", name := "length", desc := "([B)I" } : Jvm.MethodName)) ∈ zzW := jw_of (i := 396) (by decide +kernel) (by decide +kernel)
theorem jw_397 : (Jvm.Cond.code ({ cls := "java/lang/StringUTF16", name := "length", desc := "([B)I" } : Jvm.MethodName) prog_14_method_6_code (1 : Nat) (Option.some Jvm.ClassFile.FieldType.int)) ∈ zzW := jw_of (i := 397) (by decide +kernel) (by decide +kernel)
theorem jw_398 : (Jvm.Cond.methodLink "java/lang/StringUTF16" (414 : Nat) ({ cls := "java/lang/String", name := "checkIndex", desc := "(II)V" } : Jvm.MethodName)) ∈ zzW := jw_of (i := 398) (by decide +kernel) (by decide +kernel)
theorem jw_399 : (Jvm.Cond.methodLink "java/lang/StringUTF16" (71 : Nat) ({ cls := "java/lang/StringUTF16", name := "getChar", desc := "([BI)C" } : Jvm.MethodName)) ∈ zzW := jw_of (i := 399) (by decide +kernel) (by decide +kernel)
theorem jw_400 : (Jvm.Cond.static ({ cls := "java/lang/StringUTF16", name := "getChar", desc := "([BI)C" } : Jvm.MethodName)) ∈ zzW := jw_of (i := 400) (by decide +kernel) (by decide +kernel)
theorem jw_401 : (Jvm.Cond.code ({ cls := "java/lang/StringUTF16", name := "getChar", desc := "([BI)C" } : Jvm.MethodName) prog_14_method_5_code (2 : Nat) (Option.some Jvm.ClassFile.FieldType.char)) ∈ zzW := jw_of (i := 401) (by decide +kernel) (by decide +kernel)
theorem jw_402 : (Jvm.Cond.fieldLink "java/lang/StringUTF16" (44 : Nat) "java/lang/StringUTF16" "$assertionsDisabled" "Z") ∈ zzW := jw_of (i := 402) (by decide +kernel) (by decide +kernel)
theorem jw_404 : (Jvm.Cond.fieldLink "java/lang/StringUTF16" (59 : Nat) "java/lang/StringUTF16" "HI_BYTE_SHIFT" "I") ∈ zzW := jw_of (i := 404) (by decide +kernel) (by decide +kernel)
theorem jw_406 : (Jvm.Cond.fieldLink "java/lang/StringUTF16" (63 : Nat) "java/lang/StringUTF16" "LO_BYTE_SHIFT" "I") ∈ zzW := jw_of (i := 406) (by decide +kernel) (by decide +kernel)
theorem jw_410 : (Jvm.Cond.methodLink "StreamIds$Layout" (89 : Nat) ({ cls := "StreamIds$Layout", name := "putDotted", desc := "(LStreamIds$Text;)V" } : Jvm.MethodName)) ∈ zzW := jw_of (i := 410) (by decide +kernel) (by decide +kernel)
theorem jw_412 : (Jvm.Cond.instanceMethod ({ cls := "StreamIds$Layout", name := "putDotted", desc := "(LStreamIds$Text;)V" } : Jvm.MethodName)) ∈ zzW := jw_of (i := 412) (by decide +kernel) (by decide +kernel)
theorem jw_413 : (Jvm.Cond.code ({ cls := "StreamIds$Layout", name := "putDotted", desc := "(LStreamIds$Text;)V" } : Jvm.MethodName) prog_5_method_7_code (3 : Nat) (Option.none : Option Jvm.ClassFile.FieldType)) ∈ zzW := jw_of (i := 413) (by decide +kernel) (by decide +kernel)
theorem jw_414 : (Jvm.Cond.methodLink "StreamIds" (117 : Nat) ({ cls := "StreamIds$Digest", name := "take", desc := "(LStreamIds$Layout;)V" } : Jvm.MethodName)) ∈ zzW := jw_of (i := 414) (by decide +kernel) (by decide +kernel)
theorem jw_415 : (Jvm.Cond.instanceMethod ({ cls := "StreamIds$Digest", name := "take", desc := "(LStreamIds$Layout;)V" } : Jvm.MethodName)) ∈ zzW := jw_of (i := 415) (by decide +kernel) (by decide +kernel)
theorem jw_416 : (Jvm.Cond.selects "StreamIds$Digest" ({ cls := "StreamIds$Digest", name := "take", desc := "(LStreamIds$Layout;)V" } : Jvm.MethodName) ({ cls := "StreamIds$Digest", name := "take", desc := "(LStreamIds$Layout;)V" } : Jvm.MethodName)) ∈ zzW := jw_of (i := 416) (by decide +kernel) (by decide +kernel)
theorem jw_417 : (Jvm.Cond.code ({ cls := "StreamIds$Digest", name := "take", desc := "(LStreamIds$Layout;)V" } : Jvm.MethodName) prog_3_method_2_code (4 : Nat) (Option.none : Option Jvm.ClassFile.FieldType)) ∈ zzW := jw_of (i := 417) (by decide +kernel) (by decide +kernel)
theorem jw_420 : (Jvm.Cond.methodLink "StreamIds$Digest" (21 : Nat) ({ cls := "java/lang/System", name := "arraycopy", desc := "(Ljava/lang/Object;ILjava/lang/Object;II)V" } : Jvm.MethodName)) ∈ zzW := jw_of (i := 420) (by decide +kernel) (by decide +kernel)
theorem jw_421 : (Jvm.Cond.methodLink "StreamIds$Digest" (33 : Nat) ({ cls := "StreamIds$Digest", name := "fillWords", desc := "(LStreamIds$Layout;II)V" } : Jvm.MethodName)) ∈ zzW := jw_of (i := 421) (by decide +kernel) (by decide +kernel)
theorem jw_423 : (Jvm.Cond.instanceMethod ({ cls := "StreamIds$Digest", name := "fillWords", desc := "(LStreamIds$Layout;II)V" } : Jvm.MethodName)) ∈ zzW := jw_of (i := 423) (by decide +kernel) (by decide +kernel)
theorem jw_424 : (Jvm.Cond.code ({ cls := "StreamIds$Digest", name := "fillWords", desc := "(LStreamIds$Layout;II)V" } : Jvm.MethodName) prog_3_method_4_code (7 : Nat) (Option.none : Option Jvm.ClassFile.FieldType)) ∈ zzW := jw_of (i := 424) (by decide +kernel) (by decide +kernel)
theorem jw_425 : (Jvm.Cond.methodLink "StreamIds$Digest" (46 : Nat) ({ cls := "StreamIds$Digest", name := "paddedAt", desc := "(LStreamIds$Layout;II)I" } : Jvm.MethodName)) ∈ zzW := jw_of (i := 425) (by decide +kernel) (by decide +kernel)
theorem jw_426 : (Jvm.Cond.static ({ cls := "StreamIds$Digest", name := "paddedAt", desc := "(LStreamIds$Layout;II)I" } : Jvm.MethodName)) ∈ zzW := jw_of (i := 426) (by decide +kernel) (by decide +kernel)
theorem jw_427 : (Jvm.Cond.code ({ cls := "StreamIds$Digest", name := "paddedAt", desc := "(LStreamIds$Layout;II)I" } : Jvm.MethodName) prog_3_method_5_code (4 : Nat) (Option.some Jvm.ClassFile.FieldType.int)) ∈ zzW := jw_of (i := 427) (by decide +kernel) (by decide +kernel)
theorem jw_428 : (Jvm.Cond.methodLink "StreamIds$Digest" (54 : Nat) ({ cls := "StreamIds$Layout", name := "at", desc := "(I)I" } : Jvm.MethodName)) ∈ zzW := jw_of (i := 428) (by decide +kernel) (by decide +kernel)
theorem jw_429 : (Jvm.Cond.instanceMethod ({ cls := "StreamIds$Layout", name := "at", desc := "(I)I" } : Jvm.MethodName)) ∈ zzW := jw_of (i := 429) (by decide +kernel) (by decide +kernel)
theorem jw_430 : (Jvm.Cond.selects "StreamIds$Layout" ({ cls := "StreamIds$Layout", name := "at", desc := "(I)I" } : Jvm.MethodName) ({ cls := "StreamIds$Layout", name := "at", desc := "(I)I" } : Jvm.MethodName)) ∈ zzW := jw_of (i := 430) (by decide +kernel) (by decide +kernel)
theorem jw_431 : (Jvm.Cond.code ({ cls := "StreamIds$Layout", name := "at", desc := "(I)I" } : Jvm.MethodName) prog_5_method_3_code (2 : Nat) (Option.some Jvm.ClassFile.FieldType.int)) ∈ zzW := jw_of (i := 431) (by decide +kernel) (by decide +kernel)
theorem jw_432 : (Jvm.Cond.methodLink "StreamIds$Digest" (50 : Nat) ({ cls := "StreamIds$Digest", name := "turned", desc := "(II)I" } : Jvm.MethodName)) ∈ zzW := jw_of (i := 432) (by decide +kernel) (by decide +kernel)
theorem jw_433 : (Jvm.Cond.static ({ cls := "StreamIds$Digest", name := "turned", desc := "(II)I" } : Jvm.MethodName)) ∈ zzW := jw_of (i := 433) (by decide +kernel) (by decide +kernel)
theorem jw_434 : (Jvm.Cond.code ({ cls := "StreamIds$Digest", name := "turned", desc := "(II)I" } : Jvm.MethodName) prog_3_method_8_code (2 : Nat) (Option.some Jvm.ClassFile.FieldType.int)) ∈ zzW := jw_of (i := 434) (by decide +kernel) (by decide +kernel)
theorem jw_435 : (Jvm.Cond.methodLink "StreamIds$Digest" (37 : Nat) ({ cls := "StreamIds$Digest", name := "mixWords", desc := "()V" } : Jvm.MethodName)) ∈ zzW := jw_of (i := 435) (by decide +kernel) (by decide +kernel)
theorem jw_437 : (Jvm.Cond.instanceMethod ({ cls := "StreamIds$Digest", name := "mixWords", desc := "()V" } : Jvm.MethodName)) ∈ zzW := jw_of (i := 437) (by decide +kernel) (by decide +kernel)
theorem jw_438 : (Jvm.Cond.code ({ cls := "StreamIds$Digest", name := "mixWords", desc := "()V" } : Jvm.MethodName) prog_3_method_6_code (8 : Nat) (Option.none : Option Jvm.ClassFile.FieldType)) ∈ zzW := jw_of (i := 438) (by decide +kernel) (by decide +kernel)
theorem jw_439 : (Jvm.Cond.methodLink "StreamIds$Digest" (57 : Nat) ({ cls := "StreamIds$Digest", name := "chosen", desc := "(IIII)I" } : Jvm.MethodName)) ∈ zzW := jw_of (i := 439) (by decide +kernel) (by decide +kernel)
theorem jw_440 : (Jvm.Cond.static ({ cls := "StreamIds$Digest", name := "chosen", desc := "(IIII)I" } : Jvm.MethodName)) ∈ zzW := jw_of (i := 440) (by decide +kernel) (by decide +kernel)
theorem jw_441 : (Jvm.Cond.code ({ cls := "StreamIds$Digest", name := "chosen", desc := "(IIII)I" } : Jvm.MethodName) prog_3_method_7_code (4 : Nat) (Option.some Jvm.ClassFile.FieldType.int)) ∈ zzW := jw_of (i := 441) (by decide +kernel) (by decide +kernel)
theorem jw_444 : (Jvm.Cond.methodLink "StreamIds" (121 : Nat) ({ cls := "StreamIds$Digest", name := "firstEightReversed", desc := "()J" } : Jvm.MethodName)) ∈ zzW := jw_of (i := 444) (by decide +kernel) (by decide +kernel)
theorem jw_445 : (Jvm.Cond.instanceMethod ({ cls := "StreamIds$Digest", name := "firstEightReversed", desc := "()J" } : Jvm.MethodName)) ∈ zzW := jw_of (i := 445) (by decide +kernel) (by decide +kernel)
theorem jw_446 : (Jvm.Cond.selects "StreamIds$Digest" ({ cls := "StreamIds$Digest", name := "firstEightReversed", desc := "()J" } : Jvm.MethodName) ({ cls := "StreamIds$Digest", name := "firstEightReversed", desc := "()J" } : Jvm.MethodName)) ∈ zzW := jw_of (i := 446) (by decide +kernel) (by decide +kernel)
theorem jw_447 : (Jvm.Cond.code ({ cls := "StreamIds$Digest", name := "firstEightReversed", desc := "()J" } : Jvm.MethodName) prog_3_method_3_code (5 : Nat) (Option.some Jvm.ClassFile.FieldType.long)) ∈ zzW := jw_of (i := 447) (by decide +kernel) (by decide +kernel)
theorem jw_448 : (Jvm.Cond.methodLink "StreamIds$Digest" (40 : Nat) ({ cls := "StreamIds$Digest", name := "reversed", desc := "(I)I" } : Jvm.MethodName)) ∈ zzW := jw_of (i := 448) (by decide +kernel) (by decide +kernel)
theorem jw_449 : (Jvm.Cond.static ({ cls := "StreamIds$Digest", name := "reversed", desc := "(I)I" } : Jvm.MethodName)) ∈ zzW := jw_of (i := 449) (by decide +kernel) (by decide +kernel)
theorem jw_450 : (Jvm.Cond.code ({ cls := "StreamIds$Digest", name := "reversed", desc := "(I)I" } : Jvm.MethodName) prog_3_method_9_code (1 : Nat) (Option.some Jvm.ClassFile.FieldType.int)) ∈ zzW := jw_of (i := 450) (by decide +kernel) (by decide +kernel)
theorem jw_451 : (Jvm.Cond.constant "StreamIds$Digest" (64 : Nat) (65280 : Int32)) ∈ zzW := jw_of (i := 451) (by decide +kernel) (by decide +kernel)
theorem jw_452 : (Jvm.Cond.constantLong "StreamIds$Digest" (44 : Nat) (4294967295 : Int64)) ∈ zzW := jw_of (i := 452) (by decide +kernel) (by decide +kernel)
theorem jw_453 : (Jvm.Cond.methodLink "StreamIdsLaw" (53 : Nat) ({ cls := "StreamIds", name := "hash", desc := "(II)J" } : Jvm.MethodName)) ∈ zzW := jw_of (i := 453) (by decide +kernel) (by decide +kernel)
theorem jw_454 : (Jvm.Cond.instanceMethod ({ cls := "StreamIds", name := "hash", desc := "(II)J" } : Jvm.MethodName)) ∈ zzW := jw_of (i := 454) (by decide +kernel) (by decide +kernel)
theorem jw_455 : (Jvm.Cond.selects "StreamIds" ({ cls := "StreamIds", name := "hash", desc := "(II)J" } : Jvm.MethodName) ({ cls := "StreamIds", name := "hash", desc := "(II)J" } : Jvm.MethodName)) ∈ zzW := jw_of (i := 455) (by decide +kernel) (by decide +kernel)
theorem jw_456 : (Jvm.Cond.code ({ cls := "StreamIds", name := "hash", desc := "(II)J" } : Jvm.MethodName) prog_1_method_10_code (4 : Nat) (Option.some Jvm.ClassFile.FieldType.long)) ∈ zzW := jw_of (i := 456) (by decide +kernel) (by decide +kernel)
theorem jw_457 : (Jvm.Cond.methodLink "StreamIdsLaw" (58 : Nat) ({ cls := "StreamIds", name := "size", desc := "(I)I" } : Jvm.MethodName)) ∈ zzW := jw_of (i := 457) (by decide +kernel) (by decide +kernel)
theorem jw_458 : (Jvm.Cond.instanceMethod ({ cls := "StreamIds", name := "size", desc := "(I)I" } : Jvm.MethodName)) ∈ zzW := jw_of (i := 458) (by decide +kernel) (by decide +kernel)
theorem jw_459 : (Jvm.Cond.selects "StreamIds" ({ cls := "StreamIds", name := "size", desc := "(I)I" } : Jvm.MethodName) ({ cls := "StreamIds", name := "size", desc := "(I)I" } : Jvm.MethodName)) ∈ zzW := jw_of (i := 459) (by decide +kernel) (by decide +kernel)
theorem jw_460 : (Jvm.Cond.code ({ cls := "StreamIds", name := "size", desc := "(I)I" } : Jvm.MethodName) prog_1_method_11_code (3 : Nat) (Option.some Jvm.ClassFile.FieldType.int)) ∈ zzW := jw_of (i := 460) (by decide +kernel) (by decide +kernel)
theorem jw_461 : (Jvm.Cond.methodLink "StreamIdsLaw" (62 : Nat) ({ cls := "StreamIds", name := "byteAt", desc := "(II)I" } : Jvm.MethodName)) ∈ zzW := jw_of (i := 461) (by decide +kernel) (by decide +kernel)
theorem jw_462 : (Jvm.Cond.instanceMethod ({ cls := "StreamIds", name := "byteAt", desc := "(II)I" } : Jvm.MethodName)) ∈ zzW := jw_of (i := 462) (by decide +kernel) (by decide +kernel)
theorem jw_463 : (Jvm.Cond.selects "StreamIds" ({ cls := "StreamIds", name := "byteAt", desc := "(II)I" } : Jvm.MethodName) ({ cls := "StreamIds", name := "byteAt", desc := "(II)I" } : Jvm.MethodName)) ∈ zzW := jw_of (i := 463) (by decide +kernel) (by decide +kernel)
theorem jw_464 : (Jvm.Cond.code ({ cls := "StreamIds", name := "byteAt", desc := "(II)I" } : Jvm.MethodName) prog_1_method_12_code (4 : Nat) (Option.some Jvm.ClassFile.FieldType.int)) ∈ zzW := jw_of (i := 464) (by decide +kernel) (by decide +kernel)
theorem jw_465 : (Jvm.Cond.methodLink "StreamIds" (130 : Nat) ({ cls := "StreamIds$Layout", name := "at", desc := "(I)I" } : Jvm.MethodName)) ∈ zzW := jw_of (i := 465) (by decide +kernel) (by decide +kernel)
theorem jw_466 : (Jvm.Cond.methodLink "StreamIdsLaw" (66 : Nat) ({ cls := "StreamIds", name := "part", desc := "(II)I" } : Jvm.MethodName)) ∈ zzW := jw_of (i := 466) (by decide +kernel) (by decide +kernel)
theorem jw_467 : (Jvm.Cond.instanceMethod ({ cls := "StreamIds", name := "part", desc := "(II)I" } : Jvm.MethodName)) ∈ zzW := jw_of (i := 467) (by decide +kernel) (by decide +kernel)
theorem jw_468 : (Jvm.Cond.selects "StreamIds" ({ cls := "StreamIds", name := "part", desc := "(II)I" } : Jvm.MethodName) ({ cls := "StreamIds", name := "part", desc := "(II)I" } : Jvm.MethodName)) ∈ zzW := jw_of (i := 468) (by decide +kernel) (by decide +kernel)
theorem jw_469 : (Jvm.Cond.code ({ cls := "StreamIds", name := "part", desc := "(II)I" } : Jvm.MethodName) prog_1_method_13_code (4 : Nat) (Option.some Jvm.ClassFile.FieldType.int)) ∈ zzW := jw_of (i := 469) (by decide +kernel) (by decide +kernel)
theorem jw_470 : (Jvm.Cond.methodLink "StreamIdsLaw" (70 : Nat) ({ cls := "StreamIds", name := "count", desc := "(II)I" } : Jvm.MethodName)) ∈ zzW := jw_of (i := 470) (by decide +kernel) (by decide +kernel)
theorem jw_471 : (Jvm.Cond.instanceMethod ({ cls := "StreamIds", name := "count", desc := "(II)I" } : Jvm.MethodName)) ∈ zzW := jw_of (i := 471) (by decide +kernel) (by decide +kernel)
theorem jw_472 : (Jvm.Cond.selects "StreamIds" ({ cls := "StreamIds", name := "count", desc := "(II)I" } : Jvm.MethodName) ({ cls := "StreamIds", name := "count", desc := "(II)I" } : Jvm.MethodName)) ∈ zzW := jw_of (i := 472) (by decide +kernel) (by decide +kernel)
theorem jw_473 : (Jvm.Cond.code ({ cls := "StreamIds", name := "count", desc := "(II)I" } : Jvm.MethodName) prog_1_method_14_code (4 : Nat) (Option.some Jvm.ClassFile.FieldType.int)) ∈ zzW := jw_of (i := 473) (by decide +kernel) (by decide +kernel)
theorem jw_474 : (Jvm.Cond.methodLink "StreamIds" (140 : Nat) ({ cls := "StreamIds$Row", name := "tally", desc := "(I)I" } : Jvm.MethodName)) ∈ zzW := jw_of (i := 474) (by decide +kernel) (by decide +kernel)
theorem jw_475 : (Jvm.Cond.classLink "StreamIdsLaw" (10 : Nat) "StreamIdsModel") ∈ zzW := jw_of (i := 475) (by decide +kernel) (by decide +kernel)
theorem jw_476 : (Jvm.Cond.instantiable "StreamIdsModel" (17 : Nat)) ∈ zzW := jw_of (i := 476) (by decide +kernel) (by decide +kernel)
theorem jw_477 : (Jvm.Cond.methodLink "StreamIdsLaw" (12 : Nat) ({ cls := "StreamIdsModel", name := "<init>", desc := "()V" } : Jvm.MethodName)) ∈ zzW := jw_of (i := 477) (by decide +kernel) (by decide +kernel)
theorem jw_478 : (Jvm.Cond.instanceMethod ({ cls := "StreamIdsModel", name := "<init>", desc := "()V" } : Jvm.MethodName)) ∈ zzW := jw_of (i := 478) (by decide +kernel) (by decide +kernel)
theorem jw_479 : (Jvm.Cond.code ({ cls := "StreamIdsModel", name := "<init>", desc := "()V" } : Jvm.MethodName) prog_10_method_1_code (1 : Nat) (Option.none : Option Jvm.ClassFile.FieldType)) ∈ zzW := jw_of (i := 479) (by decide +kernel) (by decide +kernel)
theorem jw_480 : (Jvm.Cond.methodLink "StreamIdsModel" (1 : Nat) ({ cls := "java/lang/Object", name := "<init>", desc := "()V" } : Jvm.MethodName)) ∈ zzW := jw_of (i := 480) (by decide +kernel) (by decide +kernel)
theorem jw_481 : (Jvm.Cond.fieldLink "StreamIdsModel" (7 : Nat) "StreamIdsModel" "sign" "[I") ∈ zzW := jw_of (i := 481) (by decide +kernel) (by decide +kernel)
theorem jw_482 : (Jvm.Cond.fieldLink "StreamIdsModel" (13 : Nat) "StreamIdsModel" "length" "[I") ∈ zzW := jw_of (i := 482) (by decide +kernel) (by decide +kernel)
theorem jw_483 : (Jvm.Cond.fieldLink "StreamIdsModel" (16 : Nat) "StreamIdsModel" "there" "[Z") ∈ zzW := jw_of (i := 483) (by decide +kernel) (by decide +kernel)
theorem jw_484 : (Jvm.Cond.fieldLink "StreamIdsModel" (20 : Nat) "StreamIdsModel" "modifiers" "[I") ∈ zzW := jw_of (i := 484) (by decide +kernel) (by decide +kernel)
theorem jw_485 : (Jvm.Cond.fieldLink "StreamIdsModel" (23 : Nat) "StreamIdsModel" "faces" "[I") ∈ zzW := jw_of (i := 485) (by decide +kernel) (by decide +kernel)
theorem jw_486 : (Jvm.Cond.fieldLink "StreamIdsModel" (26 : Nat) "StreamIdsModel" "members" "[I") ∈ zzW := jw_of (i := 486) (by decide +kernel) (by decide +kernel)
theorem jw_487 : (Jvm.Cond.fieldLink "StreamIdsModel" (29 : Nat) "StreamIdsModel" "declared" "[Z") ∈ zzW := jw_of (i := 487) (by decide +kernel) (by decide +kernel)
theorem jw_488 : (Jvm.Cond.fieldLink "StreamIdsModel" (32 : Nat) "StreamIdsModel" "given" "[J") ∈ zzW := jw_of (i := 488) (by decide +kernel) (by decide +kernel)
theorem jw_489 : (Jvm.Cond.fieldLink "StreamIdsModel" (36 : Nat) "StreamIdsModel" "kind" "[I") ∈ zzW := jw_of (i := 489) (by decide +kernel) (by decide +kernel)
theorem jw_490 : (Jvm.Cond.fieldLink "StreamIdsModel" (39 : Nat) "StreamIdsModel" "flags" "[I") ∈ zzW := jw_of (i := 490) (by decide +kernel) (by decide +kernel)
theorem jw_491 : (Jvm.Cond.fieldLink "StreamIdsModel" (42 : Nat) "StreamIdsModel" "bytes" "[I") ∈ zzW := jw_of (i := 491) (by decide +kernel) (by decide +kernel)
theorem jw_492 : (Jvm.Cond.fieldLink "StreamIdsModel" (92 : Nat) "StreamIdsModel" "size" "I") ∈ zzW := jw_of (i := 492) (by decide +kernel) (by decide +kernel)
theorem jw_493 : (Jvm.Cond.fieldLink "StreamIdsModel" (45 : Nat) "StreamIdsModel" "part" "[I") ∈ zzW := jw_of (i := 493) (by decide +kernel) (by decide +kernel)
theorem jw_494 : (Jvm.Cond.fieldLink "StreamIdsModel" (48 : Nat) "StreamIdsModel" "h" "[I") ∈ zzW := jw_of (i := 494) (by decide +kernel) (by decide +kernel)
theorem jw_495 : (Jvm.Cond.fieldLink "StreamIdsModel" (51 : Nat) "StreamIdsModel" "w" "[I") ∈ zzW := jw_of (i := 495) (by decide +kernel) (by decide +kernel)
theorem jw_496 : (Jvm.Cond.fieldLink "StreamIdsModel" (62 : Nat) "StreamIdsModel" "at" "I") ∈ zzW := jw_of (i := 496) (by decide +kernel) (by decide +kernel)
theorem jw_497 : (Jvm.Cond.fieldLink "StreamIdsModel" (58 : Nat) "StreamIdsModel" "end" "I") ∈ zzW := jw_of (i := 497) (by decide +kernel) (by decide +kernel)
theorem jw_498 : (Jvm.Cond.laysFinal "StreamIdsModel" "StreamIdsModel" "sign" "[I") ∈ zzW := jw_of (i := 498) (by decide +kernel) (by decide +kernel)
theorem jw_500 : (Jvm.Cond.laysFinal "StreamIdsModel" "StreamIdsModel" "length" "[I") ∈ zzW := jw_of (i := 500) (by decide +kernel) (by decide +kernel)
theorem jw_502 : (Jvm.Cond.laysFinal "StreamIdsModel" "StreamIdsModel" "there" "[Z") ∈ zzW := jw_of (i := 502) (by decide +kernel) (by decide +kernel)
theorem jw_504 : (Jvm.Cond.laysFinal "StreamIdsModel" "StreamIdsModel" "modifiers" "[I") ∈ zzW := jw_of (i := 504) (by decide +kernel) (by decide +kernel)
theorem jw_506 : (Jvm.Cond.laysFinal "StreamIdsModel" "StreamIdsModel" "faces" "[I") ∈ zzW := jw_of (i := 506) (by decide +kernel) (by decide +kernel)
theorem jw_508 : (Jvm.Cond.laysFinal "StreamIdsModel" "StreamIdsModel" "members" "[I") ∈ zzW := jw_of (i := 508) (by decide +kernel) (by decide +kernel)
theorem jw_510 : (Jvm.Cond.laysFinal "StreamIdsModel" "StreamIdsModel" "declared" "[Z") ∈ zzW := jw_of (i := 510) (by decide +kernel) (by decide +kernel)
theorem jw_512 : (Jvm.Cond.laysFinal "StreamIdsModel" "StreamIdsModel" "given" "[J") ∈ zzW := jw_of (i := 512) (by decide +kernel) (by decide +kernel)
theorem jw_514 : (Jvm.Cond.laysFinal "StreamIdsModel" "StreamIdsModel" "kind" "[I") ∈ zzW := jw_of (i := 514) (by decide +kernel) (by decide +kernel)
theorem jw_516 : (Jvm.Cond.laysFinal "StreamIdsModel" "StreamIdsModel" "flags" "[I") ∈ zzW := jw_of (i := 516) (by decide +kernel) (by decide +kernel)
theorem jw_518 : (Jvm.Cond.laysFinal "StreamIdsModel" "StreamIdsModel" "bytes" "[I") ∈ zzW := jw_of (i := 518) (by decide +kernel) (by decide +kernel)
theorem jw_520 : (Jvm.Cond.lays "StreamIdsModel" "StreamIdsModel" "size" "I") ∈ zzW := jw_of (i := 520) (by decide +kernel) (by decide +kernel)
theorem jw_522 : (Jvm.Cond.laysFinal "StreamIdsModel" "StreamIdsModel" "part" "[I") ∈ zzW := jw_of (i := 522) (by decide +kernel) (by decide +kernel)
theorem jw_524 : (Jvm.Cond.laysFinal "StreamIdsModel" "StreamIdsModel" "h" "[I") ∈ zzW := jw_of (i := 524) (by decide +kernel) (by decide +kernel)
theorem jw_526 : (Jvm.Cond.laysFinal "StreamIdsModel" "StreamIdsModel" "w" "[I") ∈ zzW := jw_of (i := 526) (by decide +kernel) (by decide +kernel)
theorem jw_528 : (Jvm.Cond.lays "StreamIdsModel" "StreamIdsModel" "at" "I") ∈ zzW := jw_of (i := 528) (by decide +kernel) (by decide +kernel)
theorem jw_530 : (Jvm.Cond.lays "StreamIdsModel" "StreamIdsModel" "end" "I") ∈ zzW := jw_of (i := 530) (by decide +kernel) (by decide +kernel)
theorem jw_533 : (Jvm.Cond.arrayClass Jvm.ClassFile.FieldType.boolean) ∈ zzW := jw_of (i := 533) (by decide +kernel) (by decide +kernel)
theorem jw_534 : (Jvm.Cond.arrayClass Jvm.ClassFile.FieldType.long) ∈ zzW := jw_of (i := 534) (by decide +kernel) (by decide +kernel)
theorem jw_535 : (Jvm.Cond.methodLink "StreamIdsLaw" (19 : Nat) ({ cls := "StreamIdsModel", name := "type", desc := "(IJ)I" } : Jvm.MethodName)) ∈ zzW := jw_of (i := 535) (by decide +kernel) (by decide +kernel)
theorem jw_536 : (Jvm.Cond.instanceMethod ({ cls := "StreamIdsModel", name := "type", desc := "(IJ)I" } : Jvm.MethodName)) ∈ zzW := jw_of (i := 536) (by decide +kernel) (by decide +kernel)
theorem jw_537 : (Jvm.Cond.selects "StreamIdsModel" ({ cls := "StreamIdsModel", name := "type", desc := "(IJ)I" } : Jvm.MethodName) ({ cls := "StreamIdsModel", name := "type", desc := "(IJ)I" } : Jvm.MethodName)) ∈ zzW := jw_of (i := 537) (by decide +kernel) (by decide +kernel)
theorem jw_538 : (Jvm.Cond.code ({ cls := "StreamIdsModel", name := "type", desc := "(IJ)I" } : Jvm.MethodName) prog_10_method_4_code (7 : Nat) (Option.some Jvm.ClassFile.FieldType.int)) ∈ zzW := jw_of (i := 538) (by decide +kernel) (by decide +kernel)
theorem jw_539 : (Jvm.Cond.methodLink "StreamIdsModel" (54 : Nat) ({ cls := "StreamIdsModel", name := "out", desc := "(II)Z" } : Jvm.MethodName)) ∈ zzW := jw_of (i := 539) (by decide +kernel) (by decide +kernel)
theorem jw_541 : (Jvm.Cond.instanceMethod ({ cls := "StreamIdsModel", name := "out", desc := "(II)Z" } : Jvm.MethodName)) ∈ zzW := jw_of (i := 541) (by decide +kernel) (by decide +kernel)
theorem jw_542 : (Jvm.Cond.code ({ cls := "StreamIdsModel", name := "out", desc := "(II)Z" } : Jvm.MethodName) prog_10_method_2_code (3 : Nat) (Option.some Jvm.ClassFile.FieldType.boolean)) ∈ zzW := jw_of (i := 542) (by decide +kernel) (by decide +kernel)
theorem jw_543 : (Jvm.Cond.methodLink "StreamIdsLaw" (24 : Nat) ({ cls := "StreamIdsModel", name := "clear", desc := "(I)I" } : Jvm.MethodName)) ∈ zzW := jw_of (i := 543) (by decide +kernel) (by decide +kernel)
theorem jw_544 : (Jvm.Cond.instanceMethod ({ cls := "StreamIdsModel", name := "clear", desc := "(I)I" } : Jvm.MethodName)) ∈ zzW := jw_of (i := 544) (by decide +kernel) (by decide +kernel)
theorem jw_545 : (Jvm.Cond.selects "StreamIdsModel" ({ cls := "StreamIdsModel", name := "clear", desc := "(I)I" } : Jvm.MethodName) ({ cls := "StreamIdsModel", name := "clear", desc := "(I)I" } : Jvm.MethodName)) ∈ zzW := jw_of (i := 545) (by decide +kernel) (by decide +kernel)
theorem jw_546 : (Jvm.Cond.code ({ cls := "StreamIdsModel", name := "clear", desc := "(I)I" } : Jvm.MethodName) prog_10_method_5_code (3 : Nat) (Option.some Jvm.ClassFile.FieldType.int)) ∈ zzW := jw_of (i := 546) (by decide +kernel) (by decide +kernel)
theorem jw_547 : (Jvm.Cond.methodLink "StreamIdsLaw" (29 : Nat) ({ cls := "StreamIdsModel", name := "define", desc := "(II)I" } : Jvm.MethodName)) ∈ zzW := jw_of (i := 547) (by decide +kernel) (by decide +kernel)
theorem jw_548 : (Jvm.Cond.instanceMethod ({ cls := "StreamIdsModel", name := "define", desc := "(II)I" } : Jvm.MethodName)) ∈ zzW := jw_of (i := 548) (by decide +kernel) (by decide +kernel)
theorem jw_549 : (Jvm.Cond.selects "StreamIdsModel" ({ cls := "StreamIdsModel", name := "define", desc := "(II)I" } : Jvm.MethodName) ({ cls := "StreamIdsModel", name := "define", desc := "(II)I" } : Jvm.MethodName)) ∈ zzW := jw_of (i := 549) (by decide +kernel) (by decide +kernel)
theorem jw_550 : (Jvm.Cond.code ({ cls := "StreamIdsModel", name := "define", desc := "(II)I" } : Jvm.MethodName) prog_10_method_11_code (3 : Nat) (Option.some Jvm.ClassFile.FieldType.int)) ∈ zzW := jw_of (i := 550) (by decide +kernel) (by decide +kernel)
theorem jw_551 : (Jvm.Cond.constant "StreamIdsModel" (73 : Nat) (65535 : Int32)) ∈ zzW := jw_of (i := 551) (by decide +kernel) (by decide +kernel)
theorem jw_552 : (Jvm.Cond.methodLink "StreamIdsModel" (74 : Nat) ({ cls := "StreamIdsModel", name := "copy", desc := "(II)V" } : Jvm.MethodName)) ∈ zzW := jw_of (i := 552) (by decide +kernel) (by decide +kernel)
theorem jw_554 : (Jvm.Cond.instanceMethod ({ cls := "StreamIdsModel", name := "copy", desc := "(II)V" } : Jvm.MethodName)) ∈ zzW := jw_of (i := 554) (by decide +kernel) (by decide +kernel)
theorem jw_555 : (Jvm.Cond.code ({ cls := "StreamIdsModel", name := "copy", desc := "(II)V" } : Jvm.MethodName) prog_10_method_6_code (4 : Nat) (Option.none : Option Jvm.ClassFile.FieldType)) ∈ zzW := jw_of (i := 555) (by decide +kernel) (by decide +kernel)
theorem jw_556 : (Jvm.Cond.methodLink "StreamIdsLaw" (33 : Nat) ({ cls := "StreamIdsModel", name := "face", desc := "(I)I" } : Jvm.MethodName)) ∈ zzW := jw_of (i := 556) (by decide +kernel) (by decide +kernel)
theorem jw_557 : (Jvm.Cond.instanceMethod ({ cls := "StreamIdsModel", name := "face", desc := "(I)I" } : Jvm.MethodName)) ∈ zzW := jw_of (i := 557) (by decide +kernel) (by decide +kernel)
theorem jw_558 : (Jvm.Cond.selects "StreamIdsModel" ({ cls := "StreamIdsModel", name := "face", desc := "(I)I" } : Jvm.MethodName) ({ cls := "StreamIdsModel", name := "face", desc := "(I)I" } : Jvm.MethodName)) ∈ zzW := jw_of (i := 558) (by decide +kernel) (by decide +kernel)
theorem jw_559 : (Jvm.Cond.code ({ cls := "StreamIdsModel", name := "face", desc := "(I)I" } : Jvm.MethodName) prog_10_method_12_code (3 : Nat) (Option.some Jvm.ClassFile.FieldType.int)) ∈ zzW := jw_of (i := 559) (by decide +kernel) (by decide +kernel)
theorem jw_560 : (Jvm.Cond.methodLink "StreamIdsModel" (78 : Nat) ({ cls := "StreamIdsModel", name := "none", desc := "(I)Z" } : Jvm.MethodName)) ∈ zzW := jw_of (i := 560) (by decide +kernel) (by decide +kernel)
theorem jw_562 : (Jvm.Cond.instanceMethod ({ cls := "StreamIdsModel", name := "none", desc := "(I)Z" } : Jvm.MethodName)) ∈ zzW := jw_of (i := 562) (by decide +kernel) (by decide +kernel)
theorem jw_563 : (Jvm.Cond.code ({ cls := "StreamIdsModel", name := "none", desc := "(I)Z" } : Jvm.MethodName) prog_10_method_3_code (2 : Nat) (Option.some Jvm.ClassFile.FieldType.boolean)) ∈ zzW := jw_of (i := 563) (by decide +kernel) (by decide +kernel)
theorem jw_564 : (Jvm.Cond.methodLink "StreamIdsModel" (82 : Nat) ({ cls := "StreamIdsModel", name := "compare", desc := "(II)I" } : Jvm.MethodName)) ∈ zzW := jw_of (i := 564) (by decide +kernel) (by decide +kernel)
theorem jw_566 : (Jvm.Cond.instanceMethod ({ cls := "StreamIdsModel", name := "compare", desc := "(II)I" } : Jvm.MethodName)) ∈ zzW := jw_of (i := 566) (by decide +kernel) (by decide +kernel)
theorem jw_567 : (Jvm.Cond.code ({ cls := "StreamIdsModel", name := "compare", desc := "(II)I" } : Jvm.MethodName) prog_10_method_7_code (6 : Nat) (Option.some Jvm.ClassFile.FieldType.int)) ∈ zzW := jw_of (i := 567) (by decide +kernel) (by decide +kernel)
theorem jw_568 : (Jvm.Cond.methodLink "StreamIdsLaw" (38 : Nat) ({ cls := "StreamIdsModel", name := "member", desc := "(III)I" } : Jvm.MethodName)) ∈ zzW := jw_of (i := 568) (by decide +kernel) (by decide +kernel)
theorem jw_569 : (Jvm.Cond.instanceMethod ({ cls := "StreamIdsModel", name := "member", desc := "(III)I" } : Jvm.MethodName)) ∈ zzW := jw_of (i := 569) (by decide +kernel) (by decide +kernel)
theorem jw_570 : (Jvm.Cond.selects "StreamIdsModel" ({ cls := "StreamIdsModel", name := "member", desc := "(III)I" } : Jvm.MethodName) ({ cls := "StreamIdsModel", name := "member", desc := "(III)I" } : Jvm.MethodName)) ∈ zzW := jw_of (i := 570) (by decide +kernel) (by decide +kernel)
theorem jw_571 : (Jvm.Cond.code ({ cls := "StreamIdsModel", name := "member", desc := "(III)I" } : Jvm.MethodName) prog_10_method_14_code (5 : Nat) (Option.some Jvm.ClassFile.FieldType.int)) ∈ zzW := jw_of (i := 571) (by decide +kernel) (by decide +kernel)
theorem jw_572 : (Jvm.Cond.methodLink "StreamIdsModel" (86 : Nat) ({ cls := "StreamIdsModel", name := "goodShape", desc := "(I)Z" } : Jvm.MethodName)) ∈ zzW := jw_of (i := 572) (by decide +kernel) (by decide +kernel)
theorem jw_574 : (Jvm.Cond.instanceMethod ({ cls := "StreamIdsModel", name := "goodShape", desc := "(I)Z" } : Jvm.MethodName)) ∈ zzW := jw_of (i := 574) (by decide +kernel) (by decide +kernel)
theorem jw_575 : (Jvm.Cond.code ({ cls := "StreamIdsModel", name := "goodShape", desc := "(I)Z" } : Jvm.MethodName) prog_10_method_10_code (2 : Nat) (Option.some Jvm.ClassFile.FieldType.boolean)) ∈ zzW := jw_of (i := 575) (by decide +kernel) (by decide +kernel)
theorem jw_576 : (Jvm.Cond.methodLink "StreamIdsModel" (69 : Nat) ({ cls := "StreamIdsModel", name := "passType", desc := "()Z" } : Jvm.MethodName)) ∈ zzW := jw_of (i := 576) (by decide +kernel) (by decide +kernel)
theorem jw_578 : (Jvm.Cond.instanceMethod ({ cls := "StreamIdsModel", name := "passType", desc := "()Z" } : Jvm.MethodName)) ∈ zzW := jw_of (i := 578) (by decide +kernel) (by decide +kernel)
theorem jw_579 : (Jvm.Cond.code ({ cls := "StreamIdsModel", name := "passType", desc := "()Z" } : Jvm.MethodName) prog_10_method_9_code (6 : Nat) (Option.some Jvm.ClassFile.FieldType.boolean)) ∈ zzW := jw_of (i := 579) (by decide +kernel) (by decide +kernel)
theorem jw_580 : (Jvm.Cond.methodLink "StreamIdsModel" (65 : Nat) ({ cls := "StreamIdsModel", name := "signAt", desc := "(I)I" } : Jvm.MethodName)) ∈ zzW := jw_of (i := 580) (by decide +kernel) (by decide +kernel)
theorem jw_582 : (Jvm.Cond.instanceMethod ({ cls := "StreamIdsModel", name := "signAt", desc := "(I)I" } : Jvm.MethodName)) ∈ zzW := jw_of (i := 582) (by decide +kernel) (by decide +kernel)
theorem jw_583 : (Jvm.Cond.code ({ cls := "StreamIdsModel", name := "signAt", desc := "(I)I" } : Jvm.MethodName) prog_10_method_8_code (2 : Nat) (Option.some Jvm.ClassFile.FieldType.int)) ∈ zzW := jw_of (i := 583) (by decide +kernel) (by decide +kernel)
theorem jw_584 : (Jvm.Cond.methodLink "StreamIdsModel" (89 : Nat) ({ cls := "StreamIdsModel", name := "find", desc := "(II)I" } : Jvm.MethodName)) ∈ zzW := jw_of (i := 584) (by decide +kernel) (by decide +kernel)
theorem jw_586 : (Jvm.Cond.instanceMethod ({ cls := "StreamIdsModel", name := "find", desc := "(II)I" } : Jvm.MethodName)) ∈ zzW := jw_of (i := 586) (by decide +kernel) (by decide +kernel)
theorem jw_587 : (Jvm.Cond.code ({ cls := "StreamIdsModel", name := "find", desc := "(II)I" } : Jvm.MethodName) prog_10_method_13_code (6 : Nat) (Option.some Jvm.ClassFile.FieldType.int)) ∈ zzW := jw_of (i := 587) (by decide +kernel) (by decide +kernel)
theorem jw_588 : (Jvm.Cond.methodLink "StreamIdsLaw" (42 : Nat) ({ cls := "StreamIdsModel", name := "remove", desc := "(II)I" } : Jvm.MethodName)) ∈ zzW := jw_of (i := 588) (by decide +kernel) (by decide +kernel)
theorem jw_589 : (Jvm.Cond.instanceMethod ({ cls := "StreamIdsModel", name := "remove", desc := "(II)I" } : Jvm.MethodName)) ∈ zzW := jw_of (i := 589) (by decide +kernel) (by decide +kernel)
theorem jw_590 : (Jvm.Cond.selects "StreamIdsModel" ({ cls := "StreamIdsModel", name := "remove", desc := "(II)I" } : Jvm.MethodName) ({ cls := "StreamIdsModel", name := "remove", desc := "(II)I" } : Jvm.MethodName)) ∈ zzW := jw_of (i := 590) (by decide +kernel) (by decide +kernel)
theorem jw_591 : (Jvm.Cond.code ({ cls := "StreamIdsModel", name := "remove", desc := "(II)I" } : Jvm.MethodName) prog_10_method_15_code (5 : Nat) (Option.some Jvm.ClassFile.FieldType.int)) ∈ zzW := jw_of (i := 591) (by decide +kernel) (by decide +kernel)
theorem jw_592 : (Jvm.Cond.methodLink "StreamIdsLaw" (47 : Nat) ({ cls := "StreamIdsModel", name := "declare", desc := "(IZJ)I" } : Jvm.MethodName)) ∈ zzW := jw_of (i := 592) (by decide +kernel) (by decide +kernel)
theorem jw_593 : (Jvm.Cond.instanceMethod ({ cls := "StreamIdsModel", name := "declare", desc := "(IZJ)I" } : Jvm.MethodName)) ∈ zzW := jw_of (i := 593) (by decide +kernel) (by decide +kernel)
theorem jw_594 : (Jvm.Cond.selects "StreamIdsModel" ({ cls := "StreamIdsModel", name := "declare", desc := "(IZJ)I" } : Jvm.MethodName) ({ cls := "StreamIdsModel", name := "declare", desc := "(IZJ)I" } : Jvm.MethodName)) ∈ zzW := jw_of (i := 594) (by decide +kernel) (by decide +kernel)
theorem jw_595 : (Jvm.Cond.code ({ cls := "StreamIdsModel", name := "declare", desc := "(IZJ)I" } : Jvm.MethodName) prog_10_method_16_code (5 : Nat) (Option.some Jvm.ClassFile.FieldType.int)) ∈ zzW := jw_of (i := 595) (by decide +kernel) (by decide +kernel)
theorem jw_596 : (Jvm.Cond.methodLink "StreamIdsLaw" (52 : Nat) ({ cls := "StreamIdsModel", name := "id", desc := "(I)J" } : Jvm.MethodName)) ∈ zzW := jw_of (i := 596) (by decide +kernel) (by decide +kernel)
theorem jw_597 : (Jvm.Cond.instanceMethod ({ cls := "StreamIdsModel", name := "id", desc := "(I)J" } : Jvm.MethodName)) ∈ zzW := jw_of (i := 597) (by decide +kernel) (by decide +kernel)
theorem jw_598 : (Jvm.Cond.selects "StreamIdsModel" ({ cls := "StreamIdsModel", name := "id", desc := "(I)J" } : Jvm.MethodName) ({ cls := "StreamIdsModel", name := "id", desc := "(I)J" } : Jvm.MethodName)) ∈ zzW := jw_of (i := 598) (by decide +kernel) (by decide +kernel)
theorem jw_599 : (Jvm.Cond.code ({ cls := "StreamIdsModel", name := "id", desc := "(I)J" } : Jvm.MethodName) prog_10_method_32_code (5 : Nat) (Option.some Jvm.ClassFile.FieldType.long)) ∈ zzW := jw_of (i := 599) (by decide +kernel) (by decide +kernel)
theorem jw_600 : (Jvm.Cond.constantLong "StreamIdsModel" (151 : Nat) (-9000000000000000001 : Int64)) ∈ zzW := jw_of (i := 600) (by decide +kernel) (by decide +kernel)
theorem jw_601 : (Jvm.Cond.methodLink "StreamIdsModel" (153 : Nat) ({ cls := "StreamIdsModel", name := "digest", desc := "(I)V" } : Jvm.MethodName)) ∈ zzW := jw_of (i := 601) (by decide +kernel) (by decide +kernel)
theorem jw_603 : (Jvm.Cond.instanceMethod ({ cls := "StreamIdsModel", name := "digest", desc := "(I)V" } : Jvm.MethodName)) ∈ zzW := jw_of (i := 603) (by decide +kernel) (by decide +kernel)
theorem jw_604 : (Jvm.Cond.code ({ cls := "StreamIdsModel", name := "digest", desc := "(I)V" } : Jvm.MethodName) prog_10_method_31_code (4 : Nat) (Option.none : Option Jvm.ClassFile.FieldType)) ∈ zzW := jw_of (i := 604) (by decide +kernel) (by decide +kernel)
theorem jw_605 : (Jvm.Cond.methodLink "StreamIdsModel" (140 : Nat) ({ cls := "StreamIdsModel", name := "build", desc := "(I)V" } : Jvm.MethodName)) ∈ zzW := jw_of (i := 605) (by decide +kernel) (by decide +kernel)
theorem jw_607 : (Jvm.Cond.instanceMethod ({ cls := "StreamIdsModel", name := "build", desc := "(I)V" } : Jvm.MethodName)) ∈ zzW := jw_of (i := 607) (by decide +kernel) (by decide +kernel)
theorem jw_608 : (Jvm.Cond.code ({ cls := "StreamIdsModel", name := "build", desc := "(I)V" } : Jvm.MethodName) prog_10_method_26_code (5 : Nat) (Option.none : Option Jvm.ClassFile.FieldType)) ∈ zzW := jw_of (i := 608) (by decide +kernel) (by decide +kernel)
theorem jw_609 : (Jvm.Cond.methodLink "StreamIdsModel" (110 : Nat) ({ cls := "StreamIdsModel", name := "utf", desc := "(IZ)V" } : Jvm.MethodName)) ∈ zzW := jw_of (i := 609) (by decide +kernel) (by decide +kernel)
theorem jw_611 : (Jvm.Cond.instanceMethod ({ cls := "StreamIdsModel", name := "utf", desc := "(IZ)V" } : Jvm.MethodName)) ∈ zzW := jw_of (i := 611) (by decide +kernel) (by decide +kernel)
theorem jw_612 : (Jvm.Cond.code ({ cls := "StreamIdsModel", name := "utf", desc := "(IZ)V" } : Jvm.MethodName) prog_10_method_19_code (5 : Nat) (Option.none : Option Jvm.ClassFile.FieldType)) ∈ zzW := jw_of (i := 612) (by decide +kernel) (by decide +kernel)
theorem jw_613 : (Jvm.Cond.methodLink "StreamIdsModel" (95 : Nat) ({ cls := "StreamIdsModel", name := "put", desc := "(I)V" } : Jvm.MethodName)) ∈ zzW := jw_of (i := 613) (by decide +kernel) (by decide +kernel)
theorem jw_615 : (Jvm.Cond.instanceMethod ({ cls := "StreamIdsModel", name := "put", desc := "(I)V" } : Jvm.MethodName)) ∈ zzW := jw_of (i := 615) (by decide +kernel) (by decide +kernel)
theorem jw_616 : (Jvm.Cond.code ({ cls := "StreamIdsModel", name := "put", desc := "(I)V" } : Jvm.MethodName) prog_10_method_17_code (2 : Nat) (Option.none : Option Jvm.ClassFile.FieldType)) ∈ zzW := jw_of (i := 616) (by decide +kernel) (by decide +kernel)
theorem jw_617 : (Jvm.Cond.methodLink "StreamIdsModel" (117 : Nat) ({ cls := "StreamIdsModel", name := "counted", desc := "(II)I" } : Jvm.MethodName)) ∈ zzW := jw_of (i := 617) (by decide +kernel) (by decide +kernel)
theorem jw_619 : (Jvm.Cond.instanceMethod ({ cls := "StreamIdsModel", name := "counted", desc := "(II)I" } : Jvm.MethodName)) ∈ zzW := jw_of (i := 619) (by decide +kernel) (by decide +kernel)
theorem jw_620 : (Jvm.Cond.code ({ cls := "StreamIdsModel", name := "counted", desc := "(II)I" } : Jvm.MethodName) prog_10_method_24_code (5 : Nat) (Option.some Jvm.ClassFile.FieldType.int)) ∈ zzW := jw_of (i := 620) (by decide +kernel) (by decide +kernel)
theorem jw_621 : (Jvm.Cond.methodLink "StreamIdsModel" (114 : Nat) ({ cls := "StreamIdsModel", name := "number", desc := "(I)V" } : Jvm.MethodName)) ∈ zzW := jw_of (i := 621) (by decide +kernel) (by decide +kernel)
theorem jw_623 : (Jvm.Cond.instanceMethod ({ cls := "StreamIdsModel", name := "number", desc := "(I)V" } : Jvm.MethodName)) ∈ zzW := jw_of (i := 623) (by decide +kernel) (by decide +kernel)
theorem jw_624 : (Jvm.Cond.code ({ cls := "StreamIdsModel", name := "number", desc := "(I)V" } : Jvm.MethodName) prog_10_method_18_code (3 : Nat) (Option.none : Option Jvm.ClassFile.FieldType)) ∈ zzW := jw_of (i := 624) (by decide +kernel) (by decide +kernel)
theorem jw_625 : (Jvm.Cond.methodLink "StreamIdsModel" (120 : Nat) ({ cls := "StreamIdsModel", name := "nextFace", desc := "(II)I" } : Jvm.MethodName)) ∈ zzW := jw_of (i := 625) (by decide +kernel) (by decide +kernel)
theorem jw_627 : (Jvm.Cond.instanceMethod ({ cls := "StreamIdsModel", name := "nextFace", desc := "(II)I" } : Jvm.MethodName)) ∈ zzW := jw_of (i := 627) (by decide +kernel) (by decide +kernel)
theorem jw_628 : (Jvm.Cond.code ({ cls := "StreamIdsModel", name := "nextFace", desc := "(II)I" } : Jvm.MethodName) prog_10_method_23_code (5 : Nat) (Option.some Jvm.ClassFile.FieldType.int)) ∈ zzW := jw_of (i := 628) (by decide +kernel) (by decide +kernel)
theorem jw_629 : (Jvm.Cond.methodLink "StreamIdsModel" (123 : Nat) ({ cls := "StreamIdsModel", name := "writeMembers", desc := "(II)V" } : Jvm.MethodName)) ∈ zzW := jw_of (i := 629) (by decide +kernel) (by decide +kernel)
theorem jw_631 : (Jvm.Cond.instanceMethod ({ cls := "StreamIdsModel", name := "writeMembers", desc := "(II)V" } : Jvm.MethodName)) ∈ zzW := jw_of (i := 631) (by decide +kernel) (by decide +kernel)
theorem jw_632 : (Jvm.Cond.code ({ cls := "StreamIdsModel", name := "writeMembers", desc := "(II)V" } : Jvm.MethodName) prog_10_method_25_code (6 : Nat) (Option.none : Option Jvm.ClassFile.FieldType)) ∈ zzW := jw_of (i := 632) (by decide +kernel) (by decide +kernel)
theorem jw_633 : (Jvm.Cond.methodLink "StreamIdsModel" (103 : Nat) ({ cls := "StreamIdsModel", name := "following", desc := "(III)I" } : Jvm.MethodName)) ∈ zzW := jw_of (i := 633) (by decide +kernel) (by decide +kernel)
theorem jw_635 : (Jvm.Cond.instanceMethod ({ cls := "StreamIdsModel", name := "following", desc := "(III)I" } : Jvm.MethodName)) ∈ zzW := jw_of (i := 635) (by decide +kernel) (by decide +kernel)
theorem jw_636 : (Jvm.Cond.code ({ cls := "StreamIdsModel", name := "following", desc := "(III)I" } : Jvm.MethodName) prog_10_method_22_code (6 : Nat) (Option.some Jvm.ClassFile.FieldType.int)) ∈ zzW := jw_of (i := 636) (by decide +kernel) (by decide +kernel)
theorem jw_637 : (Jvm.Cond.methodLink "StreamIdsModel" (99 : Nat) ({ cls := "StreamIdsModel", name := "orderOf", desc := "(III)I" } : Jvm.MethodName)) ∈ zzW := jw_of (i := 637) (by decide +kernel) (by decide +kernel)
theorem jw_639 : (Jvm.Cond.instanceMethod ({ cls := "StreamIdsModel", name := "orderOf", desc := "(III)I" } : Jvm.MethodName)) ∈ zzW := jw_of (i := 639) (by decide +kernel) (by decide +kernel)
theorem jw_640 : (Jvm.Cond.code ({ cls := "StreamIdsModel", name := "orderOf", desc := "(III)I" } : Jvm.MethodName) prog_10_method_21_code (5 : Nat) (Option.some Jvm.ClassFile.FieldType.int)) ∈ zzW := jw_of (i := 640) (by decide +kernel) (by decide +kernel)
theorem jw_641 : (Jvm.Cond.methodLink "StreamIdsModel" (106 : Nat) ({ cls := "StreamIdsModel", name := "initName", desc := "(Z)V" } : Jvm.MethodName)) ∈ zzW := jw_of (i := 641) (by decide +kernel) (by decide +kernel)
theorem jw_643 : (Jvm.Cond.instanceMethod ({ cls := "StreamIdsModel", name := "initName", desc := "(Z)V" } : Jvm.MethodName)) ∈ zzW := jw_of (i := 643) (by decide +kernel) (by decide +kernel)
theorem jw_644 : (Jvm.Cond.code ({ cls := "StreamIdsModel", name := "initName", desc := "(Z)V" } : Jvm.MethodName) prog_10_method_20_code (2 : Nat) (Option.none : Option Jvm.ClassFile.FieldType)) ∈ zzW := jw_of (i := 644) (by decide +kernel) (by decide +kernel)
theorem jw_645 : (Jvm.Cond.constant "StreamIdsModel" (143 : Nat) (1732584193 : Int32)) ∈ zzW := jw_of (i := 645) (by decide +kernel) (by decide +kernel)
theorem jw_646 : (Jvm.Cond.constant "StreamIdsModel" (144 : Nat) (-271733879 : Int32)) ∈ zzW := jw_of (i := 646) (by decide +kernel) (by decide +kernel)
theorem jw_647 : (Jvm.Cond.constant "StreamIdsModel" (145 : Nat) (-1732584194 : Int32)) ∈ zzW := jw_of (i := 647) (by decide +kernel) (by decide +kernel)
theorem jw_648 : (Jvm.Cond.constant "StreamIdsModel" (146 : Nat) (271733878 : Int32)) ∈ zzW := jw_of (i := 648) (by decide +kernel) (by decide +kernel)
theorem jw_649 : (Jvm.Cond.constant "StreamIdsModel" (147 : Nat) (-1009589776 : Int32)) ∈ zzW := jw_of (i := 649) (by decide +kernel) (by decide +kernel)
theorem jw_650 : (Jvm.Cond.methodLink "StreamIdsModel" (148 : Nat) ({ cls := "StreamIdsModel", name := "block", desc := "(I)V" } : Jvm.MethodName)) ∈ zzW := jw_of (i := 650) (by decide +kernel) (by decide +kernel)
theorem jw_652 : (Jvm.Cond.instanceMethod ({ cls := "StreamIdsModel", name := "block", desc := "(I)V" } : Jvm.MethodName)) ∈ zzW := jw_of (i := 652) (by decide +kernel) (by decide +kernel)
theorem jw_653 : (Jvm.Cond.code ({ cls := "StreamIdsModel", name := "block", desc := "(I)V" } : Jvm.MethodName) prog_10_method_30_code (9 : Nat) (Option.none : Option Jvm.ClassFile.FieldType)) ∈ zzW := jw_of (i := 653) (by decide +kernel) (by decide +kernel)
theorem jw_654 : (Jvm.Cond.methodLink "StreamIdsModel" (130 : Nat) ({ cls := "StreamIdsModel", name := "turned", desc := "(II)I" } : Jvm.MethodName)) ∈ zzW := jw_of (i := 654) (by decide +kernel) (by decide +kernel)
theorem jw_656 : (Jvm.Cond.instanceMethod ({ cls := "StreamIdsModel", name := "turned", desc := "(II)I" } : Jvm.MethodName)) ∈ zzW := jw_of (i := 656) (by decide +kernel) (by decide +kernel)
theorem jw_657 : (Jvm.Cond.code ({ cls := "StreamIdsModel", name := "turned", desc := "(II)I" } : Jvm.MethodName) prog_10_method_27_code (3 : Nat) (Option.some Jvm.ClassFile.FieldType.int)) ∈ zzW := jw_of (i := 657) (by decide +kernel) (by decide +kernel)
theorem jw_658 : (Jvm.Cond.methodLink "StreamIdsModel" (133 : Nat) ({ cls := "StreamIdsModel", name := "mixed", desc := "(IIII)I" } : Jvm.MethodName)) ∈ zzW := jw_of (i := 658) (by decide +kernel) (by decide +kernel)
theorem jw_660 : (Jvm.Cond.instanceMethod ({ cls := "StreamIdsModel", name := "mixed", desc := "(IIII)I" } : Jvm.MethodName)) ∈ zzW := jw_of (i := 660) (by decide +kernel) (by decide +kernel)
theorem jw_661 : (Jvm.Cond.code ({ cls := "StreamIdsModel", name := "mixed", desc := "(IIII)I" } : Jvm.MethodName) prog_10_method_28_code (5 : Nat) (Option.some Jvm.ClassFile.FieldType.int)) ∈ zzW := jw_of (i := 661) (by decide +kernel) (by decide +kernel)
theorem jw_662 : (Jvm.Cond.methodLink "StreamIdsModel" (137 : Nat) ({ cls := "StreamIdsModel", name := "constant", desc := "(I)I" } : Jvm.MethodName)) ∈ zzW := jw_of (i := 662) (by decide +kernel) (by decide +kernel)
theorem jw_664 : (Jvm.Cond.instanceMethod ({ cls := "StreamIdsModel", name := "constant", desc := "(I)I" } : Jvm.MethodName)) ∈ zzW := jw_of (i := 664) (by decide +kernel) (by decide +kernel)
theorem jw_665 : (Jvm.Cond.code ({ cls := "StreamIdsModel", name := "constant", desc := "(I)I" } : Jvm.MethodName) prog_10_method_29_code (2 : Nat) (Option.some Jvm.ClassFile.FieldType.int)) ∈ zzW := jw_of (i := 665) (by decide +kernel) (by decide +kernel)
theorem jw_666 : (Jvm.Cond.constant "StreamIdsModel" (126 : Nat) (1518500249 : Int32)) ∈ zzW := jw_of (i := 666) (by decide +kernel) (by decide +kernel)
theorem jw_667 : (Jvm.Cond.constant "StreamIdsModel" (127 : Nat) (1859775393 : Int32)) ∈ zzW := jw_of (i := 667) (by decide +kernel) (by decide +kernel)
theorem jw_668 : (Jvm.Cond.constant "StreamIdsModel" (128 : Nat) (-1894007588 : Int32)) ∈ zzW := jw_of (i := 668) (by decide +kernel) (by decide +kernel)
theorem jw_669 : (Jvm.Cond.constant "StreamIdsModel" (129 : Nat) (-899497514 : Int32)) ∈ zzW := jw_of (i := 669) (by decide +kernel) (by decide +kernel)
theorem jw_670 : (Jvm.Cond.methodLink "StreamIdsLaw" (57 : Nat) ({ cls := "StreamIdsModel", name := "hash", desc := "(II)J" } : Jvm.MethodName)) ∈ zzW := jw_of (i := 670) (by decide +kernel) (by decide +kernel)
theorem jw_671 : (Jvm.Cond.instanceMethod ({ cls := "StreamIdsModel", name := "hash", desc := "(II)J" } : Jvm.MethodName)) ∈ zzW := jw_of (i := 671) (by decide +kernel) (by decide +kernel)
theorem jw_672 : (Jvm.Cond.selects "StreamIdsModel" ({ cls := "StreamIdsModel", name := "hash", desc := "(II)J" } : Jvm.MethodName) ({ cls := "StreamIdsModel", name := "hash", desc := "(II)J" } : Jvm.MethodName)) ∈ zzW := jw_of (i := 672) (by decide +kernel) (by decide +kernel)
theorem jw_673 : (Jvm.Cond.code ({ cls := "StreamIdsModel", name := "hash", desc := "(II)J" } : Jvm.MethodName) prog_10_method_33_code (3 : Nat) (Option.some Jvm.ClassFile.FieldType.long)) ∈ zzW := jw_of (i := 673) (by decide +kernel) (by decide +kernel)
theorem jw_674 : (Jvm.Cond.methodLink "StreamIdsLaw" (61 : Nat) ({ cls := "StreamIdsModel", name := "size", desc := "(I)I" } : Jvm.MethodName)) ∈ zzW := jw_of (i := 674) (by decide +kernel) (by decide +kernel)
theorem jw_675 : (Jvm.Cond.instanceMethod ({ cls := "StreamIdsModel", name := "size", desc := "(I)I" } : Jvm.MethodName)) ∈ zzW := jw_of (i := 675) (by decide +kernel) (by decide +kernel)
theorem jw_676 : (Jvm.Cond.selects "StreamIdsModel" ({ cls := "StreamIdsModel", name := "size", desc := "(I)I" } : Jvm.MethodName) ({ cls := "StreamIdsModel", name := "size", desc := "(I)I" } : Jvm.MethodName)) ∈ zzW := jw_of (i := 676) (by decide +kernel) (by decide +kernel)
theorem jw_677 : (Jvm.Cond.code ({ cls := "StreamIdsModel", name := "size", desc := "(I)I" } : Jvm.MethodName) prog_10_method_34_code (2 : Nat) (Option.some Jvm.ClassFile.FieldType.int)) ∈ zzW := jw_of (i := 677) (by decide +kernel) (by decide +kernel)
theorem jw_678 : (Jvm.Cond.methodLink "StreamIdsLaw" (65 : Nat) ({ cls := "StreamIdsModel", name := "byteAt", desc := "(II)I" } : Jvm.MethodName)) ∈ zzW := jw_of (i := 678) (by decide +kernel) (by decide +kernel)
theorem jw_679 : (Jvm.Cond.instanceMethod ({ cls := "StreamIdsModel", name := "byteAt", desc := "(II)I" } : Jvm.MethodName)) ∈ zzW := jw_of (i := 679) (by decide +kernel) (by decide +kernel)
theorem jw_680 : (Jvm.Cond.selects "StreamIdsModel" ({ cls := "StreamIdsModel", name := "byteAt", desc := "(II)I" } : Jvm.MethodName) ({ cls := "StreamIdsModel", name := "byteAt", desc := "(II)I" } : Jvm.MethodName)) ∈ zzW := jw_of (i := 680) (by decide +kernel) (by decide +kernel)
theorem jw_681 : (Jvm.Cond.code ({ cls := "StreamIdsModel", name := "byteAt", desc := "(II)I" } : Jvm.MethodName) prog_10_method_35_code (3 : Nat) (Option.some Jvm.ClassFile.FieldType.int)) ∈ zzW := jw_of (i := 681) (by decide +kernel) (by decide +kernel)
theorem jw_682 : (Jvm.Cond.methodLink "StreamIdsLaw" (69 : Nat) ({ cls := "StreamIdsModel", name := "part", desc := "(II)I" } : Jvm.MethodName)) ∈ zzW := jw_of (i := 682) (by decide +kernel) (by decide +kernel)
theorem jw_683 : (Jvm.Cond.instanceMethod ({ cls := "StreamIdsModel", name := "part", desc := "(II)I" } : Jvm.MethodName)) ∈ zzW := jw_of (i := 683) (by decide +kernel) (by decide +kernel)
theorem jw_684 : (Jvm.Cond.selects "StreamIdsModel" ({ cls := "StreamIdsModel", name := "part", desc := "(II)I" } : Jvm.MethodName) ({ cls := "StreamIdsModel", name := "part", desc := "(II)I" } : Jvm.MethodName)) ∈ zzW := jw_of (i := 684) (by decide +kernel) (by decide +kernel)
theorem jw_685 : (Jvm.Cond.code ({ cls := "StreamIdsModel", name := "part", desc := "(II)I" } : Jvm.MethodName) prog_10_method_36_code (3 : Nat) (Option.some Jvm.ClassFile.FieldType.int)) ∈ zzW := jw_of (i := 685) (by decide +kernel) (by decide +kernel)
theorem jw_686 : (Jvm.Cond.methodLink "StreamIdsLaw" (73 : Nat) ({ cls := "StreamIdsModel", name := "count", desc := "(II)I" } : Jvm.MethodName)) ∈ zzW := jw_of (i := 686) (by decide +kernel) (by decide +kernel)
theorem jw_687 : (Jvm.Cond.instanceMethod ({ cls := "StreamIdsModel", name := "count", desc := "(II)I" } : Jvm.MethodName)) ∈ zzW := jw_of (i := 687) (by decide +kernel) (by decide +kernel)
theorem jw_688 : (Jvm.Cond.selects "StreamIdsModel" ({ cls := "StreamIdsModel", name := "count", desc := "(II)I" } : Jvm.MethodName) ({ cls := "StreamIdsModel", name := "count", desc := "(II)I" } : Jvm.MethodName)) ∈ zzW := jw_of (i := 688) (by decide +kernel) (by decide +kernel)
theorem jw_689 : (Jvm.Cond.code ({ cls := "StreamIdsModel", name := "count", desc := "(II)I" } : Jvm.MethodName) prog_10_method_37_code (3 : Nat) (Option.some Jvm.ClassFile.FieldType.int)) ∈ zzW := jw_of (i := 689) (by decide +kernel) (by decide +kernel)
theorem jw_690 : (Jvm.Cond.constantLong "StreamIdsLaw" (13 : Nat) (4294967295 : Int64)) ∈ zzW := jw_of (i := 690) (by decide +kernel) (by decide +kernel)
theorem jw_691 : (Jvm.Cond.fieldLink "java/lang/String" (9 : Nat) "java/lang/String" "value" "[B") ∈ zzW := jw_of (i := 691) (by decide +kernel) (by decide +kernel)
theorem jw_692 : (Jvm.Cond.fieldLink "java/lang/String" (15 : Nat) "java/lang/String" "coder" "B") ∈ zzW := jw_of (i := 692) (by decide +kernel) (by decide +kernel)
theorem jws_0 : Cond.selects "StreamIds" (⟨"StreamIds", "bufferOf", "(I)LStreamIds$Text;"⟩) (⟨"StreamIds", "bufferOf", "(I)LStreamIds$Text;"⟩) ∈ zzW := jw_sel (i := 0) (by decide +kernel) (by decide +kernel)
theorem jws_1 : Cond.selects "StreamIds" (⟨"StreamIds", "declarationOf", "(I)LStreamIds$Declaration;"⟩) (⟨"StreamIds", "declarationOf", "(I)LStreamIds$Declaration;"⟩) ∈ zzW := jw_sel (i := 1) (by decide +kernel) (by decide +kernel)
theorem jws_2 : Cond.selects "StreamIds$Row" (⟨"StreamIds$Row", "placeOf", "(ILStreamIds$Text;LStreamIds$Text;)I"⟩) (⟨"StreamIds$Row", "placeOf", "(ILStreamIds$Text;LStreamIds$Text;)I"⟩) ∈ zzW := jw_sel (i := 2) (by decide +kernel) (by decide +kernel)
theorem jws_3 : Cond.selects "StreamIds$Row" (⟨"StreamIds$Row", "isAt", "(IILStreamIds$Text;LStreamIds$Text;)Z"⟩) (⟨"StreamIds$Row", "isAt", "(IILStreamIds$Text;LStreamIds$Text;)Z"⟩) ∈ zzW := jw_sel (i := 3) (by decide +kernel) (by decide +kernel)
theorem jws_4 : Cond.selects "StreamIds" (⟨"StreamIds", "isNameFor", "(I)Z"⟩) (⟨"StreamIds", "isNameFor", "(I)Z"⟩) ∈ zzW := jw_sel (i := 4) (by decide +kernel) (by decide +kernel)
theorem jws_5 : Cond.selects "StreamIds" (⟨"StreamIds", "isShapeFor", "(I)Z"⟩) (⟨"StreamIds", "isShapeFor", "(I)Z"⟩) ∈ zzW := jw_sel (i := 5) (by decide +kernel) (by decide +kernel)
theorem jws_6 : Cond.selects "StreamIds$Layout" (⟨"StreamIds$Layout", "putText", "(LStreamIds$Text;)V"⟩) (⟨"StreamIds$Layout", "putText", "(LStreamIds$Text;)V"⟩) ∈ zzW := jw_sel (i := 6) (by decide +kernel) (by decide +kernel)
theorem jws_7 : Cond.selects "StreamIds$Layout" (⟨"StreamIds$Layout", "putLength", "(I)V"⟩) (⟨"StreamIds$Layout", "putLength", "(I)V"⟩) ∈ zzW := jw_sel (i := 7) (by decide +kernel) (by decide +kernel)
theorem jws_8 : Cond.selects "StreamIds$Layout" (⟨"StreamIds$Layout", "put", "(I)V"⟩) (⟨"StreamIds$Layout", "put", "(I)V"⟩) ∈ zzW := jw_sel (i := 8) (by decide +kernel) (by decide +kernel)
theorem jws_9 : Cond.selects "StreamIds$Layout" (⟨"StreamIds$Layout", "putNumber", "(I)V"⟩) (⟨"StreamIds$Layout", "putNumber", "(I)V"⟩) ∈ zzW := jw_sel (i := 9) (by decide +kernel) (by decide +kernel)
theorem jws_10 : Cond.selects "StreamIds$Layout" (⟨"StreamIds$Layout", "putAll", "(LStreamIds$Row;I)V"⟩) (⟨"StreamIds$Layout", "putAll", "(LStreamIds$Row;I)V"⟩) ∈ zzW := jw_sel (i := 10) (by decide +kernel) (by decide +kernel)
theorem jws_11 : Cond.selects "StreamIds$Layout" (⟨"StreamIds$Layout", "putEntry", "(LStreamIds$Entry;)V"⟩) (⟨"StreamIds$Layout", "putEntry", "(LStreamIds$Entry;)V"⟩) ∈ zzW := jw_sel (i := 11) (by decide +kernel) (by decide +kernel)
theorem jws_12 : Cond.selects "StreamIds$Layout" (⟨"StreamIds$Layout", "putConstant", "(Ljava/lang/String;)V"⟩) (⟨"StreamIds$Layout", "putConstant", "(Ljava/lang/String;)V"⟩) ∈ zzW := jw_sel (i := 12) (by decide +kernel) (by decide +kernel)
theorem jws_13 : Cond.selects "StreamIds$Layout" (⟨"StreamIds$Layout", "putDotted", "(LStreamIds$Text;)V"⟩) (⟨"StreamIds$Layout", "putDotted", "(LStreamIds$Text;)V"⟩) ∈ zzW := jw_sel (i := 13) (by decide +kernel) (by decide +kernel)
theorem jws_14 : Cond.selects "StreamIds$Digest" (⟨"StreamIds$Digest", "fillWords", "(LStreamIds$Layout;II)V"⟩) (⟨"StreamIds$Digest", "fillWords", "(LStreamIds$Layout;II)V"⟩) ∈ zzW := jw_sel (i := 14) (by decide +kernel) (by decide +kernel)
theorem jws_15 : Cond.selects "StreamIds$Digest" (⟨"StreamIds$Digest", "mixWords", "()V"⟩) (⟨"StreamIds$Digest", "mixWords", "()V"⟩) ∈ zzW := jw_sel (i := 15) (by decide +kernel) (by decide +kernel)
theorem jws_16 : Cond.selects "StreamIdsModel" (⟨"StreamIdsModel", "out", "(II)Z"⟩) (⟨"StreamIdsModel", "out", "(II)Z"⟩) ∈ zzW := jw_sel (i := 16) (by decide +kernel) (by decide +kernel)
theorem jws_17 : Cond.selects "StreamIdsModel" (⟨"StreamIdsModel", "copy", "(II)V"⟩) (⟨"StreamIdsModel", "copy", "(II)V"⟩) ∈ zzW := jw_sel (i := 17) (by decide +kernel) (by decide +kernel)
theorem jws_18 : Cond.selects "StreamIdsModel" (⟨"StreamIdsModel", "none", "(I)Z"⟩) (⟨"StreamIdsModel", "none", "(I)Z"⟩) ∈ zzW := jw_sel (i := 18) (by decide +kernel) (by decide +kernel)
theorem jws_19 : Cond.selects "StreamIdsModel" (⟨"StreamIdsModel", "compare", "(II)I"⟩) (⟨"StreamIdsModel", "compare", "(II)I"⟩) ∈ zzW := jw_sel (i := 19) (by decide +kernel) (by decide +kernel)
theorem jws_20 : Cond.selects "StreamIdsModel" (⟨"StreamIdsModel", "goodShape", "(I)Z"⟩) (⟨"StreamIdsModel", "goodShape", "(I)Z"⟩) ∈ zzW := jw_sel (i := 20) (by decide +kernel) (by decide +kernel)
theorem jws_21 : Cond.selects "StreamIdsModel" (⟨"StreamIdsModel", "passType", "()Z"⟩) (⟨"StreamIdsModel", "passType", "()Z"⟩) ∈ zzW := jw_sel (i := 21) (by decide +kernel) (by decide +kernel)
theorem jws_22 : Cond.selects "StreamIdsModel" (⟨"StreamIdsModel", "signAt", "(I)I"⟩) (⟨"StreamIdsModel", "signAt", "(I)I"⟩) ∈ zzW := jw_sel (i := 22) (by decide +kernel) (by decide +kernel)
theorem jws_23 : Cond.selects "StreamIdsModel" (⟨"StreamIdsModel", "find", "(II)I"⟩) (⟨"StreamIdsModel", "find", "(II)I"⟩) ∈ zzW := jw_sel (i := 23) (by decide +kernel) (by decide +kernel)
theorem jws_24 : Cond.selects "StreamIdsModel" (⟨"StreamIdsModel", "digest", "(I)V"⟩) (⟨"StreamIdsModel", "digest", "(I)V"⟩) ∈ zzW := jw_sel (i := 24) (by decide +kernel) (by decide +kernel)
theorem jws_25 : Cond.selects "StreamIdsModel" (⟨"StreamIdsModel", "build", "(I)V"⟩) (⟨"StreamIdsModel", "build", "(I)V"⟩) ∈ zzW := jw_sel (i := 25) (by decide +kernel) (by decide +kernel)
theorem jws_26 : Cond.selects "StreamIdsModel" (⟨"StreamIdsModel", "utf", "(IZ)V"⟩) (⟨"StreamIdsModel", "utf", "(IZ)V"⟩) ∈ zzW := jw_sel (i := 26) (by decide +kernel) (by decide +kernel)
theorem jws_27 : Cond.selects "StreamIdsModel" (⟨"StreamIdsModel", "put", "(I)V"⟩) (⟨"StreamIdsModel", "put", "(I)V"⟩) ∈ zzW := jw_sel (i := 27) (by decide +kernel) (by decide +kernel)
theorem jws_28 : Cond.selects "StreamIdsModel" (⟨"StreamIdsModel", "counted", "(II)I"⟩) (⟨"StreamIdsModel", "counted", "(II)I"⟩) ∈ zzW := jw_sel (i := 28) (by decide +kernel) (by decide +kernel)
theorem jws_29 : Cond.selects "StreamIdsModel" (⟨"StreamIdsModel", "number", "(I)V"⟩) (⟨"StreamIdsModel", "number", "(I)V"⟩) ∈ zzW := jw_sel (i := 29) (by decide +kernel) (by decide +kernel)
theorem jws_30 : Cond.selects "StreamIdsModel" (⟨"StreamIdsModel", "nextFace", "(II)I"⟩) (⟨"StreamIdsModel", "nextFace", "(II)I"⟩) ∈ zzW := jw_sel (i := 30) (by decide +kernel) (by decide +kernel)
theorem jws_31 : Cond.selects "StreamIdsModel" (⟨"StreamIdsModel", "writeMembers", "(II)V"⟩) (⟨"StreamIdsModel", "writeMembers", "(II)V"⟩) ∈ zzW := jw_sel (i := 31) (by decide +kernel) (by decide +kernel)
theorem jws_32 : Cond.selects "StreamIdsModel" (⟨"StreamIdsModel", "following", "(III)I"⟩) (⟨"StreamIdsModel", "following", "(III)I"⟩) ∈ zzW := jw_sel (i := 32) (by decide +kernel) (by decide +kernel)
theorem jws_33 : Cond.selects "StreamIdsModel" (⟨"StreamIdsModel", "orderOf", "(III)I"⟩) (⟨"StreamIdsModel", "orderOf", "(III)I"⟩) ∈ zzW := jw_sel (i := 33) (by decide +kernel) (by decide +kernel)
theorem jws_34 : Cond.selects "StreamIdsModel" (⟨"StreamIdsModel", "initName", "(Z)V"⟩) (⟨"StreamIdsModel", "initName", "(Z)V"⟩) ∈ zzW := jw_sel (i := 34) (by decide +kernel) (by decide +kernel)
theorem jws_35 : Cond.selects "StreamIdsModel" (⟨"StreamIdsModel", "block", "(I)V"⟩) (⟨"StreamIdsModel", "block", "(I)V"⟩) ∈ zzW := jw_sel (i := 35) (by decide +kernel) (by decide +kernel)
theorem jws_36 : Cond.selects "StreamIdsModel" (⟨"StreamIdsModel", "turned", "(II)I"⟩) (⟨"StreamIdsModel", "turned", "(II)I"⟩) ∈ zzW := jw_sel (i := 36) (by decide +kernel) (by decide +kernel)
theorem jws_37 : Cond.selects "StreamIdsModel" (⟨"StreamIdsModel", "mixed", "(IIII)I"⟩) (⟨"StreamIdsModel", "mixed", "(IIII)I"⟩) ∈ zzW := jw_sel (i := 37) (by decide +kernel) (by decide +kernel)
theorem jws_38 : Cond.selects "StreamIdsModel" (⟨"StreamIdsModel", "constant", "(I)I"⟩) (⟨"StreamIdsModel", "constant", "(I)I"⟩) ∈ zzW := jw_sel (i := 38) (by decide +kernel) (by decide +kernel)
def jT_S : u_T := fun k => match k with
  | 0 => ("StreamIds", "name", "LStreamIds$Text;", true)
  | 1 => ("StreamIds", "shape", "LStreamIds$Text;", true)
  | 2 => ("StreamIds", "declarations", "[LStreamIds$Declaration;", true)
  | 3 => ("StreamIds", "layout", "LStreamIds$Layout;", true)
  | _ => ("StreamIds", "digest", "LStreamIds$Digest;", true)
def jt_S : Nat → FieldType := fun k => match k with
  | 0 => .object "StreamIds$Text"
  | 1 => .object "StreamIds$Text"
  | 2 => .array (.object "StreamIds$Declaration")
  | 3 => .object "StreamIds$Layout"
  | _ => .object "StreamIds$Digest"
theorem jn_S : ∀ a, a < 5 → ∀ b, b < 5 → a ≠ b → (jT_S a).2.1 ≠ (jT_S b).2.1 := by decide +kernel
theorem jt_S_ok : ∀ k, k < 5 → parseFieldDescriptor (jT_S k).2.2.1 = some (jt_S k) := by decide +kernel
theorem ju_S : ∀ w ∈ u_ws "StreamIds" jT_S 5, w ∈ zzW := by
  intro w hw
  obtain ⟨k, hk, rfl⟩ := List.mem_map.mp hw
  have hk := List.mem_range.mp hk
  match k, hk with
  | 0, _ => exact jw_164
  | 1, _ => exact jw_166
  | 2, _ => exact jw_168
  | 3, _ => exact jw_170
  | 4, _ => exact jw_172
  | k + 5, h => exact absurd h (by omega)
def jT_T : u_T := fun k => match k with
  | 0 => ("StreamIds$Text", "signs", "[B", true)
  | _ => ("StreamIds$Text", "length", "I", false)
def jt_T : Nat → FieldType := fun k => match k with
  | 0 => .array .byte
  | _ => .int
theorem jn_T : ∀ a, a < 2 → ∀ b, b < 2 → a ≠ b → (jT_T a).2.1 ≠ (jT_T b).2.1 := by decide +kernel
theorem jt_T_ok : ∀ k, k < 2 → parseFieldDescriptor (jT_T k).2.2.1 = some (jt_T k) := by decide +kernel
theorem ju_T : ∀ w ∈ u_ws "StreamIds$Text" jT_T 2, w ∈ zzW := by
  intro w hw
  obtain ⟨k, hk, rfl⟩ := List.mem_map.mp hw
  have hk := List.mem_range.mp hk
  match k, hk with
  | 0, _ => exact jw_35
  | 1, _ => exact jw_37
  | k + 2, h => exact absurd h (by omega)
def jT_L : u_T := fun k => match k with
  | 0 => ("StreamIds$Layout", "bytes", "[B", true)
  | 1 => ("StreamIds$Layout", "length", "I", false)
  | _ => ("StreamIds$Layout", "begins", "[I", true)
def jt_L : Nat → FieldType := fun k => match k with
  | 0 => .array .byte
  | 1 => .int
  | _ => .array .int
theorem jn_L : ∀ a, a < 3 → ∀ b, b < 3 → a ≠ b → (jT_L a).2.1 ≠ (jT_L b).2.1 := by decide +kernel
theorem jt_L_ok : ∀ k, k < 3 → parseFieldDescriptor (jT_L k).2.2.1 = some (jt_L k) := by decide +kernel
theorem ju_L : ∀ w ∈ u_ws "StreamIds$Layout" jT_L 3, w ∈ zzW := by
  intro w hw
  obtain ⟨k, hk, rfl⟩ := List.mem_map.mp hw
  have hk := List.mem_range.mp hk
  match k, hk with
  | 0, _ => exact jw_55
  | 1, _ => exact jw_57
  | 2, _ => exact jw_59
  | k + 3, h => exact absurd h (by omega)
def jT_G : u_T := fun k => match k with
  | 0 => ("StreamIds$Digest", "numbers", "[I", true)
  | _ => ("StreamIds$Digest", "words", "[I", true)
def jt_G : Nat → FieldType := fun k => match k with
  | 0 => .array .int
  | _ => .array .int
theorem jn_G : ∀ a, a < 2 → ∀ b, b < 2 → a ≠ b → (jT_G a).2.1 ≠ (jT_G b).2.1 := by decide +kernel
theorem jt_G_ok : ∀ k, k < 2 → parseFieldDescriptor (jT_G k).2.2.1 = some (jt_G k) := by decide +kernel
theorem ju_G : ∀ w ∈ u_ws "StreamIds$Digest" jT_G 2, w ∈ zzW := by
  intro w hw
  obtain ⟨k, hk, rfl⟩ := List.mem_map.mp hw
  have hk := List.mem_range.mp hk
  match k, hk with
  | 0, _ => exact jw_72
  | 1, _ => exact jw_74
  | k + 2, h => exact absurd h (by omega)
def jT_D : u_T := fun k => match k with
  | 0 => ("StreamIds$Declaration", "isThere", "Z", false)
  | 1 => ("StreamIds$Declaration", "name", "LStreamIds$Text;", true)
  | 2 => ("StreamIds$Declaration", "modifiers", "I", false)
  | 3 => ("StreamIds$Declaration", "faces", "LStreamIds$Row;", true)
  | 4 => ("StreamIds$Declaration", "members", "LStreamIds$Row;", true)
  | 5 => ("StreamIds$Declaration", "hasOwnId", "Z", false)
  | _ => ("StreamIds$Declaration", "ownId", "J", false)
def jt_D : Nat → FieldType := fun k => match k with
  | 0 => .boolean
  | 1 => .object "StreamIds$Text"
  | 2 => .int
  | 3 => .object "StreamIds$Row"
  | 4 => .object "StreamIds$Row"
  | 5 => .boolean
  | _ => .long
theorem jn_D : ∀ a, a < 7 → ∀ b, b < 7 → a ≠ b → (jT_D a).2.1 ≠ (jT_D b).2.1 := by decide +kernel
theorem jt_D_ok : ∀ k, k < 7 → parseFieldDescriptor (jT_D k).2.2.1 = some (jt_D k) := by decide +kernel
theorem ju_D : ∀ w ∈ u_ws "StreamIds$Declaration" jT_D 7, w ∈ zzW := by
  intro w hw
  obtain ⟨k, hk, rfl⟩ := List.mem_map.mp hw
  have hk := List.mem_range.mp hk
  match k, hk with
  | 0, _ => exact jw_144
  | 1, _ => exact jw_146
  | 2, _ => exact jw_148
  | 3, _ => exact jw_150
  | 4, _ => exact jw_152
  | 5, _ => exact jw_154
  | 6, _ => exact jw_156
  | k + 7, h => exact absurd h (by omega)
def jT_R : u_T := fun k => match k with
  | 0 => ("StreamIds$Row", "entries", "[LStreamIds$Entry;", true)
  | _ => ("StreamIds$Row", "used", "I", false)
def jt_R : Nat → FieldType := fun k => match k with
  | 0 => .array (.object "StreamIds$Entry")
  | _ => .int
theorem jn_R : ∀ a, a < 2 → ∀ b, b < 2 → a ≠ b → (jT_R a).2.1 ≠ (jT_R b).2.1 := by decide +kernel
theorem jt_R_ok : ∀ k, k < 2 → parseFieldDescriptor (jT_R k).2.2.1 = some (jt_R k) := by decide +kernel
theorem ju_R : ∀ w ∈ u_ws "StreamIds$Row" jT_R 2, w ∈ zzW := by
  intro w hw
  obtain ⟨k, hk, rfl⟩ := List.mem_map.mp hw
  have hk := List.mem_range.mp hk
  match k, hk with
  | 0, _ => exact jw_123
  | 1, _ => exact jw_125
  | k + 2, h => exact absurd h (by omega)
def jT_E : u_T := fun k => match k with
  | 0 => ("StreamIds$Entry", "kind", "I", false)
  | 1 => ("StreamIds$Entry", "modifiers", "I", false)
  | 2 => ("StreamIds$Entry", "name", "LStreamIds$Text;", true)
  | _ => ("StreamIds$Entry", "shape", "LStreamIds$Text;", true)
def jt_E : Nat → FieldType := fun k => match k with
  | 0 => .int
  | 1 => .int
  | 2 => .object "StreamIds$Text"
  | _ => .object "StreamIds$Text"
theorem jn_E : ∀ a, a < 4 → ∀ b, b < 4 → a ≠ b → (jT_E a).2.1 ≠ (jT_E b).2.1 := by decide +kernel
theorem jt_E_ok : ∀ k, k < 4 → parseFieldDescriptor (jT_E k).2.2.1 = some (jt_E k) := by decide +kernel
theorem ju_E : ∀ w ∈ u_ws "StreamIds$Entry" jT_E 4, w ∈ zzW := by
  intro w hw
  obtain ⟨k, hk, rfl⟩ := List.mem_map.mp hw
  have hk := List.mem_range.mp hk
  match k, hk with
  | 0, _ => exact jw_108
  | 1, _ => exact jw_110
  | 2, _ => exact jw_112
  | 3, _ => exact jw_114
  | k + 4, h => exact absurd h (by omega)
def jT_M : u_T := fun k => match k with
  | 0 => ("StreamIdsModel", "sign", "[I", true)
  | 1 => ("StreamIdsModel", "length", "[I", true)
  | 2 => ("StreamIdsModel", "there", "[Z", true)
  | 3 => ("StreamIdsModel", "modifiers", "[I", true)
  | 4 => ("StreamIdsModel", "faces", "[I", true)
  | 5 => ("StreamIdsModel", "members", "[I", true)
  | 6 => ("StreamIdsModel", "declared", "[Z", true)
  | 7 => ("StreamIdsModel", "given", "[J", true)
  | 8 => ("StreamIdsModel", "kind", "[I", true)
  | 9 => ("StreamIdsModel", "flags", "[I", true)
  | 10 => ("StreamIdsModel", "bytes", "[I", true)
  | 11 => ("StreamIdsModel", "size", "I", false)
  | 12 => ("StreamIdsModel", "part", "[I", true)
  | 13 => ("StreamIdsModel", "h", "[I", true)
  | 14 => ("StreamIdsModel", "w", "[I", true)
  | 15 => ("StreamIdsModel", "at", "I", false)
  | _ => ("StreamIdsModel", "end", "I", false)
def jt_M : Nat → FieldType := fun k => match k with
  | 0 => .array .int
  | 1 => .array .int
  | 2 => .array .boolean
  | 3 => .array .int
  | 4 => .array .int
  | 5 => .array .int
  | 6 => .array .boolean
  | 7 => .array .long
  | 8 => .array .int
  | 9 => .array .int
  | 10 => .array .int
  | 11 => .int
  | 12 => .array .int
  | 13 => .array .int
  | 14 => .array .int
  | 15 => .int
  | _ => .int
theorem jn_M : ∀ a, a < 17 → ∀ b, b < 17 → a ≠ b → (jT_M a).2.1 ≠ (jT_M b).2.1 := by decide +kernel
theorem jt_M_ok : ∀ k, k < 17 → parseFieldDescriptor (jT_M k).2.2.1 = some (jt_M k) := by decide +kernel
theorem ju_M : ∀ w ∈ u_ws "StreamIdsModel" jT_M 17, w ∈ zzW := by
  intro w hw
  obtain ⟨k, hk, rfl⟩ := List.mem_map.mp hw
  have hk := List.mem_range.mp hk
  match k, hk with
  | 0, _ => exact jw_498
  | 1, _ => exact jw_500
  | 2, _ => exact jw_502
  | 3, _ => exact jw_504
  | 4, _ => exact jw_506
  | 5, _ => exact jw_508
  | 6, _ => exact jw_510
  | 7, _ => exact jw_512
  | 8, _ => exact jw_514
  | 9, _ => exact jw_516
  | 10, _ => exact jw_518
  | 11, _ => exact jw_520
  | 12, _ => exact jw_522
  | 13, _ => exact jw_524
  | 14, _ => exact jw_526
  | 15, _ => exact jw_528
  | 16, _ => exact jw_530
  | k + 17, h => exact absurd h (by omega)
abbrev vwCl : List vw_C := [("StreamIds", jT_S, 5), ("StreamIds$Text", jT_T, 2), ("StreamIds$Layout", jT_L, 3), ("StreamIds$Digest", jT_G, 2), ("StreamIds$Declaration", jT_D, 7), ("StreamIds$Row", jT_R, 2), ("StreamIds$Entry", jT_E, 4), ("StreamIdsModel", jT_M, 17)]
def zzTy : List FieldType := [.byte, .int, .boolean, .long, (.object "StreamIds$Entry"), (.object "StreamIds$Declaration")]
def zzNF : List (String × Nat × String × String × String × String) := [("StreamIds$Shapes", 15, "StreamIds$Text", "length", "I", "StreamIds"), ("StreamIds", 48, "StreamIds$Text", "length", "I", "StreamIds"), ("StreamIds$Layout", 92, "StreamIds$Text", "length", "I", "StreamIds"), ("StreamIds$Digest", 27, "StreamIds$Layout", "length", "I", "StreamIds"), ("StreamIds", 129, "StreamIds$Layout", "length", "I", "StreamIds"), ("StreamIds", 134, "StreamIds$Layout", "begins", "[I", "StreamIds"), ("StreamIds", 125, "StreamIds$Digest", "numbers", "[I", "StreamIds"), ("StreamIds$Row", 34, "StreamIds$Entry", "kind", "I", "StreamIds"), ("StreamIds$Layout", 61, "StreamIds$Entry", "kind", "I", "StreamIds"), ("StreamIds$Layout", 75, "StreamIds$Entry", "modifiers", "I", "StreamIds"), ("StreamIds$Layout", 74, "StreamIds$Entry", "name", "LStreamIds$Text;", "StreamIds"), ("StreamIds$Layout", 78, "StreamIds$Entry", "shape", "LStreamIds$Text;", "StreamIds"), ("StreamIds$Layout", 57, "StreamIds$Row", "entries", "[LStreamIds$Entry;", "StreamIds"), ("StreamIds$Declaration", 49, "StreamIds$Row", "used", "I", "StreamIds"), ("StreamIds$Layout", 52, "StreamIds$Row", "used", "I", "StreamIds"), ("StreamIds", 137, "StreamIds$Row", "used", "I", "StreamIds"), ("StreamIds", 143, "StreamIds$Declaration", "isThere", "Z", "StreamIds"), ("StreamIds$Layout", 23, "StreamIds$Declaration", "name", "LStreamIds$Text;", "StreamIds"), ("StreamIds", 110, "StreamIds$Declaration", "modifiers", "I", "StreamIds"), ("StreamIds$Layout", 41, "StreamIds$Declaration", "faces", "LStreamIds$Row;", "StreamIds"), ("StreamIds", 73, "StreamIds$Declaration", "faces", "LStreamIds$Row;", "StreamIds"), ("StreamIds$Layout", 49, "StreamIds$Declaration", "members", "LStreamIds$Row;", "StreamIds"), ("StreamIds", 93, "StreamIds$Declaration", "members", "LStreamIds$Row;", "StreamIds"), ("StreamIds", 100, "StreamIds$Declaration", "hasOwnId", "Z", "StreamIds"), ("StreamIds", 104, "StreamIds$Declaration", "ownId", "J", "StreamIds"), ("StreamIds$Digest", 18, "StreamIds", "HASH_BEGIN", "[I", "StreamIds"), ("StreamIds$Digest", 61, "StreamIds", "ROUND_NUMBERS", "[I", "StreamIds")]
def zzNM : List (String × Nat × MethodName × String) := [("StreamIds", 11, ⟨"StreamIds$Text", "<init>", "()V"⟩, "StreamIds"), ("StreamIds", 27, ⟨"StreamIds$Layout", "<init>", "()V"⟩, "StreamIds"), ("StreamIds", 34, ⟨"StreamIds$Digest", "<init>", "()V"⟩, "StreamIds"), ("StreamIds", 39, ⟨"StreamIds$Declaration", "<init>", "()V"⟩, "StreamIds"), ("StreamIds$Declaration", 17, ⟨"StreamIds$Text", "<init>", "()V"⟩, "StreamIds"), ("StreamIds$Row", 21, ⟨"StreamIds$Entry", "<init>", "()V"⟩, "StreamIds"), ("StreamIds$Entry", 20, ⟨"StreamIds$Text", "<init>", "()V"⟩, "StreamIds")]
def zzT : List (String × String × List Int32) := [("StreamIds", "HASH_BEGIN", [1732584193, -271733879, -1732584194, 271733878, -1009589776]), ("StreamIds", "ROUND_NUMBERS", [1518500249, 1859775393, -1894007588, -899497514])]
def zzAO : List String := ["StreamIds$Declaration", "StreamIds$Entry"]
def zzX : List (String × Nat × String) := [("StreamIds$Layout", 81, "<clinit>"), ("StreamIds$Layout", 87, "()V"), ("StreamIds$Layout", 88, "<init>")]
def zzXl : List Nat := [8, 3, 6]
def zzXb : List (List Int32) := [[60, 99, 108, 105, 110, 105, 116, 62], [40, 41, 86], [60, 105, 110, 105, 116, 62]]
def zzI : List (String × String × String × Int32) := [("java/lang/String", "COMPACT_STRINGS", "Z", 1)]
end
section
/-! THE WORLD: the cells made since the base B, one behind the other: cell i lies at the address B + i. -/
abbrev zE : Type := List va_E
/-- the classes' numbers and slots; the array classes; the addresses of the static tables, of the texts, of the texts' bytes -/
abbrev zG : Type := va_G × (Nat → ClassId) × (Nat → Nat) × (Nat → Nat) × (Nat → Nat)
def zw (B : Nat) (es : zE) : va_W := es.mapIdx (fun i e => (B + i, e))
theorem zw_get {B i : Nat} {es : zE} : (zw B es)[i]? = (es[i]?).map (fun e => (B + i, e)) := by simp [zw]
theorem zw_at {B i : Nat} {es : zE} {e : va_E} (h : es[i]? = some e) : (zw B es)[i]? = some (B + i, e) := by rw [zw_get, h]; rfl
theorem zw_inv {B i : Nat} {es : zE} {q : Nat × va_E} (h : (zw B es)[i]? = some q) : ∃ e, es[i]? = some e ∧ q = (B + i, e) := by
  rw [zw_get] at h
  cases he : es[i]? with
  | none => rw [he] at h; cases h
  | some e => rw [he] at h; exact ⟨e, rfl, (Option.some.inj h).symm⟩
theorem zw_set {B i : Nat} {es : zE} {e : va_E} : (zw B es).set i (B + i, e) = zw B (es.set i e) := by
  apply List.ext_getElem?
  intro j
  rw [zw_get]
  by_cases h : i = j
  · subst h
    by_cases hl : i < es.length
    · rw [List.getElem?_set_self (by simpa [zw] using hl), List.getElem?_set_self hl]; rfl
    · rw [List.getElem?_eq_none (by simp [zw]; omega), List.getElem?_eq_none (by simp; omega)]; rfl
  · rw [List.getElem?_set_ne h, List.getElem?_set_ne h, zw_get]
theorem zw_D {B : Nat} {es : zE} : va_D (fun q => B ≤ q) (zw B es) := by
  refine ⟨fun i j p q hi hj h => ?_, fun k q hk => ?_⟩
  · obtain ⟨e, -, rfl⟩ := zw_inv hi
    obtain ⟨e', -, rfl⟩ := zw_inv hj
    have h : B + i = B + j := h
    omega
  · obtain ⟨e, -, rfl⟩ := zw_inv hk
    exact Nat.le_add_right B k
def zH (G : zG) (B : Nat) (es : zE) (H : Heap) : Prop := H.size = B + es.length ∧ va_P G.1 vwCl (zw B es) H
theorem zH.upd {G : zG} {B i : Nat} {es : zE} {e : va_E} {H H1 : Heap} (h : zH G B es H) (hz : H1.size = H.size) (hP : va_P G.1 vwCl ((zw B es).set i (B + i, e)) H1) : zH G B (es.set i e) H1 := ⟨by rw [hz, h.1, List.length_set], by rw [← zw_set]; exact hP⟩
theorem zH.new {G : zG} {B : Nat} {es : zE} {e : va_E} {H H1 : Heap} (h : zH G B es H) (hz : H1.size = H.size + 1) (ho : ∀ q, q < H.size → H1[q]? = H[q]?) (hn : va_at G.1 vwCl (H.size, e) H1) : zH G B (es ++ [e]) H1 := by
  refine ⟨by rw [hz, h.1, List.length_append]; rfl, fun i q hq => ?_⟩
  obtain ⟨e', he, rfl⟩ := zw_inv hq
  by_cases hl : i < es.length
  · rw [List.getElem?_append_left hl] at he
    have := h.2 i _ (zw_at he)
    exact this.kept (ho _ this.lt)
  · have hi : i = es.length := by
      have := (List.getElem?_eq_some_iff.mp he).1
      rw [List.length_append] at this
      have h1 : ([e] : zE).length = 1 := rfl
      omega
    subst hi
    rw [List.getElem?_append_right (Nat.le_refl _), Nat.sub_self] at he
    cases he
    rw [← h.1]
    exact hn
theorem zH.lt {G : zG} {B i : Nat} {es : zE} {e : va_E} {H : Heap} (h : zH G B es H) (he : es[i]? = some e) : B + i < H.size := by
  have := (List.getElem?_eq_some_iff.mp he).1
  rw [h.1]; omega
/-! locals: by places; the second half of a long is none -/
def zl (la : Array Slot) (nL : Nat) (ls : List (Option Value)) : Prop := la.size = nL ∧ lv_wf la ∧ ∀ (i : Nat) (v : Value), ls[i]? = some (some v) → la[i]? = some (.val v)
def za : Nat → List (Option Value) → List (Nat × Value)
  | _, [] => []
  | i, none :: t => za (i + 1) t
  | i, some v :: t => (i, v) :: za (i + 1) t
theorem za_mem {v : Value} : ∀ (ls : List (Option Value)) (i j : Nat), (j, v) ∈ za i ls ↔ ∃ k, j = i + k ∧ ls[k]? = some (some v)
  | [], i, j => by simp [za]
  | none :: t, i, j => by
    rw [show za i (none :: t) = za (i + 1) t from rfl, za_mem t (i + 1) j]
    constructor
    · rintro ⟨k, h1, h2⟩; exact ⟨k + 1, by omega, by simpa using h2⟩
    · rintro ⟨k, h1, h2⟩
      cases k with
      | zero => simp at h2
      | succ k => exact ⟨k, by omega, by simpa using h2⟩
  | some w :: t, i, j => by
    rw [show za i (some w :: t) = (i, w) :: za (i + 1) t from rfl, List.mem_cons, za_mem t (i + 1) j]
    constructor
    · rintro (h | ⟨k, h1, h2⟩)
      · cases h; exact ⟨0, rfl, rfl⟩
      · exact ⟨k + 1, by omega, by simpa using h2⟩
    · rintro ⟨k, h1, h2⟩
      cases k with
      | zero =>
        left
        have h3 : w = v := by simpa using h2
        rw [h3, h1]; rfl
      | succ k => right; exact ⟨k, by omega, by simpa using h2⟩
theorem zl.has {la : Array Slot} {nL : Nat} {ls : List (Option Value)} (h : zl la nL ls) : lv_has la nL (za 0 ls) := by
  refine ⟨h.1, h.2.1, fun q hq => ?_⟩
  obtain ⟨i, v⟩ := q
  obtain ⟨k, h1, h2⟩ := (za_mem ls 0 i).mp hq
  have : i = k := by omega
  subst this
  exact h.2.2 i v h2
def zprev (ls : List (Option Value)) : Nat → Bool
  | 0 => true
  | k + 1 => match ls[k]? with
    | some (some v) => v.category == 1
    | _ => true
theorem zprev_ok {ls : List (Option Value)} {i : Nat} (hp : zprev ls i = true) {j : Nat} {w : Value} (h : ls[j]? = some (some w)) (hj : j + 1 = i) : w.category = 1 := by
  subst hj
  rw [show zprev ls (j + 1) = (match ls[j]? with | some (some v) => v.category == 1 | _ => true) from rfl, h] at hp
  simpa using hp
theorem zl.st1 {la : Array Slot} {nL : Nat} {ls : List (Option Value)} {i : Nat} {v : Value} (hp : zprev ls i = true) (h : lv_has la nL ((i, v) :: (za 0 ls).filter (fun q => !(q.1 == i) && !(q.1 + 1 == i && q.2.category == 2)))) : zl la nL (ls.set i (some v)) := by
  refine ⟨h.1, h.2.1, fun j w hj => ?_⟩
  by_cases hij : i = j
  · subst hij
    have hl : i < ls.length := by
      have := (List.getElem?_eq_some_iff.mp hj).1
      simpa using this
    rw [List.getElem?_set_self hl] at hj
    cases hj
    exact h.2.2 (i, v) List.mem_cons_self
  · rw [List.getElem?_set_ne hij] at hj
    refine h.2.2 (j, w) (List.mem_cons_of_mem _ (List.mem_filter.mpr ⟨(za_mem ls 0 j).mpr ⟨j, by omega, hj⟩, ?_⟩))
    have h1 : (j == i) = false := by simp; omega
    by_cases h2 : j + 1 = i
    · have h3 := zprev_ok hp hj h2
      simp [h1, h3]
    · have h4 : (j + 1 == i) = false := by simp; omega
      simp [h1, h4]
theorem zl.st2 {la : Array Slot} {nL : Nat} {ls : List (Option Value)} {i : Nat} {v : Value} (hp : zprev ls i = true) (h : lv_has la nL ((i, v) :: (za 0 ls).filter (fun q => !(q.1 == i) && (!(q.1 == i + 1) && !(q.1 + 1 == i && q.2.category == 2))))) : zl la nL ((ls.set i (some v)).set (i + 1) none) := by
  refine ⟨h.1, h.2.1, fun j w hj => ?_⟩
  by_cases hj1 : i + 1 = j
  · subst hj1
    have hl : i + 1 < (ls.set i (some v)).length := by
      have := (List.getElem?_eq_some_iff.mp hj).1
      simpa using this
    rw [List.getElem?_set_self hl] at hj
    cases hj
  · rw [List.getElem?_set_ne hj1] at hj
    by_cases hij : i = j
    · subst hij
      have hl : i < ls.length := by
        have := (List.getElem?_eq_some_iff.mp hj).1
        simpa using this
      rw [List.getElem?_set_self hl] at hj
      cases hj
      exact h.2.2 (i, v) List.mem_cons_self
    · rw [List.getElem?_set_ne hij] at hj
      refine h.2.2 (j, w) (List.mem_cons_of_mem _ (List.mem_filter.mpr ⟨(za_mem ls 0 j).mpr ⟨j, by omega, hj⟩, ?_⟩))
      have h1 : (j == i) = false := by simp; omega
      have h5 : (j == i + 1) = false := by simp; omega
      by_cases h2 : j + 1 = i
      · have h3 := zprev_ok hp hj h2
        simp [h1, h3, h5]
      · have h4 : (j + 1 == i) = false := by simp; omega
        simp [h1, h4, h5]
theorem zl.sub {la : Array Slot} {nL : Nat} {ls ls' : List (Option Value)} (h : zl la nL ls) (hs : ∀ (i : Nat) (v : Value), ls'[i]? = some (some v) → ls[i]? = some (some v)) : zl la nL ls' := ⟨h.1, h.2.1, fun i v hv => h.2.2 i v (hs i v hv)⟩
/-- a method's locals at its entry -/
def zent : List Value → Nat → List (Option Value)
  | [], n => List.replicate n none
  | v :: vs, n => if v.category = 2 then some v :: none :: zent vs (n - 2) else some v :: zent vs (n - 1)
theorem zent_args {w : Value} : ∀ (vs : List Value) (n i j : Nat), (zent vs n)[j]? = some (some w) → (i + j, w) ∈ lv_args i vs
  | [], n, i, j, h => by
    rw [show zent [] n = List.replicate n none from rfl, List.getElem?_replicate] at h
    split at h <;> cases h
  | v :: vs, n, i, j, h => by
    rw [show lv_args i (v :: vs) = (i, v) :: lv_args (if v.category = 2 then i + 2 else i + 1) vs from rfl]
    by_cases hc : v.category = 2
    · rw [show zent (v :: vs) n = some v :: none :: zent vs (n - 2) by rw [zent, if_pos hc]] at h
      rw [if_pos hc]
      match j, h with
      | 0, h =>
        have h3 : v = w := by simpa using h
        rw [h3]; exact List.mem_cons_self
      | 1, h => simp at h
      | j + 2, h =>
        have := zent_args vs (n - 2) (i + 2) j (by simpa using h)
        rw [show i + (j + 2) = i + 2 + j by omega]
        exact List.mem_cons_of_mem _ this
    · rw [show zent (v :: vs) n = some v :: zent vs (n - 1) by rw [zent, if_neg hc]] at h
      rw [if_neg hc]
      match j, h with
      | 0, h =>
        have h3 : v = w := by simpa using h
        rw [h3]; exact List.mem_cons_self
      | j + 1, h =>
        have := zent_args vs (n - 1) (i + 1) j (by simpa using h)
        rw [show i + (j + 1) = i + 1 + j by omega]
        exact List.mem_cons_of_mem _ this
/-- the array classes that the worlds hold -/
def zty (G : zG) : List (ClassId × FieldType) := zzTy.mapIdx (fun i t => (G.2.1 i, t))
theorem zty_at {G : zG} {i : Nat} {t : FieldType} (h : zzTy[i]? = some t) : (zty G)[i]? = some (G.2.1 i, t) := by simp [zty, h]
/-- the words of nest mates -/
def zN (U : State) : Prop := (∀ q ∈ zzNF, va_Nw (.fieldLinkNest q.1 q.2.1 q.2.2.1 q.2.2.2.1 q.2.2.2.2.1 q.2.2.2.2.2) U) ∧ ∀ q ∈ zzNM, va_Nw (.methodLinkNest q.1 q.2.1 q.2.2.1 q.2.2.2) U
theorem zN.warm {s U : State} (hW : s.WarmedH U.vm) (h : zN s) : zN U := ⟨fun q hq => (h.1 q hq).warmF hW, fun q hq => (h.2 q hq).warmM hW⟩
theorem zN.same {u U : State} (hv : u.vm = U.vm) (h : zN u) : zN U := ⟨fun q hq => va_Nw.same rfl hv (h.1 q hq), fun q hq => va_Nw.same rfl hv (h.2 q hq)⟩
/-- what nobody writes: static tables of ints; arrays of objects that can be made; texts -/
def zS (G : zG) (B : Nat) (U : State) (H : Heap) : Prop :=
  (∀ (i : Nat) (q : String × String × List Int32), zzT[i]? = some q → va_Z q.1 q.2.1 "[I" (.ref (G.2.2.1 i)) (fun a => B ≤ a) U H ∧ va_T .int (G.2.2.1 i) q.2.2.length (fun j => .int (q.2.2.getD j 0)) (fun a => B ≤ a) U H) ∧
  (∀ C ∈ zzAO, va_AO C U) ∧
  (∀ (i : Nat) (q : String × String × String × Int32), zzI[i]? = some q → va_Z q.1 q.2.1 q.2.2.1 (.int q.2.2.2) (fun a => B ≤ a) U H) ∧ va_Zq "jdk/internal/util/Preconditions" "SIOOBE_FORMATTER" "Ljava/util/function/BiFunction;" (fun a => B ≤ a) U H ∧
  (∀ (i : Nat) (q : String × Nat × String), zzX[i]? = some q → vk_R q.1 q.2.1 q.2.2 (G.2.2.2.1 i) U) ∧ vk_S zzX.length zzXl zzXb G.2.2.2.1 G.2.2.2.2 (fun a => B ≤ a) U H
theorem zS.warm {G : zG} {B : Nat} {s U : State} {H : Heap} (hW : s.WarmedH U.vm) (h : zS G B s H) : zS G B U H :=
  ⟨fun i q hq => ⟨(h.1 i q hq).1.moved hW.alike, (h.1 i q hq).2.moved hW.alike⟩, fun C hC => (h.2.1 C hC).moved hW.alike, fun i q hq => (h.2.2.1 i q hq).moved hW.alike, h.2.2.2.1.moved hW.alike, fun i q hq => (h.2.2.2.2.1 i q hq).warm hW, h.2.2.2.2.2.moved hW.alike⟩
theorem zS.same {G : zG} {B : Nat} {u U : State} {H : Heap} (hv : u.vm = U.vm) (h : zS G B u H) : zS G B U H := by
  have ha : u.vm.Alike U.vm := by rw [hv]; exact Vm.Alike.refl _
  exact ⟨fun i q hq => ⟨(h.1 i q hq).1.moved ha, (h.1 i q hq).2.moved ha⟩, fun C hC => (h.2.1 C hC).moved ha, fun i q hq => (h.2.2.1 i q hq).moved ha, h.2.2.2.1.moved ha, fun i q hq => (h.2.2.2.2.1 i q hq).same hv.symm, h.2.2.2.2.2.moved ha⟩
theorem zS.kept {G : zG} {B : Nat} {U : State} {H H1 : Heap} (h : zS G B U H) (hq : ∀ a : Nat, a < H.size → ¬ B ≤ a → H1[a]? = H[a]?) : zS G B U H1 :=
  ⟨fun i q h9 => ⟨(h.1 i q h9).1.kept hq, (h.1 i q h9).2.kept hq⟩, h.2.1, fun i q h9 => (h.2.2.1 i q h9).kept hq, h.2.2.2.1.kept hq, h.2.2.2.2.1, h.2.2.2.2.2.kept hq⟩
def zU (G : zG) (B : Nat) (es : zE) (U : State) : Prop := zH G B es U.heap ∧ va_K G.1 vwCl (zty G) U ∧ zN U ∧ zS G B U U.heap
abbrev zr (d mc ms : Nat) : Room := { frames := d, cells := mc, slots := ms, locals := 40 * d }
def zQ (G : zG) (B : Nat) (P : Option Value → zE → Prop) : Array Value → State → Outcome → State → Prop := fun _ st oc t => (∃ (r : Option Value) (es : zE), oc = .returned r ∧ P r es ∧ zH G B es t.heap) ∧ va_F (fun q => B ≤ q) st t
/-- A CONTRACT: at the world es, with the arguments av, the method returns, and P holds of its answer and of the world behind it -/
def Tr (l : Launch) (G : zG) (B : Nat) (y : MethodName) (cc : ByteArray) (maxL : Nat) (ret : Option FieldType) (d mc ms : Nat) (av : List Value) (es : zE) (P : Option Value → zE → Prop) : Prop :=
  Met l y (Cond.code y cc maxL ret :: zzW) (zr d mc ms) (va_Pc av (zU G B es)) (zQ G B P) mc ms (fun q => B ≤ q)
def Zj (p : Program) (l : Launch) (e : Env) (R : Room) (s : State) (m : MethodId) (args : Array Value) (below : List Frame) (meth : Method) (c : Code) (Q : State → Prop) (G : zG) (B nL k n pc : Nat) (ls : List (Option Value)) (st : List Value) (es : zE) : Prop :=
  ∀ (H : Heap) (lo : List Loc) (la : Array Slot), zH G B es H → va_S (fun q => B ≤ q) s.heap H lo → zl la nL ls → W p l e R s m args below meth c H lo k n Q (F0 m pc la st)
def En (p : Program) (s : State) (m : MethodId) (args : Array Value) (meth : Method) (c : Code) (G : zG) (B nL : Nat) (cc : ByteArray) (own mn : String) (rt : Option FieldType) : Prop :=
  p.tables.exec = Jvm.exec ∧ c.code = cc ∧ c.maxLocals = nL ∧ s.vm.findClass own = some m.cls ∧ (∀ w ∈ zzW, w.before args s = true) ∧ va_K G.1 vwCl (zty G) s ∧ zN s ∧ zS G B s s.heap ∧ B ≤ s.heap.size ∧ meth.locks = false ∧ meth.sig.returnType = rt ∧ meth.name = mn
section ZR
variable {p : Program} {l : Launch} {e : Env} {R : Room} {s : State} {m : MethodId} {args : Array Value} {below : List Frame} {meth : Method} {c : Code} {Q : State → Prop} {G : zG} {B nL k n pc : Nat} {ls : List (Option Value)} {st : List Value} {es : zE} {cc : ByteArray} {own mn : String} {rt : Option FieldType}
theorem z_iadd (E : En p s m args meth c G B nL cc own mn rt) {x y : Int32} (d : decode cc pc = .ok (.iadd, 1))  (kk : Zj p l e R s m args below meth c Q G B nL k n (pc + 1) ls (.int (x + y) :: st) es) : Zj p l e R s m args below meth c Q G B nL k n (pc) ls (.int y :: .int x :: st) es :=
  fun H lo la hW hS hl => lv_iadd E.1 E.2.1 d (kk H lo la hW hS hl)
theorem z_isub (E : En p s m args meth c G B nL cc own mn rt) {x y : Int32} (d : decode cc pc = .ok (.isub, 1))  (kk : Zj p l e R s m args below meth c Q G B nL k n (pc + 1) ls (.int (x - y) :: st) es) : Zj p l e R s m args below meth c Q G B nL k n (pc) ls (.int y :: .int x :: st) es :=
  fun H lo la hW hS hl => lv_isub E.1 E.2.1 d (kk H lo la hW hS hl)
theorem z_imul (E : En p s m args meth c G B nL cc own mn rt) {x y : Int32} (d : decode cc pc = .ok (.imul, 1))  (kk : Zj p l e R s m args below meth c Q G B nL k n (pc + 1) ls (.int (x * y) :: st) es) : Zj p l e R s m args below meth c Q G B nL k n (pc) ls (.int y :: .int x :: st) es :=
  fun H lo la hW hS hl => lv_imul E.1 E.2.1 d (kk H lo la hW hS hl)
theorem z_iand (E : En p s m args meth c G B nL cc own mn rt) {x y : Int32} (d : decode cc pc = .ok (.iand, 1))  (kk : Zj p l e R s m args below meth c Q G B nL k n (pc + 1) ls (.int (x &&& y) :: st) es) : Zj p l e R s m args below meth c Q G B nL k n (pc) ls (.int y :: .int x :: st) es :=
  fun H lo la hW hS hl => lv_iand E.1 E.2.1 d (kk H lo la hW hS hl)
theorem z_ior (E : En p s m args meth c G B nL cc own mn rt) {x y : Int32} (d : decode cc pc = .ok (.ior, 1))  (kk : Zj p l e R s m args below meth c Q G B nL k n (pc + 1) ls (.int (x ||| y) :: st) es) : Zj p l e R s m args below meth c Q G B nL k n (pc) ls (.int y :: .int x :: st) es :=
  fun H lo la hW hS hl => lv_ior E.1 E.2.1 d (kk H lo la hW hS hl)
theorem z_ixor (E : En p s m args meth c G B nL cc own mn rt) {x y : Int32} (d : decode cc pc = .ok (.ixor, 1))  (kk : Zj p l e R s m args below meth c Q G B nL k n (pc + 1) ls (.int (x ^^^ y) :: st) es) : Zj p l e R s m args below meth c Q G B nL k n (pc) ls (.int y :: .int x :: st) es :=
  fun H lo la hW hS hl => lv_ixor E.1 E.2.1 d (kk H lo la hW hS hl)
theorem z_ishl (E : En p s m args meth c G B nL cc own mn rt) {x y : Int32} (d : decode cc pc = .ok (.ishl, 1))  (kk : Zj p l e R s m args below meth c Q G B nL k n (pc + 1) ls (.int (x <<< (y &&& 31)) :: st) es) : Zj p l e R s m args below meth c Q G B nL k n (pc) ls (.int y :: .int x :: st) es :=
  fun H lo la hW hS hl => lv_ishl E.1 E.2.1 d (kk H lo la hW hS hl)
theorem z_ishr (E : En p s m args meth c G B nL cc own mn rt) {x y : Int32} (d : decode cc pc = .ok (.ishr, 1))  (kk : Zj p l e R s m args below meth c Q G B nL k n (pc + 1) ls (.int (x >>> (y &&& 31)) :: st) es) : Zj p l e R s m args below meth c Q G B nL k n (pc) ls (.int y :: .int x :: st) es :=
  fun H lo la hW hS hl => lv_ishr E.1 E.2.1 d (kk H lo la hW hS hl)
theorem z_idiv (E : En p s m args meth c G B nL cc own mn rt) {x y : Int32} (d : decode cc pc = .ok (.idiv, 1)) (hne : ¬ y = 0) (kk : Zj p l e R s m args below meth c Q G B nL k n (pc + 1) ls (.int (x / y) :: st) es) : Zj p l e R s m args below meth c Q G B nL k n (pc) ls (.int y :: .int x :: st) es :=
  fun H lo la hW hS hl => lv_idiv E.1 E.2.1 d hne (kk H lo la hW hS hl)
theorem z_irem (E : En p s m args meth c G B nL cc own mn rt) {x y : Int32} (d : decode cc pc = .ok (.irem, 1)) (hne : ¬ y = 0) (kk : Zj p l e R s m args below meth c Q G B nL k n (pc + 1) ls (.int (x - x / y * y) :: st) es) : Zj p l e R s m args below meth c Q G B nL k n (pc) ls (.int y :: .int x :: st) es :=
  fun H lo la hW hS hl => lv_irem E.1 E.2.1 d hne (kk H lo la hW hS hl)
theorem z_ineg (E : En p s m args meth c G B nL cc own mn rt) {x : Int32} (d : decode cc pc = .ok (.ineg, 1))  (kk : Zj p l e R s m args below meth c Q G B nL k n (pc + 1) ls (.int (-x) :: st) es) : Zj p l e R s m args below meth c Q G B nL k n (pc) ls (.int x :: st) es :=
  fun H lo la hW hS hl => lv_ineg E.1 E.2.1 d (kk H lo la hW hS hl)
theorem z_lneg (E : En p s m args meth c G B nL cc own mn rt) {x : Int64} (d : decode cc pc = .ok (.lneg, 1))  (kk : Zj p l e R s m args below meth c Q G B nL k n (pc + 1) ls (.long (-x) :: st) es) : Zj p l e R s m args below meth c Q G B nL k n (pc) ls (.long x :: st) es :=
  fun H lo la hW hS hl => lv_lneg E.1 E.2.1 d (kk H lo la hW hS hl)
theorem z_ladd (E : En p s m args meth c G B nL cc own mn rt) {x y : Int64} (d : decode cc pc = .ok (.ladd, 1))  (kk : Zj p l e R s m args below meth c Q G B nL k n (pc + 1) ls (.long (x + y) :: st) es) : Zj p l e R s m args below meth c Q G B nL k n (pc) ls (.long y :: .long x :: st) es :=
  fun H lo la hW hS hl => lv_ladd E.1 E.2.1 d (kk H lo la hW hS hl)
theorem z_lsub (E : En p s m args meth c G B nL cc own mn rt) {x y : Int64} (d : decode cc pc = .ok (.lsub, 1))  (kk : Zj p l e R s m args below meth c Q G B nL k n (pc + 1) ls (.long (x - y) :: st) es) : Zj p l e R s m args below meth c Q G B nL k n (pc) ls (.long y :: .long x :: st) es :=
  fun H lo la hW hS hl => lv_lsub E.1 E.2.1 d (kk H lo la hW hS hl)
theorem z_lmul (E : En p s m args meth c G B nL cc own mn rt) {x y : Int64} (d : decode cc pc = .ok (.lmul, 1))  (kk : Zj p l e R s m args below meth c Q G B nL k n (pc + 1) ls (.long (x * y) :: st) es) : Zj p l e R s m args below meth c Q G B nL k n (pc) ls (.long y :: .long x :: st) es :=
  fun H lo la hW hS hl => lv_lmul E.1 E.2.1 d (kk H lo la hW hS hl)
theorem z_land (E : En p s m args meth c G B nL cc own mn rt) {x y : Int64} (d : decode cc pc = .ok (.land, 1))  (kk : Zj p l e R s m args below meth c Q G B nL k n (pc + 1) ls (.long (x &&& y) :: st) es) : Zj p l e R s m args below meth c Q G B nL k n (pc) ls (.long y :: .long x :: st) es :=
  fun H lo la hW hS hl => lv_land E.1 E.2.1 d (kk H lo la hW hS hl)
theorem z_lor (E : En p s m args meth c G B nL cc own mn rt) {x y : Int64} (d : decode cc pc = .ok (.lor, 1))  (kk : Zj p l e R s m args below meth c Q G B nL k n (pc + 1) ls (.long (x ||| y) :: st) es) : Zj p l e R s m args below meth c Q G B nL k n (pc) ls (.long y :: .long x :: st) es :=
  fun H lo la hW hS hl => lv_lor E.1 E.2.1 d (kk H lo la hW hS hl)
theorem z_lxor (E : En p s m args meth c G B nL cc own mn rt) {x y : Int64} (d : decode cc pc = .ok (.lxor, 1))  (kk : Zj p l e R s m args below meth c Q G B nL k n (pc + 1) ls (.long (x ^^^ y) :: st) es) : Zj p l e R s m args below meth c Q G B nL k n (pc) ls (.long y :: .long x :: st) es :=
  fun H lo la hW hS hl => lv_lxor E.1 E.2.1 d (kk H lo la hW hS hl)
theorem z_iushr (E : En p s m args meth c G B nL cc own mn rt) {x y : Int32} (d : decode cc pc = .ok (.iushr, 1))  (kk : Zj p l e R s m args below meth c Q G B nL k n (pc + 1) ls (.int ((x.toUInt32 >>> (y.toUInt32 &&& Int32.toUInt32 31)).toInt32) :: st) es) : Zj p l e R s m args below meth c Q G B nL k n (pc) ls (.int y :: .int x :: st) es :=
  fun H lo la hW hS hl => lv_iushr E.1 E.2.1 d rfl (kk H lo la hW hS hl)
theorem z_lushr (E : En p s m args meth c G B nL cc own mn rt) {x : Int64} {y : Int32} (d : decode cc pc = .ok (.lushr, 1))  (kk : Zj p l e R s m args below meth c Q G B nL k n (pc + 1) ls (.long ((x.toUInt64 >>> (y.toInt64.toUInt64 &&& Int64.toUInt64 63)).toInt64) :: st) es) : Zj p l e R s m args below meth c Q G B nL k n (pc) ls (.int y :: .long x :: st) es :=
  fun H lo la hW hS hl => lv_lushr E.1 E.2.1 d rfl (kk H lo la hW hS hl)
theorem z_lshl (E : En p s m args meth c G B nL cc own mn rt) {x : Int64} {y : Int32} (d : decode cc pc = .ok (.lshl, 1))  (kk : Zj p l e R s m args below meth c Q G B nL k n (pc + 1) ls (.long (x <<< (y.toInt64 &&& 63)) :: st) es) : Zj p l e R s m args below meth c Q G B nL k n (pc) ls (.int y :: .long x :: st) es :=
  fun H lo la hW hS hl => lv_lshl E.1 E.2.1 d rfl (kk H lo la hW hS hl)
theorem z_lshr (E : En p s m args meth c G B nL cc own mn rt) {x : Int64} {y : Int32} (d : decode cc pc = .ok (.lshr, 1))  (kk : Zj p l e R s m args below meth c Q G B nL k n (pc + 1) ls (.long (x >>> (y.toInt64 &&& 63)) :: st) es) : Zj p l e R s m args below meth c Q G B nL k n (pc) ls (.int y :: .long x :: st) es :=
  fun H lo la hW hS hl => lv_lshr E.1 E.2.1 d rfl (kk H lo la hW hS hl)
theorem z_i2l (E : En p s m args meth c G B nL cc own mn rt) {x : Int32} (d : decode cc pc = .ok (.i2l, 1))  (kk : Zj p l e R s m args below meth c Q G B nL k n (pc + 1) ls (.long x.toInt64 :: st) es) : Zj p l e R s m args below meth c Q G B nL k n (pc) ls (.int x :: st) es :=
  fun H lo la hW hS hl => lv_i2l E.1 E.2.1 d rfl (kk H lo la hW hS hl)
theorem z_l2i (E : En p s m args meth c G B nL cc own mn rt) {x : Int64} (d : decode cc pc = .ok (.l2i, 1))  (kk : Zj p l e R s m args below meth c Q G B nL k n (pc + 1) ls (.int x.toInt32 :: st) es) : Zj p l e R s m args below meth c Q G B nL k n (pc) ls (.long x :: st) es :=
  fun H lo la hW hS hl => lv_l2i E.1 E.2.1 d rfl (kk H lo la hW hS hl)
theorem z_i2b (E : En p s m args meth c G B nL cc own mn rt) {x : Int32} (d : decode cc pc = .ok (.i2b, 1))  (kk : Zj p l e R s m args below meth c Q G B nL k n (pc + 1) ls (.int x.toInt8.toInt32 :: st) es) : Zj p l e R s m args below meth c Q G B nL k n (pc) ls (.int x :: st) es :=
  fun H lo la hW hS hl => lv_i2b E.1 E.2.1 d rfl (kk H lo la hW hS hl)
theorem z_i2s (E : En p s m args meth c G B nL cc own mn rt) {x : Int32} (d : decode cc pc = .ok (.i2s, 1))  (kk : Zj p l e R s m args below meth c Q G B nL k n (pc + 1) ls (.int x.toInt16.toInt32 :: st) es) : Zj p l e R s m args below meth c Q G B nL k n (pc) ls (.int x :: st) es :=
  fun H lo la hW hS hl => lv_i2s E.1 E.2.1 d rfl (kk H lo la hW hS hl)
theorem z_i2c (E : En p s m args meth c G B nL cc own mn rt) {x : Int32} (d : decode cc pc = .ok (.i2c, 1))  (kk : Zj p l e R s m args below meth c Q G B nL k n (pc + 1) ls (.int (x.toUInt32 % 65536).toInt32 :: st) es) : Zj p l e R s m args below meth c Q G B nL k n (pc) ls (.int x :: st) es :=
  fun H lo la hW hS hl => lv_i2c E.1 E.2.1 d rfl (kk H lo la hW hS hl)
theorem z_iconst (E : En p s m args meth c G B nL cc own mn rt) {z : Int} {v : Int32} (d : decode cc pc = .ok (.iconst z, 1)) (hv : Int32.ofInt z = v) (kk : Zj p l e R s m args below meth c Q G B nL k n (pc + 1) ls (.int v :: st) es) : Zj p l e R s m args below meth c Q G B nL k n (pc) ls (st) es :=
  fun H lo la hW hS hl => lv_iconst E.1 E.2.1 d hv (kk H lo la hW hS hl)
theorem z_bipush (E : En p s m args meth c G B nL cc own mn rt) {z : Int} {v : Int32} (d : decode cc pc = .ok (.bipush z, 2)) (hv : (Int8.ofInt z).toInt32 = v) (kk : Zj p l e R s m args below meth c Q G B nL k n (pc + 2) ls (.int v :: st) es) : Zj p l e R s m args below meth c Q G B nL k n (pc) ls (st) es :=
  fun H lo la hW hS hl => lv_bipush E.1 E.2.1 d hv (kk H lo la hW hS hl)
theorem z_sipush (E : En p s m args meth c G B nL cc own mn rt) {z : Int} {v : Int32} (d : decode cc pc = .ok (.sipush z, 3)) (hv : (Int16.ofInt z).toInt32 = v) (kk : Zj p l e R s m args below meth c Q G B nL k n (pc + 3) ls (.int v :: st) es) : Zj p l e R s m args below meth c Q G B nL k n (pc) ls (st) es :=
  fun H lo la hW hS hl => lv_sipush E.1 E.2.1 d hv (kk H lo la hW hS hl)
theorem z_lconst (E : En p s m args meth c G B nL cc own mn rt) {z : Fin 2} {v : Int64} (d : decode cc pc = .ok (.lconst z, 1)) (hv : Int64.ofNat (z : Nat) = v) (kk : Zj p l e R s m args below meth c Q G B nL k n (pc + 1) ls (.long v :: st) es) : Zj p l e R s m args below meth c Q G B nL k n (pc) ls (st) es :=
  fun H lo la hW hS hl => lv_lconst E.1 E.2.1 d hv (kk H lo la hW hS hl)
theorem z_null (E : En p s m args meth c G B nL cc own mn rt)  (d : decode cc pc = .ok (.aconst_null, 1))  (kk : Zj p l e R s m args below meth c Q G B nL k n (pc + 1) ls (.null :: st) es) : Zj p l e R s m args below meth c Q G B nL k n (pc) ls (st) es :=
  fun H lo la hW hS hl => lv_null E.1 E.2.1 d (kk H lo la hW hS hl)
theorem z_iload_n (E : En p s m args meth c G B nL cc own mn rt) {q : Fin 4} {i : Nat} {x : Int32} (d : decode cc pc = .ok (.iload_n q, 1)) (hi : (q : Nat) = i) (hv : ls[i]? = some (some (.int x))) (kk : Zj p l e R s m args below meth c Q G B nL k n (pc + 1) ls (.int x :: st) es) : Zj p l e R s m args below meth c Q G B nL k n (pc) ls (st) es :=
  fun H lo la hW hS hl => lv_iload_n E.1 E.2.1 d hi (hl.2.2 _ _ hv) (kk H lo la hW hS hl)
theorem z_iload (E : En p s m args meth c G B nL cc own mn rt) {i : Nat} {x : Int32} (d : decode cc pc = .ok (.iload i, 2)) (hv : ls[i]? = some (some (.int x))) (kk : Zj p l e R s m args below meth c Q G B nL k n (pc + 2) ls (.int x :: st) es) : Zj p l e R s m args below meth c Q G B nL k n (pc) ls (st) es :=
  fun H lo la hW hS hl => lv_iload E.1 E.2.1 d (hl.2.2 _ _ hv) (kk H lo la hW hS hl)
theorem z_lload_n (E : En p s m args meth c G B nL cc own mn rt) {q : Fin 4} {i : Nat} {x : Int64} (d : decode cc pc = .ok (.lload_n q, 1)) (hi : (q : Nat) = i) (hv : ls[i]? = some (some (.long x))) (kk : Zj p l e R s m args below meth c Q G B nL k n (pc + 1) ls (.long x :: st) es) : Zj p l e R s m args below meth c Q G B nL k n (pc) ls (st) es :=
  fun H lo la hW hS hl => lv_lload_n E.1 E.2.1 d hi (hl.2.2 _ _ hv) (kk H lo la hW hS hl)
theorem z_lload (E : En p s m args meth c G B nL cc own mn rt) {i : Nat} {x : Int64} (d : decode cc pc = .ok (.lload i, 2)) (hv : ls[i]? = some (some (.long x))) (kk : Zj p l e R s m args below meth c Q G B nL k n (pc + 2) ls (.long x :: st) es) : Zj p l e R s m args below meth c Q G B nL k n (pc) ls (st) es :=
  fun H lo la hW hS hl => lv_lload E.1 E.2.1 d (hl.2.2 _ _ hv) (kk H lo la hW hS hl)
theorem z_aload_n (E : En p s m args meth c G B nL cc own mn rt) {q : Fin 4} {i : Nat} {x : Nat} (d : decode cc pc = .ok (.aload_n q, 1)) (hi : (q : Nat) = i) (hv : ls[i]? = some (some (.ref x))) (kk : Zj p l e R s m args below meth c Q G B nL k n (pc + 1) ls (.ref x :: st) es) : Zj p l e R s m args below meth c Q G B nL k n (pc) ls (st) es :=
  fun H lo la hW hS hl => lv_aload_n E.1 E.2.1 d hi (hl.2.2 _ _ hv) (kk H lo la hW hS hl)
theorem z_aload (E : En p s m args meth c G B nL cc own mn rt) {i : Nat} {x : Nat} (d : decode cc pc = .ok (.aload i, 2)) (hv : ls[i]? = some (some (.ref x))) (kk : Zj p l e R s m args below meth c Q G B nL k n (pc + 2) ls (.ref x :: st) es) : Zj p l e R s m args below meth c Q G B nL k n (pc) ls (st) es :=
  fun H lo la hW hS hl => lv_aload E.1 E.2.1 d (hl.2.2 _ _ hv) (kk H lo la hW hS hl)
theorem z_aload_nN (E : En p s m args meth c G B nL cc own mn rt) {q : Fin 4} {i : Nat} (d : decode cc pc = .ok (.aload_n q, 1)) (hi : (q : Nat) = i) (hv : ls[i]? = some (some .null)) (kk : Zj p l e R s m args below meth c Q G B nL k n (pc + 1) ls (.null :: st) es) : Zj p l e R s m args below meth c Q G B nL k n (pc) ls (st) es :=
  fun H lo la hW hS hl => lv_aload_nN E.1 E.2.1 d hi (hl.2.2 _ _ hv) (kk H lo la hW hS hl)
theorem z_aloadN (E : En p s m args meth c G B nL cc own mn rt) {i : Nat} (d : decode cc pc = .ok (.aload i, 2)) (hv : ls[i]? = some (some .null)) (kk : Zj p l e R s m args below meth c Q G B nL k n (pc + 2) ls (.null :: st) es) : Zj p l e R s m args below meth c Q G B nL k n (pc) ls (st) es :=
  fun H lo la hW hS hl => lv_aloadN E.1 E.2.1 d (hl.2.2 _ _ hv) (kk H lo la hW hS hl)
theorem z_dup (E : En p s m args meth c G B nL cc own mn rt) {va : Value} (d : decode cc pc = .ok (.dup, 1)) (h1 : va.category = 1) (kk : Zj p l e R s m args below meth c Q G B nL k n (pc + 1) ls (va :: va :: st) es) : Zj p l e R s m args below meth c Q G B nL k n (pc) ls (va :: st) es :=
  fun H lo la hW hS hl => lv_dup E.1 E.2.1 d h1 (kk H lo la hW hS hl)
theorem z_pop (E : En p s m args meth c G B nL cc own mn rt) {va : Value} (d : decode cc pc = .ok (.pop, 1)) (h1 : va.category = 1) (kk : Zj p l e R s m args below meth c Q G B nL k n (pc + 1) ls (st) es) : Zj p l e R s m args below meth c Q G B nL k n (pc) ls (va :: st) es :=
  fun H lo la hW hS hl => lv_pop E.1 E.2.1 d h1 (kk H lo la hW hS hl)
theorem z_dup_x1 (E : En p s m args meth c G B nL cc own mn rt) {va vb : Value} (d : decode cc pc = .ok (.dup_x1, 1)) (h1 : va.category = 1) (h2 : vb.category = 1) (kk : Zj p l e R s m args below meth c Q G B nL k n (pc + 1) ls (va :: vb :: va :: st) es) : Zj p l e R s m args below meth c Q G B nL k n (pc) ls (va :: vb :: st) es :=
  fun H lo la hW hS hl => lv_dup_x1 E.1 E.2.1 d h1 h2 (kk H lo la hW hS hl)
theorem z_dup_x2 (E : En p s m args meth c G B nL cc own mn rt) {va vb vd : Value} (d : decode cc pc = .ok (.dup_x2, 1)) (h1 : va.category = 1) (h2 : vb.category = 1) (h3 : vd.category = 1) (kk : Zj p l e R s m args below meth c Q G B nL k n (pc + 1) ls (va :: vb :: vd :: va :: st) es) : Zj p l e R s m args below meth c Q G B nL k n (pc) ls (va :: vb :: vd :: st) es :=
  fun H lo la hW hS hl => lv_dup_x2 E.1 E.2.1 d h1 h2 h3 (kk H lo la hW hS hl)
theorem z_dup2 (E : En p s m args meth c G B nL cc own mn rt) {va vb : Value} (d : decode cc pc = .ok (.dup2, 1)) (h1 : va.category = 1) (h2 : vb.category = 1) (kk : Zj p l e R s m args below meth c Q G B nL k n (pc + 1) ls (va :: vb :: va :: vb :: st) es) : Zj p l e R s m args below meth c Q G B nL k n (pc) ls (va :: vb :: st) es :=
  fun H lo la hW hS hl => lv_dup2_11 E.1 E.2.1 d h1 h2 (kk H lo la hW hS hl)
theorem z_dup2L (E : En p s m args meth c G B nL cc own mn rt) {va : Value} (d : decode cc pc = .ok (.dup2, 1)) (h1 : va.category = 2) (kk : Zj p l e R s m args below meth c Q G B nL k n (pc + 1) ls (va :: va :: st) es) : Zj p l e R s m args below meth c Q G B nL k n (pc) ls (va :: st) es :=
  fun H lo la hW hS hl => lv_dup2_2 E.1 E.2.1 d h1 (kk H lo la hW hS hl)
theorem z_pop2L (E : En p s m args meth c G B nL cc own mn rt) {va : Value} (d : decode cc pc = .ok (.pop2, 1)) (h1 : va.category = 2) (kk : Zj p l e R s m args below meth c Q G B nL k n (pc + 1) ls (st) es) : Zj p l e R s m args below meth c Q G B nL k n (pc) ls (va :: st) es :=
  fun H lo la hW hS hl => lv_pop2_2 E.1 E.2.1 d h1 (kk H lo la hW hS hl)
theorem z_lcmp (E : En p s m args meth c G B nL cc own mn rt) {x y : Int64} (d : decode cc pc = .ok (.lcmp, 1))  (kk : Zj p l e R s m args below meth c Q G B nL k n (pc + 1) ls (.int (lg_cmp x y) :: st) es) : Zj p l e R s m args below meth c Q G B nL k n (pc) ls (.long y :: .long x :: st) es :=
  fun H lo la hW hS hl => W.lcmp E.1 E.2.1 d (kk H lo la hW hS hl)
theorem z_istore_n (E : En p s m args meth c G B nL cc own mn rt) {q : Fin 4} {i : Nat} {x : Int32} (d : decode cc pc = .ok (.istore_n q, 1)) (hi : (q : Nat) = i) (hn : i < nL) (hp : zprev ls i = true) (kk : Zj p l e R s m args below meth c Q G B nL k n (pc + 1) (ls.set i (some (.int x))) (st) es) : Zj p l e R s m args below meth c Q G B nL k n (pc) ls (.int x :: st) es :=
  fun H lo la hW hS hl => lv_istore_n E.1 E.2.1 d hi hl.has hn rfl (fun la hq => kk H lo la hW hS (zl.st1 hp hq))
theorem z_istore (E : En p s m args meth c G B nL cc own mn rt) {i : Nat} {x : Int32} (d : decode cc pc = .ok (.istore i, 2))  (hn : i < nL) (hp : zprev ls i = true) (kk : Zj p l e R s m args below meth c Q G B nL k n (pc + 2) (ls.set i (some (.int x))) (st) es) : Zj p l e R s m args below meth c Q G B nL k n (pc) ls (.int x :: st) es :=
  fun H lo la hW hS hl => lv_istore E.1 E.2.1 d hl.has hn rfl (fun la hq => kk H lo la hW hS (zl.st1 hp hq))
theorem z_lstore_n (E : En p s m args meth c G B nL cc own mn rt) {q : Fin 4} {i : Nat} {x : Int64} (d : decode cc pc = .ok (.lstore_n q, 1)) (hi : (q : Nat) = i) (hn : i + 1 < nL) (hp : zprev ls i = true) (kk : Zj p l e R s m args below meth c Q G B nL k n (pc + 1) ((ls.set i (some (.long x))).set (i + 1) none) (st) es) : Zj p l e R s m args below meth c Q G B nL k n (pc) ls (.long x :: st) es :=
  fun H lo la hW hS hl => lv_lstore_n E.1 E.2.1 d hi hl.has hn rfl (fun la hq => kk H lo la hW hS (zl.st2 hp hq))
theorem z_lstore (E : En p s m args meth c G B nL cc own mn rt) {i : Nat} {x : Int64} (d : decode cc pc = .ok (.lstore i, 2))  (hn : i + 1 < nL) (hp : zprev ls i = true) (kk : Zj p l e R s m args below meth c Q G B nL k n (pc + 2) ((ls.set i (some (.long x))).set (i + 1) none) (st) es) : Zj p l e R s m args below meth c Q G B nL k n (pc) ls (.long x :: st) es :=
  fun H lo la hW hS hl => lv_lstore E.1 E.2.1 d hl.has hn rfl (fun la hq => kk H lo la hW hS (zl.st2 hp hq))
theorem z_astore_n (E : En p s m args meth c G B nL cc own mn rt) {q : Fin 4} {i : Nat} {x : Nat} (d : decode cc pc = .ok (.astore_n q, 1)) (hi : (q : Nat) = i) (hn : i < nL) (hp : zprev ls i = true) (kk : Zj p l e R s m args below meth c Q G B nL k n (pc + 1) (ls.set i (some (.ref x))) (st) es) : Zj p l e R s m args below meth c Q G B nL k n (pc) ls (.ref x :: st) es :=
  fun H lo la hW hS hl => lv_astore_n E.1 E.2.1 d hi hl.has hn rfl (fun la hq => kk H lo la hW hS (zl.st1 hp hq))
theorem z_astore (E : En p s m args meth c G B nL cc own mn rt) {i : Nat} {x : Nat} (d : decode cc pc = .ok (.astore i, 2))  (hn : i < nL) (hp : zprev ls i = true) (kk : Zj p l e R s m args below meth c Q G B nL k n (pc + 2) (ls.set i (some (.ref x))) (st) es) : Zj p l e R s m args below meth c Q G B nL k n (pc) ls (.ref x :: st) es :=
  fun H lo la hW hS hl => lv_astore E.1 E.2.1 d hl.has hn rfl (fun la hq => kk H lo la hW hS (zl.st1 hp hq))
theorem z_astore_nN (E : En p s m args meth c G B nL cc own mn rt) {q : Fin 4} {i : Nat} (d : decode cc pc = .ok (.astore_n q, 1)) (hi : (q : Nat) = i) (hn : i < nL) (hp : zprev ls i = true) (kk : Zj p l e R s m args below meth c Q G B nL k n (pc + 1) (ls.set i (some (.null))) (st) es) : Zj p l e R s m args below meth c Q G B nL k n (pc) ls (.null :: st) es :=
  fun H lo la hW hS hl => lv_astore_nN E.1 E.2.1 d hi hl.has hn rfl (fun la hq => kk H lo la hW hS (zl.st1 hp hq))
theorem z_astoreN (E : En p s m args meth c G B nL cc own mn rt) {i : Nat} (d : decode cc pc = .ok (.astore i, 2))  (hn : i < nL) (hp : zprev ls i = true) (kk : Zj p l e R s m args below meth c Q G B nL k n (pc + 2) (ls.set i (some (.null))) (st) es) : Zj p l e R s m args below meth c Q G B nL k n (pc) ls (.null :: st) es :=
  fun H lo la hW hS hl => lv_astoreN E.1 E.2.1 d hl.has hn rfl (fun la hq => kk H lo la hW hS (zl.st1 hp hq))
theorem z_iinc (E : En p s m args meth c G B nL cc own mn rt) {i : Nat} {z : Int} {x v : Int32} (d : decode cc pc = .ok (.iinc i z, 3)) (hx : ls[i]? = some (some (.int x))) (hv : x + Int32.ofInt z = v) (hn : i < nL) (hp : zprev ls i = true) (kk : Zj p l e R s m args below meth c Q G B nL k n (pc + 3) (ls.set i (some (.int v))) (st) es) : Zj p l e R s m args below meth c Q G B nL k n (pc) ls (st) es := by
  intro H lo la hW hS hl
  obtain ⟨j, hj⟩ := List.getElem?_of_mem ((za_mem ls 0 i).mpr ⟨i, by omega, hx⟩)
  exact lv_iinc E.1 E.2.1 d hl.has hj hv hn rfl (fun la hq => kk H lo la hW hS (zl.st1 hp hq))
theorem z_sub {ls' : List (Option Value)} (hs : ∀ (i : Nat) (v : Value), ls'[i]? = some (some v) → ls[i]? = some (some v)) (kk : Zj p l e R s m args below meth c Q G B nL k n (pc) ls' (st) es) : Zj p l e R s m args below meth c Q G B nL k n (pc) ls (st) es := fun H lo la hW hS hl => kk H lo la hW hS (hl.sub hs)
theorem z_drop (i : Nat) (kk : Zj p l e R s m args below meth c Q G B nL k n (pc) (ls.set i none) (st) es) : Zj p l e R s m args below meth c Q G B nL k n (pc) ls (st) es := by
  refine z_sub (fun j v h => ?_) kk
  by_cases hij : i = j
  · subst hij
    have hl : i < ls.length := by
      have := (List.getElem?_eq_some_iff.mp h).1
      simpa using this
    rw [List.getElem?_set_self hl] at h
    cases h
  · rwa [List.getElem?_set_ne hij] at h
theorem z_if_eq (E : En p s m args meth c G B nL cc own mn rt) {x : Int32} {off : Int} {tgt : Nat} (d : decode cc pc = .ok (.ifCond .eq off, 3)) (ht : (pc : Int) + off = (tgt : Int)) (kt : x = 0 → Zj p l e R s m args below meth c Q G B nL k n (tgt) ls (st) es) (kf : ¬ x = 0 → Zj p l e R s m args below meth c Q G B nL k n (pc + 3) ls (st) es) : Zj p l e R s m args below meth c Q G B nL k n (pc) ls (.int x :: st) es :=
  fun H lo la hW hS hl => lv_if_eq E.1 E.2.1 d ht (fun h => kt h H lo la hW hS hl) (fun h => kf h H lo la hW hS hl)
theorem z_icmp_eq (E : En p s m args meth c G B nL cc own mn rt) {x y : Int32} {off : Int} {tgt : Nat} (d : decode cc pc = .ok (.if_icmp .eq off, 3)) (ht : (pc : Int) + off = (tgt : Int)) (kt : x = y → Zj p l e R s m args below meth c Q G B nL k n (tgt) ls (st) es) (kf : ¬ x = y → Zj p l e R s m args below meth c Q G B nL k n (pc + 3) ls (st) es) : Zj p l e R s m args below meth c Q G B nL k n (pc) ls (.int y :: .int x :: st) es :=
  fun H lo la hW hS hl => lv_icmp_eq E.1 E.2.1 d ht (fun h => kt h H lo la hW hS hl) (fun h => kf h H lo la hW hS hl)
theorem z_if_ne (E : En p s m args meth c G B nL cc own mn rt) {x : Int32} {off : Int} {tgt : Nat} (d : decode cc pc = .ok (.ifCond .ne off, 3)) (ht : (pc : Int) + off = (tgt : Int)) (kt : ¬ x = 0 → Zj p l e R s m args below meth c Q G B nL k n (tgt) ls (st) es) (kf : x = 0 → Zj p l e R s m args below meth c Q G B nL k n (pc + 3) ls (st) es) : Zj p l e R s m args below meth c Q G B nL k n (pc) ls (.int x :: st) es :=
  fun H lo la hW hS hl => lv_if_ne E.1 E.2.1 d ht (fun h => kt h H lo la hW hS hl) (fun h => kf h H lo la hW hS hl)
theorem z_icmp_ne (E : En p s m args meth c G B nL cc own mn rt) {x y : Int32} {off : Int} {tgt : Nat} (d : decode cc pc = .ok (.if_icmp .ne off, 3)) (ht : (pc : Int) + off = (tgt : Int)) (kt : ¬ x = y → Zj p l e R s m args below meth c Q G B nL k n (tgt) ls (st) es) (kf : x = y → Zj p l e R s m args below meth c Q G B nL k n (pc + 3) ls (st) es) : Zj p l e R s m args below meth c Q G B nL k n (pc) ls (.int y :: .int x :: st) es :=
  fun H lo la hW hS hl => lv_icmp_ne E.1 E.2.1 d ht (fun h => kt h H lo la hW hS hl) (fun h => kf h H lo la hW hS hl)
theorem z_if_lt (E : En p s m args meth c G B nL cc own mn rt) {x : Int32} {off : Int} {tgt : Nat} (d : decode cc pc = .ok (.ifCond .lt off, 3)) (ht : (pc : Int) + off = (tgt : Int)) (kt : x < 0 → Zj p l e R s m args below meth c Q G B nL k n (tgt) ls (st) es) (kf : ¬ x < 0 → Zj p l e R s m args below meth c Q G B nL k n (pc + 3) ls (st) es) : Zj p l e R s m args below meth c Q G B nL k n (pc) ls (.int x :: st) es :=
  fun H lo la hW hS hl => lv_if_lt E.1 E.2.1 d ht (fun h => kt h H lo la hW hS hl) (fun h => kf h H lo la hW hS hl)
theorem z_icmp_lt (E : En p s m args meth c G B nL cc own mn rt) {x y : Int32} {off : Int} {tgt : Nat} (d : decode cc pc = .ok (.if_icmp .lt off, 3)) (ht : (pc : Int) + off = (tgt : Int)) (kt : x < y → Zj p l e R s m args below meth c Q G B nL k n (tgt) ls (st) es) (kf : ¬ x < y → Zj p l e R s m args below meth c Q G B nL k n (pc + 3) ls (st) es) : Zj p l e R s m args below meth c Q G B nL k n (pc) ls (.int y :: .int x :: st) es :=
  fun H lo la hW hS hl => lv_icmp_lt E.1 E.2.1 d ht (fun h => kt h H lo la hW hS hl) (fun h => kf h H lo la hW hS hl)
theorem z_if_ge (E : En p s m args meth c G B nL cc own mn rt) {x : Int32} {off : Int} {tgt : Nat} (d : decode cc pc = .ok (.ifCond .ge off, 3)) (ht : (pc : Int) + off = (tgt : Int)) (kt : 0 ≤ x → Zj p l e R s m args below meth c Q G B nL k n (tgt) ls (st) es) (kf : ¬ 0 ≤ x → Zj p l e R s m args below meth c Q G B nL k n (pc + 3) ls (st) es) : Zj p l e R s m args below meth c Q G B nL k n (pc) ls (.int x :: st) es :=
  fun H lo la hW hS hl => lv_if_ge E.1 E.2.1 d ht (fun h => kt h H lo la hW hS hl) (fun h => kf h H lo la hW hS hl)
theorem z_icmp_ge (E : En p s m args meth c G B nL cc own mn rt) {x y : Int32} {off : Int} {tgt : Nat} (d : decode cc pc = .ok (.if_icmp .ge off, 3)) (ht : (pc : Int) + off = (tgt : Int)) (kt : y ≤ x → Zj p l e R s m args below meth c Q G B nL k n (tgt) ls (st) es) (kf : ¬ y ≤ x → Zj p l e R s m args below meth c Q G B nL k n (pc + 3) ls (st) es) : Zj p l e R s m args below meth c Q G B nL k n (pc) ls (.int y :: .int x :: st) es :=
  fun H lo la hW hS hl => lv_icmp_ge E.1 E.2.1 d ht (fun h => kt h H lo la hW hS hl) (fun h => kf h H lo la hW hS hl)
theorem z_if_gt (E : En p s m args meth c G B nL cc own mn rt) {x : Int32} {off : Int} {tgt : Nat} (d : decode cc pc = .ok (.ifCond .gt off, 3)) (ht : (pc : Int) + off = (tgt : Int)) (kt : 0 < x → Zj p l e R s m args below meth c Q G B nL k n (tgt) ls (st) es) (kf : ¬ 0 < x → Zj p l e R s m args below meth c Q G B nL k n (pc + 3) ls (st) es) : Zj p l e R s m args below meth c Q G B nL k n (pc) ls (.int x :: st) es :=
  fun H lo la hW hS hl => lv_if_gt E.1 E.2.1 d ht (fun h => kt h H lo la hW hS hl) (fun h => kf h H lo la hW hS hl)
theorem z_icmp_gt (E : En p s m args meth c G B nL cc own mn rt) {x y : Int32} {off : Int} {tgt : Nat} (d : decode cc pc = .ok (.if_icmp .gt off, 3)) (ht : (pc : Int) + off = (tgt : Int)) (kt : y < x → Zj p l e R s m args below meth c Q G B nL k n (tgt) ls (st) es) (kf : ¬ y < x → Zj p l e R s m args below meth c Q G B nL k n (pc + 3) ls (st) es) : Zj p l e R s m args below meth c Q G B nL k n (pc) ls (.int y :: .int x :: st) es :=
  fun H lo la hW hS hl => lv_icmp_gt E.1 E.2.1 d ht (fun h => kt h H lo la hW hS hl) (fun h => kf h H lo la hW hS hl)
theorem z_if_le (E : En p s m args meth c G B nL cc own mn rt) {x : Int32} {off : Int} {tgt : Nat} (d : decode cc pc = .ok (.ifCond .le off, 3)) (ht : (pc : Int) + off = (tgt : Int)) (kt : x ≤ 0 → Zj p l e R s m args below meth c Q G B nL k n (tgt) ls (st) es) (kf : ¬ x ≤ 0 → Zj p l e R s m args below meth c Q G B nL k n (pc + 3) ls (st) es) : Zj p l e R s m args below meth c Q G B nL k n (pc) ls (.int x :: st) es :=
  fun H lo la hW hS hl => lv_if_le E.1 E.2.1 d ht (fun h => kt h H lo la hW hS hl) (fun h => kf h H lo la hW hS hl)
theorem z_icmp_le (E : En p s m args meth c G B nL cc own mn rt) {x y : Int32} {off : Int} {tgt : Nat} (d : decode cc pc = .ok (.if_icmp .le off, 3)) (ht : (pc : Int) + off = (tgt : Int)) (kt : x ≤ y → Zj p l e R s m args below meth c Q G B nL k n (tgt) ls (st) es) (kf : ¬ x ≤ y → Zj p l e R s m args below meth c Q G B nL k n (pc + 3) ls (st) es) : Zj p l e R s m args below meth c Q G B nL k n (pc) ls (.int y :: .int x :: st) es :=
  fun H lo la hW hS hl => lv_icmp_le E.1 E.2.1 d ht (fun h => kt h H lo la hW hS hl) (fun h => kf h H lo la hW hS hl)
theorem z_goto (E : En p s m args meth c G B nL cc own mn rt) {off : Int} {tgt : Nat} (d : decode cc pc = .ok (.goto off, 3)) (ht : (pc : Int) + off = (tgt : Int)) (kk : Zj p l e R s m args below meth c Q G B nL k n (tgt) ls (st) es) : Zj p l e R s m args below meth c Q G B nL k n (pc) ls (st) es := fun H lo la hW hS hl => lv_goto E.1 E.2.1 d ht (kk H lo la hW hS hl)
theorem z_ifnonnull (E : En p s m args meth c G B nL cc own mn rt) {x : Nat} {off : Int} {tgt : Nat} (d : decode cc pc = .ok (.ifnonnull off, 3)) (ht : (pc : Int) + off = (tgt : Int)) (kk : Zj p l e R s m args below meth c Q G B nL k n (tgt) ls (st) es) : Zj p l e R s m args below meth c Q G B nL k n (pc) ls (.ref x :: st) es := fun H lo la hW hS hl => lv_ifnonnull E.1 E.2.1 d ht (kk H lo la hW hS hl)
theorem z_ifnull (E : En p s m args meth c G B nL cc own mn rt) {x : Nat} {off : Int} (d : decode cc pc = .ok (.ifnull off, 3)) (kk : Zj p l e R s m args below meth c Q G B nL k n (pc + 3) ls (st) es) : Zj p l e R s m args below meth c Q G B nL k n (pc) ls (.ref x :: st) es := fun H lo la hW hS hl => lv_ifnull E.1 E.2.1 d (kk H lo la hW hS hl)
theorem z_ifnullN (E : En p s m args meth c G B nL cc own mn rt) {off : Int} {tgt : Nat} (d : decode cc pc = .ok (.ifnull off, 3)) (ht : (pc : Int) + off = (tgt : Int)) (kk : Zj p l e R s m args below meth c Q G B nL k n (tgt) ls (st) es) : Zj p l e R s m args below meth c Q G B nL k n (pc) ls (.null :: st) es := fun H lo la hW hS hl => lv_ifnullN E.1 E.2.1 d ht (kk H lo la hW hS hl)
theorem z_ifnonnullN (E : En p s m args meth c G B nL cc own mn rt) {off : Int} (d : decode cc pc = .ok (.ifnonnull off, 3)) (kk : Zj p l e R s m args below meth c Q G B nL k n (pc + 3) ls (st) es) : Zj p l e R s m args below meth c Q G B nL k n (pc) ls (.null :: st) es := fun H lo la hW hS hl => lv_ifnonnullN E.1 E.2.1 d (kk H lo la hW hS hl)
theorem z_tableIn (E : En p s m args meth c G B nL cc own mn rt) {dflt lo hi : Int} {offs : Array Int} {len : Nat} {x : Int32} {off : Int} {tgt : Nat} (d : decode cc pc = .ok (.tableswitch dflt lo hi offs, len)) (h1 : ¬ x.toInt < lo) (h2 : ¬ hi < x.toInt) (ho : offs[(x.toInt - lo).toNat]? = some off) (ht : (pc : Int) + off = (tgt : Int)) (kk : Zj p l e R s m args below meth c Q G B nL k n (tgt) ls (st) es) : Zj p l e R s m args below meth c Q G B nL k n (pc) ls (.int x :: st) es := fun H loo la hW hS hl => lv_tableIn E.1 E.2.1 d h1 h2 ho ht (kk H loo la hW hS hl)
theorem z_tableOut (E : En p s m args meth c G B nL cc own mn rt) {dflt lo hi : Int} {offs : Array Int} {len : Nat} {x : Int32} {tgt : Nat} (d : decode cc pc = .ok (.tableswitch dflt lo hi offs, len)) (h : x.toInt < lo ∨ hi < x.toInt) (ht : (pc : Int) + dflt = (tgt : Int)) (kk : Zj p l e R s m args below meth c Q G B nL k n (tgt) ls (st) es) : Zj p l e R s m args below meth c Q G B nL k n (pc) ls (.int x :: st) es := fun H loo la hW hS hl => lv_tableOut E.1 E.2.1 d h ht (kk H loo la hW hS hl)
theorem z_lookup (E : En p s m args meth c G B nL cc own mn rt) {dflt : Int} {ps : Array (Int × Int)} {len : Nat} {x : Int32} {off : Int} {tgt : Nat} (d : decode cc pc = .ok (.lookupswitch dflt ps, len)) (hp : (ps.toList.zip (ps.toList.drop 1)).all (fun (a, next) => a.1 < next.1) = true) (ho : Op.lookupswitch.offset ps.toList dflt x.toInt = off) (ht : (pc : Int) + off = (tgt : Int)) (kk : Zj p l e R s m args below meth c Q G B nL k n (tgt) ls (st) es) : Zj p l e R s m args below meth c Q G B nL k n (pc) ls (.int x :: st) es := fun H lo la hW hS hl => lv_lookup E.1 E.2.1 d hp ho ht (kk H lo la hW hS hl)
theorem z_ldc (E : En p s m args meth c G B nL cc own mn rt) {index : Nat} {v : Int32} (hc : Cond.constant own index v ∈ zzW) (d : decode cc pc = .ok (.ldc index, 2)) (kk : Zj p l e R s m args below meth c Q G B nL k n (pc + 2) ls (.int v :: st) es) : Zj p l e R s m args below meth c Q G B nL k n (pc) ls (st) es := fun H lo la hW hS hl => lv_ldc E.1 E.2.1 E.2.2.2.1 (E.2.2.2.2.1 _ hc) d (kk H lo la hW hS hl)
theorem z_ldc2 (E : En p s m args meth c G B nL cc own mn rt) {index : Nat} {v : Int64} (hc : Cond.constantLong own index v ∈ zzW) (d : decode cc pc = .ok (.ldc2_w index, 3)) (kk : Zj p l e R s m args below meth c Q G B nL k n (pc + 3) ls (.long v :: st) es) : Zj p l e R s m args below meth c Q G B nL k n (pc) ls (st) es := fun H lo la hW hS hl => lv_ldc2 E.1 E.2.1 E.2.2.2.1 (E.2.2.2.2.1 _ hc) d (kk H lo la hW hS hl)
theorem z_topi {x y : Int32} (h : x = y) (kk : Zj p l e R s m args below meth c Q G B nL k n (pc) ls (.int y :: st) es) : Zj p l e R s m args below meth c Q G B nL k n (pc) ls (.int x :: st) es := by rw [h]; exact kk
theorem z_topl {x y : Int64} (h : x = y) (kk : Zj p l e R s m args below meth c Q G B nL k n (pc) ls (.long y :: st) es) : Zj p l e R s m args below meth c Q G B nL k n (pc) ls (.long x :: st) es := by rw [h]; exact kk
theorem z_st {st' : List Value} (h : st = st') (kk : Zj p l e R s m args below meth c Q G B nL k n (pc) ls (st') es) : Zj p l e R s m args below meth c Q G B nL k n (pc) ls (st) es := by rw [h]; exact kk
theorem z_widen {k' n' : Nat} (h1 : k ≤ k') (h2 : n ≤ n') (kk : Zj p l e R s m args below meth c Q G B nL k' n' pc ls st es) : Zj p l e R s m args below meth c Q G B nL k n (pc) ls (st) es := fun H lo la hW hS hl => W.widen h1 h2 (kk H lo la hW hS hl)
/-- the link of a getfield or putfield: the class's place, the field's place; by a word of the tables, or of nest mates -/
def zFw (own : String) (idx : Nat) (q : String × String × String) : Prop := Cond.fieldLink own idx q.1 q.2.1 q.2.2 ∈ zzW ∨ ∃ host, (own, idx, q.1, q.2.1, q.2.2, host) ∈ zzNF
def zF (own : String) (idx ci kf : Nat) : Prop := ∃ (C : String) (T : u_T) (N : Nat), vwCl[ci]? = some (C, T, N) ∧ (∀ w ∈ u_ws C T N, w ∈ zzW) ∧ kf < N ∧ zFw own idx ((T kf).1, (T kf).2.1, (T kf).2.2.1)
def zFp (own : String) (idx ci kf : Nat) (ty : FieldType) (fin : Bool) : Prop := ∃ (C : String) (T : u_T) (N : Nat) (ty0 : Nat → FieldType), vwCl[ci]? = some (C, T, N) ∧ (∀ w ∈ u_ws C T N, w ∈ zzW) ∧ (∀ k, k < N → parseFieldDescriptor (T k).2.2.1 = some (ty0 k)) ∧ (∀ a, a < N → ∀ b, b < N → a ≠ b → (T a).2.1 ≠ (T b).2.1) ∧ kf < N ∧ zFw own idx ((T kf).1, (T kf).2.1, (T kf).2.2.1) ∧ (T kf).2.2.2 = fin ∧ parseFieldDescriptor (T kf).2.2.1 = some ty ∧ (fin = true → (T kf).1 = own ∧ Cond.fieldLink own idx (T kf).1 (T kf).2.1 (T kf).2.2.1 ∈ zzW)
theorem z_get (E : En p s m args meth c G B nL cc own mn rt) {idx ci kf i : Nat} {fs : List Value} {v : Value} (hf : zF own idx ci kf) (d : decode cc pc = .ok (.getfield idx, 3)) (he : es[i]? = some (.inr (ci, fs))) (hv : fs[kf]? = some v) (kk : Zj p l e R s m args below meth c Q G B nL k n (pc + 3) ls (v :: st) es) : Zj p l e R s m args below meth c Q G B nL k n (pc) ls (.ref (B + i) :: st) es := by
  intro H lo la hW hS hl
  obtain ⟨C, T, N, hc, hw, hk, hlk | ⟨host, hlk⟩⟩ := hf
  · exact va_get (C := C) (T := T) (N := N) E.1 E.2.1 E.2.2.2.2.1 hw E.2.2.2.1 E.2.2.2.2.2.1 hW.2 i (zw_at he) hc kf hk (E.2.2.2.2.1 _ hlk) (fun _ h => h) hv d (kk H lo la hW hS hl)
  · exact va_getN (C := C) (T := T) (N := N) E.1 E.2.1 E.2.2.2.2.1 hw E.2.2.2.1 E.2.2.2.2.2.1 hW.2 i (zw_at he) hc kf hk (va_Nw.use rfl (E.2.2.2.2.2.2.1.1 _ hlk)) (fun _ h => h) hv d (kk H lo la hW hS hl)
theorem z_put (E : En p s m args meth c G B nL cc own mn rt) {idx ci kf i : Nat} {fs : List Value} {v : Value} {ty : FieldType} (hf : zFp own idx ci kf ty false) (d : decode cc pc = .ok (.putfield idx, 3)) (he : es[i]? = some (.inr (ci, fs))) (hl : kf < fs.length) (hn : narrow ty v = v) (hfit : fits ty v = true) (kk : ∀ es', es' = es.set i (.inr (ci, fs.set kf v)) → Zj p l e R s m args below meth c Q G B nL k n (pc + 3) ls (st) es') : Zj p l e R s m args below meth c Q G B nL k n (pc) ls (v :: .ref (B + i) :: st) es := by
  intro H lo la hW hS hl2
  have sz : ∀ (H1 : Heap) (lo1 : List Loc), va_P G.1 vwCl ((zw B es).set i (B + i, .inr (ci, fs.set kf v))) H1 → H1.size = H.size → va_S (fun q => B ≤ q) s.heap H1 lo1 → W p l e R s m args below meth c H1 lo1 k n Q (F0 m (pc + 3) la st) := fun H1 lo1 h1 hz h2 => kk _ rfl H1 lo1 la (hW.upd hz h1) h2 hl2
  obtain ⟨C, T, N, ty0, hc, hw, hty, hnm, hk, hlk, hfin, hd, -⟩ := hf
  have hap := va_apart (own := own) E.2.2.2.2.1 hw ty0 hty hnm E.2.2.2.2.2.1 hc
  obtain ⟨r, h1, cell, q1, q2, q3, q4⟩ := hW.2 i _ (zw_at he)
  have hr : r = (C, T, N) := Option.some.inj (h1.symm.trans hc)
  subst hr
  obtain ⟨hSl, hfc, kC, hkC, hkind⟩ := E.2.2.2.2.2.1.1 ci _ hc
  obtain ⟨cf, kf', fi, f, hi, hsl⟩ := hSl kf hk
  have hlay := E.2.2.2.2.1 _ (hw _ (u_in_lay hk))
  unfold u_lay at hlay
  rw [if_neg (by rw [hfin]; decide)] at hlay
  have hst := (u_facts hfc hkC (u_lays E.2.2.2.2.1 hw hk) hi).1
  have h6 := u_store hfc hkC hkind hlay hi hd hn hfit
  have fin : ∀ H' : Heap, H'[B + i]? = some (cell.setSlot f.slot v) → H'.size = H.size → (∀ q, q ≠ B + i → H'[q]? = H[q]?) → W p l e R s m args below meth c H' (lo ++ [⟨B + i, f.slot⟩]) k n Q (F0 m (pc + 3) la st) := by
    intro H' e1 e2 e3
    rw [hsl] at e1
    refine sz H' _ (hW.2.set zw_D (zw_at he) ⟨_, hc, t_OB.to (V := updV (vp_V fs) kf v) ⟨_, e1, q2, q3, t_set q4 hap hk v⟩ (fun j _ => vp_updV_set hl v j)⟩ e3) e2 (hS.put e2 e3 (Nat.le_add_right B i))
  rcases hlk with hlk | ⟨host, hlk⟩
  · exact W.putK E.1 E.2.1 (f := f) ⟨E.2.2.2.1, E.2.2.2.2.1 _ hlk, ⟨_, _, _, hi⟩, hst⟩ (by rw [q2]; exact h6) q1 q3 (by rw [hsl]; exact k2_hasslot (q4 kf hk)) rfl rfl d fin
  · exact va_WputK E.1 E.2.1 (f := f) E.2.2.2.1 (va_Nw.use rfl (E.2.2.2.2.2.2.1.1 _ hlk)) hi hst (by rw [q2]; exact h6) q1 q3 (by rw [hsl]; exact k2_hasslot (q4 kf hk)) rfl rfl d fin
theorem z_putF (E : En p s m args meth c G B nL cc own mn rt) {idx ci kf i : Nat} {fs : List Value} {v : Value} {ty : FieldType} (hf : zFp own idx ci kf ty true) (hmn : mn = "<init>") (d : decode cc pc = .ok (.putfield idx, 3)) (he : es[i]? = some (.inr (ci, fs))) (hl : kf < fs.length) (hn : narrow ty v = v) (hfit : fits ty v = true) (kk : ∀ es', es' = es.set i (.inr (ci, fs.set kf v)) → Zj p l e R s m args below meth c Q G B nL k n (pc + 3) ls (st) es') : Zj p l e R s m args below meth c Q G B nL k n (pc) ls (v :: .ref (B + i) :: st) es := by
  intro H lo la hW hS hl2
  have sz : ∀ (H1 : Heap) (lo1 : List Loc), va_P G.1 vwCl ((zw B es).set i (B + i, .inr (ci, fs.set kf v))) H1 → H1.size = H.size → va_S (fun q => B ≤ q) s.heap H1 lo1 → W p l e R s m args below meth c H1 lo1 k n Q (F0 m (pc + 3) la st) := fun H1 lo1 h1 hz h2 => kk _ rfl H1 lo1 la (hW.upd hz h1) h2 hl2
  obtain ⟨C, T, N, ty0, hc, hw, hty, hnm, hk, -, hfin, hd, hown⟩ := hf
  obtain ⟨hdecl, hlk⟩ := hown rfl
  have hap := va_apart (own := own) E.2.2.2.2.1 hw ty0 hty hnm E.2.2.2.2.2.1 hc
  obtain ⟨r, h1, cell, q1, q2, q3, q4⟩ := hW.2 i _ (zw_at he)
  have hr : r = (C, T, N) := Option.some.inj (h1.symm.trans hc)
  subst hr
  obtain ⟨hSl, hfc, kC, hkC, hkind⟩ := E.2.2.2.2.2.1.1 ci _ hc
  obtain ⟨cf, kf', fi, f, hi, hsl⟩ := hSl kf hk
  have hlay := E.2.2.2.2.1 _ (hw _ (u_in_lay hk))
  unfold u_lay at hlay
  rw [if_pos hfin] at hlay
  have hst := (u_facts hfc hkC (u_lays E.2.2.2.2.1 hw hk) hi).1
  have hcf : m.cls = cf := by
    obtain ⟨_, _, c', _, _, _, -, -, hf', -, -, -, hown2, -⟩ := Cond.laysFinal_spec hlay
    have e1 : c' = cf := by have := hi.symm.trans hf'; simp at this; exact this.1.symm
    rw [hdecl] at hown2
    rw [← e1]; exact Option.some.inj (E.2.2.2.1.symm.trans hown2)
  have h6 := u_fits hfc hkC hkind (Or.inr hlay) hi hd hn hfit
  refine W.putFinK E.1 E.2.1 E.2.2.2.1 (E.2.2.2.2.1 _ hlk) hi hst hcf (E.2.2.2.2.2.2.2.2.2.2.2.trans hmn) (by rw [q2]; exact h6) q1 q3 (by rw [hsl]; exact k2_hasslot (q4 kf hk)) rfl rfl d fun H' e1 e2 e3 => ?_
  rw [hsl] at e1
  exact sz H' _ (hW.2.set zw_D (zw_at he) ⟨_, hc, t_OB.to (V := updV (vp_V fs) kf v) ⟨_, e1, q2, q3, t_set q4 hap hk v⟩ (fun j _ => vp_updV_set hl v j)⟩ e3) e2 (hS.put e2 e3 (Nat.le_add_right B i))
theorem z_iald (E : En p s m args meth c G B nL cc own mn rt) {i ti N : Nat} {f : Nat → Int32} {j : Int32} (ht : zzTy[ti]? = some .int) (d : decode cc pc = .ok (.iaload, 1)) (he : es[i]? = some (.inl (G.2.1 ti, N, .inl f))) (hin : vp_in j N) (kk : Zj p l e R s m args below meth c Q G B nL k n (pc + 1) ls (.int (f j.toNatClampNeg) :: st) es) : Zj p l e R s m args below meth c Q G B nL k n (pc) ls (.int j :: .ref (B + i) :: st) es :=
  fun H lo la hW hS hl => va_iald E.1 E.2.1 E.2.2.2.2.2.1 hW.2 i ti (zw_at he) (zty_at ht) hin d (kk H lo la hW hS hl)
theorem z_bald (E : En p s m args meth c G B nL cc own mn rt) {i ti N : Nat} {f : Nat → Int32} {j : Int32} (ht : zzTy[ti]? = some .byte) (d : decode cc pc = .ok (.baload, 1)) (he : es[i]? = some (.inl (G.2.1 ti, N, .inl f))) (hin : vp_in j N) (kk : Zj p l e R s m args below meth c Q G B nL k n (pc + 1) ls (.int (f j.toNatClampNeg) :: st) es) : Zj p l e R s m args below meth c Q G B nL k n (pc) ls (.int j :: .ref (B + i) :: st) es :=
  fun H lo la hW hS hl => va_bald E.1 E.2.1 E.2.2.2.2.2.1 hW.2 i ti (zw_at he) (zty_at ht) hin d (kk H lo la hW hS hl)
theorem z_zald (E : En p s m args meth c G B nL cc own mn rt) {i ti N : Nat} {f : Nat → Int32} {j : Int32} (ht : zzTy[ti]? = some .boolean) (d : decode cc pc = .ok (.baload, 1)) (he : es[i]? = some (.inl (G.2.1 ti, N, .inl f))) (hin : vp_in j N) (kk : Zj p l e R s m args below meth c Q G B nL k n (pc + 1) ls (.int (f j.toNatClampNeg) :: st) es) : Zj p l e R s m args below meth c Q G B nL k n (pc) ls (.int j :: .ref (B + i) :: st) es :=
  fun H lo la hW hS hl => va_zald E.1 E.2.1 E.2.2.2.2.2.1 hW.2 i ti (zw_at he) (zty_at ht) hin d (kk H lo la hW hS hl)
theorem z_cald (E : En p s m args meth c G B nL cc own mn rt) {i ti N : Nat} {f : Nat → Int32} {j : Int32} (ht : zzTy[ti]? = some .char) (d : decode cc pc = .ok (.caload, 1)) (he : es[i]? = some (.inl (G.2.1 ti, N, .inl f))) (hin : vp_in j N) (kk : Zj p l e R s m args below meth c Q G B nL k n (pc + 1) ls (.int (f j.toNatClampNeg) :: st) es) : Zj p l e R s m args below meth c Q G B nL k n (pc) ls (.int j :: .ref (B + i) :: st) es :=
  fun H lo la hW hS hl => va_cald E.1 E.2.1 E.2.2.2.2.2.1 hW.2 i ti (zw_at he) (zty_at ht) hin d (kk H lo la hW hS hl)
theorem z_sald (E : En p s m args meth c G B nL cc own mn rt) {i ti N : Nat} {f : Nat → Int32} {j : Int32} (ht : zzTy[ti]? = some .short) (d : decode cc pc = .ok (.saload, 1)) (he : es[i]? = some (.inl (G.2.1 ti, N, .inl f))) (hin : vp_in j N) (kk : Zj p l e R s m args below meth c Q G B nL k n (pc + 1) ls (.int (f j.toNatClampNeg) :: st) es) : Zj p l e R s m args below meth c Q G B nL k n (pc) ls (.int j :: .ref (B + i) :: st) es :=
  fun H lo la hW hS hl => va_sald E.1 E.2.1 E.2.2.2.2.2.1 hW.2 i ti (zw_at he) (zty_at ht) hin d (kk H lo la hW hS hl)
theorem z_lald (E : En p s m args meth c G B nL cc own mn rt) {i ti N : Nat} {f : Nat → Int64} {j : Int32} (ht : zzTy[ti]? = some .long) (d : decode cc pc = .ok (.laload, 1)) (he : es[i]? = some (.inl (G.2.1 ti, N, .inr (.inl (f))))) (hin : vp_in j N) (kk : Zj p l e R s m args below meth c Q G B nL k n (pc + 1) ls (.long (f j.toNatClampNeg) :: st) es) : Zj p l e R s m args below meth c Q G B nL k n (pc) ls (.int j :: .ref (B + i) :: st) es :=
  fun H lo la hW hS hl => va_lald E.1 E.2.1 E.2.2.2.2.2.1 hW.2 i ti (zw_at he) (zty_at ht) hin d (kk H lo la hW hS hl)
theorem z_aald (E : En p s m args meth c G B nL cc own mn rt) {i ti N : Nat} {C : String} {f : Nat → Option Nat} {j : Int32} (ht : zzTy[ti]? = some (.object C)) (d : decode cc pc = .ok (.aaload, 1)) (he : es[i]? = some (.inl (G.2.1 ti, N, .inr (.inr (.inr (.inr (f))))))) (hin : vp_in j N) (kk : Zj p l e R s m args below meth c Q G B nL k n (pc + 1) ls (va_rf (f j.toNatClampNeg) :: st) es) : Zj p l e R s m args below meth c Q G B nL k n (pc) ls (.int j :: .ref (B + i) :: st) es :=
  fun H lo la hW hS hl => va_aldq E.1 E.2.1 E.2.2.2.2.2.1 hW.2 i ti (zw_at he) (zty_at ht) hin d (kk H lo la hW hS hl)
theorem z_iast (E : En p s m args meth c G B nL cc own mn rt) {i ti N : Nat} {f : Nat → Int32} {j : Int32} {x : Int32} (ht : zzTy[ti]? = some .int) (d : decode cc pc = .ok (.iastore, 1)) (he : es[i]? = some (.inl (G.2.1 ti, N, .inl f))) (hin : vp_in j N) (kk : ∀ es', es' = es.set i (.inl (G.2.1 ti, N, .inl (upd f j.toNatClampNeg x))) → Zj p l e R s m args below meth c Q G B nL k n (pc + 1) ls (st) es') : Zj p l e R s m args below meth c Q G B nL k n (pc) ls (.int (x) :: .int j :: .ref (B + i) :: st) es := by
  intro H lo la hW hS hl
  refine W.iast E.1 E.2.1 (hW.2 i _ (zw_at he)) ((E.2.2.2.2.2.1.2 ti _ (zty_at ht)).1 N (fun j => .int (f j))) (fun q => by cases q) (by show ¬ (j < 0 ∨ (arrV _ _ _).slots.size ≤ _); rw [arrV_size]; exact hin) rfl rfl d fun H1 e z oq => ?_
  refine kk _ rfl H1 _ la (hW.upd z (hW.2.set zw_D (zw_at he) ?_ oq)) (hS.put z oq (Nat.le_add_right B i)) hl
  show H1[B + i]? = some (vp_cell _ _)
  rw [e, vp_cell_i, vp_cell_i, arrV_store]
  congr 2
  funext q
  by_cases hq : q = j.toNatClampNeg
  · subst hq
    simp [updV, upd]
  · simp [updV, upd, vp_updL, hq]
theorem z_bast (E : En p s m args meth c G B nL cc own mn rt) {i ti N : Nat} {f : Nat → Int32} {j : Int32} {x : Int32} (ht : zzTy[ti]? = some .byte) (d : decode cc pc = .ok (.bastore, 1)) (he : es[i]? = some (.inl (G.2.1 ti, N, .inl f))) (hin : vp_in j N) (kk : ∀ es', es' = es.set i (.inl (G.2.1 ti, N, .inl (upd f j.toNatClampNeg (vp_nar .byte x)))) → Zj p l e R s m args below meth c Q G B nL k n (pc + 1) ls (st) es') : Zj p l e R s m args below meth c Q G B nL k n (pc) ls (.int (x) :: .int j :: .ref (B + i) :: st) es := by
  intro H lo la hW hS hl
  refine W.bast E.1 E.2.1 (hW.2 i _ (zw_at he)) ((E.2.2.2.2.2.1.2 ti _ (zty_at ht)).1 N (fun j => .int (f j))) (fun q => by cases q) (by show ¬ (j < 0 ∨ (arrV _ _ _).slots.size ≤ _); rw [arrV_size]; exact hin) rfl rfl d fun H1 e z oq => ?_
  refine kk _ rfl H1 _ la (hW.upd z (hW.2.set zw_D (zw_at he) ?_ oq)) (hS.put z oq (Nat.le_add_right B i)) hl
  show H1[B + i]? = some (vp_cell _ _)
  rw [e, vp_cell_i, vp_cell_i, arrV_store]
  congr 2
  funext q
  by_cases hq : q = j.toNatClampNeg
  · subst hq
    simp [updV, upd, vp_nar]; try rfl
  · simp [updV, upd, vp_updL, hq]
theorem z_zast (E : En p s m args meth c G B nL cc own mn rt) {i ti N : Nat} {f : Nat → Int32} {j : Int32} {x : Int32} (ht : zzTy[ti]? = some .boolean) (d : decode cc pc = .ok (.bastore, 1)) (he : es[i]? = some (.inl (G.2.1 ti, N, .inl f))) (hin : vp_in j N) (kk : ∀ es', es' = es.set i (.inl (G.2.1 ti, N, .inl (upd f j.toNatClampNeg (vp_nar .boolean x)))) → Zj p l e R s m args below meth c Q G B nL k n (pc + 1) ls (st) es') : Zj p l e R s m args below meth c Q G B nL k n (pc) ls (.int (x) :: .int j :: .ref (B + i) :: st) es := by
  intro H lo la hW hS hl
  refine W.zast E.1 E.2.1 (hW.2 i _ (zw_at he)) ((E.2.2.2.2.2.1.2 ti _ (zty_at ht)).1 N (fun j => .int (f j))) (fun q => by cases q) (by show ¬ (j < 0 ∨ (arrV _ _ _).slots.size ≤ _); rw [arrV_size]; exact hin) rfl rfl d fun H1 e z oq => ?_
  refine kk _ rfl H1 _ la (hW.upd z (hW.2.set zw_D (zw_at he) ?_ oq)) (hS.put z oq (Nat.le_add_right B i)) hl
  show H1[B + i]? = some (vp_cell _ _)
  rw [e, vp_cell_i, vp_cell_i, arrV_store]
  congr 2
  funext q
  by_cases hq : q = j.toNatClampNeg
  · subst hq
    simp [updV, upd, vp_nar]; try rfl
  · simp [updV, upd, vp_updL, hq]
theorem z_last (E : En p s m args meth c G B nL cc own mn rt) {i ti N : Nat} {f : Nat → Int64} {j : Int32} {x : Int64} (ht : zzTy[ti]? = some .long) (d : decode cc pc = .ok (.lastore, 1)) (he : es[i]? = some (.inl (G.2.1 ti, N, .inr (.inl (f))))) (hin : vp_in j N) (kk : ∀ es', es' = es.set i (.inl (G.2.1 ti, N, .inr (.inl (vp_updL f j.toNatClampNeg x)))) → Zj p l e R s m args below meth c Q G B nL k n (pc + 1) ls (st) es') : Zj p l e R s m args below meth c Q G B nL k n (pc) ls (.long (x) :: .int j :: .ref (B + i) :: st) es := by
  intro H lo la hW hS hl
  refine W.last E.1 E.2.1 (hW.2 i _ (zw_at he)) ((E.2.2.2.2.2.1.2 ti _ (zty_at ht)).1 N (fun j => .long (f j))) (fun q => by cases q) (by show ¬ (j < 0 ∨ (arrV _ _ _).slots.size ≤ _); rw [arrV_size]; exact hin) rfl rfl d fun H1 e z oq => ?_
  refine kk _ rfl H1 _ la (hW.upd z (hW.2.set zw_D (zw_at he) ?_ oq)) (hS.put z oq (Nat.le_add_right B i)) hl
  show H1[B + i]? = some (vp_cell _ _)
  rw [e, vp_cell_l, vp_cell_l, arrV_store]
  congr 2
  funext q
  by_cases hq : q = j.toNatClampNeg
  · subst hq
    simp [updV, vp_updL]
  · simp [updV, upd, vp_updL, hq]
theorem z_aast (E : En p s m args meth c G B nL cc own mn rt) {i ti N qk ci a : Nat} {r : vw_C} {vs : List Value} {f : Nat → Option Nat} {j : Int32} (ht : zzTy[ti]? = some (.object r.1)) (hc : vwCl[ci]? = some r) (d : decode cc pc = .ok (.aastore, 1)) (he : es[i]? = some (.inl (G.2.1 ti, N, .inr (.inr (.inr (.inr (f))))))) (hv : es[qk]? = some (.inr (ci, vs))) (ha : a = B + qk) (hin : vp_in j N) (kk : ∀ es', es' = es.set i (.inl (G.2.1 ti, N, .inr (.inr (.inr (.inr (va_up f j.toNatClampNeg (some a))))))) → Zj p l e R s m args below meth c Q G B nL k n (pc + 1) ls (st) es') : Zj p l e R s m args below meth c Q G B nL k n (pc) ls (.ref a :: .int j :: .ref (B + i) :: st) es := by
  intro H lo la hW hS hl
  subst ha
  have hlt : j.toNatClampNeg < N := Nat.not_le.mp fun q => hin (Or.inr q)
  have h0 : ¬ j < 0 := fun q => hin (Or.inl q)
  obtain ⟨r', hr', cellV, g1, g2, g3, -⟩ := hW.2 qk _ (zw_at hv)
  have hcls := (E.2.2.2.2.2.1.1 ci r hc).2
  obtain ⟨kA, comp, k1, k2, k3, -⟩ := (E.2.2.2.2.2.1.2 ti _ (zty_at ht)).2
  have hcomp : comp = G.1.1 ci := Option.some.inj (k3.symm.trans hcls.1)
  subst hcomp
  obtain ⟨kC, hkC, -⟩ := hcls.2
  refine W.aast E.1 E.2.1 (hW.2 i _ (zw_at he)) (fun q h => by cases h) (fun h => by cases h) k1 k2 rfl hkC ⟨h0, by show _ < (arrV _ _ _).slots.size; rw [arrV_size]; exact hlt⟩ g1 (fun q h => by rw [g3] at h; cases h) (by rw [g2]; exact hkC) (by rw [g2]; exact va_assign hcls) rfl rfl d fun H1 e z oq => ?_
  refine kk _ rfl H1 _ la (hW.upd z (hW.2.set zw_D (zw_at he) ?_ oq)) (hS.put z oq (Nat.le_add_right B i)) hl
  show H1[B + i]? = some (vp_cell _ _)
  rw [e, vp_cell_q, vp_cell_q, arrV_store]
  congr 2
  funext q
  by_cases hq : q = j.toNatClampNeg
  · subst hq
    simp [updV, va_up, va_rf]
  · simp [updV, va_up, hq]
theorem z_alen (E : En p s m args meth c G B nL cc own mn rt) {i ti : Nat} {x : vp_A} {ty : FieldType} (ht : zzTy[ti]? = some ty) (d : decode cc pc = .ok (.arraylength, 1)) (he : es[i]? = some (.inl (G.2.1 ti, x))) (kk : Zj p l e R s m args below meth c Q G B nL k n (pc + 1) ls (.int (Int32.ofNat x.1) :: st) es) : Zj p l e R s m args below meth c Q G B nL k n (pc) ls (.ref (B + i) :: st) es :=
  fun H lo la hW hS hl => va_alen E.1 E.2.1 E.2.2.2.2.2.1 hW.2 i ti (zw_at he) (zty_at ht) rfl d (kk H lo la hW hS hl)
/-! static tables -/
theorem z_gets (E : En p s m args meth c G B nL cc own mn rt) {idx i : Nat} {q : String × String × List Int32} (hq : zzT[i]? = some q) (hlk : zFw own idx (q.1, q.2.1, "[I")) (d : decode cc pc = .ok (.getstatic idx, 3)) (kk : Zj p l e R s m args below meth c Q G B nL k n (pc + 3) ls (.ref (G.2.2.1 i) :: st) es) : Zj p l e R s m args below meth c Q G B nL k n (pc) ls (st) es := by
  intro H lo la hW hS hl
  rcases hlk with hlk | ⟨host, hlk⟩
  · exact va_gets E.1 E.2.1 (E.2.2.2.2.2.2.2.1.1 i q hq).1 hS E.2.2.2.1 (E.2.2.2.2.1 _ hlk) (fun _ h => h) d (kk H lo la hW hS hl)
  · exact va_getsN E.1 E.2.1 (E.2.2.2.2.2.2.2.1.1 i q hq).1 hS E.2.2.2.1 (va_Nw.use rfl (E.2.2.2.2.2.2.1.1 _ hlk)) (fun _ h => h) d (kk H lo la hW hS hl)
theorem z_ti (E : En p s m args meth c G B nL cc own mn rt) {i : Nat} {q : String × String × List Int32} {j : Int32} (hq : zzT[i]? = some q) (d : decode cc pc = .ok (.iaload, 1)) (hin : vp_in j q.2.2.length) (kk : Zj p l e R s m args below meth c Q G B nL k n (pc + 1) ls (.int (q.2.2.getD j.toNatClampNeg 0) :: st) es) : Zj p l e R s m args below meth c Q G B nL k n (pc) ls (.int j :: .ref (G.2.2.1 i) :: st) es :=
  fun H lo la hW hS hl => va_ti E.1 E.2.1 (E.2.2.2.2.2.2.2.1.1 i q hq).2 hS hin rfl d (kk H lo la hW hS hl)
theorem z_tlen (E : En p s m args meth c G B nL cc own mn rt) {i : Nat} {q : String × String × List Int32} (hq : zzT[i]? = some q) (d : decode cc pc = .ok (.arraylength, 1)) (kk : Zj p l e R s m args below meth c Q G B nL k n (pc + 1) ls (.int (Int32.ofNat q.2.2.length) :: st) es) : Zj p l e R s m args below meth c Q G B nL k n (pc) ls (.ref (G.2.2.1 i) :: st) es :=
  fun H lo la hW hS hl => va_tlen E.1 E.2.1 (E.2.2.2.2.2.2.2.1.1 i q hq).2 hS rfl d (kk H lo la hW hS hl)
/-! new cells -/
def zNw (own : String) (idx ci N : Nat) (fs : List Value) : Prop := ∃ (C : String) (T : u_T) (ty : Nat → FieldType), vwCl[ci]? = some (C, T, N) ∧ (∀ w ∈ u_ws C T N, w ∈ zzW) ∧ (∀ k, k < N → parseFieldDescriptor (T k).2.2.1 = some (ty k)) ∧ Cond.classLink own idx C ∈ zzW ∧ Cond.instantiable C N ∈ zzW ∧ Cond.initialized C ∈ zzW ∧ ∀ j, j < N → defaultValue (ty j) = vp_V fs j
theorem z_new (E : En p s m args meth c G B nL cc own mn rt) {idx ci N : Nat} {fs : List Value} (hn : zNw own idx ci N fs) (d : decode cc pc = .ok (.new idx, 3)) (hc : k + 1 ≤ R.cells) (hs : n + N ≤ R.slots) (kk : Zj p l e R s m args below meth c Q G B nL (k + 1) (n + N) (pc + 3) ls (.ref (B + es.length) :: st) (es ++ [.inr (ci, fs)])) : Zj p l e R s m args below meth c Q G B nL k n (pc) ls (st) es := by
  intro H lo la hW hS hl
  obtain ⟨C, T, ty, hcl, hw, hty, h1, h2, h3, hfs⟩ := hn
  have hKn := E.2.2.2.2.2.1.1 ci _ hcl
  refine W.newcK E.1 E.2.1 E.2.2.2.1 (E.2.2.2.2.1 _ h1) (E.2.2.2.2.1 _ h2) (E.2.2.2.2.1 _ h3) rfl d hc hs hKn.2.1 rfl fun H1 kC hkC e1 z1 o1 => ?_
  have := kk H1 lo la (hW.new z1 o1 ⟨_, hcl, (u_born ty E.2.2.2.2.1 hw hKn hkC e1 hty).to hfs⟩) ⟨Nat.le_trans hS.1 (by omega), fun x g1 g2 => (o1 x (Nat.lt_of_lt_of_le g1 hS.1)).trans (hS.2.1 x g1 g2), hS.2.2⟩ hl
  rw [← hW.1] at this
  exact this
theorem z_newa (E : En p s m args meth c G B nL cc own mn rt) {atype : ArrayType} {ty : FieldType} {ti N : Nat} {j : Int32} {a0 : vp_A} (hty : newarray.typeOf atype = ty) (hrf : ∀ C, ty ≠ .object C) (hw : Cond.arrayClass ty ∈ zzW) (ht : zzTy[ti]? = some ty) (d : decode cc pc = .ok (.newarray atype, 2)) (ha : ∀ cA : ClassId, vp_cell cA a0 = arrV cA N (fun _ => defaultValue ty)) (hj : ¬ j < 0) (hN : j.toNatClampNeg = N) (hby : N * componentBytes ty ≤ 536870912) (hc : k + 1 ≤ R.cells) (hs : n + N ≤ R.slots) (kk : Zj p l e R s m args below meth c Q G B nL (k + 1) (n + N) (pc + 2) ls (.ref (B + es.length) :: st) (es ++ [.inl (G.2.1 ti, a0)])) : Zj p l e R s m args below meth c Q G B nL k n (pc) ls (.int j :: st) es := by
  intro H lo la hW hS hl
  subst hty
  refine va_newaK E.1 E.2.1 (E.2.2.2.2.1 _ hw) rfl d rfl hj hN hby hc hs rfl fun H1 cA e1 z1 o1 hAr hNm => ?_
  have hcA : G.2.1 ti = cA := by
    have h := (E.2.2.2.2.2.1.2 ti _ (zty_at ht)).2
    have h' : s.vm.findClass ("[" ++ (newarray.typeOf atype).toString) = some (G.2.1 ti) := by
      revert h
      cases atype <;> exact fun h => h
    exact Option.some.inj (h'.symm.trans hNm)
  have := kk H1 lo la (hW.new z1 o1 (show H1[H.size]? = some (vp_cell _ _) by rw [ha, hcA]; exact e1)) ⟨Nat.le_trans hS.1 (by omega), fun x g1 g2 => (o1 x (Nat.lt_of_lt_of_le g1 hS.1)).trans (hS.2.1 x g1 g2), hS.2.2⟩ hl
  rw [← hW.1] at this
  exact this
theorem z_newq (E : En p s m args meth c G B nL cc own mn rt) {idx ti N : Nat} {C : String} {j : Int32} (hw : Cond.classLink own idx C ∈ zzW) (hao : C ∈ zzAO) (ht : zzTy[ti]? = some (.object C)) (d : decode cc pc = .ok (.anewarray idx, 3)) (hj : ¬ j < 0) (hN : j.toNatClampNeg = N) (hby : N * 4 ≤ 536870912) (hc : k + 1 ≤ R.cells) (hs : n + N ≤ R.slots) (kk : Zj p l e R s m args below meth c Q G B nL (k + 1) (n + N) (pc + 3) ls (.ref (B + es.length) :: st) (es ++ [.inl (G.2.1 ti, N, .inr (.inr (.inr (.inr (fun _ => none)))))])) : Zj p l e R s m args below meth c Q G B nL k n (pc) ls (.int j :: st) es := by
  intro H lo la hW hS hl
  subst hN
  refine W.anew E.1 E.2.1 E.2.2.2.1 (E.2.2.2.2.1 _ hw) (va_AO.use (E.2.2.2.2.2.2.2.1.2.1 C hao)) rfl d rfl hj hby hc hs fun cA kA comp f1 f2 f3 f4 => ?_
  have hcA : G.2.1 ti = cA := by
    obtain ⟨kA', comp', -, -, -, h4⟩ := (E.2.2.2.2.2.1.2 ti _ (zty_at ht)).2
    exact Option.some.inj (h4.symm.trans f1)
  have h := kk (H.push ({ cls := cA, slots := Array.replicate j.toNatClampNeg .null, vm := .none } : Cell)) lo la (hW.new (by rw [Array.size_push]) (fun q hq => by rw [Array.getElem?_push, if_neg (Nat.ne_of_lt hq)]) (show (H.push _)[H.size]? = some (vp_cell _ _) by rw [Array.getElem?_push_size, vp_cell_q, hcA]; exact congrArg some (arrV_new _ _ _))) ⟨Nat.le_trans hS.1 (by rw [Array.size_push]; omega), fun x g1 g2 => (by rw [Array.getElem?_push, if_neg (Nat.ne_of_lt (Nat.lt_of_lt_of_le g1 hS.1))]; exact hS.2.1 x g1 g2), hS.2.2⟩ hl
  rw [← hW.1] at h
  exact h
variable {P : Option Value → zE → Prop} {mc ms : Nat}
theorem z_iret (E : En p s m args meth c G B nL cc own mn (some .int)) {v : Int32} (d : decode cc pc = .ok (.ireturn, 1)) (hp : P (some (.int v)) es) (h1 : k ≤ mc := by omega) (h2 : n ≤ ms := by omega) : Zj p l e R s m args below meth c (MQ below (zQ G B P) args s mc ms (fun q => B ≤ q)) G B nL k n pc ls [.int v] es :=
  fun H lo la hW hS hl => W.widen h1 h2 (W.iret E.1 E.2.1 E.2.2.2.2.2.2.2.2.2.2.1 (fun t ht _ => ⟨⟨_, _, rfl, hp, by rw [ht]; exact hW⟩, hS.F ht⟩) hS.2.2 d E.2.2.2.2.2.2.2.2.2.1)
theorem z_lret (E : En p s m args meth c G B nL cc own mn (some .long)) {v : Int64} (d : decode cc pc = .ok (.lreturn, 1)) (hp : P (some (.long v)) es) (h1 : k ≤ mc := by omega) (h2 : n ≤ ms := by omega) : Zj p l e R s m args below meth c (MQ below (zQ G B P) args s mc ms (fun q => B ≤ q)) G B nL k n pc ls [.long v] es :=
  fun H lo la hW hS hl => W.widen h1 h2 (W.lret E.1 E.2.1 E.2.2.2.2.2.2.2.2.2.2.1 (fun t ht _ => ⟨⟨_, _, rfl, hp, by rw [ht]; exact hW⟩, hS.F ht⟩) hS.2.2 d E.2.2.2.2.2.2.2.2.2.1)
theorem z_zret {ty : FieldType} (E : En p s m args meth c G B nL cc own mn (some ty)) {v : Int32} (hn : narrow ty (.int v) = .int v) (d : decode cc pc = .ok (.ireturn, 1)) (hp : P (some (.int v)) es) (h1 : k ≤ mc := by omega) (h2 : n ≤ ms := by omega) : Zj p l e R s m args below meth c (MQ below (zQ G B P) args s mc ms (fun q => B ≤ q)) G B nL k n pc ls [.int v] es :=
  fun H lo la hW hS hl => W.widen h1 h2 (W.zret E.1 E.2.1 E.2.2.2.2.2.2.2.2.2.2.1 hn (fun t ht _ => ⟨⟨_, _, rfl, hp, by rw [ht]; exact hW⟩, hS.F ht⟩) hS.2.2 d E.2.2.2.2.2.2.2.2.2.1)
theorem z_vret (E : En p s m args meth c G B nL cc own mn none) (d : decode cc pc = .ok (.return_, 1)) (hp : P none es) (h1 : k ≤ mc := by omega) (h2 : n ≤ ms := by omega) : Zj p l e R s m args below meth c (MQ below (zQ G B P) args s mc ms (fun q => B ≤ q)) G B nL k n pc ls [] es :=
  fun H lo la hW hS hl => W.widen h1 h2 (W.vret E.1 E.2.1 E.2.2.2.2.2.2.2.2.2.2.1 (fun t ht _ => ⟨⟨_, _, rfl, hp, by rw [ht]; exact hW⟩, hS.F ht⟩) hS.2.2 d E.2.2.2.2.2.2.2.2.2.1)
theorem z_aret {ty : FieldType} (E : En p s m args meth c G B nL cc own mn (some ty)) {v : Value} (hty : (∃ n, ty = .object n) ∨ ∃ t, ty = .array t) (hv : v = .null ∨ ∃ a, v = .ref a) (d : decode cc pc = .ok (.areturn, 1)) (hp : P (some v) es) (h1 : k ≤ mc := by omega) (h2 : n ≤ ms := by omega) : Zj p l e R s m args below meth c (MQ below (zQ G B P) args s mc ms (fun q => B ≤ q)) G B nL k n pc ls [v] es :=
  fun H lo la hW hS hl => W.widen h1 h2 (W.aret E.1 E.2.1 E.2.2.2.2.2.2.2.2.2.2.1 hty hv (fun t ht _ => ⟨⟨_, _, rfl, hp, by rw [ht]; exact hW⟩, hS.F ht⟩) hS.2.2 d E.2.2.2.2.2.2.2.2.2.1)
/-! calls -/
theorem zU.blind {av : List Value} : FrameBlind (va_Pc av (zU G B es)) := fun a U g mk q => ⟨q.1, q.2.1, va_K.moved (u := U) (U := U.calling g mk a) (Vm.Alike.refl U.vm) q.2.2.1, q.2.2.2.1.same rfl, q.2.2.2.2.same rfl⟩
theorem zU.of (E : En p s m args meth c G B nL cc own mn rt) {H : Heap} {lo : List Loc} (hW : zH G B es H) (hS : va_S (fun q => B ≤ q) s.heap H lo) {U : State} (hU : U.heap = H) (hw : s.WarmedH U.vm) : zU G B es U := by
  refine ⟨by rw [hU]; exact hW, va_K.moved hw.alike E.2.2.2.2.2.1, E.2.2.2.2.2.2.1.warm hw, ?_⟩
  rw [hU]
  exact (E.2.2.2.2.2.2.2.1.warm hw).kept hS.2.1
/-- the words of a call: by the tables, or of nest mates -/
def zMw (own : String) (idx : Nat) (y : MethodName) : Prop := Cond.methodLink own idx y ∈ zzW ∨ ∃ host, (own, idx, y, host) ∈ zzNM
def zC (own : String) (idx : Nat) (y : MethodName) (bytes : ByteArray) (maxL : Nat) (ret : Option FieldType) (na : Nat) : Prop := zMw own idx y ∧ Cond.code y bytes maxL ret ∈ zzW ∧ Cond.initialized y.cls ∈ zzW ∧ (y.cls ≠ "java/lang/invoke/MethodHandle" ∧ y.cls ≠ "java/lang/invoke/VarHandle" ∧ (parseMethodDescriptor y.desc).map (fun d => d.parameters.length) = some na) ∧ maxL ≤ 21
theorem zG_in {x : Cond} (hx : x ∈ zzW) : GoodIn zzW (x :: zzW) := by
  intro w hw
  rcases List.mem_cons.mp hw with h | h
  · rw [h]; exact ⟨hx, zzW_good _ hx⟩
  · exact ⟨h, zzW_good _ h⟩
variable {mc ms d' : Nat} {y : MethodName} {bytes : ByteArray} {maxL na : Nat} {ret : Option FieldType} {idx : Nat} {PP : Option Value → zE → Prop} {As : List Value}
theorem z_back (E : En p s m args meth c G B nL cc own mn rt) {g : JFrame} {H : Heap} {lo : List Loc} {rest : List Value} {a : Array Value} (hW : zH G B es H) (hS : va_S (fun q => B ≤ q) s.heap H lo) (hr : va_Run p l e R s m args below meth c H lo k n mc ms g rest (zQ G B PP a) (fun q => B ≤ q)) (kk : ∀ (r : Option Value) (es' : zE) (H1 : Heap) (lo1 : List Loc), PP r es' → zH G B es' H1 → va_S (fun q => B ≤ q) s.heap H1 lo1 → W p l e R s m args below meth c H1 lo1 (k + mc) (n + ms) Q { g with pc := g.pc + 3, stack := r.toList ++ rest }) : W p l e R s m args below meth c H lo k n Q g := by
  intro T hT X
  obtain ⟨v, st₀, t, T', L, h0, X', hL, e1, e2, ⟨⟨r, es', hv, hp, hz⟩, hf⟩, st⟩ := hr T hT X
  cases hv
  obtain ⟨t2, a1, b1⟩ := kk v es' T'.heap (lo ++ L) hp (by rw [e1]; exact hz) ⟨by rw [e1]; exact Nat.le_trans hS.1 (by rw [← h0]; exact hf.1), fun q g1 g2 => by
      rw [e1, hf.2 q (by rw [h0]; exact Nat.lt_of_lt_of_le g1 hS.1) g2, h0]
      exact hS.2.1 q g1 g2, fun q hq => by
      rcases List.mem_append.mp hq with h | h
      · exact hS.2.2 q h
      · exact hL q h⟩ T' rfl X'
  exact ⟨t2, st t2 a1, b1⟩
theorem z_room {d' maxL : Nat} (hR : d' + 1 ≤ R.frames ∧ 40 * d' + 40 ≤ R.locals) (hm : maxL ≤ 21) : d' + 1 ≤ R.frames ∧ 8 + (maxL + 11) + 40 * d' ≤ R.locals := ⟨hR.1, by omega⟩
theorem z_callS (E : En p s m args meth c G B nL cc own mn rt) (hM : Tr l G B y bytes maxL ret d' mc ms As es PP) (hC : zC own idx y bytes maxL ret na) (hst : Cond.static y ∈ zzW) (hR : d' + 1 ≤ R.frames ∧ 40 * d' + 40 ≤ R.locals) (d : decode cc pc = .ok (.invokestatic idx, 3)) (hn : As.length = na) (hrm : (st.map fun v => v.category).sum ≤ 8) (hc : k + mc ≤ R.cells) (hs : n + ms ≤ R.slots) (kk : ∀ (r : Option Value) (es' : zE), PP r es' → Zj p l e R s m args below meth c Q G B nL (k + mc) (n + ms) (pc + 3) ls (r.toList ++ st) es') : Zj p l e R s m args below meth c Q G B nL k n (pc) ls (As.reverse ++ st) es := by
  intro H lo la hW hS hl
  obtain ⟨hlk, hcode, hini, hd3, hmL⟩ := hC
  have hrr := z_room hR hmL
  refine z_back E hW hS (rest := st) (a := As.toArray) ?_ (fun r es' H1 lo1 hp h1 h2 => kk r es' hp H1 lo1 la h1 h2 hl)
  rcases hlk with hlk | ⟨host, hlk⟩
  · exact va_runS (As := As) (rest := st) ⟨E.1, E.2.1, E.2.2.1, E.2.2.2.1, E.2.2.2.2.1⟩ hM ⟨callB_of na E.2.2.2.2.1 (zG_in hcode) rfl rfl rfl (E.2.2.2.2.1 _ hini) (E.2.2.2.2.1 _ hlk) hd3 hrr, E.2.2.2.2.1 _ hst⟩ ⟨zU.blind, fun U hU hw => ⟨rfl, zU.of E hW hS hU hw⟩⟩ rfl hn hl.1 rfl (lv_room hrm) d ⟨hc, hs⟩
  · exact va_runSN (As := As) (rest := st) ⟨E.1, E.2.1, E.2.2.1, E.2.2.2.1, E.2.2.2.2.1⟩ hM ⟨va_cnB na E.2.2.2.2.1 (zG_in hcode) rfl rfl rfl (E.2.2.2.2.2.2.1.2 _ hlk) (E.2.2.2.2.1 _ hini) hd3 hrr, E.2.2.2.2.1 _ hst, trivial⟩ ⟨zU.blind, fun U hU hw => ⟨rfl, zU.of E hW hS hU hw⟩⟩ rfl hn hl.1 rfl (lv_room hrm) d ⟨hc, hs⟩
theorem z_callI (E : En p s m args meth c G B nL cc own mn rt) {a : Nat} (hM : Tr l G B y bytes maxL none d' mc ms (.ref a :: As) es PP) (hC : zC own idx y bytes maxL none na) (hin : y.name = "<init>" ∧ Cond.instanceMethod y ∈ zzW) (hR : d' + 1 ≤ R.frames ∧ 40 * d' + 40 ≤ R.locals) (d : decode cc pc = .ok (.invokespecial idx, 3)) (hn : As.length = na) (hrm : (st.map fun v => v.category).sum ≤ 8) (hc : k + mc ≤ R.cells) (hs : n + ms ≤ R.slots) (kk : ∀ (r : Option Value) (es' : zE), PP r es' → Zj p l e R s m args below meth c Q G B nL (k + mc) (n + ms) (pc + 3) ls (r.toList ++ st) es') : Zj p l e R s m args below meth c Q G B nL k n (pc) ls (As.reverse ++ .ref a :: st) es := by
  intro H lo la hW hS hl
  obtain ⟨hlk, hcode, hini, hd3, hmL⟩ := hC
  have hrr := z_room hR hmL
  refine z_back E hW hS (rest := st) (a := (Value.ref a :: As).toArray) ?_ (fun r es' H1 lo1 hp h1 h2 => kk r es' hp H1 lo1 la h1 h2 hl)
  rcases hlk with hlk | ⟨host, hlk⟩
  · exact va_runI (As := As) (rest := st) ⟨E.1, E.2.1, E.2.2.1, E.2.2.2.1, E.2.2.2.2.1⟩ hM ⟨callB_of na E.2.2.2.2.1 (zG_in hcode) rfl rfl rfl (E.2.2.2.2.1 _ hini) (E.2.2.2.2.1 _ hlk) hd3 hrr, hin.1, E.2.2.2.2.1 _ hin.2⟩ ⟨zU.blind, fun U hU hw => ⟨rfl, zU.of E hW hS hU hw⟩⟩ rfl hn hl.1 rfl (lv_room hrm) d ⟨hc, hs⟩
  · exact va_runIN (As := As) (rest := st) ⟨E.1, E.2.1, E.2.2.1, E.2.2.2.1, E.2.2.2.2.1⟩ hM ⟨va_cnB na E.2.2.2.2.1 (zG_in hcode) rfl rfl rfl (E.2.2.2.2.2.2.1.2 _ hlk) (E.2.2.2.2.1 _ hini) hd3 hrr, hin.1, E.2.2.2.2.1 _ hin.2⟩ ⟨zU.blind, fun U hU hw => ⟨rfl, zU.of E hW hS hU hw⟩⟩ rfl hn hl.1 rfl (lv_room hrm) d ⟨hc, hs⟩
theorem z_callV (E : En p s m args meth c G B nL cc own mn rt) {i ci : Nat} {C : String} {T : u_T} {N : Nat} {fs : List Value} (hM : Tr l G B y bytes maxL ret d' mc ms (.ref (B + i) :: As) es PP) (hC : zC own idx y bytes maxL ret na) (hin : Cond.instanceMethod y ∈ zzW ∧ Cond.selects C y y ∈ zzW) (hci : vwCl[ci]? = some (C, T, N)) (he : es[i]? = some (.inr (ci, fs))) (hR : d' + 1 ≤ R.frames ∧ 40 * d' + 40 ≤ R.locals) (d : decode cc pc = .ok (.invokevirtual idx, 3)) (hn : As.length = na) (hrm : (st.map fun v => v.category).sum ≤ 8) (hc : k + mc ≤ R.cells) (hs : n + ms ≤ R.slots) (kk : ∀ (r : Option Value) (es' : zE), PP r es' → Zj p l e R s m args below meth c Q G B nL (k + mc) (n + ms) (pc + 3) ls (r.toList ++ st) es') : Zj p l e R s m args below meth c Q G B nL k n (pc) ls (As.reverse ++ .ref (B + i) :: st) es := by
  intro H lo la hW hS hl
  obtain ⟨hlk, hcode, hini, hd3, hmL⟩ := hC
  have hrr := z_room hR hmL
  have hrecv := va_recv (q := (C, T, N)) E.2.2.2.2.2.1 hW.2 hci (zw_at he)
  refine z_back E hW hS (rest := st) (a := (Value.ref (B + i) :: As).toArray) ?_ (fun r es' H1 lo1 hp h1 h2 => kk r es' hp H1 lo1 la h1 h2 hl)
  rcases hlk with hlk | ⟨host, hlk⟩
  · exact va_runV (C := C) (As := As) (rest := st) ⟨E.1, E.2.1, E.2.2.1, E.2.2.2.1, E.2.2.2.2.1⟩ hM ⟨callB_of na E.2.2.2.2.1 (zG_in hcode) rfl rfl rfl (E.2.2.2.2.1 _ hini) (E.2.2.2.2.1 _ hlk) hd3 hrr, E.2.2.2.2.1 _ hin.1, E.2.2.2.2.1 _ hin.2⟩ ⟨zU.blind, hrecv, fun U hU hw => ⟨rfl, zU.of E hW hS hU hw⟩⟩ rfl hn hl.1 rfl (lv_room hrm) d ⟨hc, hs⟩
  · exact va_runVN (C := C) (As := As) (rest := st) ⟨E.1, E.2.1, E.2.2.1, E.2.2.2.1, E.2.2.2.2.1⟩ hM ⟨va_cnB na E.2.2.2.2.1 (zG_in hcode) rfl rfl rfl (E.2.2.2.2.2.2.1.2 _ hlk) (E.2.2.2.2.1 _ hini) hd3 hrr, E.2.2.2.2.1 _ hin.1, E.2.2.2.2.1 _ hin.2⟩ ⟨zU.blind, hrecv, fun U hU hw => ⟨rfl, zU.of E hW hS hU hw⟩⟩ rfl hn hl.1 rfl (lv_room hrm) d ⟨hc, hs⟩
theorem z_objInit (E : En p s m args meth c G B nL cc own mn rt) {a : Nat} (hw : Cond.methodLink own idx objectInit ∈ zzW ∧ Cond.instanceMethod objectInit ∈ zzW ∧ Cond.code objectInit ⟨#[0xb1]⟩ 1 none ∈ zzW) (d : decode cc pc = .ok (.invokespecial idx, 3)) (hf : 1 ≤ R.frames) (hrm : (st.map fun v => v.category).sum + 12 ≤ R.locals) (kk : Zj p l e R s m args below meth c Q G B nL k n (pc + 3) ls (st) es) : Zj p l e R s m args below meth c Q G B nL k n (pc) ls (.ref a :: st) es :=
  fun H lo la hW hS hl => W.objInit E.1 E.2.1 E.2.2.2.1 (E.2.2.2.2.1 _ hw.1) (E.2.2.2.2.1 _ hw.2.1) (E.2.2.2.2.1 _ hw.2.2) rfl (by rw [E.2.2.1]; exact hl.1) rfl d hf (by show 2 * 0 + _ + 12 ≤ _; omega) (kk H lo la hW hS hl)

/-! static ints; texts -/
theorem z_getsI (E : En p s m args meth c G B nL cc own mn rt) {idx i : Nat} {q : String × String × String × Int32} (hq : zzI[i]? = some q) (hlk : Cond.fieldLink own idx q.1 q.2.1 q.2.2.1 ∈ zzW) (d : decode cc pc = .ok (.getstatic idx, 3)) (kk : Zj p l e R s m args below meth c Q G B nL k n (pc + 3) ls (.int q.2.2.2 :: st) es) : Zj p l e R s m args below meth c Q G B nL k n (pc) ls (st) es :=
  fun H lo la hW hS hl => va_gets E.1 E.2.1 (E.2.2.2.2.2.2.2.1.2.2.1 i q hq) hS E.2.2.2.1 (E.2.2.2.2.1 _ hlk) (fun _ h => h) d (kk H lo la hW hS hl)
theorem z_getsQ (E : En p s m args meth c G B nL cc own mn rt) {idx : Nat} (hlk : Cond.fieldLink own idx "jdk/internal/util/Preconditions" "SIOOBE_FORMATTER" "Ljava/util/function/BiFunction;" ∈ zzW) (d : decode cc pc = .ok (.getstatic idx, 3)) (kk : ∀ v : Value, (v = .null ∨ ∃ t, v = .ref t) → Zj p l e R s m args below meth c Q G B nL k n (pc + 3) ls (v :: st) es) : Zj p l e R s m args below meth c Q G B nL k n (pc) ls (st) es := by
  intro H lo la hW hS hl
  rcases E.2.2.2.2.2.2.2.1.2.2.2.1 with h | ⟨t, h⟩
  · exact va_gets E.1 E.2.1 h hS E.2.2.2.1 (E.2.2.2.2.1 _ hlk) (fun _ h => h) d (kk _ (Or.inl rfl) H lo la hW hS hl)
  · exact va_gets E.1 E.2.1 h hS E.2.2.2.1 (E.2.2.2.2.1 _ hlk) (fun _ h => h) d (kk _ (Or.inr ⟨t, rfl⟩) H lo la hW hS hl)
theorem z_ldcS (E : En p s m args meth c G B nL cc own mn rt) {idx i : Nat} {q : String × Nat × String} (hq : zzX[i]? = some q) (ho : q.1 = own ∧ q.2.1 = idx) (d : decode cc pc = .ok (.ldc idx, 2)) (kk : Zj p l e R s m args below meth c Q G B nL k n (pc + 2) ls (.ref (G.2.2.2.1 i) :: st) es) : Zj p l e R s m args below meth c Q G B nL k n (pc) ls (st) es := by
  obtain ⟨rfl, rfl⟩ := ho
  exact fun H lo la hW hS hl => va_ldcS E.1 E.2.1 E.2.2.2.1 (E.2.2.2.2.2.2.2.1.2.2.2.2.1 i q hq) d (kk H lo la hW hS hl)
theorem z_getKv (E : En p s m args meth c G B nL cc own mn rt) {idx i : Nat} (hi : i < zzX.length) (hlk : Cond.fieldLink own idx "java/lang/String" "value" "[B" ∈ zzW) (d : decode cc pc = .ok (.getfield idx, 3)) (kk : Zj p l e R s m args below meth c Q G B nL k n (pc + 3) ls (.ref (G.2.2.2.2 i) :: st) es) : Zj p l e R s m args below meth c Q G B nL k n (pc) ls (.ref (G.2.2.2.1 i) :: st) es :=
  fun H lo la hW hS hl => vk_getf E.1 E.2.1 (E.2.2.2.2.2.2.2.1.2.2.2.2.2.1 i hi).2.2.1 hS E.2.2.2.1 (E.2.2.2.2.1 _ hlk) (fun _ h => h) d (kk H lo la hW hS hl)
theorem z_getKc (E : En p s m args meth c G B nL cc own mn rt) {idx i : Nat} (hi : i < zzX.length) (hlk : Cond.fieldLink own idx "java/lang/String" "coder" "B" ∈ zzW) (d : decode cc pc = .ok (.getfield idx, 3)) (kk : Zj p l e R s m args below meth c Q G B nL k n (pc + 3) ls (.int 0 :: st) es) : Zj p l e R s m args below meth c Q G B nL k n (pc) ls (.ref (G.2.2.2.1 i) :: st) es :=
  fun H lo la hW hS hl => vk_getf E.1 E.2.1 (E.2.2.2.2.2.2.2.1.2.2.2.2.2.1 i hi).2.1 hS E.2.2.2.1 (E.2.2.2.2.1 _ hlk) (fun _ h => h) d (kk H lo la hW hS hl)
theorem z_lenK (E : En p s m args meth c G B nL cc own mn rt) {i : Nat} (hi : i < zzX.length) (d : decode cc pc = .ok (.arraylength, 1)) (kk : Zj p l e R s m args below meth c Q G B nL k n (pc + 1) ls (.int (Int32.ofNat (zzXl.getD i 0)) :: st) es) : Zj p l e R s m args below meth c Q G B nL k n (pc) ls (.ref (G.2.2.2.2 i) :: st) es :=
  fun H lo la hW hS hl => va_tlen E.1 E.2.1 (E.2.2.2.2.2.2.2.1.2.2.2.2.2.1 i hi).2.2.2 hS rfl d (kk H lo la hW hS hl)
theorem z_tbK (E : En p s m args meth c G B nL cc own mn rt) {i : Nat} {j : Int32} (hi : i < zzX.length) (hin : vp_in j (zzXl.getD i 0)) (d : decode cc pc = .ok (.baload, 1)) (kk : Zj p l e R s m args below meth c Q G B nL k n (pc + 1) ls (.int ((zzXb.getD i []).getD j.toNatClampNeg 0) :: st) es) : Zj p l e R s m args below meth c Q G B nL k n (pc) ls (.int j :: .ref (G.2.2.2.2 i) :: st) es :=
  fun H lo la hW hS hl => va_tb E.1 E.2.1 (E.2.2.2.2.2.2.2.1.2.2.2.2.2.1 i hi).2.2.2 hS hin rfl d (kk H lo la hW hS hl)
theorem z_callK (E : En p s m args meth c G B nL cc own mn rt) {i : Nat} (hi : i < zzX.length) (hM : Tr l G B y bytes maxL ret d' mc ms (.ref (G.2.2.2.1 i) :: As) es PP) (hC : zC own idx y bytes maxL ret na) (hin : Cond.instanceMethod y ∈ zzW ∧ Cond.selects "java/lang/String" y y ∈ zzW) (hR : d' + 1 ≤ R.frames ∧ 40 * d' + 40 ≤ R.locals) (d : decode cc pc = .ok (.invokevirtual idx, 3)) (hn : As.length = na) (hrm : (st.map fun v => v.category).sum ≤ 8) (hc : k + mc ≤ R.cells) (hs : n + ms ≤ R.slots) (kk : ∀ (r : Option Value) (es' : zE), PP r es' → Zj p l e R s m args below meth c Q G B nL (k + mc) (n + ms) (pc + 3) ls (r.toList ++ st) es') : Zj p l e R s m args below meth c Q G B nL k n (pc) ls (As.reverse ++ .ref (G.2.2.2.1 i) :: st) es := by
  intro H lo la hW hS hl
  obtain ⟨hlk, hcode, hini, hd3, hmL⟩ := hC
  have hrr := z_room hR hmL
  have hrecv := vk_recv E.2.2.2.2.2.2.2.1.2.2.2.2.2 hi hS
  refine z_back E hW hS (rest := st) (a := (Value.ref (G.2.2.2.1 i) :: As).toArray) ?_ (fun r es' H1 lo1 hp h1 h2 => kk r es' hp H1 lo1 la h1 h2 hl)
  rcases hlk with hlk | ⟨host, hlk⟩
  · exact va_runV (C := "java/lang/String") (As := As) (rest := st) ⟨E.1, E.2.1, E.2.2.1, E.2.2.2.1, E.2.2.2.2.1⟩ hM ⟨callB_of na E.2.2.2.2.1 (zG_in hcode) rfl rfl rfl (E.2.2.2.2.1 _ hini) (E.2.2.2.2.1 _ hlk) hd3 hrr, E.2.2.2.2.1 _ hin.1, E.2.2.2.2.1 _ hin.2⟩ ⟨zU.blind, hrecv, fun U hU hw => ⟨rfl, zU.of E hW hS hU hw⟩⟩ rfl hn hl.1 rfl (lv_room hrm) d ⟨hc, hs⟩
  · exact va_runVN (C := "java/lang/String") (As := As) (rest := st) ⟨E.1, E.2.1, E.2.2.1, E.2.2.2.1, E.2.2.2.2.1⟩ hM ⟨va_cnB na E.2.2.2.2.1 (zG_in hcode) rfl rfl rfl (E.2.2.2.2.2.2.1.2 _ hlk) (E.2.2.2.2.1 _ hini) hd3 hrr, E.2.2.2.2.1 _ hin.1, E.2.2.2.2.1 _ hin.2⟩ ⟨zU.blind, hrecv, fun U hU hw => ⟨rfl, zU.of E hW hS hU hw⟩⟩ rfl hn hl.1 rfl (lv_room hrm) d ⟨hc, hs⟩
theorem z_min (E : En p s m args meth c G B nL cc own mn rt) {x y : Int32} (hw : Cond.methodLink own idx Lib.Math.min.name ∈ zzW ∧ Cond.static Lib.Math.min.name ∈ zzW ∧ Cond.initialized "java/lang/Math" ∈ zzW ∧ Cond.code Lib.Math.min.name Lib.Math.min.code 2 (some .int) ∈ zzW) (d : decode cc pc = .ok (.invokestatic idx, 3)) (hf : 1 ≤ R.frames) (hrm : (st.map fun v => v.category).sum + 13 ≤ R.locals) (hc : k ≤ R.cells) (hs : n ≤ R.slots) (kk : Zj p l e R s m args below meth c Q G B nL k n (pc + 3) ls (.int (if y < x then y else x) :: st) es) : Zj p l e R s m args below meth c Q G B nL k n (pc) ls (.int y :: .int x :: st) es :=
  fun H lo la hW hS hl => va_mmin E.1 E.2.1 (E.2.2.1.trans hl.1.symm) E.2.2.2.1 (E.2.2.2.2.1 _ hw.1) (E.2.2.2.2.1 _ hw.2.1) (E.2.2.2.2.1 _ hw.2.2.1) (E.2.2.2.2.1 _ hw.2.2.2) hf hrm hc hs d (kk H lo la hW hS hl)
theorem z_nn (z : Int32) (hz : ¬ z < 0) : z.toInt = (z.toNatClampNeg : Int) := by
  have hz0 : (0 : Int) ≤ z.toInt := by
    have := Int32.not_lt.mp hz
    simpa using Int32.le_iff_toInt_le.mp this
  show z.toInt = ((z.toInt.toNat : Nat) : Int)
  omega
/-- arraycopy, a row of bytes or ints of the world onto another -/
theorem z_copy (E : En p s m args meth c G B nL cc own mn rt) {i0 i1 ti n0 n1 : Nat} {f g : Nat → Int32} {ty : FieldType} {sp dp cn : Int32} (hw : Cond.methodLink own idx arraycopyName ∈ zzW ∧ Cond.native arraycopyName ∈ zzW ∧ Cond.static arraycopyName ∈ zzW ∧ Cond.initialized "java/lang/System" ∈ zzW) (ht : zzTy[ti]? = some ty) (hprim : refKind ty = false) (d : decode cc pc = .ok (.invokestatic idx, 3)) (he0 : es[i0]? = some (.inl (G.2.1 ti, n0, .inl f))) (he1 : es[i1]? = some (.inl (G.2.1 ti, n1, .inl g))) (h1 : ¬ sp < 0) (h2 : ¬ dp < 0) (h3 : ¬ cn < 0) (h4 : sp.toNatClampNeg + cn.toNatClampNeg ≤ n0) (h5 : dp.toNatClampNeg + cn.toNatClampNeg ≤ n1) (hfit : ∀ i, i < cn.toNatClampNeg → fits ty (.int (f (sp.toNatClampNeg + i))) = true) (hf : 1 ≤ R.frames) (hrm : (st.map fun v => v.category).sum + (nativeFrameWords "java/lang/System" "arraycopy" 5 + 11) ≤ R.locals) (kk : ∀ es', es' = es.set i1 (.inl (G.2.1 ti, n1, .inl (va_cpy f g sp.toNatClampNeg dp.toNatClampNeg cn.toNatClampNeg))) → Zj p l e R s m args below meth c Q G B nL k n (pc + 3) ls (st) es') : Zj p l e R s m args below meth c Q G B nL k n (pc) ls (.int cn :: .int dp :: .ref (B + i1) :: .int sp :: .ref (B + i0) :: st) es := by
  intro H lo la hW hS hl T hT X
  have hc0 : H[B + i0]? = some (vp_cell (G.2.1 ti) (n0, .inl f)) := hW.2 i0 _ (zw_at he0)
  have hc1 : H[B + i1]? = some (vp_cell (G.2.1 ti) (n1, .inl g)) := hW.2 i1 _ (zw_at he1)
  obtain ⟨-, k0, hk0, cm0, hkk0⟩ := (E.2.2.2.2.2.1.2 ti _ (zty_at ht)).1 n0 (fun j => .int (f j))
  obtain ⟨-, k1, hk1, cm1, hkk1⟩ := (E.2.2.2.2.2.1.2 ti _ (zty_at ht)).1 n1 (fun j => .int (g j))
  obtain ⟨vm', X', step⟩ := X.arraycopy E.1 E.2.2.2.1 (E.2.2.2.2.1 _ hw.1) (E.2.2.2.2.1 _ hw.2.1) (E.2.2.2.2.1 _ hw.2.2.1) (E.2.2.2.2.1 _ hw.2.2.2) (src := B + i0) (dst := B + i1) (cs := vp_cell (G.2.1 ti) (n0, .inl f)) (cd := vp_cell (G.2.1 ti) (n1, .inl g)) (srcPos := sp) (destPos := dp) (n := cn) (by rw [hT]; exact hc0) (by rw [hT]; exact hc1)
    (fun _ h => by cases h) (fun _ h => by cases h) (fun h => by cases h) (fun h => by cases h) hk0 hk1 hkk0 hkk1 (by simp [hprim]) h1 h2 h3
    (by rw [z_nn sp h1, z_nn cn h3]; show ¬ _ > ((arrV _ n0 (fun j => .int (f j))).slots.size : Int); rw [arrV_size]; omega)
    (by rw [z_nn dp h2, z_nn cn h3]; show ¬ _ > ((arrV _ n1 (fun j => .int (g j))).slots.size : Int); rw [arrV_size]; omega)
    (fun vm₁ _ i hi => by
      have e : (vp_cell (G.2.1 ti) (n0, .inl f)).slots.getD (sp.toNatClampNeg + i) .null = .int (f (sp.toNatClampNeg + i)) := by
        show (arrV _ n0 (fun j => .int (f j))).slots.getD _ _ = _
        rw [Array.getD_eq_getD_getElem?, arrV_read _ _ (by omega)]
        rfl
      refine ⟨?_, ?_⟩
      · rw [e]
        exact hfit i hi
      · rw [e]
        exact trivial)
    (g := F0 m pc la (.int cn :: .int dp :: .ref (B + i1) :: .int sp :: .ref (B + i0) :: st)) rfl (by rw [E.2.2.1]; exact hl.1) (rest := st) rfl (by rw [E.2.1]; exact d) hf (by show 2 * 0 + _ + _ ≤ _; omega)
  have e1 : copied (vp_cell (G.2.1 ti) (n0, .inl f)) (vp_cell (G.2.1 ti) (n1, .inl g)) sp dp cn = vp_cell (G.2.1 ti) (n1, .inl (va_cpy f g sp.toNatClampNeg dp.toNatClampNeg cn.toNatClampNeg)) := va_copied (fun z => .int z) _ _ f g h4
  rw [e1] at X' step
  have hl1 : B + i1 < H.size := (Array.getElem?_eq_some_iff.mp hc1).1
  have hheap : ((T.setVm vm').setCell (B + i1) (vp_cell (G.2.1 ti) (n1, .inl (va_cpy f g sp.toNatClampNeg dp.toNatClampNeg cn.toNatClampNeg)))).heap = H.setIfInBounds (B + i1) (vp_cell (G.2.1 ti) (n1, .inl (va_cpy f g sp.toNatClampNeg dp.toNatClampNeg cn.toNatClampNeg))) := by rw [← hT]; rfl
  have oq : ∀ q : Nat, q ≠ B + i1 → (H.setIfInBounds (B + i1) (vp_cell (G.2.1 ti) (n1, .inl (va_cpy f g sp.toNatClampNeg dp.toNatClampNeg cn.toNatClampNeg))))[q]? = H[q]? := fun q hq => by simp [Array.getElem?_setIfInBounds, Ne.symm hq]
  obtain ⟨t, a1, b1⟩ := kk _ rfl _ _ la (hW.upd (by simp) (hW.2.set zw_D (zw_at he1) (show (H.setIfInBounds (B + i1) _)[B + i1]? = some _ by simp [Array.getElem?_setIfInBounds, hl1]) oq)) ⟨by simp; exact hS.1, fun q g1 g2 => by
      rw [oq q (fun e => g2 (by rw [e]; exact Nat.le_add_right B i1))]
      exact hS.2.1 q g1 g2, fun q hq => by
      rcases List.mem_append.mp hq with h | h
      · exact hS.2.2 q h
      · obtain ⟨z, -, hz⟩ := List.mem_map.mp h
        rw [← hz]
        exact Nat.le_add_right B i1⟩ hl _ hheap X'
  exact ⟨t, step t a1, b1⟩
/-- arraycopy, a static table of ints onto a row of the world -/
theorem z_copyT (E : En p s m args meth c G B nL cc own mn rt) {i0 i1 ti n1 : Nat} {q : String × String × List Int32} {g : Nat → Int32} {sp dp cn : Int32} (hw : Cond.methodLink own idx arraycopyName ∈ zzW ∧ Cond.native arraycopyName ∈ zzW ∧ Cond.static arraycopyName ∈ zzW ∧ Cond.initialized "java/lang/System" ∈ zzW) (hq : zzT[i0]? = some q) (ht : zzTy[ti]? = some .int) (d : decode cc pc = .ok (.invokestatic idx, 3)) (he1 : es[i1]? = some (.inl (G.2.1 ti, n1, .inl g))) (h1 : ¬ sp < 0) (h2 : ¬ dp < 0) (h3 : ¬ cn < 0) (h4 : sp.toNatClampNeg + cn.toNatClampNeg ≤ q.2.2.length) (h5 : dp.toNatClampNeg + cn.toNatClampNeg ≤ n1) (hf : 1 ≤ R.frames) (hrm : (st.map fun v => v.category).sum + (nativeFrameWords "java/lang/System" "arraycopy" 5 + 11) ≤ R.locals) (kk : ∀ es', es' = es.set i1 (.inl (G.2.1 ti, n1, .inl (va_cpy (fun j => q.2.2.getD j 0) g sp.toNatClampNeg dp.toNatClampNeg cn.toNatClampNeg))) → Zj p l e R s m args below meth c Q G B nL k n (pc + 3) ls (st) es') : Zj p l e R s m args below meth c Q G B nL k n (pc) ls (.int cn :: .int dp :: .ref (B + i1) :: .int sp :: .ref (G.2.2.1 i0) :: st) es := by
  intro H lo la hW hS hl T hT X
  obtain ⟨scr, hs1, hs2, hs3, hs4, -, hs5, hs7⟩ := (E.2.2.2.2.2.2.2.1.1 i0 q hq).2
  have hc0 : H[G.2.2.1 i0]? = some scr := by rw [hS.2.1 _ (Array.getElem?_eq_some_iff.mp hs1).1 hs7]; exact hs1
  have hc1 : H[B + i1]? = some (vp_cell (G.2.1 ti) (n1, .inl g)) := hW.2 i1 _ (zw_at he1)
  obtain ⟨hs6, k0, hk0, cm0, hkk0⟩ := hs2
  obtain ⟨-, k1, hk1, cm1, hkk1⟩ := (E.2.2.2.2.2.1.2 ti _ (zty_at ht)).1 n1 (fun j => .int (g j))
  obtain ⟨vm', X', step⟩ := X.arraycopy E.1 E.2.2.2.1 (E.2.2.2.2.1 _ hw.1) (E.2.2.2.2.1 _ hw.2.1) (E.2.2.2.2.1 _ hw.2.2.1) (E.2.2.2.2.1 _ hw.2.2.2) (src := G.2.2.1 i0) (dst := B + i1) (cs := scr) (cd := vp_cell (G.2.1 ti) (n1, .inl g)) (srcPos := sp) (destPos := dp) (n := cn) (by rw [hT]; exact hc0) (by rw [hT]; exact hc1)
    hs6 (fun _ h => by cases h) hs3 (fun h => by cases h) hk0 hk1 hkk0 hkk1 (by simp [refKind]) h1 h2 h3
    (by rw [z_nn sp h1, z_nn cn h3]; omega)
    (by rw [z_nn dp h2, z_nn cn h3]; show ¬ _ > ((arrV _ n1 (fun j => .int (g j))).slots.size : Int); rw [arrV_size]; omega)
    (fun vm₁ _ i hi => by
      have e : scr.slots.getD (sp.toNatClampNeg + i) .null = .int (q.2.2.getD (sp.toNatClampNeg + i) 0) := by
        rw [Array.getD_eq_getD_getElem?, hs5 _ (by omega)]
        rfl
      refine ⟨?_, ?_⟩
      · rw [e]
        rfl
      · rw [e]
        exact trivial)
    (g := F0 m pc la (.int cn :: .int dp :: .ref (B + i1) :: .int sp :: .ref (G.2.2.1 i0) :: st)) rfl (by rw [E.2.2.1]; exact hl.1) (rest := st) rfl (by rw [E.2.1]; exact d) hf (by show 2 * 0 + _ + _ ≤ _; omega)
  have e1 : copied scr (vp_cell (G.2.1 ti) (n1, .inl g)) sp dp cn = vp_cell (G.2.1 ti) (n1, .inl (va_cpy (fun j => q.2.2.getD j 0) g sp.toNatClampNeg dp.toNatClampNeg cn.toNatClampNeg)) := va_copiedX (fun z => .int z) scr _ (fun j => q.2.2.getD j 0) g hs5 h4
  rw [e1] at X' step
  have hl1 : B + i1 < H.size := (Array.getElem?_eq_some_iff.mp hc1).1
  have hheap : ((T.setVm vm').setCell (B + i1) (vp_cell (G.2.1 ti) (n1, .inl (va_cpy (fun j => q.2.2.getD j 0) g sp.toNatClampNeg dp.toNatClampNeg cn.toNatClampNeg)))).heap = H.setIfInBounds (B + i1) (vp_cell (G.2.1 ti) (n1, .inl (va_cpy (fun j => q.2.2.getD j 0) g sp.toNatClampNeg dp.toNatClampNeg cn.toNatClampNeg))) := by rw [← hT]; rfl
  have oq : ∀ q' : Nat, q' ≠ B + i1 → (H.setIfInBounds (B + i1) (vp_cell (G.2.1 ti) (n1, .inl (va_cpy (fun j => q.2.2.getD j 0) g sp.toNatClampNeg dp.toNatClampNeg cn.toNatClampNeg))))[q']? = H[q']? := fun q' hq' => by simp [Array.getElem?_setIfInBounds, Ne.symm hq']
  obtain ⟨t, a1, b1⟩ := kk _ rfl _ _ la (hW.upd (by simp) (hW.2.set zw_D (zw_at he1) (show (H.setIfInBounds (B + i1) _)[B + i1]? = some _ by simp [Array.getElem?_setIfInBounds, hl1]) oq)) ⟨by simp; exact hS.1, fun q' g1 g2 => by
      rw [oq q' (fun e => g2 (by rw [e]; exact Nat.le_add_right B i1))]
      exact hS.2.1 q' g1 g2, fun q' hq' => by
      rcases List.mem_append.mp hq' with h | h
      · exact hS.2.2 q' h
      · obtain ⟨z, -, hz⟩ := List.mem_map.mp h
        rw [← hz]
        exact Nat.le_add_right B i1⟩ hl _ hheap X'
  exact ⟨t, step t a1, b1⟩
end ZR
/-- a contract out of the walk from the entry -/
theorem Tr.of {l : Launch} {G : zG} {B : Nat} {y : MethodName} {cc : ByteArray} {maxL : Nat} {ret : Option FieldType} {d mc ms : Nat} {av : List Value} {es : zE} {P : Option Value → zE → Prop} {ls : List (Option Value)} (hy : plainName y.cls = true) (hlen : (lg_sl av).length ≤ maxL) (hls : zent av maxL = ls)
    (body : ∀ (p : Program) (e : Env) (s : State) (m : MethodId) (below : List Frame) (meth : Method) (c : Code), En p s m av.toArray meth c G B maxL cc y.cls y.name ret → Zj p l e (zr d mc ms) s m av.toArray below meth c (MQ below (zQ G B P) av.toArray s mc ms (fun q => B ≤ q)) G B maxL 0 0 0 ls [] es) : Tr l G B y cc maxL ret d mc ms av es P := by
  refine Met.ofW (cc := cc) (maxL := maxL) (ret := ret) hy rfl ?_
  intro p e s m args below meth c s₁ Bd hml hv
  obtain ⟨rfl, hH, hK, hN, hZ⟩ := hv
  have hts := atoms_spec (ws := Cond.code y cc maxL ret :: zzW) Bd.pre
  have E : En p s m av.toArray meth c G B maxL cc y.cls y.name ret := ⟨Bd.exec, Bd.bytes, hml, findClass_of_methodNamed Bd.named, fun w hw => hts w (List.mem_cons_of_mem _ hw), hK, hN, hZ, by rw [hH.1]; exact Nat.le_add_right _ _, Bd.notSynchronized, Bd.returns, (name_of_methodNamed Bd.named Bd.method).1⟩
  have hl := lv_entry av (n := maxL) hlen
  rw [lg_entry_eq]
  exact body p e s m below meth c E s.heap [] _ hH va_S.rf ⟨hl.1, hl.2.1, fun i v hv => hl.2.2 (i, v) (by have := zent_args av maxL 0 i (by rw [hls]; exact hv); rwa [Nat.zero_add] at this)⟩
/-! what a contract says of an answer: an int, a long, a reference or null, nothing -/
def pI (P : Int32 → zE → Prop) : Option Value → zE → Prop := fun r es => ∃ v : Int32, r = some (.int v) ∧ P v es
def pL (P : Int64 → zE → Prop) : Option Value → zE → Prop := fun r es => ∃ v : Int64, r = some (.long v) ∧ P v es
def pR (P : Value → zE → Prop) : Option Value → zE → Prop := fun r es => ∃ v : Value, r = some v ∧ P v es
def pV (P : zE → Prop) : Option Value → zE → Prop := fun r es => r = none ∧ P es
section ZC
variable {p : Program} {l : Launch} {e : Env} {R : Room} {s : State} {m : MethodId} {args : Array Value} {below : List Frame} {meth : Method} {c : Code} {Q : State → Prop} {G : zG} {B nL k n pc : Nat} {ls : List (Option Value)} {st : List Value} {es : zE} {cc : ByteArray} {own mn : String} {rt : Option FieldType}
variable {mc ms d' : Nat} {y : MethodName} {bytes : ByteArray} {maxL : Nat} {ret : Option FieldType} {idx : Nat}
theorem z_cS0I (E : En p s m args meth c G B nL cc own mn rt) {P : Int32 → zE → Prop} (hM : Tr l G B y bytes maxL ret d' mc ms [] es (pI P)) (hC : zC own idx y bytes maxL ret 0) (hst : Cond.static y ∈ zzW) (hR : d' + 1 ≤ R.frames ∧ 40 * d' + 40 ≤ R.locals) (d : decode cc pc = .ok (.invokestatic idx, 3)) (hrm : (st.map fun v => v.category).sum ≤ 8) (hc : k + mc ≤ R.cells) (hs : n + ms ≤ R.slots) (kk : ∀ v es', P v es' → Zj p l e R s m args below meth c Q G B nL (k + mc) (n + ms) (pc + 3) ls (.int v :: st) es') : Zj p l e R s m args below meth c Q G B nL k n (pc) ls (st) es :=
  z_callS (As := []) E hM hC hst hR d rfl hrm hc hs (fun r es' h => by obtain ⟨v, rfl, hp⟩ := h; exact kk v es' hp)
theorem z_cV0I (E : En p s m args meth c G B nL cc own mn rt) {P : Int32 → zE → Prop} {i ci : Nat} {C : String} {T : u_T} {N : Nat} {fs : List Value} (hM : Tr l G B y bytes maxL ret d' mc ms [.ref (B + i)] es (pI P)) (hC : zC own idx y bytes maxL ret 0) (hin : Cond.instanceMethod y ∈ zzW ∧ Cond.selects C y y ∈ zzW) (hci : vwCl[ci]? = some (C, T, N)) (he : es[i]? = some (.inr (ci, fs))) (hR : d' + 1 ≤ R.frames ∧ 40 * d' + 40 ≤ R.locals) (d : decode cc pc = .ok (.invokevirtual idx, 3)) (hrm : (st.map fun v => v.category).sum ≤ 8) (hc : k + mc ≤ R.cells) (hs : n + ms ≤ R.slots) (kk : ∀ v es', P v es' → Zj p l e R s m args below meth c Q G B nL (k + mc) (n + ms) (pc + 3) ls (.int v :: st) es') : Zj p l e R s m args below meth c Q G B nL k n (pc) ls (.ref (B + i) :: st) es :=
  z_callV (As := []) E hM hC hin hci he hR d rfl hrm hc hs (fun r es' h => by obtain ⟨v, rfl, hp⟩ := h; exact kk v es' hp)
theorem z_cS0L (E : En p s m args meth c G B nL cc own mn rt) {P : Int64 → zE → Prop} (hM : Tr l G B y bytes maxL ret d' mc ms [] es (pL P)) (hC : zC own idx y bytes maxL ret 0) (hst : Cond.static y ∈ zzW) (hR : d' + 1 ≤ R.frames ∧ 40 * d' + 40 ≤ R.locals) (d : decode cc pc = .ok (.invokestatic idx, 3)) (hrm : (st.map fun v => v.category).sum ≤ 8) (hc : k + mc ≤ R.cells) (hs : n + ms ≤ R.slots) (kk : ∀ v es', P v es' → Zj p l e R s m args below meth c Q G B nL (k + mc) (n + ms) (pc + 3) ls (.long v :: st) es') : Zj p l e R s m args below meth c Q G B nL k n (pc) ls (st) es :=
  z_callS (As := []) E hM hC hst hR d rfl hrm hc hs (fun r es' h => by obtain ⟨v, rfl, hp⟩ := h; exact kk v es' hp)
theorem z_cV0L (E : En p s m args meth c G B nL cc own mn rt) {P : Int64 → zE → Prop} {i ci : Nat} {C : String} {T : u_T} {N : Nat} {fs : List Value} (hM : Tr l G B y bytes maxL ret d' mc ms [.ref (B + i)] es (pL P)) (hC : zC own idx y bytes maxL ret 0) (hin : Cond.instanceMethod y ∈ zzW ∧ Cond.selects C y y ∈ zzW) (hci : vwCl[ci]? = some (C, T, N)) (he : es[i]? = some (.inr (ci, fs))) (hR : d' + 1 ≤ R.frames ∧ 40 * d' + 40 ≤ R.locals) (d : decode cc pc = .ok (.invokevirtual idx, 3)) (hrm : (st.map fun v => v.category).sum ≤ 8) (hc : k + mc ≤ R.cells) (hs : n + ms ≤ R.slots) (kk : ∀ v es', P v es' → Zj p l e R s m args below meth c Q G B nL (k + mc) (n + ms) (pc + 3) ls (.long v :: st) es') : Zj p l e R s m args below meth c Q G B nL k n (pc) ls (.ref (B + i) :: st) es :=
  z_callV (As := []) E hM hC hin hci he hR d rfl hrm hc hs (fun r es' h => by obtain ⟨v, rfl, hp⟩ := h; exact kk v es' hp)
theorem z_cS0R (E : En p s m args meth c G B nL cc own mn rt) {P : Value → zE → Prop} (hM : Tr l G B y bytes maxL ret d' mc ms [] es (pR P)) (hC : zC own idx y bytes maxL ret 0) (hst : Cond.static y ∈ zzW) (hR : d' + 1 ≤ R.frames ∧ 40 * d' + 40 ≤ R.locals) (d : decode cc pc = .ok (.invokestatic idx, 3)) (hrm : (st.map fun v => v.category).sum ≤ 8) (hc : k + mc ≤ R.cells) (hs : n + ms ≤ R.slots) (kk : ∀ v es', P v es' → Zj p l e R s m args below meth c Q G B nL (k + mc) (n + ms) (pc + 3) ls (v :: st) es') : Zj p l e R s m args below meth c Q G B nL k n (pc) ls (st) es :=
  z_callS (As := []) E hM hC hst hR d rfl hrm hc hs (fun r es' h => by obtain ⟨v, rfl, hp⟩ := h; exact kk v es' hp)
theorem z_cV0R (E : En p s m args meth c G B nL cc own mn rt) {P : Value → zE → Prop} {i ci : Nat} {C : String} {T : u_T} {N : Nat} {fs : List Value} (hM : Tr l G B y bytes maxL ret d' mc ms [.ref (B + i)] es (pR P)) (hC : zC own idx y bytes maxL ret 0) (hin : Cond.instanceMethod y ∈ zzW ∧ Cond.selects C y y ∈ zzW) (hci : vwCl[ci]? = some (C, T, N)) (he : es[i]? = some (.inr (ci, fs))) (hR : d' + 1 ≤ R.frames ∧ 40 * d' + 40 ≤ R.locals) (d : decode cc pc = .ok (.invokevirtual idx, 3)) (hrm : (st.map fun v => v.category).sum ≤ 8) (hc : k + mc ≤ R.cells) (hs : n + ms ≤ R.slots) (kk : ∀ v es', P v es' → Zj p l e R s m args below meth c Q G B nL (k + mc) (n + ms) (pc + 3) ls (v :: st) es') : Zj p l e R s m args below meth c Q G B nL k n (pc) ls (.ref (B + i) :: st) es :=
  z_callV (As := []) E hM hC hin hci he hR d rfl hrm hc hs (fun r es' h => by obtain ⟨v, rfl, hp⟩ := h; exact kk v es' hp)
theorem z_cS0V (E : En p s m args meth c G B nL cc own mn rt) {P : zE → Prop} (hM : Tr l G B y bytes maxL ret d' mc ms [] es (pV P)) (hC : zC own idx y bytes maxL ret 0) (hst : Cond.static y ∈ zzW) (hR : d' + 1 ≤ R.frames ∧ 40 * d' + 40 ≤ R.locals) (d : decode cc pc = .ok (.invokestatic idx, 3)) (hrm : (st.map fun v => v.category).sum ≤ 8) (hc : k + mc ≤ R.cells) (hs : n + ms ≤ R.slots) (kk : ∀ es', P es' → Zj p l e R s m args below meth c Q G B nL (k + mc) (n + ms) (pc + 3) ls (st) es') : Zj p l e R s m args below meth c Q G B nL k n (pc) ls (st) es :=
  z_callS (As := []) E hM hC hst hR d rfl hrm hc hs (fun r es' h => by obtain ⟨rfl, hp⟩ := h; exact kk es' hp)
theorem z_cV0V (E : En p s m args meth c G B nL cc own mn rt) {P : zE → Prop} {i ci : Nat} {C : String} {T : u_T} {N : Nat} {fs : List Value} (hM : Tr l G B y bytes maxL ret d' mc ms [.ref (B + i)] es (pV P)) (hC : zC own idx y bytes maxL ret 0) (hin : Cond.instanceMethod y ∈ zzW ∧ Cond.selects C y y ∈ zzW) (hci : vwCl[ci]? = some (C, T, N)) (he : es[i]? = some (.inr (ci, fs))) (hR : d' + 1 ≤ R.frames ∧ 40 * d' + 40 ≤ R.locals) (d : decode cc pc = .ok (.invokevirtual idx, 3)) (hrm : (st.map fun v => v.category).sum ≤ 8) (hc : k + mc ≤ R.cells) (hs : n + ms ≤ R.slots) (kk : ∀ es', P es' → Zj p l e R s m args below meth c Q G B nL (k + mc) (n + ms) (pc + 3) ls (st) es') : Zj p l e R s m args below meth c Q G B nL k n (pc) ls (.ref (B + i) :: st) es :=
  z_callV (As := []) E hM hC hin hci he hR d rfl hrm hc hs (fun r es' h => by obtain ⟨rfl, hp⟩ := h; exact kk es' hp)
theorem z_cI0V (E : En p s m args meth c G B nL cc own mn rt) {P : zE → Prop} {a : Nat} (hM : Tr l G B y bytes maxL none d' mc ms [.ref a] es (pV P)) (hC : zC own idx y bytes maxL none 0) (hin : y.name = "<init>" ∧ Cond.instanceMethod y ∈ zzW) (hR : d' + 1 ≤ R.frames ∧ 40 * d' + 40 ≤ R.locals) (d : decode cc pc = .ok (.invokespecial idx, 3)) (hrm : (st.map fun v => v.category).sum ≤ 8) (hc : k + mc ≤ R.cells) (hs : n + ms ≤ R.slots) (kk : ∀ es', P es' → Zj p l e R s m args below meth c Q G B nL (k + mc) (n + ms) (pc + 3) ls (st) es') : Zj p l e R s m args below meth c Q G B nL k n (pc) ls (.ref a :: st) es :=
  z_callI (As := []) E hM hC hin hR d rfl hrm hc hs (fun r es' h => by obtain ⟨rfl, hp⟩ := h; exact kk es' hp)
theorem z_cS1I (E : En p s m args meth c G B nL cc own mn rt) {x1 : Value} {P : Int32 → zE → Prop} (hM : Tr l G B y bytes maxL ret d' mc ms [x1] es (pI P)) (hC : zC own idx y bytes maxL ret 1) (hst : Cond.static y ∈ zzW) (hR : d' + 1 ≤ R.frames ∧ 40 * d' + 40 ≤ R.locals) (d : decode cc pc = .ok (.invokestatic idx, 3)) (hrm : (st.map fun v => v.category).sum ≤ 8) (hc : k + mc ≤ R.cells) (hs : n + ms ≤ R.slots) (kk : ∀ v es', P v es' → Zj p l e R s m args below meth c Q G B nL (k + mc) (n + ms) (pc + 3) ls (.int v :: st) es') : Zj p l e R s m args below meth c Q G B nL k n (pc) ls (x1 :: st) es :=
  z_callS (As := [x1]) E hM hC hst hR d rfl hrm hc hs (fun r es' h => by obtain ⟨v, rfl, hp⟩ := h; exact kk v es' hp)
theorem z_cV1I (E : En p s m args meth c G B nL cc own mn rt) {x1 : Value} {P : Int32 → zE → Prop} {i ci : Nat} {C : String} {T : u_T} {N : Nat} {fs : List Value} (hM : Tr l G B y bytes maxL ret d' mc ms [.ref (B + i), x1] es (pI P)) (hC : zC own idx y bytes maxL ret 1) (hin : Cond.instanceMethod y ∈ zzW ∧ Cond.selects C y y ∈ zzW) (hci : vwCl[ci]? = some (C, T, N)) (he : es[i]? = some (.inr (ci, fs))) (hR : d' + 1 ≤ R.frames ∧ 40 * d' + 40 ≤ R.locals) (d : decode cc pc = .ok (.invokevirtual idx, 3)) (hrm : (st.map fun v => v.category).sum ≤ 8) (hc : k + mc ≤ R.cells) (hs : n + ms ≤ R.slots) (kk : ∀ v es', P v es' → Zj p l e R s m args below meth c Q G B nL (k + mc) (n + ms) (pc + 3) ls (.int v :: st) es') : Zj p l e R s m args below meth c Q G B nL k n (pc) ls (x1 :: .ref (B + i) :: st) es :=
  z_callV (As := [x1]) E hM hC hin hci he hR d rfl hrm hc hs (fun r es' h => by obtain ⟨v, rfl, hp⟩ := h; exact kk v es' hp)
theorem z_cS1L (E : En p s m args meth c G B nL cc own mn rt) {x1 : Value} {P : Int64 → zE → Prop} (hM : Tr l G B y bytes maxL ret d' mc ms [x1] es (pL P)) (hC : zC own idx y bytes maxL ret 1) (hst : Cond.static y ∈ zzW) (hR : d' + 1 ≤ R.frames ∧ 40 * d' + 40 ≤ R.locals) (d : decode cc pc = .ok (.invokestatic idx, 3)) (hrm : (st.map fun v => v.category).sum ≤ 8) (hc : k + mc ≤ R.cells) (hs : n + ms ≤ R.slots) (kk : ∀ v es', P v es' → Zj p l e R s m args below meth c Q G B nL (k + mc) (n + ms) (pc + 3) ls (.long v :: st) es') : Zj p l e R s m args below meth c Q G B nL k n (pc) ls (x1 :: st) es :=
  z_callS (As := [x1]) E hM hC hst hR d rfl hrm hc hs (fun r es' h => by obtain ⟨v, rfl, hp⟩ := h; exact kk v es' hp)
theorem z_cV1L (E : En p s m args meth c G B nL cc own mn rt) {x1 : Value} {P : Int64 → zE → Prop} {i ci : Nat} {C : String} {T : u_T} {N : Nat} {fs : List Value} (hM : Tr l G B y bytes maxL ret d' mc ms [.ref (B + i), x1] es (pL P)) (hC : zC own idx y bytes maxL ret 1) (hin : Cond.instanceMethod y ∈ zzW ∧ Cond.selects C y y ∈ zzW) (hci : vwCl[ci]? = some (C, T, N)) (he : es[i]? = some (.inr (ci, fs))) (hR : d' + 1 ≤ R.frames ∧ 40 * d' + 40 ≤ R.locals) (d : decode cc pc = .ok (.invokevirtual idx, 3)) (hrm : (st.map fun v => v.category).sum ≤ 8) (hc : k + mc ≤ R.cells) (hs : n + ms ≤ R.slots) (kk : ∀ v es', P v es' → Zj p l e R s m args below meth c Q G B nL (k + mc) (n + ms) (pc + 3) ls (.long v :: st) es') : Zj p l e R s m args below meth c Q G B nL k n (pc) ls (x1 :: .ref (B + i) :: st) es :=
  z_callV (As := [x1]) E hM hC hin hci he hR d rfl hrm hc hs (fun r es' h => by obtain ⟨v, rfl, hp⟩ := h; exact kk v es' hp)
theorem z_cS1R (E : En p s m args meth c G B nL cc own mn rt) {x1 : Value} {P : Value → zE → Prop} (hM : Tr l G B y bytes maxL ret d' mc ms [x1] es (pR P)) (hC : zC own idx y bytes maxL ret 1) (hst : Cond.static y ∈ zzW) (hR : d' + 1 ≤ R.frames ∧ 40 * d' + 40 ≤ R.locals) (d : decode cc pc = .ok (.invokestatic idx, 3)) (hrm : (st.map fun v => v.category).sum ≤ 8) (hc : k + mc ≤ R.cells) (hs : n + ms ≤ R.slots) (kk : ∀ v es', P v es' → Zj p l e R s m args below meth c Q G B nL (k + mc) (n + ms) (pc + 3) ls (v :: st) es') : Zj p l e R s m args below meth c Q G B nL k n (pc) ls (x1 :: st) es :=
  z_callS (As := [x1]) E hM hC hst hR d rfl hrm hc hs (fun r es' h => by obtain ⟨v, rfl, hp⟩ := h; exact kk v es' hp)
theorem z_cV1R (E : En p s m args meth c G B nL cc own mn rt) {x1 : Value} {P : Value → zE → Prop} {i ci : Nat} {C : String} {T : u_T} {N : Nat} {fs : List Value} (hM : Tr l G B y bytes maxL ret d' mc ms [.ref (B + i), x1] es (pR P)) (hC : zC own idx y bytes maxL ret 1) (hin : Cond.instanceMethod y ∈ zzW ∧ Cond.selects C y y ∈ zzW) (hci : vwCl[ci]? = some (C, T, N)) (he : es[i]? = some (.inr (ci, fs))) (hR : d' + 1 ≤ R.frames ∧ 40 * d' + 40 ≤ R.locals) (d : decode cc pc = .ok (.invokevirtual idx, 3)) (hrm : (st.map fun v => v.category).sum ≤ 8) (hc : k + mc ≤ R.cells) (hs : n + ms ≤ R.slots) (kk : ∀ v es', P v es' → Zj p l e R s m args below meth c Q G B nL (k + mc) (n + ms) (pc + 3) ls (v :: st) es') : Zj p l e R s m args below meth c Q G B nL k n (pc) ls (x1 :: .ref (B + i) :: st) es :=
  z_callV (As := [x1]) E hM hC hin hci he hR d rfl hrm hc hs (fun r es' h => by obtain ⟨v, rfl, hp⟩ := h; exact kk v es' hp)
theorem z_cS1V (E : En p s m args meth c G B nL cc own mn rt) {x1 : Value} {P : zE → Prop} (hM : Tr l G B y bytes maxL ret d' mc ms [x1] es (pV P)) (hC : zC own idx y bytes maxL ret 1) (hst : Cond.static y ∈ zzW) (hR : d' + 1 ≤ R.frames ∧ 40 * d' + 40 ≤ R.locals) (d : decode cc pc = .ok (.invokestatic idx, 3)) (hrm : (st.map fun v => v.category).sum ≤ 8) (hc : k + mc ≤ R.cells) (hs : n + ms ≤ R.slots) (kk : ∀ es', P es' → Zj p l e R s m args below meth c Q G B nL (k + mc) (n + ms) (pc + 3) ls (st) es') : Zj p l e R s m args below meth c Q G B nL k n (pc) ls (x1 :: st) es :=
  z_callS (As := [x1]) E hM hC hst hR d rfl hrm hc hs (fun r es' h => by obtain ⟨rfl, hp⟩ := h; exact kk es' hp)
theorem z_cV1V (E : En p s m args meth c G B nL cc own mn rt) {x1 : Value} {P : zE → Prop} {i ci : Nat} {C : String} {T : u_T} {N : Nat} {fs : List Value} (hM : Tr l G B y bytes maxL ret d' mc ms [.ref (B + i), x1] es (pV P)) (hC : zC own idx y bytes maxL ret 1) (hin : Cond.instanceMethod y ∈ zzW ∧ Cond.selects C y y ∈ zzW) (hci : vwCl[ci]? = some (C, T, N)) (he : es[i]? = some (.inr (ci, fs))) (hR : d' + 1 ≤ R.frames ∧ 40 * d' + 40 ≤ R.locals) (d : decode cc pc = .ok (.invokevirtual idx, 3)) (hrm : (st.map fun v => v.category).sum ≤ 8) (hc : k + mc ≤ R.cells) (hs : n + ms ≤ R.slots) (kk : ∀ es', P es' → Zj p l e R s m args below meth c Q G B nL (k + mc) (n + ms) (pc + 3) ls (st) es') : Zj p l e R s m args below meth c Q G B nL k n (pc) ls (x1 :: .ref (B + i) :: st) es :=
  z_callV (As := [x1]) E hM hC hin hci he hR d rfl hrm hc hs (fun r es' h => by obtain ⟨rfl, hp⟩ := h; exact kk es' hp)
theorem z_cI1V (E : En p s m args meth c G B nL cc own mn rt) {x1 : Value} {P : zE → Prop} {a : Nat} (hM : Tr l G B y bytes maxL none d' mc ms [.ref a, x1] es (pV P)) (hC : zC own idx y bytes maxL none 1) (hin : y.name = "<init>" ∧ Cond.instanceMethod y ∈ zzW) (hR : d' + 1 ≤ R.frames ∧ 40 * d' + 40 ≤ R.locals) (d : decode cc pc = .ok (.invokespecial idx, 3)) (hrm : (st.map fun v => v.category).sum ≤ 8) (hc : k + mc ≤ R.cells) (hs : n + ms ≤ R.slots) (kk : ∀ es', P es' → Zj p l e R s m args below meth c Q G B nL (k + mc) (n + ms) (pc + 3) ls (st) es') : Zj p l e R s m args below meth c Q G B nL k n (pc) ls (x1 :: .ref a :: st) es :=
  z_callI (As := [x1]) E hM hC hin hR d rfl hrm hc hs (fun r es' h => by obtain ⟨rfl, hp⟩ := h; exact kk es' hp)
theorem z_cS2I (E : En p s m args meth c G B nL cc own mn rt) {x1 x2 : Value} {P : Int32 → zE → Prop} (hM : Tr l G B y bytes maxL ret d' mc ms [x1, x2] es (pI P)) (hC : zC own idx y bytes maxL ret 2) (hst : Cond.static y ∈ zzW) (hR : d' + 1 ≤ R.frames ∧ 40 * d' + 40 ≤ R.locals) (d : decode cc pc = .ok (.invokestatic idx, 3)) (hrm : (st.map fun v => v.category).sum ≤ 8) (hc : k + mc ≤ R.cells) (hs : n + ms ≤ R.slots) (kk : ∀ v es', P v es' → Zj p l e R s m args below meth c Q G B nL (k + mc) (n + ms) (pc + 3) ls (.int v :: st) es') : Zj p l e R s m args below meth c Q G B nL k n (pc) ls (x2 :: x1 :: st) es :=
  z_callS (As := [x1, x2]) E hM hC hst hR d rfl hrm hc hs (fun r es' h => by obtain ⟨v, rfl, hp⟩ := h; exact kk v es' hp)
theorem z_cV2I (E : En p s m args meth c G B nL cc own mn rt) {x1 x2 : Value} {P : Int32 → zE → Prop} {i ci : Nat} {C : String} {T : u_T} {N : Nat} {fs : List Value} (hM : Tr l G B y bytes maxL ret d' mc ms [.ref (B + i), x1, x2] es (pI P)) (hC : zC own idx y bytes maxL ret 2) (hin : Cond.instanceMethod y ∈ zzW ∧ Cond.selects C y y ∈ zzW) (hci : vwCl[ci]? = some (C, T, N)) (he : es[i]? = some (.inr (ci, fs))) (hR : d' + 1 ≤ R.frames ∧ 40 * d' + 40 ≤ R.locals) (d : decode cc pc = .ok (.invokevirtual idx, 3)) (hrm : (st.map fun v => v.category).sum ≤ 8) (hc : k + mc ≤ R.cells) (hs : n + ms ≤ R.slots) (kk : ∀ v es', P v es' → Zj p l e R s m args below meth c Q G B nL (k + mc) (n + ms) (pc + 3) ls (.int v :: st) es') : Zj p l e R s m args below meth c Q G B nL k n (pc) ls (x2 :: x1 :: .ref (B + i) :: st) es :=
  z_callV (As := [x1, x2]) E hM hC hin hci he hR d rfl hrm hc hs (fun r es' h => by obtain ⟨v, rfl, hp⟩ := h; exact kk v es' hp)
theorem z_cS2L (E : En p s m args meth c G B nL cc own mn rt) {x1 x2 : Value} {P : Int64 → zE → Prop} (hM : Tr l G B y bytes maxL ret d' mc ms [x1, x2] es (pL P)) (hC : zC own idx y bytes maxL ret 2) (hst : Cond.static y ∈ zzW) (hR : d' + 1 ≤ R.frames ∧ 40 * d' + 40 ≤ R.locals) (d : decode cc pc = .ok (.invokestatic idx, 3)) (hrm : (st.map fun v => v.category).sum ≤ 8) (hc : k + mc ≤ R.cells) (hs : n + ms ≤ R.slots) (kk : ∀ v es', P v es' → Zj p l e R s m args below meth c Q G B nL (k + mc) (n + ms) (pc + 3) ls (.long v :: st) es') : Zj p l e R s m args below meth c Q G B nL k n (pc) ls (x2 :: x1 :: st) es :=
  z_callS (As := [x1, x2]) E hM hC hst hR d rfl hrm hc hs (fun r es' h => by obtain ⟨v, rfl, hp⟩ := h; exact kk v es' hp)
theorem z_cV2L (E : En p s m args meth c G B nL cc own mn rt) {x1 x2 : Value} {P : Int64 → zE → Prop} {i ci : Nat} {C : String} {T : u_T} {N : Nat} {fs : List Value} (hM : Tr l G B y bytes maxL ret d' mc ms [.ref (B + i), x1, x2] es (pL P)) (hC : zC own idx y bytes maxL ret 2) (hin : Cond.instanceMethod y ∈ zzW ∧ Cond.selects C y y ∈ zzW) (hci : vwCl[ci]? = some (C, T, N)) (he : es[i]? = some (.inr (ci, fs))) (hR : d' + 1 ≤ R.frames ∧ 40 * d' + 40 ≤ R.locals) (d : decode cc pc = .ok (.invokevirtual idx, 3)) (hrm : (st.map fun v => v.category).sum ≤ 8) (hc : k + mc ≤ R.cells) (hs : n + ms ≤ R.slots) (kk : ∀ v es', P v es' → Zj p l e R s m args below meth c Q G B nL (k + mc) (n + ms) (pc + 3) ls (.long v :: st) es') : Zj p l e R s m args below meth c Q G B nL k n (pc) ls (x2 :: x1 :: .ref (B + i) :: st) es :=
  z_callV (As := [x1, x2]) E hM hC hin hci he hR d rfl hrm hc hs (fun r es' h => by obtain ⟨v, rfl, hp⟩ := h; exact kk v es' hp)
theorem z_cS2R (E : En p s m args meth c G B nL cc own mn rt) {x1 x2 : Value} {P : Value → zE → Prop} (hM : Tr l G B y bytes maxL ret d' mc ms [x1, x2] es (pR P)) (hC : zC own idx y bytes maxL ret 2) (hst : Cond.static y ∈ zzW) (hR : d' + 1 ≤ R.frames ∧ 40 * d' + 40 ≤ R.locals) (d : decode cc pc = .ok (.invokestatic idx, 3)) (hrm : (st.map fun v => v.category).sum ≤ 8) (hc : k + mc ≤ R.cells) (hs : n + ms ≤ R.slots) (kk : ∀ v es', P v es' → Zj p l e R s m args below meth c Q G B nL (k + mc) (n + ms) (pc + 3) ls (v :: st) es') : Zj p l e R s m args below meth c Q G B nL k n (pc) ls (x2 :: x1 :: st) es :=
  z_callS (As := [x1, x2]) E hM hC hst hR d rfl hrm hc hs (fun r es' h => by obtain ⟨v, rfl, hp⟩ := h; exact kk v es' hp)
theorem z_cV2R (E : En p s m args meth c G B nL cc own mn rt) {x1 x2 : Value} {P : Value → zE → Prop} {i ci : Nat} {C : String} {T : u_T} {N : Nat} {fs : List Value} (hM : Tr l G B y bytes maxL ret d' mc ms [.ref (B + i), x1, x2] es (pR P)) (hC : zC own idx y bytes maxL ret 2) (hin : Cond.instanceMethod y ∈ zzW ∧ Cond.selects C y y ∈ zzW) (hci : vwCl[ci]? = some (C, T, N)) (he : es[i]? = some (.inr (ci, fs))) (hR : d' + 1 ≤ R.frames ∧ 40 * d' + 40 ≤ R.locals) (d : decode cc pc = .ok (.invokevirtual idx, 3)) (hrm : (st.map fun v => v.category).sum ≤ 8) (hc : k + mc ≤ R.cells) (hs : n + ms ≤ R.slots) (kk : ∀ v es', P v es' → Zj p l e R s m args below meth c Q G B nL (k + mc) (n + ms) (pc + 3) ls (v :: st) es') : Zj p l e R s m args below meth c Q G B nL k n (pc) ls (x2 :: x1 :: .ref (B + i) :: st) es :=
  z_callV (As := [x1, x2]) E hM hC hin hci he hR d rfl hrm hc hs (fun r es' h => by obtain ⟨v, rfl, hp⟩ := h; exact kk v es' hp)
theorem z_cS2V (E : En p s m args meth c G B nL cc own mn rt) {x1 x2 : Value} {P : zE → Prop} (hM : Tr l G B y bytes maxL ret d' mc ms [x1, x2] es (pV P)) (hC : zC own idx y bytes maxL ret 2) (hst : Cond.static y ∈ zzW) (hR : d' + 1 ≤ R.frames ∧ 40 * d' + 40 ≤ R.locals) (d : decode cc pc = .ok (.invokestatic idx, 3)) (hrm : (st.map fun v => v.category).sum ≤ 8) (hc : k + mc ≤ R.cells) (hs : n + ms ≤ R.slots) (kk : ∀ es', P es' → Zj p l e R s m args below meth c Q G B nL (k + mc) (n + ms) (pc + 3) ls (st) es') : Zj p l e R s m args below meth c Q G B nL k n (pc) ls (x2 :: x1 :: st) es :=
  z_callS (As := [x1, x2]) E hM hC hst hR d rfl hrm hc hs (fun r es' h => by obtain ⟨rfl, hp⟩ := h; exact kk es' hp)
theorem z_cV2V (E : En p s m args meth c G B nL cc own mn rt) {x1 x2 : Value} {P : zE → Prop} {i ci : Nat} {C : String} {T : u_T} {N : Nat} {fs : List Value} (hM : Tr l G B y bytes maxL ret d' mc ms [.ref (B + i), x1, x2] es (pV P)) (hC : zC own idx y bytes maxL ret 2) (hin : Cond.instanceMethod y ∈ zzW ∧ Cond.selects C y y ∈ zzW) (hci : vwCl[ci]? = some (C, T, N)) (he : es[i]? = some (.inr (ci, fs))) (hR : d' + 1 ≤ R.frames ∧ 40 * d' + 40 ≤ R.locals) (d : decode cc pc = .ok (.invokevirtual idx, 3)) (hrm : (st.map fun v => v.category).sum ≤ 8) (hc : k + mc ≤ R.cells) (hs : n + ms ≤ R.slots) (kk : ∀ es', P es' → Zj p l e R s m args below meth c Q G B nL (k + mc) (n + ms) (pc + 3) ls (st) es') : Zj p l e R s m args below meth c Q G B nL k n (pc) ls (x2 :: x1 :: .ref (B + i) :: st) es :=
  z_callV (As := [x1, x2]) E hM hC hin hci he hR d rfl hrm hc hs (fun r es' h => by obtain ⟨rfl, hp⟩ := h; exact kk es' hp)
theorem z_cI2V (E : En p s m args meth c G B nL cc own mn rt) {x1 x2 : Value} {P : zE → Prop} {a : Nat} (hM : Tr l G B y bytes maxL none d' mc ms [.ref a, x1, x2] es (pV P)) (hC : zC own idx y bytes maxL none 2) (hin : y.name = "<init>" ∧ Cond.instanceMethod y ∈ zzW) (hR : d' + 1 ≤ R.frames ∧ 40 * d' + 40 ≤ R.locals) (d : decode cc pc = .ok (.invokespecial idx, 3)) (hrm : (st.map fun v => v.category).sum ≤ 8) (hc : k + mc ≤ R.cells) (hs : n + ms ≤ R.slots) (kk : ∀ es', P es' → Zj p l e R s m args below meth c Q G B nL (k + mc) (n + ms) (pc + 3) ls (st) es') : Zj p l e R s m args below meth c Q G B nL k n (pc) ls (x2 :: x1 :: .ref a :: st) es :=
  z_callI (As := [x1, x2]) E hM hC hin hR d rfl hrm hc hs (fun r es' h => by obtain ⟨rfl, hp⟩ := h; exact kk es' hp)
theorem z_cS3I (E : En p s m args meth c G B nL cc own mn rt) {x1 x2 x3 : Value} {P : Int32 → zE → Prop} (hM : Tr l G B y bytes maxL ret d' mc ms [x1, x2, x3] es (pI P)) (hC : zC own idx y bytes maxL ret 3) (hst : Cond.static y ∈ zzW) (hR : d' + 1 ≤ R.frames ∧ 40 * d' + 40 ≤ R.locals) (d : decode cc pc = .ok (.invokestatic idx, 3)) (hrm : (st.map fun v => v.category).sum ≤ 8) (hc : k + mc ≤ R.cells) (hs : n + ms ≤ R.slots) (kk : ∀ v es', P v es' → Zj p l e R s m args below meth c Q G B nL (k + mc) (n + ms) (pc + 3) ls (.int v :: st) es') : Zj p l e R s m args below meth c Q G B nL k n (pc) ls (x3 :: x2 :: x1 :: st) es :=
  z_callS (As := [x1, x2, x3]) E hM hC hst hR d rfl hrm hc hs (fun r es' h => by obtain ⟨v, rfl, hp⟩ := h; exact kk v es' hp)
theorem z_cV3I (E : En p s m args meth c G B nL cc own mn rt) {x1 x2 x3 : Value} {P : Int32 → zE → Prop} {i ci : Nat} {C : String} {T : u_T} {N : Nat} {fs : List Value} (hM : Tr l G B y bytes maxL ret d' mc ms [.ref (B + i), x1, x2, x3] es (pI P)) (hC : zC own idx y bytes maxL ret 3) (hin : Cond.instanceMethod y ∈ zzW ∧ Cond.selects C y y ∈ zzW) (hci : vwCl[ci]? = some (C, T, N)) (he : es[i]? = some (.inr (ci, fs))) (hR : d' + 1 ≤ R.frames ∧ 40 * d' + 40 ≤ R.locals) (d : decode cc pc = .ok (.invokevirtual idx, 3)) (hrm : (st.map fun v => v.category).sum ≤ 8) (hc : k + mc ≤ R.cells) (hs : n + ms ≤ R.slots) (kk : ∀ v es', P v es' → Zj p l e R s m args below meth c Q G B nL (k + mc) (n + ms) (pc + 3) ls (.int v :: st) es') : Zj p l e R s m args below meth c Q G B nL k n (pc) ls (x3 :: x2 :: x1 :: .ref (B + i) :: st) es :=
  z_callV (As := [x1, x2, x3]) E hM hC hin hci he hR d rfl hrm hc hs (fun r es' h => by obtain ⟨v, rfl, hp⟩ := h; exact kk v es' hp)
theorem z_cS3L (E : En p s m args meth c G B nL cc own mn rt) {x1 x2 x3 : Value} {P : Int64 → zE → Prop} (hM : Tr l G B y bytes maxL ret d' mc ms [x1, x2, x3] es (pL P)) (hC : zC own idx y bytes maxL ret 3) (hst : Cond.static y ∈ zzW) (hR : d' + 1 ≤ R.frames ∧ 40 * d' + 40 ≤ R.locals) (d : decode cc pc = .ok (.invokestatic idx, 3)) (hrm : (st.map fun v => v.category).sum ≤ 8) (hc : k + mc ≤ R.cells) (hs : n + ms ≤ R.slots) (kk : ∀ v es', P v es' → Zj p l e R s m args below meth c Q G B nL (k + mc) (n + ms) (pc + 3) ls (.long v :: st) es') : Zj p l e R s m args below meth c Q G B nL k n (pc) ls (x3 :: x2 :: x1 :: st) es :=
  z_callS (As := [x1, x2, x3]) E hM hC hst hR d rfl hrm hc hs (fun r es' h => by obtain ⟨v, rfl, hp⟩ := h; exact kk v es' hp)
theorem z_cV3L (E : En p s m args meth c G B nL cc own mn rt) {x1 x2 x3 : Value} {P : Int64 → zE → Prop} {i ci : Nat} {C : String} {T : u_T} {N : Nat} {fs : List Value} (hM : Tr l G B y bytes maxL ret d' mc ms [.ref (B + i), x1, x2, x3] es (pL P)) (hC : zC own idx y bytes maxL ret 3) (hin : Cond.instanceMethod y ∈ zzW ∧ Cond.selects C y y ∈ zzW) (hci : vwCl[ci]? = some (C, T, N)) (he : es[i]? = some (.inr (ci, fs))) (hR : d' + 1 ≤ R.frames ∧ 40 * d' + 40 ≤ R.locals) (d : decode cc pc = .ok (.invokevirtual idx, 3)) (hrm : (st.map fun v => v.category).sum ≤ 8) (hc : k + mc ≤ R.cells) (hs : n + ms ≤ R.slots) (kk : ∀ v es', P v es' → Zj p l e R s m args below meth c Q G B nL (k + mc) (n + ms) (pc + 3) ls (.long v :: st) es') : Zj p l e R s m args below meth c Q G B nL k n (pc) ls (x3 :: x2 :: x1 :: .ref (B + i) :: st) es :=
  z_callV (As := [x1, x2, x3]) E hM hC hin hci he hR d rfl hrm hc hs (fun r es' h => by obtain ⟨v, rfl, hp⟩ := h; exact kk v es' hp)
theorem z_cS3R (E : En p s m args meth c G B nL cc own mn rt) {x1 x2 x3 : Value} {P : Value → zE → Prop} (hM : Tr l G B y bytes maxL ret d' mc ms [x1, x2, x3] es (pR P)) (hC : zC own idx y bytes maxL ret 3) (hst : Cond.static y ∈ zzW) (hR : d' + 1 ≤ R.frames ∧ 40 * d' + 40 ≤ R.locals) (d : decode cc pc = .ok (.invokestatic idx, 3)) (hrm : (st.map fun v => v.category).sum ≤ 8) (hc : k + mc ≤ R.cells) (hs : n + ms ≤ R.slots) (kk : ∀ v es', P v es' → Zj p l e R s m args below meth c Q G B nL (k + mc) (n + ms) (pc + 3) ls (v :: st) es') : Zj p l e R s m args below meth c Q G B nL k n (pc) ls (x3 :: x2 :: x1 :: st) es :=
  z_callS (As := [x1, x2, x3]) E hM hC hst hR d rfl hrm hc hs (fun r es' h => by obtain ⟨v, rfl, hp⟩ := h; exact kk v es' hp)
theorem z_cV3R (E : En p s m args meth c G B nL cc own mn rt) {x1 x2 x3 : Value} {P : Value → zE → Prop} {i ci : Nat} {C : String} {T : u_T} {N : Nat} {fs : List Value} (hM : Tr l G B y bytes maxL ret d' mc ms [.ref (B + i), x1, x2, x3] es (pR P)) (hC : zC own idx y bytes maxL ret 3) (hin : Cond.instanceMethod y ∈ zzW ∧ Cond.selects C y y ∈ zzW) (hci : vwCl[ci]? = some (C, T, N)) (he : es[i]? = some (.inr (ci, fs))) (hR : d' + 1 ≤ R.frames ∧ 40 * d' + 40 ≤ R.locals) (d : decode cc pc = .ok (.invokevirtual idx, 3)) (hrm : (st.map fun v => v.category).sum ≤ 8) (hc : k + mc ≤ R.cells) (hs : n + ms ≤ R.slots) (kk : ∀ v es', P v es' → Zj p l e R s m args below meth c Q G B nL (k + mc) (n + ms) (pc + 3) ls (v :: st) es') : Zj p l e R s m args below meth c Q G B nL k n (pc) ls (x3 :: x2 :: x1 :: .ref (B + i) :: st) es :=
  z_callV (As := [x1, x2, x3]) E hM hC hin hci he hR d rfl hrm hc hs (fun r es' h => by obtain ⟨v, rfl, hp⟩ := h; exact kk v es' hp)
theorem z_cS3V (E : En p s m args meth c G B nL cc own mn rt) {x1 x2 x3 : Value} {P : zE → Prop} (hM : Tr l G B y bytes maxL ret d' mc ms [x1, x2, x3] es (pV P)) (hC : zC own idx y bytes maxL ret 3) (hst : Cond.static y ∈ zzW) (hR : d' + 1 ≤ R.frames ∧ 40 * d' + 40 ≤ R.locals) (d : decode cc pc = .ok (.invokestatic idx, 3)) (hrm : (st.map fun v => v.category).sum ≤ 8) (hc : k + mc ≤ R.cells) (hs : n + ms ≤ R.slots) (kk : ∀ es', P es' → Zj p l e R s m args below meth c Q G B nL (k + mc) (n + ms) (pc + 3) ls (st) es') : Zj p l e R s m args below meth c Q G B nL k n (pc) ls (x3 :: x2 :: x1 :: st) es :=
  z_callS (As := [x1, x2, x3]) E hM hC hst hR d rfl hrm hc hs (fun r es' h => by obtain ⟨rfl, hp⟩ := h; exact kk es' hp)
theorem z_cV3V (E : En p s m args meth c G B nL cc own mn rt) {x1 x2 x3 : Value} {P : zE → Prop} {i ci : Nat} {C : String} {T : u_T} {N : Nat} {fs : List Value} (hM : Tr l G B y bytes maxL ret d' mc ms [.ref (B + i), x1, x2, x3] es (pV P)) (hC : zC own idx y bytes maxL ret 3) (hin : Cond.instanceMethod y ∈ zzW ∧ Cond.selects C y y ∈ zzW) (hci : vwCl[ci]? = some (C, T, N)) (he : es[i]? = some (.inr (ci, fs))) (hR : d' + 1 ≤ R.frames ∧ 40 * d' + 40 ≤ R.locals) (d : decode cc pc = .ok (.invokevirtual idx, 3)) (hrm : (st.map fun v => v.category).sum ≤ 8) (hc : k + mc ≤ R.cells) (hs : n + ms ≤ R.slots) (kk : ∀ es', P es' → Zj p l e R s m args below meth c Q G B nL (k + mc) (n + ms) (pc + 3) ls (st) es') : Zj p l e R s m args below meth c Q G B nL k n (pc) ls (x3 :: x2 :: x1 :: .ref (B + i) :: st) es :=
  z_callV (As := [x1, x2, x3]) E hM hC hin hci he hR d rfl hrm hc hs (fun r es' h => by obtain ⟨rfl, hp⟩ := h; exact kk es' hp)
theorem z_cI3V (E : En p s m args meth c G B nL cc own mn rt) {x1 x2 x3 : Value} {P : zE → Prop} {a : Nat} (hM : Tr l G B y bytes maxL none d' mc ms [.ref a, x1, x2, x3] es (pV P)) (hC : zC own idx y bytes maxL none 3) (hin : y.name = "<init>" ∧ Cond.instanceMethod y ∈ zzW) (hR : d' + 1 ≤ R.frames ∧ 40 * d' + 40 ≤ R.locals) (d : decode cc pc = .ok (.invokespecial idx, 3)) (hrm : (st.map fun v => v.category).sum ≤ 8) (hc : k + mc ≤ R.cells) (hs : n + ms ≤ R.slots) (kk : ∀ es', P es' → Zj p l e R s m args below meth c Q G B nL (k + mc) (n + ms) (pc + 3) ls (st) es') : Zj p l e R s m args below meth c Q G B nL k n (pc) ls (x3 :: x2 :: x1 :: .ref a :: st) es :=
  z_callI (As := [x1, x2, x3]) E hM hC hin hR d rfl hrm hc hs (fun r es' h => by obtain ⟨rfl, hp⟩ := h; exact kk es' hp)
theorem z_cS4I (E : En p s m args meth c G B nL cc own mn rt) {x1 x2 x3 x4 : Value} {P : Int32 → zE → Prop} (hM : Tr l G B y bytes maxL ret d' mc ms [x1, x2, x3, x4] es (pI P)) (hC : zC own idx y bytes maxL ret 4) (hst : Cond.static y ∈ zzW) (hR : d' + 1 ≤ R.frames ∧ 40 * d' + 40 ≤ R.locals) (d : decode cc pc = .ok (.invokestatic idx, 3)) (hrm : (st.map fun v => v.category).sum ≤ 8) (hc : k + mc ≤ R.cells) (hs : n + ms ≤ R.slots) (kk : ∀ v es', P v es' → Zj p l e R s m args below meth c Q G B nL (k + mc) (n + ms) (pc + 3) ls (.int v :: st) es') : Zj p l e R s m args below meth c Q G B nL k n (pc) ls (x4 :: x3 :: x2 :: x1 :: st) es :=
  z_callS (As := [x1, x2, x3, x4]) E hM hC hst hR d rfl hrm hc hs (fun r es' h => by obtain ⟨v, rfl, hp⟩ := h; exact kk v es' hp)
theorem z_cV4I (E : En p s m args meth c G B nL cc own mn rt) {x1 x2 x3 x4 : Value} {P : Int32 → zE → Prop} {i ci : Nat} {C : String} {T : u_T} {N : Nat} {fs : List Value} (hM : Tr l G B y bytes maxL ret d' mc ms [.ref (B + i), x1, x2, x3, x4] es (pI P)) (hC : zC own idx y bytes maxL ret 4) (hin : Cond.instanceMethod y ∈ zzW ∧ Cond.selects C y y ∈ zzW) (hci : vwCl[ci]? = some (C, T, N)) (he : es[i]? = some (.inr (ci, fs))) (hR : d' + 1 ≤ R.frames ∧ 40 * d' + 40 ≤ R.locals) (d : decode cc pc = .ok (.invokevirtual idx, 3)) (hrm : (st.map fun v => v.category).sum ≤ 8) (hc : k + mc ≤ R.cells) (hs : n + ms ≤ R.slots) (kk : ∀ v es', P v es' → Zj p l e R s m args below meth c Q G B nL (k + mc) (n + ms) (pc + 3) ls (.int v :: st) es') : Zj p l e R s m args below meth c Q G B nL k n (pc) ls (x4 :: x3 :: x2 :: x1 :: .ref (B + i) :: st) es :=
  z_callV (As := [x1, x2, x3, x4]) E hM hC hin hci he hR d rfl hrm hc hs (fun r es' h => by obtain ⟨v, rfl, hp⟩ := h; exact kk v es' hp)
theorem z_cS4L (E : En p s m args meth c G B nL cc own mn rt) {x1 x2 x3 x4 : Value} {P : Int64 → zE → Prop} (hM : Tr l G B y bytes maxL ret d' mc ms [x1, x2, x3, x4] es (pL P)) (hC : zC own idx y bytes maxL ret 4) (hst : Cond.static y ∈ zzW) (hR : d' + 1 ≤ R.frames ∧ 40 * d' + 40 ≤ R.locals) (d : decode cc pc = .ok (.invokestatic idx, 3)) (hrm : (st.map fun v => v.category).sum ≤ 8) (hc : k + mc ≤ R.cells) (hs : n + ms ≤ R.slots) (kk : ∀ v es', P v es' → Zj p l e R s m args below meth c Q G B nL (k + mc) (n + ms) (pc + 3) ls (.long v :: st) es') : Zj p l e R s m args below meth c Q G B nL k n (pc) ls (x4 :: x3 :: x2 :: x1 :: st) es :=
  z_callS (As := [x1, x2, x3, x4]) E hM hC hst hR d rfl hrm hc hs (fun r es' h => by obtain ⟨v, rfl, hp⟩ := h; exact kk v es' hp)
theorem z_cV4L (E : En p s m args meth c G B nL cc own mn rt) {x1 x2 x3 x4 : Value} {P : Int64 → zE → Prop} {i ci : Nat} {C : String} {T : u_T} {N : Nat} {fs : List Value} (hM : Tr l G B y bytes maxL ret d' mc ms [.ref (B + i), x1, x2, x3, x4] es (pL P)) (hC : zC own idx y bytes maxL ret 4) (hin : Cond.instanceMethod y ∈ zzW ∧ Cond.selects C y y ∈ zzW) (hci : vwCl[ci]? = some (C, T, N)) (he : es[i]? = some (.inr (ci, fs))) (hR : d' + 1 ≤ R.frames ∧ 40 * d' + 40 ≤ R.locals) (d : decode cc pc = .ok (.invokevirtual idx, 3)) (hrm : (st.map fun v => v.category).sum ≤ 8) (hc : k + mc ≤ R.cells) (hs : n + ms ≤ R.slots) (kk : ∀ v es', P v es' → Zj p l e R s m args below meth c Q G B nL (k + mc) (n + ms) (pc + 3) ls (.long v :: st) es') : Zj p l e R s m args below meth c Q G B nL k n (pc) ls (x4 :: x3 :: x2 :: x1 :: .ref (B + i) :: st) es :=
  z_callV (As := [x1, x2, x3, x4]) E hM hC hin hci he hR d rfl hrm hc hs (fun r es' h => by obtain ⟨v, rfl, hp⟩ := h; exact kk v es' hp)
theorem z_cS4R (E : En p s m args meth c G B nL cc own mn rt) {x1 x2 x3 x4 : Value} {P : Value → zE → Prop} (hM : Tr l G B y bytes maxL ret d' mc ms [x1, x2, x3, x4] es (pR P)) (hC : zC own idx y bytes maxL ret 4) (hst : Cond.static y ∈ zzW) (hR : d' + 1 ≤ R.frames ∧ 40 * d' + 40 ≤ R.locals) (d : decode cc pc = .ok (.invokestatic idx, 3)) (hrm : (st.map fun v => v.category).sum ≤ 8) (hc : k + mc ≤ R.cells) (hs : n + ms ≤ R.slots) (kk : ∀ v es', P v es' → Zj p l e R s m args below meth c Q G B nL (k + mc) (n + ms) (pc + 3) ls (v :: st) es') : Zj p l e R s m args below meth c Q G B nL k n (pc) ls (x4 :: x3 :: x2 :: x1 :: st) es :=
  z_callS (As := [x1, x2, x3, x4]) E hM hC hst hR d rfl hrm hc hs (fun r es' h => by obtain ⟨v, rfl, hp⟩ := h; exact kk v es' hp)
theorem z_cV4R (E : En p s m args meth c G B nL cc own mn rt) {x1 x2 x3 x4 : Value} {P : Value → zE → Prop} {i ci : Nat} {C : String} {T : u_T} {N : Nat} {fs : List Value} (hM : Tr l G B y bytes maxL ret d' mc ms [.ref (B + i), x1, x2, x3, x4] es (pR P)) (hC : zC own idx y bytes maxL ret 4) (hin : Cond.instanceMethod y ∈ zzW ∧ Cond.selects C y y ∈ zzW) (hci : vwCl[ci]? = some (C, T, N)) (he : es[i]? = some (.inr (ci, fs))) (hR : d' + 1 ≤ R.frames ∧ 40 * d' + 40 ≤ R.locals) (d : decode cc pc = .ok (.invokevirtual idx, 3)) (hrm : (st.map fun v => v.category).sum ≤ 8) (hc : k + mc ≤ R.cells) (hs : n + ms ≤ R.slots) (kk : ∀ v es', P v es' → Zj p l e R s m args below meth c Q G B nL (k + mc) (n + ms) (pc + 3) ls (v :: st) es') : Zj p l e R s m args below meth c Q G B nL k n (pc) ls (x4 :: x3 :: x2 :: x1 :: .ref (B + i) :: st) es :=
  z_callV (As := [x1, x2, x3, x4]) E hM hC hin hci he hR d rfl hrm hc hs (fun r es' h => by obtain ⟨v, rfl, hp⟩ := h; exact kk v es' hp)
theorem z_cS4V (E : En p s m args meth c G B nL cc own mn rt) {x1 x2 x3 x4 : Value} {P : zE → Prop} (hM : Tr l G B y bytes maxL ret d' mc ms [x1, x2, x3, x4] es (pV P)) (hC : zC own idx y bytes maxL ret 4) (hst : Cond.static y ∈ zzW) (hR : d' + 1 ≤ R.frames ∧ 40 * d' + 40 ≤ R.locals) (d : decode cc pc = .ok (.invokestatic idx, 3)) (hrm : (st.map fun v => v.category).sum ≤ 8) (hc : k + mc ≤ R.cells) (hs : n + ms ≤ R.slots) (kk : ∀ es', P es' → Zj p l e R s m args below meth c Q G B nL (k + mc) (n + ms) (pc + 3) ls (st) es') : Zj p l e R s m args below meth c Q G B nL k n (pc) ls (x4 :: x3 :: x2 :: x1 :: st) es :=
  z_callS (As := [x1, x2, x3, x4]) E hM hC hst hR d rfl hrm hc hs (fun r es' h => by obtain ⟨rfl, hp⟩ := h; exact kk es' hp)
theorem z_cV4V (E : En p s m args meth c G B nL cc own mn rt) {x1 x2 x3 x4 : Value} {P : zE → Prop} {i ci : Nat} {C : String} {T : u_T} {N : Nat} {fs : List Value} (hM : Tr l G B y bytes maxL ret d' mc ms [.ref (B + i), x1, x2, x3, x4] es (pV P)) (hC : zC own idx y bytes maxL ret 4) (hin : Cond.instanceMethod y ∈ zzW ∧ Cond.selects C y y ∈ zzW) (hci : vwCl[ci]? = some (C, T, N)) (he : es[i]? = some (.inr (ci, fs))) (hR : d' + 1 ≤ R.frames ∧ 40 * d' + 40 ≤ R.locals) (d : decode cc pc = .ok (.invokevirtual idx, 3)) (hrm : (st.map fun v => v.category).sum ≤ 8) (hc : k + mc ≤ R.cells) (hs : n + ms ≤ R.slots) (kk : ∀ es', P es' → Zj p l e R s m args below meth c Q G B nL (k + mc) (n + ms) (pc + 3) ls (st) es') : Zj p l e R s m args below meth c Q G B nL k n (pc) ls (x4 :: x3 :: x2 :: x1 :: .ref (B + i) :: st) es :=
  z_callV (As := [x1, x2, x3, x4]) E hM hC hin hci he hR d rfl hrm hc hs (fun r es' h => by obtain ⟨rfl, hp⟩ := h; exact kk es' hp)
theorem z_cI4V (E : En p s m args meth c G B nL cc own mn rt) {x1 x2 x3 x4 : Value} {P : zE → Prop} {a : Nat} (hM : Tr l G B y bytes maxL none d' mc ms [.ref a, x1, x2, x3, x4] es (pV P)) (hC : zC own idx y bytes maxL none 4) (hin : y.name = "<init>" ∧ Cond.instanceMethod y ∈ zzW) (hR : d' + 1 ≤ R.frames ∧ 40 * d' + 40 ≤ R.locals) (d : decode cc pc = .ok (.invokespecial idx, 3)) (hrm : (st.map fun v => v.category).sum ≤ 8) (hc : k + mc ≤ R.cells) (hs : n + ms ≤ R.slots) (kk : ∀ es', P es' → Zj p l e R s m args below meth c Q G B nL (k + mc) (n + ms) (pc + 3) ls (st) es') : Zj p l e R s m args below meth c Q G B nL k n (pc) ls (x4 :: x3 :: x2 :: x1 :: .ref a :: st) es :=
  z_callI (As := [x1, x2, x3, x4]) E hM hC hin hR d rfl hrm hc hs (fun r es' h => by obtain ⟨rfl, hp⟩ := h; exact kk es' hp)
theorem z_cS5I (E : En p s m args meth c G B nL cc own mn rt) {x1 x2 x3 x4 x5 : Value} {P : Int32 → zE → Prop} (hM : Tr l G B y bytes maxL ret d' mc ms [x1, x2, x3, x4, x5] es (pI P)) (hC : zC own idx y bytes maxL ret 5) (hst : Cond.static y ∈ zzW) (hR : d' + 1 ≤ R.frames ∧ 40 * d' + 40 ≤ R.locals) (d : decode cc pc = .ok (.invokestatic idx, 3)) (hrm : (st.map fun v => v.category).sum ≤ 8) (hc : k + mc ≤ R.cells) (hs : n + ms ≤ R.slots) (kk : ∀ v es', P v es' → Zj p l e R s m args below meth c Q G B nL (k + mc) (n + ms) (pc + 3) ls (.int v :: st) es') : Zj p l e R s m args below meth c Q G B nL k n (pc) ls (x5 :: x4 :: x3 :: x2 :: x1 :: st) es :=
  z_callS (As := [x1, x2, x3, x4, x5]) E hM hC hst hR d rfl hrm hc hs (fun r es' h => by obtain ⟨v, rfl, hp⟩ := h; exact kk v es' hp)
theorem z_cV5I (E : En p s m args meth c G B nL cc own mn rt) {x1 x2 x3 x4 x5 : Value} {P : Int32 → zE → Prop} {i ci : Nat} {C : String} {T : u_T} {N : Nat} {fs : List Value} (hM : Tr l G B y bytes maxL ret d' mc ms [.ref (B + i), x1, x2, x3, x4, x5] es (pI P)) (hC : zC own idx y bytes maxL ret 5) (hin : Cond.instanceMethod y ∈ zzW ∧ Cond.selects C y y ∈ zzW) (hci : vwCl[ci]? = some (C, T, N)) (he : es[i]? = some (.inr (ci, fs))) (hR : d' + 1 ≤ R.frames ∧ 40 * d' + 40 ≤ R.locals) (d : decode cc pc = .ok (.invokevirtual idx, 3)) (hrm : (st.map fun v => v.category).sum ≤ 8) (hc : k + mc ≤ R.cells) (hs : n + ms ≤ R.slots) (kk : ∀ v es', P v es' → Zj p l e R s m args below meth c Q G B nL (k + mc) (n + ms) (pc + 3) ls (.int v :: st) es') : Zj p l e R s m args below meth c Q G B nL k n (pc) ls (x5 :: x4 :: x3 :: x2 :: x1 :: .ref (B + i) :: st) es :=
  z_callV (As := [x1, x2, x3, x4, x5]) E hM hC hin hci he hR d rfl hrm hc hs (fun r es' h => by obtain ⟨v, rfl, hp⟩ := h; exact kk v es' hp)
theorem z_cS5L (E : En p s m args meth c G B nL cc own mn rt) {x1 x2 x3 x4 x5 : Value} {P : Int64 → zE → Prop} (hM : Tr l G B y bytes maxL ret d' mc ms [x1, x2, x3, x4, x5] es (pL P)) (hC : zC own idx y bytes maxL ret 5) (hst : Cond.static y ∈ zzW) (hR : d' + 1 ≤ R.frames ∧ 40 * d' + 40 ≤ R.locals) (d : decode cc pc = .ok (.invokestatic idx, 3)) (hrm : (st.map fun v => v.category).sum ≤ 8) (hc : k + mc ≤ R.cells) (hs : n + ms ≤ R.slots) (kk : ∀ v es', P v es' → Zj p l e R s m args below meth c Q G B nL (k + mc) (n + ms) (pc + 3) ls (.long v :: st) es') : Zj p l e R s m args below meth c Q G B nL k n (pc) ls (x5 :: x4 :: x3 :: x2 :: x1 :: st) es :=
  z_callS (As := [x1, x2, x3, x4, x5]) E hM hC hst hR d rfl hrm hc hs (fun r es' h => by obtain ⟨v, rfl, hp⟩ := h; exact kk v es' hp)
theorem z_cV5L (E : En p s m args meth c G B nL cc own mn rt) {x1 x2 x3 x4 x5 : Value} {P : Int64 → zE → Prop} {i ci : Nat} {C : String} {T : u_T} {N : Nat} {fs : List Value} (hM : Tr l G B y bytes maxL ret d' mc ms [.ref (B + i), x1, x2, x3, x4, x5] es (pL P)) (hC : zC own idx y bytes maxL ret 5) (hin : Cond.instanceMethod y ∈ zzW ∧ Cond.selects C y y ∈ zzW) (hci : vwCl[ci]? = some (C, T, N)) (he : es[i]? = some (.inr (ci, fs))) (hR : d' + 1 ≤ R.frames ∧ 40 * d' + 40 ≤ R.locals) (d : decode cc pc = .ok (.invokevirtual idx, 3)) (hrm : (st.map fun v => v.category).sum ≤ 8) (hc : k + mc ≤ R.cells) (hs : n + ms ≤ R.slots) (kk : ∀ v es', P v es' → Zj p l e R s m args below meth c Q G B nL (k + mc) (n + ms) (pc + 3) ls (.long v :: st) es') : Zj p l e R s m args below meth c Q G B nL k n (pc) ls (x5 :: x4 :: x3 :: x2 :: x1 :: .ref (B + i) :: st) es :=
  z_callV (As := [x1, x2, x3, x4, x5]) E hM hC hin hci he hR d rfl hrm hc hs (fun r es' h => by obtain ⟨v, rfl, hp⟩ := h; exact kk v es' hp)
theorem z_cS5R (E : En p s m args meth c G B nL cc own mn rt) {x1 x2 x3 x4 x5 : Value} {P : Value → zE → Prop} (hM : Tr l G B y bytes maxL ret d' mc ms [x1, x2, x3, x4, x5] es (pR P)) (hC : zC own idx y bytes maxL ret 5) (hst : Cond.static y ∈ zzW) (hR : d' + 1 ≤ R.frames ∧ 40 * d' + 40 ≤ R.locals) (d : decode cc pc = .ok (.invokestatic idx, 3)) (hrm : (st.map fun v => v.category).sum ≤ 8) (hc : k + mc ≤ R.cells) (hs : n + ms ≤ R.slots) (kk : ∀ v es', P v es' → Zj p l e R s m args below meth c Q G B nL (k + mc) (n + ms) (pc + 3) ls (v :: st) es') : Zj p l e R s m args below meth c Q G B nL k n (pc) ls (x5 :: x4 :: x3 :: x2 :: x1 :: st) es :=
  z_callS (As := [x1, x2, x3, x4, x5]) E hM hC hst hR d rfl hrm hc hs (fun r es' h => by obtain ⟨v, rfl, hp⟩ := h; exact kk v es' hp)
theorem z_cV5R (E : En p s m args meth c G B nL cc own mn rt) {x1 x2 x3 x4 x5 : Value} {P : Value → zE → Prop} {i ci : Nat} {C : String} {T : u_T} {N : Nat} {fs : List Value} (hM : Tr l G B y bytes maxL ret d' mc ms [.ref (B + i), x1, x2, x3, x4, x5] es (pR P)) (hC : zC own idx y bytes maxL ret 5) (hin : Cond.instanceMethod y ∈ zzW ∧ Cond.selects C y y ∈ zzW) (hci : vwCl[ci]? = some (C, T, N)) (he : es[i]? = some (.inr (ci, fs))) (hR : d' + 1 ≤ R.frames ∧ 40 * d' + 40 ≤ R.locals) (d : decode cc pc = .ok (.invokevirtual idx, 3)) (hrm : (st.map fun v => v.category).sum ≤ 8) (hc : k + mc ≤ R.cells) (hs : n + ms ≤ R.slots) (kk : ∀ v es', P v es' → Zj p l e R s m args below meth c Q G B nL (k + mc) (n + ms) (pc + 3) ls (v :: st) es') : Zj p l e R s m args below meth c Q G B nL k n (pc) ls (x5 :: x4 :: x3 :: x2 :: x1 :: .ref (B + i) :: st) es :=
  z_callV (As := [x1, x2, x3, x4, x5]) E hM hC hin hci he hR d rfl hrm hc hs (fun r es' h => by obtain ⟨v, rfl, hp⟩ := h; exact kk v es' hp)
theorem z_cS5V (E : En p s m args meth c G B nL cc own mn rt) {x1 x2 x3 x4 x5 : Value} {P : zE → Prop} (hM : Tr l G B y bytes maxL ret d' mc ms [x1, x2, x3, x4, x5] es (pV P)) (hC : zC own idx y bytes maxL ret 5) (hst : Cond.static y ∈ zzW) (hR : d' + 1 ≤ R.frames ∧ 40 * d' + 40 ≤ R.locals) (d : decode cc pc = .ok (.invokestatic idx, 3)) (hrm : (st.map fun v => v.category).sum ≤ 8) (hc : k + mc ≤ R.cells) (hs : n + ms ≤ R.slots) (kk : ∀ es', P es' → Zj p l e R s m args below meth c Q G B nL (k + mc) (n + ms) (pc + 3) ls (st) es') : Zj p l e R s m args below meth c Q G B nL k n (pc) ls (x5 :: x4 :: x3 :: x2 :: x1 :: st) es :=
  z_callS (As := [x1, x2, x3, x4, x5]) E hM hC hst hR d rfl hrm hc hs (fun r es' h => by obtain ⟨rfl, hp⟩ := h; exact kk es' hp)
theorem z_cV5V (E : En p s m args meth c G B nL cc own mn rt) {x1 x2 x3 x4 x5 : Value} {P : zE → Prop} {i ci : Nat} {C : String} {T : u_T} {N : Nat} {fs : List Value} (hM : Tr l G B y bytes maxL ret d' mc ms [.ref (B + i), x1, x2, x3, x4, x5] es (pV P)) (hC : zC own idx y bytes maxL ret 5) (hin : Cond.instanceMethod y ∈ zzW ∧ Cond.selects C y y ∈ zzW) (hci : vwCl[ci]? = some (C, T, N)) (he : es[i]? = some (.inr (ci, fs))) (hR : d' + 1 ≤ R.frames ∧ 40 * d' + 40 ≤ R.locals) (d : decode cc pc = .ok (.invokevirtual idx, 3)) (hrm : (st.map fun v => v.category).sum ≤ 8) (hc : k + mc ≤ R.cells) (hs : n + ms ≤ R.slots) (kk : ∀ es', P es' → Zj p l e R s m args below meth c Q G B nL (k + mc) (n + ms) (pc + 3) ls (st) es') : Zj p l e R s m args below meth c Q G B nL k n (pc) ls (x5 :: x4 :: x3 :: x2 :: x1 :: .ref (B + i) :: st) es :=
  z_callV (As := [x1, x2, x3, x4, x5]) E hM hC hin hci he hR d rfl hrm hc hs (fun r es' h => by obtain ⟨rfl, hp⟩ := h; exact kk es' hp)
theorem z_cI5V (E : En p s m args meth c G B nL cc own mn rt) {x1 x2 x3 x4 x5 : Value} {P : zE → Prop} {a : Nat} (hM : Tr l G B y bytes maxL none d' mc ms [.ref a, x1, x2, x3, x4, x5] es (pV P)) (hC : zC own idx y bytes maxL none 5) (hin : y.name = "<init>" ∧ Cond.instanceMethod y ∈ zzW) (hR : d' + 1 ≤ R.frames ∧ 40 * d' + 40 ≤ R.locals) (d : decode cc pc = .ok (.invokespecial idx, 3)) (hrm : (st.map fun v => v.category).sum ≤ 8) (hc : k + mc ≤ R.cells) (hs : n + ms ≤ R.slots) (kk : ∀ es', P es' → Zj p l e R s m args below meth c Q G B nL (k + mc) (n + ms) (pc + 3) ls (st) es') : Zj p l e R s m args below meth c Q G B nL k n (pc) ls (x5 :: x4 :: x3 :: x2 :: x1 :: .ref a :: st) es :=
  z_callI (As := [x1, x2, x3, x4, x5]) E hM hC hin hR d rfl hrm hc hs (fun r es' h => by obtain ⟨rfl, hp⟩ := h; exact kk es' hp)
theorem z_cS6I (E : En p s m args meth c G B nL cc own mn rt) {x1 x2 x3 x4 x5 x6 : Value} {P : Int32 → zE → Prop} (hM : Tr l G B y bytes maxL ret d' mc ms [x1, x2, x3, x4, x5, x6] es (pI P)) (hC : zC own idx y bytes maxL ret 6) (hst : Cond.static y ∈ zzW) (hR : d' + 1 ≤ R.frames ∧ 40 * d' + 40 ≤ R.locals) (d : decode cc pc = .ok (.invokestatic idx, 3)) (hrm : (st.map fun v => v.category).sum ≤ 8) (hc : k + mc ≤ R.cells) (hs : n + ms ≤ R.slots) (kk : ∀ v es', P v es' → Zj p l e R s m args below meth c Q G B nL (k + mc) (n + ms) (pc + 3) ls (.int v :: st) es') : Zj p l e R s m args below meth c Q G B nL k n (pc) ls (x6 :: x5 :: x4 :: x3 :: x2 :: x1 :: st) es :=
  z_callS (As := [x1, x2, x3, x4, x5, x6]) E hM hC hst hR d rfl hrm hc hs (fun r es' h => by obtain ⟨v, rfl, hp⟩ := h; exact kk v es' hp)
theorem z_cV6I (E : En p s m args meth c G B nL cc own mn rt) {x1 x2 x3 x4 x5 x6 : Value} {P : Int32 → zE → Prop} {i ci : Nat} {C : String} {T : u_T} {N : Nat} {fs : List Value} (hM : Tr l G B y bytes maxL ret d' mc ms [.ref (B + i), x1, x2, x3, x4, x5, x6] es (pI P)) (hC : zC own idx y bytes maxL ret 6) (hin : Cond.instanceMethod y ∈ zzW ∧ Cond.selects C y y ∈ zzW) (hci : vwCl[ci]? = some (C, T, N)) (he : es[i]? = some (.inr (ci, fs))) (hR : d' + 1 ≤ R.frames ∧ 40 * d' + 40 ≤ R.locals) (d : decode cc pc = .ok (.invokevirtual idx, 3)) (hrm : (st.map fun v => v.category).sum ≤ 8) (hc : k + mc ≤ R.cells) (hs : n + ms ≤ R.slots) (kk : ∀ v es', P v es' → Zj p l e R s m args below meth c Q G B nL (k + mc) (n + ms) (pc + 3) ls (.int v :: st) es') : Zj p l e R s m args below meth c Q G B nL k n (pc) ls (x6 :: x5 :: x4 :: x3 :: x2 :: x1 :: .ref (B + i) :: st) es :=
  z_callV (As := [x1, x2, x3, x4, x5, x6]) E hM hC hin hci he hR d rfl hrm hc hs (fun r es' h => by obtain ⟨v, rfl, hp⟩ := h; exact kk v es' hp)
theorem z_cS6L (E : En p s m args meth c G B nL cc own mn rt) {x1 x2 x3 x4 x5 x6 : Value} {P : Int64 → zE → Prop} (hM : Tr l G B y bytes maxL ret d' mc ms [x1, x2, x3, x4, x5, x6] es (pL P)) (hC : zC own idx y bytes maxL ret 6) (hst : Cond.static y ∈ zzW) (hR : d' + 1 ≤ R.frames ∧ 40 * d' + 40 ≤ R.locals) (d : decode cc pc = .ok (.invokestatic idx, 3)) (hrm : (st.map fun v => v.category).sum ≤ 8) (hc : k + mc ≤ R.cells) (hs : n + ms ≤ R.slots) (kk : ∀ v es', P v es' → Zj p l e R s m args below meth c Q G B nL (k + mc) (n + ms) (pc + 3) ls (.long v :: st) es') : Zj p l e R s m args below meth c Q G B nL k n (pc) ls (x6 :: x5 :: x4 :: x3 :: x2 :: x1 :: st) es :=
  z_callS (As := [x1, x2, x3, x4, x5, x6]) E hM hC hst hR d rfl hrm hc hs (fun r es' h => by obtain ⟨v, rfl, hp⟩ := h; exact kk v es' hp)
theorem z_cV6L (E : En p s m args meth c G B nL cc own mn rt) {x1 x2 x3 x4 x5 x6 : Value} {P : Int64 → zE → Prop} {i ci : Nat} {C : String} {T : u_T} {N : Nat} {fs : List Value} (hM : Tr l G B y bytes maxL ret d' mc ms [.ref (B + i), x1, x2, x3, x4, x5, x6] es (pL P)) (hC : zC own idx y bytes maxL ret 6) (hin : Cond.instanceMethod y ∈ zzW ∧ Cond.selects C y y ∈ zzW) (hci : vwCl[ci]? = some (C, T, N)) (he : es[i]? = some (.inr (ci, fs))) (hR : d' + 1 ≤ R.frames ∧ 40 * d' + 40 ≤ R.locals) (d : decode cc pc = .ok (.invokevirtual idx, 3)) (hrm : (st.map fun v => v.category).sum ≤ 8) (hc : k + mc ≤ R.cells) (hs : n + ms ≤ R.slots) (kk : ∀ v es', P v es' → Zj p l e R s m args below meth c Q G B nL (k + mc) (n + ms) (pc + 3) ls (.long v :: st) es') : Zj p l e R s m args below meth c Q G B nL k n (pc) ls (x6 :: x5 :: x4 :: x3 :: x2 :: x1 :: .ref (B + i) :: st) es :=
  z_callV (As := [x1, x2, x3, x4, x5, x6]) E hM hC hin hci he hR d rfl hrm hc hs (fun r es' h => by obtain ⟨v, rfl, hp⟩ := h; exact kk v es' hp)
theorem z_cS6R (E : En p s m args meth c G B nL cc own mn rt) {x1 x2 x3 x4 x5 x6 : Value} {P : Value → zE → Prop} (hM : Tr l G B y bytes maxL ret d' mc ms [x1, x2, x3, x4, x5, x6] es (pR P)) (hC : zC own idx y bytes maxL ret 6) (hst : Cond.static y ∈ zzW) (hR : d' + 1 ≤ R.frames ∧ 40 * d' + 40 ≤ R.locals) (d : decode cc pc = .ok (.invokestatic idx, 3)) (hrm : (st.map fun v => v.category).sum ≤ 8) (hc : k + mc ≤ R.cells) (hs : n + ms ≤ R.slots) (kk : ∀ v es', P v es' → Zj p l e R s m args below meth c Q G B nL (k + mc) (n + ms) (pc + 3) ls (v :: st) es') : Zj p l e R s m args below meth c Q G B nL k n (pc) ls (x6 :: x5 :: x4 :: x3 :: x2 :: x1 :: st) es :=
  z_callS (As := [x1, x2, x3, x4, x5, x6]) E hM hC hst hR d rfl hrm hc hs (fun r es' h => by obtain ⟨v, rfl, hp⟩ := h; exact kk v es' hp)
theorem z_cV6R (E : En p s m args meth c G B nL cc own mn rt) {x1 x2 x3 x4 x5 x6 : Value} {P : Value → zE → Prop} {i ci : Nat} {C : String} {T : u_T} {N : Nat} {fs : List Value} (hM : Tr l G B y bytes maxL ret d' mc ms [.ref (B + i), x1, x2, x3, x4, x5, x6] es (pR P)) (hC : zC own idx y bytes maxL ret 6) (hin : Cond.instanceMethod y ∈ zzW ∧ Cond.selects C y y ∈ zzW) (hci : vwCl[ci]? = some (C, T, N)) (he : es[i]? = some (.inr (ci, fs))) (hR : d' + 1 ≤ R.frames ∧ 40 * d' + 40 ≤ R.locals) (d : decode cc pc = .ok (.invokevirtual idx, 3)) (hrm : (st.map fun v => v.category).sum ≤ 8) (hc : k + mc ≤ R.cells) (hs : n + ms ≤ R.slots) (kk : ∀ v es', P v es' → Zj p l e R s m args below meth c Q G B nL (k + mc) (n + ms) (pc + 3) ls (v :: st) es') : Zj p l e R s m args below meth c Q G B nL k n (pc) ls (x6 :: x5 :: x4 :: x3 :: x2 :: x1 :: .ref (B + i) :: st) es :=
  z_callV (As := [x1, x2, x3, x4, x5, x6]) E hM hC hin hci he hR d rfl hrm hc hs (fun r es' h => by obtain ⟨v, rfl, hp⟩ := h; exact kk v es' hp)
theorem z_cS6V (E : En p s m args meth c G B nL cc own mn rt) {x1 x2 x3 x4 x5 x6 : Value} {P : zE → Prop} (hM : Tr l G B y bytes maxL ret d' mc ms [x1, x2, x3, x4, x5, x6] es (pV P)) (hC : zC own idx y bytes maxL ret 6) (hst : Cond.static y ∈ zzW) (hR : d' + 1 ≤ R.frames ∧ 40 * d' + 40 ≤ R.locals) (d : decode cc pc = .ok (.invokestatic idx, 3)) (hrm : (st.map fun v => v.category).sum ≤ 8) (hc : k + mc ≤ R.cells) (hs : n + ms ≤ R.slots) (kk : ∀ es', P es' → Zj p l e R s m args below meth c Q G B nL (k + mc) (n + ms) (pc + 3) ls (st) es') : Zj p l e R s m args below meth c Q G B nL k n (pc) ls (x6 :: x5 :: x4 :: x3 :: x2 :: x1 :: st) es :=
  z_callS (As := [x1, x2, x3, x4, x5, x6]) E hM hC hst hR d rfl hrm hc hs (fun r es' h => by obtain ⟨rfl, hp⟩ := h; exact kk es' hp)
theorem z_cV6V (E : En p s m args meth c G B nL cc own mn rt) {x1 x2 x3 x4 x5 x6 : Value} {P : zE → Prop} {i ci : Nat} {C : String} {T : u_T} {N : Nat} {fs : List Value} (hM : Tr l G B y bytes maxL ret d' mc ms [.ref (B + i), x1, x2, x3, x4, x5, x6] es (pV P)) (hC : zC own idx y bytes maxL ret 6) (hin : Cond.instanceMethod y ∈ zzW ∧ Cond.selects C y y ∈ zzW) (hci : vwCl[ci]? = some (C, T, N)) (he : es[i]? = some (.inr (ci, fs))) (hR : d' + 1 ≤ R.frames ∧ 40 * d' + 40 ≤ R.locals) (d : decode cc pc = .ok (.invokevirtual idx, 3)) (hrm : (st.map fun v => v.category).sum ≤ 8) (hc : k + mc ≤ R.cells) (hs : n + ms ≤ R.slots) (kk : ∀ es', P es' → Zj p l e R s m args below meth c Q G B nL (k + mc) (n + ms) (pc + 3) ls (st) es') : Zj p l e R s m args below meth c Q G B nL k n (pc) ls (x6 :: x5 :: x4 :: x3 :: x2 :: x1 :: .ref (B + i) :: st) es :=
  z_callV (As := [x1, x2, x3, x4, x5, x6]) E hM hC hin hci he hR d rfl hrm hc hs (fun r es' h => by obtain ⟨rfl, hp⟩ := h; exact kk es' hp)
theorem z_cI6V (E : En p s m args meth c G B nL cc own mn rt) {x1 x2 x3 x4 x5 x6 : Value} {P : zE → Prop} {a : Nat} (hM : Tr l G B y bytes maxL none d' mc ms [.ref a, x1, x2, x3, x4, x5, x6] es (pV P)) (hC : zC own idx y bytes maxL none 6) (hin : y.name = "<init>" ∧ Cond.instanceMethod y ∈ zzW) (hR : d' + 1 ≤ R.frames ∧ 40 * d' + 40 ≤ R.locals) (d : decode cc pc = .ok (.invokespecial idx, 3)) (hrm : (st.map fun v => v.category).sum ≤ 8) (hc : k + mc ≤ R.cells) (hs : n + ms ≤ R.slots) (kk : ∀ es', P es' → Zj p l e R s m args below meth c Q G B nL (k + mc) (n + ms) (pc + 3) ls (st) es') : Zj p l e R s m args below meth c Q G B nL k n (pc) ls (x6 :: x5 :: x4 :: x3 :: x2 :: x1 :: .ref a :: st) es :=
  z_callI (As := [x1, x2, x3, x4, x5, x6]) E hM hC hin hR d rfl hrm hc hs (fun r es' h => by obtain ⟨rfl, hp⟩ := h; exact kk es' hp)
end ZC
end
