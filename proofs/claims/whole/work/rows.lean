section
-- ===== PART A: goes FIRST, ahead of the names: the tables' words, and 'selects' of the private methods out of them =====
/-- a private method of a class that the tables say can be made, by its rows of tables_1 -/
def lw_okq (q : MethodName × Nat) : Prop := (q.1.cls ≠ "java/lang/invoke/MethodHandle" ∧ q.1.cls ≠ "java/lang/invoke/VarHandle") ∧ Cond.instantiable q.1.cls q.2 ∈ tables_1 ∧ Cond.privateMethod q.1 ∈ tables_1 ∧ Cond.instanceMethod q.1 ∈ tables_1
theorem lw_p0 : lw_okq (⟨"StreamIds", "bufferOf", "(I)LStreamIds$Text;"⟩, 5) := ⟨⟨by decide +kernel, by decide +kernel⟩, List.mem_of_getElem? (i := 17) (by decide +kernel), List.mem_of_getElem? (i := 180) (by decide +kernel), List.mem_of_getElem? (i := 181) (by decide +kernel)⟩
theorem lw_p1 : lw_okq (⟨"StreamIds", "declarationOf", "(I)LStreamIds$Declaration;"⟩, 5) := ⟨⟨by decide +kernel, by decide +kernel⟩, List.mem_of_getElem? (i := 17) (by decide +kernel), List.mem_of_getElem? (i := 221) (by decide +kernel), List.mem_of_getElem? (i := 222) (by decide +kernel)⟩
theorem lw_p2 : lw_okq (⟨"StreamIds$Row", "placeOf", "(ILStreamIds$Text;LStreamIds$Text;)I"⟩, 2) := ⟨⟨by decide +kernel, by decide +kernel⟩, List.mem_of_getElem? (i := 85) (by decide +kernel), List.mem_of_getElem? (i := 229) (by decide +kernel), List.mem_of_getElem? (i := 230) (by decide +kernel)⟩
theorem lw_p3 : lw_okq (⟨"StreamIds$Row", "isAt", "(IILStreamIds$Text;LStreamIds$Text;)Z"⟩, 2) := ⟨⟨by decide +kernel, by decide +kernel⟩, List.mem_of_getElem? (i := 85) (by decide +kernel), List.mem_of_getElem? (i := 244) (by decide +kernel), List.mem_of_getElem? (i := 245) (by decide +kernel)⟩
theorem lw_p4 : lw_okq (⟨"StreamIds", "isNameFor", "(I)Z"⟩, 5) := ⟨⟨by decide +kernel, by decide +kernel⟩, List.mem_of_getElem? (i := 17) (by decide +kernel), List.mem_of_getElem? (i := 260) (by decide +kernel), List.mem_of_getElem? (i := 261) (by decide +kernel)⟩
theorem lw_p5 : lw_okq (⟨"StreamIds", "isShapeFor", "(I)Z"⟩, 5) := ⟨⟨by decide +kernel, by decide +kernel⟩, List.mem_of_getElem? (i := 17) (by decide +kernel), List.mem_of_getElem? (i := 264) (by decide +kernel), List.mem_of_getElem? (i := 265) (by decide +kernel)⟩
theorem lw_p6 : lw_okq (⟨"StreamIds$Layout", "putText", "(LStreamIds$Text;)V"⟩, 3) := ⟨⟨by decide +kernel, by decide +kernel⟩, List.mem_of_getElem? (i := 44) (by decide +kernel), List.mem_of_getElem? (i := 315) (by decide +kernel), List.mem_of_getElem? (i := 316) (by decide +kernel)⟩
theorem lw_p7 : lw_okq (⟨"StreamIds$Layout", "putLength", "(I)V"⟩, 3) := ⟨⟨by decide +kernel, by decide +kernel⟩, List.mem_of_getElem? (i := 44) (by decide +kernel), List.mem_of_getElem? (i := 319) (by decide +kernel), List.mem_of_getElem? (i := 320) (by decide +kernel)⟩
theorem lw_p8 : lw_okq (⟨"StreamIds$Layout", "put", "(I)V"⟩, 3) := ⟨⟨by decide +kernel, by decide +kernel⟩, List.mem_of_getElem? (i := 44) (by decide +kernel), List.mem_of_getElem? (i := 323) (by decide +kernel), List.mem_of_getElem? (i := 324) (by decide +kernel)⟩
theorem lw_p9 : lw_okq (⟨"StreamIds$Layout", "putNumber", "(I)V"⟩, 3) := ⟨⟨by decide +kernel, by decide +kernel⟩, List.mem_of_getElem? (i := 44) (by decide +kernel), List.mem_of_getElem? (i := 336) (by decide +kernel), List.mem_of_getElem? (i := 337) (by decide +kernel)⟩
theorem lw_p10 : lw_okq (⟨"StreamIds$Layout", "putAll", "(LStreamIds$Row;I)V"⟩, 3) := ⟨⟨by decide +kernel, by decide +kernel⟩, List.mem_of_getElem? (i := 44) (by decide +kernel), List.mem_of_getElem? (i := 340) (by decide +kernel), List.mem_of_getElem? (i := 341) (by decide +kernel)⟩
theorem lw_p11 : lw_okq (⟨"StreamIds$Layout", "putEntry", "(LStreamIds$Entry;)V"⟩, 3) := ⟨⟨by decide +kernel, by decide +kernel⟩, List.mem_of_getElem? (i := 44) (by decide +kernel), List.mem_of_getElem? (i := 352) (by decide +kernel), List.mem_of_getElem? (i := 353) (by decide +kernel)⟩
theorem lw_p12 : lw_okq (⟨"StreamIds$Layout", "putConstant", "(Ljava/lang/String;)V"⟩, 3) := ⟨⟨by decide +kernel, by decide +kernel⟩, List.mem_of_getElem? (i := 44) (by decide +kernel), List.mem_of_getElem? (i := 357) (by decide +kernel), List.mem_of_getElem? (i := 358) (by decide +kernel)⟩
theorem lw_p13 : lw_okq (⟨"StreamIds$Layout", "putDotted", "(LStreamIds$Text;)V"⟩, 3) := ⟨⟨by decide +kernel, by decide +kernel⟩, List.mem_of_getElem? (i := 44) (by decide +kernel), List.mem_of_getElem? (i := 411) (by decide +kernel), List.mem_of_getElem? (i := 412) (by decide +kernel)⟩
theorem lw_p14 : lw_okq (⟨"StreamIds$Digest", "fillWords", "(LStreamIds$Layout;II)V"⟩, 2) := ⟨⟨by decide +kernel, by decide +kernel⟩, List.mem_of_getElem? (i := 64) (by decide +kernel), List.mem_of_getElem? (i := 422) (by decide +kernel), List.mem_of_getElem? (i := 423) (by decide +kernel)⟩
theorem lw_p15 : lw_okq (⟨"StreamIds$Digest", "mixWords", "()V"⟩, 2) := ⟨⟨by decide +kernel, by decide +kernel⟩, List.mem_of_getElem? (i := 64) (by decide +kernel), List.mem_of_getElem? (i := 436) (by decide +kernel), List.mem_of_getElem? (i := 437) (by decide +kernel)⟩
def lw_privs_1 : List (MethodName × Nat) := [(⟨"StreamIds", "bufferOf", "(I)LStreamIds$Text;"⟩, 5), (⟨"StreamIds", "declarationOf", "(I)LStreamIds$Declaration;"⟩, 5), (⟨"StreamIds$Row", "placeOf", "(ILStreamIds$Text;LStreamIds$Text;)I"⟩, 2), (⟨"StreamIds$Row", "isAt", "(IILStreamIds$Text;LStreamIds$Text;)Z"⟩, 2), (⟨"StreamIds", "isNameFor", "(I)Z"⟩, 5), (⟨"StreamIds", "isShapeFor", "(I)Z"⟩, 5), (⟨"StreamIds$Layout", "putText", "(LStreamIds$Text;)V"⟩, 3), (⟨"StreamIds$Layout", "putLength", "(I)V"⟩, 3), (⟨"StreamIds$Layout", "put", "(I)V"⟩, 3), (⟨"StreamIds$Layout", "putNumber", "(I)V"⟩, 3), (⟨"StreamIds$Layout", "putAll", "(LStreamIds$Row;I)V"⟩, 3), (⟨"StreamIds$Layout", "putEntry", "(LStreamIds$Entry;)V"⟩, 3), (⟨"StreamIds$Layout", "putConstant", "(Ljava/lang/String;)V"⟩, 3), (⟨"StreamIds$Layout", "putDotted", "(LStreamIds$Text;)V"⟩, 3), (⟨"StreamIds$Digest", "fillWords", "(LStreamIds$Layout;II)V"⟩, 2), (⟨"StreamIds$Digest", "mixWords", "()V"⟩, 2)]
theorem lw_r1 : ∀ q ∈ lw_privs_1, lw_okq q := List.forall_mem_cons.mpr ⟨lw_p0, List.forall_mem_cons.mpr ⟨lw_p1, List.forall_mem_cons.mpr ⟨lw_p2, List.forall_mem_cons.mpr ⟨lw_p3, List.forall_mem_cons.mpr ⟨lw_p4, List.forall_mem_cons.mpr ⟨lw_p5, List.forall_mem_cons.mpr ⟨lw_p6, List.forall_mem_cons.mpr ⟨lw_p7, List.forall_mem_cons.mpr ⟨lw_p8, List.forall_mem_cons.mpr ⟨lw_p9, List.forall_mem_cons.mpr ⟨lw_p10, List.forall_mem_cons.mpr ⟨lw_p11, List.forall_mem_cons.mpr ⟨lw_p12, List.forall_mem_cons.mpr ⟨lw_p13, List.forall_mem_cons.mpr ⟨lw_p14, List.forall_mem_cons.mpr ⟨lw_p15, fun _ h => absurd h List.not_mem_nil⟩⟩⟩⟩⟩⟩⟩⟩⟩⟩⟩⟩⟩⟩⟩⟩
theorem lw_p16 : lw_okq (⟨"StreamIdsModel", "out", "(II)Z"⟩, 17) := ⟨⟨by decide +kernel, by decide +kernel⟩, List.mem_of_getElem? (i := 476) (by decide +kernel), List.mem_of_getElem? (i := 540) (by decide +kernel), List.mem_of_getElem? (i := 541) (by decide +kernel)⟩
theorem lw_p17 : lw_okq (⟨"StreamIdsModel", "copy", "(II)V"⟩, 17) := ⟨⟨by decide +kernel, by decide +kernel⟩, List.mem_of_getElem? (i := 476) (by decide +kernel), List.mem_of_getElem? (i := 553) (by decide +kernel), List.mem_of_getElem? (i := 554) (by decide +kernel)⟩
theorem lw_p18 : lw_okq (⟨"StreamIdsModel", "none", "(I)Z"⟩, 17) := ⟨⟨by decide +kernel, by decide +kernel⟩, List.mem_of_getElem? (i := 476) (by decide +kernel), List.mem_of_getElem? (i := 561) (by decide +kernel), List.mem_of_getElem? (i := 562) (by decide +kernel)⟩
theorem lw_p19 : lw_okq (⟨"StreamIdsModel", "compare", "(II)I"⟩, 17) := ⟨⟨by decide +kernel, by decide +kernel⟩, List.mem_of_getElem? (i := 476) (by decide +kernel), List.mem_of_getElem? (i := 565) (by decide +kernel), List.mem_of_getElem? (i := 566) (by decide +kernel)⟩
theorem lw_p20 : lw_okq (⟨"StreamIdsModel", "goodShape", "(I)Z"⟩, 17) := ⟨⟨by decide +kernel, by decide +kernel⟩, List.mem_of_getElem? (i := 476) (by decide +kernel), List.mem_of_getElem? (i := 573) (by decide +kernel), List.mem_of_getElem? (i := 574) (by decide +kernel)⟩
theorem lw_p21 : lw_okq (⟨"StreamIdsModel", "passType", "()Z"⟩, 17) := ⟨⟨by decide +kernel, by decide +kernel⟩, List.mem_of_getElem? (i := 476) (by decide +kernel), List.mem_of_getElem? (i := 577) (by decide +kernel), List.mem_of_getElem? (i := 578) (by decide +kernel)⟩
theorem lw_p22 : lw_okq (⟨"StreamIdsModel", "signAt", "(I)I"⟩, 17) := ⟨⟨by decide +kernel, by decide +kernel⟩, List.mem_of_getElem? (i := 476) (by decide +kernel), List.mem_of_getElem? (i := 581) (by decide +kernel), List.mem_of_getElem? (i := 582) (by decide +kernel)⟩
theorem lw_p23 : lw_okq (⟨"StreamIdsModel", "find", "(II)I"⟩, 17) := ⟨⟨by decide +kernel, by decide +kernel⟩, List.mem_of_getElem? (i := 476) (by decide +kernel), List.mem_of_getElem? (i := 585) (by decide +kernel), List.mem_of_getElem? (i := 586) (by decide +kernel)⟩
theorem lw_p24 : lw_okq (⟨"StreamIdsModel", "digest", "(I)V"⟩, 17) := ⟨⟨by decide +kernel, by decide +kernel⟩, List.mem_of_getElem? (i := 476) (by decide +kernel), List.mem_of_getElem? (i := 602) (by decide +kernel), List.mem_of_getElem? (i := 603) (by decide +kernel)⟩
theorem lw_p25 : lw_okq (⟨"StreamIdsModel", "build", "(I)V"⟩, 17) := ⟨⟨by decide +kernel, by decide +kernel⟩, List.mem_of_getElem? (i := 476) (by decide +kernel), List.mem_of_getElem? (i := 606) (by decide +kernel), List.mem_of_getElem? (i := 607) (by decide +kernel)⟩
theorem lw_p26 : lw_okq (⟨"StreamIdsModel", "utf", "(IZ)V"⟩, 17) := ⟨⟨by decide +kernel, by decide +kernel⟩, List.mem_of_getElem? (i := 476) (by decide +kernel), List.mem_of_getElem? (i := 610) (by decide +kernel), List.mem_of_getElem? (i := 611) (by decide +kernel)⟩
theorem lw_p27 : lw_okq (⟨"StreamIdsModel", "put", "(I)V"⟩, 17) := ⟨⟨by decide +kernel, by decide +kernel⟩, List.mem_of_getElem? (i := 476) (by decide +kernel), List.mem_of_getElem? (i := 614) (by decide +kernel), List.mem_of_getElem? (i := 615) (by decide +kernel)⟩
theorem lw_p28 : lw_okq (⟨"StreamIdsModel", "counted", "(II)I"⟩, 17) := ⟨⟨by decide +kernel, by decide +kernel⟩, List.mem_of_getElem? (i := 476) (by decide +kernel), List.mem_of_getElem? (i := 618) (by decide +kernel), List.mem_of_getElem? (i := 619) (by decide +kernel)⟩
theorem lw_p29 : lw_okq (⟨"StreamIdsModel", "number", "(I)V"⟩, 17) := ⟨⟨by decide +kernel, by decide +kernel⟩, List.mem_of_getElem? (i := 476) (by decide +kernel), List.mem_of_getElem? (i := 622) (by decide +kernel), List.mem_of_getElem? (i := 623) (by decide +kernel)⟩
theorem lw_p30 : lw_okq (⟨"StreamIdsModel", "nextFace", "(II)I"⟩, 17) := ⟨⟨by decide +kernel, by decide +kernel⟩, List.mem_of_getElem? (i := 476) (by decide +kernel), List.mem_of_getElem? (i := 626) (by decide +kernel), List.mem_of_getElem? (i := 627) (by decide +kernel)⟩
theorem lw_p31 : lw_okq (⟨"StreamIdsModel", "writeMembers", "(II)V"⟩, 17) := ⟨⟨by decide +kernel, by decide +kernel⟩, List.mem_of_getElem? (i := 476) (by decide +kernel), List.mem_of_getElem? (i := 630) (by decide +kernel), List.mem_of_getElem? (i := 631) (by decide +kernel)⟩
def lw_privs_2 : List (MethodName × Nat) := [(⟨"StreamIdsModel", "out", "(II)Z"⟩, 17), (⟨"StreamIdsModel", "copy", "(II)V"⟩, 17), (⟨"StreamIdsModel", "none", "(I)Z"⟩, 17), (⟨"StreamIdsModel", "compare", "(II)I"⟩, 17), (⟨"StreamIdsModel", "goodShape", "(I)Z"⟩, 17), (⟨"StreamIdsModel", "passType", "()Z"⟩, 17), (⟨"StreamIdsModel", "signAt", "(I)I"⟩, 17), (⟨"StreamIdsModel", "find", "(II)I"⟩, 17), (⟨"StreamIdsModel", "digest", "(I)V"⟩, 17), (⟨"StreamIdsModel", "build", "(I)V"⟩, 17), (⟨"StreamIdsModel", "utf", "(IZ)V"⟩, 17), (⟨"StreamIdsModel", "put", "(I)V"⟩, 17), (⟨"StreamIdsModel", "counted", "(II)I"⟩, 17), (⟨"StreamIdsModel", "number", "(I)V"⟩, 17), (⟨"StreamIdsModel", "nextFace", "(II)I"⟩, 17), (⟨"StreamIdsModel", "writeMembers", "(II)V"⟩, 17)]
theorem lw_r2 : ∀ q ∈ lw_privs_2, lw_okq q := List.forall_mem_cons.mpr ⟨lw_p16, List.forall_mem_cons.mpr ⟨lw_p17, List.forall_mem_cons.mpr ⟨lw_p18, List.forall_mem_cons.mpr ⟨lw_p19, List.forall_mem_cons.mpr ⟨lw_p20, List.forall_mem_cons.mpr ⟨lw_p21, List.forall_mem_cons.mpr ⟨lw_p22, List.forall_mem_cons.mpr ⟨lw_p23, List.forall_mem_cons.mpr ⟨lw_p24, List.forall_mem_cons.mpr ⟨lw_p25, List.forall_mem_cons.mpr ⟨lw_p26, List.forall_mem_cons.mpr ⟨lw_p27, List.forall_mem_cons.mpr ⟨lw_p28, List.forall_mem_cons.mpr ⟨lw_p29, List.forall_mem_cons.mpr ⟨lw_p30, List.forall_mem_cons.mpr ⟨lw_p31, fun _ h => absurd h List.not_mem_nil⟩⟩⟩⟩⟩⟩⟩⟩⟩⟩⟩⟩⟩⟩⟩⟩
theorem lw_p32 : lw_okq (⟨"StreamIdsModel", "following", "(III)I"⟩, 17) := ⟨⟨by decide +kernel, by decide +kernel⟩, List.mem_of_getElem? (i := 476) (by decide +kernel), List.mem_of_getElem? (i := 634) (by decide +kernel), List.mem_of_getElem? (i := 635) (by decide +kernel)⟩
theorem lw_p33 : lw_okq (⟨"StreamIdsModel", "orderOf", "(III)I"⟩, 17) := ⟨⟨by decide +kernel, by decide +kernel⟩, List.mem_of_getElem? (i := 476) (by decide +kernel), List.mem_of_getElem? (i := 638) (by decide +kernel), List.mem_of_getElem? (i := 639) (by decide +kernel)⟩
theorem lw_p34 : lw_okq (⟨"StreamIdsModel", "initName", "(Z)V"⟩, 17) := ⟨⟨by decide +kernel, by decide +kernel⟩, List.mem_of_getElem? (i := 476) (by decide +kernel), List.mem_of_getElem? (i := 642) (by decide +kernel), List.mem_of_getElem? (i := 643) (by decide +kernel)⟩
theorem lw_p35 : lw_okq (⟨"StreamIdsModel", "block", "(I)V"⟩, 17) := ⟨⟨by decide +kernel, by decide +kernel⟩, List.mem_of_getElem? (i := 476) (by decide +kernel), List.mem_of_getElem? (i := 651) (by decide +kernel), List.mem_of_getElem? (i := 652) (by decide +kernel)⟩
theorem lw_p36 : lw_okq (⟨"StreamIdsModel", "turned", "(II)I"⟩, 17) := ⟨⟨by decide +kernel, by decide +kernel⟩, List.mem_of_getElem? (i := 476) (by decide +kernel), List.mem_of_getElem? (i := 655) (by decide +kernel), List.mem_of_getElem? (i := 656) (by decide +kernel)⟩
theorem lw_p37 : lw_okq (⟨"StreamIdsModel", "mixed", "(IIII)I"⟩, 17) := ⟨⟨by decide +kernel, by decide +kernel⟩, List.mem_of_getElem? (i := 476) (by decide +kernel), List.mem_of_getElem? (i := 659) (by decide +kernel), List.mem_of_getElem? (i := 660) (by decide +kernel)⟩
theorem lw_p38 : lw_okq (⟨"StreamIdsModel", "constant", "(I)I"⟩, 17) := ⟨⟨by decide +kernel, by decide +kernel⟩, List.mem_of_getElem? (i := 476) (by decide +kernel), List.mem_of_getElem? (i := 663) (by decide +kernel), List.mem_of_getElem? (i := 664) (by decide +kernel)⟩
def lw_privs_3 : List (MethodName × Nat) := [(⟨"StreamIdsModel", "following", "(III)I"⟩, 17), (⟨"StreamIdsModel", "orderOf", "(III)I"⟩, 17), (⟨"StreamIdsModel", "initName", "(Z)V"⟩, 17), (⟨"StreamIdsModel", "block", "(I)V"⟩, 17), (⟨"StreamIdsModel", "turned", "(II)I"⟩, 17), (⟨"StreamIdsModel", "mixed", "(IIII)I"⟩, 17), (⟨"StreamIdsModel", "constant", "(I)I"⟩, 17)]
theorem lw_r3 : ∀ q ∈ lw_privs_3, lw_okq q := List.forall_mem_cons.mpr ⟨lw_p32, List.forall_mem_cons.mpr ⟨lw_p33, List.forall_mem_cons.mpr ⟨lw_p34, List.forall_mem_cons.mpr ⟨lw_p35, List.forall_mem_cons.mpr ⟨lw_p36, List.forall_mem_cons.mpr ⟨lw_p37, List.forall_mem_cons.mpr ⟨lw_p38, fun _ h => absurd h List.not_mem_nil⟩⟩⟩⟩⟩⟩⟩
def lw_privs : List (MethodName × Nat) := lw_privs_1 ++ (lw_privs_2 ++ (lw_privs_3))
def lw_tbl : List Cond := k2_sels lw_privs ++ tables_1
theorem lw_privs_ok : ∀ q ∈ lw_privs, lw_okq q := by
  show ∀ q ∈ lw_privs_1 ++ (lw_privs_2 ++ (lw_privs_3)), lw_okq q
  exact List.forall_mem_append.mpr ⟨lw_r1, List.forall_mem_append.mpr ⟨lw_r2, lw_r3⟩⟩
end
section
def zzok (w : Cond) : Bool := (w.onTables && w.keeps) || (match w with | .arrayClass _ => true | _ => false)
def zzW : List Cond := lw_tbl.filter zzok
theorem zzW_good : ∀ w ∈ zzW, (w.onTables && w.keeps) = true ∨ ∃ ty, w = .arrayClass ty := by
  intro w hw
  have h := (List.mem_filter.mp hw).2
  unfold zzok at h
  rcases Bool.or_eq_true_iff.mp h with h | h
  · exact Or.inl h
  · right
    cases w <;> first | exact ⟨_, rfl⟩ | (simp at h; done)
theorem zzW_tbl : ∀ w ∈ zzW, w ∈ lw_tbl := fun _ hw => (List.mem_filter.mp hw).1
theorem jw_of {w : Cond} {i : Nat} (h : tables_1[i]? = some w) (hk : zzok w = true) : w ∈ zzW := List.mem_filter.mpr ⟨List.mem_append_right _ (List.mem_of_getElem? h), hk⟩
theorem jw_sel {w : Cond} {i : Nat} (h : (k2_sels lw_privs)[i]? = some w) (hk : zzok w = true) : w ∈ zzW := List.mem_filter.mpr ⟨List.mem_append_left _ (List.mem_of_getElem? h), hk⟩
abbrev jy_S_init : MethodName := ⟨"StreamIds", "<init>", "()V"⟩
abbrev jb_S_init : ByteArray := prog_1_method_1_code
abbrev jy_O_init : MethodName := ⟨"java/lang/Object", "<init>", "()V"⟩
abbrev jb_O_init : ByteArray := object_method_1_code
abbrev jy_T_init : MethodName := ⟨"StreamIds$Text", "<init>", "()V"⟩
abbrev jb_T_init : ByteArray := prog_8_method_1_code
abbrev jy_L_init : MethodName := ⟨"StreamIds$Layout", "<init>", "()V"⟩
abbrev jb_L_init : ByteArray := prog_5_method_1_code
abbrev jy_G_init : MethodName := ⟨"StreamIds$Digest", "<init>", "()V"⟩
abbrev jb_G_init : ByteArray := prog_3_method_1_code
abbrev jy_D_init : MethodName := ⟨"StreamIds$Declaration", "<init>", "()V"⟩
abbrev jb_D_init : ByteArray := prog_2_method_1_code
abbrev jy_R_init : MethodName := ⟨"StreamIds$Row", "<init>", "(I)V"⟩
abbrev jb_R_init : ByteArray := prog_6_method_1_code
abbrev jy_E_init : MethodName := ⟨"StreamIds$Entry", "<init>", "()V"⟩
abbrev jb_E_init : ByteArray := prog_4_method_1_code
abbrev jy_S_type : MethodName := ⟨"StreamIds", "type", "(IJ)I"⟩
abbrev jb_S_type : ByteArray := prog_1_method_2_code
abbrev jy_S_bufferOf : MethodName := ⟨"StreamIds", "bufferOf", "(I)LStreamIds$Text;"⟩
abbrev jb_S_bufferOf : ByteArray := prog_1_method_15_code
abbrev jy_S_areSigns : MethodName := ⟨"StreamIds", "areSigns", "(J)Z"⟩
abbrev jb_S_areSigns : ByteArray := prog_1_method_21_code
abbrev jy_S_byteOf : MethodName := ⟨"StreamIds", "byteOf", "(JI)I"⟩
abbrev jb_S_byteOf : ByteArray := prog_1_method_20_code
abbrev jy_S_signsIn : MethodName := ⟨"StreamIds", "signsIn", "(J)I"⟩
abbrev jb_S_signsIn : ByteArray := prog_1_method_22_code
abbrev jy_T_append : MethodName := ⟨"StreamIds$Text", "append", "(I)V"⟩
abbrev jb_T_append : ByteArray := prog_8_method_3_code
abbrev jy_S_clear : MethodName := ⟨"StreamIds", "clear", "(I)I"⟩
abbrev jb_S_clear : ByteArray := prog_1_method_3_code
abbrev jy_S_define : MethodName := ⟨"StreamIds", "define", "(II)I"⟩
abbrev jb_S_define : ByteArray := prog_1_method_4_code
abbrev jy_D_begin : MethodName := ⟨"StreamIds$Declaration", "begin", "(LStreamIds$Text;I)V"⟩
abbrev jb_D_begin : ByteArray := prog_2_method_2_code
abbrev jy_T_become : MethodName := ⟨"StreamIds$Text", "become", "(LStreamIds$Text;)V"⟩
abbrev jb_T_become : ByteArray := prog_8_method_4_code
abbrev jy_S_face : MethodName := ⟨"StreamIds", "face", "(I)I"⟩
abbrev jb_S_face : ByteArray := prog_1_method_5_code
abbrev jy_S_declarationOf : MethodName := ⟨"StreamIds", "declarationOf", "(I)LStreamIds$Declaration;"⟩
abbrev jb_S_declarationOf : ByteArray := prog_1_method_16_code
abbrev jy_R_enter : MethodName := ⟨"StreamIds$Row", "enter", "(IILStreamIds$Text;LStreamIds$Text;)I"⟩
abbrev jb_R_enter : ByteArray := prog_6_method_2_code
abbrev jy_R_placeOf : MethodName := ⟨"StreamIds$Row", "placeOf", "(ILStreamIds$Text;LStreamIds$Text;)I"⟩
abbrev jb_R_placeOf : ByteArray := prog_6_method_5_code
abbrev jy_E_compareWith : MethodName := ⟨"StreamIds$Entry", "compareWith", "(ILStreamIds$Text;LStreamIds$Text;)I"⟩
abbrev jb_E_compareWith : ByteArray := prog_4_method_3_code
abbrev jy_T_compareWith : MethodName := ⟨"StreamIds$Text", "compareWith", "(LStreamIds$Text;)I"⟩
abbrev jb_T_compareWith : ByteArray := prog_8_method_5_code
abbrev jy_A_min : MethodName := ⟨"java/lang/Math", "min", "(II)I"⟩
abbrev jb_A_min : ByteArray := prog_11_method_69_code
abbrev jy_R_isAt : MethodName := ⟨"StreamIds$Row", "isAt", "(IILStreamIds$Text;LStreamIds$Text;)Z"⟩
abbrev jb_R_isAt : ByteArray := prog_6_method_6_code
abbrev jy_E_become : MethodName := ⟨"StreamIds$Entry", "become", "(IILStreamIds$Text;LStreamIds$Text;)V"⟩
abbrev jb_E_become : ByteArray := prog_4_method_2_code
abbrev jy_S_member : MethodName := ⟨"StreamIds", "member", "(III)I"⟩
abbrev jb_S_member : ByteArray := prog_1_method_6_code
abbrev jy_S_isMemberKind : MethodName := ⟨"StreamIds", "isMemberKind", "(I)Z"⟩
abbrev jb_S_isMemberKind : ByteArray := prog_1_method_17_code
abbrev jy_S_isNameFor : MethodName := ⟨"StreamIds", "isNameFor", "(I)Z"⟩
abbrev jb_S_isNameFor : ByteArray := prog_1_method_18_code
abbrev jy_S_isShapeFor : MethodName := ⟨"StreamIds", "isShapeFor", "(I)Z"⟩
abbrev jb_S_isShapeFor : ByteArray := prog_1_method_19_code
abbrev jy_H_isType : MethodName := ⟨"StreamIds$Shapes", "isType", "(LStreamIds$Text;)Z"⟩
abbrev jb_H_isType : ByteArray := prog_7_method_2_code
abbrev jy_H_endOfType : MethodName := ⟨"StreamIds$Shapes", "endOfType", "(LStreamIds$Text;I)I"⟩
abbrev jb_H_endOfType : ByteArray := prog_7_method_5_code
abbrev jy_T_at : MethodName := ⟨"StreamIds$Text", "at", "(I)I"⟩
abbrev jb_T_at : ByteArray := prog_8_method_2_code
abbrev jy_H_endOfName : MethodName := ⟨"StreamIds$Shapes", "endOfName", "(LStreamIds$Text;I)I"⟩
abbrev jb_H_endOfName : ByteArray := prog_7_method_6_code
abbrev jy_H_mayStandInName : MethodName := ⟨"StreamIds$Shapes", "mayStandInName", "(I)Z"⟩
abbrev jb_H_mayStandInName : ByteArray := prog_7_method_8_code
abbrev jy_H_isSimple : MethodName := ⟨"StreamIds$Shapes", "isSimple", "(I)Z"⟩
abbrev jb_H_isSimple : ByteArray := prog_7_method_7_code
abbrev jy_H_isMethod : MethodName := ⟨"StreamIds$Shapes", "isMethod", "(LStreamIds$Text;)Z"⟩
abbrev jb_H_isMethod : ByteArray := prog_7_method_3_code
abbrev jy_H_endOfTypes : MethodName := ⟨"StreamIds$Shapes", "endOfTypes", "(LStreamIds$Text;I)I"⟩
abbrev jb_H_endOfTypes : ByteArray := prog_7_method_4_code
abbrev jy_S_remove : MethodName := ⟨"StreamIds", "remove", "(II)I"⟩
abbrev jb_S_remove : ByteArray := prog_1_method_7_code
abbrev jy_R_takeOut : MethodName := ⟨"StreamIds$Row", "takeOut", "(ILStreamIds$Text;LStreamIds$Text;)I"⟩
abbrev jb_R_takeOut : ByteArray := prog_6_method_3_code
abbrev jy_S_declare : MethodName := ⟨"StreamIds", "declare", "(IZJ)I"⟩
abbrev jb_S_declare : ByteArray := prog_1_method_8_code
abbrev jy_S_id : MethodName := ⟨"StreamIds", "id", "(I)J"⟩
abbrev jb_S_id : ByteArray := prog_1_method_9_code
abbrev jy_L_write : MethodName := ⟨"StreamIds$Layout", "write", "(LStreamIds$Declaration;)V"⟩
abbrev jb_L_write : ByteArray := prog_5_method_2_code
abbrev jy_L_putText : MethodName := ⟨"StreamIds$Layout", "putText", "(LStreamIds$Text;)V"⟩
abbrev jb_L_putText : ByteArray := prog_5_method_6_code
abbrev jy_L_putLength : MethodName := ⟨"StreamIds$Layout", "putLength", "(I)V"⟩
abbrev jb_L_putLength : ByteArray := prog_5_method_9_code
abbrev jy_L_put : MethodName := ⟨"StreamIds$Layout", "put", "(I)V"⟩
abbrev jb_L_put : ByteArray := prog_5_method_11_code
abbrev jy_D_hashedModifiers : MethodName := ⟨"StreamIds$Declaration", "hashedModifiers", "()I"⟩
abbrev jb_D_hashedModifiers : ByteArray := prog_2_method_3_code
abbrev jy_R_tally : MethodName := ⟨"StreamIds$Row", "tally", "(I)I"⟩
abbrev jb_R_tally : ByteArray := prog_6_method_4_code
abbrev jy_L_putNumber : MethodName := ⟨"StreamIds$Layout", "putNumber", "(I)V"⟩
abbrev jb_L_putNumber : ByteArray := prog_5_method_10_code
abbrev jy_L_putAll : MethodName := ⟨"StreamIds$Layout", "putAll", "(LStreamIds$Row;I)V"⟩
abbrev jb_L_putAll : ByteArray := prog_5_method_4_code
abbrev jy_E_isHashed : MethodName := ⟨"StreamIds$Entry", "isHashed", "()Z"⟩
abbrev jb_E_isHashed : ByteArray := prog_4_method_5_code
abbrev jy_E_has : MethodName := ⟨"StreamIds$Entry", "has", "(I)Z"⟩
abbrev jb_E_has : ByteArray := prog_4_method_4_code
abbrev jy_L_putEntry : MethodName := ⟨"StreamIds$Layout", "putEntry", "(LStreamIds$Entry;)V"⟩
abbrev jb_L_putEntry : ByteArray := prog_5_method_5_code
abbrev jy_L_putConstant : MethodName := ⟨"StreamIds$Layout", "putConstant", "(Ljava/lang/String;)V"⟩
abbrev jb_L_putConstant : ByteArray := prog_5_method_8_code
abbrev jy_JS_length : MethodName := ⟨"java/lang/String", "length", "()I"⟩
abbrev jb_JS_length : ByteArray := prog_12_method_54_code
abbrev jy_JS_coder : MethodName := ⟨"java/lang/String", "coder", "()B"⟩
abbrev jb_JS_coder : ByteArray := prog_12_method_152_code
abbrev jy_JS_charAt : MethodName := ⟨"java/lang/String", "charAt", "(I)C"⟩
abbrev jb_JS_charAt : ByteArray := prog_12_method_56_code
abbrev jy_JS_isLatin1 : MethodName := ⟨"java/lang/String", "isLatin1", "()Z"⟩
abbrev jb_JS_isLatin1 : ByteArray := prog_12_method_154_code
abbrev jy_JL_charAt : MethodName := ⟨"java/lang/StringLatin1", "charAt", "([BI)C"⟩
abbrev jb_JL_charAt : ByteArray := prog_13_method_2_code
abbrev jy_JS_checkIndex : MethodName := ⟨"java/lang/String", "checkIndex", "(II)V"⟩
abbrev jb_JS_checkIndex : ByteArray := prog_12_method_155_code
abbrev jy_JP_checkIndex : MethodName := ⟨"jdk/internal/util/Preconditions", "checkIndex", "(IILjava/util/function/BiFunction;)I"⟩
abbrev jb_JP_checkIndex : ByteArray := prog_16_method_11_code
abbrev jy_JU_charAt : MethodName := ⟨"java/lang/StringUTF16", "charAt", "([BI)C"⟩
abbrev jb_JU_charAt : ByteArray := prog_14_method_83_code
abbrev jy_JU_checkIndex : MethodName := ⟨"java/lang/StringUTF16", "checkIndex", "(I[B)V"⟩
abbrev jb_JU_checkIndex : ByteArray := prog_14_method_91_code
abbrev jy_JU_length : MethodName := ⟨"java/lang/StringUTF16", "length", "([B)I"⟩
abbrev jb_JU_length : ByteArray := prog_14_method_6_code
abbrev jy_JU_getChar : MethodName := ⟨"java/lang/StringUTF16", "getChar", "([BI)C"⟩
abbrev jb_JU_getChar : ByteArray := prog_14_method_5_code
abbrev jy_L_putDotted : MethodName := ⟨"StreamIds$Layout", "putDotted", "(LStreamIds$Text;)V"⟩
abbrev jb_L_putDotted : ByteArray := prog_5_method_7_code
abbrev jy_G_take : MethodName := ⟨"StreamIds$Digest", "take", "(LStreamIds$Layout;)V"⟩
abbrev jb_G_take : ByteArray := prog_3_method_2_code
abbrev jy_G_fillWords : MethodName := ⟨"StreamIds$Digest", "fillWords", "(LStreamIds$Layout;II)V"⟩
abbrev jb_G_fillWords : ByteArray := prog_3_method_4_code
abbrev jy_G_paddedAt : MethodName := ⟨"StreamIds$Digest", "paddedAt", "(LStreamIds$Layout;II)I"⟩
abbrev jb_G_paddedAt : ByteArray := prog_3_method_5_code
abbrev jy_L_at : MethodName := ⟨"StreamIds$Layout", "at", "(I)I"⟩
abbrev jb_L_at : ByteArray := prog_5_method_3_code
abbrev jy_G_turned : MethodName := ⟨"StreamIds$Digest", "turned", "(II)I"⟩
abbrev jb_G_turned : ByteArray := prog_3_method_8_code
abbrev jy_G_mixWords : MethodName := ⟨"StreamIds$Digest", "mixWords", "()V"⟩
abbrev jb_G_mixWords : ByteArray := prog_3_method_6_code
abbrev jy_G_chosen : MethodName := ⟨"StreamIds$Digest", "chosen", "(IIII)I"⟩
abbrev jb_G_chosen : ByteArray := prog_3_method_7_code
abbrev jy_G_firstEightReversed : MethodName := ⟨"StreamIds$Digest", "firstEightReversed", "()J"⟩
abbrev jb_G_firstEightReversed : ByteArray := prog_3_method_3_code
abbrev jy_G_reversed : MethodName := ⟨"StreamIds$Digest", "reversed", "(I)I"⟩
abbrev jb_G_reversed : ByteArray := prog_3_method_9_code
abbrev jy_S_hash : MethodName := ⟨"StreamIds", "hash", "(II)J"⟩
abbrev jb_S_hash : ByteArray := prog_1_method_10_code
abbrev jy_S_size : MethodName := ⟨"StreamIds", "size", "(I)I"⟩
abbrev jb_S_size : ByteArray := prog_1_method_11_code
abbrev jy_S_byteAt : MethodName := ⟨"StreamIds", "byteAt", "(II)I"⟩
abbrev jb_S_byteAt : ByteArray := prog_1_method_12_code
abbrev jy_S_part : MethodName := ⟨"StreamIds", "part", "(II)I"⟩
abbrev jb_S_part : ByteArray := prog_1_method_13_code
abbrev jy_S_count : MethodName := ⟨"StreamIds", "count", "(II)I"⟩
abbrev jb_S_count : ByteArray := prog_1_method_14_code
abbrev jy_M_init : MethodName := ⟨"StreamIdsModel", "<init>", "()V"⟩
abbrev jb_M_init : ByteArray := prog_10_method_1_code
abbrev jy_M_type : MethodName := ⟨"StreamIdsModel", "type", "(IJ)I"⟩
abbrev jb_M_type : ByteArray := prog_10_method_4_code
abbrev jy_M_out : MethodName := ⟨"StreamIdsModel", "out", "(II)Z"⟩
abbrev jb_M_out : ByteArray := prog_10_method_2_code
abbrev jy_M_clear : MethodName := ⟨"StreamIdsModel", "clear", "(I)I"⟩
abbrev jb_M_clear : ByteArray := prog_10_method_5_code
abbrev jy_M_define : MethodName := ⟨"StreamIdsModel", "define", "(II)I"⟩
abbrev jb_M_define : ByteArray := prog_10_method_11_code
abbrev jy_M_copy : MethodName := ⟨"StreamIdsModel", "copy", "(II)V"⟩
abbrev jb_M_copy : ByteArray := prog_10_method_6_code
abbrev jy_M_face : MethodName := ⟨"StreamIdsModel", "face", "(I)I"⟩
abbrev jb_M_face : ByteArray := prog_10_method_12_code
abbrev jy_M_none : MethodName := ⟨"StreamIdsModel", "none", "(I)Z"⟩
abbrev jb_M_none : ByteArray := prog_10_method_3_code
abbrev jy_M_compare : MethodName := ⟨"StreamIdsModel", "compare", "(II)I"⟩
abbrev jb_M_compare : ByteArray := prog_10_method_7_code
abbrev jy_M_member : MethodName := ⟨"StreamIdsModel", "member", "(III)I"⟩
abbrev jb_M_member : ByteArray := prog_10_method_14_code
abbrev jy_M_goodShape : MethodName := ⟨"StreamIdsModel", "goodShape", "(I)Z"⟩
abbrev jb_M_goodShape : ByteArray := prog_10_method_10_code
abbrev jy_M_passType : MethodName := ⟨"StreamIdsModel", "passType", "()Z"⟩
abbrev jb_M_passType : ByteArray := prog_10_method_9_code
abbrev jy_M_signAt : MethodName := ⟨"StreamIdsModel", "signAt", "(I)I"⟩
abbrev jb_M_signAt : ByteArray := prog_10_method_8_code
abbrev jy_M_find : MethodName := ⟨"StreamIdsModel", "find", "(II)I"⟩
abbrev jb_M_find : ByteArray := prog_10_method_13_code
abbrev jy_M_remove : MethodName := ⟨"StreamIdsModel", "remove", "(II)I"⟩
abbrev jb_M_remove : ByteArray := prog_10_method_15_code
abbrev jy_M_declare : MethodName := ⟨"StreamIdsModel", "declare", "(IZJ)I"⟩
abbrev jb_M_declare : ByteArray := prog_10_method_16_code
abbrev jy_M_id : MethodName := ⟨"StreamIdsModel", "id", "(I)J"⟩
abbrev jb_M_id : ByteArray := prog_10_method_32_code
abbrev jy_M_digest : MethodName := ⟨"StreamIdsModel", "digest", "(I)V"⟩
abbrev jb_M_digest : ByteArray := prog_10_method_31_code
abbrev jy_M_build : MethodName := ⟨"StreamIdsModel", "build", "(I)V"⟩
abbrev jb_M_build : ByteArray := prog_10_method_26_code
abbrev jy_M_utf : MethodName := ⟨"StreamIdsModel", "utf", "(IZ)V"⟩
abbrev jb_M_utf : ByteArray := prog_10_method_19_code
abbrev jy_M_put : MethodName := ⟨"StreamIdsModel", "put", "(I)V"⟩
abbrev jb_M_put : ByteArray := prog_10_method_17_code
abbrev jy_M_counted : MethodName := ⟨"StreamIdsModel", "counted", "(II)I"⟩
abbrev jb_M_counted : ByteArray := prog_10_method_24_code
abbrev jy_M_number : MethodName := ⟨"StreamIdsModel", "number", "(I)V"⟩
abbrev jb_M_number : ByteArray := prog_10_method_18_code
abbrev jy_M_nextFace : MethodName := ⟨"StreamIdsModel", "nextFace", "(II)I"⟩
abbrev jb_M_nextFace : ByteArray := prog_10_method_23_code
abbrev jy_M_writeMembers : MethodName := ⟨"StreamIdsModel", "writeMembers", "(II)V"⟩
abbrev jb_M_writeMembers : ByteArray := prog_10_method_25_code
abbrev jy_M_following : MethodName := ⟨"StreamIdsModel", "following", "(III)I"⟩
abbrev jb_M_following : ByteArray := prog_10_method_22_code
abbrev jy_M_orderOf : MethodName := ⟨"StreamIdsModel", "orderOf", "(III)I"⟩
abbrev jb_M_orderOf : ByteArray := prog_10_method_21_code
abbrev jy_M_initName : MethodName := ⟨"StreamIdsModel", "initName", "(Z)V"⟩
abbrev jb_M_initName : ByteArray := prog_10_method_20_code
abbrev jy_M_block : MethodName := ⟨"StreamIdsModel", "block", "(I)V"⟩
abbrev jb_M_block : ByteArray := prog_10_method_30_code
abbrev jy_M_turned : MethodName := ⟨"StreamIdsModel", "turned", "(II)I"⟩
abbrev jb_M_turned : ByteArray := prog_10_method_27_code
abbrev jy_M_mixed : MethodName := ⟨"StreamIdsModel", "mixed", "(IIII)I"⟩
abbrev jb_M_mixed : ByteArray := prog_10_method_28_code
abbrev jy_M_constant : MethodName := ⟨"StreamIdsModel", "constant", "(I)I"⟩
abbrev jb_M_constant : ByteArray := prog_10_method_29_code
abbrev jy_M_hash : MethodName := ⟨"StreamIdsModel", "hash", "(II)J"⟩
abbrev jb_M_hash : ByteArray := prog_10_method_33_code
abbrev jy_M_size : MethodName := ⟨"StreamIdsModel", "size", "(I)I"⟩
abbrev jb_M_size : ByteArray := prog_10_method_34_code
abbrev jy_M_byteAt : MethodName := ⟨"StreamIdsModel", "byteAt", "(II)I"⟩
abbrev jb_M_byteAt : ByteArray := prog_10_method_35_code
abbrev jy_M_part : MethodName := ⟨"StreamIdsModel", "part", "(II)I"⟩
abbrev jb_M_part : ByteArray := prog_10_method_36_code
abbrev jy_M_count : MethodName := ⟨"StreamIdsModel", "count", "(II)I"⟩
abbrev jb_M_count : ByteArray := prog_10_method_37_code
theorem jw_0 : (Jvm.Cond.initialized "StreamIdsLaw") ∈ zzW := jw_of (i := 0) (by decide +kernel) (by decide +kernel)
theorem jw_1 : (Jvm.Cond.initialized "StreamIds") ∈ zzW := jw_of (i := 1) (by decide +kernel) (by decide +kernel)
theorem jw_2 : (Jvm.Cond.initialized "StreamIds$Text") ∈ zzW := jw_of (i := 2) (by decide +kernel) (by decide +kernel)
theorem jw_3 : (Jvm.Cond.initialized "StreamIds$Layout") ∈ zzW := jw_of (i := 3) (by decide +kernel) (by decide +kernel)
theorem jw_4 : (Jvm.Cond.initialized "StreamIds$Digest") ∈ zzW := jw_of (i := 4) (by decide +kernel) (by decide +kernel)
theorem jw_5 : (Jvm.Cond.initialized "StreamIds$Declaration") ∈ zzW := jw_of (i := 5) (by decide +kernel) (by decide +kernel)
theorem jw_6 : (Jvm.Cond.initialized "StreamIds$Row") ∈ zzW := jw_of (i := 6) (by decide +kernel) (by decide +kernel)
theorem jw_7 : (Jvm.Cond.initialized "StreamIds$Entry") ∈ zzW := jw_of (i := 7) (by decide +kernel) (by decide +kernel)
theorem jw_8 : (Jvm.Cond.initialized "StreamIdsModel") ∈ zzW := jw_of (i := 8) (by decide +kernel) (by decide +kernel)
theorem jw_9 : (Jvm.Cond.initialized "java/lang/System") ∈ zzW := jw_of (i := 9) (by decide +kernel) (by decide +kernel)
theorem jw_10 : (Jvm.Cond.initialized "java/lang/Math") ∈ zzW := jw_of (i := 10) (by decide +kernel) (by decide +kernel)
theorem jw_11 : (Jvm.Cond.initialized "StreamIds$Shapes") ∈ zzW := jw_of (i := 11) (by decide +kernel) (by decide +kernel)
theorem jw_12 : (Jvm.Cond.initialized "java/lang/String") ∈ zzW := jw_of (i := 12) (by decide +kernel) (by decide +kernel)
theorem jw_13 : (Jvm.Cond.initialized "java/lang/StringLatin1") ∈ zzW := jw_of (i := 13) (by decide +kernel) (by decide +kernel)
theorem jw_14 : (Jvm.Cond.initialized "jdk/internal/util/Preconditions") ∈ zzW := jw_of (i := 14) (by decide +kernel) (by decide +kernel)
theorem jw_15 : (Jvm.Cond.initialized "java/lang/StringUTF16") ∈ zzW := jw_of (i := 15) (by decide +kernel) (by decide +kernel)
theorem jw_16 : (Jvm.Cond.classLink "StreamIdsLaw" (7 : Nat) "StreamIds") ∈ zzW := jw_of (i := 16) (by decide +kernel) (by decide +kernel)
theorem jw_17 : (Jvm.Cond.instantiable "StreamIds" (5 : Nat)) ∈ zzW := jw_of (i := 17) (by decide +kernel) (by decide +kernel)
theorem jw_18 : (Jvm.Cond.methodLink "StreamIdsLaw" (9 : Nat) ({ cls := "StreamIds", name := "<init>", desc := "()V" } : Jvm.MethodName)) ∈ zzW := jw_of (i := 18) (by decide +kernel) (by decide +kernel)
theorem jw_19 : (Jvm.Cond.instanceMethod ({ cls := "StreamIds", name := "<init>", desc := "()V" } : Jvm.MethodName)) ∈ zzW := jw_of (i := 19) (by decide +kernel) (by decide +kernel)
theorem jw_20 : (Jvm.Cond.code ({ cls := "StreamIds", name := "<init>", desc := "()V" } : Jvm.MethodName) prog_1_method_1_code (2 : Nat) (Option.none : Option Jvm.ClassFile.FieldType)) ∈ zzW := jw_of (i := 20) (by decide +kernel) (by decide +kernel)
theorem jw_21 : (Jvm.Cond.methodLink "StreamIds" (3 : Nat) ({ cls := "java/lang/Object", name := "<init>", desc := "()V" } : Jvm.MethodName)) ∈ zzW := jw_of (i := 21) (by decide +kernel) (by decide +kernel)
theorem jw_22 : (Jvm.Cond.instanceMethod ({ cls := "java/lang/Object", name := "<init>", desc := "()V" } : Jvm.MethodName)) ∈ zzW := jw_of (i := 22) (by decide +kernel) (by decide +kernel)
theorem jw_23 : (Jvm.Cond.code ({ cls := "java/lang/Object", name := "<init>", desc := "()V" } : Jvm.MethodName) object_method_1_code (1 : Nat) (Option.none : Option Jvm.ClassFile.FieldType)) ∈ zzW := jw_of (i := 23) (by decide +kernel) (by decide +kernel)
theorem jw_24 : (Jvm.Cond.classLink "StreamIds" (9 : Nat) "StreamIds$Text") ∈ zzW := jw_of (i := 24) (by decide +kernel) (by decide +kernel)
theorem jw_25 : (Jvm.Cond.instantiable "StreamIds$Text" (2 : Nat)) ∈ zzW := jw_of (i := 25) (by decide +kernel) (by decide +kernel)
theorem jw_27 : (Jvm.Cond.instanceMethod ({ cls := "StreamIds$Text", name := "<init>", desc := "()V" } : Jvm.MethodName)) ∈ zzW := jw_of (i := 27) (by decide +kernel) (by decide +kernel)
theorem jw_28 : (Jvm.Cond.code ({ cls := "StreamIds$Text", name := "<init>", desc := "()V" } : Jvm.MethodName) prog_8_method_1_code (1 : Nat) (Option.none : Option Jvm.ClassFile.FieldType)) ∈ zzW := jw_of (i := 28) (by decide +kernel) (by decide +kernel)
theorem jw_29 : (Jvm.Cond.methodLink "StreamIds$Text" (3 : Nat) ({ cls := "java/lang/Object", name := "<init>", desc := "()V" } : Jvm.MethodName)) ∈ zzW := jw_of (i := 29) (by decide +kernel) (by decide +kernel)
theorem jw_30 : (Jvm.Cond.fieldLink "StreamIds$Text" (9 : Nat) "StreamIds$Text" "signs" "[B") ∈ zzW := jw_of (i := 30) (by decide +kernel) (by decide +kernel)
theorem jw_31 : (Jvm.Cond.fieldLink "StreamIds$Text" (15 : Nat) "StreamIds$Text" "length" "I") ∈ zzW := jw_of (i := 31) (by decide +kernel) (by decide +kernel)
theorem jw_35 : (Jvm.Cond.laysFinal "StreamIds$Text" "StreamIds$Text" "signs" "[B") ∈ zzW := jw_of (i := 35) (by decide +kernel) (by decide +kernel)
theorem jw_37 : (Jvm.Cond.lays "StreamIds$Text" "StreamIds$Text" "length" "I") ∈ zzW := jw_of (i := 37) (by decide +kernel) (by decide +kernel)
theorem jw_40 : (Jvm.Cond.arrayClass Jvm.ClassFile.FieldType.byte) ∈ zzW := jw_of (i := 40) (by decide +kernel) (by decide +kernel)
theorem jw_41 : (Jvm.Cond.classLink "StreamIds" (19 : Nat) "StreamIds$Declaration") ∈ zzW := jw_of (i := 41) (by decide +kernel) (by decide +kernel)
theorem jw_43 : (Jvm.Cond.classLink "StreamIds" (25 : Nat) "StreamIds$Layout") ∈ zzW := jw_of (i := 43) (by decide +kernel) (by decide +kernel)
theorem jw_44 : (Jvm.Cond.instantiable "StreamIds$Layout" (3 : Nat)) ∈ zzW := jw_of (i := 44) (by decide +kernel) (by decide +kernel)
theorem jw_46 : (Jvm.Cond.instanceMethod ({ cls := "StreamIds$Layout", name := "<init>", desc := "()V" } : Jvm.MethodName)) ∈ zzW := jw_of (i := 46) (by decide +kernel) (by decide +kernel)
theorem jw_47 : (Jvm.Cond.code ({ cls := "StreamIds$Layout", name := "<init>", desc := "()V" } : Jvm.MethodName) prog_5_method_1_code (1 : Nat) (Option.none : Option Jvm.ClassFile.FieldType)) ∈ zzW := jw_of (i := 47) (by decide +kernel) (by decide +kernel)
theorem jw_48 : (Jvm.Cond.methodLink "StreamIds$Layout" (3 : Nat) ({ cls := "java/lang/Object", name := "<init>", desc := "()V" } : Jvm.MethodName)) ∈ zzW := jw_of (i := 48) (by decide +kernel) (by decide +kernel)
theorem jw_49 : (Jvm.Cond.fieldLink "StreamIds$Layout" (9 : Nat) "StreamIds$Layout" "bytes" "[B") ∈ zzW := jw_of (i := 49) (by decide +kernel) (by decide +kernel)
theorem jw_50 : (Jvm.Cond.fieldLink "StreamIds$Layout" (15 : Nat) "StreamIds$Layout" "length" "I") ∈ zzW := jw_of (i := 50) (by decide +kernel) (by decide +kernel)
theorem jw_53 : (Jvm.Cond.fieldLink "StreamIds$Layout" (19 : Nat) "StreamIds$Layout" "begins" "[I") ∈ zzW := jw_of (i := 53) (by decide +kernel) (by decide +kernel)
theorem jw_55 : (Jvm.Cond.laysFinal "StreamIds$Layout" "StreamIds$Layout" "bytes" "[B") ∈ zzW := jw_of (i := 55) (by decide +kernel) (by decide +kernel)
theorem jw_57 : (Jvm.Cond.lays "StreamIds$Layout" "StreamIds$Layout" "length" "I") ∈ zzW := jw_of (i := 57) (by decide +kernel) (by decide +kernel)
theorem jw_59 : (Jvm.Cond.laysFinal "StreamIds$Layout" "StreamIds$Layout" "begins" "[I") ∈ zzW := jw_of (i := 59) (by decide +kernel) (by decide +kernel)
theorem jw_62 : (Jvm.Cond.arrayClass Jvm.ClassFile.FieldType.int) ∈ zzW := jw_of (i := 62) (by decide +kernel) (by decide +kernel)
theorem jw_63 : (Jvm.Cond.classLink "StreamIds" (32 : Nat) "StreamIds$Digest") ∈ zzW := jw_of (i := 63) (by decide +kernel) (by decide +kernel)
theorem jw_64 : (Jvm.Cond.instantiable "StreamIds$Digest" (2 : Nat)) ∈ zzW := jw_of (i := 64) (by decide +kernel) (by decide +kernel)
theorem jw_66 : (Jvm.Cond.instanceMethod ({ cls := "StreamIds$Digest", name := "<init>", desc := "()V" } : Jvm.MethodName)) ∈ zzW := jw_of (i := 66) (by decide +kernel) (by decide +kernel)
theorem jw_67 : (Jvm.Cond.code ({ cls := "StreamIds$Digest", name := "<init>", desc := "()V" } : Jvm.MethodName) prog_3_method_1_code (1 : Nat) (Option.none : Option Jvm.ClassFile.FieldType)) ∈ zzW := jw_of (i := 67) (by decide +kernel) (by decide +kernel)
theorem jw_68 : (Jvm.Cond.methodLink "StreamIds$Digest" (3 : Nat) ({ cls := "java/lang/Object", name := "<init>", desc := "()V" } : Jvm.MethodName)) ∈ zzW := jw_of (i := 68) (by decide +kernel) (by decide +kernel)
theorem jw_69 : (Jvm.Cond.fieldLink "StreamIds$Digest" (9 : Nat) "StreamIds$Digest" "numbers" "[I") ∈ zzW := jw_of (i := 69) (by decide +kernel) (by decide +kernel)
theorem jw_71 : (Jvm.Cond.fieldLink "StreamIds$Digest" (15 : Nat) "StreamIds$Digest" "words" "[I") ∈ zzW := jw_of (i := 71) (by decide +kernel) (by decide +kernel)
theorem jw_72 : (Jvm.Cond.laysFinal "StreamIds$Digest" "StreamIds$Digest" "numbers" "[I") ∈ zzW := jw_of (i := 72) (by decide +kernel) (by decide +kernel)
theorem jw_74 : (Jvm.Cond.laysFinal "StreamIds$Digest" "StreamIds$Digest" "words" "[I") ∈ zzW := jw_of (i := 74) (by decide +kernel) (by decide +kernel)
theorem jw_77 : (Jvm.Cond.instantiable "StreamIds$Declaration" (7 : Nat)) ∈ zzW := jw_of (i := 77) (by decide +kernel) (by decide +kernel)
theorem jw_79 : (Jvm.Cond.instanceMethod ({ cls := "StreamIds$Declaration", name := "<init>", desc := "()V" } : Jvm.MethodName)) ∈ zzW := jw_of (i := 79) (by decide +kernel) (by decide +kernel)
theorem jw_80 : (Jvm.Cond.code ({ cls := "StreamIds$Declaration", name := "<init>", desc := "()V" } : Jvm.MethodName) prog_2_method_1_code (1 : Nat) (Option.none : Option Jvm.ClassFile.FieldType)) ∈ zzW := jw_of (i := 80) (by decide +kernel) (by decide +kernel)
theorem jw_81 : (Jvm.Cond.methodLink "StreamIds$Declaration" (3 : Nat) ({ cls := "java/lang/Object", name := "<init>", desc := "()V" } : Jvm.MethodName)) ∈ zzW := jw_of (i := 81) (by decide +kernel) (by decide +kernel)
theorem jw_82 : (Jvm.Cond.classLink "StreamIds$Declaration" (15 : Nat) "StreamIds$Text") ∈ zzW := jw_of (i := 82) (by decide +kernel) (by decide +kernel)
theorem jw_84 : (Jvm.Cond.classLink "StreamIds$Declaration" (26 : Nat) "StreamIds$Row") ∈ zzW := jw_of (i := 84) (by decide +kernel) (by decide +kernel)
theorem jw_85 : (Jvm.Cond.instantiable "StreamIds$Row" (2 : Nat)) ∈ zzW := jw_of (i := 85) (by decide +kernel) (by decide +kernel)
theorem jw_86 : (Jvm.Cond.methodLink "StreamIds$Declaration" (28 : Nat) ({ cls := "StreamIds$Row", name := "<init>", desc := "(I)V" } : Jvm.MethodName)) ∈ zzW := jw_of (i := 86) (by decide +kernel) (by decide +kernel)
theorem jw_87 : (Jvm.Cond.instanceMethod ({ cls := "StreamIds$Row", name := "<init>", desc := "(I)V" } : Jvm.MethodName)) ∈ zzW := jw_of (i := 87) (by decide +kernel) (by decide +kernel)
theorem jw_88 : (Jvm.Cond.code ({ cls := "StreamIds$Row", name := "<init>", desc := "(I)V" } : Jvm.MethodName) prog_6_method_1_code (3 : Nat) (Option.none : Option Jvm.ClassFile.FieldType)) ∈ zzW := jw_of (i := 88) (by decide +kernel) (by decide +kernel)
theorem jw_89 : (Jvm.Cond.methodLink "StreamIds$Row" (3 : Nat) ({ cls := "java/lang/Object", name := "<init>", desc := "()V" } : Jvm.MethodName)) ∈ zzW := jw_of (i := 89) (by decide +kernel) (by decide +kernel)
theorem jw_90 : (Jvm.Cond.classLink "StreamIds$Row" (15 : Nat) "StreamIds$Entry") ∈ zzW := jw_of (i := 90) (by decide +kernel) (by decide +kernel)
theorem jw_92 : (Jvm.Cond.instantiable "StreamIds$Entry" (4 : Nat)) ∈ zzW := jw_of (i := 92) (by decide +kernel) (by decide +kernel)
theorem jw_94 : (Jvm.Cond.instanceMethod ({ cls := "StreamIds$Entry", name := "<init>", desc := "()V" } : Jvm.MethodName)) ∈ zzW := jw_of (i := 94) (by decide +kernel) (by decide +kernel)
theorem jw_95 : (Jvm.Cond.code ({ cls := "StreamIds$Entry", name := "<init>", desc := "()V" } : Jvm.MethodName) prog_4_method_1_code (1 : Nat) (Option.none : Option Jvm.ClassFile.FieldType)) ∈ zzW := jw_of (i := 95) (by decide +kernel) (by decide +kernel)
theorem jw_96 : (Jvm.Cond.methodLink "StreamIds$Entry" (3 : Nat) ({ cls := "java/lang/Object", name := "<init>", desc := "()V" } : Jvm.MethodName)) ∈ zzW := jw_of (i := 96) (by decide +kernel) (by decide +kernel)
theorem jw_97 : (Jvm.Cond.classLink "StreamIds$Entry" (18 : Nat) "StreamIds$Text") ∈ zzW := jw_of (i := 97) (by decide +kernel) (by decide +kernel)
theorem jw_99 : (Jvm.Cond.fieldLink "StreamIds$Entry" (9 : Nat) "StreamIds$Entry" "kind" "I") ∈ zzW := jw_of (i := 99) (by decide +kernel) (by decide +kernel)
theorem jw_102 : (Jvm.Cond.fieldLink "StreamIds$Entry" (15 : Nat) "StreamIds$Entry" "modifiers" "I") ∈ zzW := jw_of (i := 102) (by decide +kernel) (by decide +kernel)
theorem jw_104 : (Jvm.Cond.fieldLink "StreamIds$Entry" (21 : Nat) "StreamIds$Entry" "name" "LStreamIds$Text;") ∈ zzW := jw_of (i := 104) (by decide +kernel) (by decide +kernel)
theorem jw_106 : (Jvm.Cond.fieldLink "StreamIds$Entry" (25 : Nat) "StreamIds$Entry" "shape" "LStreamIds$Text;") ∈ zzW := jw_of (i := 106) (by decide +kernel) (by decide +kernel)
theorem jw_108 : (Jvm.Cond.lays "StreamIds$Entry" "StreamIds$Entry" "kind" "I") ∈ zzW := jw_of (i := 108) (by decide +kernel) (by decide +kernel)
theorem jw_110 : (Jvm.Cond.lays "StreamIds$Entry" "StreamIds$Entry" "modifiers" "I") ∈ zzW := jw_of (i := 110) (by decide +kernel) (by decide +kernel)
theorem jw_112 : (Jvm.Cond.laysFinal "StreamIds$Entry" "StreamIds$Entry" "name" "LStreamIds$Text;") ∈ zzW := jw_of (i := 112) (by decide +kernel) (by decide +kernel)
theorem jw_114 : (Jvm.Cond.laysFinal "StreamIds$Entry" "StreamIds$Entry" "shape" "LStreamIds$Text;") ∈ zzW := jw_of (i := 114) (by decide +kernel) (by decide +kernel)
theorem jw_117 : (Jvm.Cond.fieldLink "StreamIds$Row" (17 : Nat) "StreamIds$Row" "entries" "[LStreamIds$Entry;") ∈ zzW := jw_of (i := 117) (by decide +kernel) (by decide +kernel)
theorem jw_119 : (Jvm.Cond.fieldLink "StreamIds$Row" (9 : Nat) "StreamIds$Row" "used" "I") ∈ zzW := jw_of (i := 119) (by decide +kernel) (by decide +kernel)
theorem jw_123 : (Jvm.Cond.laysFinal "StreamIds$Row" "StreamIds$Row" "entries" "[LStreamIds$Entry;") ∈ zzW := jw_of (i := 123) (by decide +kernel) (by decide +kernel)
theorem jw_125 : (Jvm.Cond.lays "StreamIds$Row" "StreamIds$Row" "used" "I") ∈ zzW := jw_of (i := 125) (by decide +kernel) (by decide +kernel)
theorem jw_128 : (Jvm.Cond.fieldLink "StreamIds$Declaration" (9 : Nat) "StreamIds$Declaration" "isThere" "Z") ∈ zzW := jw_of (i := 128) (by decide +kernel) (by decide +kernel)
theorem jw_130 : (Jvm.Cond.fieldLink "StreamIds$Declaration" (18 : Nat) "StreamIds$Declaration" "name" "LStreamIds$Text;") ∈ zzW := jw_of (i := 130) (by decide +kernel) (by decide +kernel)
theorem jw_132 : (Jvm.Cond.fieldLink "StreamIds$Declaration" (22 : Nat) "StreamIds$Declaration" "modifiers" "I") ∈ zzW := jw_of (i := 132) (by decide +kernel) (by decide +kernel)
theorem jw_134 : (Jvm.Cond.fieldLink "StreamIds$Declaration" (31 : Nat) "StreamIds$Declaration" "faces" "LStreamIds$Row;") ∈ zzW := jw_of (i := 134) (by decide +kernel) (by decide +kernel)
theorem jw_137 : (Jvm.Cond.fieldLink "StreamIds$Declaration" (35 : Nat) "StreamIds$Declaration" "members" "LStreamIds$Row;") ∈ zzW := jw_of (i := 137) (by decide +kernel) (by decide +kernel)
theorem jw_140 : (Jvm.Cond.fieldLink "StreamIds$Declaration" (38 : Nat) "StreamIds$Declaration" "hasOwnId" "Z") ∈ zzW := jw_of (i := 140) (by decide +kernel) (by decide +kernel)
theorem jw_142 : (Jvm.Cond.fieldLink "StreamIds$Declaration" (41 : Nat) "StreamIds$Declaration" "ownId" "J") ∈ zzW := jw_of (i := 142) (by decide +kernel) (by decide +kernel)
theorem jw_144 : (Jvm.Cond.lays "StreamIds$Declaration" "StreamIds$Declaration" "isThere" "Z") ∈ zzW := jw_of (i := 144) (by decide +kernel) (by decide +kernel)
theorem jw_146 : (Jvm.Cond.laysFinal "StreamIds$Declaration" "StreamIds$Declaration" "name" "LStreamIds$Text;") ∈ zzW := jw_of (i := 146) (by decide +kernel) (by decide +kernel)
theorem jw_148 : (Jvm.Cond.lays "StreamIds$Declaration" "StreamIds$Declaration" "modifiers" "I") ∈ zzW := jw_of (i := 148) (by decide +kernel) (by decide +kernel)
theorem jw_150 : (Jvm.Cond.laysFinal "StreamIds$Declaration" "StreamIds$Declaration" "faces" "LStreamIds$Row;") ∈ zzW := jw_of (i := 150) (by decide +kernel) (by decide +kernel)
theorem jw_152 : (Jvm.Cond.laysFinal "StreamIds$Declaration" "StreamIds$Declaration" "members" "LStreamIds$Row;") ∈ zzW := jw_of (i := 152) (by decide +kernel) (by decide +kernel)
theorem jw_154 : (Jvm.Cond.lays "StreamIds$Declaration" "StreamIds$Declaration" "hasOwnId" "Z") ∈ zzW := jw_of (i := 154) (by decide +kernel) (by decide +kernel)
theorem jw_156 : (Jvm.Cond.lays "StreamIds$Declaration" "StreamIds$Declaration" "ownId" "J") ∈ zzW := jw_of (i := 156) (by decide +kernel) (by decide +kernel)
theorem jw_159 : (Jvm.Cond.fieldLink "StreamIds" (12 : Nat) "StreamIds" "name" "LStreamIds$Text;") ∈ zzW := jw_of (i := 159) (by decide +kernel) (by decide +kernel)
theorem jw_160 : (Jvm.Cond.fieldLink "StreamIds" (16 : Nat) "StreamIds" "shape" "LStreamIds$Text;") ∈ zzW := jw_of (i := 160) (by decide +kernel) (by decide +kernel)
theorem jw_161 : (Jvm.Cond.fieldLink "StreamIds" (21 : Nat) "StreamIds" "declarations" "[LStreamIds$Declaration;") ∈ zzW := jw_of (i := 161) (by decide +kernel) (by decide +kernel)
theorem jw_162 : (Jvm.Cond.fieldLink "StreamIds" (28 : Nat) "StreamIds" "layout" "LStreamIds$Layout;") ∈ zzW := jw_of (i := 162) (by decide +kernel) (by decide +kernel)
theorem jw_163 : (Jvm.Cond.fieldLink "StreamIds" (35 : Nat) "StreamIds" "digest" "LStreamIds$Digest;") ∈ zzW := jw_of (i := 163) (by decide +kernel) (by decide +kernel)
theorem jw_164 : (Jvm.Cond.laysFinal "StreamIds" "StreamIds" "name" "LStreamIds$Text;") ∈ zzW := jw_of (i := 164) (by decide +kernel) (by decide +kernel)
theorem jw_166 : (Jvm.Cond.laysFinal "StreamIds" "StreamIds" "shape" "LStreamIds$Text;") ∈ zzW := jw_of (i := 166) (by decide +kernel) (by decide +kernel)
theorem jw_168 : (Jvm.Cond.laysFinal "StreamIds" "StreamIds" "declarations" "[LStreamIds$Declaration;") ∈ zzW := jw_of (i := 168) (by decide +kernel) (by decide +kernel)
theorem jw_170 : (Jvm.Cond.laysFinal "StreamIds" "StreamIds" "layout" "LStreamIds$Layout;") ∈ zzW := jw_of (i := 170) (by decide +kernel) (by decide +kernel)
theorem jw_172 : (Jvm.Cond.laysFinal "StreamIds" "StreamIds" "digest" "LStreamIds$Digest;") ∈ zzW := jw_of (i := 172) (by decide +kernel) (by decide +kernel)
theorem jw_175 : (Jvm.Cond.methodLink "StreamIdsLaw" (15 : Nat) ({ cls := "StreamIds", name := "type", desc := "(IJ)I" } : Jvm.MethodName)) ∈ zzW := jw_of (i := 175) (by decide +kernel) (by decide +kernel)
theorem jw_176 : (Jvm.Cond.instanceMethod ({ cls := "StreamIds", name := "type", desc := "(IJ)I" } : Jvm.MethodName)) ∈ zzW := jw_of (i := 176) (by decide +kernel) (by decide +kernel)
theorem jw_177 : (Jvm.Cond.selects "StreamIds" ({ cls := "StreamIds", name := "type", desc := "(IJ)I" } : Jvm.MethodName) ({ cls := "StreamIds", name := "type", desc := "(IJ)I" } : Jvm.MethodName)) ∈ zzW := jw_of (i := 177) (by decide +kernel) (by decide +kernel)
theorem jw_178 : (Jvm.Cond.code ({ cls := "StreamIds", name := "type", desc := "(IJ)I" } : Jvm.MethodName) prog_1_method_2_code (7 : Nat) (Option.some Jvm.ClassFile.FieldType.int)) ∈ zzW := jw_of (i := 178) (by decide +kernel) (by decide +kernel)
theorem jw_179 : (Jvm.Cond.methodLink "StreamIds" (40 : Nat) ({ cls := "StreamIds", name := "bufferOf", desc := "(I)LStreamIds$Text;" } : Jvm.MethodName)) ∈ zzW := jw_of (i := 179) (by decide +kernel) (by decide +kernel)
theorem jw_181 : (Jvm.Cond.instanceMethod ({ cls := "StreamIds", name := "bufferOf", desc := "(I)LStreamIds$Text;" } : Jvm.MethodName)) ∈ zzW := jw_of (i := 181) (by decide +kernel) (by decide +kernel)
theorem jw_182 : (Jvm.Cond.code ({ cls := "StreamIds", name := "bufferOf", desc := "(I)LStreamIds$Text;" } : Jvm.MethodName) prog_1_method_15_code (2 : Nat) (Option.some (Jvm.ClassFile.FieldType.object "StreamIds$Text"))) ∈ zzW := jw_of (i := 182) (by decide +kernel) (by decide +kernel)
theorem jw_183 : (Jvm.Cond.methodLink "StreamIds" (44 : Nat) ({ cls := "StreamIds", name := "areSigns", desc := "(J)Z" } : Jvm.MethodName)) ∈ zzW := jw_of (i := 183) (by decide +kernel) (by decide +kernel)
theorem jw_184 : (Jvm.Cond.static ({ cls := "StreamIds", name := "areSigns", desc := "(J)Z" } : Jvm.MethodName)) ∈ zzW := jw_of (i := 184) (by decide +kernel) (by decide +kernel)
theorem jw_185 : (Jvm.Cond.code ({ cls := "StreamIds", name := "areSigns", desc := "(J)Z" } : Jvm.MethodName) prog_1_method_21_code (4 : Nat) (Option.some Jvm.ClassFile.FieldType.boolean)) ∈ zzW := jw_of (i := 185) (by decide +kernel) (by decide +kernel)
theorem jw_186 : (Jvm.Cond.methodLink "StreamIds" (56 : Nat) ({ cls := "StreamIds", name := "byteOf", desc := "(JI)I" } : Jvm.MethodName)) ∈ zzW := jw_of (i := 186) (by decide +kernel) (by decide +kernel)
theorem jw_187 : (Jvm.Cond.static ({ cls := "StreamIds", name := "byteOf", desc := "(JI)I" } : Jvm.MethodName)) ∈ zzW := jw_of (i := 187) (by decide +kernel) (by decide +kernel)
theorem jw_188 : (Jvm.Cond.code ({ cls := "StreamIds", name := "byteOf", desc := "(JI)I" } : Jvm.MethodName) prog_1_method_20_code (3 : Nat) (Option.some Jvm.ClassFile.FieldType.int)) ∈ zzW := jw_of (i := 188) (by decide +kernel) (by decide +kernel)
theorem jw_189 : (Jvm.Cond.methodLink "StreamIds" (52 : Nat) ({ cls := "StreamIds", name := "signsIn", desc := "(J)I" } : Jvm.MethodName)) ∈ zzW := jw_of (i := 189) (by decide +kernel) (by decide +kernel)
theorem jw_190 : (Jvm.Cond.static ({ cls := "StreamIds", name := "signsIn", desc := "(J)I" } : Jvm.MethodName)) ∈ zzW := jw_of (i := 190) (by decide +kernel) (by decide +kernel)
theorem jw_191 : (Jvm.Cond.code ({ cls := "StreamIds", name := "signsIn", desc := "(J)I" } : Jvm.MethodName) prog_1_method_22_code (4 : Nat) (Option.some Jvm.ClassFile.FieldType.int)) ∈ zzW := jw_of (i := 191) (by decide +kernel) (by decide +kernel)
theorem jw_192 : (Jvm.Cond.methodLink "StreamIds" (60 : Nat) ({ cls := "StreamIds$Text", name := "append", desc := "(I)V" } : Jvm.MethodName)) ∈ zzW := jw_of (i := 192) (by decide +kernel) (by decide +kernel)
theorem jw_193 : (Jvm.Cond.instanceMethod ({ cls := "StreamIds$Text", name := "append", desc := "(I)V" } : Jvm.MethodName)) ∈ zzW := jw_of (i := 193) (by decide +kernel) (by decide +kernel)
theorem jw_194 : (Jvm.Cond.selects "StreamIds$Text" ({ cls := "StreamIds$Text", name := "append", desc := "(I)V" } : Jvm.MethodName) ({ cls := "StreamIds$Text", name := "append", desc := "(I)V" } : Jvm.MethodName)) ∈ zzW := jw_of (i := 194) (by decide +kernel) (by decide +kernel)
theorem jw_195 : (Jvm.Cond.code ({ cls := "StreamIds$Text", name := "append", desc := "(I)V" } : Jvm.MethodName) prog_8_method_3_code (2 : Nat) (Option.none : Option Jvm.ClassFile.FieldType)) ∈ zzW := jw_of (i := 195) (by decide +kernel) (by decide +kernel)
theorem jw_196 : (Jvm.Cond.methodLink "StreamIdsLaw" (20 : Nat) ({ cls := "StreamIds", name := "clear", desc := "(I)I" } : Jvm.MethodName)) ∈ zzW := jw_of (i := 196) (by decide +kernel) (by decide +kernel)
theorem jw_197 : (Jvm.Cond.instanceMethod ({ cls := "StreamIds", name := "clear", desc := "(I)I" } : Jvm.MethodName)) ∈ zzW := jw_of (i := 197) (by decide +kernel) (by decide +kernel)
theorem jw_198 : (Jvm.Cond.selects "StreamIds" ({ cls := "StreamIds", name := "clear", desc := "(I)I" } : Jvm.MethodName) ({ cls := "StreamIds", name := "clear", desc := "(I)I" } : Jvm.MethodName)) ∈ zzW := jw_of (i := 198) (by decide +kernel) (by decide +kernel)
theorem jw_199 : (Jvm.Cond.code ({ cls := "StreamIds", name := "clear", desc := "(I)I" } : Jvm.MethodName) prog_1_method_3_code (4 : Nat) (Option.some Jvm.ClassFile.FieldType.int)) ∈ zzW := jw_of (i := 199) (by decide +kernel) (by decide +kernel)
theorem jw_200 : (Jvm.Cond.methodLink "StreamIdsLaw" (25 : Nat) ({ cls := "StreamIds", name := "define", desc := "(II)I" } : Jvm.MethodName)) ∈ zzW := jw_of (i := 200) (by decide +kernel) (by decide +kernel)
theorem jw_201 : (Jvm.Cond.instanceMethod ({ cls := "StreamIds", name := "define", desc := "(II)I" } : Jvm.MethodName)) ∈ zzW := jw_of (i := 201) (by decide +kernel) (by decide +kernel)
theorem jw_202 : (Jvm.Cond.selects "StreamIds" ({ cls := "StreamIds", name := "define", desc := "(II)I" } : Jvm.MethodName) ({ cls := "StreamIds", name := "define", desc := "(II)I" } : Jvm.MethodName)) ∈ zzW := jw_of (i := 202) (by decide +kernel) (by decide +kernel)
theorem jw_203 : (Jvm.Cond.code ({ cls := "StreamIds", name := "define", desc := "(II)I" } : Jvm.MethodName) prog_1_method_4_code (3 : Nat) (Option.some Jvm.ClassFile.FieldType.int)) ∈ zzW := jw_of (i := 203) (by decide +kernel) (by decide +kernel)
theorem jw_204 : (Jvm.Cond.constant "StreamIds" (64 : Nat) (65535 : Int32)) ∈ zzW := jw_of (i := 204) (by decide +kernel) (by decide +kernel)
theorem jw_205 : (Jvm.Cond.methodLink "StreamIds" (65 : Nat) ({ cls := "StreamIds$Declaration", name := "begin", desc := "(LStreamIds$Text;I)V" } : Jvm.MethodName)) ∈ zzW := jw_of (i := 205) (by decide +kernel) (by decide +kernel)
theorem jw_206 : (Jvm.Cond.instanceMethod ({ cls := "StreamIds$Declaration", name := "begin", desc := "(LStreamIds$Text;I)V" } : Jvm.MethodName)) ∈ zzW := jw_of (i := 206) (by decide +kernel) (by decide +kernel)
theorem jw_207 : (Jvm.Cond.selects "StreamIds$Declaration" ({ cls := "StreamIds$Declaration", name := "begin", desc := "(LStreamIds$Text;I)V" } : Jvm.MethodName) ({ cls := "StreamIds$Declaration", name := "begin", desc := "(LStreamIds$Text;I)V" } : Jvm.MethodName)) ∈ zzW := jw_of (i := 207) (by decide +kernel) (by decide +kernel)
theorem jw_208 : (Jvm.Cond.code ({ cls := "StreamIds$Declaration", name := "begin", desc := "(LStreamIds$Text;I)V" } : Jvm.MethodName) prog_2_method_2_code (3 : Nat) (Option.none : Option Jvm.ClassFile.FieldType)) ∈ zzW := jw_of (i := 208) (by decide +kernel) (by decide +kernel)
theorem jw_209 : (Jvm.Cond.methodLink "StreamIds$Declaration" (45 : Nat) ({ cls := "StreamIds$Text", name := "become", desc := "(LStreamIds$Text;)V" } : Jvm.MethodName)) ∈ zzW := jw_of (i := 209) (by decide +kernel) (by decide +kernel)
theorem jw_210 : (Jvm.Cond.instanceMethod ({ cls := "StreamIds$Text", name := "become", desc := "(LStreamIds$Text;)V" } : Jvm.MethodName)) ∈ zzW := jw_of (i := 210) (by decide +kernel) (by decide +kernel)
theorem jw_211 : (Jvm.Cond.selects "StreamIds$Text" ({ cls := "StreamIds$Text", name := "become", desc := "(LStreamIds$Text;)V" } : Jvm.MethodName) ({ cls := "StreamIds$Text", name := "become", desc := "(LStreamIds$Text;)V" } : Jvm.MethodName)) ∈ zzW := jw_of (i := 211) (by decide +kernel) (by decide +kernel)
theorem jw_212 : (Jvm.Cond.code ({ cls := "StreamIds$Text", name := "become", desc := "(LStreamIds$Text;)V" } : Jvm.MethodName) prog_8_method_4_code (2 : Nat) (Option.none : Option Jvm.ClassFile.FieldType)) ∈ zzW := jw_of (i := 212) (by decide +kernel) (by decide +kernel)
theorem jw_213 : (Jvm.Cond.methodLink "StreamIds$Text" (19 : Nat) ({ cls := "java/lang/System", name := "arraycopy", desc := "(Ljava/lang/Object;ILjava/lang/Object;II)V" } : Jvm.MethodName)) ∈ zzW := jw_of (i := 213) (by decide +kernel) (by decide +kernel)
theorem jw_214 : (Jvm.Cond.static ({ cls := "java/lang/System", name := "arraycopy", desc := "(Ljava/lang/Object;ILjava/lang/Object;II)V" } : Jvm.MethodName)) ∈ zzW := jw_of (i := 214) (by decide +kernel) (by decide +kernel)
theorem jw_215 : (Jvm.Cond.native ({ cls := "java/lang/System", name := "arraycopy", desc := "(Ljava/lang/Object;ILjava/lang/Object;II)V" } : Jvm.MethodName)) ∈ zzW := jw_of (i := 215) (by decide +kernel) (by decide +kernel)
theorem jw_216 : (Jvm.Cond.methodLink "StreamIdsLaw" (30 : Nat) ({ cls := "StreamIds", name := "face", desc := "(I)I" } : Jvm.MethodName)) ∈ zzW := jw_of (i := 216) (by decide +kernel) (by decide +kernel)
theorem jw_217 : (Jvm.Cond.instanceMethod ({ cls := "StreamIds", name := "face", desc := "(I)I" } : Jvm.MethodName)) ∈ zzW := jw_of (i := 217) (by decide +kernel) (by decide +kernel)
theorem jw_218 : (Jvm.Cond.selects "StreamIds" ({ cls := "StreamIds", name := "face", desc := "(I)I" } : Jvm.MethodName) ({ cls := "StreamIds", name := "face", desc := "(I)I" } : Jvm.MethodName)) ∈ zzW := jw_of (i := 218) (by decide +kernel) (by decide +kernel)
theorem jw_219 : (Jvm.Cond.code ({ cls := "StreamIds", name := "face", desc := "(I)I" } : Jvm.MethodName) prog_1_method_5_code (3 : Nat) (Option.some Jvm.ClassFile.FieldType.int)) ∈ zzW := jw_of (i := 219) (by decide +kernel) (by decide +kernel)
theorem jw_220 : (Jvm.Cond.methodLink "StreamIds" (69 : Nat) ({ cls := "StreamIds", name := "declarationOf", desc := "(I)LStreamIds$Declaration;" } : Jvm.MethodName)) ∈ zzW := jw_of (i := 220) (by decide +kernel) (by decide +kernel)
theorem jw_222 : (Jvm.Cond.instanceMethod ({ cls := "StreamIds", name := "declarationOf", desc := "(I)LStreamIds$Declaration;" } : Jvm.MethodName)) ∈ zzW := jw_of (i := 222) (by decide +kernel) (by decide +kernel)
theorem jw_223 : (Jvm.Cond.code ({ cls := "StreamIds", name := "declarationOf", desc := "(I)LStreamIds$Declaration;" } : Jvm.MethodName) prog_1_method_16_code (2 : Nat) (Option.some (Jvm.ClassFile.FieldType.object "StreamIds$Declaration"))) ∈ zzW := jw_of (i := 223) (by decide +kernel) (by decide +kernel)
theorem jw_224 : (Jvm.Cond.methodLink "StreamIds" (77 : Nat) ({ cls := "StreamIds$Row", name := "enter", desc := "(IILStreamIds$Text;LStreamIds$Text;)I" } : Jvm.MethodName)) ∈ zzW := jw_of (i := 224) (by decide +kernel) (by decide +kernel)
theorem jw_225 : (Jvm.Cond.instanceMethod ({ cls := "StreamIds$Row", name := "enter", desc := "(IILStreamIds$Text;LStreamIds$Text;)I" } : Jvm.MethodName)) ∈ zzW := jw_of (i := 225) (by decide +kernel) (by decide +kernel)
theorem jw_226 : (Jvm.Cond.selects "StreamIds$Row" ({ cls := "StreamIds$Row", name := "enter", desc := "(IILStreamIds$Text;LStreamIds$Text;)I" } : Jvm.MethodName) ({ cls := "StreamIds$Row", name := "enter", desc := "(IILStreamIds$Text;LStreamIds$Text;)I" } : Jvm.MethodName)) ∈ zzW := jw_of (i := 226) (by decide +kernel) (by decide +kernel)
theorem jw_227 : (Jvm.Cond.code ({ cls := "StreamIds$Row", name := "enter", desc := "(IILStreamIds$Text;LStreamIds$Text;)I" } : Jvm.MethodName) prog_6_method_2_code (8 : Nat) (Option.some Jvm.ClassFile.FieldType.int)) ∈ zzW := jw_of (i := 227) (by decide +kernel) (by decide +kernel)
theorem jw_228 : (Jvm.Cond.methodLink "StreamIds$Row" (22 : Nat) ({ cls := "StreamIds$Row", name := "placeOf", desc := "(ILStreamIds$Text;LStreamIds$Text;)I" } : Jvm.MethodName)) ∈ zzW := jw_of (i := 228) (by decide +kernel) (by decide +kernel)
theorem jw_230 : (Jvm.Cond.instanceMethod ({ cls := "StreamIds$Row", name := "placeOf", desc := "(ILStreamIds$Text;LStreamIds$Text;)I" } : Jvm.MethodName)) ∈ zzW := jw_of (i := 230) (by decide +kernel) (by decide +kernel)
theorem jw_231 : (Jvm.Cond.code ({ cls := "StreamIds$Row", name := "placeOf", desc := "(ILStreamIds$Text;LStreamIds$Text;)I" } : Jvm.MethodName) prog_6_method_5_code (5 : Nat) (Option.some Jvm.ClassFile.FieldType.int)) ∈ zzW := jw_of (i := 231) (by decide +kernel) (by decide +kernel)
theorem jw_232 : (Jvm.Cond.methodLink "StreamIds$Row" (37 : Nat) ({ cls := "StreamIds$Entry", name := "compareWith", desc := "(ILStreamIds$Text;LStreamIds$Text;)I" } : Jvm.MethodName)) ∈ zzW := jw_of (i := 232) (by decide +kernel) (by decide +kernel)
theorem jw_233 : (Jvm.Cond.instanceMethod ({ cls := "StreamIds$Entry", name := "compareWith", desc := "(ILStreamIds$Text;LStreamIds$Text;)I" } : Jvm.MethodName)) ∈ zzW := jw_of (i := 233) (by decide +kernel) (by decide +kernel)
theorem jw_234 : (Jvm.Cond.selects "StreamIds$Entry" ({ cls := "StreamIds$Entry", name := "compareWith", desc := "(ILStreamIds$Text;LStreamIds$Text;)I" } : Jvm.MethodName) ({ cls := "StreamIds$Entry", name := "compareWith", desc := "(ILStreamIds$Text;LStreamIds$Text;)I" } : Jvm.MethodName)) ∈ zzW := jw_of (i := 234) (by decide +kernel) (by decide +kernel)
theorem jw_235 : (Jvm.Cond.code ({ cls := "StreamIds$Entry", name := "compareWith", desc := "(ILStreamIds$Text;LStreamIds$Text;)I" } : Jvm.MethodName) prog_4_method_3_code (5 : Nat) (Option.some Jvm.ClassFile.FieldType.int)) ∈ zzW := jw_of (i := 235) (by decide +kernel) (by decide +kernel)
theorem jw_236 : (Jvm.Cond.methodLink "StreamIds$Entry" (32 : Nat) ({ cls := "StreamIds$Text", name := "compareWith", desc := "(LStreamIds$Text;)I" } : Jvm.MethodName)) ∈ zzW := jw_of (i := 236) (by decide +kernel) (by decide +kernel)
theorem jw_237 : (Jvm.Cond.instanceMethod ({ cls := "StreamIds$Text", name := "compareWith", desc := "(LStreamIds$Text;)I" } : Jvm.MethodName)) ∈ zzW := jw_of (i := 237) (by decide +kernel) (by decide +kernel)
theorem jw_238 : (Jvm.Cond.selects "StreamIds$Text" ({ cls := "StreamIds$Text", name := "compareWith", desc := "(LStreamIds$Text;)I" } : Jvm.MethodName) ({ cls := "StreamIds$Text", name := "compareWith", desc := "(LStreamIds$Text;)I" } : Jvm.MethodName)) ∈ zzW := jw_of (i := 238) (by decide +kernel) (by decide +kernel)
theorem jw_239 : (Jvm.Cond.code ({ cls := "StreamIds$Text", name := "compareWith", desc := "(LStreamIds$Text;)I" } : Jvm.MethodName) prog_8_method_5_code (4 : Nat) (Option.some Jvm.ClassFile.FieldType.int)) ∈ zzW := jw_of (i := 239) (by decide +kernel) (by decide +kernel)
theorem jw_240 : (Jvm.Cond.methodLink "StreamIds$Text" (25 : Nat) ({ cls := "java/lang/Math", name := "min", desc := "(II)I" } : Jvm.MethodName)) ∈ zzW := jw_of (i := 240) (by decide +kernel) (by decide +kernel)
theorem jw_241 : (Jvm.Cond.static ({ cls := "java/lang/Math", name := "min", desc := "(II)I" } : Jvm.MethodName)) ∈ zzW := jw_of (i := 241) (by decide +kernel) (by decide +kernel)
theorem jw_242 : (Jvm.Cond.code ({ cls := "java/lang/Math", name := "min", desc := "(II)I" } : Jvm.MethodName) prog_11_method_69_code (2 : Nat) (Option.some Jvm.ClassFile.FieldType.int)) ∈ zzW := jw_of (i := 242) (by decide +kernel) (by decide +kernel)
theorem jw_243 : (Jvm.Cond.methodLink "StreamIds$Row" (26 : Nat) ({ cls := "StreamIds$Row", name := "isAt", desc := "(IILStreamIds$Text;LStreamIds$Text;)Z" } : Jvm.MethodName)) ∈ zzW := jw_of (i := 243) (by decide +kernel) (by decide +kernel)
theorem jw_245 : (Jvm.Cond.instanceMethod ({ cls := "StreamIds$Row", name := "isAt", desc := "(IILStreamIds$Text;LStreamIds$Text;)Z" } : Jvm.MethodName)) ∈ zzW := jw_of (i := 245) (by decide +kernel) (by decide +kernel)
theorem jw_246 : (Jvm.Cond.code ({ cls := "StreamIds$Row", name := "isAt", desc := "(IILStreamIds$Text;LStreamIds$Text;)Z" } : Jvm.MethodName) prog_6_method_6_code (5 : Nat) (Option.some Jvm.ClassFile.FieldType.boolean)) ∈ zzW := jw_of (i := 246) (by decide +kernel) (by decide +kernel)
theorem jw_247 : (Jvm.Cond.methodLink "StreamIds$Row" (30 : Nat) ({ cls := "StreamIds$Entry", name := "become", desc := "(IILStreamIds$Text;LStreamIds$Text;)V" } : Jvm.MethodName)) ∈ zzW := jw_of (i := 247) (by decide +kernel) (by decide +kernel)
theorem jw_248 : (Jvm.Cond.instanceMethod ({ cls := "StreamIds$Entry", name := "become", desc := "(IILStreamIds$Text;LStreamIds$Text;)V" } : Jvm.MethodName)) ∈ zzW := jw_of (i := 248) (by decide +kernel) (by decide +kernel)
theorem jw_249 : (Jvm.Cond.selects "StreamIds$Entry" ({ cls := "StreamIds$Entry", name := "become", desc := "(IILStreamIds$Text;LStreamIds$Text;)V" } : Jvm.MethodName) ({ cls := "StreamIds$Entry", name := "become", desc := "(IILStreamIds$Text;LStreamIds$Text;)V" } : Jvm.MethodName)) ∈ zzW := jw_of (i := 249) (by decide +kernel) (by decide +kernel)
theorem jw_250 : (Jvm.Cond.code ({ cls := "StreamIds$Entry", name := "become", desc := "(IILStreamIds$Text;LStreamIds$Text;)V" } : Jvm.MethodName) prog_4_method_2_code (5 : Nat) (Option.none : Option Jvm.ClassFile.FieldType)) ∈ zzW := jw_of (i := 250) (by decide +kernel) (by decide +kernel)
theorem jw_251 : (Jvm.Cond.methodLink "StreamIds$Entry" (28 : Nat) ({ cls := "StreamIds$Text", name := "become", desc := "(LStreamIds$Text;)V" } : Jvm.MethodName)) ∈ zzW := jw_of (i := 251) (by decide +kernel) (by decide +kernel)
theorem jw_252 : (Jvm.Cond.methodLink "StreamIdsLaw" (34 : Nat) ({ cls := "StreamIds", name := "member", desc := "(III)I" } : Jvm.MethodName)) ∈ zzW := jw_of (i := 252) (by decide +kernel) (by decide +kernel)
theorem jw_253 : (Jvm.Cond.instanceMethod ({ cls := "StreamIds", name := "member", desc := "(III)I" } : Jvm.MethodName)) ∈ zzW := jw_of (i := 253) (by decide +kernel) (by decide +kernel)
theorem jw_254 : (Jvm.Cond.selects "StreamIds" ({ cls := "StreamIds", name := "member", desc := "(III)I" } : Jvm.MethodName) ({ cls := "StreamIds", name := "member", desc := "(III)I" } : Jvm.MethodName)) ∈ zzW := jw_of (i := 254) (by decide +kernel) (by decide +kernel)
theorem jw_255 : (Jvm.Cond.code ({ cls := "StreamIds", name := "member", desc := "(III)I" } : Jvm.MethodName) prog_1_method_6_code (5 : Nat) (Option.some Jvm.ClassFile.FieldType.int)) ∈ zzW := jw_of (i := 255) (by decide +kernel) (by decide +kernel)
theorem jw_256 : (Jvm.Cond.methodLink "StreamIds" (83 : Nat) ({ cls := "StreamIds", name := "isMemberKind", desc := "(I)Z" } : Jvm.MethodName)) ∈ zzW := jw_of (i := 256) (by decide +kernel) (by decide +kernel)
theorem jw_257 : (Jvm.Cond.static ({ cls := "StreamIds", name := "isMemberKind", desc := "(I)Z" } : Jvm.MethodName)) ∈ zzW := jw_of (i := 257) (by decide +kernel) (by decide +kernel)
theorem jw_258 : (Jvm.Cond.code ({ cls := "StreamIds", name := "isMemberKind", desc := "(I)Z" } : Jvm.MethodName) prog_1_method_17_code (1 : Nat) (Option.some Jvm.ClassFile.FieldType.boolean)) ∈ zzW := jw_of (i := 258) (by decide +kernel) (by decide +kernel)
theorem jw_259 : (Jvm.Cond.methodLink "StreamIds" (87 : Nat) ({ cls := "StreamIds", name := "isNameFor", desc := "(I)Z" } : Jvm.MethodName)) ∈ zzW := jw_of (i := 259) (by decide +kernel) (by decide +kernel)
theorem jw_261 : (Jvm.Cond.instanceMethod ({ cls := "StreamIds", name := "isNameFor", desc := "(I)Z" } : Jvm.MethodName)) ∈ zzW := jw_of (i := 261) (by decide +kernel) (by decide +kernel)
theorem jw_262 : (Jvm.Cond.code ({ cls := "StreamIds", name := "isNameFor", desc := "(I)Z" } : Jvm.MethodName) prog_1_method_18_code (2 : Nat) (Option.some Jvm.ClassFile.FieldType.boolean)) ∈ zzW := jw_of (i := 262) (by decide +kernel) (by decide +kernel)
theorem jw_263 : (Jvm.Cond.methodLink "StreamIds" (90 : Nat) ({ cls := "StreamIds", name := "isShapeFor", desc := "(I)Z" } : Jvm.MethodName)) ∈ zzW := jw_of (i := 263) (by decide +kernel) (by decide +kernel)
theorem jw_265 : (Jvm.Cond.instanceMethod ({ cls := "StreamIds", name := "isShapeFor", desc := "(I)Z" } : Jvm.MethodName)) ∈ zzW := jw_of (i := 265) (by decide +kernel) (by decide +kernel)
theorem jw_266 : (Jvm.Cond.code ({ cls := "StreamIds", name := "isShapeFor", desc := "(I)Z" } : Jvm.MethodName) prog_1_method_19_code (2 : Nat) (Option.some Jvm.ClassFile.FieldType.boolean)) ∈ zzW := jw_of (i := 266) (by decide +kernel) (by decide +kernel)
theorem jw_267 : (Jvm.Cond.methodLink "StreamIds" (146 : Nat) ({ cls := "StreamIds$Shapes", name := "isType", desc := "(LStreamIds$Text;)Z" } : Jvm.MethodName)) ∈ zzW := jw_of (i := 267) (by decide +kernel) (by decide +kernel)
theorem jw_268 : (Jvm.Cond.static ({ cls := "StreamIds$Shapes", name := "isType", desc := "(LStreamIds$Text;)Z" } : Jvm.MethodName)) ∈ zzW := jw_of (i := 268) (by decide +kernel) (by decide +kernel)
theorem jw_269 : (Jvm.Cond.code ({ cls := "StreamIds$Shapes", name := "isType", desc := "(LStreamIds$Text;)Z" } : Jvm.MethodName) prog_7_method_2_code (1 : Nat) (Option.some Jvm.ClassFile.FieldType.boolean)) ∈ zzW := jw_of (i := 269) (by decide +kernel) (by decide +kernel)
theorem jw_270 : (Jvm.Cond.methodLink "StreamIds$Shapes" (9 : Nat) ({ cls := "StreamIds$Shapes", name := "endOfType", desc := "(LStreamIds$Text;I)I" } : Jvm.MethodName)) ∈ zzW := jw_of (i := 270) (by decide +kernel) (by decide +kernel)
theorem jw_271 : (Jvm.Cond.static ({ cls := "StreamIds$Shapes", name := "endOfType", desc := "(LStreamIds$Text;I)I" } : Jvm.MethodName)) ∈ zzW := jw_of (i := 271) (by decide +kernel) (by decide +kernel)
theorem jw_272 : (Jvm.Cond.code ({ cls := "StreamIds$Shapes", name := "endOfType", desc := "(LStreamIds$Text;I)I" } : Jvm.MethodName) prog_7_method_5_code (3 : Nat) (Option.some Jvm.ClassFile.FieldType.int)) ∈ zzW := jw_of (i := 272) (by decide +kernel) (by decide +kernel)
theorem jw_273 : (Jvm.Cond.methodLink "StreamIds$Shapes" (21 : Nat) ({ cls := "StreamIds$Text", name := "at", desc := "(I)I" } : Jvm.MethodName)) ∈ zzW := jw_of (i := 273) (by decide +kernel) (by decide +kernel)
theorem jw_274 : (Jvm.Cond.instanceMethod ({ cls := "StreamIds$Text", name := "at", desc := "(I)I" } : Jvm.MethodName)) ∈ zzW := jw_of (i := 274) (by decide +kernel) (by decide +kernel)
theorem jw_275 : (Jvm.Cond.selects "StreamIds$Text" ({ cls := "StreamIds$Text", name := "at", desc := "(I)I" } : Jvm.MethodName) ({ cls := "StreamIds$Text", name := "at", desc := "(I)I" } : Jvm.MethodName)) ∈ zzW := jw_of (i := 275) (by decide +kernel) (by decide +kernel)
theorem jw_276 : (Jvm.Cond.code ({ cls := "StreamIds$Text", name := "at", desc := "(I)I" } : Jvm.MethodName) prog_8_method_2_code (2 : Nat) (Option.some Jvm.ClassFile.FieldType.int)) ∈ zzW := jw_of (i := 276) (by decide +kernel) (by decide +kernel)
theorem jw_277 : (Jvm.Cond.methodLink "StreamIds$Shapes" (28 : Nat) ({ cls := "StreamIds$Shapes", name := "endOfName", desc := "(LStreamIds$Text;I)I" } : Jvm.MethodName)) ∈ zzW := jw_of (i := 277) (by decide +kernel) (by decide +kernel)
theorem jw_278 : (Jvm.Cond.static ({ cls := "StreamIds$Shapes", name := "endOfName", desc := "(LStreamIds$Text;I)I" } : Jvm.MethodName)) ∈ zzW := jw_of (i := 278) (by decide +kernel) (by decide +kernel)
theorem jw_279 : (Jvm.Cond.code ({ cls := "StreamIds$Shapes", name := "endOfName", desc := "(LStreamIds$Text;I)I" } : Jvm.MethodName) prog_7_method_6_code (3 : Nat) (Option.some Jvm.ClassFile.FieldType.int)) ∈ zzW := jw_of (i := 279) (by decide +kernel) (by decide +kernel)
theorem jw_280 : (Jvm.Cond.methodLink "StreamIds$Shapes" (35 : Nat) ({ cls := "StreamIds$Shapes", name := "mayStandInName", desc := "(I)Z" } : Jvm.MethodName)) ∈ zzW := jw_of (i := 280) (by decide +kernel) (by decide +kernel)
theorem jw_281 : (Jvm.Cond.static ({ cls := "StreamIds$Shapes", name := "mayStandInName", desc := "(I)Z" } : Jvm.MethodName)) ∈ zzW := jw_of (i := 281) (by decide +kernel) (by decide +kernel)
theorem jw_282 : (Jvm.Cond.code ({ cls := "StreamIds$Shapes", name := "mayStandInName", desc := "(I)Z" } : Jvm.MethodName) prog_7_method_8_code (1 : Nat) (Option.some Jvm.ClassFile.FieldType.boolean)) ∈ zzW := jw_of (i := 282) (by decide +kernel) (by decide +kernel)
theorem jw_283 : (Jvm.Cond.methodLink "StreamIds$Shapes" (31 : Nat) ({ cls := "StreamIds$Shapes", name := "isSimple", desc := "(I)Z" } : Jvm.MethodName)) ∈ zzW := jw_of (i := 283) (by decide +kernel) (by decide +kernel)
theorem jw_284 : (Jvm.Cond.static ({ cls := "StreamIds$Shapes", name := "isSimple", desc := "(I)Z" } : Jvm.MethodName)) ∈ zzW := jw_of (i := 284) (by decide +kernel) (by decide +kernel)
theorem jw_285 : (Jvm.Cond.code ({ cls := "StreamIds$Shapes", name := "isSimple", desc := "(I)Z" } : Jvm.MethodName) prog_7_method_7_code (1 : Nat) (Option.some Jvm.ClassFile.FieldType.boolean)) ∈ zzW := jw_of (i := 285) (by decide +kernel) (by decide +kernel)
theorem jw_286 : (Jvm.Cond.methodLink "StreamIds" (152 : Nat) ({ cls := "StreamIds$Shapes", name := "isMethod", desc := "(LStreamIds$Text;)Z" } : Jvm.MethodName)) ∈ zzW := jw_of (i := 286) (by decide +kernel) (by decide +kernel)
theorem jw_287 : (Jvm.Cond.static ({ cls := "StreamIds$Shapes", name := "isMethod", desc := "(LStreamIds$Text;)Z" } : Jvm.MethodName)) ∈ zzW := jw_of (i := 287) (by decide +kernel) (by decide +kernel)
theorem jw_288 : (Jvm.Cond.code ({ cls := "StreamIds$Shapes", name := "isMethod", desc := "(LStreamIds$Text;)Z" } : Jvm.MethodName) prog_7_method_3_code (4 : Nat) (Option.some Jvm.ClassFile.FieldType.boolean)) ∈ zzW := jw_of (i := 288) (by decide +kernel) (by decide +kernel)
theorem jw_289 : (Jvm.Cond.methodLink "StreamIds$Shapes" (25 : Nat) ({ cls := "StreamIds$Shapes", name := "endOfTypes", desc := "(LStreamIds$Text;I)I" } : Jvm.MethodName)) ∈ zzW := jw_of (i := 289) (by decide +kernel) (by decide +kernel)
theorem jw_290 : (Jvm.Cond.static ({ cls := "StreamIds$Shapes", name := "endOfTypes", desc := "(LStreamIds$Text;I)I" } : Jvm.MethodName)) ∈ zzW := jw_of (i := 290) (by decide +kernel) (by decide +kernel)
theorem jw_291 : (Jvm.Cond.code ({ cls := "StreamIds$Shapes", name := "endOfTypes", desc := "(LStreamIds$Text;I)I" } : Jvm.MethodName) prog_7_method_4_code (4 : Nat) (Option.some Jvm.ClassFile.FieldType.int)) ∈ zzW := jw_of (i := 291) (by decide +kernel) (by decide +kernel)
theorem jw_292 : (Jvm.Cond.methodLink "StreamIds" (155 : Nat) ({ cls := "StreamIds$Text", name := "at", desc := "(I)I" } : Jvm.MethodName)) ∈ zzW := jw_of (i := 292) (by decide +kernel) (by decide +kernel)
theorem jw_293 : (Jvm.Cond.methodLink "StreamIdsLaw" (39 : Nat) ({ cls := "StreamIds", name := "remove", desc := "(II)I" } : Jvm.MethodName)) ∈ zzW := jw_of (i := 293) (by decide +kernel) (by decide +kernel)
theorem jw_294 : (Jvm.Cond.instanceMethod ({ cls := "StreamIds", name := "remove", desc := "(II)I" } : Jvm.MethodName)) ∈ zzW := jw_of (i := 294) (by decide +kernel) (by decide +kernel)
theorem jw_295 : (Jvm.Cond.selects "StreamIds" ({ cls := "StreamIds", name := "remove", desc := "(II)I" } : Jvm.MethodName) ({ cls := "StreamIds", name := "remove", desc := "(II)I" } : Jvm.MethodName)) ∈ zzW := jw_of (i := 295) (by decide +kernel) (by decide +kernel)
theorem jw_296 : (Jvm.Cond.code ({ cls := "StreamIds", name := "remove", desc := "(II)I" } : Jvm.MethodName) prog_1_method_7_code (4 : Nat) (Option.some Jvm.ClassFile.FieldType.int)) ∈ zzW := jw_of (i := 296) (by decide +kernel) (by decide +kernel)
theorem jw_297 : (Jvm.Cond.methodLink "StreamIds" (96 : Nat) ({ cls := "StreamIds$Row", name := "takeOut", desc := "(ILStreamIds$Text;LStreamIds$Text;)I" } : Jvm.MethodName)) ∈ zzW := jw_of (i := 297) (by decide +kernel) (by decide +kernel)
theorem jw_298 : (Jvm.Cond.instanceMethod ({ cls := "StreamIds$Row", name := "takeOut", desc := "(ILStreamIds$Text;LStreamIds$Text;)I" } : Jvm.MethodName)) ∈ zzW := jw_of (i := 298) (by decide +kernel) (by decide +kernel)
theorem jw_299 : (Jvm.Cond.selects "StreamIds$Row" ({ cls := "StreamIds$Row", name := "takeOut", desc := "(ILStreamIds$Text;LStreamIds$Text;)I" } : Jvm.MethodName) ({ cls := "StreamIds$Row", name := "takeOut", desc := "(ILStreamIds$Text;LStreamIds$Text;)I" } : Jvm.MethodName)) ∈ zzW := jw_of (i := 299) (by decide +kernel) (by decide +kernel)
theorem jw_300 : (Jvm.Cond.code ({ cls := "StreamIds$Row", name := "takeOut", desc := "(ILStreamIds$Text;LStreamIds$Text;)I" } : Jvm.MethodName) prog_6_method_3_code (7 : Nat) (Option.some Jvm.ClassFile.FieldType.int)) ∈ zzW := jw_of (i := 300) (by decide +kernel) (by decide +kernel)
theorem jw_301 : (Jvm.Cond.methodLink "StreamIdsLaw" (43 : Nat) ({ cls := "StreamIds", name := "declare", desc := "(IZJ)I" } : Jvm.MethodName)) ∈ zzW := jw_of (i := 301) (by decide +kernel) (by decide +kernel)
theorem jw_302 : (Jvm.Cond.instanceMethod ({ cls := "StreamIds", name := "declare", desc := "(IZJ)I" } : Jvm.MethodName)) ∈ zzW := jw_of (i := 302) (by decide +kernel) (by decide +kernel)
theorem jw_303 : (Jvm.Cond.selects "StreamIds" ({ cls := "StreamIds", name := "declare", desc := "(IZJ)I" } : Jvm.MethodName) ({ cls := "StreamIds", name := "declare", desc := "(IZJ)I" } : Jvm.MethodName)) ∈ zzW := jw_of (i := 303) (by decide +kernel) (by decide +kernel)
theorem jw_304 : (Jvm.Cond.code ({ cls := "StreamIds", name := "declare", desc := "(IZJ)I" } : Jvm.MethodName) prog_1_method_8_code (6 : Nat) (Option.some Jvm.ClassFile.FieldType.int)) ∈ zzW := jw_of (i := 304) (by decide +kernel) (by decide +kernel)
theorem jw_305 : (Jvm.Cond.methodLink "StreamIdsLaw" (48 : Nat) ({ cls := "StreamIds", name := "id", desc := "(I)J" } : Jvm.MethodName)) ∈ zzW := jw_of (i := 305) (by decide +kernel) (by decide +kernel)
theorem jw_306 : (Jvm.Cond.instanceMethod ({ cls := "StreamIds", name := "id", desc := "(I)J" } : Jvm.MethodName)) ∈ zzW := jw_of (i := 306) (by decide +kernel) (by decide +kernel)
theorem jw_307 : (Jvm.Cond.selects "StreamIds" ({ cls := "StreamIds", name := "id", desc := "(I)J" } : Jvm.MethodName) ({ cls := "StreamIds", name := "id", desc := "(I)J" } : Jvm.MethodName)) ∈ zzW := jw_of (i := 307) (by decide +kernel) (by decide +kernel)
theorem jw_308 : (Jvm.Cond.code ({ cls := "StreamIds", name := "id", desc := "(I)J" } : Jvm.MethodName) prog_1_method_9_code (3 : Nat) (Option.some Jvm.ClassFile.FieldType.long)) ∈ zzW := jw_of (i := 308) (by decide +kernel) (by decide +kernel)
theorem jw_309 : (Jvm.Cond.constantLong "StreamIds" (108 : Nat) (-9000000000000000001 : Int64)) ∈ zzW := jw_of (i := 309) (by decide +kernel) (by decide +kernel)
theorem jw_310 : (Jvm.Cond.methodLink "StreamIds" (113 : Nat) ({ cls := "StreamIds$Layout", name := "write", desc := "(LStreamIds$Declaration;)V" } : Jvm.MethodName)) ∈ zzW := jw_of (i := 310) (by decide +kernel) (by decide +kernel)
theorem jw_311 : (Jvm.Cond.instanceMethod ({ cls := "StreamIds$Layout", name := "write", desc := "(LStreamIds$Declaration;)V" } : Jvm.MethodName)) ∈ zzW := jw_of (i := 311) (by decide +kernel) (by decide +kernel)
theorem jw_312 : (Jvm.Cond.selects "StreamIds$Layout" ({ cls := "StreamIds$Layout", name := "write", desc := "(LStreamIds$Declaration;)V" } : Jvm.MethodName) ({ cls := "StreamIds$Layout", name := "write", desc := "(LStreamIds$Declaration;)V" } : Jvm.MethodName)) ∈ zzW := jw_of (i := 312) (by decide +kernel) (by decide +kernel)
theorem jw_313 : (Jvm.Cond.code ({ cls := "StreamIds$Layout", name := "write", desc := "(LStreamIds$Declaration;)V" } : Jvm.MethodName) prog_5_method_2_code (2 : Nat) (Option.none : Option Jvm.ClassFile.FieldType)) ∈ zzW := jw_of (i := 313) (by decide +kernel) (by decide +kernel)
theorem jw_314 : (Jvm.Cond.methodLink "StreamIds$Layout" (29 : Nat) ({ cls := "StreamIds$Layout", name := "putText", desc := "(LStreamIds$Text;)V" } : Jvm.MethodName)) ∈ zzW := jw_of (i := 314) (by decide +kernel) (by decide +kernel)
theorem jw_316 : (Jvm.Cond.instanceMethod ({ cls := "StreamIds$Layout", name := "putText", desc := "(LStreamIds$Text;)V" } : Jvm.MethodName)) ∈ zzW := jw_of (i := 316) (by decide +kernel) (by decide +kernel)
theorem jw_317 : (Jvm.Cond.code ({ cls := "StreamIds$Layout", name := "putText", desc := "(LStreamIds$Text;)V" } : Jvm.MethodName) prog_5_method_6_code (3 : Nat) (Option.none : Option Jvm.ClassFile.FieldType)) ∈ zzW := jw_of (i := 317) (by decide +kernel) (by decide +kernel)
theorem jw_318 : (Jvm.Cond.methodLink "StreamIds$Layout" (95 : Nat) ({ cls := "StreamIds$Layout", name := "putLength", desc := "(I)V" } : Jvm.MethodName)) ∈ zzW := jw_of (i := 318) (by decide +kernel) (by decide +kernel)
theorem jw_320 : (Jvm.Cond.instanceMethod ({ cls := "StreamIds$Layout", name := "putLength", desc := "(I)V" } : Jvm.MethodName)) ∈ zzW := jw_of (i := 320) (by decide +kernel) (by decide +kernel)
theorem jw_321 : (Jvm.Cond.code ({ cls := "StreamIds$Layout", name := "putLength", desc := "(I)V" } : Jvm.MethodName) prog_5_method_9_code (2 : Nat) (Option.none : Option Jvm.ClassFile.FieldType)) ∈ zzW := jw_of (i := 321) (by decide +kernel) (by decide +kernel)
theorem jw_322 : (Jvm.Cond.methodLink "StreamIds$Layout" (102 : Nat) ({ cls := "StreamIds$Layout", name := "put", desc := "(I)V" } : Jvm.MethodName)) ∈ zzW := jw_of (i := 322) (by decide +kernel) (by decide +kernel)
theorem jw_324 : (Jvm.Cond.instanceMethod ({ cls := "StreamIds$Layout", name := "put", desc := "(I)V" } : Jvm.MethodName)) ∈ zzW := jw_of (i := 324) (by decide +kernel) (by decide +kernel)
theorem jw_325 : (Jvm.Cond.code ({ cls := "StreamIds$Layout", name := "put", desc := "(I)V" } : Jvm.MethodName) prog_5_method_11_code (2 : Nat) (Option.none : Option Jvm.ClassFile.FieldType)) ∈ zzW := jw_of (i := 325) (by decide +kernel) (by decide +kernel)
theorem jw_326 : (Jvm.Cond.methodLink "StreamIds$Layout" (98 : Nat) ({ cls := "StreamIds$Text", name := "at", desc := "(I)I" } : Jvm.MethodName)) ∈ zzW := jw_of (i := 326) (by decide +kernel) (by decide +kernel)
theorem jw_327 : (Jvm.Cond.methodLink "StreamIds$Layout" (33 : Nat) ({ cls := "StreamIds$Declaration", name := "hashedModifiers", desc := "()I" } : Jvm.MethodName)) ∈ zzW := jw_of (i := 327) (by decide +kernel) (by decide +kernel)
theorem jw_328 : (Jvm.Cond.instanceMethod ({ cls := "StreamIds$Declaration", name := "hashedModifiers", desc := "()I" } : Jvm.MethodName)) ∈ zzW := jw_of (i := 328) (by decide +kernel) (by decide +kernel)
theorem jw_329 : (Jvm.Cond.selects "StreamIds$Declaration" ({ cls := "StreamIds$Declaration", name := "hashedModifiers", desc := "()I" } : Jvm.MethodName) ({ cls := "StreamIds$Declaration", name := "hashedModifiers", desc := "()I" } : Jvm.MethodName)) ∈ zzW := jw_of (i := 329) (by decide +kernel) (by decide +kernel)
theorem jw_330 : (Jvm.Cond.code ({ cls := "StreamIds$Declaration", name := "hashedModifiers", desc := "()I" } : Jvm.MethodName) prog_2_method_3_code (2 : Nat) (Option.some Jvm.ClassFile.FieldType.int)) ∈ zzW := jw_of (i := 330) (by decide +kernel) (by decide +kernel)
theorem jw_331 : (Jvm.Cond.methodLink "StreamIds$Declaration" (52 : Nat) ({ cls := "StreamIds$Row", name := "tally", desc := "(I)I" } : Jvm.MethodName)) ∈ zzW := jw_of (i := 331) (by decide +kernel) (by decide +kernel)
theorem jw_332 : (Jvm.Cond.instanceMethod ({ cls := "StreamIds$Row", name := "tally", desc := "(I)I" } : Jvm.MethodName)) ∈ zzW := jw_of (i := 332) (by decide +kernel) (by decide +kernel)
theorem jw_333 : (Jvm.Cond.selects "StreamIds$Row" ({ cls := "StreamIds$Row", name := "tally", desc := "(I)I" } : Jvm.MethodName) ({ cls := "StreamIds$Row", name := "tally", desc := "(I)I" } : Jvm.MethodName)) ∈ zzW := jw_of (i := 333) (by decide +kernel) (by decide +kernel)
theorem jw_334 : (Jvm.Cond.code ({ cls := "StreamIds$Row", name := "tally", desc := "(I)I" } : Jvm.MethodName) prog_6_method_4_code (4 : Nat) (Option.some Jvm.ClassFile.FieldType.int)) ∈ zzW := jw_of (i := 334) (by decide +kernel) (by decide +kernel)
theorem jw_335 : (Jvm.Cond.methodLink "StreamIds$Layout" (37 : Nat) ({ cls := "StreamIds$Layout", name := "putNumber", desc := "(I)V" } : Jvm.MethodName)) ∈ zzW := jw_of (i := 335) (by decide +kernel) (by decide +kernel)
theorem jw_337 : (Jvm.Cond.instanceMethod ({ cls := "StreamIds$Layout", name := "putNumber", desc := "(I)V" } : Jvm.MethodName)) ∈ zzW := jw_of (i := 337) (by decide +kernel) (by decide +kernel)
theorem jw_338 : (Jvm.Cond.code ({ cls := "StreamIds$Layout", name := "putNumber", desc := "(I)V" } : Jvm.MethodName) prog_5_method_10_code (2 : Nat) (Option.none : Option Jvm.ClassFile.FieldType)) ∈ zzW := jw_of (i := 338) (by decide +kernel) (by decide +kernel)
theorem jw_339 : (Jvm.Cond.methodLink "StreamIds$Layout" (45 : Nat) ({ cls := "StreamIds$Layout", name := "putAll", desc := "(LStreamIds$Row;I)V" } : Jvm.MethodName)) ∈ zzW := jw_of (i := 339) (by decide +kernel) (by decide +kernel)
theorem jw_341 : (Jvm.Cond.instanceMethod ({ cls := "StreamIds$Layout", name := "putAll", desc := "(LStreamIds$Row;I)V" } : Jvm.MethodName)) ∈ zzW := jw_of (i := 341) (by decide +kernel) (by decide +kernel)
theorem jw_342 : (Jvm.Cond.code ({ cls := "StreamIds$Layout", name := "putAll", desc := "(LStreamIds$Row;I)V" } : Jvm.MethodName) prog_5_method_4_code (5 : Nat) (Option.none : Option Jvm.ClassFile.FieldType)) ∈ zzW := jw_of (i := 342) (by decide +kernel) (by decide +kernel)
theorem jw_343 : (Jvm.Cond.methodLink "StreamIds$Layout" (66 : Nat) ({ cls := "StreamIds$Entry", name := "isHashed", desc := "()Z" } : Jvm.MethodName)) ∈ zzW := jw_of (i := 343) (by decide +kernel) (by decide +kernel)
theorem jw_344 : (Jvm.Cond.instanceMethod ({ cls := "StreamIds$Entry", name := "isHashed", desc := "()Z" } : Jvm.MethodName)) ∈ zzW := jw_of (i := 344) (by decide +kernel) (by decide +kernel)
theorem jw_345 : (Jvm.Cond.selects "StreamIds$Entry" ({ cls := "StreamIds$Entry", name := "isHashed", desc := "()Z" } : Jvm.MethodName) ({ cls := "StreamIds$Entry", name := "isHashed", desc := "()Z" } : Jvm.MethodName)) ∈ zzW := jw_of (i := 345) (by decide +kernel) (by decide +kernel)
theorem jw_346 : (Jvm.Cond.code ({ cls := "StreamIds$Entry", name := "isHashed", desc := "()Z" } : Jvm.MethodName) prog_4_method_5_code (1 : Nat) (Option.some Jvm.ClassFile.FieldType.boolean)) ∈ zzW := jw_of (i := 346) (by decide +kernel) (by decide +kernel)
theorem jw_347 : (Jvm.Cond.methodLink "StreamIds$Entry" (36 : Nat) ({ cls := "StreamIds$Entry", name := "has", desc := "(I)Z" } : Jvm.MethodName)) ∈ zzW := jw_of (i := 347) (by decide +kernel) (by decide +kernel)
theorem jw_348 : (Jvm.Cond.instanceMethod ({ cls := "StreamIds$Entry", name := "has", desc := "(I)Z" } : Jvm.MethodName)) ∈ zzW := jw_of (i := 348) (by decide +kernel) (by decide +kernel)
theorem jw_349 : (Jvm.Cond.selects "StreamIds$Entry" ({ cls := "StreamIds$Entry", name := "has", desc := "(I)Z" } : Jvm.MethodName) ({ cls := "StreamIds$Entry", name := "has", desc := "(I)Z" } : Jvm.MethodName)) ∈ zzW := jw_of (i := 349) (by decide +kernel) (by decide +kernel)
theorem jw_350 : (Jvm.Cond.code ({ cls := "StreamIds$Entry", name := "has", desc := "(I)Z" } : Jvm.MethodName) prog_4_method_4_code (2 : Nat) (Option.some Jvm.ClassFile.FieldType.boolean)) ∈ zzW := jw_of (i := 350) (by decide +kernel) (by decide +kernel)
theorem jw_351 : (Jvm.Cond.methodLink "StreamIds$Layout" (70 : Nat) ({ cls := "StreamIds$Layout", name := "putEntry", desc := "(LStreamIds$Entry;)V" } : Jvm.MethodName)) ∈ zzW := jw_of (i := 351) (by decide +kernel) (by decide +kernel)
theorem jw_353 : (Jvm.Cond.instanceMethod ({ cls := "StreamIds$Layout", name := "putEntry", desc := "(LStreamIds$Entry;)V" } : Jvm.MethodName)) ∈ zzW := jw_of (i := 353) (by decide +kernel) (by decide +kernel)
theorem jw_354 : (Jvm.Cond.code ({ cls := "StreamIds$Layout", name := "putEntry", desc := "(LStreamIds$Entry;)V" } : Jvm.MethodName) prog_5_method_5_code (2 : Nat) (Option.none : Option Jvm.ClassFile.FieldType)) ∈ zzW := jw_of (i := 354) (by decide +kernel) (by decide +kernel)
theorem jw_356 : (Jvm.Cond.methodLink "StreamIds$Layout" (83 : Nat) ({ cls := "StreamIds$Layout", name := "putConstant", desc := "(Ljava/lang/String;)V" } : Jvm.MethodName)) ∈ zzW := jw_of (i := 356) (by decide +kernel) (by decide +kernel)
theorem jw_358 : (Jvm.Cond.instanceMethod ({ cls := "StreamIds$Layout", name := "putConstant", desc := "(Ljava/lang/String;)V" } : Jvm.MethodName)) ∈ zzW := jw_of (i := 358) (by decide +kernel) (by decide +kernel)
theorem jw_359 : (Jvm.Cond.code ({ cls := "StreamIds$Layout", name := "putConstant", desc := "(Ljava/lang/String;)V" } : Jvm.MethodName) prog_5_method_8_code (3 : Nat) (Option.none : Option Jvm.ClassFile.FieldType)) ∈ zzW := jw_of (i := 359) (by decide +kernel) (by decide +kernel)
theorem jw_360 : (Jvm.Cond.methodLink "StreamIds$Layout" (105 : Nat) ({ cls := "java/lang/String", name := "length", desc := "()I" } : Jvm.MethodName)) ∈ zzW := jw_of (i := 360) (by decide +kernel) (by decide +kernel)
theorem jw_361 : (Jvm.Cond.instanceMethod ({ cls := "java/lang/String", name := "length", desc := "()I" } : Jvm.MethodName)) ∈ zzW := jw_of (i := 361) (by decide +kernel) (by decide +kernel)
theorem jw_362 : (Jvm.Cond.selects "java/lang/String" ({ cls := "java/lang/String", name := "length", desc := "()I" } : Jvm.MethodName) ({ cls := "java/lang/String", name := "length", desc := "()I" } : Jvm.MethodName)) ∈ zzW := jw_of (i := 362) (by decide +kernel) (by decide +kernel)
theorem jw_363 : (Jvm.Cond.code ({ cls := "java/lang/String", name := "length", desc := "()I" } : Jvm.MethodName) prog_12_method_54_code (1 : Nat) (Option.some Jvm.ClassFile.FieldType.int)) ∈ zzW := jw_of (i := 363) (by decide +kernel) (by decide +kernel)
theorem jw_364 : (Jvm.Cond.methodLink "java/lang/String" (335 : Nat) ({ cls := "java/lang/String", name := "coder", desc := "()B" } : Jvm.MethodName)) ∈ zzW := jw_of (i := 364) (by decide +kernel) (by decide +kernel)
theorem jw_365 : (Jvm.Cond.instanceMethod ({ cls := "java/lang/String", name := "coder", desc := "()B" } : Jvm.MethodName)) ∈ zzW := jw_of (i := 365) (by decide +kernel) (by decide +kernel)
theorem jw_366 : (Jvm.Cond.selects "java/lang/String" ({ cls := "java/lang/String", name := "coder", desc := "()B" } : Jvm.MethodName) ({ cls := "java/lang/String", name := "coder", desc := "()B" } : Jvm.MethodName)) ∈ zzW := jw_of (i := 366) (by decide +kernel) (by decide +kernel)
theorem jw_367 : (Jvm.Cond.code ({ cls := "java/lang/String", name := "coder", desc := "()B" } : Jvm.MethodName) prog_12_method_152_code (1 : Nat) (Option.some Jvm.ClassFile.FieldType.byte)) ∈ zzW := jw_of (i := 367) (by decide +kernel) (by decide +kernel)
theorem jw_368 : (Jvm.Cond.fieldLink "java/lang/String" (38 : Nat) "java/lang/String" "COMPACT_STRINGS" "Z") ∈ zzW := jw_of (i := 368) (by decide +kernel) (by decide +kernel)
theorem jw_370 : (Jvm.Cond.methodLink "StreamIds$Layout" (109 : Nat) ({ cls := "java/lang/String", name := "charAt", desc := "(I)C" } : Jvm.MethodName)) ∈ zzW := jw_of (i := 370) (by decide +kernel) (by decide +kernel)
theorem jw_371 : (Jvm.Cond.instanceMethod ({ cls := "java/lang/String", name := "charAt", desc := "(I)C" } : Jvm.MethodName)) ∈ zzW := jw_of (i := 371) (by decide +kernel) (by decide +kernel)
theorem jw_372 : (Jvm.Cond.selects "java/lang/String" ({ cls := "java/lang/String", name := "charAt", desc := "(I)C" } : Jvm.MethodName) ({ cls := "java/lang/String", name := "charAt", desc := "(I)C" } : Jvm.MethodName)) ∈ zzW := jw_of (i := 372) (by decide +kernel) (by decide +kernel)
theorem jw_373 : (Jvm.Cond.code ({ cls := "java/lang/String", name := "charAt", desc := "(I)C" } : Jvm.MethodName) prog_12_method_56_code (2 : Nat) (Option.some Jvm.ClassFile.FieldType.char)) ∈ zzW := jw_of (i := 373) (by decide +kernel) (by decide +kernel)
theorem jw_374 : (Jvm.Cond.methodLink "java/lang/String" (492 : Nat) ({ cls := "java/lang/String", name := "isLatin1", desc := "()Z" } : Jvm.MethodName)) ∈ zzW := jw_of (i := 374) (by decide +kernel) (by decide +kernel)
theorem jw_375 : (Jvm.Cond.instanceMethod ({ cls := "java/lang/String", name := "isLatin1", desc := "()Z" } : Jvm.MethodName)) ∈ zzW := jw_of (i := 375) (by decide +kernel) (by decide +kernel)
theorem jw_376 : (Jvm.Cond.selects "java/lang/String" ({ cls := "java/lang/String", name := "isLatin1", desc := "()Z" } : Jvm.MethodName) ({ cls := "java/lang/String", name := "isLatin1", desc := "()Z" } : Jvm.MethodName)) ∈ zzW := jw_of (i := 376) (by decide +kernel) (by decide +kernel)
theorem jw_377 : (Jvm.Cond.code ({ cls := "java/lang/String", name := "isLatin1", desc := "()Z" } : Jvm.MethodName) prog_12_method_154_code (1 : Nat) (Option.some Jvm.ClassFile.FieldType.boolean)) ∈ zzW := jw_of (i := 377) (by decide +kernel) (by decide +kernel)
theorem jw_378 : (Jvm.Cond.methodLink "java/lang/String" (495 : Nat) ({ cls := "java/lang/StringLatin1", name := "charAt", desc := "([BI)C" } : Jvm.MethodName)) ∈ zzW := jw_of (i := 378) (by decide +kernel) (by decide +kernel)
theorem jw_379 : (Jvm.Cond.static ({ cls := "java/lang/StringLatin1", name := "charAt", desc := "([BI)C" } : Jvm.MethodName)) ∈ zzW := jw_of (i := 379) (by decide +kernel) (by decide +kernel)
theorem jw_380 : (Jvm.Cond.code ({ cls := "java/lang/StringLatin1", name := "charAt", desc := "([BI)C" } : Jvm.MethodName) prog_13_method_2_code (2 : Nat) (Option.some Jvm.ClassFile.FieldType.char)) ∈ zzW := jw_of (i := 380) (by decide +kernel) (by decide +kernel)
theorem jw_381 : (Jvm.Cond.methodLink "java/lang/StringLatin1" (9 : Nat) ({ cls := "java/lang/String", name := "checkIndex", desc := "(II)V" } : Jvm.MethodName)) ∈ zzW := jw_of (i := 381) (by decide +kernel) (by decide +kernel)
theorem jw_382 : (Jvm.Cond.static ({ cls := "java/lang/String", name := "checkIndex", desc := "(II)V" } : Jvm.MethodName)) ∈ zzW := jw_of (i := 382) (by decide +kernel) (by decide +kernel)
theorem jw_383 : (Jvm.Cond.code ({ cls := "java/lang/String", name := "checkIndex", desc := "(II)V" } : Jvm.MethodName) prog_12_method_155_code (2 : Nat) (Option.none : Option Jvm.ClassFile.FieldType)) ∈ zzW := jw_of (i := 383) (by decide +kernel) (by decide +kernel)
theorem jw_384 : (Jvm.Cond.fieldLink "java/lang/String" (1053 : Nat) "jdk/internal/util/Preconditions" "SIOOBE_FORMATTER" "Ljava/util/function/BiFunction;") ∈ zzW := jw_of (i := 384) (by decide +kernel) (by decide +kernel)
theorem jw_386 : (Jvm.Cond.methodLink "java/lang/String" (1059 : Nat) ({ cls := "jdk/internal/util/Preconditions", name := "checkIndex", desc := "(IILjava/util/function/BiFunction;)I" } : Jvm.MethodName)) ∈ zzW := jw_of (i := 386) (by decide +kernel) (by decide +kernel)
theorem jw_387 : (Jvm.Cond.static ({ cls := "jdk/internal/util/Preconditions", name := "checkIndex", desc := "(IILjava/util/function/BiFunction;)I" } : Jvm.MethodName)) ∈ zzW := jw_of (i := 387) (by decide +kernel) (by decide +kernel)
theorem jw_388 : (Jvm.Cond.code ({ cls := "jdk/internal/util/Preconditions", name := "checkIndex", desc := "(IILjava/util/function/BiFunction;)I" } : Jvm.MethodName) prog_16_method_11_code (3 : Nat) (Option.some Jvm.ClassFile.FieldType.int)) ∈ zzW := jw_of (i := 388) (by decide +kernel) (by decide +kernel)
theorem jw_389 : (Jvm.Cond.methodLink "java/lang/String" (498 : Nat) ({ cls := "java/lang/StringUTF16", name := "charAt", desc := "([BI)C" } : Jvm.MethodName)) ∈ zzW := jw_of (i := 389) (by decide +kernel) (by decide +kernel)
theorem jw_390 : (Jvm.Cond.static ({ cls := "java/lang/StringUTF16", name := "charAt", desc := "([BI)C" } : Jvm.MethodName)) ∈ zzW := jw_of (i := 390) (by decide +kernel) (by decide +kernel)
theorem jw_391 : (Jvm.Cond.code ({ cls := "java/lang/StringUTF16", name := "charAt", desc := "([BI)C" } : Jvm.MethodName) prog_14_method_83_code (2 : Nat) (Option.some Jvm.ClassFile.FieldType.char)) ∈ zzW := jw_of (i := 391) (by decide +kernel) (by decide +kernel)
theorem jw_392 : (Jvm.Cond.methodLink "java/lang/StringUTF16" (67 : Nat) ({ cls := "java/lang/StringUTF16", name := "checkIndex", desc := "(I[B)V" } : Jvm.MethodName)) ∈ zzW := jw_of (i := 392) (by decide +kernel) (by decide +kernel)
theorem jw_393 : (Jvm.Cond.static ({ cls := "java/lang/StringUTF16", name := "checkIndex", desc := "(I[B)V" } : Jvm.MethodName)) ∈ zzW := jw_of (i := 393) (by decide +kernel) (by decide +kernel)
theorem jw_394 : (Jvm.Cond.code ({ cls := "java/lang/StringUTF16", name := "checkIndex", desc := "(I[B)V" } : Jvm.MethodName) prog_14_method_91_code (2 : Nat) (Option.none : Option Jvm.ClassFile.FieldType)) ∈ zzW := jw_of (i := 394) (by decide +kernel) (by decide +kernel)
theorem jw_395 : (Jvm.Cond.methodLink "java/lang/StringUTF16" (48 : Nat) ({ cls := "java/lang/StringUTF16", name := "length", desc := "([B)I" } : Jvm.MethodName)) ∈ zzW := jw_of (i := 395) (by decide +kernel) (by decide +kernel)
theorem jw_396 : (Jvm.Cond.static ({ cls := "java/lang/StringUTF16", name := "length", desc := "([B)I" } : Jvm.MethodName)) ∈ zzW := jw_of (i := 396) (by decide +kernel) (by decide +kernel)
theorem jw_397 : (Jvm.Cond.code ({ cls := "java/lang/StringUTF16", name := "length", desc := "([B)I" } : Jvm.MethodName) prog_14_method_6_code (1 : Nat) (Option.some Jvm.ClassFile.FieldType.int)) ∈ zzW := jw_of (i := 397) (by decide +kernel) (by decide +kernel)
theorem jw_398 : (Jvm.Cond.methodLink "java/lang/StringUTF16" (414 : Nat) ({ cls := "java/lang/String", name := "checkIndex", desc := "(II)V" } : Jvm.MethodName)) ∈ zzW := jw_of (i := 398) (by decide +kernel) (by decide +kernel)
theorem jw_399 : (Jvm.Cond.methodLink "java/lang/StringUTF16" (71 : Nat) ({ cls := "java/lang/StringUTF16", name := "getChar", desc := "([BI)C" } : Jvm.MethodName)) ∈ zzW := jw_of (i := 399) (by decide +kernel) (by decide +kernel)
theorem jw_400 : (Jvm.Cond.static ({ cls := "java/lang/StringUTF16", name := "getChar", desc := "([BI)C" } : Jvm.MethodName)) ∈ zzW := jw_of (i := 400) (by decide +kernel) (by decide +kernel)
theorem jw_401 : (Jvm.Cond.code ({ cls := "java/lang/StringUTF16", name := "getChar", desc := "([BI)C" } : Jvm.MethodName) prog_14_method_5_code (2 : Nat) (Option.some Jvm.ClassFile.FieldType.char)) ∈ zzW := jw_of (i := 401) (by decide +kernel) (by decide +kernel)
theorem jw_402 : (Jvm.Cond.fieldLink "java/lang/StringUTF16" (44 : Nat) "java/lang/StringUTF16" "$assertionsDisabled" "Z") ∈ zzW := jw_of (i := 402) (by decide +kernel) (by decide +kernel)
theorem jw_404 : (Jvm.Cond.fieldLink "java/lang/StringUTF16" (59 : Nat) "java/lang/StringUTF16" "HI_BYTE_SHIFT" "I") ∈ zzW := jw_of (i := 404) (by decide +kernel) (by decide +kernel)
theorem jw_406 : (Jvm.Cond.fieldLink "java/lang/StringUTF16" (63 : Nat) "java/lang/StringUTF16" "LO_BYTE_SHIFT" "I") ∈ zzW := jw_of (i := 406) (by decide +kernel) (by decide +kernel)
theorem jw_410 : (Jvm.Cond.methodLink "StreamIds$Layout" (89 : Nat) ({ cls := "StreamIds$Layout", name := "putDotted", desc := "(LStreamIds$Text;)V" } : Jvm.MethodName)) ∈ zzW := jw_of (i := 410) (by decide +kernel) (by decide +kernel)
theorem jw_412 : (Jvm.Cond.instanceMethod ({ cls := "StreamIds$Layout", name := "putDotted", desc := "(LStreamIds$Text;)V" } : Jvm.MethodName)) ∈ zzW := jw_of (i := 412) (by decide +kernel) (by decide +kernel)
theorem jw_413 : (Jvm.Cond.code ({ cls := "StreamIds$Layout", name := "putDotted", desc := "(LStreamIds$Text;)V" } : Jvm.MethodName) prog_5_method_7_code (3 : Nat) (Option.none : Option Jvm.ClassFile.FieldType)) ∈ zzW := jw_of (i := 413) (by decide +kernel) (by decide +kernel)
theorem jw_414 : (Jvm.Cond.methodLink "StreamIds" (117 : Nat) ({ cls := "StreamIds$Digest", name := "take", desc := "(LStreamIds$Layout;)V" } : Jvm.MethodName)) ∈ zzW := jw_of (i := 414) (by decide +kernel) (by decide +kernel)
theorem jw_415 : (Jvm.Cond.instanceMethod ({ cls := "StreamIds$Digest", name := "take", desc := "(LStreamIds$Layout;)V" } : Jvm.MethodName)) ∈ zzW := jw_of (i := 415) (by decide +kernel) (by decide +kernel)
theorem jw_416 : (Jvm.Cond.selects "StreamIds$Digest" ({ cls := "StreamIds$Digest", name := "take", desc := "(LStreamIds$Layout;)V" } : Jvm.MethodName) ({ cls := "StreamIds$Digest", name := "take", desc := "(LStreamIds$Layout;)V" } : Jvm.MethodName)) ∈ zzW := jw_of (i := 416) (by decide +kernel) (by decide +kernel)
theorem jw_417 : (Jvm.Cond.code ({ cls := "StreamIds$Digest", name := "take", desc := "(LStreamIds$Layout;)V" } : Jvm.MethodName) prog_3_method_2_code (4 : Nat) (Option.none : Option Jvm.ClassFile.FieldType)) ∈ zzW := jw_of (i := 417) (by decide +kernel) (by decide +kernel)
theorem jw_420 : (Jvm.Cond.methodLink "StreamIds$Digest" (21 : Nat) ({ cls := "java/lang/System", name := "arraycopy", desc := "(Ljava/lang/Object;ILjava/lang/Object;II)V" } : Jvm.MethodName)) ∈ zzW := jw_of (i := 420) (by decide +kernel) (by decide +kernel)
theorem jw_421 : (Jvm.Cond.methodLink "StreamIds$Digest" (33 : Nat) ({ cls := "StreamIds$Digest", name := "fillWords", desc := "(LStreamIds$Layout;II)V" } : Jvm.MethodName)) ∈ zzW := jw_of (i := 421) (by decide +kernel) (by decide +kernel)
theorem jw_423 : (Jvm.Cond.instanceMethod ({ cls := "StreamIds$Digest", name := "fillWords", desc := "(LStreamIds$Layout;II)V" } : Jvm.MethodName)) ∈ zzW := jw_of (i := 423) (by decide +kernel) (by decide +kernel)
theorem jw_424 : (Jvm.Cond.code ({ cls := "StreamIds$Digest", name := "fillWords", desc := "(LStreamIds$Layout;II)V" } : Jvm.MethodName) prog_3_method_4_code (7 : Nat) (Option.none : Option Jvm.ClassFile.FieldType)) ∈ zzW := jw_of (i := 424) (by decide +kernel) (by decide +kernel)
theorem jw_425 : (Jvm.Cond.methodLink "StreamIds$Digest" (46 : Nat) ({ cls := "StreamIds$Digest", name := "paddedAt", desc := "(LStreamIds$Layout;II)I" } : Jvm.MethodName)) ∈ zzW := jw_of (i := 425) (by decide +kernel) (by decide +kernel)
theorem jw_426 : (Jvm.Cond.static ({ cls := "StreamIds$Digest", name := "paddedAt", desc := "(LStreamIds$Layout;II)I" } : Jvm.MethodName)) ∈ zzW := jw_of (i := 426) (by decide +kernel) (by decide +kernel)
theorem jw_427 : (Jvm.Cond.code ({ cls := "StreamIds$Digest", name := "paddedAt", desc := "(LStreamIds$Layout;II)I" } : Jvm.MethodName) prog_3_method_5_code (4 : Nat) (Option.some Jvm.ClassFile.FieldType.int)) ∈ zzW := jw_of (i := 427) (by decide +kernel) (by decide +kernel)
theorem jw_428 : (Jvm.Cond.methodLink "StreamIds$Digest" (54 : Nat) ({ cls := "StreamIds$Layout", name := "at", desc := "(I)I" } : Jvm.MethodName)) ∈ zzW := jw_of (i := 428) (by decide +kernel) (by decide +kernel)
theorem jw_429 : (Jvm.Cond.instanceMethod ({ cls := "StreamIds$Layout", name := "at", desc := "(I)I" } : Jvm.MethodName)) ∈ zzW := jw_of (i := 429) (by decide +kernel) (by decide +kernel)
theorem jw_430 : (Jvm.Cond.selects "StreamIds$Layout" ({ cls := "StreamIds$Layout", name := "at", desc := "(I)I" } : Jvm.MethodName) ({ cls := "StreamIds$Layout", name := "at", desc := "(I)I" } : Jvm.MethodName)) ∈ zzW := jw_of (i := 430) (by decide +kernel) (by decide +kernel)
theorem jw_431 : (Jvm.Cond.code ({ cls := "StreamIds$Layout", name := "at", desc := "(I)I" } : Jvm.MethodName) prog_5_method_3_code (2 : Nat) (Option.some Jvm.ClassFile.FieldType.int)) ∈ zzW := jw_of (i := 431) (by decide +kernel) (by decide +kernel)
theorem jw_432 : (Jvm.Cond.methodLink "StreamIds$Digest" (50 : Nat) ({ cls := "StreamIds$Digest", name := "turned", desc := "(II)I" } : Jvm.MethodName)) ∈ zzW := jw_of (i := 432) (by decide +kernel) (by decide +kernel)
theorem jw_433 : (Jvm.Cond.static ({ cls := "StreamIds$Digest", name := "turned", desc := "(II)I" } : Jvm.MethodName)) ∈ zzW := jw_of (i := 433) (by decide +kernel) (by decide +kernel)
theorem jw_434 : (Jvm.Cond.code ({ cls := "StreamIds$Digest", name := "turned", desc := "(II)I" } : Jvm.MethodName) prog_3_method_8_code (2 : Nat) (Option.some Jvm.ClassFile.FieldType.int)) ∈ zzW := jw_of (i := 434) (by decide +kernel) (by decide +kernel)
theorem jw_435 : (Jvm.Cond.methodLink "StreamIds$Digest" (37 : Nat) ({ cls := "StreamIds$Digest", name := "mixWords", desc := "()V" } : Jvm.MethodName)) ∈ zzW := jw_of (i := 435) (by decide +kernel) (by decide +kernel)
theorem jw_437 : (Jvm.Cond.instanceMethod ({ cls := "StreamIds$Digest", name := "mixWords", desc := "()V" } : Jvm.MethodName)) ∈ zzW := jw_of (i := 437) (by decide +kernel) (by decide +kernel)
theorem jw_438 : (Jvm.Cond.code ({ cls := "StreamIds$Digest", name := "mixWords", desc := "()V" } : Jvm.MethodName) prog_3_method_6_code (8 : Nat) (Option.none : Option Jvm.ClassFile.FieldType)) ∈ zzW := jw_of (i := 438) (by decide +kernel) (by decide +kernel)
theorem jw_439 : (Jvm.Cond.methodLink "StreamIds$Digest" (57 : Nat) ({ cls := "StreamIds$Digest", name := "chosen", desc := "(IIII)I" } : Jvm.MethodName)) ∈ zzW := jw_of (i := 439) (by decide +kernel) (by decide +kernel)
theorem jw_440 : (Jvm.Cond.static ({ cls := "StreamIds$Digest", name := "chosen", desc := "(IIII)I" } : Jvm.MethodName)) ∈ zzW := jw_of (i := 440) (by decide +kernel) (by decide +kernel)
theorem jw_441 : (Jvm.Cond.code ({ cls := "StreamIds$Digest", name := "chosen", desc := "(IIII)I" } : Jvm.MethodName) prog_3_method_7_code (4 : Nat) (Option.some Jvm.ClassFile.FieldType.int)) ∈ zzW := jw_of (i := 441) (by decide +kernel) (by decide +kernel)
theorem jw_444 : (Jvm.Cond.methodLink "StreamIds" (121 : Nat) ({ cls := "StreamIds$Digest", name := "firstEightReversed", desc := "()J" } : Jvm.MethodName)) ∈ zzW := jw_of (i := 444) (by decide +kernel) (by decide +kernel)
theorem jw_445 : (Jvm.Cond.instanceMethod ({ cls := "StreamIds$Digest", name := "firstEightReversed", desc := "()J" } : Jvm.MethodName)) ∈ zzW := jw_of (i := 445) (by decide +kernel) (by decide +kernel)
theorem jw_446 : (Jvm.Cond.selects "StreamIds$Digest" ({ cls := "StreamIds$Digest", name := "firstEightReversed", desc := "()J" } : Jvm.MethodName) ({ cls := "StreamIds$Digest", name := "firstEightReversed", desc := "()J" } : Jvm.MethodName)) ∈ zzW := jw_of (i := 446) (by decide +kernel) (by decide +kernel)
theorem jw_447 : (Jvm.Cond.code ({ cls := "StreamIds$Digest", name := "firstEightReversed", desc := "()J" } : Jvm.MethodName) prog_3_method_3_code (5 : Nat) (Option.some Jvm.ClassFile.FieldType.long)) ∈ zzW := jw_of (i := 447) (by decide +kernel) (by decide +kernel)
theorem jw_448 : (Jvm.Cond.methodLink "StreamIds$Digest" (40 : Nat) ({ cls := "StreamIds$Digest", name := "reversed", desc := "(I)I" } : Jvm.MethodName)) ∈ zzW := jw_of (i := 448) (by decide +kernel) (by decide +kernel)
theorem jw_449 : (Jvm.Cond.static ({ cls := "StreamIds$Digest", name := "reversed", desc := "(I)I" } : Jvm.MethodName)) ∈ zzW := jw_of (i := 449) (by decide +kernel) (by decide +kernel)
theorem jw_450 : (Jvm.Cond.code ({ cls := "StreamIds$Digest", name := "reversed", desc := "(I)I" } : Jvm.MethodName) prog_3_method_9_code (1 : Nat) (Option.some Jvm.ClassFile.FieldType.int)) ∈ zzW := jw_of (i := 450) (by decide +kernel) (by decide +kernel)
theorem jw_451 : (Jvm.Cond.constant "StreamIds$Digest" (64 : Nat) (65280 : Int32)) ∈ zzW := jw_of (i := 451) (by decide +kernel) (by decide +kernel)
theorem jw_452 : (Jvm.Cond.constantLong "StreamIds$Digest" (44 : Nat) (4294967295 : Int64)) ∈ zzW := jw_of (i := 452) (by decide +kernel) (by decide +kernel)
theorem jw_453 : (Jvm.Cond.methodLink "StreamIdsLaw" (53 : Nat) ({ cls := "StreamIds", name := "hash", desc := "(II)J" } : Jvm.MethodName)) ∈ zzW := jw_of (i := 453) (by decide +kernel) (by decide +kernel)
theorem jw_454 : (Jvm.Cond.instanceMethod ({ cls := "StreamIds", name := "hash", desc := "(II)J" } : Jvm.MethodName)) ∈ zzW := jw_of (i := 454) (by decide +kernel) (by decide +kernel)
theorem jw_455 : (Jvm.Cond.selects "StreamIds" ({ cls := "StreamIds", name := "hash", desc := "(II)J" } : Jvm.MethodName) ({ cls := "StreamIds", name := "hash", desc := "(II)J" } : Jvm.MethodName)) ∈ zzW := jw_of (i := 455) (by decide +kernel) (by decide +kernel)
theorem jw_456 : (Jvm.Cond.code ({ cls := "StreamIds", name := "hash", desc := "(II)J" } : Jvm.MethodName) prog_1_method_10_code (4 : Nat) (Option.some Jvm.ClassFile.FieldType.long)) ∈ zzW := jw_of (i := 456) (by decide +kernel) (by decide +kernel)
theorem jw_457 : (Jvm.Cond.methodLink "StreamIdsLaw" (58 : Nat) ({ cls := "StreamIds", name := "size", desc := "(I)I" } : Jvm.MethodName)) ∈ zzW := jw_of (i := 457) (by decide +kernel) (by decide +kernel)
theorem jw_458 : (Jvm.Cond.instanceMethod ({ cls := "StreamIds", name := "size", desc := "(I)I" } : Jvm.MethodName)) ∈ zzW := jw_of (i := 458) (by decide +kernel) (by decide +kernel)
theorem jw_459 : (Jvm.Cond.selects "StreamIds" ({ cls := "StreamIds", name := "size", desc := "(I)I" } : Jvm.MethodName) ({ cls := "StreamIds", name := "size", desc := "(I)I" } : Jvm.MethodName)) ∈ zzW := jw_of (i := 459) (by decide +kernel) (by decide +kernel)
theorem jw_460 : (Jvm.Cond.code ({ cls := "StreamIds", name := "size", desc := "(I)I" } : Jvm.MethodName) prog_1_method_11_code (3 : Nat) (Option.some Jvm.ClassFile.FieldType.int)) ∈ zzW := jw_of (i := 460) (by decide +kernel) (by decide +kernel)
theorem jw_461 : (Jvm.Cond.methodLink "StreamIdsLaw" (62 : Nat) ({ cls := "StreamIds", name := "byteAt", desc := "(II)I" } : Jvm.MethodName)) ∈ zzW := jw_of (i := 461) (by decide +kernel) (by decide +kernel)
theorem jw_462 : (Jvm.Cond.instanceMethod ({ cls := "StreamIds", name := "byteAt", desc := "(II)I" } : Jvm.MethodName)) ∈ zzW := jw_of (i := 462) (by decide +kernel) (by decide +kernel)
theorem jw_463 : (Jvm.Cond.selects "StreamIds" ({ cls := "StreamIds", name := "byteAt", desc := "(II)I" } : Jvm.MethodName) ({ cls := "StreamIds", name := "byteAt", desc := "(II)I" } : Jvm.MethodName)) ∈ zzW := jw_of (i := 463) (by decide +kernel) (by decide +kernel)
theorem jw_464 : (Jvm.Cond.code ({ cls := "StreamIds", name := "byteAt", desc := "(II)I" } : Jvm.MethodName) prog_1_method_12_code (4 : Nat) (Option.some Jvm.ClassFile.FieldType.int)) ∈ zzW := jw_of (i := 464) (by decide +kernel) (by decide +kernel)
theorem jw_465 : (Jvm.Cond.methodLink "StreamIds" (130 : Nat) ({ cls := "StreamIds$Layout", name := "at", desc := "(I)I" } : Jvm.MethodName)) ∈ zzW := jw_of (i := 465) (by decide +kernel) (by decide +kernel)
theorem jw_466 : (Jvm.Cond.methodLink "StreamIdsLaw" (66 : Nat) ({ cls := "StreamIds", name := "part", desc := "(II)I" } : Jvm.MethodName)) ∈ zzW := jw_of (i := 466) (by decide +kernel) (by decide +kernel)
theorem jw_467 : (Jvm.Cond.instanceMethod ({ cls := "StreamIds", name := "part", desc := "(II)I" } : Jvm.MethodName)) ∈ zzW := jw_of (i := 467) (by decide +kernel) (by decide +kernel)
theorem jw_468 : (Jvm.Cond.selects "StreamIds" ({ cls := "StreamIds", name := "part", desc := "(II)I" } : Jvm.MethodName) ({ cls := "StreamIds", name := "part", desc := "(II)I" } : Jvm.MethodName)) ∈ zzW := jw_of (i := 468) (by decide +kernel) (by decide +kernel)
theorem jw_469 : (Jvm.Cond.code ({ cls := "StreamIds", name := "part", desc := "(II)I" } : Jvm.MethodName) prog_1_method_13_code (4 : Nat) (Option.some Jvm.ClassFile.FieldType.int)) ∈ zzW := jw_of (i := 469) (by decide +kernel) (by decide +kernel)
theorem jw_470 : (Jvm.Cond.methodLink "StreamIdsLaw" (70 : Nat) ({ cls := "StreamIds", name := "count", desc := "(II)I" } : Jvm.MethodName)) ∈ zzW := jw_of (i := 470) (by decide +kernel) (by decide +kernel)
theorem jw_471 : (Jvm.Cond.instanceMethod ({ cls := "StreamIds", name := "count", desc := "(II)I" } : Jvm.MethodName)) ∈ zzW := jw_of (i := 471) (by decide +kernel) (by decide +kernel)
theorem jw_472 : (Jvm.Cond.selects "StreamIds" ({ cls := "StreamIds", name := "count", desc := "(II)I" } : Jvm.MethodName) ({ cls := "StreamIds", name := "count", desc := "(II)I" } : Jvm.MethodName)) ∈ zzW := jw_of (i := 472) (by decide +kernel) (by decide +kernel)
theorem jw_473 : (Jvm.Cond.code ({ cls := "StreamIds", name := "count", desc := "(II)I" } : Jvm.MethodName) prog_1_method_14_code (4 : Nat) (Option.some Jvm.ClassFile.FieldType.int)) ∈ zzW := jw_of (i := 473) (by decide +kernel) (by decide +kernel)
theorem jw_474 : (Jvm.Cond.methodLink "StreamIds" (140 : Nat) ({ cls := "StreamIds$Row", name := "tally", desc := "(I)I" } : Jvm.MethodName)) ∈ zzW := jw_of (i := 474) (by decide +kernel) (by decide +kernel)
theorem jw_475 : (Jvm.Cond.classLink "StreamIdsLaw" (10 : Nat) "StreamIdsModel") ∈ zzW := jw_of (i := 475) (by decide +kernel) (by decide +kernel)
theorem jw_476 : (Jvm.Cond.instantiable "StreamIdsModel" (17 : Nat)) ∈ zzW := jw_of (i := 476) (by decide +kernel) (by decide +kernel)
theorem jw_477 : (Jvm.Cond.methodLink "StreamIdsLaw" (12 : Nat) ({ cls := "StreamIdsModel", name := "<init>", desc := "()V" } : Jvm.MethodName)) ∈ zzW := jw_of (i := 477) (by decide +kernel) (by decide +kernel)
theorem jw_478 : (Jvm.Cond.instanceMethod ({ cls := "StreamIdsModel", name := "<init>", desc := "()V" } : Jvm.MethodName)) ∈ zzW := jw_of (i := 478) (by decide +kernel) (by decide +kernel)
theorem jw_479 : (Jvm.Cond.code ({ cls := "StreamIdsModel", name := "<init>", desc := "()V" } : Jvm.MethodName) prog_10_method_1_code (1 : Nat) (Option.none : Option Jvm.ClassFile.FieldType)) ∈ zzW := jw_of (i := 479) (by decide +kernel) (by decide +kernel)
theorem jw_480 : (Jvm.Cond.methodLink "StreamIdsModel" (1 : Nat) ({ cls := "java/lang/Object", name := "<init>", desc := "()V" } : Jvm.MethodName)) ∈ zzW := jw_of (i := 480) (by decide +kernel) (by decide +kernel)
theorem jw_481 : (Jvm.Cond.fieldLink "StreamIdsModel" (7 : Nat) "StreamIdsModel" "sign" "[I") ∈ zzW := jw_of (i := 481) (by decide +kernel) (by decide +kernel)
theorem jw_482 : (Jvm.Cond.fieldLink "StreamIdsModel" (13 : Nat) "StreamIdsModel" "length" "[I") ∈ zzW := jw_of (i := 482) (by decide +kernel) (by decide +kernel)
theorem jw_483 : (Jvm.Cond.fieldLink "StreamIdsModel" (16 : Nat) "StreamIdsModel" "there" "[Z") ∈ zzW := jw_of (i := 483) (by decide +kernel) (by decide +kernel)
theorem jw_484 : (Jvm.Cond.fieldLink "StreamIdsModel" (20 : Nat) "StreamIdsModel" "modifiers" "[I") ∈ zzW := jw_of (i := 484) (by decide +kernel) (by decide +kernel)
theorem jw_485 : (Jvm.Cond.fieldLink "StreamIdsModel" (23 : Nat) "StreamIdsModel" "faces" "[I") ∈ zzW := jw_of (i := 485) (by decide +kernel) (by decide +kernel)
theorem jw_486 : (Jvm.Cond.fieldLink "StreamIdsModel" (26 : Nat) "StreamIdsModel" "members" "[I") ∈ zzW := jw_of (i := 486) (by decide +kernel) (by decide +kernel)
theorem jw_487 : (Jvm.Cond.fieldLink "StreamIdsModel" (29 : Nat) "StreamIdsModel" "declared" "[Z") ∈ zzW := jw_of (i := 487) (by decide +kernel) (by decide +kernel)
theorem jw_488 : (Jvm.Cond.fieldLink "StreamIdsModel" (32 : Nat) "StreamIdsModel" "given" "[J") ∈ zzW := jw_of (i := 488) (by decide +kernel) (by decide +kernel)
theorem jw_489 : (Jvm.Cond.fieldLink "StreamIdsModel" (36 : Nat) "StreamIdsModel" "kind" "[I") ∈ zzW := jw_of (i := 489) (by decide +kernel) (by decide +kernel)
theorem jw_490 : (Jvm.Cond.fieldLink "StreamIdsModel" (39 : Nat) "StreamIdsModel" "flags" "[I") ∈ zzW := jw_of (i := 490) (by decide +kernel) (by decide +kernel)
theorem jw_491 : (Jvm.Cond.fieldLink "StreamIdsModel" (42 : Nat) "StreamIdsModel" "bytes" "[I") ∈ zzW := jw_of (i := 491) (by decide +kernel) (by decide +kernel)
theorem jw_492 : (Jvm.Cond.fieldLink "StreamIdsModel" (92 : Nat) "StreamIdsModel" "size" "I") ∈ zzW := jw_of (i := 492) (by decide +kernel) (by decide +kernel)
theorem jw_493 : (Jvm.Cond.fieldLink "StreamIdsModel" (45 : Nat) "StreamIdsModel" "part" "[I") ∈ zzW := jw_of (i := 493) (by decide +kernel) (by decide +kernel)
theorem jw_494 : (Jvm.Cond.fieldLink "StreamIdsModel" (48 : Nat) "StreamIdsModel" "h" "[I") ∈ zzW := jw_of (i := 494) (by decide +kernel) (by decide +kernel)
theorem jw_495 : (Jvm.Cond.fieldLink "StreamIdsModel" (51 : Nat) "StreamIdsModel" "w" "[I") ∈ zzW := jw_of (i := 495) (by decide +kernel) (by decide +kernel)
theorem jw_496 : (Jvm.Cond.fieldLink "StreamIdsModel" (62 : Nat) "StreamIdsModel" "at" "I") ∈ zzW := jw_of (i := 496) (by decide +kernel) (by decide +kernel)
theorem jw_497 : (Jvm.Cond.fieldLink "StreamIdsModel" (58 : Nat) "StreamIdsModel" "end" "I") ∈ zzW := jw_of (i := 497) (by decide +kernel) (by decide +kernel)
theorem jw_498 : (Jvm.Cond.laysFinal "StreamIdsModel" "StreamIdsModel" "sign" "[I") ∈ zzW := jw_of (i := 498) (by decide +kernel) (by decide +kernel)
theorem jw_500 : (Jvm.Cond.laysFinal "StreamIdsModel" "StreamIdsModel" "length" "[I") ∈ zzW := jw_of (i := 500) (by decide +kernel) (by decide +kernel)
theorem jw_502 : (Jvm.Cond.laysFinal "StreamIdsModel" "StreamIdsModel" "there" "[Z") ∈ zzW := jw_of (i := 502) (by decide +kernel) (by decide +kernel)
theorem jw_504 : (Jvm.Cond.laysFinal "StreamIdsModel" "StreamIdsModel" "modifiers" "[I") ∈ zzW := jw_of (i := 504) (by decide +kernel) (by decide +kernel)
theorem jw_506 : (Jvm.Cond.laysFinal "StreamIdsModel" "StreamIdsModel" "faces" "[I") ∈ zzW := jw_of (i := 506) (by decide +kernel) (by decide +kernel)
theorem jw_508 : (Jvm.Cond.laysFinal "StreamIdsModel" "StreamIdsModel" "members" "[I") ∈ zzW := jw_of (i := 508) (by decide +kernel) (by decide +kernel)
theorem jw_510 : (Jvm.Cond.laysFinal "StreamIdsModel" "StreamIdsModel" "declared" "[Z") ∈ zzW := jw_of (i := 510) (by decide +kernel) (by decide +kernel)
theorem jw_512 : (Jvm.Cond.laysFinal "StreamIdsModel" "StreamIdsModel" "given" "[J") ∈ zzW := jw_of (i := 512) (by decide +kernel) (by decide +kernel)
theorem jw_514 : (Jvm.Cond.laysFinal "StreamIdsModel" "StreamIdsModel" "kind" "[I") ∈ zzW := jw_of (i := 514) (by decide +kernel) (by decide +kernel)
theorem jw_516 : (Jvm.Cond.laysFinal "StreamIdsModel" "StreamIdsModel" "flags" "[I") ∈ zzW := jw_of (i := 516) (by decide +kernel) (by decide +kernel)
theorem jw_518 : (Jvm.Cond.laysFinal "StreamIdsModel" "StreamIdsModel" "bytes" "[I") ∈ zzW := jw_of (i := 518) (by decide +kernel) (by decide +kernel)
theorem jw_520 : (Jvm.Cond.lays "StreamIdsModel" "StreamIdsModel" "size" "I") ∈ zzW := jw_of (i := 520) (by decide +kernel) (by decide +kernel)
theorem jw_522 : (Jvm.Cond.laysFinal "StreamIdsModel" "StreamIdsModel" "part" "[I") ∈ zzW := jw_of (i := 522) (by decide +kernel) (by decide +kernel)
theorem jw_524 : (Jvm.Cond.laysFinal "StreamIdsModel" "StreamIdsModel" "h" "[I") ∈ zzW := jw_of (i := 524) (by decide +kernel) (by decide +kernel)
theorem jw_526 : (Jvm.Cond.laysFinal "StreamIdsModel" "StreamIdsModel" "w" "[I") ∈ zzW := jw_of (i := 526) (by decide +kernel) (by decide +kernel)
theorem jw_528 : (Jvm.Cond.lays "StreamIdsModel" "StreamIdsModel" "at" "I") ∈ zzW := jw_of (i := 528) (by decide +kernel) (by decide +kernel)
theorem jw_530 : (Jvm.Cond.lays "StreamIdsModel" "StreamIdsModel" "end" "I") ∈ zzW := jw_of (i := 530) (by decide +kernel) (by decide +kernel)
theorem jw_533 : (Jvm.Cond.arrayClass Jvm.ClassFile.FieldType.boolean) ∈ zzW := jw_of (i := 533) (by decide +kernel) (by decide +kernel)
theorem jw_534 : (Jvm.Cond.arrayClass Jvm.ClassFile.FieldType.long) ∈ zzW := jw_of (i := 534) (by decide +kernel) (by decide +kernel)
theorem jw_535 : (Jvm.Cond.methodLink "StreamIdsLaw" (19 : Nat) ({ cls := "StreamIdsModel", name := "type", desc := "(IJ)I" } : Jvm.MethodName)) ∈ zzW := jw_of (i := 535) (by decide +kernel) (by decide +kernel)
theorem jw_536 : (Jvm.Cond.instanceMethod ({ cls := "StreamIdsModel", name := "type", desc := "(IJ)I" } : Jvm.MethodName)) ∈ zzW := jw_of (i := 536) (by decide +kernel) (by decide +kernel)
theorem jw_537 : (Jvm.Cond.selects "StreamIdsModel" ({ cls := "StreamIdsModel", name := "type", desc := "(IJ)I" } : Jvm.MethodName) ({ cls := "StreamIdsModel", name := "type", desc := "(IJ)I" } : Jvm.MethodName)) ∈ zzW := jw_of (i := 537) (by decide +kernel) (by decide +kernel)
theorem jw_538 : (Jvm.Cond.code ({ cls := "StreamIdsModel", name := "type", desc := "(IJ)I" } : Jvm.MethodName) prog_10_method_4_code (7 : Nat) (Option.some Jvm.ClassFile.FieldType.int)) ∈ zzW := jw_of (i := 538) (by decide +kernel) (by decide +kernel)
theorem jw_539 : (Jvm.Cond.methodLink "StreamIdsModel" (54 : Nat) ({ cls := "StreamIdsModel", name := "out", desc := "(II)Z" } : Jvm.MethodName)) ∈ zzW := jw_of (i := 539) (by decide +kernel) (by decide +kernel)
theorem jw_541 : (Jvm.Cond.instanceMethod ({ cls := "StreamIdsModel", name := "out", desc := "(II)Z" } : Jvm.MethodName)) ∈ zzW := jw_of (i := 541) (by decide +kernel) (by decide +kernel)
theorem jw_542 : (Jvm.Cond.code ({ cls := "StreamIdsModel", name := "out", desc := "(II)Z" } : Jvm.MethodName) prog_10_method_2_code (3 : Nat) (Option.some Jvm.ClassFile.FieldType.boolean)) ∈ zzW := jw_of (i := 542) (by decide +kernel) (by decide +kernel)
theorem jw_543 : (Jvm.Cond.methodLink "StreamIdsLaw" (24 : Nat) ({ cls := "StreamIdsModel", name := "clear", desc := "(I)I" } : Jvm.MethodName)) ∈ zzW := jw_of (i := 543) (by decide +kernel) (by decide +kernel)
theorem jw_544 : (Jvm.Cond.instanceMethod ({ cls := "StreamIdsModel", name := "clear", desc := "(I)I" } : Jvm.MethodName)) ∈ zzW := jw_of (i := 544) (by decide +kernel) (by decide +kernel)
theorem jw_545 : (Jvm.Cond.selects "StreamIdsModel" ({ cls := "StreamIdsModel", name := "clear", desc := "(I)I" } : Jvm.MethodName) ({ cls := "StreamIdsModel", name := "clear", desc := "(I)I" } : Jvm.MethodName)) ∈ zzW := jw_of (i := 545) (by decide +kernel) (by decide +kernel)
theorem jw_546 : (Jvm.Cond.code ({ cls := "StreamIdsModel", name := "clear", desc := "(I)I" } : Jvm.MethodName) prog_10_method_5_code (3 : Nat) (Option.some Jvm.ClassFile.FieldType.int)) ∈ zzW := jw_of (i := 546) (by decide +kernel) (by decide +kernel)
theorem jw_547 : (Jvm.Cond.methodLink "StreamIdsLaw" (29 : Nat) ({ cls := "StreamIdsModel", name := "define", desc := "(II)I" } : Jvm.MethodName)) ∈ zzW := jw_of (i := 547) (by decide +kernel) (by decide +kernel)
theorem jw_548 : (Jvm.Cond.instanceMethod ({ cls := "StreamIdsModel", name := "define", desc := "(II)I" } : Jvm.MethodName)) ∈ zzW := jw_of (i := 548) (by decide +kernel) (by decide +kernel)
theorem jw_549 : (Jvm.Cond.selects "StreamIdsModel" ({ cls := "StreamIdsModel", name := "define", desc := "(II)I" } : Jvm.MethodName) ({ cls := "StreamIdsModel", name := "define", desc := "(II)I" } : Jvm.MethodName)) ∈ zzW := jw_of (i := 549) (by decide +kernel) (by decide +kernel)
theorem jw_550 : (Jvm.Cond.code ({ cls := "StreamIdsModel", name := "define", desc := "(II)I" } : Jvm.MethodName) prog_10_method_11_code (3 : Nat) (Option.some Jvm.ClassFile.FieldType.int)) ∈ zzW := jw_of (i := 550) (by decide +kernel) (by decide +kernel)
theorem jw_551 : (Jvm.Cond.constant "StreamIdsModel" (73 : Nat) (65535 : Int32)) ∈ zzW := jw_of (i := 551) (by decide +kernel) (by decide +kernel)
theorem jw_552 : (Jvm.Cond.methodLink "StreamIdsModel" (74 : Nat) ({ cls := "StreamIdsModel", name := "copy", desc := "(II)V" } : Jvm.MethodName)) ∈ zzW := jw_of (i := 552) (by decide +kernel) (by decide +kernel)
theorem jw_554 : (Jvm.Cond.instanceMethod ({ cls := "StreamIdsModel", name := "copy", desc := "(II)V" } : Jvm.MethodName)) ∈ zzW := jw_of (i := 554) (by decide +kernel) (by decide +kernel)
theorem jw_555 : (Jvm.Cond.code ({ cls := "StreamIdsModel", name := "copy", desc := "(II)V" } : Jvm.MethodName) prog_10_method_6_code (4 : Nat) (Option.none : Option Jvm.ClassFile.FieldType)) ∈ zzW := jw_of (i := 555) (by decide +kernel) (by decide +kernel)
theorem jw_556 : (Jvm.Cond.methodLink "StreamIdsLaw" (33 : Nat) ({ cls := "StreamIdsModel", name := "face", desc := "(I)I" } : Jvm.MethodName)) ∈ zzW := jw_of (i := 556) (by decide +kernel) (by decide +kernel)
theorem jw_557 : (Jvm.Cond.instanceMethod ({ cls := "StreamIdsModel", name := "face", desc := "(I)I" } : Jvm.MethodName)) ∈ zzW := jw_of (i := 557) (by decide +kernel) (by decide +kernel)
theorem jw_558 : (Jvm.Cond.selects "StreamIdsModel" ({ cls := "StreamIdsModel", name := "face", desc := "(I)I" } : Jvm.MethodName) ({ cls := "StreamIdsModel", name := "face", desc := "(I)I" } : Jvm.MethodName)) ∈ zzW := jw_of (i := 558) (by decide +kernel) (by decide +kernel)
theorem jw_559 : (Jvm.Cond.code ({ cls := "StreamIdsModel", name := "face", desc := "(I)I" } : Jvm.MethodName) prog_10_method_12_code (3 : Nat) (Option.some Jvm.ClassFile.FieldType.int)) ∈ zzW := jw_of (i := 559) (by decide +kernel) (by decide +kernel)
theorem jw_560 : (Jvm.Cond.methodLink "StreamIdsModel" (78 : Nat) ({ cls := "StreamIdsModel", name := "none", desc := "(I)Z" } : Jvm.MethodName)) ∈ zzW := jw_of (i := 560) (by decide +kernel) (by decide +kernel)
theorem jw_562 : (Jvm.Cond.instanceMethod ({ cls := "StreamIdsModel", name := "none", desc := "(I)Z" } : Jvm.MethodName)) ∈ zzW := jw_of (i := 562) (by decide +kernel) (by decide +kernel)
theorem jw_563 : (Jvm.Cond.code ({ cls := "StreamIdsModel", name := "none", desc := "(I)Z" } : Jvm.MethodName) prog_10_method_3_code (2 : Nat) (Option.some Jvm.ClassFile.FieldType.boolean)) ∈ zzW := jw_of (i := 563) (by decide +kernel) (by decide +kernel)
theorem jw_564 : (Jvm.Cond.methodLink "StreamIdsModel" (82 : Nat) ({ cls := "StreamIdsModel", name := "compare", desc := "(II)I" } : Jvm.MethodName)) ∈ zzW := jw_of (i := 564) (by decide +kernel) (by decide +kernel)
theorem jw_566 : (Jvm.Cond.instanceMethod ({ cls := "StreamIdsModel", name := "compare", desc := "(II)I" } : Jvm.MethodName)) ∈ zzW := jw_of (i := 566) (by decide +kernel) (by decide +kernel)
theorem jw_567 : (Jvm.Cond.code ({ cls := "StreamIdsModel", name := "compare", desc := "(II)I" } : Jvm.MethodName) prog_10_method_7_code (6 : Nat) (Option.some Jvm.ClassFile.FieldType.int)) ∈ zzW := jw_of (i := 567) (by decide +kernel) (by decide +kernel)
theorem jw_568 : (Jvm.Cond.methodLink "StreamIdsLaw" (38 : Nat) ({ cls := "StreamIdsModel", name := "member", desc := "(III)I" } : Jvm.MethodName)) ∈ zzW := jw_of (i := 568) (by decide +kernel) (by decide +kernel)
theorem jw_569 : (Jvm.Cond.instanceMethod ({ cls := "StreamIdsModel", name := "member", desc := "(III)I" } : Jvm.MethodName)) ∈ zzW := jw_of (i := 569) (by decide +kernel) (by decide +kernel)
theorem jw_570 : (Jvm.Cond.selects "StreamIdsModel" ({ cls := "StreamIdsModel", name := "member", desc := "(III)I" } : Jvm.MethodName) ({ cls := "StreamIdsModel", name := "member", desc := "(III)I" } : Jvm.MethodName)) ∈ zzW := jw_of (i := 570) (by decide +kernel) (by decide +kernel)
theorem jw_571 : (Jvm.Cond.code ({ cls := "StreamIdsModel", name := "member", desc := "(III)I" } : Jvm.MethodName) prog_10_method_14_code (5 : Nat) (Option.some Jvm.ClassFile.FieldType.int)) ∈ zzW := jw_of (i := 571) (by decide +kernel) (by decide +kernel)
theorem jw_572 : (Jvm.Cond.methodLink "StreamIdsModel" (86 : Nat) ({ cls := "StreamIdsModel", name := "goodShape", desc := "(I)Z" } : Jvm.MethodName)) ∈ zzW := jw_of (i := 572) (by decide +kernel) (by decide +kernel)
theorem jw_574 : (Jvm.Cond.instanceMethod ({ cls := "StreamIdsModel", name := "goodShape", desc := "(I)Z" } : Jvm.MethodName)) ∈ zzW := jw_of (i := 574) (by decide +kernel) (by decide +kernel)
theorem jw_575 : (Jvm.Cond.code ({ cls := "StreamIdsModel", name := "goodShape", desc := "(I)Z" } : Jvm.MethodName) prog_10_method_10_code (2 : Nat) (Option.some Jvm.ClassFile.FieldType.boolean)) ∈ zzW := jw_of (i := 575) (by decide +kernel) (by decide +kernel)
theorem jw_576 : (Jvm.Cond.methodLink "StreamIdsModel" (69 : Nat) ({ cls := "StreamIdsModel", name := "passType", desc := "()Z" } : Jvm.MethodName)) ∈ zzW := jw_of (i := 576) (by decide +kernel) (by decide +kernel)
theorem jw_578 : (Jvm.Cond.instanceMethod ({ cls := "StreamIdsModel", name := "passType", desc := "()Z" } : Jvm.MethodName)) ∈ zzW := jw_of (i := 578) (by decide +kernel) (by decide +kernel)
theorem jw_579 : (Jvm.Cond.code ({ cls := "StreamIdsModel", name := "passType", desc := "()Z" } : Jvm.MethodName) prog_10_method_9_code (6 : Nat) (Option.some Jvm.ClassFile.FieldType.boolean)) ∈ zzW := jw_of (i := 579) (by decide +kernel) (by decide +kernel)
theorem jw_580 : (Jvm.Cond.methodLink "StreamIdsModel" (65 : Nat) ({ cls := "StreamIdsModel", name := "signAt", desc := "(I)I" } : Jvm.MethodName)) ∈ zzW := jw_of (i := 580) (by decide +kernel) (by decide +kernel)
theorem jw_582 : (Jvm.Cond.instanceMethod ({ cls := "StreamIdsModel", name := "signAt", desc := "(I)I" } : Jvm.MethodName)) ∈ zzW := jw_of (i := 582) (by decide +kernel) (by decide +kernel)
theorem jw_583 : (Jvm.Cond.code ({ cls := "StreamIdsModel", name := "signAt", desc := "(I)I" } : Jvm.MethodName) prog_10_method_8_code (2 : Nat) (Option.some Jvm.ClassFile.FieldType.int)) ∈ zzW := jw_of (i := 583) (by decide +kernel) (by decide +kernel)
theorem jw_584 : (Jvm.Cond.methodLink "StreamIdsModel" (89 : Nat) ({ cls := "StreamIdsModel", name := "find", desc := "(II)I" } : Jvm.MethodName)) ∈ zzW := jw_of (i := 584) (by decide +kernel) (by decide +kernel)
theorem jw_586 : (Jvm.Cond.instanceMethod ({ cls := "StreamIdsModel", name := "find", desc := "(II)I" } : Jvm.MethodName)) ∈ zzW := jw_of (i := 586) (by decide +kernel) (by decide +kernel)
theorem jw_587 : (Jvm.Cond.code ({ cls := "StreamIdsModel", name := "find", desc := "(II)I" } : Jvm.MethodName) prog_10_method_13_code (6 : Nat) (Option.some Jvm.ClassFile.FieldType.int)) ∈ zzW := jw_of (i := 587) (by decide +kernel) (by decide +kernel)
theorem jw_588 : (Jvm.Cond.methodLink "StreamIdsLaw" (42 : Nat) ({ cls := "StreamIdsModel", name := "remove", desc := "(II)I" } : Jvm.MethodName)) ∈ zzW := jw_of (i := 588) (by decide +kernel) (by decide +kernel)
theorem jw_589 : (Jvm.Cond.instanceMethod ({ cls := "StreamIdsModel", name := "remove", desc := "(II)I" } : Jvm.MethodName)) ∈ zzW := jw_of (i := 589) (by decide +kernel) (by decide +kernel)
theorem jw_590 : (Jvm.Cond.selects "StreamIdsModel" ({ cls := "StreamIdsModel", name := "remove", desc := "(II)I" } : Jvm.MethodName) ({ cls := "StreamIdsModel", name := "remove", desc := "(II)I" } : Jvm.MethodName)) ∈ zzW := jw_of (i := 590) (by decide +kernel) (by decide +kernel)
theorem jw_591 : (Jvm.Cond.code ({ cls := "StreamIdsModel", name := "remove", desc := "(II)I" } : Jvm.MethodName) prog_10_method_15_code (5 : Nat) (Option.some Jvm.ClassFile.FieldType.int)) ∈ zzW := jw_of (i := 591) (by decide +kernel) (by decide +kernel)
theorem jw_592 : (Jvm.Cond.methodLink "StreamIdsLaw" (47 : Nat) ({ cls := "StreamIdsModel", name := "declare", desc := "(IZJ)I" } : Jvm.MethodName)) ∈ zzW := jw_of (i := 592) (by decide +kernel) (by decide +kernel)
theorem jw_593 : (Jvm.Cond.instanceMethod ({ cls := "StreamIdsModel", name := "declare", desc := "(IZJ)I" } : Jvm.MethodName)) ∈ zzW := jw_of (i := 593) (by decide +kernel) (by decide +kernel)
theorem jw_594 : (Jvm.Cond.selects "StreamIdsModel" ({ cls := "StreamIdsModel", name := "declare", desc := "(IZJ)I" } : Jvm.MethodName) ({ cls := "StreamIdsModel", name := "declare", desc := "(IZJ)I" } : Jvm.MethodName)) ∈ zzW := jw_of (i := 594) (by decide +kernel) (by decide +kernel)
theorem jw_595 : (Jvm.Cond.code ({ cls := "StreamIdsModel", name := "declare", desc := "(IZJ)I" } : Jvm.MethodName) prog_10_method_16_code (5 : Nat) (Option.some Jvm.ClassFile.FieldType.int)) ∈ zzW := jw_of (i := 595) (by decide +kernel) (by decide +kernel)
theorem jw_596 : (Jvm.Cond.methodLink "StreamIdsLaw" (52 : Nat) ({ cls := "StreamIdsModel", name := "id", desc := "(I)J" } : Jvm.MethodName)) ∈ zzW := jw_of (i := 596) (by decide +kernel) (by decide +kernel)
theorem jw_597 : (Jvm.Cond.instanceMethod ({ cls := "StreamIdsModel", name := "id", desc := "(I)J" } : Jvm.MethodName)) ∈ zzW := jw_of (i := 597) (by decide +kernel) (by decide +kernel)
theorem jw_598 : (Jvm.Cond.selects "StreamIdsModel" ({ cls := "StreamIdsModel", name := "id", desc := "(I)J" } : Jvm.MethodName) ({ cls := "StreamIdsModel", name := "id", desc := "(I)J" } : Jvm.MethodName)) ∈ zzW := jw_of (i := 598) (by decide +kernel) (by decide +kernel)
theorem jw_599 : (Jvm.Cond.code ({ cls := "StreamIdsModel", name := "id", desc := "(I)J" } : Jvm.MethodName) prog_10_method_32_code (5 : Nat) (Option.some Jvm.ClassFile.FieldType.long)) ∈ zzW := jw_of (i := 599) (by decide +kernel) (by decide +kernel)
theorem jw_600 : (Jvm.Cond.constantLong "StreamIdsModel" (151 : Nat) (-9000000000000000001 : Int64)) ∈ zzW := jw_of (i := 600) (by decide +kernel) (by decide +kernel)
theorem jw_601 : (Jvm.Cond.methodLink "StreamIdsModel" (153 : Nat) ({ cls := "StreamIdsModel", name := "digest", desc := "(I)V" } : Jvm.MethodName)) ∈ zzW := jw_of (i := 601) (by decide +kernel) (by decide +kernel)
theorem jw_603 : (Jvm.Cond.instanceMethod ({ cls := "StreamIdsModel", name := "digest", desc := "(I)V" } : Jvm.MethodName)) ∈ zzW := jw_of (i := 603) (by decide +kernel) (by decide +kernel)
theorem jw_604 : (Jvm.Cond.code ({ cls := "StreamIdsModel", name := "digest", desc := "(I)V" } : Jvm.MethodName) prog_10_method_31_code (4 : Nat) (Option.none : Option Jvm.ClassFile.FieldType)) ∈ zzW := jw_of (i := 604) (by decide +kernel) (by decide +kernel)
theorem jw_605 : (Jvm.Cond.methodLink "StreamIdsModel" (140 : Nat) ({ cls := "StreamIdsModel", name := "build", desc := "(I)V" } : Jvm.MethodName)) ∈ zzW := jw_of (i := 605) (by decide +kernel) (by decide +kernel)
theorem jw_607 : (Jvm.Cond.instanceMethod ({ cls := "StreamIdsModel", name := "build", desc := "(I)V" } : Jvm.MethodName)) ∈ zzW := jw_of (i := 607) (by decide +kernel) (by decide +kernel)
theorem jw_608 : (Jvm.Cond.code ({ cls := "StreamIdsModel", name := "build", desc := "(I)V" } : Jvm.MethodName) prog_10_method_26_code (5 : Nat) (Option.none : Option Jvm.ClassFile.FieldType)) ∈ zzW := jw_of (i := 608) (by decide +kernel) (by decide +kernel)
theorem jw_609 : (Jvm.Cond.methodLink "StreamIdsModel" (110 : Nat) ({ cls := "StreamIdsModel", name := "utf", desc := "(IZ)V" } : Jvm.MethodName)) ∈ zzW := jw_of (i := 609) (by decide +kernel) (by decide +kernel)
theorem jw_611 : (Jvm.Cond.instanceMethod ({ cls := "StreamIdsModel", name := "utf", desc := "(IZ)V" } : Jvm.MethodName)) ∈ zzW := jw_of (i := 611) (by decide +kernel) (by decide +kernel)
theorem jw_612 : (Jvm.Cond.code ({ cls := "StreamIdsModel", name := "utf", desc := "(IZ)V" } : Jvm.MethodName) prog_10_method_19_code (5 : Nat) (Option.none : Option Jvm.ClassFile.FieldType)) ∈ zzW := jw_of (i := 612) (by decide +kernel) (by decide +kernel)
theorem jw_613 : (Jvm.Cond.methodLink "StreamIdsModel" (95 : Nat) ({ cls := "StreamIdsModel", name := "put", desc := "(I)V" } : Jvm.MethodName)) ∈ zzW := jw_of (i := 613) (by decide +kernel) (by decide +kernel)
theorem jw_615 : (Jvm.Cond.instanceMethod ({ cls := "StreamIdsModel", name := "put", desc := "(I)V" } : Jvm.MethodName)) ∈ zzW := jw_of (i := 615) (by decide +kernel) (by decide +kernel)
theorem jw_616 : (Jvm.Cond.code ({ cls := "StreamIdsModel", name := "put", desc := "(I)V" } : Jvm.MethodName) prog_10_method_17_code (2 : Nat) (Option.none : Option Jvm.ClassFile.FieldType)) ∈ zzW := jw_of (i := 616) (by decide +kernel) (by decide +kernel)
theorem jw_617 : (Jvm.Cond.methodLink "StreamIdsModel" (117 : Nat) ({ cls := "StreamIdsModel", name := "counted", desc := "(II)I" } : Jvm.MethodName)) ∈ zzW := jw_of (i := 617) (by decide +kernel) (by decide +kernel)
theorem jw_619 : (Jvm.Cond.instanceMethod ({ cls := "StreamIdsModel", name := "counted", desc := "(II)I" } : Jvm.MethodName)) ∈ zzW := jw_of (i := 619) (by decide +kernel) (by decide +kernel)
theorem jw_620 : (Jvm.Cond.code ({ cls := "StreamIdsModel", name := "counted", desc := "(II)I" } : Jvm.MethodName) prog_10_method_24_code (5 : Nat) (Option.some Jvm.ClassFile.FieldType.int)) ∈ zzW := jw_of (i := 620) (by decide +kernel) (by decide +kernel)
theorem jw_621 : (Jvm.Cond.methodLink "StreamIdsModel" (114 : Nat) ({ cls := "StreamIdsModel", name := "number", desc := "(I)V" } : Jvm.MethodName)) ∈ zzW := jw_of (i := 621) (by decide +kernel) (by decide +kernel)
theorem jw_623 : (Jvm.Cond.instanceMethod ({ cls := "StreamIdsModel", name := "number", desc := "(I)V" } : Jvm.MethodName)) ∈ zzW := jw_of (i := 623) (by decide +kernel) (by decide +kernel)
theorem jw_624 : (Jvm.Cond.code ({ cls := "StreamIdsModel", name := "number", desc := "(I)V" } : Jvm.MethodName) prog_10_method_18_code (3 : Nat) (Option.none : Option Jvm.ClassFile.FieldType)) ∈ zzW := jw_of (i := 624) (by decide +kernel) (by decide +kernel)
theorem jw_625 : (Jvm.Cond.methodLink "StreamIdsModel" (120 : Nat) ({ cls := "StreamIdsModel", name := "nextFace", desc := "(II)I" } : Jvm.MethodName)) ∈ zzW := jw_of (i := 625) (by decide +kernel) (by decide +kernel)
theorem jw_627 : (Jvm.Cond.instanceMethod ({ cls := "StreamIdsModel", name := "nextFace", desc := "(II)I" } : Jvm.MethodName)) ∈ zzW := jw_of (i := 627) (by decide +kernel) (by decide +kernel)
theorem jw_628 : (Jvm.Cond.code ({ cls := "StreamIdsModel", name := "nextFace", desc := "(II)I" } : Jvm.MethodName) prog_10_method_23_code (5 : Nat) (Option.some Jvm.ClassFile.FieldType.int)) ∈ zzW := jw_of (i := 628) (by decide +kernel) (by decide +kernel)
theorem jw_629 : (Jvm.Cond.methodLink "StreamIdsModel" (123 : Nat) ({ cls := "StreamIdsModel", name := "writeMembers", desc := "(II)V" } : Jvm.MethodName)) ∈ zzW := jw_of (i := 629) (by decide +kernel) (by decide +kernel)
theorem jw_631 : (Jvm.Cond.instanceMethod ({ cls := "StreamIdsModel", name := "writeMembers", desc := "(II)V" } : Jvm.MethodName)) ∈ zzW := jw_of (i := 631) (by decide +kernel) (by decide +kernel)
theorem jw_632 : (Jvm.Cond.code ({ cls := "StreamIdsModel", name := "writeMembers", desc := "(II)V" } : Jvm.MethodName) prog_10_method_25_code (6 : Nat) (Option.none : Option Jvm.ClassFile.FieldType)) ∈ zzW := jw_of (i := 632) (by decide +kernel) (by decide +kernel)
theorem jw_633 : (Jvm.Cond.methodLink "StreamIdsModel" (103 : Nat) ({ cls := "StreamIdsModel", name := "following", desc := "(III)I" } : Jvm.MethodName)) ∈ zzW := jw_of (i := 633) (by decide +kernel) (by decide +kernel)
theorem jw_635 : (Jvm.Cond.instanceMethod ({ cls := "StreamIdsModel", name := "following", desc := "(III)I" } : Jvm.MethodName)) ∈ zzW := jw_of (i := 635) (by decide +kernel) (by decide +kernel)
theorem jw_636 : (Jvm.Cond.code ({ cls := "StreamIdsModel", name := "following", desc := "(III)I" } : Jvm.MethodName) prog_10_method_22_code (6 : Nat) (Option.some Jvm.ClassFile.FieldType.int)) ∈ zzW := jw_of (i := 636) (by decide +kernel) (by decide +kernel)
theorem jw_637 : (Jvm.Cond.methodLink "StreamIdsModel" (99 : Nat) ({ cls := "StreamIdsModel", name := "orderOf", desc := "(III)I" } : Jvm.MethodName)) ∈ zzW := jw_of (i := 637) (by decide +kernel) (by decide +kernel)
theorem jw_639 : (Jvm.Cond.instanceMethod ({ cls := "StreamIdsModel", name := "orderOf", desc := "(III)I" } : Jvm.MethodName)) ∈ zzW := jw_of (i := 639) (by decide +kernel) (by decide +kernel)
theorem jw_640 : (Jvm.Cond.code ({ cls := "StreamIdsModel", name := "orderOf", desc := "(III)I" } : Jvm.MethodName) prog_10_method_21_code (5 : Nat) (Option.some Jvm.ClassFile.FieldType.int)) ∈ zzW := jw_of (i := 640) (by decide +kernel) (by decide +kernel)
theorem jw_641 : (Jvm.Cond.methodLink "StreamIdsModel" (106 : Nat) ({ cls := "StreamIdsModel", name := "initName", desc := "(Z)V" } : Jvm.MethodName)) ∈ zzW := jw_of (i := 641) (by decide +kernel) (by decide +kernel)
theorem jw_643 : (Jvm.Cond.instanceMethod ({ cls := "StreamIdsModel", name := "initName", desc := "(Z)V" } : Jvm.MethodName)) ∈ zzW := jw_of (i := 643) (by decide +kernel) (by decide +kernel)
theorem jw_644 : (Jvm.Cond.code ({ cls := "StreamIdsModel", name := "initName", desc := "(Z)V" } : Jvm.MethodName) prog_10_method_20_code (2 : Nat) (Option.none : Option Jvm.ClassFile.FieldType)) ∈ zzW := jw_of (i := 644) (by decide +kernel) (by decide +kernel)
theorem jw_645 : (Jvm.Cond.constant "StreamIdsModel" (143 : Nat) (1732584193 : Int32)) ∈ zzW := jw_of (i := 645) (by decide +kernel) (by decide +kernel)
theorem jw_646 : (Jvm.Cond.constant "StreamIdsModel" (144 : Nat) (-271733879 : Int32)) ∈ zzW := jw_of (i := 646) (by decide +kernel) (by decide +kernel)
theorem jw_647 : (Jvm.Cond.constant "StreamIdsModel" (145 : Nat) (-1732584194 : Int32)) ∈ zzW := jw_of (i := 647) (by decide +kernel) (by decide +kernel)
theorem jw_648 : (Jvm.Cond.constant "StreamIdsModel" (146 : Nat) (271733878 : Int32)) ∈ zzW := jw_of (i := 648) (by decide +kernel) (by decide +kernel)
theorem jw_649 : (Jvm.Cond.constant "StreamIdsModel" (147 : Nat) (-1009589776 : Int32)) ∈ zzW := jw_of (i := 649) (by decide +kernel) (by decide +kernel)
theorem jw_650 : (Jvm.Cond.methodLink "StreamIdsModel" (148 : Nat) ({ cls := "StreamIdsModel", name := "block", desc := "(I)V" } : Jvm.MethodName)) ∈ zzW := jw_of (i := 650) (by decide +kernel) (by decide +kernel)
theorem jw_652 : (Jvm.Cond.instanceMethod ({ cls := "StreamIdsModel", name := "block", desc := "(I)V" } : Jvm.MethodName)) ∈ zzW := jw_of (i := 652) (by decide +kernel) (by decide +kernel)
theorem jw_653 : (Jvm.Cond.code ({ cls := "StreamIdsModel", name := "block", desc := "(I)V" } : Jvm.MethodName) prog_10_method_30_code (9 : Nat) (Option.none : Option Jvm.ClassFile.FieldType)) ∈ zzW := jw_of (i := 653) (by decide +kernel) (by decide +kernel)
theorem jw_654 : (Jvm.Cond.methodLink "StreamIdsModel" (130 : Nat) ({ cls := "StreamIdsModel", name := "turned", desc := "(II)I" } : Jvm.MethodName)) ∈ zzW := jw_of (i := 654) (by decide +kernel) (by decide +kernel)
theorem jw_656 : (Jvm.Cond.instanceMethod ({ cls := "StreamIdsModel", name := "turned", desc := "(II)I" } : Jvm.MethodName)) ∈ zzW := jw_of (i := 656) (by decide +kernel) (by decide +kernel)
theorem jw_657 : (Jvm.Cond.code ({ cls := "StreamIdsModel", name := "turned", desc := "(II)I" } : Jvm.MethodName) prog_10_method_27_code (3 : Nat) (Option.some Jvm.ClassFile.FieldType.int)) ∈ zzW := jw_of (i := 657) (by decide +kernel) (by decide +kernel)
theorem jw_658 : (Jvm.Cond.methodLink "StreamIdsModel" (133 : Nat) ({ cls := "StreamIdsModel", name := "mixed", desc := "(IIII)I" } : Jvm.MethodName)) ∈ zzW := jw_of (i := 658) (by decide +kernel) (by decide +kernel)
theorem jw_660 : (Jvm.Cond.instanceMethod ({ cls := "StreamIdsModel", name := "mixed", desc := "(IIII)I" } : Jvm.MethodName)) ∈ zzW := jw_of (i := 660) (by decide +kernel) (by decide +kernel)
theorem jw_661 : (Jvm.Cond.code ({ cls := "StreamIdsModel", name := "mixed", desc := "(IIII)I" } : Jvm.MethodName) prog_10_method_28_code (5 : Nat) (Option.some Jvm.ClassFile.FieldType.int)) ∈ zzW := jw_of (i := 661) (by decide +kernel) (by decide +kernel)
theorem jw_662 : (Jvm.Cond.methodLink "StreamIdsModel" (137 : Nat) ({ cls := "StreamIdsModel", name := "constant", desc := "(I)I" } : Jvm.MethodName)) ∈ zzW := jw_of (i := 662) (by decide +kernel) (by decide +kernel)
theorem jw_664 : (Jvm.Cond.instanceMethod ({ cls := "StreamIdsModel", name := "constant", desc := "(I)I" } : Jvm.MethodName)) ∈ zzW := jw_of (i := 664) (by decide +kernel) (by decide +kernel)
theorem jw_665 : (Jvm.Cond.code ({ cls := "StreamIdsModel", name := "constant", desc := "(I)I" } : Jvm.MethodName) prog_10_method_29_code (2 : Nat) (Option.some Jvm.ClassFile.FieldType.int)) ∈ zzW := jw_of (i := 665) (by decide +kernel) (by decide +kernel)
theorem jw_666 : (Jvm.Cond.constant "StreamIdsModel" (126 : Nat) (1518500249 : Int32)) ∈ zzW := jw_of (i := 666) (by decide +kernel) (by decide +kernel)
theorem jw_667 : (Jvm.Cond.constant "StreamIdsModel" (127 : Nat) (1859775393 : Int32)) ∈ zzW := jw_of (i := 667) (by decide +kernel) (by decide +kernel)
theorem jw_668 : (Jvm.Cond.constant "StreamIdsModel" (128 : Nat) (-1894007588 : Int32)) ∈ zzW := jw_of (i := 668) (by decide +kernel) (by decide +kernel)
theorem jw_669 : (Jvm.Cond.constant "StreamIdsModel" (129 : Nat) (-899497514 : Int32)) ∈ zzW := jw_of (i := 669) (by decide +kernel) (by decide +kernel)
theorem jw_670 : (Jvm.Cond.methodLink "StreamIdsLaw" (57 : Nat) ({ cls := "StreamIdsModel", name := "hash", desc := "(II)J" } : Jvm.MethodName)) ∈ zzW := jw_of (i := 670) (by decide +kernel) (by decide +kernel)
theorem jw_671 : (Jvm.Cond.instanceMethod ({ cls := "StreamIdsModel", name := "hash", desc := "(II)J" } : Jvm.MethodName)) ∈ zzW := jw_of (i := 671) (by decide +kernel) (by decide +kernel)
theorem jw_672 : (Jvm.Cond.selects "StreamIdsModel" ({ cls := "StreamIdsModel", name := "hash", desc := "(II)J" } : Jvm.MethodName) ({ cls := "StreamIdsModel", name := "hash", desc := "(II)J" } : Jvm.MethodName)) ∈ zzW := jw_of (i := 672) (by decide +kernel) (by decide +kernel)
theorem jw_673 : (Jvm.Cond.code ({ cls := "StreamIdsModel", name := "hash", desc := "(II)J" } : Jvm.MethodName) prog_10_method_33_code (3 : Nat) (Option.some Jvm.ClassFile.FieldType.long)) ∈ zzW := jw_of (i := 673) (by decide +kernel) (by decide +kernel)
theorem jw_674 : (Jvm.Cond.methodLink "StreamIdsLaw" (61 : Nat) ({ cls := "StreamIdsModel", name := "size", desc := "(I)I" } : Jvm.MethodName)) ∈ zzW := jw_of (i := 674) (by decide +kernel) (by decide +kernel)
theorem jw_675 : (Jvm.Cond.instanceMethod ({ cls := "StreamIdsModel", name := "size", desc := "(I)I" } : Jvm.MethodName)) ∈ zzW := jw_of (i := 675) (by decide +kernel) (by decide +kernel)
theorem jw_676 : (Jvm.Cond.selects "StreamIdsModel" ({ cls := "StreamIdsModel", name := "size", desc := "(I)I" } : Jvm.MethodName) ({ cls := "StreamIdsModel", name := "size", desc := "(I)I" } : Jvm.MethodName)) ∈ zzW := jw_of (i := 676) (by decide +kernel) (by decide +kernel)
theorem jw_677 : (Jvm.Cond.code ({ cls := "StreamIdsModel", name := "size", desc := "(I)I" } : Jvm.MethodName) prog_10_method_34_code (2 : Nat) (Option.some Jvm.ClassFile.FieldType.int)) ∈ zzW := jw_of (i := 677) (by decide +kernel) (by decide +kernel)
theorem jw_678 : (Jvm.Cond.methodLink "StreamIdsLaw" (65 : Nat) ({ cls := "StreamIdsModel", name := "byteAt", desc := "(II)I" } : Jvm.MethodName)) ∈ zzW := jw_of (i := 678) (by decide +kernel) (by decide +kernel)
theorem jw_679 : (Jvm.Cond.instanceMethod ({ cls := "StreamIdsModel", name := "byteAt", desc := "(II)I" } : Jvm.MethodName)) ∈ zzW := jw_of (i := 679) (by decide +kernel) (by decide +kernel)
theorem jw_680 : (Jvm.Cond.selects "StreamIdsModel" ({ cls := "StreamIdsModel", name := "byteAt", desc := "(II)I" } : Jvm.MethodName) ({ cls := "StreamIdsModel", name := "byteAt", desc := "(II)I" } : Jvm.MethodName)) ∈ zzW := jw_of (i := 680) (by decide +kernel) (by decide +kernel)
theorem jw_681 : (Jvm.Cond.code ({ cls := "StreamIdsModel", name := "byteAt", desc := "(II)I" } : Jvm.MethodName) prog_10_method_35_code (3 : Nat) (Option.some Jvm.ClassFile.FieldType.int)) ∈ zzW := jw_of (i := 681) (by decide +kernel) (by decide +kernel)
theorem jw_682 : (Jvm.Cond.methodLink "StreamIdsLaw" (69 : Nat) ({ cls := "StreamIdsModel", name := "part", desc := "(II)I" } : Jvm.MethodName)) ∈ zzW := jw_of (i := 682) (by decide +kernel) (by decide +kernel)
theorem jw_683 : (Jvm.Cond.instanceMethod ({ cls := "StreamIdsModel", name := "part", desc := "(II)I" } : Jvm.MethodName)) ∈ zzW := jw_of (i := 683) (by decide +kernel) (by decide +kernel)
theorem jw_684 : (Jvm.Cond.selects "StreamIdsModel" ({ cls := "StreamIdsModel", name := "part", desc := "(II)I" } : Jvm.MethodName) ({ cls := "StreamIdsModel", name := "part", desc := "(II)I" } : Jvm.MethodName)) ∈ zzW := jw_of (i := 684) (by decide +kernel) (by decide +kernel)
theorem jw_685 : (Jvm.Cond.code ({ cls := "StreamIdsModel", name := "part", desc := "(II)I" } : Jvm.MethodName) prog_10_method_36_code (3 : Nat) (Option.some Jvm.ClassFile.FieldType.int)) ∈ zzW := jw_of (i := 685) (by decide +kernel) (by decide +kernel)
theorem jw_686 : (Jvm.Cond.methodLink "StreamIdsLaw" (73 : Nat) ({ cls := "StreamIdsModel", name := "count", desc := "(II)I" } : Jvm.MethodName)) ∈ zzW := jw_of (i := 686) (by decide +kernel) (by decide +kernel)
theorem jw_687 : (Jvm.Cond.instanceMethod ({ cls := "StreamIdsModel", name := "count", desc := "(II)I" } : Jvm.MethodName)) ∈ zzW := jw_of (i := 687) (by decide +kernel) (by decide +kernel)
theorem jw_688 : (Jvm.Cond.selects "StreamIdsModel" ({ cls := "StreamIdsModel", name := "count", desc := "(II)I" } : Jvm.MethodName) ({ cls := "StreamIdsModel", name := "count", desc := "(II)I" } : Jvm.MethodName)) ∈ zzW := jw_of (i := 688) (by decide +kernel) (by decide +kernel)
theorem jw_689 : (Jvm.Cond.code ({ cls := "StreamIdsModel", name := "count", desc := "(II)I" } : Jvm.MethodName) prog_10_method_37_code (3 : Nat) (Option.some Jvm.ClassFile.FieldType.int)) ∈ zzW := jw_of (i := 689) (by decide +kernel) (by decide +kernel)
theorem jw_690 : (Jvm.Cond.constantLong "StreamIdsLaw" (13 : Nat) (4294967295 : Int64)) ∈ zzW := jw_of (i := 690) (by decide +kernel) (by decide +kernel)
theorem jw_691 : (Jvm.Cond.fieldLink "java/lang/String" (9 : Nat) "java/lang/String" "value" "[B") ∈ zzW := jw_of (i := 691) (by decide +kernel) (by decide +kernel)
theorem jw_692 : (Jvm.Cond.fieldLink "java/lang/String" (15 : Nat) "java/lang/String" "coder" "B") ∈ zzW := jw_of (i := 692) (by decide +kernel) (by decide +kernel)
theorem jws_0 : Cond.selects "StreamIds" (⟨"StreamIds", "bufferOf", "(I)LStreamIds$Text;"⟩) (⟨"StreamIds", "bufferOf", "(I)LStreamIds$Text;"⟩) ∈ zzW := jw_sel (i := 0) (by decide +kernel) (by decide +kernel)
theorem jws_1 : Cond.selects "StreamIds" (⟨"StreamIds", "declarationOf", "(I)LStreamIds$Declaration;"⟩) (⟨"StreamIds", "declarationOf", "(I)LStreamIds$Declaration;"⟩) ∈ zzW := jw_sel (i := 1) (by decide +kernel) (by decide +kernel)
theorem jws_2 : Cond.selects "StreamIds$Row" (⟨"StreamIds$Row", "placeOf", "(ILStreamIds$Text;LStreamIds$Text;)I"⟩) (⟨"StreamIds$Row", "placeOf", "(ILStreamIds$Text;LStreamIds$Text;)I"⟩) ∈ zzW := jw_sel (i := 2) (by decide +kernel) (by decide +kernel)
theorem jws_3 : Cond.selects "StreamIds$Row" (⟨"StreamIds$Row", "isAt", "(IILStreamIds$Text;LStreamIds$Text;)Z"⟩) (⟨"StreamIds$Row", "isAt", "(IILStreamIds$Text;LStreamIds$Text;)Z"⟩) ∈ zzW := jw_sel (i := 3) (by decide +kernel) (by decide +kernel)
theorem jws_4 : Cond.selects "StreamIds" (⟨"StreamIds", "isNameFor", "(I)Z"⟩) (⟨"StreamIds", "isNameFor", "(I)Z"⟩) ∈ zzW := jw_sel (i := 4) (by decide +kernel) (by decide +kernel)
theorem jws_5 : Cond.selects "StreamIds" (⟨"StreamIds", "isShapeFor", "(I)Z"⟩) (⟨"StreamIds", "isShapeFor", "(I)Z"⟩) ∈ zzW := jw_sel (i := 5) (by decide +kernel) (by decide +kernel)
theorem jws_6 : Cond.selects "StreamIds$Layout" (⟨"StreamIds$Layout", "putText", "(LStreamIds$Text;)V"⟩) (⟨"StreamIds$Layout", "putText", "(LStreamIds$Text;)V"⟩) ∈ zzW := jw_sel (i := 6) (by decide +kernel) (by decide +kernel)
theorem jws_7 : Cond.selects "StreamIds$Layout" (⟨"StreamIds$Layout", "putLength", "(I)V"⟩) (⟨"StreamIds$Layout", "putLength", "(I)V"⟩) ∈ zzW := jw_sel (i := 7) (by decide +kernel) (by decide +kernel)
theorem jws_8 : Cond.selects "StreamIds$Layout" (⟨"StreamIds$Layout", "put", "(I)V"⟩) (⟨"StreamIds$Layout", "put", "(I)V"⟩) ∈ zzW := jw_sel (i := 8) (by decide +kernel) (by decide +kernel)
theorem jws_9 : Cond.selects "StreamIds$Layout" (⟨"StreamIds$Layout", "putNumber", "(I)V"⟩) (⟨"StreamIds$Layout", "putNumber", "(I)V"⟩) ∈ zzW := jw_sel (i := 9) (by decide +kernel) (by decide +kernel)
theorem jws_10 : Cond.selects "StreamIds$Layout" (⟨"StreamIds$Layout", "putAll", "(LStreamIds$Row;I)V"⟩) (⟨"StreamIds$Layout", "putAll", "(LStreamIds$Row;I)V"⟩) ∈ zzW := jw_sel (i := 10) (by decide +kernel) (by decide +kernel)
theorem jws_11 : Cond.selects "StreamIds$Layout" (⟨"StreamIds$Layout", "putEntry", "(LStreamIds$Entry;)V"⟩) (⟨"StreamIds$Layout", "putEntry", "(LStreamIds$Entry;)V"⟩) ∈ zzW := jw_sel (i := 11) (by decide +kernel) (by decide +kernel)
theorem jws_12 : Cond.selects "StreamIds$Layout" (⟨"StreamIds$Layout", "putConstant", "(Ljava/lang/String;)V"⟩) (⟨"StreamIds$Layout", "putConstant", "(Ljava/lang/String;)V"⟩) ∈ zzW := jw_sel (i := 12) (by decide +kernel) (by decide +kernel)
theorem jws_13 : Cond.selects "StreamIds$Layout" (⟨"StreamIds$Layout", "putDotted", "(LStreamIds$Text;)V"⟩) (⟨"StreamIds$Layout", "putDotted", "(LStreamIds$Text;)V"⟩) ∈ zzW := jw_sel (i := 13) (by decide +kernel) (by decide +kernel)
theorem jws_14 : Cond.selects "StreamIds$Digest" (⟨"StreamIds$Digest", "fillWords", "(LStreamIds$Layout;II)V"⟩) (⟨"StreamIds$Digest", "fillWords", "(LStreamIds$Layout;II)V"⟩) ∈ zzW := jw_sel (i := 14) (by decide +kernel) (by decide +kernel)
theorem jws_15 : Cond.selects "StreamIds$Digest" (⟨"StreamIds$Digest", "mixWords", "()V"⟩) (⟨"StreamIds$Digest", "mixWords", "()V"⟩) ∈ zzW := jw_sel (i := 15) (by decide +kernel) (by decide +kernel)
theorem jws_16 : Cond.selects "StreamIdsModel" (⟨"StreamIdsModel", "out", "(II)Z"⟩) (⟨"StreamIdsModel", "out", "(II)Z"⟩) ∈ zzW := jw_sel (i := 16) (by decide +kernel) (by decide +kernel)
theorem jws_17 : Cond.selects "StreamIdsModel" (⟨"StreamIdsModel", "copy", "(II)V"⟩) (⟨"StreamIdsModel", "copy", "(II)V"⟩) ∈ zzW := jw_sel (i := 17) (by decide +kernel) (by decide +kernel)
theorem jws_18 : Cond.selects "StreamIdsModel" (⟨"StreamIdsModel", "none", "(I)Z"⟩) (⟨"StreamIdsModel", "none", "(I)Z"⟩) ∈ zzW := jw_sel (i := 18) (by decide +kernel) (by decide +kernel)
theorem jws_19 : Cond.selects "StreamIdsModel" (⟨"StreamIdsModel", "compare", "(II)I"⟩) (⟨"StreamIdsModel", "compare", "(II)I"⟩) ∈ zzW := jw_sel (i := 19) (by decide +kernel) (by decide +kernel)
theorem jws_20 : Cond.selects "StreamIdsModel" (⟨"StreamIdsModel", "goodShape", "(I)Z"⟩) (⟨"StreamIdsModel", "goodShape", "(I)Z"⟩) ∈ zzW := jw_sel (i := 20) (by decide +kernel) (by decide +kernel)
theorem jws_21 : Cond.selects "StreamIdsModel" (⟨"StreamIdsModel", "passType", "()Z"⟩) (⟨"StreamIdsModel", "passType", "()Z"⟩) ∈ zzW := jw_sel (i := 21) (by decide +kernel) (by decide +kernel)
theorem jws_22 : Cond.selects "StreamIdsModel" (⟨"StreamIdsModel", "signAt", "(I)I"⟩) (⟨"StreamIdsModel", "signAt", "(I)I"⟩) ∈ zzW := jw_sel (i := 22) (by decide +kernel) (by decide +kernel)
theorem jws_23 : Cond.selects "StreamIdsModel" (⟨"StreamIdsModel", "find", "(II)I"⟩) (⟨"StreamIdsModel", "find", "(II)I"⟩) ∈ zzW := jw_sel (i := 23) (by decide +kernel) (by decide +kernel)
theorem jws_24 : Cond.selects "StreamIdsModel" (⟨"StreamIdsModel", "digest", "(I)V"⟩) (⟨"StreamIdsModel", "digest", "(I)V"⟩) ∈ zzW := jw_sel (i := 24) (by decide +kernel) (by decide +kernel)
theorem jws_25 : Cond.selects "StreamIdsModel" (⟨"StreamIdsModel", "build", "(I)V"⟩) (⟨"StreamIdsModel", "build", "(I)V"⟩) ∈ zzW := jw_sel (i := 25) (by decide +kernel) (by decide +kernel)
theorem jws_26 : Cond.selects "StreamIdsModel" (⟨"StreamIdsModel", "utf", "(IZ)V"⟩) (⟨"StreamIdsModel", "utf", "(IZ)V"⟩) ∈ zzW := jw_sel (i := 26) (by decide +kernel) (by decide +kernel)
theorem jws_27 : Cond.selects "StreamIdsModel" (⟨"StreamIdsModel", "put", "(I)V"⟩) (⟨"StreamIdsModel", "put", "(I)V"⟩) ∈ zzW := jw_sel (i := 27) (by decide +kernel) (by decide +kernel)
theorem jws_28 : Cond.selects "StreamIdsModel" (⟨"StreamIdsModel", "counted", "(II)I"⟩) (⟨"StreamIdsModel", "counted", "(II)I"⟩) ∈ zzW := jw_sel (i := 28) (by decide +kernel) (by decide +kernel)
theorem jws_29 : Cond.selects "StreamIdsModel" (⟨"StreamIdsModel", "number", "(I)V"⟩) (⟨"StreamIdsModel", "number", "(I)V"⟩) ∈ zzW := jw_sel (i := 29) (by decide +kernel) (by decide +kernel)
theorem jws_30 : Cond.selects "StreamIdsModel" (⟨"StreamIdsModel", "nextFace", "(II)I"⟩) (⟨"StreamIdsModel", "nextFace", "(II)I"⟩) ∈ zzW := jw_sel (i := 30) (by decide +kernel) (by decide +kernel)
theorem jws_31 : Cond.selects "StreamIdsModel" (⟨"StreamIdsModel", "writeMembers", "(II)V"⟩) (⟨"StreamIdsModel", "writeMembers", "(II)V"⟩) ∈ zzW := jw_sel (i := 31) (by decide +kernel) (by decide +kernel)
theorem jws_32 : Cond.selects "StreamIdsModel" (⟨"StreamIdsModel", "following", "(III)I"⟩) (⟨"StreamIdsModel", "following", "(III)I"⟩) ∈ zzW := jw_sel (i := 32) (by decide +kernel) (by decide +kernel)
theorem jws_33 : Cond.selects "StreamIdsModel" (⟨"StreamIdsModel", "orderOf", "(III)I"⟩) (⟨"StreamIdsModel", "orderOf", "(III)I"⟩) ∈ zzW := jw_sel (i := 33) (by decide +kernel) (by decide +kernel)
theorem jws_34 : Cond.selects "StreamIdsModel" (⟨"StreamIdsModel", "initName", "(Z)V"⟩) (⟨"StreamIdsModel", "initName", "(Z)V"⟩) ∈ zzW := jw_sel (i := 34) (by decide +kernel) (by decide +kernel)
theorem jws_35 : Cond.selects "StreamIdsModel" (⟨"StreamIdsModel", "block", "(I)V"⟩) (⟨"StreamIdsModel", "block", "(I)V"⟩) ∈ zzW := jw_sel (i := 35) (by decide +kernel) (by decide +kernel)
theorem jws_36 : Cond.selects "StreamIdsModel" (⟨"StreamIdsModel", "turned", "(II)I"⟩) (⟨"StreamIdsModel", "turned", "(II)I"⟩) ∈ zzW := jw_sel (i := 36) (by decide +kernel) (by decide +kernel)
theorem jws_37 : Cond.selects "StreamIdsModel" (⟨"StreamIdsModel", "mixed", "(IIII)I"⟩) (⟨"StreamIdsModel", "mixed", "(IIII)I"⟩) ∈ zzW := jw_sel (i := 37) (by decide +kernel) (by decide +kernel)
theorem jws_38 : Cond.selects "StreamIdsModel" (⟨"StreamIdsModel", "constant", "(I)I"⟩) (⟨"StreamIdsModel", "constant", "(I)I"⟩) ∈ zzW := jw_sel (i := 38) (by decide +kernel) (by decide +kernel)
def jT_S : u_T := fun k => match k with
  | 0 => ("StreamIds", "name", "LStreamIds$Text;", true)
  | 1 => ("StreamIds", "shape", "LStreamIds$Text;", true)
  | 2 => ("StreamIds", "declarations", "[LStreamIds$Declaration;", true)
  | 3 => ("StreamIds", "layout", "LStreamIds$Layout;", true)
  | _ => ("StreamIds", "digest", "LStreamIds$Digest;", true)
def jt_S : Nat → FieldType := fun k => match k with
  | 0 => .object "StreamIds$Text"
  | 1 => .object "StreamIds$Text"
  | 2 => .array (.object "StreamIds$Declaration")
  | 3 => .object "StreamIds$Layout"
  | _ => .object "StreamIds$Digest"
theorem jn_S : ∀ a, a < 5 → ∀ b, b < 5 → a ≠ b → (jT_S a).2.1 ≠ (jT_S b).2.1 := by decide +kernel
theorem jt_S_ok : ∀ k, k < 5 → parseFieldDescriptor (jT_S k).2.2.1 = some (jt_S k) := by decide +kernel
theorem ju_S : ∀ w ∈ u_ws "StreamIds" jT_S 5, w ∈ zzW := by
  intro w hw
  obtain ⟨k, hk, rfl⟩ := List.mem_map.mp hw
  have hk := List.mem_range.mp hk
  match k, hk with
  | 0, _ => exact jw_164
  | 1, _ => exact jw_166
  | 2, _ => exact jw_168
  | 3, _ => exact jw_170
  | 4, _ => exact jw_172
  | k + 5, h => exact absurd h (by omega)
def jT_T : u_T := fun k => match k with
  | 0 => ("StreamIds$Text", "signs", "[B", true)
  | _ => ("StreamIds$Text", "length", "I", false)
def jt_T : Nat → FieldType := fun k => match k with
  | 0 => .array .byte
  | _ => .int
theorem jn_T : ∀ a, a < 2 → ∀ b, b < 2 → a ≠ b → (jT_T a).2.1 ≠ (jT_T b).2.1 := by decide +kernel
theorem jt_T_ok : ∀ k, k < 2 → parseFieldDescriptor (jT_T k).2.2.1 = some (jt_T k) := by decide +kernel
theorem ju_T : ∀ w ∈ u_ws "StreamIds$Text" jT_T 2, w ∈ zzW := by
  intro w hw
  obtain ⟨k, hk, rfl⟩ := List.mem_map.mp hw
  have hk := List.mem_range.mp hk
  match k, hk with
  | 0, _ => exact jw_35
  | 1, _ => exact jw_37
  | k + 2, h => exact absurd h (by omega)
def jT_L : u_T := fun k => match k with
  | 0 => ("StreamIds$Layout", "bytes", "[B", true)
  | 1 => ("StreamIds$Layout", "length", "I", false)
  | _ => ("StreamIds$Layout", "begins", "[I", true)
def jt_L : Nat → FieldType := fun k => match k with
  | 0 => .array .byte
  | 1 => .int
  | _ => .array .int
theorem jn_L : ∀ a, a < 3 → ∀ b, b < 3 → a ≠ b → (jT_L a).2.1 ≠ (jT_L b).2.1 := by decide +kernel
theorem jt_L_ok : ∀ k, k < 3 → parseFieldDescriptor (jT_L k).2.2.1 = some (jt_L k) := by decide +kernel
theorem ju_L : ∀ w ∈ u_ws "StreamIds$Layout" jT_L 3, w ∈ zzW := by
  intro w hw
  obtain ⟨k, hk, rfl⟩ := List.mem_map.mp hw
  have hk := List.mem_range.mp hk
  match k, hk with
  | 0, _ => exact jw_55
  | 1, _ => exact jw_57
  | 2, _ => exact jw_59
  | k + 3, h => exact absurd h (by omega)
def jT_G : u_T := fun k => match k with
  | 0 => ("StreamIds$Digest", "numbers", "[I", true)
  | _ => ("StreamIds$Digest", "words", "[I", true)
def jt_G : Nat → FieldType := fun k => match k with
  | 0 => .array .int
  | _ => .array .int
theorem jn_G : ∀ a, a < 2 → ∀ b, b < 2 → a ≠ b → (jT_G a).2.1 ≠ (jT_G b).2.1 := by decide +kernel
theorem jt_G_ok : ∀ k, k < 2 → parseFieldDescriptor (jT_G k).2.2.1 = some (jt_G k) := by decide +kernel
theorem ju_G : ∀ w ∈ u_ws "StreamIds$Digest" jT_G 2, w ∈ zzW := by
  intro w hw
  obtain ⟨k, hk, rfl⟩ := List.mem_map.mp hw
  have hk := List.mem_range.mp hk
  match k, hk with
  | 0, _ => exact jw_72
  | 1, _ => exact jw_74
  | k + 2, h => exact absurd h (by omega)
def jT_D : u_T := fun k => match k with
  | 0 => ("StreamIds$Declaration", "isThere", "Z", false)
  | 1 => ("StreamIds$Declaration", "name", "LStreamIds$Text;", true)
  | 2 => ("StreamIds$Declaration", "modifiers", "I", false)
  | 3 => ("StreamIds$Declaration", "faces", "LStreamIds$Row;", true)
  | 4 => ("StreamIds$Declaration", "members", "LStreamIds$Row;", true)
  | 5 => ("StreamIds$Declaration", "hasOwnId", "Z", false)
  | _ => ("StreamIds$Declaration", "ownId", "J", false)
def jt_D : Nat → FieldType := fun k => match k with
  | 0 => .boolean
  | 1 => .object "StreamIds$Text"
  | 2 => .int
  | 3 => .object "StreamIds$Row"
  | 4 => .object "StreamIds$Row"
  | 5 => .boolean
  | _ => .long
theorem jn_D : ∀ a, a < 7 → ∀ b, b < 7 → a ≠ b → (jT_D a).2.1 ≠ (jT_D b).2.1 := by decide +kernel
theorem jt_D_ok : ∀ k, k < 7 → parseFieldDescriptor (jT_D k).2.2.1 = some (jt_D k) := by decide +kernel
theorem ju_D : ∀ w ∈ u_ws "StreamIds$Declaration" jT_D 7, w ∈ zzW := by
  intro w hw
  obtain ⟨k, hk, rfl⟩ := List.mem_map.mp hw
  have hk := List.mem_range.mp hk
  match k, hk with
  | 0, _ => exact jw_144
  | 1, _ => exact jw_146
  | 2, _ => exact jw_148
  | 3, _ => exact jw_150
  | 4, _ => exact jw_152
  | 5, _ => exact jw_154
  | 6, _ => exact jw_156
  | k + 7, h => exact absurd h (by omega)
def jT_R : u_T := fun k => match k with
  | 0 => ("StreamIds$Row", "entries", "[LStreamIds$Entry;", true)
  | _ => ("StreamIds$Row", "used", "I", false)
def jt_R : Nat → FieldType := fun k => match k with
  | 0 => .array (.object "StreamIds$Entry")
  | _ => .int
theorem jn_R : ∀ a, a < 2 → ∀ b, b < 2 → a ≠ b → (jT_R a).2.1 ≠ (jT_R b).2.1 := by decide +kernel
theorem jt_R_ok : ∀ k, k < 2 → parseFieldDescriptor (jT_R k).2.2.1 = some (jt_R k) := by decide +kernel
theorem ju_R : ∀ w ∈ u_ws "StreamIds$Row" jT_R 2, w ∈ zzW := by
  intro w hw
  obtain ⟨k, hk, rfl⟩ := List.mem_map.mp hw
  have hk := List.mem_range.mp hk
  match k, hk with
  | 0, _ => exact jw_123
  | 1, _ => exact jw_125
  | k + 2, h => exact absurd h (by omega)
def jT_E : u_T := fun k => match k with
  | 0 => ("StreamIds$Entry", "kind", "I", false)
  | 1 => ("StreamIds$Entry", "modifiers", "I", false)
  | 2 => ("StreamIds$Entry", "name", "LStreamIds$Text;", true)
  | _ => ("StreamIds$Entry", "shape", "LStreamIds$Text;", true)
def jt_E : Nat → FieldType := fun k => match k with
  | 0 => .int
  | 1 => .int
  | 2 => .object "StreamIds$Text"
  | _ => .object "StreamIds$Text"
theorem jn_E : ∀ a, a < 4 → ∀ b, b < 4 → a ≠ b → (jT_E a).2.1 ≠ (jT_E b).2.1 := by decide +kernel
theorem jt_E_ok : ∀ k, k < 4 → parseFieldDescriptor (jT_E k).2.2.1 = some (jt_E k) := by decide +kernel
theorem ju_E : ∀ w ∈ u_ws "StreamIds$Entry" jT_E 4, w ∈ zzW := by
  intro w hw
  obtain ⟨k, hk, rfl⟩ := List.mem_map.mp hw
  have hk := List.mem_range.mp hk
  match k, hk with
  | 0, _ => exact jw_108
  | 1, _ => exact jw_110
  | 2, _ => exact jw_112
  | 3, _ => exact jw_114
  | k + 4, h => exact absurd h (by omega)
def jT_M : u_T := fun k => match k with
  | 0 => ("StreamIdsModel", "sign", "[I", true)
  | 1 => ("StreamIdsModel", "length", "[I", true)
  | 2 => ("StreamIdsModel", "there", "[Z", true)
  | 3 => ("StreamIdsModel", "modifiers", "[I", true)
  | 4 => ("StreamIdsModel", "faces", "[I", true)
  | 5 => ("StreamIdsModel", "members", "[I", true)
  | 6 => ("StreamIdsModel", "declared", "[Z", true)
  | 7 => ("StreamIdsModel", "given", "[J", true)
  | 8 => ("StreamIdsModel", "kind", "[I", true)
  | 9 => ("StreamIdsModel", "flags", "[I", true)
  | 10 => ("StreamIdsModel", "bytes", "[I", true)
  | 11 => ("StreamIdsModel", "size", "I", false)
  | 12 => ("StreamIdsModel", "part", "[I", true)
  | 13 => ("StreamIdsModel", "h", "[I", true)
  | 14 => ("StreamIdsModel", "w", "[I", true)
  | 15 => ("StreamIdsModel", "at", "I", false)
  | _ => ("StreamIdsModel", "end", "I", false)
def jt_M : Nat → FieldType := fun k => match k with
  | 0 => .array .int
  | 1 => .array .int
  | 2 => .array .boolean
  | 3 => .array .int
  | 4 => .array .int
  | 5 => .array .int
  | 6 => .array .boolean
  | 7 => .array .long
  | 8 => .array .int
  | 9 => .array .int
  | 10 => .array .int
  | 11 => .int
  | 12 => .array .int
  | 13 => .array .int
  | 14 => .array .int
  | 15 => .int
  | _ => .int
theorem jn_M : ∀ a, a < 17 → ∀ b, b < 17 → a ≠ b → (jT_M a).2.1 ≠ (jT_M b).2.1 := by decide +kernel
theorem jt_M_ok : ∀ k, k < 17 → parseFieldDescriptor (jT_M k).2.2.1 = some (jt_M k) := by decide +kernel
theorem ju_M : ∀ w ∈ u_ws "StreamIdsModel" jT_M 17, w ∈ zzW := by
  intro w hw
  obtain ⟨k, hk, rfl⟩ := List.mem_map.mp hw
  have hk := List.mem_range.mp hk
  match k, hk with
  | 0, _ => exact jw_498
  | 1, _ => exact jw_500
  | 2, _ => exact jw_502
  | 3, _ => exact jw_504
  | 4, _ => exact jw_506
  | 5, _ => exact jw_508
  | 6, _ => exact jw_510
  | 7, _ => exact jw_512
  | 8, _ => exact jw_514
  | 9, _ => exact jw_516
  | 10, _ => exact jw_518
  | 11, _ => exact jw_520
  | 12, _ => exact jw_522
  | 13, _ => exact jw_524
  | 14, _ => exact jw_526
  | 15, _ => exact jw_528
  | 16, _ => exact jw_530
  | k + 17, h => exact absurd h (by omega)
abbrev vwCl : List vw_C := [("StreamIds", jT_S, 5), ("StreamIds$Text", jT_T, 2), ("StreamIds$Layout", jT_L, 3), ("StreamIds$Digest", jT_G, 2), ("StreamIds$Declaration", jT_D, 7), ("StreamIds$Row", jT_R, 2), ("StreamIds$Entry", jT_E, 4), ("StreamIdsModel", jT_M, 17)]
def zzTy : List FieldType := [.byte, .int, .boolean, .long, (.object "StreamIds$Entry"), (.object "StreamIds$Declaration")]
def zzNF : List (String × Nat × String × String × String × String) := [("StreamIds$Shapes", 15, "StreamIds$Text", "length", "I", "StreamIds"), ("StreamIds", 48, "StreamIds$Text", "length", "I", "StreamIds"), ("StreamIds$Layout", 92, "StreamIds$Text", "length", "I", "StreamIds"), ("StreamIds$Digest", 27, "StreamIds$Layout", "length", "I", "StreamIds"), ("StreamIds", 129, "StreamIds$Layout", "length", "I", "StreamIds"), ("StreamIds", 134, "StreamIds$Layout", "begins", "[I", "StreamIds"), ("StreamIds", 125, "StreamIds$Digest", "numbers", "[I", "StreamIds"), ("StreamIds$Row", 34, "StreamIds$Entry", "kind", "I", "StreamIds"), ("StreamIds$Layout", 61, "StreamIds$Entry", "kind", "I", "StreamIds"), ("StreamIds$Layout", 75, "StreamIds$Entry", "modifiers", "I", "StreamIds"), ("StreamIds$Layout", 74, "StreamIds$Entry", "name", "LStreamIds$Text;", "StreamIds"), ("StreamIds$Layout", 78, "StreamIds$Entry", "shape", "LStreamIds$Text;", "StreamIds"), ("StreamIds$Layout", 57, "StreamIds$Row", "entries", "[LStreamIds$Entry;", "StreamIds"), ("StreamIds$Declaration", 49, "StreamIds$Row", "used", "I", "StreamIds"), ("StreamIds$Layout", 52, "StreamIds$Row", "used", "I", "StreamIds"), ("StreamIds", 137, "StreamIds$Row", "used", "I", "StreamIds"), ("StreamIds", 143, "StreamIds$Declaration", "isThere", "Z", "StreamIds"), ("StreamIds$Layout", 23, "StreamIds$Declaration", "name", "LStreamIds$Text;", "StreamIds"), ("StreamIds", 110, "StreamIds$Declaration", "modifiers", "I", "StreamIds"), ("StreamIds$Layout", 41, "StreamIds$Declaration", "faces", "LStreamIds$Row;", "StreamIds"), ("StreamIds", 73, "StreamIds$Declaration", "faces", "LStreamIds$Row;", "StreamIds"), ("StreamIds$Layout", 49, "StreamIds$Declaration", "members", "LStreamIds$Row;", "StreamIds"), ("StreamIds", 93, "StreamIds$Declaration", "members", "LStreamIds$Row;", "StreamIds"), ("StreamIds", 100, "StreamIds$Declaration", "hasOwnId", "Z", "StreamIds"), ("StreamIds", 104, "StreamIds$Declaration", "ownId", "J", "StreamIds"), ("StreamIds$Digest", 18, "StreamIds", "HASH_BEGIN", "[I", "StreamIds"), ("StreamIds$Digest", 61, "StreamIds", "ROUND_NUMBERS", "[I", "StreamIds")]
def zzNM : List (String × Nat × MethodName × String) := [("StreamIds", 11, ⟨"StreamIds$Text", "<init>", "()V"⟩, "StreamIds"), ("StreamIds", 27, ⟨"StreamIds$Layout", "<init>", "()V"⟩, "StreamIds"), ("StreamIds", 34, ⟨"StreamIds$Digest", "<init>", "()V"⟩, "StreamIds"), ("StreamIds", 39, ⟨"StreamIds$Declaration", "<init>", "()V"⟩, "StreamIds"), ("StreamIds$Declaration", 17, ⟨"StreamIds$Text", "<init>", "()V"⟩, "StreamIds"), ("StreamIds$Row", 21, ⟨"StreamIds$Entry", "<init>", "()V"⟩, "StreamIds"), ("StreamIds$Entry", 20, ⟨"StreamIds$Text", "<init>", "()V"⟩, "StreamIds")]
def zzT : List (String × String × List Int32) := [("StreamIds", "HASH_BEGIN", [1732584193, -271733879, -1732584194, 271733878, -1009589776]), ("StreamIds", "ROUND_NUMBERS", [1518500249, 1859775393, -1894007588, -899497514])]
def zzAO : List String := ["StreamIds$Declaration", "StreamIds$Entry"]
def zzX : List (String × Nat × String) := [("StreamIds$Layout", 81, "<clinit>"), ("StreamIds$Layout", 87, "()V"), ("StreamIds$Layout", 88, "<init>")]
def zzXl : List Nat := [8, 3, 6]
def zzXb : List (List Int32) := [[60, 99, 108, 105, 110, 105, 116, 62], [40, 41, 86], [60, 105, 110, 105, 116, 62]]
def zzI : List (String × String × String × Int32) := [("java/lang/String", "COMPACT_STRINGS", "Z", 1)]
end
section
/-! THE WORLD: the cells made since the base B, one behind the other: cell i lies at the address B + i. -/
abbrev zE : Type := List va_E
/-- the classes' numbers and slots; the array classes; the addresses of the static tables, of the texts, of the texts' bytes -/
abbrev zG : Type := va_G × (Nat → ClassId) × (Nat → Nat) × (Nat → Nat) × (Nat → Nat)
def zw (B : Nat) (es : zE) : va_W := es.mapIdx (fun i e => (B + i, e))
theorem zw_get {B i : Nat} {es : zE} : (zw B es)[i]? = (es[i]?).map (fun e => (B + i, e)) := by simp [zw]
theorem zw_at {B i : Nat} {es : zE} {e : va_E} (h : es[i]? = some e) : (zw B es)[i]? = some (B + i, e) := by rw [zw_get, h]; rfl
theorem zw_inv {B i : Nat} {es : zE} {q : Nat × va_E} (h : (zw B es)[i]? = some q) : ∃ e, es[i]? = some e ∧ q = (B + i, e) := by
  rw [zw_get] at h
  cases he : es[i]? with
  | none => rw [he] at h; cases h
  | some e => rw [he] at h; exact ⟨e, rfl, (Option.some.inj h).symm⟩
theorem zw_set {B i : Nat} {es : zE} {e : va_E} : (zw B es).set i (B + i, e) = zw B (es.set i e) := by
  apply List.ext_getElem?
  intro j
  rw [zw_get]
  by_cases h : i = j
  · subst h
    by_cases hl : i < es.length
    · rw [List.getElem?_set_self (by simpa [zw] using hl), List.getElem?_set_self hl]; rfl
    · rw [List.getElem?_eq_none (by simp [zw]; omega), List.getElem?_eq_none (by simp; omega)]; rfl
  · rw [List.getElem?_set_ne h, List.getElem?_set_ne h, zw_get]
theorem zw_D {B : Nat} {es : zE} : va_D (fun q => B ≤ q) (zw B es) := by
  refine ⟨fun i j p q hi hj h => ?_, fun k q hk => ?_⟩
  · obtain ⟨e, -, rfl⟩ := zw_inv hi
    obtain ⟨e', -, rfl⟩ := zw_inv hj
    have h : B + i = B + j := h
    omega
  · obtain ⟨e, -, rfl⟩ := zw_inv hk
    exact Nat.le_add_right B k
def zH (G : zG) (B : Nat) (es : zE) (H : Heap) : Prop := H.size = B + es.length ∧ va_P G.1 vwCl (zw B es) H
theorem zH.upd {G : zG} {B i : Nat} {es : zE} {e : va_E} {H H1 : Heap} (h : zH G B es H) (hz : H1.size = H.size) (hP : va_P G.1 vwCl ((zw B es).set i (B + i, e)) H1) : zH G B (es.set i e) H1 := ⟨by rw [hz, h.1, List.length_set], by rw [← zw_set]; exact hP⟩
theorem zH.new {G : zG} {B : Nat} {es : zE} {e : va_E} {H H1 : Heap} (h : zH G B es H) (hz : H1.size = H.size + 1) (ho : ∀ q, q < H.size → H1[q]? = H[q]?) (hn : va_at G.1 vwCl (H.size, e) H1) : zH G B (es ++ [e]) H1 := by
  refine ⟨by rw [hz, h.1, List.length_append]; rfl, fun i q hq => ?_⟩
  obtain ⟨e', he, rfl⟩ := zw_inv hq
  by_cases hl : i < es.length
  · rw [List.getElem?_append_left hl] at he
    have := h.2 i _ (zw_at he)
    exact this.kept (ho _ this.lt)
  · have hi : i = es.length := by
      have := (List.getElem?_eq_some_iff.mp he).1
      rw [List.length_append] at this
      have h1 : ([e] : zE).length = 1 := rfl
      omega
    subst hi
    rw [List.getElem?_append_right (Nat.le_refl _), Nat.sub_self] at he
    cases he
    rw [← h.1]
    exact hn
theorem zH.lt {G : zG} {B i : Nat} {es : zE} {e : va_E} {H : Heap} (h : zH G B es H) (he : es[i]? = some e) : B + i < H.size := by
  have := (List.getElem?_eq_some_iff.mp he).1
  rw [h.1]; omega
/-! locals: by places; the second half of a long is none -/
def zl (la : Array Slot) (nL : Nat) (ls : List (Option Value)) : Prop := la.size = nL ∧ lv_wf la ∧ ∀ (i : Nat) (v : Value), ls[i]? = some (some v) → la[i]? = some (.val v)
def za : Nat → List (Option Value) → List (Nat × Value)
  | _, [] => []
  | i, none :: t => za (i + 1) t
  | i, some v :: t => (i, v) :: za (i + 1) t
theorem za_mem {v : Value} : ∀ (ls : List (Option Value)) (i j : Nat), (j, v) ∈ za i ls ↔ ∃ k, j = i + k ∧ ls[k]? = some (some v)
  | [], i, j => by simp [za]
  | none :: t, i, j => by
    rw [show za i (none :: t) = za (i + 1) t from rfl, za_mem t (i + 1) j]
    constructor
    · rintro ⟨k, h1, h2⟩; exact ⟨k + 1, by omega, by simpa using h2⟩
    · rintro ⟨k, h1, h2⟩
      cases k with
      | zero => simp at h2
      | succ k => exact ⟨k, by omega, by simpa using h2⟩
  | some w :: t, i, j => by
    rw [show za i (some w :: t) = (i, w) :: za (i + 1) t from rfl, List.mem_cons, za_mem t (i + 1) j]
    constructor
    · rintro (h | ⟨k, h1, h2⟩)
      · cases h; exact ⟨0, rfl, rfl⟩
      · exact ⟨k + 1, by omega, by simpa using h2⟩
    · rintro ⟨k, h1, h2⟩
      cases k with
      | zero =>
        left
        have h3 : w = v := by simpa using h2
        rw [h3, h1]; rfl
      | succ k => right; exact ⟨k, by omega, by simpa using h2⟩
theorem zl.has {la : Array Slot} {nL : Nat} {ls : List (Option Value)} (h : zl la nL ls) : lv_has la nL (za 0 ls) := by
  refine ⟨h.1, h.2.1, fun q hq => ?_⟩
  obtain ⟨i, v⟩ := q
  obtain ⟨k, h1, h2⟩ := (za_mem ls 0 i).mp hq
  have : i = k := by omega
  subst this
  exact h.2.2 i v h2
def zprev (ls : List (Option Value)) : Nat → Bool
  | 0 => true
  | k + 1 => match ls[k]? with
    | some (some v) => v.category == 1
    | _ => true
theorem zprev_ok {ls : List (Option Value)} {i : Nat} (hp : zprev ls i = true) {j : Nat} {w : Value} (h : ls[j]? = some (some w)) (hj : j + 1 = i) : w.category = 1 := by
  subst hj
  rw [show zprev ls (j + 1) = (match ls[j]? with | some (some v) => v.category == 1 | _ => true) from rfl, h] at hp
  simpa using hp
theorem zl.st1 {la : Array Slot} {nL : Nat} {ls : List (Option Value)} {i : Nat} {v : Value} (hp : zprev ls i = true) (h : lv_has la nL ((i, v) :: (za 0 ls).filter (fun q => !(q.1 == i) && !(q.1 + 1 == i && q.2.category == 2)))) : zl la nL (ls.set i (some v)) := by
  refine ⟨h.1, h.2.1, fun j w hj => ?_⟩
  by_cases hij : i = j
  · subst hij
    have hl : i < ls.length := by
      have := (List.getElem?_eq_some_iff.mp hj).1
      simpa using this
    rw [List.getElem?_set_self hl] at hj
    cases hj
    exact h.2.2 (i, v) List.mem_cons_self
  · rw [List.getElem?_set_ne hij] at hj
    refine h.2.2 (j, w) (List.mem_cons_of_mem _ (List.mem_filter.mpr ⟨(za_mem ls 0 j).mpr ⟨j, by omega, hj⟩, ?_⟩))
    have h1 : (j == i) = false := by simp; omega
    by_cases h2 : j + 1 = i
    · have h3 := zprev_ok hp hj h2
      simp [h1, h3]
    · have h4 : (j + 1 == i) = false := by simp; omega
      simp [h1, h4]
theorem zl.st2 {la : Array Slot} {nL : Nat} {ls : List (Option Value)} {i : Nat} {v : Value} (hp : zprev ls i = true) (h : lv_has la nL ((i, v) :: (za 0 ls).filter (fun q => !(q.1 == i) && (!(q.1 == i + 1) && !(q.1 + 1 == i && q.2.category == 2))))) : zl la nL ((ls.set i (some v)).set (i + 1) none) := by
  refine ⟨h.1, h.2.1, fun j w hj => ?_⟩
  by_cases hj1 : i + 1 = j
  · subst hj1
    have hl : i + 1 < (ls.set i (some v)).length := by
      have := (List.getElem?_eq_some_iff.mp hj).1
      simpa using this
    rw [List.getElem?_set_self hl] at hj
    cases hj
  · rw [List.getElem?_set_ne hj1] at hj
    by_cases hij : i = j
    · subst hij
      have hl : i < ls.length := by
        have := (List.getElem?_eq_some_iff.mp hj).1
        simpa using this
      rw [List.getElem?_set_self hl] at hj
      cases hj
      exact h.2.2 (i, v) List.mem_cons_self
    · rw [List.getElem?_set_ne hij] at hj
      refine h.2.2 (j, w) (List.mem_cons_of_mem _ (List.mem_filter.mpr ⟨(za_mem ls 0 j).mpr ⟨j, by omega, hj⟩, ?_⟩))
      have h1 : (j == i) = false := by simp; omega
      have h5 : (j == i + 1) = false := by simp; omega
      by_cases h2 : j + 1 = i
      · have h3 := zprev_ok hp hj h2
        simp [h1, h3, h5]
      · have h4 : (j + 1 == i) = false := by simp; omega
        simp [h1, h4, h5]
theorem zl.sub {la : Array Slot} {nL : Nat} {ls ls' : List (Option Value)} (h : zl la nL ls) (hs : ∀ (i : Nat) (v : Value), ls'[i]? = some (some v) → ls[i]? = some (some v)) : zl la nL ls' := ⟨h.1, h.2.1, fun i v hv => h.2.2 i v (hs i v hv)⟩
/-- a method's locals at its entry -/
def zent : List Value → Nat → List (Option Value)
  | [], n => List.replicate n none
  | v :: vs, n => if v.category = 2 then some v :: none :: zent vs (n - 2) else some v :: zent vs (n - 1)
theorem zent_args {w : Value} : ∀ (vs : List Value) (n i j : Nat), (zent vs n)[j]? = some (some w) → (i + j, w) ∈ lv_args i vs
  | [], n, i, j, h => by
    rw [show zent [] n = List.replicate n none from rfl, List.getElem?_replicate] at h
    split at h <;> cases h
  | v :: vs, n, i, j, h => by
    rw [show lv_args i (v :: vs) = (i, v) :: lv_args (if v.category = 2 then i + 2 else i + 1) vs from rfl]
    by_cases hc : v.category = 2
    · rw [show zent (v :: vs) n = some v :: none :: zent vs (n - 2) by rw [zent, if_pos hc]] at h
      rw [if_pos hc]
      match j, h with
      | 0, h =>
        have h3 : v = w := by simpa using h
        rw [h3]; exact List.mem_cons_self
      | 1, h => simp at h
      | j + 2, h =>
        have := zent_args vs (n - 2) (i + 2) j (by simpa using h)
        rw [show i + (j + 2) = i + 2 + j by omega]
        exact List.mem_cons_of_mem _ this
    · rw [show zent (v :: vs) n = some v :: zent vs (n - 1) by rw [zent, if_neg hc]] at h
      rw [if_neg hc]
      match j, h with
      | 0, h =>
        have h3 : v = w := by simpa using h
        rw [h3]; exact List.mem_cons_self
      | j + 1, h =>
        have := zent_args vs (n - 1) (i + 1) j (by simpa using h)
        rw [show i + (j + 1) = i + 1 + j by omega]
        exact List.mem_cons_of_mem _ this
/-- the array classes that the worlds hold -/
def zty (G : zG) : List (ClassId × FieldType) := zzTy.mapIdx (fun i t => (G.2.1 i, t))
theorem zty_at {G : zG} {i : Nat} {t : FieldType} (h : zzTy[i]? = some t) : (zty G)[i]? = some (G.2.1 i, t) := by simp [zty, h]
/-- the words of nest mates -/
def zN (U : State) : Prop := (∀ q ∈ zzNF, va_Nw (.fieldLinkNest q.1 q.2.1 q.2.2.1 q.2.2.2.1 q.2.2.2.2.1 q.2.2.2.2.2) U) ∧ ∀ q ∈ zzNM, va_Nw (.methodLinkNest q.1 q.2.1 q.2.2.1 q.2.2.2) U
theorem zN.warm {s U : State} (hW : s.WarmedH U.vm) (h : zN s) : zN U := ⟨fun q hq => (h.1 q hq).warmF hW, fun q hq => (h.2 q hq).warmM hW⟩
theorem zN.same {u U : State} (hv : u.vm = U.vm) (h : zN u) : zN U := ⟨fun q hq => va_Nw.same rfl hv (h.1 q hq), fun q hq => va_Nw.same rfl hv (h.2 q hq)⟩
/-- what nobody writes: static tables of ints; arrays of objects that can be made; texts -/
def zS (G : zG) (B : Nat) (U : State) (H : Heap) : Prop :=
  (∀ (i : Nat) (q : String × String × List Int32), zzT[i]? = some q → va_Z q.1 q.2.1 "[I" (.ref (G.2.2.1 i)) (fun a => B ≤ a) U H ∧ va_T .int (G.2.2.1 i) q.2.2.length (fun j => .int (q.2.2.getD j 0)) (fun a => B ≤ a) U H) ∧
  (∀ C ∈ zzAO, va_AO C U) ∧
  (∀ (i : Nat) (q : String × String × String × Int32), zzI[i]? = some q → va_Z q.1 q.2.1 q.2.2.1 (.int q.2.2.2) (fun a => B ≤ a) U H) ∧ va_Zq "jdk/internal/util/Preconditions" "SIOOBE_FORMATTER" "Ljava/util/function/BiFunction;" (fun a => B ≤ a) U H ∧
  (∀ (i : Nat) (q : String × Nat × String), zzX[i]? = some q → vk_R q.1 q.2.1 q.2.2 (G.2.2.2.1 i) U) ∧ vk_S zzX.length zzXl zzXb G.2.2.2.1 G.2.2.2.2 (fun a => B ≤ a) U H
theorem zS.warm {G : zG} {B : Nat} {s U : State} {H : Heap} (hW : s.WarmedH U.vm) (h : zS G B s H) : zS G B U H :=
  ⟨fun i q hq => ⟨(h.1 i q hq).1.moved hW.alike, (h.1 i q hq).2.moved hW.alike⟩, fun C hC => (h.2.1 C hC).moved hW.alike, fun i q hq => (h.2.2.1 i q hq).moved hW.alike, h.2.2.2.1.moved hW.alike, fun i q hq => (h.2.2.2.2.1 i q hq).warm hW, h.2.2.2.2.2.moved hW.alike⟩
theorem zS.same {G : zG} {B : Nat} {u U : State} {H : Heap} (hv : u.vm = U.vm) (h : zS G B u H) : zS G B U H := by
  have ha : u.vm.Alike U.vm := by rw [hv]; exact Vm.Alike.refl _
  exact ⟨fun i q hq => ⟨(h.1 i q hq).1.moved ha, (h.1 i q hq).2.moved ha⟩, fun C hC => (h.2.1 C hC).moved ha, fun i q hq => (h.2.2.1 i q hq).moved ha, h.2.2.2.1.moved ha, fun i q hq => (h.2.2.2.2.1 i q hq).same hv.symm, h.2.2.2.2.2.moved ha⟩
theorem zS.kept {G : zG} {B : Nat} {U : State} {H H1 : Heap} (h : zS G B U H) (hq : ∀ a : Nat, a < H.size → ¬ B ≤ a → H1[a]? = H[a]?) : zS G B U H1 :=
  ⟨fun i q h9 => ⟨(h.1 i q h9).1.kept hq, (h.1 i q h9).2.kept hq⟩, h.2.1, fun i q h9 => (h.2.2.1 i q h9).kept hq, h.2.2.2.1.kept hq, h.2.2.2.2.1, h.2.2.2.2.2.kept hq⟩
def zU (G : zG) (B : Nat) (es : zE) (U : State) : Prop := zH G B es U.heap ∧ va_K G.1 vwCl (zty G) U ∧ zN U ∧ zS G B U U.heap
abbrev zr (d mc ms : Nat) : Room := { frames := d, cells := mc, slots := ms, locals := 40 * d }
def zQ (G : zG) (B : Nat) (P : Option Value → zE → Prop) : Array Value → State → Outcome → State → Prop := fun _ st oc t => (∃ (r : Option Value) (es : zE), oc = .returned r ∧ P r es ∧ zH G B es t.heap) ∧ va_F (fun q => B ≤ q) st t
/-- A CONTRACT: at the world es, with the arguments av, the method returns, and P holds of its answer and of the world behind it -/
def Tr (l : Launch) (G : zG) (B : Nat) (y : MethodName) (cc : ByteArray) (maxL : Nat) (ret : Option FieldType) (d mc ms : Nat) (av : List Value) (es : zE) (P : Option Value → zE → Prop) : Prop :=
  Met l y (Cond.code y cc maxL ret :: zzW) (zr d mc ms) (va_Pc av (zU G B es)) (zQ G B P) mc ms (fun q => B ≤ q)
def Zj (p : Program) (l : Launch) (e : Env) (R : Room) (s : State) (m : MethodId) (args : Array Value) (below : List Frame) (meth : Method) (c : Code) (Q : State → Prop) (G : zG) (B nL k n pc : Nat) (ls : List (Option Value)) (st : List Value) (es : zE) : Prop :=
  ∀ (H : Heap) (lo : List Loc) (la : Array Slot), zH G B es H → va_S (fun q => B ≤ q) s.heap H lo → zl la nL ls → W p l e R s m args below meth c H lo k n Q (F0 m pc la st)
def En (p : Program) (s : State) (m : MethodId) (args : Array Value) (meth : Method) (c : Code) (G : zG) (B nL : Nat) (cc : ByteArray) (own mn : String) (rt : Option FieldType) : Prop :=
  p.tables.exec = Jvm.exec ∧ c.code = cc ∧ c.maxLocals = nL ∧ s.vm.findClass own = some m.cls ∧ (∀ w ∈ zzW, w.before args s = true) ∧ va_K G.1 vwCl (zty G) s ∧ zN s ∧ zS G B s s.heap ∧ B ≤ s.heap.size ∧ meth.locks = false ∧ meth.sig.returnType = rt ∧ meth.name = mn
section ZR
variable {p : Program} {l : Launch} {e : Env} {R : Room} {s : State} {m : MethodId} {args : Array Value} {below : List Frame} {meth : Method} {c : Code} {Q : State → Prop} {G : zG} {B nL k n pc : Nat} {ls : List (Option Value)} {st : List Value} {es : zE} {cc : ByteArray} {own mn : String} {rt : Option FieldType}
theorem z_iadd (E : En p s m args meth c G B nL cc own mn rt) {x y : Int32} (d : decode cc pc = .ok (.iadd, 1))  (kk : Zj p l e R s m args below meth c Q G B nL k n (pc + 1) ls (.int (x + y) :: st) es) : Zj p l e R s m args below meth c Q G B nL k n (pc) ls (.int y :: .int x :: st) es :=
  fun H lo la hW hS hl => lv_iadd E.1 E.2.1 d (kk H lo la hW hS hl)
theorem z_isub (E : En p s m args meth c G B nL cc own mn rt) {x y : Int32} (d : decode cc pc = .ok (.isub, 1))  (kk : Zj p l e R s m args below meth c Q G B nL k n (pc + 1) ls (.int (x - y) :: st) es) : Zj p l e R s m args below meth c Q G B nL k n (pc) ls (.int y :: .int x :: st) es :=
  fun H lo la hW hS hl => lv_isub E.1 E.2.1 d (kk H lo la hW hS hl)
theorem z_imul (E : En p s m args meth c G B nL cc own mn rt) {x y : Int32} (d : decode cc pc = .ok (.imul, 1))  (kk : Zj p l e R s m args below meth c Q G B nL k n (pc + 1) ls (.int (x * y) :: st) es) : Zj p l e R s m args below meth c Q G B nL k n (pc) ls (.int y :: .int x :: st) es :=
  fun H lo la hW hS hl => lv_imul E.1 E.2.1 d (kk H lo la hW hS hl)
theorem z_iand (E : En p s m args meth c G B nL cc own mn rt) {x y : Int32} (d : decode cc pc = .ok (.iand, 1))  (kk : Zj p l e R s m args below meth c Q G B nL k n (pc + 1) ls (.int (x &&& y) :: st) es) : Zj p l e R s m args below meth c Q G B nL k n (pc) ls (.int y :: .int x :: st) es :=
  fun H lo la hW hS hl => lv_iand E.1 E.2.1 d (kk H lo la hW hS hl)
theorem z_ior (E : En p s m args meth c G B nL cc own mn rt) {x y : Int32} (d : decode cc pc = .ok (.ior, 1))  (kk : Zj p l e R s m args below meth c Q G B nL k n (pc + 1) ls (.int (x ||| y) :: st) es) : Zj p l e R s m args below meth c Q G B nL k n (pc) ls (.int y :: .int x :: st) es :=
  fun H lo la hW hS hl => lv_ior E.1 E.2.1 d (kk H lo la hW hS hl)
theorem z_ixor (E : En p s m args meth c G B nL cc own mn rt) {x y : Int32} (d : decode cc pc = .ok (.ixor, 1))  (kk : Zj p l e R s m args below meth c Q G B nL k n (pc + 1) ls (.int (x ^^^ y) :: st) es) : Zj p l e R s m args below meth c Q G B nL k n (pc) ls (.int y :: .int x :: st) es :=
  fun H lo la hW hS hl => lv_ixor E.1 E.2.1 d (kk H lo la hW hS hl)
theorem z_ishl (E : En p s m args meth c G B nL cc own mn rt) {x y : Int32} (d : decode cc pc = .ok (.ishl, 1))  (kk : Zj p l e R s m args below meth c Q G B nL k n (pc + 1) ls (.int (x <<< (y &&& 31)) :: st) es) : Zj p l e R s m args below meth c Q G B nL k n (pc) ls (.int y :: .int x :: st) es :=
  fun H lo la hW hS hl => lv_ishl E.1 E.2.1 d (kk H lo la hW hS hl)
theorem z_ishr (E : En p s m args meth c G B nL cc own mn rt) {x y : Int32} (d : decode cc pc = .ok (.ishr, 1))  (kk : Zj p l e R s m args below meth c Q G B nL k n (pc + 1) ls (.int (x >>> (y &&& 31)) :: st) es) : Zj p l e R s m args below meth c Q G B nL k n (pc) ls (.int y :: .int x :: st) es :=
  fun H lo la hW hS hl => lv_ishr E.1 E.2.1 d (kk H lo la hW hS hl)
theorem z_idiv (E : En p s m args meth c G B nL cc own mn rt) {x y : Int32} (d : decode cc pc = .ok (.idiv, 1)) (hne : ¬ y = 0) (kk : Zj p l e R s m args below meth c Q G B nL k n (pc + 1) ls (.int (x / y) :: st) es) : Zj p l e R s m args below meth c Q G B nL k n (pc) ls (.int y :: .int x :: st) es :=
  fun H lo la hW hS hl => lv_idiv E.1 E.2.1 d hne (kk H lo la hW hS hl)
theorem z_irem (E : En p s m args meth c G B nL cc own mn rt) {x y : Int32} (d : decode cc pc = .ok (.irem, 1)) (hne : ¬ y = 0) (kk : Zj p l e R s m args below meth c Q G B nL k n (pc + 1) ls (.int (x - x / y * y) :: st) es) : Zj p l e R s m args below meth c Q G B nL k n (pc) ls (.int y :: .int x :: st) es :=
  fun H lo la hW hS hl => lv_irem E.1 E.2.1 d hne (kk H lo la hW hS hl)
theorem z_ineg (E : En p s m args meth c G B nL cc own mn rt) {x : Int32} (d : decode cc pc = .ok (.ineg, 1))  (kk : Zj p l e R s m args below meth c Q G B nL k n (pc + 1) ls (.int (-x) :: st) es) : Zj p l e R s m args below meth c Q G B nL k n (pc) ls (.int x :: st) es :=
  fun H lo la hW hS hl => lv_ineg E.1 E.2.1 d (kk H lo la hW hS hl)
theorem z_lneg (E : En p s m args meth c G B nL cc own mn rt) {x : Int64} (d : decode cc pc = .ok (.lneg, 1))  (kk : Zj p l e R s m args below meth c Q G B nL k n (pc + 1) ls (.long (-x) :: st) es) : Zj p l e R s m args below meth c Q G B nL k n (pc) ls (.long x :: st) es :=
  fun H lo la hW hS hl => lv_lneg E.1 E.2.1 d (kk H lo la hW hS hl)
theorem z_ladd (E : En p s m args meth c G B nL cc own mn rt) {x y : Int64} (d : decode cc pc = .ok (.ladd, 1))  (kk : Zj p l e R s m args below meth c Q G B nL k n (pc + 1) ls (.long (x + y) :: st) es) : Zj p l e R s m args below meth c Q G B nL k n (pc) ls (.long y :: .long x :: st) es :=
  fun H lo la hW hS hl => lv_ladd E.1 E.2.1 d (kk H lo la hW hS hl)
theorem z_lsub (E : En p s m args meth c G B nL cc own mn rt) {x y : Int64} (d : decode cc pc = .ok (.lsub, 1))  (kk : Zj p l e R s m args below meth c Q G B nL k n (pc + 1) ls (.long (x - y) :: st) es) : Zj p l e R s m args below meth c Q G B nL k n (pc) ls (.long y :: .long x :: st) es :=
  fun H lo la hW hS hl => lv_lsub E.1 E.2.1 d (kk H lo la hW hS hl)
theorem z_lmul (E : En p s m args meth c G B nL cc own mn rt) {x y : Int64} (d : decode cc pc = .ok (.lmul, 1))  (kk : Zj p l e R s m args below meth c Q G B nL k n (pc + 1) ls (.long (x * y) :: st) es) : Zj p l e R s m args below meth c Q G B nL k n (pc) ls (.long y :: .long x :: st) es :=
  fun H lo la hW hS hl => lv_lmul E.1 E.2.1 d (kk H lo la hW hS hl)
theorem z_land (E : En p s m args meth c G B nL cc own mn rt) {x y : Int64} (d : decode cc pc = .ok (.land, 1))  (kk : Zj p l e R s m args below meth c Q G B nL k n (pc + 1) ls (.long (x &&& y) :: st) es) : Zj p l e R s m args below meth c Q G B nL k n (pc) ls (.long y :: .long x :: st) es :=
  fun H lo la hW hS hl => lv_land E.1 E.2.1 d (kk H lo la hW hS hl)
theorem z_lor (E : En p s m args meth c G B nL cc own mn rt) {x y : Int64} (d : decode cc pc = .ok (.lor, 1))  (kk : Zj p l e R s m args below meth c Q G B nL k n (pc + 1) ls (.long (x ||| y) :: st) es) : Zj p l e R s m args below meth c Q G B nL k n (pc) ls (.long y :: .long x :: st) es :=
  fun H lo la hW hS hl => lv_lor E.1 E.2.1 d (kk H lo la hW hS hl)
theorem z_lxor (E : En p s m args meth c G B nL cc own mn rt) {x y : Int64} (d : decode cc pc = .ok (.lxor, 1))  (kk : Zj p l e R s m args below meth c Q G B nL k n (pc + 1) ls (.long (x ^^^ y) :: st) es) : Zj p l e R s m args below meth c Q G B nL k n (pc) ls (.long y :: .long x :: st) es :=
  fun H lo la hW hS hl => lv_lxor E.1 E.2.1 d (kk H lo la hW hS hl)
theorem z_iushr (E : En p s m args meth c G B nL cc own mn rt) {x y : Int32} (d : decode cc pc = .ok (.iushr, 1))  (kk : Zj p l e R s m args below meth c Q G B nL k n (pc + 1) ls (.int ((x.toUInt32 >>> (y.toUInt32 &&& Int32.toUInt32 31)).toInt32) :: st) es) : Zj p l e R s m args below meth c Q G B nL k n (pc) ls (.int y :: .int x :: st) es :=
  fun H lo la hW hS hl => lv_iushr E.1 E.2.1 d rfl (kk H lo la hW hS hl)
theorem z_lushr (E : En p s m args meth c G B nL cc own mn rt) {x : Int64} {y : Int32} (d : decode cc pc = .ok (.lushr, 1))  (kk : Zj p l e R s m args below meth c Q G B nL k n (pc + 1) ls (.long ((x.toUInt64 >>> (y.toInt64.toUInt64 &&& Int64.toUInt64 63)).toInt64) :: st) es) : Zj p l e R s m args below meth c Q G B nL k n (pc) ls (.int y :: .long x :: st) es :=
  fun H lo la hW hS hl => lv_lushr E.1 E.2.1 d rfl (kk H lo la hW hS hl)
theorem z_lshl (E : En p s m args meth c G B nL cc own mn rt) {x : Int64} {y : Int32} (d : decode cc pc = .ok (.lshl, 1))  (kk : Zj p l e R s m args below meth c Q G B nL k n (pc + 1) ls (.long (x <<< (y.toInt64 &&& 63)) :: st) es) : Zj p l e R s m args below meth c Q G B nL k n (pc) ls (.int y :: .long x :: st) es :=
  fun H lo la hW hS hl => lv_lshl E.1 E.2.1 d rfl (kk H lo la hW hS hl)
theorem z_lshr (E : En p s m args meth c G B nL cc own mn rt) {x : Int64} {y : Int32} (d : decode cc pc = .ok (.lshr, 1))  (kk : Zj p l e R s m args below meth c Q G B nL k n (pc + 1) ls (.long (x >>> (y.toInt64 &&& 63)) :: st) es) : Zj p l e R s m args below meth c Q G B nL k n (pc) ls (.int y :: .long x :: st) es :=
  fun H lo la hW hS hl => lv_lshr E.1 E.2.1 d rfl (kk H lo la hW hS hl)
theorem z_i2l (E : En p s m args meth c G B nL cc own mn rt) {x : Int32} (d : decode cc pc = .ok (.i2l, 1))  (kk : Zj p l e R s m args below meth c Q G B nL k n (pc + 1) ls (.long x.toInt64 :: st) es) : Zj p l e R s m args below meth c Q G B nL k n (pc) ls (.int x :: st) es :=
  fun H lo la hW hS hl => lv_i2l E.1 E.2.1 d rfl (kk H lo la hW hS hl)
theorem z_l2i (E : En p s m args meth c G B nL cc own mn rt) {x : Int64} (d : decode cc pc = .ok (.l2i, 1))  (kk : Zj p l e R s m args below meth c Q G B nL k n (pc + 1) ls (.int x.toInt32 :: st) es) : Zj p l e R s m args below meth c Q G B nL k n (pc) ls (.long x :: st) es :=
  fun H lo la hW hS hl => lv_l2i E.1 E.2.1 d rfl (kk H lo la hW hS hl)
theorem z_i2b (E : En p s m args meth c G B nL cc own mn rt) {x : Int32} (d : decode cc pc = .ok (.i2b, 1))  (kk : Zj p l e R s m args below meth c Q G B nL k n (pc + 1) ls (.int x.toInt8.toInt32 :: st) es) : Zj p l e R s m args below meth c Q G B nL k n (pc) ls (.int x :: st) es :=
  fun H lo la hW hS hl => lv_i2b E.1 E.2.1 d rfl (kk H lo la hW hS hl)
theorem z_i2s (E : En p s m args meth c G B nL cc own mn rt) {x : Int32} (d : decode cc pc = .ok (.i2s, 1))  (kk : Zj p l e R s m args below meth c Q G B nL k n (pc + 1) ls (.int x.toInt16.toInt32 :: st) es) : Zj p l e R s m args below meth c Q G B nL k n (pc) ls (.int x :: st) es :=
  fun H lo la hW hS hl => lv_i2s E.1 E.2.1 d rfl (kk H lo la hW hS hl)
theorem z_i2c (E : En p s m args meth c G B nL cc own mn rt) {x : Int32} (d : decode cc pc = .ok (.i2c, 1))  (kk : Zj p l e R s m args below meth c Q G B nL k n (pc + 1) ls (.int (x.toUInt32 % 65536).toInt32 :: st) es) : Zj p l e R s m args below meth c Q G B nL k n (pc) ls (.int x :: st) es :=
  fun H lo la hW hS hl => lv_i2c E.1 E.2.1 d rfl (kk H lo la hW hS hl)
theorem z_iconst (E : En p s m args meth c G B nL cc own mn rt) {z : Int} {v : Int32} (d : decode cc pc = .ok (.iconst z, 1)) (hv : Int32.ofInt z = v) (kk : Zj p l e R s m args below meth c Q G B nL k n (pc + 1) ls (.int v :: st) es) : Zj p l e R s m args below meth c Q G B nL k n (pc) ls (st) es :=
  fun H lo la hW hS hl => lv_iconst E.1 E.2.1 d hv (kk H lo la hW hS hl)
theorem z_bipush (E : En p s m args meth c G B nL cc own mn rt) {z : Int} {v : Int32} (d : decode cc pc = .ok (.bipush z, 2)) (hv : (Int8.ofInt z).toInt32 = v) (kk : Zj p l e R s m args below meth c Q G B nL k n (pc + 2) ls (.int v :: st) es) : Zj p l e R s m args below meth c Q G B nL k n (pc) ls (st) es :=
  fun H lo la hW hS hl => lv_bipush E.1 E.2.1 d hv (kk H lo la hW hS hl)
theorem z_sipush (E : En p s m args meth c G B nL cc own mn rt) {z : Int} {v : Int32} (d : decode cc pc = .ok (.sipush z, 3)) (hv : (Int16.ofInt z).toInt32 = v) (kk : Zj p l e R s m args below meth c Q G B nL k n (pc + 3) ls (.int v :: st) es) : Zj p l e R s m args below meth c Q G B nL k n (pc) ls (st) es :=
  fun H lo la hW hS hl => lv_sipush E.1 E.2.1 d hv (kk H lo la hW hS hl)
theorem z_lconst (E : En p s m args meth c G B nL cc own mn rt) {z : Fin 2} {v : Int64} (d : decode cc pc = .ok (.lconst z, 1)) (hv : Int64.ofNat (z : Nat) = v) (kk : Zj p l e R s m args below meth c Q G B nL k n (pc + 1) ls (.long v :: st) es) : Zj p l e R s m args below meth c Q G B nL k n (pc) ls (st) es :=
  fun H lo la hW hS hl => lv_lconst E.1 E.2.1 d hv (kk H lo la hW hS hl)
theorem z_null (E : En p s m args meth c G B nL cc own mn rt)  (d : decode cc pc = .ok (.aconst_null, 1))  (kk : Zj p l e R s m args below meth c Q G B nL k n (pc + 1) ls (.null :: st) es) : Zj p l e R s m args below meth c Q G B nL k n (pc) ls (st) es :=
  fun H lo la hW hS hl => lv_null E.1 E.2.1 d (kk H lo la hW hS hl)
theorem z_iload_n (E : En p s m args meth c G B nL cc own mn rt) {q : Fin 4} {i : Nat} {x : Int32} (d : decode cc pc = .ok (.iload_n q, 1)) (hi : (q : Nat) = i) (hv : ls[i]? = some (some (.int x))) (kk : Zj p l e R s m args below meth c Q G B nL k n (pc + 1) ls (.int x :: st) es) : Zj p l e R s m args below meth c Q G B nL k n (pc) ls (st) es :=
  fun H lo la hW hS hl => lv_iload_n E.1 E.2.1 d hi (hl.2.2 _ _ hv) (kk H lo la hW hS hl)
theorem z_iload (E : En p s m args meth c G B nL cc own mn rt) {i : Nat} {x : Int32} (d : decode cc pc = .ok (.iload i, 2)) (hv : ls[i]? = some (some (.int x))) (kk : Zj p l e R s m args below meth c Q G B nL k n (pc + 2) ls (.int x :: st) es) : Zj p l e R s m args below meth c Q G B nL k n (pc) ls (st) es :=
  fun H lo la hW hS hl => lv_iload E.1 E.2.1 d (hl.2.2 _ _ hv) (kk H lo la hW hS hl)
theorem z_lload_n (E : En p s m args meth c G B nL cc own mn rt) {q : Fin 4} {i : Nat} {x : Int64} (d : decode cc pc = .ok (.lload_n q, 1)) (hi : (q : Nat) = i) (hv : ls[i]? = some (some (.long x))) (kk : Zj p l e R s m args below meth c Q G B nL k n (pc + 1) ls (.long x :: st) es) : Zj p l e R s m args below meth c Q G B nL k n (pc) ls (st) es :=
  fun H lo la hW hS hl => lv_lload_n E.1 E.2.1 d hi (hl.2.2 _ _ hv) (kk H lo la hW hS hl)
theorem z_lload (E : En p s m args meth c G B nL cc own mn rt) {i : Nat} {x : Int64} (d : decode cc pc = .ok (.lload i, 2)) (hv : ls[i]? = some (some (.long x))) (kk : Zj p l e R s m args below meth c Q G B nL k n (pc + 2) ls (.long x :: st) es) : Zj p l e R s m args below meth c Q G B nL k n (pc) ls (st) es :=
  fun H lo la hW hS hl => lv_lload E.1 E.2.1 d (hl.2.2 _ _ hv) (kk H lo la hW hS hl)
theorem z_aload_n (E : En p s m args meth c G B nL cc own mn rt) {q : Fin 4} {i : Nat} {x : Nat} (d : decode cc pc = .ok (.aload_n q, 1)) (hi : (q : Nat) = i) (hv : ls[i]? = some (some (.ref x))) (kk : Zj p l e R s m args below meth c Q G B nL k n (pc + 1) ls (.ref x :: st) es) : Zj p l e R s m args below meth c Q G B nL k n (pc) ls (st) es :=
  fun H lo la hW hS hl => lv_aload_n E.1 E.2.1 d hi (hl.2.2 _ _ hv) (kk H lo la hW hS hl)
theorem z_aload (E : En p s m args meth c G B nL cc own mn rt) {i : Nat} {x : Nat} (d : decode cc pc = .ok (.aload i, 2)) (hv : ls[i]? = some (some (.ref x))) (kk : Zj p l e R s m args below meth c Q G B nL k n (pc + 2) ls (.ref x :: st) es) : Zj p l e R s m args below meth c Q G B nL k n (pc) ls (st) es :=
  fun H lo la hW hS hl => lv_aload E.1 E.2.1 d (hl.2.2 _ _ hv) (kk H lo la hW hS hl)
theorem z_aload_nN (E : En p s m args meth c G B nL cc own mn rt) {q : Fin 4} {i : Nat} (d : decode cc pc = .ok (.aload_n q, 1)) (hi : (q : Nat) = i) (hv : ls[i]? = some (some .null)) (kk : Zj p l e R s m args below meth c Q G B nL k n (pc + 1) ls (.null :: st) es) : Zj p l e R s m args below meth c Q G B nL k n (pc) ls (st) es :=
  fun H lo la hW hS hl => lv_aload_nN E.1 E.2.1 d hi (hl.2.2 _ _ hv) (kk H lo la hW hS hl)
theorem z_aloadN (E : En p s m args meth c G B nL cc own mn rt) {i : Nat} (d : decode cc pc = .ok (.aload i, 2)) (hv : ls[i]? = some (some .null)) (kk : Zj p l e R s m args below meth c Q G B nL k n (pc + 2) ls (.null :: st) es) : Zj p l e R s m args below meth c Q G B nL k n (pc) ls (st) es :=
  fun H lo la hW hS hl => lv_aloadN E.1 E.2.1 d (hl.2.2 _ _ hv) (kk H lo la hW hS hl)
theorem z_dup (E : En p s m args meth c G B nL cc own mn rt) {va : Value} (d : decode cc pc = .ok (.dup, 1)) (h1 : va.category = 1) (kk : Zj p l e R s m args below meth c Q G B nL k n (pc + 1) ls (va :: va :: st) es) : Zj p l e R s m args below meth c Q G B nL k n (pc) ls (va :: st) es :=
  fun H lo la hW hS hl => lv_dup E.1 E.2.1 d h1 (kk H lo la hW hS hl)
theorem z_pop (E : En p s m args meth c G B nL cc own mn rt) {va : Value} (d : decode cc pc = .ok (.pop, 1)) (h1 : va.category = 1) (kk : Zj p l e R s m args below meth c Q G B nL k n (pc + 1) ls (st) es) : Zj p l e R s m args below meth c Q G B nL k n (pc) ls (va :: st) es :=
  fun H lo la hW hS hl => lv_pop E.1 E.2.1 d h1 (kk H lo la hW hS hl)
theorem z_dup_x1 (E : En p s m args meth c G B nL cc own mn rt) {va vb : Value} (d : decode cc pc = .ok (.dup_x1, 1)) (h1 : va.category = 1) (h2 : vb.category = 1) (kk : Zj p l e R s m args below meth c Q G B nL k n (pc + 1) ls (va :: vb :: va :: st) es) : Zj p l e R s m args below meth c Q G B nL k n (pc) ls (va :: vb :: st) es :=
  fun H lo la hW hS hl => lv_dup_x1 E.1 E.2.1 d h1 h2 (kk H lo la hW hS hl)
theorem z_dup_x2 (E : En p s m args meth c G B nL cc own mn rt) {va vb vd : Value} (d : decode cc pc = .ok (.dup_x2, 1)) (h1 : va.category = 1) (h2 : vb.category = 1) (h3 : vd.category = 1) (kk : Zj p l e R s m args below meth c Q G B nL k n (pc + 1) ls (va :: vb :: vd :: va :: st) es) : Zj p l e R s m args below meth c Q G B nL k n (pc) ls (va :: vb :: vd :: st) es :=
  fun H lo la hW hS hl => lv_dup_x2 E.1 E.2.1 d h1 h2 h3 (kk H lo la hW hS hl)
theorem z_dup2 (E : En p s m args meth c G B nL cc own mn rt) {va vb : Value} (d : decode cc pc = .ok (.dup2, 1)) (h1 : va.category = 1) (h2 : vb.category = 1) (kk : Zj p l e R s m args below meth c Q G B nL k n (pc + 1) ls (va :: vb :: va :: vb :: st) es) : Zj p l e R s m args below meth c Q G B nL k n (pc) ls (va :: vb :: st) es :=
  fun H lo la hW hS hl => lv_dup2_11 E.1 E.2.1 d h1 h2 (kk H lo la hW hS hl)
theorem z_dup2L (E : En p s m args meth c G B nL cc own mn rt) {va : Value} (d : decode cc pc = .ok (.dup2, 1)) (h1 : va.category = 2) (kk : Zj p l e R s m args below meth c Q G B nL k n (pc + 1) ls (va :: va :: st) es) : Zj p l e R s m args below meth c Q G B nL k n (pc) ls (va :: st) es :=
  fun H lo la hW hS hl => lv_dup2_2 E.1 E.2.1 d h1 (kk H lo la hW hS hl)
theorem z_pop2L (E : En p s m args meth c G B nL cc own mn rt) {va : Value} (d : decode cc pc = .ok (.pop2, 1)) (h1 : va.category = 2) (kk : Zj p l e R s m args below meth c Q G B nL k n (pc + 1) ls (st) es) : Zj p l e R s m args below meth c Q G B nL k n (pc) ls (va :: st) es :=
  fun H lo la hW hS hl => lv_pop2_2 E.1 E.2.1 d h1 (kk H lo la hW hS hl)
theorem z_lcmp (E : En p s m args meth c G B nL cc own mn rt) {x y : Int64} (d : decode cc pc = .ok (.lcmp, 1))  (kk : Zj p l e R s m args below meth c Q G B nL k n (pc + 1) ls (.int (lg_cmp x y) :: st) es) : Zj p l e R s m args below meth c Q G B nL k n (pc) ls (.long y :: .long x :: st) es :=
  fun H lo la hW hS hl => W.lcmp E.1 E.2.1 d (kk H lo la hW hS hl)
theorem z_istore_n (E : En p s m args meth c G B nL cc own mn rt) {q : Fin 4} {i : Nat} {x : Int32} (d : decode cc pc = .ok (.istore_n q, 1)) (hi : (q : Nat) = i) (hn : i < nL) (hp : zprev ls i = true) (kk : Zj p l e R s m args below meth c Q G B nL k n (pc + 1) (ls.set i (some (.int x))) (st) es) : Zj p l e R s m args below meth c Q G B nL k n (pc) ls (.int x :: st) es :=
  fun H lo la hW hS hl => lv_istore_n E.1 E.2.1 d hi hl.has hn rfl (fun la hq => kk H lo la hW hS (zl.st1 hp hq))
theorem z_istore (E : En p s m args meth c G B nL cc own mn rt) {i : Nat} {x : Int32} (d : decode cc pc = .ok (.istore i, 2))  (hn : i < nL) (hp : zprev ls i = true) (kk : Zj p l e R s m args below meth c Q G B nL k n (pc + 2) (ls.set i (some (.int x))) (st) es) : Zj p l e R s m args below meth c Q G B nL k n (pc) ls (.int x :: st) es :=
  fun H lo la hW hS hl => lv_istore E.1 E.2.1 d hl.has hn rfl (fun la hq => kk H lo la hW hS (zl.st1 hp hq))
theorem z_lstore_n (E : En p s m args meth c G B nL cc own mn rt) {q : Fin 4} {i : Nat} {x : Int64} (d : decode cc pc = .ok (.lstore_n q, 1)) (hi : (q : Nat) = i) (hn : i + 1 < nL) (hp : zprev ls i = true) (kk : Zj p l e R s m args below meth c Q G B nL k n (pc + 1) ((ls.set i (some (.long x))).set (i + 1) none) (st) es) : Zj p l e R s m args below meth c Q G B nL k n (pc) ls (.long x :: st) es :=
  fun H lo la hW hS hl => lv_lstore_n E.1 E.2.1 d hi hl.has hn rfl (fun la hq => kk H lo la hW hS (zl.st2 hp hq))
theorem z_lstore (E : En p s m args meth c G B nL cc own mn rt) {i : Nat} {x : Int64} (d : decode cc pc = .ok (.lstore i, 2))  (hn : i + 1 < nL) (hp : zprev ls i = true) (kk : Zj p l e R s m args below meth c Q G B nL k n (pc + 2) ((ls.set i (some (.long x))).set (i + 1) none) (st) es) : Zj p l e R s m args below meth c Q G B nL k n (pc) ls (.long x :: st) es :=
  fun H lo la hW hS hl => lv_lstore E.1 E.2.1 d hl.has hn rfl (fun la hq => kk H lo la hW hS (zl.st2 hp hq))
theorem z_astore_n (E : En p s m args meth c G B nL cc own mn rt) {q : Fin 4} {i : Nat} {x : Nat} (d : decode cc pc = .ok (.astore_n q, 1)) (hi : (q : Nat) = i) (hn : i < nL) (hp : zprev ls i = true) (kk : Zj p l e R s m args below meth c Q G B nL k n (pc + 1) (ls.set i (some (.ref x))) (st) es) : Zj p l e R s m args below meth c Q G B nL k n (pc) ls (.ref x :: st) es :=
  fun H lo la hW hS hl => lv_astore_n E.1 E.2.1 d hi hl.has hn rfl (fun la hq => kk H lo la hW hS (zl.st1 hp hq))
theorem z_astore (E : En p s m args meth c G B nL cc own mn rt) {i : Nat} {x : Nat} (d : decode cc pc = .ok (.astore i, 2))  (hn : i < nL) (hp : zprev ls i = true) (kk : Zj p l e R s m args below meth c Q G B nL k n (pc + 2) (ls.set i (some (.ref x))) (st) es) : Zj p l e R s m args below meth c Q G B nL k n (pc) ls (.ref x :: st) es :=
  fun H lo la hW hS hl => lv_astore E.1 E.2.1 d hl.has hn rfl (fun la hq => kk H lo la hW hS (zl.st1 hp hq))
theorem z_astore_nN (E : En p s m args meth c G B nL cc own mn rt) {q : Fin 4} {i : Nat} (d : decode cc pc = .ok (.astore_n q, 1)) (hi : (q : Nat) = i) (hn : i < nL) (hp : zprev ls i = true) (kk : Zj p l e R s m args below meth c Q G B nL k n (pc + 1) (ls.set i (some (.null))) (st) es) : Zj p l e R s m args below meth c Q G B nL k n (pc) ls (.null :: st) es :=
  fun H lo la hW hS hl => lv_astore_nN E.1 E.2.1 d hi hl.has hn rfl (fun la hq => kk H lo la hW hS (zl.st1 hp hq))
theorem z_astoreN (E : En p s m args meth c G B nL cc own mn rt) {i : Nat} (d : decode cc pc = .ok (.astore i, 2))  (hn : i < nL) (hp : zprev ls i = true) (kk : Zj p l e R s m args below meth c Q G B nL k n (pc + 2) (ls.set i (some (.null))) (st) es) : Zj p l e R s m args below meth c Q G B nL k n (pc) ls (.null :: st) es :=
  fun H lo la hW hS hl => lv_astoreN E.1 E.2.1 d hl.has hn rfl (fun la hq => kk H lo la hW hS (zl.st1 hp hq))
theorem z_iinc (E : En p s m args meth c G B nL cc own mn rt) {i : Nat} {z : Int} {x v : Int32} (d : decode cc pc = .ok (.iinc i z, 3)) (hx : ls[i]? = some (some (.int x))) (hv : x + Int32.ofInt z = v) (hn : i < nL) (hp : zprev ls i = true) (kk : Zj p l e R s m args below meth c Q G B nL k n (pc + 3) (ls.set i (some (.int v))) (st) es) : Zj p l e R s m args below meth c Q G B nL k n (pc) ls (st) es := by
  intro H lo la hW hS hl
  obtain ⟨j, hj⟩ := List.getElem?_of_mem ((za_mem ls 0 i).mpr ⟨i, by omega, hx⟩)
  exact lv_iinc E.1 E.2.1 d hl.has hj hv hn rfl (fun la hq => kk H lo la hW hS (zl.st1 hp hq))
theorem z_sub {ls' : List (Option Value)} (hs : ∀ (i : Nat) (v : Value), ls'[i]? = some (some v) → ls[i]? = some (some v)) (kk : Zj p l e R s m args below meth c Q G B nL k n (pc) ls' (st) es) : Zj p l e R s m args below meth c Q G B nL k n (pc) ls (st) es := fun H lo la hW hS hl => kk H lo la hW hS (hl.sub hs)
theorem z_drop (i : Nat) (kk : Zj p l e R s m args below meth c Q G B nL k n (pc) (ls.set i none) (st) es) : Zj p l e R s m args below meth c Q G B nL k n (pc) ls (st) es := by
  refine z_sub (fun j v h => ?_) kk
  by_cases hij : i = j
  · subst hij
    have hl : i < ls.length := by
      have := (List.getElem?_eq_some_iff.mp h).1
      simpa using this
    rw [List.getElem?_set_self hl] at h
    cases h
  · rwa [List.getElem?_set_ne hij] at h
theorem z_if_eq (E : En p s m args meth c G B nL cc own mn rt) {x : Int32} {off : Int} {tgt : Nat} (d : decode cc pc = .ok (.ifCond .eq off, 3)) (ht : (pc : Int) + off = (tgt : Int)) (kt : x = 0 → Zj p l e R s m args below meth c Q G B nL k n (tgt) ls (st) es) (kf : ¬ x = 0 → Zj p l e R s m args below meth c Q G B nL k n (pc + 3) ls (st) es) : Zj p l e R s m args below meth c Q G B nL k n (pc) ls (.int x :: st) es :=
  fun H lo la hW hS hl => lv_if_eq E.1 E.2.1 d ht (fun h => kt h H lo la hW hS hl) (fun h => kf h H lo la hW hS hl)
theorem z_icmp_eq (E : En p s m args meth c G B nL cc own mn rt) {x y : Int32} {off : Int} {tgt : Nat} (d : decode cc pc = .ok (.if_icmp .eq off, 3)) (ht : (pc : Int) + off = (tgt : Int)) (kt : x = y → Zj p l e R s m args below meth c Q G B nL k n (tgt) ls (st) es) (kf : ¬ x = y → Zj p l e R s m args below meth c Q G B nL k n (pc + 3) ls (st) es) : Zj p l e R s m args below meth c Q G B nL k n (pc) ls (.int y :: .int x :: st) es :=
  fun H lo la hW hS hl => lv_icmp_eq E.1 E.2.1 d ht (fun h => kt h H lo la hW hS hl) (fun h => kf h H lo la hW hS hl)
theorem z_if_ne (E : En p s m args meth c G B nL cc own mn rt) {x : Int32} {off : Int} {tgt : Nat} (d : decode cc pc = .ok (.ifCond .ne off, 3)) (ht : (pc : Int) + off = (tgt : Int)) (kt : ¬ x = 0 → Zj p l e R s m args below meth c Q G B nL k n (tgt) ls (st) es) (kf : x = 0 → Zj p l e R s m args below meth c Q G B nL k n (pc + 3) ls (st) es) : Zj p l e R s m args below meth c Q G B nL k n (pc) ls (.int x :: st) es :=
  fun H lo la hW hS hl => lv_if_ne E.1 E.2.1 d ht (fun h => kt h H lo la hW hS hl) (fun h => kf h H lo la hW hS hl)
theorem z_icmp_ne (E : En p s m args meth c G B nL cc own mn rt) {x y : Int32} {off : Int} {tgt : Nat} (d : decode cc pc = .ok (.if_icmp .ne off, 3)) (ht : (pc : Int) + off = (tgt : Int)) (kt : ¬ x = y → Zj p l e R s m args below meth c Q G B nL k n (tgt) ls (st) es) (kf : x = y → Zj p l e R s m args below meth c Q G B nL k n (pc + 3) ls (st) es) : Zj p l e R s m args below meth c Q G B nL k n (pc) ls (.int y :: .int x :: st) es :=
  fun H lo la hW hS hl => lv_icmp_ne E.1 E.2.1 d ht (fun h => kt h H lo la hW hS hl) (fun h => kf h H lo la hW hS hl)
theorem z_if_lt (E : En p s m args meth c G B nL cc own mn rt) {x : Int32} {off : Int} {tgt : Nat} (d : decode cc pc = .ok (.ifCond .lt off, 3)) (ht : (pc : Int) + off = (tgt : Int)) (kt : x < 0 → Zj p l e R s m args below meth c Q G B nL k n (tgt) ls (st) es) (kf : ¬ x < 0 → Zj p l e R s m args below meth c Q G B nL k n (pc + 3) ls (st) es) : Zj p l e R s m args below meth c Q G B nL k n (pc) ls (.int x :: st) es :=
  fun H lo la hW hS hl => lv_if_lt E.1 E.2.1 d ht (fun h => kt h H lo la hW hS hl) (fun h => kf h H lo la hW hS hl)
theorem z_icmp_lt (E : En p s m args meth c G B nL cc own mn rt) {x y : Int32} {off : Int} {tgt : Nat} (d : decode cc pc = .ok (.if_icmp .lt off, 3)) (ht : (pc : Int) + off = (tgt : Int)) (kt : x < y → Zj p l e R s m args below meth c Q G B nL k n (tgt) ls (st) es) (kf : ¬ x < y → Zj p l e R s m args below meth c Q G B nL k n (pc + 3) ls (st) es) : Zj p l e R s m args below meth c Q G B nL k n (pc) ls (.int y :: .int x :: st) es :=
  fun H lo la hW hS hl => lv_icmp_lt E.1 E.2.1 d ht (fun h => kt h H lo la hW hS hl) (fun h => kf h H lo la hW hS hl)
theorem z_if_ge (E : En p s m args meth c G B nL cc own mn rt) {x : Int32} {off : Int} {tgt : Nat} (d : decode cc pc = .ok (.ifCond .ge off, 3)) (ht : (pc : Int) + off = (tgt : Int)) (kt : 0 ≤ x → Zj p l e R s m args below meth c Q G B nL k n (tgt) ls (st) es) (kf : ¬ 0 ≤ x → Zj p l e R s m args below meth c Q G B nL k n (pc + 3) ls (st) es) : Zj p l e R s m args below meth c Q G B nL k n (pc) ls (.int x :: st) es :=
  fun H lo la hW hS hl => lv_if_ge E.1 E.2.1 d ht (fun h => kt h H lo la hW hS hl) (fun h => kf h H lo la hW hS hl)
theorem z_icmp_ge (E : En p s m args meth c G B nL cc own mn rt) {x y : Int32} {off : Int} {tgt : Nat} (d : decode cc pc = .ok (.if_icmp .ge off, 3)) (ht : (pc : Int) + off = (tgt : Int)) (kt : y ≤ x → Zj p l e R s m args below meth c Q G B nL k n (tgt) ls (st) es) (kf : ¬ y ≤ x → Zj p l e R s m args below meth c Q G B nL k n (pc + 3) ls (st) es) : Zj p l e R s m args below meth c Q G B nL k n (pc) ls (.int y :: .int x :: st) es :=
  fun H lo la hW hS hl => lv_icmp_ge E.1 E.2.1 d ht (fun h => kt h H lo la hW hS hl) (fun h => kf h H lo la hW hS hl)
theorem z_if_gt (E : En p s m args meth c G B nL cc own mn rt) {x : Int32} {off : Int} {tgt : Nat} (d : decode cc pc = .ok (.ifCond .gt off, 3)) (ht : (pc : Int) + off = (tgt : Int)) (kt : 0 < x → Zj p l e R s m args below meth c Q G B nL k n (tgt) ls (st) es) (kf : ¬ 0 < x → Zj p l e R s m args below meth c Q G B nL k n (pc + 3) ls (st) es) : Zj p l e R s m args below meth c Q G B nL k n (pc) ls (.int x :: st) es :=
  fun H lo la hW hS hl => lv_if_gt E.1 E.2.1 d ht (fun h => kt h H lo la hW hS hl) (fun h => kf h H lo la hW hS hl)
theorem z_icmp_gt (E : En p s m args meth c G B nL cc own mn rt) {x y : Int32} {off : Int} {tgt : Nat} (d : decode cc pc = .ok (.if_icmp .gt off, 3)) (ht : (pc : Int) + off = (tgt : Int)) (kt : y < x → Zj p l e R s m args below meth c Q G B nL k n (tgt) ls (st) es) (kf : ¬ y < x → Zj p l e R s m args below meth c Q G B nL k n (pc + 3) ls (st) es) : Zj p l e R s m args below meth c Q G B nL k n (pc) ls (.int y :: .int x :: st) es :=
  fun H lo la hW hS hl => lv_icmp_gt E.1 E.2.1 d ht (fun h => kt h H lo la hW hS hl) (fun h => kf h H lo la hW hS hl)
theorem z_if_le (E : En p s m args meth c G B nL cc own mn rt) {x : Int32} {off : Int} {tgt : Nat} (d : decode cc pc = .ok (.ifCond .le off, 3)) (ht : (pc : Int) + off = (tgt : Int)) (kt : x ≤ 0 → Zj p l e R s m args below meth c Q G B nL k n (tgt) ls (st) es) (kf : ¬ x ≤ 0 → Zj p l e R s m args below meth c Q G B nL k n (pc + 3) ls (st) es) : Zj p l e R s m args below meth c Q G B nL k n (pc) ls (.int x :: st) es :=
  fun H lo la hW hS hl => lv_if_le E.1 E.2.1 d ht (fun h => kt h H lo la hW hS hl) (fun h => kf h H lo la hW hS hl)
theorem z_icmp_le (E : En p s m args meth c G B nL cc own mn rt) {x y : Int32} {off : Int} {tgt : Nat} (d : decode cc pc = .ok (.if_icmp .le off, 3)) (ht : (pc : Int) + off = (tgt : Int)) (kt : x ≤ y → Zj p l e R s m args below meth c Q G B nL k n (tgt) ls (st) es) (kf : ¬ x ≤ y → Zj p l e R s m args below meth c Q G B nL k n (pc + 3) ls (st) es) : Zj p l e R s m args below meth c Q G B nL k n (pc) ls (.int y :: .int x :: st) es :=
  fun H lo la hW hS hl => lv_icmp_le E.1 E.2.1 d ht (fun h => kt h H lo la hW hS hl) (fun h => kf h H lo la hW hS hl)
theorem z_goto (E : En p s m args meth c G B nL cc own mn rt) {off : Int} {tgt : Nat} (d : decode cc pc = .ok (.goto off, 3)) (ht : (pc : Int) + off = (tgt : Int)) (kk : Zj p l e R s m args below meth c Q G B nL k n (tgt) ls (st) es) : Zj p l e R s m args below meth c Q G B nL k n (pc) ls (st) es := fun H lo la hW hS hl => lv_goto E.1 E.2.1 d ht (kk H lo la hW hS hl)
theorem z_ifnonnull (E : En p s m args meth c G B nL cc own mn rt) {x : Nat} {off : Int} {tgt : Nat} (d : decode cc pc = .ok (.ifnonnull off, 3)) (ht : (pc : Int) + off = (tgt : Int)) (kk : Zj p l e R s m args below meth c Q G B nL k n (tgt) ls (st) es) : Zj p l e R s m args below meth c Q G B nL k n (pc) ls (.ref x :: st) es := fun H lo la hW hS hl => lv_ifnonnull E.1 E.2.1 d ht (kk H lo la hW hS hl)
theorem z_ifnull (E : En p s m args meth c G B nL cc own mn rt) {x : Nat} {off : Int} (d : decode cc pc = .ok (.ifnull off, 3)) (kk : Zj p l e R s m args below meth c Q G B nL k n (pc + 3) ls (st) es) : Zj p l e R s m args below meth c Q G B nL k n (pc) ls (.ref x :: st) es := fun H lo la hW hS hl => lv_ifnull E.1 E.2.1 d (kk H lo la hW hS hl)
theorem z_ifnullN (E : En p s m args meth c G B nL cc own mn rt) {off : Int} {tgt : Nat} (d : decode cc pc = .ok (.ifnull off, 3)) (ht : (pc : Int) + off = (tgt : Int)) (kk : Zj p l e R s m args below meth c Q G B nL k n (tgt) ls (st) es) : Zj p l e R s m args below meth c Q G B nL k n (pc) ls (.null :: st) es := fun H lo la hW hS hl => lv_ifnullN E.1 E.2.1 d ht (kk H lo la hW hS hl)
theorem z_ifnonnullN (E : En p s m args meth c G B nL cc own mn rt) {off : Int} (d : decode cc pc = .ok (.ifnonnull off, 3)) (kk : Zj p l e R s m args below meth c Q G B nL k n (pc + 3) ls (st) es) : Zj p l e R s m args below meth c Q G B nL k n (pc) ls (.null :: st) es := fun H lo la hW hS hl => lv_ifnonnullN E.1 E.2.1 d (kk H lo la hW hS hl)
theorem z_tableIn (E : En p s m args meth c G B nL cc own mn rt) {dflt lo hi : Int} {offs : Array Int} {len : Nat} {x : Int32} {off : Int} {tgt : Nat} (d : decode cc pc = .ok (.tableswitch dflt lo hi offs, len)) (h1 : ¬ x.toInt < lo) (h2 : ¬ hi < x.toInt) (ho : offs[(x.toInt - lo).toNat]? = some off) (ht : (pc : Int) + off = (tgt : Int)) (kk : Zj p l e R s m args below meth c Q G B nL k n (tgt) ls (st) es) : Zj p l e R s m args below meth c Q G B nL k n (pc) ls (.int x :: st) es := fun H loo la hW hS hl => lv_tableIn E.1 E.2.1 d h1 h2 ho ht (kk H loo la hW hS hl)
theorem z_tableOut (E : En p s m args meth c G B nL cc own mn rt) {dflt lo hi : Int} {offs : Array Int} {len : Nat} {x : Int32} {tgt : Nat} (d : decode cc pc = .ok (.tableswitch dflt lo hi offs, len)) (h : x.toInt < lo ∨ hi < x.toInt) (ht : (pc : Int) + dflt = (tgt : Int)) (kk : Zj p l e R s m args below meth c Q G B nL k n (tgt) ls (st) es) : Zj p l e R s m args below meth c Q G B nL k n (pc) ls (.int x :: st) es := fun H loo la hW hS hl => lv_tableOut E.1 E.2.1 d h ht (kk H loo la hW hS hl)
theorem z_lookup (E : En p s m args meth c G B nL cc own mn rt) {dflt : Int} {ps : Array (Int × Int)} {len : Nat} {x : Int32} {off : Int} {tgt : Nat} (d : decode cc pc = .ok (.lookupswitch dflt ps, len)) (hp : (ps.toList.zip (ps.toList.drop 1)).all (fun (a, next) => a.1 < next.1) = true) (ho : Op.lookupswitch.offset ps.toList dflt x.toInt = off) (ht : (pc : Int) + off = (tgt : Int)) (kk : Zj p l e R s m args below meth c Q G B nL k n (tgt) ls (st) es) : Zj p l e R s m args below meth c Q G B nL k n (pc) ls (.int x :: st) es := fun H lo la hW hS hl => lv_lookup E.1 E.2.1 d hp ho ht (kk H lo la hW hS hl)
theorem z_ldc (E : En p s m args meth c G B nL cc own mn rt) {index : Nat} {v : Int32} (hc : Cond.constant own index v ∈ zzW) (d : decode cc pc = .ok (.ldc index, 2)) (kk : Zj p l e R s m args below meth c Q G B nL k n (pc + 2) ls (.int v :: st) es) : Zj p l e R s m args below meth c Q G B nL k n (pc) ls (st) es := fun H lo la hW hS hl => lv_ldc E.1 E.2.1 E.2.2.2.1 (E.2.2.2.2.1 _ hc) d (kk H lo la hW hS hl)
theorem z_ldc2 (E : En p s m args meth c G B nL cc own mn rt) {index : Nat} {v : Int64} (hc : Cond.constantLong own index v ∈ zzW) (d : decode cc pc = .ok (.ldc2_w index, 3)) (kk : Zj p l e R s m args below meth c Q G B nL k n (pc + 3) ls (.long v :: st) es) : Zj p l e R s m args below meth c Q G B nL k n (pc) ls (st) es := fun H lo la hW hS hl => lv_ldc2 E.1 E.2.1 E.2.2.2.1 (E.2.2.2.2.1 _ hc) d (kk H lo la hW hS hl)
theorem z_topi {x y : Int32} (h : x = y) (kk : Zj p l e R s m args below meth c Q G B nL k n (pc) ls (.int y :: st) es) : Zj p l e R s m args below meth c Q G B nL k n (pc) ls (.int x :: st) es := by rw [h]; exact kk
theorem z_topl {x y : Int64} (h : x = y) (kk : Zj p l e R s m args below meth c Q G B nL k n (pc) ls (.long y :: st) es) : Zj p l e R s m args below meth c Q G B nL k n (pc) ls (.long x :: st) es := by rw [h]; exact kk
theorem z_st {st' : List Value} (h : st = st') (kk : Zj p l e R s m args below meth c Q G B nL k n (pc) ls (st') es) : Zj p l e R s m args below meth c Q G B nL k n (pc) ls (st) es := by rw [h]; exact kk
theorem z_widen {k' n' : Nat} (h1 : k ≤ k') (h2 : n ≤ n') (kk : Zj p l e R s m args below meth c Q G B nL k' n' pc ls st es) : Zj p l e R s m args below meth c Q G B nL k n (pc) ls (st) es := fun H lo la hW hS hl => W.widen h1 h2 (kk H lo la hW hS hl)
/-- the link of a getfield or putfield: the class's place, the field's place; by a word of the tables, or of nest mates -/
def zFw (own : String) (idx : Nat) (q : String × String × String) : Prop := Cond.fieldLink own idx q.1 q.2.1 q.2.2 ∈ zzW ∨ ∃ host, (own, idx, q.1, q.2.1, q.2.2, host) ∈ zzNF
def zF (own : String) (idx ci kf : Nat) : Prop := ∃ (C : String) (T : u_T) (N : Nat), vwCl[ci]? = some (C, T, N) ∧ (∀ w ∈ u_ws C T N, w ∈ zzW) ∧ kf < N ∧ zFw own idx ((T kf).1, (T kf).2.1, (T kf).2.2.1)
def zFp (own : String) (idx ci kf : Nat) (ty : FieldType) (fin : Bool) : Prop := ∃ (C : String) (T : u_T) (N : Nat) (ty0 : Nat → FieldType), vwCl[ci]? = some (C, T, N) ∧ (∀ w ∈ u_ws C T N, w ∈ zzW) ∧ (∀ k, k < N → parseFieldDescriptor (T k).2.2.1 = some (ty0 k)) ∧ (∀ a, a < N → ∀ b, b < N → a ≠ b → (T a).2.1 ≠ (T b).2.1) ∧ kf < N ∧ zFw own idx ((T kf).1, (T kf).2.1, (T kf).2.2.1) ∧ (T kf).2.2.2 = fin ∧ parseFieldDescriptor (T kf).2.2.1 = some ty ∧ (fin = true → (T kf).1 = own ∧ Cond.fieldLink own idx (T kf).1 (T kf).2.1 (T kf).2.2.1 ∈ zzW)
theorem z_get (E : En p s m args meth c G B nL cc own mn rt) {idx ci kf i : Nat} {fs : List Value} {v : Value} (hf : zF own idx ci kf) (d : decode cc pc = .ok (.getfield idx, 3)) (he : es[i]? = some (.inr (ci, fs))) (hv : fs[kf]? = some v) (kk : Zj p l e R s m args below meth c Q G B nL k n (pc + 3) ls (v :: st) es) : Zj p l e R s m args below meth c Q G B nL k n (pc) ls (.ref (B + i) :: st) es := by
  intro H lo la hW hS hl
  obtain ⟨C, T, N, hc, hw, hk, hlk | ⟨host, hlk⟩⟩ := hf
  · exact va_get (C := C) (T := T) (N := N) E.1 E.2.1 E.2.2.2.2.1 hw E.2.2.2.1 E.2.2.2.2.2.1 hW.2 i (zw_at he) hc kf hk (E.2.2.2.2.1 _ hlk) (fun _ h => h) hv d (kk H lo la hW hS hl)
  · exact va_getN (C := C) (T := T) (N := N) E.1 E.2.1 E.2.2.2.2.1 hw E.2.2.2.1 E.2.2.2.2.2.1 hW.2 i (zw_at he) hc kf hk (va_Nw.use rfl (E.2.2.2.2.2.2.1.1 _ hlk)) (fun _ h => h) hv d (kk H lo la hW hS hl)
theorem z_put (E : En p s m args meth c G B nL cc own mn rt) {idx ci kf i : Nat} {fs : List Value} {v : Value} {ty : FieldType} (hf : zFp own idx ci kf ty false) (d : decode cc pc = .ok (.putfield idx, 3)) (he : es[i]? = some (.inr (ci, fs))) (hl : kf < fs.length) (hn : narrow ty v = v) (hfit : fits ty v = true) (kk : ∀ es', es' = es.set i (.inr (ci, fs.set kf v)) → Zj p l e R s m args below meth c Q G B nL k n (pc + 3) ls (st) es') : Zj p l e R s m args below meth c Q G B nL k n (pc) ls (v :: .ref (B + i) :: st) es := by
  intro H lo la hW hS hl2
  have sz : ∀ (H1 : Heap) (lo1 : List Loc), va_P G.1 vwCl ((zw B es).set i (B + i, .inr (ci, fs.set kf v))) H1 → H1.size = H.size → va_S (fun q => B ≤ q) s.heap H1 lo1 → W p l e R s m args below meth c H1 lo1 k n Q (F0 m (pc + 3) la st) := fun H1 lo1 h1 hz h2 => kk _ rfl H1 lo1 la (hW.upd hz h1) h2 hl2
  obtain ⟨C, T, N, ty0, hc, hw, hty, hnm, hk, hlk, hfin, hd, -⟩ := hf
  have hap := va_apart (own := own) E.2.2.2.2.1 hw ty0 hty hnm E.2.2.2.2.2.1 hc
  obtain ⟨r, h1, cell, q1, q2, q3, q4⟩ := hW.2 i _ (zw_at he)
  have hr : r = (C, T, N) := Option.some.inj (h1.symm.trans hc)
  subst hr
  obtain ⟨hSl, hfc, kC, hkC, hkind⟩ := E.2.2.2.2.2.1.1 ci _ hc
  obtain ⟨cf, kf', fi, f, hi, hsl⟩ := hSl kf hk
  have hlay := E.2.2.2.2.1 _ (hw _ (u_in_lay hk))
  unfold u_lay at hlay
  rw [if_neg (by rw [hfin]; decide)] at hlay
  have hst := (u_facts hfc hkC (u_lays E.2.2.2.2.1 hw hk) hi).1
  have h6 := u_store hfc hkC hkind hlay hi hd hn hfit
  have fin : ∀ H' : Heap, H'[B + i]? = some (cell.setSlot f.slot v) → H'.size = H.size → (∀ q, q ≠ B + i → H'[q]? = H[q]?) → W p l e R s m args below meth c H' (lo ++ [⟨B + i, f.slot⟩]) k n Q (F0 m (pc + 3) la st) := by
    intro H' e1 e2 e3
    rw [hsl] at e1
    refine sz H' _ (hW.2.set zw_D (zw_at he) ⟨_, hc, t_OB.to (V := updV (vp_V fs) kf v) ⟨_, e1, q2, q3, t_set q4 hap hk v⟩ (fun j _ => vp_updV_set hl v j)⟩ e3) e2 (hS.put e2 e3 (Nat.le_add_right B i))
  rcases hlk with hlk | ⟨host, hlk⟩
  · exact W.putK E.1 E.2.1 (f := f) ⟨E.2.2.2.1, E.2.2.2.2.1 _ hlk, ⟨_, _, _, hi⟩, hst⟩ (by rw [q2]; exact h6) q1 q3 (by rw [hsl]; exact k2_hasslot (q4 kf hk)) rfl rfl d fin
  · exact va_WputK E.1 E.2.1 (f := f) E.2.2.2.1 (va_Nw.use rfl (E.2.2.2.2.2.2.1.1 _ hlk)) hi hst (by rw [q2]; exact h6) q1 q3 (by rw [hsl]; exact k2_hasslot (q4 kf hk)) rfl rfl d fin
theorem z_putF (E : En p s m args meth c G B nL cc own mn rt) {idx ci kf i : Nat} {fs : List Value} {v : Value} {ty : FieldType} (hf : zFp own idx ci kf ty true) (hmn : mn = "<init>") (d : decode cc pc = .ok (.putfield idx, 3)) (he : es[i]? = some (.inr (ci, fs))) (hl : kf < fs.length) (hn : narrow ty v = v) (hfit : fits ty v = true) (kk : ∀ es', es' = es.set i (.inr (ci, fs.set kf v)) → Zj p l e R s m args below meth c Q G B nL k n (pc + 3) ls (st) es') : Zj p l e R s m args below meth c Q G B nL k n (pc) ls (v :: .ref (B + i) :: st) es := by
  intro H lo la hW hS hl2
  have sz : ∀ (H1 : Heap) (lo1 : List Loc), va_P G.1 vwCl ((zw B es).set i (B + i, .inr (ci, fs.set kf v))) H1 → H1.size = H.size → va_S (fun q => B ≤ q) s.heap H1 lo1 → W p l e R s m args below meth c H1 lo1 k n Q (F0 m (pc + 3) la st) := fun H1 lo1 h1 hz h2 => kk _ rfl H1 lo1 la (hW.upd hz h1) h2 hl2
  obtain ⟨C, T, N, ty0, hc, hw, hty, hnm, hk, -, hfin, hd, hown⟩ := hf
  obtain ⟨hdecl, hlk⟩ := hown rfl
  have hap := va_apart (own := own) E.2.2.2.2.1 hw ty0 hty hnm E.2.2.2.2.2.1 hc
  obtain ⟨r, h1, cell, q1, q2, q3, q4⟩ := hW.2 i _ (zw_at he)
  have hr : r = (C, T, N) := Option.some.inj (h1.symm.trans hc)
  subst hr
  obtain ⟨hSl, hfc, kC, hkC, hkind⟩ := E.2.2.2.2.2.1.1 ci _ hc
  obtain ⟨cf, kf', fi, f, hi, hsl⟩ := hSl kf hk
  have hlay := E.2.2.2.2.1 _ (hw _ (u_in_lay hk))
  unfold u_lay at hlay
  rw [if_pos hfin] at hlay
  have hst := (u_facts hfc hkC (u_lays E.2.2.2.2.1 hw hk) hi).1
  have hcf : m.cls = cf := by
    obtain ⟨_, _, c', _, _, _, -, -, hf', -, -, -, hown2, -⟩ := Cond.laysFinal_spec hlay
    have e1 : c' = cf := by have := hi.symm.trans hf'; simp at this; exact this.1.symm
    rw [hdecl] at hown2
    rw [← e1]; exact Option.some.inj (E.2.2.2.1.symm.trans hown2)
  have h6 := u_fits hfc hkC hkind (Or.inr hlay) hi hd hn hfit
  refine W.putFinK E.1 E.2.1 E.2.2.2.1 (E.2.2.2.2.1 _ hlk) hi hst hcf (E.2.2.2.2.2.2.2.2.2.2.2.trans hmn) (by rw [q2]; exact h6) q1 q3 (by rw [hsl]; exact k2_hasslot (q4 kf hk)) rfl rfl d fun H' e1 e2 e3 => ?_
  rw [hsl] at e1
  exact sz H' _ (hW.2.set zw_D (zw_at he) ⟨_, hc, t_OB.to (V := updV (vp_V fs) kf v) ⟨_, e1, q2, q3, t_set q4 hap hk v⟩ (fun j _ => vp_updV_set hl v j)⟩ e3) e2 (hS.put e2 e3 (Nat.le_add_right B i))
theorem z_iald (E : En p s m args meth c G B nL cc own mn rt) {i ti N : Nat} {f : Nat → Int32} {j : Int32} (ht : zzTy[ti]? = some .int) (d : decode cc pc = .ok (.iaload, 1)) (he : es[i]? = some (.inl (G.2.1 ti, N, .inl f))) (hin : vp_in j N) (kk : Zj p l e R s m args below meth c Q G B nL k n (pc + 1) ls (.int (f j.toNatClampNeg) :: st) es) : Zj p l e R s m args below meth c Q G B nL k n (pc) ls (.int j :: .ref (B + i) :: st) es :=
  fun H lo la hW hS hl => va_iald E.1 E.2.1 E.2.2.2.2.2.1 hW.2 i ti (zw_at he) (zty_at ht) hin d (kk H lo la hW hS hl)
theorem z_bald (E : En p s m args meth c G B nL cc own mn rt) {i ti N : Nat} {f : Nat → Int32} {j : Int32} (ht : zzTy[ti]? = some .byte) (d : decode cc pc = .ok (.baload, 1)) (he : es[i]? = some (.inl (G.2.1 ti, N, .inl f))) (hin : vp_in j N) (kk : Zj p l e R s m args below meth c Q G B nL k n (pc + 1) ls (.int (f j.toNatClampNeg) :: st) es) : Zj p l e R s m args below meth c Q G B nL k n (pc) ls (.int j :: .ref (B + i) :: st) es :=
  fun H lo la hW hS hl => va_bald E.1 E.2.1 E.2.2.2.2.2.1 hW.2 i ti (zw_at he) (zty_at ht) hin d (kk H lo la hW hS hl)
theorem z_zald (E : En p s m args meth c G B nL cc own mn rt) {i ti N : Nat} {f : Nat → Int32} {j : Int32} (ht : zzTy[ti]? = some .boolean) (d : decode cc pc = .ok (.baload, 1)) (he : es[i]? = some (.inl (G.2.1 ti, N, .inl f))) (hin : vp_in j N) (kk : Zj p l e R s m args below meth c Q G B nL k n (pc + 1) ls (.int (f j.toNatClampNeg) :: st) es) : Zj p l e R s m args below meth c Q G B nL k n (pc) ls (.int j :: .ref (B + i) :: st) es :=
  fun H lo la hW hS hl => va_zald E.1 E.2.1 E.2.2.2.2.2.1 hW.2 i ti (zw_at he) (zty_at ht) hin d (kk H lo la hW hS hl)
theorem z_cald (E : En p s m args meth c G B nL cc own mn rt) {i ti N : Nat} {f : Nat → Int32} {j : Int32} (ht : zzTy[ti]? = some .char) (d : decode cc pc = .ok (.caload, 1)) (he : es[i]? = some (.inl (G.2.1 ti, N, .inl f))) (hin : vp_in j N) (kk : Zj p l e R s m args below meth c Q G B nL k n (pc + 1) ls (.int (f j.toNatClampNeg) :: st) es) : Zj p l e R s m args below meth c Q G B nL k n (pc) ls (.int j :: .ref (B + i) :: st) es :=
  fun H lo la hW hS hl => va_cald E.1 E.2.1 E.2.2.2.2.2.1 hW.2 i ti (zw_at he) (zty_at ht) hin d (kk H lo la hW hS hl)
theorem z_sald (E : En p s m args meth c G B nL cc own mn rt) {i ti N : Nat} {f : Nat → Int32} {j : Int32} (ht : zzTy[ti]? = some .short) (d : decode cc pc = .ok (.saload, 1)) (he : es[i]? = some (.inl (G.2.1 ti, N, .inl f))) (hin : vp_in j N) (kk : Zj p l e R s m args below meth c Q G B nL k n (pc + 1) ls (.int (f j.toNatClampNeg) :: st) es) : Zj p l e R s m args below meth c Q G B nL k n (pc) ls (.int j :: .ref (B + i) :: st) es :=
  fun H lo la hW hS hl => va_sald E.1 E.2.1 E.2.2.2.2.2.1 hW.2 i ti (zw_at he) (zty_at ht) hin d (kk H lo la hW hS hl)
theorem z_lald (E : En p s m args meth c G B nL cc own mn rt) {i ti N : Nat} {f : Nat → Int64} {j : Int32} (ht : zzTy[ti]? = some .long) (d : decode cc pc = .ok (.laload, 1)) (he : es[i]? = some (.inl (G.2.1 ti, N, .inr (.inl (f))))) (hin : vp_in j N) (kk : Zj p l e R s m args below meth c Q G B nL k n (pc + 1) ls (.long (f j.toNatClampNeg) :: st) es) : Zj p l e R s m args below meth c Q G B nL k n (pc) ls (.int j :: .ref (B + i) :: st) es :=
  fun H lo la hW hS hl => va_lald E.1 E.2.1 E.2.2.2.2.2.1 hW.2 i ti (zw_at he) (zty_at ht) hin d (kk H lo la hW hS hl)
theorem z_aald (E : En p s m args meth c G B nL cc own mn rt) {i ti N : Nat} {C : String} {f : Nat → Option Nat} {j : Int32} (ht : zzTy[ti]? = some (.object C)) (d : decode cc pc = .ok (.aaload, 1)) (he : es[i]? = some (.inl (G.2.1 ti, N, .inr (.inr (.inr (.inr (f))))))) (hin : vp_in j N) (kk : Zj p l e R s m args below meth c Q G B nL k n (pc + 1) ls (va_rf (f j.toNatClampNeg) :: st) es) : Zj p l e R s m args below meth c Q G B nL k n (pc) ls (.int j :: .ref (B + i) :: st) es :=
  fun H lo la hW hS hl => va_aldq E.1 E.2.1 E.2.2.2.2.2.1 hW.2 i ti (zw_at he) (zty_at ht) hin d (kk H lo la hW hS hl)
theorem z_iast (E : En p s m args meth c G B nL cc own mn rt) {i ti N : Nat} {f : Nat → Int32} {j : Int32} {x : Int32} (ht : zzTy[ti]? = some .int) (d : decode cc pc = .ok (.iastore, 1)) (he : es[i]? = some (.inl (G.2.1 ti, N, .inl f))) (hin : vp_in j N) (kk : ∀ es', es' = es.set i (.inl (G.2.1 ti, N, .inl (upd f j.toNatClampNeg x))) → Zj p l e R s m args below meth c Q G B nL k n (pc + 1) ls (st) es') : Zj p l e R s m args below meth c Q G B nL k n (pc) ls (.int (x) :: .int j :: .ref (B + i) :: st) es := by
  intro H lo la hW hS hl
  refine W.iast E.1 E.2.1 (hW.2 i _ (zw_at he)) ((E.2.2.2.2.2.1.2 ti _ (zty_at ht)).1 N (fun j => .int (f j))) (fun q => by cases q) (by show ¬ (j < 0 ∨ (arrV _ _ _).slots.size ≤ _); rw [arrV_size]; exact hin) rfl rfl d fun H1 e z oq => ?_
  refine kk _ rfl H1 _ la (hW.upd z (hW.2.set zw_D (zw_at he) ?_ oq)) (hS.put z oq (Nat.le_add_right B i)) hl
  show H1[B + i]? = some (vp_cell _ _)
  rw [e, vp_cell_i, vp_cell_i, arrV_store]
  congr 2
  funext q
  by_cases hq : q = j.toNatClampNeg
  · subst hq
    simp [updV, upd]
  · simp [updV, upd, vp_updL, hq]
theorem z_bast (E : En p s m args meth c G B nL cc own mn rt) {i ti N : Nat} {f : Nat → Int32} {j : Int32} {x : Int32} (ht : zzTy[ti]? = some .byte) (d : decode cc pc = .ok (.bastore, 1)) (he : es[i]? = some (.inl (G.2.1 ti, N, .inl f))) (hin : vp_in j N) (kk : ∀ es', es' = es.set i (.inl (G.2.1 ti, N, .inl (upd f j.toNatClampNeg (vp_nar .byte x)))) → Zj p l e R s m args below meth c Q G B nL k n (pc + 1) ls (st) es') : Zj p l e R s m args below meth c Q G B nL k n (pc) ls (.int (x) :: .int j :: .ref (B + i) :: st) es := by
  intro H lo la hW hS hl
  refine W.bast E.1 E.2.1 (hW.2 i _ (zw_at he)) ((E.2.2.2.2.2.1.2 ti _ (zty_at ht)).1 N (fun j => .int (f j))) (fun q => by cases q) (by show ¬ (j < 0 ∨ (arrV _ _ _).slots.size ≤ _); rw [arrV_size]; exact hin) rfl rfl d fun H1 e z oq => ?_
  refine kk _ rfl H1 _ la (hW.upd z (hW.2.set zw_D (zw_at he) ?_ oq)) (hS.put z oq (Nat.le_add_right B i)) hl
  show H1[B + i]? = some (vp_cell _ _)
  rw [e, vp_cell_i, vp_cell_i, arrV_store]
  congr 2
  funext q
  by_cases hq : q = j.toNatClampNeg
  · subst hq
    simp [updV, upd, vp_nar]; try rfl
  · simp [updV, upd, vp_updL, hq]
theorem z_zast (E : En p s m args meth c G B nL cc own mn rt) {i ti N : Nat} {f : Nat → Int32} {j : Int32} {x : Int32} (ht : zzTy[ti]? = some .boolean) (d : decode cc pc = .ok (.bastore, 1)) (he : es[i]? = some (.inl (G.2.1 ti, N, .inl f))) (hin : vp_in j N) (kk : ∀ es', es' = es.set i (.inl (G.2.1 ti, N, .inl (upd f j.toNatClampNeg (vp_nar .boolean x)))) → Zj p l e R s m args below meth c Q G B nL k n (pc + 1) ls (st) es') : Zj p l e R s m args below meth c Q G B nL k n (pc) ls (.int (x) :: .int j :: .ref (B + i) :: st) es := by
  intro H lo la hW hS hl
  refine W.zast E.1 E.2.1 (hW.2 i _ (zw_at he)) ((E.2.2.2.2.2.1.2 ti _ (zty_at ht)).1 N (fun j => .int (f j))) (fun q => by cases q) (by show ¬ (j < 0 ∨ (arrV _ _ _).slots.size ≤ _); rw [arrV_size]; exact hin) rfl rfl d fun H1 e z oq => ?_
  refine kk _ rfl H1 _ la (hW.upd z (hW.2.set zw_D (zw_at he) ?_ oq)) (hS.put z oq (Nat.le_add_right B i)) hl
  show H1[B + i]? = some (vp_cell _ _)
  rw [e, vp_cell_i, vp_cell_i, arrV_store]
  congr 2
  funext q
  by_cases hq : q = j.toNatClampNeg
  · subst hq
    simp [updV, upd, vp_nar]; try rfl
  · simp [updV, upd, vp_updL, hq]
theorem z_last (E : En p s m args meth c G B nL cc own mn rt) {i ti N : Nat} {f : Nat → Int64} {j : Int32} {x : Int64} (ht : zzTy[ti]? = some .long) (d : decode cc pc = .ok (.lastore, 1)) (he : es[i]? = some (.inl (G.2.1 ti, N, .inr (.inl (f))))) (hin : vp_in j N) (kk : ∀ es', es' = es.set i (.inl (G.2.1 ti, N, .inr (.inl (vp_updL f j.toNatClampNeg x)))) → Zj p l e R s m args below meth c Q G B nL k n (pc + 1) ls (st) es') : Zj p l e R s m args below meth c Q G B nL k n (pc) ls (.long (x) :: .int j :: .ref (B + i) :: st) es := by
  intro H lo la hW hS hl
  refine W.last E.1 E.2.1 (hW.2 i _ (zw_at he)) ((E.2.2.2.2.2.1.2 ti _ (zty_at ht)).1 N (fun j => .long (f j))) (fun q => by cases q) (by show ¬ (j < 0 ∨ (arrV _ _ _).slots.size ≤ _); rw [arrV_size]; exact hin) rfl rfl d fun H1 e z oq => ?_
  refine kk _ rfl H1 _ la (hW.upd z (hW.2.set zw_D (zw_at he) ?_ oq)) (hS.put z oq (Nat.le_add_right B i)) hl
  show H1[B + i]? = some (vp_cell _ _)
  rw [e, vp_cell_l, vp_cell_l, arrV_store]
  congr 2
  funext q
  by_cases hq : q = j.toNatClampNeg
  · subst hq
    simp [updV, vp_updL]
  · simp [updV, upd, vp_updL, hq]
theorem z_aast (E : En p s m args meth c G B nL cc own mn rt) {i ti N qk ci a : Nat} {r : vw_C} {vs : List Value} {f : Nat → Option Nat} {j : Int32} (ht : zzTy[ti]? = some (.object r.1)) (hc : vwCl[ci]? = some r) (d : decode cc pc = .ok (.aastore, 1)) (he : es[i]? = some (.inl (G.2.1 ti, N, .inr (.inr (.inr (.inr (f))))))) (hv : es[qk]? = some (.inr (ci, vs))) (ha : a = B + qk) (hin : vp_in j N) (kk : ∀ es', es' = es.set i (.inl (G.2.1 ti, N, .inr (.inr (.inr (.inr (va_up f j.toNatClampNeg (some a))))))) → Zj p l e R s m args below meth c Q G B nL k n (pc + 1) ls (st) es') : Zj p l e R s m args below meth c Q G B nL k n (pc) ls (.ref a :: .int j :: .ref (B + i) :: st) es := by
  intro H lo la hW hS hl
  subst ha
  have hlt : j.toNatClampNeg < N := Nat.not_le.mp fun q => hin (Or.inr q)
  have h0 : ¬ j < 0 := fun q => hin (Or.inl q)
  obtain ⟨r', hr', cellV, g1, g2, g3, -⟩ := hW.2 qk _ (zw_at hv)
  have hcls := (E.2.2.2.2.2.1.1 ci r hc).2
  obtain ⟨kA, comp, k1, k2, k3, -⟩ := (E.2.2.2.2.2.1.2 ti _ (zty_at ht)).2
  have hcomp : comp = G.1.1 ci := Option.some.inj (k3.symm.trans hcls.1)
  subst hcomp
  obtain ⟨kC, hkC, -⟩ := hcls.2
  refine W.aast E.1 E.2.1 (hW.2 i _ (zw_at he)) (fun q h => by cases h) (fun h => by cases h) k1 k2 rfl hkC ⟨h0, by show _ < (arrV _ _ _).slots.size; rw [arrV_size]; exact hlt⟩ g1 (fun q h => by rw [g3] at h; cases h) (by rw [g2]; exact hkC) (by rw [g2]; exact va_assign hcls) rfl rfl d fun H1 e z oq => ?_
  refine kk _ rfl H1 _ la (hW.upd z (hW.2.set zw_D (zw_at he) ?_ oq)) (hS.put z oq (Nat.le_add_right B i)) hl
  show H1[B + i]? = some (vp_cell _ _)
  rw [e, vp_cell_q, vp_cell_q, arrV_store]
  congr 2
  funext q
  by_cases hq : q = j.toNatClampNeg
  · subst hq
    simp [updV, va_up, va_rf]
  · simp [updV, va_up, hq]
theorem z_alen (E : En p s m args meth c G B nL cc own mn rt) {i ti : Nat} {x : vp_A} {ty : FieldType} (ht : zzTy[ti]? = some ty) (d : decode cc pc = .ok (.arraylength, 1)) (he : es[i]? = some (.inl (G.2.1 ti, x))) (kk : Zj p l e R s m args below meth c Q G B nL k n (pc + 1) ls (.int (Int32.ofNat x.1) :: st) es) : Zj p l e R s m args below meth c Q G B nL k n (pc) ls (.ref (B + i) :: st) es :=
  fun H lo la hW hS hl => va_alen E.1 E.2.1 E.2.2.2.2.2.1 hW.2 i ti (zw_at he) (zty_at ht) rfl d (kk H lo la hW hS hl)
/-! static tables -/
theorem z_gets (E : En p s m args meth c G B nL cc own mn rt) {idx i : Nat} {q : String × String × List Int32} (hq : zzT[i]? = some q) (hlk : zFw own idx (q.1, q.2.1, "[I")) (d : decode cc pc = .ok (.getstatic idx, 3)) (kk : Zj p l e R s m args below meth c Q G B nL k n (pc + 3) ls (.ref (G.2.2.1 i) :: st) es) : Zj p l e R s m args below meth c Q G B nL k n (pc) ls (st) es := by
  intro H lo la hW hS hl
  rcases hlk with hlk | ⟨host, hlk⟩
  · exact va_gets E.1 E.2.1 (E.2.2.2.2.2.2.2.1.1 i q hq).1 hS E.2.2.2.1 (E.2.2.2.2.1 _ hlk) (fun _ h => h) d (kk H lo la hW hS hl)
  · exact va_getsN E.1 E.2.1 (E.2.2.2.2.2.2.2.1.1 i q hq).1 hS E.2.2.2.1 (va_Nw.use rfl (E.2.2.2.2.2.2.1.1 _ hlk)) (fun _ h => h) d (kk H lo la hW hS hl)
theorem z_ti (E : En p s m args meth c G B nL cc own mn rt) {i : Nat} {q : String × String × List Int32} {j : Int32} (hq : zzT[i]? = some q) (d : decode cc pc = .ok (.iaload, 1)) (hin : vp_in j q.2.2.length) (kk : Zj p l e R s m args below meth c Q G B nL k n (pc + 1) ls (.int (q.2.2.getD j.toNatClampNeg 0) :: st) es) : Zj p l e R s m args below meth c Q G B nL k n (pc) ls (.int j :: .ref (G.2.2.1 i) :: st) es :=
  fun H lo la hW hS hl => va_ti E.1 E.2.1 (E.2.2.2.2.2.2.2.1.1 i q hq).2 hS hin rfl d (kk H lo la hW hS hl)
theorem z_tlen (E : En p s m args meth c G B nL cc own mn rt) {i : Nat} {q : String × String × List Int32} (hq : zzT[i]? = some q) (d : decode cc pc = .ok (.arraylength, 1)) (kk : Zj p l e R s m args below meth c Q G B nL k n (pc + 1) ls (.int (Int32.ofNat q.2.2.length) :: st) es) : Zj p l e R s m args below meth c Q G B nL k n (pc) ls (.ref (G.2.2.1 i) :: st) es :=
  fun H lo la hW hS hl => va_tlen E.1 E.2.1 (E.2.2.2.2.2.2.2.1.1 i q hq).2 hS rfl d (kk H lo la hW hS hl)
/-! new cells -/
def zNw (own : String) (idx ci N : Nat) (fs : List Value) : Prop := ∃ (C : String) (T : u_T) (ty : Nat → FieldType), vwCl[ci]? = some (C, T, N) ∧ (∀ w ∈ u_ws C T N, w ∈ zzW) ∧ (∀ k, k < N → parseFieldDescriptor (T k).2.2.1 = some (ty k)) ∧ Cond.classLink own idx C ∈ zzW ∧ Cond.instantiable C N ∈ zzW ∧ Cond.initialized C ∈ zzW ∧ ∀ j, j < N → defaultValue (ty j) = vp_V fs j
theorem z_new (E : En p s m args meth c G B nL cc own mn rt) {idx ci N : Nat} {fs : List Value} (hn : zNw own idx ci N fs) (d : decode cc pc = .ok (.new idx, 3)) (hc : k + 1 ≤ R.cells) (hs : n + N ≤ R.slots) (kk : Zj p l e R s m args below meth c Q G B nL (k + 1) (n + N) (pc + 3) ls (.ref (B + es.length) :: st) (es ++ [.inr (ci, fs)])) : Zj p l e R s m args below meth c Q G B nL k n (pc) ls (st) es := by
  intro H lo la hW hS hl
  obtain ⟨C, T, ty, hcl, hw, hty, h1, h2, h3, hfs⟩ := hn
  have hKn := E.2.2.2.2.2.1.1 ci _ hcl
  refine W.newcK E.1 E.2.1 E.2.2.2.1 (E.2.2.2.2.1 _ h1) (E.2.2.2.2.1 _ h2) (E.2.2.2.2.1 _ h3) rfl d hc hs hKn.2.1 rfl fun H1 kC hkC e1 z1 o1 => ?_
  have := kk H1 lo la (hW.new z1 o1 ⟨_, hcl, (u_born ty E.2.2.2.2.1 hw hKn hkC e1 hty).to hfs⟩) ⟨Nat.le_trans hS.1 (by omega), fun x g1 g2 => (o1 x (Nat.lt_of_lt_of_le g1 hS.1)).trans (hS.2.1 x g1 g2), hS.2.2⟩ hl
  rw [← hW.1] at this
  exact this
theorem z_newa (E : En p s m args meth c G B nL cc own mn rt) {atype : ArrayType} {ty : FieldType} {ti N : Nat} {j : Int32} {a0 : vp_A} (hty : newarray.typeOf atype = ty) (hrf : ∀ C, ty ≠ .object C) (hw : Cond.arrayClass ty ∈ zzW) (ht : zzTy[ti]? = some ty) (d : decode cc pc = .ok (.newarray atype, 2)) (ha : ∀ cA : ClassId, vp_cell cA a0 = arrV cA N (fun _ => defaultValue ty)) (hj : ¬ j < 0) (hN : j.toNatClampNeg = N) (hby : N * componentBytes ty ≤ 536870912) (hc : k + 1 ≤ R.cells) (hs : n + N ≤ R.slots) (kk : Zj p l e R s m args below meth c Q G B nL (k + 1) (n + N) (pc + 2) ls (.ref (B + es.length) :: st) (es ++ [.inl (G.2.1 ti, a0)])) : Zj p l e R s m args below meth c Q G B nL k n (pc) ls (.int j :: st) es := by
  intro H lo la hW hS hl
  subst hty
  refine va_newaK E.1 E.2.1 (E.2.2.2.2.1 _ hw) rfl d rfl hj hN hby hc hs rfl fun H1 cA e1 z1 o1 hAr hNm => ?_
  have hcA : G.2.1 ti = cA := by
    have h := (E.2.2.2.2.2.1.2 ti _ (zty_at ht)).2
    have h' : s.vm.findClass ("[" ++ (newarray.typeOf atype).toString) = some (G.2.1 ti) := by
      revert h
      cases atype <;> exact fun h => h
    exact Option.some.inj (h'.symm.trans hNm)
  have := kk H1 lo la (hW.new z1 o1 (show H1[H.size]? = some (vp_cell _ _) by rw [ha, hcA]; exact e1)) ⟨Nat.le_trans hS.1 (by omega), fun x g1 g2 => (o1 x (Nat.lt_of_lt_of_le g1 hS.1)).trans (hS.2.1 x g1 g2), hS.2.2⟩ hl
  rw [← hW.1] at this
  exact this
theorem z_newq (E : En p s m args meth c G B nL cc own mn rt) {idx ti N : Nat} {C : String} {j : Int32} (hw : Cond.classLink own idx C ∈ zzW) (hao : C ∈ zzAO) (ht : zzTy[ti]? = some (.object C)) (d : decode cc pc = .ok (.anewarray idx, 3)) (hj : ¬ j < 0) (hN : j.toNatClampNeg = N) (hby : N * 4 ≤ 536870912) (hc : k + 1 ≤ R.cells) (hs : n + N ≤ R.slots) (kk : Zj p l e R s m args below meth c Q G B nL (k + 1) (n + N) (pc + 3) ls (.ref (B + es.length) :: st) (es ++ [.inl (G.2.1 ti, N, .inr (.inr (.inr (.inr (fun _ => none)))))])) : Zj p l e R s m args below meth c Q G B nL k n (pc) ls (.int j :: st) es := by
  intro H lo la hW hS hl
  subst hN
  refine W.anew E.1 E.2.1 E.2.2.2.1 (E.2.2.2.2.1 _ hw) (va_AO.use (E.2.2.2.2.2.2.2.1.2.1 C hao)) rfl d rfl hj hby hc hs fun cA kA comp f1 f2 f3 f4 => ?_
  have hcA : G.2.1 ti = cA := by
    obtain ⟨kA', comp', -, -, -, h4⟩ := (E.2.2.2.2.2.1.2 ti _ (zty_at ht)).2
    exact Option.some.inj (h4.symm.trans f1)
  have h := kk (H.push ({ cls := cA, slots := Array.replicate j.toNatClampNeg .null, vm := .none } : Cell)) lo la (hW.new (by rw [Array.size_push]) (fun q hq => by rw [Array.getElem?_push, if_neg (Nat.ne_of_lt hq)]) (show (H.push _)[H.size]? = some (vp_cell _ _) by rw [Array.getElem?_push_size, vp_cell_q, hcA]; exact congrArg some (arrV_new _ _ _))) ⟨Nat.le_trans hS.1 (by rw [Array.size_push]; omega), fun x g1 g2 => (by rw [Array.getElem?_push, if_neg (Nat.ne_of_lt (Nat.lt_of_lt_of_le g1 hS.1))]; exact hS.2.1 x g1 g2), hS.2.2⟩ hl
  rw [← hW.1] at h
  exact h
variable {P : Option Value → zE → Prop} {mc ms : Nat}
theorem z_iret (E : En p s m args meth c G B nL cc own mn (some .int)) {v : Int32} (d : decode cc pc = .ok (.ireturn, 1)) (hp : P (some (.int v)) es) (h1 : k ≤ mc := by omega) (h2 : n ≤ ms := by omega) : Zj p l e R s m args below meth c (MQ below (zQ G B P) args s mc ms (fun q => B ≤ q)) G B nL k n pc ls [.int v] es :=
  fun H lo la hW hS hl => W.widen h1 h2 (W.iret E.1 E.2.1 E.2.2.2.2.2.2.2.2.2.2.1 (fun t ht _ => ⟨⟨_, _, rfl, hp, by rw [ht]; exact hW⟩, hS.F ht⟩) hS.2.2 d E.2.2.2.2.2.2.2.2.2.1)
theorem z_lret (E : En p s m args meth c G B nL cc own mn (some .long)) {v : Int64} (d : decode cc pc = .ok (.lreturn, 1)) (hp : P (some (.long v)) es) (h1 : k ≤ mc := by omega) (h2 : n ≤ ms := by omega) : Zj p l e R s m args below meth c (MQ below (zQ G B P) args s mc ms (fun q => B ≤ q)) G B nL k n pc ls [.long v] es :=
  fun H lo la hW hS hl => W.widen h1 h2 (W.lret E.1 E.2.1 E.2.2.2.2.2.2.2.2.2.2.1 (fun t ht _ => ⟨⟨_, _, rfl, hp, by rw [ht]; exact hW⟩, hS.F ht⟩) hS.2.2 d E.2.2.2.2.2.2.2.2.2.1)
theorem z_zret {ty : FieldType} (E : En p s m args meth c G B nL cc own mn (some ty)) {v : Int32} (hn : narrow ty (.int v) = .int v) (d : decode cc pc = .ok (.ireturn, 1)) (hp : P (some (.int v)) es) (h1 : k ≤ mc := by omega) (h2 : n ≤ ms := by omega) : Zj p l e R s m args below meth c (MQ below (zQ G B P) args s mc ms (fun q => B ≤ q)) G B nL k n pc ls [.int v] es :=
  fun H lo la hW hS hl => W.widen h1 h2 (W.zret E.1 E.2.1 E.2.2.2.2.2.2.2.2.2.2.1 hn (fun t ht _ => ⟨⟨_, _, rfl, hp, by rw [ht]; exact hW⟩, hS.F ht⟩) hS.2.2 d E.2.2.2.2.2.2.2.2.2.1)
theorem z_vret (E : En p s m args meth c G B nL cc own mn none) (d : decode cc pc = .ok (.return_, 1)) (hp : P none es) (h1 : k ≤ mc := by omega) (h2 : n ≤ ms := by omega) : Zj p l e R s m args below meth c (MQ below (zQ G B P) args s mc ms (fun q => B ≤ q)) G B nL k n pc ls [] es :=
  fun H lo la hW hS hl => W.widen h1 h2 (W.vret E.1 E.2.1 E.2.2.2.2.2.2.2.2.2.2.1 (fun t ht _ => ⟨⟨_, _, rfl, hp, by rw [ht]; exact hW⟩, hS.F ht⟩) hS.2.2 d E.2.2.2.2.2.2.2.2.2.1)
theorem z_aret {ty : FieldType} (E : En p s m args meth c G B nL cc own mn (some ty)) {v : Value} (hty : (∃ n, ty = .object n) ∨ ∃ t, ty = .array t) (hv : v = .null ∨ ∃ a, v = .ref a) (d : decode cc pc = .ok (.areturn, 1)) (hp : P (some v) es) (h1 : k ≤ mc := by omega) (h2 : n ≤ ms := by omega) : Zj p l e R s m args below meth c (MQ below (zQ G B P) args s mc ms (fun q => B ≤ q)) G B nL k n pc ls [v] es :=
  fun H lo la hW hS hl => W.widen h1 h2 (W.aret E.1 E.2.1 E.2.2.2.2.2.2.2.2.2.2.1 hty hv (fun t ht _ => ⟨⟨_, _, rfl, hp, by rw [ht]; exact hW⟩, hS.F ht⟩) hS.2.2 d E.2.2.2.2.2.2.2.2.2.1)
/-! calls -/
theorem zU.blind {av : List Value} : FrameBlind (va_Pc av (zU G B es)) := fun a U g mk q => ⟨q.1, q.2.1, va_K.moved (u := U) (U := U.calling g mk a) (Vm.Alike.refl U.vm) q.2.2.1, q.2.2.2.1.same rfl, q.2.2.2.2.same rfl⟩
theorem zU.of (E : En p s m args meth c G B nL cc own mn rt) {H : Heap} {lo : List Loc} (hW : zH G B es H) (hS : va_S (fun q => B ≤ q) s.heap H lo) {U : State} (hU : U.heap = H) (hw : s.WarmedH U.vm) : zU G B es U := by
  refine ⟨by rw [hU]; exact hW, va_K.moved hw.alike E.2.2.2.2.2.1, E.2.2.2.2.2.2.1.warm hw, ?_⟩
  rw [hU]
  exact (E.2.2.2.2.2.2.2.1.warm hw).kept hS.2.1
/-- the words of a call: by the tables, or of nest mates -/
def zMw (own : String) (idx : Nat) (y : MethodName) : Prop := Cond.methodLink own idx y ∈ zzW ∨ ∃ host, (own, idx, y, host) ∈ zzNM
def zC (own : String) (idx : Nat) (y : MethodName) (bytes : ByteArray) (maxL : Nat) (ret : Option FieldType) (na : Nat) : Prop := zMw own idx y ∧ Cond.code y bytes maxL ret ∈ zzW ∧ Cond.initialized y.cls ∈ zzW ∧ (y.cls ≠ "java/lang/invoke/MethodHandle" ∧ y.cls ≠ "java/lang/invoke/VarHandle" ∧ (parseMethodDescriptor y.desc).map (fun d => d.parameters.length) = some na) ∧ maxL ≤ 21
theorem zG_in {x : Cond} (hx : x ∈ zzW) : GoodIn zzW (x :: zzW) := by
  intro w hw
  rcases List.mem_cons.mp hw with h | h
  · rw [h]; exact ⟨hx, zzW_good _ hx⟩
  · exact ⟨h, zzW_good _ h⟩
variable {mc ms d' : Nat} {y : MethodName} {bytes : ByteArray} {maxL na : Nat} {ret : Option FieldType} {idx : Nat} {PP : Option Value → zE → Prop} {As : List Value}
theorem z_back (E : En p s m args meth c G B nL cc own mn rt) {g : JFrame} {H : Heap} {lo : List Loc} {rest : List Value} {a : Array Value} (hW : zH G B es H) (hS : va_S (fun q => B ≤ q) s.heap H lo) (hr : va_Run p l e R s m args below meth c H lo k n mc ms g rest (zQ G B PP a) (fun q => B ≤ q)) (kk : ∀ (r : Option Value) (es' : zE) (H1 : Heap) (lo1 : List Loc), PP r es' → zH G B es' H1 → va_S (fun q => B ≤ q) s.heap H1 lo1 → W p l e R s m args below meth c H1 lo1 (k + mc) (n + ms) Q { g with pc := g.pc + 3, stack := r.toList ++ rest }) : W p l e R s m args below meth c H lo k n Q g := by
  intro T hT X
  obtain ⟨v, st₀, t, T', L, h0, X', hL, e1, e2, ⟨⟨r, es', hv, hp, hz⟩, hf⟩, st⟩ := hr T hT X
  cases hv
  obtain ⟨t2, a1, b1⟩ := kk v es' T'.heap (lo ++ L) hp (by rw [e1]; exact hz) ⟨by rw [e1]; exact Nat.le_trans hS.1 (by rw [← h0]; exact hf.1), fun q g1 g2 => by
      rw [e1, hf.2 q (by rw [h0]; exact Nat.lt_of_lt_of_le g1 hS.1) g2, h0]
      exact hS.2.1 q g1 g2, fun q hq => by
      rcases List.mem_append.mp hq with h | h
      · exact hS.2.2 q h
      · exact hL q h⟩ T' rfl X'
  exact ⟨t2, st t2 a1, b1⟩
theorem z_room {d' maxL : Nat} (hR : d' + 1 ≤ R.frames ∧ 40 * d' + 40 ≤ R.locals) (hm : maxL ≤ 21) : d' + 1 ≤ R.frames ∧ 8 + (maxL + 11) + 40 * d' ≤ R.locals := ⟨hR.1, by omega⟩
theorem z_callS (E : En p s m args meth c G B nL cc own mn rt) (hM : Tr l G B y bytes maxL ret d' mc ms As es PP) (hC : zC own idx y bytes maxL ret na) (hst : Cond.static y ∈ zzW) (hR : d' + 1 ≤ R.frames ∧ 40 * d' + 40 ≤ R.locals) (d : decode cc pc = .ok (.invokestatic idx, 3)) (hn : As.length = na) (hrm : (st.map fun v => v.category).sum ≤ 8) (hc : k + mc ≤ R.cells) (hs : n + ms ≤ R.slots) (kk : ∀ (r : Option Value) (es' : zE), PP r es' → Zj p l e R s m args below meth c Q G B nL (k + mc) (n + ms) (pc + 3) ls (r.toList ++ st) es') : Zj p l e R s m args below meth c Q G B nL k n (pc) ls (As.reverse ++ st) es := by
  intro H lo la hW hS hl
  obtain ⟨hlk, hcode, hini, hd3, hmL⟩ := hC
  have hrr := z_room hR hmL
  refine z_back E hW hS (rest := st) (a := As.toArray) ?_ (fun r es' H1 lo1 hp h1 h2 => kk r es' hp H1 lo1 la h1 h2 hl)
  rcases hlk with hlk | ⟨host, hlk⟩
  · exact va_runS (As := As) (rest := st) ⟨E.1, E.2.1, E.2.2.1, E.2.2.2.1, E.2.2.2.2.1⟩ hM ⟨callB_of na E.2.2.2.2.1 (zG_in hcode) rfl rfl rfl (E.2.2.2.2.1 _ hini) (E.2.2.2.2.1 _ hlk) hd3 hrr, E.2.2.2.2.1 _ hst⟩ ⟨zU.blind, fun U hU hw => ⟨rfl, zU.of E hW hS hU hw⟩⟩ rfl hn hl.1 rfl (lv_room hrm) d ⟨hc, hs⟩
  · exact va_runSN (As := As) (rest := st) ⟨E.1, E.2.1, E.2.2.1, E.2.2.2.1, E.2.2.2.2.1⟩ hM ⟨va_cnB na E.2.2.2.2.1 (zG_in hcode) rfl rfl rfl (E.2.2.2.2.2.2.1.2 _ hlk) (E.2.2.2.2.1 _ hini) hd3 hrr, E.2.2.2.2.1 _ hst, trivial⟩ ⟨zU.blind, fun U hU hw => ⟨rfl, zU.of E hW hS hU hw⟩⟩ rfl hn hl.1 rfl (lv_room hrm) d ⟨hc, hs⟩
theorem z_callI (E : En p s m args meth c G B nL cc own mn rt) {a : Nat} (hM : Tr l G B y bytes maxL none d' mc ms (.ref a :: As) es PP) (hC : zC own idx y bytes maxL none na) (hin : y.name = "<init>" ∧ Cond.instanceMethod y ∈ zzW) (hR : d' + 1 ≤ R.frames ∧ 40 * d' + 40 ≤ R.locals) (d : decode cc pc = .ok (.invokespecial idx, 3)) (hn : As.length = na) (hrm : (st.map fun v => v.category).sum ≤ 8) (hc : k + mc ≤ R.cells) (hs : n + ms ≤ R.slots) (kk : ∀ (r : Option Value) (es' : zE), PP r es' → Zj p l e R s m args below meth c Q G B nL (k + mc) (n + ms) (pc + 3) ls (r.toList ++ st) es') : Zj p l e R s m args below meth c Q G B nL k n (pc) ls (As.reverse ++ .ref a :: st) es := by
  intro H lo la hW hS hl
  obtain ⟨hlk, hcode, hini, hd3, hmL⟩ := hC
  have hrr := z_room hR hmL
  refine z_back E hW hS (rest := st) (a := (Value.ref a :: As).toArray) ?_ (fun r es' H1 lo1 hp h1 h2 => kk r es' hp H1 lo1 la h1 h2 hl)
  rcases hlk with hlk | ⟨host, hlk⟩
  · exact va_runI (As := As) (rest := st) ⟨E.1, E.2.1, E.2.2.1, E.2.2.2.1, E.2.2.2.2.1⟩ hM ⟨callB_of na E.2.2.2.2.1 (zG_in hcode) rfl rfl rfl (E.2.2.2.2.1 _ hini) (E.2.2.2.2.1 _ hlk) hd3 hrr, hin.1, E.2.2.2.2.1 _ hin.2⟩ ⟨zU.blind, fun U hU hw => ⟨rfl, zU.of E hW hS hU hw⟩⟩ rfl hn hl.1 rfl (lv_room hrm) d ⟨hc, hs⟩
  · exact va_runIN (As := As) (rest := st) ⟨E.1, E.2.1, E.2.2.1, E.2.2.2.1, E.2.2.2.2.1⟩ hM ⟨va_cnB na E.2.2.2.2.1 (zG_in hcode) rfl rfl rfl (E.2.2.2.2.2.2.1.2 _ hlk) (E.2.2.2.2.1 _ hini) hd3 hrr, hin.1, E.2.2.2.2.1 _ hin.2⟩ ⟨zU.blind, fun U hU hw => ⟨rfl, zU.of E hW hS hU hw⟩⟩ rfl hn hl.1 rfl (lv_room hrm) d ⟨hc, hs⟩
theorem z_callV (E : En p s m args meth c G B nL cc own mn rt) {i ci : Nat} {C : String} {T : u_T} {N : Nat} {fs : List Value} (hM : Tr l G B y bytes maxL ret d' mc ms (.ref (B + i) :: As) es PP) (hC : zC own idx y bytes maxL ret na) (hin : Cond.instanceMethod y ∈ zzW ∧ Cond.selects C y y ∈ zzW) (hci : vwCl[ci]? = some (C, T, N)) (he : es[i]? = some (.inr (ci, fs))) (hR : d' + 1 ≤ R.frames ∧ 40 * d' + 40 ≤ R.locals) (d : decode cc pc = .ok (.invokevirtual idx, 3)) (hn : As.length = na) (hrm : (st.map fun v => v.category).sum ≤ 8) (hc : k + mc ≤ R.cells) (hs : n + ms ≤ R.slots) (kk : ∀ (r : Option Value) (es' : zE), PP r es' → Zj p l e R s m args below meth c Q G B nL (k + mc) (n + ms) (pc + 3) ls (r.toList ++ st) es') : Zj p l e R s m args below meth c Q G B nL k n (pc) ls (As.reverse ++ .ref (B + i) :: st) es := by
  intro H lo la hW hS hl
  obtain ⟨hlk, hcode, hini, hd3, hmL⟩ := hC
  have hrr := z_room hR hmL
  have hrecv := va_recv (q := (C, T, N)) E.2.2.2.2.2.1 hW.2 hci (zw_at he)
  refine z_back E hW hS (rest := st) (a := (Value.ref (B + i) :: As).toArray) ?_ (fun r es' H1 lo1 hp h1 h2 => kk r es' hp H1 lo1 la h1 h2 hl)
  rcases hlk with hlk | ⟨host, hlk⟩
  · exact va_runV (C := C) (As := As) (rest := st) ⟨E.1, E.2.1, E.2.2.1, E.2.2.2.1, E.2.2.2.2.1⟩ hM ⟨callB_of na E.2.2.2.2.1 (zG_in hcode) rfl rfl rfl (E.2.2.2.2.1 _ hini) (E.2.2.2.2.1 _ hlk) hd3 hrr, E.2.2.2.2.1 _ hin.1, E.2.2.2.2.1 _ hin.2⟩ ⟨zU.blind, hrecv, fun U hU hw => ⟨rfl, zU.of E hW hS hU hw⟩⟩ rfl hn hl.1 rfl (lv_room hrm) d ⟨hc, hs⟩
  · exact va_runVN (C := C) (As := As) (rest := st) ⟨E.1, E.2.1, E.2.2.1, E.2.2.2.1, E.2.2.2.2.1⟩ hM ⟨va_cnB na E.2.2.2.2.1 (zG_in hcode) rfl rfl rfl (E.2.2.2.2.2.2.1.2 _ hlk) (E.2.2.2.2.1 _ hini) hd3 hrr, E.2.2.2.2.1 _ hin.1, E.2.2.2.2.1 _ hin.2⟩ ⟨zU.blind, hrecv, fun U hU hw => ⟨rfl, zU.of E hW hS hU hw⟩⟩ rfl hn hl.1 rfl (lv_room hrm) d ⟨hc, hs⟩
theorem z_objInit (E : En p s m args meth c G B nL cc own mn rt) {a : Nat} (hw : Cond.methodLink own idx objectInit ∈ zzW ∧ Cond.instanceMethod objectInit ∈ zzW ∧ Cond.code objectInit ⟨#[0xb1]⟩ 1 none ∈ zzW) (d : decode cc pc = .ok (.invokespecial idx, 3)) (hf : 1 ≤ R.frames) (hrm : (st.map fun v => v.category).sum + 12 ≤ R.locals) (kk : Zj p l e R s m args below meth c Q G B nL k n (pc + 3) ls (st) es) : Zj p l e R s m args below meth c Q G B nL k n (pc) ls (.ref a :: st) es :=
  fun H lo la hW hS hl => W.objInit E.1 E.2.1 E.2.2.2.1 (E.2.2.2.2.1 _ hw.1) (E.2.2.2.2.1 _ hw.2.1) (E.2.2.2.2.1 _ hw.2.2) rfl (by rw [E.2.2.1]; exact hl.1) rfl d hf (by show 2 * 0 + _ + 12 ≤ _; omega) (kk H lo la hW hS hl)

/-! static ints; texts -/
theorem z_getsI (E : En p s m args meth c G B nL cc own mn rt) {idx i : Nat} {q : String × String × String × Int32} (hq : zzI[i]? = some q) (hlk : Cond.fieldLink own idx q.1 q.2.1 q.2.2.1 ∈ zzW) (d : decode cc pc = .ok (.getstatic idx, 3)) (kk : Zj p l e R s m args below meth c Q G B nL k n (pc + 3) ls (.int q.2.2.2 :: st) es) : Zj p l e R s m args below meth c Q G B nL k n (pc) ls (st) es :=
  fun H lo la hW hS hl => va_gets E.1 E.2.1 (E.2.2.2.2.2.2.2.1.2.2.1 i q hq) hS E.2.2.2.1 (E.2.2.2.2.1 _ hlk) (fun _ h => h) d (kk H lo la hW hS hl)
theorem z_getsQ (E : En p s m args meth c G B nL cc own mn rt) {idx : Nat} (hlk : Cond.fieldLink own idx "jdk/internal/util/Preconditions" "SIOOBE_FORMATTER" "Ljava/util/function/BiFunction;" ∈ zzW) (d : decode cc pc = .ok (.getstatic idx, 3)) (kk : ∀ v : Value, (v = .null ∨ ∃ t, v = .ref t) → Zj p l e R s m args below meth c Q G B nL k n (pc + 3) ls (v :: st) es) : Zj p l e R s m args below meth c Q G B nL k n (pc) ls (st) es := by
  intro H lo la hW hS hl
  rcases E.2.2.2.2.2.2.2.1.2.2.2.1 with h | ⟨t, h⟩
  · exact va_gets E.1 E.2.1 h hS E.2.2.2.1 (E.2.2.2.2.1 _ hlk) (fun _ h => h) d (kk _ (Or.inl rfl) H lo la hW hS hl)
  · exact va_gets E.1 E.2.1 h hS E.2.2.2.1 (E.2.2.2.2.1 _ hlk) (fun _ h => h) d (kk _ (Or.inr ⟨t, rfl⟩) H lo la hW hS hl)
theorem z_ldcS (E : En p s m args meth c G B nL cc own mn rt) {idx i : Nat} {q : String × Nat × String} (hq : zzX[i]? = some q) (ho : q.1 = own ∧ q.2.1 = idx) (d : decode cc pc = .ok (.ldc idx, 2)) (kk : Zj p l e R s m args below meth c Q G B nL k n (pc + 2) ls (.ref (G.2.2.2.1 i) :: st) es) : Zj p l e R s m args below meth c Q G B nL k n (pc) ls (st) es := by
  obtain ⟨rfl, rfl⟩ := ho
  exact fun H lo la hW hS hl => va_ldcS E.1 E.2.1 E.2.2.2.1 (E.2.2.2.2.2.2.2.1.2.2.2.2.1 i q hq) d (kk H lo la hW hS hl)
theorem z_getKv (E : En p s m args meth c G B nL cc own mn rt) {idx i : Nat} (hi : i < zzX.length) (hlk : Cond.fieldLink own idx "java/lang/String" "value" "[B" ∈ zzW) (d : decode cc pc = .ok (.getfield idx, 3)) (kk : Zj p l e R s m args below meth c Q G B nL k n (pc + 3) ls (.ref (G.2.2.2.2 i) :: st) es) : Zj p l e R s m args below meth c Q G B nL k n (pc) ls (.ref (G.2.2.2.1 i) :: st) es :=
  fun H lo la hW hS hl => vk_getf E.1 E.2.1 (E.2.2.2.2.2.2.2.1.2.2.2.2.2.1 i hi).2.2.1 hS E.2.2.2.1 (E.2.2.2.2.1 _ hlk) (fun _ h => h) d (kk H lo la hW hS hl)
theorem z_getKc (E : En p s m args meth c G B nL cc own mn rt) {idx i : Nat} (hi : i < zzX.length) (hlk : Cond.fieldLink own idx "java/lang/String" "coder" "B" ∈ zzW) (d : decode cc pc = .ok (.getfield idx, 3)) (kk : Zj p l e R s m args below meth c Q G B nL k n (pc + 3) ls (.int 0 :: st) es) : Zj p l e R s m args below meth c Q G B nL k n (pc) ls (.ref (G.2.2.2.1 i) :: st) es :=
  fun H lo la hW hS hl => vk_getf E.1 E.2.1 (E.2.2.2.2.2.2.2.1.2.2.2.2.2.1 i hi).2.1 hS E.2.2.2.1 (E.2.2.2.2.1 _ hlk) (fun _ h => h) d (kk H lo la hW hS hl)
theorem z_lenK (E : En p s m args meth c G B nL cc own mn rt) {i : Nat} (hi : i < zzX.length) (d : decode cc pc = .ok (.arraylength, 1)) (kk : Zj p l e R s m args below meth c Q G B nL k n (pc + 1) ls (.int (Int32.ofNat (zzXl.getD i 0)) :: st) es) : Zj p l e R s m args below meth c Q G B nL k n (pc) ls (.ref (G.2.2.2.2 i) :: st) es :=
  fun H lo la hW hS hl => va_tlen E.1 E.2.1 (E.2.2.2.2.2.2.2.1.2.2.2.2.2.1 i hi).2.2.2 hS rfl d (kk H lo la hW hS hl)
theorem z_tbK (E : En p s m args meth c G B nL cc own mn rt) {i : Nat} {j : Int32} (hi : i < zzX.length) (hin : vp_in j (zzXl.getD i 0)) (d : decode cc pc = .ok (.baload, 1)) (kk : Zj p l e R s m args below meth c Q G B nL k n (pc + 1) ls (.int ((zzXb.getD i []).getD j.toNatClampNeg 0) :: st) es) : Zj p l e R s m args below meth c Q G B nL k n (pc) ls (.int j :: .ref (G.2.2.2.2 i) :: st) es :=
  fun H lo la hW hS hl => va_tb E.1 E.2.1 (E.2.2.2.2.2.2.2.1.2.2.2.2.2.1 i hi).2.2.2 hS hin rfl d (kk H lo la hW hS hl)
theorem z_callK (E : En p s m args meth c G B nL cc own mn rt) {i : Nat} (hi : i < zzX.length) (hM : Tr l G B y bytes maxL ret d' mc ms (.ref (G.2.2.2.1 i) :: As) es PP) (hC : zC own idx y bytes maxL ret na) (hin : Cond.instanceMethod y ∈ zzW ∧ Cond.selects "java/lang/String" y y ∈ zzW) (hR : d' + 1 ≤ R.frames ∧ 40 * d' + 40 ≤ R.locals) (d : decode cc pc = .ok (.invokevirtual idx, 3)) (hn : As.length = na) (hrm : (st.map fun v => v.category).sum ≤ 8) (hc : k + mc ≤ R.cells) (hs : n + ms ≤ R.slots) (kk : ∀ (r : Option Value) (es' : zE), PP r es' → Zj p l e R s m args below meth c Q G B nL (k + mc) (n + ms) (pc + 3) ls (r.toList ++ st) es') : Zj p l e R s m args below meth c Q G B nL k n (pc) ls (As.reverse ++ .ref (G.2.2.2.1 i) :: st) es := by
  intro H lo la hW hS hl
  obtain ⟨hlk, hcode, hini, hd3, hmL⟩ := hC
  have hrr := z_room hR hmL
  have hrecv := vk_recv E.2.2.2.2.2.2.2.1.2.2.2.2.2 hi hS
  refine z_back E hW hS (rest := st) (a := (Value.ref (G.2.2.2.1 i) :: As).toArray) ?_ (fun r es' H1 lo1 hp h1 h2 => kk r es' hp H1 lo1 la h1 h2 hl)
  rcases hlk with hlk | ⟨host, hlk⟩
  · exact va_runV (C := "java/lang/String") (As := As) (rest := st) ⟨E.1, E.2.1, E.2.2.1, E.2.2.2.1, E.2.2.2.2.1⟩ hM ⟨callB_of na E.2.2.2.2.1 (zG_in hcode) rfl rfl rfl (E.2.2.2.2.1 _ hini) (E.2.2.2.2.1 _ hlk) hd3 hrr, E.2.2.2.2.1 _ hin.1, E.2.2.2.2.1 _ hin.2⟩ ⟨zU.blind, hrecv, fun U hU hw => ⟨rfl, zU.of E hW hS hU hw⟩⟩ rfl hn hl.1 rfl (lv_room hrm) d ⟨hc, hs⟩
  · exact va_runVN (C := "java/lang/String") (As := As) (rest := st) ⟨E.1, E.2.1, E.2.2.1, E.2.2.2.1, E.2.2.2.2.1⟩ hM ⟨va_cnB na E.2.2.2.2.1 (zG_in hcode) rfl rfl rfl (E.2.2.2.2.2.2.1.2 _ hlk) (E.2.2.2.2.1 _ hini) hd3 hrr, E.2.2.2.2.1 _ hin.1, E.2.2.2.2.1 _ hin.2⟩ ⟨zU.blind, hrecv, fun U hU hw => ⟨rfl, zU.of E hW hS hU hw⟩⟩ rfl hn hl.1 rfl (lv_room hrm) d ⟨hc, hs⟩
theorem z_min (E : En p s m args meth c G B nL cc own mn rt) {x y : Int32} (hw : Cond.methodLink own idx Lib.Math.min.name ∈ zzW ∧ Cond.static Lib.Math.min.name ∈ zzW ∧ Cond.initialized "java/lang/Math" ∈ zzW ∧ Cond.code Lib.Math.min.name Lib.Math.min.code 2 (some .int) ∈ zzW) (d : decode cc pc = .ok (.invokestatic idx, 3)) (hf : 1 ≤ R.frames) (hrm : (st.map fun v => v.category).sum + 13 ≤ R.locals) (hc : k ≤ R.cells) (hs : n ≤ R.slots) (kk : Zj p l e R s m args below meth c Q G B nL k n (pc + 3) ls (.int (if y < x then y else x) :: st) es) : Zj p l e R s m args below meth c Q G B nL k n (pc) ls (.int y :: .int x :: st) es :=
  fun H lo la hW hS hl => va_mmin E.1 E.2.1 (E.2.2.1.trans hl.1.symm) E.2.2.2.1 (E.2.2.2.2.1 _ hw.1) (E.2.2.2.2.1 _ hw.2.1) (E.2.2.2.2.1 _ hw.2.2.1) (E.2.2.2.2.1 _ hw.2.2.2) hf hrm hc hs d (kk H lo la hW hS hl)
theorem z_nn (z : Int32) (hz : ¬ z < 0) : z.toInt = (z.toNatClampNeg : Int) := by
  have hz0 : (0 : Int) ≤ z.toInt := by
    have := Int32.not_lt.mp hz
    simpa using Int32.le_iff_toInt_le.mp this
  show z.toInt = ((z.toInt.toNat : Nat) : Int)
  omega
/-- arraycopy, a row of bytes or ints of the world onto another -/
theorem z_copy (E : En p s m args meth c G B nL cc own mn rt) {i0 i1 ti n0 n1 : Nat} {f g : Nat → Int32} {ty : FieldType} {sp dp cn : Int32} (hw : Cond.methodLink own idx arraycopyName ∈ zzW ∧ Cond.native arraycopyName ∈ zzW ∧ Cond.static arraycopyName ∈ zzW ∧ Cond.initialized "java/lang/System" ∈ zzW) (ht : zzTy[ti]? = some ty) (hprim : refKind ty = false) (d : decode cc pc = .ok (.invokestatic idx, 3)) (he0 : es[i0]? = some (.inl (G.2.1 ti, n0, .inl f))) (he1 : es[i1]? = some (.inl (G.2.1 ti, n1, .inl g))) (h1 : ¬ sp < 0) (h2 : ¬ dp < 0) (h3 : ¬ cn < 0) (h4 : sp.toNatClampNeg + cn.toNatClampNeg ≤ n0) (h5 : dp.toNatClampNeg + cn.toNatClampNeg ≤ n1) (hfit : ∀ i, i < cn.toNatClampNeg → fits ty (.int (f (sp.toNatClampNeg + i))) = true) (hf : 1 ≤ R.frames) (hrm : (st.map fun v => v.category).sum + (nativeFrameWords "java/lang/System" "arraycopy" 5 + 11) ≤ R.locals) (kk : ∀ es', es' = es.set i1 (.inl (G.2.1 ti, n1, .inl (va_cpy f g sp.toNatClampNeg dp.toNatClampNeg cn.toNatClampNeg))) → Zj p l e R s m args below meth c Q G B nL k n (pc + 3) ls (st) es') : Zj p l e R s m args below meth c Q G B nL k n (pc) ls (.int cn :: .int dp :: .ref (B + i1) :: .int sp :: .ref (B + i0) :: st) es := by
  intro H lo la hW hS hl T hT X
  have hc0 : H[B + i0]? = some (vp_cell (G.2.1 ti) (n0, .inl f)) := hW.2 i0 _ (zw_at he0)
  have hc1 : H[B + i1]? = some (vp_cell (G.2.1 ti) (n1, .inl g)) := hW.2 i1 _ (zw_at he1)
  obtain ⟨-, k0, hk0, cm0, hkk0⟩ := (E.2.2.2.2.2.1.2 ti _ (zty_at ht)).1 n0 (fun j => .int (f j))
  obtain ⟨-, k1, hk1, cm1, hkk1⟩ := (E.2.2.2.2.2.1.2 ti _ (zty_at ht)).1 n1 (fun j => .int (g j))
  obtain ⟨vm', X', step⟩ := X.arraycopy E.1 E.2.2.2.1 (E.2.2.2.2.1 _ hw.1) (E.2.2.2.2.1 _ hw.2.1) (E.2.2.2.2.1 _ hw.2.2.1) (E.2.2.2.2.1 _ hw.2.2.2) (src := B + i0) (dst := B + i1) (cs := vp_cell (G.2.1 ti) (n0, .inl f)) (cd := vp_cell (G.2.1 ti) (n1, .inl g)) (srcPos := sp) (destPos := dp) (n := cn) (by rw [hT]; exact hc0) (by rw [hT]; exact hc1)
    (fun _ h => by cases h) (fun _ h => by cases h) (fun h => by cases h) (fun h => by cases h) hk0 hk1 hkk0 hkk1 (by simp [hprim]) h1 h2 h3
    (by rw [z_nn sp h1, z_nn cn h3]; show ¬ _ > ((arrV _ n0 (fun j => .int (f j))).slots.size : Int); rw [arrV_size]; omega)
    (by rw [z_nn dp h2, z_nn cn h3]; show ¬ _ > ((arrV _ n1 (fun j => .int (g j))).slots.size : Int); rw [arrV_size]; omega)
    (fun vm₁ _ i hi => by
      have e : (vp_cell (G.2.1 ti) (n0, .inl f)).slots.getD (sp.toNatClampNeg + i) .null = .int (f (sp.toNatClampNeg + i)) := by
        show (arrV _ n0 (fun j => .int (f j))).slots.getD _ _ = _
        rw [Array.getD_eq_getD_getElem?, arrV_read _ _ (by omega)]
        rfl
      refine ⟨?_, ?_⟩
      · rw [e]
        exact hfit i hi
      · rw [e]
        exact trivial)
    (g := F0 m pc la (.int cn :: .int dp :: .ref (B + i1) :: .int sp :: .ref (B + i0) :: st)) rfl (by rw [E.2.2.1]; exact hl.1) (rest := st) rfl (by rw [E.2.1]; exact d) hf (by show 2 * 0 + _ + _ ≤ _; omega)
  have e1 : copied (vp_cell (G.2.1 ti) (n0, .inl f)) (vp_cell (G.2.1 ti) (n1, .inl g)) sp dp cn = vp_cell (G.2.1 ti) (n1, .inl (va_cpy f g sp.toNatClampNeg dp.toNatClampNeg cn.toNatClampNeg)) := va_copied (fun z => .int z) _ _ f g h4
  rw [e1] at X' step
  have hl1 : B + i1 < H.size := (Array.getElem?_eq_some_iff.mp hc1).1
  have hheap : ((T.setVm vm').setCell (B + i1) (vp_cell (G.2.1 ti) (n1, .inl (va_cpy f g sp.toNatClampNeg dp.toNatClampNeg cn.toNatClampNeg)))).heap = H.setIfInBounds (B + i1) (vp_cell (G.2.1 ti) (n1, .inl (va_cpy f g sp.toNatClampNeg dp.toNatClampNeg cn.toNatClampNeg))) := by rw [← hT]; rfl
  have oq : ∀ q : Nat, q ≠ B + i1 → (H.setIfInBounds (B + i1) (vp_cell (G.2.1 ti) (n1, .inl (va_cpy f g sp.toNatClampNeg dp.toNatClampNeg cn.toNatClampNeg))))[q]? = H[q]? := fun q hq => by simp [Array.getElem?_setIfInBounds, Ne.symm hq]
  obtain ⟨t, a1, b1⟩ := kk _ rfl _ _ la (hW.upd (by simp) (hW.2.set zw_D (zw_at he1) (show (H.setIfInBounds (B + i1) _)[B + i1]? = some _ by simp [Array.getElem?_setIfInBounds, hl1]) oq)) ⟨by simp; exact hS.1, fun q g1 g2 => by
      rw [oq q (fun e => g2 (by rw [e]; exact Nat.le_add_right B i1))]
      exact hS.2.1 q g1 g2, fun q hq => by
      rcases List.mem_append.mp hq with h | h
      · exact hS.2.2 q h
      · obtain ⟨z, -, hz⟩ := List.mem_map.mp h
        rw [← hz]
        exact Nat.le_add_right B i1⟩ hl _ hheap X'
  exact ⟨t, step t a1, b1⟩
/-- arraycopy, a static table of ints onto a row of the world -/
theorem z_copyT (E : En p s m args meth c G B nL cc own mn rt) {i0 i1 ti n1 : Nat} {q : String × String × List Int32} {g : Nat → Int32} {sp dp cn : Int32} (hw : Cond.methodLink own idx arraycopyName ∈ zzW ∧ Cond.native arraycopyName ∈ zzW ∧ Cond.static arraycopyName ∈ zzW ∧ Cond.initialized "java/lang/System" ∈ zzW) (hq : zzT[i0]? = some q) (ht : zzTy[ti]? = some .int) (d : decode cc pc = .ok (.invokestatic idx, 3)) (he1 : es[i1]? = some (.inl (G.2.1 ti, n1, .inl g))) (h1 : ¬ sp < 0) (h2 : ¬ dp < 0) (h3 : ¬ cn < 0) (h4 : sp.toNatClampNeg + cn.toNatClampNeg ≤ q.2.2.length) (h5 : dp.toNatClampNeg + cn.toNatClampNeg ≤ n1) (hf : 1 ≤ R.frames) (hrm : (st.map fun v => v.category).sum + (nativeFrameWords "java/lang/System" "arraycopy" 5 + 11) ≤ R.locals) (kk : ∀ es', es' = es.set i1 (.inl (G.2.1 ti, n1, .inl (va_cpy (fun j => q.2.2.getD j 0) g sp.toNatClampNeg dp.toNatClampNeg cn.toNatClampNeg))) → Zj p l e R s m args below meth c Q G B nL k n (pc + 3) ls (st) es') : Zj p l e R s m args below meth c Q G B nL k n (pc) ls (.int cn :: .int dp :: .ref (B + i1) :: .int sp :: .ref (G.2.2.1 i0) :: st) es := by
  intro H lo la hW hS hl T hT X
  obtain ⟨scr, hs1, hs2, hs3, hs4, -, hs5, hs7⟩ := (E.2.2.2.2.2.2.2.1.1 i0 q hq).2
  have hc0 : H[G.2.2.1 i0]? = some scr := by rw [hS.2.1 _ (Array.getElem?_eq_some_iff.mp hs1).1 hs7]; exact hs1
  have hc1 : H[B + i1]? = some (vp_cell (G.2.1 ti) (n1, .inl g)) := hW.2 i1 _ (zw_at he1)
  obtain ⟨hs6, k0, hk0, cm0, hkk0⟩ := hs2
  obtain ⟨-, k1, hk1, cm1, hkk1⟩ := (E.2.2.2.2.2.1.2 ti _ (zty_at ht)).1 n1 (fun j => .int (g j))
  obtain ⟨vm', X', step⟩ := X.arraycopy E.1 E.2.2.2.1 (E.2.2.2.2.1 _ hw.1) (E.2.2.2.2.1 _ hw.2.1) (E.2.2.2.2.1 _ hw.2.2.1) (E.2.2.2.2.1 _ hw.2.2.2) (src := G.2.2.1 i0) (dst := B + i1) (cs := scr) (cd := vp_cell (G.2.1 ti) (n1, .inl g)) (srcPos := sp) (destPos := dp) (n := cn) (by rw [hT]; exact hc0) (by rw [hT]; exact hc1)
    hs6 (fun _ h => by cases h) hs3 (fun h => by cases h) hk0 hk1 hkk0 hkk1 (by simp [refKind]) h1 h2 h3
    (by rw [z_nn sp h1, z_nn cn h3]; omega)
    (by rw [z_nn dp h2, z_nn cn h3]; show ¬ _ > ((arrV _ n1 (fun j => .int (g j))).slots.size : Int); rw [arrV_size]; omega)
    (fun vm₁ _ i hi => by
      have e : scr.slots.getD (sp.toNatClampNeg + i) .null = .int (q.2.2.getD (sp.toNatClampNeg + i) 0) := by
        rw [Array.getD_eq_getD_getElem?, hs5 _ (by omega)]
        rfl
      refine ⟨?_, ?_⟩
      · rw [e]
        rfl
      · rw [e]
        exact trivial)
    (g := F0 m pc la (.int cn :: .int dp :: .ref (B + i1) :: .int sp :: .ref (G.2.2.1 i0) :: st)) rfl (by rw [E.2.2.1]; exact hl.1) (rest := st) rfl (by rw [E.2.1]; exact d) hf (by show 2 * 0 + _ + _ ≤ _; omega)
  have e1 : copied scr (vp_cell (G.2.1 ti) (n1, .inl g)) sp dp cn = vp_cell (G.2.1 ti) (n1, .inl (va_cpy (fun j => q.2.2.getD j 0) g sp.toNatClampNeg dp.toNatClampNeg cn.toNatClampNeg)) := va_copiedX (fun z => .int z) scr _ (fun j => q.2.2.getD j 0) g hs5 h4
  rw [e1] at X' step
  have hl1 : B + i1 < H.size := (Array.getElem?_eq_some_iff.mp hc1).1
  have hheap : ((T.setVm vm').setCell (B + i1) (vp_cell (G.2.1 ti) (n1, .inl (va_cpy (fun j => q.2.2.getD j 0) g sp.toNatClampNeg dp.toNatClampNeg cn.toNatClampNeg)))).heap = H.setIfInBounds (B + i1) (vp_cell (G.2.1 ti) (n1, .inl (va_cpy (fun j => q.2.2.getD j 0) g sp.toNatClampNeg dp.toNatClampNeg cn.toNatClampNeg))) := by rw [← hT]; rfl
  have oq : ∀ q' : Nat, q' ≠ B + i1 → (H.setIfInBounds (B + i1) (vp_cell (G.2.1 ti) (n1, .inl (va_cpy (fun j => q.2.2.getD j 0) g sp.toNatClampNeg dp.toNatClampNeg cn.toNatClampNeg))))[q']? = H[q']? := fun q' hq' => by simp [Array.getElem?_setIfInBounds, Ne.symm hq']
  obtain ⟨t, a1, b1⟩ := kk _ rfl _ _ la (hW.upd (by simp) (hW.2.set zw_D (zw_at he1) (show (H.setIfInBounds (B + i1) _)[B + i1]? = some _ by simp [Array.getElem?_setIfInBounds, hl1]) oq)) ⟨by simp; exact hS.1, fun q' g1 g2 => by
      rw [oq q' (fun e => g2 (by rw [e]; exact Nat.le_add_right B i1))]
      exact hS.2.1 q' g1 g2, fun q' hq' => by
      rcases List.mem_append.mp hq' with h | h
      · exact hS.2.2 q' h
      · obtain ⟨z, -, hz⟩ := List.mem_map.mp h
        rw [← hz]
        exact Nat.le_add_right B i1⟩ hl _ hheap X'
  exact ⟨t, step t a1, b1⟩
end ZR
/-- a contract out of the walk from the entry -/
theorem Tr.of {l : Launch} {G : zG} {B : Nat} {y : MethodName} {cc : ByteArray} {maxL : Nat} {ret : Option FieldType} {d mc ms : Nat} {av : List Value} {es : zE} {P : Option Value → zE → Prop} {ls : List (Option Value)} (hy : plainName y.cls = true) (hlen : (lg_sl av).length ≤ maxL) (hls : zent av maxL = ls)
    (body : ∀ (p : Program) (e : Env) (s : State) (m : MethodId) (below : List Frame) (meth : Method) (c : Code), En p s m av.toArray meth c G B maxL cc y.cls y.name ret → Zj p l e (zr d mc ms) s m av.toArray below meth c (MQ below (zQ G B P) av.toArray s mc ms (fun q => B ≤ q)) G B maxL 0 0 0 ls [] es) : Tr l G B y cc maxL ret d mc ms av es P := by
  refine Met.ofW (cc := cc) (maxL := maxL) (ret := ret) hy rfl ?_
  intro p e s m args below meth c s₁ Bd hml hv
  obtain ⟨rfl, hH, hK, hN, hZ⟩ := hv
  have hts := atoms_spec (ws := Cond.code y cc maxL ret :: zzW) Bd.pre
  have E : En p s m av.toArray meth c G B maxL cc y.cls y.name ret := ⟨Bd.exec, Bd.bytes, hml, findClass_of_methodNamed Bd.named, fun w hw => hts w (List.mem_cons_of_mem _ hw), hK, hN, hZ, by rw [hH.1]; exact Nat.le_add_right _ _, Bd.notSynchronized, Bd.returns, (name_of_methodNamed Bd.named Bd.method).1⟩
  have hl := lv_entry av (n := maxL) hlen
  rw [lg_entry_eq]
  exact body p e s m below meth c E s.heap [] _ hH va_S.rf ⟨hl.1, hl.2.1, fun i v hv => hl.2.2 (i, v) (by have := zent_args av maxL 0 i (by rw [hls]; exact hv); rwa [Nat.zero_add] at this)⟩
/-! what a contract says of an answer: an int, a long, a reference or null, nothing -/
def pI (P : Int32 → zE → Prop) : Option Value → zE → Prop := fun r es => ∃ v : Int32, r = some (.int v) ∧ P v es
def pL (P : Int64 → zE → Prop) : Option Value → zE → Prop := fun r es => ∃ v : Int64, r = some (.long v) ∧ P v es
def pR (P : Value → zE → Prop) : Option Value → zE → Prop := fun r es => ∃ v : Value, r = some v ∧ P v es
def pV (P : zE → Prop) : Option Value → zE → Prop := fun r es => r = none ∧ P es
section ZC
variable {p : Program} {l : Launch} {e : Env} {R : Room} {s : State} {m : MethodId} {args : Array Value} {below : List Frame} {meth : Method} {c : Code} {Q : State → Prop} {G : zG} {B nL k n pc : Nat} {ls : List (Option Value)} {st : List Value} {es : zE} {cc : ByteArray} {own mn : String} {rt : Option FieldType}
variable {mc ms d' : Nat} {y : MethodName} {bytes : ByteArray} {maxL : Nat} {ret : Option FieldType} {idx : Nat}
theorem z_cS0I (E : En p s m args meth c G B nL cc own mn rt) {P : Int32 → zE → Prop} (hM : Tr l G B y bytes maxL ret d' mc ms [] es (pI P)) (hC : zC own idx y bytes maxL ret 0) (hst : Cond.static y ∈ zzW) (hR : d' + 1 ≤ R.frames ∧ 40 * d' + 40 ≤ R.locals) (d : decode cc pc = .ok (.invokestatic idx, 3)) (hrm : (st.map fun v => v.category).sum ≤ 8) (hc : k + mc ≤ R.cells) (hs : n + ms ≤ R.slots) (kk : ∀ v es', P v es' → Zj p l e R s m args below meth c Q G B nL (k + mc) (n + ms) (pc + 3) ls (.int v :: st) es') : Zj p l e R s m args below meth c Q G B nL k n (pc) ls (st) es :=
  z_callS (As := []) E hM hC hst hR d rfl hrm hc hs (fun r es' h => by obtain ⟨v, rfl, hp⟩ := h; exact kk v es' hp)
theorem z_cV0I (E : En p s m args meth c G B nL cc own mn rt) {P : Int32 → zE → Prop} {i ci : Nat} {C : String} {T : u_T} {N : Nat} {fs : List Value} (hM : Tr l G B y bytes maxL ret d' mc ms [.ref (B + i)] es (pI P)) (hC : zC own idx y bytes maxL ret 0) (hin : Cond.instanceMethod y ∈ zzW ∧ Cond.selects C y y ∈ zzW) (hci : vwCl[ci]? = some (C, T, N)) (he : es[i]? = some (.inr (ci, fs))) (hR : d' + 1 ≤ R.frames ∧ 40 * d' + 40 ≤ R.locals) (d : decode cc pc = .ok (.invokevirtual idx, 3)) (hrm : (st.map fun v => v.category).sum ≤ 8) (hc : k + mc ≤ R.cells) (hs : n + ms ≤ R.slots) (kk : ∀ v es', P v es' → Zj p l e R s m args below meth c Q G B nL (k + mc) (n + ms) (pc + 3) ls (.int v :: st) es') : Zj p l e R s m args below meth c Q G B nL k n (pc) ls (.ref (B + i) :: st) es :=
  z_callV (As := []) E hM hC hin hci he hR d rfl hrm hc hs (fun r es' h => by obtain ⟨v, rfl, hp⟩ := h; exact kk v es' hp)
theorem z_cS0L (E : En p s m args meth c G B nL cc own mn rt) {P : Int64 → zE → Prop} (hM : Tr l G B y bytes maxL ret d' mc ms [] es (pL P)) (hC : zC own idx y bytes maxL ret 0) (hst : Cond.static y ∈ zzW) (hR : d' + 1 ≤ R.frames ∧ 40 * d' + 40 ≤ R.locals) (d : decode cc pc = .ok (.invokestatic idx, 3)) (hrm : (st.map fun v => v.category).sum ≤ 8) (hc : k + mc ≤ R.cells) (hs : n + ms ≤ R.slots) (kk : ∀ v es', P v es' → Zj p l e R s m args below meth c Q G B nL (k + mc) (n + ms) (pc + 3) ls (.long v :: st) es') : Zj p l e R s m args below meth c Q G B nL k n (pc) ls (st) es :=
  z_callS (As := []) E hM hC hst hR d rfl hrm hc hs (fun r es' h => by obtain ⟨v, rfl, hp⟩ := h; exact kk v es' hp)
theorem z_cV0L (E : En p s m args meth c G B nL cc own mn rt) {P : Int64 → zE → Prop} {i ci : Nat} {C : String} {T : u_T} {N : Nat} {fs : List Value} (hM : Tr l G B y bytes maxL ret d' mc ms [.ref (B + i)] es (pL P)) (hC : zC own idx y bytes maxL ret 0) (hin : Cond.instanceMethod y ∈ zzW ∧ Cond.selects C y y ∈ zzW) (hci : vwCl[ci]? = some (C, T, N)) (he : es[i]? = some (.inr (ci, fs))) (hR : d' + 1 ≤ R.frames ∧ 40 * d' + 40 ≤ R.locals) (d : decode cc pc = .ok (.invokevirtual idx, 3)) (hrm : (st.map fun v => v.category).sum ≤ 8) (hc : k + mc ≤ R.cells) (hs : n + ms ≤ R.slots) (kk : ∀ v es', P v es' → Zj p l e R s m args below meth c Q G B nL (k + mc) (n + ms) (pc + 3) ls (.long v :: st) es') : Zj p l e R s m args below meth c Q G B nL k n (pc) ls (.ref (B + i) :: st) es :=
  z_callV (As := []) E hM hC hin hci he hR d rfl hrm hc hs (fun r es' h => by obtain ⟨v, rfl, hp⟩ := h; exact kk v es' hp)
theorem z_cS0R (E : En p s m args meth c G B nL cc own mn rt) {P : Value → zE → Prop} (hM : Tr l G B y bytes maxL ret d' mc ms [] es (pR P)) (hC : zC own idx y bytes maxL ret 0) (hst : Cond.static y ∈ zzW) (hR : d' + 1 ≤ R.frames ∧ 40 * d' + 40 ≤ R.locals) (d : decode cc pc = .ok (.invokestatic idx, 3)) (hrm : (st.map fun v => v.category).sum ≤ 8) (hc : k + mc ≤ R.cells) (hs : n + ms ≤ R.slots) (kk : ∀ v es', P v es' → Zj p l e R s m args below meth c Q G B nL (k + mc) (n + ms) (pc + 3) ls (v :: st) es') : Zj p l e R s m args below meth c Q G B nL k n (pc) ls (st) es :=
  z_callS (As := []) E hM hC hst hR d rfl hrm hc hs (fun r es' h => by obtain ⟨v, rfl, hp⟩ := h; exact kk v es' hp)
theorem z_cV0R (E : En p s m args meth c G B nL cc own mn rt) {P : Value → zE → Prop} {i ci : Nat} {C : String} {T : u_T} {N : Nat} {fs : List Value} (hM : Tr l G B y bytes maxL ret d' mc ms [.ref (B + i)] es (pR P)) (hC : zC own idx y bytes maxL ret 0) (hin : Cond.instanceMethod y ∈ zzW ∧ Cond.selects C y y ∈ zzW) (hci : vwCl[ci]? = some (C, T, N)) (he : es[i]? = some (.inr (ci, fs))) (hR : d' + 1 ≤ R.frames ∧ 40 * d' + 40 ≤ R.locals) (d : decode cc pc = .ok (.invokevirtual idx, 3)) (hrm : (st.map fun v => v.category).sum ≤ 8) (hc : k + mc ≤ R.cells) (hs : n + ms ≤ R.slots) (kk : ∀ v es', P v es' → Zj p l e R s m args below meth c Q G B nL (k + mc) (n + ms) (pc + 3) ls (v :: st) es') : Zj p l e R s m args below meth c Q G B nL k n (pc) ls (.ref (B + i) :: st) es :=
  z_callV (As := []) E hM hC hin hci he hR d rfl hrm hc hs (fun r es' h => by obtain ⟨v, rfl, hp⟩ := h; exact kk v es' hp)
theorem z_cS0V (E : En p s m args meth c G B nL cc own mn rt) {P : zE → Prop} (hM : Tr l G B y bytes maxL ret d' mc ms [] es (pV P)) (hC : zC own idx y bytes maxL ret 0) (hst : Cond.static y ∈ zzW) (hR : d' + 1 ≤ R.frames ∧ 40 * d' + 40 ≤ R.locals) (d : decode cc pc = .ok (.invokestatic idx, 3)) (hrm : (st.map fun v => v.category).sum ≤ 8) (hc : k + mc ≤ R.cells) (hs : n + ms ≤ R.slots) (kk : ∀ es', P es' → Zj p l e R s m args below meth c Q G B nL (k + mc) (n + ms) (pc + 3) ls (st) es') : Zj p l e R s m args below meth c Q G B nL k n (pc) ls (st) es :=
  z_callS (As := []) E hM hC hst hR d rfl hrm hc hs (fun r es' h => by obtain ⟨rfl, hp⟩ := h; exact kk es' hp)
theorem z_cV0V (E : En p s m args meth c G B nL cc own mn rt) {P : zE → Prop} {i ci : Nat} {C : String} {T : u_T} {N : Nat} {fs : List Value} (hM : Tr l G B y bytes maxL ret d' mc ms [.ref (B + i)] es (pV P)) (hC : zC own idx y bytes maxL ret 0) (hin : Cond.instanceMethod y ∈ zzW ∧ Cond.selects C y y ∈ zzW) (hci : vwCl[ci]? = some (C, T, N)) (he : es[i]? = some (.inr (ci, fs))) (hR : d' + 1 ≤ R.frames ∧ 40 * d' + 40 ≤ R.locals) (d : decode cc pc = .ok (.invokevirtual idx, 3)) (hrm : (st.map fun v => v.category).sum ≤ 8) (hc : k + mc ≤ R.cells) (hs : n + ms ≤ R.slots) (kk : ∀ es', P es' → Zj p l e R s m args below meth c Q G B nL (k + mc) (n + ms) (pc + 3) ls (st) es') : Zj p l e R s m args below meth c Q G B nL k n (pc) ls (.ref (B + i) :: st) es :=
  z_callV (As := []) E hM hC hin hci he hR d rfl hrm hc hs (fun r es' h => by obtain ⟨rfl, hp⟩ := h; exact kk es' hp)
theorem z_cI0V (E : En p s m args meth c G B nL cc own mn rt) {P : zE → Prop} {a : Nat} (hM : Tr l G B y bytes maxL none d' mc ms [.ref a] es (pV P)) (hC : zC own idx y bytes maxL none 0) (hin : y.name = "<init>" ∧ Cond.instanceMethod y ∈ zzW) (hR : d' + 1 ≤ R.frames ∧ 40 * d' + 40 ≤ R.locals) (d : decode cc pc = .ok (.invokespecial idx, 3)) (hrm : (st.map fun v => v.category).sum ≤ 8) (hc : k + mc ≤ R.cells) (hs : n + ms ≤ R.slots) (kk : ∀ es', P es' → Zj p l e R s m args below meth c Q G B nL (k + mc) (n + ms) (pc + 3) ls (st) es') : Zj p l e R s m args below meth c Q G B nL k n (pc) ls (.ref a :: st) es :=
  z_callI (As := []) E hM hC hin hR d rfl hrm hc hs (fun r es' h => by obtain ⟨rfl, hp⟩ := h; exact kk es' hp)
theorem z_cS1I (E : En p s m args meth c G B nL cc own mn rt) {x1 : Value} {P : Int32 → zE → Prop} (hM : Tr l G B y bytes maxL ret d' mc ms [x1] es (pI P)) (hC : zC own idx y bytes maxL ret 1) (hst : Cond.static y ∈ zzW) (hR : d' + 1 ≤ R.frames ∧ 40 * d' + 40 ≤ R.locals) (d : decode cc pc = .ok (.invokestatic idx, 3)) (hrm : (st.map fun v => v.category).sum ≤ 8) (hc : k + mc ≤ R.cells) (hs : n + ms ≤ R.slots) (kk : ∀ v es', P v es' → Zj p l e R s m args below meth c Q G B nL (k + mc) (n + ms) (pc + 3) ls (.int v :: st) es') : Zj p l e R s m args below meth c Q G B nL k n (pc) ls (x1 :: st) es :=
  z_callS (As := [x1]) E hM hC hst hR d rfl hrm hc hs (fun r es' h => by obtain ⟨v, rfl, hp⟩ := h; exact kk v es' hp)
theorem z_cV1I (E : En p s m args meth c G B nL cc own mn rt) {x1 : Value} {P : Int32 → zE → Prop} {i ci : Nat} {C : String} {T : u_T} {N : Nat} {fs : List Value} (hM : Tr l G B y bytes maxL ret d' mc ms [.ref (B + i), x1] es (pI P)) (hC : zC own idx y bytes maxL ret 1) (hin : Cond.instanceMethod y ∈ zzW ∧ Cond.selects C y y ∈ zzW) (hci : vwCl[ci]? = some (C, T, N)) (he : es[i]? = some (.inr (ci, fs))) (hR : d' + 1 ≤ R.frames ∧ 40 * d' + 40 ≤ R.locals) (d : decode cc pc = .ok (.invokevirtual idx, 3)) (hrm : (st.map fun v => v.category).sum ≤ 8) (hc : k + mc ≤ R.cells) (hs : n + ms ≤ R.slots) (kk : ∀ v es', P v es' → Zj p l e R s m args below meth c Q G B nL (k + mc) (n + ms) (pc + 3) ls (.int v :: st) es') : Zj p l e R s m args below meth c Q G B nL k n (pc) ls (x1 :: .ref (B + i) :: st) es :=
  z_callV (As := [x1]) E hM hC hin hci he hR d rfl hrm hc hs (fun r es' h => by obtain ⟨v, rfl, hp⟩ := h; exact kk v es' hp)
theorem z_cS1L (E : En p s m args meth c G B nL cc own mn rt) {x1 : Value} {P : Int64 → zE → Prop} (hM : Tr l G B y bytes maxL ret d' mc ms [x1] es (pL P)) (hC : zC own idx y bytes maxL ret 1) (hst : Cond.static y ∈ zzW) (hR : d' + 1 ≤ R.frames ∧ 40 * d' + 40 ≤ R.locals) (d : decode cc pc = .ok (.invokestatic idx, 3)) (hrm : (st.map fun v => v.category).sum ≤ 8) (hc : k + mc ≤ R.cells) (hs : n + ms ≤ R.slots) (kk : ∀ v es', P v es' → Zj p l e R s m args below meth c Q G B nL (k + mc) (n + ms) (pc + 3) ls (.long v :: st) es') : Zj p l e R s m args below meth c Q G B nL k n (pc) ls (x1 :: st) es :=
  z_callS (As := [x1]) E hM hC hst hR d rfl hrm hc hs (fun r es' h => by obtain ⟨v, rfl, hp⟩ := h; exact kk v es' hp)
theorem z_cV1L (E : En p s m args meth c G B nL cc own mn rt) {x1 : Value} {P : Int64 → zE → Prop} {i ci : Nat} {C : String} {T : u_T} {N : Nat} {fs : List Value} (hM : Tr l G B y bytes maxL ret d' mc ms [.ref (B + i), x1] es (pL P)) (hC : zC own idx y bytes maxL ret 1) (hin : Cond.instanceMethod y ∈ zzW ∧ Cond.selects C y y ∈ zzW) (hci : vwCl[ci]? = some (C, T, N)) (he : es[i]? = some (.inr (ci, fs))) (hR : d' + 1 ≤ R.frames ∧ 40 * d' + 40 ≤ R.locals) (d : decode cc pc = .ok (.invokevirtual idx, 3)) (hrm : (st.map fun v => v.category).sum ≤ 8) (hc : k + mc ≤ R.cells) (hs : n + ms ≤ R.slots) (kk : ∀ v es', P v es' → Zj p l e R s m args below meth c Q G B nL (k + mc) (n + ms) (pc + 3) ls (.long v :: st) es') : Zj p l e R s m args below meth c Q G B nL k n (pc) ls (x1 :: .ref (B + i) :: st) es :=
  z_callV (As := [x1]) E hM hC hin hci he hR d rfl hrm hc hs (fun r es' h => by obtain ⟨v, rfl, hp⟩ := h; exact kk v es' hp)
theorem z_cS1R (E : En p s m args meth c G B nL cc own mn rt) {x1 : Value} {P : Value → zE → Prop} (hM : Tr l G B y bytes maxL ret d' mc ms [x1] es (pR P)) (hC : zC own idx y bytes maxL ret 1) (hst : Cond.static y ∈ zzW) (hR : d' + 1 ≤ R.frames ∧ 40 * d' + 40 ≤ R.locals) (d : decode cc pc = .ok (.invokestatic idx, 3)) (hrm : (st.map fun v => v.category).sum ≤ 8) (hc : k + mc ≤ R.cells) (hs : n + ms ≤ R.slots) (kk : ∀ v es', P v es' → Zj p l e R s m args below meth c Q G B nL (k + mc) (n + ms) (pc + 3) ls (v :: st) es') : Zj p l e R s m args below meth c Q G B nL k n (pc) ls (x1 :: st) es :=
  z_callS (As := [x1]) E hM hC hst hR d rfl hrm hc hs (fun r es' h => by obtain ⟨v, rfl, hp⟩ := h; exact kk v es' hp)
theorem z_cV1R (E : En p s m args meth c G B nL cc own mn rt) {x1 : Value} {P : Value → zE → Prop} {i ci : Nat} {C : String} {T : u_T} {N : Nat} {fs : List Value} (hM : Tr l G B y bytes maxL ret d' mc ms [.ref (B + i), x1] es (pR P)) (hC : zC own idx y bytes maxL ret 1) (hin : Cond.instanceMethod y ∈ zzW ∧ Cond.selects C y y ∈ zzW) (hci : vwCl[ci]? = some (C, T, N)) (he : es[i]? = some (.inr (ci, fs))) (hR : d' + 1 ≤ R.frames ∧ 40 * d' + 40 ≤ R.locals) (d : decode cc pc = .ok (.invokevirtual idx, 3)) (hrm : (st.map fun v => v.category).sum ≤ 8) (hc : k + mc ≤ R.cells) (hs : n + ms ≤ R.slots) (kk : ∀ v es', P v es' → Zj p l e R s m args below meth c Q G B nL (k + mc) (n + ms) (pc + 3) ls (v :: st) es') : Zj p l e R s m args below meth c Q G B nL k n (pc) ls (x1 :: .ref (B + i) :: st) es :=
  z_callV (As := [x1]) E hM hC hin hci he hR d rfl hrm hc hs (fun r es' h => by obtain ⟨v, rfl, hp⟩ := h; exact kk v es' hp)
theorem z_cS1V (E : En p s m args meth c G B nL cc own mn rt) {x1 : Value} {P : zE → Prop} (hM : Tr l G B y bytes maxL ret d' mc ms [x1] es (pV P)) (hC : zC own idx y bytes maxL ret 1) (hst : Cond.static y ∈ zzW) (hR : d' + 1 ≤ R.frames ∧ 40 * d' + 40 ≤ R.locals) (d : decode cc pc = .ok (.invokestatic idx, 3)) (hrm : (st.map fun v => v.category).sum ≤ 8) (hc : k + mc ≤ R.cells) (hs : n + ms ≤ R.slots) (kk : ∀ es', P es' → Zj p l e R s m args below meth c Q G B nL (k + mc) (n + ms) (pc + 3) ls (st) es') : Zj p l e R s m args below meth c Q G B nL k n (pc) ls (x1 :: st) es :=
  z_callS (As := [x1]) E hM hC hst hR d rfl hrm hc hs (fun r es' h => by obtain ⟨rfl, hp⟩ := h; exact kk es' hp)
theorem z_cV1V (E : En p s m args meth c G B nL cc own mn rt) {x1 : Value} {P : zE → Prop} {i ci : Nat} {C : String} {T : u_T} {N : Nat} {fs : List Value} (hM : Tr l G B y bytes maxL ret d' mc ms [.ref (B + i), x1] es (pV P)) (hC : zC own idx y bytes maxL ret 1) (hin : Cond.instanceMethod y ∈ zzW ∧ Cond.selects C y y ∈ zzW) (hci : vwCl[ci]? = some (C, T, N)) (he : es[i]? = some (.inr (ci, fs))) (hR : d' + 1 ≤ R.frames ∧ 40 * d' + 40 ≤ R.locals) (d : decode cc pc = .ok (.invokevirtual idx, 3)) (hrm : (st.map fun v => v.category).sum ≤ 8) (hc : k + mc ≤ R.cells) (hs : n + ms ≤ R.slots) (kk : ∀ es', P es' → Zj p l e R s m args below meth c Q G B nL (k + mc) (n + ms) (pc + 3) ls (st) es') : Zj p l e R s m args below meth c Q G B nL k n (pc) ls (x1 :: .ref (B + i) :: st) es :=
  z_callV (As := [x1]) E hM hC hin hci he hR d rfl hrm hc hs (fun r es' h => by obtain ⟨rfl, hp⟩ := h; exact kk es' hp)
theorem z_cI1V (E : En p s m args meth c G B nL cc own mn rt) {x1 : Value} {P : zE → Prop} {a : Nat} (hM : Tr l G B y bytes maxL none d' mc ms [.ref a, x1] es (pV P)) (hC : zC own idx y bytes maxL none 1) (hin : y.name = "<init>" ∧ Cond.instanceMethod y ∈ zzW) (hR : d' + 1 ≤ R.frames ∧ 40 * d' + 40 ≤ R.locals) (d : decode cc pc = .ok (.invokespecial idx, 3)) (hrm : (st.map fun v => v.category).sum ≤ 8) (hc : k + mc ≤ R.cells) (hs : n + ms ≤ R.slots) (kk : ∀ es', P es' → Zj p l e R s m args below meth c Q G B nL (k + mc) (n + ms) (pc + 3) ls (st) es') : Zj p l e R s m args below meth c Q G B nL k n (pc) ls (x1 :: .ref a :: st) es :=
  z_callI (As := [x1]) E hM hC hin hR d rfl hrm hc hs (fun r es' h => by obtain ⟨rfl, hp⟩ := h; exact kk es' hp)
theorem z_cS2I (E : En p s m args meth c G B nL cc own mn rt) {x1 x2 : Value} {P : Int32 → zE → Prop} (hM : Tr l G B y bytes maxL ret d' mc ms [x1, x2] es (pI P)) (hC : zC own idx y bytes maxL ret 2) (hst : Cond.static y ∈ zzW) (hR : d' + 1 ≤ R.frames ∧ 40 * d' + 40 ≤ R.locals) (d : decode cc pc = .ok (.invokestatic idx, 3)) (hrm : (st.map fun v => v.category).sum ≤ 8) (hc : k + mc ≤ R.cells) (hs : n + ms ≤ R.slots) (kk : ∀ v es', P v es' → Zj p l e R s m args below meth c Q G B nL (k + mc) (n + ms) (pc + 3) ls (.int v :: st) es') : Zj p l e R s m args below meth c Q G B nL k n (pc) ls (x2 :: x1 :: st) es :=
  z_callS (As := [x1, x2]) E hM hC hst hR d rfl hrm hc hs (fun r es' h => by obtain ⟨v, rfl, hp⟩ := h; exact kk v es' hp)
theorem z_cV2I (E : En p s m args meth c G B nL cc own mn rt) {x1 x2 : Value} {P : Int32 → zE → Prop} {i ci : Nat} {C : String} {T : u_T} {N : Nat} {fs : List Value} (hM : Tr l G B y bytes maxL ret d' mc ms [.ref (B + i), x1, x2] es (pI P)) (hC : zC own idx y bytes maxL ret 2) (hin : Cond.instanceMethod y ∈ zzW ∧ Cond.selects C y y ∈ zzW) (hci : vwCl[ci]? = some (C, T, N)) (he : es[i]? = some (.inr (ci, fs))) (hR : d' + 1 ≤ R.frames ∧ 40 * d' + 40 ≤ R.locals) (d : decode cc pc = .ok (.invokevirtual idx, 3)) (hrm : (st.map fun v => v.category).sum ≤ 8) (hc : k + mc ≤ R.cells) (hs : n + ms ≤ R.slots) (kk : ∀ v es', P v es' → Zj p l e R s m args below meth c Q G B nL (k + mc) (n + ms) (pc + 3) ls (.int v :: st) es') : Zj p l e R s m args below meth c Q G B nL k n (pc) ls (x2 :: x1 :: .ref (B + i) :: st) es :=
  z_callV (As := [x1, x2]) E hM hC hin hci he hR d rfl hrm hc hs (fun r es' h => by obtain ⟨v, rfl, hp⟩ := h; exact kk v es' hp)
theorem z_cS2L (E : En p s m args meth c G B nL cc own mn rt) {x1 x2 : Value} {P : Int64 → zE → Prop} (hM : Tr l G B y bytes maxL ret d' mc ms [x1, x2] es (pL P)) (hC : zC own idx y bytes maxL ret 2) (hst : Cond.static y ∈ zzW) (hR : d' + 1 ≤ R.frames ∧ 40 * d' + 40 ≤ R.locals) (d : decode cc pc = .ok (.invokestatic idx, 3)) (hrm : (st.map fun v => v.category).sum ≤ 8) (hc : k + mc ≤ R.cells) (hs : n + ms ≤ R.slots) (kk : ∀ v es', P v es' → Zj p l e R s m args below meth c Q G B nL (k + mc) (n + ms) (pc + 3) ls (.long v :: st) es') : Zj p l e R s m args below meth c Q G B nL k n (pc) ls (x2 :: x1 :: st) es :=
  z_callS (As := [x1, x2]) E hM hC hst hR d rfl hrm hc hs (fun r es' h => by obtain ⟨v, rfl, hp⟩ := h; exact kk v es' hp)
theorem z_cV2L (E : En p s m args meth c G B nL cc own mn rt) {x1 x2 : Value} {P : Int64 → zE → Prop} {i ci : Nat} {C : String} {T : u_T} {N : Nat} {fs : List Value} (hM : Tr l G B y bytes maxL ret d' mc ms [.ref (B + i), x1, x2] es (pL P)) (hC : zC own idx y bytes maxL ret 2) (hin : Cond.instanceMethod y ∈ zzW ∧ Cond.selects C y y ∈ zzW) (hci : vwCl[ci]? = some (C, T, N)) (he : es[i]? = some (.inr (ci, fs))) (hR : d' + 1 ≤ R.frames ∧ 40 * d' + 40 ≤ R.locals) (d : decode cc pc = .ok (.invokevirtual idx, 3)) (hrm : (st.map fun v => v.category).sum ≤ 8) (hc : k + mc ≤ R.cells) (hs : n + ms ≤ R.slots) (kk : ∀ v es', P v es' → Zj p l e R s m args below meth c Q G B nL (k + mc) (n + ms) (pc + 3) ls (.long v :: st) es') : Zj p l e R s m args below meth c Q G B nL k n (pc) ls (x2 :: x1 :: .ref (B + i) :: st) es :=
  z_callV (As := [x1, x2]) E hM hC hin hci he hR d rfl hrm hc hs (fun r es' h => by obtain ⟨v, rfl, hp⟩ := h; exact kk v es' hp)
theorem z_cS2R (E : En p s m args meth c G B nL cc own mn rt) {x1 x2 : Value} {P : Value → zE → Prop} (hM : Tr l G B y bytes maxL ret d' mc ms [x1, x2] es (pR P)) (hC : zC own idx y bytes maxL ret 2) (hst : Cond.static y ∈ zzW) (hR : d' + 1 ≤ R.frames ∧ 40 * d' + 40 ≤ R.locals) (d : decode cc pc = .ok (.invokestatic idx, 3)) (hrm : (st.map fun v => v.category).sum ≤ 8) (hc : k + mc ≤ R.cells) (hs : n + ms ≤ R.slots) (kk : ∀ v es', P v es' → Zj p l e R s m args below meth c Q G B nL (k + mc) (n + ms) (pc + 3) ls (v :: st) es') : Zj p l e R s m args below meth c Q G B nL k n (pc) ls (x2 :: x1 :: st) es :=
  z_callS (As := [x1, x2]) E hM hC hst hR d rfl hrm hc hs (fun r es' h => by obtain ⟨v, rfl, hp⟩ := h; exact kk v es' hp)
theorem z_cV2R (E : En p s m args meth c G B nL cc own mn rt) {x1 x2 : Value} {P : Value → zE → Prop} {i ci : Nat} {C : String} {T : u_T} {N : Nat} {fs : List Value} (hM : Tr l G B y bytes maxL ret d' mc ms [.ref (B + i), x1, x2] es (pR P)) (hC : zC own idx y bytes maxL ret 2) (hin : Cond.instanceMethod y ∈ zzW ∧ Cond.selects C y y ∈ zzW) (hci : vwCl[ci]? = some (C, T, N)) (he : es[i]? = some (.inr (ci, fs))) (hR : d' + 1 ≤ R.frames ∧ 40 * d' + 40 ≤ R.locals) (d : decode cc pc = .ok (.invokevirtual idx, 3)) (hrm : (st.map fun v => v.category).sum ≤ 8) (hc : k + mc ≤ R.cells) (hs : n + ms ≤ R.slots) (kk : ∀ v es', P v es' → Zj p l e R s m args below meth c Q G B nL (k + mc) (n + ms) (pc + 3) ls (v :: st) es') : Zj p l e R s m args below meth c Q G B nL k n (pc) ls (x2 :: x1 :: .ref (B + i) :: st) es :=
  z_callV (As := [x1, x2]) E hM hC hin hci he hR d rfl hrm hc hs (fun r es' h => by obtain ⟨v, rfl, hp⟩ := h; exact kk v es' hp)
theorem z_cS2V (E : En p s m args meth c G B nL cc own mn rt) {x1 x2 : Value} {P : zE → Prop} (hM : Tr l G B y bytes maxL ret d' mc ms [x1, x2] es (pV P)) (hC : zC own idx y bytes maxL ret 2) (hst : Cond.static y ∈ zzW) (hR : d' + 1 ≤ R.frames ∧ 40 * d' + 40 ≤ R.locals) (d : decode cc pc = .ok (.invokestatic idx, 3)) (hrm : (st.map fun v => v.category).sum ≤ 8) (hc : k + mc ≤ R.cells) (hs : n + ms ≤ R.slots) (kk : ∀ es', P es' → Zj p l e R s m args below meth c Q G B nL (k + mc) (n + ms) (pc + 3) ls (st) es') : Zj p l e R s m args below meth c Q G B nL k n (pc) ls (x2 :: x1 :: st) es :=
  z_callS (As := [x1, x2]) E hM hC hst hR d rfl hrm hc hs (fun r es' h => by obtain ⟨rfl, hp⟩ := h; exact kk es' hp)
theorem z_cV2V (E : En p s m args meth c G B nL cc own mn rt) {x1 x2 : Value} {P : zE → Prop} {i ci : Nat} {C : String} {T : u_T} {N : Nat} {fs : List Value} (hM : Tr l G B y bytes maxL ret d' mc ms [.ref (B + i), x1, x2] es (pV P)) (hC : zC own idx y bytes maxL ret 2) (hin : Cond.instanceMethod y ∈ zzW ∧ Cond.selects C y y ∈ zzW) (hci : vwCl[ci]? = some (C, T, N)) (he : es[i]? = some (.inr (ci, fs))) (hR : d' + 1 ≤ R.frames ∧ 40 * d' + 40 ≤ R.locals) (d : decode cc pc = .ok (.invokevirtual idx, 3)) (hrm : (st.map fun v => v.category).sum ≤ 8) (hc : k + mc ≤ R.cells) (hs : n + ms ≤ R.slots) (kk : ∀ es', P es' → Zj p l e R s m args below meth c Q G B nL (k + mc) (n + ms) (pc + 3) ls (st) es') : Zj p l e R s m args below meth c Q G B nL k n (pc) ls (x2 :: x1 :: .ref (B + i) :: st) es :=
  z_callV (As := [x1, x2]) E hM hC hin hci he hR d rfl hrm hc hs (fun r es' h => by obtain ⟨rfl, hp⟩ := h; exact kk es' hp)
theorem z_cI2V (E : En p s m args meth c G B nL cc own mn rt) {x1 x2 : Value} {P : zE → Prop} {a : Nat} (hM : Tr l G B y bytes maxL none d' mc ms [.ref a, x1, x2] es (pV P)) (hC : zC own idx y bytes maxL none 2) (hin : y.name = "<init>" ∧ Cond.instanceMethod y ∈ zzW) (hR : d' + 1 ≤ R.frames ∧ 40 * d' + 40 ≤ R.locals) (d : decode cc pc = .ok (.invokespecial idx, 3)) (hrm : (st.map fun v => v.category).sum ≤ 8) (hc : k + mc ≤ R.cells) (hs : n + ms ≤ R.slots) (kk : ∀ es', P es' → Zj p l e R s m args below meth c Q G B nL (k + mc) (n + ms) (pc + 3) ls (st) es') : Zj p l e R s m args below meth c Q G B nL k n (pc) ls (x2 :: x1 :: .ref a :: st) es :=
  z_callI (As := [x1, x2]) E hM hC hin hR d rfl hrm hc hs (fun r es' h => by obtain ⟨rfl, hp⟩ := h; exact kk es' hp)
theorem z_cS3I (E : En p s m args meth c G B nL cc own mn rt) {x1 x2 x3 : Value} {P : Int32 → zE → Prop} (hM : Tr l G B y bytes maxL ret d' mc ms [x1, x2, x3] es (pI P)) (hC : zC own idx y bytes maxL ret 3) (hst : Cond.static y ∈ zzW) (hR : d' + 1 ≤ R.frames ∧ 40 * d' + 40 ≤ R.locals) (d : decode cc pc = .ok (.invokestatic idx, 3)) (hrm : (st.map fun v => v.category).sum ≤ 8) (hc : k + mc ≤ R.cells) (hs : n + ms ≤ R.slots) (kk : ∀ v es', P v es' → Zj p l e R s m args below meth c Q G B nL (k + mc) (n + ms) (pc + 3) ls (.int v :: st) es') : Zj p l e R s m args below meth c Q G B nL k n (pc) ls (x3 :: x2 :: x1 :: st) es :=
  z_callS (As := [x1, x2, x3]) E hM hC hst hR d rfl hrm hc hs (fun r es' h => by obtain ⟨v, rfl, hp⟩ := h; exact kk v es' hp)
theorem z_cV3I (E : En p s m args meth c G B nL cc own mn rt) {x1 x2 x3 : Value} {P : Int32 → zE → Prop} {i ci : Nat} {C : String} {T : u_T} {N : Nat} {fs : List Value} (hM : Tr l G B y bytes maxL ret d' mc ms [.ref (B + i), x1, x2, x3] es (pI P)) (hC : zC own idx y bytes maxL ret 3) (hin : Cond.instanceMethod y ∈ zzW ∧ Cond.selects C y y ∈ zzW) (hci : vwCl[ci]? = some (C, T, N)) (he : es[i]? = some (.inr (ci, fs))) (hR : d' + 1 ≤ R.frames ∧ 40 * d' + 40 ≤ R.locals) (d : decode cc pc = .ok (.invokevirtual idx, 3)) (hrm : (st.map fun v => v.category).sum ≤ 8) (hc : k + mc ≤ R.cells) (hs : n + ms ≤ R.slots) (kk : ∀ v es', P v es' → Zj p l e R s m args below meth c Q G B nL (k + mc) (n + ms) (pc + 3) ls (.int v :: st) es') : Zj p l e R s m args below meth c Q G B nL k n (pc) ls (x3 :: x2 :: x1 :: .ref (B + i) :: st) es :=
  z_callV (As := [x1, x2, x3]) E hM hC hin hci he hR d rfl hrm hc hs (fun r es' h => by obtain ⟨v, rfl, hp⟩ := h; exact kk v es' hp)
theorem z_cS3L (E : En p s m args meth c G B nL cc own mn rt) {x1 x2 x3 : Value} {P : Int64 → zE → Prop} (hM : Tr l G B y bytes maxL ret d' mc ms [x1, x2, x3] es (pL P)) (hC : zC own idx y bytes maxL ret 3) (hst : Cond.static y ∈ zzW) (hR : d' + 1 ≤ R.frames ∧ 40 * d' + 40 ≤ R.locals) (d : decode cc pc = .ok (.invokestatic idx, 3)) (hrm : (st.map fun v => v.category).sum ≤ 8) (hc : k + mc ≤ R.cells) (hs : n + ms ≤ R.slots) (kk : ∀ v es', P v es' → Zj p l e R s m args below meth c Q G B nL (k + mc) (n + ms) (pc + 3) ls (.long v :: st) es') : Zj p l e R s m args below meth c Q G B nL k n (pc) ls (x3 :: x2 :: x1 :: st) es :=
  z_callS (As := [x1, x2, x3]) E hM hC hst hR d rfl hrm hc hs (fun r es' h => by obtain ⟨v, rfl, hp⟩ := h; exact kk v es' hp)
theorem z_cV3L (E : En p s m args meth c G B nL cc own mn rt) {x1 x2 x3 : Value} {P : Int64 → zE → Prop} {i ci : Nat} {C : String} {T : u_T} {N : Nat} {fs : List Value} (hM : Tr l G B y bytes maxL ret d' mc ms [.ref (B + i), x1, x2, x3] es (pL P)) (hC : zC own idx y bytes maxL ret 3) (hin : Cond.instanceMethod y ∈ zzW ∧ Cond.selects C y y ∈ zzW) (hci : vwCl[ci]? = some (C, T, N)) (he : es[i]? = some (.inr (ci, fs))) (hR : d' + 1 ≤ R.frames ∧ 40 * d' + 40 ≤ R.locals) (d : decode cc pc = .ok (.invokevirtual idx, 3)) (hrm : (st.map fun v => v.category).sum ≤ 8) (hc : k + mc ≤ R.cells) (hs : n + ms ≤ R.slots) (kk : ∀ v es', P v es' → Zj p l e R s m args below meth c Q G B nL (k + mc) (n + ms) (pc + 3) ls (.long v :: st) es') : Zj p l e R s m args below meth c Q G B nL k n (pc) ls (x3 :: x2 :: x1 :: .ref (B + i) :: st) es :=
  z_callV (As := [x1, x2, x3]) E hM hC hin hci he hR d rfl hrm hc hs (fun r es' h => by obtain ⟨v, rfl, hp⟩ := h; exact kk v es' hp)
theorem z_cS3R (E : En p s m args meth c G B nL cc own mn rt) {x1 x2 x3 : Value} {P : Value → zE → Prop} (hM : Tr l G B y bytes maxL ret d' mc ms [x1, x2, x3] es (pR P)) (hC : zC own idx y bytes maxL ret 3) (hst : Cond.static y ∈ zzW) (hR : d' + 1 ≤ R.frames ∧ 40 * d' + 40 ≤ R.locals) (d : decode cc pc = .ok (.invokestatic idx, 3)) (hrm : (st.map fun v => v.category).sum ≤ 8) (hc : k + mc ≤ R.cells) (hs : n + ms ≤ R.slots) (kk : ∀ v es', P v es' → Zj p l e R s m args below meth c Q G B nL (k + mc) (n + ms) (pc + 3) ls (v :: st) es') : Zj p l e R s m args below meth c Q G B nL k n (pc) ls (x3 :: x2 :: x1 :: st) es :=
  z_callS (As := [x1, x2, x3]) E hM hC hst hR d rfl hrm hc hs (fun r es' h => by obtain ⟨v, rfl, hp⟩ := h; exact kk v es' hp)
theorem z_cV3R (E : En p s m args meth c G B nL cc own mn rt) {x1 x2 x3 : Value} {P : Value → zE → Prop} {i ci : Nat} {C : String} {T : u_T} {N : Nat} {fs : List Value} (hM : Tr l G B y bytes maxL ret d' mc ms [.ref (B + i), x1, x2, x3] es (pR P)) (hC : zC own idx y bytes maxL ret 3) (hin : Cond.instanceMethod y ∈ zzW ∧ Cond.selects C y y ∈ zzW) (hci : vwCl[ci]? = some (C, T, N)) (he : es[i]? = some (.inr (ci, fs))) (hR : d' + 1 ≤ R.frames ∧ 40 * d' + 40 ≤ R.locals) (d : decode cc pc = .ok (.invokevirtual idx, 3)) (hrm : (st.map fun v => v.category).sum ≤ 8) (hc : k + mc ≤ R.cells) (hs : n + ms ≤ R.slots) (kk : ∀ v es', P v es' → Zj p l e R s m args below meth c Q G B nL (k + mc) (n + ms) (pc + 3) ls (v :: st) es') : Zj p l e R s m args below meth c Q G B nL k n (pc) ls (x3 :: x2 :: x1 :: .ref (B + i) :: st) es :=
  z_callV (As := [x1, x2, x3]) E hM hC hin hci he hR d rfl hrm hc hs (fun r es' h => by obtain ⟨v, rfl, hp⟩ := h; exact kk v es' hp)
theorem z_cS3V (E : En p s m args meth c G B nL cc own mn rt) {x1 x2 x3 : Value} {P : zE → Prop} (hM : Tr l G B y bytes maxL ret d' mc ms [x1, x2, x3] es (pV P)) (hC : zC own idx y bytes maxL ret 3) (hst : Cond.static y ∈ zzW) (hR : d' + 1 ≤ R.frames ∧ 40 * d' + 40 ≤ R.locals) (d : decode cc pc = .ok (.invokestatic idx, 3)) (hrm : (st.map fun v => v.category).sum ≤ 8) (hc : k + mc ≤ R.cells) (hs : n + ms ≤ R.slots) (kk : ∀ es', P es' → Zj p l e R s m args below meth c Q G B nL (k + mc) (n + ms) (pc + 3) ls (st) es') : Zj p l e R s m args below meth c Q G B nL k n (pc) ls (x3 :: x2 :: x1 :: st) es :=
  z_callS (As := [x1, x2, x3]) E hM hC hst hR d rfl hrm hc hs (fun r es' h => by obtain ⟨rfl, hp⟩ := h; exact kk es' hp)
theorem z_cV3V (E : En p s m args meth c G B nL cc own mn rt) {x1 x2 x3 : Value} {P : zE → Prop} {i ci : Nat} {C : String} {T : u_T} {N : Nat} {fs : List Value} (hM : Tr l G B y bytes maxL ret d' mc ms [.ref (B + i), x1, x2, x3] es (pV P)) (hC : zC own idx y bytes maxL ret 3) (hin : Cond.instanceMethod y ∈ zzW ∧ Cond.selects C y y ∈ zzW) (hci : vwCl[ci]? = some (C, T, N)) (he : es[i]? = some (.inr (ci, fs))) (hR : d' + 1 ≤ R.frames ∧ 40 * d' + 40 ≤ R.locals) (d : decode cc pc = .ok (.invokevirtual idx, 3)) (hrm : (st.map fun v => v.category).sum ≤ 8) (hc : k + mc ≤ R.cells) (hs : n + ms ≤ R.slots) (kk : ∀ es', P es' → Zj p l e R s m args below meth c Q G B nL (k + mc) (n + ms) (pc + 3) ls (st) es') : Zj p l e R s m args below meth c Q G B nL k n (pc) ls (x3 :: x2 :: x1 :: .ref (B + i) :: st) es :=
  z_callV (As := [x1, x2, x3]) E hM hC hin hci he hR d rfl hrm hc hs (fun r es' h => by obtain ⟨rfl, hp⟩ := h; exact kk es' hp)
theorem z_cI3V (E : En p s m args meth c G B nL cc own mn rt) {x1 x2 x3 : Value} {P : zE → Prop} {a : Nat} (hM : Tr l G B y bytes maxL none d' mc ms [.ref a, x1, x2, x3] es (pV P)) (hC : zC own idx y bytes maxL none 3) (hin : y.name = "<init>" ∧ Cond.instanceMethod y ∈ zzW) (hR : d' + 1 ≤ R.frames ∧ 40 * d' + 40 ≤ R.locals) (d : decode cc pc = .ok (.invokespecial idx, 3)) (hrm : (st.map fun v => v.category).sum ≤ 8) (hc : k + mc ≤ R.cells) (hs : n + ms ≤ R.slots) (kk : ∀ es', P es' → Zj p l e R s m args below meth c Q G B nL (k + mc) (n + ms) (pc + 3) ls (st) es') : Zj p l e R s m args below meth c Q G B nL k n (pc) ls (x3 :: x2 :: x1 :: .ref a :: st) es :=
  z_callI (As := [x1, x2, x3]) E hM hC hin hR d rfl hrm hc hs (fun r es' h => by obtain ⟨rfl, hp⟩ := h; exact kk es' hp)
theorem z_cS4I (E : En p s m args meth c G B nL cc own mn rt) {x1 x2 x3 x4 : Value} {P : Int32 → zE → Prop} (hM : Tr l G B y bytes maxL ret d' mc ms [x1, x2, x3, x4] es (pI P)) (hC : zC own idx y bytes maxL ret 4) (hst : Cond.static y ∈ zzW) (hR : d' + 1 ≤ R.frames ∧ 40 * d' + 40 ≤ R.locals) (d : decode cc pc = .ok (.invokestatic idx, 3)) (hrm : (st.map fun v => v.category).sum ≤ 8) (hc : k + mc ≤ R.cells) (hs : n + ms ≤ R.slots) (kk : ∀ v es', P v es' → Zj p l e R s m args below meth c Q G B nL (k + mc) (n + ms) (pc + 3) ls (.int v :: st) es') : Zj p l e R s m args below meth c Q G B nL k n (pc) ls (x4 :: x3 :: x2 :: x1 :: st) es :=
  z_callS (As := [x1, x2, x3, x4]) E hM hC hst hR d rfl hrm hc hs (fun r es' h => by obtain ⟨v, rfl, hp⟩ := h; exact kk v es' hp)
theorem z_cV4I (E : En p s m args meth c G B nL cc own mn rt) {x1 x2 x3 x4 : Value} {P : Int32 → zE → Prop} {i ci : Nat} {C : String} {T : u_T} {N : Nat} {fs : List Value} (hM : Tr l G B y bytes maxL ret d' mc ms [.ref (B + i), x1, x2, x3, x4] es (pI P)) (hC : zC own idx y bytes maxL ret 4) (hin : Cond.instanceMethod y ∈ zzW ∧ Cond.selects C y y ∈ zzW) (hci : vwCl[ci]? = some (C, T, N)) (he : es[i]? = some (.inr (ci, fs))) (hR : d' + 1 ≤ R.frames ∧ 40 * d' + 40 ≤ R.locals) (d : decode cc pc = .ok (.invokevirtual idx, 3)) (hrm : (st.map fun v => v.category).sum ≤ 8) (hc : k + mc ≤ R.cells) (hs : n + ms ≤ R.slots) (kk : ∀ v es', P v es' → Zj p l e R s m args below meth c Q G B nL (k + mc) (n + ms) (pc + 3) ls (.int v :: st) es') : Zj p l e R s m args below meth c Q G B nL k n (pc) ls (x4 :: x3 :: x2 :: x1 :: .ref (B + i) :: st) es :=
  z_callV (As := [x1, x2, x3, x4]) E hM hC hin hci he hR d rfl hrm hc hs (fun r es' h => by obtain ⟨v, rfl, hp⟩ := h; exact kk v es' hp)
theorem z_cS4L (E : En p s m args meth c G B nL cc own mn rt) {x1 x2 x3 x4 : Value} {P : Int64 → zE → Prop} (hM : Tr l G B y bytes maxL ret d' mc ms [x1, x2, x3, x4] es (pL P)) (hC : zC own idx y bytes maxL ret 4) (hst : Cond.static y ∈ zzW) (hR : d' + 1 ≤ R.frames ∧ 40 * d' + 40 ≤ R.locals) (d : decode cc pc = .ok (.invokestatic idx, 3)) (hrm : (st.map fun v => v.category).sum ≤ 8) (hc : k + mc ≤ R.cells) (hs : n + ms ≤ R.slots) (kk : ∀ v es', P v es' → Zj p l e R s m args below meth c Q G B nL (k + mc) (n + ms) (pc + 3) ls (.long v :: st) es') : Zj p l e R s m args below meth c Q G B nL k n (pc) ls (x4 :: x3 :: x2 :: x1 :: st) es :=
  z_callS (As := [x1, x2, x3, x4]) E hM hC hst hR d rfl hrm hc hs (fun r es' h => by obtain ⟨v, rfl, hp⟩ := h; exact kk v es' hp)
theorem z_cV4L (E : En p s m args meth c G B nL cc own mn rt) {x1 x2 x3 x4 : Value} {P : Int64 → zE → Prop} {i ci : Nat} {C : String} {T : u_T} {N : Nat} {fs : List Value} (hM : Tr l G B y bytes maxL ret d' mc ms [.ref (B + i), x1, x2, x3, x4] es (pL P)) (hC : zC own idx y bytes maxL ret 4) (hin : Cond.instanceMethod y ∈ zzW ∧ Cond.selects C y y ∈ zzW) (hci : vwCl[ci]? = some (C, T, N)) (he : es[i]? = some (.inr (ci, fs))) (hR : d' + 1 ≤ R.frames ∧ 40 * d' + 40 ≤ R.locals) (d : decode cc pc = .ok (.invokevirtual idx, 3)) (hrm : (st.map fun v => v.category).sum ≤ 8) (hc : k + mc ≤ R.cells) (hs : n + ms ≤ R.slots) (kk : ∀ v es', P v es' → Zj p l e R s m args below meth c Q G B nL (k + mc) (n + ms) (pc + 3) ls (.long v :: st) es') : Zj p l e R s m args below meth c Q G B nL k n (pc) ls (x4 :: x3 :: x2 :: x1 :: .ref (B + i) :: st) es :=
  z_callV (As := [x1, x2, x3, x4]) E hM hC hin hci he hR d rfl hrm hc hs (fun r es' h => by obtain ⟨v, rfl, hp⟩ := h; exact kk v es' hp)
theorem z_cS4R (E : En p s m args meth c G B nL cc own mn rt) {x1 x2 x3 x4 : Value} {P : Value → zE → Prop} (hM : Tr l G B y bytes maxL ret d' mc ms [x1, x2, x3, x4] es (pR P)) (hC : zC own idx y bytes maxL ret 4) (hst : Cond.static y ∈ zzW) (hR : d' + 1 ≤ R.frames ∧ 40 * d' + 40 ≤ R.locals) (d : decode cc pc = .ok (.invokestatic idx, 3)) (hrm : (st.map fun v => v.category).sum ≤ 8) (hc : k + mc ≤ R.cells) (hs : n + ms ≤ R.slots) (kk : ∀ v es', P v es' → Zj p l e R s m args below meth c Q G B nL (k + mc) (n + ms) (pc + 3) ls (v :: st) es') : Zj p l e R s m args below meth c Q G B nL k n (pc) ls (x4 :: x3 :: x2 :: x1 :: st) es :=
  z_callS (As := [x1, x2, x3, x4]) E hM hC hst hR d rfl hrm hc hs (fun r es' h => by obtain ⟨v, rfl, hp⟩ := h; exact kk v es' hp)
theorem z_cV4R (E : En p s m args meth c G B nL cc own mn rt) {x1 x2 x3 x4 : Value} {P : Value → zE → Prop} {i ci : Nat} {C : String} {T : u_T} {N : Nat} {fs : List Value} (hM : Tr l G B y bytes maxL ret d' mc ms [.ref (B + i), x1, x2, x3, x4] es (pR P)) (hC : zC own idx y bytes maxL ret 4) (hin : Cond.instanceMethod y ∈ zzW ∧ Cond.selects C y y ∈ zzW) (hci : vwCl[ci]? = some (C, T, N)) (he : es[i]? = some (.inr (ci, fs))) (hR : d' + 1 ≤ R.frames ∧ 40 * d' + 40 ≤ R.locals) (d : decode cc pc = .ok (.invokevirtual idx, 3)) (hrm : (st.map fun v => v.category).sum ≤ 8) (hc : k + mc ≤ R.cells) (hs : n + ms ≤ R.slots) (kk : ∀ v es', P v es' → Zj p l e R s m args below meth c Q G B nL (k + mc) (n + ms) (pc + 3) ls (v :: st) es') : Zj p l e R s m args below meth c Q G B nL k n (pc) ls (x4 :: x3 :: x2 :: x1 :: .ref (B + i) :: st) es :=
  z_callV (As := [x1, x2, x3, x4]) E hM hC hin hci he hR d rfl hrm hc hs (fun r es' h => by obtain ⟨v, rfl, hp⟩ := h; exact kk v es' hp)
theorem z_cS4V (E : En p s m args meth c G B nL cc own mn rt) {x1 x2 x3 x4 : Value} {P : zE → Prop} (hM : Tr l G B y bytes maxL ret d' mc ms [x1, x2, x3, x4] es (pV P)) (hC : zC own idx y bytes maxL ret 4) (hst : Cond.static y ∈ zzW) (hR : d' + 1 ≤ R.frames ∧ 40 * d' + 40 ≤ R.locals) (d : decode cc pc = .ok (.invokestatic idx, 3)) (hrm : (st.map fun v => v.category).sum ≤ 8) (hc : k + mc ≤ R.cells) (hs : n + ms ≤ R.slots) (kk : ∀ es', P es' → Zj p l e R s m args below meth c Q G B nL (k + mc) (n + ms) (pc + 3) ls (st) es') : Zj p l e R s m args below meth c Q G B nL k n (pc) ls (x4 :: x3 :: x2 :: x1 :: st) es :=
  z_callS (As := [x1, x2, x3, x4]) E hM hC hst hR d rfl hrm hc hs (fun r es' h => by obtain ⟨rfl, hp⟩ := h; exact kk es' hp)
theorem z_cV4V (E : En p s m args meth c G B nL cc own mn rt) {x1 x2 x3 x4 : Value} {P : zE → Prop} {i ci : Nat} {C : String} {T : u_T} {N : Nat} {fs : List Value} (hM : Tr l G B y bytes maxL ret d' mc ms [.ref (B + i), x1, x2, x3, x4] es (pV P)) (hC : zC own idx y bytes maxL ret 4) (hin : Cond.instanceMethod y ∈ zzW ∧ Cond.selects C y y ∈ zzW) (hci : vwCl[ci]? = some (C, T, N)) (he : es[i]? = some (.inr (ci, fs))) (hR : d' + 1 ≤ R.frames ∧ 40 * d' + 40 ≤ R.locals) (d : decode cc pc = .ok (.invokevirtual idx, 3)) (hrm : (st.map fun v => v.category).sum ≤ 8) (hc : k + mc ≤ R.cells) (hs : n + ms ≤ R.slots) (kk : ∀ es', P es' → Zj p l e R s m args below meth c Q G B nL (k + mc) (n + ms) (pc + 3) ls (st) es') : Zj p l e R s m args below meth c Q G B nL k n (pc) ls (x4 :: x3 :: x2 :: x1 :: .ref (B + i) :: st) es :=
  z_callV (As := [x1, x2, x3, x4]) E hM hC hin hci he hR d rfl hrm hc hs (fun r es' h => by obtain ⟨rfl, hp⟩ := h; exact kk es' hp)
theorem z_cI4V (E : En p s m args meth c G B nL cc own mn rt) {x1 x2 x3 x4 : Value} {P : zE → Prop} {a : Nat} (hM : Tr l G B y bytes maxL none d' mc ms [.ref a, x1, x2, x3, x4] es (pV P)) (hC : zC own idx y bytes maxL none 4) (hin : y.name = "<init>" ∧ Cond.instanceMethod y ∈ zzW) (hR : d' + 1 ≤ R.frames ∧ 40 * d' + 40 ≤ R.locals) (d : decode cc pc = .ok (.invokespecial idx, 3)) (hrm : (st.map fun v => v.category).sum ≤ 8) (hc : k + mc ≤ R.cells) (hs : n + ms ≤ R.slots) (kk : ∀ es', P es' → Zj p l e R s m args below meth c Q G B nL (k + mc) (n + ms) (pc + 3) ls (st) es') : Zj p l e R s m args below meth c Q G B nL k n (pc) ls (x4 :: x3 :: x2 :: x1 :: .ref a :: st) es :=
  z_callI (As := [x1, x2, x3, x4]) E hM hC hin hR d rfl hrm hc hs (fun r es' h => by obtain ⟨rfl, hp⟩ := h; exact kk es' hp)
theorem z_cS5I (E : En p s m args meth c G B nL cc own mn rt) {x1 x2 x3 x4 x5 : Value} {P : Int32 → zE → Prop} (hM : Tr l G B y bytes maxL ret d' mc ms [x1, x2, x3, x4, x5] es (pI P)) (hC : zC own idx y bytes maxL ret 5) (hst : Cond.static y ∈ zzW) (hR : d' + 1 ≤ R.frames ∧ 40 * d' + 40 ≤ R.locals) (d : decode cc pc = .ok (.invokestatic idx, 3)) (hrm : (st.map fun v => v.category).sum ≤ 8) (hc : k + mc ≤ R.cells) (hs : n + ms ≤ R.slots) (kk : ∀ v es', P v es' → Zj p l e R s m args below meth c Q G B nL (k + mc) (n + ms) (pc + 3) ls (.int v :: st) es') : Zj p l e R s m args below meth c Q G B nL k n (pc) ls (x5 :: x4 :: x3 :: x2 :: x1 :: st) es :=
  z_callS (As := [x1, x2, x3, x4, x5]) E hM hC hst hR d rfl hrm hc hs (fun r es' h => by obtain ⟨v, rfl, hp⟩ := h; exact kk v es' hp)
theorem z_cV5I (E : En p s m args meth c G B nL cc own mn rt) {x1 x2 x3 x4 x5 : Value} {P : Int32 → zE → Prop} {i ci : Nat} {C : String} {T : u_T} {N : Nat} {fs : List Value} (hM : Tr l G B y bytes maxL ret d' mc ms [.ref (B + i), x1, x2, x3, x4, x5] es (pI P)) (hC : zC own idx y bytes maxL ret 5) (hin : Cond.instanceMethod y ∈ zzW ∧ Cond.selects C y y ∈ zzW) (hci : vwCl[ci]? = some (C, T, N)) (he : es[i]? = some (.inr (ci, fs))) (hR : d' + 1 ≤ R.frames ∧ 40 * d' + 40 ≤ R.locals) (d : decode cc pc = .ok (.invokevirtual idx, 3)) (hrm : (st.map fun v => v.category).sum ≤ 8) (hc : k + mc ≤ R.cells) (hs : n + ms ≤ R.slots) (kk : ∀ v es', P v es' → Zj p l e R s m args below meth c Q G B nL (k + mc) (n + ms) (pc + 3) ls (.int v :: st) es') : Zj p l e R s m args below meth c Q G B nL k n (pc) ls (x5 :: x4 :: x3 :: x2 :: x1 :: .ref (B + i) :: st) es :=
  z_callV (As := [x1, x2, x3, x4, x5]) E hM hC hin hci he hR d rfl hrm hc hs (fun r es' h => by obtain ⟨v, rfl, hp⟩ := h; exact kk v es' hp)
theorem z_cS5L (E : En p s m args meth c G B nL cc own mn rt) {x1 x2 x3 x4 x5 : Value} {P : Int64 → zE → Prop} (hM : Tr l G B y bytes maxL ret d' mc ms [x1, x2, x3, x4, x5] es (pL P)) (hC : zC own idx y bytes maxL ret 5) (hst : Cond.static y ∈ zzW) (hR : d' + 1 ≤ R.frames ∧ 40 * d' + 40 ≤ R.locals) (d : decode cc pc = .ok (.invokestatic idx, 3)) (hrm : (st.map fun v => v.category).sum ≤ 8) (hc : k + mc ≤ R.cells) (hs : n + ms ≤ R.slots) (kk : ∀ v es', P v es' → Zj p l e R s m args below meth c Q G B nL (k + mc) (n + ms) (pc + 3) ls (.long v :: st) es') : Zj p l e R s m args below meth c Q G B nL k n (pc) ls (x5 :: x4 :: x3 :: x2 :: x1 :: st) es :=
  z_callS (As := [x1, x2, x3, x4, x5]) E hM hC hst hR d rfl hrm hc hs (fun r es' h => by obtain ⟨v, rfl, hp⟩ := h; exact kk v es' hp)
theorem z_cV5L (E : En p s m args meth c G B nL cc own mn rt) {x1 x2 x3 x4 x5 : Value} {P : Int64 → zE → Prop} {i ci : Nat} {C : String} {T : u_T} {N : Nat} {fs : List Value} (hM : Tr l G B y bytes maxL ret d' mc ms [.ref (B + i), x1, x2, x3, x4, x5] es (pL P)) (hC : zC own idx y bytes maxL ret 5) (hin : Cond.instanceMethod y ∈ zzW ∧ Cond.selects C y y ∈ zzW) (hci : vwCl[ci]? = some (C, T, N)) (he : es[i]? = some (.inr (ci, fs))) (hR : d' + 1 ≤ R.frames ∧ 40 * d' + 40 ≤ R.locals) (d : decode cc pc = .ok (.invokevirtual idx, 3)) (hrm : (st.map fun v => v.category).sum ≤ 8) (hc : k + mc ≤ R.cells) (hs : n + ms ≤ R.slots) (kk : ∀ v es', P v es' → Zj p l e R s m args below meth c Q G B nL (k + mc) (n + ms) (pc + 3) ls (.long v :: st) es') : Zj p l e R s m args below meth c Q G B nL k n (pc) ls (x5 :: x4 :: x3 :: x2 :: x1 :: .ref (B + i) :: st) es :=
  z_callV (As := [x1, x2, x3, x4, x5]) E hM hC hin hci he hR d rfl hrm hc hs (fun r es' h => by obtain ⟨v, rfl, hp⟩ := h; exact kk v es' hp)
theorem z_cS5R (E : En p s m args meth c G B nL cc own mn rt) {x1 x2 x3 x4 x5 : Value} {P : Value → zE → Prop} (hM : Tr l G B y bytes maxL ret d' mc ms [x1, x2, x3, x4, x5] es (pR P)) (hC : zC own idx y bytes maxL ret 5) (hst : Cond.static y ∈ zzW) (hR : d' + 1 ≤ R.frames ∧ 40 * d' + 40 ≤ R.locals) (d : decode cc pc = .ok (.invokestatic idx, 3)) (hrm : (st.map fun v => v.category).sum ≤ 8) (hc : k + mc ≤ R.cells) (hs : n + ms ≤ R.slots) (kk : ∀ v es', P v es' → Zj p l e R s m args below meth c Q G B nL (k + mc) (n + ms) (pc + 3) ls (v :: st) es') : Zj p l e R s m args below meth c Q G B nL k n (pc) ls (x5 :: x4 :: x3 :: x2 :: x1 :: st) es :=
  z_callS (As := [x1, x2, x3, x4, x5]) E hM hC hst hR d rfl hrm hc hs (fun r es' h => by obtain ⟨v, rfl, hp⟩ := h; exact kk v es' hp)
theorem z_cV5R (E : En p s m args meth c G B nL cc own mn rt) {x1 x2 x3 x4 x5 : Value} {P : Value → zE → Prop} {i ci : Nat} {C : String} {T : u_T} {N : Nat} {fs : List Value} (hM : Tr l G B y bytes maxL ret d' mc ms [.ref (B + i), x1, x2, x3, x4, x5] es (pR P)) (hC : zC own idx y bytes maxL ret 5) (hin : Cond.instanceMethod y ∈ zzW ∧ Cond.selects C y y ∈ zzW) (hci : vwCl[ci]? = some (C, T, N)) (he : es[i]? = some (.inr (ci, fs))) (hR : d' + 1 ≤ R.frames ∧ 40 * d' + 40 ≤ R.locals) (d : decode cc pc = .ok (.invokevirtual idx, 3)) (hrm : (st.map fun v => v.category).sum ≤ 8) (hc : k + mc ≤ R.cells) (hs : n + ms ≤ R.slots) (kk : ∀ v es', P v es' → Zj p l e R s m args below meth c Q G B nL (k + mc) (n + ms) (pc + 3) ls (v :: st) es') : Zj p l e R s m args below meth c Q G B nL k n (pc) ls (x5 :: x4 :: x3 :: x2 :: x1 :: .ref (B + i) :: st) es :=
  z_callV (As := [x1, x2, x3, x4, x5]) E hM hC hin hci he hR d rfl hrm hc hs (fun r es' h => by obtain ⟨v, rfl, hp⟩ := h; exact kk v es' hp)
theorem z_cS5V (E : En p s m args meth c G B nL cc own mn rt) {x1 x2 x3 x4 x5 : Value} {P : zE → Prop} (hM : Tr l G B y bytes maxL ret d' mc ms [x1, x2, x3, x4, x5] es (pV P)) (hC : zC own idx y bytes maxL ret 5) (hst : Cond.static y ∈ zzW) (hR : d' + 1 ≤ R.frames ∧ 40 * d' + 40 ≤ R.locals) (d : decode cc pc = .ok (.invokestatic idx, 3)) (hrm : (st.map fun v => v.category).sum ≤ 8) (hc : k + mc ≤ R.cells) (hs : n + ms ≤ R.slots) (kk : ∀ es', P es' → Zj p l e R s m args below meth c Q G B nL (k + mc) (n + ms) (pc + 3) ls (st) es') : Zj p l e R s m args below meth c Q G B nL k n (pc) ls (x5 :: x4 :: x3 :: x2 :: x1 :: st) es :=
  z_callS (As := [x1, x2, x3, x4, x5]) E hM hC hst hR d rfl hrm hc hs (fun r es' h => by obtain ⟨rfl, hp⟩ := h; exact kk es' hp)
theorem z_cV5V (E : En p s m args meth c G B nL cc own mn rt) {x1 x2 x3 x4 x5 : Value} {P : zE → Prop} {i ci : Nat} {C : String} {T : u_T} {N : Nat} {fs : List Value} (hM : Tr l G B y bytes maxL ret d' mc ms [.ref (B + i), x1, x2, x3, x4, x5] es (pV P)) (hC : zC own idx y bytes maxL ret 5) (hin : Cond.instanceMethod y ∈ zzW ∧ Cond.selects C y y ∈ zzW) (hci : vwCl[ci]? = some (C, T, N)) (he : es[i]? = some (.inr (ci, fs))) (hR : d' + 1 ≤ R.frames ∧ 40 * d' + 40 ≤ R.locals) (d : decode cc pc = .ok (.invokevirtual idx, 3)) (hrm : (st.map fun v => v.category).sum ≤ 8) (hc : k + mc ≤ R.cells) (hs : n + ms ≤ R.slots) (kk : ∀ es', P es' → Zj p l e R s m args below meth c Q G B nL (k + mc) (n + ms) (pc + 3) ls (st) es') : Zj p l e R s m args below meth c Q G B nL k n (pc) ls (x5 :: x4 :: x3 :: x2 :: x1 :: .ref (B + i) :: st) es :=
  z_callV (As := [x1, x2, x3, x4, x5]) E hM hC hin hci he hR d rfl hrm hc hs (fun r es' h => by obtain ⟨rfl, hp⟩ := h; exact kk es' hp)
theorem z_cI5V (E : En p s m args meth c G B nL cc own mn rt) {x1 x2 x3 x4 x5 : Value} {P : zE → Prop} {a : Nat} (hM : Tr l G B y bytes maxL none d' mc ms [.ref a, x1, x2, x3, x4, x5] es (pV P)) (hC : zC own idx y bytes maxL none 5) (hin : y.name = "<init>" ∧ Cond.instanceMethod y ∈ zzW) (hR : d' + 1 ≤ R.frames ∧ 40 * d' + 40 ≤ R.locals) (d : decode cc pc = .ok (.invokespecial idx, 3)) (hrm : (st.map fun v => v.category).sum ≤ 8) (hc : k + mc ≤ R.cells) (hs : n + ms ≤ R.slots) (kk : ∀ es', P es' → Zj p l e R s m args below meth c Q G B nL (k + mc) (n + ms) (pc + 3) ls (st) es') : Zj p l e R s m args below meth c Q G B nL k n (pc) ls (x5 :: x4 :: x3 :: x2 :: x1 :: .ref a :: st) es :=
  z_callI (As := [x1, x2, x3, x4, x5]) E hM hC hin hR d rfl hrm hc hs (fun r es' h => by obtain ⟨rfl, hp⟩ := h; exact kk es' hp)
theorem z_cS6I (E : En p s m args meth c G B nL cc own mn rt) {x1 x2 x3 x4 x5 x6 : Value} {P : Int32 → zE → Prop} (hM : Tr l G B y bytes maxL ret d' mc ms [x1, x2, x3, x4, x5, x6] es (pI P)) (hC : zC own idx y bytes maxL ret 6) (hst : Cond.static y ∈ zzW) (hR : d' + 1 ≤ R.frames ∧ 40 * d' + 40 ≤ R.locals) (d : decode cc pc = .ok (.invokestatic idx, 3)) (hrm : (st.map fun v => v.category).sum ≤ 8) (hc : k + mc ≤ R.cells) (hs : n + ms ≤ R.slots) (kk : ∀ v es', P v es' → Zj p l e R s m args below meth c Q G B nL (k + mc) (n + ms) (pc + 3) ls (.int v :: st) es') : Zj p l e R s m args below meth c Q G B nL k n (pc) ls (x6 :: x5 :: x4 :: x3 :: x2 :: x1 :: st) es :=
  z_callS (As := [x1, x2, x3, x4, x5, x6]) E hM hC hst hR d rfl hrm hc hs (fun r es' h => by obtain ⟨v, rfl, hp⟩ := h; exact kk v es' hp)
theorem z_cV6I (E : En p s m args meth c G B nL cc own mn rt) {x1 x2 x3 x4 x5 x6 : Value} {P : Int32 → zE → Prop} {i ci : Nat} {C : String} {T : u_T} {N : Nat} {fs : List Value} (hM : Tr l G B y bytes maxL ret d' mc ms [.ref (B + i), x1, x2, x3, x4, x5, x6] es (pI P)) (hC : zC own idx y bytes maxL ret 6) (hin : Cond.instanceMethod y ∈ zzW ∧ Cond.selects C y y ∈ zzW) (hci : vwCl[ci]? = some (C, T, N)) (he : es[i]? = some (.inr (ci, fs))) (hR : d' + 1 ≤ R.frames ∧ 40 * d' + 40 ≤ R.locals) (d : decode cc pc = .ok (.invokevirtual idx, 3)) (hrm : (st.map fun v => v.category).sum ≤ 8) (hc : k + mc ≤ R.cells) (hs : n + ms ≤ R.slots) (kk : ∀ v es', P v es' → Zj p l e R s m args below meth c Q G B nL (k + mc) (n + ms) (pc + 3) ls (.int v :: st) es') : Zj p l e R s m args below meth c Q G B nL k n (pc) ls (x6 :: x5 :: x4 :: x3 :: x2 :: x1 :: .ref (B + i) :: st) es :=
  z_callV (As := [x1, x2, x3, x4, x5, x6]) E hM hC hin hci he hR d rfl hrm hc hs (fun r es' h => by obtain ⟨v, rfl, hp⟩ := h; exact kk v es' hp)
theorem z_cS6L (E : En p s m args meth c G B nL cc own mn rt) {x1 x2 x3 x4 x5 x6 : Value} {P : Int64 → zE → Prop} (hM : Tr l G B y bytes maxL ret d' mc ms [x1, x2, x3, x4, x5, x6] es (pL P)) (hC : zC own idx y bytes maxL ret 6) (hst : Cond.static y ∈ zzW) (hR : d' + 1 ≤ R.frames ∧ 40 * d' + 40 ≤ R.locals) (d : decode cc pc = .ok (.invokestatic idx, 3)) (hrm : (st.map fun v => v.category).sum ≤ 8) (hc : k + mc ≤ R.cells) (hs : n + ms ≤ R.slots) (kk : ∀ v es', P v es' → Zj p l e R s m args below meth c Q G B nL (k + mc) (n + ms) (pc + 3) ls (.long v :: st) es') : Zj p l e R s m args below meth c Q G B nL k n (pc) ls (x6 :: x5 :: x4 :: x3 :: x2 :: x1 :: st) es :=
  z_callS (As := [x1, x2, x3, x4, x5, x6]) E hM hC hst hR d rfl hrm hc hs (fun r es' h => by obtain ⟨v, rfl, hp⟩ := h; exact kk v es' hp)
theorem z_cV6L (E : En p s m args meth c G B nL cc own mn rt) {x1 x2 x3 x4 x5 x6 : Value} {P : Int64 → zE → Prop} {i ci : Nat} {C : String} {T : u_T} {N : Nat} {fs : List Value} (hM : Tr l G B y bytes maxL ret d' mc ms [.ref (B + i), x1, x2, x3, x4, x5, x6] es (pL P)) (hC : zC own idx y bytes maxL ret 6) (hin : Cond.instanceMethod y ∈ zzW ∧ Cond.selects C y y ∈ zzW) (hci : vwCl[ci]? = some (C, T, N)) (he : es[i]? = some (.inr (ci, fs))) (hR : d' + 1 ≤ R.frames ∧ 40 * d' + 40 ≤ R.locals) (d : decode cc pc = .ok (.invokevirtual idx, 3)) (hrm : (st.map fun v => v.category).sum ≤ 8) (hc : k + mc ≤ R.cells) (hs : n + ms ≤ R.slots) (kk : ∀ v es', P v es' → Zj p l e R s m args below meth c Q G B nL (k + mc) (n + ms) (pc + 3) ls (.long v :: st) es') : Zj p l e R s m args below meth c Q G B nL k n (pc) ls (x6 :: x5 :: x4 :: x3 :: x2 :: x1 :: .ref (B + i) :: st) es :=
  z_callV (As := [x1, x2, x3, x4, x5, x6]) E hM hC hin hci he hR d rfl hrm hc hs (fun r es' h => by obtain ⟨v, rfl, hp⟩ := h; exact kk v es' hp)
theorem z_cS6R (E : En p s m args meth c G B nL cc own mn rt) {x1 x2 x3 x4 x5 x6 : Value} {P : Value → zE → Prop} (hM : Tr l G B y bytes maxL ret d' mc ms [x1, x2, x3, x4, x5, x6] es (pR P)) (hC : zC own idx y bytes maxL ret 6) (hst : Cond.static y ∈ zzW) (hR : d' + 1 ≤ R.frames ∧ 40 * d' + 40 ≤ R.locals) (d : decode cc pc = .ok (.invokestatic idx, 3)) (hrm : (st.map fun v => v.category).sum ≤ 8) (hc : k + mc ≤ R.cells) (hs : n + ms ≤ R.slots) (kk : ∀ v es', P v es' → Zj p l e R s m args below meth c Q G B nL (k + mc) (n + ms) (pc + 3) ls (v :: st) es') : Zj p l e R s m args below meth c Q G B nL k n (pc) ls (x6 :: x5 :: x4 :: x3 :: x2 :: x1 :: st) es :=
  z_callS (As := [x1, x2, x3, x4, x5, x6]) E hM hC hst hR d rfl hrm hc hs (fun r es' h => by obtain ⟨v, rfl, hp⟩ := h; exact kk v es' hp)
theorem z_cV6R (E : En p s m args meth c G B nL cc own mn rt) {x1 x2 x3 x4 x5 x6 : Value} {P : Value → zE → Prop} {i ci : Nat} {C : String} {T : u_T} {N : Nat} {fs : List Value} (hM : Tr l G B y bytes maxL ret d' mc ms [.ref (B + i), x1, x2, x3, x4, x5, x6] es (pR P)) (hC : zC own idx y bytes maxL ret 6) (hin : Cond.instanceMethod y ∈ zzW ∧ Cond.selects C y y ∈ zzW) (hci : vwCl[ci]? = some (C, T, N)) (he : es[i]? = some (.inr (ci, fs))) (hR : d' + 1 ≤ R.frames ∧ 40 * d' + 40 ≤ R.locals) (d : decode cc pc = .ok (.invokevirtual idx, 3)) (hrm : (st.map fun v => v.category).sum ≤ 8) (hc : k + mc ≤ R.cells) (hs : n + ms ≤ R.slots) (kk : ∀ v es', P v es' → Zj p l e R s m args below meth c Q G B nL (k + mc) (n + ms) (pc + 3) ls (v :: st) es') : Zj p l e R s m args below meth c Q G B nL k n (pc) ls (x6 :: x5 :: x4 :: x3 :: x2 :: x1 :: .ref (B + i) :: st) es :=
  z_callV (As := [x1, x2, x3, x4, x5, x6]) E hM hC hin hci he hR d rfl hrm hc hs (fun r es' h => by obtain ⟨v, rfl, hp⟩ := h; exact kk v es' hp)
theorem z_cS6V (E : En p s m args meth c G B nL cc own mn rt) {x1 x2 x3 x4 x5 x6 : Value} {P : zE → Prop} (hM : Tr l G B y bytes maxL ret d' mc ms [x1, x2, x3, x4, x5, x6] es (pV P)) (hC : zC own idx y bytes maxL ret 6) (hst : Cond.static y ∈ zzW) (hR : d' + 1 ≤ R.frames ∧ 40 * d' + 40 ≤ R.locals) (d : decode cc pc = .ok (.invokestatic idx, 3)) (hrm : (st.map fun v => v.category).sum ≤ 8) (hc : k + mc ≤ R.cells) (hs : n + ms ≤ R.slots) (kk : ∀ es', P es' → Zj p l e R s m args below meth c Q G B nL (k + mc) (n + ms) (pc + 3) ls (st) es') : Zj p l e R s m args below meth c Q G B nL k n (pc) ls (x6 :: x5 :: x4 :: x3 :: x2 :: x1 :: st) es :=
  z_callS (As := [x1, x2, x3, x4, x5, x6]) E hM hC hst hR d rfl hrm hc hs (fun r es' h => by obtain ⟨rfl, hp⟩ := h; exact kk es' hp)
theorem z_cV6V (E : En p s m args meth c G B nL cc own mn rt) {x1 x2 x3 x4 x5 x6 : Value} {P : zE → Prop} {i ci : Nat} {C : String} {T : u_T} {N : Nat} {fs : List Value} (hM : Tr l G B y bytes maxL ret d' mc ms [.ref (B + i), x1, x2, x3, x4, x5, x6] es (pV P)) (hC : zC own idx y bytes maxL ret 6) (hin : Cond.instanceMethod y ∈ zzW ∧ Cond.selects C y y ∈ zzW) (hci : vwCl[ci]? = some (C, T, N)) (he : es[i]? = some (.inr (ci, fs))) (hR : d' + 1 ≤ R.frames ∧ 40 * d' + 40 ≤ R.locals) (d : decode cc pc = .ok (.invokevirtual idx, 3)) (hrm : (st.map fun v => v.category).sum ≤ 8) (hc : k + mc ≤ R.cells) (hs : n + ms ≤ R.slots) (kk : ∀ es', P es' → Zj p l e R s m args below meth c Q G B nL (k + mc) (n + ms) (pc + 3) ls (st) es') : Zj p l e R s m args below meth c Q G B nL k n (pc) ls (x6 :: x5 :: x4 :: x3 :: x2 :: x1 :: .ref (B + i) :: st) es :=
  z_callV (As := [x1, x2, x3, x4, x5, x6]) E hM hC hin hci he hR d rfl hrm hc hs (fun r es' h => by obtain ⟨rfl, hp⟩ := h; exact kk es' hp)
theorem z_cI6V (E : En p s m args meth c G B nL cc own mn rt) {x1 x2 x3 x4 x5 x6 : Value} {P : zE → Prop} {a : Nat} (hM : Tr l G B y bytes maxL none d' mc ms [.ref a, x1, x2, x3, x4, x5, x6] es (pV P)) (hC : zC own idx y bytes maxL none 6) (hin : y.name = "<init>" ∧ Cond.instanceMethod y ∈ zzW) (hR : d' + 1 ≤ R.frames ∧ 40 * d' + 40 ≤ R.locals) (d : decode cc pc = .ok (.invokespecial idx, 3)) (hrm : (st.map fun v => v.category).sum ≤ 8) (hc : k + mc ≤ R.cells) (hs : n + ms ≤ R.slots) (kk : ∀ es', P es' → Zj p l e R s m args below meth c Q G B nL (k + mc) (n + ms) (pc + 3) ls (st) es') : Zj p l e R s m args below meth c Q G B nL k n (pc) ls (x6 :: x5 :: x4 :: x3 :: x2 :: x1 :: .ref a :: st) es :=
  z_callI (As := [x1, x2, x3, x4, x5, x6]) E hM hC hin hR d rfl hrm hc hs (fun r es' h => by obtain ⟨rfl, hp⟩ := h; exact kk es' hp)
end ZC
end
section
theorem jf_T_9 : zF "StreamIds$Text" 9 1 0 := ⟨"StreamIds$Text", jT_T, 2, rfl, ju_T, by decide, Or.inl jw_30⟩
theorem jp_T_9 : zFp "StreamIds$Text" 9 1 0 (.array .byte) true := ⟨"StreamIds$Text", jT_T, 2, jt_T, rfl, ju_T, jt_T_ok, jn_T, by decide, Or.inl jw_30, rfl, by decide +kernel, fun _ => ⟨rfl, jw_30⟩⟩
theorem jf_T_15 : zF "StreamIds$Text" 15 1 1 := ⟨"StreamIds$Text", jT_T, 2, rfl, ju_T, by decide, Or.inl jw_31⟩
theorem jp_T_15 : zFp "StreamIds$Text" 15 1 1 (.int) false := ⟨"StreamIds$Text", jT_T, 2, jt_T, rfl, ju_T, jt_T_ok, jn_T, by decide, Or.inl jw_31, rfl, by decide +kernel, fun h => by cases h⟩
theorem jf_H_15 : zF "StreamIds$Shapes" 15 1 1 := ⟨"StreamIds$Text", jT_T, 2, rfl, ju_T, by decide, Or.inr ⟨"StreamIds", List.mem_of_getElem? (i := 0) (by decide +kernel)⟩⟩
theorem jf_S_48 : zF "StreamIds" 48 1 1 := ⟨"StreamIds$Text", jT_T, 2, rfl, ju_T, by decide, Or.inr ⟨"StreamIds", List.mem_of_getElem? (i := 1) (by decide +kernel)⟩⟩
theorem jp_S_48 : zFp "StreamIds" 48 1 1 (.int) false := ⟨"StreamIds$Text", jT_T, 2, jt_T, rfl, ju_T, jt_T_ok, jn_T, by decide, Or.inr ⟨"StreamIds", List.mem_of_getElem? (i := 1) (by decide +kernel)⟩, rfl, by decide +kernel, fun h => by cases h⟩
theorem jf_L_92 : zF "StreamIds$Layout" 92 1 1 := ⟨"StreamIds$Text", jT_T, 2, rfl, ju_T, by decide, Or.inr ⟨"StreamIds", List.mem_of_getElem? (i := 2) (by decide +kernel)⟩⟩
theorem jf_L_9 : zF "StreamIds$Layout" 9 2 0 := ⟨"StreamIds$Layout", jT_L, 3, rfl, ju_L, by decide, Or.inl jw_49⟩
theorem jp_L_9 : zFp "StreamIds$Layout" 9 2 0 (.array .byte) true := ⟨"StreamIds$Layout", jT_L, 3, jt_L, rfl, ju_L, jt_L_ok, jn_L, by decide, Or.inl jw_49, rfl, by decide +kernel, fun _ => ⟨rfl, jw_49⟩⟩
theorem jf_L_15 : zF "StreamIds$Layout" 15 2 1 := ⟨"StreamIds$Layout", jT_L, 3, rfl, ju_L, by decide, Or.inl jw_50⟩
theorem jp_L_15 : zFp "StreamIds$Layout" 15 2 1 (.int) false := ⟨"StreamIds$Layout", jT_L, 3, jt_L, rfl, ju_L, jt_L_ok, jn_L, by decide, Or.inl jw_50, rfl, by decide +kernel, fun h => by cases h⟩
theorem jf_G_27 : zF "StreamIds$Digest" 27 2 1 := ⟨"StreamIds$Layout", jT_L, 3, rfl, ju_L, by decide, Or.inr ⟨"StreamIds", List.mem_of_getElem? (i := 3) (by decide +kernel)⟩⟩
theorem jf_S_129 : zF "StreamIds" 129 2 1 := ⟨"StreamIds$Layout", jT_L, 3, rfl, ju_L, by decide, Or.inr ⟨"StreamIds", List.mem_of_getElem? (i := 4) (by decide +kernel)⟩⟩
theorem jf_L_19 : zF "StreamIds$Layout" 19 2 2 := ⟨"StreamIds$Layout", jT_L, 3, rfl, ju_L, by decide, Or.inl jw_53⟩
theorem jp_L_19 : zFp "StreamIds$Layout" 19 2 2 (.array .int) true := ⟨"StreamIds$Layout", jT_L, 3, jt_L, rfl, ju_L, jt_L_ok, jn_L, by decide, Or.inl jw_53, rfl, by decide +kernel, fun _ => ⟨rfl, jw_53⟩⟩
theorem jf_S_134 : zF "StreamIds" 134 2 2 := ⟨"StreamIds$Layout", jT_L, 3, rfl, ju_L, by decide, Or.inr ⟨"StreamIds", List.mem_of_getElem? (i := 5) (by decide +kernel)⟩⟩
theorem jf_G_9 : zF "StreamIds$Digest" 9 3 0 := ⟨"StreamIds$Digest", jT_G, 2, rfl, ju_G, by decide, Or.inl jw_69⟩
theorem jp_G_9 : zFp "StreamIds$Digest" 9 3 0 (.array .int) true := ⟨"StreamIds$Digest", jT_G, 2, jt_G, rfl, ju_G, jt_G_ok, jn_G, by decide, Or.inl jw_69, rfl, by decide +kernel, fun _ => ⟨rfl, jw_69⟩⟩
theorem jf_S_125 : zF "StreamIds" 125 3 0 := ⟨"StreamIds$Digest", jT_G, 2, rfl, ju_G, by decide, Or.inr ⟨"StreamIds", List.mem_of_getElem? (i := 6) (by decide +kernel)⟩⟩
theorem jf_G_15 : zF "StreamIds$Digest" 15 3 1 := ⟨"StreamIds$Digest", jT_G, 2, rfl, ju_G, by decide, Or.inl jw_71⟩
theorem jp_G_15 : zFp "StreamIds$Digest" 15 3 1 (.array .int) true := ⟨"StreamIds$Digest", jT_G, 2, jt_G, rfl, ju_G, jt_G_ok, jn_G, by decide, Or.inl jw_71, rfl, by decide +kernel, fun _ => ⟨rfl, jw_71⟩⟩
theorem jf_E_9 : zF "StreamIds$Entry" 9 6 0 := ⟨"StreamIds$Entry", jT_E, 4, rfl, ju_E, by decide, Or.inl jw_99⟩
theorem jp_E_9 : zFp "StreamIds$Entry" 9 6 0 (.int) false := ⟨"StreamIds$Entry", jT_E, 4, jt_E, rfl, ju_E, jt_E_ok, jn_E, by decide, Or.inl jw_99, rfl, by decide +kernel, fun h => by cases h⟩
theorem jf_R_34 : zF "StreamIds$Row" 34 6 0 := ⟨"StreamIds$Entry", jT_E, 4, rfl, ju_E, by decide, Or.inr ⟨"StreamIds", List.mem_of_getElem? (i := 7) (by decide +kernel)⟩⟩
theorem jf_L_61 : zF "StreamIds$Layout" 61 6 0 := ⟨"StreamIds$Entry", jT_E, 4, rfl, ju_E, by decide, Or.inr ⟨"StreamIds", List.mem_of_getElem? (i := 8) (by decide +kernel)⟩⟩
theorem jf_E_15 : zF "StreamIds$Entry" 15 6 1 := ⟨"StreamIds$Entry", jT_E, 4, rfl, ju_E, by decide, Or.inl jw_102⟩
theorem jp_E_15 : zFp "StreamIds$Entry" 15 6 1 (.int) false := ⟨"StreamIds$Entry", jT_E, 4, jt_E, rfl, ju_E, jt_E_ok, jn_E, by decide, Or.inl jw_102, rfl, by decide +kernel, fun h => by cases h⟩
theorem jf_L_75 : zF "StreamIds$Layout" 75 6 1 := ⟨"StreamIds$Entry", jT_E, 4, rfl, ju_E, by decide, Or.inr ⟨"StreamIds", List.mem_of_getElem? (i := 9) (by decide +kernel)⟩⟩
theorem jf_E_21 : zF "StreamIds$Entry" 21 6 2 := ⟨"StreamIds$Entry", jT_E, 4, rfl, ju_E, by decide, Or.inl jw_104⟩
theorem jp_E_21 : zFp "StreamIds$Entry" 21 6 2 (.object "StreamIds$Text") true := ⟨"StreamIds$Entry", jT_E, 4, jt_E, rfl, ju_E, jt_E_ok, jn_E, by decide, Or.inl jw_104, rfl, by decide +kernel, fun _ => ⟨rfl, jw_104⟩⟩
theorem jf_L_74 : zF "StreamIds$Layout" 74 6 2 := ⟨"StreamIds$Entry", jT_E, 4, rfl, ju_E, by decide, Or.inr ⟨"StreamIds", List.mem_of_getElem? (i := 10) (by decide +kernel)⟩⟩
theorem jf_E_25 : zF "StreamIds$Entry" 25 6 3 := ⟨"StreamIds$Entry", jT_E, 4, rfl, ju_E, by decide, Or.inl jw_106⟩
theorem jp_E_25 : zFp "StreamIds$Entry" 25 6 3 (.object "StreamIds$Text") true := ⟨"StreamIds$Entry", jT_E, 4, jt_E, rfl, ju_E, jt_E_ok, jn_E, by decide, Or.inl jw_106, rfl, by decide +kernel, fun _ => ⟨rfl, jw_106⟩⟩
theorem jf_L_78 : zF "StreamIds$Layout" 78 6 3 := ⟨"StreamIds$Entry", jT_E, 4, rfl, ju_E, by decide, Or.inr ⟨"StreamIds", List.mem_of_getElem? (i := 11) (by decide +kernel)⟩⟩
theorem jf_R_17 : zF "StreamIds$Row" 17 5 0 := ⟨"StreamIds$Row", jT_R, 2, rfl, ju_R, by decide, Or.inl jw_117⟩
theorem jp_R_17 : zFp "StreamIds$Row" 17 5 0 (.array (.object "StreamIds$Entry")) true := ⟨"StreamIds$Row", jT_R, 2, jt_R, rfl, ju_R, jt_R_ok, jn_R, by decide, Or.inl jw_117, rfl, by decide +kernel, fun _ => ⟨rfl, jw_117⟩⟩
theorem jf_L_57 : zF "StreamIds$Layout" 57 5 0 := ⟨"StreamIds$Row", jT_R, 2, rfl, ju_R, by decide, Or.inr ⟨"StreamIds", List.mem_of_getElem? (i := 12) (by decide +kernel)⟩⟩
theorem jf_R_9 : zF "StreamIds$Row" 9 5 1 := ⟨"StreamIds$Row", jT_R, 2, rfl, ju_R, by decide, Or.inl jw_119⟩
theorem jp_R_9 : zFp "StreamIds$Row" 9 5 1 (.int) false := ⟨"StreamIds$Row", jT_R, 2, jt_R, rfl, ju_R, jt_R_ok, jn_R, by decide, Or.inl jw_119, rfl, by decide +kernel, fun h => by cases h⟩
theorem jf_D_49 : zF "StreamIds$Declaration" 49 5 1 := ⟨"StreamIds$Row", jT_R, 2, rfl, ju_R, by decide, Or.inr ⟨"StreamIds", List.mem_of_getElem? (i := 13) (by decide +kernel)⟩⟩
theorem jp_D_49 : zFp "StreamIds$Declaration" 49 5 1 (.int) false := ⟨"StreamIds$Row", jT_R, 2, jt_R, rfl, ju_R, jt_R_ok, jn_R, by decide, Or.inr ⟨"StreamIds", List.mem_of_getElem? (i := 13) (by decide +kernel)⟩, rfl, by decide +kernel, fun h => by cases h⟩
theorem jf_L_52 : zF "StreamIds$Layout" 52 5 1 := ⟨"StreamIds$Row", jT_R, 2, rfl, ju_R, by decide, Or.inr ⟨"StreamIds", List.mem_of_getElem? (i := 14) (by decide +kernel)⟩⟩
theorem jf_S_137 : zF "StreamIds" 137 5 1 := ⟨"StreamIds$Row", jT_R, 2, rfl, ju_R, by decide, Or.inr ⟨"StreamIds", List.mem_of_getElem? (i := 15) (by decide +kernel)⟩⟩
theorem jf_D_9 : zF "StreamIds$Declaration" 9 4 0 := ⟨"StreamIds$Declaration", jT_D, 7, rfl, ju_D, by decide, Or.inl jw_128⟩
theorem jp_D_9 : zFp "StreamIds$Declaration" 9 4 0 (.boolean) false := ⟨"StreamIds$Declaration", jT_D, 7, jt_D, rfl, ju_D, jt_D_ok, jn_D, by decide, Or.inl jw_128, rfl, by decide +kernel, fun h => by cases h⟩
theorem jf_S_143 : zF "StreamIds" 143 4 0 := ⟨"StreamIds$Declaration", jT_D, 7, rfl, ju_D, by decide, Or.inr ⟨"StreamIds", List.mem_of_getElem? (i := 16) (by decide +kernel)⟩⟩
theorem jf_D_18 : zF "StreamIds$Declaration" 18 4 1 := ⟨"StreamIds$Declaration", jT_D, 7, rfl, ju_D, by decide, Or.inl jw_130⟩
theorem jp_D_18 : zFp "StreamIds$Declaration" 18 4 1 (.object "StreamIds$Text") true := ⟨"StreamIds$Declaration", jT_D, 7, jt_D, rfl, ju_D, jt_D_ok, jn_D, by decide, Or.inl jw_130, rfl, by decide +kernel, fun _ => ⟨rfl, jw_130⟩⟩
theorem jf_L_23 : zF "StreamIds$Layout" 23 4 1 := ⟨"StreamIds$Declaration", jT_D, 7, rfl, ju_D, by decide, Or.inr ⟨"StreamIds", List.mem_of_getElem? (i := 17) (by decide +kernel)⟩⟩
theorem jf_D_22 : zF "StreamIds$Declaration" 22 4 2 := ⟨"StreamIds$Declaration", jT_D, 7, rfl, ju_D, by decide, Or.inl jw_132⟩
theorem jp_D_22 : zFp "StreamIds$Declaration" 22 4 2 (.int) false := ⟨"StreamIds$Declaration", jT_D, 7, jt_D, rfl, ju_D, jt_D_ok, jn_D, by decide, Or.inl jw_132, rfl, by decide +kernel, fun h => by cases h⟩
theorem jf_S_110 : zF "StreamIds" 110 4 2 := ⟨"StreamIds$Declaration", jT_D, 7, rfl, ju_D, by decide, Or.inr ⟨"StreamIds", List.mem_of_getElem? (i := 18) (by decide +kernel)⟩⟩
theorem jf_D_31 : zF "StreamIds$Declaration" 31 4 3 := ⟨"StreamIds$Declaration", jT_D, 7, rfl, ju_D, by decide, Or.inl jw_134⟩
theorem jp_D_31 : zFp "StreamIds$Declaration" 31 4 3 (.object "StreamIds$Row") true := ⟨"StreamIds$Declaration", jT_D, 7, jt_D, rfl, ju_D, jt_D_ok, jn_D, by decide, Or.inl jw_134, rfl, by decide +kernel, fun _ => ⟨rfl, jw_134⟩⟩
theorem jf_L_41 : zF "StreamIds$Layout" 41 4 3 := ⟨"StreamIds$Declaration", jT_D, 7, rfl, ju_D, by decide, Or.inr ⟨"StreamIds", List.mem_of_getElem? (i := 19) (by decide +kernel)⟩⟩
theorem jf_S_73 : zF "StreamIds" 73 4 3 := ⟨"StreamIds$Declaration", jT_D, 7, rfl, ju_D, by decide, Or.inr ⟨"StreamIds", List.mem_of_getElem? (i := 20) (by decide +kernel)⟩⟩
theorem jf_D_35 : zF "StreamIds$Declaration" 35 4 4 := ⟨"StreamIds$Declaration", jT_D, 7, rfl, ju_D, by decide, Or.inl jw_137⟩
theorem jp_D_35 : zFp "StreamIds$Declaration" 35 4 4 (.object "StreamIds$Row") true := ⟨"StreamIds$Declaration", jT_D, 7, jt_D, rfl, ju_D, jt_D_ok, jn_D, by decide, Or.inl jw_137, rfl, by decide +kernel, fun _ => ⟨rfl, jw_137⟩⟩
theorem jf_L_49 : zF "StreamIds$Layout" 49 4 4 := ⟨"StreamIds$Declaration", jT_D, 7, rfl, ju_D, by decide, Or.inr ⟨"StreamIds", List.mem_of_getElem? (i := 21) (by decide +kernel)⟩⟩
theorem jf_S_93 : zF "StreamIds" 93 4 4 := ⟨"StreamIds$Declaration", jT_D, 7, rfl, ju_D, by decide, Or.inr ⟨"StreamIds", List.mem_of_getElem? (i := 22) (by decide +kernel)⟩⟩
theorem jf_D_38 : zF "StreamIds$Declaration" 38 4 5 := ⟨"StreamIds$Declaration", jT_D, 7, rfl, ju_D, by decide, Or.inl jw_140⟩
theorem jp_D_38 : zFp "StreamIds$Declaration" 38 4 5 (.boolean) false := ⟨"StreamIds$Declaration", jT_D, 7, jt_D, rfl, ju_D, jt_D_ok, jn_D, by decide, Or.inl jw_140, rfl, by decide +kernel, fun h => by cases h⟩
theorem jf_S_100 : zF "StreamIds" 100 4 5 := ⟨"StreamIds$Declaration", jT_D, 7, rfl, ju_D, by decide, Or.inr ⟨"StreamIds", List.mem_of_getElem? (i := 23) (by decide +kernel)⟩⟩
theorem jp_S_100 : zFp "StreamIds" 100 4 5 (.boolean) false := ⟨"StreamIds$Declaration", jT_D, 7, jt_D, rfl, ju_D, jt_D_ok, jn_D, by decide, Or.inr ⟨"StreamIds", List.mem_of_getElem? (i := 23) (by decide +kernel)⟩, rfl, by decide +kernel, fun h => by cases h⟩
theorem jf_D_41 : zF "StreamIds$Declaration" 41 4 6 := ⟨"StreamIds$Declaration", jT_D, 7, rfl, ju_D, by decide, Or.inl jw_142⟩
theorem jp_D_41 : zFp "StreamIds$Declaration" 41 4 6 (.long) false := ⟨"StreamIds$Declaration", jT_D, 7, jt_D, rfl, ju_D, jt_D_ok, jn_D, by decide, Or.inl jw_142, rfl, by decide +kernel, fun h => by cases h⟩
theorem jf_S_104 : zF "StreamIds" 104 4 6 := ⟨"StreamIds$Declaration", jT_D, 7, rfl, ju_D, by decide, Or.inr ⟨"StreamIds", List.mem_of_getElem? (i := 24) (by decide +kernel)⟩⟩
theorem jp_S_104 : zFp "StreamIds" 104 4 6 (.long) false := ⟨"StreamIds$Declaration", jT_D, 7, jt_D, rfl, ju_D, jt_D_ok, jn_D, by decide, Or.inr ⟨"StreamIds", List.mem_of_getElem? (i := 24) (by decide +kernel)⟩, rfl, by decide +kernel, fun h => by cases h⟩
theorem jf_S_12 : zF "StreamIds" 12 0 0 := ⟨"StreamIds", jT_S, 5, rfl, ju_S, by decide, Or.inl jw_159⟩
theorem jp_S_12 : zFp "StreamIds" 12 0 0 (.object "StreamIds$Text") true := ⟨"StreamIds", jT_S, 5, jt_S, rfl, ju_S, jt_S_ok, jn_S, by decide, Or.inl jw_159, rfl, by decide +kernel, fun _ => ⟨rfl, jw_159⟩⟩
theorem jf_S_16 : zF "StreamIds" 16 0 1 := ⟨"StreamIds", jT_S, 5, rfl, ju_S, by decide, Or.inl jw_160⟩
theorem jp_S_16 : zFp "StreamIds" 16 0 1 (.object "StreamIds$Text") true := ⟨"StreamIds", jT_S, 5, jt_S, rfl, ju_S, jt_S_ok, jn_S, by decide, Or.inl jw_160, rfl, by decide +kernel, fun _ => ⟨rfl, jw_160⟩⟩
theorem jf_S_21 : zF "StreamIds" 21 0 2 := ⟨"StreamIds", jT_S, 5, rfl, ju_S, by decide, Or.inl jw_161⟩
theorem jp_S_21 : zFp "StreamIds" 21 0 2 (.array (.object "StreamIds$Declaration")) true := ⟨"StreamIds", jT_S, 5, jt_S, rfl, ju_S, jt_S_ok, jn_S, by decide, Or.inl jw_161, rfl, by decide +kernel, fun _ => ⟨rfl, jw_161⟩⟩
theorem jf_S_28 : zF "StreamIds" 28 0 3 := ⟨"StreamIds", jT_S, 5, rfl, ju_S, by decide, Or.inl jw_162⟩
theorem jp_S_28 : zFp "StreamIds" 28 0 3 (.object "StreamIds$Layout") true := ⟨"StreamIds", jT_S, 5, jt_S, rfl, ju_S, jt_S_ok, jn_S, by decide, Or.inl jw_162, rfl, by decide +kernel, fun _ => ⟨rfl, jw_162⟩⟩
theorem jf_S_35 : zF "StreamIds" 35 0 4 := ⟨"StreamIds", jT_S, 5, rfl, ju_S, by decide, Or.inl jw_163⟩
theorem jp_S_35 : zFp "StreamIds" 35 0 4 (.object "StreamIds$Digest") true := ⟨"StreamIds", jT_S, 5, jt_S, rfl, ju_S, jt_S_ok, jn_S, by decide, Or.inl jw_163, rfl, by decide +kernel, fun _ => ⟨rfl, jw_163⟩⟩
theorem jf_M_7 : zF "StreamIdsModel" 7 7 0 := ⟨"StreamIdsModel", jT_M, 17, rfl, ju_M, by decide, Or.inl jw_481⟩
theorem jp_M_7 : zFp "StreamIdsModel" 7 7 0 (.array .int) true := ⟨"StreamIdsModel", jT_M, 17, jt_M, rfl, ju_M, jt_M_ok, jn_M, by decide, Or.inl jw_481, rfl, by decide +kernel, fun _ => ⟨rfl, jw_481⟩⟩
theorem jf_M_13 : zF "StreamIdsModel" 13 7 1 := ⟨"StreamIdsModel", jT_M, 17, rfl, ju_M, by decide, Or.inl jw_482⟩
theorem jp_M_13 : zFp "StreamIdsModel" 13 7 1 (.array .int) true := ⟨"StreamIdsModel", jT_M, 17, jt_M, rfl, ju_M, jt_M_ok, jn_M, by decide, Or.inl jw_482, rfl, by decide +kernel, fun _ => ⟨rfl, jw_482⟩⟩
theorem jf_M_16 : zF "StreamIdsModel" 16 7 2 := ⟨"StreamIdsModel", jT_M, 17, rfl, ju_M, by decide, Or.inl jw_483⟩
theorem jp_M_16 : zFp "StreamIdsModel" 16 7 2 (.array .boolean) true := ⟨"StreamIdsModel", jT_M, 17, jt_M, rfl, ju_M, jt_M_ok, jn_M, by decide, Or.inl jw_483, rfl, by decide +kernel, fun _ => ⟨rfl, jw_483⟩⟩
theorem jf_M_20 : zF "StreamIdsModel" 20 7 3 := ⟨"StreamIdsModel", jT_M, 17, rfl, ju_M, by decide, Or.inl jw_484⟩
theorem jp_M_20 : zFp "StreamIdsModel" 20 7 3 (.array .int) true := ⟨"StreamIdsModel", jT_M, 17, jt_M, rfl, ju_M, jt_M_ok, jn_M, by decide, Or.inl jw_484, rfl, by decide +kernel, fun _ => ⟨rfl, jw_484⟩⟩
theorem jf_M_23 : zF "StreamIdsModel" 23 7 4 := ⟨"StreamIdsModel", jT_M, 17, rfl, ju_M, by decide, Or.inl jw_485⟩
theorem jp_M_23 : zFp "StreamIdsModel" 23 7 4 (.array .int) true := ⟨"StreamIdsModel", jT_M, 17, jt_M, rfl, ju_M, jt_M_ok, jn_M, by decide, Or.inl jw_485, rfl, by decide +kernel, fun _ => ⟨rfl, jw_485⟩⟩
theorem jf_M_26 : zF "StreamIdsModel" 26 7 5 := ⟨"StreamIdsModel", jT_M, 17, rfl, ju_M, by decide, Or.inl jw_486⟩
theorem jp_M_26 : zFp "StreamIdsModel" 26 7 5 (.array .int) true := ⟨"StreamIdsModel", jT_M, 17, jt_M, rfl, ju_M, jt_M_ok, jn_M, by decide, Or.inl jw_486, rfl, by decide +kernel, fun _ => ⟨rfl, jw_486⟩⟩
theorem jf_M_29 : zF "StreamIdsModel" 29 7 6 := ⟨"StreamIdsModel", jT_M, 17, rfl, ju_M, by decide, Or.inl jw_487⟩
theorem jp_M_29 : zFp "StreamIdsModel" 29 7 6 (.array .boolean) true := ⟨"StreamIdsModel", jT_M, 17, jt_M, rfl, ju_M, jt_M_ok, jn_M, by decide, Or.inl jw_487, rfl, by decide +kernel, fun _ => ⟨rfl, jw_487⟩⟩
theorem jf_M_32 : zF "StreamIdsModel" 32 7 7 := ⟨"StreamIdsModel", jT_M, 17, rfl, ju_M, by decide, Or.inl jw_488⟩
theorem jp_M_32 : zFp "StreamIdsModel" 32 7 7 (.array .long) true := ⟨"StreamIdsModel", jT_M, 17, jt_M, rfl, ju_M, jt_M_ok, jn_M, by decide, Or.inl jw_488, rfl, by decide +kernel, fun _ => ⟨rfl, jw_488⟩⟩
theorem jf_M_36 : zF "StreamIdsModel" 36 7 8 := ⟨"StreamIdsModel", jT_M, 17, rfl, ju_M, by decide, Or.inl jw_489⟩
theorem jp_M_36 : zFp "StreamIdsModel" 36 7 8 (.array .int) true := ⟨"StreamIdsModel", jT_M, 17, jt_M, rfl, ju_M, jt_M_ok, jn_M, by decide, Or.inl jw_489, rfl, by decide +kernel, fun _ => ⟨rfl, jw_489⟩⟩
theorem jf_M_39 : zF "StreamIdsModel" 39 7 9 := ⟨"StreamIdsModel", jT_M, 17, rfl, ju_M, by decide, Or.inl jw_490⟩
theorem jp_M_39 : zFp "StreamIdsModel" 39 7 9 (.array .int) true := ⟨"StreamIdsModel", jT_M, 17, jt_M, rfl, ju_M, jt_M_ok, jn_M, by decide, Or.inl jw_490, rfl, by decide +kernel, fun _ => ⟨rfl, jw_490⟩⟩
theorem jf_M_42 : zF "StreamIdsModel" 42 7 10 := ⟨"StreamIdsModel", jT_M, 17, rfl, ju_M, by decide, Or.inl jw_491⟩
theorem jp_M_42 : zFp "StreamIdsModel" 42 7 10 (.array .int) true := ⟨"StreamIdsModel", jT_M, 17, jt_M, rfl, ju_M, jt_M_ok, jn_M, by decide, Or.inl jw_491, rfl, by decide +kernel, fun _ => ⟨rfl, jw_491⟩⟩
theorem jf_M_92 : zF "StreamIdsModel" 92 7 11 := ⟨"StreamIdsModel", jT_M, 17, rfl, ju_M, by decide, Or.inl jw_492⟩
theorem jp_M_92 : zFp "StreamIdsModel" 92 7 11 (.int) false := ⟨"StreamIdsModel", jT_M, 17, jt_M, rfl, ju_M, jt_M_ok, jn_M, by decide, Or.inl jw_492, rfl, by decide +kernel, fun h => by cases h⟩
theorem jf_M_45 : zF "StreamIdsModel" 45 7 12 := ⟨"StreamIdsModel", jT_M, 17, rfl, ju_M, by decide, Or.inl jw_493⟩
theorem jp_M_45 : zFp "StreamIdsModel" 45 7 12 (.array .int) true := ⟨"StreamIdsModel", jT_M, 17, jt_M, rfl, ju_M, jt_M_ok, jn_M, by decide, Or.inl jw_493, rfl, by decide +kernel, fun _ => ⟨rfl, jw_493⟩⟩
theorem jf_M_48 : zF "StreamIdsModel" 48 7 13 := ⟨"StreamIdsModel", jT_M, 17, rfl, ju_M, by decide, Or.inl jw_494⟩
theorem jp_M_48 : zFp "StreamIdsModel" 48 7 13 (.array .int) true := ⟨"StreamIdsModel", jT_M, 17, jt_M, rfl, ju_M, jt_M_ok, jn_M, by decide, Or.inl jw_494, rfl, by decide +kernel, fun _ => ⟨rfl, jw_494⟩⟩
theorem jf_M_51 : zF "StreamIdsModel" 51 7 14 := ⟨"StreamIdsModel", jT_M, 17, rfl, ju_M, by decide, Or.inl jw_495⟩
theorem jp_M_51 : zFp "StreamIdsModel" 51 7 14 (.array .int) true := ⟨"StreamIdsModel", jT_M, 17, jt_M, rfl, ju_M, jt_M_ok, jn_M, by decide, Or.inl jw_495, rfl, by decide +kernel, fun _ => ⟨rfl, jw_495⟩⟩
theorem jf_M_62 : zF "StreamIdsModel" 62 7 15 := ⟨"StreamIdsModel", jT_M, 17, rfl, ju_M, by decide, Or.inl jw_496⟩
theorem jp_M_62 : zFp "StreamIdsModel" 62 7 15 (.int) false := ⟨"StreamIdsModel", jT_M, 17, jt_M, rfl, ju_M, jt_M_ok, jn_M, by decide, Or.inl jw_496, rfl, by decide +kernel, fun h => by cases h⟩
theorem jf_M_58 : zF "StreamIdsModel" 58 7 16 := ⟨"StreamIdsModel", jT_M, 17, rfl, ju_M, by decide, Or.inl jw_497⟩
theorem jp_M_58 : zFp "StreamIdsModel" 58 7 16 (.int) false := ⟨"StreamIdsModel", jT_M, 17, jt_M, rfl, ju_M, jt_M_ok, jn_M, by decide, Or.inl jw_497, rfl, by decide +kernel, fun h => by cases h⟩
theorem jc_W_9 : zC "StreamIdsLaw" 9 jy_S_init jb_S_init 2 none 0 := ⟨Or.inl jw_18, jw_20, jw_1, ⟨by decide +kernel, by decide +kernel, by decide +kernel⟩, by decide⟩
theorem jc_S_11 : zC "StreamIds" 11 jy_T_init jb_T_init 1 none 0 := ⟨Or.inr ⟨"StreamIds", List.mem_of_getElem? (i := 0) (by decide +kernel)⟩, jw_28, jw_2, ⟨by decide +kernel, by decide +kernel, by decide +kernel⟩, by decide⟩
theorem jc_S_27 : zC "StreamIds" 27 jy_L_init jb_L_init 1 none 0 := ⟨Or.inr ⟨"StreamIds", List.mem_of_getElem? (i := 1) (by decide +kernel)⟩, jw_47, jw_3, ⟨by decide +kernel, by decide +kernel, by decide +kernel⟩, by decide⟩
theorem jc_S_34 : zC "StreamIds" 34 jy_G_init jb_G_init 1 none 0 := ⟨Or.inr ⟨"StreamIds", List.mem_of_getElem? (i := 2) (by decide +kernel)⟩, jw_67, jw_4, ⟨by decide +kernel, by decide +kernel, by decide +kernel⟩, by decide⟩
theorem jc_S_39 : zC "StreamIds" 39 jy_D_init jb_D_init 1 none 0 := ⟨Or.inr ⟨"StreamIds", List.mem_of_getElem? (i := 3) (by decide +kernel)⟩, jw_80, jw_5, ⟨by decide +kernel, by decide +kernel, by decide +kernel⟩, by decide⟩
theorem jc_D_17 : zC "StreamIds$Declaration" 17 jy_T_init jb_T_init 1 none 0 := ⟨Or.inr ⟨"StreamIds", List.mem_of_getElem? (i := 4) (by decide +kernel)⟩, jw_28, jw_2, ⟨by decide +kernel, by decide +kernel, by decide +kernel⟩, by decide⟩
theorem jc_D_28 : zC "StreamIds$Declaration" 28 jy_R_init jb_R_init 3 none 1 := ⟨Or.inl jw_86, jw_88, jw_6, ⟨by decide +kernel, by decide +kernel, by decide +kernel⟩, by decide⟩
theorem jc_R_21 : zC "StreamIds$Row" 21 jy_E_init jb_E_init 1 none 0 := ⟨Or.inr ⟨"StreamIds", List.mem_of_getElem? (i := 5) (by decide +kernel)⟩, jw_95, jw_7, ⟨by decide +kernel, by decide +kernel, by decide +kernel⟩, by decide⟩
theorem jc_E_20 : zC "StreamIds$Entry" 20 jy_T_init jb_T_init 1 none 0 := ⟨Or.inr ⟨"StreamIds", List.mem_of_getElem? (i := 6) (by decide +kernel)⟩, jw_28, jw_2, ⟨by decide +kernel, by decide +kernel, by decide +kernel⟩, by decide⟩
theorem jc_W_15 : zC "StreamIdsLaw" 15 jy_S_type jb_S_type 7 (some .int) 2 := ⟨Or.inl jw_175, jw_178, jw_1, ⟨by decide +kernel, by decide +kernel, by decide +kernel⟩, by decide⟩
theorem jc_S_40 : zC "StreamIds" 40 jy_S_bufferOf jb_S_bufferOf 2 (some (.object "StreamIds$Text")) 1 := ⟨Or.inl jw_179, jw_182, jw_1, ⟨by decide +kernel, by decide +kernel, by decide +kernel⟩, by decide⟩
theorem jc_S_44 : zC "StreamIds" 44 jy_S_areSigns jb_S_areSigns 4 (some .boolean) 1 := ⟨Or.inl jw_183, jw_185, jw_1, ⟨by decide +kernel, by decide +kernel, by decide +kernel⟩, by decide⟩
theorem jc_S_56 : zC "StreamIds" 56 jy_S_byteOf jb_S_byteOf 3 (some .int) 2 := ⟨Or.inl jw_186, jw_188, jw_1, ⟨by decide +kernel, by decide +kernel, by decide +kernel⟩, by decide⟩
theorem jc_S_52 : zC "StreamIds" 52 jy_S_signsIn jb_S_signsIn 4 (some .int) 1 := ⟨Or.inl jw_189, jw_191, jw_1, ⟨by decide +kernel, by decide +kernel, by decide +kernel⟩, by decide⟩
theorem jc_S_60 : zC "StreamIds" 60 jy_T_append jb_T_append 2 none 1 := ⟨Or.inl jw_192, jw_195, jw_2, ⟨by decide +kernel, by decide +kernel, by decide +kernel⟩, by decide⟩
theorem jc_W_20 : zC "StreamIdsLaw" 20 jy_S_clear jb_S_clear 4 (some .int) 1 := ⟨Or.inl jw_196, jw_199, jw_1, ⟨by decide +kernel, by decide +kernel, by decide +kernel⟩, by decide⟩
theorem jc_W_25 : zC "StreamIdsLaw" 25 jy_S_define jb_S_define 3 (some .int) 2 := ⟨Or.inl jw_200, jw_203, jw_1, ⟨by decide +kernel, by decide +kernel, by decide +kernel⟩, by decide⟩
theorem jc_S_65 : zC "StreamIds" 65 jy_D_begin jb_D_begin 3 none 2 := ⟨Or.inl jw_205, jw_208, jw_5, ⟨by decide +kernel, by decide +kernel, by decide +kernel⟩, by decide⟩
theorem jc_D_45 : zC "StreamIds$Declaration" 45 jy_T_become jb_T_become 2 none 1 := ⟨Or.inl jw_209, jw_212, jw_2, ⟨by decide +kernel, by decide +kernel, by decide +kernel⟩, by decide⟩
theorem jc_W_30 : zC "StreamIdsLaw" 30 jy_S_face jb_S_face 3 (some .int) 1 := ⟨Or.inl jw_216, jw_219, jw_1, ⟨by decide +kernel, by decide +kernel, by decide +kernel⟩, by decide⟩
theorem jc_S_69 : zC "StreamIds" 69 jy_S_declarationOf jb_S_declarationOf 2 (some (.object "StreamIds$Declaration")) 1 := ⟨Or.inl jw_220, jw_223, jw_1, ⟨by decide +kernel, by decide +kernel, by decide +kernel⟩, by decide⟩
theorem jc_S_77 : zC "StreamIds" 77 jy_R_enter jb_R_enter 8 (some .int) 4 := ⟨Or.inl jw_224, jw_227, jw_6, ⟨by decide +kernel, by decide +kernel, by decide +kernel⟩, by decide⟩
theorem jc_R_22 : zC "StreamIds$Row" 22 jy_R_placeOf jb_R_placeOf 5 (some .int) 3 := ⟨Or.inl jw_228, jw_231, jw_6, ⟨by decide +kernel, by decide +kernel, by decide +kernel⟩, by decide⟩
theorem jc_R_37 : zC "StreamIds$Row" 37 jy_E_compareWith jb_E_compareWith 5 (some .int) 3 := ⟨Or.inl jw_232, jw_235, jw_7, ⟨by decide +kernel, by decide +kernel, by decide +kernel⟩, by decide⟩
theorem jc_E_32 : zC "StreamIds$Entry" 32 jy_T_compareWith jb_T_compareWith 4 (some .int) 1 := ⟨Or.inl jw_236, jw_239, jw_2, ⟨by decide +kernel, by decide +kernel, by decide +kernel⟩, by decide⟩
theorem jc_T_25 : zC "StreamIds$Text" 25 jy_A_min jb_A_min 2 (some .int) 2 := ⟨Or.inl jw_240, jw_242, jw_10, ⟨by decide +kernel, by decide +kernel, by decide +kernel⟩, by decide⟩
theorem jc_R_26 : zC "StreamIds$Row" 26 jy_R_isAt jb_R_isAt 5 (some .boolean) 4 := ⟨Or.inl jw_243, jw_246, jw_6, ⟨by decide +kernel, by decide +kernel, by decide +kernel⟩, by decide⟩
theorem jc_R_30 : zC "StreamIds$Row" 30 jy_E_become jb_E_become 5 none 4 := ⟨Or.inl jw_247, jw_250, jw_7, ⟨by decide +kernel, by decide +kernel, by decide +kernel⟩, by decide⟩
theorem jc_E_28 : zC "StreamIds$Entry" 28 jy_T_become jb_T_become 2 none 1 := ⟨Or.inl jw_251, jw_212, jw_2, ⟨by decide +kernel, by decide +kernel, by decide +kernel⟩, by decide⟩
theorem jc_W_34 : zC "StreamIdsLaw" 34 jy_S_member jb_S_member 5 (some .int) 3 := ⟨Or.inl jw_252, jw_255, jw_1, ⟨by decide +kernel, by decide +kernel, by decide +kernel⟩, by decide⟩
theorem jc_S_83 : zC "StreamIds" 83 jy_S_isMemberKind jb_S_isMemberKind 1 (some .boolean) 1 := ⟨Or.inl jw_256, jw_258, jw_1, ⟨by decide +kernel, by decide +kernel, by decide +kernel⟩, by decide⟩
theorem jc_S_87 : zC "StreamIds" 87 jy_S_isNameFor jb_S_isNameFor 2 (some .boolean) 1 := ⟨Or.inl jw_259, jw_262, jw_1, ⟨by decide +kernel, by decide +kernel, by decide +kernel⟩, by decide⟩
theorem jc_S_90 : zC "StreamIds" 90 jy_S_isShapeFor jb_S_isShapeFor 2 (some .boolean) 1 := ⟨Or.inl jw_263, jw_266, jw_1, ⟨by decide +kernel, by decide +kernel, by decide +kernel⟩, by decide⟩
theorem jc_S_146 : zC "StreamIds" 146 jy_H_isType jb_H_isType 1 (some .boolean) 1 := ⟨Or.inl jw_267, jw_269, jw_11, ⟨by decide +kernel, by decide +kernel, by decide +kernel⟩, by decide⟩
theorem jc_H_9 : zC "StreamIds$Shapes" 9 jy_H_endOfType jb_H_endOfType 3 (some .int) 2 := ⟨Or.inl jw_270, jw_272, jw_11, ⟨by decide +kernel, by decide +kernel, by decide +kernel⟩, by decide⟩
theorem jc_H_21 : zC "StreamIds$Shapes" 21 jy_T_at jb_T_at 2 (some .int) 1 := ⟨Or.inl jw_273, jw_276, jw_2, ⟨by decide +kernel, by decide +kernel, by decide +kernel⟩, by decide⟩
theorem jc_H_28 : zC "StreamIds$Shapes" 28 jy_H_endOfName jb_H_endOfName 3 (some .int) 2 := ⟨Or.inl jw_277, jw_279, jw_11, ⟨by decide +kernel, by decide +kernel, by decide +kernel⟩, by decide⟩
theorem jc_H_35 : zC "StreamIds$Shapes" 35 jy_H_mayStandInName jb_H_mayStandInName 1 (some .boolean) 1 := ⟨Or.inl jw_280, jw_282, jw_11, ⟨by decide +kernel, by decide +kernel, by decide +kernel⟩, by decide⟩
theorem jc_H_31 : zC "StreamIds$Shapes" 31 jy_H_isSimple jb_H_isSimple 1 (some .boolean) 1 := ⟨Or.inl jw_283, jw_285, jw_11, ⟨by decide +kernel, by decide +kernel, by decide +kernel⟩, by decide⟩
theorem jc_S_152 : zC "StreamIds" 152 jy_H_isMethod jb_H_isMethod 4 (some .boolean) 1 := ⟨Or.inl jw_286, jw_288, jw_11, ⟨by decide +kernel, by decide +kernel, by decide +kernel⟩, by decide⟩
theorem jc_H_25 : zC "StreamIds$Shapes" 25 jy_H_endOfTypes jb_H_endOfTypes 4 (some .int) 2 := ⟨Or.inl jw_289, jw_291, jw_11, ⟨by decide +kernel, by decide +kernel, by decide +kernel⟩, by decide⟩
theorem jc_S_155 : zC "StreamIds" 155 jy_T_at jb_T_at 2 (some .int) 1 := ⟨Or.inl jw_292, jw_276, jw_2, ⟨by decide +kernel, by decide +kernel, by decide +kernel⟩, by decide⟩
theorem jc_W_39 : zC "StreamIdsLaw" 39 jy_S_remove jb_S_remove 4 (some .int) 2 := ⟨Or.inl jw_293, jw_296, jw_1, ⟨by decide +kernel, by decide +kernel, by decide +kernel⟩, by decide⟩
theorem jc_S_96 : zC "StreamIds" 96 jy_R_takeOut jb_R_takeOut 7 (some .int) 3 := ⟨Or.inl jw_297, jw_300, jw_6, ⟨by decide +kernel, by decide +kernel, by decide +kernel⟩, by decide⟩
theorem jc_W_43 : zC "StreamIdsLaw" 43 jy_S_declare jb_S_declare 6 (some .int) 3 := ⟨Or.inl jw_301, jw_304, jw_1, ⟨by decide +kernel, by decide +kernel, by decide +kernel⟩, by decide⟩
theorem jc_W_48 : zC "StreamIdsLaw" 48 jy_S_id jb_S_id 3 (some .long) 1 := ⟨Or.inl jw_305, jw_308, jw_1, ⟨by decide +kernel, by decide +kernel, by decide +kernel⟩, by decide⟩
theorem jc_S_113 : zC "StreamIds" 113 jy_L_write jb_L_write 2 none 1 := ⟨Or.inl jw_310, jw_313, jw_3, ⟨by decide +kernel, by decide +kernel, by decide +kernel⟩, by decide⟩
theorem jc_L_29 : zC "StreamIds$Layout" 29 jy_L_putText jb_L_putText 3 none 1 := ⟨Or.inl jw_314, jw_317, jw_3, ⟨by decide +kernel, by decide +kernel, by decide +kernel⟩, by decide⟩
theorem jc_L_95 : zC "StreamIds$Layout" 95 jy_L_putLength jb_L_putLength 2 none 1 := ⟨Or.inl jw_318, jw_321, jw_3, ⟨by decide +kernel, by decide +kernel, by decide +kernel⟩, by decide⟩
theorem jc_L_102 : zC "StreamIds$Layout" 102 jy_L_put jb_L_put 2 none 1 := ⟨Or.inl jw_322, jw_325, jw_3, ⟨by decide +kernel, by decide +kernel, by decide +kernel⟩, by decide⟩
theorem jc_L_98 : zC "StreamIds$Layout" 98 jy_T_at jb_T_at 2 (some .int) 1 := ⟨Or.inl jw_326, jw_276, jw_2, ⟨by decide +kernel, by decide +kernel, by decide +kernel⟩, by decide⟩
theorem jc_L_33 : zC "StreamIds$Layout" 33 jy_D_hashedModifiers jb_D_hashedModifiers 2 (some .int) 0 := ⟨Or.inl jw_327, jw_330, jw_5, ⟨by decide +kernel, by decide +kernel, by decide +kernel⟩, by decide⟩
theorem jc_D_52 : zC "StreamIds$Declaration" 52 jy_R_tally jb_R_tally 4 (some .int) 1 := ⟨Or.inl jw_331, jw_334, jw_6, ⟨by decide +kernel, by decide +kernel, by decide +kernel⟩, by decide⟩
theorem jc_L_37 : zC "StreamIds$Layout" 37 jy_L_putNumber jb_L_putNumber 2 none 1 := ⟨Or.inl jw_335, jw_338, jw_3, ⟨by decide +kernel, by decide +kernel, by decide +kernel⟩, by decide⟩
theorem jc_L_45 : zC "StreamIds$Layout" 45 jy_L_putAll jb_L_putAll 5 none 2 := ⟨Or.inl jw_339, jw_342, jw_3, ⟨by decide +kernel, by decide +kernel, by decide +kernel⟩, by decide⟩
theorem jc_L_66 : zC "StreamIds$Layout" 66 jy_E_isHashed jb_E_isHashed 1 (some .boolean) 0 := ⟨Or.inl jw_343, jw_346, jw_7, ⟨by decide +kernel, by decide +kernel, by decide +kernel⟩, by decide⟩
theorem jc_E_36 : zC "StreamIds$Entry" 36 jy_E_has jb_E_has 2 (some .boolean) 1 := ⟨Or.inl jw_347, jw_350, jw_7, ⟨by decide +kernel, by decide +kernel, by decide +kernel⟩, by decide⟩
theorem jc_L_70 : zC "StreamIds$Layout" 70 jy_L_putEntry jb_L_putEntry 2 none 1 := ⟨Or.inl jw_351, jw_354, jw_3, ⟨by decide +kernel, by decide +kernel, by decide +kernel⟩, by decide⟩
theorem jc_L_83 : zC "StreamIds$Layout" 83 jy_L_putConstant jb_L_putConstant 3 none 1 := ⟨Or.inl jw_356, jw_359, jw_3, ⟨by decide +kernel, by decide +kernel, by decide +kernel⟩, by decide⟩
theorem jc_L_105 : zC "StreamIds$Layout" 105 jy_JS_length jb_JS_length 1 (some .int) 0 := ⟨Or.inl jw_360, jw_363, jw_12, ⟨by decide +kernel, by decide +kernel, by decide +kernel⟩, by decide⟩
theorem jc_JS_335 : zC "java/lang/String" 335 jy_JS_coder jb_JS_coder 1 (some .byte) 0 := ⟨Or.inl jw_364, jw_367, jw_12, ⟨by decide +kernel, by decide +kernel, by decide +kernel⟩, by decide⟩
theorem jc_L_109 : zC "StreamIds$Layout" 109 jy_JS_charAt jb_JS_charAt 2 (some .char) 1 := ⟨Or.inl jw_370, jw_373, jw_12, ⟨by decide +kernel, by decide +kernel, by decide +kernel⟩, by decide⟩
theorem jc_JS_492 : zC "java/lang/String" 492 jy_JS_isLatin1 jb_JS_isLatin1 1 (some .boolean) 0 := ⟨Or.inl jw_374, jw_377, jw_12, ⟨by decide +kernel, by decide +kernel, by decide +kernel⟩, by decide⟩
theorem jc_JS_495 : zC "java/lang/String" 495 jy_JL_charAt jb_JL_charAt 2 (some .char) 2 := ⟨Or.inl jw_378, jw_380, jw_13, ⟨by decide +kernel, by decide +kernel, by decide +kernel⟩, by decide⟩
theorem jc_JL_9 : zC "java/lang/StringLatin1" 9 jy_JS_checkIndex jb_JS_checkIndex 2 none 2 := ⟨Or.inl jw_381, jw_383, jw_12, ⟨by decide +kernel, by decide +kernel, by decide +kernel⟩, by decide⟩
theorem jc_JS_1059 : zC "java/lang/String" 1059 jy_JP_checkIndex jb_JP_checkIndex 3 (some .int) 3 := ⟨Or.inl jw_386, jw_388, jw_14, ⟨by decide +kernel, by decide +kernel, by decide +kernel⟩, by decide⟩
theorem jc_JS_498 : zC "java/lang/String" 498 jy_JU_charAt jb_JU_charAt 2 (some .char) 2 := ⟨Or.inl jw_389, jw_391, jw_15, ⟨by decide +kernel, by decide +kernel, by decide +kernel⟩, by decide⟩
theorem jc_JU_67 : zC "java/lang/StringUTF16" 67 jy_JU_checkIndex jb_JU_checkIndex 2 none 2 := ⟨Or.inl jw_392, jw_394, jw_15, ⟨by decide +kernel, by decide +kernel, by decide +kernel⟩, by decide⟩
theorem jc_JU_48 : zC "java/lang/StringUTF16" 48 jy_JU_length jb_JU_length 1 (some .int) 1 := ⟨Or.inl jw_395, jw_397, jw_15, ⟨by decide +kernel, by decide +kernel, by decide +kernel⟩, by decide⟩
theorem jc_JU_414 : zC "java/lang/StringUTF16" 414 jy_JS_checkIndex jb_JS_checkIndex 2 none 2 := ⟨Or.inl jw_398, jw_383, jw_12, ⟨by decide +kernel, by decide +kernel, by decide +kernel⟩, by decide⟩
theorem jc_JU_71 : zC "java/lang/StringUTF16" 71 jy_JU_getChar jb_JU_getChar 2 (some .char) 2 := ⟨Or.inl jw_399, jw_401, jw_15, ⟨by decide +kernel, by decide +kernel, by decide +kernel⟩, by decide⟩
theorem jc_L_89 : zC "StreamIds$Layout" 89 jy_L_putDotted jb_L_putDotted 3 none 1 := ⟨Or.inl jw_410, jw_413, jw_3, ⟨by decide +kernel, by decide +kernel, by decide +kernel⟩, by decide⟩
theorem jc_S_117 : zC "StreamIds" 117 jy_G_take jb_G_take 4 none 1 := ⟨Or.inl jw_414, jw_417, jw_4, ⟨by decide +kernel, by decide +kernel, by decide +kernel⟩, by decide⟩
theorem jc_G_33 : zC "StreamIds$Digest" 33 jy_G_fillWords jb_G_fillWords 7 none 3 := ⟨Or.inl jw_421, jw_424, jw_4, ⟨by decide +kernel, by decide +kernel, by decide +kernel⟩, by decide⟩
theorem jc_G_46 : zC "StreamIds$Digest" 46 jy_G_paddedAt jb_G_paddedAt 4 (some .int) 3 := ⟨Or.inl jw_425, jw_427, jw_4, ⟨by decide +kernel, by decide +kernel, by decide +kernel⟩, by decide⟩
theorem jc_G_54 : zC "StreamIds$Digest" 54 jy_L_at jb_L_at 2 (some .int) 1 := ⟨Or.inl jw_428, jw_431, jw_3, ⟨by decide +kernel, by decide +kernel, by decide +kernel⟩, by decide⟩
theorem jc_G_50 : zC "StreamIds$Digest" 50 jy_G_turned jb_G_turned 2 (some .int) 2 := ⟨Or.inl jw_432, jw_434, jw_4, ⟨by decide +kernel, by decide +kernel, by decide +kernel⟩, by decide⟩
theorem jc_G_37 : zC "StreamIds$Digest" 37 jy_G_mixWords jb_G_mixWords 8 none 0 := ⟨Or.inl jw_435, jw_438, jw_4, ⟨by decide +kernel, by decide +kernel, by decide +kernel⟩, by decide⟩
theorem jc_G_57 : zC "StreamIds$Digest" 57 jy_G_chosen jb_G_chosen 4 (some .int) 4 := ⟨Or.inl jw_439, jw_441, jw_4, ⟨by decide +kernel, by decide +kernel, by decide +kernel⟩, by decide⟩
theorem jc_S_121 : zC "StreamIds" 121 jy_G_firstEightReversed jb_G_firstEightReversed 5 (some .long) 0 := ⟨Or.inl jw_444, jw_447, jw_4, ⟨by decide +kernel, by decide +kernel, by decide +kernel⟩, by decide⟩
theorem jc_G_40 : zC "StreamIds$Digest" 40 jy_G_reversed jb_G_reversed 1 (some .int) 1 := ⟨Or.inl jw_448, jw_450, jw_4, ⟨by decide +kernel, by decide +kernel, by decide +kernel⟩, by decide⟩
theorem jc_W_53 : zC "StreamIdsLaw" 53 jy_S_hash jb_S_hash 4 (some .long) 2 := ⟨Or.inl jw_453, jw_456, jw_1, ⟨by decide +kernel, by decide +kernel, by decide +kernel⟩, by decide⟩
theorem jc_W_58 : zC "StreamIdsLaw" 58 jy_S_size jb_S_size 3 (some .int) 1 := ⟨Or.inl jw_457, jw_460, jw_1, ⟨by decide +kernel, by decide +kernel, by decide +kernel⟩, by decide⟩
theorem jc_W_62 : zC "StreamIdsLaw" 62 jy_S_byteAt jb_S_byteAt 4 (some .int) 2 := ⟨Or.inl jw_461, jw_464, jw_1, ⟨by decide +kernel, by decide +kernel, by decide +kernel⟩, by decide⟩
theorem jc_S_130 : zC "StreamIds" 130 jy_L_at jb_L_at 2 (some .int) 1 := ⟨Or.inl jw_465, jw_431, jw_3, ⟨by decide +kernel, by decide +kernel, by decide +kernel⟩, by decide⟩
theorem jc_W_66 : zC "StreamIdsLaw" 66 jy_S_part jb_S_part 4 (some .int) 2 := ⟨Or.inl jw_466, jw_469, jw_1, ⟨by decide +kernel, by decide +kernel, by decide +kernel⟩, by decide⟩
theorem jc_W_70 : zC "StreamIdsLaw" 70 jy_S_count jb_S_count 4 (some .int) 2 := ⟨Or.inl jw_470, jw_473, jw_1, ⟨by decide +kernel, by decide +kernel, by decide +kernel⟩, by decide⟩
theorem jc_S_140 : zC "StreamIds" 140 jy_R_tally jb_R_tally 4 (some .int) 1 := ⟨Or.inl jw_474, jw_334, jw_6, ⟨by decide +kernel, by decide +kernel, by decide +kernel⟩, by decide⟩
theorem jc_W_12 : zC "StreamIdsLaw" 12 jy_M_init jb_M_init 1 none 0 := ⟨Or.inl jw_477, jw_479, jw_8, ⟨by decide +kernel, by decide +kernel, by decide +kernel⟩, by decide⟩
theorem jc_W_19 : zC "StreamIdsLaw" 19 jy_M_type jb_M_type 7 (some .int) 2 := ⟨Or.inl jw_535, jw_538, jw_8, ⟨by decide +kernel, by decide +kernel, by decide +kernel⟩, by decide⟩
theorem jc_M_54 : zC "StreamIdsModel" 54 jy_M_out jb_M_out 3 (some .boolean) 2 := ⟨Or.inl jw_539, jw_542, jw_8, ⟨by decide +kernel, by decide +kernel, by decide +kernel⟩, by decide⟩
theorem jc_W_24 : zC "StreamIdsLaw" 24 jy_M_clear jb_M_clear 3 (some .int) 1 := ⟨Or.inl jw_543, jw_546, jw_8, ⟨by decide +kernel, by decide +kernel, by decide +kernel⟩, by decide⟩
theorem jc_W_29 : zC "StreamIdsLaw" 29 jy_M_define jb_M_define 3 (some .int) 2 := ⟨Or.inl jw_547, jw_550, jw_8, ⟨by decide +kernel, by decide +kernel, by decide +kernel⟩, by decide⟩
theorem jc_M_74 : zC "StreamIdsModel" 74 jy_M_copy jb_M_copy 4 none 2 := ⟨Or.inl jw_552, jw_555, jw_8, ⟨by decide +kernel, by decide +kernel, by decide +kernel⟩, by decide⟩
theorem jc_W_33 : zC "StreamIdsLaw" 33 jy_M_face jb_M_face 3 (some .int) 1 := ⟨Or.inl jw_556, jw_559, jw_8, ⟨by decide +kernel, by decide +kernel, by decide +kernel⟩, by decide⟩
theorem jc_M_78 : zC "StreamIdsModel" 78 jy_M_none jb_M_none 2 (some .boolean) 1 := ⟨Or.inl jw_560, jw_563, jw_8, ⟨by decide +kernel, by decide +kernel, by decide +kernel⟩, by decide⟩
theorem jc_M_82 : zC "StreamIdsModel" 82 jy_M_compare jb_M_compare 6 (some .int) 2 := ⟨Or.inl jw_564, jw_567, jw_8, ⟨by decide +kernel, by decide +kernel, by decide +kernel⟩, by decide⟩
theorem jc_W_38 : zC "StreamIdsLaw" 38 jy_M_member jb_M_member 5 (some .int) 3 := ⟨Or.inl jw_568, jw_571, jw_8, ⟨by decide +kernel, by decide +kernel, by decide +kernel⟩, by decide⟩
theorem jc_M_86 : zC "StreamIdsModel" 86 jy_M_goodShape jb_M_goodShape 2 (some .boolean) 1 := ⟨Or.inl jw_572, jw_575, jw_8, ⟨by decide +kernel, by decide +kernel, by decide +kernel⟩, by decide⟩
theorem jc_M_69 : zC "StreamIdsModel" 69 jy_M_passType jb_M_passType 6 (some .boolean) 0 := ⟨Or.inl jw_576, jw_579, jw_8, ⟨by decide +kernel, by decide +kernel, by decide +kernel⟩, by decide⟩
theorem jc_M_65 : zC "StreamIdsModel" 65 jy_M_signAt jb_M_signAt 2 (some .int) 1 := ⟨Or.inl jw_580, jw_583, jw_8, ⟨by decide +kernel, by decide +kernel, by decide +kernel⟩, by decide⟩
theorem jc_M_89 : zC "StreamIdsModel" 89 jy_M_find jb_M_find 6 (some .int) 2 := ⟨Or.inl jw_584, jw_587, jw_8, ⟨by decide +kernel, by decide +kernel, by decide +kernel⟩, by decide⟩
theorem jc_W_42 : zC "StreamIdsLaw" 42 jy_M_remove jb_M_remove 5 (some .int) 2 := ⟨Or.inl jw_588, jw_591, jw_8, ⟨by decide +kernel, by decide +kernel, by decide +kernel⟩, by decide⟩
theorem jc_W_47 : zC "StreamIdsLaw" 47 jy_M_declare jb_M_declare 5 (some .int) 3 := ⟨Or.inl jw_592, jw_595, jw_8, ⟨by decide +kernel, by decide +kernel, by decide +kernel⟩, by decide⟩
theorem jc_W_52 : zC "StreamIdsLaw" 52 jy_M_id jb_M_id 5 (some .long) 1 := ⟨Or.inl jw_596, jw_599, jw_8, ⟨by decide +kernel, by decide +kernel, by decide +kernel⟩, by decide⟩
theorem jc_M_153 : zC "StreamIdsModel" 153 jy_M_digest jb_M_digest 4 none 1 := ⟨Or.inl jw_601, jw_604, jw_8, ⟨by decide +kernel, by decide +kernel, by decide +kernel⟩, by decide⟩
theorem jc_M_140 : zC "StreamIdsModel" 140 jy_M_build jb_M_build 5 none 1 := ⟨Or.inl jw_605, jw_608, jw_8, ⟨by decide +kernel, by decide +kernel, by decide +kernel⟩, by decide⟩
theorem jc_M_110 : zC "StreamIdsModel" 110 jy_M_utf jb_M_utf 5 none 2 := ⟨Or.inl jw_609, jw_612, jw_8, ⟨by decide +kernel, by decide +kernel, by decide +kernel⟩, by decide⟩
theorem jc_M_95 : zC "StreamIdsModel" 95 jy_M_put jb_M_put 2 none 1 := ⟨Or.inl jw_613, jw_616, jw_8, ⟨by decide +kernel, by decide +kernel, by decide +kernel⟩, by decide⟩
theorem jc_M_117 : zC "StreamIdsModel" 117 jy_M_counted jb_M_counted 5 (some .int) 2 := ⟨Or.inl jw_617, jw_620, jw_8, ⟨by decide +kernel, by decide +kernel, by decide +kernel⟩, by decide⟩
theorem jc_M_114 : zC "StreamIdsModel" 114 jy_M_number jb_M_number 3 none 1 := ⟨Or.inl jw_621, jw_624, jw_8, ⟨by decide +kernel, by decide +kernel, by decide +kernel⟩, by decide⟩
theorem jc_M_120 : zC "StreamIdsModel" 120 jy_M_nextFace jb_M_nextFace 5 (some .int) 2 := ⟨Or.inl jw_625, jw_628, jw_8, ⟨by decide +kernel, by decide +kernel, by decide +kernel⟩, by decide⟩
theorem jc_M_123 : zC "StreamIdsModel" 123 jy_M_writeMembers jb_M_writeMembers 6 none 2 := ⟨Or.inl jw_629, jw_632, jw_8, ⟨by decide +kernel, by decide +kernel, by decide +kernel⟩, by decide⟩
theorem jc_M_103 : zC "StreamIdsModel" 103 jy_M_following jb_M_following 6 (some .int) 3 := ⟨Or.inl jw_633, jw_636, jw_8, ⟨by decide +kernel, by decide +kernel, by decide +kernel⟩, by decide⟩
theorem jc_M_99 : zC "StreamIdsModel" 99 jy_M_orderOf jb_M_orderOf 5 (some .int) 3 := ⟨Or.inl jw_637, jw_640, jw_8, ⟨by decide +kernel, by decide +kernel, by decide +kernel⟩, by decide⟩
theorem jc_M_106 : zC "StreamIdsModel" 106 jy_M_initName jb_M_initName 2 none 1 := ⟨Or.inl jw_641, jw_644, jw_8, ⟨by decide +kernel, by decide +kernel, by decide +kernel⟩, by decide⟩
theorem jc_M_148 : zC "StreamIdsModel" 148 jy_M_block jb_M_block 9 none 1 := ⟨Or.inl jw_650, jw_653, jw_8, ⟨by decide +kernel, by decide +kernel, by decide +kernel⟩, by decide⟩
theorem jc_M_130 : zC "StreamIdsModel" 130 jy_M_turned jb_M_turned 3 (some .int) 2 := ⟨Or.inl jw_654, jw_657, jw_8, ⟨by decide +kernel, by decide +kernel, by decide +kernel⟩, by decide⟩
theorem jc_M_133 : zC "StreamIdsModel" 133 jy_M_mixed jb_M_mixed 5 (some .int) 4 := ⟨Or.inl jw_658, jw_661, jw_8, ⟨by decide +kernel, by decide +kernel, by decide +kernel⟩, by decide⟩
theorem jc_M_137 : zC "StreamIdsModel" 137 jy_M_constant jb_M_constant 2 (some .int) 1 := ⟨Or.inl jw_662, jw_665, jw_8, ⟨by decide +kernel, by decide +kernel, by decide +kernel⟩, by decide⟩
theorem jc_W_57 : zC "StreamIdsLaw" 57 jy_M_hash jb_M_hash 3 (some .long) 2 := ⟨Or.inl jw_670, jw_673, jw_8, ⟨by decide +kernel, by decide +kernel, by decide +kernel⟩, by decide⟩
theorem jc_W_61 : zC "StreamIdsLaw" 61 jy_M_size jb_M_size 2 (some .int) 1 := ⟨Or.inl jw_674, jw_677, jw_8, ⟨by decide +kernel, by decide +kernel, by decide +kernel⟩, by decide⟩
theorem jc_W_65 : zC "StreamIdsLaw" 65 jy_M_byteAt jb_M_byteAt 3 (some .int) 2 := ⟨Or.inl jw_678, jw_681, jw_8, ⟨by decide +kernel, by decide +kernel, by decide +kernel⟩, by decide⟩
theorem jc_W_69 : zC "StreamIdsLaw" 69 jy_M_part jb_M_part 3 (some .int) 2 := ⟨Or.inl jw_682, jw_685, jw_8, ⟨by decide +kernel, by decide +kernel, by decide +kernel⟩, by decide⟩
theorem jc_W_73 : zC "StreamIdsLaw" 73 jy_M_count jb_M_count 3 (some .int) 2 := ⟨Or.inl jw_686, jw_689, jw_8, ⟨by decide +kernel, by decide +kernel, by decide +kernel⟩, by decide⟩
theorem ji_S_init : (jy_S_init).name = "<init>" ∧ Cond.instanceMethod jy_S_init ∈ zzW := ⟨rfl, jw_19⟩
theorem ji_T_init : (jy_T_init).name = "<init>" ∧ Cond.instanceMethod jy_T_init ∈ zzW := ⟨rfl, jw_27⟩
theorem ji_L_init : (jy_L_init).name = "<init>" ∧ Cond.instanceMethod jy_L_init ∈ zzW := ⟨rfl, jw_46⟩
theorem ji_G_init : (jy_G_init).name = "<init>" ∧ Cond.instanceMethod jy_G_init ∈ zzW := ⟨rfl, jw_66⟩
theorem ji_D_init : (jy_D_init).name = "<init>" ∧ Cond.instanceMethod jy_D_init ∈ zzW := ⟨rfl, jw_79⟩
theorem ji_R_init : (jy_R_init).name = "<init>" ∧ Cond.instanceMethod jy_R_init ∈ zzW := ⟨rfl, jw_87⟩
theorem ji_E_init : (jy_E_init).name = "<init>" ∧ Cond.instanceMethod jy_E_init ∈ zzW := ⟨rfl, jw_94⟩
theorem jv_S_type : Cond.instanceMethod jy_S_type ∈ zzW ∧ Cond.selects "StreamIds" jy_S_type jy_S_type ∈ zzW := ⟨jw_176, jw_177⟩
theorem jv_S_bufferOf : Cond.instanceMethod jy_S_bufferOf ∈ zzW ∧ Cond.selects "StreamIds" jy_S_bufferOf jy_S_bufferOf ∈ zzW := ⟨jw_181, jws_0⟩
theorem js_S_areSigns : Cond.static jy_S_areSigns ∈ zzW := jw_184
theorem js_S_byteOf : Cond.static jy_S_byteOf ∈ zzW := jw_187
theorem js_S_signsIn : Cond.static jy_S_signsIn ∈ zzW := jw_190
theorem jv_T_append : Cond.instanceMethod jy_T_append ∈ zzW ∧ Cond.selects "StreamIds$Text" jy_T_append jy_T_append ∈ zzW := ⟨jw_193, jw_194⟩
theorem jv_S_clear : Cond.instanceMethod jy_S_clear ∈ zzW ∧ Cond.selects "StreamIds" jy_S_clear jy_S_clear ∈ zzW := ⟨jw_197, jw_198⟩
theorem jv_S_define : Cond.instanceMethod jy_S_define ∈ zzW ∧ Cond.selects "StreamIds" jy_S_define jy_S_define ∈ zzW := ⟨jw_201, jw_202⟩
theorem jv_D_begin : Cond.instanceMethod jy_D_begin ∈ zzW ∧ Cond.selects "StreamIds$Declaration" jy_D_begin jy_D_begin ∈ zzW := ⟨jw_206, jw_207⟩
theorem jv_T_become : Cond.instanceMethod jy_T_become ∈ zzW ∧ Cond.selects "StreamIds$Text" jy_T_become jy_T_become ∈ zzW := ⟨jw_210, jw_211⟩
theorem jv_S_face : Cond.instanceMethod jy_S_face ∈ zzW ∧ Cond.selects "StreamIds" jy_S_face jy_S_face ∈ zzW := ⟨jw_217, jw_218⟩
theorem jv_S_declarationOf : Cond.instanceMethod jy_S_declarationOf ∈ zzW ∧ Cond.selects "StreamIds" jy_S_declarationOf jy_S_declarationOf ∈ zzW := ⟨jw_222, jws_1⟩
theorem jv_R_enter : Cond.instanceMethod jy_R_enter ∈ zzW ∧ Cond.selects "StreamIds$Row" jy_R_enter jy_R_enter ∈ zzW := ⟨jw_225, jw_226⟩
theorem jv_R_placeOf : Cond.instanceMethod jy_R_placeOf ∈ zzW ∧ Cond.selects "StreamIds$Row" jy_R_placeOf jy_R_placeOf ∈ zzW := ⟨jw_230, jws_2⟩
theorem jv_E_compareWith : Cond.instanceMethod jy_E_compareWith ∈ zzW ∧ Cond.selects "StreamIds$Entry" jy_E_compareWith jy_E_compareWith ∈ zzW := ⟨jw_233, jw_234⟩
theorem jv_T_compareWith : Cond.instanceMethod jy_T_compareWith ∈ zzW ∧ Cond.selects "StreamIds$Text" jy_T_compareWith jy_T_compareWith ∈ zzW := ⟨jw_237, jw_238⟩
theorem js_A_min : Cond.static jy_A_min ∈ zzW := jw_241
theorem jv_R_isAt : Cond.instanceMethod jy_R_isAt ∈ zzW ∧ Cond.selects "StreamIds$Row" jy_R_isAt jy_R_isAt ∈ zzW := ⟨jw_245, jws_3⟩
theorem jv_E_become : Cond.instanceMethod jy_E_become ∈ zzW ∧ Cond.selects "StreamIds$Entry" jy_E_become jy_E_become ∈ zzW := ⟨jw_248, jw_249⟩
theorem jv_S_member : Cond.instanceMethod jy_S_member ∈ zzW ∧ Cond.selects "StreamIds" jy_S_member jy_S_member ∈ zzW := ⟨jw_253, jw_254⟩
theorem js_S_isMemberKind : Cond.static jy_S_isMemberKind ∈ zzW := jw_257
theorem jv_S_isNameFor : Cond.instanceMethod jy_S_isNameFor ∈ zzW ∧ Cond.selects "StreamIds" jy_S_isNameFor jy_S_isNameFor ∈ zzW := ⟨jw_261, jws_4⟩
theorem jv_S_isShapeFor : Cond.instanceMethod jy_S_isShapeFor ∈ zzW ∧ Cond.selects "StreamIds" jy_S_isShapeFor jy_S_isShapeFor ∈ zzW := ⟨jw_265, jws_5⟩
theorem js_H_isType : Cond.static jy_H_isType ∈ zzW := jw_268
theorem js_H_endOfType : Cond.static jy_H_endOfType ∈ zzW := jw_271
theorem jv_T_at : Cond.instanceMethod jy_T_at ∈ zzW ∧ Cond.selects "StreamIds$Text" jy_T_at jy_T_at ∈ zzW := ⟨jw_274, jw_275⟩
theorem js_H_endOfName : Cond.static jy_H_endOfName ∈ zzW := jw_278
theorem js_H_mayStandInName : Cond.static jy_H_mayStandInName ∈ zzW := jw_281
theorem js_H_isSimple : Cond.static jy_H_isSimple ∈ zzW := jw_284
theorem js_H_isMethod : Cond.static jy_H_isMethod ∈ zzW := jw_287
theorem js_H_endOfTypes : Cond.static jy_H_endOfTypes ∈ zzW := jw_290
theorem jv_S_remove : Cond.instanceMethod jy_S_remove ∈ zzW ∧ Cond.selects "StreamIds" jy_S_remove jy_S_remove ∈ zzW := ⟨jw_294, jw_295⟩
theorem jv_R_takeOut : Cond.instanceMethod jy_R_takeOut ∈ zzW ∧ Cond.selects "StreamIds$Row" jy_R_takeOut jy_R_takeOut ∈ zzW := ⟨jw_298, jw_299⟩
theorem jv_S_declare : Cond.instanceMethod jy_S_declare ∈ zzW ∧ Cond.selects "StreamIds" jy_S_declare jy_S_declare ∈ zzW := ⟨jw_302, jw_303⟩
theorem jv_S_id : Cond.instanceMethod jy_S_id ∈ zzW ∧ Cond.selects "StreamIds" jy_S_id jy_S_id ∈ zzW := ⟨jw_306, jw_307⟩
theorem jv_L_write : Cond.instanceMethod jy_L_write ∈ zzW ∧ Cond.selects "StreamIds$Layout" jy_L_write jy_L_write ∈ zzW := ⟨jw_311, jw_312⟩
theorem jv_L_putText : Cond.instanceMethod jy_L_putText ∈ zzW ∧ Cond.selects "StreamIds$Layout" jy_L_putText jy_L_putText ∈ zzW := ⟨jw_316, jws_6⟩
theorem jv_L_putLength : Cond.instanceMethod jy_L_putLength ∈ zzW ∧ Cond.selects "StreamIds$Layout" jy_L_putLength jy_L_putLength ∈ zzW := ⟨jw_320, jws_7⟩
theorem jv_L_put : Cond.instanceMethod jy_L_put ∈ zzW ∧ Cond.selects "StreamIds$Layout" jy_L_put jy_L_put ∈ zzW := ⟨jw_324, jws_8⟩
theorem jv_D_hashedModifiers : Cond.instanceMethod jy_D_hashedModifiers ∈ zzW ∧ Cond.selects "StreamIds$Declaration" jy_D_hashedModifiers jy_D_hashedModifiers ∈ zzW := ⟨jw_328, jw_329⟩
theorem jv_R_tally : Cond.instanceMethod jy_R_tally ∈ zzW ∧ Cond.selects "StreamIds$Row" jy_R_tally jy_R_tally ∈ zzW := ⟨jw_332, jw_333⟩
theorem jv_L_putNumber : Cond.instanceMethod jy_L_putNumber ∈ zzW ∧ Cond.selects "StreamIds$Layout" jy_L_putNumber jy_L_putNumber ∈ zzW := ⟨jw_337, jws_9⟩
theorem jv_L_putAll : Cond.instanceMethod jy_L_putAll ∈ zzW ∧ Cond.selects "StreamIds$Layout" jy_L_putAll jy_L_putAll ∈ zzW := ⟨jw_341, jws_10⟩
theorem jv_E_isHashed : Cond.instanceMethod jy_E_isHashed ∈ zzW ∧ Cond.selects "StreamIds$Entry" jy_E_isHashed jy_E_isHashed ∈ zzW := ⟨jw_344, jw_345⟩
theorem jv_E_has : Cond.instanceMethod jy_E_has ∈ zzW ∧ Cond.selects "StreamIds$Entry" jy_E_has jy_E_has ∈ zzW := ⟨jw_348, jw_349⟩
theorem jv_L_putEntry : Cond.instanceMethod jy_L_putEntry ∈ zzW ∧ Cond.selects "StreamIds$Layout" jy_L_putEntry jy_L_putEntry ∈ zzW := ⟨jw_353, jws_11⟩
theorem jv_L_putConstant : Cond.instanceMethod jy_L_putConstant ∈ zzW ∧ Cond.selects "StreamIds$Layout" jy_L_putConstant jy_L_putConstant ∈ zzW := ⟨jw_358, jws_12⟩
theorem jv_JS_length : Cond.instanceMethod jy_JS_length ∈ zzW ∧ Cond.selects "java/lang/String" jy_JS_length jy_JS_length ∈ zzW := ⟨jw_361, jw_362⟩
theorem jv_JS_coder : Cond.instanceMethod jy_JS_coder ∈ zzW ∧ Cond.selects "java/lang/String" jy_JS_coder jy_JS_coder ∈ zzW := ⟨jw_365, jw_366⟩
theorem jv_JS_charAt : Cond.instanceMethod jy_JS_charAt ∈ zzW ∧ Cond.selects "java/lang/String" jy_JS_charAt jy_JS_charAt ∈ zzW := ⟨jw_371, jw_372⟩
theorem jv_JS_isLatin1 : Cond.instanceMethod jy_JS_isLatin1 ∈ zzW ∧ Cond.selects "java/lang/String" jy_JS_isLatin1 jy_JS_isLatin1 ∈ zzW := ⟨jw_375, jw_376⟩
theorem js_JL_charAt : Cond.static jy_JL_charAt ∈ zzW := jw_379
theorem js_JS_checkIndex : Cond.static jy_JS_checkIndex ∈ zzW := jw_382
theorem js_JP_checkIndex : Cond.static jy_JP_checkIndex ∈ zzW := jw_387
theorem js_JU_charAt : Cond.static jy_JU_charAt ∈ zzW := jw_390
theorem js_JU_checkIndex : Cond.static jy_JU_checkIndex ∈ zzW := jw_393
theorem js_JU_length : Cond.static jy_JU_length ∈ zzW := jw_396
theorem js_JU_getChar : Cond.static jy_JU_getChar ∈ zzW := jw_400
theorem jv_L_putDotted : Cond.instanceMethod jy_L_putDotted ∈ zzW ∧ Cond.selects "StreamIds$Layout" jy_L_putDotted jy_L_putDotted ∈ zzW := ⟨jw_412, jws_13⟩
theorem jv_G_take : Cond.instanceMethod jy_G_take ∈ zzW ∧ Cond.selects "StreamIds$Digest" jy_G_take jy_G_take ∈ zzW := ⟨jw_415, jw_416⟩
theorem jv_G_fillWords : Cond.instanceMethod jy_G_fillWords ∈ zzW ∧ Cond.selects "StreamIds$Digest" jy_G_fillWords jy_G_fillWords ∈ zzW := ⟨jw_423, jws_14⟩
theorem js_G_paddedAt : Cond.static jy_G_paddedAt ∈ zzW := jw_426
theorem jv_L_at : Cond.instanceMethod jy_L_at ∈ zzW ∧ Cond.selects "StreamIds$Layout" jy_L_at jy_L_at ∈ zzW := ⟨jw_429, jw_430⟩
theorem js_G_turned : Cond.static jy_G_turned ∈ zzW := jw_433
theorem jv_G_mixWords : Cond.instanceMethod jy_G_mixWords ∈ zzW ∧ Cond.selects "StreamIds$Digest" jy_G_mixWords jy_G_mixWords ∈ zzW := ⟨jw_437, jws_15⟩
theorem js_G_chosen : Cond.static jy_G_chosen ∈ zzW := jw_440
theorem jv_G_firstEightReversed : Cond.instanceMethod jy_G_firstEightReversed ∈ zzW ∧ Cond.selects "StreamIds$Digest" jy_G_firstEightReversed jy_G_firstEightReversed ∈ zzW := ⟨jw_445, jw_446⟩
theorem js_G_reversed : Cond.static jy_G_reversed ∈ zzW := jw_449
theorem jv_S_hash : Cond.instanceMethod jy_S_hash ∈ zzW ∧ Cond.selects "StreamIds" jy_S_hash jy_S_hash ∈ zzW := ⟨jw_454, jw_455⟩
theorem jv_S_size : Cond.instanceMethod jy_S_size ∈ zzW ∧ Cond.selects "StreamIds" jy_S_size jy_S_size ∈ zzW := ⟨jw_458, jw_459⟩
theorem jv_S_byteAt : Cond.instanceMethod jy_S_byteAt ∈ zzW ∧ Cond.selects "StreamIds" jy_S_byteAt jy_S_byteAt ∈ zzW := ⟨jw_462, jw_463⟩
theorem jv_S_part : Cond.instanceMethod jy_S_part ∈ zzW ∧ Cond.selects "StreamIds" jy_S_part jy_S_part ∈ zzW := ⟨jw_467, jw_468⟩
theorem jv_S_count : Cond.instanceMethod jy_S_count ∈ zzW ∧ Cond.selects "StreamIds" jy_S_count jy_S_count ∈ zzW := ⟨jw_471, jw_472⟩
theorem ji_M_init : (jy_M_init).name = "<init>" ∧ Cond.instanceMethod jy_M_init ∈ zzW := ⟨rfl, jw_478⟩
theorem jv_M_type : Cond.instanceMethod jy_M_type ∈ zzW ∧ Cond.selects "StreamIdsModel" jy_M_type jy_M_type ∈ zzW := ⟨jw_536, jw_537⟩
theorem jv_M_out : Cond.instanceMethod jy_M_out ∈ zzW ∧ Cond.selects "StreamIdsModel" jy_M_out jy_M_out ∈ zzW := ⟨jw_541, jws_16⟩
theorem jv_M_clear : Cond.instanceMethod jy_M_clear ∈ zzW ∧ Cond.selects "StreamIdsModel" jy_M_clear jy_M_clear ∈ zzW := ⟨jw_544, jw_545⟩
theorem jv_M_define : Cond.instanceMethod jy_M_define ∈ zzW ∧ Cond.selects "StreamIdsModel" jy_M_define jy_M_define ∈ zzW := ⟨jw_548, jw_549⟩
theorem jv_M_copy : Cond.instanceMethod jy_M_copy ∈ zzW ∧ Cond.selects "StreamIdsModel" jy_M_copy jy_M_copy ∈ zzW := ⟨jw_554, jws_17⟩
theorem jv_M_face : Cond.instanceMethod jy_M_face ∈ zzW ∧ Cond.selects "StreamIdsModel" jy_M_face jy_M_face ∈ zzW := ⟨jw_557, jw_558⟩
theorem jv_M_none : Cond.instanceMethod jy_M_none ∈ zzW ∧ Cond.selects "StreamIdsModel" jy_M_none jy_M_none ∈ zzW := ⟨jw_562, jws_18⟩
theorem jv_M_compare : Cond.instanceMethod jy_M_compare ∈ zzW ∧ Cond.selects "StreamIdsModel" jy_M_compare jy_M_compare ∈ zzW := ⟨jw_566, jws_19⟩
theorem jv_M_member : Cond.instanceMethod jy_M_member ∈ zzW ∧ Cond.selects "StreamIdsModel" jy_M_member jy_M_member ∈ zzW := ⟨jw_569, jw_570⟩
theorem jv_M_goodShape : Cond.instanceMethod jy_M_goodShape ∈ zzW ∧ Cond.selects "StreamIdsModel" jy_M_goodShape jy_M_goodShape ∈ zzW := ⟨jw_574, jws_20⟩
theorem jv_M_passType : Cond.instanceMethod jy_M_passType ∈ zzW ∧ Cond.selects "StreamIdsModel" jy_M_passType jy_M_passType ∈ zzW := ⟨jw_578, jws_21⟩
theorem jv_M_signAt : Cond.instanceMethod jy_M_signAt ∈ zzW ∧ Cond.selects "StreamIdsModel" jy_M_signAt jy_M_signAt ∈ zzW := ⟨jw_582, jws_22⟩
theorem jv_M_find : Cond.instanceMethod jy_M_find ∈ zzW ∧ Cond.selects "StreamIdsModel" jy_M_find jy_M_find ∈ zzW := ⟨jw_586, jws_23⟩
theorem jv_M_remove : Cond.instanceMethod jy_M_remove ∈ zzW ∧ Cond.selects "StreamIdsModel" jy_M_remove jy_M_remove ∈ zzW := ⟨jw_589, jw_590⟩
theorem jv_M_declare : Cond.instanceMethod jy_M_declare ∈ zzW ∧ Cond.selects "StreamIdsModel" jy_M_declare jy_M_declare ∈ zzW := ⟨jw_593, jw_594⟩
theorem jv_M_id : Cond.instanceMethod jy_M_id ∈ zzW ∧ Cond.selects "StreamIdsModel" jy_M_id jy_M_id ∈ zzW := ⟨jw_597, jw_598⟩
theorem jv_M_digest : Cond.instanceMethod jy_M_digest ∈ zzW ∧ Cond.selects "StreamIdsModel" jy_M_digest jy_M_digest ∈ zzW := ⟨jw_603, jws_24⟩
theorem jv_M_build : Cond.instanceMethod jy_M_build ∈ zzW ∧ Cond.selects "StreamIdsModel" jy_M_build jy_M_build ∈ zzW := ⟨jw_607, jws_25⟩
theorem jv_M_utf : Cond.instanceMethod jy_M_utf ∈ zzW ∧ Cond.selects "StreamIdsModel" jy_M_utf jy_M_utf ∈ zzW := ⟨jw_611, jws_26⟩
theorem jv_M_put : Cond.instanceMethod jy_M_put ∈ zzW ∧ Cond.selects "StreamIdsModel" jy_M_put jy_M_put ∈ zzW := ⟨jw_615, jws_27⟩
theorem jv_M_counted : Cond.instanceMethod jy_M_counted ∈ zzW ∧ Cond.selects "StreamIdsModel" jy_M_counted jy_M_counted ∈ zzW := ⟨jw_619, jws_28⟩
theorem jv_M_number : Cond.instanceMethod jy_M_number ∈ zzW ∧ Cond.selects "StreamIdsModel" jy_M_number jy_M_number ∈ zzW := ⟨jw_623, jws_29⟩
theorem jv_M_nextFace : Cond.instanceMethod jy_M_nextFace ∈ zzW ∧ Cond.selects "StreamIdsModel" jy_M_nextFace jy_M_nextFace ∈ zzW := ⟨jw_627, jws_30⟩
theorem jv_M_writeMembers : Cond.instanceMethod jy_M_writeMembers ∈ zzW ∧ Cond.selects "StreamIdsModel" jy_M_writeMembers jy_M_writeMembers ∈ zzW := ⟨jw_631, jws_31⟩
theorem jv_M_following : Cond.instanceMethod jy_M_following ∈ zzW ∧ Cond.selects "StreamIdsModel" jy_M_following jy_M_following ∈ zzW := ⟨jw_635, jws_32⟩
theorem jv_M_orderOf : Cond.instanceMethod jy_M_orderOf ∈ zzW ∧ Cond.selects "StreamIdsModel" jy_M_orderOf jy_M_orderOf ∈ zzW := ⟨jw_639, jws_33⟩
theorem jv_M_initName : Cond.instanceMethod jy_M_initName ∈ zzW ∧ Cond.selects "StreamIdsModel" jy_M_initName jy_M_initName ∈ zzW := ⟨jw_643, jws_34⟩
theorem jv_M_block : Cond.instanceMethod jy_M_block ∈ zzW ∧ Cond.selects "StreamIdsModel" jy_M_block jy_M_block ∈ zzW := ⟨jw_652, jws_35⟩
theorem jv_M_turned : Cond.instanceMethod jy_M_turned ∈ zzW ∧ Cond.selects "StreamIdsModel" jy_M_turned jy_M_turned ∈ zzW := ⟨jw_656, jws_36⟩
theorem jv_M_mixed : Cond.instanceMethod jy_M_mixed ∈ zzW ∧ Cond.selects "StreamIdsModel" jy_M_mixed jy_M_mixed ∈ zzW := ⟨jw_660, jws_37⟩
theorem jv_M_constant : Cond.instanceMethod jy_M_constant ∈ zzW ∧ Cond.selects "StreamIdsModel" jy_M_constant jy_M_constant ∈ zzW := ⟨jw_664, jws_38⟩
theorem jv_M_hash : Cond.instanceMethod jy_M_hash ∈ zzW ∧ Cond.selects "StreamIdsModel" jy_M_hash jy_M_hash ∈ zzW := ⟨jw_671, jw_672⟩
theorem jv_M_size : Cond.instanceMethod jy_M_size ∈ zzW ∧ Cond.selects "StreamIdsModel" jy_M_size jy_M_size ∈ zzW := ⟨jw_675, jw_676⟩
theorem jv_M_byteAt : Cond.instanceMethod jy_M_byteAt ∈ zzW ∧ Cond.selects "StreamIdsModel" jy_M_byteAt jy_M_byteAt ∈ zzW := ⟨jw_679, jw_680⟩
theorem jv_M_part : Cond.instanceMethod jy_M_part ∈ zzW ∧ Cond.selects "StreamIdsModel" jy_M_part jy_M_part ∈ zzW := ⟨jw_683, jw_684⟩
theorem jv_M_count : Cond.instanceMethod jy_M_count ∈ zzW ∧ Cond.selects "StreamIdsModel" jy_M_count jy_M_count ∈ zzW := ⟨jw_687, jw_688⟩
theorem jnw_W_7 : zNw "StreamIdsLaw" 7 0 5 [.null, .null, .null, .null, .null] := ⟨"StreamIds", jT_S, jt_S, rfl, ju_S, jt_S_ok, jw_16, jw_17, jw_1, by decide +kernel⟩
theorem jnw_S_9 : zNw "StreamIds" 9 1 2 [.null, .int 0] := ⟨"StreamIds$Text", jT_T, jt_T, rfl, ju_T, jt_T_ok, jw_24, jw_25, jw_2, by decide +kernel⟩
theorem jnw_S_19 : zNw "StreamIds" 19 4 7 [.int 0, .null, .int 0, .null, .null, .int 0, .long 0] := ⟨"StreamIds$Declaration", jT_D, jt_D, rfl, ju_D, jt_D_ok, jw_41, jw_77, jw_5, by decide +kernel⟩
theorem jnw_S_25 : zNw "StreamIds" 25 2 3 [.null, .int 0, .null] := ⟨"StreamIds$Layout", jT_L, jt_L, rfl, ju_L, jt_L_ok, jw_43, jw_44, jw_3, by decide +kernel⟩
theorem jnw_S_32 : zNw "StreamIds" 32 3 2 [.null, .null] := ⟨"StreamIds$Digest", jT_G, jt_G, rfl, ju_G, jt_G_ok, jw_63, jw_64, jw_4, by decide +kernel⟩
theorem jnw_D_15 : zNw "StreamIds$Declaration" 15 1 2 [.null, .int 0] := ⟨"StreamIds$Text", jT_T, jt_T, rfl, ju_T, jt_T_ok, jw_82, jw_25, jw_2, by decide +kernel⟩
theorem jnw_D_26 : zNw "StreamIds$Declaration" 26 5 2 [.null, .int 0] := ⟨"StreamIds$Row", jT_R, jt_R, rfl, ju_R, jt_R_ok, jw_84, jw_85, jw_6, by decide +kernel⟩
theorem jnw_R_15 : zNw "StreamIds$Row" 15 6 4 [.int 0, .int 0, .null, .null] := ⟨"StreamIds$Entry", jT_E, jt_E, rfl, ju_E, jt_E_ok, jw_90, jw_92, jw_7, by decide +kernel⟩
theorem jnw_E_18 : zNw "StreamIds$Entry" 18 1 2 [.null, .int 0] := ⟨"StreamIds$Text", jT_T, jt_T, rfl, ju_T, jt_T_ok, jw_97, jw_25, jw_2, by decide +kernel⟩
theorem jnw_W_10 : zNw "StreamIdsLaw" 10 7 17 [.null, .null, .null, .null, .null, .null, .null, .null, .null, .null, .null, .int 0, .null, .null, .null, .int 0, .int 0] := ⟨"StreamIdsModel", jT_M, jt_M, rfl, ju_M, jt_M_ok, jw_475, jw_476, jw_8, by decide +kernel⟩
end
section
theorem jd_S_init_0 : decode prog_1_method_1_code 0 = .ok (.aload_n 0, 1) := by decide +kernel
theorem jd_S_init_1 : decode prog_1_method_1_code 1 = .ok (.invokespecial 3, 3) := by decide +kernel
theorem jd_S_init_4 : decode prog_1_method_1_code 4 = .ok (.aload_n 0, 1) := by decide +kernel
theorem jd_S_init_5 : decode prog_1_method_1_code 5 = .ok (.new 9, 3) := by decide +kernel
theorem jd_S_init_8 : decode prog_1_method_1_code 8 = .ok (.dup, 1) := by decide +kernel
theorem jd_S_init_9 : decode prog_1_method_1_code 9 = .ok (.invokespecial 11, 3) := by decide +kernel
theorem jd_S_init_12 : decode prog_1_method_1_code 12 = .ok (.putfield 12, 3) := by decide +kernel
theorem jd_S_init_15 : decode prog_1_method_1_code 15 = .ok (.aload_n 0, 1) := by decide +kernel
theorem jd_S_init_16 : decode prog_1_method_1_code 16 = .ok (.new 9, 3) := by decide +kernel
theorem jd_S_init_19 : decode prog_1_method_1_code 19 = .ok (.dup, 1) := by decide +kernel
theorem jd_S_init_20 : decode prog_1_method_1_code 20 = .ok (.invokespecial 11, 3) := by decide +kernel
theorem jd_S_init_23 : decode prog_1_method_1_code 23 = .ok (.putfield 16, 3) := by decide +kernel
theorem jd_S_init_26 : decode prog_1_method_1_code 26 = .ok (.aload_n 0, 1) := by decide +kernel
theorem jd_S_init_27 : decode prog_1_method_1_code 27 = .ok (.iconst 4, 1) := by decide +kernel
theorem jd_S_init_28 : decode prog_1_method_1_code 28 = .ok (.anewarray 19, 3) := by decide +kernel
theorem jd_S_init_31 : decode prog_1_method_1_code 31 = .ok (.putfield 21, 3) := by decide +kernel
theorem jd_S_init_34 : decode prog_1_method_1_code 34 = .ok (.aload_n 0, 1) := by decide +kernel
theorem jd_S_init_35 : decode prog_1_method_1_code 35 = .ok (.new 25, 3) := by decide +kernel
theorem jd_S_init_38 : decode prog_1_method_1_code 38 = .ok (.dup, 1) := by decide +kernel
theorem jd_S_init_39 : decode prog_1_method_1_code 39 = .ok (.invokespecial 27, 3) := by decide +kernel
theorem jd_S_init_42 : decode prog_1_method_1_code 42 = .ok (.putfield 28, 3) := by decide +kernel
theorem jd_S_init_45 : decode prog_1_method_1_code 45 = .ok (.aload_n 0, 1) := by decide +kernel
theorem jd_S_init_46 : decode prog_1_method_1_code 46 = .ok (.new 32, 3) := by decide +kernel
theorem jd_S_init_49 : decode prog_1_method_1_code 49 = .ok (.dup, 1) := by decide +kernel
theorem jd_S_init_50 : decode prog_1_method_1_code 50 = .ok (.invokespecial 34, 3) := by decide +kernel
theorem jd_S_init_53 : decode prog_1_method_1_code 53 = .ok (.putfield 35, 3) := by decide +kernel
theorem jd_S_init_56 : decode prog_1_method_1_code 56 = .ok (.iconst 0, 1) := by decide +kernel
theorem jd_S_init_57 : decode prog_1_method_1_code 57 = .ok (.istore_n 1, 1) := by decide +kernel
theorem jd_S_init_58 : decode prog_1_method_1_code 58 = .ok (.iload_n 1, 1) := by decide +kernel
theorem jd_S_init_59 : decode prog_1_method_1_code 59 = .ok (.iconst 4, 1) := by decide +kernel
theorem jd_S_init_60 : decode prog_1_method_1_code 60 = .ok (.if_icmp .ge 22, 3) := by decide +kernel
theorem jd_S_init_63 : decode prog_1_method_1_code 63 = .ok (.aload_n 0, 1) := by decide +kernel
theorem jd_S_init_64 : decode prog_1_method_1_code 64 = .ok (.getfield 21, 3) := by decide +kernel
theorem jd_S_init_67 : decode prog_1_method_1_code 67 = .ok (.iload_n 1, 1) := by decide +kernel
theorem jd_S_init_68 : decode prog_1_method_1_code 68 = .ok (.new 19, 3) := by decide +kernel
theorem jd_S_init_71 : decode prog_1_method_1_code 71 = .ok (.dup, 1) := by decide +kernel
theorem jd_S_init_72 : decode prog_1_method_1_code 72 = .ok (.invokespecial 39, 3) := by decide +kernel
theorem jd_S_init_75 : decode prog_1_method_1_code 75 = .ok (.aastore, 1) := by decide +kernel
theorem jd_S_init_76 : decode prog_1_method_1_code 76 = .ok (.iinc 1 1, 3) := by decide +kernel
theorem jd_S_init_79 : decode prog_1_method_1_code 79 = .ok (.goto (-21), 3) := by decide +kernel
theorem jd_S_init_82 : decode prog_1_method_1_code 82 = .ok (.return_, 1) := by decide +kernel
theorem jd_T_init_0 : decode prog_8_method_1_code 0 = .ok (.aload_n 0, 1) := by decide +kernel
theorem jd_T_init_1 : decode prog_8_method_1_code 1 = .ok (.invokespecial 3, 3) := by decide +kernel
theorem jd_T_init_4 : decode prog_8_method_1_code 4 = .ok (.aload_n 0, 1) := by decide +kernel
theorem jd_T_init_5 : decode prog_8_method_1_code 5 = .ok (.bipush 24, 2) := by decide +kernel
theorem jd_T_init_7 : decode prog_8_method_1_code 7 = .ok (.newarray .byte, 2) := by decide +kernel
theorem jd_T_init_9 : decode prog_8_method_1_code 9 = .ok (.putfield 9, 3) := by decide +kernel
theorem jd_T_init_12 : decode prog_8_method_1_code 12 = .ok (.aload_n 0, 1) := by decide +kernel
theorem jd_T_init_13 : decode prog_8_method_1_code 13 = .ok (.iconst 0, 1) := by decide +kernel
theorem jd_T_init_14 : decode prog_8_method_1_code 14 = .ok (.putfield 15, 3) := by decide +kernel
theorem jd_T_init_17 : decode prog_8_method_1_code 17 = .ok (.return_, 1) := by decide +kernel
theorem jd_L_init_0 : decode prog_5_method_1_code 0 = .ok (.aload_n 0, 1) := by decide +kernel
theorem jd_L_init_1 : decode prog_5_method_1_code 1 = .ok (.invokespecial 3, 3) := by decide +kernel
theorem jd_L_init_4 : decode prog_5_method_1_code 4 = .ok (.aload_n 0, 1) := by decide +kernel
theorem jd_L_init_5 : decode prog_5_method_1_code 5 = .ok (.sipush 694, 3) := by decide +kernel
theorem jd_L_init_8 : decode prog_5_method_1_code 8 = .ok (.newarray .byte, 2) := by decide +kernel
theorem jd_L_init_10 : decode prog_5_method_1_code 10 = .ok (.putfield 9, 3) := by decide +kernel
theorem jd_L_init_13 : decode prog_5_method_1_code 13 = .ok (.aload_n 0, 1) := by decide +kernel
theorem jd_L_init_14 : decode prog_5_method_1_code 14 = .ok (.iconst 0, 1) := by decide +kernel
theorem jd_L_init_15 : decode prog_5_method_1_code 15 = .ok (.putfield 15, 3) := by decide +kernel
theorem jd_L_init_18 : decode prog_5_method_1_code 18 = .ok (.aload_n 0, 1) := by decide +kernel
theorem jd_L_init_19 : decode prog_5_method_1_code 19 = .ok (.bipush 6, 2) := by decide +kernel
theorem jd_L_init_21 : decode prog_5_method_1_code 21 = .ok (.newarray .int, 2) := by decide +kernel
theorem jd_L_init_23 : decode prog_5_method_1_code 23 = .ok (.putfield 19, 3) := by decide +kernel
theorem jd_L_init_26 : decode prog_5_method_1_code 26 = .ok (.return_, 1) := by decide +kernel
theorem jd_G_init_0 : decode prog_3_method_1_code 0 = .ok (.aload_n 0, 1) := by decide +kernel
theorem jd_G_init_1 : decode prog_3_method_1_code 1 = .ok (.invokespecial 3, 3) := by decide +kernel
theorem jd_G_init_4 : decode prog_3_method_1_code 4 = .ok (.aload_n 0, 1) := by decide +kernel
theorem jd_G_init_5 : decode prog_3_method_1_code 5 = .ok (.iconst 5, 1) := by decide +kernel
theorem jd_G_init_6 : decode prog_3_method_1_code 6 = .ok (.newarray .int, 2) := by decide +kernel
theorem jd_G_init_8 : decode prog_3_method_1_code 8 = .ok (.putfield 9, 3) := by decide +kernel
theorem jd_G_init_11 : decode prog_3_method_1_code 11 = .ok (.aload_n 0, 1) := by decide +kernel
theorem jd_G_init_12 : decode prog_3_method_1_code 12 = .ok (.bipush 80, 2) := by decide +kernel
theorem jd_G_init_14 : decode prog_3_method_1_code 14 = .ok (.newarray .int, 2) := by decide +kernel
theorem jd_G_init_16 : decode prog_3_method_1_code 16 = .ok (.putfield 15, 3) := by decide +kernel
theorem jd_G_init_19 : decode prog_3_method_1_code 19 = .ok (.return_, 1) := by decide +kernel
theorem jd_D_init_0 : decode prog_2_method_1_code 0 = .ok (.aload_n 0, 1) := by decide +kernel
theorem jd_D_init_1 : decode prog_2_method_1_code 1 = .ok (.invokespecial 3, 3) := by decide +kernel
theorem jd_D_init_4 : decode prog_2_method_1_code 4 = .ok (.aload_n 0, 1) := by decide +kernel
theorem jd_D_init_5 : decode prog_2_method_1_code 5 = .ok (.iconst 0, 1) := by decide +kernel
theorem jd_D_init_6 : decode prog_2_method_1_code 6 = .ok (.putfield 9, 3) := by decide +kernel
theorem jd_D_init_9 : decode prog_2_method_1_code 9 = .ok (.aload_n 0, 1) := by decide +kernel
theorem jd_D_init_10 : decode prog_2_method_1_code 10 = .ok (.new 15, 3) := by decide +kernel
theorem jd_D_init_13 : decode prog_2_method_1_code 13 = .ok (.dup, 1) := by decide +kernel
theorem jd_D_init_14 : decode prog_2_method_1_code 14 = .ok (.invokespecial 17, 3) := by decide +kernel
theorem jd_D_init_17 : decode prog_2_method_1_code 17 = .ok (.putfield 18, 3) := by decide +kernel
theorem jd_D_init_20 : decode prog_2_method_1_code 20 = .ok (.aload_n 0, 1) := by decide +kernel
theorem jd_D_init_21 : decode prog_2_method_1_code 21 = .ok (.iconst 0, 1) := by decide +kernel
theorem jd_D_init_22 : decode prog_2_method_1_code 22 = .ok (.putfield 22, 3) := by decide +kernel
theorem jd_D_init_25 : decode prog_2_method_1_code 25 = .ok (.aload_n 0, 1) := by decide +kernel
theorem jd_D_init_26 : decode prog_2_method_1_code 26 = .ok (.new 26, 3) := by decide +kernel
theorem jd_D_init_29 : decode prog_2_method_1_code 29 = .ok (.dup, 1) := by decide +kernel
theorem jd_D_init_30 : decode prog_2_method_1_code 30 = .ok (.iconst 4, 1) := by decide +kernel
theorem jd_D_init_31 : decode prog_2_method_1_code 31 = .ok (.invokespecial 28, 3) := by decide +kernel
theorem jd_D_init_34 : decode prog_2_method_1_code 34 = .ok (.putfield 31, 3) := by decide +kernel
theorem jd_D_init_37 : decode prog_2_method_1_code 37 = .ok (.aload_n 0, 1) := by decide +kernel
theorem jd_D_init_38 : decode prog_2_method_1_code 38 = .ok (.new 26, 3) := by decide +kernel
theorem jd_D_init_41 : decode prog_2_method_1_code 41 = .ok (.dup, 1) := by decide +kernel
theorem jd_D_init_42 : decode prog_2_method_1_code 42 = .ok (.bipush 10, 2) := by decide +kernel
theorem jd_D_init_44 : decode prog_2_method_1_code 44 = .ok (.invokespecial 28, 3) := by decide +kernel
theorem jd_D_init_47 : decode prog_2_method_1_code 47 = .ok (.putfield 35, 3) := by decide +kernel
theorem jd_D_init_50 : decode prog_2_method_1_code 50 = .ok (.aload_n 0, 1) := by decide +kernel
theorem jd_D_init_51 : decode prog_2_method_1_code 51 = .ok (.iconst 0, 1) := by decide +kernel
theorem jd_D_init_52 : decode prog_2_method_1_code 52 = .ok (.putfield 38, 3) := by decide +kernel
theorem jd_D_init_55 : decode prog_2_method_1_code 55 = .ok (.aload_n 0, 1) := by decide +kernel
theorem jd_D_init_56 : decode prog_2_method_1_code 56 = .ok (.lconst 0, 1) := by decide +kernel
theorem jd_D_init_57 : decode prog_2_method_1_code 57 = .ok (.putfield 41, 3) := by decide +kernel
theorem jd_D_init_60 : decode prog_2_method_1_code 60 = .ok (.return_, 1) := by decide +kernel
theorem jd_R_init_0 : decode prog_6_method_1_code 0 = .ok (.aload_n 0, 1) := by decide +kernel
theorem jd_R_init_1 : decode prog_6_method_1_code 1 = .ok (.invokespecial 3, 3) := by decide +kernel
theorem jd_R_init_4 : decode prog_6_method_1_code 4 = .ok (.aload_n 0, 1) := by decide +kernel
theorem jd_R_init_5 : decode prog_6_method_1_code 5 = .ok (.iconst 0, 1) := by decide +kernel
theorem jd_R_init_6 : decode prog_6_method_1_code 6 = .ok (.putfield 9, 3) := by decide +kernel
theorem jd_R_init_9 : decode prog_6_method_1_code 9 = .ok (.aload_n 0, 1) := by decide +kernel
theorem jd_R_init_10 : decode prog_6_method_1_code 10 = .ok (.iload_n 1, 1) := by decide +kernel
theorem jd_R_init_11 : decode prog_6_method_1_code 11 = .ok (.anewarray 15, 3) := by decide +kernel
theorem jd_R_init_14 : decode prog_6_method_1_code 14 = .ok (.putfield 17, 3) := by decide +kernel
theorem jd_R_init_17 : decode prog_6_method_1_code 17 = .ok (.iconst 0, 1) := by decide +kernel
theorem jd_R_init_18 : decode prog_6_method_1_code 18 = .ok (.istore_n 2, 1) := by decide +kernel
theorem jd_R_init_19 : decode prog_6_method_1_code 19 = .ok (.iload_n 2, 1) := by decide +kernel
theorem jd_R_init_20 : decode prog_6_method_1_code 20 = .ok (.iload_n 1, 1) := by decide +kernel
theorem jd_R_init_21 : decode prog_6_method_1_code 21 = .ok (.if_icmp .ge 22, 3) := by decide +kernel
theorem jd_R_init_24 : decode prog_6_method_1_code 24 = .ok (.aload_n 0, 1) := by decide +kernel
theorem jd_R_init_25 : decode prog_6_method_1_code 25 = .ok (.getfield 17, 3) := by decide +kernel
theorem jd_R_init_28 : decode prog_6_method_1_code 28 = .ok (.iload_n 2, 1) := by decide +kernel
theorem jd_R_init_29 : decode prog_6_method_1_code 29 = .ok (.new 15, 3) := by decide +kernel
theorem jd_R_init_32 : decode prog_6_method_1_code 32 = .ok (.dup, 1) := by decide +kernel
theorem jd_R_init_33 : decode prog_6_method_1_code 33 = .ok (.invokespecial 21, 3) := by decide +kernel
theorem jd_R_init_36 : decode prog_6_method_1_code 36 = .ok (.aastore, 1) := by decide +kernel
theorem jd_R_init_37 : decode prog_6_method_1_code 37 = .ok (.iinc 2 1, 3) := by decide +kernel
theorem jd_R_init_40 : decode prog_6_method_1_code 40 = .ok (.goto (-21), 3) := by decide +kernel
theorem jd_R_init_43 : decode prog_6_method_1_code 43 = .ok (.return_, 1) := by decide +kernel
theorem jd_E_init_0 : decode prog_4_method_1_code 0 = .ok (.aload_n 0, 1) := by decide +kernel
theorem jd_E_init_1 : decode prog_4_method_1_code 1 = .ok (.invokespecial 3, 3) := by decide +kernel
theorem jd_E_init_4 : decode prog_4_method_1_code 4 = .ok (.aload_n 0, 1) := by decide +kernel
theorem jd_E_init_5 : decode prog_4_method_1_code 5 = .ok (.iconst 0, 1) := by decide +kernel
theorem jd_E_init_6 : decode prog_4_method_1_code 6 = .ok (.putfield 9, 3) := by decide +kernel
theorem jd_E_init_9 : decode prog_4_method_1_code 9 = .ok (.aload_n 0, 1) := by decide +kernel
theorem jd_E_init_10 : decode prog_4_method_1_code 10 = .ok (.iconst 0, 1) := by decide +kernel
theorem jd_E_init_11 : decode prog_4_method_1_code 11 = .ok (.putfield 15, 3) := by decide +kernel
theorem jd_E_init_14 : decode prog_4_method_1_code 14 = .ok (.aload_n 0, 1) := by decide +kernel
theorem jd_E_init_15 : decode prog_4_method_1_code 15 = .ok (.new 18, 3) := by decide +kernel
theorem jd_E_init_18 : decode prog_4_method_1_code 18 = .ok (.dup, 1) := by decide +kernel
theorem jd_E_init_19 : decode prog_4_method_1_code 19 = .ok (.invokespecial 20, 3) := by decide +kernel
theorem jd_E_init_22 : decode prog_4_method_1_code 22 = .ok (.putfield 21, 3) := by decide +kernel
theorem jd_E_init_25 : decode prog_4_method_1_code 25 = .ok (.aload_n 0, 1) := by decide +kernel
theorem jd_E_init_26 : decode prog_4_method_1_code 26 = .ok (.new 18, 3) := by decide +kernel
theorem jd_E_init_29 : decode prog_4_method_1_code 29 = .ok (.dup, 1) := by decide +kernel
theorem jd_E_init_30 : decode prog_4_method_1_code 30 = .ok (.invokespecial 20, 3) := by decide +kernel
theorem jd_E_init_33 : decode prog_4_method_1_code 33 = .ok (.putfield 25, 3) := by decide +kernel
theorem jd_E_init_36 : decode prog_4_method_1_code 36 = .ok (.return_, 1) := by decide +kernel
theorem jd_S_type_0 : decode prog_1_method_2_code 0 = .ok (.aload_n 0, 1) := by decide +kernel
theorem jd_S_type_1 : decode prog_1_method_2_code 1 = .ok (.iload_n 1, 1) := by decide +kernel
theorem jd_S_type_2 : decode prog_1_method_2_code 2 = .ok (.invokevirtual 40, 3) := by decide +kernel
theorem jd_S_type_5 : decode prog_1_method_2_code 5 = .ok (.astore 4, 2) := by decide +kernel
theorem jd_S_type_7 : decode prog_1_method_2_code 7 = .ok (.aload 4, 2) := by decide +kernel
theorem jd_S_type_9 : decode prog_1_method_2_code 9 = .ok (.ifnull 10, 3) := by decide +kernel
theorem jd_S_type_12 : decode prog_1_method_2_code 12 = .ok (.lload_n 2, 1) := by decide +kernel
theorem jd_S_type_13 : decode prog_1_method_2_code 13 = .ok (.invokestatic 44, 3) := by decide +kernel
theorem jd_S_type_16 : decode prog_1_method_2_code 16 = .ok (.ifCond .ne 5, 3) := by decide +kernel
theorem jd_S_type_19 : decode prog_1_method_2_code 19 = .ok (.iconst (-1), 1) := by decide +kernel
theorem jd_S_type_20 : decode prog_1_method_2_code 20 = .ok (.ireturn, 1) := by decide +kernel
theorem jd_S_type_21 : decode prog_1_method_2_code 21 = .ok (.aload 4, 2) := by decide +kernel
theorem jd_S_type_23 : decode prog_1_method_2_code 23 = .ok (.getfield 48, 3) := by decide +kernel
theorem jd_S_type_26 : decode prog_1_method_2_code 26 = .ok (.lload_n 2, 1) := by decide +kernel
theorem jd_S_type_27 : decode prog_1_method_2_code 27 = .ok (.invokestatic 52, 3) := by decide +kernel
theorem jd_S_type_30 : decode prog_1_method_2_code 30 = .ok (.iadd, 1) := by decide +kernel
theorem jd_S_type_31 : decode prog_1_method_2_code 31 = .ok (.bipush 24, 2) := by decide +kernel
theorem jd_S_type_33 : decode prog_1_method_2_code 33 = .ok (.if_icmp .le 6, 3) := by decide +kernel
theorem jd_S_type_36 : decode prog_1_method_2_code 36 = .ok (.bipush (-4), 2) := by decide +kernel
theorem jd_S_type_38 : decode prog_1_method_2_code 38 = .ok (.ireturn, 1) := by decide +kernel
theorem jd_S_type_39 : decode prog_1_method_2_code 39 = .ok (.bipush 56, 2) := by decide +kernel
theorem jd_S_type_41 : decode prog_1_method_2_code 41 = .ok (.istore 5, 2) := by decide +kernel
theorem jd_S_type_43 : decode prog_1_method_2_code 43 = .ok (.iload 5, 2) := by decide +kernel
theorem jd_S_type_45 : decode prog_1_method_2_code 45 = .ok (.ifCond .lt 29, 3) := by decide +kernel
theorem jd_S_type_48 : decode prog_1_method_2_code 48 = .ok (.lload_n 2, 1) := by decide +kernel
theorem jd_S_type_49 : decode prog_1_method_2_code 49 = .ok (.iload 5, 2) := by decide +kernel
theorem jd_S_type_51 : decode prog_1_method_2_code 51 = .ok (.invokestatic 56, 3) := by decide +kernel
theorem jd_S_type_54 : decode prog_1_method_2_code 54 = .ok (.istore 6, 2) := by decide +kernel
theorem jd_S_type_56 : decode prog_1_method_2_code 56 = .ok (.iload 6, 2) := by decide +kernel
theorem jd_S_type_58 : decode prog_1_method_2_code 58 = .ok (.ifCond .eq 10, 3) := by decide +kernel
theorem jd_S_type_61 : decode prog_1_method_2_code 61 = .ok (.aload 4, 2) := by decide +kernel
theorem jd_S_type_63 : decode prog_1_method_2_code 63 = .ok (.iload 6, 2) := by decide +kernel
theorem jd_S_type_65 : decode prog_1_method_2_code 65 = .ok (.invokevirtual 60, 3) := by decide +kernel
theorem jd_S_type_68 : decode prog_1_method_2_code 68 = .ok (.iinc 5 (-8), 3) := by decide +kernel
theorem jd_S_type_71 : decode prog_1_method_2_code 71 = .ok (.goto (-28), 3) := by decide +kernel
theorem jd_S_type_74 : decode prog_1_method_2_code 74 = .ok (.aload 4, 2) := by decide +kernel
theorem jd_S_type_76 : decode prog_1_method_2_code 76 = .ok (.getfield 48, 3) := by decide +kernel
theorem jd_S_type_79 : decode prog_1_method_2_code 79 = .ok (.ireturn, 1) := by decide +kernel
theorem jd_S_bufferOf_0 : decode prog_1_method_15_code 0 = .ok (.iload_n 1, 1) := by decide +kernel
theorem jd_S_bufferOf_1 : decode prog_1_method_15_code 1 = .ok (.ifCond .ne 8, 3) := by decide +kernel
theorem jd_S_bufferOf_4 : decode prog_1_method_15_code 4 = .ok (.aload_n 0, 1) := by decide +kernel
theorem jd_S_bufferOf_5 : decode prog_1_method_15_code 5 = .ok (.getfield 12, 3) := by decide +kernel
theorem jd_S_bufferOf_8 : decode prog_1_method_15_code 8 = .ok (.areturn, 1) := by decide +kernel
theorem jd_S_bufferOf_9 : decode prog_1_method_15_code 9 = .ok (.iload_n 1, 1) := by decide +kernel
theorem jd_S_bufferOf_10 : decode prog_1_method_15_code 10 = .ok (.iconst 1, 1) := by decide +kernel
theorem jd_S_bufferOf_11 : decode prog_1_method_15_code 11 = .ok (.if_icmp .ne 10, 3) := by decide +kernel
theorem jd_S_bufferOf_14 : decode prog_1_method_15_code 14 = .ok (.aload_n 0, 1) := by decide +kernel
theorem jd_S_bufferOf_15 : decode prog_1_method_15_code 15 = .ok (.getfield 16, 3) := by decide +kernel
theorem jd_S_bufferOf_18 : decode prog_1_method_15_code 18 = .ok (.goto 4, 3) := by decide +kernel
theorem jd_S_bufferOf_21 : decode prog_1_method_15_code 21 = .ok (.aconst_null, 1) := by decide +kernel
theorem jd_S_bufferOf_22 : decode prog_1_method_15_code 22 = .ok (.areturn, 1) := by decide +kernel
theorem jd_S_areSigns_0 : decode prog_1_method_21_code 0 = .ok (.bipush 56, 2) := by decide +kernel
theorem jd_S_areSigns_2 : decode prog_1_method_21_code 2 = .ok (.istore_n 2, 1) := by decide +kernel
theorem jd_S_areSigns_3 : decode prog_1_method_21_code 3 = .ok (.iload_n 2, 1) := by decide +kernel
theorem jd_S_areSigns_4 : decode prog_1_method_21_code 4 = .ok (.ifCond .lt 33, 3) := by decide +kernel
theorem jd_S_areSigns_7 : decode prog_1_method_21_code 7 = .ok (.lload_n 0, 1) := by decide +kernel
theorem jd_S_areSigns_8 : decode prog_1_method_21_code 8 = .ok (.iload_n 2, 1) := by decide +kernel
theorem jd_S_areSigns_9 : decode prog_1_method_21_code 9 = .ok (.invokestatic 56, 3) := by decide +kernel
theorem jd_S_areSigns_12 : decode prog_1_method_21_code 12 = .ok (.istore_n 3, 1) := by decide +kernel
theorem jd_S_areSigns_13 : decode prog_1_method_21_code 13 = .ok (.iload_n 3, 1) := by decide +kernel
theorem jd_S_areSigns_14 : decode prog_1_method_21_code 14 = .ok (.ifCond .eq 17, 3) := by decide +kernel
theorem jd_S_areSigns_17 : decode prog_1_method_21_code 17 = .ok (.iload_n 3, 1) := by decide +kernel
theorem jd_S_areSigns_18 : decode prog_1_method_21_code 18 = .ok (.bipush 33, 2) := by decide +kernel
theorem jd_S_areSigns_20 : decode prog_1_method_21_code 20 = .ok (.if_icmp .lt 9, 3) := by decide +kernel
theorem jd_S_areSigns_23 : decode prog_1_method_21_code 23 = .ok (.iload_n 3, 1) := by decide +kernel
theorem jd_S_areSigns_24 : decode prog_1_method_21_code 24 = .ok (.bipush 126, 2) := by decide +kernel
theorem jd_S_areSigns_26 : decode prog_1_method_21_code 26 = .ok (.if_icmp .le 5, 3) := by decide +kernel
theorem jd_S_areSigns_29 : decode prog_1_method_21_code 29 = .ok (.iconst 0, 1) := by decide +kernel
theorem jd_S_areSigns_30 : decode prog_1_method_21_code 30 = .ok (.ireturn, 1) := by decide +kernel
theorem jd_S_areSigns_31 : decode prog_1_method_21_code 31 = .ok (.iinc 2 (-8), 3) := by decide +kernel
theorem jd_S_areSigns_34 : decode prog_1_method_21_code 34 = .ok (.goto (-31), 3) := by decide +kernel
theorem jd_S_areSigns_37 : decode prog_1_method_21_code 37 = .ok (.iconst 1, 1) := by decide +kernel
theorem jd_S_areSigns_38 : decode prog_1_method_21_code 38 = .ok (.ireturn, 1) := by decide +kernel
theorem jd_S_byteOf_0 : decode prog_1_method_20_code 0 = .ok (.lload_n 0, 1) := by decide +kernel
theorem jd_S_byteOf_1 : decode prog_1_method_20_code 1 = .ok (.iload_n 2, 1) := by decide +kernel
theorem jd_S_byteOf_2 : decode prog_1_method_20_code 2 = .ok (.lushr, 1) := by decide +kernel
theorem jd_S_byteOf_3 : decode prog_1_method_20_code 3 = .ok (.l2i, 1) := by decide +kernel
theorem jd_S_byteOf_4 : decode prog_1_method_20_code 4 = .ok (.sipush 255, 3) := by decide +kernel
theorem jd_S_byteOf_7 : decode prog_1_method_20_code 7 = .ok (.iand, 1) := by decide +kernel
theorem jd_S_byteOf_8 : decode prog_1_method_20_code 8 = .ok (.ireturn, 1) := by decide +kernel
theorem jd_S_signsIn_0 : decode prog_1_method_22_code 0 = .ok (.iconst 0, 1) := by decide +kernel
theorem jd_S_signsIn_1 : decode prog_1_method_22_code 1 = .ok (.istore_n 2, 1) := by decide +kernel
theorem jd_S_signsIn_2 : decode prog_1_method_22_code 2 = .ok (.bipush 56, 2) := by decide +kernel
theorem jd_S_signsIn_4 : decode prog_1_method_22_code 4 = .ok (.istore_n 3, 1) := by decide +kernel
theorem jd_S_signsIn_5 : decode prog_1_method_22_code 5 = .ok (.iload_n 3, 1) := by decide +kernel
theorem jd_S_signsIn_6 : decode prog_1_method_22_code 6 = .ok (.ifCond .lt 20, 3) := by decide +kernel
theorem jd_S_signsIn_9 : decode prog_1_method_22_code 9 = .ok (.lload_n 0, 1) := by decide +kernel
theorem jd_S_signsIn_10 : decode prog_1_method_22_code 10 = .ok (.iload_n 3, 1) := by decide +kernel
theorem jd_S_signsIn_11 : decode prog_1_method_22_code 11 = .ok (.invokestatic 56, 3) := by decide +kernel
theorem jd_S_signsIn_14 : decode prog_1_method_22_code 14 = .ok (.ifCond .eq 6, 3) := by decide +kernel
theorem jd_S_signsIn_17 : decode prog_1_method_22_code 17 = .ok (.iinc 2 1, 3) := by decide +kernel
theorem jd_S_signsIn_20 : decode prog_1_method_22_code 20 = .ok (.iinc 3 (-8), 3) := by decide +kernel
theorem jd_S_signsIn_23 : decode prog_1_method_22_code 23 = .ok (.goto (-18), 3) := by decide +kernel
theorem jd_S_signsIn_26 : decode prog_1_method_22_code 26 = .ok (.iload_n 2, 1) := by decide +kernel
theorem jd_S_signsIn_27 : decode prog_1_method_22_code 27 = .ok (.ireturn, 1) := by decide +kernel
theorem jd_T_append_0 : decode prog_8_method_3_code 0 = .ok (.aload_n 0, 1) := by decide +kernel
theorem jd_T_append_1 : decode prog_8_method_3_code 1 = .ok (.getfield 15, 3) := by decide +kernel
theorem jd_T_append_4 : decode prog_8_method_3_code 4 = .ok (.bipush 24, 2) := by decide +kernel
theorem jd_T_append_6 : decode prog_8_method_3_code 6 = .ok (.if_icmp .ge 24, 3) := by decide +kernel
theorem jd_T_append_9 : decode prog_8_method_3_code 9 = .ok (.aload_n 0, 1) := by decide +kernel
theorem jd_T_append_10 : decode prog_8_method_3_code 10 = .ok (.getfield 9, 3) := by decide +kernel
theorem jd_T_append_13 : decode prog_8_method_3_code 13 = .ok (.aload_n 0, 1) := by decide +kernel
theorem jd_T_append_14 : decode prog_8_method_3_code 14 = .ok (.getfield 15, 3) := by decide +kernel
theorem jd_T_append_17 : decode prog_8_method_3_code 17 = .ok (.iload_n 1, 1) := by decide +kernel
theorem jd_T_append_18 : decode prog_8_method_3_code 18 = .ok (.i2b, 1) := by decide +kernel
theorem jd_T_append_19 : decode prog_8_method_3_code 19 = .ok (.bastore, 1) := by decide +kernel
theorem jd_T_append_20 : decode prog_8_method_3_code 20 = .ok (.aload_n 0, 1) := by decide +kernel
theorem jd_T_append_21 : decode prog_8_method_3_code 21 = .ok (.dup, 1) := by decide +kernel
theorem jd_T_append_22 : decode prog_8_method_3_code 22 = .ok (.getfield 15, 3) := by decide +kernel
theorem jd_T_append_25 : decode prog_8_method_3_code 25 = .ok (.iconst 1, 1) := by decide +kernel
theorem jd_T_append_26 : decode prog_8_method_3_code 26 = .ok (.iadd, 1) := by decide +kernel
theorem jd_T_append_27 : decode prog_8_method_3_code 27 = .ok (.putfield 15, 3) := by decide +kernel
theorem jd_T_append_30 : decode prog_8_method_3_code 30 = .ok (.return_, 1) := by decide +kernel
theorem jd_S_clear_0 : decode prog_1_method_3_code 0 = .ok (.aload_n 0, 1) := by decide +kernel
theorem jd_S_clear_1 : decode prog_1_method_3_code 1 = .ok (.iload_n 1, 1) := by decide +kernel
theorem jd_S_clear_2 : decode prog_1_method_3_code 2 = .ok (.invokevirtual 40, 3) := by decide +kernel
theorem jd_S_clear_5 : decode prog_1_method_3_code 5 = .ok (.astore_n 2, 1) := by decide +kernel
theorem jd_S_clear_6 : decode prog_1_method_3_code 6 = .ok (.aload_n 2, 1) := by decide +kernel
theorem jd_S_clear_7 : decode prog_1_method_3_code 7 = .ok (.ifnonnull 5, 3) := by decide +kernel
theorem jd_S_clear_10 : decode prog_1_method_3_code 10 = .ok (.iconst (-1), 1) := by decide +kernel
theorem jd_S_clear_11 : decode prog_1_method_3_code 11 = .ok (.ireturn, 1) := by decide +kernel
theorem jd_S_clear_12 : decode prog_1_method_3_code 12 = .ok (.aload_n 2, 1) := by decide +kernel
theorem jd_S_clear_13 : decode prog_1_method_3_code 13 = .ok (.getfield 48, 3) := by decide +kernel
theorem jd_S_clear_16 : decode prog_1_method_3_code 16 = .ok (.istore_n 3, 1) := by decide +kernel
theorem jd_S_clear_17 : decode prog_1_method_3_code 17 = .ok (.aload_n 2, 1) := by decide +kernel
theorem jd_S_clear_18 : decode prog_1_method_3_code 18 = .ok (.iconst 0, 1) := by decide +kernel
theorem jd_S_clear_19 : decode prog_1_method_3_code 19 = .ok (.putfield 48, 3) := by decide +kernel
theorem jd_S_clear_22 : decode prog_1_method_3_code 22 = .ok (.iload_n 3, 1) := by decide +kernel
theorem jd_S_clear_23 : decode prog_1_method_3_code 23 = .ok (.ireturn, 1) := by decide +kernel
theorem jd_S_define_0 : decode prog_1_method_4_code 0 = .ok (.iload_n 1, 1) := by decide +kernel
theorem jd_S_define_1 : decode prog_1_method_4_code 1 = .ok (.ifCond .lt 8, 3) := by decide +kernel
theorem jd_S_define_4 : decode prog_1_method_4_code 4 = .ok (.iload_n 1, 1) := by decide +kernel
theorem jd_S_define_5 : decode prog_1_method_4_code 5 = .ok (.iconst 4, 1) := by decide +kernel
theorem jd_S_define_6 : decode prog_1_method_4_code 6 = .ok (.if_icmp .lt 5, 3) := by decide +kernel
theorem jd_S_define_9 : decode prog_1_method_4_code 9 = .ok (.iconst (-1), 1) := by decide +kernel
theorem jd_S_define_10 : decode prog_1_method_4_code 10 = .ok (.ireturn, 1) := by decide +kernel
theorem jd_S_define_11 : decode prog_1_method_4_code 11 = .ok (.aload_n 0, 1) := by decide +kernel
theorem jd_S_define_12 : decode prog_1_method_4_code 12 = .ok (.getfield 12, 3) := by decide +kernel
theorem jd_S_define_15 : decode prog_1_method_4_code 15 = .ok (.getfield 48, 3) := by decide +kernel
theorem jd_S_define_18 : decode prog_1_method_4_code 18 = .ok (.ifCond .ne 6, 3) := by decide +kernel
theorem jd_S_define_21 : decode prog_1_method_4_code 21 = .ok (.bipush (-2), 2) := by decide +kernel
theorem jd_S_define_23 : decode prog_1_method_4_code 23 = .ok (.ireturn, 1) := by decide +kernel
theorem jd_S_define_24 : decode prog_1_method_4_code 24 = .ok (.aload_n 0, 1) := by decide +kernel
theorem jd_S_define_25 : decode prog_1_method_4_code 25 = .ok (.getfield 21, 3) := by decide +kernel
theorem jd_S_define_28 : decode prog_1_method_4_code 28 = .ok (.iload_n 1, 1) := by decide +kernel
theorem jd_S_define_29 : decode prog_1_method_4_code 29 = .ok (.aaload, 1) := by decide +kernel
theorem jd_S_define_30 : decode prog_1_method_4_code 30 = .ok (.aload_n 0, 1) := by decide +kernel
theorem jd_S_define_31 : decode prog_1_method_4_code 31 = .ok (.getfield 12, 3) := by decide +kernel
theorem jd_S_define_34 : decode prog_1_method_4_code 34 = .ok (.iload_n 2, 1) := by decide +kernel
theorem jd_S_define_35 : decode prog_1_method_4_code 35 = .ok (.ldc 64, 2) := by decide +kernel
theorem jd_S_define_37 : decode prog_1_method_4_code 37 = .ok (.iand, 1) := by decide +kernel
theorem jd_S_define_38 : decode prog_1_method_4_code 38 = .ok (.invokevirtual 65, 3) := by decide +kernel
theorem jd_S_define_41 : decode prog_1_method_4_code 41 = .ok (.iconst 0, 1) := by decide +kernel
theorem jd_S_define_42 : decode prog_1_method_4_code 42 = .ok (.ireturn, 1) := by decide +kernel
theorem jd_D_begin_0 : decode prog_2_method_2_code 0 = .ok (.aload_n 0, 1) := by decide +kernel
theorem jd_D_begin_1 : decode prog_2_method_2_code 1 = .ok (.iconst 1, 1) := by decide +kernel
theorem jd_D_begin_2 : decode prog_2_method_2_code 2 = .ok (.putfield 9, 3) := by decide +kernel
theorem jd_D_begin_5 : decode prog_2_method_2_code 5 = .ok (.aload_n 0, 1) := by decide +kernel
theorem jd_D_begin_6 : decode prog_2_method_2_code 6 = .ok (.getfield 18, 3) := by decide +kernel
theorem jd_D_begin_9 : decode prog_2_method_2_code 9 = .ok (.aload_n 1, 1) := by decide +kernel
theorem jd_D_begin_10 : decode prog_2_method_2_code 10 = .ok (.invokevirtual 45, 3) := by decide +kernel
theorem jd_D_begin_13 : decode prog_2_method_2_code 13 = .ok (.aload_n 0, 1) := by decide +kernel
theorem jd_D_begin_14 : decode prog_2_method_2_code 14 = .ok (.iload_n 2, 1) := by decide +kernel
theorem jd_D_begin_15 : decode prog_2_method_2_code 15 = .ok (.putfield 22, 3) := by decide +kernel
theorem jd_D_begin_18 : decode prog_2_method_2_code 18 = .ok (.aload_n 0, 1) := by decide +kernel
theorem jd_D_begin_19 : decode prog_2_method_2_code 19 = .ok (.getfield 31, 3) := by decide +kernel
theorem jd_D_begin_22 : decode prog_2_method_2_code 22 = .ok (.iconst 0, 1) := by decide +kernel
theorem jd_D_begin_23 : decode prog_2_method_2_code 23 = .ok (.putfield 49, 3) := by decide +kernel
theorem jd_D_begin_26 : decode prog_2_method_2_code 26 = .ok (.aload_n 0, 1) := by decide +kernel
theorem jd_D_begin_27 : decode prog_2_method_2_code 27 = .ok (.getfield 35, 3) := by decide +kernel
theorem jd_D_begin_30 : decode prog_2_method_2_code 30 = .ok (.iconst 0, 1) := by decide +kernel
theorem jd_D_begin_31 : decode prog_2_method_2_code 31 = .ok (.putfield 49, 3) := by decide +kernel
theorem jd_D_begin_34 : decode prog_2_method_2_code 34 = .ok (.aload_n 0, 1) := by decide +kernel
theorem jd_D_begin_35 : decode prog_2_method_2_code 35 = .ok (.iconst 0, 1) := by decide +kernel
theorem jd_D_begin_36 : decode prog_2_method_2_code 36 = .ok (.putfield 38, 3) := by decide +kernel
theorem jd_D_begin_39 : decode prog_2_method_2_code 39 = .ok (.return_, 1) := by decide +kernel
theorem jd_T_become_0 : decode prog_8_method_4_code 0 = .ok (.aload_n 1, 1) := by decide +kernel
theorem jd_T_become_1 : decode prog_8_method_4_code 1 = .ok (.getfield 9, 3) := by decide +kernel
theorem jd_T_become_4 : decode prog_8_method_4_code 4 = .ok (.iconst 0, 1) := by decide +kernel
theorem jd_T_become_5 : decode prog_8_method_4_code 5 = .ok (.aload_n 0, 1) := by decide +kernel
theorem jd_T_become_6 : decode prog_8_method_4_code 6 = .ok (.getfield 9, 3) := by decide +kernel
theorem jd_T_become_9 : decode prog_8_method_4_code 9 = .ok (.iconst 0, 1) := by decide +kernel
theorem jd_T_become_10 : decode prog_8_method_4_code 10 = .ok (.aload_n 1, 1) := by decide +kernel
theorem jd_T_become_11 : decode prog_8_method_4_code 11 = .ok (.getfield 15, 3) := by decide +kernel
theorem jd_T_become_14 : decode prog_8_method_4_code 14 = .ok (.invokestatic 19, 3) := by decide +kernel
theorem jd_T_become_17 : decode prog_8_method_4_code 17 = .ok (.aload_n 0, 1) := by decide +kernel
theorem jd_T_become_18 : decode prog_8_method_4_code 18 = .ok (.aload_n 1, 1) := by decide +kernel
theorem jd_T_become_19 : decode prog_8_method_4_code 19 = .ok (.getfield 15, 3) := by decide +kernel
theorem jd_T_become_22 : decode prog_8_method_4_code 22 = .ok (.putfield 15, 3) := by decide +kernel
theorem jd_T_become_25 : decode prog_8_method_4_code 25 = .ok (.return_, 1) := by decide +kernel
theorem jd_S_face_0 : decode prog_1_method_5_code 0 = .ok (.aload_n 0, 1) := by decide +kernel
theorem jd_S_face_1 : decode prog_1_method_5_code 1 = .ok (.iload_n 1, 1) := by decide +kernel
theorem jd_S_face_2 : decode prog_1_method_5_code 2 = .ok (.invokevirtual 69, 3) := by decide +kernel
theorem jd_S_face_5 : decode prog_1_method_5_code 5 = .ok (.astore_n 2, 1) := by decide +kernel
theorem jd_S_face_6 : decode prog_1_method_5_code 6 = .ok (.aload_n 2, 1) := by decide +kernel
theorem jd_S_face_7 : decode prog_1_method_5_code 7 = .ok (.ifnonnull 5, 3) := by decide +kernel
theorem jd_S_face_10 : decode prog_1_method_5_code 10 = .ok (.iconst (-1), 1) := by decide +kernel
theorem jd_S_face_11 : decode prog_1_method_5_code 11 = .ok (.ireturn, 1) := by decide +kernel
theorem jd_S_face_12 : decode prog_1_method_5_code 12 = .ok (.aload_n 0, 1) := by decide +kernel
theorem jd_S_face_13 : decode prog_1_method_5_code 13 = .ok (.getfield 12, 3) := by decide +kernel
theorem jd_S_face_16 : decode prog_1_method_5_code 16 = .ok (.getfield 48, 3) := by decide +kernel
theorem jd_S_face_19 : decode prog_1_method_5_code 19 = .ok (.ifCond .ne 6, 3) := by decide +kernel
theorem jd_S_face_22 : decode prog_1_method_5_code 22 = .ok (.bipush (-2), 2) := by decide +kernel
theorem jd_S_face_24 : decode prog_1_method_5_code 24 = .ok (.ireturn, 1) := by decide +kernel
theorem jd_S_face_25 : decode prog_1_method_5_code 25 = .ok (.aload_n 2, 1) := by decide +kernel
theorem jd_S_face_26 : decode prog_1_method_5_code 26 = .ok (.getfield 73, 3) := by decide +kernel
theorem jd_S_face_29 : decode prog_1_method_5_code 29 = .ok (.iconst 4, 1) := by decide +kernel
theorem jd_S_face_30 : decode prog_1_method_5_code 30 = .ok (.iconst 0, 1) := by decide +kernel
theorem jd_S_face_31 : decode prog_1_method_5_code 31 = .ok (.aload_n 0, 1) := by decide +kernel
theorem jd_S_face_32 : decode prog_1_method_5_code 32 = .ok (.getfield 12, 3) := by decide +kernel
theorem jd_S_face_35 : decode prog_1_method_5_code 35 = .ok (.aload_n 0, 1) := by decide +kernel
theorem jd_S_face_36 : decode prog_1_method_5_code 36 = .ok (.getfield 16, 3) := by decide +kernel
theorem jd_S_face_39 : decode prog_1_method_5_code 39 = .ok (.invokevirtual 77, 3) := by decide +kernel
theorem jd_S_face_42 : decode prog_1_method_5_code 42 = .ok (.ireturn, 1) := by decide +kernel
theorem jd_S_declarationOf_0 : decode prog_1_method_16_code 0 = .ok (.iload_n 1, 1) := by decide +kernel
theorem jd_S_declarationOf_1 : decode prog_1_method_16_code 1 = .ok (.ifCond .lt 20, 3) := by decide +kernel
theorem jd_S_declarationOf_4 : decode prog_1_method_16_code 4 = .ok (.iload_n 1, 1) := by decide +kernel
theorem jd_S_declarationOf_5 : decode prog_1_method_16_code 5 = .ok (.iconst 4, 1) := by decide +kernel
theorem jd_S_declarationOf_6 : decode prog_1_method_16_code 6 = .ok (.if_icmp .ge 15, 3) := by decide +kernel
theorem jd_S_declarationOf_9 : decode prog_1_method_16_code 9 = .ok (.aload_n 0, 1) := by decide +kernel
theorem jd_S_declarationOf_10 : decode prog_1_method_16_code 10 = .ok (.getfield 21, 3) := by decide +kernel
theorem jd_S_declarationOf_13 : decode prog_1_method_16_code 13 = .ok (.iload_n 1, 1) := by decide +kernel
theorem jd_S_declarationOf_14 : decode prog_1_method_16_code 14 = .ok (.aaload, 1) := by decide +kernel
theorem jd_S_declarationOf_15 : decode prog_1_method_16_code 15 = .ok (.getfield 143, 3) := by decide +kernel
theorem jd_S_declarationOf_18 : decode prog_1_method_16_code 18 = .ok (.ifCond .ne 5, 3) := by decide +kernel
theorem jd_S_declarationOf_21 : decode prog_1_method_16_code 21 = .ok (.aconst_null, 1) := by decide +kernel
theorem jd_S_declarationOf_22 : decode prog_1_method_16_code 22 = .ok (.areturn, 1) := by decide +kernel
theorem jd_S_declarationOf_23 : decode prog_1_method_16_code 23 = .ok (.aload_n 0, 1) := by decide +kernel
theorem jd_S_declarationOf_24 : decode prog_1_method_16_code 24 = .ok (.getfield 21, 3) := by decide +kernel
theorem jd_S_declarationOf_27 : decode prog_1_method_16_code 27 = .ok (.iload_n 1, 1) := by decide +kernel
theorem jd_S_declarationOf_28 : decode prog_1_method_16_code 28 = .ok (.aaload, 1) := by decide +kernel
theorem jd_S_declarationOf_29 : decode prog_1_method_16_code 29 = .ok (.areturn, 1) := by decide +kernel
theorem jd_R_enter_0 : decode prog_6_method_2_code 0 = .ok (.aload_n 0, 1) := by decide +kernel
theorem jd_R_enter_1 : decode prog_6_method_2_code 1 = .ok (.iload_n 1, 1) := by decide +kernel
theorem jd_R_enter_2 : decode prog_6_method_2_code 2 = .ok (.aload_n 3, 1) := by decide +kernel
theorem jd_R_enter_3 : decode prog_6_method_2_code 3 = .ok (.aload 4, 2) := by decide +kernel
theorem jd_R_enter_5 : decode prog_6_method_2_code 5 = .ok (.invokevirtual 22, 3) := by decide +kernel
theorem jd_R_enter_8 : decode prog_6_method_2_code 8 = .ok (.istore 5, 2) := by decide +kernel
theorem jd_R_enter_10 : decode prog_6_method_2_code 10 = .ok (.aload_n 0, 1) := by decide +kernel
theorem jd_R_enter_11 : decode prog_6_method_2_code 11 = .ok (.iload 5, 2) := by decide +kernel
theorem jd_R_enter_13 : decode prog_6_method_2_code 13 = .ok (.iload_n 1, 1) := by decide +kernel
theorem jd_R_enter_14 : decode prog_6_method_2_code 14 = .ok (.aload_n 3, 1) := by decide +kernel
theorem jd_R_enter_15 : decode prog_6_method_2_code 15 = .ok (.aload 4, 2) := by decide +kernel
theorem jd_R_enter_17 : decode prog_6_method_2_code 17 = .ok (.invokevirtual 26, 3) := by decide +kernel
theorem jd_R_enter_20 : decode prog_6_method_2_code 20 = .ok (.ifCond .eq 6, 3) := by decide +kernel
theorem jd_R_enter_23 : decode prog_6_method_2_code 23 = .ok (.bipush (-3), 2) := by decide +kernel
theorem jd_R_enter_25 : decode prog_6_method_2_code 25 = .ok (.ireturn, 1) := by decide +kernel
theorem jd_R_enter_26 : decode prog_6_method_2_code 26 = .ok (.aload_n 0, 1) := by decide +kernel
theorem jd_R_enter_27 : decode prog_6_method_2_code 27 = .ok (.getfield 9, 3) := by decide +kernel
theorem jd_R_enter_30 : decode prog_6_method_2_code 30 = .ok (.aload_n 0, 1) := by decide +kernel
theorem jd_R_enter_31 : decode prog_6_method_2_code 31 = .ok (.getfield 17, 3) := by decide +kernel
theorem jd_R_enter_34 : decode prog_6_method_2_code 34 = .ok (.arraylength, 1) := by decide +kernel
theorem jd_R_enter_35 : decode prog_6_method_2_code 35 = .ok (.if_icmp .lt 6, 3) := by decide +kernel
theorem jd_R_enter_38 : decode prog_6_method_2_code 38 = .ok (.bipush (-4), 2) := by decide +kernel
theorem jd_R_enter_40 : decode prog_6_method_2_code 40 = .ok (.ireturn, 1) := by decide +kernel
theorem jd_R_enter_41 : decode prog_6_method_2_code 41 = .ok (.aload_n 0, 1) := by decide +kernel
theorem jd_R_enter_42 : decode prog_6_method_2_code 42 = .ok (.getfield 17, 3) := by decide +kernel
theorem jd_R_enter_45 : decode prog_6_method_2_code 45 = .ok (.aload_n 0, 1) := by decide +kernel
theorem jd_R_enter_46 : decode prog_6_method_2_code 46 = .ok (.getfield 9, 3) := by decide +kernel
theorem jd_R_enter_49 : decode prog_6_method_2_code 49 = .ok (.aaload, 1) := by decide +kernel
theorem jd_R_enter_50 : decode prog_6_method_2_code 50 = .ok (.astore 6, 2) := by decide +kernel
theorem jd_R_enter_52 : decode prog_6_method_2_code 52 = .ok (.aload_n 0, 1) := by decide +kernel
theorem jd_R_enter_53 : decode prog_6_method_2_code 53 = .ok (.getfield 9, 3) := by decide +kernel
theorem jd_R_enter_56 : decode prog_6_method_2_code 56 = .ok (.istore 7, 2) := by decide +kernel
theorem jd_R_enter_58 : decode prog_6_method_2_code 58 = .ok (.iload 7, 2) := by decide +kernel
theorem jd_R_enter_60 : decode prog_6_method_2_code 60 = .ok (.iload 5, 2) := by decide +kernel
theorem jd_R_enter_62 : decode prog_6_method_2_code 62 = .ok (.if_icmp .le 25, 3) := by decide +kernel
theorem jd_R_enter_65 : decode prog_6_method_2_code 65 = .ok (.aload_n 0, 1) := by decide +kernel
theorem jd_R_enter_66 : decode prog_6_method_2_code 66 = .ok (.getfield 17, 3) := by decide +kernel
theorem jd_R_enter_69 : decode prog_6_method_2_code 69 = .ok (.iload 7, 2) := by decide +kernel
theorem jd_R_enter_71 : decode prog_6_method_2_code 71 = .ok (.aload_n 0, 1) := by decide +kernel
theorem jd_R_enter_72 : decode prog_6_method_2_code 72 = .ok (.getfield 17, 3) := by decide +kernel
theorem jd_R_enter_75 : decode prog_6_method_2_code 75 = .ok (.iload 7, 2) := by decide +kernel
theorem jd_R_enter_77 : decode prog_6_method_2_code 77 = .ok (.iconst 1, 1) := by decide +kernel
theorem jd_R_enter_78 : decode prog_6_method_2_code 78 = .ok (.isub, 1) := by decide +kernel
theorem jd_R_enter_79 : decode prog_6_method_2_code 79 = .ok (.aaload, 1) := by decide +kernel
theorem jd_R_enter_80 : decode prog_6_method_2_code 80 = .ok (.aastore, 1) := by decide +kernel
theorem jd_R_enter_81 : decode prog_6_method_2_code 81 = .ok (.iinc 7 (-1), 3) := by decide +kernel
theorem jd_R_enter_84 : decode prog_6_method_2_code 84 = .ok (.goto (-26), 3) := by decide +kernel
theorem jd_R_enter_87 : decode prog_6_method_2_code 87 = .ok (.aload 6, 2) := by decide +kernel
theorem jd_R_enter_89 : decode prog_6_method_2_code 89 = .ok (.iload_n 1, 1) := by decide +kernel
theorem jd_R_enter_90 : decode prog_6_method_2_code 90 = .ok (.iload_n 2, 1) := by decide +kernel
theorem jd_R_enter_91 : decode prog_6_method_2_code 91 = .ok (.aload_n 3, 1) := by decide +kernel
theorem jd_R_enter_92 : decode prog_6_method_2_code 92 = .ok (.aload 4, 2) := by decide +kernel
theorem jd_R_enter_94 : decode prog_6_method_2_code 94 = .ok (.invokevirtual 30, 3) := by decide +kernel
theorem jd_R_enter_97 : decode prog_6_method_2_code 97 = .ok (.aload_n 0, 1) := by decide +kernel
theorem jd_R_enter_98 : decode prog_6_method_2_code 98 = .ok (.getfield 17, 3) := by decide +kernel
theorem jd_R_enter_101 : decode prog_6_method_2_code 101 = .ok (.iload 5, 2) := by decide +kernel
theorem jd_R_enter_103 : decode prog_6_method_2_code 103 = .ok (.aload 6, 2) := by decide +kernel
theorem jd_R_enter_105 : decode prog_6_method_2_code 105 = .ok (.aastore, 1) := by decide +kernel
theorem jd_R_enter_106 : decode prog_6_method_2_code 106 = .ok (.aload_n 0, 1) := by decide +kernel
theorem jd_R_enter_107 : decode prog_6_method_2_code 107 = .ok (.dup, 1) := by decide +kernel
theorem jd_R_enter_108 : decode prog_6_method_2_code 108 = .ok (.getfield 9, 3) := by decide +kernel
theorem jd_R_enter_111 : decode prog_6_method_2_code 111 = .ok (.iconst 1, 1) := by decide +kernel
theorem jd_R_enter_112 : decode prog_6_method_2_code 112 = .ok (.iadd, 1) := by decide +kernel
theorem jd_R_enter_113 : decode prog_6_method_2_code 113 = .ok (.putfield 9, 3) := by decide +kernel
theorem jd_R_enter_116 : decode prog_6_method_2_code 116 = .ok (.aload_n 0, 1) := by decide +kernel
theorem jd_R_enter_117 : decode prog_6_method_2_code 117 = .ok (.getfield 9, 3) := by decide +kernel
theorem jd_R_enter_120 : decode prog_6_method_2_code 120 = .ok (.ireturn, 1) := by decide +kernel
theorem jd_R_placeOf_0 : decode prog_6_method_5_code 0 = .ok (.iconst 0, 1) := by decide +kernel
theorem jd_R_placeOf_1 : decode prog_6_method_5_code 1 = .ok (.istore 4, 2) := by decide +kernel
theorem jd_R_placeOf_3 : decode prog_6_method_5_code 3 = .ok (.iload 4, 2) := by decide +kernel
theorem jd_R_placeOf_5 : decode prog_6_method_5_code 5 = .ok (.aload_n 0, 1) := by decide +kernel
theorem jd_R_placeOf_6 : decode prog_6_method_5_code 6 = .ok (.getfield 9, 3) := by decide +kernel
theorem jd_R_placeOf_9 : decode prog_6_method_5_code 9 = .ok (.if_icmp .ge 25, 3) := by decide +kernel
theorem jd_R_placeOf_12 : decode prog_6_method_5_code 12 = .ok (.aload_n 0, 1) := by decide +kernel
theorem jd_R_placeOf_13 : decode prog_6_method_5_code 13 = .ok (.getfield 17, 3) := by decide +kernel
theorem jd_R_placeOf_16 : decode prog_6_method_5_code 16 = .ok (.iload 4, 2) := by decide +kernel
theorem jd_R_placeOf_18 : decode prog_6_method_5_code 18 = .ok (.aaload, 1) := by decide +kernel
theorem jd_R_placeOf_19 : decode prog_6_method_5_code 19 = .ok (.iload_n 1, 1) := by decide +kernel
theorem jd_R_placeOf_20 : decode prog_6_method_5_code 20 = .ok (.aload_n 2, 1) := by decide +kernel
theorem jd_R_placeOf_21 : decode prog_6_method_5_code 21 = .ok (.aload_n 3, 1) := by decide +kernel
theorem jd_R_placeOf_22 : decode prog_6_method_5_code 22 = .ok (.invokevirtual 37, 3) := by decide +kernel
theorem jd_R_placeOf_25 : decode prog_6_method_5_code 25 = .ok (.ifCond .ge 9, 3) := by decide +kernel
theorem jd_R_placeOf_28 : decode prog_6_method_5_code 28 = .ok (.iinc 4 1, 3) := by decide +kernel
theorem jd_R_placeOf_31 : decode prog_6_method_5_code 31 = .ok (.goto (-28), 3) := by decide +kernel
theorem jd_R_placeOf_34 : decode prog_6_method_5_code 34 = .ok (.iload 4, 2) := by decide +kernel
theorem jd_R_placeOf_36 : decode prog_6_method_5_code 36 = .ok (.ireturn, 1) := by decide +kernel
theorem jd_E_compareWith_0 : decode prog_4_method_3_code 0 = .ok (.aload_n 0, 1) := by decide +kernel
theorem jd_E_compareWith_1 : decode prog_4_method_3_code 1 = .ok (.getfield 9, 3) := by decide +kernel
theorem jd_E_compareWith_4 : decode prog_4_method_3_code 4 = .ok (.iload_n 1, 1) := by decide +kernel
theorem jd_E_compareWith_5 : decode prog_4_method_3_code 5 = .ok (.if_icmp .eq 10, 3) := by decide +kernel
theorem jd_E_compareWith_8 : decode prog_4_method_3_code 8 = .ok (.aload_n 0, 1) := by decide +kernel
theorem jd_E_compareWith_9 : decode prog_4_method_3_code 9 = .ok (.getfield 9, 3) := by decide +kernel
theorem jd_E_compareWith_12 : decode prog_4_method_3_code 12 = .ok (.iload_n 1, 1) := by decide +kernel
theorem jd_E_compareWith_13 : decode prog_4_method_3_code 13 = .ok (.isub, 1) := by decide +kernel
theorem jd_E_compareWith_14 : decode prog_4_method_3_code 14 = .ok (.ireturn, 1) := by decide +kernel
theorem jd_E_compareWith_15 : decode prog_4_method_3_code 15 = .ok (.aload_n 0, 1) := by decide +kernel
theorem jd_E_compareWith_16 : decode prog_4_method_3_code 16 = .ok (.getfield 9, 3) := by decide +kernel
theorem jd_E_compareWith_19 : decode prog_4_method_3_code 19 = .ok (.tableswitch 65 1 3 #[25, 34, 63], 25) := by decide +kernel
theorem jd_E_compareWith_44 : decode prog_4_method_3_code 44 = .ok (.aload_n 0, 1) := by decide +kernel
theorem jd_E_compareWith_45 : decode prog_4_method_3_code 45 = .ok (.getfield 25, 3) := by decide +kernel
theorem jd_E_compareWith_48 : decode prog_4_method_3_code 48 = .ok (.aload_n 3, 1) := by decide +kernel
theorem jd_E_compareWith_49 : decode prog_4_method_3_code 49 = .ok (.invokevirtual 32, 3) := by decide +kernel
theorem jd_E_compareWith_52 : decode prog_4_method_3_code 52 = .ok (.ireturn, 1) := by decide +kernel
theorem jd_E_compareWith_53 : decode prog_4_method_3_code 53 = .ok (.aload_n 0, 1) := by decide +kernel
theorem jd_E_compareWith_54 : decode prog_4_method_3_code 54 = .ok (.getfield 21, 3) := by decide +kernel
theorem jd_E_compareWith_57 : decode prog_4_method_3_code 57 = .ok (.aload_n 2, 1) := by decide +kernel
theorem jd_E_compareWith_58 : decode prog_4_method_3_code 58 = .ok (.invokevirtual 32, 3) := by decide +kernel
theorem jd_E_compareWith_61 : decode prog_4_method_3_code 61 = .ok (.istore 4, 2) := by decide +kernel
theorem jd_E_compareWith_63 : decode prog_4_method_3_code 63 = .ok (.iload 4, 2) := by decide +kernel
theorem jd_E_compareWith_65 : decode prog_4_method_3_code 65 = .ok (.ifCond .eq 8, 3) := by decide +kernel
theorem jd_E_compareWith_68 : decode prog_4_method_3_code 68 = .ok (.iload 4, 2) := by decide +kernel
theorem jd_E_compareWith_70 : decode prog_4_method_3_code 70 = .ok (.goto 11, 3) := by decide +kernel
theorem jd_E_compareWith_73 : decode prog_4_method_3_code 73 = .ok (.aload_n 0, 1) := by decide +kernel
theorem jd_E_compareWith_74 : decode prog_4_method_3_code 74 = .ok (.getfield 25, 3) := by decide +kernel
theorem jd_E_compareWith_77 : decode prog_4_method_3_code 77 = .ok (.aload_n 3, 1) := by decide +kernel
theorem jd_E_compareWith_78 : decode prog_4_method_3_code 78 = .ok (.invokevirtual 32, 3) := by decide +kernel
theorem jd_E_compareWith_81 : decode prog_4_method_3_code 81 = .ok (.ireturn, 1) := by decide +kernel
theorem jd_E_compareWith_82 : decode prog_4_method_3_code 82 = .ok (.iconst 0, 1) := by decide +kernel
theorem jd_E_compareWith_83 : decode prog_4_method_3_code 83 = .ok (.ireturn, 1) := by decide +kernel
theorem jd_E_compareWith_84 : decode prog_4_method_3_code 84 = .ok (.aload_n 0, 1) := by decide +kernel
theorem jd_E_compareWith_85 : decode prog_4_method_3_code 85 = .ok (.getfield 21, 3) := by decide +kernel
theorem jd_E_compareWith_88 : decode prog_4_method_3_code 88 = .ok (.aload_n 2, 1) := by decide +kernel
theorem jd_E_compareWith_89 : decode prog_4_method_3_code 89 = .ok (.invokevirtual 32, 3) := by decide +kernel
theorem jd_E_compareWith_92 : decode prog_4_method_3_code 92 = .ok (.ireturn, 1) := by decide +kernel
theorem jd_T_compareWith_0 : decode prog_8_method_5_code 0 = .ok (.aload_n 0, 1) := by decide +kernel
theorem jd_T_compareWith_1 : decode prog_8_method_5_code 1 = .ok (.getfield 15, 3) := by decide +kernel
theorem jd_T_compareWith_4 : decode prog_8_method_5_code 4 = .ok (.aload_n 1, 1) := by decide +kernel
theorem jd_T_compareWith_5 : decode prog_8_method_5_code 5 = .ok (.getfield 15, 3) := by decide +kernel
theorem jd_T_compareWith_8 : decode prog_8_method_5_code 8 = .ok (.invokestatic 25, 3) := by decide +kernel
theorem jd_T_compareWith_11 : decode prog_8_method_5_code 11 = .ok (.istore_n 2, 1) := by decide +kernel
theorem jd_T_compareWith_12 : decode prog_8_method_5_code 12 = .ok (.iconst 0, 1) := by decide +kernel
theorem jd_T_compareWith_13 : decode prog_8_method_5_code 13 = .ok (.istore_n 3, 1) := by decide +kernel
theorem jd_T_compareWith_14 : decode prog_8_method_5_code 14 = .ok (.iload_n 3, 1) := by decide +kernel
theorem jd_T_compareWith_15 : decode prog_8_method_5_code 15 = .ok (.iload_n 2, 1) := by decide +kernel
theorem jd_T_compareWith_16 : decode prog_8_method_5_code 16 = .ok (.if_icmp .ge 38, 3) := by decide +kernel
theorem jd_T_compareWith_19 : decode prog_8_method_5_code 19 = .ok (.aload_n 0, 1) := by decide +kernel
theorem jd_T_compareWith_20 : decode prog_8_method_5_code 20 = .ok (.getfield 9, 3) := by decide +kernel
theorem jd_T_compareWith_23 : decode prog_8_method_5_code 23 = .ok (.iload_n 3, 1) := by decide +kernel
theorem jd_T_compareWith_24 : decode prog_8_method_5_code 24 = .ok (.baload, 1) := by decide +kernel
theorem jd_T_compareWith_25 : decode prog_8_method_5_code 25 = .ok (.aload_n 1, 1) := by decide +kernel
theorem jd_T_compareWith_26 : decode prog_8_method_5_code 26 = .ok (.getfield 9, 3) := by decide +kernel
theorem jd_T_compareWith_29 : decode prog_8_method_5_code 29 = .ok (.iload_n 3, 1) := by decide +kernel
theorem jd_T_compareWith_30 : decode prog_8_method_5_code 30 = .ok (.baload, 1) := by decide +kernel
theorem jd_T_compareWith_31 : decode prog_8_method_5_code 31 = .ok (.if_icmp .eq 17, 3) := by decide +kernel
theorem jd_T_compareWith_34 : decode prog_8_method_5_code 34 = .ok (.aload_n 0, 1) := by decide +kernel
theorem jd_T_compareWith_35 : decode prog_8_method_5_code 35 = .ok (.getfield 9, 3) := by decide +kernel
theorem jd_T_compareWith_38 : decode prog_8_method_5_code 38 = .ok (.iload_n 3, 1) := by decide +kernel
theorem jd_T_compareWith_39 : decode prog_8_method_5_code 39 = .ok (.baload, 1) := by decide +kernel
theorem jd_T_compareWith_40 : decode prog_8_method_5_code 40 = .ok (.aload_n 1, 1) := by decide +kernel
theorem jd_T_compareWith_41 : decode prog_8_method_5_code 41 = .ok (.getfield 9, 3) := by decide +kernel
theorem jd_T_compareWith_44 : decode prog_8_method_5_code 44 = .ok (.iload_n 3, 1) := by decide +kernel
theorem jd_T_compareWith_45 : decode prog_8_method_5_code 45 = .ok (.baload, 1) := by decide +kernel
theorem jd_T_compareWith_46 : decode prog_8_method_5_code 46 = .ok (.isub, 1) := by decide +kernel
theorem jd_T_compareWith_47 : decode prog_8_method_5_code 47 = .ok (.ireturn, 1) := by decide +kernel
theorem jd_T_compareWith_48 : decode prog_8_method_5_code 48 = .ok (.iinc 3 1, 3) := by decide +kernel
theorem jd_T_compareWith_51 : decode prog_8_method_5_code 51 = .ok (.goto (-37), 3) := by decide +kernel
theorem jd_T_compareWith_54 : decode prog_8_method_5_code 54 = .ok (.aload_n 0, 1) := by decide +kernel
theorem jd_T_compareWith_55 : decode prog_8_method_5_code 55 = .ok (.getfield 15, 3) := by decide +kernel
theorem jd_T_compareWith_58 : decode prog_8_method_5_code 58 = .ok (.aload_n 1, 1) := by decide +kernel
theorem jd_T_compareWith_59 : decode prog_8_method_5_code 59 = .ok (.getfield 15, 3) := by decide +kernel
theorem jd_T_compareWith_62 : decode prog_8_method_5_code 62 = .ok (.isub, 1) := by decide +kernel
theorem jd_T_compareWith_63 : decode prog_8_method_5_code 63 = .ok (.ireturn, 1) := by decide +kernel
theorem jd_R_isAt_0 : decode prog_6_method_6_code 0 = .ok (.iload_n 1, 1) := by decide +kernel
theorem jd_R_isAt_1 : decode prog_6_method_6_code 1 = .ok (.aload_n 0, 1) := by decide +kernel
theorem jd_R_isAt_2 : decode prog_6_method_6_code 2 = .ok (.getfield 9, 3) := by decide +kernel
theorem jd_R_isAt_5 : decode prog_6_method_6_code 5 = .ok (.if_icmp .ge 23, 3) := by decide +kernel
theorem jd_R_isAt_8 : decode prog_6_method_6_code 8 = .ok (.aload_n 0, 1) := by decide +kernel
theorem jd_R_isAt_9 : decode prog_6_method_6_code 9 = .ok (.getfield 17, 3) := by decide +kernel
theorem jd_R_isAt_12 : decode prog_6_method_6_code 12 = .ok (.iload_n 1, 1) := by decide +kernel
theorem jd_R_isAt_13 : decode prog_6_method_6_code 13 = .ok (.aaload, 1) := by decide +kernel
theorem jd_R_isAt_14 : decode prog_6_method_6_code 14 = .ok (.iload_n 2, 1) := by decide +kernel
theorem jd_R_isAt_15 : decode prog_6_method_6_code 15 = .ok (.aload_n 3, 1) := by decide +kernel
theorem jd_R_isAt_16 : decode prog_6_method_6_code 16 = .ok (.aload 4, 2) := by decide +kernel
theorem jd_R_isAt_18 : decode prog_6_method_6_code 18 = .ok (.invokevirtual 37, 3) := by decide +kernel
theorem jd_R_isAt_21 : decode prog_6_method_6_code 21 = .ok (.ifCond .ne 7, 3) := by decide +kernel
theorem jd_R_isAt_24 : decode prog_6_method_6_code 24 = .ok (.iconst 1, 1) := by decide +kernel
theorem jd_R_isAt_25 : decode prog_6_method_6_code 25 = .ok (.goto 4, 3) := by decide +kernel
theorem jd_R_isAt_28 : decode prog_6_method_6_code 28 = .ok (.iconst 0, 1) := by decide +kernel
theorem jd_R_isAt_29 : decode prog_6_method_6_code 29 = .ok (.ireturn, 1) := by decide +kernel
theorem jd_E_become_0 : decode prog_4_method_2_code 0 = .ok (.aload_n 0, 1) := by decide +kernel
theorem jd_E_become_1 : decode prog_4_method_2_code 1 = .ok (.iload_n 1, 1) := by decide +kernel
theorem jd_E_become_2 : decode prog_4_method_2_code 2 = .ok (.putfield 9, 3) := by decide +kernel
theorem jd_E_become_5 : decode prog_4_method_2_code 5 = .ok (.aload_n 0, 1) := by decide +kernel
theorem jd_E_become_6 : decode prog_4_method_2_code 6 = .ok (.iload_n 2, 1) := by decide +kernel
theorem jd_E_become_7 : decode prog_4_method_2_code 7 = .ok (.putfield 15, 3) := by decide +kernel
theorem jd_E_become_10 : decode prog_4_method_2_code 10 = .ok (.aload_n 0, 1) := by decide +kernel
theorem jd_E_become_11 : decode prog_4_method_2_code 11 = .ok (.getfield 21, 3) := by decide +kernel
theorem jd_E_become_14 : decode prog_4_method_2_code 14 = .ok (.aload_n 3, 1) := by decide +kernel
theorem jd_E_become_15 : decode prog_4_method_2_code 15 = .ok (.invokevirtual 28, 3) := by decide +kernel
theorem jd_E_become_18 : decode prog_4_method_2_code 18 = .ok (.aload_n 0, 1) := by decide +kernel
theorem jd_E_become_19 : decode prog_4_method_2_code 19 = .ok (.getfield 25, 3) := by decide +kernel
theorem jd_E_become_22 : decode prog_4_method_2_code 22 = .ok (.aload 4, 2) := by decide +kernel
theorem jd_E_become_24 : decode prog_4_method_2_code 24 = .ok (.invokevirtual 28, 3) := by decide +kernel
theorem jd_E_become_27 : decode prog_4_method_2_code 27 = .ok (.return_, 1) := by decide +kernel
theorem jd_S_member_0 : decode prog_1_method_6_code 0 = .ok (.aload_n 0, 1) := by decide +kernel
theorem jd_S_member_1 : decode prog_1_method_6_code 1 = .ok (.iload_n 1, 1) := by decide +kernel
theorem jd_S_member_2 : decode prog_1_method_6_code 2 = .ok (.invokevirtual 69, 3) := by decide +kernel
theorem jd_S_member_5 : decode prog_1_method_6_code 5 = .ok (.astore 4, 2) := by decide +kernel
theorem jd_S_member_7 : decode prog_1_method_6_code 7 = .ok (.aload 4, 2) := by decide +kernel
theorem jd_S_member_9 : decode prog_1_method_6_code 9 = .ok (.ifnull 10, 3) := by decide +kernel
theorem jd_S_member_12 : decode prog_1_method_6_code 12 = .ok (.iload_n 2, 1) := by decide +kernel
theorem jd_S_member_13 : decode prog_1_method_6_code 13 = .ok (.invokestatic 83, 3) := by decide +kernel
theorem jd_S_member_16 : decode prog_1_method_6_code 16 = .ok (.ifCond .ne 5, 3) := by decide +kernel
theorem jd_S_member_19 : decode prog_1_method_6_code 19 = .ok (.iconst (-1), 1) := by decide +kernel
theorem jd_S_member_20 : decode prog_1_method_6_code 20 = .ok (.ireturn, 1) := by decide +kernel
theorem jd_S_member_21 : decode prog_1_method_6_code 21 = .ok (.aload_n 0, 1) := by decide +kernel
theorem jd_S_member_22 : decode prog_1_method_6_code 22 = .ok (.iload_n 2, 1) := by decide +kernel
theorem jd_S_member_23 : decode prog_1_method_6_code 23 = .ok (.invokevirtual 87, 3) := by decide +kernel
theorem jd_S_member_26 : decode prog_1_method_6_code 26 = .ok (.ifCond .eq 11, 3) := by decide +kernel
theorem jd_S_member_29 : decode prog_1_method_6_code 29 = .ok (.aload_n 0, 1) := by decide +kernel
theorem jd_S_member_30 : decode prog_1_method_6_code 30 = .ok (.iload_n 2, 1) := by decide +kernel
theorem jd_S_member_31 : decode prog_1_method_6_code 31 = .ok (.invokevirtual 90, 3) := by decide +kernel
theorem jd_S_member_34 : decode prog_1_method_6_code 34 = .ok (.ifCond .ne 6, 3) := by decide +kernel
theorem jd_S_member_37 : decode prog_1_method_6_code 37 = .ok (.bipush (-2), 2) := by decide +kernel
theorem jd_S_member_39 : decode prog_1_method_6_code 39 = .ok (.ireturn, 1) := by decide +kernel
theorem jd_S_member_40 : decode prog_1_method_6_code 40 = .ok (.aload 4, 2) := by decide +kernel
theorem jd_S_member_42 : decode prog_1_method_6_code 42 = .ok (.getfield 93, 3) := by decide +kernel
theorem jd_S_member_45 : decode prog_1_method_6_code 45 = .ok (.iload_n 2, 1) := by decide +kernel
theorem jd_S_member_46 : decode prog_1_method_6_code 46 = .ok (.iload_n 3, 1) := by decide +kernel
theorem jd_S_member_47 : decode prog_1_method_6_code 47 = .ok (.ldc 64, 2) := by decide +kernel
theorem jd_S_member_49 : decode prog_1_method_6_code 49 = .ok (.iand, 1) := by decide +kernel
theorem jd_S_member_50 : decode prog_1_method_6_code 50 = .ok (.aload_n 0, 1) := by decide +kernel
theorem jd_S_member_51 : decode prog_1_method_6_code 51 = .ok (.getfield 12, 3) := by decide +kernel
theorem jd_S_member_54 : decode prog_1_method_6_code 54 = .ok (.aload_n 0, 1) := by decide +kernel
theorem jd_S_member_55 : decode prog_1_method_6_code 55 = .ok (.getfield 16, 3) := by decide +kernel
theorem jd_S_member_58 : decode prog_1_method_6_code 58 = .ok (.invokevirtual 77, 3) := by decide +kernel
theorem jd_S_member_61 : decode prog_1_method_6_code 61 = .ok (.ireturn, 1) := by decide +kernel
theorem jd_S_isMemberKind_0 : decode prog_1_method_17_code 0 = .ok (.iload_n 0, 1) := by decide +kernel
theorem jd_S_isMemberKind_1 : decode prog_1_method_17_code 1 = .ok (.ifCond .lt 12, 3) := by decide +kernel
theorem jd_S_isMemberKind_4 : decode prog_1_method_17_code 4 = .ok (.iload_n 0, 1) := by decide +kernel
theorem jd_S_isMemberKind_5 : decode prog_1_method_17_code 5 = .ok (.iconst 3, 1) := by decide +kernel
theorem jd_S_isMemberKind_6 : decode prog_1_method_17_code 6 = .ok (.if_icmp .gt 7, 3) := by decide +kernel
theorem jd_S_isMemberKind_9 : decode prog_1_method_17_code 9 = .ok (.iconst 1, 1) := by decide +kernel
theorem jd_S_isMemberKind_10 : decode prog_1_method_17_code 10 = .ok (.goto 4, 3) := by decide +kernel
theorem jd_S_isMemberKind_13 : decode prog_1_method_17_code 13 = .ok (.iconst 0, 1) := by decide +kernel
theorem jd_S_isMemberKind_14 : decode prog_1_method_17_code 14 = .ok (.ireturn, 1) := by decide +kernel
theorem jd_S_isNameFor_0 : decode prog_1_method_18_code 0 = .ok (.iload_n 1, 1) := by decide +kernel
theorem jd_S_isNameFor_1 : decode prog_1_method_18_code 1 = .ok (.iconst 1, 1) := by decide +kernel
theorem jd_S_isNameFor_2 : decode prog_1_method_18_code 2 = .ok (.if_icmp .eq 18, 3) := by decide +kernel
theorem jd_S_isNameFor_5 : decode prog_1_method_18_code 5 = .ok (.iload_n 1, 1) := by decide +kernel
theorem jd_S_isNameFor_6 : decode prog_1_method_18_code 6 = .ok (.iconst 3, 1) := by decide +kernel
theorem jd_S_isNameFor_7 : decode prog_1_method_18_code 7 = .ok (.if_icmp .eq 13, 3) := by decide +kernel
theorem jd_S_isNameFor_10 : decode prog_1_method_18_code 10 = .ok (.aload_n 0, 1) := by decide +kernel
theorem jd_S_isNameFor_11 : decode prog_1_method_18_code 11 = .ok (.getfield 12, 3) := by decide +kernel
theorem jd_S_isNameFor_14 : decode prog_1_method_18_code 14 = .ok (.getfield 48, 3) := by decide +kernel
theorem jd_S_isNameFor_17 : decode prog_1_method_18_code 17 = .ok (.ifCond .le 7, 3) := by decide +kernel
theorem jd_S_isNameFor_20 : decode prog_1_method_18_code 20 = .ok (.iconst 1, 1) := by decide +kernel
theorem jd_S_isNameFor_21 : decode prog_1_method_18_code 21 = .ok (.goto 4, 3) := by decide +kernel
theorem jd_S_isNameFor_24 : decode prog_1_method_18_code 24 = .ok (.iconst 0, 1) := by decide +kernel
theorem jd_S_isNameFor_25 : decode prog_1_method_18_code 25 = .ok (.ireturn, 1) := by decide +kernel
theorem jd_S_isShapeFor_0 : decode prog_1_method_19_code 0 = .ok (.iload_n 1, 1) := by decide +kernel
theorem jd_S_isShapeFor_1 : decode prog_1_method_19_code 1 = .ok (.tableswitch 80 0 2 #[27, 35, 72], 27) := by decide +kernel
theorem jd_S_isShapeFor_28 : decode prog_1_method_19_code 28 = .ok (.aload_n 0, 1) := by decide +kernel
theorem jd_S_isShapeFor_29 : decode prog_1_method_19_code 29 = .ok (.getfield 16, 3) := by decide +kernel
theorem jd_S_isShapeFor_32 : decode prog_1_method_19_code 32 = .ok (.invokestatic 146, 3) := by decide +kernel
theorem jd_S_isShapeFor_35 : decode prog_1_method_19_code 35 = .ok (.ireturn, 1) := by decide +kernel
theorem jd_S_isShapeFor_36 : decode prog_1_method_19_code 36 = .ok (.aload_n 0, 1) := by decide +kernel
theorem jd_S_isShapeFor_37 : decode prog_1_method_19_code 37 = .ok (.getfield 16, 3) := by decide +kernel
theorem jd_S_isShapeFor_40 : decode prog_1_method_19_code 40 = .ok (.invokestatic 152, 3) := by decide +kernel
theorem jd_S_isShapeFor_43 : decode prog_1_method_19_code 43 = .ok (.ifCond .eq 28, 3) := by decide +kernel
theorem jd_S_isShapeFor_46 : decode prog_1_method_19_code 46 = .ok (.aload_n 0, 1) := by decide +kernel
theorem jd_S_isShapeFor_47 : decode prog_1_method_19_code 47 = .ok (.getfield 16, 3) := by decide +kernel
theorem jd_S_isShapeFor_50 : decode prog_1_method_19_code 50 = .ok (.aload_n 0, 1) := by decide +kernel
theorem jd_S_isShapeFor_51 : decode prog_1_method_19_code 51 = .ok (.getfield 16, 3) := by decide +kernel
theorem jd_S_isShapeFor_54 : decode prog_1_method_19_code 54 = .ok (.getfield 48, 3) := by decide +kernel
theorem jd_S_isShapeFor_57 : decode prog_1_method_19_code 57 = .ok (.iconst 1, 1) := by decide +kernel
theorem jd_S_isShapeFor_58 : decode prog_1_method_19_code 58 = .ok (.isub, 1) := by decide +kernel
theorem jd_S_isShapeFor_59 : decode prog_1_method_19_code 59 = .ok (.invokevirtual 155, 3) := by decide +kernel
theorem jd_S_isShapeFor_62 : decode prog_1_method_19_code 62 = .ok (.bipush 86, 2) := by decide +kernel
theorem jd_S_isShapeFor_64 : decode prog_1_method_19_code 64 = .ok (.if_icmp .ne 7, 3) := by decide +kernel
theorem jd_S_isShapeFor_67 : decode prog_1_method_19_code 67 = .ok (.iconst 1, 1) := by decide +kernel
theorem jd_S_isShapeFor_68 : decode prog_1_method_19_code 68 = .ok (.goto 4, 3) := by decide +kernel
theorem jd_S_isShapeFor_71 : decode prog_1_method_19_code 71 = .ok (.iconst 0, 1) := by decide +kernel
theorem jd_S_isShapeFor_72 : decode prog_1_method_19_code 72 = .ok (.ireturn, 1) := by decide +kernel
theorem jd_S_isShapeFor_73 : decode prog_1_method_19_code 73 = .ok (.aload_n 0, 1) := by decide +kernel
theorem jd_S_isShapeFor_74 : decode prog_1_method_19_code 74 = .ok (.getfield 16, 3) := by decide +kernel
theorem jd_S_isShapeFor_77 : decode prog_1_method_19_code 77 = .ok (.invokestatic 152, 3) := by decide +kernel
theorem jd_S_isShapeFor_80 : decode prog_1_method_19_code 80 = .ok (.ireturn, 1) := by decide +kernel
theorem jd_S_isShapeFor_81 : decode prog_1_method_19_code 81 = .ok (.iconst 1, 1) := by decide +kernel
theorem jd_S_isShapeFor_82 : decode prog_1_method_19_code 82 = .ok (.ireturn, 1) := by decide +kernel
theorem jd_H_isType_0 : decode prog_7_method_2_code 0 = .ok (.aload_n 0, 1) := by decide +kernel
theorem jd_H_isType_1 : decode prog_7_method_2_code 1 = .ok (.iconst 0, 1) := by decide +kernel
theorem jd_H_isType_2 : decode prog_7_method_2_code 2 = .ok (.invokestatic 9, 3) := by decide +kernel
theorem jd_H_isType_5 : decode prog_7_method_2_code 5 = .ok (.aload_n 0, 1) := by decide +kernel
theorem jd_H_isType_6 : decode prog_7_method_2_code 6 = .ok (.getfield 15, 3) := by decide +kernel
theorem jd_H_isType_9 : decode prog_7_method_2_code 9 = .ok (.if_icmp .ne 7, 3) := by decide +kernel
theorem jd_H_isType_12 : decode prog_7_method_2_code 12 = .ok (.iconst 1, 1) := by decide +kernel
theorem jd_H_isType_13 : decode prog_7_method_2_code 13 = .ok (.goto 4, 3) := by decide +kernel
theorem jd_H_isType_16 : decode prog_7_method_2_code 16 = .ok (.iconst 0, 1) := by decide +kernel
theorem jd_H_isType_17 : decode prog_7_method_2_code 17 = .ok (.ireturn, 1) := by decide +kernel
theorem jd_H_endOfType_0 : decode prog_7_method_5_code 0 = .ok (.iload_n 1, 1) := by decide +kernel
theorem jd_H_endOfType_1 : decode prog_7_method_5_code 1 = .ok (.istore_n 2, 1) := by decide +kernel
theorem jd_H_endOfType_2 : decode prog_7_method_5_code 2 = .ok (.iload_n 2, 1) := by decide +kernel
theorem jd_H_endOfType_3 : decode prog_7_method_5_code 3 = .ok (.iload_n 1, 1) := by decide +kernel
theorem jd_H_endOfType_4 : decode prog_7_method_5_code 4 = .ok (.iconst 3, 1) := by decide +kernel
theorem jd_H_endOfType_5 : decode prog_7_method_5_code 5 = .ok (.iadd, 1) := by decide +kernel
theorem jd_H_endOfType_6 : decode prog_7_method_5_code 6 = .ok (.if_icmp .ge 19, 3) := by decide +kernel
theorem jd_H_endOfType_9 : decode prog_7_method_5_code 9 = .ok (.aload_n 0, 1) := by decide +kernel
theorem jd_H_endOfType_10 : decode prog_7_method_5_code 10 = .ok (.iload_n 2, 1) := by decide +kernel
theorem jd_H_endOfType_11 : decode prog_7_method_5_code 11 = .ok (.invokevirtual 21, 3) := by decide +kernel
theorem jd_H_endOfType_14 : decode prog_7_method_5_code 14 = .ok (.bipush 91, 2) := by decide +kernel
theorem jd_H_endOfType_16 : decode prog_7_method_5_code 16 = .ok (.if_icmp .ne 9, 3) := by decide +kernel
theorem jd_H_endOfType_19 : decode prog_7_method_5_code 19 = .ok (.iinc 2 1, 3) := by decide +kernel
theorem jd_H_endOfType_22 : decode prog_7_method_5_code 22 = .ok (.goto (-20), 3) := by decide +kernel
theorem jd_H_endOfType_25 : decode prog_7_method_5_code 25 = .ok (.aload_n 0, 1) := by decide +kernel
theorem jd_H_endOfType_26 : decode prog_7_method_5_code 26 = .ok (.iload_n 2, 1) := by decide +kernel
theorem jd_H_endOfType_27 : decode prog_7_method_5_code 27 = .ok (.invokevirtual 21, 3) := by decide +kernel
theorem jd_H_endOfType_30 : decode prog_7_method_5_code 30 = .ok (.bipush 76, 2) := by decide +kernel
theorem jd_H_endOfType_32 : decode prog_7_method_5_code 32 = .ok (.if_icmp .ne 11, 3) := by decide +kernel
theorem jd_H_endOfType_35 : decode prog_7_method_5_code 35 = .ok (.aload_n 0, 1) := by decide +kernel
theorem jd_H_endOfType_36 : decode prog_7_method_5_code 36 = .ok (.iload_n 2, 1) := by decide +kernel
theorem jd_H_endOfType_37 : decode prog_7_method_5_code 37 = .ok (.iconst 1, 1) := by decide +kernel
theorem jd_H_endOfType_38 : decode prog_7_method_5_code 38 = .ok (.iadd, 1) := by decide +kernel
theorem jd_H_endOfType_39 : decode prog_7_method_5_code 39 = .ok (.invokestatic 28, 3) := by decide +kernel
theorem jd_H_endOfType_42 : decode prog_7_method_5_code 42 = .ok (.ireturn, 1) := by decide +kernel
theorem jd_H_endOfType_43 : decode prog_7_method_5_code 43 = .ok (.aload_n 0, 1) := by decide +kernel
theorem jd_H_endOfType_44 : decode prog_7_method_5_code 44 = .ok (.iload_n 2, 1) := by decide +kernel
theorem jd_H_endOfType_45 : decode prog_7_method_5_code 45 = .ok (.invokevirtual 21, 3) := by decide +kernel
theorem jd_H_endOfType_48 : decode prog_7_method_5_code 48 = .ok (.invokestatic 31, 3) := by decide +kernel
theorem jd_H_endOfType_51 : decode prog_7_method_5_code 51 = .ok (.ifCond .eq 9, 3) := by decide +kernel
theorem jd_H_endOfType_54 : decode prog_7_method_5_code 54 = .ok (.iload_n 2, 1) := by decide +kernel
theorem jd_H_endOfType_55 : decode prog_7_method_5_code 55 = .ok (.iconst 1, 1) := by decide +kernel
theorem jd_H_endOfType_56 : decode prog_7_method_5_code 56 = .ok (.iadd, 1) := by decide +kernel
theorem jd_H_endOfType_57 : decode prog_7_method_5_code 57 = .ok (.goto 4, 3) := by decide +kernel
theorem jd_H_endOfType_60 : decode prog_7_method_5_code 60 = .ok (.iconst (-1), 1) := by decide +kernel
theorem jd_H_endOfType_61 : decode prog_7_method_5_code 61 = .ok (.ireturn, 1) := by decide +kernel
end
section
theorem jd_T_at_0 : decode prog_8_method_2_code 0 = .ok (.iload_n 1, 1) := by decide +kernel
theorem jd_T_at_1 : decode prog_8_method_2_code 1 = .ok (.ifCond .lt 20, 3) := by decide +kernel
theorem jd_T_at_4 : decode prog_8_method_2_code 4 = .ok (.iload_n 1, 1) := by decide +kernel
theorem jd_T_at_5 : decode prog_8_method_2_code 5 = .ok (.aload_n 0, 1) := by decide +kernel
theorem jd_T_at_6 : decode prog_8_method_2_code 6 = .ok (.getfield 15, 3) := by decide +kernel
theorem jd_T_at_9 : decode prog_8_method_2_code 9 = .ok (.if_icmp .ge 12, 3) := by decide +kernel
theorem jd_T_at_12 : decode prog_8_method_2_code 12 = .ok (.aload_n 0, 1) := by decide +kernel
theorem jd_T_at_13 : decode prog_8_method_2_code 13 = .ok (.getfield 9, 3) := by decide +kernel
theorem jd_T_at_16 : decode prog_8_method_2_code 16 = .ok (.iload_n 1, 1) := by decide +kernel
theorem jd_T_at_17 : decode prog_8_method_2_code 17 = .ok (.baload, 1) := by decide +kernel
theorem jd_T_at_18 : decode prog_8_method_2_code 18 = .ok (.goto 4, 3) := by decide +kernel
theorem jd_T_at_21 : decode prog_8_method_2_code 21 = .ok (.iconst 0, 1) := by decide +kernel
theorem jd_T_at_22 : decode prog_8_method_2_code 22 = .ok (.ireturn, 1) := by decide +kernel
theorem jd_H_endOfName_0 : decode prog_7_method_6_code 0 = .ok (.iload_n 1, 1) := by decide +kernel
theorem jd_H_endOfName_1 : decode prog_7_method_6_code 1 = .ok (.istore_n 2, 1) := by decide +kernel
theorem jd_H_endOfName_2 : decode prog_7_method_6_code 2 = .ok (.iload_n 2, 1) := by decide +kernel
theorem jd_H_endOfName_3 : decode prog_7_method_6_code 3 = .ok (.aload_n 0, 1) := by decide +kernel
theorem jd_H_endOfName_4 : decode prog_7_method_6_code 4 = .ok (.getfield 15, 3) := by decide +kernel
theorem jd_H_endOfName_7 : decode prog_7_method_6_code 7 = .ok (.if_icmp .ge 20, 3) := by decide +kernel
theorem jd_H_endOfName_10 : decode prog_7_method_6_code 10 = .ok (.aload_n 0, 1) := by decide +kernel
theorem jd_H_endOfName_11 : decode prog_7_method_6_code 11 = .ok (.iload_n 2, 1) := by decide +kernel
theorem jd_H_endOfName_12 : decode prog_7_method_6_code 12 = .ok (.invokevirtual 21, 3) := by decide +kernel
theorem jd_H_endOfName_15 : decode prog_7_method_6_code 15 = .ok (.invokestatic 35, 3) := by decide +kernel
theorem jd_H_endOfName_18 : decode prog_7_method_6_code 18 = .ok (.ifCond .eq 9, 3) := by decide +kernel
theorem jd_H_endOfName_21 : decode prog_7_method_6_code 21 = .ok (.iinc 2 1, 3) := by decide +kernel
theorem jd_H_endOfName_24 : decode prog_7_method_6_code 24 = .ok (.goto (-22), 3) := by decide +kernel
theorem jd_H_endOfName_27 : decode prog_7_method_6_code 27 = .ok (.iload_n 2, 1) := by decide +kernel
theorem jd_H_endOfName_28 : decode prog_7_method_6_code 28 = .ok (.iload_n 1, 1) := by decide +kernel
theorem jd_H_endOfName_29 : decode prog_7_method_6_code 29 = .ok (.if_icmp .le 19, 3) := by decide +kernel
theorem jd_H_endOfName_32 : decode prog_7_method_6_code 32 = .ok (.aload_n 0, 1) := by decide +kernel
theorem jd_H_endOfName_33 : decode prog_7_method_6_code 33 = .ok (.iload_n 2, 1) := by decide +kernel
theorem jd_H_endOfName_34 : decode prog_7_method_6_code 34 = .ok (.invokevirtual 21, 3) := by decide +kernel
theorem jd_H_endOfName_37 : decode prog_7_method_6_code 37 = .ok (.bipush 59, 2) := by decide +kernel
theorem jd_H_endOfName_39 : decode prog_7_method_6_code 39 = .ok (.if_icmp .ne 9, 3) := by decide +kernel
theorem jd_H_endOfName_42 : decode prog_7_method_6_code 42 = .ok (.iload_n 2, 1) := by decide +kernel
theorem jd_H_endOfName_43 : decode prog_7_method_6_code 43 = .ok (.iconst 1, 1) := by decide +kernel
theorem jd_H_endOfName_44 : decode prog_7_method_6_code 44 = .ok (.iadd, 1) := by decide +kernel
theorem jd_H_endOfName_45 : decode prog_7_method_6_code 45 = .ok (.goto 4, 3) := by decide +kernel
theorem jd_H_endOfName_48 : decode prog_7_method_6_code 48 = .ok (.iconst (-1), 1) := by decide +kernel
theorem jd_H_endOfName_49 : decode prog_7_method_6_code 49 = .ok (.ireturn, 1) := by decide +kernel
theorem jd_H_mayStandInName_0 : decode prog_7_method_8_code 0 = .ok (.iload_n 0, 1) := by decide +kernel
theorem jd_H_mayStandInName_1 : decode prog_7_method_8_code 1 = .ok (.bipush 59, 2) := by decide +kernel
theorem jd_H_mayStandInName_3 : decode prog_7_method_8_code 3 = .ok (.if_icmp .eq 31, 3) := by decide +kernel
theorem jd_H_mayStandInName_6 : decode prog_7_method_8_code 6 = .ok (.iload_n 0, 1) := by decide +kernel
theorem jd_H_mayStandInName_7 : decode prog_7_method_8_code 7 = .ok (.bipush 91, 2) := by decide +kernel
theorem jd_H_mayStandInName_9 : decode prog_7_method_8_code 9 = .ok (.if_icmp .eq 25, 3) := by decide +kernel
theorem jd_H_mayStandInName_12 : decode prog_7_method_8_code 12 = .ok (.iload_n 0, 1) := by decide +kernel
theorem jd_H_mayStandInName_13 : decode prog_7_method_8_code 13 = .ok (.bipush 40, 2) := by decide +kernel
theorem jd_H_mayStandInName_15 : decode prog_7_method_8_code 15 = .ok (.if_icmp .eq 19, 3) := by decide +kernel
theorem jd_H_mayStandInName_18 : decode prog_7_method_8_code 18 = .ok (.iload_n 0, 1) := by decide +kernel
theorem jd_H_mayStandInName_19 : decode prog_7_method_8_code 19 = .ok (.bipush 41, 2) := by decide +kernel
theorem jd_H_mayStandInName_21 : decode prog_7_method_8_code 21 = .ok (.if_icmp .eq 13, 3) := by decide +kernel
theorem jd_H_mayStandInName_24 : decode prog_7_method_8_code 24 = .ok (.iload_n 0, 1) := by decide +kernel
theorem jd_H_mayStandInName_25 : decode prog_7_method_8_code 25 = .ok (.bipush 46, 2) := by decide +kernel
theorem jd_H_mayStandInName_27 : decode prog_7_method_8_code 27 = .ok (.if_icmp .eq 7, 3) := by decide +kernel
theorem jd_H_mayStandInName_30 : decode prog_7_method_8_code 30 = .ok (.iconst 1, 1) := by decide +kernel
theorem jd_H_mayStandInName_31 : decode prog_7_method_8_code 31 = .ok (.goto 4, 3) := by decide +kernel
theorem jd_H_mayStandInName_34 : decode prog_7_method_8_code 34 = .ok (.iconst 0, 1) := by decide +kernel
theorem jd_H_mayStandInName_35 : decode prog_7_method_8_code 35 = .ok (.ireturn, 1) := by decide +kernel
theorem jd_H_isSimple_0 : decode prog_7_method_7_code 0 = .ok (.iload_n 0, 1) := by decide +kernel
theorem jd_H_isSimple_1 : decode prog_7_method_7_code 1 = .ok (.tableswitch 117 66 90 #[115, 115, 115, 117, 115, 117, 117, 115, 115, 117, 117, 117, 117, 117, 117, 117, 117, 115, 117, 117, 117, 117, 117, 117, 115], 115) := by decide +kernel
theorem jd_H_isSimple_116 : decode prog_7_method_7_code 116 = .ok (.iconst 1, 1) := by decide +kernel
theorem jd_H_isSimple_117 : decode prog_7_method_7_code 117 = .ok (.ireturn, 1) := by decide +kernel
theorem jd_H_isSimple_118 : decode prog_7_method_7_code 118 = .ok (.iconst 0, 1) := by decide +kernel
theorem jd_H_isSimple_119 : decode prog_7_method_7_code 119 = .ok (.ireturn, 1) := by decide +kernel
theorem jd_H_isMethod_0 : decode prog_7_method_3_code 0 = .ok (.aload_n 0, 1) := by decide +kernel
theorem jd_H_isMethod_1 : decode prog_7_method_3_code 1 = .ok (.iconst 0, 1) := by decide +kernel
theorem jd_H_isMethod_2 : decode prog_7_method_3_code 2 = .ok (.invokevirtual 21, 3) := by decide +kernel
theorem jd_H_isMethod_5 : decode prog_7_method_3_code 5 = .ok (.bipush 40, 2) := by decide +kernel
theorem jd_H_isMethod_7 : decode prog_7_method_3_code 7 = .ok (.if_icmp .eq 5, 3) := by decide +kernel
theorem jd_H_isMethod_10 : decode prog_7_method_3_code 10 = .ok (.iconst 0, 1) := by decide +kernel
theorem jd_H_isMethod_11 : decode prog_7_method_3_code 11 = .ok (.ireturn, 1) := by decide +kernel
theorem jd_H_isMethod_12 : decode prog_7_method_3_code 12 = .ok (.aload_n 0, 1) := by decide +kernel
theorem jd_H_isMethod_13 : decode prog_7_method_3_code 13 = .ok (.iconst 1, 1) := by decide +kernel
theorem jd_H_isMethod_14 : decode prog_7_method_3_code 14 = .ok (.invokestatic 25, 3) := by decide +kernel
theorem jd_H_isMethod_17 : decode prog_7_method_3_code 17 = .ok (.istore_n 1, 1) := by decide +kernel
theorem jd_H_isMethod_18 : decode prog_7_method_3_code 18 = .ok (.iload_n 1, 1) := by decide +kernel
theorem jd_H_isMethod_19 : decode prog_7_method_3_code 19 = .ok (.iconst (-1), 1) := by decide +kernel
theorem jd_H_isMethod_20 : decode prog_7_method_3_code 20 = .ok (.if_icmp .eq 13, 3) := by decide +kernel
theorem jd_H_isMethod_23 : decode prog_7_method_3_code 23 = .ok (.aload_n 0, 1) := by decide +kernel
theorem jd_H_isMethod_24 : decode prog_7_method_3_code 24 = .ok (.iload_n 1, 1) := by decide +kernel
theorem jd_H_isMethod_25 : decode prog_7_method_3_code 25 = .ok (.invokevirtual 21, 3) := by decide +kernel
theorem jd_H_isMethod_28 : decode prog_7_method_3_code 28 = .ok (.bipush 41, 2) := by decide +kernel
theorem jd_H_isMethod_30 : decode prog_7_method_3_code 30 = .ok (.if_icmp .eq 5, 3) := by decide +kernel
theorem jd_H_isMethod_33 : decode prog_7_method_3_code 33 = .ok (.iconst 0, 1) := by decide +kernel
theorem jd_H_isMethod_34 : decode prog_7_method_3_code 34 = .ok (.ireturn, 1) := by decide +kernel
theorem jd_H_isMethod_35 : decode prog_7_method_3_code 35 = .ok (.iload_n 1, 1) := by decide +kernel
theorem jd_H_isMethod_36 : decode prog_7_method_3_code 36 = .ok (.iconst 1, 1) := by decide +kernel
theorem jd_H_isMethod_37 : decode prog_7_method_3_code 37 = .ok (.iadd, 1) := by decide +kernel
theorem jd_H_isMethod_38 : decode prog_7_method_3_code 38 = .ok (.istore_n 2, 1) := by decide +kernel
theorem jd_H_isMethod_39 : decode prog_7_method_3_code 39 = .ok (.aload_n 0, 1) := by decide +kernel
theorem jd_H_isMethod_40 : decode prog_7_method_3_code 40 = .ok (.iload_n 2, 1) := by decide +kernel
theorem jd_H_isMethod_41 : decode prog_7_method_3_code 41 = .ok (.invokevirtual 21, 3) := by decide +kernel
theorem jd_H_isMethod_44 : decode prog_7_method_3_code 44 = .ok (.bipush 86, 2) := by decide +kernel
theorem jd_H_isMethod_46 : decode prog_7_method_3_code 46 = .ok (.if_icmp .ne 9, 3) := by decide +kernel
theorem jd_H_isMethod_49 : decode prog_7_method_3_code 49 = .ok (.iload_n 2, 1) := by decide +kernel
theorem jd_H_isMethod_50 : decode prog_7_method_3_code 50 = .ok (.iconst 1, 1) := by decide +kernel
theorem jd_H_isMethod_51 : decode prog_7_method_3_code 51 = .ok (.iadd, 1) := by decide +kernel
theorem jd_H_isMethod_52 : decode prog_7_method_3_code 52 = .ok (.goto 8, 3) := by decide +kernel
theorem jd_H_isMethod_55 : decode prog_7_method_3_code 55 = .ok (.aload_n 0, 1) := by decide +kernel
theorem jd_H_isMethod_56 : decode prog_7_method_3_code 56 = .ok (.iload_n 2, 1) := by decide +kernel
theorem jd_H_isMethod_57 : decode prog_7_method_3_code 57 = .ok (.invokestatic 9, 3) := by decide +kernel
theorem jd_H_isMethod_60 : decode prog_7_method_3_code 60 = .ok (.istore_n 3, 1) := by decide +kernel
theorem jd_H_isMethod_61 : decode prog_7_method_3_code 61 = .ok (.iload_n 3, 1) := by decide +kernel
theorem jd_H_isMethod_62 : decode prog_7_method_3_code 62 = .ok (.aload_n 0, 1) := by decide +kernel
theorem jd_H_isMethod_63 : decode prog_7_method_3_code 63 = .ok (.getfield 15, 3) := by decide +kernel
theorem jd_H_isMethod_66 : decode prog_7_method_3_code 66 = .ok (.if_icmp .ne 7, 3) := by decide +kernel
theorem jd_H_isMethod_69 : decode prog_7_method_3_code 69 = .ok (.iconst 1, 1) := by decide +kernel
theorem jd_H_isMethod_70 : decode prog_7_method_3_code 70 = .ok (.goto 4, 3) := by decide +kernel
theorem jd_H_isMethod_73 : decode prog_7_method_3_code 73 = .ok (.iconst 0, 1) := by decide +kernel
theorem jd_H_isMethod_74 : decode prog_7_method_3_code 74 = .ok (.ireturn, 1) := by decide +kernel
theorem jd_H_endOfTypes_0 : decode prog_7_method_4_code 0 = .ok (.iload_n 1, 1) := by decide +kernel
theorem jd_H_endOfTypes_1 : decode prog_7_method_4_code 1 = .ok (.istore_n 2, 1) := by decide +kernel
theorem jd_H_endOfTypes_2 : decode prog_7_method_4_code 2 = .ok (.iconst 0, 1) := by decide +kernel
theorem jd_H_endOfTypes_3 : decode prog_7_method_4_code 3 = .ok (.istore_n 3, 1) := by decide +kernel
theorem jd_H_endOfTypes_4 : decode prog_7_method_4_code 4 = .ok (.iload_n 3, 1) := by decide +kernel
theorem jd_H_endOfTypes_5 : decode prog_7_method_4_code 5 = .ok (.bipush 24, 2) := by decide +kernel
theorem jd_H_endOfTypes_7 : decode prog_7_method_4_code 7 = .ok (.if_icmp .ge 32, 3) := by decide +kernel
theorem jd_H_endOfTypes_10 : decode prog_7_method_4_code 10 = .ok (.iload_n 2, 1) := by decide +kernel
theorem jd_H_endOfTypes_11 : decode prog_7_method_4_code 11 = .ok (.iconst (-1), 1) := by decide +kernel
theorem jd_H_endOfTypes_12 : decode prog_7_method_4_code 12 = .ok (.if_icmp .eq 13, 3) := by decide +kernel
theorem jd_H_endOfTypes_15 : decode prog_7_method_4_code 15 = .ok (.aload_n 0, 1) := by decide +kernel
theorem jd_H_endOfTypes_16 : decode prog_7_method_4_code 16 = .ok (.iload_n 2, 1) := by decide +kernel
theorem jd_H_endOfTypes_17 : decode prog_7_method_4_code 17 = .ok (.invokevirtual 21, 3) := by decide +kernel
theorem jd_H_endOfTypes_20 : decode prog_7_method_4_code 20 = .ok (.bipush 41, 2) := by decide +kernel
theorem jd_H_endOfTypes_22 : decode prog_7_method_4_code 22 = .ok (.if_icmp .ne 5, 3) := by decide +kernel
theorem jd_H_endOfTypes_25 : decode prog_7_method_4_code 25 = .ok (.iload_n 2, 1) := by decide +kernel
theorem jd_H_endOfTypes_26 : decode prog_7_method_4_code 26 = .ok (.ireturn, 1) := by decide +kernel
theorem jd_H_endOfTypes_27 : decode prog_7_method_4_code 27 = .ok (.aload_n 0, 1) := by decide +kernel
theorem jd_H_endOfTypes_28 : decode prog_7_method_4_code 28 = .ok (.iload_n 2, 1) := by decide +kernel
theorem jd_H_endOfTypes_29 : decode prog_7_method_4_code 29 = .ok (.invokestatic 9, 3) := by decide +kernel
theorem jd_H_endOfTypes_32 : decode prog_7_method_4_code 32 = .ok (.istore_n 2, 1) := by decide +kernel
theorem jd_H_endOfTypes_33 : decode prog_7_method_4_code 33 = .ok (.iinc 3 1, 3) := by decide +kernel
theorem jd_H_endOfTypes_36 : decode prog_7_method_4_code 36 = .ok (.goto (-32), 3) := by decide +kernel
theorem jd_H_endOfTypes_39 : decode prog_7_method_4_code 39 = .ok (.iload_n 2, 1) := by decide +kernel
theorem jd_H_endOfTypes_40 : decode prog_7_method_4_code 40 = .ok (.ireturn, 1) := by decide +kernel
theorem jd_S_remove_0 : decode prog_1_method_7_code 0 = .ok (.aload_n 0, 1) := by decide +kernel
theorem jd_S_remove_1 : decode prog_1_method_7_code 1 = .ok (.iload_n 1, 1) := by decide +kernel
theorem jd_S_remove_2 : decode prog_1_method_7_code 2 = .ok (.invokevirtual 69, 3) := by decide +kernel
theorem jd_S_remove_5 : decode prog_1_method_7_code 5 = .ok (.astore_n 3, 1) := by decide +kernel
theorem jd_S_remove_6 : decode prog_1_method_7_code 6 = .ok (.aload_n 3, 1) := by decide +kernel
theorem jd_S_remove_7 : decode prog_1_method_7_code 7 = .ok (.ifnull 10, 3) := by decide +kernel
theorem jd_S_remove_10 : decode prog_1_method_7_code 10 = .ok (.iload_n 2, 1) := by decide +kernel
theorem jd_S_remove_11 : decode prog_1_method_7_code 11 = .ok (.invokestatic 83, 3) := by decide +kernel
theorem jd_S_remove_14 : decode prog_1_method_7_code 14 = .ok (.ifCond .ne 5, 3) := by decide +kernel
theorem jd_S_remove_17 : decode prog_1_method_7_code 17 = .ok (.iconst (-1), 1) := by decide +kernel
theorem jd_S_remove_18 : decode prog_1_method_7_code 18 = .ok (.ireturn, 1) := by decide +kernel
theorem jd_S_remove_19 : decode prog_1_method_7_code 19 = .ok (.aload_n 3, 1) := by decide +kernel
theorem jd_S_remove_20 : decode prog_1_method_7_code 20 = .ok (.getfield 93, 3) := by decide +kernel
theorem jd_S_remove_23 : decode prog_1_method_7_code 23 = .ok (.iload_n 2, 1) := by decide +kernel
theorem jd_S_remove_24 : decode prog_1_method_7_code 24 = .ok (.aload_n 0, 1) := by decide +kernel
theorem jd_S_remove_25 : decode prog_1_method_7_code 25 = .ok (.getfield 12, 3) := by decide +kernel
theorem jd_S_remove_28 : decode prog_1_method_7_code 28 = .ok (.aload_n 0, 1) := by decide +kernel
theorem jd_S_remove_29 : decode prog_1_method_7_code 29 = .ok (.getfield 16, 3) := by decide +kernel
theorem jd_S_remove_32 : decode prog_1_method_7_code 32 = .ok (.invokevirtual 96, 3) := by decide +kernel
theorem jd_S_remove_35 : decode prog_1_method_7_code 35 = .ok (.ireturn, 1) := by decide +kernel
theorem jd_R_takeOut_0 : decode prog_6_method_3_code 0 = .ok (.aload_n 0, 1) := by decide +kernel
theorem jd_R_takeOut_1 : decode prog_6_method_3_code 1 = .ok (.iload_n 1, 1) := by decide +kernel
theorem jd_R_takeOut_2 : decode prog_6_method_3_code 2 = .ok (.aload_n 2, 1) := by decide +kernel
theorem jd_R_takeOut_3 : decode prog_6_method_3_code 3 = .ok (.aload_n 3, 1) := by decide +kernel
theorem jd_R_takeOut_4 : decode prog_6_method_3_code 4 = .ok (.invokevirtual 22, 3) := by decide +kernel
theorem jd_R_takeOut_7 : decode prog_6_method_3_code 7 = .ok (.istore 4, 2) := by decide +kernel
theorem jd_R_takeOut_9 : decode prog_6_method_3_code 9 = .ok (.aload_n 0, 1) := by decide +kernel
theorem jd_R_takeOut_10 : decode prog_6_method_3_code 10 = .ok (.iload 4, 2) := by decide +kernel
theorem jd_R_takeOut_12 : decode prog_6_method_3_code 12 = .ok (.iload_n 1, 1) := by decide +kernel
theorem jd_R_takeOut_13 : decode prog_6_method_3_code 13 = .ok (.aload_n 2, 1) := by decide +kernel
theorem jd_R_takeOut_14 : decode prog_6_method_3_code 14 = .ok (.aload_n 3, 1) := by decide +kernel
theorem jd_R_takeOut_15 : decode prog_6_method_3_code 15 = .ok (.invokevirtual 26, 3) := by decide +kernel
theorem jd_R_takeOut_18 : decode prog_6_method_3_code 18 = .ok (.ifCond .ne 6, 3) := by decide +kernel
theorem jd_R_takeOut_21 : decode prog_6_method_3_code 21 = .ok (.bipush (-2), 2) := by decide +kernel
theorem jd_R_takeOut_23 : decode prog_6_method_3_code 23 = .ok (.ireturn, 1) := by decide +kernel
theorem jd_R_takeOut_24 : decode prog_6_method_3_code 24 = .ok (.aload_n 0, 1) := by decide +kernel
theorem jd_R_takeOut_25 : decode prog_6_method_3_code 25 = .ok (.getfield 17, 3) := by decide +kernel
theorem jd_R_takeOut_28 : decode prog_6_method_3_code 28 = .ok (.iload 4, 2) := by decide +kernel
theorem jd_R_takeOut_30 : decode prog_6_method_3_code 30 = .ok (.aaload, 1) := by decide +kernel
theorem jd_R_takeOut_31 : decode prog_6_method_3_code 31 = .ok (.astore 5, 2) := by decide +kernel
theorem jd_R_takeOut_33 : decode prog_6_method_3_code 33 = .ok (.aload_n 0, 1) := by decide +kernel
theorem jd_R_takeOut_34 : decode prog_6_method_3_code 34 = .ok (.dup, 1) := by decide +kernel
theorem jd_R_takeOut_35 : decode prog_6_method_3_code 35 = .ok (.getfield 9, 3) := by decide +kernel
theorem jd_R_takeOut_38 : decode prog_6_method_3_code 38 = .ok (.iconst 1, 1) := by decide +kernel
theorem jd_R_takeOut_39 : decode prog_6_method_3_code 39 = .ok (.isub, 1) := by decide +kernel
theorem jd_R_takeOut_40 : decode prog_6_method_3_code 40 = .ok (.putfield 9, 3) := by decide +kernel
theorem jd_R_takeOut_43 : decode prog_6_method_3_code 43 = .ok (.iload 4, 2) := by decide +kernel
theorem jd_R_takeOut_45 : decode prog_6_method_3_code 45 = .ok (.istore 6, 2) := by decide +kernel
theorem jd_R_takeOut_47 : decode prog_6_method_3_code 47 = .ok (.iload 6, 2) := by decide +kernel
theorem jd_R_takeOut_49 : decode prog_6_method_3_code 49 = .ok (.aload_n 0, 1) := by decide +kernel
theorem jd_R_takeOut_50 : decode prog_6_method_3_code 50 = .ok (.getfield 9, 3) := by decide +kernel
theorem jd_R_takeOut_53 : decode prog_6_method_3_code 53 = .ok (.if_icmp .ge 25, 3) := by decide +kernel
theorem jd_R_takeOut_56 : decode prog_6_method_3_code 56 = .ok (.aload_n 0, 1) := by decide +kernel
theorem jd_R_takeOut_57 : decode prog_6_method_3_code 57 = .ok (.getfield 17, 3) := by decide +kernel
theorem jd_R_takeOut_60 : decode prog_6_method_3_code 60 = .ok (.iload 6, 2) := by decide +kernel
theorem jd_R_takeOut_62 : decode prog_6_method_3_code 62 = .ok (.aload_n 0, 1) := by decide +kernel
theorem jd_R_takeOut_63 : decode prog_6_method_3_code 63 = .ok (.getfield 17, 3) := by decide +kernel
theorem jd_R_takeOut_66 : decode prog_6_method_3_code 66 = .ok (.iload 6, 2) := by decide +kernel
theorem jd_R_takeOut_68 : decode prog_6_method_3_code 68 = .ok (.iconst 1, 1) := by decide +kernel
theorem jd_R_takeOut_69 : decode prog_6_method_3_code 69 = .ok (.iadd, 1) := by decide +kernel
theorem jd_R_takeOut_70 : decode prog_6_method_3_code 70 = .ok (.aaload, 1) := by decide +kernel
theorem jd_R_takeOut_71 : decode prog_6_method_3_code 71 = .ok (.aastore, 1) := by decide +kernel
theorem jd_R_takeOut_72 : decode prog_6_method_3_code 72 = .ok (.iinc 6 1, 3) := by decide +kernel
theorem jd_R_takeOut_75 : decode prog_6_method_3_code 75 = .ok (.goto (-28), 3) := by decide +kernel
theorem jd_R_takeOut_78 : decode prog_6_method_3_code 78 = .ok (.aload_n 0, 1) := by decide +kernel
theorem jd_R_takeOut_79 : decode prog_6_method_3_code 79 = .ok (.getfield 17, 3) := by decide +kernel
theorem jd_R_takeOut_82 : decode prog_6_method_3_code 82 = .ok (.aload_n 0, 1) := by decide +kernel
theorem jd_R_takeOut_83 : decode prog_6_method_3_code 83 = .ok (.getfield 9, 3) := by decide +kernel
theorem jd_R_takeOut_86 : decode prog_6_method_3_code 86 = .ok (.aload 5, 2) := by decide +kernel
theorem jd_R_takeOut_88 : decode prog_6_method_3_code 88 = .ok (.aastore, 1) := by decide +kernel
theorem jd_R_takeOut_89 : decode prog_6_method_3_code 89 = .ok (.aload_n 0, 1) := by decide +kernel
theorem jd_R_takeOut_90 : decode prog_6_method_3_code 90 = .ok (.getfield 9, 3) := by decide +kernel
theorem jd_R_takeOut_93 : decode prog_6_method_3_code 93 = .ok (.ireturn, 1) := by decide +kernel
theorem jd_S_declare_0 : decode prog_1_method_8_code 0 = .ok (.aload_n 0, 1) := by decide +kernel
theorem jd_S_declare_1 : decode prog_1_method_8_code 1 = .ok (.iload_n 1, 1) := by decide +kernel
theorem jd_S_declare_2 : decode prog_1_method_8_code 2 = .ok (.invokevirtual 69, 3) := by decide +kernel
theorem jd_S_declare_5 : decode prog_1_method_8_code 5 = .ok (.astore 5, 2) := by decide +kernel
theorem jd_S_declare_7 : decode prog_1_method_8_code 7 = .ok (.aload 5, 2) := by decide +kernel
theorem jd_S_declare_9 : decode prog_1_method_8_code 9 = .ok (.ifnonnull 5, 3) := by decide +kernel
theorem jd_S_declare_12 : decode prog_1_method_8_code 12 = .ok (.iconst (-1), 1) := by decide +kernel
theorem jd_S_declare_13 : decode prog_1_method_8_code 13 = .ok (.ireturn, 1) := by decide +kernel
theorem jd_S_declare_14 : decode prog_1_method_8_code 14 = .ok (.aload 5, 2) := by decide +kernel
theorem jd_S_declare_16 : decode prog_1_method_8_code 16 = .ok (.iload_n 2, 1) := by decide +kernel
theorem jd_S_declare_17 : decode prog_1_method_8_code 17 = .ok (.putfield 100, 3) := by decide +kernel
theorem jd_S_declare_20 : decode prog_1_method_8_code 20 = .ok (.aload 5, 2) := by decide +kernel
theorem jd_S_declare_22 : decode prog_1_method_8_code 22 = .ok (.lload_n 3, 1) := by decide +kernel
theorem jd_S_declare_23 : decode prog_1_method_8_code 23 = .ok (.putfield 104, 3) := by decide +kernel
theorem jd_S_declare_26 : decode prog_1_method_8_code 26 = .ok (.iconst 0, 1) := by decide +kernel
theorem jd_S_declare_27 : decode prog_1_method_8_code 27 = .ok (.ireturn, 1) := by decide +kernel
theorem jd_S_id_0 : decode prog_1_method_9_code 0 = .ok (.aload_n 0, 1) := by decide +kernel
theorem jd_S_id_1 : decode prog_1_method_9_code 1 = .ok (.iload_n 1, 1) := by decide +kernel
theorem jd_S_id_2 : decode prog_1_method_9_code 2 = .ok (.invokevirtual 69, 3) := by decide +kernel
theorem jd_S_id_5 : decode prog_1_method_9_code 5 = .ok (.astore_n 2, 1) := by decide +kernel
theorem jd_S_id_6 : decode prog_1_method_9_code 6 = .ok (.aload_n 2, 1) := by decide +kernel
theorem jd_S_id_7 : decode prog_1_method_9_code 7 = .ok (.ifnonnull 7, 3) := by decide +kernel
theorem jd_S_id_10 : decode prog_1_method_9_code 10 = .ok (.ldc2_w 108, 3) := by decide +kernel
theorem jd_S_id_13 : decode prog_1_method_9_code 13 = .ok (.lreturn, 1) := by decide +kernel
theorem jd_S_id_14 : decode prog_1_method_9_code 14 = .ok (.aload_n 2, 1) := by decide +kernel
theorem jd_S_id_15 : decode prog_1_method_9_code 15 = .ok (.getfield 110, 3) := by decide +kernel
theorem jd_S_id_18 : decode prog_1_method_9_code 18 = .ok (.sipush 16384, 3) := by decide +kernel
theorem jd_S_id_21 : decode prog_1_method_9_code 21 = .ok (.iand, 1) := by decide +kernel
theorem jd_S_id_22 : decode prog_1_method_9_code 22 = .ok (.ifCond .eq 5, 3) := by decide +kernel
theorem jd_S_id_25 : decode prog_1_method_9_code 25 = .ok (.lconst 0, 1) := by decide +kernel
theorem jd_S_id_26 : decode prog_1_method_9_code 26 = .ok (.lreturn, 1) := by decide +kernel
theorem jd_S_id_27 : decode prog_1_method_9_code 27 = .ok (.aload_n 2, 1) := by decide +kernel
theorem jd_S_id_28 : decode prog_1_method_9_code 28 = .ok (.getfield 100, 3) := by decide +kernel
theorem jd_S_id_31 : decode prog_1_method_9_code 31 = .ok (.ifCond .eq 8, 3) := by decide +kernel
theorem jd_S_id_34 : decode prog_1_method_9_code 34 = .ok (.aload_n 2, 1) := by decide +kernel
theorem jd_S_id_35 : decode prog_1_method_9_code 35 = .ok (.getfield 104, 3) := by decide +kernel
theorem jd_S_id_38 : decode prog_1_method_9_code 38 = .ok (.lreturn, 1) := by decide +kernel
theorem jd_S_id_39 : decode prog_1_method_9_code 39 = .ok (.aload_n 0, 1) := by decide +kernel
theorem jd_S_id_40 : decode prog_1_method_9_code 40 = .ok (.getfield 28, 3) := by decide +kernel
theorem jd_S_id_43 : decode prog_1_method_9_code 43 = .ok (.aload_n 2, 1) := by decide +kernel
theorem jd_S_id_44 : decode prog_1_method_9_code 44 = .ok (.invokevirtual 113, 3) := by decide +kernel
theorem jd_S_id_47 : decode prog_1_method_9_code 47 = .ok (.aload_n 0, 1) := by decide +kernel
theorem jd_S_id_48 : decode prog_1_method_9_code 48 = .ok (.getfield 35, 3) := by decide +kernel
theorem jd_S_id_51 : decode prog_1_method_9_code 51 = .ok (.aload_n 0, 1) := by decide +kernel
theorem jd_S_id_52 : decode prog_1_method_9_code 52 = .ok (.getfield 28, 3) := by decide +kernel
theorem jd_S_id_55 : decode prog_1_method_9_code 55 = .ok (.invokevirtual 117, 3) := by decide +kernel
theorem jd_S_id_58 : decode prog_1_method_9_code 58 = .ok (.aload_n 0, 1) := by decide +kernel
theorem jd_S_id_59 : decode prog_1_method_9_code 59 = .ok (.getfield 35, 3) := by decide +kernel
theorem jd_S_id_62 : decode prog_1_method_9_code 62 = .ok (.invokevirtual 121, 3) := by decide +kernel
theorem jd_S_id_65 : decode prog_1_method_9_code 65 = .ok (.lreturn, 1) := by decide +kernel
theorem jd_L_write_0 : decode prog_5_method_2_code 0 = .ok (.aload_n 0, 1) := by decide +kernel
theorem jd_L_write_1 : decode prog_5_method_2_code 1 = .ok (.iconst 0, 1) := by decide +kernel
theorem jd_L_write_2 : decode prog_5_method_2_code 2 = .ok (.putfield 15, 3) := by decide +kernel
theorem jd_L_write_5 : decode prog_5_method_2_code 5 = .ok (.aload_n 0, 1) := by decide +kernel
theorem jd_L_write_6 : decode prog_5_method_2_code 6 = .ok (.getfield 19, 3) := by decide +kernel
theorem jd_L_write_9 : decode prog_5_method_2_code 9 = .ok (.iconst 0, 1) := by decide +kernel
theorem jd_L_write_10 : decode prog_5_method_2_code 10 = .ok (.aload_n 0, 1) := by decide +kernel
theorem jd_L_write_11 : decode prog_5_method_2_code 11 = .ok (.getfield 15, 3) := by decide +kernel
theorem jd_L_write_14 : decode prog_5_method_2_code 14 = .ok (.iastore, 1) := by decide +kernel
theorem jd_L_write_15 : decode prog_5_method_2_code 15 = .ok (.aload_n 0, 1) := by decide +kernel
theorem jd_L_write_16 : decode prog_5_method_2_code 16 = .ok (.aload_n 1, 1) := by decide +kernel
theorem jd_L_write_17 : decode prog_5_method_2_code 17 = .ok (.getfield 23, 3) := by decide +kernel
theorem jd_L_write_20 : decode prog_5_method_2_code 20 = .ok (.invokevirtual 29, 3) := by decide +kernel
theorem jd_L_write_23 : decode prog_5_method_2_code 23 = .ok (.aload_n 0, 1) := by decide +kernel
theorem jd_L_write_24 : decode prog_5_method_2_code 24 = .ok (.aload_n 1, 1) := by decide +kernel
theorem jd_L_write_25 : decode prog_5_method_2_code 25 = .ok (.invokevirtual 33, 3) := by decide +kernel
theorem jd_L_write_28 : decode prog_5_method_2_code 28 = .ok (.invokevirtual 37, 3) := by decide +kernel
theorem jd_L_write_31 : decode prog_5_method_2_code 31 = .ok (.aload_n 0, 1) := by decide +kernel
theorem jd_L_write_32 : decode prog_5_method_2_code 32 = .ok (.getfield 19, 3) := by decide +kernel
theorem jd_L_write_35 : decode prog_5_method_2_code 35 = .ok (.iconst 1, 1) := by decide +kernel
theorem jd_L_write_36 : decode prog_5_method_2_code 36 = .ok (.aload_n 0, 1) := by decide +kernel
theorem jd_L_write_37 : decode prog_5_method_2_code 37 = .ok (.getfield 15, 3) := by decide +kernel
theorem jd_L_write_40 : decode prog_5_method_2_code 40 = .ok (.iastore, 1) := by decide +kernel
theorem jd_L_write_41 : decode prog_5_method_2_code 41 = .ok (.aload_n 0, 1) := by decide +kernel
theorem jd_L_write_42 : decode prog_5_method_2_code 42 = .ok (.aload_n 1, 1) := by decide +kernel
theorem jd_L_write_43 : decode prog_5_method_2_code 43 = .ok (.getfield 41, 3) := by decide +kernel
theorem jd_L_write_46 : decode prog_5_method_2_code 46 = .ok (.iconst 4, 1) := by decide +kernel
theorem jd_L_write_47 : decode prog_5_method_2_code 47 = .ok (.invokevirtual 45, 3) := by decide +kernel
theorem jd_L_write_50 : decode prog_5_method_2_code 50 = .ok (.aload_n 0, 1) := by decide +kernel
theorem jd_L_write_51 : decode prog_5_method_2_code 51 = .ok (.getfield 19, 3) := by decide +kernel
theorem jd_L_write_54 : decode prog_5_method_2_code 54 = .ok (.iconst 2, 1) := by decide +kernel
theorem jd_L_write_55 : decode prog_5_method_2_code 55 = .ok (.aload_n 0, 1) := by decide +kernel
theorem jd_L_write_56 : decode prog_5_method_2_code 56 = .ok (.getfield 15, 3) := by decide +kernel
theorem jd_L_write_59 : decode prog_5_method_2_code 59 = .ok (.iastore, 1) := by decide +kernel
theorem jd_L_write_60 : decode prog_5_method_2_code 60 = .ok (.aload_n 0, 1) := by decide +kernel
theorem jd_L_write_61 : decode prog_5_method_2_code 61 = .ok (.aload_n 1, 1) := by decide +kernel
theorem jd_L_write_62 : decode prog_5_method_2_code 62 = .ok (.getfield 49, 3) := by decide +kernel
theorem jd_L_write_65 : decode prog_5_method_2_code 65 = .ok (.iconst 0, 1) := by decide +kernel
theorem jd_L_write_66 : decode prog_5_method_2_code 66 = .ok (.invokevirtual 45, 3) := by decide +kernel
theorem jd_L_write_69 : decode prog_5_method_2_code 69 = .ok (.aload_n 0, 1) := by decide +kernel
theorem jd_L_write_70 : decode prog_5_method_2_code 70 = .ok (.getfield 19, 3) := by decide +kernel
theorem jd_L_write_73 : decode prog_5_method_2_code 73 = .ok (.iconst 3, 1) := by decide +kernel
theorem jd_L_write_74 : decode prog_5_method_2_code 74 = .ok (.aload_n 0, 1) := by decide +kernel
theorem jd_L_write_75 : decode prog_5_method_2_code 75 = .ok (.getfield 15, 3) := by decide +kernel
theorem jd_L_write_78 : decode prog_5_method_2_code 78 = .ok (.iastore, 1) := by decide +kernel
theorem jd_L_write_79 : decode prog_5_method_2_code 79 = .ok (.aload_n 0, 1) := by decide +kernel
theorem jd_L_write_80 : decode prog_5_method_2_code 80 = .ok (.aload_n 1, 1) := by decide +kernel
theorem jd_L_write_81 : decode prog_5_method_2_code 81 = .ok (.getfield 49, 3) := by decide +kernel
theorem jd_L_write_84 : decode prog_5_method_2_code 84 = .ok (.iconst 3, 1) := by decide +kernel
theorem jd_L_write_85 : decode prog_5_method_2_code 85 = .ok (.invokevirtual 45, 3) := by decide +kernel
theorem jd_L_write_88 : decode prog_5_method_2_code 88 = .ok (.aload_n 0, 1) := by decide +kernel
theorem jd_L_write_89 : decode prog_5_method_2_code 89 = .ok (.getfield 19, 3) := by decide +kernel
theorem jd_L_write_92 : decode prog_5_method_2_code 92 = .ok (.iconst 4, 1) := by decide +kernel
theorem jd_L_write_93 : decode prog_5_method_2_code 93 = .ok (.aload_n 0, 1) := by decide +kernel
theorem jd_L_write_94 : decode prog_5_method_2_code 94 = .ok (.getfield 15, 3) := by decide +kernel
theorem jd_L_write_97 : decode prog_5_method_2_code 97 = .ok (.iastore, 1) := by decide +kernel
theorem jd_L_write_98 : decode prog_5_method_2_code 98 = .ok (.aload_n 0, 1) := by decide +kernel
theorem jd_L_write_99 : decode prog_5_method_2_code 99 = .ok (.aload_n 1, 1) := by decide +kernel
theorem jd_L_write_100 : decode prog_5_method_2_code 100 = .ok (.getfield 49, 3) := by decide +kernel
theorem jd_L_write_103 : decode prog_5_method_2_code 103 = .ok (.iconst 1, 1) := by decide +kernel
theorem jd_L_write_104 : decode prog_5_method_2_code 104 = .ok (.invokevirtual 45, 3) := by decide +kernel
theorem jd_L_write_107 : decode prog_5_method_2_code 107 = .ok (.aload_n 0, 1) := by decide +kernel
theorem jd_L_write_108 : decode prog_5_method_2_code 108 = .ok (.getfield 19, 3) := by decide +kernel
theorem jd_L_write_111 : decode prog_5_method_2_code 111 = .ok (.iconst 5, 1) := by decide +kernel
theorem jd_L_write_112 : decode prog_5_method_2_code 112 = .ok (.aload_n 0, 1) := by decide +kernel
theorem jd_L_write_113 : decode prog_5_method_2_code 113 = .ok (.getfield 15, 3) := by decide +kernel
theorem jd_L_write_116 : decode prog_5_method_2_code 116 = .ok (.iastore, 1) := by decide +kernel
theorem jd_L_write_117 : decode prog_5_method_2_code 117 = .ok (.aload_n 0, 1) := by decide +kernel
theorem jd_L_write_118 : decode prog_5_method_2_code 118 = .ok (.aload_n 1, 1) := by decide +kernel
theorem jd_L_write_119 : decode prog_5_method_2_code 119 = .ok (.getfield 49, 3) := by decide +kernel
theorem jd_L_write_122 : decode prog_5_method_2_code 122 = .ok (.iconst 2, 1) := by decide +kernel
theorem jd_L_write_123 : decode prog_5_method_2_code 123 = .ok (.invokevirtual 45, 3) := by decide +kernel
theorem jd_L_write_126 : decode prog_5_method_2_code 126 = .ok (.return_, 1) := by decide +kernel
theorem jd_L_putText_0 : decode prog_5_method_6_code 0 = .ok (.aload_n 0, 1) := by decide +kernel
theorem jd_L_putText_1 : decode prog_5_method_6_code 1 = .ok (.aload_n 1, 1) := by decide +kernel
theorem jd_L_putText_2 : decode prog_5_method_6_code 2 = .ok (.getfield 92, 3) := by decide +kernel
theorem jd_L_putText_5 : decode prog_5_method_6_code 5 = .ok (.invokevirtual 95, 3) := by decide +kernel
theorem jd_L_putText_8 : decode prog_5_method_6_code 8 = .ok (.iconst 0, 1) := by decide +kernel
theorem jd_L_putText_9 : decode prog_5_method_6_code 9 = .ok (.istore_n 2, 1) := by decide +kernel
theorem jd_L_putText_10 : decode prog_5_method_6_code 10 = .ok (.iload_n 2, 1) := by decide +kernel
theorem jd_L_putText_11 : decode prog_5_method_6_code 11 = .ok (.aload_n 1, 1) := by decide +kernel
theorem jd_L_putText_12 : decode prog_5_method_6_code 12 = .ok (.getfield 92, 3) := by decide +kernel
theorem jd_L_putText_15 : decode prog_5_method_6_code 15 = .ok (.if_icmp .ge 18, 3) := by decide +kernel
theorem jd_L_putText_18 : decode prog_5_method_6_code 18 = .ok (.aload_n 0, 1) := by decide +kernel
theorem jd_L_putText_19 : decode prog_5_method_6_code 19 = .ok (.aload_n 1, 1) := by decide +kernel
theorem jd_L_putText_20 : decode prog_5_method_6_code 20 = .ok (.iload_n 2, 1) := by decide +kernel
theorem jd_L_putText_21 : decode prog_5_method_6_code 21 = .ok (.invokevirtual 98, 3) := by decide +kernel
theorem jd_L_putText_24 : decode prog_5_method_6_code 24 = .ok (.invokevirtual 102, 3) := by decide +kernel
theorem jd_L_putText_27 : decode prog_5_method_6_code 27 = .ok (.iinc 2 1, 3) := by decide +kernel
theorem jd_L_putText_30 : decode prog_5_method_6_code 30 = .ok (.goto (-20), 3) := by decide +kernel
theorem jd_L_putText_33 : decode prog_5_method_6_code 33 = .ok (.return_, 1) := by decide +kernel
theorem jd_L_putLength_0 : decode prog_5_method_9_code 0 = .ok (.aload_n 0, 1) := by decide +kernel
theorem jd_L_putLength_1 : decode prog_5_method_9_code 1 = .ok (.iload_n 1, 1) := by decide +kernel
theorem jd_L_putLength_2 : decode prog_5_method_9_code 2 = .ok (.bipush 8, 2) := by decide +kernel
theorem jd_L_putLength_4 : decode prog_5_method_9_code 4 = .ok (.iushr, 1) := by decide +kernel
theorem jd_L_putLength_5 : decode prog_5_method_9_code 5 = .ok (.invokevirtual 102, 3) := by decide +kernel
theorem jd_L_putLength_8 : decode prog_5_method_9_code 8 = .ok (.aload_n 0, 1) := by decide +kernel
theorem jd_L_putLength_9 : decode prog_5_method_9_code 9 = .ok (.iload_n 1, 1) := by decide +kernel
theorem jd_L_putLength_10 : decode prog_5_method_9_code 10 = .ok (.invokevirtual 102, 3) := by decide +kernel
theorem jd_L_putLength_13 : decode prog_5_method_9_code 13 = .ok (.return_, 1) := by decide +kernel
theorem jd_L_put_0 : decode prog_5_method_11_code 0 = .ok (.aload_n 0, 1) := by decide +kernel
theorem jd_L_put_1 : decode prog_5_method_11_code 1 = .ok (.getfield 15, 3) := by decide +kernel
theorem jd_L_put_4 : decode prog_5_method_11_code 4 = .ok (.sipush 694, 3) := by decide +kernel
theorem jd_L_put_7 : decode prog_5_method_11_code 7 = .ok (.if_icmp .ge 24, 3) := by decide +kernel
theorem jd_L_put_10 : decode prog_5_method_11_code 10 = .ok (.aload_n 0, 1) := by decide +kernel
theorem jd_L_put_11 : decode prog_5_method_11_code 11 = .ok (.getfield 9, 3) := by decide +kernel
theorem jd_L_put_14 : decode prog_5_method_11_code 14 = .ok (.aload_n 0, 1) := by decide +kernel
theorem jd_L_put_15 : decode prog_5_method_11_code 15 = .ok (.getfield 15, 3) := by decide +kernel
theorem jd_L_put_18 : decode prog_5_method_11_code 18 = .ok (.iload_n 1, 1) := by decide +kernel
theorem jd_L_put_19 : decode prog_5_method_11_code 19 = .ok (.i2b, 1) := by decide +kernel
theorem jd_L_put_20 : decode prog_5_method_11_code 20 = .ok (.bastore, 1) := by decide +kernel
theorem jd_L_put_21 : decode prog_5_method_11_code 21 = .ok (.aload_n 0, 1) := by decide +kernel
theorem jd_L_put_22 : decode prog_5_method_11_code 22 = .ok (.dup, 1) := by decide +kernel
theorem jd_L_put_23 : decode prog_5_method_11_code 23 = .ok (.getfield 15, 3) := by decide +kernel
theorem jd_L_put_26 : decode prog_5_method_11_code 26 = .ok (.iconst 1, 1) := by decide +kernel
theorem jd_L_put_27 : decode prog_5_method_11_code 27 = .ok (.iadd, 1) := by decide +kernel
theorem jd_L_put_28 : decode prog_5_method_11_code 28 = .ok (.putfield 15, 3) := by decide +kernel
theorem jd_L_put_31 : decode prog_5_method_11_code 31 = .ok (.return_, 1) := by decide +kernel
theorem jd_D_hashedModifiers_0 : decode prog_2_method_3_code 0 = .ok (.aload_n 0, 1) := by decide +kernel
theorem jd_D_hashedModifiers_1 : decode prog_2_method_3_code 1 = .ok (.getfield 22, 3) := by decide +kernel
theorem jd_D_hashedModifiers_4 : decode prog_2_method_3_code 4 = .ok (.sipush 1553, 3) := by decide +kernel
theorem jd_D_hashedModifiers_7 : decode prog_2_method_3_code 7 = .ok (.iand, 1) := by decide +kernel
theorem jd_D_hashedModifiers_8 : decode prog_2_method_3_code 8 = .ok (.istore_n 1, 1) := by decide +kernel
theorem jd_D_hashedModifiers_9 : decode prog_2_method_3_code 9 = .ok (.aload_n 0, 1) := by decide +kernel
theorem jd_D_hashedModifiers_10 : decode prog_2_method_3_code 10 = .ok (.getfield 22, 3) := by decide +kernel
theorem jd_D_hashedModifiers_13 : decode prog_2_method_3_code 13 = .ok (.sipush 512, 3) := by decide +kernel
theorem jd_D_hashedModifiers_16 : decode prog_2_method_3_code 16 = .ok (.iand, 1) := by decide +kernel
theorem jd_D_hashedModifiers_17 : decode prog_2_method_3_code 17 = .ok (.ifCond .ne 5, 3) := by decide +kernel
theorem jd_D_hashedModifiers_20 : decode prog_2_method_3_code 20 = .ok (.iload_n 1, 1) := by decide +kernel
theorem jd_D_hashedModifiers_21 : decode prog_2_method_3_code 21 = .ok (.ireturn, 1) := by decide +kernel
theorem jd_D_hashedModifiers_22 : decode prog_2_method_3_code 22 = .ok (.aload_n 0, 1) := by decide +kernel
theorem jd_D_hashedModifiers_23 : decode prog_2_method_3_code 23 = .ok (.getfield 35, 3) := by decide +kernel
theorem jd_D_hashedModifiers_26 : decode prog_2_method_3_code 26 = .ok (.iconst 2, 1) := by decide +kernel
theorem jd_D_hashedModifiers_27 : decode prog_2_method_3_code 27 = .ok (.invokevirtual 52, 3) := by decide +kernel
theorem jd_D_hashedModifiers_30 : decode prog_2_method_3_code 30 = .ok (.ifCond .le 11, 3) := by decide +kernel
theorem jd_D_hashedModifiers_33 : decode prog_2_method_3_code 33 = .ok (.iload_n 1, 1) := by decide +kernel
theorem jd_D_hashedModifiers_34 : decode prog_2_method_3_code 34 = .ok (.sipush 1024, 3) := by decide +kernel
theorem jd_D_hashedModifiers_37 : decode prog_2_method_3_code 37 = .ok (.ior, 1) := by decide +kernel
theorem jd_D_hashedModifiers_38 : decode prog_2_method_3_code 38 = .ok (.goto 8, 3) := by decide +kernel
theorem jd_D_hashedModifiers_41 : decode prog_2_method_3_code 41 = .ok (.iload_n 1, 1) := by decide +kernel
theorem jd_D_hashedModifiers_42 : decode prog_2_method_3_code 42 = .ok (.sipush (-1025), 3) := by decide +kernel
theorem jd_D_hashedModifiers_45 : decode prog_2_method_3_code 45 = .ok (.iand, 1) := by decide +kernel
theorem jd_D_hashedModifiers_46 : decode prog_2_method_3_code 46 = .ok (.ireturn, 1) := by decide +kernel
theorem jd_R_tally_0 : decode prog_6_method_4_code 0 = .ok (.iconst 0, 1) := by decide +kernel
theorem jd_R_tally_1 : decode prog_6_method_4_code 1 = .ok (.istore_n 2, 1) := by decide +kernel
theorem jd_R_tally_2 : decode prog_6_method_4_code 2 = .ok (.iconst 0, 1) := by decide +kernel
theorem jd_R_tally_3 : decode prog_6_method_4_code 3 = .ok (.istore_n 3, 1) := by decide +kernel
theorem jd_R_tally_4 : decode prog_6_method_4_code 4 = .ok (.iload_n 3, 1) := by decide +kernel
theorem jd_R_tally_5 : decode prog_6_method_4_code 5 = .ok (.aload_n 0, 1) := by decide +kernel
theorem jd_R_tally_6 : decode prog_6_method_4_code 6 = .ok (.getfield 9, 3) := by decide +kernel
theorem jd_R_tally_9 : decode prog_6_method_4_code 9 = .ok (.if_icmp .ge 25, 3) := by decide +kernel
theorem jd_R_tally_12 : decode prog_6_method_4_code 12 = .ok (.aload_n 0, 1) := by decide +kernel
theorem jd_R_tally_13 : decode prog_6_method_4_code 13 = .ok (.getfield 17, 3) := by decide +kernel
theorem jd_R_tally_16 : decode prog_6_method_4_code 16 = .ok (.iload_n 3, 1) := by decide +kernel
theorem jd_R_tally_17 : decode prog_6_method_4_code 17 = .ok (.aaload, 1) := by decide +kernel
theorem jd_R_tally_18 : decode prog_6_method_4_code 18 = .ok (.getfield 34, 3) := by decide +kernel
theorem jd_R_tally_21 : decode prog_6_method_4_code 21 = .ok (.iload_n 1, 1) := by decide +kernel
theorem jd_R_tally_22 : decode prog_6_method_4_code 22 = .ok (.if_icmp .ne 6, 3) := by decide +kernel
theorem jd_R_tally_25 : decode prog_6_method_4_code 25 = .ok (.iinc 2 1, 3) := by decide +kernel
theorem jd_R_tally_28 : decode prog_6_method_4_code 28 = .ok (.iinc 3 1, 3) := by decide +kernel
theorem jd_R_tally_31 : decode prog_6_method_4_code 31 = .ok (.goto (-27), 3) := by decide +kernel
theorem jd_R_tally_34 : decode prog_6_method_4_code 34 = .ok (.iload_n 2, 1) := by decide +kernel
theorem jd_R_tally_35 : decode prog_6_method_4_code 35 = .ok (.ireturn, 1) := by decide +kernel
theorem jd_L_putNumber_0 : decode prog_5_method_10_code 0 = .ok (.aload_n 0, 1) := by decide +kernel
theorem jd_L_putNumber_1 : decode prog_5_method_10_code 1 = .ok (.iload_n 1, 1) := by decide +kernel
theorem jd_L_putNumber_2 : decode prog_5_method_10_code 2 = .ok (.bipush 24, 2) := by decide +kernel
theorem jd_L_putNumber_4 : decode prog_5_method_10_code 4 = .ok (.iushr, 1) := by decide +kernel
theorem jd_L_putNumber_5 : decode prog_5_method_10_code 5 = .ok (.invokevirtual 102, 3) := by decide +kernel
theorem jd_L_putNumber_8 : decode prog_5_method_10_code 8 = .ok (.aload_n 0, 1) := by decide +kernel
theorem jd_L_putNumber_9 : decode prog_5_method_10_code 9 = .ok (.iload_n 1, 1) := by decide +kernel
theorem jd_L_putNumber_10 : decode prog_5_method_10_code 10 = .ok (.bipush 16, 2) := by decide +kernel
theorem jd_L_putNumber_12 : decode prog_5_method_10_code 12 = .ok (.iushr, 1) := by decide +kernel
theorem jd_L_putNumber_13 : decode prog_5_method_10_code 13 = .ok (.invokevirtual 102, 3) := by decide +kernel
theorem jd_L_putNumber_16 : decode prog_5_method_10_code 16 = .ok (.aload_n 0, 1) := by decide +kernel
theorem jd_L_putNumber_17 : decode prog_5_method_10_code 17 = .ok (.iload_n 1, 1) := by decide +kernel
theorem jd_L_putNumber_18 : decode prog_5_method_10_code 18 = .ok (.bipush 8, 2) := by decide +kernel
theorem jd_L_putNumber_20 : decode prog_5_method_10_code 20 = .ok (.iushr, 1) := by decide +kernel
theorem jd_L_putNumber_21 : decode prog_5_method_10_code 21 = .ok (.invokevirtual 102, 3) := by decide +kernel
theorem jd_L_putNumber_24 : decode prog_5_method_10_code 24 = .ok (.aload_n 0, 1) := by decide +kernel
theorem jd_L_putNumber_25 : decode prog_5_method_10_code 25 = .ok (.iload_n 1, 1) := by decide +kernel
theorem jd_L_putNumber_26 : decode prog_5_method_10_code 26 = .ok (.invokevirtual 102, 3) := by decide +kernel
theorem jd_L_putNumber_29 : decode prog_5_method_10_code 29 = .ok (.return_, 1) := by decide +kernel
theorem jd_L_putAll_0 : decode prog_5_method_4_code 0 = .ok (.iconst 0, 1) := by decide +kernel
theorem jd_L_putAll_1 : decode prog_5_method_4_code 1 = .ok (.istore_n 3, 1) := by decide +kernel
theorem jd_L_putAll_2 : decode prog_5_method_4_code 2 = .ok (.iload_n 3, 1) := by decide +kernel
theorem jd_L_putAll_3 : decode prog_5_method_4_code 3 = .ok (.aload_n 1, 1) := by decide +kernel
theorem jd_L_putAll_4 : decode prog_5_method_4_code 4 = .ok (.getfield 52, 3) := by decide +kernel
theorem jd_L_putAll_7 : decode prog_5_method_4_code 7 = .ok (.if_icmp .ge 40, 3) := by decide +kernel
theorem jd_L_putAll_10 : decode prog_5_method_4_code 10 = .ok (.aload_n 1, 1) := by decide +kernel
theorem jd_L_putAll_11 : decode prog_5_method_4_code 11 = .ok (.getfield 57, 3) := by decide +kernel
theorem jd_L_putAll_14 : decode prog_5_method_4_code 14 = .ok (.iload_n 3, 1) := by decide +kernel
theorem jd_L_putAll_15 : decode prog_5_method_4_code 15 = .ok (.aaload, 1) := by decide +kernel
theorem jd_L_putAll_16 : decode prog_5_method_4_code 16 = .ok (.astore 4, 2) := by decide +kernel
theorem jd_L_putAll_18 : decode prog_5_method_4_code 18 = .ok (.aload 4, 2) := by decide +kernel
theorem jd_L_putAll_20 : decode prog_5_method_4_code 20 = .ok (.getfield 61, 3) := by decide +kernel
theorem jd_L_putAll_23 : decode prog_5_method_4_code 23 = .ok (.iload_n 2, 1) := by decide +kernel
theorem jd_L_putAll_24 : decode prog_5_method_4_code 24 = .ok (.if_icmp .ne 17, 3) := by decide +kernel
theorem jd_L_putAll_27 : decode prog_5_method_4_code 27 = .ok (.aload 4, 2) := by decide +kernel
theorem jd_L_putAll_29 : decode prog_5_method_4_code 29 = .ok (.invokevirtual 66, 3) := by decide +kernel
theorem jd_L_putAll_32 : decode prog_5_method_4_code 32 = .ok (.ifCond .eq 9, 3) := by decide +kernel
theorem jd_L_putAll_35 : decode prog_5_method_4_code 35 = .ok (.aload_n 0, 1) := by decide +kernel
theorem jd_L_putAll_36 : decode prog_5_method_4_code 36 = .ok (.aload 4, 2) := by decide +kernel
theorem jd_L_putAll_38 : decode prog_5_method_4_code 38 = .ok (.invokevirtual 70, 3) := by decide +kernel
theorem jd_L_putAll_41 : decode prog_5_method_4_code 41 = .ok (.iinc 3 1, 3) := by decide +kernel
theorem jd_L_putAll_44 : decode prog_5_method_4_code 44 = .ok (.goto (-42), 3) := by decide +kernel
theorem jd_L_putAll_47 : decode prog_5_method_4_code 47 = .ok (.return_, 1) := by decide +kernel
theorem jd_E_isHashed_0 : decode prog_4_method_5_code 0 = .ok (.aload_n 0, 1) := by decide +kernel
theorem jd_E_isHashed_1 : decode prog_4_method_5_code 1 = .ok (.getfield 9, 3) := by decide +kernel
theorem jd_E_isHashed_4 : decode prog_4_method_5_code 4 = .ok (.ifCond .ne 36, 3) := by decide +kernel
theorem jd_E_isHashed_7 : decode prog_4_method_5_code 7 = .ok (.aload_n 0, 1) := by decide +kernel
theorem jd_E_isHashed_8 : decode prog_4_method_5_code 8 = .ok (.iconst 2, 1) := by decide +kernel
theorem jd_E_isHashed_9 : decode prog_4_method_5_code 9 = .ok (.invokevirtual 36, 3) := by decide +kernel
theorem jd_E_isHashed_12 : decode prog_4_method_5_code 12 = .ok (.ifCond .eq 22, 3) := by decide +kernel
theorem jd_E_isHashed_15 : decode prog_4_method_5_code 15 = .ok (.aload_n 0, 1) := by decide +kernel
theorem jd_E_isHashed_16 : decode prog_4_method_5_code 16 = .ok (.bipush 8, 2) := by decide +kernel
theorem jd_E_isHashed_18 : decode prog_4_method_5_code 18 = .ok (.invokevirtual 36, 3) := by decide +kernel
theorem jd_E_isHashed_21 : decode prog_4_method_5_code 21 = .ok (.ifCond .ne 17, 3) := by decide +kernel
theorem jd_E_isHashed_24 : decode prog_4_method_5_code 24 = .ok (.aload_n 0, 1) := by decide +kernel
theorem jd_E_isHashed_25 : decode prog_4_method_5_code 25 = .ok (.sipush 128, 3) := by decide +kernel
theorem jd_E_isHashed_28 : decode prog_4_method_5_code 28 = .ok (.invokevirtual 36, 3) := by decide +kernel
theorem jd_E_isHashed_31 : decode prog_4_method_5_code 31 = .ok (.ifCond .ne 7, 3) := by decide +kernel
theorem jd_E_isHashed_34 : decode prog_4_method_5_code 34 = .ok (.iconst 1, 1) := by decide +kernel
theorem jd_E_isHashed_35 : decode prog_4_method_5_code 35 = .ok (.goto 4, 3) := by decide +kernel
theorem jd_E_isHashed_38 : decode prog_4_method_5_code 38 = .ok (.iconst 0, 1) := by decide +kernel
theorem jd_E_isHashed_39 : decode prog_4_method_5_code 39 = .ok (.ireturn, 1) := by decide +kernel
theorem jd_E_isHashed_40 : decode prog_4_method_5_code 40 = .ok (.aload_n 0, 1) := by decide +kernel
theorem jd_E_isHashed_41 : decode prog_4_method_5_code 41 = .ok (.getfield 9, 3) := by decide +kernel
theorem jd_E_isHashed_44 : decode prog_4_method_5_code 44 = .ok (.iconst 4, 1) := by decide +kernel
theorem jd_E_isHashed_45 : decode prog_4_method_5_code 45 = .ok (.if_icmp .eq 19, 3) := by decide +kernel
theorem jd_E_isHashed_48 : decode prog_4_method_5_code 48 = .ok (.aload_n 0, 1) := by decide +kernel
theorem jd_E_isHashed_49 : decode prog_4_method_5_code 49 = .ok (.getfield 9, 3) := by decide +kernel
theorem jd_E_isHashed_52 : decode prog_4_method_5_code 52 = .ok (.iconst 3, 1) := by decide +kernel
theorem jd_E_isHashed_53 : decode prog_4_method_5_code 53 = .ok (.if_icmp .eq 11, 3) := by decide +kernel
theorem jd_E_isHashed_56 : decode prog_4_method_5_code 56 = .ok (.aload_n 0, 1) := by decide +kernel
theorem jd_E_isHashed_57 : decode prog_4_method_5_code 57 = .ok (.iconst 2, 1) := by decide +kernel
theorem jd_E_isHashed_58 : decode prog_4_method_5_code 58 = .ok (.invokevirtual 36, 3) := by decide +kernel
theorem jd_E_isHashed_61 : decode prog_4_method_5_code 61 = .ok (.ifCond .ne 7, 3) := by decide +kernel
theorem jd_E_isHashed_64 : decode prog_4_method_5_code 64 = .ok (.iconst 1, 1) := by decide +kernel
theorem jd_E_isHashed_65 : decode prog_4_method_5_code 65 = .ok (.goto 4, 3) := by decide +kernel
theorem jd_E_isHashed_68 : decode prog_4_method_5_code 68 = .ok (.iconst 0, 1) := by decide +kernel
theorem jd_E_isHashed_69 : decode prog_4_method_5_code 69 = .ok (.ireturn, 1) := by decide +kernel
theorem jd_E_has_0 : decode prog_4_method_4_code 0 = .ok (.aload_n 0, 1) := by decide +kernel
theorem jd_E_has_1 : decode prog_4_method_4_code 1 = .ok (.getfield 15, 3) := by decide +kernel
theorem jd_E_has_4 : decode prog_4_method_4_code 4 = .ok (.iload_n 1, 1) := by decide +kernel
theorem jd_E_has_5 : decode prog_4_method_4_code 5 = .ok (.iand, 1) := by decide +kernel
theorem jd_E_has_6 : decode prog_4_method_4_code 6 = .ok (.ifCond .eq 7, 3) := by decide +kernel
theorem jd_E_has_9 : decode prog_4_method_4_code 9 = .ok (.iconst 1, 1) := by decide +kernel
theorem jd_E_has_10 : decode prog_4_method_4_code 10 = .ok (.goto 4, 3) := by decide +kernel
theorem jd_E_has_13 : decode prog_4_method_4_code 13 = .ok (.iconst 0, 1) := by decide +kernel
theorem jd_E_has_14 : decode prog_4_method_4_code 14 = .ok (.ireturn, 1) := by decide +kernel
theorem jd_L_putEntry_0 : decode prog_5_method_5_code 0 = .ok (.aload_n 1, 1) := by decide +kernel
theorem jd_L_putEntry_1 : decode prog_5_method_5_code 1 = .ok (.getfield 61, 3) := by decide +kernel
theorem jd_L_putEntry_4 : decode prog_5_method_5_code 4 = .ok (.tableswitch 144 0 3 #[32, 84, 113, 63], 32) := by decide +kernel
theorem jd_L_putEntry_36 : decode prog_5_method_5_code 36 = .ok (.aload_n 0, 1) := by decide +kernel
theorem jd_L_putEntry_37 : decode prog_5_method_5_code 37 = .ok (.aload_n 1, 1) := by decide +kernel
theorem jd_L_putEntry_38 : decode prog_5_method_5_code 38 = .ok (.getfield 74, 3) := by decide +kernel
theorem jd_L_putEntry_41 : decode prog_5_method_5_code 41 = .ok (.invokevirtual 29, 3) := by decide +kernel
theorem jd_L_putEntry_44 : decode prog_5_method_5_code 44 = .ok (.aload_n 0, 1) := by decide +kernel
theorem jd_L_putEntry_45 : decode prog_5_method_5_code 45 = .ok (.aload_n 1, 1) := by decide +kernel
theorem jd_L_putEntry_46 : decode prog_5_method_5_code 46 = .ok (.getfield 75, 3) := by decide +kernel
theorem jd_L_putEntry_49 : decode prog_5_method_5_code 49 = .ok (.sipush 223, 3) := by decide +kernel
theorem jd_L_putEntry_52 : decode prog_5_method_5_code 52 = .ok (.iand, 1) := by decide +kernel
theorem jd_L_putEntry_53 : decode prog_5_method_5_code 53 = .ok (.invokevirtual 37, 3) := by decide +kernel
theorem jd_L_putEntry_56 : decode prog_5_method_5_code 56 = .ok (.aload_n 0, 1) := by decide +kernel
theorem jd_L_putEntry_57 : decode prog_5_method_5_code 57 = .ok (.aload_n 1, 1) := by decide +kernel
theorem jd_L_putEntry_58 : decode prog_5_method_5_code 58 = .ok (.getfield 78, 3) := by decide +kernel
theorem jd_L_putEntry_61 : decode prog_5_method_5_code 61 = .ok (.invokevirtual 29, 3) := by decide +kernel
theorem jd_L_putEntry_64 : decode prog_5_method_5_code 64 = .ok (.goto 92, 3) := by decide +kernel
theorem jd_L_putEntry_67 : decode prog_5_method_5_code 67 = .ok (.aload_n 0, 1) := by decide +kernel
theorem jd_L_putEntry_68 : decode prog_5_method_5_code 68 = .ok (.ldc 81, 2) := by decide +kernel
theorem jd_L_putEntry_70 : decode prog_5_method_5_code 70 = .ok (.invokevirtual 83, 3) := by decide +kernel
theorem jd_L_putEntry_73 : decode prog_5_method_5_code 73 = .ok (.aload_n 0, 1) := by decide +kernel
theorem jd_L_putEntry_74 : decode prog_5_method_5_code 74 = .ok (.bipush 8, 2) := by decide +kernel
theorem jd_L_putEntry_76 : decode prog_5_method_5_code 76 = .ok (.invokevirtual 37, 3) := by decide +kernel
theorem jd_L_putEntry_79 : decode prog_5_method_5_code 79 = .ok (.aload_n 0, 1) := by decide +kernel
theorem jd_L_putEntry_80 : decode prog_5_method_5_code 80 = .ok (.ldc 87, 2) := by decide +kernel
theorem jd_L_putEntry_82 : decode prog_5_method_5_code 82 = .ok (.invokevirtual 83, 3) := by decide +kernel
theorem jd_L_putEntry_85 : decode prog_5_method_5_code 85 = .ok (.goto 71, 3) := by decide +kernel
theorem jd_L_putEntry_88 : decode prog_5_method_5_code 88 = .ok (.aload_n 0, 1) := by decide +kernel
theorem jd_L_putEntry_89 : decode prog_5_method_5_code 89 = .ok (.ldc 88, 2) := by decide +kernel
theorem jd_L_putEntry_91 : decode prog_5_method_5_code 91 = .ok (.invokevirtual 83, 3) := by decide +kernel
theorem jd_L_putEntry_94 : decode prog_5_method_5_code 94 = .ok (.aload_n 0, 1) := by decide +kernel
theorem jd_L_putEntry_95 : decode prog_5_method_5_code 95 = .ok (.aload_n 1, 1) := by decide +kernel
theorem jd_L_putEntry_96 : decode prog_5_method_5_code 96 = .ok (.getfield 75, 3) := by decide +kernel
theorem jd_L_putEntry_99 : decode prog_5_method_5_code 99 = .ok (.sipush 3391, 3) := by decide +kernel
theorem jd_L_putEntry_102 : decode prog_5_method_5_code 102 = .ok (.iand, 1) := by decide +kernel
theorem jd_L_putEntry_103 : decode prog_5_method_5_code 103 = .ok (.invokevirtual 37, 3) := by decide +kernel
theorem jd_L_putEntry_106 : decode prog_5_method_5_code 106 = .ok (.aload_n 0, 1) := by decide +kernel
theorem jd_L_putEntry_107 : decode prog_5_method_5_code 107 = .ok (.aload_n 1, 1) := by decide +kernel
theorem jd_L_putEntry_108 : decode prog_5_method_5_code 108 = .ok (.getfield 78, 3) := by decide +kernel
theorem jd_L_putEntry_111 : decode prog_5_method_5_code 111 = .ok (.invokevirtual 89, 3) := by decide +kernel
theorem jd_L_putEntry_114 : decode prog_5_method_5_code 114 = .ok (.goto 42, 3) := by decide +kernel
theorem jd_L_putEntry_117 : decode prog_5_method_5_code 117 = .ok (.aload_n 0, 1) := by decide +kernel
theorem jd_L_putEntry_118 : decode prog_5_method_5_code 118 = .ok (.aload_n 1, 1) := by decide +kernel
theorem jd_L_putEntry_119 : decode prog_5_method_5_code 119 = .ok (.getfield 74, 3) := by decide +kernel
theorem jd_L_putEntry_122 : decode prog_5_method_5_code 122 = .ok (.invokevirtual 29, 3) := by decide +kernel
theorem jd_L_putEntry_125 : decode prog_5_method_5_code 125 = .ok (.aload_n 0, 1) := by decide +kernel
theorem jd_L_putEntry_126 : decode prog_5_method_5_code 126 = .ok (.aload_n 1, 1) := by decide +kernel
theorem jd_L_putEntry_127 : decode prog_5_method_5_code 127 = .ok (.getfield 75, 3) := by decide +kernel
theorem jd_L_putEntry_130 : decode prog_5_method_5_code 130 = .ok (.sipush 3391, 3) := by decide +kernel
theorem jd_L_putEntry_133 : decode prog_5_method_5_code 133 = .ok (.iand, 1) := by decide +kernel
theorem jd_L_putEntry_134 : decode prog_5_method_5_code 134 = .ok (.invokevirtual 37, 3) := by decide +kernel
theorem jd_L_putEntry_137 : decode prog_5_method_5_code 137 = .ok (.aload_n 0, 1) := by decide +kernel
theorem jd_L_putEntry_138 : decode prog_5_method_5_code 138 = .ok (.aload_n 1, 1) := by decide +kernel
theorem jd_L_putEntry_139 : decode prog_5_method_5_code 139 = .ok (.getfield 78, 3) := by decide +kernel
theorem jd_L_putEntry_142 : decode prog_5_method_5_code 142 = .ok (.invokevirtual 89, 3) := by decide +kernel
theorem jd_L_putEntry_145 : decode prog_5_method_5_code 145 = .ok (.goto 11, 3) := by decide +kernel
theorem jd_L_putEntry_148 : decode prog_5_method_5_code 148 = .ok (.aload_n 0, 1) := by decide +kernel
theorem jd_L_putEntry_149 : decode prog_5_method_5_code 149 = .ok (.aload_n 1, 1) := by decide +kernel
theorem jd_L_putEntry_150 : decode prog_5_method_5_code 150 = .ok (.getfield 74, 3) := by decide +kernel
theorem jd_L_putEntry_153 : decode prog_5_method_5_code 153 = .ok (.invokevirtual 29, 3) := by decide +kernel
theorem jd_L_putEntry_156 : decode prog_5_method_5_code 156 = .ok (.return_, 1) := by decide +kernel
theorem jd_L_putConstant_0 : decode prog_5_method_8_code 0 = .ok (.aload_n 0, 1) := by decide +kernel
theorem jd_L_putConstant_1 : decode prog_5_method_8_code 1 = .ok (.aload_n 1, 1) := by decide +kernel
theorem jd_L_putConstant_2 : decode prog_5_method_8_code 2 = .ok (.invokevirtual 105, 3) := by decide +kernel
theorem jd_L_putConstant_5 : decode prog_5_method_8_code 5 = .ok (.invokevirtual 95, 3) := by decide +kernel
theorem jd_L_putConstant_8 : decode prog_5_method_8_code 8 = .ok (.iconst 0, 1) := by decide +kernel
theorem jd_L_putConstant_9 : decode prog_5_method_8_code 9 = .ok (.istore_n 2, 1) := by decide +kernel
theorem jd_L_putConstant_10 : decode prog_5_method_8_code 10 = .ok (.iload_n 2, 1) := by decide +kernel
theorem jd_L_putConstant_11 : decode prog_5_method_8_code 11 = .ok (.aload_n 1, 1) := by decide +kernel
theorem jd_L_putConstant_12 : decode prog_5_method_8_code 12 = .ok (.invokevirtual 105, 3) := by decide +kernel
theorem jd_L_putConstant_15 : decode prog_5_method_8_code 15 = .ok (.if_icmp .ge 18, 3) := by decide +kernel
theorem jd_L_putConstant_18 : decode prog_5_method_8_code 18 = .ok (.aload_n 0, 1) := by decide +kernel
theorem jd_L_putConstant_19 : decode prog_5_method_8_code 19 = .ok (.aload_n 1, 1) := by decide +kernel
theorem jd_L_putConstant_20 : decode prog_5_method_8_code 20 = .ok (.iload_n 2, 1) := by decide +kernel
theorem jd_L_putConstant_21 : decode prog_5_method_8_code 21 = .ok (.invokevirtual 109, 3) := by decide +kernel
theorem jd_L_putConstant_24 : decode prog_5_method_8_code 24 = .ok (.invokevirtual 102, 3) := by decide +kernel
theorem jd_L_putConstant_27 : decode prog_5_method_8_code 27 = .ok (.iinc 2 1, 3) := by decide +kernel
theorem jd_L_putConstant_30 : decode prog_5_method_8_code 30 = .ok (.goto (-20), 3) := by decide +kernel
theorem jd_L_putConstant_33 : decode prog_5_method_8_code 33 = .ok (.return_, 1) := by decide +kernel
theorem jd_JS_length_0 : decode prog_12_method_54_code 0 = .ok (.aload_n 0, 1) := by decide +kernel
theorem jd_JS_length_1 : decode prog_12_method_54_code 1 = .ok (.getfield 9, 3) := by decide +kernel
theorem jd_JS_length_4 : decode prog_12_method_54_code 4 = .ok (.arraylength, 1) := by decide +kernel
theorem jd_JS_length_5 : decode prog_12_method_54_code 5 = .ok (.aload_n 0, 1) := by decide +kernel
theorem jd_JS_length_6 : decode prog_12_method_54_code 6 = .ok (.invokevirtual 335, 3) := by decide +kernel
theorem jd_JS_length_9 : decode prog_12_method_54_code 9 = .ok (.ishr, 1) := by decide +kernel
theorem jd_JS_length_10 : decode prog_12_method_54_code 10 = .ok (.ireturn, 1) := by decide +kernel
theorem jd_JS_coder_0 : decode prog_12_method_152_code 0 = .ok (.getstatic 38, 3) := by decide +kernel
theorem jd_JS_coder_3 : decode prog_12_method_152_code 3 = .ok (.ifCond .eq 10, 3) := by decide +kernel
theorem jd_JS_coder_6 : decode prog_12_method_152_code 6 = .ok (.aload_n 0, 1) := by decide +kernel
theorem jd_JS_coder_7 : decode prog_12_method_152_code 7 = .ok (.getfield 15, 3) := by decide +kernel
theorem jd_JS_coder_10 : decode prog_12_method_152_code 10 = .ok (.goto 4, 3) := by decide +kernel
theorem jd_JS_coder_13 : decode prog_12_method_152_code 13 = .ok (.iconst 1, 1) := by decide +kernel
theorem jd_JS_coder_14 : decode prog_12_method_152_code 14 = .ok (.ireturn, 1) := by decide +kernel
theorem jd_JS_charAt_0 : decode prog_12_method_56_code 0 = .ok (.aload_n 0, 1) := by decide +kernel
theorem jd_JS_charAt_1 : decode prog_12_method_56_code 1 = .ok (.invokevirtual 492, 3) := by decide +kernel
theorem jd_JS_charAt_4 : decode prog_12_method_56_code 4 = .ok (.ifCond .eq 12, 3) := by decide +kernel
theorem jd_JS_charAt_7 : decode prog_12_method_56_code 7 = .ok (.aload_n 0, 1) := by decide +kernel
theorem jd_JS_charAt_8 : decode prog_12_method_56_code 8 = .ok (.getfield 9, 3) := by decide +kernel
theorem jd_JS_charAt_11 : decode prog_12_method_56_code 11 = .ok (.iload_n 1, 1) := by decide +kernel
theorem jd_JS_charAt_12 : decode prog_12_method_56_code 12 = .ok (.invokestatic 495, 3) := by decide +kernel
theorem jd_JS_charAt_15 : decode prog_12_method_56_code 15 = .ok (.ireturn, 1) := by decide +kernel
theorem jd_JS_charAt_16 : decode prog_12_method_56_code 16 = .ok (.aload_n 0, 1) := by decide +kernel
theorem jd_JS_charAt_17 : decode prog_12_method_56_code 17 = .ok (.getfield 9, 3) := by decide +kernel
theorem jd_JS_charAt_20 : decode prog_12_method_56_code 20 = .ok (.iload_n 1, 1) := by decide +kernel
theorem jd_JS_charAt_21 : decode prog_12_method_56_code 21 = .ok (.invokestatic 498, 3) := by decide +kernel
theorem jd_JS_charAt_24 : decode prog_12_method_56_code 24 = .ok (.ireturn, 1) := by decide +kernel
theorem jd_JS_isLatin1_0 : decode prog_12_method_154_code 0 = .ok (.getstatic 38, 3) := by decide +kernel
theorem jd_JS_isLatin1_3 : decode prog_12_method_154_code 3 = .ok (.ifCond .eq 14, 3) := by decide +kernel
theorem jd_JS_isLatin1_6 : decode prog_12_method_154_code 6 = .ok (.aload_n 0, 1) := by decide +kernel
theorem jd_JS_isLatin1_7 : decode prog_12_method_154_code 7 = .ok (.getfield 15, 3) := by decide +kernel
theorem jd_JS_isLatin1_10 : decode prog_12_method_154_code 10 = .ok (.ifCond .ne 7, 3) := by decide +kernel
theorem jd_JS_isLatin1_13 : decode prog_12_method_154_code 13 = .ok (.iconst 1, 1) := by decide +kernel
theorem jd_JS_isLatin1_14 : decode prog_12_method_154_code 14 = .ok (.goto 4, 3) := by decide +kernel
theorem jd_JS_isLatin1_17 : decode prog_12_method_154_code 17 = .ok (.iconst 0, 1) := by decide +kernel
theorem jd_JS_isLatin1_18 : decode prog_12_method_154_code 18 = .ok (.ireturn, 1) := by decide +kernel
theorem jd_JL_charAt_0 : decode prog_13_method_2_code 0 = .ok (.iload_n 1, 1) := by decide +kernel
theorem jd_JL_charAt_1 : decode prog_13_method_2_code 1 = .ok (.aload_n 0, 1) := by decide +kernel
theorem jd_JL_charAt_2 : decode prog_13_method_2_code 2 = .ok (.arraylength, 1) := by decide +kernel
theorem jd_JL_charAt_3 : decode prog_13_method_2_code 3 = .ok (.invokestatic 9, 3) := by decide +kernel
theorem jd_JL_charAt_6 : decode prog_13_method_2_code 6 = .ok (.aload_n 0, 1) := by decide +kernel
theorem jd_JL_charAt_7 : decode prog_13_method_2_code 7 = .ok (.iload_n 1, 1) := by decide +kernel
theorem jd_JL_charAt_8 : decode prog_13_method_2_code 8 = .ok (.baload, 1) := by decide +kernel
theorem jd_JL_charAt_9 : decode prog_13_method_2_code 9 = .ok (.sipush 255, 3) := by decide +kernel
theorem jd_JL_charAt_12 : decode prog_13_method_2_code 12 = .ok (.iand, 1) := by decide +kernel
theorem jd_JL_charAt_13 : decode prog_13_method_2_code 13 = .ok (.i2c, 1) := by decide +kernel
theorem jd_JL_charAt_14 : decode prog_13_method_2_code 14 = .ok (.ireturn, 1) := by decide +kernel
theorem jd_JS_checkIndex_0 : decode prog_12_method_155_code 0 = .ok (.iload_n 0, 1) := by decide +kernel
theorem jd_JS_checkIndex_1 : decode prog_12_method_155_code 1 = .ok (.iload_n 1, 1) := by decide +kernel
theorem jd_JS_checkIndex_2 : decode prog_12_method_155_code 2 = .ok (.getstatic 1053, 3) := by decide +kernel
theorem jd_JS_checkIndex_5 : decode prog_12_method_155_code 5 = .ok (.invokestatic 1059, 3) := by decide +kernel
theorem jd_JS_checkIndex_8 : decode prog_12_method_155_code 8 = .ok (.pop, 1) := by decide +kernel
theorem jd_JS_checkIndex_9 : decode prog_12_method_155_code 9 = .ok (.return_, 1) := by decide +kernel
theorem jd_L_putDotted_0 : decode prog_5_method_7_code 0 = .ok (.aload_n 0, 1) := by decide +kernel
theorem jd_L_putDotted_1 : decode prog_5_method_7_code 1 = .ok (.aload_n 1, 1) := by decide +kernel
theorem jd_L_putDotted_2 : decode prog_5_method_7_code 2 = .ok (.getfield 92, 3) := by decide +kernel
theorem jd_L_putDotted_5 : decode prog_5_method_7_code 5 = .ok (.invokevirtual 95, 3) := by decide +kernel
theorem jd_L_putDotted_8 : decode prog_5_method_7_code 8 = .ok (.iconst 0, 1) := by decide +kernel
theorem jd_L_putDotted_9 : decode prog_5_method_7_code 9 = .ok (.istore_n 2, 1) := by decide +kernel
theorem jd_L_putDotted_10 : decode prog_5_method_7_code 10 = .ok (.iload_n 2, 1) := by decide +kernel
theorem jd_L_putDotted_11 : decode prog_5_method_7_code 11 = .ok (.aload_n 1, 1) := by decide +kernel
theorem jd_L_putDotted_12 : decode prog_5_method_7_code 12 = .ok (.getfield 92, 3) := by decide +kernel
theorem jd_L_putDotted_15 : decode prog_5_method_7_code 15 = .ok (.if_icmp .ge 33, 3) := by decide +kernel
theorem jd_L_putDotted_18 : decode prog_5_method_7_code 18 = .ok (.aload_n 0, 1) := by decide +kernel
theorem jd_L_putDotted_19 : decode prog_5_method_7_code 19 = .ok (.aload_n 1, 1) := by decide +kernel
theorem jd_L_putDotted_20 : decode prog_5_method_7_code 20 = .ok (.iload_n 2, 1) := by decide +kernel
theorem jd_L_putDotted_21 : decode prog_5_method_7_code 21 = .ok (.invokevirtual 98, 3) := by decide +kernel
theorem jd_L_putDotted_24 : decode prog_5_method_7_code 24 = .ok (.bipush 47, 2) := by decide +kernel
theorem jd_L_putDotted_26 : decode prog_5_method_7_code 26 = .ok (.if_icmp .ne 8, 3) := by decide +kernel
theorem jd_L_putDotted_29 : decode prog_5_method_7_code 29 = .ok (.bipush 46, 2) := by decide +kernel
theorem jd_L_putDotted_31 : decode prog_5_method_7_code 31 = .ok (.goto 8, 3) := by decide +kernel
theorem jd_L_putDotted_34 : decode prog_5_method_7_code 34 = .ok (.aload_n 1, 1) := by decide +kernel
theorem jd_L_putDotted_35 : decode prog_5_method_7_code 35 = .ok (.iload_n 2, 1) := by decide +kernel
theorem jd_L_putDotted_36 : decode prog_5_method_7_code 36 = .ok (.invokevirtual 98, 3) := by decide +kernel
theorem jd_L_putDotted_39 : decode prog_5_method_7_code 39 = .ok (.invokevirtual 102, 3) := by decide +kernel
theorem jd_L_putDotted_42 : decode prog_5_method_7_code 42 = .ok (.iinc 2 1, 3) := by decide +kernel
theorem jd_L_putDotted_45 : decode prog_5_method_7_code 45 = .ok (.goto (-35), 3) := by decide +kernel
theorem jd_L_putDotted_48 : decode prog_5_method_7_code 48 = .ok (.return_, 1) := by decide +kernel
theorem jd_G_take_0 : decode prog_3_method_2_code 0 = .ok (.getstatic 18, 3) := by decide +kernel
theorem jd_G_take_3 : decode prog_3_method_2_code 3 = .ok (.iconst 0, 1) := by decide +kernel
theorem jd_G_take_4 : decode prog_3_method_2_code 4 = .ok (.aload_n 0, 1) := by decide +kernel
theorem jd_G_take_5 : decode prog_3_method_2_code 5 = .ok (.getfield 9, 3) := by decide +kernel
theorem jd_G_take_8 : decode prog_3_method_2_code 8 = .ok (.iconst 0, 1) := by decide +kernel
theorem jd_G_take_9 : decode prog_3_method_2_code 9 = .ok (.iconst 5, 1) := by decide +kernel
theorem jd_G_take_10 : decode prog_3_method_2_code 10 = .ok (.invokestatic 21, 3) := by decide +kernel
theorem jd_G_take_13 : decode prog_3_method_2_code 13 = .ok (.aload_n 1, 1) := by decide +kernel
theorem jd_G_take_14 : decode prog_3_method_2_code 14 = .ok (.getfield 27, 3) := by decide +kernel
theorem jd_G_take_17 : decode prog_3_method_2_code 17 = .ok (.iconst 1, 1) := by decide +kernel
theorem jd_G_take_18 : decode prog_3_method_2_code 18 = .ok (.iadd, 1) := by decide +kernel
theorem jd_G_take_19 : decode prog_3_method_2_code 19 = .ok (.bipush 8, 2) := by decide +kernel
theorem jd_G_take_21 : decode prog_3_method_2_code 21 = .ok (.iadd, 1) := by decide +kernel
theorem jd_G_take_22 : decode prog_3_method_2_code 22 = .ok (.bipush 64, 2) := by decide +kernel
theorem jd_G_take_24 : decode prog_3_method_2_code 24 = .ok (.iadd, 1) := by decide +kernel
theorem jd_G_take_25 : decode prog_3_method_2_code 25 = .ok (.iconst 1, 1) := by decide +kernel
theorem jd_G_take_26 : decode prog_3_method_2_code 26 = .ok (.isub, 1) := by decide +kernel
theorem jd_G_take_27 : decode prog_3_method_2_code 27 = .ok (.bipush 64, 2) := by decide +kernel
theorem jd_G_take_29 : decode prog_3_method_2_code 29 = .ok (.idiv, 1) := by decide +kernel
theorem jd_G_take_30 : decode prog_3_method_2_code 30 = .ok (.istore_n 2, 1) := by decide +kernel
theorem jd_G_take_31 : decode prog_3_method_2_code 31 = .ok (.iconst 0, 1) := by decide +kernel
theorem jd_G_take_32 : decode prog_3_method_2_code 32 = .ok (.istore_n 3, 1) := by decide +kernel
theorem jd_G_take_33 : decode prog_3_method_2_code 33 = .ok (.iload_n 3, 1) := by decide +kernel
theorem jd_G_take_34 : decode prog_3_method_2_code 34 = .ok (.iload_n 2, 1) := by decide +kernel
theorem jd_G_take_35 : decode prog_3_method_2_code 35 = .ok (.if_icmp .ge 26, 3) := by decide +kernel
theorem jd_G_take_38 : decode prog_3_method_2_code 38 = .ok (.aload_n 0, 1) := by decide +kernel
theorem jd_G_take_39 : decode prog_3_method_2_code 39 = .ok (.aload_n 1, 1) := by decide +kernel
theorem jd_G_take_40 : decode prog_3_method_2_code 40 = .ok (.iload_n 3, 1) := by decide +kernel
theorem jd_G_take_41 : decode prog_3_method_2_code 41 = .ok (.bipush 64, 2) := by decide +kernel
theorem jd_G_take_43 : decode prog_3_method_2_code 43 = .ok (.imul, 1) := by decide +kernel
theorem jd_G_take_44 : decode prog_3_method_2_code 44 = .ok (.iload_n 2, 1) := by decide +kernel
theorem jd_G_take_45 : decode prog_3_method_2_code 45 = .ok (.bipush 64, 2) := by decide +kernel
theorem jd_G_take_47 : decode prog_3_method_2_code 47 = .ok (.imul, 1) := by decide +kernel
theorem jd_G_take_48 : decode prog_3_method_2_code 48 = .ok (.invokevirtual 33, 3) := by decide +kernel
theorem jd_G_take_51 : decode prog_3_method_2_code 51 = .ok (.aload_n 0, 1) := by decide +kernel
theorem jd_G_take_52 : decode prog_3_method_2_code 52 = .ok (.invokevirtual 37, 3) := by decide +kernel
theorem jd_G_take_55 : decode prog_3_method_2_code 55 = .ok (.iinc 3 1, 3) := by decide +kernel
theorem jd_G_take_58 : decode prog_3_method_2_code 58 = .ok (.goto (-25), 3) := by decide +kernel
theorem jd_G_take_61 : decode prog_3_method_2_code 61 = .ok (.return_, 1) := by decide +kernel
end
section
theorem jd_G_fillWords_0 : decode prog_3_method_4_code 0 = .ok (.iconst 0, 1) := by decide +kernel
theorem jd_G_fillWords_1 : decode prog_3_method_4_code 1 = .ok (.istore 4, 2) := by decide +kernel
theorem jd_G_fillWords_3 : decode prog_3_method_4_code 3 = .ok (.iload 4, 2) := by decide +kernel
theorem jd_G_fillWords_5 : decode prog_3_method_4_code 5 = .ok (.bipush 16, 2) := by decide +kernel
theorem jd_G_fillWords_7 : decode prog_3_method_4_code 7 = .ok (.if_icmp .ge 58, 3) := by decide +kernel
theorem jd_G_fillWords_10 : decode prog_3_method_4_code 10 = .ok (.iconst 0, 1) := by decide +kernel
theorem jd_G_fillWords_11 : decode prog_3_method_4_code 11 = .ok (.istore 5, 2) := by decide +kernel
theorem jd_G_fillWords_13 : decode prog_3_method_4_code 13 = .ok (.iconst 0, 1) := by decide +kernel
theorem jd_G_fillWords_14 : decode prog_3_method_4_code 14 = .ok (.istore 6, 2) := by decide +kernel
theorem jd_G_fillWords_16 : decode prog_3_method_4_code 16 = .ok (.iload 6, 2) := by decide +kernel
theorem jd_G_fillWords_18 : decode prog_3_method_4_code 18 = .ok (.iconst 4, 1) := by decide +kernel
theorem jd_G_fillWords_19 : decode prog_3_method_4_code 19 = .ok (.if_icmp .ge 31, 3) := by decide +kernel
theorem jd_G_fillWords_22 : decode prog_3_method_4_code 22 = .ok (.iload 5, 2) := by decide +kernel
theorem jd_G_fillWords_24 : decode prog_3_method_4_code 24 = .ok (.bipush 8, 2) := by decide +kernel
theorem jd_G_fillWords_26 : decode prog_3_method_4_code 26 = .ok (.ishl, 1) := by decide +kernel
theorem jd_G_fillWords_27 : decode prog_3_method_4_code 27 = .ok (.aload_n 1, 1) := by decide +kernel
theorem jd_G_fillWords_28 : decode prog_3_method_4_code 28 = .ok (.iload_n 2, 1) := by decide +kernel
theorem jd_G_fillWords_29 : decode prog_3_method_4_code 29 = .ok (.iconst 4, 1) := by decide +kernel
theorem jd_G_fillWords_30 : decode prog_3_method_4_code 30 = .ok (.iload 4, 2) := by decide +kernel
theorem jd_G_fillWords_32 : decode prog_3_method_4_code 32 = .ok (.imul, 1) := by decide +kernel
theorem jd_G_fillWords_33 : decode prog_3_method_4_code 33 = .ok (.iadd, 1) := by decide +kernel
theorem jd_G_fillWords_34 : decode prog_3_method_4_code 34 = .ok (.iload 6, 2) := by decide +kernel
theorem jd_G_fillWords_36 : decode prog_3_method_4_code 36 = .ok (.iadd, 1) := by decide +kernel
theorem jd_G_fillWords_37 : decode prog_3_method_4_code 37 = .ok (.iload_n 3, 1) := by decide +kernel
theorem jd_G_fillWords_38 : decode prog_3_method_4_code 38 = .ok (.invokestatic 46, 3) := by decide +kernel
theorem jd_G_fillWords_41 : decode prog_3_method_4_code 41 = .ok (.ior, 1) := by decide +kernel
theorem jd_G_fillWords_42 : decode prog_3_method_4_code 42 = .ok (.istore 5, 2) := by decide +kernel
theorem jd_G_fillWords_44 : decode prog_3_method_4_code 44 = .ok (.iinc 6 1, 3) := by decide +kernel
theorem jd_G_fillWords_47 : decode prog_3_method_4_code 47 = .ok (.goto (-31), 3) := by decide +kernel
theorem jd_G_fillWords_50 : decode prog_3_method_4_code 50 = .ok (.aload_n 0, 1) := by decide +kernel
theorem jd_G_fillWords_51 : decode prog_3_method_4_code 51 = .ok (.getfield 15, 3) := by decide +kernel
theorem jd_G_fillWords_54 : decode prog_3_method_4_code 54 = .ok (.iload 4, 2) := by decide +kernel
theorem jd_G_fillWords_56 : decode prog_3_method_4_code 56 = .ok (.iload 5, 2) := by decide +kernel
theorem jd_G_fillWords_58 : decode prog_3_method_4_code 58 = .ok (.iastore, 1) := by decide +kernel
theorem jd_G_fillWords_59 : decode prog_3_method_4_code 59 = .ok (.iinc 4 1, 3) := by decide +kernel
theorem jd_G_fillWords_62 : decode prog_3_method_4_code 62 = .ok (.goto (-59), 3) := by decide +kernel
theorem jd_G_fillWords_65 : decode prog_3_method_4_code 65 = .ok (.bipush 16, 2) := by decide +kernel
theorem jd_G_fillWords_67 : decode prog_3_method_4_code 67 = .ok (.istore 4, 2) := by decide +kernel
theorem jd_G_fillWords_69 : decode prog_3_method_4_code 69 = .ok (.iload 4, 2) := by decide +kernel
theorem jd_G_fillWords_71 : decode prog_3_method_4_code 71 = .ok (.bipush 80, 2) := by decide +kernel
theorem jd_G_fillWords_73 : decode prog_3_method_4_code 73 = .ok (.if_icmp .ge 62, 3) := by decide +kernel
theorem jd_G_fillWords_76 : decode prog_3_method_4_code 76 = .ok (.aload_n 0, 1) := by decide +kernel
theorem jd_G_fillWords_77 : decode prog_3_method_4_code 77 = .ok (.getfield 15, 3) := by decide +kernel
theorem jd_G_fillWords_80 : decode prog_3_method_4_code 80 = .ok (.iload 4, 2) := by decide +kernel
theorem jd_G_fillWords_82 : decode prog_3_method_4_code 82 = .ok (.aload_n 0, 1) := by decide +kernel
theorem jd_G_fillWords_83 : decode prog_3_method_4_code 83 = .ok (.getfield 15, 3) := by decide +kernel
theorem jd_G_fillWords_86 : decode prog_3_method_4_code 86 = .ok (.iload 4, 2) := by decide +kernel
theorem jd_G_fillWords_88 : decode prog_3_method_4_code 88 = .ok (.iconst 3, 1) := by decide +kernel
theorem jd_G_fillWords_89 : decode prog_3_method_4_code 89 = .ok (.isub, 1) := by decide +kernel
theorem jd_G_fillWords_90 : decode prog_3_method_4_code 90 = .ok (.iaload, 1) := by decide +kernel
theorem jd_G_fillWords_91 : decode prog_3_method_4_code 91 = .ok (.aload_n 0, 1) := by decide +kernel
theorem jd_G_fillWords_92 : decode prog_3_method_4_code 92 = .ok (.getfield 15, 3) := by decide +kernel
theorem jd_G_fillWords_95 : decode prog_3_method_4_code 95 = .ok (.iload 4, 2) := by decide +kernel
theorem jd_G_fillWords_97 : decode prog_3_method_4_code 97 = .ok (.bipush 8, 2) := by decide +kernel
theorem jd_G_fillWords_99 : decode prog_3_method_4_code 99 = .ok (.isub, 1) := by decide +kernel
theorem jd_G_fillWords_100 : decode prog_3_method_4_code 100 = .ok (.iaload, 1) := by decide +kernel
theorem jd_G_fillWords_101 : decode prog_3_method_4_code 101 = .ok (.ixor, 1) := by decide +kernel
theorem jd_G_fillWords_102 : decode prog_3_method_4_code 102 = .ok (.aload_n 0, 1) := by decide +kernel
theorem jd_G_fillWords_103 : decode prog_3_method_4_code 103 = .ok (.getfield 15, 3) := by decide +kernel
theorem jd_G_fillWords_106 : decode prog_3_method_4_code 106 = .ok (.iload 4, 2) := by decide +kernel
theorem jd_G_fillWords_108 : decode prog_3_method_4_code 108 = .ok (.bipush 14, 2) := by decide +kernel
theorem jd_G_fillWords_110 : decode prog_3_method_4_code 110 = .ok (.isub, 1) := by decide +kernel
theorem jd_G_fillWords_111 : decode prog_3_method_4_code 111 = .ok (.iaload, 1) := by decide +kernel
theorem jd_G_fillWords_112 : decode prog_3_method_4_code 112 = .ok (.ixor, 1) := by decide +kernel
theorem jd_G_fillWords_113 : decode prog_3_method_4_code 113 = .ok (.aload_n 0, 1) := by decide +kernel
theorem jd_G_fillWords_114 : decode prog_3_method_4_code 114 = .ok (.getfield 15, 3) := by decide +kernel
theorem jd_G_fillWords_117 : decode prog_3_method_4_code 117 = .ok (.iload 4, 2) := by decide +kernel
theorem jd_G_fillWords_119 : decode prog_3_method_4_code 119 = .ok (.bipush 16, 2) := by decide +kernel
theorem jd_G_fillWords_121 : decode prog_3_method_4_code 121 = .ok (.isub, 1) := by decide +kernel
theorem jd_G_fillWords_122 : decode prog_3_method_4_code 122 = .ok (.iaload, 1) := by decide +kernel
theorem jd_G_fillWords_123 : decode prog_3_method_4_code 123 = .ok (.ixor, 1) := by decide +kernel
theorem jd_G_fillWords_124 : decode prog_3_method_4_code 124 = .ok (.iconst 1, 1) := by decide +kernel
theorem jd_G_fillWords_125 : decode prog_3_method_4_code 125 = .ok (.invokestatic 50, 3) := by decide +kernel
theorem jd_G_fillWords_128 : decode prog_3_method_4_code 128 = .ok (.iastore, 1) := by decide +kernel
theorem jd_G_fillWords_129 : decode prog_3_method_4_code 129 = .ok (.iinc 4 1, 3) := by decide +kernel
theorem jd_G_fillWords_132 : decode prog_3_method_4_code 132 = .ok (.goto (-63), 3) := by decide +kernel
theorem jd_G_fillWords_135 : decode prog_3_method_4_code 135 = .ok (.return_, 1) := by decide +kernel
theorem jd_G_paddedAt_0 : decode prog_3_method_5_code 0 = .ok (.iload_n 1, 1) := by decide +kernel
theorem jd_G_paddedAt_1 : decode prog_3_method_5_code 1 = .ok (.aload_n 0, 1) := by decide +kernel
theorem jd_G_paddedAt_2 : decode prog_3_method_5_code 2 = .ok (.getfield 27, 3) := by decide +kernel
theorem jd_G_paddedAt_5 : decode prog_3_method_5_code 5 = .ok (.if_icmp .ge 9, 3) := by decide +kernel
theorem jd_G_paddedAt_8 : decode prog_3_method_5_code 8 = .ok (.aload_n 0, 1) := by decide +kernel
theorem jd_G_paddedAt_9 : decode prog_3_method_5_code 9 = .ok (.iload_n 1, 1) := by decide +kernel
theorem jd_G_paddedAt_10 : decode prog_3_method_5_code 10 = .ok (.invokevirtual 54, 3) := by decide +kernel
theorem jd_G_paddedAt_13 : decode prog_3_method_5_code 13 = .ok (.ireturn, 1) := by decide +kernel
theorem jd_G_paddedAt_14 : decode prog_3_method_5_code 14 = .ok (.iload_n 1, 1) := by decide +kernel
theorem jd_G_paddedAt_15 : decode prog_3_method_5_code 15 = .ok (.aload_n 0, 1) := by decide +kernel
theorem jd_G_paddedAt_16 : decode prog_3_method_5_code 16 = .ok (.getfield 27, 3) := by decide +kernel
theorem jd_G_paddedAt_19 : decode prog_3_method_5_code 19 = .ok (.if_icmp .ne 7, 3) := by decide +kernel
theorem jd_G_paddedAt_22 : decode prog_3_method_5_code 22 = .ok (.sipush 128, 3) := by decide +kernel
theorem jd_G_paddedAt_25 : decode prog_3_method_5_code 25 = .ok (.ireturn, 1) := by decide +kernel
theorem jd_G_paddedAt_26 : decode prog_3_method_5_code 26 = .ok (.iload_n 2, 1) := by decide +kernel
theorem jd_G_paddedAt_27 : decode prog_3_method_5_code 27 = .ok (.iconst 1, 1) := by decide +kernel
theorem jd_G_paddedAt_28 : decode prog_3_method_5_code 28 = .ok (.isub, 1) := by decide +kernel
theorem jd_G_paddedAt_29 : decode prog_3_method_5_code 29 = .ok (.iload_n 1, 1) := by decide +kernel
theorem jd_G_paddedAt_30 : decode prog_3_method_5_code 30 = .ok (.isub, 1) := by decide +kernel
theorem jd_G_paddedAt_31 : decode prog_3_method_5_code 31 = .ok (.istore_n 3, 1) := by decide +kernel
theorem jd_G_paddedAt_32 : decode prog_3_method_5_code 32 = .ok (.iload_n 3, 1) := by decide +kernel
theorem jd_G_paddedAt_33 : decode prog_3_method_5_code 33 = .ok (.iconst 4, 1) := by decide +kernel
theorem jd_G_paddedAt_34 : decode prog_3_method_5_code 34 = .ok (.if_icmp .ge 22, 3) := by decide +kernel
theorem jd_G_paddedAt_37 : decode prog_3_method_5_code 37 = .ok (.bipush 8, 2) := by decide +kernel
theorem jd_G_paddedAt_39 : decode prog_3_method_5_code 39 = .ok (.aload_n 0, 1) := by decide +kernel
theorem jd_G_paddedAt_40 : decode prog_3_method_5_code 40 = .ok (.getfield 27, 3) := by decide +kernel
theorem jd_G_paddedAt_43 : decode prog_3_method_5_code 43 = .ok (.imul, 1) := by decide +kernel
theorem jd_G_paddedAt_44 : decode prog_3_method_5_code 44 = .ok (.bipush 8, 2) := by decide +kernel
theorem jd_G_paddedAt_46 : decode prog_3_method_5_code 46 = .ok (.iload_n 3, 1) := by decide +kernel
theorem jd_G_paddedAt_47 : decode prog_3_method_5_code 47 = .ok (.imul, 1) := by decide +kernel
theorem jd_G_paddedAt_48 : decode prog_3_method_5_code 48 = .ok (.iushr, 1) := by decide +kernel
theorem jd_G_paddedAt_49 : decode prog_3_method_5_code 49 = .ok (.sipush 255, 3) := by decide +kernel
theorem jd_G_paddedAt_52 : decode prog_3_method_5_code 52 = .ok (.iand, 1) := by decide +kernel
theorem jd_G_paddedAt_53 : decode prog_3_method_5_code 53 = .ok (.goto 4, 3) := by decide +kernel
theorem jd_G_paddedAt_56 : decode prog_3_method_5_code 56 = .ok (.iconst 0, 1) := by decide +kernel
theorem jd_G_paddedAt_57 : decode prog_3_method_5_code 57 = .ok (.ireturn, 1) := by decide +kernel
theorem jd_L_at_0 : decode prog_5_method_3_code 0 = .ok (.iload_n 1, 1) := by decide +kernel
theorem jd_L_at_1 : decode prog_5_method_3_code 1 = .ok (.ifCond .lt 24, 3) := by decide +kernel
theorem jd_L_at_4 : decode prog_5_method_3_code 4 = .ok (.iload_n 1, 1) := by decide +kernel
theorem jd_L_at_5 : decode prog_5_method_3_code 5 = .ok (.aload_n 0, 1) := by decide +kernel
theorem jd_L_at_6 : decode prog_5_method_3_code 6 = .ok (.getfield 15, 3) := by decide +kernel
theorem jd_L_at_9 : decode prog_5_method_3_code 9 = .ok (.if_icmp .ge 16, 3) := by decide +kernel
theorem jd_L_at_12 : decode prog_5_method_3_code 12 = .ok (.aload_n 0, 1) := by decide +kernel
theorem jd_L_at_13 : decode prog_5_method_3_code 13 = .ok (.getfield 9, 3) := by decide +kernel
theorem jd_L_at_16 : decode prog_5_method_3_code 16 = .ok (.iload_n 1, 1) := by decide +kernel
theorem jd_L_at_17 : decode prog_5_method_3_code 17 = .ok (.baload, 1) := by decide +kernel
theorem jd_L_at_18 : decode prog_5_method_3_code 18 = .ok (.sipush 255, 3) := by decide +kernel
theorem jd_L_at_21 : decode prog_5_method_3_code 21 = .ok (.iand, 1) := by decide +kernel
theorem jd_L_at_22 : decode prog_5_method_3_code 22 = .ok (.goto 4, 3) := by decide +kernel
theorem jd_L_at_25 : decode prog_5_method_3_code 25 = .ok (.iconst 0, 1) := by decide +kernel
theorem jd_L_at_26 : decode prog_5_method_3_code 26 = .ok (.ireturn, 1) := by decide +kernel
theorem jd_G_turned_0 : decode prog_3_method_8_code 0 = .ok (.iload_n 0, 1) := by decide +kernel
theorem jd_G_turned_1 : decode prog_3_method_8_code 1 = .ok (.iload_n 1, 1) := by decide +kernel
theorem jd_G_turned_2 : decode prog_3_method_8_code 2 = .ok (.ishl, 1) := by decide +kernel
theorem jd_G_turned_3 : decode prog_3_method_8_code 3 = .ok (.iload_n 0, 1) := by decide +kernel
theorem jd_G_turned_4 : decode prog_3_method_8_code 4 = .ok (.bipush 32, 2) := by decide +kernel
theorem jd_G_turned_6 : decode prog_3_method_8_code 6 = .ok (.iload_n 1, 1) := by decide +kernel
theorem jd_G_turned_7 : decode prog_3_method_8_code 7 = .ok (.isub, 1) := by decide +kernel
theorem jd_G_turned_8 : decode prog_3_method_8_code 8 = .ok (.iushr, 1) := by decide +kernel
theorem jd_G_turned_9 : decode prog_3_method_8_code 9 = .ok (.ior, 1) := by decide +kernel
theorem jd_G_turned_10 : decode prog_3_method_8_code 10 = .ok (.ireturn, 1) := by decide +kernel
theorem jd_G_mixWords_0 : decode prog_3_method_6_code 0 = .ok (.aload_n 0, 1) := by decide +kernel
theorem jd_G_mixWords_1 : decode prog_3_method_6_code 1 = .ok (.getfield 9, 3) := by decide +kernel
theorem jd_G_mixWords_4 : decode prog_3_method_6_code 4 = .ok (.iconst 0, 1) := by decide +kernel
theorem jd_G_mixWords_5 : decode prog_3_method_6_code 5 = .ok (.iaload, 1) := by decide +kernel
theorem jd_G_mixWords_6 : decode prog_3_method_6_code 6 = .ok (.istore_n 1, 1) := by decide +kernel
theorem jd_G_mixWords_7 : decode prog_3_method_6_code 7 = .ok (.aload_n 0, 1) := by decide +kernel
theorem jd_G_mixWords_8 : decode prog_3_method_6_code 8 = .ok (.getfield 9, 3) := by decide +kernel
theorem jd_G_mixWords_11 : decode prog_3_method_6_code 11 = .ok (.iconst 1, 1) := by decide +kernel
theorem jd_G_mixWords_12 : decode prog_3_method_6_code 12 = .ok (.iaload, 1) := by decide +kernel
theorem jd_G_mixWords_13 : decode prog_3_method_6_code 13 = .ok (.istore_n 2, 1) := by decide +kernel
theorem jd_G_mixWords_14 : decode prog_3_method_6_code 14 = .ok (.aload_n 0, 1) := by decide +kernel
theorem jd_G_mixWords_15 : decode prog_3_method_6_code 15 = .ok (.getfield 9, 3) := by decide +kernel
theorem jd_G_mixWords_18 : decode prog_3_method_6_code 18 = .ok (.iconst 2, 1) := by decide +kernel
theorem jd_G_mixWords_19 : decode prog_3_method_6_code 19 = .ok (.iaload, 1) := by decide +kernel
theorem jd_G_mixWords_20 : decode prog_3_method_6_code 20 = .ok (.istore_n 3, 1) := by decide +kernel
theorem jd_G_mixWords_21 : decode prog_3_method_6_code 21 = .ok (.aload_n 0, 1) := by decide +kernel
theorem jd_G_mixWords_22 : decode prog_3_method_6_code 22 = .ok (.getfield 9, 3) := by decide +kernel
theorem jd_G_mixWords_25 : decode prog_3_method_6_code 25 = .ok (.iconst 3, 1) := by decide +kernel
theorem jd_G_mixWords_26 : decode prog_3_method_6_code 26 = .ok (.iaload, 1) := by decide +kernel
theorem jd_G_mixWords_27 : decode prog_3_method_6_code 27 = .ok (.istore 4, 2) := by decide +kernel
theorem jd_G_mixWords_29 : decode prog_3_method_6_code 29 = .ok (.aload_n 0, 1) := by decide +kernel
theorem jd_G_mixWords_30 : decode prog_3_method_6_code 30 = .ok (.getfield 9, 3) := by decide +kernel
theorem jd_G_mixWords_33 : decode prog_3_method_6_code 33 = .ok (.iconst 4, 1) := by decide +kernel
theorem jd_G_mixWords_34 : decode prog_3_method_6_code 34 = .ok (.iaload, 1) := by decide +kernel
theorem jd_G_mixWords_35 : decode prog_3_method_6_code 35 = .ok (.istore 5, 2) := by decide +kernel
theorem jd_G_mixWords_37 : decode prog_3_method_6_code 37 = .ok (.iconst 0, 1) := by decide +kernel
theorem jd_G_mixWords_38 : decode prog_3_method_6_code 38 = .ok (.istore 6, 2) := by decide +kernel
theorem jd_G_mixWords_40 : decode prog_3_method_6_code 40 = .ok (.iload 6, 2) := by decide +kernel
theorem jd_G_mixWords_42 : decode prog_3_method_6_code 42 = .ok (.bipush 80, 2) := by decide +kernel
theorem jd_G_mixWords_44 : decode prog_3_method_6_code 44 = .ok (.if_icmp .ge 66, 3) := by decide +kernel
theorem jd_G_mixWords_47 : decode prog_3_method_6_code 47 = .ok (.iload_n 1, 1) := by decide +kernel
theorem jd_G_mixWords_48 : decode prog_3_method_6_code 48 = .ok (.iconst 5, 1) := by decide +kernel
theorem jd_G_mixWords_49 : decode prog_3_method_6_code 49 = .ok (.invokestatic 50, 3) := by decide +kernel
theorem jd_G_mixWords_52 : decode prog_3_method_6_code 52 = .ok (.iload 6, 2) := by decide +kernel
theorem jd_G_mixWords_54 : decode prog_3_method_6_code 54 = .ok (.iload_n 2, 1) := by decide +kernel
theorem jd_G_mixWords_55 : decode prog_3_method_6_code 55 = .ok (.iload_n 3, 1) := by decide +kernel
theorem jd_G_mixWords_56 : decode prog_3_method_6_code 56 = .ok (.iload 4, 2) := by decide +kernel
theorem jd_G_mixWords_58 : decode prog_3_method_6_code 58 = .ok (.invokestatic 57, 3) := by decide +kernel
theorem jd_G_mixWords_61 : decode prog_3_method_6_code 61 = .ok (.iadd, 1) := by decide +kernel
theorem jd_G_mixWords_62 : decode prog_3_method_6_code 62 = .ok (.iload 5, 2) := by decide +kernel
theorem jd_G_mixWords_64 : decode prog_3_method_6_code 64 = .ok (.iadd, 1) := by decide +kernel
theorem jd_G_mixWords_65 : decode prog_3_method_6_code 65 = .ok (.aload_n 0, 1) := by decide +kernel
theorem jd_G_mixWords_66 : decode prog_3_method_6_code 66 = .ok (.getfield 15, 3) := by decide +kernel
theorem jd_G_mixWords_69 : decode prog_3_method_6_code 69 = .ok (.iload 6, 2) := by decide +kernel
theorem jd_G_mixWords_71 : decode prog_3_method_6_code 71 = .ok (.iaload, 1) := by decide +kernel
theorem jd_G_mixWords_72 : decode prog_3_method_6_code 72 = .ok (.iadd, 1) := by decide +kernel
theorem jd_G_mixWords_73 : decode prog_3_method_6_code 73 = .ok (.getstatic 61, 3) := by decide +kernel
theorem jd_G_mixWords_76 : decode prog_3_method_6_code 76 = .ok (.iload 6, 2) := by decide +kernel
theorem jd_G_mixWords_78 : decode prog_3_method_6_code 78 = .ok (.bipush 20, 2) := by decide +kernel
theorem jd_G_mixWords_80 : decode prog_3_method_6_code 80 = .ok (.idiv, 1) := by decide +kernel
theorem jd_G_mixWords_81 : decode prog_3_method_6_code 81 = .ok (.iaload, 1) := by decide +kernel
theorem jd_G_mixWords_82 : decode prog_3_method_6_code 82 = .ok (.iadd, 1) := by decide +kernel
theorem jd_G_mixWords_83 : decode prog_3_method_6_code 83 = .ok (.istore 7, 2) := by decide +kernel
theorem jd_G_mixWords_85 : decode prog_3_method_6_code 85 = .ok (.iload 4, 2) := by decide +kernel
theorem jd_G_mixWords_87 : decode prog_3_method_6_code 87 = .ok (.istore 5, 2) := by decide +kernel
theorem jd_G_mixWords_89 : decode prog_3_method_6_code 89 = .ok (.iload_n 3, 1) := by decide +kernel
theorem jd_G_mixWords_90 : decode prog_3_method_6_code 90 = .ok (.istore 4, 2) := by decide +kernel
theorem jd_G_mixWords_92 : decode prog_3_method_6_code 92 = .ok (.iload_n 2, 1) := by decide +kernel
theorem jd_G_mixWords_93 : decode prog_3_method_6_code 93 = .ok (.bipush 30, 2) := by decide +kernel
theorem jd_G_mixWords_95 : decode prog_3_method_6_code 95 = .ok (.invokestatic 50, 3) := by decide +kernel
theorem jd_G_mixWords_98 : decode prog_3_method_6_code 98 = .ok (.istore_n 3, 1) := by decide +kernel
theorem jd_G_mixWords_99 : decode prog_3_method_6_code 99 = .ok (.iload_n 1, 1) := by decide +kernel
theorem jd_G_mixWords_100 : decode prog_3_method_6_code 100 = .ok (.istore_n 2, 1) := by decide +kernel
theorem jd_G_mixWords_101 : decode prog_3_method_6_code 101 = .ok (.iload 7, 2) := by decide +kernel
theorem jd_G_mixWords_103 : decode prog_3_method_6_code 103 = .ok (.istore_n 1, 1) := by decide +kernel
theorem jd_G_mixWords_104 : decode prog_3_method_6_code 104 = .ok (.iinc 6 1, 3) := by decide +kernel
theorem jd_G_mixWords_107 : decode prog_3_method_6_code 107 = .ok (.goto (-67), 3) := by decide +kernel
theorem jd_G_mixWords_110 : decode prog_3_method_6_code 110 = .ok (.aload_n 0, 1) := by decide +kernel
theorem jd_G_mixWords_111 : decode prog_3_method_6_code 111 = .ok (.getfield 9, 3) := by decide +kernel
theorem jd_G_mixWords_114 : decode prog_3_method_6_code 114 = .ok (.iconst 0, 1) := by decide +kernel
theorem jd_G_mixWords_115 : decode prog_3_method_6_code 115 = .ok (.dup2, 1) := by decide +kernel
theorem jd_G_mixWords_116 : decode prog_3_method_6_code 116 = .ok (.iaload, 1) := by decide +kernel
theorem jd_G_mixWords_117 : decode prog_3_method_6_code 117 = .ok (.iload_n 1, 1) := by decide +kernel
theorem jd_G_mixWords_118 : decode prog_3_method_6_code 118 = .ok (.iadd, 1) := by decide +kernel
theorem jd_G_mixWords_119 : decode prog_3_method_6_code 119 = .ok (.iastore, 1) := by decide +kernel
theorem jd_G_mixWords_120 : decode prog_3_method_6_code 120 = .ok (.aload_n 0, 1) := by decide +kernel
theorem jd_G_mixWords_121 : decode prog_3_method_6_code 121 = .ok (.getfield 9, 3) := by decide +kernel
theorem jd_G_mixWords_124 : decode prog_3_method_6_code 124 = .ok (.iconst 1, 1) := by decide +kernel
theorem jd_G_mixWords_125 : decode prog_3_method_6_code 125 = .ok (.dup2, 1) := by decide +kernel
theorem jd_G_mixWords_126 : decode prog_3_method_6_code 126 = .ok (.iaload, 1) := by decide +kernel
theorem jd_G_mixWords_127 : decode prog_3_method_6_code 127 = .ok (.iload_n 2, 1) := by decide +kernel
theorem jd_G_mixWords_128 : decode prog_3_method_6_code 128 = .ok (.iadd, 1) := by decide +kernel
theorem jd_G_mixWords_129 : decode prog_3_method_6_code 129 = .ok (.iastore, 1) := by decide +kernel
theorem jd_G_mixWords_130 : decode prog_3_method_6_code 130 = .ok (.aload_n 0, 1) := by decide +kernel
theorem jd_G_mixWords_131 : decode prog_3_method_6_code 131 = .ok (.getfield 9, 3) := by decide +kernel
theorem jd_G_mixWords_134 : decode prog_3_method_6_code 134 = .ok (.iconst 2, 1) := by decide +kernel
theorem jd_G_mixWords_135 : decode prog_3_method_6_code 135 = .ok (.dup2, 1) := by decide +kernel
theorem jd_G_mixWords_136 : decode prog_3_method_6_code 136 = .ok (.iaload, 1) := by decide +kernel
theorem jd_G_mixWords_137 : decode prog_3_method_6_code 137 = .ok (.iload_n 3, 1) := by decide +kernel
theorem jd_G_mixWords_138 : decode prog_3_method_6_code 138 = .ok (.iadd, 1) := by decide +kernel
theorem jd_G_mixWords_139 : decode prog_3_method_6_code 139 = .ok (.iastore, 1) := by decide +kernel
theorem jd_G_mixWords_140 : decode prog_3_method_6_code 140 = .ok (.aload_n 0, 1) := by decide +kernel
theorem jd_G_mixWords_141 : decode prog_3_method_6_code 141 = .ok (.getfield 9, 3) := by decide +kernel
theorem jd_G_mixWords_144 : decode prog_3_method_6_code 144 = .ok (.iconst 3, 1) := by decide +kernel
theorem jd_G_mixWords_145 : decode prog_3_method_6_code 145 = .ok (.dup2, 1) := by decide +kernel
theorem jd_G_mixWords_146 : decode prog_3_method_6_code 146 = .ok (.iaload, 1) := by decide +kernel
theorem jd_G_mixWords_147 : decode prog_3_method_6_code 147 = .ok (.iload 4, 2) := by decide +kernel
theorem jd_G_mixWords_149 : decode prog_3_method_6_code 149 = .ok (.iadd, 1) := by decide +kernel
theorem jd_G_mixWords_150 : decode prog_3_method_6_code 150 = .ok (.iastore, 1) := by decide +kernel
theorem jd_G_mixWords_151 : decode prog_3_method_6_code 151 = .ok (.aload_n 0, 1) := by decide +kernel
theorem jd_G_mixWords_152 : decode prog_3_method_6_code 152 = .ok (.getfield 9, 3) := by decide +kernel
theorem jd_G_mixWords_155 : decode prog_3_method_6_code 155 = .ok (.iconst 4, 1) := by decide +kernel
theorem jd_G_mixWords_156 : decode prog_3_method_6_code 156 = .ok (.dup2, 1) := by decide +kernel
theorem jd_G_mixWords_157 : decode prog_3_method_6_code 157 = .ok (.iaload, 1) := by decide +kernel
theorem jd_G_mixWords_158 : decode prog_3_method_6_code 158 = .ok (.iload 5, 2) := by decide +kernel
theorem jd_G_mixWords_160 : decode prog_3_method_6_code 160 = .ok (.iadd, 1) := by decide +kernel
theorem jd_G_mixWords_161 : decode prog_3_method_6_code 161 = .ok (.iastore, 1) := by decide +kernel
theorem jd_G_mixWords_162 : decode prog_3_method_6_code 162 = .ok (.return_, 1) := by decide +kernel
theorem jd_G_chosen_0 : decode prog_3_method_7_code 0 = .ok (.iload_n 0, 1) := by decide +kernel
theorem jd_G_chosen_1 : decode prog_3_method_7_code 1 = .ok (.bipush 20, 2) := by decide +kernel
theorem jd_G_chosen_3 : decode prog_3_method_7_code 3 = .ok (.if_icmp .ge 13, 3) := by decide +kernel
theorem jd_G_chosen_6 : decode prog_3_method_7_code 6 = .ok (.iload_n 1, 1) := by decide +kernel
theorem jd_G_chosen_7 : decode prog_3_method_7_code 7 = .ok (.iload_n 2, 1) := by decide +kernel
theorem jd_G_chosen_8 : decode prog_3_method_7_code 8 = .ok (.iand, 1) := by decide +kernel
theorem jd_G_chosen_9 : decode prog_3_method_7_code 9 = .ok (.iload_n 1, 1) := by decide +kernel
theorem jd_G_chosen_10 : decode prog_3_method_7_code 10 = .ok (.iconst (-1), 1) := by decide +kernel
theorem jd_G_chosen_11 : decode prog_3_method_7_code 11 = .ok (.ixor, 1) := by decide +kernel
theorem jd_G_chosen_12 : decode prog_3_method_7_code 12 = .ok (.iload_n 3, 1) := by decide +kernel
theorem jd_G_chosen_13 : decode prog_3_method_7_code 13 = .ok (.iand, 1) := by decide +kernel
theorem jd_G_chosen_14 : decode prog_3_method_7_code 14 = .ok (.ior, 1) := by decide +kernel
theorem jd_G_chosen_15 : decode prog_3_method_7_code 15 = .ok (.ireturn, 1) := by decide +kernel
theorem jd_G_chosen_16 : decode prog_3_method_7_code 16 = .ok (.iload_n 0, 1) := by decide +kernel
theorem jd_G_chosen_17 : decode prog_3_method_7_code 17 = .ok (.bipush 40, 2) := by decide +kernel
theorem jd_G_chosen_19 : decode prog_3_method_7_code 19 = .ok (.if_icmp .lt 21, 3) := by decide +kernel
theorem jd_G_chosen_22 : decode prog_3_method_7_code 22 = .ok (.iload_n 0, 1) := by decide +kernel
theorem jd_G_chosen_23 : decode prog_3_method_7_code 23 = .ok (.bipush 60, 2) := by decide +kernel
theorem jd_G_chosen_25 : decode prog_3_method_7_code 25 = .ok (.if_icmp .ge 15, 3) := by decide +kernel
theorem jd_G_chosen_28 : decode prog_3_method_7_code 28 = .ok (.iload_n 1, 1) := by decide +kernel
theorem jd_G_chosen_29 : decode prog_3_method_7_code 29 = .ok (.iload_n 2, 1) := by decide +kernel
theorem jd_G_chosen_30 : decode prog_3_method_7_code 30 = .ok (.iand, 1) := by decide +kernel
theorem jd_G_chosen_31 : decode prog_3_method_7_code 31 = .ok (.iload_n 1, 1) := by decide +kernel
theorem jd_G_chosen_32 : decode prog_3_method_7_code 32 = .ok (.iload_n 3, 1) := by decide +kernel
theorem jd_G_chosen_33 : decode prog_3_method_7_code 33 = .ok (.iand, 1) := by decide +kernel
theorem jd_G_chosen_34 : decode prog_3_method_7_code 34 = .ok (.ior, 1) := by decide +kernel
theorem jd_G_chosen_35 : decode prog_3_method_7_code 35 = .ok (.iload_n 2, 1) := by decide +kernel
theorem jd_G_chosen_36 : decode prog_3_method_7_code 36 = .ok (.iload_n 3, 1) := by decide +kernel
theorem jd_G_chosen_37 : decode prog_3_method_7_code 37 = .ok (.iand, 1) := by decide +kernel
theorem jd_G_chosen_38 : decode prog_3_method_7_code 38 = .ok (.ior, 1) := by decide +kernel
theorem jd_G_chosen_39 : decode prog_3_method_7_code 39 = .ok (.ireturn, 1) := by decide +kernel
theorem jd_G_chosen_40 : decode prog_3_method_7_code 40 = .ok (.iload_n 1, 1) := by decide +kernel
theorem jd_G_chosen_41 : decode prog_3_method_7_code 41 = .ok (.iload_n 2, 1) := by decide +kernel
theorem jd_G_chosen_42 : decode prog_3_method_7_code 42 = .ok (.ixor, 1) := by decide +kernel
theorem jd_G_chosen_43 : decode prog_3_method_7_code 43 = .ok (.iload_n 3, 1) := by decide +kernel
theorem jd_G_chosen_44 : decode prog_3_method_7_code 44 = .ok (.ixor, 1) := by decide +kernel
theorem jd_G_chosen_45 : decode prog_3_method_7_code 45 = .ok (.ireturn, 1) := by decide +kernel
theorem jd_G_firstEightReversed_0 : decode prog_3_method_3_code 0 = .ok (.aload_n 0, 1) := by decide +kernel
theorem jd_G_firstEightReversed_1 : decode prog_3_method_3_code 1 = .ok (.getfield 9, 3) := by decide +kernel
theorem jd_G_firstEightReversed_4 : decode prog_3_method_3_code 4 = .ok (.iconst 0, 1) := by decide +kernel
theorem jd_G_firstEightReversed_5 : decode prog_3_method_3_code 5 = .ok (.iaload, 1) := by decide +kernel
theorem jd_G_firstEightReversed_6 : decode prog_3_method_3_code 6 = .ok (.invokestatic 40, 3) := by decide +kernel
theorem jd_G_firstEightReversed_9 : decode prog_3_method_3_code 9 = .ok (.i2l, 1) := by decide +kernel
theorem jd_G_firstEightReversed_10 : decode prog_3_method_3_code 10 = .ok (.ldc2_w 44, 3) := by decide +kernel
theorem jd_G_firstEightReversed_13 : decode prog_3_method_3_code 13 = .ok (.land, 1) := by decide +kernel
theorem jd_G_firstEightReversed_14 : decode prog_3_method_3_code 14 = .ok (.lstore_n 1, 1) := by decide +kernel
theorem jd_G_firstEightReversed_15 : decode prog_3_method_3_code 15 = .ok (.aload_n 0, 1) := by decide +kernel
theorem jd_G_firstEightReversed_16 : decode prog_3_method_3_code 16 = .ok (.getfield 9, 3) := by decide +kernel
theorem jd_G_firstEightReversed_19 : decode prog_3_method_3_code 19 = .ok (.iconst 1, 1) := by decide +kernel
theorem jd_G_firstEightReversed_20 : decode prog_3_method_3_code 20 = .ok (.iaload, 1) := by decide +kernel
theorem jd_G_firstEightReversed_21 : decode prog_3_method_3_code 21 = .ok (.invokestatic 40, 3) := by decide +kernel
theorem jd_G_firstEightReversed_24 : decode prog_3_method_3_code 24 = .ok (.i2l, 1) := by decide +kernel
theorem jd_G_firstEightReversed_25 : decode prog_3_method_3_code 25 = .ok (.lstore_n 3, 1) := by decide +kernel
theorem jd_G_firstEightReversed_26 : decode prog_3_method_3_code 26 = .ok (.lload_n 3, 1) := by decide +kernel
theorem jd_G_firstEightReversed_27 : decode prog_3_method_3_code 27 = .ok (.bipush 32, 2) := by decide +kernel
theorem jd_G_firstEightReversed_29 : decode prog_3_method_3_code 29 = .ok (.lshl, 1) := by decide +kernel
theorem jd_G_firstEightReversed_30 : decode prog_3_method_3_code 30 = .ok (.lload_n 1, 1) := by decide +kernel
theorem jd_G_firstEightReversed_31 : decode prog_3_method_3_code 31 = .ok (.lor, 1) := by decide +kernel
theorem jd_G_firstEightReversed_32 : decode prog_3_method_3_code 32 = .ok (.lreturn, 1) := by decide +kernel
theorem jd_G_reversed_0 : decode prog_3_method_9_code 0 = .ok (.iload_n 0, 1) := by decide +kernel
theorem jd_G_reversed_1 : decode prog_3_method_9_code 1 = .ok (.bipush 24, 2) := by decide +kernel
theorem jd_G_reversed_3 : decode prog_3_method_9_code 3 = .ok (.ishl, 1) := by decide +kernel
theorem jd_G_reversed_4 : decode prog_3_method_9_code 4 = .ok (.iload_n 0, 1) := by decide +kernel
theorem jd_G_reversed_5 : decode prog_3_method_9_code 5 = .ok (.ldc 64, 2) := by decide +kernel
theorem jd_G_reversed_7 : decode prog_3_method_9_code 7 = .ok (.iand, 1) := by decide +kernel
theorem jd_G_reversed_8 : decode prog_3_method_9_code 8 = .ok (.bipush 8, 2) := by decide +kernel
theorem jd_G_reversed_10 : decode prog_3_method_9_code 10 = .ok (.ishl, 1) := by decide +kernel
theorem jd_G_reversed_11 : decode prog_3_method_9_code 11 = .ok (.ior, 1) := by decide +kernel
theorem jd_G_reversed_12 : decode prog_3_method_9_code 12 = .ok (.iload_n 0, 1) := by decide +kernel
theorem jd_G_reversed_13 : decode prog_3_method_9_code 13 = .ok (.bipush 8, 2) := by decide +kernel
theorem jd_G_reversed_15 : decode prog_3_method_9_code 15 = .ok (.iushr, 1) := by decide +kernel
theorem jd_G_reversed_16 : decode prog_3_method_9_code 16 = .ok (.ldc 64, 2) := by decide +kernel
theorem jd_G_reversed_18 : decode prog_3_method_9_code 18 = .ok (.iand, 1) := by decide +kernel
theorem jd_G_reversed_19 : decode prog_3_method_9_code 19 = .ok (.ior, 1) := by decide +kernel
theorem jd_G_reversed_20 : decode prog_3_method_9_code 20 = .ok (.iload_n 0, 1) := by decide +kernel
theorem jd_G_reversed_21 : decode prog_3_method_9_code 21 = .ok (.bipush 24, 2) := by decide +kernel
theorem jd_G_reversed_23 : decode prog_3_method_9_code 23 = .ok (.iushr, 1) := by decide +kernel
theorem jd_G_reversed_24 : decode prog_3_method_9_code 24 = .ok (.ior, 1) := by decide +kernel
theorem jd_G_reversed_25 : decode prog_3_method_9_code 25 = .ok (.ireturn, 1) := by decide +kernel
theorem jd_S_hash_0 : decode prog_1_method_10_code 0 = .ok (.aload_n 0, 1) := by decide +kernel
theorem jd_S_hash_1 : decode prog_1_method_10_code 1 = .ok (.iload_n 1, 1) := by decide +kernel
theorem jd_S_hash_2 : decode prog_1_method_10_code 2 = .ok (.invokevirtual 69, 3) := by decide +kernel
theorem jd_S_hash_5 : decode prog_1_method_10_code 5 = .ok (.astore_n 3, 1) := by decide +kernel
theorem jd_S_hash_6 : decode prog_1_method_10_code 6 = .ok (.aload_n 3, 1) := by decide +kernel
theorem jd_S_hash_7 : decode prog_1_method_10_code 7 = .ok (.ifnull 12, 3) := by decide +kernel
theorem jd_S_hash_10 : decode prog_1_method_10_code 10 = .ok (.iload_n 2, 1) := by decide +kernel
theorem jd_S_hash_11 : decode prog_1_method_10_code 11 = .ok (.ifCond .lt 8, 3) := by decide +kernel
theorem jd_S_hash_14 : decode prog_1_method_10_code 14 = .ok (.iload_n 2, 1) := by decide +kernel
theorem jd_S_hash_15 : decode prog_1_method_10_code 15 = .ok (.iconst 5, 1) := by decide +kernel
theorem jd_S_hash_16 : decode prog_1_method_10_code 16 = .ok (.if_icmp .lt 7, 3) := by decide +kernel
theorem jd_S_hash_19 : decode prog_1_method_10_code 19 = .ok (.ldc2_w 108, 3) := by decide +kernel
theorem jd_S_hash_22 : decode prog_1_method_10_code 22 = .ok (.lreturn, 1) := by decide +kernel
theorem jd_S_hash_23 : decode prog_1_method_10_code 23 = .ok (.aload_n 0, 1) := by decide +kernel
theorem jd_S_hash_24 : decode prog_1_method_10_code 24 = .ok (.getfield 28, 3) := by decide +kernel
theorem jd_S_hash_27 : decode prog_1_method_10_code 27 = .ok (.aload_n 3, 1) := by decide +kernel
theorem jd_S_hash_28 : decode prog_1_method_10_code 28 = .ok (.invokevirtual 113, 3) := by decide +kernel
theorem jd_S_hash_31 : decode prog_1_method_10_code 31 = .ok (.aload_n 0, 1) := by decide +kernel
theorem jd_S_hash_32 : decode prog_1_method_10_code 32 = .ok (.getfield 35, 3) := by decide +kernel
theorem jd_S_hash_35 : decode prog_1_method_10_code 35 = .ok (.aload_n 0, 1) := by decide +kernel
theorem jd_S_hash_36 : decode prog_1_method_10_code 36 = .ok (.getfield 28, 3) := by decide +kernel
theorem jd_S_hash_39 : decode prog_1_method_10_code 39 = .ok (.invokevirtual 117, 3) := by decide +kernel
theorem jd_S_hash_42 : decode prog_1_method_10_code 42 = .ok (.aload_n 0, 1) := by decide +kernel
theorem jd_S_hash_43 : decode prog_1_method_10_code 43 = .ok (.getfield 35, 3) := by decide +kernel
theorem jd_S_hash_46 : decode prog_1_method_10_code 46 = .ok (.getfield 125, 3) := by decide +kernel
theorem jd_S_hash_49 : decode prog_1_method_10_code 49 = .ok (.iload_n 2, 1) := by decide +kernel
theorem jd_S_hash_50 : decode prog_1_method_10_code 50 = .ok (.iaload, 1) := by decide +kernel
theorem jd_S_hash_51 : decode prog_1_method_10_code 51 = .ok (.i2l, 1) := by decide +kernel
theorem jd_S_hash_52 : decode prog_1_method_10_code 52 = .ok (.lreturn, 1) := by decide +kernel
theorem jd_S_size_0 : decode prog_1_method_11_code 0 = .ok (.aload_n 0, 1) := by decide +kernel
theorem jd_S_size_1 : decode prog_1_method_11_code 1 = .ok (.iload_n 1, 1) := by decide +kernel
theorem jd_S_size_2 : decode prog_1_method_11_code 2 = .ok (.invokevirtual 69, 3) := by decide +kernel
theorem jd_S_size_5 : decode prog_1_method_11_code 5 = .ok (.astore_n 2, 1) := by decide +kernel
theorem jd_S_size_6 : decode prog_1_method_11_code 6 = .ok (.aload_n 2, 1) := by decide +kernel
theorem jd_S_size_7 : decode prog_1_method_11_code 7 = .ok (.ifnonnull 5, 3) := by decide +kernel
theorem jd_S_size_10 : decode prog_1_method_11_code 10 = .ok (.iconst (-1), 1) := by decide +kernel
theorem jd_S_size_11 : decode prog_1_method_11_code 11 = .ok (.ireturn, 1) := by decide +kernel
theorem jd_S_size_12 : decode prog_1_method_11_code 12 = .ok (.aload_n 0, 1) := by decide +kernel
theorem jd_S_size_13 : decode prog_1_method_11_code 13 = .ok (.getfield 28, 3) := by decide +kernel
theorem jd_S_size_16 : decode prog_1_method_11_code 16 = .ok (.aload_n 2, 1) := by decide +kernel
theorem jd_S_size_17 : decode prog_1_method_11_code 17 = .ok (.invokevirtual 113, 3) := by decide +kernel
theorem jd_S_size_20 : decode prog_1_method_11_code 20 = .ok (.aload_n 0, 1) := by decide +kernel
theorem jd_S_size_21 : decode prog_1_method_11_code 21 = .ok (.getfield 28, 3) := by decide +kernel
theorem jd_S_size_24 : decode prog_1_method_11_code 24 = .ok (.getfield 129, 3) := by decide +kernel
theorem jd_S_size_27 : decode prog_1_method_11_code 27 = .ok (.ireturn, 1) := by decide +kernel
theorem jd_S_byteAt_0 : decode prog_1_method_12_code 0 = .ok (.aload_n 0, 1) := by decide +kernel
theorem jd_S_byteAt_1 : decode prog_1_method_12_code 1 = .ok (.iload_n 1, 1) := by decide +kernel
theorem jd_S_byteAt_2 : decode prog_1_method_12_code 2 = .ok (.invokevirtual 69, 3) := by decide +kernel
theorem jd_S_byteAt_5 : decode prog_1_method_12_code 5 = .ok (.astore_n 3, 1) := by decide +kernel
theorem jd_S_byteAt_6 : decode prog_1_method_12_code 6 = .ok (.aload_n 3, 1) := by decide +kernel
theorem jd_S_byteAt_7 : decode prog_1_method_12_code 7 = .ok (.ifnonnull 5, 3) := by decide +kernel
theorem jd_S_byteAt_10 : decode prog_1_method_12_code 10 = .ok (.iconst (-1), 1) := by decide +kernel
theorem jd_S_byteAt_11 : decode prog_1_method_12_code 11 = .ok (.ireturn, 1) := by decide +kernel
theorem jd_S_byteAt_12 : decode prog_1_method_12_code 12 = .ok (.aload_n 0, 1) := by decide +kernel
theorem jd_S_byteAt_13 : decode prog_1_method_12_code 13 = .ok (.getfield 28, 3) := by decide +kernel
theorem jd_S_byteAt_16 : decode prog_1_method_12_code 16 = .ok (.aload_n 3, 1) := by decide +kernel
theorem jd_S_byteAt_17 : decode prog_1_method_12_code 17 = .ok (.invokevirtual 113, 3) := by decide +kernel
theorem jd_S_byteAt_20 : decode prog_1_method_12_code 20 = .ok (.iload_n 2, 1) := by decide +kernel
theorem jd_S_byteAt_21 : decode prog_1_method_12_code 21 = .ok (.ifCond .lt 25, 3) := by decide +kernel
theorem jd_S_byteAt_24 : decode prog_1_method_12_code 24 = .ok (.iload_n 2, 1) := by decide +kernel
theorem jd_S_byteAt_25 : decode prog_1_method_12_code 25 = .ok (.aload_n 0, 1) := by decide +kernel
theorem jd_S_byteAt_26 : decode prog_1_method_12_code 26 = .ok (.getfield 28, 3) := by decide +kernel
theorem jd_S_byteAt_29 : decode prog_1_method_12_code 29 = .ok (.getfield 129, 3) := by decide +kernel
theorem jd_S_byteAt_32 : decode prog_1_method_12_code 32 = .ok (.if_icmp .ge 14, 3) := by decide +kernel
theorem jd_S_byteAt_35 : decode prog_1_method_12_code 35 = .ok (.aload_n 0, 1) := by decide +kernel
theorem jd_S_byteAt_36 : decode prog_1_method_12_code 36 = .ok (.getfield 28, 3) := by decide +kernel
theorem jd_S_byteAt_39 : decode prog_1_method_12_code 39 = .ok (.iload_n 2, 1) := by decide +kernel
theorem jd_S_byteAt_40 : decode prog_1_method_12_code 40 = .ok (.invokevirtual 130, 3) := by decide +kernel
theorem jd_S_byteAt_43 : decode prog_1_method_12_code 43 = .ok (.goto 4, 3) := by decide +kernel
theorem jd_S_byteAt_46 : decode prog_1_method_12_code 46 = .ok (.iconst (-1), 1) := by decide +kernel
theorem jd_S_byteAt_47 : decode prog_1_method_12_code 47 = .ok (.ireturn, 1) := by decide +kernel
theorem jd_S_part_0 : decode prog_1_method_13_code 0 = .ok (.aload_n 0, 1) := by decide +kernel
theorem jd_S_part_1 : decode prog_1_method_13_code 1 = .ok (.iload_n 1, 1) := by decide +kernel
theorem jd_S_part_2 : decode prog_1_method_13_code 2 = .ok (.invokevirtual 69, 3) := by decide +kernel
theorem jd_S_part_5 : decode prog_1_method_13_code 5 = .ok (.astore_n 3, 1) := by decide +kernel
theorem jd_S_part_6 : decode prog_1_method_13_code 6 = .ok (.aload_n 3, 1) := by decide +kernel
theorem jd_S_part_7 : decode prog_1_method_13_code 7 = .ok (.ifnull 13, 3) := by decide +kernel
theorem jd_S_part_10 : decode prog_1_method_13_code 10 = .ok (.iload_n 2, 1) := by decide +kernel
theorem jd_S_part_11 : decode prog_1_method_13_code 11 = .ok (.ifCond .lt 9, 3) := by decide +kernel
theorem jd_S_part_14 : decode prog_1_method_13_code 14 = .ok (.iload_n 2, 1) := by decide +kernel
theorem jd_S_part_15 : decode prog_1_method_13_code 15 = .ok (.bipush 6, 2) := by decide +kernel
theorem jd_S_part_17 : decode prog_1_method_13_code 17 = .ok (.if_icmp .lt 5, 3) := by decide +kernel
theorem jd_S_part_20 : decode prog_1_method_13_code 20 = .ok (.iconst (-1), 1) := by decide +kernel
theorem jd_S_part_21 : decode prog_1_method_13_code 21 = .ok (.ireturn, 1) := by decide +kernel
theorem jd_S_part_22 : decode prog_1_method_13_code 22 = .ok (.aload_n 0, 1) := by decide +kernel
theorem jd_S_part_23 : decode prog_1_method_13_code 23 = .ok (.getfield 28, 3) := by decide +kernel
theorem jd_S_part_26 : decode prog_1_method_13_code 26 = .ok (.aload_n 3, 1) := by decide +kernel
theorem jd_S_part_27 : decode prog_1_method_13_code 27 = .ok (.invokevirtual 113, 3) := by decide +kernel
theorem jd_S_part_30 : decode prog_1_method_13_code 30 = .ok (.aload_n 0, 1) := by decide +kernel
theorem jd_S_part_31 : decode prog_1_method_13_code 31 = .ok (.getfield 28, 3) := by decide +kernel
theorem jd_S_part_34 : decode prog_1_method_13_code 34 = .ok (.getfield 134, 3) := by decide +kernel
theorem jd_S_part_37 : decode prog_1_method_13_code 37 = .ok (.iload_n 2, 1) := by decide +kernel
theorem jd_S_part_38 : decode prog_1_method_13_code 38 = .ok (.iaload, 1) := by decide +kernel
theorem jd_S_part_39 : decode prog_1_method_13_code 39 = .ok (.ireturn, 1) := by decide +kernel
theorem jd_S_count_0 : decode prog_1_method_14_code 0 = .ok (.aload_n 0, 1) := by decide +kernel
theorem jd_S_count_1 : decode prog_1_method_14_code 1 = .ok (.iload_n 1, 1) := by decide +kernel
theorem jd_S_count_2 : decode prog_1_method_14_code 2 = .ok (.invokevirtual 69, 3) := by decide +kernel
theorem jd_S_count_5 : decode prog_1_method_14_code 5 = .ok (.astore_n 3, 1) := by decide +kernel
theorem jd_S_count_6 : decode prog_1_method_14_code 6 = .ok (.aload_n 3, 1) := by decide +kernel
theorem jd_S_count_7 : decode prog_1_method_14_code 7 = .ok (.ifnonnull 5, 3) := by decide +kernel
theorem jd_S_count_10 : decode prog_1_method_14_code 10 = .ok (.iconst (-1), 1) := by decide +kernel
theorem jd_S_count_11 : decode prog_1_method_14_code 11 = .ok (.ireturn, 1) := by decide +kernel
theorem jd_S_count_12 : decode prog_1_method_14_code 12 = .ok (.iload_n 2, 1) := by decide +kernel
theorem jd_S_count_13 : decode prog_1_method_14_code 13 = .ok (.tableswitch 117 0 7 #[47, 55, 63, 72, 81, 90, 99, 104], 47) := by decide +kernel
theorem jd_S_count_60 : decode prog_1_method_14_code 60 = .ok (.aload_n 3, 1) := by decide +kernel
theorem jd_S_count_61 : decode prog_1_method_14_code 61 = .ok (.getfield 73, 3) := by decide +kernel
theorem jd_S_count_64 : decode prog_1_method_14_code 64 = .ok (.getfield 137, 3) := by decide +kernel
theorem jd_S_count_67 : decode prog_1_method_14_code 67 = .ok (.ireturn, 1) := by decide +kernel
theorem jd_S_count_68 : decode prog_1_method_14_code 68 = .ok (.aload_n 3, 1) := by decide +kernel
theorem jd_S_count_69 : decode prog_1_method_14_code 69 = .ok (.getfield 93, 3) := by decide +kernel
theorem jd_S_count_72 : decode prog_1_method_14_code 72 = .ok (.getfield 137, 3) := by decide +kernel
theorem jd_S_count_75 : decode prog_1_method_14_code 75 = .ok (.ireturn, 1) := by decide +kernel
theorem jd_S_count_76 : decode prog_1_method_14_code 76 = .ok (.aload_n 3, 1) := by decide +kernel
theorem jd_S_count_77 : decode prog_1_method_14_code 77 = .ok (.getfield 93, 3) := by decide +kernel
theorem jd_S_count_80 : decode prog_1_method_14_code 80 = .ok (.iconst 0, 1) := by decide +kernel
theorem jd_S_count_81 : decode prog_1_method_14_code 81 = .ok (.invokevirtual 140, 3) := by decide +kernel
theorem jd_S_count_84 : decode prog_1_method_14_code 84 = .ok (.ireturn, 1) := by decide +kernel
theorem jd_S_count_85 : decode prog_1_method_14_code 85 = .ok (.aload_n 3, 1) := by decide +kernel
theorem jd_S_count_86 : decode prog_1_method_14_code 86 = .ok (.getfield 93, 3) := by decide +kernel
theorem jd_S_count_89 : decode prog_1_method_14_code 89 = .ok (.iconst 1, 1) := by decide +kernel
theorem jd_S_count_90 : decode prog_1_method_14_code 90 = .ok (.invokevirtual 140, 3) := by decide +kernel
theorem jd_S_count_93 : decode prog_1_method_14_code 93 = .ok (.ireturn, 1) := by decide +kernel
theorem jd_S_count_94 : decode prog_1_method_14_code 94 = .ok (.aload_n 3, 1) := by decide +kernel
theorem jd_S_count_95 : decode prog_1_method_14_code 95 = .ok (.getfield 93, 3) := by decide +kernel
theorem jd_S_count_98 : decode prog_1_method_14_code 98 = .ok (.iconst 2, 1) := by decide +kernel
theorem jd_S_count_99 : decode prog_1_method_14_code 99 = .ok (.invokevirtual 140, 3) := by decide +kernel
theorem jd_S_count_102 : decode prog_1_method_14_code 102 = .ok (.ireturn, 1) := by decide +kernel
theorem jd_S_count_103 : decode prog_1_method_14_code 103 = .ok (.aload_n 3, 1) := by decide +kernel
theorem jd_S_count_104 : decode prog_1_method_14_code 104 = .ok (.getfield 93, 3) := by decide +kernel
theorem jd_S_count_107 : decode prog_1_method_14_code 107 = .ok (.iconst 3, 1) := by decide +kernel
theorem jd_S_count_108 : decode prog_1_method_14_code 108 = .ok (.invokevirtual 140, 3) := by decide +kernel
theorem jd_S_count_111 : decode prog_1_method_14_code 111 = .ok (.ireturn, 1) := by decide +kernel
theorem jd_S_count_112 : decode prog_1_method_14_code 112 = .ok (.aload_n 3, 1) := by decide +kernel
theorem jd_S_count_113 : decode prog_1_method_14_code 113 = .ok (.getfield 110, 3) := by decide +kernel
theorem jd_S_count_116 : decode prog_1_method_14_code 116 = .ok (.ireturn, 1) := by decide +kernel
theorem jd_S_count_117 : decode prog_1_method_14_code 117 = .ok (.aload_n 3, 1) := by decide +kernel
theorem jd_S_count_118 : decode prog_1_method_14_code 118 = .ok (.getfield 100, 3) := by decide +kernel
theorem jd_S_count_121 : decode prog_1_method_14_code 121 = .ok (.ifCond .eq 7, 3) := by decide +kernel
theorem jd_S_count_124 : decode prog_1_method_14_code 124 = .ok (.iconst 1, 1) := by decide +kernel
theorem jd_S_count_125 : decode prog_1_method_14_code 125 = .ok (.goto 4, 3) := by decide +kernel
theorem jd_S_count_128 : decode prog_1_method_14_code 128 = .ok (.iconst 0, 1) := by decide +kernel
theorem jd_S_count_129 : decode prog_1_method_14_code 129 = .ok (.ireturn, 1) := by decide +kernel
theorem jd_S_count_130 : decode prog_1_method_14_code 130 = .ok (.iconst (-1), 1) := by decide +kernel
theorem jd_S_count_131 : decode prog_1_method_14_code 131 = .ok (.ireturn, 1) := by decide +kernel
theorem jd_M_init_0 : decode prog_10_method_1_code 0 = .ok (.aload_n 0, 1) := by decide +kernel
theorem jd_M_init_1 : decode prog_10_method_1_code 1 = .ok (.invokespecial 1, 3) := by decide +kernel
theorem jd_M_init_4 : decode prog_10_method_1_code 4 = .ok (.aload_n 0, 1) := by decide +kernel
theorem jd_M_init_5 : decode prog_10_method_1_code 5 = .ok (.sipush 2448, 3) := by decide +kernel
theorem jd_M_init_8 : decode prog_10_method_1_code 8 = .ok (.newarray .int, 2) := by decide +kernel
theorem jd_M_init_10 : decode prog_10_method_1_code 10 = .ok (.putfield 7, 3) := by decide +kernel
theorem jd_M_init_13 : decode prog_10_method_1_code 13 = .ok (.aload_n 0, 1) := by decide +kernel
theorem jd_M_init_14 : decode prog_10_method_1_code 14 = .ok (.bipush 102, 2) := by decide +kernel
theorem jd_M_init_16 : decode prog_10_method_1_code 16 = .ok (.newarray .int, 2) := by decide +kernel
theorem jd_M_init_18 : decode prog_10_method_1_code 18 = .ok (.putfield 13, 3) := by decide +kernel
theorem jd_M_init_21 : decode prog_10_method_1_code 21 = .ok (.aload_n 0, 1) := by decide +kernel
theorem jd_M_init_22 : decode prog_10_method_1_code 22 = .ok (.iconst 4, 1) := by decide +kernel
theorem jd_M_init_23 : decode prog_10_method_1_code 23 = .ok (.newarray .boolean, 2) := by decide +kernel
theorem jd_M_init_25 : decode prog_10_method_1_code 25 = .ok (.putfield 16, 3) := by decide +kernel
theorem jd_M_init_28 : decode prog_10_method_1_code 28 = .ok (.aload_n 0, 1) := by decide +kernel
theorem jd_M_init_29 : decode prog_10_method_1_code 29 = .ok (.iconst 4, 1) := by decide +kernel
theorem jd_M_init_30 : decode prog_10_method_1_code 30 = .ok (.newarray .int, 2) := by decide +kernel
theorem jd_M_init_32 : decode prog_10_method_1_code 32 = .ok (.putfield 20, 3) := by decide +kernel
theorem jd_M_init_35 : decode prog_10_method_1_code 35 = .ok (.aload_n 0, 1) := by decide +kernel
theorem jd_M_init_36 : decode prog_10_method_1_code 36 = .ok (.iconst 4, 1) := by decide +kernel
theorem jd_M_init_37 : decode prog_10_method_1_code 37 = .ok (.newarray .int, 2) := by decide +kernel
theorem jd_M_init_39 : decode prog_10_method_1_code 39 = .ok (.putfield 23, 3) := by decide +kernel
theorem jd_M_init_42 : decode prog_10_method_1_code 42 = .ok (.aload_n 0, 1) := by decide +kernel
theorem jd_M_init_43 : decode prog_10_method_1_code 43 = .ok (.iconst 4, 1) := by decide +kernel
theorem jd_M_init_44 : decode prog_10_method_1_code 44 = .ok (.newarray .int, 2) := by decide +kernel
theorem jd_M_init_46 : decode prog_10_method_1_code 46 = .ok (.putfield 26, 3) := by decide +kernel
theorem jd_M_init_49 : decode prog_10_method_1_code 49 = .ok (.aload_n 0, 1) := by decide +kernel
theorem jd_M_init_50 : decode prog_10_method_1_code 50 = .ok (.iconst 4, 1) := by decide +kernel
theorem jd_M_init_51 : decode prog_10_method_1_code 51 = .ok (.newarray .boolean, 2) := by decide +kernel
theorem jd_M_init_53 : decode prog_10_method_1_code 53 = .ok (.putfield 29, 3) := by decide +kernel
theorem jd_M_init_56 : decode prog_10_method_1_code 56 = .ok (.aload_n 0, 1) := by decide +kernel
theorem jd_M_init_57 : decode prog_10_method_1_code 57 = .ok (.iconst 4, 1) := by decide +kernel
theorem jd_M_init_58 : decode prog_10_method_1_code 58 = .ok (.newarray .long, 2) := by decide +kernel
theorem jd_M_init_60 : decode prog_10_method_1_code 60 = .ok (.putfield 32, 3) := by decide +kernel
theorem jd_M_init_63 : decode prog_10_method_1_code 63 = .ok (.aload_n 0, 1) := by decide +kernel
theorem jd_M_init_64 : decode prog_10_method_1_code 64 = .ok (.bipush 40, 2) := by decide +kernel
theorem jd_M_init_66 : decode prog_10_method_1_code 66 = .ok (.newarray .int, 2) := by decide +kernel
theorem jd_M_init_68 : decode prog_10_method_1_code 68 = .ok (.putfield 36, 3) := by decide +kernel
theorem jd_M_init_71 : decode prog_10_method_1_code 71 = .ok (.aload_n 0, 1) := by decide +kernel
theorem jd_M_init_72 : decode prog_10_method_1_code 72 = .ok (.bipush 40, 2) := by decide +kernel
theorem jd_M_init_74 : decode prog_10_method_1_code 74 = .ok (.newarray .int, 2) := by decide +kernel
theorem jd_M_init_76 : decode prog_10_method_1_code 76 = .ok (.putfield 39, 3) := by decide +kernel
theorem jd_M_init_79 : decode prog_10_method_1_code 79 = .ok (.aload_n 0, 1) := by decide +kernel
theorem jd_M_init_80 : decode prog_10_method_1_code 80 = .ok (.sipush 1100, 3) := by decide +kernel
theorem jd_M_init_83 : decode prog_10_method_1_code 83 = .ok (.newarray .int, 2) := by decide +kernel
theorem jd_M_init_85 : decode prog_10_method_1_code 85 = .ok (.putfield 42, 3) := by decide +kernel
theorem jd_M_init_88 : decode prog_10_method_1_code 88 = .ok (.aload_n 0, 1) := by decide +kernel
theorem jd_M_init_89 : decode prog_10_method_1_code 89 = .ok (.bipush 6, 2) := by decide +kernel
theorem jd_M_init_91 : decode prog_10_method_1_code 91 = .ok (.newarray .int, 2) := by decide +kernel
theorem jd_M_init_93 : decode prog_10_method_1_code 93 = .ok (.putfield 45, 3) := by decide +kernel
theorem jd_M_init_96 : decode prog_10_method_1_code 96 = .ok (.aload_n 0, 1) := by decide +kernel
theorem jd_M_init_97 : decode prog_10_method_1_code 97 = .ok (.iconst 5, 1) := by decide +kernel
theorem jd_M_init_98 : decode prog_10_method_1_code 98 = .ok (.newarray .int, 2) := by decide +kernel
theorem jd_M_init_100 : decode prog_10_method_1_code 100 = .ok (.putfield 48, 3) := by decide +kernel
theorem jd_M_init_103 : decode prog_10_method_1_code 103 = .ok (.aload_n 0, 1) := by decide +kernel
theorem jd_M_init_104 : decode prog_10_method_1_code 104 = .ok (.bipush 80, 2) := by decide +kernel
theorem jd_M_init_106 : decode prog_10_method_1_code 106 = .ok (.newarray .int, 2) := by decide +kernel
theorem jd_M_init_108 : decode prog_10_method_1_code 108 = .ok (.putfield 51, 3) := by decide +kernel
theorem jd_M_init_111 : decode prog_10_method_1_code 111 = .ok (.return_, 1) := by decide +kernel
theorem jd_M_type_0 : decode prog_10_method_4_code 0 = .ok (.aload_n 0, 1) := by decide +kernel
theorem jd_M_type_1 : decode prog_10_method_4_code 1 = .ok (.iload_n 1, 1) := by decide +kernel
theorem jd_M_type_2 : decode prog_10_method_4_code 2 = .ok (.iconst 2, 1) := by decide +kernel
theorem jd_M_type_3 : decode prog_10_method_4_code 3 = .ok (.invokevirtual 54, 3) := by decide +kernel
theorem jd_M_type_6 : decode prog_10_method_4_code 6 = .ok (.ifCond .eq 5, 3) := by decide +kernel
theorem jd_M_type_9 : decode prog_10_method_4_code 9 = .ok (.iconst (-1), 1) := by decide +kernel
theorem jd_M_type_10 : decode prog_10_method_4_code 10 = .ok (.ireturn, 1) := by decide +kernel
theorem jd_M_type_11 : decode prog_10_method_4_code 11 = .ok (.iconst 0, 1) := by decide +kernel
theorem jd_M_type_12 : decode prog_10_method_4_code 12 = .ok (.istore 4, 2) := by decide +kernel
theorem jd_M_type_14 : decode prog_10_method_4_code 14 = .ok (.iconst 0, 1) := by decide +kernel
theorem jd_M_type_15 : decode prog_10_method_4_code 15 = .ok (.istore 5, 2) := by decide +kernel
theorem jd_M_type_17 : decode prog_10_method_4_code 17 = .ok (.iload 5, 2) := by decide +kernel
theorem jd_M_type_19 : decode prog_10_method_4_code 19 = .ok (.bipush 8, 2) := by decide +kernel
theorem jd_M_type_21 : decode prog_10_method_4_code 21 = .ok (.if_icmp .ge 59, 3) := by decide +kernel
theorem jd_M_type_24 : decode prog_10_method_4_code 24 = .ok (.lload_n 2, 1) := by decide +kernel
theorem jd_M_type_25 : decode prog_10_method_4_code 25 = .ok (.bipush 8, 2) := by decide +kernel
theorem jd_M_type_27 : decode prog_10_method_4_code 27 = .ok (.iload 5, 2) := by decide +kernel
theorem jd_M_type_29 : decode prog_10_method_4_code 29 = .ok (.imul, 1) := by decide +kernel
theorem jd_M_type_30 : decode prog_10_method_4_code 30 = .ok (.lshr, 1) := by decide +kernel
theorem jd_M_type_31 : decode prog_10_method_4_code 31 = .ok (.l2i, 1) := by decide +kernel
theorem jd_M_type_32 : decode prog_10_method_4_code 32 = .ok (.sipush 255, 3) := by decide +kernel
theorem jd_M_type_35 : decode prog_10_method_4_code 35 = .ok (.iand, 1) := by decide +kernel
theorem jd_M_type_36 : decode prog_10_method_4_code 36 = .ok (.istore 6, 2) := by decide +kernel
theorem jd_M_type_38 : decode prog_10_method_4_code 38 = .ok (.iload 6, 2) := by decide +kernel
theorem jd_M_type_40 : decode prog_10_method_4_code 40 = .ok (.ifCond .eq 19, 3) := by decide +kernel
theorem jd_M_type_43 : decode prog_10_method_4_code 43 = .ok (.iload 6, 2) := by decide +kernel
theorem jd_M_type_45 : decode prog_10_method_4_code 45 = .ok (.bipush 33, 2) := by decide +kernel
theorem jd_M_type_47 : decode prog_10_method_4_code 47 = .ok (.if_icmp .lt 10, 3) := by decide +kernel
theorem jd_M_type_50 : decode prog_10_method_4_code 50 = .ok (.iload 6, 2) := by decide +kernel
theorem jd_M_type_52 : decode prog_10_method_4_code 52 = .ok (.bipush 126, 2) := by decide +kernel
theorem jd_M_type_54 : decode prog_10_method_4_code 54 = .ok (.if_icmp .le 5, 3) := by decide +kernel
theorem jd_M_type_57 : decode prog_10_method_4_code 57 = .ok (.iconst (-1), 1) := by decide +kernel
theorem jd_M_type_58 : decode prog_10_method_4_code 58 = .ok (.ireturn, 1) := by decide +kernel
theorem jd_M_type_59 : decode prog_10_method_4_code 59 = .ok (.iload 4, 2) := by decide +kernel
theorem jd_M_type_61 : decode prog_10_method_4_code 61 = .ok (.iload 6, 2) := by decide +kernel
theorem jd_M_type_63 : decode prog_10_method_4_code 63 = .ok (.ifCond .eq 7, 3) := by decide +kernel
theorem jd_M_type_66 : decode prog_10_method_4_code 66 = .ok (.iconst 1, 1) := by decide +kernel
theorem jd_M_type_67 : decode prog_10_method_4_code 67 = .ok (.goto 4, 3) := by decide +kernel
theorem jd_M_type_70 : decode prog_10_method_4_code 70 = .ok (.iconst 0, 1) := by decide +kernel
theorem jd_M_type_71 : decode prog_10_method_4_code 71 = .ok (.iadd, 1) := by decide +kernel
theorem jd_M_type_72 : decode prog_10_method_4_code 72 = .ok (.istore 4, 2) := by decide +kernel
theorem jd_M_type_74 : decode prog_10_method_4_code 74 = .ok (.iinc 5 1, 3) := by decide +kernel
theorem jd_M_type_77 : decode prog_10_method_4_code 77 = .ok (.goto (-60), 3) := by decide +kernel
theorem jd_M_type_80 : decode prog_10_method_4_code 80 = .ok (.aload_n 0, 1) := by decide +kernel
theorem jd_M_type_81 : decode prog_10_method_4_code 81 = .ok (.getfield 13, 3) := by decide +kernel
theorem jd_M_type_84 : decode prog_10_method_4_code 84 = .ok (.iload_n 1, 1) := by decide +kernel
theorem jd_M_type_85 : decode prog_10_method_4_code 85 = .ok (.iaload, 1) := by decide +kernel
theorem jd_M_type_86 : decode prog_10_method_4_code 86 = .ok (.iload 4, 2) := by decide +kernel
theorem jd_M_type_88 : decode prog_10_method_4_code 88 = .ok (.iadd, 1) := by decide +kernel
theorem jd_M_type_89 : decode prog_10_method_4_code 89 = .ok (.bipush 24, 2) := by decide +kernel
theorem jd_M_type_91 : decode prog_10_method_4_code 91 = .ok (.if_icmp .le 6, 3) := by decide +kernel
theorem jd_M_type_94 : decode prog_10_method_4_code 94 = .ok (.bipush (-4), 2) := by decide +kernel
theorem jd_M_type_96 : decode prog_10_method_4_code 96 = .ok (.ireturn, 1) := by decide +kernel
theorem jd_M_type_97 : decode prog_10_method_4_code 97 = .ok (.bipush 7, 2) := by decide +kernel
theorem jd_M_type_99 : decode prog_10_method_4_code 99 = .ok (.istore 5, 2) := by decide +kernel
theorem jd_M_type_101 : decode prog_10_method_4_code 101 = .ok (.iload 5, 2) := by decide +kernel
theorem jd_M_type_103 : decode prog_10_method_4_code 103 = .ok (.ifCond .lt 56, 3) := by decide +kernel
theorem jd_M_type_106 : decode prog_10_method_4_code 106 = .ok (.lload_n 2, 1) := by decide +kernel
theorem jd_M_type_107 : decode prog_10_method_4_code 107 = .ok (.bipush 8, 2) := by decide +kernel
theorem jd_M_type_109 : decode prog_10_method_4_code 109 = .ok (.iload 5, 2) := by decide +kernel
theorem jd_M_type_111 : decode prog_10_method_4_code 111 = .ok (.imul, 1) := by decide +kernel
theorem jd_M_type_112 : decode prog_10_method_4_code 112 = .ok (.lshr, 1) := by decide +kernel
theorem jd_M_type_113 : decode prog_10_method_4_code 113 = .ok (.l2i, 1) := by decide +kernel
theorem jd_M_type_114 : decode prog_10_method_4_code 114 = .ok (.sipush 255, 3) := by decide +kernel
theorem jd_M_type_117 : decode prog_10_method_4_code 117 = .ok (.iand, 1) := by decide +kernel
theorem jd_M_type_118 : decode prog_10_method_4_code 118 = .ok (.istore 6, 2) := by decide +kernel
theorem jd_M_type_120 : decode prog_10_method_4_code 120 = .ok (.iload 6, 2) := by decide +kernel
theorem jd_M_type_122 : decode prog_10_method_4_code 122 = .ok (.ifCond .eq 31, 3) := by decide +kernel
theorem jd_M_type_125 : decode prog_10_method_4_code 125 = .ok (.aload_n 0, 1) := by decide +kernel
theorem jd_M_type_126 : decode prog_10_method_4_code 126 = .ok (.getfield 7, 3) := by decide +kernel
theorem jd_M_type_129 : decode prog_10_method_4_code 129 = .ok (.bipush 24, 2) := by decide +kernel
theorem jd_M_type_131 : decode prog_10_method_4_code 131 = .ok (.iload_n 1, 1) := by decide +kernel
theorem jd_M_type_132 : decode prog_10_method_4_code 132 = .ok (.imul, 1) := by decide +kernel
theorem jd_M_type_133 : decode prog_10_method_4_code 133 = .ok (.aload_n 0, 1) := by decide +kernel
theorem jd_M_type_134 : decode prog_10_method_4_code 134 = .ok (.getfield 13, 3) := by decide +kernel
theorem jd_M_type_137 : decode prog_10_method_4_code 137 = .ok (.iload_n 1, 1) := by decide +kernel
theorem jd_M_type_138 : decode prog_10_method_4_code 138 = .ok (.iaload, 1) := by decide +kernel
theorem jd_M_type_139 : decode prog_10_method_4_code 139 = .ok (.iadd, 1) := by decide +kernel
theorem jd_M_type_140 : decode prog_10_method_4_code 140 = .ok (.iload 6, 2) := by decide +kernel
theorem jd_M_type_142 : decode prog_10_method_4_code 142 = .ok (.iastore, 1) := by decide +kernel
theorem jd_M_type_143 : decode prog_10_method_4_code 143 = .ok (.aload_n 0, 1) := by decide +kernel
theorem jd_M_type_144 : decode prog_10_method_4_code 144 = .ok (.getfield 13, 3) := by decide +kernel
theorem jd_M_type_147 : decode prog_10_method_4_code 147 = .ok (.iload_n 1, 1) := by decide +kernel
theorem jd_M_type_148 : decode prog_10_method_4_code 148 = .ok (.dup2, 1) := by decide +kernel
theorem jd_M_type_149 : decode prog_10_method_4_code 149 = .ok (.iaload, 1) := by decide +kernel
theorem jd_M_type_150 : decode prog_10_method_4_code 150 = .ok (.iconst 1, 1) := by decide +kernel
theorem jd_M_type_151 : decode prog_10_method_4_code 151 = .ok (.iadd, 1) := by decide +kernel
theorem jd_M_type_152 : decode prog_10_method_4_code 152 = .ok (.iastore, 1) := by decide +kernel
theorem jd_M_type_153 : decode prog_10_method_4_code 153 = .ok (.iinc 5 (-1), 3) := by decide +kernel
theorem jd_M_type_156 : decode prog_10_method_4_code 156 = .ok (.goto (-55), 3) := by decide +kernel
theorem jd_M_type_159 : decode prog_10_method_4_code 159 = .ok (.aload_n 0, 1) := by decide +kernel
theorem jd_M_type_160 : decode prog_10_method_4_code 160 = .ok (.getfield 13, 3) := by decide +kernel
theorem jd_M_type_163 : decode prog_10_method_4_code 163 = .ok (.iload_n 1, 1) := by decide +kernel
theorem jd_M_type_164 : decode prog_10_method_4_code 164 = .ok (.iaload, 1) := by decide +kernel
theorem jd_M_type_165 : decode prog_10_method_4_code 165 = .ok (.ireturn, 1) := by decide +kernel
theorem jd_M_out_0 : decode prog_10_method_2_code 0 = .ok (.iload_n 1, 1) := by decide +kernel
theorem jd_M_out_1 : decode prog_10_method_2_code 1 = .ok (.ifCond .lt 8, 3) := by decide +kernel
theorem jd_M_out_4 : decode prog_10_method_2_code 4 = .ok (.iload_n 1, 1) := by decide +kernel
theorem jd_M_out_5 : decode prog_10_method_2_code 5 = .ok (.iload_n 2, 1) := by decide +kernel
theorem jd_M_out_6 : decode prog_10_method_2_code 6 = .ok (.if_icmp .lt 7, 3) := by decide +kernel
theorem jd_M_out_9 : decode prog_10_method_2_code 9 = .ok (.iconst 1, 1) := by decide +kernel
theorem jd_M_out_10 : decode prog_10_method_2_code 10 = .ok (.goto 4, 3) := by decide +kernel
theorem jd_M_out_13 : decode prog_10_method_2_code 13 = .ok (.iconst 0, 1) := by decide +kernel
theorem jd_M_out_14 : decode prog_10_method_2_code 14 = .ok (.ireturn, 1) := by decide +kernel
theorem jd_M_clear_0 : decode prog_10_method_5_code 0 = .ok (.aload_n 0, 1) := by decide +kernel
theorem jd_M_clear_1 : decode prog_10_method_5_code 1 = .ok (.iload_n 1, 1) := by decide +kernel
theorem jd_M_clear_2 : decode prog_10_method_5_code 2 = .ok (.iconst 2, 1) := by decide +kernel
theorem jd_M_clear_3 : decode prog_10_method_5_code 3 = .ok (.invokevirtual 54, 3) := by decide +kernel
theorem jd_M_clear_6 : decode prog_10_method_5_code 6 = .ok (.ifCond .eq 5, 3) := by decide +kernel
theorem jd_M_clear_9 : decode prog_10_method_5_code 9 = .ok (.iconst (-1), 1) := by decide +kernel
theorem jd_M_clear_10 : decode prog_10_method_5_code 10 = .ok (.ireturn, 1) := by decide +kernel
theorem jd_M_clear_11 : decode prog_10_method_5_code 11 = .ok (.aload_n 0, 1) := by decide +kernel
theorem jd_M_clear_12 : decode prog_10_method_5_code 12 = .ok (.getfield 13, 3) := by decide +kernel
theorem jd_M_clear_15 : decode prog_10_method_5_code 15 = .ok (.iload_n 1, 1) := by decide +kernel
theorem jd_M_clear_16 : decode prog_10_method_5_code 16 = .ok (.iaload, 1) := by decide +kernel
theorem jd_M_clear_17 : decode prog_10_method_5_code 17 = .ok (.istore_n 2, 1) := by decide +kernel
theorem jd_M_clear_18 : decode prog_10_method_5_code 18 = .ok (.aload_n 0, 1) := by decide +kernel
theorem jd_M_clear_19 : decode prog_10_method_5_code 19 = .ok (.getfield 13, 3) := by decide +kernel
theorem jd_M_clear_22 : decode prog_10_method_5_code 22 = .ok (.iload_n 1, 1) := by decide +kernel
theorem jd_M_clear_23 : decode prog_10_method_5_code 23 = .ok (.iconst 0, 1) := by decide +kernel
theorem jd_M_clear_24 : decode prog_10_method_5_code 24 = .ok (.iastore, 1) := by decide +kernel
theorem jd_M_clear_25 : decode prog_10_method_5_code 25 = .ok (.iload_n 2, 1) := by decide +kernel
theorem jd_M_clear_26 : decode prog_10_method_5_code 26 = .ok (.ireturn, 1) := by decide +kernel
theorem jd_M_define_0 : decode prog_10_method_11_code 0 = .ok (.aload_n 0, 1) := by decide +kernel
theorem jd_M_define_1 : decode prog_10_method_11_code 1 = .ok (.iload_n 1, 1) := by decide +kernel
theorem jd_M_define_2 : decode prog_10_method_11_code 2 = .ok (.iconst 4, 1) := by decide +kernel
theorem jd_M_define_3 : decode prog_10_method_11_code 3 = .ok (.invokevirtual 54, 3) := by decide +kernel
theorem jd_M_define_6 : decode prog_10_method_11_code 6 = .ok (.ifCond .eq 5, 3) := by decide +kernel
theorem jd_M_define_9 : decode prog_10_method_11_code 9 = .ok (.iconst (-1), 1) := by decide +kernel
theorem jd_M_define_10 : decode prog_10_method_11_code 10 = .ok (.ireturn, 1) := by decide +kernel
theorem jd_M_define_11 : decode prog_10_method_11_code 11 = .ok (.aload_n 0, 1) := by decide +kernel
theorem jd_M_define_12 : decode prog_10_method_11_code 12 = .ok (.getfield 13, 3) := by decide +kernel
theorem jd_M_define_15 : decode prog_10_method_11_code 15 = .ok (.iconst 0, 1) := by decide +kernel
theorem jd_M_define_16 : decode prog_10_method_11_code 16 = .ok (.iaload, 1) := by decide +kernel
theorem jd_M_define_17 : decode prog_10_method_11_code 17 = .ok (.ifCond .ne 6, 3) := by decide +kernel
theorem jd_M_define_20 : decode prog_10_method_11_code 20 = .ok (.bipush (-2), 2) := by decide +kernel
theorem jd_M_define_22 : decode prog_10_method_11_code 22 = .ok (.ireturn, 1) := by decide +kernel
theorem jd_M_define_23 : decode prog_10_method_11_code 23 = .ok (.aload_n 0, 1) := by decide +kernel
theorem jd_M_define_24 : decode prog_10_method_11_code 24 = .ok (.getfield 16, 3) := by decide +kernel
theorem jd_M_define_27 : decode prog_10_method_11_code 27 = .ok (.iload_n 1, 1) := by decide +kernel
theorem jd_M_define_28 : decode prog_10_method_11_code 28 = .ok (.iconst 1, 1) := by decide +kernel
theorem jd_M_define_29 : decode prog_10_method_11_code 29 = .ok (.bastore, 1) := by decide +kernel
theorem jd_M_define_30 : decode prog_10_method_11_code 30 = .ok (.aload_n 0, 1) := by decide +kernel
theorem jd_M_define_31 : decode prog_10_method_11_code 31 = .ok (.getfield 20, 3) := by decide +kernel
theorem jd_M_define_34 : decode prog_10_method_11_code 34 = .ok (.iload_n 1, 1) := by decide +kernel
theorem jd_M_define_35 : decode prog_10_method_11_code 35 = .ok (.iload_n 2, 1) := by decide +kernel
theorem jd_M_define_36 : decode prog_10_method_11_code 36 = .ok (.ldc 73, 2) := by decide +kernel
theorem jd_M_define_38 : decode prog_10_method_11_code 38 = .ok (.iand, 1) := by decide +kernel
theorem jd_M_define_39 : decode prog_10_method_11_code 39 = .ok (.iastore, 1) := by decide +kernel
theorem jd_M_define_40 : decode prog_10_method_11_code 40 = .ok (.aload_n 0, 1) := by decide +kernel
theorem jd_M_define_41 : decode prog_10_method_11_code 41 = .ok (.getfield 23, 3) := by decide +kernel
theorem jd_M_define_44 : decode prog_10_method_11_code 44 = .ok (.iload_n 1, 1) := by decide +kernel
theorem jd_M_define_45 : decode prog_10_method_11_code 45 = .ok (.iconst 0, 1) := by decide +kernel
theorem jd_M_define_46 : decode prog_10_method_11_code 46 = .ok (.iastore, 1) := by decide +kernel
theorem jd_M_define_47 : decode prog_10_method_11_code 47 = .ok (.aload_n 0, 1) := by decide +kernel
theorem jd_M_define_48 : decode prog_10_method_11_code 48 = .ok (.getfield 26, 3) := by decide +kernel
theorem jd_M_define_51 : decode prog_10_method_11_code 51 = .ok (.iload_n 1, 1) := by decide +kernel
theorem jd_M_define_52 : decode prog_10_method_11_code 52 = .ok (.iconst 0, 1) := by decide +kernel
theorem jd_M_define_53 : decode prog_10_method_11_code 53 = .ok (.iastore, 1) := by decide +kernel
theorem jd_M_define_54 : decode prog_10_method_11_code 54 = .ok (.aload_n 0, 1) := by decide +kernel
theorem jd_M_define_55 : decode prog_10_method_11_code 55 = .ok (.getfield 29, 3) := by decide +kernel
theorem jd_M_define_58 : decode prog_10_method_11_code 58 = .ok (.iload_n 1, 1) := by decide +kernel
theorem jd_M_define_59 : decode prog_10_method_11_code 59 = .ok (.iconst 0, 1) := by decide +kernel
theorem jd_M_define_60 : decode prog_10_method_11_code 60 = .ok (.bastore, 1) := by decide +kernel
theorem jd_M_define_61 : decode prog_10_method_11_code 61 = .ok (.aload_n 0, 1) := by decide +kernel
theorem jd_M_define_62 : decode prog_10_method_11_code 62 = .ok (.iconst 0, 1) := by decide +kernel
theorem jd_M_define_63 : decode prog_10_method_11_code 63 = .ok (.iconst 2, 1) := by decide +kernel
theorem jd_M_define_64 : decode prog_10_method_11_code 64 = .ok (.iload_n 1, 1) := by decide +kernel
theorem jd_M_define_65 : decode prog_10_method_11_code 65 = .ok (.iadd, 1) := by decide +kernel
theorem jd_M_define_66 : decode prog_10_method_11_code 66 = .ok (.invokevirtual 74, 3) := by decide +kernel
theorem jd_M_define_69 : decode prog_10_method_11_code 69 = .ok (.iconst 0, 1) := by decide +kernel
theorem jd_M_define_70 : decode prog_10_method_11_code 70 = .ok (.ireturn, 1) := by decide +kernel
theorem jd_M_copy_0 : decode prog_10_method_6_code 0 = .ok (.aload_n 0, 1) := by decide +kernel
theorem jd_M_copy_1 : decode prog_10_method_6_code 1 = .ok (.getfield 13, 3) := by decide +kernel
theorem jd_M_copy_4 : decode prog_10_method_6_code 4 = .ok (.iload_n 2, 1) := by decide +kernel
theorem jd_M_copy_5 : decode prog_10_method_6_code 5 = .ok (.aload_n 0, 1) := by decide +kernel
theorem jd_M_copy_6 : decode prog_10_method_6_code 6 = .ok (.getfield 13, 3) := by decide +kernel
theorem jd_M_copy_9 : decode prog_10_method_6_code 9 = .ok (.iload_n 1, 1) := by decide +kernel
theorem jd_M_copy_10 : decode prog_10_method_6_code 10 = .ok (.iaload, 1) := by decide +kernel
theorem jd_M_copy_11 : decode prog_10_method_6_code 11 = .ok (.iastore, 1) := by decide +kernel
theorem jd_M_copy_12 : decode prog_10_method_6_code 12 = .ok (.iconst 0, 1) := by decide +kernel
theorem jd_M_copy_13 : decode prog_10_method_6_code 13 = .ok (.istore_n 3, 1) := by decide +kernel
theorem jd_M_copy_14 : decode prog_10_method_6_code 14 = .ok (.iload_n 3, 1) := by decide +kernel
theorem jd_M_copy_15 : decode prog_10_method_6_code 15 = .ok (.bipush 24, 2) := by decide +kernel
theorem jd_M_copy_17 : decode prog_10_method_6_code 17 = .ok (.if_icmp .ge 31, 3) := by decide +kernel
theorem jd_M_copy_20 : decode prog_10_method_6_code 20 = .ok (.aload_n 0, 1) := by decide +kernel
theorem jd_M_copy_21 : decode prog_10_method_6_code 21 = .ok (.getfield 7, 3) := by decide +kernel
theorem jd_M_copy_24 : decode prog_10_method_6_code 24 = .ok (.bipush 24, 2) := by decide +kernel
theorem jd_M_copy_26 : decode prog_10_method_6_code 26 = .ok (.iload_n 2, 1) := by decide +kernel
theorem jd_M_copy_27 : decode prog_10_method_6_code 27 = .ok (.imul, 1) := by decide +kernel
theorem jd_M_copy_28 : decode prog_10_method_6_code 28 = .ok (.iload_n 3, 1) := by decide +kernel
theorem jd_M_copy_29 : decode prog_10_method_6_code 29 = .ok (.iadd, 1) := by decide +kernel
theorem jd_M_copy_30 : decode prog_10_method_6_code 30 = .ok (.aload_n 0, 1) := by decide +kernel
theorem jd_M_copy_31 : decode prog_10_method_6_code 31 = .ok (.getfield 7, 3) := by decide +kernel
theorem jd_M_copy_34 : decode prog_10_method_6_code 34 = .ok (.bipush 24, 2) := by decide +kernel
theorem jd_M_copy_36 : decode prog_10_method_6_code 36 = .ok (.iload_n 1, 1) := by decide +kernel
theorem jd_M_copy_37 : decode prog_10_method_6_code 37 = .ok (.imul, 1) := by decide +kernel
theorem jd_M_copy_38 : decode prog_10_method_6_code 38 = .ok (.iload_n 3, 1) := by decide +kernel
theorem jd_M_copy_39 : decode prog_10_method_6_code 39 = .ok (.iadd, 1) := by decide +kernel
theorem jd_M_copy_40 : decode prog_10_method_6_code 40 = .ok (.iaload, 1) := by decide +kernel
theorem jd_M_copy_41 : decode prog_10_method_6_code 41 = .ok (.iastore, 1) := by decide +kernel
theorem jd_M_copy_42 : decode prog_10_method_6_code 42 = .ok (.iinc 3 1, 3) := by decide +kernel
theorem jd_M_copy_45 : decode prog_10_method_6_code 45 = .ok (.goto (-31), 3) := by decide +kernel
theorem jd_M_copy_48 : decode prog_10_method_6_code 48 = .ok (.return_, 1) := by decide +kernel
end
section
theorem jd_M_face_0 : decode prog_10_method_12_code 0 = .ok (.aload_n 0, 1) := by decide +kernel
theorem jd_M_face_1 : decode prog_10_method_12_code 1 = .ok (.iload_n 1, 1) := by decide +kernel
theorem jd_M_face_2 : decode prog_10_method_12_code 2 = .ok (.invokevirtual 78, 3) := by decide +kernel
theorem jd_M_face_5 : decode prog_10_method_12_code 5 = .ok (.ifCond .eq 5, 3) := by decide +kernel
theorem jd_M_face_8 : decode prog_10_method_12_code 8 = .ok (.iconst (-1), 1) := by decide +kernel
theorem jd_M_face_9 : decode prog_10_method_12_code 9 = .ok (.ireturn, 1) := by decide +kernel
theorem jd_M_face_10 : decode prog_10_method_12_code 10 = .ok (.aload_n 0, 1) := by decide +kernel
theorem jd_M_face_11 : decode prog_10_method_12_code 11 = .ok (.getfield 13, 3) := by decide +kernel
theorem jd_M_face_14 : decode prog_10_method_12_code 14 = .ok (.iconst 0, 1) := by decide +kernel
theorem jd_M_face_15 : decode prog_10_method_12_code 15 = .ok (.iaload, 1) := by decide +kernel
theorem jd_M_face_16 : decode prog_10_method_12_code 16 = .ok (.ifCond .ne 6, 3) := by decide +kernel
theorem jd_M_face_19 : decode prog_10_method_12_code 19 = .ok (.bipush (-2), 2) := by decide +kernel
theorem jd_M_face_21 : decode prog_10_method_12_code 21 = .ok (.ireturn, 1) := by decide +kernel
theorem jd_M_face_22 : decode prog_10_method_12_code 22 = .ok (.iconst 0, 1) := by decide +kernel
theorem jd_M_face_23 : decode prog_10_method_12_code 23 = .ok (.istore_n 2, 1) := by decide +kernel
theorem jd_M_face_24 : decode prog_10_method_12_code 24 = .ok (.iload_n 2, 1) := by decide +kernel
theorem jd_M_face_25 : decode prog_10_method_12_code 25 = .ok (.aload_n 0, 1) := by decide +kernel
theorem jd_M_face_26 : decode prog_10_method_12_code 26 = .ok (.getfield 23, 3) := by decide +kernel
theorem jd_M_face_29 : decode prog_10_method_12_code 29 = .ok (.iload_n 1, 1) := by decide +kernel
theorem jd_M_face_30 : decode prog_10_method_12_code 30 = .ok (.iaload, 1) := by decide +kernel
theorem jd_M_face_31 : decode prog_10_method_12_code 31 = .ok (.if_icmp .ge 28, 3) := by decide +kernel
theorem jd_M_face_34 : decode prog_10_method_12_code 34 = .ok (.aload_n 0, 1) := by decide +kernel
theorem jd_M_face_35 : decode prog_10_method_12_code 35 = .ok (.iconst 0, 1) := by decide +kernel
theorem jd_M_face_36 : decode prog_10_method_12_code 36 = .ok (.bipush 6, 2) := by decide +kernel
theorem jd_M_face_38 : decode prog_10_method_12_code 38 = .ok (.iconst 4, 1) := by decide +kernel
theorem jd_M_face_39 : decode prog_10_method_12_code 39 = .ok (.iload_n 1, 1) := by decide +kernel
theorem jd_M_face_40 : decode prog_10_method_12_code 40 = .ok (.imul, 1) := by decide +kernel
theorem jd_M_face_41 : decode prog_10_method_12_code 41 = .ok (.iadd, 1) := by decide +kernel
theorem jd_M_face_42 : decode prog_10_method_12_code 42 = .ok (.iload_n 2, 1) := by decide +kernel
theorem jd_M_face_43 : decode prog_10_method_12_code 43 = .ok (.iadd, 1) := by decide +kernel
theorem jd_M_face_44 : decode prog_10_method_12_code 44 = .ok (.invokevirtual 82, 3) := by decide +kernel
theorem jd_M_face_47 : decode prog_10_method_12_code 47 = .ok (.ifCond .ne 6, 3) := by decide +kernel
theorem jd_M_face_50 : decode prog_10_method_12_code 50 = .ok (.bipush (-3), 2) := by decide +kernel
theorem jd_M_face_52 : decode prog_10_method_12_code 52 = .ok (.ireturn, 1) := by decide +kernel
theorem jd_M_face_53 : decode prog_10_method_12_code 53 = .ok (.iinc 2 1, 3) := by decide +kernel
theorem jd_M_face_56 : decode prog_10_method_12_code 56 = .ok (.goto (-32), 3) := by decide +kernel
theorem jd_M_face_59 : decode prog_10_method_12_code 59 = .ok (.aload_n 0, 1) := by decide +kernel
theorem jd_M_face_60 : decode prog_10_method_12_code 60 = .ok (.getfield 23, 3) := by decide +kernel
theorem jd_M_face_63 : decode prog_10_method_12_code 63 = .ok (.iload_n 1, 1) := by decide +kernel
theorem jd_M_face_64 : decode prog_10_method_12_code 64 = .ok (.iaload, 1) := by decide +kernel
theorem jd_M_face_65 : decode prog_10_method_12_code 65 = .ok (.iconst 4, 1) := by decide +kernel
theorem jd_M_face_66 : decode prog_10_method_12_code 66 = .ok (.if_icmp .ne 6, 3) := by decide +kernel
theorem jd_M_face_69 : decode prog_10_method_12_code 69 = .ok (.bipush (-4), 2) := by decide +kernel
theorem jd_M_face_71 : decode prog_10_method_12_code 71 = .ok (.ireturn, 1) := by decide +kernel
theorem jd_M_face_72 : decode prog_10_method_12_code 72 = .ok (.aload_n 0, 1) := by decide +kernel
theorem jd_M_face_73 : decode prog_10_method_12_code 73 = .ok (.iconst 0, 1) := by decide +kernel
theorem jd_M_face_74 : decode prog_10_method_12_code 74 = .ok (.bipush 6, 2) := by decide +kernel
theorem jd_M_face_76 : decode prog_10_method_12_code 76 = .ok (.iconst 4, 1) := by decide +kernel
theorem jd_M_face_77 : decode prog_10_method_12_code 77 = .ok (.iload_n 1, 1) := by decide +kernel
theorem jd_M_face_78 : decode prog_10_method_12_code 78 = .ok (.imul, 1) := by decide +kernel
theorem jd_M_face_79 : decode prog_10_method_12_code 79 = .ok (.iadd, 1) := by decide +kernel
theorem jd_M_face_80 : decode prog_10_method_12_code 80 = .ok (.aload_n 0, 1) := by decide +kernel
theorem jd_M_face_81 : decode prog_10_method_12_code 81 = .ok (.getfield 23, 3) := by decide +kernel
theorem jd_M_face_84 : decode prog_10_method_12_code 84 = .ok (.iload_n 1, 1) := by decide +kernel
theorem jd_M_face_85 : decode prog_10_method_12_code 85 = .ok (.iaload, 1) := by decide +kernel
theorem jd_M_face_86 : decode prog_10_method_12_code 86 = .ok (.iadd, 1) := by decide +kernel
theorem jd_M_face_87 : decode prog_10_method_12_code 87 = .ok (.invokevirtual 74, 3) := by decide +kernel
theorem jd_M_face_90 : decode prog_10_method_12_code 90 = .ok (.aload_n 0, 1) := by decide +kernel
theorem jd_M_face_91 : decode prog_10_method_12_code 91 = .ok (.getfield 23, 3) := by decide +kernel
theorem jd_M_face_94 : decode prog_10_method_12_code 94 = .ok (.iload_n 1, 1) := by decide +kernel
theorem jd_M_face_95 : decode prog_10_method_12_code 95 = .ok (.dup2, 1) := by decide +kernel
theorem jd_M_face_96 : decode prog_10_method_12_code 96 = .ok (.iaload, 1) := by decide +kernel
theorem jd_M_face_97 : decode prog_10_method_12_code 97 = .ok (.iconst 1, 1) := by decide +kernel
theorem jd_M_face_98 : decode prog_10_method_12_code 98 = .ok (.iadd, 1) := by decide +kernel
theorem jd_M_face_99 : decode prog_10_method_12_code 99 = .ok (.iastore, 1) := by decide +kernel
theorem jd_M_face_100 : decode prog_10_method_12_code 100 = .ok (.aload_n 0, 1) := by decide +kernel
theorem jd_M_face_101 : decode prog_10_method_12_code 101 = .ok (.getfield 23, 3) := by decide +kernel
theorem jd_M_face_104 : decode prog_10_method_12_code 104 = .ok (.iload_n 1, 1) := by decide +kernel
theorem jd_M_face_105 : decode prog_10_method_12_code 105 = .ok (.iaload, 1) := by decide +kernel
theorem jd_M_face_106 : decode prog_10_method_12_code 106 = .ok (.ireturn, 1) := by decide +kernel
theorem jd_M_none_0 : decode prog_10_method_3_code 0 = .ok (.aload_n 0, 1) := by decide +kernel
theorem jd_M_none_1 : decode prog_10_method_3_code 1 = .ok (.iload_n 1, 1) := by decide +kernel
theorem jd_M_none_2 : decode prog_10_method_3_code 2 = .ok (.iconst 4, 1) := by decide +kernel
theorem jd_M_none_3 : decode prog_10_method_3_code 3 = .ok (.invokevirtual 54, 3) := by decide +kernel
theorem jd_M_none_6 : decode prog_10_method_3_code 6 = .ok (.ifCond .ne 12, 3) := by decide +kernel
theorem jd_M_none_9 : decode prog_10_method_3_code 9 = .ok (.aload_n 0, 1) := by decide +kernel
theorem jd_M_none_10 : decode prog_10_method_3_code 10 = .ok (.getfield 16, 3) := by decide +kernel
theorem jd_M_none_13 : decode prog_10_method_3_code 13 = .ok (.iload_n 1, 1) := by decide +kernel
theorem jd_M_none_14 : decode prog_10_method_3_code 14 = .ok (.baload, 1) := by decide +kernel
theorem jd_M_none_15 : decode prog_10_method_3_code 15 = .ok (.ifCond .ne 7, 3) := by decide +kernel
theorem jd_M_none_18 : decode prog_10_method_3_code 18 = .ok (.iconst 1, 1) := by decide +kernel
theorem jd_M_none_19 : decode prog_10_method_3_code 19 = .ok (.goto 4, 3) := by decide +kernel
theorem jd_M_none_22 : decode prog_10_method_3_code 22 = .ok (.iconst 0, 1) := by decide +kernel
theorem jd_M_none_23 : decode prog_10_method_3_code 23 = .ok (.ireturn, 1) := by decide +kernel
theorem jd_M_compare_0 : decode prog_10_method_7_code 0 = .ok (.aload_n 0, 1) := by decide +kernel
theorem jd_M_compare_1 : decode prog_10_method_7_code 1 = .ok (.getfield 13, 3) := by decide +kernel
theorem jd_M_compare_4 : decode prog_10_method_7_code 4 = .ok (.iload_n 1, 1) := by decide +kernel
theorem jd_M_compare_5 : decode prog_10_method_7_code 5 = .ok (.iaload, 1) := by decide +kernel
theorem jd_M_compare_6 : decode prog_10_method_7_code 6 = .ok (.aload_n 0, 1) := by decide +kernel
theorem jd_M_compare_7 : decode prog_10_method_7_code 7 = .ok (.getfield 13, 3) := by decide +kernel
theorem jd_M_compare_10 : decode prog_10_method_7_code 10 = .ok (.iload_n 2, 1) := by decide +kernel
theorem jd_M_compare_11 : decode prog_10_method_7_code 11 = .ok (.iaload, 1) := by decide +kernel
theorem jd_M_compare_12 : decode prog_10_method_7_code 12 = .ok (.if_icmp .ge 12, 3) := by decide +kernel
theorem jd_M_compare_15 : decode prog_10_method_7_code 15 = .ok (.aload_n 0, 1) := by decide +kernel
theorem jd_M_compare_16 : decode prog_10_method_7_code 16 = .ok (.getfield 13, 3) := by decide +kernel
theorem jd_M_compare_19 : decode prog_10_method_7_code 19 = .ok (.iload_n 1, 1) := by decide +kernel
theorem jd_M_compare_20 : decode prog_10_method_7_code 20 = .ok (.iaload, 1) := by decide +kernel
theorem jd_M_compare_21 : decode prog_10_method_7_code 21 = .ok (.goto 9, 3) := by decide +kernel
theorem jd_M_compare_24 : decode prog_10_method_7_code 24 = .ok (.aload_n 0, 1) := by decide +kernel
theorem jd_M_compare_25 : decode prog_10_method_7_code 25 = .ok (.getfield 13, 3) := by decide +kernel
theorem jd_M_compare_28 : decode prog_10_method_7_code 28 = .ok (.iload_n 2, 1) := by decide +kernel
theorem jd_M_compare_29 : decode prog_10_method_7_code 29 = .ok (.iaload, 1) := by decide +kernel
theorem jd_M_compare_30 : decode prog_10_method_7_code 30 = .ok (.istore_n 3, 1) := by decide +kernel
theorem jd_M_compare_31 : decode prog_10_method_7_code 31 = .ok (.iconst 0, 1) := by decide +kernel
theorem jd_M_compare_32 : decode prog_10_method_7_code 32 = .ok (.istore 4, 2) := by decide +kernel
theorem jd_M_compare_34 : decode prog_10_method_7_code 34 = .ok (.iload 4, 2) := by decide +kernel
theorem jd_M_compare_36 : decode prog_10_method_7_code 36 = .ok (.iload_n 3, 1) := by decide +kernel
theorem jd_M_compare_37 : decode prog_10_method_7_code 37 = .ok (.if_icmp .ge 44, 3) := by decide +kernel
theorem jd_M_compare_40 : decode prog_10_method_7_code 40 = .ok (.aload_n 0, 1) := by decide +kernel
theorem jd_M_compare_41 : decode prog_10_method_7_code 41 = .ok (.getfield 7, 3) := by decide +kernel
theorem jd_M_compare_44 : decode prog_10_method_7_code 44 = .ok (.bipush 24, 2) := by decide +kernel
theorem jd_M_compare_46 : decode prog_10_method_7_code 46 = .ok (.iload_n 1, 1) := by decide +kernel
theorem jd_M_compare_47 : decode prog_10_method_7_code 47 = .ok (.imul, 1) := by decide +kernel
theorem jd_M_compare_48 : decode prog_10_method_7_code 48 = .ok (.iload 4, 2) := by decide +kernel
theorem jd_M_compare_50 : decode prog_10_method_7_code 50 = .ok (.iadd, 1) := by decide +kernel
theorem jd_M_compare_51 : decode prog_10_method_7_code 51 = .ok (.iaload, 1) := by decide +kernel
theorem jd_M_compare_52 : decode prog_10_method_7_code 52 = .ok (.aload_n 0, 1) := by decide +kernel
theorem jd_M_compare_53 : decode prog_10_method_7_code 53 = .ok (.getfield 7, 3) := by decide +kernel
theorem jd_M_compare_56 : decode prog_10_method_7_code 56 = .ok (.bipush 24, 2) := by decide +kernel
theorem jd_M_compare_58 : decode prog_10_method_7_code 58 = .ok (.iload_n 2, 1) := by decide +kernel
theorem jd_M_compare_59 : decode prog_10_method_7_code 59 = .ok (.imul, 1) := by decide +kernel
theorem jd_M_compare_60 : decode prog_10_method_7_code 60 = .ok (.iload 4, 2) := by decide +kernel
theorem jd_M_compare_62 : decode prog_10_method_7_code 62 = .ok (.iadd, 1) := by decide +kernel
theorem jd_M_compare_63 : decode prog_10_method_7_code 63 = .ok (.iaload, 1) := by decide +kernel
theorem jd_M_compare_64 : decode prog_10_method_7_code 64 = .ok (.isub, 1) := by decide +kernel
theorem jd_M_compare_65 : decode prog_10_method_7_code 65 = .ok (.istore 5, 2) := by decide +kernel
theorem jd_M_compare_67 : decode prog_10_method_7_code 67 = .ok (.iload 5, 2) := by decide +kernel
theorem jd_M_compare_69 : decode prog_10_method_7_code 69 = .ok (.ifCond .eq 6, 3) := by decide +kernel
theorem jd_M_compare_72 : decode prog_10_method_7_code 72 = .ok (.iload 5, 2) := by decide +kernel
theorem jd_M_compare_74 : decode prog_10_method_7_code 74 = .ok (.ireturn, 1) := by decide +kernel
theorem jd_M_compare_75 : decode prog_10_method_7_code 75 = .ok (.iinc 4 1, 3) := by decide +kernel
theorem jd_M_compare_78 : decode prog_10_method_7_code 78 = .ok (.goto (-44), 3) := by decide +kernel
theorem jd_M_compare_81 : decode prog_10_method_7_code 81 = .ok (.aload_n 0, 1) := by decide +kernel
theorem jd_M_compare_82 : decode prog_10_method_7_code 82 = .ok (.getfield 13, 3) := by decide +kernel
theorem jd_M_compare_85 : decode prog_10_method_7_code 85 = .ok (.iload_n 1, 1) := by decide +kernel
theorem jd_M_compare_86 : decode prog_10_method_7_code 86 = .ok (.iaload, 1) := by decide +kernel
theorem jd_M_compare_87 : decode prog_10_method_7_code 87 = .ok (.aload_n 0, 1) := by decide +kernel
theorem jd_M_compare_88 : decode prog_10_method_7_code 88 = .ok (.getfield 13, 3) := by decide +kernel
theorem jd_M_compare_91 : decode prog_10_method_7_code 91 = .ok (.iload_n 2, 1) := by decide +kernel
theorem jd_M_compare_92 : decode prog_10_method_7_code 92 = .ok (.iaload, 1) := by decide +kernel
theorem jd_M_compare_93 : decode prog_10_method_7_code 93 = .ok (.isub, 1) := by decide +kernel
theorem jd_M_compare_94 : decode prog_10_method_7_code 94 = .ok (.ireturn, 1) := by decide +kernel
theorem jd_M_member_0 : decode prog_10_method_14_code 0 = .ok (.aload_n 0, 1) := by decide +kernel
theorem jd_M_member_1 : decode prog_10_method_14_code 1 = .ok (.iload_n 1, 1) := by decide +kernel
theorem jd_M_member_2 : decode prog_10_method_14_code 2 = .ok (.invokevirtual 78, 3) := by decide +kernel
theorem jd_M_member_5 : decode prog_10_method_14_code 5 = .ok (.ifCond .ne 12, 3) := by decide +kernel
theorem jd_M_member_8 : decode prog_10_method_14_code 8 = .ok (.aload_n 0, 1) := by decide +kernel
theorem jd_M_member_9 : decode prog_10_method_14_code 9 = .ok (.iload_n 2, 1) := by decide +kernel
theorem jd_M_member_10 : decode prog_10_method_14_code 10 = .ok (.iconst 4, 1) := by decide +kernel
theorem jd_M_member_11 : decode prog_10_method_14_code 11 = .ok (.invokevirtual 54, 3) := by decide +kernel
theorem jd_M_member_14 : decode prog_10_method_14_code 14 = .ok (.ifCond .eq 5, 3) := by decide +kernel
theorem jd_M_member_17 : decode prog_10_method_14_code 17 = .ok (.iconst (-1), 1) := by decide +kernel
theorem jd_M_member_18 : decode prog_10_method_14_code 18 = .ok (.ireturn, 1) := by decide +kernel
theorem jd_M_member_19 : decode prog_10_method_14_code 19 = .ok (.iload_n 2, 1) := by decide +kernel
theorem jd_M_member_20 : decode prog_10_method_14_code 20 = .ok (.ifCond .eq 8, 3) := by decide +kernel
theorem jd_M_member_23 : decode prog_10_method_14_code 23 = .ok (.iload_n 2, 1) := by decide +kernel
theorem jd_M_member_24 : decode prog_10_method_14_code 24 = .ok (.iconst 2, 1) := by decide +kernel
theorem jd_M_member_25 : decode prog_10_method_14_code 25 = .ok (.if_icmp .ne 12, 3) := by decide +kernel
theorem jd_M_member_28 : decode prog_10_method_14_code 28 = .ok (.aload_n 0, 1) := by decide +kernel
theorem jd_M_member_29 : decode prog_10_method_14_code 29 = .ok (.getfield 13, 3) := by decide +kernel
theorem jd_M_member_32 : decode prog_10_method_14_code 32 = .ok (.iconst 0, 1) := by decide +kernel
theorem jd_M_member_33 : decode prog_10_method_14_code 33 = .ok (.iaload, 1) := by decide +kernel
theorem jd_M_member_34 : decode prog_10_method_14_code 34 = .ok (.ifCond .eq 16, 3) := by decide +kernel
theorem jd_M_member_37 : decode prog_10_method_14_code 37 = .ok (.iload_n 2, 1) := by decide +kernel
theorem jd_M_member_38 : decode prog_10_method_14_code 38 = .ok (.iconst 3, 1) := by decide +kernel
theorem jd_M_member_39 : decode prog_10_method_14_code 39 = .ok (.if_icmp .eq 14, 3) := by decide +kernel
theorem jd_M_member_42 : decode prog_10_method_14_code 42 = .ok (.aload_n 0, 1) := by decide +kernel
theorem jd_M_member_43 : decode prog_10_method_14_code 43 = .ok (.iload_n 2, 1) := by decide +kernel
theorem jd_M_member_44 : decode prog_10_method_14_code 44 = .ok (.invokevirtual 86, 3) := by decide +kernel
theorem jd_M_member_47 : decode prog_10_method_14_code 47 = .ok (.ifCond .ne 6, 3) := by decide +kernel
theorem jd_M_member_50 : decode prog_10_method_14_code 50 = .ok (.bipush (-2), 2) := by decide +kernel
theorem jd_M_member_52 : decode prog_10_method_14_code 52 = .ok (.ireturn, 1) := by decide +kernel
theorem jd_M_member_53 : decode prog_10_method_14_code 53 = .ok (.aload_n 0, 1) := by decide +kernel
theorem jd_M_member_54 : decode prog_10_method_14_code 54 = .ok (.iload_n 1, 1) := by decide +kernel
theorem jd_M_member_55 : decode prog_10_method_14_code 55 = .ok (.iload_n 2, 1) := by decide +kernel
theorem jd_M_member_56 : decode prog_10_method_14_code 56 = .ok (.invokevirtual 89, 3) := by decide +kernel
theorem jd_M_member_59 : decode prog_10_method_14_code 59 = .ok (.ifCond .lt 6, 3) := by decide +kernel
theorem jd_M_member_62 : decode prog_10_method_14_code 62 = .ok (.bipush (-3), 2) := by decide +kernel
theorem jd_M_member_64 : decode prog_10_method_14_code 64 = .ok (.ireturn, 1) := by decide +kernel
theorem jd_M_member_65 : decode prog_10_method_14_code 65 = .ok (.aload_n 0, 1) := by decide +kernel
theorem jd_M_member_66 : decode prog_10_method_14_code 66 = .ok (.getfield 26, 3) := by decide +kernel
theorem jd_M_member_69 : decode prog_10_method_14_code 69 = .ok (.iload_n 1, 1) := by decide +kernel
theorem jd_M_member_70 : decode prog_10_method_14_code 70 = .ok (.iaload, 1) := by decide +kernel
theorem jd_M_member_71 : decode prog_10_method_14_code 71 = .ok (.bipush 10, 2) := by decide +kernel
theorem jd_M_member_73 : decode prog_10_method_14_code 73 = .ok (.if_icmp .ne 6, 3) := by decide +kernel
theorem jd_M_member_76 : decode prog_10_method_14_code 76 = .ok (.bipush (-4), 2) := by decide +kernel
theorem jd_M_member_78 : decode prog_10_method_14_code 78 = .ok (.ireturn, 1) := by decide +kernel
theorem jd_M_member_79 : decode prog_10_method_14_code 79 = .ok (.bipush 10, 2) := by decide +kernel
theorem jd_M_member_81 : decode prog_10_method_14_code 81 = .ok (.iload_n 1, 1) := by decide +kernel
theorem jd_M_member_82 : decode prog_10_method_14_code 82 = .ok (.imul, 1) := by decide +kernel
theorem jd_M_member_83 : decode prog_10_method_14_code 83 = .ok (.aload_n 0, 1) := by decide +kernel
theorem jd_M_member_84 : decode prog_10_method_14_code 84 = .ok (.getfield 26, 3) := by decide +kernel
theorem jd_M_member_87 : decode prog_10_method_14_code 87 = .ok (.iload_n 1, 1) := by decide +kernel
theorem jd_M_member_88 : decode prog_10_method_14_code 88 = .ok (.iaload, 1) := by decide +kernel
theorem jd_M_member_89 : decode prog_10_method_14_code 89 = .ok (.iadd, 1) := by decide +kernel
theorem jd_M_member_90 : decode prog_10_method_14_code 90 = .ok (.istore 4, 2) := by decide +kernel
theorem jd_M_member_92 : decode prog_10_method_14_code 92 = .ok (.aload_n 0, 1) := by decide +kernel
theorem jd_M_member_93 : decode prog_10_method_14_code 93 = .ok (.getfield 36, 3) := by decide +kernel
theorem jd_M_member_96 : decode prog_10_method_14_code 96 = .ok (.iload 4, 2) := by decide +kernel
theorem jd_M_member_98 : decode prog_10_method_14_code 98 = .ok (.iload_n 2, 1) := by decide +kernel
theorem jd_M_member_99 : decode prog_10_method_14_code 99 = .ok (.iastore, 1) := by decide +kernel
theorem jd_M_member_100 : decode prog_10_method_14_code 100 = .ok (.aload_n 0, 1) := by decide +kernel
theorem jd_M_member_101 : decode prog_10_method_14_code 101 = .ok (.getfield 39, 3) := by decide +kernel
theorem jd_M_member_104 : decode prog_10_method_14_code 104 = .ok (.iload 4, 2) := by decide +kernel
theorem jd_M_member_106 : decode prog_10_method_14_code 106 = .ok (.iload_n 3, 1) := by decide +kernel
theorem jd_M_member_107 : decode prog_10_method_14_code 107 = .ok (.ldc 73, 2) := by decide +kernel
theorem jd_M_member_109 : decode prog_10_method_14_code 109 = .ok (.iand, 1) := by decide +kernel
theorem jd_M_member_110 : decode prog_10_method_14_code 110 = .ok (.iastore, 1) := by decide +kernel
theorem jd_M_member_111 : decode prog_10_method_14_code 111 = .ok (.aload_n 0, 1) := by decide +kernel
theorem jd_M_member_112 : decode prog_10_method_14_code 112 = .ok (.iconst 0, 1) := by decide +kernel
theorem jd_M_member_113 : decode prog_10_method_14_code 113 = .ok (.bipush 22, 2) := by decide +kernel
theorem jd_M_member_115 : decode prog_10_method_14_code 115 = .ok (.iload 4, 2) := by decide +kernel
theorem jd_M_member_117 : decode prog_10_method_14_code 117 = .ok (.iadd, 1) := by decide +kernel
theorem jd_M_member_118 : decode prog_10_method_14_code 118 = .ok (.invokevirtual 74, 3) := by decide +kernel
theorem jd_M_member_121 : decode prog_10_method_14_code 121 = .ok (.aload_n 0, 1) := by decide +kernel
theorem jd_M_member_122 : decode prog_10_method_14_code 122 = .ok (.iconst 1, 1) := by decide +kernel
theorem jd_M_member_123 : decode prog_10_method_14_code 123 = .ok (.bipush 62, 2) := by decide +kernel
theorem jd_M_member_125 : decode prog_10_method_14_code 125 = .ok (.iload 4, 2) := by decide +kernel
theorem jd_M_member_127 : decode prog_10_method_14_code 127 = .ok (.iadd, 1) := by decide +kernel
theorem jd_M_member_128 : decode prog_10_method_14_code 128 = .ok (.invokevirtual 74, 3) := by decide +kernel
theorem jd_M_member_131 : decode prog_10_method_14_code 131 = .ok (.aload_n 0, 1) := by decide +kernel
theorem jd_M_member_132 : decode prog_10_method_14_code 132 = .ok (.getfield 26, 3) := by decide +kernel
theorem jd_M_member_135 : decode prog_10_method_14_code 135 = .ok (.iload_n 1, 1) := by decide +kernel
theorem jd_M_member_136 : decode prog_10_method_14_code 136 = .ok (.dup2, 1) := by decide +kernel
theorem jd_M_member_137 : decode prog_10_method_14_code 137 = .ok (.iaload, 1) := by decide +kernel
theorem jd_M_member_138 : decode prog_10_method_14_code 138 = .ok (.iconst 1, 1) := by decide +kernel
theorem jd_M_member_139 : decode prog_10_method_14_code 139 = .ok (.iadd, 1) := by decide +kernel
theorem jd_M_member_140 : decode prog_10_method_14_code 140 = .ok (.iastore, 1) := by decide +kernel
theorem jd_M_member_141 : decode prog_10_method_14_code 141 = .ok (.aload_n 0, 1) := by decide +kernel
theorem jd_M_member_142 : decode prog_10_method_14_code 142 = .ok (.getfield 26, 3) := by decide +kernel
theorem jd_M_member_145 : decode prog_10_method_14_code 145 = .ok (.iload_n 1, 1) := by decide +kernel
theorem jd_M_member_146 : decode prog_10_method_14_code 146 = .ok (.iaload, 1) := by decide +kernel
theorem jd_M_member_147 : decode prog_10_method_14_code 147 = .ok (.ireturn, 1) := by decide +kernel
theorem jd_M_goodShape_0 : decode prog_10_method_10_code 0 = .ok (.aload_n 0, 1) := by decide +kernel
theorem jd_M_goodShape_1 : decode prog_10_method_10_code 1 = .ok (.bipush 24, 2) := by decide +kernel
theorem jd_M_goodShape_3 : decode prog_10_method_10_code 3 = .ok (.putfield 62, 3) := by decide +kernel
theorem jd_M_goodShape_6 : decode prog_10_method_10_code 6 = .ok (.aload_n 0, 1) := by decide +kernel
theorem jd_M_goodShape_7 : decode prog_10_method_10_code 7 = .ok (.bipush 24, 2) := by decide +kernel
theorem jd_M_goodShape_9 : decode prog_10_method_10_code 9 = .ok (.aload_n 0, 1) := by decide +kernel
theorem jd_M_goodShape_10 : decode prog_10_method_10_code 10 = .ok (.getfield 13, 3) := by decide +kernel
theorem jd_M_goodShape_13 : decode prog_10_method_10_code 13 = .ok (.iconst 1, 1) := by decide +kernel
theorem jd_M_goodShape_14 : decode prog_10_method_10_code 14 = .ok (.iaload, 1) := by decide +kernel
theorem jd_M_goodShape_15 : decode prog_10_method_10_code 15 = .ok (.iadd, 1) := by decide +kernel
theorem jd_M_goodShape_16 : decode prog_10_method_10_code 16 = .ok (.putfield 58, 3) := by decide +kernel
theorem jd_M_goodShape_19 : decode prog_10_method_10_code 19 = .ok (.iload_n 1, 1) := by decide +kernel
theorem jd_M_goodShape_20 : decode prog_10_method_10_code 20 = .ok (.ifCond .ne 27, 3) := by decide +kernel
theorem jd_M_goodShape_23 : decode prog_10_method_10_code 23 = .ok (.aload_n 0, 1) := by decide +kernel
theorem jd_M_goodShape_24 : decode prog_10_method_10_code 24 = .ok (.invokevirtual 69, 3) := by decide +kernel
theorem jd_M_goodShape_27 : decode prog_10_method_10_code 27 = .ok (.ifCond .eq 18, 3) := by decide +kernel
theorem jd_M_goodShape_30 : decode prog_10_method_10_code 30 = .ok (.aload_n 0, 1) := by decide +kernel
theorem jd_M_goodShape_31 : decode prog_10_method_10_code 31 = .ok (.getfield 62, 3) := by decide +kernel
theorem jd_M_goodShape_34 : decode prog_10_method_10_code 34 = .ok (.aload_n 0, 1) := by decide +kernel
theorem jd_M_goodShape_35 : decode prog_10_method_10_code 35 = .ok (.getfield 58, 3) := by decide +kernel
theorem jd_M_goodShape_38 : decode prog_10_method_10_code 38 = .ok (.if_icmp .ne 7, 3) := by decide +kernel
theorem jd_M_goodShape_41 : decode prog_10_method_10_code 41 = .ok (.iconst 1, 1) := by decide +kernel
theorem jd_M_goodShape_42 : decode prog_10_method_10_code 42 = .ok (.goto 4, 3) := by decide +kernel
theorem jd_M_goodShape_45 : decode prog_10_method_10_code 45 = .ok (.iconst 0, 1) := by decide +kernel
theorem jd_M_goodShape_46 : decode prog_10_method_10_code 46 = .ok (.ireturn, 1) := by decide +kernel
theorem jd_M_goodShape_47 : decode prog_10_method_10_code 47 = .ok (.aload_n 0, 1) := by decide +kernel
theorem jd_M_goodShape_48 : decode prog_10_method_10_code 48 = .ok (.aload_n 0, 1) := by decide +kernel
theorem jd_M_goodShape_49 : decode prog_10_method_10_code 49 = .ok (.getfield 62, 3) := by decide +kernel
theorem jd_M_goodShape_52 : decode prog_10_method_10_code 52 = .ok (.invokevirtual 65, 3) := by decide +kernel
theorem jd_M_goodShape_55 : decode prog_10_method_10_code 55 = .ok (.bipush 40, 2) := by decide +kernel
theorem jd_M_goodShape_57 : decode prog_10_method_10_code 57 = .ok (.if_icmp .eq 5, 3) := by decide +kernel
theorem jd_M_goodShape_60 : decode prog_10_method_10_code 60 = .ok (.iconst 0, 1) := by decide +kernel
theorem jd_M_goodShape_61 : decode prog_10_method_10_code 61 = .ok (.ireturn, 1) := by decide +kernel
theorem jd_M_goodShape_62 : decode prog_10_method_10_code 62 = .ok (.aload_n 0, 1) := by decide +kernel
theorem jd_M_goodShape_63 : decode prog_10_method_10_code 63 = .ok (.dup, 1) := by decide +kernel
theorem jd_M_goodShape_64 : decode prog_10_method_10_code 64 = .ok (.getfield 62, 3) := by decide +kernel
theorem jd_M_goodShape_67 : decode prog_10_method_10_code 67 = .ok (.iconst 1, 1) := by decide +kernel
theorem jd_M_goodShape_68 : decode prog_10_method_10_code 68 = .ok (.iadd, 1) := by decide +kernel
theorem jd_M_goodShape_69 : decode prog_10_method_10_code 69 = .ok (.putfield 62, 3) := by decide +kernel
theorem jd_M_goodShape_72 : decode prog_10_method_10_code 72 = .ok (.aload_n 0, 1) := by decide +kernel
theorem jd_M_goodShape_73 : decode prog_10_method_10_code 73 = .ok (.getfield 62, 3) := by decide +kernel
theorem jd_M_goodShape_76 : decode prog_10_method_10_code 76 = .ok (.aload_n 0, 1) := by decide +kernel
theorem jd_M_goodShape_77 : decode prog_10_method_10_code 77 = .ok (.getfield 58, 3) := by decide +kernel
theorem jd_M_goodShape_80 : decode prog_10_method_10_code 80 = .ok (.if_icmp .ge 25, 3) := by decide +kernel
theorem jd_M_goodShape_83 : decode prog_10_method_10_code 83 = .ok (.aload_n 0, 1) := by decide +kernel
theorem jd_M_goodShape_84 : decode prog_10_method_10_code 84 = .ok (.aload_n 0, 1) := by decide +kernel
theorem jd_M_goodShape_85 : decode prog_10_method_10_code 85 = .ok (.getfield 62, 3) := by decide +kernel
theorem jd_M_goodShape_88 : decode prog_10_method_10_code 88 = .ok (.invokevirtual 65, 3) := by decide +kernel
theorem jd_M_goodShape_91 : decode prog_10_method_10_code 91 = .ok (.bipush 41, 2) := by decide +kernel
theorem jd_M_goodShape_93 : decode prog_10_method_10_code 93 = .ok (.if_icmp .eq 12, 3) := by decide +kernel
theorem jd_M_goodShape_96 : decode prog_10_method_10_code 96 = .ok (.aload_n 0, 1) := by decide +kernel
theorem jd_M_goodShape_97 : decode prog_10_method_10_code 97 = .ok (.invokevirtual 69, 3) := by decide +kernel
theorem jd_M_goodShape_100 : decode prog_10_method_10_code 100 = .ok (.ifCond .ne (-28), 3) := by decide +kernel
theorem jd_M_goodShape_103 : decode prog_10_method_10_code 103 = .ok (.iconst 0, 1) := by decide +kernel
theorem jd_M_goodShape_104 : decode prog_10_method_10_code 104 = .ok (.ireturn, 1) := by decide +kernel
theorem jd_M_goodShape_105 : decode prog_10_method_10_code 105 = .ok (.aload_n 0, 1) := by decide +kernel
theorem jd_M_goodShape_106 : decode prog_10_method_10_code 106 = .ok (.aload_n 0, 1) := by decide +kernel
theorem jd_M_goodShape_107 : decode prog_10_method_10_code 107 = .ok (.getfield 62, 3) := by decide +kernel
theorem jd_M_goodShape_110 : decode prog_10_method_10_code 110 = .ok (.invokevirtual 65, 3) := by decide +kernel
theorem jd_M_goodShape_113 : decode prog_10_method_10_code 113 = .ok (.bipush 41, 2) := by decide +kernel
theorem jd_M_goodShape_115 : decode prog_10_method_10_code 115 = .ok (.if_icmp .eq 5, 3) := by decide +kernel
theorem jd_M_goodShape_118 : decode prog_10_method_10_code 118 = .ok (.iconst 0, 1) := by decide +kernel
theorem jd_M_goodShape_119 : decode prog_10_method_10_code 119 = .ok (.ireturn, 1) := by decide +kernel
theorem jd_M_goodShape_120 : decode prog_10_method_10_code 120 = .ok (.aload_n 0, 1) := by decide +kernel
theorem jd_M_goodShape_121 : decode prog_10_method_10_code 121 = .ok (.dup, 1) := by decide +kernel
theorem jd_M_goodShape_122 : decode prog_10_method_10_code 122 = .ok (.getfield 62, 3) := by decide +kernel
theorem jd_M_goodShape_125 : decode prog_10_method_10_code 125 = .ok (.iconst 1, 1) := by decide +kernel
theorem jd_M_goodShape_126 : decode prog_10_method_10_code 126 = .ok (.iadd, 1) := by decide +kernel
theorem jd_M_goodShape_127 : decode prog_10_method_10_code 127 = .ok (.putfield 62, 3) := by decide +kernel
theorem jd_M_goodShape_130 : decode prog_10_method_10_code 130 = .ok (.aload_n 0, 1) := by decide +kernel
theorem jd_M_goodShape_131 : decode prog_10_method_10_code 131 = .ok (.aload_n 0, 1) := by decide +kernel
theorem jd_M_goodShape_132 : decode prog_10_method_10_code 132 = .ok (.getfield 62, 3) := by decide +kernel
theorem jd_M_goodShape_135 : decode prog_10_method_10_code 135 = .ok (.invokevirtual 65, 3) := by decide +kernel
theorem jd_M_goodShape_138 : decode prog_10_method_10_code 138 = .ok (.bipush 86, 2) := by decide +kernel
theorem jd_M_goodShape_140 : decode prog_10_method_10_code 140 = .ok (.if_icmp .ne 22, 3) := by decide +kernel
theorem jd_M_goodShape_143 : decode prog_10_method_10_code 143 = .ok (.aload_n 0, 1) := by decide +kernel
theorem jd_M_goodShape_144 : decode prog_10_method_10_code 144 = .ok (.getfield 62, 3) := by decide +kernel
theorem jd_M_goodShape_147 : decode prog_10_method_10_code 147 = .ok (.iconst 1, 1) := by decide +kernel
theorem jd_M_goodShape_148 : decode prog_10_method_10_code 148 = .ok (.iadd, 1) := by decide +kernel
theorem jd_M_goodShape_149 : decode prog_10_method_10_code 149 = .ok (.aload_n 0, 1) := by decide +kernel
theorem jd_M_goodShape_150 : decode prog_10_method_10_code 150 = .ok (.getfield 58, 3) := by decide +kernel
theorem jd_M_goodShape_153 : decode prog_10_method_10_code 153 = .ok (.if_icmp .ne 7, 3) := by decide +kernel
theorem jd_M_goodShape_156 : decode prog_10_method_10_code 156 = .ok (.iconst 1, 1) := by decide +kernel
theorem jd_M_goodShape_157 : decode prog_10_method_10_code 157 = .ok (.goto 4, 3) := by decide +kernel
theorem jd_M_goodShape_160 : decode prog_10_method_10_code 160 = .ok (.iconst 0, 1) := by decide +kernel
theorem jd_M_goodShape_161 : decode prog_10_method_10_code 161 = .ok (.ireturn, 1) := by decide +kernel
theorem jd_M_goodShape_162 : decode prog_10_method_10_code 162 = .ok (.iload_n 1, 1) := by decide +kernel
theorem jd_M_goodShape_163 : decode prog_10_method_10_code 163 = .ok (.iconst 2, 1) := by decide +kernel
theorem jd_M_goodShape_164 : decode prog_10_method_10_code 164 = .ok (.if_icmp .ne 25, 3) := by decide +kernel
theorem jd_M_goodShape_167 : decode prog_10_method_10_code 167 = .ok (.aload_n 0, 1) := by decide +kernel
theorem jd_M_goodShape_168 : decode prog_10_method_10_code 168 = .ok (.invokevirtual 69, 3) := by decide +kernel
theorem jd_M_goodShape_171 : decode prog_10_method_10_code 171 = .ok (.ifCond .eq 18, 3) := by decide +kernel
theorem jd_M_goodShape_174 : decode prog_10_method_10_code 174 = .ok (.aload_n 0, 1) := by decide +kernel
theorem jd_M_goodShape_175 : decode prog_10_method_10_code 175 = .ok (.getfield 62, 3) := by decide +kernel
theorem jd_M_goodShape_178 : decode prog_10_method_10_code 178 = .ok (.aload_n 0, 1) := by decide +kernel
theorem jd_M_goodShape_179 : decode prog_10_method_10_code 179 = .ok (.getfield 58, 3) := by decide +kernel
theorem jd_M_goodShape_182 : decode prog_10_method_10_code 182 = .ok (.if_icmp .ne 7, 3) := by decide +kernel
theorem jd_M_goodShape_185 : decode prog_10_method_10_code 185 = .ok (.iconst 1, 1) := by decide +kernel
theorem jd_M_goodShape_186 : decode prog_10_method_10_code 186 = .ok (.goto 4, 3) := by decide +kernel
theorem jd_M_goodShape_189 : decode prog_10_method_10_code 189 = .ok (.iconst 0, 1) := by decide +kernel
theorem jd_M_goodShape_190 : decode prog_10_method_10_code 190 = .ok (.ireturn, 1) := by decide +kernel
theorem jd_M_passType_0 : decode prog_10_method_9_code 0 = .ok (.iconst 0, 1) := by decide +kernel
theorem jd_M_passType_1 : decode prog_10_method_9_code 1 = .ok (.istore_n 1, 1) := by decide +kernel
theorem jd_M_passType_2 : decode prog_10_method_9_code 2 = .ok (.aload_n 0, 1) := by decide +kernel
theorem jd_M_passType_3 : decode prog_10_method_9_code 3 = .ok (.aload_n 0, 1) := by decide +kernel
theorem jd_M_passType_4 : decode prog_10_method_9_code 4 = .ok (.getfield 62, 3) := by decide +kernel
theorem jd_M_passType_7 : decode prog_10_method_9_code 7 = .ok (.invokevirtual 65, 3) := by decide +kernel
theorem jd_M_passType_10 : decode prog_10_method_9_code 10 = .ok (.bipush 91, 2) := by decide +kernel
theorem jd_M_passType_12 : decode prog_10_method_9_code 12 = .ok (.if_icmp .ne 24, 3) := by decide +kernel
theorem jd_M_passType_15 : decode prog_10_method_9_code 15 = .ok (.iload_n 1, 1) := by decide +kernel
theorem jd_M_passType_16 : decode prog_10_method_9_code 16 = .ok (.iconst 4, 1) := by decide +kernel
theorem jd_M_passType_17 : decode prog_10_method_9_code 17 = .ok (.if_icmp .ge 19, 3) := by decide +kernel
theorem jd_M_passType_20 : decode prog_10_method_9_code 20 = .ok (.aload_n 0, 1) := by decide +kernel
theorem jd_M_passType_21 : decode prog_10_method_9_code 21 = .ok (.dup, 1) := by decide +kernel
theorem jd_M_passType_22 : decode prog_10_method_9_code 22 = .ok (.getfield 62, 3) := by decide +kernel
theorem jd_M_passType_25 : decode prog_10_method_9_code 25 = .ok (.iconst 1, 1) := by decide +kernel
theorem jd_M_passType_26 : decode prog_10_method_9_code 26 = .ok (.iadd, 1) := by decide +kernel
theorem jd_M_passType_27 : decode prog_10_method_9_code 27 = .ok (.putfield 62, 3) := by decide +kernel
theorem jd_M_passType_30 : decode prog_10_method_9_code 30 = .ok (.iinc 1 1, 3) := by decide +kernel
theorem jd_M_passType_33 : decode prog_10_method_9_code 33 = .ok (.goto (-31), 3) := by decide +kernel
theorem jd_M_passType_36 : decode prog_10_method_9_code 36 = .ok (.aload_n 0, 1) := by decide +kernel
theorem jd_M_passType_37 : decode prog_10_method_9_code 37 = .ok (.aload_n 0, 1) := by decide +kernel
theorem jd_M_passType_38 : decode prog_10_method_9_code 38 = .ok (.getfield 62, 3) := by decide +kernel
theorem jd_M_passType_41 : decode prog_10_method_9_code 41 = .ok (.invokevirtual 65, 3) := by decide +kernel
theorem jd_M_passType_44 : decode prog_10_method_9_code 44 = .ok (.istore_n 2, 1) := by decide +kernel
theorem jd_M_passType_45 : decode prog_10_method_9_code 45 = .ok (.aload_n 0, 1) := by decide +kernel
theorem jd_M_passType_46 : decode prog_10_method_9_code 46 = .ok (.dup, 1) := by decide +kernel
theorem jd_M_passType_47 : decode prog_10_method_9_code 47 = .ok (.getfield 62, 3) := by decide +kernel
theorem jd_M_passType_50 : decode prog_10_method_9_code 50 = .ok (.iconst 1, 1) := by decide +kernel
theorem jd_M_passType_51 : decode prog_10_method_9_code 51 = .ok (.iadd, 1) := by decide +kernel
theorem jd_M_passType_52 : decode prog_10_method_9_code 52 = .ok (.putfield 62, 3) := by decide +kernel
theorem jd_M_passType_55 : decode prog_10_method_9_code 55 = .ok (.iload_n 1, 1) := by decide +kernel
theorem jd_M_passType_56 : decode prog_10_method_9_code 56 = .ok (.iconst 3, 1) := by decide +kernel
theorem jd_M_passType_57 : decode prog_10_method_9_code 57 = .ok (.if_icmp .gt 7, 3) := by decide +kernel
theorem jd_M_passType_60 : decode prog_10_method_9_code 60 = .ok (.iload_n 2, 1) := by decide +kernel
theorem jd_M_passType_61 : decode prog_10_method_9_code 61 = .ok (.ifCond .ne 5, 3) := by decide +kernel
theorem jd_M_passType_64 : decode prog_10_method_9_code 64 = .ok (.iconst 0, 1) := by decide +kernel
theorem jd_M_passType_65 : decode prog_10_method_9_code 65 = .ok (.ireturn, 1) := by decide +kernel
theorem jd_M_passType_66 : decode prog_10_method_9_code 66 = .ok (.iload_n 2, 1) := by decide +kernel
theorem jd_M_passType_67 : decode prog_10_method_9_code 67 = .ok (.bipush 66, 2) := by decide +kernel
theorem jd_M_passType_69 : decode prog_10_method_9_code 69 = .ok (.if_icmp .eq 45, 3) := by decide +kernel
theorem jd_M_passType_72 : decode prog_10_method_9_code 72 = .ok (.iload_n 2, 1) := by decide +kernel
theorem jd_M_passType_73 : decode prog_10_method_9_code 73 = .ok (.bipush 67, 2) := by decide +kernel
theorem jd_M_passType_75 : decode prog_10_method_9_code 75 = .ok (.if_icmp .eq 39, 3) := by decide +kernel
theorem jd_M_passType_78 : decode prog_10_method_9_code 78 = .ok (.iload_n 2, 1) := by decide +kernel
theorem jd_M_passType_79 : decode prog_10_method_9_code 79 = .ok (.bipush 68, 2) := by decide +kernel
theorem jd_M_passType_81 : decode prog_10_method_9_code 81 = .ok (.if_icmp .eq 33, 3) := by decide +kernel
theorem jd_M_passType_84 : decode prog_10_method_9_code 84 = .ok (.iload_n 2, 1) := by decide +kernel
theorem jd_M_passType_85 : decode prog_10_method_9_code 85 = .ok (.bipush 70, 2) := by decide +kernel
theorem jd_M_passType_87 : decode prog_10_method_9_code 87 = .ok (.if_icmp .eq 27, 3) := by decide +kernel
theorem jd_M_passType_90 : decode prog_10_method_9_code 90 = .ok (.iload_n 2, 1) := by decide +kernel
theorem jd_M_passType_91 : decode prog_10_method_9_code 91 = .ok (.bipush 73, 2) := by decide +kernel
theorem jd_M_passType_93 : decode prog_10_method_9_code 93 = .ok (.if_icmp .eq 21, 3) := by decide +kernel
theorem jd_M_passType_96 : decode prog_10_method_9_code 96 = .ok (.iload_n 2, 1) := by decide +kernel
theorem jd_M_passType_97 : decode prog_10_method_9_code 97 = .ok (.bipush 74, 2) := by decide +kernel
theorem jd_M_passType_99 : decode prog_10_method_9_code 99 = .ok (.if_icmp .eq 15, 3) := by decide +kernel
theorem jd_M_passType_102 : decode prog_10_method_9_code 102 = .ok (.iload_n 2, 1) := by decide +kernel
theorem jd_M_passType_103 : decode prog_10_method_9_code 103 = .ok (.bipush 83, 2) := by decide +kernel
theorem jd_M_passType_105 : decode prog_10_method_9_code 105 = .ok (.if_icmp .eq 9, 3) := by decide +kernel
theorem jd_M_passType_108 : decode prog_10_method_9_code 108 = .ok (.iload_n 2, 1) := by decide +kernel
theorem jd_M_passType_109 : decode prog_10_method_9_code 109 = .ok (.bipush 90, 2) := by decide +kernel
theorem jd_M_passType_111 : decode prog_10_method_9_code 111 = .ok (.if_icmp .ne 5, 3) := by decide +kernel
theorem jd_M_passType_114 : decode prog_10_method_9_code 114 = .ok (.iconst 1, 1) := by decide +kernel
theorem jd_M_passType_115 : decode prog_10_method_9_code 115 = .ok (.ireturn, 1) := by decide +kernel
theorem jd_M_passType_116 : decode prog_10_method_9_code 116 = .ok (.iload_n 2, 1) := by decide +kernel
theorem jd_M_passType_117 : decode prog_10_method_9_code 117 = .ok (.bipush 76, 2) := by decide +kernel
theorem jd_M_passType_119 : decode prog_10_method_9_code 119 = .ok (.if_icmp .eq 5, 3) := by decide +kernel
theorem jd_M_passType_122 : decode prog_10_method_9_code 122 = .ok (.iconst 0, 1) := by decide +kernel
theorem jd_M_passType_123 : decode prog_10_method_9_code 123 = .ok (.ireturn, 1) := by decide +kernel
theorem jd_M_passType_124 : decode prog_10_method_9_code 124 = .ok (.aload_n 0, 1) := by decide +kernel
theorem jd_M_passType_125 : decode prog_10_method_9_code 125 = .ok (.getfield 62, 3) := by decide +kernel
theorem jd_M_passType_128 : decode prog_10_method_9_code 128 = .ok (.istore_n 3, 1) := by decide +kernel
theorem jd_M_passType_129 : decode prog_10_method_9_code 129 = .ok (.iconst 0, 1) := by decide +kernel
theorem jd_M_passType_130 : decode prog_10_method_9_code 130 = .ok (.istore 4, 2) := by decide +kernel
theorem jd_M_passType_132 : decode prog_10_method_9_code 132 = .ok (.iload 4, 2) := by decide +kernel
theorem jd_M_passType_134 : decode prog_10_method_9_code 134 = .ok (.bipush 24, 2) := by decide +kernel
theorem jd_M_passType_136 : decode prog_10_method_9_code 136 = .ok (.if_icmp .ge 97, 3) := by decide +kernel
theorem jd_M_passType_139 : decode prog_10_method_9_code 139 = .ok (.aload_n 0, 1) := by decide +kernel
theorem jd_M_passType_140 : decode prog_10_method_9_code 140 = .ok (.aload_n 0, 1) := by decide +kernel
theorem jd_M_passType_141 : decode prog_10_method_9_code 141 = .ok (.getfield 62, 3) := by decide +kernel
theorem jd_M_passType_144 : decode prog_10_method_9_code 144 = .ok (.invokevirtual 65, 3) := by decide +kernel
theorem jd_M_passType_147 : decode prog_10_method_9_code 147 = .ok (.istore 5, 2) := by decide +kernel
theorem jd_M_passType_149 : decode prog_10_method_9_code 149 = .ok (.iload 5, 2) := by decide +kernel
theorem jd_M_passType_151 : decode prog_10_method_9_code 151 = .ok (.bipush 59, 2) := by decide +kernel
theorem jd_M_passType_153 : decode prog_10_method_9_code 153 = .ok (.if_icmp .ne 29, 3) := by decide +kernel
theorem jd_M_passType_156 : decode prog_10_method_9_code 156 = .ok (.aload_n 0, 1) := by decide +kernel
theorem jd_M_passType_157 : decode prog_10_method_9_code 157 = .ok (.dup, 1) := by decide +kernel
theorem jd_M_passType_158 : decode prog_10_method_9_code 158 = .ok (.getfield 62, 3) := by decide +kernel
theorem jd_M_passType_161 : decode prog_10_method_9_code 161 = .ok (.iconst 1, 1) := by decide +kernel
theorem jd_M_passType_162 : decode prog_10_method_9_code 162 = .ok (.iadd, 1) := by decide +kernel
theorem jd_M_passType_163 : decode prog_10_method_9_code 163 = .ok (.putfield 62, 3) := by decide +kernel
theorem jd_M_passType_166 : decode prog_10_method_9_code 166 = .ok (.aload_n 0, 1) := by decide +kernel
theorem jd_M_passType_167 : decode prog_10_method_9_code 167 = .ok (.getfield 62, 3) := by decide +kernel
theorem jd_M_passType_170 : decode prog_10_method_9_code 170 = .ok (.iconst 1, 1) := by decide +kernel
theorem jd_M_passType_171 : decode prog_10_method_9_code 171 = .ok (.isub, 1) := by decide +kernel
theorem jd_M_passType_172 : decode prog_10_method_9_code 172 = .ok (.iload_n 3, 1) := by decide +kernel
theorem jd_M_passType_173 : decode prog_10_method_9_code 173 = .ok (.if_icmp .le 7, 3) := by decide +kernel
theorem jd_M_passType_176 : decode prog_10_method_9_code 176 = .ok (.iconst 1, 1) := by decide +kernel
theorem jd_M_passType_177 : decode prog_10_method_9_code 177 = .ok (.goto 4, 3) := by decide +kernel
theorem jd_M_passType_180 : decode prog_10_method_9_code 180 = .ok (.iconst 0, 1) := by decide +kernel
theorem jd_M_passType_181 : decode prog_10_method_9_code 181 = .ok (.ireturn, 1) := by decide +kernel
theorem jd_M_passType_182 : decode prog_10_method_9_code 182 = .ok (.iload 5, 2) := by decide +kernel
theorem jd_M_passType_184 : decode prog_10_method_9_code 184 = .ok (.ifCond .eq 31, 3) := by decide +kernel
theorem jd_M_passType_187 : decode prog_10_method_9_code 187 = .ok (.iload 5, 2) := by decide +kernel
theorem jd_M_passType_189 : decode prog_10_method_9_code 189 = .ok (.bipush 91, 2) := by decide +kernel
theorem jd_M_passType_191 : decode prog_10_method_9_code 191 = .ok (.if_icmp .eq 24, 3) := by decide +kernel
theorem jd_M_passType_194 : decode prog_10_method_9_code 194 = .ok (.iload 5, 2) := by decide +kernel
theorem jd_M_passType_196 : decode prog_10_method_9_code 196 = .ok (.bipush 40, 2) := by decide +kernel
theorem jd_M_passType_198 : decode prog_10_method_9_code 198 = .ok (.if_icmp .eq 17, 3) := by decide +kernel
theorem jd_M_passType_201 : decode prog_10_method_9_code 201 = .ok (.iload 5, 2) := by decide +kernel
theorem jd_M_passType_203 : decode prog_10_method_9_code 203 = .ok (.bipush 41, 2) := by decide +kernel
theorem jd_M_passType_205 : decode prog_10_method_9_code 205 = .ok (.if_icmp .eq 10, 3) := by decide +kernel
theorem jd_M_passType_208 : decode prog_10_method_9_code 208 = .ok (.iload 5, 2) := by decide +kernel
theorem jd_M_passType_210 : decode prog_10_method_9_code 210 = .ok (.bipush 46, 2) := by decide +kernel
theorem jd_M_passType_212 : decode prog_10_method_9_code 212 = .ok (.if_icmp .ne 5, 3) := by decide +kernel
theorem jd_M_passType_215 : decode prog_10_method_9_code 215 = .ok (.iconst 0, 1) := by decide +kernel
theorem jd_M_passType_216 : decode prog_10_method_9_code 216 = .ok (.ireturn, 1) := by decide +kernel
theorem jd_M_passType_217 : decode prog_10_method_9_code 217 = .ok (.aload_n 0, 1) := by decide +kernel
theorem jd_M_passType_218 : decode prog_10_method_9_code 218 = .ok (.dup, 1) := by decide +kernel
theorem jd_M_passType_219 : decode prog_10_method_9_code 219 = .ok (.getfield 62, 3) := by decide +kernel
theorem jd_M_passType_222 : decode prog_10_method_9_code 222 = .ok (.iconst 1, 1) := by decide +kernel
theorem jd_M_passType_223 : decode prog_10_method_9_code 223 = .ok (.iadd, 1) := by decide +kernel
theorem jd_M_passType_224 : decode prog_10_method_9_code 224 = .ok (.putfield 62, 3) := by decide +kernel
theorem jd_M_passType_227 : decode prog_10_method_9_code 227 = .ok (.iinc 4 1, 3) := by decide +kernel
theorem jd_M_passType_230 : decode prog_10_method_9_code 230 = .ok (.goto (-98), 3) := by decide +kernel
theorem jd_M_passType_233 : decode prog_10_method_9_code 233 = .ok (.iconst 0, 1) := by decide +kernel
theorem jd_M_passType_234 : decode prog_10_method_9_code 234 = .ok (.ireturn, 1) := by decide +kernel
theorem jd_M_signAt_0 : decode prog_10_method_8_code 0 = .ok (.iload_n 1, 1) := by decide +kernel
theorem jd_M_signAt_1 : decode prog_10_method_8_code 1 = .ok (.aload_n 0, 1) := by decide +kernel
theorem jd_M_signAt_2 : decode prog_10_method_8_code 2 = .ok (.getfield 58, 3) := by decide +kernel
theorem jd_M_signAt_5 : decode prog_10_method_8_code 5 = .ok (.if_icmp .ge 12, 3) := by decide +kernel
theorem jd_M_signAt_8 : decode prog_10_method_8_code 8 = .ok (.aload_n 0, 1) := by decide +kernel
theorem jd_M_signAt_9 : decode prog_10_method_8_code 9 = .ok (.getfield 7, 3) := by decide +kernel
theorem jd_M_signAt_12 : decode prog_10_method_8_code 12 = .ok (.iload_n 1, 1) := by decide +kernel
theorem jd_M_signAt_13 : decode prog_10_method_8_code 13 = .ok (.iaload, 1) := by decide +kernel
theorem jd_M_signAt_14 : decode prog_10_method_8_code 14 = .ok (.goto 4, 3) := by decide +kernel
theorem jd_M_signAt_17 : decode prog_10_method_8_code 17 = .ok (.iconst 0, 1) := by decide +kernel
theorem jd_M_signAt_18 : decode prog_10_method_8_code 18 = .ok (.ireturn, 1) := by decide +kernel
theorem jd_M_find_0 : decode prog_10_method_13_code 0 = .ok (.bipush 10, 2) := by decide +kernel
theorem jd_M_find_2 : decode prog_10_method_13_code 2 = .ok (.iload_n 1, 1) := by decide +kernel
theorem jd_M_find_3 : decode prog_10_method_13_code 3 = .ok (.imul, 1) := by decide +kernel
theorem jd_M_find_4 : decode prog_10_method_13_code 4 = .ok (.istore_n 3, 1) := by decide +kernel
theorem jd_M_find_5 : decode prog_10_method_13_code 5 = .ok (.iload_n 3, 1) := by decide +kernel
theorem jd_M_find_6 : decode prog_10_method_13_code 6 = .ok (.bipush 10, 2) := by decide +kernel
theorem jd_M_find_8 : decode prog_10_method_13_code 8 = .ok (.iload_n 1, 1) := by decide +kernel
theorem jd_M_find_9 : decode prog_10_method_13_code 9 = .ok (.imul, 1) := by decide +kernel
theorem jd_M_find_10 : decode prog_10_method_13_code 10 = .ok (.aload_n 0, 1) := by decide +kernel
theorem jd_M_find_11 : decode prog_10_method_13_code 11 = .ok (.getfield 26, 3) := by decide +kernel
theorem jd_M_find_14 : decode prog_10_method_13_code 14 = .ok (.iload_n 1, 1) := by decide +kernel
theorem jd_M_find_15 : decode prog_10_method_13_code 15 = .ok (.iaload, 1) := by decide +kernel
theorem jd_M_find_16 : decode prog_10_method_13_code 16 = .ok (.iadd, 1) := by decide +kernel
theorem jd_M_find_17 : decode prog_10_method_13_code 17 = .ok (.if_icmp .ge 88, 3) := by decide +kernel
theorem jd_M_find_20 : decode prog_10_method_13_code 20 = .ok (.iload_n 2, 1) := by decide +kernel
theorem jd_M_find_21 : decode prog_10_method_13_code 21 = .ok (.iconst 1, 1) := by decide +kernel
theorem jd_M_find_22 : decode prog_10_method_13_code 22 = .ok (.if_icmp .eq 20, 3) := by decide +kernel
theorem jd_M_find_25 : decode prog_10_method_13_code 25 = .ok (.iload_n 2, 1) := by decide +kernel
theorem jd_M_find_26 : decode prog_10_method_13_code 26 = .ok (.iconst 3, 1) := by decide +kernel
theorem jd_M_find_27 : decode prog_10_method_13_code 27 = .ok (.if_icmp .eq 15, 3) := by decide +kernel
theorem jd_M_find_30 : decode prog_10_method_13_code 30 = .ok (.aload_n 0, 1) := by decide +kernel
theorem jd_M_find_31 : decode prog_10_method_13_code 31 = .ok (.iconst 0, 1) := by decide +kernel
theorem jd_M_find_32 : decode prog_10_method_13_code 32 = .ok (.bipush 22, 2) := by decide +kernel
theorem jd_M_find_34 : decode prog_10_method_13_code 34 = .ok (.iload_n 3, 1) := by decide +kernel
theorem jd_M_find_35 : decode prog_10_method_13_code 35 = .ok (.iadd, 1) := by decide +kernel
theorem jd_M_find_36 : decode prog_10_method_13_code 36 = .ok (.invokevirtual 82, 3) := by decide +kernel
theorem jd_M_find_39 : decode prog_10_method_13_code 39 = .ok (.ifCond .ne 7, 3) := by decide +kernel
theorem jd_M_find_42 : decode prog_10_method_13_code 42 = .ok (.iconst 1, 1) := by decide +kernel
theorem jd_M_find_43 : decode prog_10_method_13_code 43 = .ok (.goto 4, 3) := by decide +kernel
theorem jd_M_find_46 : decode prog_10_method_13_code 46 = .ok (.iconst 0, 1) := by decide +kernel
theorem jd_M_find_47 : decode prog_10_method_13_code 47 = .ok (.istore 4, 2) := by decide +kernel
theorem jd_M_find_49 : decode prog_10_method_13_code 49 = .ok (.iload_n 2, 1) := by decide +kernel
theorem jd_M_find_50 : decode prog_10_method_13_code 50 = .ok (.ifCond .eq 20, 3) := by decide +kernel
theorem jd_M_find_53 : decode prog_10_method_13_code 53 = .ok (.iload_n 2, 1) := by decide +kernel
theorem jd_M_find_54 : decode prog_10_method_13_code 54 = .ok (.iconst 3, 1) := by decide +kernel
theorem jd_M_find_55 : decode prog_10_method_13_code 55 = .ok (.if_icmp .eq 15, 3) := by decide +kernel
theorem jd_M_find_58 : decode prog_10_method_13_code 58 = .ok (.aload_n 0, 1) := by decide +kernel
theorem jd_M_find_59 : decode prog_10_method_13_code 59 = .ok (.iconst 1, 1) := by decide +kernel
theorem jd_M_find_60 : decode prog_10_method_13_code 60 = .ok (.bipush 62, 2) := by decide +kernel
theorem jd_M_find_62 : decode prog_10_method_13_code 62 = .ok (.iload_n 3, 1) := by decide +kernel
theorem jd_M_find_63 : decode prog_10_method_13_code 63 = .ok (.iadd, 1) := by decide +kernel
theorem jd_M_find_64 : decode prog_10_method_13_code 64 = .ok (.invokevirtual 82, 3) := by decide +kernel
theorem jd_M_find_67 : decode prog_10_method_13_code 67 = .ok (.ifCond .ne 7, 3) := by decide +kernel
theorem jd_M_find_70 : decode prog_10_method_13_code 70 = .ok (.iconst 1, 1) := by decide +kernel
theorem jd_M_find_71 : decode prog_10_method_13_code 71 = .ok (.goto 4, 3) := by decide +kernel
theorem jd_M_find_74 : decode prog_10_method_13_code 74 = .ok (.iconst 0, 1) := by decide +kernel
theorem jd_M_find_75 : decode prog_10_method_13_code 75 = .ok (.istore 5, 2) := by decide +kernel
theorem jd_M_find_77 : decode prog_10_method_13_code 77 = .ok (.aload_n 0, 1) := by decide +kernel
theorem jd_M_find_78 : decode prog_10_method_13_code 78 = .ok (.getfield 36, 3) := by decide +kernel
theorem jd_M_find_81 : decode prog_10_method_13_code 81 = .ok (.iload_n 3, 1) := by decide +kernel
theorem jd_M_find_82 : decode prog_10_method_13_code 82 = .ok (.iaload, 1) := by decide +kernel
theorem jd_M_find_83 : decode prog_10_method_13_code 83 = .ok (.iload_n 2, 1) := by decide +kernel
theorem jd_M_find_84 : decode prog_10_method_13_code 84 = .ok (.if_icmp .ne 15, 3) := by decide +kernel
theorem jd_M_find_87 : decode prog_10_method_13_code 87 = .ok (.iload 4, 2) := by decide +kernel
theorem jd_M_find_89 : decode prog_10_method_13_code 89 = .ok (.ifCond .eq 10, 3) := by decide +kernel
theorem jd_M_find_92 : decode prog_10_method_13_code 92 = .ok (.iload 5, 2) := by decide +kernel
theorem jd_M_find_94 : decode prog_10_method_13_code 94 = .ok (.ifCond .eq 5, 3) := by decide +kernel
theorem jd_M_find_97 : decode prog_10_method_13_code 97 = .ok (.iload_n 3, 1) := by decide +kernel
theorem jd_M_find_98 : decode prog_10_method_13_code 98 = .ok (.ireturn, 1) := by decide +kernel
theorem jd_M_find_99 : decode prog_10_method_13_code 99 = .ok (.iinc 3 1, 3) := by decide +kernel
theorem jd_M_find_102 : decode prog_10_method_13_code 102 = .ok (.goto (-97), 3) := by decide +kernel
theorem jd_M_find_105 : decode prog_10_method_13_code 105 = .ok (.iconst (-1), 1) := by decide +kernel
theorem jd_M_find_106 : decode prog_10_method_13_code 106 = .ok (.ireturn, 1) := by decide +kernel
theorem jd_M_remove_0 : decode prog_10_method_15_code 0 = .ok (.aload_n 0, 1) := by decide +kernel
theorem jd_M_remove_1 : decode prog_10_method_15_code 1 = .ok (.iload_n 1, 1) := by decide +kernel
theorem jd_M_remove_2 : decode prog_10_method_15_code 2 = .ok (.invokevirtual 78, 3) := by decide +kernel
theorem jd_M_remove_5 : decode prog_10_method_15_code 5 = .ok (.ifCond .ne 12, 3) := by decide +kernel
theorem jd_M_remove_8 : decode prog_10_method_15_code 8 = .ok (.aload_n 0, 1) := by decide +kernel
theorem jd_M_remove_9 : decode prog_10_method_15_code 9 = .ok (.iload_n 2, 1) := by decide +kernel
theorem jd_M_remove_10 : decode prog_10_method_15_code 10 = .ok (.iconst 4, 1) := by decide +kernel
theorem jd_M_remove_11 : decode prog_10_method_15_code 11 = .ok (.invokevirtual 54, 3) := by decide +kernel
theorem jd_M_remove_14 : decode prog_10_method_15_code 14 = .ok (.ifCond .eq 5, 3) := by decide +kernel
theorem jd_M_remove_17 : decode prog_10_method_15_code 17 = .ok (.iconst (-1), 1) := by decide +kernel
theorem jd_M_remove_18 : decode prog_10_method_15_code 18 = .ok (.ireturn, 1) := by decide +kernel
theorem jd_M_remove_19 : decode prog_10_method_15_code 19 = .ok (.aload_n 0, 1) := by decide +kernel
theorem jd_M_remove_20 : decode prog_10_method_15_code 20 = .ok (.iload_n 1, 1) := by decide +kernel
theorem jd_M_remove_21 : decode prog_10_method_15_code 21 = .ok (.iload_n 2, 1) := by decide +kernel
theorem jd_M_remove_22 : decode prog_10_method_15_code 22 = .ok (.invokevirtual 89, 3) := by decide +kernel
theorem jd_M_remove_25 : decode prog_10_method_15_code 25 = .ok (.istore_n 3, 1) := by decide +kernel
theorem jd_M_remove_26 : decode prog_10_method_15_code 26 = .ok (.iload_n 3, 1) := by decide +kernel
theorem jd_M_remove_27 : decode prog_10_method_15_code 27 = .ok (.ifCond .ge 6, 3) := by decide +kernel
theorem jd_M_remove_30 : decode prog_10_method_15_code 30 = .ok (.bipush (-2), 2) := by decide +kernel
theorem jd_M_remove_32 : decode prog_10_method_15_code 32 = .ok (.ireturn, 1) := by decide +kernel
theorem jd_M_remove_33 : decode prog_10_method_15_code 33 = .ok (.aload_n 0, 1) := by decide +kernel
theorem jd_M_remove_34 : decode prog_10_method_15_code 34 = .ok (.getfield 26, 3) := by decide +kernel
theorem jd_M_remove_37 : decode prog_10_method_15_code 37 = .ok (.iload_n 1, 1) := by decide +kernel
theorem jd_M_remove_38 : decode prog_10_method_15_code 38 = .ok (.dup2, 1) := by decide +kernel
theorem jd_M_remove_39 : decode prog_10_method_15_code 39 = .ok (.iaload, 1) := by decide +kernel
theorem jd_M_remove_40 : decode prog_10_method_15_code 40 = .ok (.iconst 1, 1) := by decide +kernel
theorem jd_M_remove_41 : decode prog_10_method_15_code 41 = .ok (.isub, 1) := by decide +kernel
theorem jd_M_remove_42 : decode prog_10_method_15_code 42 = .ok (.iastore, 1) := by decide +kernel
theorem jd_M_remove_43 : decode prog_10_method_15_code 43 = .ok (.iload_n 3, 1) := by decide +kernel
theorem jd_M_remove_44 : decode prog_10_method_15_code 44 = .ok (.istore 4, 2) := by decide +kernel
theorem jd_M_remove_46 : decode prog_10_method_15_code 46 = .ok (.iload 4, 2) := by decide +kernel
theorem jd_M_remove_48 : decode prog_10_method_15_code 48 = .ok (.bipush 10, 2) := by decide +kernel
theorem jd_M_remove_50 : decode prog_10_method_15_code 50 = .ok (.iload_n 1, 1) := by decide +kernel
theorem jd_M_remove_51 : decode prog_10_method_15_code 51 = .ok (.imul, 1) := by decide +kernel
theorem jd_M_remove_52 : decode prog_10_method_15_code 52 = .ok (.aload_n 0, 1) := by decide +kernel
theorem jd_M_remove_53 : decode prog_10_method_15_code 53 = .ok (.getfield 26, 3) := by decide +kernel
theorem jd_M_remove_56 : decode prog_10_method_15_code 56 = .ok (.iload_n 1, 1) := by decide +kernel
theorem jd_M_remove_57 : decode prog_10_method_15_code 57 = .ok (.iaload, 1) := by decide +kernel
theorem jd_M_remove_58 : decode prog_10_method_15_code 58 = .ok (.iadd, 1) := by decide +kernel
theorem jd_M_remove_59 : decode prog_10_method_15_code 59 = .ok (.if_icmp .ge 69, 3) := by decide +kernel
theorem jd_M_remove_62 : decode prog_10_method_15_code 62 = .ok (.aload_n 0, 1) := by decide +kernel
theorem jd_M_remove_63 : decode prog_10_method_15_code 63 = .ok (.getfield 36, 3) := by decide +kernel
theorem jd_M_remove_66 : decode prog_10_method_15_code 66 = .ok (.iload 4, 2) := by decide +kernel
theorem jd_M_remove_68 : decode prog_10_method_15_code 68 = .ok (.aload_n 0, 1) := by decide +kernel
theorem jd_M_remove_69 : decode prog_10_method_15_code 69 = .ok (.getfield 36, 3) := by decide +kernel
theorem jd_M_remove_72 : decode prog_10_method_15_code 72 = .ok (.iload 4, 2) := by decide +kernel
theorem jd_M_remove_74 : decode prog_10_method_15_code 74 = .ok (.iconst 1, 1) := by decide +kernel
theorem jd_M_remove_75 : decode prog_10_method_15_code 75 = .ok (.iadd, 1) := by decide +kernel
theorem jd_M_remove_76 : decode prog_10_method_15_code 76 = .ok (.iaload, 1) := by decide +kernel
theorem jd_M_remove_77 : decode prog_10_method_15_code 77 = .ok (.iastore, 1) := by decide +kernel
theorem jd_M_remove_78 : decode prog_10_method_15_code 78 = .ok (.aload_n 0, 1) := by decide +kernel
theorem jd_M_remove_79 : decode prog_10_method_15_code 79 = .ok (.getfield 39, 3) := by decide +kernel
theorem jd_M_remove_82 : decode prog_10_method_15_code 82 = .ok (.iload 4, 2) := by decide +kernel
theorem jd_M_remove_84 : decode prog_10_method_15_code 84 = .ok (.aload_n 0, 1) := by decide +kernel
theorem jd_M_remove_85 : decode prog_10_method_15_code 85 = .ok (.getfield 39, 3) := by decide +kernel
theorem jd_M_remove_88 : decode prog_10_method_15_code 88 = .ok (.iload 4, 2) := by decide +kernel
theorem jd_M_remove_90 : decode prog_10_method_15_code 90 = .ok (.iconst 1, 1) := by decide +kernel
theorem jd_M_remove_91 : decode prog_10_method_15_code 91 = .ok (.iadd, 1) := by decide +kernel
theorem jd_M_remove_92 : decode prog_10_method_15_code 92 = .ok (.iaload, 1) := by decide +kernel
theorem jd_M_remove_93 : decode prog_10_method_15_code 93 = .ok (.iastore, 1) := by decide +kernel
theorem jd_M_remove_94 : decode prog_10_method_15_code 94 = .ok (.aload_n 0, 1) := by decide +kernel
theorem jd_M_remove_95 : decode prog_10_method_15_code 95 = .ok (.bipush 23, 2) := by decide +kernel
theorem jd_M_remove_97 : decode prog_10_method_15_code 97 = .ok (.iload 4, 2) := by decide +kernel
theorem jd_M_remove_99 : decode prog_10_method_15_code 99 = .ok (.iadd, 1) := by decide +kernel
theorem jd_M_remove_100 : decode prog_10_method_15_code 100 = .ok (.bipush 22, 2) := by decide +kernel
theorem jd_M_remove_102 : decode prog_10_method_15_code 102 = .ok (.iload 4, 2) := by decide +kernel
theorem jd_M_remove_104 : decode prog_10_method_15_code 104 = .ok (.iadd, 1) := by decide +kernel
theorem jd_M_remove_105 : decode prog_10_method_15_code 105 = .ok (.invokevirtual 74, 3) := by decide +kernel
theorem jd_M_remove_108 : decode prog_10_method_15_code 108 = .ok (.aload_n 0, 1) := by decide +kernel
theorem jd_M_remove_109 : decode prog_10_method_15_code 109 = .ok (.bipush 63, 2) := by decide +kernel
theorem jd_M_remove_111 : decode prog_10_method_15_code 111 = .ok (.iload 4, 2) := by decide +kernel
theorem jd_M_remove_113 : decode prog_10_method_15_code 113 = .ok (.iadd, 1) := by decide +kernel
theorem jd_M_remove_114 : decode prog_10_method_15_code 114 = .ok (.bipush 62, 2) := by decide +kernel
theorem jd_M_remove_116 : decode prog_10_method_15_code 116 = .ok (.iload 4, 2) := by decide +kernel
theorem jd_M_remove_118 : decode prog_10_method_15_code 118 = .ok (.iadd, 1) := by decide +kernel
theorem jd_M_remove_119 : decode prog_10_method_15_code 119 = .ok (.invokevirtual 74, 3) := by decide +kernel
theorem jd_M_remove_122 : decode prog_10_method_15_code 122 = .ok (.iinc 4 1, 3) := by decide +kernel
theorem jd_M_remove_125 : decode prog_10_method_15_code 125 = .ok (.goto (-79), 3) := by decide +kernel
theorem jd_M_remove_128 : decode prog_10_method_15_code 128 = .ok (.aload_n 0, 1) := by decide +kernel
theorem jd_M_remove_129 : decode prog_10_method_15_code 129 = .ok (.getfield 26, 3) := by decide +kernel
theorem jd_M_remove_132 : decode prog_10_method_15_code 132 = .ok (.iload_n 1, 1) := by decide +kernel
theorem jd_M_remove_133 : decode prog_10_method_15_code 133 = .ok (.iaload, 1) := by decide +kernel
theorem jd_M_remove_134 : decode prog_10_method_15_code 134 = .ok (.ireturn, 1) := by decide +kernel
theorem jd_M_declare_0 : decode prog_10_method_16_code 0 = .ok (.aload_n 0, 1) := by decide +kernel
theorem jd_M_declare_1 : decode prog_10_method_16_code 1 = .ok (.iload_n 1, 1) := by decide +kernel
theorem jd_M_declare_2 : decode prog_10_method_16_code 2 = .ok (.invokevirtual 78, 3) := by decide +kernel
theorem jd_M_declare_5 : decode prog_10_method_16_code 5 = .ok (.ifCond .eq 5, 3) := by decide +kernel
theorem jd_M_declare_8 : decode prog_10_method_16_code 8 = .ok (.iconst (-1), 1) := by decide +kernel
theorem jd_M_declare_9 : decode prog_10_method_16_code 9 = .ok (.ireturn, 1) := by decide +kernel
theorem jd_M_declare_10 : decode prog_10_method_16_code 10 = .ok (.aload_n 0, 1) := by decide +kernel
theorem jd_M_declare_11 : decode prog_10_method_16_code 11 = .ok (.getfield 29, 3) := by decide +kernel
theorem jd_M_declare_14 : decode prog_10_method_16_code 14 = .ok (.iload_n 1, 1) := by decide +kernel
theorem jd_M_declare_15 : decode prog_10_method_16_code 15 = .ok (.iload_n 2, 1) := by decide +kernel
theorem jd_M_declare_16 : decode prog_10_method_16_code 16 = .ok (.bastore, 1) := by decide +kernel
theorem jd_M_declare_17 : decode prog_10_method_16_code 17 = .ok (.aload_n 0, 1) := by decide +kernel
theorem jd_M_declare_18 : decode prog_10_method_16_code 18 = .ok (.getfield 32, 3) := by decide +kernel
theorem jd_M_declare_21 : decode prog_10_method_16_code 21 = .ok (.iload_n 1, 1) := by decide +kernel
theorem jd_M_declare_22 : decode prog_10_method_16_code 22 = .ok (.lload_n 3, 1) := by decide +kernel
theorem jd_M_declare_23 : decode prog_10_method_16_code 23 = .ok (.lastore, 1) := by decide +kernel
theorem jd_M_declare_24 : decode prog_10_method_16_code 24 = .ok (.iconst 0, 1) := by decide +kernel
theorem jd_M_declare_25 : decode prog_10_method_16_code 25 = .ok (.ireturn, 1) := by decide +kernel
theorem jd_M_id_0 : decode prog_10_method_32_code 0 = .ok (.aload_n 0, 1) := by decide +kernel
theorem jd_M_id_1 : decode prog_10_method_32_code 1 = .ok (.iload_n 1, 1) := by decide +kernel
theorem jd_M_id_2 : decode prog_10_method_32_code 2 = .ok (.invokevirtual 78, 3) := by decide +kernel
theorem jd_M_id_5 : decode prog_10_method_32_code 5 = .ok (.ifCond .eq 7, 3) := by decide +kernel
theorem jd_M_id_8 : decode prog_10_method_32_code 8 = .ok (.ldc2_w 151, 3) := by decide +kernel
theorem jd_M_id_11 : decode prog_10_method_32_code 11 = .ok (.lreturn, 1) := by decide +kernel
theorem jd_M_id_12 : decode prog_10_method_32_code 12 = .ok (.aload_n 0, 1) := by decide +kernel
theorem jd_M_id_13 : decode prog_10_method_32_code 13 = .ok (.getfield 20, 3) := by decide +kernel
theorem jd_M_id_16 : decode prog_10_method_32_code 16 = .ok (.iload_n 1, 1) := by decide +kernel
theorem jd_M_id_17 : decode prog_10_method_32_code 17 = .ok (.iaload, 1) := by decide +kernel
theorem jd_M_id_18 : decode prog_10_method_32_code 18 = .ok (.sipush 16384, 3) := by decide +kernel
theorem jd_M_id_21 : decode prog_10_method_32_code 21 = .ok (.iand, 1) := by decide +kernel
theorem jd_M_id_22 : decode prog_10_method_32_code 22 = .ok (.ifCond .eq 5, 3) := by decide +kernel
theorem jd_M_id_25 : decode prog_10_method_32_code 25 = .ok (.lconst 0, 1) := by decide +kernel
theorem jd_M_id_26 : decode prog_10_method_32_code 26 = .ok (.lreturn, 1) := by decide +kernel
theorem jd_M_id_27 : decode prog_10_method_32_code 27 = .ok (.aload_n 0, 1) := by decide +kernel
theorem jd_M_id_28 : decode prog_10_method_32_code 28 = .ok (.getfield 29, 3) := by decide +kernel
theorem jd_M_id_31 : decode prog_10_method_32_code 31 = .ok (.iload_n 1, 1) := by decide +kernel
theorem jd_M_id_32 : decode prog_10_method_32_code 32 = .ok (.baload, 1) := by decide +kernel
theorem jd_M_id_33 : decode prog_10_method_32_code 33 = .ok (.ifCond .eq 10, 3) := by decide +kernel
theorem jd_M_id_36 : decode prog_10_method_32_code 36 = .ok (.aload_n 0, 1) := by decide +kernel
theorem jd_M_id_37 : decode prog_10_method_32_code 37 = .ok (.getfield 32, 3) := by decide +kernel
theorem jd_M_id_40 : decode prog_10_method_32_code 40 = .ok (.iload_n 1, 1) := by decide +kernel
theorem jd_M_id_41 : decode prog_10_method_32_code 41 = .ok (.laload, 1) := by decide +kernel
theorem jd_M_id_42 : decode prog_10_method_32_code 42 = .ok (.lreturn, 1) := by decide +kernel
theorem jd_M_id_43 : decode prog_10_method_32_code 43 = .ok (.aload_n 0, 1) := by decide +kernel
theorem jd_M_id_44 : decode prog_10_method_32_code 44 = .ok (.iload_n 1, 1) := by decide +kernel
theorem jd_M_id_45 : decode prog_10_method_32_code 45 = .ok (.invokevirtual 153, 3) := by decide +kernel
theorem jd_M_id_48 : decode prog_10_method_32_code 48 = .ok (.lconst 0, 1) := by decide +kernel
theorem jd_M_id_49 : decode prog_10_method_32_code 49 = .ok (.lstore_n 2, 1) := by decide +kernel
theorem jd_M_id_50 : decode prog_10_method_32_code 50 = .ok (.bipush 7, 2) := by decide +kernel
theorem jd_M_id_52 : decode prog_10_method_32_code 52 = .ok (.istore 4, 2) := by decide +kernel
theorem jd_M_id_54 : decode prog_10_method_32_code 54 = .ok (.iload 4, 2) := by decide +kernel
theorem jd_M_id_56 : decode prog_10_method_32_code 56 = .ok (.ifCond .lt 40, 3) := by decide +kernel
theorem jd_M_id_59 : decode prog_10_method_32_code 59 = .ok (.lload_n 2, 1) := by decide +kernel
theorem jd_M_id_60 : decode prog_10_method_32_code 60 = .ok (.bipush 8, 2) := by decide +kernel
theorem jd_M_id_62 : decode prog_10_method_32_code 62 = .ok (.lshl, 1) := by decide +kernel
theorem jd_M_id_63 : decode prog_10_method_32_code 63 = .ok (.aload_n 0, 1) := by decide +kernel
theorem jd_M_id_64 : decode prog_10_method_32_code 64 = .ok (.getfield 48, 3) := by decide +kernel
theorem jd_M_id_67 : decode prog_10_method_32_code 67 = .ok (.iload 4, 2) := by decide +kernel
theorem jd_M_id_69 : decode prog_10_method_32_code 69 = .ok (.iconst 4, 1) := by decide +kernel
theorem jd_M_id_70 : decode prog_10_method_32_code 70 = .ok (.idiv, 1) := by decide +kernel
theorem jd_M_id_71 : decode prog_10_method_32_code 71 = .ok (.iaload, 1) := by decide +kernel
theorem jd_M_id_72 : decode prog_10_method_32_code 72 = .ok (.bipush 24, 2) := by decide +kernel
theorem jd_M_id_74 : decode prog_10_method_32_code 74 = .ok (.bipush 8, 2) := by decide +kernel
theorem jd_M_id_76 : decode prog_10_method_32_code 76 = .ok (.iload 4, 2) := by decide +kernel
theorem jd_M_id_78 : decode prog_10_method_32_code 78 = .ok (.iconst 4, 1) := by decide +kernel
theorem jd_M_id_79 : decode prog_10_method_32_code 79 = .ok (.irem, 1) := by decide +kernel
theorem jd_M_id_80 : decode prog_10_method_32_code 80 = .ok (.imul, 1) := by decide +kernel
theorem jd_M_id_81 : decode prog_10_method_32_code 81 = .ok (.isub, 1) := by decide +kernel
theorem jd_M_id_82 : decode prog_10_method_32_code 82 = .ok (.ishr, 1) := by decide +kernel
theorem jd_M_id_83 : decode prog_10_method_32_code 83 = .ok (.sipush 255, 3) := by decide +kernel
theorem jd_M_id_86 : decode prog_10_method_32_code 86 = .ok (.iand, 1) := by decide +kernel
theorem jd_M_id_87 : decode prog_10_method_32_code 87 = .ok (.i2l, 1) := by decide +kernel
theorem jd_M_id_88 : decode prog_10_method_32_code 88 = .ok (.lor, 1) := by decide +kernel
theorem jd_M_id_89 : decode prog_10_method_32_code 89 = .ok (.lstore_n 2, 1) := by decide +kernel
theorem jd_M_id_90 : decode prog_10_method_32_code 90 = .ok (.iinc 4 (-1), 3) := by decide +kernel
theorem jd_M_id_93 : decode prog_10_method_32_code 93 = .ok (.goto (-39), 3) := by decide +kernel
theorem jd_M_id_96 : decode prog_10_method_32_code 96 = .ok (.lload_n 2, 1) := by decide +kernel
theorem jd_M_id_97 : decode prog_10_method_32_code 97 = .ok (.lreturn, 1) := by decide +kernel
theorem jd_M_digest_0 : decode prog_10_method_31_code 0 = .ok (.aload_n 0, 1) := by decide +kernel
theorem jd_M_digest_1 : decode prog_10_method_31_code 1 = .ok (.iload_n 1, 1) := by decide +kernel
theorem jd_M_digest_2 : decode prog_10_method_31_code 2 = .ok (.invokevirtual 140, 3) := by decide +kernel
theorem jd_M_digest_5 : decode prog_10_method_31_code 5 = .ok (.aload_n 0, 1) := by decide +kernel
theorem jd_M_digest_6 : decode prog_10_method_31_code 6 = .ok (.getfield 92, 3) := by decide +kernel
theorem jd_M_digest_9 : decode prog_10_method_31_code 9 = .ok (.istore_n 2, 1) := by decide +kernel
theorem jd_M_digest_10 : decode prog_10_method_31_code 10 = .ok (.aload_n 0, 1) := by decide +kernel
theorem jd_M_digest_11 : decode prog_10_method_31_code 11 = .ok (.sipush 128, 3) := by decide +kernel
theorem jd_M_digest_14 : decode prog_10_method_31_code 14 = .ok (.invokevirtual 95, 3) := by decide +kernel
theorem jd_M_digest_17 : decode prog_10_method_31_code 17 = .ok (.aload_n 0, 1) := by decide +kernel
theorem jd_M_digest_18 : decode prog_10_method_31_code 18 = .ok (.getfield 92, 3) := by decide +kernel
theorem jd_M_digest_21 : decode prog_10_method_31_code 21 = .ok (.bipush 64, 2) := by decide +kernel
theorem jd_M_digest_23 : decode prog_10_method_31_code 23 = .ok (.irem, 1) := by decide +kernel
theorem jd_M_digest_24 : decode prog_10_method_31_code 24 = .ok (.bipush 56, 2) := by decide +kernel
theorem jd_M_digest_26 : decode prog_10_method_31_code 26 = .ok (.if_icmp .eq 11, 3) := by decide +kernel
theorem jd_M_digest_29 : decode prog_10_method_31_code 29 = .ok (.aload_n 0, 1) := by decide +kernel
theorem jd_M_digest_30 : decode prog_10_method_31_code 30 = .ok (.iconst 0, 1) := by decide +kernel
theorem jd_M_digest_31 : decode prog_10_method_31_code 31 = .ok (.invokevirtual 95, 3) := by decide +kernel
theorem jd_M_digest_34 : decode prog_10_method_31_code 34 = .ok (.goto (-17), 3) := by decide +kernel
theorem jd_M_digest_37 : decode prog_10_method_31_code 37 = .ok (.aload_n 0, 1) := by decide +kernel
theorem jd_M_digest_38 : decode prog_10_method_31_code 38 = .ok (.iconst 0, 1) := by decide +kernel
theorem jd_M_digest_39 : decode prog_10_method_31_code 39 = .ok (.invokevirtual 114, 3) := by decide +kernel
theorem jd_M_digest_42 : decode prog_10_method_31_code 42 = .ok (.aload_n 0, 1) := by decide +kernel
theorem jd_M_digest_43 : decode prog_10_method_31_code 43 = .ok (.bipush 8, 2) := by decide +kernel
theorem jd_M_digest_45 : decode prog_10_method_31_code 45 = .ok (.iload_n 2, 1) := by decide +kernel
theorem jd_M_digest_46 : decode prog_10_method_31_code 46 = .ok (.imul, 1) := by decide +kernel
theorem jd_M_digest_47 : decode prog_10_method_31_code 47 = .ok (.invokevirtual 114, 3) := by decide +kernel
theorem jd_M_digest_50 : decode prog_10_method_31_code 50 = .ok (.aload_n 0, 1) := by decide +kernel
theorem jd_M_digest_51 : decode prog_10_method_31_code 51 = .ok (.getfield 48, 3) := by decide +kernel
theorem jd_M_digest_54 : decode prog_10_method_31_code 54 = .ok (.iconst 0, 1) := by decide +kernel
theorem jd_M_digest_55 : decode prog_10_method_31_code 55 = .ok (.ldc 143, 2) := by decide +kernel
theorem jd_M_digest_57 : decode prog_10_method_31_code 57 = .ok (.iastore, 1) := by decide +kernel
theorem jd_M_digest_58 : decode prog_10_method_31_code 58 = .ok (.aload_n 0, 1) := by decide +kernel
theorem jd_M_digest_59 : decode prog_10_method_31_code 59 = .ok (.getfield 48, 3) := by decide +kernel
theorem jd_M_digest_62 : decode prog_10_method_31_code 62 = .ok (.iconst 1, 1) := by decide +kernel
theorem jd_M_digest_63 : decode prog_10_method_31_code 63 = .ok (.ldc 144, 2) := by decide +kernel
theorem jd_M_digest_65 : decode prog_10_method_31_code 65 = .ok (.iastore, 1) := by decide +kernel
theorem jd_M_digest_66 : decode prog_10_method_31_code 66 = .ok (.aload_n 0, 1) := by decide +kernel
theorem jd_M_digest_67 : decode prog_10_method_31_code 67 = .ok (.getfield 48, 3) := by decide +kernel
theorem jd_M_digest_70 : decode prog_10_method_31_code 70 = .ok (.iconst 2, 1) := by decide +kernel
theorem jd_M_digest_71 : decode prog_10_method_31_code 71 = .ok (.ldc 145, 2) := by decide +kernel
theorem jd_M_digest_73 : decode prog_10_method_31_code 73 = .ok (.iastore, 1) := by decide +kernel
theorem jd_M_digest_74 : decode prog_10_method_31_code 74 = .ok (.aload_n 0, 1) := by decide +kernel
theorem jd_M_digest_75 : decode prog_10_method_31_code 75 = .ok (.getfield 48, 3) := by decide +kernel
theorem jd_M_digest_78 : decode prog_10_method_31_code 78 = .ok (.iconst 3, 1) := by decide +kernel
theorem jd_M_digest_79 : decode prog_10_method_31_code 79 = .ok (.ldc 146, 2) := by decide +kernel
theorem jd_M_digest_81 : decode prog_10_method_31_code 81 = .ok (.iastore, 1) := by decide +kernel
theorem jd_M_digest_82 : decode prog_10_method_31_code 82 = .ok (.aload_n 0, 1) := by decide +kernel
theorem jd_M_digest_83 : decode prog_10_method_31_code 83 = .ok (.getfield 48, 3) := by decide +kernel
theorem jd_M_digest_86 : decode prog_10_method_31_code 86 = .ok (.iconst 4, 1) := by decide +kernel
theorem jd_M_digest_87 : decode prog_10_method_31_code 87 = .ok (.ldc 147, 2) := by decide +kernel
theorem jd_M_digest_89 : decode prog_10_method_31_code 89 = .ok (.iastore, 1) := by decide +kernel
theorem jd_M_digest_90 : decode prog_10_method_31_code 90 = .ok (.iconst 0, 1) := by decide +kernel
theorem jd_M_digest_91 : decode prog_10_method_31_code 91 = .ok (.istore_n 3, 1) := by decide +kernel
theorem jd_M_digest_92 : decode prog_10_method_31_code 92 = .ok (.iload_n 3, 1) := by decide +kernel
theorem jd_M_digest_93 : decode prog_10_method_31_code 93 = .ok (.aload_n 0, 1) := by decide +kernel
theorem jd_M_digest_94 : decode prog_10_method_31_code 94 = .ok (.getfield 92, 3) := by decide +kernel
theorem jd_M_digest_97 : decode prog_10_method_31_code 97 = .ok (.if_icmp .ge 14, 3) := by decide +kernel
theorem jd_M_digest_100 : decode prog_10_method_31_code 100 = .ok (.aload_n 0, 1) := by decide +kernel
theorem jd_M_digest_101 : decode prog_10_method_31_code 101 = .ok (.iload_n 3, 1) := by decide +kernel
theorem jd_M_digest_102 : decode prog_10_method_31_code 102 = .ok (.invokevirtual 148, 3) := by decide +kernel
theorem jd_M_digest_105 : decode prog_10_method_31_code 105 = .ok (.iinc 3 64, 3) := by decide +kernel
theorem jd_M_digest_108 : decode prog_10_method_31_code 108 = .ok (.goto (-16), 3) := by decide +kernel
theorem jd_M_digest_111 : decode prog_10_method_31_code 111 = .ok (.aload_n 0, 1) := by decide +kernel
theorem jd_M_digest_112 : decode prog_10_method_31_code 112 = .ok (.iload_n 2, 1) := by decide +kernel
theorem jd_M_digest_113 : decode prog_10_method_31_code 113 = .ok (.putfield 92, 3) := by decide +kernel
theorem jd_M_digest_116 : decode prog_10_method_31_code 116 = .ok (.return_, 1) := by decide +kernel
end
section
theorem jd_M_build_0 : decode prog_10_method_26_code 0 = .ok (.aload_n 0, 1) := by decide +kernel
theorem jd_M_build_1 : decode prog_10_method_26_code 1 = .ok (.iconst 0, 1) := by decide +kernel
theorem jd_M_build_2 : decode prog_10_method_26_code 2 = .ok (.putfield 92, 3) := by decide +kernel
theorem jd_M_build_5 : decode prog_10_method_26_code 5 = .ok (.aload_n 0, 1) := by decide +kernel
theorem jd_M_build_6 : decode prog_10_method_26_code 6 = .ok (.getfield 45, 3) := by decide +kernel
theorem jd_M_build_9 : decode prog_10_method_26_code 9 = .ok (.iconst 0, 1) := by decide +kernel
theorem jd_M_build_10 : decode prog_10_method_26_code 10 = .ok (.iconst 0, 1) := by decide +kernel
theorem jd_M_build_11 : decode prog_10_method_26_code 11 = .ok (.iastore, 1) := by decide +kernel
theorem jd_M_build_12 : decode prog_10_method_26_code 12 = .ok (.aload_n 0, 1) := by decide +kernel
theorem jd_M_build_13 : decode prog_10_method_26_code 13 = .ok (.iconst 2, 1) := by decide +kernel
theorem jd_M_build_14 : decode prog_10_method_26_code 14 = .ok (.iload_n 1, 1) := by decide +kernel
theorem jd_M_build_15 : decode prog_10_method_26_code 15 = .ok (.iadd, 1) := by decide +kernel
theorem jd_M_build_16 : decode prog_10_method_26_code 16 = .ok (.iconst 0, 1) := by decide +kernel
theorem jd_M_build_17 : decode prog_10_method_26_code 17 = .ok (.invokevirtual 110, 3) := by decide +kernel
theorem jd_M_build_20 : decode prog_10_method_26_code 20 = .ok (.aload_n 0, 1) := by decide +kernel
theorem jd_M_build_21 : decode prog_10_method_26_code 21 = .ok (.getfield 20, 3) := by decide +kernel
theorem jd_M_build_24 : decode prog_10_method_26_code 24 = .ok (.iload_n 1, 1) := by decide +kernel
theorem jd_M_build_25 : decode prog_10_method_26_code 25 = .ok (.iaload, 1) := by decide +kernel
theorem jd_M_build_26 : decode prog_10_method_26_code 26 = .ok (.sipush 1553, 3) := by decide +kernel
theorem jd_M_build_29 : decode prog_10_method_26_code 29 = .ok (.iand, 1) := by decide +kernel
theorem jd_M_build_30 : decode prog_10_method_26_code 30 = .ok (.istore_n 2, 1) := by decide +kernel
theorem jd_M_build_31 : decode prog_10_method_26_code 31 = .ok (.iload_n 2, 1) := by decide +kernel
theorem jd_M_build_32 : decode prog_10_method_26_code 32 = .ok (.sipush 512, 3) := by decide +kernel
theorem jd_M_build_35 : decode prog_10_method_26_code 35 = .ok (.iand, 1) := by decide +kernel
theorem jd_M_build_36 : decode prog_10_method_26_code 36 = .ok (.ifCond .eq 26, 3) := by decide +kernel
theorem jd_M_build_39 : decode prog_10_method_26_code 39 = .ok (.aload_n 0, 1) := by decide +kernel
theorem jd_M_build_40 : decode prog_10_method_26_code 40 = .ok (.iload_n 1, 1) := by decide +kernel
theorem jd_M_build_41 : decode prog_10_method_26_code 41 = .ok (.iconst 2, 1) := by decide +kernel
theorem jd_M_build_42 : decode prog_10_method_26_code 42 = .ok (.invokevirtual 117, 3) := by decide +kernel
theorem jd_M_build_45 : decode prog_10_method_26_code 45 = .ok (.ifCond .le 11, 3) := by decide +kernel
theorem jd_M_build_48 : decode prog_10_method_26_code 48 = .ok (.iload_n 2, 1) := by decide +kernel
theorem jd_M_build_49 : decode prog_10_method_26_code 49 = .ok (.sipush 1024, 3) := by decide +kernel
theorem jd_M_build_52 : decode prog_10_method_26_code 52 = .ok (.ior, 1) := by decide +kernel
theorem jd_M_build_53 : decode prog_10_method_26_code 53 = .ok (.goto 8, 3) := by decide +kernel
theorem jd_M_build_56 : decode prog_10_method_26_code 56 = .ok (.iload_n 2, 1) := by decide +kernel
theorem jd_M_build_57 : decode prog_10_method_26_code 57 = .ok (.sipush (-1025), 3) := by decide +kernel
theorem jd_M_build_60 : decode prog_10_method_26_code 60 = .ok (.iand, 1) := by decide +kernel
theorem jd_M_build_61 : decode prog_10_method_26_code 61 = .ok (.istore_n 2, 1) := by decide +kernel
theorem jd_M_build_62 : decode prog_10_method_26_code 62 = .ok (.aload_n 0, 1) := by decide +kernel
theorem jd_M_build_63 : decode prog_10_method_26_code 63 = .ok (.iload_n 2, 1) := by decide +kernel
theorem jd_M_build_64 : decode prog_10_method_26_code 64 = .ok (.invokevirtual 114, 3) := by decide +kernel
theorem jd_M_build_67 : decode prog_10_method_26_code 67 = .ok (.aload_n 0, 1) := by decide +kernel
theorem jd_M_build_68 : decode prog_10_method_26_code 68 = .ok (.getfield 45, 3) := by decide +kernel
theorem jd_M_build_71 : decode prog_10_method_26_code 71 = .ok (.iconst 1, 1) := by decide +kernel
theorem jd_M_build_72 : decode prog_10_method_26_code 72 = .ok (.aload_n 0, 1) := by decide +kernel
theorem jd_M_build_73 : decode prog_10_method_26_code 73 = .ok (.getfield 92, 3) := by decide +kernel
theorem jd_M_build_76 : decode prog_10_method_26_code 76 = .ok (.iastore, 1) := by decide +kernel
theorem jd_M_build_77 : decode prog_10_method_26_code 77 = .ok (.aload_n 0, 1) := by decide +kernel
theorem jd_M_build_78 : decode prog_10_method_26_code 78 = .ok (.iload_n 1, 1) := by decide +kernel
theorem jd_M_build_79 : decode prog_10_method_26_code 79 = .ok (.iconst (-1), 1) := by decide +kernel
theorem jd_M_build_80 : decode prog_10_method_26_code 80 = .ok (.invokevirtual 120, 3) := by decide +kernel
theorem jd_M_build_83 : decode prog_10_method_26_code 83 = .ok (.istore_n 3, 1) := by decide +kernel
theorem jd_M_build_84 : decode prog_10_method_26_code 84 = .ok (.iconst 0, 1) := by decide +kernel
theorem jd_M_build_85 : decode prog_10_method_26_code 85 = .ok (.istore 4, 2) := by decide +kernel
theorem jd_M_build_87 : decode prog_10_method_26_code 87 = .ok (.iload 4, 2) := by decide +kernel
theorem jd_M_build_89 : decode prog_10_method_26_code 89 = .ok (.iconst 4, 1) := by decide +kernel
theorem jd_M_build_90 : decode prog_10_method_26_code 90 = .ok (.if_icmp .ge 26, 3) := by decide +kernel
theorem jd_M_build_93 : decode prog_10_method_26_code 93 = .ok (.iload_n 3, 1) := by decide +kernel
theorem jd_M_build_94 : decode prog_10_method_26_code 94 = .ok (.ifCond .lt 22, 3) := by decide +kernel
theorem jd_M_build_97 : decode prog_10_method_26_code 97 = .ok (.aload_n 0, 1) := by decide +kernel
theorem jd_M_build_98 : decode prog_10_method_26_code 98 = .ok (.iload_n 3, 1) := by decide +kernel
theorem jd_M_build_99 : decode prog_10_method_26_code 99 = .ok (.iconst 0, 1) := by decide +kernel
theorem jd_M_build_100 : decode prog_10_method_26_code 100 = .ok (.invokevirtual 110, 3) := by decide +kernel
theorem jd_M_build_103 : decode prog_10_method_26_code 103 = .ok (.aload_n 0, 1) := by decide +kernel
theorem jd_M_build_104 : decode prog_10_method_26_code 104 = .ok (.iload_n 1, 1) := by decide +kernel
theorem jd_M_build_105 : decode prog_10_method_26_code 105 = .ok (.iload_n 3, 1) := by decide +kernel
theorem jd_M_build_106 : decode prog_10_method_26_code 106 = .ok (.invokevirtual 120, 3) := by decide +kernel
theorem jd_M_build_109 : decode prog_10_method_26_code 109 = .ok (.istore_n 3, 1) := by decide +kernel
theorem jd_M_build_110 : decode prog_10_method_26_code 110 = .ok (.iinc 4 1, 3) := by decide +kernel
theorem jd_M_build_113 : decode prog_10_method_26_code 113 = .ok (.goto (-26), 3) := by decide +kernel
theorem jd_M_build_116 : decode prog_10_method_26_code 116 = .ok (.aload_n 0, 1) := by decide +kernel
theorem jd_M_build_117 : decode prog_10_method_26_code 117 = .ok (.getfield 45, 3) := by decide +kernel
theorem jd_M_build_120 : decode prog_10_method_26_code 120 = .ok (.iconst 2, 1) := by decide +kernel
theorem jd_M_build_121 : decode prog_10_method_26_code 121 = .ok (.aload_n 0, 1) := by decide +kernel
theorem jd_M_build_122 : decode prog_10_method_26_code 122 = .ok (.getfield 92, 3) := by decide +kernel
theorem jd_M_build_125 : decode prog_10_method_26_code 125 = .ok (.iastore, 1) := by decide +kernel
theorem jd_M_build_126 : decode prog_10_method_26_code 126 = .ok (.aload_n 0, 1) := by decide +kernel
theorem jd_M_build_127 : decode prog_10_method_26_code 127 = .ok (.iload_n 1, 1) := by decide +kernel
theorem jd_M_build_128 : decode prog_10_method_26_code 128 = .ok (.iconst 0, 1) := by decide +kernel
theorem jd_M_build_129 : decode prog_10_method_26_code 129 = .ok (.invokevirtual 123, 3) := by decide +kernel
theorem jd_M_build_132 : decode prog_10_method_26_code 132 = .ok (.aload_n 0, 1) := by decide +kernel
theorem jd_M_build_133 : decode prog_10_method_26_code 133 = .ok (.getfield 45, 3) := by decide +kernel
theorem jd_M_build_136 : decode prog_10_method_26_code 136 = .ok (.iconst 3, 1) := by decide +kernel
theorem jd_M_build_137 : decode prog_10_method_26_code 137 = .ok (.aload_n 0, 1) := by decide +kernel
theorem jd_M_build_138 : decode prog_10_method_26_code 138 = .ok (.getfield 92, 3) := by decide +kernel
theorem jd_M_build_141 : decode prog_10_method_26_code 141 = .ok (.iastore, 1) := by decide +kernel
theorem jd_M_build_142 : decode prog_10_method_26_code 142 = .ok (.aload_n 0, 1) := by decide +kernel
theorem jd_M_build_143 : decode prog_10_method_26_code 143 = .ok (.iload_n 1, 1) := by decide +kernel
theorem jd_M_build_144 : decode prog_10_method_26_code 144 = .ok (.iconst 3, 1) := by decide +kernel
theorem jd_M_build_145 : decode prog_10_method_26_code 145 = .ok (.invokevirtual 117, 3) := by decide +kernel
theorem jd_M_build_148 : decode prog_10_method_26_code 148 = .ok (.ifCond .le 42, 3) := by decide +kernel
theorem jd_M_build_151 : decode prog_10_method_26_code 151 = .ok (.aload_n 0, 1) := by decide +kernel
theorem jd_M_build_152 : decode prog_10_method_26_code 152 = .ok (.iconst 1, 1) := by decide +kernel
theorem jd_M_build_153 : decode prog_10_method_26_code 153 = .ok (.invokevirtual 106, 3) := by decide +kernel
theorem jd_M_build_156 : decode prog_10_method_26_code 156 = .ok (.aload_n 0, 1) := by decide +kernel
theorem jd_M_build_157 : decode prog_10_method_26_code 157 = .ok (.bipush 8, 2) := by decide +kernel
theorem jd_M_build_159 : decode prog_10_method_26_code 159 = .ok (.invokevirtual 114, 3) := by decide +kernel
theorem jd_M_build_162 : decode prog_10_method_26_code 162 = .ok (.aload_n 0, 1) := by decide +kernel
theorem jd_M_build_163 : decode prog_10_method_26_code 163 = .ok (.iconst 0, 1) := by decide +kernel
theorem jd_M_build_164 : decode prog_10_method_26_code 164 = .ok (.invokevirtual 95, 3) := by decide +kernel
theorem jd_M_build_167 : decode prog_10_method_26_code 167 = .ok (.aload_n 0, 1) := by decide +kernel
theorem jd_M_build_168 : decode prog_10_method_26_code 168 = .ok (.iconst 3, 1) := by decide +kernel
theorem jd_M_build_169 : decode prog_10_method_26_code 169 = .ok (.invokevirtual 95, 3) := by decide +kernel
theorem jd_M_build_172 : decode prog_10_method_26_code 172 = .ok (.aload_n 0, 1) := by decide +kernel
theorem jd_M_build_173 : decode prog_10_method_26_code 173 = .ok (.bipush 40, 2) := by decide +kernel
theorem jd_M_build_175 : decode prog_10_method_26_code 175 = .ok (.invokevirtual 95, 3) := by decide +kernel
theorem jd_M_build_178 : decode prog_10_method_26_code 178 = .ok (.aload_n 0, 1) := by decide +kernel
theorem jd_M_build_179 : decode prog_10_method_26_code 179 = .ok (.bipush 41, 2) := by decide +kernel
theorem jd_M_build_181 : decode prog_10_method_26_code 181 = .ok (.invokevirtual 95, 3) := by decide +kernel
theorem jd_M_build_184 : decode prog_10_method_26_code 184 = .ok (.aload_n 0, 1) := by decide +kernel
theorem jd_M_build_185 : decode prog_10_method_26_code 185 = .ok (.bipush 86, 2) := by decide +kernel
theorem jd_M_build_187 : decode prog_10_method_26_code 187 = .ok (.invokevirtual 95, 3) := by decide +kernel
theorem jd_M_build_190 : decode prog_10_method_26_code 190 = .ok (.aload_n 0, 1) := by decide +kernel
theorem jd_M_build_191 : decode prog_10_method_26_code 191 = .ok (.getfield 45, 3) := by decide +kernel
theorem jd_M_build_194 : decode prog_10_method_26_code 194 = .ok (.iconst 4, 1) := by decide +kernel
theorem jd_M_build_195 : decode prog_10_method_26_code 195 = .ok (.aload_n 0, 1) := by decide +kernel
theorem jd_M_build_196 : decode prog_10_method_26_code 196 = .ok (.getfield 92, 3) := by decide +kernel
theorem jd_M_build_199 : decode prog_10_method_26_code 199 = .ok (.iastore, 1) := by decide +kernel
theorem jd_M_build_200 : decode prog_10_method_26_code 200 = .ok (.aload_n 0, 1) := by decide +kernel
theorem jd_M_build_201 : decode prog_10_method_26_code 201 = .ok (.iload_n 1, 1) := by decide +kernel
theorem jd_M_build_202 : decode prog_10_method_26_code 202 = .ok (.iconst 1, 1) := by decide +kernel
theorem jd_M_build_203 : decode prog_10_method_26_code 203 = .ok (.invokevirtual 123, 3) := by decide +kernel
theorem jd_M_build_206 : decode prog_10_method_26_code 206 = .ok (.aload_n 0, 1) := by decide +kernel
theorem jd_M_build_207 : decode prog_10_method_26_code 207 = .ok (.getfield 45, 3) := by decide +kernel
theorem jd_M_build_210 : decode prog_10_method_26_code 210 = .ok (.iconst 5, 1) := by decide +kernel
theorem jd_M_build_211 : decode prog_10_method_26_code 211 = .ok (.aload_n 0, 1) := by decide +kernel
theorem jd_M_build_212 : decode prog_10_method_26_code 212 = .ok (.getfield 92, 3) := by decide +kernel
theorem jd_M_build_215 : decode prog_10_method_26_code 215 = .ok (.iastore, 1) := by decide +kernel
theorem jd_M_build_216 : decode prog_10_method_26_code 216 = .ok (.aload_n 0, 1) := by decide +kernel
theorem jd_M_build_217 : decode prog_10_method_26_code 217 = .ok (.iload_n 1, 1) := by decide +kernel
theorem jd_M_build_218 : decode prog_10_method_26_code 218 = .ok (.iconst 2, 1) := by decide +kernel
theorem jd_M_build_219 : decode prog_10_method_26_code 219 = .ok (.invokevirtual 123, 3) := by decide +kernel
theorem jd_M_build_222 : decode prog_10_method_26_code 222 = .ok (.return_, 1) := by decide +kernel
theorem jd_M_utf_0 : decode prog_10_method_19_code 0 = .ok (.aload_n 0, 1) := by decide +kernel
theorem jd_M_utf_1 : decode prog_10_method_19_code 1 = .ok (.iconst 0, 1) := by decide +kernel
theorem jd_M_utf_2 : decode prog_10_method_19_code 2 = .ok (.invokevirtual 95, 3) := by decide +kernel
theorem jd_M_utf_5 : decode prog_10_method_19_code 5 = .ok (.aload_n 0, 1) := by decide +kernel
theorem jd_M_utf_6 : decode prog_10_method_19_code 6 = .ok (.aload_n 0, 1) := by decide +kernel
theorem jd_M_utf_7 : decode prog_10_method_19_code 7 = .ok (.getfield 13, 3) := by decide +kernel
theorem jd_M_utf_10 : decode prog_10_method_19_code 10 = .ok (.iload_n 1, 1) := by decide +kernel
theorem jd_M_utf_11 : decode prog_10_method_19_code 11 = .ok (.iaload, 1) := by decide +kernel
theorem jd_M_utf_12 : decode prog_10_method_19_code 12 = .ok (.invokevirtual 95, 3) := by decide +kernel
theorem jd_M_utf_15 : decode prog_10_method_19_code 15 = .ok (.iconst 0, 1) := by decide +kernel
theorem jd_M_utf_16 : decode prog_10_method_19_code 16 = .ok (.istore_n 3, 1) := by decide +kernel
theorem jd_M_utf_17 : decode prog_10_method_19_code 17 = .ok (.iload_n 3, 1) := by decide +kernel
theorem jd_M_utf_18 : decode prog_10_method_19_code 18 = .ok (.aload_n 0, 1) := by decide +kernel
theorem jd_M_utf_19 : decode prog_10_method_19_code 19 = .ok (.getfield 13, 3) := by decide +kernel
theorem jd_M_utf_22 : decode prog_10_method_19_code 22 = .ok (.iload_n 1, 1) := by decide +kernel
theorem jd_M_utf_23 : decode prog_10_method_19_code 23 = .ok (.iaload, 1) := by decide +kernel
theorem jd_M_utf_24 : decode prog_10_method_19_code 24 = .ok (.if_icmp .ge 44, 3) := by decide +kernel
theorem jd_M_utf_27 : decode prog_10_method_19_code 27 = .ok (.aload_n 0, 1) := by decide +kernel
theorem jd_M_utf_28 : decode prog_10_method_19_code 28 = .ok (.getfield 7, 3) := by decide +kernel
theorem jd_M_utf_31 : decode prog_10_method_19_code 31 = .ok (.bipush 24, 2) := by decide +kernel
theorem jd_M_utf_33 : decode prog_10_method_19_code 33 = .ok (.iload_n 1, 1) := by decide +kernel
theorem jd_M_utf_34 : decode prog_10_method_19_code 34 = .ok (.imul, 1) := by decide +kernel
theorem jd_M_utf_35 : decode prog_10_method_19_code 35 = .ok (.iload_n 3, 1) := by decide +kernel
theorem jd_M_utf_36 : decode prog_10_method_19_code 36 = .ok (.iadd, 1) := by decide +kernel
theorem jd_M_utf_37 : decode prog_10_method_19_code 37 = .ok (.iaload, 1) := by decide +kernel
theorem jd_M_utf_38 : decode prog_10_method_19_code 38 = .ok (.istore 4, 2) := by decide +kernel
theorem jd_M_utf_40 : decode prog_10_method_19_code 40 = .ok (.aload_n 0, 1) := by decide +kernel
theorem jd_M_utf_41 : decode prog_10_method_19_code 41 = .ok (.iload_n 2, 1) := by decide +kernel
theorem jd_M_utf_42 : decode prog_10_method_19_code 42 = .ok (.ifCond .eq 15, 3) := by decide +kernel
theorem jd_M_utf_45 : decode prog_10_method_19_code 45 = .ok (.iload 4, 2) := by decide +kernel
theorem jd_M_utf_47 : decode prog_10_method_19_code 47 = .ok (.bipush 47, 2) := by decide +kernel
theorem jd_M_utf_49 : decode prog_10_method_19_code 49 = .ok (.if_icmp .ne 8, 3) := by decide +kernel
theorem jd_M_utf_52 : decode prog_10_method_19_code 52 = .ok (.bipush 46, 2) := by decide +kernel
theorem jd_M_utf_54 : decode prog_10_method_19_code 54 = .ok (.goto 5, 3) := by decide +kernel
theorem jd_M_utf_57 : decode prog_10_method_19_code 57 = .ok (.iload 4, 2) := by decide +kernel
theorem jd_M_utf_59 : decode prog_10_method_19_code 59 = .ok (.invokevirtual 95, 3) := by decide +kernel
theorem jd_M_utf_62 : decode prog_10_method_19_code 62 = .ok (.iinc 3 1, 3) := by decide +kernel
theorem jd_M_utf_65 : decode prog_10_method_19_code 65 = .ok (.goto (-48), 3) := by decide +kernel
theorem jd_M_utf_68 : decode prog_10_method_19_code 68 = .ok (.return_, 1) := by decide +kernel
theorem jd_M_put_0 : decode prog_10_method_17_code 0 = .ok (.aload_n 0, 1) := by decide +kernel
theorem jd_M_put_1 : decode prog_10_method_17_code 1 = .ok (.getfield 42, 3) := by decide +kernel
theorem jd_M_put_4 : decode prog_10_method_17_code 4 = .ok (.aload_n 0, 1) := by decide +kernel
theorem jd_M_put_5 : decode prog_10_method_17_code 5 = .ok (.getfield 92, 3) := by decide +kernel
theorem jd_M_put_8 : decode prog_10_method_17_code 8 = .ok (.iload_n 1, 1) := by decide +kernel
theorem jd_M_put_9 : decode prog_10_method_17_code 9 = .ok (.sipush 255, 3) := by decide +kernel
theorem jd_M_put_12 : decode prog_10_method_17_code 12 = .ok (.iand, 1) := by decide +kernel
theorem jd_M_put_13 : decode prog_10_method_17_code 13 = .ok (.iastore, 1) := by decide +kernel
theorem jd_M_put_14 : decode prog_10_method_17_code 14 = .ok (.aload_n 0, 1) := by decide +kernel
theorem jd_M_put_15 : decode prog_10_method_17_code 15 = .ok (.dup, 1) := by decide +kernel
theorem jd_M_put_16 : decode prog_10_method_17_code 16 = .ok (.getfield 92, 3) := by decide +kernel
theorem jd_M_put_19 : decode prog_10_method_17_code 19 = .ok (.iconst 1, 1) := by decide +kernel
theorem jd_M_put_20 : decode prog_10_method_17_code 20 = .ok (.iadd, 1) := by decide +kernel
theorem jd_M_put_21 : decode prog_10_method_17_code 21 = .ok (.putfield 92, 3) := by decide +kernel
theorem jd_M_put_24 : decode prog_10_method_17_code 24 = .ok (.return_, 1) := by decide +kernel
theorem jd_M_counted_0 : decode prog_10_method_24_code 0 = .ok (.iconst 0, 1) := by decide +kernel
theorem jd_M_counted_1 : decode prog_10_method_24_code 1 = .ok (.istore_n 3, 1) := by decide +kernel
theorem jd_M_counted_2 : decode prog_10_method_24_code 2 = .ok (.bipush 10, 2) := by decide +kernel
theorem jd_M_counted_4 : decode prog_10_method_24_code 4 = .ok (.iload_n 1, 1) := by decide +kernel
theorem jd_M_counted_5 : decode prog_10_method_24_code 5 = .ok (.imul, 1) := by decide +kernel
theorem jd_M_counted_6 : decode prog_10_method_24_code 6 = .ok (.istore 4, 2) := by decide +kernel
theorem jd_M_counted_8 : decode prog_10_method_24_code 8 = .ok (.iload 4, 2) := by decide +kernel
theorem jd_M_counted_10 : decode prog_10_method_24_code 10 = .ok (.bipush 10, 2) := by decide +kernel
theorem jd_M_counted_12 : decode prog_10_method_24_code 12 = .ok (.iload_n 1, 1) := by decide +kernel
theorem jd_M_counted_13 : decode prog_10_method_24_code 13 = .ok (.imul, 1) := by decide +kernel
theorem jd_M_counted_14 : decode prog_10_method_24_code 14 = .ok (.aload_n 0, 1) := by decide +kernel
theorem jd_M_counted_15 : decode prog_10_method_24_code 15 = .ok (.getfield 26, 3) := by decide +kernel
theorem jd_M_counted_18 : decode prog_10_method_24_code 18 = .ok (.iload_n 1, 1) := by decide +kernel
theorem jd_M_counted_19 : decode prog_10_method_24_code 19 = .ok (.iaload, 1) := by decide +kernel
theorem jd_M_counted_20 : decode prog_10_method_24_code 20 = .ok (.iadd, 1) := by decide +kernel
theorem jd_M_counted_21 : decode prog_10_method_24_code 21 = .ok (.if_icmp .ge 28, 3) := by decide +kernel
theorem jd_M_counted_24 : decode prog_10_method_24_code 24 = .ok (.iload_n 3, 1) := by decide +kernel
theorem jd_M_counted_25 : decode prog_10_method_24_code 25 = .ok (.aload_n 0, 1) := by decide +kernel
theorem jd_M_counted_26 : decode prog_10_method_24_code 26 = .ok (.getfield 36, 3) := by decide +kernel
theorem jd_M_counted_29 : decode prog_10_method_24_code 29 = .ok (.iload 4, 2) := by decide +kernel
theorem jd_M_counted_31 : decode prog_10_method_24_code 31 = .ok (.iaload, 1) := by decide +kernel
theorem jd_M_counted_32 : decode prog_10_method_24_code 32 = .ok (.iload_n 2, 1) := by decide +kernel
theorem jd_M_counted_33 : decode prog_10_method_24_code 33 = .ok (.if_icmp .ne 7, 3) := by decide +kernel
theorem jd_M_counted_36 : decode prog_10_method_24_code 36 = .ok (.iconst 1, 1) := by decide +kernel
theorem jd_M_counted_37 : decode prog_10_method_24_code 37 = .ok (.goto 4, 3) := by decide +kernel
theorem jd_M_counted_40 : decode prog_10_method_24_code 40 = .ok (.iconst 0, 1) := by decide +kernel
theorem jd_M_counted_41 : decode prog_10_method_24_code 41 = .ok (.iadd, 1) := by decide +kernel
theorem jd_M_counted_42 : decode prog_10_method_24_code 42 = .ok (.istore_n 3, 1) := by decide +kernel
theorem jd_M_counted_43 : decode prog_10_method_24_code 43 = .ok (.iinc 4 1, 3) := by decide +kernel
theorem jd_M_counted_46 : decode prog_10_method_24_code 46 = .ok (.goto (-38), 3) := by decide +kernel
theorem jd_M_counted_49 : decode prog_10_method_24_code 49 = .ok (.iload_n 3, 1) := by decide +kernel
theorem jd_M_counted_50 : decode prog_10_method_24_code 50 = .ok (.ireturn, 1) := by decide +kernel
theorem jd_M_number_0 : decode prog_10_method_18_code 0 = .ok (.bipush 24, 2) := by decide +kernel
theorem jd_M_number_2 : decode prog_10_method_18_code 2 = .ok (.istore_n 2, 1) := by decide +kernel
theorem jd_M_number_3 : decode prog_10_method_18_code 3 = .ok (.iload_n 2, 1) := by decide +kernel
theorem jd_M_number_4 : decode prog_10_method_18_code 4 = .ok (.ifCond .lt 16, 3) := by decide +kernel
theorem jd_M_number_7 : decode prog_10_method_18_code 7 = .ok (.aload_n 0, 1) := by decide +kernel
theorem jd_M_number_8 : decode prog_10_method_18_code 8 = .ok (.iload_n 1, 1) := by decide +kernel
theorem jd_M_number_9 : decode prog_10_method_18_code 9 = .ok (.iload_n 2, 1) := by decide +kernel
theorem jd_M_number_10 : decode prog_10_method_18_code 10 = .ok (.ishr, 1) := by decide +kernel
theorem jd_M_number_11 : decode prog_10_method_18_code 11 = .ok (.invokevirtual 95, 3) := by decide +kernel
theorem jd_M_number_14 : decode prog_10_method_18_code 14 = .ok (.iinc 2 (-8), 3) := by decide +kernel
theorem jd_M_number_17 : decode prog_10_method_18_code 17 = .ok (.goto (-14), 3) := by decide +kernel
theorem jd_M_number_20 : decode prog_10_method_18_code 20 = .ok (.return_, 1) := by decide +kernel
theorem jd_M_nextFace_0 : decode prog_10_method_23_code 0 = .ok (.iconst (-1), 1) := by decide +kernel
theorem jd_M_nextFace_1 : decode prog_10_method_23_code 1 = .ok (.istore_n 3, 1) := by decide +kernel
theorem jd_M_nextFace_2 : decode prog_10_method_23_code 2 = .ok (.bipush 6, 2) := by decide +kernel
theorem jd_M_nextFace_4 : decode prog_10_method_23_code 4 = .ok (.iconst 4, 1) := by decide +kernel
theorem jd_M_nextFace_5 : decode prog_10_method_23_code 5 = .ok (.iload_n 1, 1) := by decide +kernel
theorem jd_M_nextFace_6 : decode prog_10_method_23_code 6 = .ok (.imul, 1) := by decide +kernel
theorem jd_M_nextFace_7 : decode prog_10_method_23_code 7 = .ok (.iadd, 1) := by decide +kernel
theorem jd_M_nextFace_8 : decode prog_10_method_23_code 8 = .ok (.istore 4, 2) := by decide +kernel
theorem jd_M_nextFace_10 : decode prog_10_method_23_code 10 = .ok (.iload 4, 2) := by decide +kernel
theorem jd_M_nextFace_12 : decode prog_10_method_23_code 12 = .ok (.bipush 6, 2) := by decide +kernel
theorem jd_M_nextFace_14 : decode prog_10_method_23_code 14 = .ok (.iconst 4, 1) := by decide +kernel
theorem jd_M_nextFace_15 : decode prog_10_method_23_code 15 = .ok (.iload_n 1, 1) := by decide +kernel
theorem jd_M_nextFace_16 : decode prog_10_method_23_code 16 = .ok (.imul, 1) := by decide +kernel
theorem jd_M_nextFace_17 : decode prog_10_method_23_code 17 = .ok (.iadd, 1) := by decide +kernel
theorem jd_M_nextFace_18 : decode prog_10_method_23_code 18 = .ok (.aload_n 0, 1) := by decide +kernel
theorem jd_M_nextFace_19 : decode prog_10_method_23_code 19 = .ok (.getfield 23, 3) := by decide +kernel
theorem jd_M_nextFace_22 : decode prog_10_method_23_code 22 = .ok (.iload_n 1, 1) := by decide +kernel
theorem jd_M_nextFace_23 : decode prog_10_method_23_code 23 = .ok (.iaload, 1) := by decide +kernel
theorem jd_M_nextFace_24 : decode prog_10_method_23_code 24 = .ok (.iadd, 1) := by decide +kernel
theorem jd_M_nextFace_25 : decode prog_10_method_23_code 25 = .ok (.if_icmp .ge 43, 3) := by decide +kernel
theorem jd_M_nextFace_28 : decode prog_10_method_23_code 28 = .ok (.iload_n 2, 1) := by decide +kernel
theorem jd_M_nextFace_29 : decode prog_10_method_23_code 29 = .ok (.ifCond .lt 16, 3) := by decide +kernel
theorem jd_M_nextFace_32 : decode prog_10_method_23_code 32 = .ok (.aload_n 0, 1) := by decide +kernel
theorem jd_M_nextFace_33 : decode prog_10_method_23_code 33 = .ok (.iload 4, 2) := by decide +kernel
theorem jd_M_nextFace_35 : decode prog_10_method_23_code 35 = .ok (.iload_n 2, 1) := by decide +kernel
theorem jd_M_nextFace_36 : decode prog_10_method_23_code 36 = .ok (.invokevirtual 82, 3) := by decide +kernel
theorem jd_M_nextFace_39 : decode prog_10_method_23_code 39 = .ok (.ifCond .gt 6, 3) := by decide +kernel
theorem jd_M_nextFace_42 : decode prog_10_method_23_code 42 = .ok (.goto 20, 3) := by decide +kernel
theorem jd_M_nextFace_45 : decode prog_10_method_23_code 45 = .ok (.iload_n 3, 1) := by decide +kernel
theorem jd_M_nextFace_46 : decode prog_10_method_23_code 46 = .ok (.ifCond .lt 13, 3) := by decide +kernel
theorem jd_M_nextFace_49 : decode prog_10_method_23_code 49 = .ok (.aload_n 0, 1) := by decide +kernel
theorem jd_M_nextFace_50 : decode prog_10_method_23_code 50 = .ok (.iload 4, 2) := by decide +kernel
theorem jd_M_nextFace_52 : decode prog_10_method_23_code 52 = .ok (.iload_n 3, 1) := by decide +kernel
theorem jd_M_nextFace_53 : decode prog_10_method_23_code 53 = .ok (.invokevirtual 82, 3) := by decide +kernel
theorem jd_M_nextFace_56 : decode prog_10_method_23_code 56 = .ok (.ifCond .ge 6, 3) := by decide +kernel
theorem jd_M_nextFace_59 : decode prog_10_method_23_code 59 = .ok (.iload 4, 2) := by decide +kernel
theorem jd_M_nextFace_61 : decode prog_10_method_23_code 61 = .ok (.istore_n 3, 1) := by decide +kernel
theorem jd_M_nextFace_62 : decode prog_10_method_23_code 62 = .ok (.iinc 4 1, 3) := by decide +kernel
theorem jd_M_nextFace_65 : decode prog_10_method_23_code 65 = .ok (.goto (-55), 3) := by decide +kernel
theorem jd_M_nextFace_68 : decode prog_10_method_23_code 68 = .ok (.iload_n 3, 1) := by decide +kernel
theorem jd_M_nextFace_69 : decode prog_10_method_23_code 69 = .ok (.ireturn, 1) := by decide +kernel
theorem jd_M_writeMembers_0 : decode prog_10_method_25_code 0 = .ok (.aload_n 0, 1) := by decide +kernel
theorem jd_M_writeMembers_1 : decode prog_10_method_25_code 1 = .ok (.iload_n 1, 1) := by decide +kernel
theorem jd_M_writeMembers_2 : decode prog_10_method_25_code 2 = .ok (.iload_n 2, 1) := by decide +kernel
theorem jd_M_writeMembers_3 : decode prog_10_method_25_code 3 = .ok (.iconst (-1), 1) := by decide +kernel
theorem jd_M_writeMembers_4 : decode prog_10_method_25_code 4 = .ok (.invokevirtual 103, 3) := by decide +kernel
theorem jd_M_writeMembers_7 : decode prog_10_method_25_code 7 = .ok (.istore_n 3, 1) := by decide +kernel
theorem jd_M_writeMembers_8 : decode prog_10_method_25_code 8 = .ok (.iconst 0, 1) := by decide +kernel
theorem jd_M_writeMembers_9 : decode prog_10_method_25_code 9 = .ok (.istore 4, 2) := by decide +kernel
theorem jd_M_writeMembers_11 : decode prog_10_method_25_code 11 = .ok (.iload 4, 2) := by decide +kernel
theorem jd_M_writeMembers_13 : decode prog_10_method_25_code 13 = .ok (.bipush 10, 2) := by decide +kernel
theorem jd_M_writeMembers_15 : decode prog_10_method_25_code 15 = .ok (.if_icmp .ge 124, 3) := by decide +kernel
theorem jd_M_writeMembers_18 : decode prog_10_method_25_code 18 = .ok (.iload_n 3, 1) := by decide +kernel
theorem jd_M_writeMembers_19 : decode prog_10_method_25_code 19 = .ok (.ifCond .lt 120, 3) := by decide +kernel
theorem jd_M_writeMembers_22 : decode prog_10_method_25_code 22 = .ok (.aload_n 0, 1) := by decide +kernel
theorem jd_M_writeMembers_23 : decode prog_10_method_25_code 23 = .ok (.getfield 39, 3) := by decide +kernel
theorem jd_M_writeMembers_26 : decode prog_10_method_25_code 26 = .ok (.iload_n 3, 1) := by decide +kernel
theorem jd_M_writeMembers_27 : decode prog_10_method_25_code 27 = .ok (.iaload, 1) := by decide +kernel
theorem jd_M_writeMembers_28 : decode prog_10_method_25_code 28 = .ok (.iconst 2, 1) := by decide +kernel
theorem jd_M_writeMembers_29 : decode prog_10_method_25_code 29 = .ok (.iand, 1) := by decide +kernel
theorem jd_M_writeMembers_30 : decode prog_10_method_25_code 30 = .ok (.ifCond .eq 24, 3) := by decide +kernel
theorem jd_M_writeMembers_33 : decode prog_10_method_25_code 33 = .ok (.iload_n 2, 1) := by decide +kernel
theorem jd_M_writeMembers_34 : decode prog_10_method_25_code 34 = .ok (.ifCond .gt 16, 3) := by decide +kernel
theorem jd_M_writeMembers_37 : decode prog_10_method_25_code 37 = .ok (.aload_n 0, 1) := by decide +kernel
theorem jd_M_writeMembers_38 : decode prog_10_method_25_code 38 = .ok (.getfield 39, 3) := by decide +kernel
theorem jd_M_writeMembers_41 : decode prog_10_method_25_code 41 = .ok (.iload_n 3, 1) := by decide +kernel
theorem jd_M_writeMembers_42 : decode prog_10_method_25_code 42 = .ok (.iaload, 1) := by decide +kernel
theorem jd_M_writeMembers_43 : decode prog_10_method_25_code 43 = .ok (.sipush 136, 3) := by decide +kernel
theorem jd_M_writeMembers_46 : decode prog_10_method_25_code 46 = .ok (.iand, 1) := by decide +kernel
theorem jd_M_writeMembers_47 : decode prog_10_method_25_code 47 = .ok (.ifCond .eq 7, 3) := by decide +kernel
theorem jd_M_writeMembers_50 : decode prog_10_method_25_code 50 = .ok (.iconst 1, 1) := by decide +kernel
theorem jd_M_writeMembers_51 : decode prog_10_method_25_code 51 = .ok (.goto 4, 3) := by decide +kernel
theorem jd_M_writeMembers_54 : decode prog_10_method_25_code 54 = .ok (.iconst 0, 1) := by decide +kernel
theorem jd_M_writeMembers_55 : decode prog_10_method_25_code 55 = .ok (.istore 5, 2) := by decide +kernel
theorem jd_M_writeMembers_57 : decode prog_10_method_25_code 57 = .ok (.iload 5, 2) := by decide +kernel
theorem jd_M_writeMembers_59 : decode prog_10_method_25_code 59 = .ok (.ifCond .ne 66, 3) := by decide +kernel
theorem jd_M_writeMembers_62 : decode prog_10_method_25_code 62 = .ok (.iload_n 2, 1) := by decide +kernel
theorem jd_M_writeMembers_63 : decode prog_10_method_25_code 63 = .ok (.iconst 1, 1) := by decide +kernel
theorem jd_M_writeMembers_64 : decode prog_10_method_25_code 64 = .ok (.if_icmp .ne 11, 3) := by decide +kernel
theorem jd_M_writeMembers_67 : decode prog_10_method_25_code 67 = .ok (.aload_n 0, 1) := by decide +kernel
theorem jd_M_writeMembers_68 : decode prog_10_method_25_code 68 = .ok (.iconst 0, 1) := by decide +kernel
theorem jd_M_writeMembers_69 : decode prog_10_method_25_code 69 = .ok (.invokevirtual 106, 3) := by decide +kernel
theorem jd_M_writeMembers_72 : decode prog_10_method_25_code 72 = .ok (.goto 12, 3) := by decide +kernel
theorem jd_M_writeMembers_75 : decode prog_10_method_25_code 75 = .ok (.aload_n 0, 1) := by decide +kernel
theorem jd_M_writeMembers_76 : decode prog_10_method_25_code 76 = .ok (.bipush 22, 2) := by decide +kernel
theorem jd_M_writeMembers_78 : decode prog_10_method_25_code 78 = .ok (.iload_n 3, 1) := by decide +kernel
theorem jd_M_writeMembers_79 : decode prog_10_method_25_code 79 = .ok (.iadd, 1) := by decide +kernel
theorem jd_M_writeMembers_80 : decode prog_10_method_25_code 80 = .ok (.iconst 0, 1) := by decide +kernel
theorem jd_M_writeMembers_81 : decode prog_10_method_25_code 81 = .ok (.invokevirtual 110, 3) := by decide +kernel
theorem jd_M_writeMembers_84 : decode prog_10_method_25_code 84 = .ok (.aload_n 0, 1) := by decide +kernel
theorem jd_M_writeMembers_85 : decode prog_10_method_25_code 85 = .ok (.aload_n 0, 1) := by decide +kernel
theorem jd_M_writeMembers_86 : decode prog_10_method_25_code 86 = .ok (.getfield 39, 3) := by decide +kernel
theorem jd_M_writeMembers_89 : decode prog_10_method_25_code 89 = .ok (.iload_n 3, 1) := by decide +kernel
theorem jd_M_writeMembers_90 : decode prog_10_method_25_code 90 = .ok (.iaload, 1) := by decide +kernel
theorem jd_M_writeMembers_91 : decode prog_10_method_25_code 91 = .ok (.iload_n 2, 1) := by decide +kernel
theorem jd_M_writeMembers_92 : decode prog_10_method_25_code 92 = .ok (.ifCond .ne 9, 3) := by decide +kernel
theorem jd_M_writeMembers_95 : decode prog_10_method_25_code 95 = .ok (.sipush 223, 3) := by decide +kernel
theorem jd_M_writeMembers_98 : decode prog_10_method_25_code 98 = .ok (.goto 6, 3) := by decide +kernel
theorem jd_M_writeMembers_101 : decode prog_10_method_25_code 101 = .ok (.sipush 3391, 3) := by decide +kernel
theorem jd_M_writeMembers_104 : decode prog_10_method_25_code 104 = .ok (.iand, 1) := by decide +kernel
theorem jd_M_writeMembers_105 : decode prog_10_method_25_code 105 = .ok (.invokevirtual 114, 3) := by decide +kernel
theorem jd_M_writeMembers_108 : decode prog_10_method_25_code 108 = .ok (.aload_n 0, 1) := by decide +kernel
theorem jd_M_writeMembers_109 : decode prog_10_method_25_code 109 = .ok (.bipush 62, 2) := by decide +kernel
theorem jd_M_writeMembers_111 : decode prog_10_method_25_code 111 = .ok (.iload_n 3, 1) := by decide +kernel
theorem jd_M_writeMembers_112 : decode prog_10_method_25_code 112 = .ok (.iadd, 1) := by decide +kernel
theorem jd_M_writeMembers_113 : decode prog_10_method_25_code 113 = .ok (.iload_n 2, 1) := by decide +kernel
theorem jd_M_writeMembers_114 : decode prog_10_method_25_code 114 = .ok (.ifCond .le 7, 3) := by decide +kernel
theorem jd_M_writeMembers_117 : decode prog_10_method_25_code 117 = .ok (.iconst 1, 1) := by decide +kernel
theorem jd_M_writeMembers_118 : decode prog_10_method_25_code 118 = .ok (.goto 4, 3) := by decide +kernel
theorem jd_M_writeMembers_121 : decode prog_10_method_25_code 121 = .ok (.iconst 0, 1) := by decide +kernel
theorem jd_M_writeMembers_122 : decode prog_10_method_25_code 122 = .ok (.invokevirtual 110, 3) := by decide +kernel
theorem jd_M_writeMembers_125 : decode prog_10_method_25_code 125 = .ok (.aload_n 0, 1) := by decide +kernel
theorem jd_M_writeMembers_126 : decode prog_10_method_25_code 126 = .ok (.iload_n 1, 1) := by decide +kernel
theorem jd_M_writeMembers_127 : decode prog_10_method_25_code 127 = .ok (.iload_n 2, 1) := by decide +kernel
theorem jd_M_writeMembers_128 : decode prog_10_method_25_code 128 = .ok (.iload_n 3, 1) := by decide +kernel
theorem jd_M_writeMembers_129 : decode prog_10_method_25_code 129 = .ok (.invokevirtual 103, 3) := by decide +kernel
theorem jd_M_writeMembers_132 : decode prog_10_method_25_code 132 = .ok (.istore_n 3, 1) := by decide +kernel
theorem jd_M_writeMembers_133 : decode prog_10_method_25_code 133 = .ok (.iinc 4 1, 3) := by decide +kernel
theorem jd_M_writeMembers_136 : decode prog_10_method_25_code 136 = .ok (.goto (-125), 3) := by decide +kernel
theorem jd_M_writeMembers_139 : decode prog_10_method_25_code 139 = .ok (.return_, 1) := by decide +kernel
theorem jd_M_following_0 : decode prog_10_method_22_code 0 = .ok (.iconst (-1), 1) := by decide +kernel
theorem jd_M_following_1 : decode prog_10_method_22_code 1 = .ok (.istore 4, 2) := by decide +kernel
theorem jd_M_following_3 : decode prog_10_method_22_code 3 = .ok (.bipush 10, 2) := by decide +kernel
theorem jd_M_following_5 : decode prog_10_method_22_code 5 = .ok (.iload_n 1, 1) := by decide +kernel
theorem jd_M_following_6 : decode prog_10_method_22_code 6 = .ok (.imul, 1) := by decide +kernel
theorem jd_M_following_7 : decode prog_10_method_22_code 7 = .ok (.istore 5, 2) := by decide +kernel
theorem jd_M_following_9 : decode prog_10_method_22_code 9 = .ok (.iload 5, 2) := by decide +kernel
theorem jd_M_following_11 : decode prog_10_method_22_code 11 = .ok (.bipush 10, 2) := by decide +kernel
theorem jd_M_following_13 : decode prog_10_method_22_code 13 = .ok (.iload_n 1, 1) := by decide +kernel
theorem jd_M_following_14 : decode prog_10_method_22_code 14 = .ok (.imul, 1) := by decide +kernel
theorem jd_M_following_15 : decode prog_10_method_22_code 15 = .ok (.aload_n 0, 1) := by decide +kernel
theorem jd_M_following_16 : decode prog_10_method_22_code 16 = .ok (.getfield 26, 3) := by decide +kernel
theorem jd_M_following_19 : decode prog_10_method_22_code 19 = .ok (.iload_n 1, 1) := by decide +kernel
theorem jd_M_following_20 : decode prog_10_method_22_code 20 = .ok (.iaload, 1) := by decide +kernel
theorem jd_M_following_21 : decode prog_10_method_22_code 21 = .ok (.iadd, 1) := by decide +kernel
theorem jd_M_following_22 : decode prog_10_method_22_code 22 = .ok (.if_icmp .ge 59, 3) := by decide +kernel
theorem jd_M_following_25 : decode prog_10_method_22_code 25 = .ok (.aload_n 0, 1) := by decide +kernel
theorem jd_M_following_26 : decode prog_10_method_22_code 26 = .ok (.getfield 36, 3) := by decide +kernel
theorem jd_M_following_29 : decode prog_10_method_22_code 29 = .ok (.iload 5, 2) := by decide +kernel
theorem jd_M_following_31 : decode prog_10_method_22_code 31 = .ok (.iaload, 1) := by decide +kernel
theorem jd_M_following_32 : decode prog_10_method_22_code 32 = .ok (.iload_n 2, 1) := by decide +kernel
theorem jd_M_following_33 : decode prog_10_method_22_code 33 = .ok (.if_icmp .ne 42, 3) := by decide +kernel
theorem jd_M_following_36 : decode prog_10_method_22_code 36 = .ok (.iload_n 3, 1) := by decide +kernel
theorem jd_M_following_37 : decode prog_10_method_22_code 37 = .ok (.ifCond .lt 17, 3) := by decide +kernel
theorem jd_M_following_40 : decode prog_10_method_22_code 40 = .ok (.aload_n 0, 1) := by decide +kernel
theorem jd_M_following_41 : decode prog_10_method_22_code 41 = .ok (.iload 5, 2) := by decide +kernel
theorem jd_M_following_43 : decode prog_10_method_22_code 43 = .ok (.iload_n 3, 1) := by decide +kernel
theorem jd_M_following_44 : decode prog_10_method_22_code 44 = .ok (.iload_n 2, 1) := by decide +kernel
theorem jd_M_following_45 : decode prog_10_method_22_code 45 = .ok (.invokevirtual 99, 3) := by decide +kernel
theorem jd_M_following_48 : decode prog_10_method_22_code 48 = .ok (.ifCond .gt 6, 3) := by decide +kernel
theorem jd_M_following_51 : decode prog_10_method_22_code 51 = .ok (.goto 24, 3) := by decide +kernel
theorem jd_M_following_54 : decode prog_10_method_22_code 54 = .ok (.iload 4, 2) := by decide +kernel
theorem jd_M_following_56 : decode prog_10_method_22_code 56 = .ok (.ifCond .lt 15, 3) := by decide +kernel
theorem jd_M_following_59 : decode prog_10_method_22_code 59 = .ok (.aload_n 0, 1) := by decide +kernel
theorem jd_M_following_60 : decode prog_10_method_22_code 60 = .ok (.iload 5, 2) := by decide +kernel
theorem jd_M_following_62 : decode prog_10_method_22_code 62 = .ok (.iload 4, 2) := by decide +kernel
theorem jd_M_following_64 : decode prog_10_method_22_code 64 = .ok (.iload_n 2, 1) := by decide +kernel
theorem jd_M_following_65 : decode prog_10_method_22_code 65 = .ok (.invokevirtual 99, 3) := by decide +kernel
theorem jd_M_following_68 : decode prog_10_method_22_code 68 = .ok (.ifCond .ge 7, 3) := by decide +kernel
theorem jd_M_following_71 : decode prog_10_method_22_code 71 = .ok (.iload 5, 2) := by decide +kernel
theorem jd_M_following_73 : decode prog_10_method_22_code 73 = .ok (.istore 4, 2) := by decide +kernel
theorem jd_M_following_75 : decode prog_10_method_22_code 75 = .ok (.iinc 5 1, 3) := by decide +kernel
theorem jd_M_following_78 : decode prog_10_method_22_code 78 = .ok (.goto (-69), 3) := by decide +kernel
theorem jd_M_following_81 : decode prog_10_method_22_code 81 = .ok (.iload 4, 2) := by decide +kernel
theorem jd_M_following_83 : decode prog_10_method_22_code 83 = .ok (.ireturn, 1) := by decide +kernel
theorem jd_M_orderOf_0 : decode prog_10_method_21_code 0 = .ok (.iload_n 3, 1) := by decide +kernel
theorem jd_M_orderOf_1 : decode prog_10_method_21_code 1 = .ok (.iconst 1, 1) := by decide +kernel
theorem jd_M_orderOf_2 : decode prog_10_method_21_code 2 = .ok (.if_icmp .ne 16, 3) := by decide +kernel
theorem jd_M_orderOf_5 : decode prog_10_method_21_code 5 = .ok (.aload_n 0, 1) := by decide +kernel
theorem jd_M_orderOf_6 : decode prog_10_method_21_code 6 = .ok (.bipush 62, 2) := by decide +kernel
theorem jd_M_orderOf_8 : decode prog_10_method_21_code 8 = .ok (.iload_n 1, 1) := by decide +kernel
theorem jd_M_orderOf_9 : decode prog_10_method_21_code 9 = .ok (.iadd, 1) := by decide +kernel
theorem jd_M_orderOf_10 : decode prog_10_method_21_code 10 = .ok (.bipush 62, 2) := by decide +kernel
theorem jd_M_orderOf_12 : decode prog_10_method_21_code 12 = .ok (.iload_n 2, 1) := by decide +kernel
theorem jd_M_orderOf_13 : decode prog_10_method_21_code 13 = .ok (.iadd, 1) := by decide +kernel
theorem jd_M_orderOf_14 : decode prog_10_method_21_code 14 = .ok (.invokevirtual 82, 3) := by decide +kernel
theorem jd_M_orderOf_17 : decode prog_10_method_21_code 17 = .ok (.ireturn, 1) := by decide +kernel
theorem jd_M_orderOf_18 : decode prog_10_method_21_code 18 = .ok (.aload_n 0, 1) := by decide +kernel
theorem jd_M_orderOf_19 : decode prog_10_method_21_code 19 = .ok (.bipush 22, 2) := by decide +kernel
theorem jd_M_orderOf_21 : decode prog_10_method_21_code 21 = .ok (.iload_n 1, 1) := by decide +kernel
theorem jd_M_orderOf_22 : decode prog_10_method_21_code 22 = .ok (.iadd, 1) := by decide +kernel
theorem jd_M_orderOf_23 : decode prog_10_method_21_code 23 = .ok (.bipush 22, 2) := by decide +kernel
theorem jd_M_orderOf_25 : decode prog_10_method_21_code 25 = .ok (.iload_n 2, 1) := by decide +kernel
theorem jd_M_orderOf_26 : decode prog_10_method_21_code 26 = .ok (.iadd, 1) := by decide +kernel
theorem jd_M_orderOf_27 : decode prog_10_method_21_code 27 = .ok (.invokevirtual 82, 3) := by decide +kernel
theorem jd_M_orderOf_30 : decode prog_10_method_21_code 30 = .ok (.istore 4, 2) := by decide +kernel
theorem jd_M_orderOf_32 : decode prog_10_method_21_code 32 = .ok (.iload 4, 2) := by decide +kernel
theorem jd_M_orderOf_34 : decode prog_10_method_21_code 34 = .ok (.ifCond .ne 7, 3) := by decide +kernel
theorem jd_M_orderOf_37 : decode prog_10_method_21_code 37 = .ok (.iload_n 3, 1) := by decide +kernel
theorem jd_M_orderOf_38 : decode prog_10_method_21_code 38 = .ok (.ifCond .ne 8, 3) := by decide +kernel
theorem jd_M_orderOf_41 : decode prog_10_method_21_code 41 = .ok (.iload 4, 2) := by decide +kernel
theorem jd_M_orderOf_43 : decode prog_10_method_21_code 43 = .ok (.goto 15, 3) := by decide +kernel
theorem jd_M_orderOf_46 : decode prog_10_method_21_code 46 = .ok (.aload_n 0, 1) := by decide +kernel
theorem jd_M_orderOf_47 : decode prog_10_method_21_code 47 = .ok (.bipush 62, 2) := by decide +kernel
theorem jd_M_orderOf_49 : decode prog_10_method_21_code 49 = .ok (.iload_n 1, 1) := by decide +kernel
theorem jd_M_orderOf_50 : decode prog_10_method_21_code 50 = .ok (.iadd, 1) := by decide +kernel
theorem jd_M_orderOf_51 : decode prog_10_method_21_code 51 = .ok (.bipush 62, 2) := by decide +kernel
theorem jd_M_orderOf_53 : decode prog_10_method_21_code 53 = .ok (.iload_n 2, 1) := by decide +kernel
theorem jd_M_orderOf_54 : decode prog_10_method_21_code 54 = .ok (.iadd, 1) := by decide +kernel
theorem jd_M_orderOf_55 : decode prog_10_method_21_code 55 = .ok (.invokevirtual 82, 3) := by decide +kernel
theorem jd_M_orderOf_58 : decode prog_10_method_21_code 58 = .ok (.ireturn, 1) := by decide +kernel
theorem jd_M_initName_0 : decode prog_10_method_20_code 0 = .ok (.aload_n 0, 1) := by decide +kernel
theorem jd_M_initName_1 : decode prog_10_method_20_code 1 = .ok (.iconst 0, 1) := by decide +kernel
theorem jd_M_initName_2 : decode prog_10_method_20_code 2 = .ok (.invokevirtual 95, 3) := by decide +kernel
theorem jd_M_initName_5 : decode prog_10_method_20_code 5 = .ok (.aload_n 0, 1) := by decide +kernel
theorem jd_M_initName_6 : decode prog_10_method_20_code 6 = .ok (.iload_n 1, 1) := by decide +kernel
theorem jd_M_initName_7 : decode prog_10_method_20_code 7 = .ok (.ifCond .eq 8, 3) := by decide +kernel
theorem jd_M_initName_10 : decode prog_10_method_20_code 10 = .ok (.bipush 8, 2) := by decide +kernel
theorem jd_M_initName_12 : decode prog_10_method_20_code 12 = .ok (.goto 5, 3) := by decide +kernel
theorem jd_M_initName_15 : decode prog_10_method_20_code 15 = .ok (.bipush 6, 2) := by decide +kernel
theorem jd_M_initName_17 : decode prog_10_method_20_code 17 = .ok (.invokevirtual 95, 3) := by decide +kernel
theorem jd_M_initName_20 : decode prog_10_method_20_code 20 = .ok (.aload_n 0, 1) := by decide +kernel
theorem jd_M_initName_21 : decode prog_10_method_20_code 21 = .ok (.bipush 60, 2) := by decide +kernel
theorem jd_M_initName_23 : decode prog_10_method_20_code 23 = .ok (.invokevirtual 95, 3) := by decide +kernel
theorem jd_M_initName_26 : decode prog_10_method_20_code 26 = .ok (.iload_n 1, 1) := by decide +kernel
theorem jd_M_initName_27 : decode prog_10_method_20_code 27 = .ok (.ifCond .eq 15, 3) := by decide +kernel
theorem jd_M_initName_30 : decode prog_10_method_20_code 30 = .ok (.aload_n 0, 1) := by decide +kernel
theorem jd_M_initName_31 : decode prog_10_method_20_code 31 = .ok (.bipush 99, 2) := by decide +kernel
theorem jd_M_initName_33 : decode prog_10_method_20_code 33 = .ok (.invokevirtual 95, 3) := by decide +kernel
theorem jd_M_initName_36 : decode prog_10_method_20_code 36 = .ok (.aload_n 0, 1) := by decide +kernel
theorem jd_M_initName_37 : decode prog_10_method_20_code 37 = .ok (.bipush 108, 2) := by decide +kernel
theorem jd_M_initName_39 : decode prog_10_method_20_code 39 = .ok (.invokevirtual 95, 3) := by decide +kernel
theorem jd_M_initName_42 : decode prog_10_method_20_code 42 = .ok (.aload_n 0, 1) := by decide +kernel
theorem jd_M_initName_43 : decode prog_10_method_20_code 43 = .ok (.bipush 105, 2) := by decide +kernel
theorem jd_M_initName_45 : decode prog_10_method_20_code 45 = .ok (.invokevirtual 95, 3) := by decide +kernel
theorem jd_M_initName_48 : decode prog_10_method_20_code 48 = .ok (.aload_n 0, 1) := by decide +kernel
theorem jd_M_initName_49 : decode prog_10_method_20_code 49 = .ok (.bipush 110, 2) := by decide +kernel
theorem jd_M_initName_51 : decode prog_10_method_20_code 51 = .ok (.invokevirtual 95, 3) := by decide +kernel
theorem jd_M_initName_54 : decode prog_10_method_20_code 54 = .ok (.aload_n 0, 1) := by decide +kernel
theorem jd_M_initName_55 : decode prog_10_method_20_code 55 = .ok (.bipush 105, 2) := by decide +kernel
theorem jd_M_initName_57 : decode prog_10_method_20_code 57 = .ok (.invokevirtual 95, 3) := by decide +kernel
theorem jd_M_initName_60 : decode prog_10_method_20_code 60 = .ok (.aload_n 0, 1) := by decide +kernel
theorem jd_M_initName_61 : decode prog_10_method_20_code 61 = .ok (.bipush 116, 2) := by decide +kernel
theorem jd_M_initName_63 : decode prog_10_method_20_code 63 = .ok (.invokevirtual 95, 3) := by decide +kernel
theorem jd_M_initName_66 : decode prog_10_method_20_code 66 = .ok (.aload_n 0, 1) := by decide +kernel
theorem jd_M_initName_67 : decode prog_10_method_20_code 67 = .ok (.bipush 62, 2) := by decide +kernel
theorem jd_M_initName_69 : decode prog_10_method_20_code 69 = .ok (.invokevirtual 95, 3) := by decide +kernel
theorem jd_M_initName_72 : decode prog_10_method_20_code 72 = .ok (.return_, 1) := by decide +kernel
theorem jd_M_block_0 : decode prog_10_method_30_code 0 = .ok (.iconst 0, 1) := by decide +kernel
theorem jd_M_block_1 : decode prog_10_method_30_code 1 = .ok (.istore_n 2, 1) := by decide +kernel
theorem jd_M_block_2 : decode prog_10_method_30_code 2 = .ok (.iload_n 2, 1) := by decide +kernel
theorem jd_M_block_3 : decode prog_10_method_30_code 3 = .ok (.bipush 80, 2) := by decide +kernel
theorem jd_M_block_5 : decode prog_10_method_30_code 5 = .ok (.if_icmp .ge 115, 3) := by decide +kernel
theorem jd_M_block_8 : decode prog_10_method_30_code 8 = .ok (.iload_n 2, 1) := by decide +kernel
theorem jd_M_block_9 : decode prog_10_method_30_code 9 = .ok (.bipush 16, 2) := by decide +kernel
theorem jd_M_block_11 : decode prog_10_method_30_code 11 = .ok (.if_icmp .ge 54, 3) := by decide +kernel
theorem jd_M_block_14 : decode prog_10_method_30_code 14 = .ok (.aload_n 0, 1) := by decide +kernel
theorem jd_M_block_15 : decode prog_10_method_30_code 15 = .ok (.getfield 51, 3) := by decide +kernel
theorem jd_M_block_18 : decode prog_10_method_30_code 18 = .ok (.iload_n 2, 1) := by decide +kernel
theorem jd_M_block_19 : decode prog_10_method_30_code 19 = .ok (.iconst 0, 1) := by decide +kernel
theorem jd_M_block_20 : decode prog_10_method_30_code 20 = .ok (.iastore, 1) := by decide +kernel
theorem jd_M_block_21 : decode prog_10_method_30_code 21 = .ok (.iconst 0, 1) := by decide +kernel
theorem jd_M_block_22 : decode prog_10_method_30_code 22 = .ok (.istore_n 3, 1) := by decide +kernel
theorem jd_M_block_23 : decode prog_10_method_30_code 23 = .ok (.iload_n 3, 1) := by decide +kernel
theorem jd_M_block_24 : decode prog_10_method_30_code 24 = .ok (.iconst 4, 1) := by decide +kernel
theorem jd_M_block_25 : decode prog_10_method_30_code 25 = .ok (.if_icmp .ge 37, 3) := by decide +kernel
theorem jd_M_block_28 : decode prog_10_method_30_code 28 = .ok (.aload_n 0, 1) := by decide +kernel
theorem jd_M_block_29 : decode prog_10_method_30_code 29 = .ok (.getfield 51, 3) := by decide +kernel
theorem jd_M_block_32 : decode prog_10_method_30_code 32 = .ok (.iload_n 2, 1) := by decide +kernel
theorem jd_M_block_33 : decode prog_10_method_30_code 33 = .ok (.aload_n 0, 1) := by decide +kernel
theorem jd_M_block_34 : decode prog_10_method_30_code 34 = .ok (.getfield 51, 3) := by decide +kernel
theorem jd_M_block_37 : decode prog_10_method_30_code 37 = .ok (.iload_n 2, 1) := by decide +kernel
theorem jd_M_block_38 : decode prog_10_method_30_code 38 = .ok (.iaload, 1) := by decide +kernel
theorem jd_M_block_39 : decode prog_10_method_30_code 39 = .ok (.bipush 8, 2) := by decide +kernel
theorem jd_M_block_41 : decode prog_10_method_30_code 41 = .ok (.ishl, 1) := by decide +kernel
theorem jd_M_block_42 : decode prog_10_method_30_code 42 = .ok (.aload_n 0, 1) := by decide +kernel
theorem jd_M_block_43 : decode prog_10_method_30_code 43 = .ok (.getfield 42, 3) := by decide +kernel
theorem jd_M_block_46 : decode prog_10_method_30_code 46 = .ok (.iload_n 1, 1) := by decide +kernel
theorem jd_M_block_47 : decode prog_10_method_30_code 47 = .ok (.iconst 4, 1) := by decide +kernel
theorem jd_M_block_48 : decode prog_10_method_30_code 48 = .ok (.iload_n 2, 1) := by decide +kernel
theorem jd_M_block_49 : decode prog_10_method_30_code 49 = .ok (.imul, 1) := by decide +kernel
theorem jd_M_block_50 : decode prog_10_method_30_code 50 = .ok (.iadd, 1) := by decide +kernel
theorem jd_M_block_51 : decode prog_10_method_30_code 51 = .ok (.iload_n 3, 1) := by decide +kernel
theorem jd_M_block_52 : decode prog_10_method_30_code 52 = .ok (.iadd, 1) := by decide +kernel
theorem jd_M_block_53 : decode prog_10_method_30_code 53 = .ok (.iaload, 1) := by decide +kernel
theorem jd_M_block_54 : decode prog_10_method_30_code 54 = .ok (.ior, 1) := by decide +kernel
theorem jd_M_block_55 : decode prog_10_method_30_code 55 = .ok (.iastore, 1) := by decide +kernel
theorem jd_M_block_56 : decode prog_10_method_30_code 56 = .ok (.iinc 3 1, 3) := by decide +kernel
theorem jd_M_block_59 : decode prog_10_method_30_code 59 = .ok (.goto (-36), 3) := by decide +kernel
theorem jd_M_block_62 : decode prog_10_method_30_code 62 = .ok (.goto 52, 3) := by decide +kernel
theorem jd_M_block_65 : decode prog_10_method_30_code 65 = .ok (.aload_n 0, 1) := by decide +kernel
theorem jd_M_block_66 : decode prog_10_method_30_code 66 = .ok (.getfield 51, 3) := by decide +kernel
theorem jd_M_block_69 : decode prog_10_method_30_code 69 = .ok (.iload_n 2, 1) := by decide +kernel
theorem jd_M_block_70 : decode prog_10_method_30_code 70 = .ok (.aload_n 0, 1) := by decide +kernel
theorem jd_M_block_71 : decode prog_10_method_30_code 71 = .ok (.aload_n 0, 1) := by decide +kernel
theorem jd_M_block_72 : decode prog_10_method_30_code 72 = .ok (.getfield 51, 3) := by decide +kernel
theorem jd_M_block_75 : decode prog_10_method_30_code 75 = .ok (.iload_n 2, 1) := by decide +kernel
theorem jd_M_block_76 : decode prog_10_method_30_code 76 = .ok (.iconst 3, 1) := by decide +kernel
theorem jd_M_block_77 : decode prog_10_method_30_code 77 = .ok (.isub, 1) := by decide +kernel
theorem jd_M_block_78 : decode prog_10_method_30_code 78 = .ok (.iaload, 1) := by decide +kernel
theorem jd_M_block_79 : decode prog_10_method_30_code 79 = .ok (.aload_n 0, 1) := by decide +kernel
theorem jd_M_block_80 : decode prog_10_method_30_code 80 = .ok (.getfield 51, 3) := by decide +kernel
theorem jd_M_block_83 : decode prog_10_method_30_code 83 = .ok (.iload_n 2, 1) := by decide +kernel
theorem jd_M_block_84 : decode prog_10_method_30_code 84 = .ok (.bipush 8, 2) := by decide +kernel
theorem jd_M_block_86 : decode prog_10_method_30_code 86 = .ok (.isub, 1) := by decide +kernel
theorem jd_M_block_87 : decode prog_10_method_30_code 87 = .ok (.iaload, 1) := by decide +kernel
theorem jd_M_block_88 : decode prog_10_method_30_code 88 = .ok (.ixor, 1) := by decide +kernel
theorem jd_M_block_89 : decode prog_10_method_30_code 89 = .ok (.aload_n 0, 1) := by decide +kernel
theorem jd_M_block_90 : decode prog_10_method_30_code 90 = .ok (.getfield 51, 3) := by decide +kernel
theorem jd_M_block_93 : decode prog_10_method_30_code 93 = .ok (.iload_n 2, 1) := by decide +kernel
theorem jd_M_block_94 : decode prog_10_method_30_code 94 = .ok (.bipush 14, 2) := by decide +kernel
theorem jd_M_block_96 : decode prog_10_method_30_code 96 = .ok (.isub, 1) := by decide +kernel
theorem jd_M_block_97 : decode prog_10_method_30_code 97 = .ok (.iaload, 1) := by decide +kernel
theorem jd_M_block_98 : decode prog_10_method_30_code 98 = .ok (.ixor, 1) := by decide +kernel
theorem jd_M_block_99 : decode prog_10_method_30_code 99 = .ok (.aload_n 0, 1) := by decide +kernel
theorem jd_M_block_100 : decode prog_10_method_30_code 100 = .ok (.getfield 51, 3) := by decide +kernel
theorem jd_M_block_103 : decode prog_10_method_30_code 103 = .ok (.iload_n 2, 1) := by decide +kernel
theorem jd_M_block_104 : decode prog_10_method_30_code 104 = .ok (.bipush 16, 2) := by decide +kernel
theorem jd_M_block_106 : decode prog_10_method_30_code 106 = .ok (.isub, 1) := by decide +kernel
theorem jd_M_block_107 : decode prog_10_method_30_code 107 = .ok (.iaload, 1) := by decide +kernel
theorem jd_M_block_108 : decode prog_10_method_30_code 108 = .ok (.ixor, 1) := by decide +kernel
theorem jd_M_block_109 : decode prog_10_method_30_code 109 = .ok (.iconst 1, 1) := by decide +kernel
theorem jd_M_block_110 : decode prog_10_method_30_code 110 = .ok (.invokevirtual 130, 3) := by decide +kernel
theorem jd_M_block_113 : decode prog_10_method_30_code 113 = .ok (.iastore, 1) := by decide +kernel
theorem jd_M_block_114 : decode prog_10_method_30_code 114 = .ok (.iinc 2 1, 3) := by decide +kernel
theorem jd_M_block_117 : decode prog_10_method_30_code 117 = .ok (.goto (-115), 3) := by decide +kernel
theorem jd_M_block_120 : decode prog_10_method_30_code 120 = .ok (.aload_n 0, 1) := by decide +kernel
theorem jd_M_block_121 : decode prog_10_method_30_code 121 = .ok (.getfield 48, 3) := by decide +kernel
theorem jd_M_block_124 : decode prog_10_method_30_code 124 = .ok (.iconst 0, 1) := by decide +kernel
theorem jd_M_block_125 : decode prog_10_method_30_code 125 = .ok (.iaload, 1) := by decide +kernel
theorem jd_M_block_126 : decode prog_10_method_30_code 126 = .ok (.istore_n 2, 1) := by decide +kernel
theorem jd_M_block_127 : decode prog_10_method_30_code 127 = .ok (.aload_n 0, 1) := by decide +kernel
theorem jd_M_block_128 : decode prog_10_method_30_code 128 = .ok (.getfield 48, 3) := by decide +kernel
theorem jd_M_block_131 : decode prog_10_method_30_code 131 = .ok (.iconst 1, 1) := by decide +kernel
theorem jd_M_block_132 : decode prog_10_method_30_code 132 = .ok (.iaload, 1) := by decide +kernel
theorem jd_M_block_133 : decode prog_10_method_30_code 133 = .ok (.istore_n 3, 1) := by decide +kernel
theorem jd_M_block_134 : decode prog_10_method_30_code 134 = .ok (.aload_n 0, 1) := by decide +kernel
theorem jd_M_block_135 : decode prog_10_method_30_code 135 = .ok (.getfield 48, 3) := by decide +kernel
theorem jd_M_block_138 : decode prog_10_method_30_code 138 = .ok (.iconst 2, 1) := by decide +kernel
theorem jd_M_block_139 : decode prog_10_method_30_code 139 = .ok (.iaload, 1) := by decide +kernel
theorem jd_M_block_140 : decode prog_10_method_30_code 140 = .ok (.istore 4, 2) := by decide +kernel
theorem jd_M_block_142 : decode prog_10_method_30_code 142 = .ok (.aload_n 0, 1) := by decide +kernel
theorem jd_M_block_143 : decode prog_10_method_30_code 143 = .ok (.getfield 48, 3) := by decide +kernel
theorem jd_M_block_146 : decode prog_10_method_30_code 146 = .ok (.iconst 3, 1) := by decide +kernel
theorem jd_M_block_147 : decode prog_10_method_30_code 147 = .ok (.iaload, 1) := by decide +kernel
theorem jd_M_block_148 : decode prog_10_method_30_code 148 = .ok (.istore 5, 2) := by decide +kernel
theorem jd_M_block_150 : decode prog_10_method_30_code 150 = .ok (.aload_n 0, 1) := by decide +kernel
theorem jd_M_block_151 : decode prog_10_method_30_code 151 = .ok (.getfield 48, 3) := by decide +kernel
theorem jd_M_block_154 : decode prog_10_method_30_code 154 = .ok (.iconst 4, 1) := by decide +kernel
theorem jd_M_block_155 : decode prog_10_method_30_code 155 = .ok (.iaload, 1) := by decide +kernel
theorem jd_M_block_156 : decode prog_10_method_30_code 156 = .ok (.istore 6, 2) := by decide +kernel
theorem jd_M_block_158 : decode prog_10_method_30_code 158 = .ok (.iconst 0, 1) := by decide +kernel
theorem jd_M_block_159 : decode prog_10_method_30_code 159 = .ok (.istore 7, 2) := by decide +kernel
theorem jd_M_block_161 : decode prog_10_method_30_code 161 = .ok (.iload 7, 2) := by decide +kernel
theorem jd_M_block_163 : decode prog_10_method_30_code 163 = .ok (.bipush 80, 2) := by decide +kernel
theorem jd_M_block_165 : decode prog_10_method_30_code 165 = .ok (.if_icmp .ge 69, 3) := by decide +kernel
theorem jd_M_block_168 : decode prog_10_method_30_code 168 = .ok (.aload_n 0, 1) := by decide +kernel
theorem jd_M_block_169 : decode prog_10_method_30_code 169 = .ok (.iload_n 2, 1) := by decide +kernel
theorem jd_M_block_170 : decode prog_10_method_30_code 170 = .ok (.iconst 5, 1) := by decide +kernel
theorem jd_M_block_171 : decode prog_10_method_30_code 171 = .ok (.invokevirtual 130, 3) := by decide +kernel
theorem jd_M_block_174 : decode prog_10_method_30_code 174 = .ok (.aload_n 0, 1) := by decide +kernel
theorem jd_M_block_175 : decode prog_10_method_30_code 175 = .ok (.iload 7, 2) := by decide +kernel
theorem jd_M_block_177 : decode prog_10_method_30_code 177 = .ok (.iload_n 3, 1) := by decide +kernel
theorem jd_M_block_178 : decode prog_10_method_30_code 178 = .ok (.iload 4, 2) := by decide +kernel
theorem jd_M_block_180 : decode prog_10_method_30_code 180 = .ok (.iload 5, 2) := by decide +kernel
theorem jd_M_block_182 : decode prog_10_method_30_code 182 = .ok (.invokevirtual 133, 3) := by decide +kernel
theorem jd_M_block_185 : decode prog_10_method_30_code 185 = .ok (.iadd, 1) := by decide +kernel
theorem jd_M_block_186 : decode prog_10_method_30_code 186 = .ok (.iload 6, 2) := by decide +kernel
theorem jd_M_block_188 : decode prog_10_method_30_code 188 = .ok (.iadd, 1) := by decide +kernel
theorem jd_M_block_189 : decode prog_10_method_30_code 189 = .ok (.aload_n 0, 1) := by decide +kernel
theorem jd_M_block_190 : decode prog_10_method_30_code 190 = .ok (.getfield 51, 3) := by decide +kernel
theorem jd_M_block_193 : decode prog_10_method_30_code 193 = .ok (.iload 7, 2) := by decide +kernel
theorem jd_M_block_195 : decode prog_10_method_30_code 195 = .ok (.iaload, 1) := by decide +kernel
theorem jd_M_block_196 : decode prog_10_method_30_code 196 = .ok (.iadd, 1) := by decide +kernel
theorem jd_M_block_197 : decode prog_10_method_30_code 197 = .ok (.aload_n 0, 1) := by decide +kernel
theorem jd_M_block_198 : decode prog_10_method_30_code 198 = .ok (.iload 7, 2) := by decide +kernel
theorem jd_M_block_200 : decode prog_10_method_30_code 200 = .ok (.invokevirtual 137, 3) := by decide +kernel
theorem jd_M_block_203 : decode prog_10_method_30_code 203 = .ok (.iadd, 1) := by decide +kernel
theorem jd_M_block_204 : decode prog_10_method_30_code 204 = .ok (.istore 8, 2) := by decide +kernel
theorem jd_M_block_206 : decode prog_10_method_30_code 206 = .ok (.iload 5, 2) := by decide +kernel
theorem jd_M_block_208 : decode prog_10_method_30_code 208 = .ok (.istore 6, 2) := by decide +kernel
theorem jd_M_block_210 : decode prog_10_method_30_code 210 = .ok (.iload 4, 2) := by decide +kernel
theorem jd_M_block_212 : decode prog_10_method_30_code 212 = .ok (.istore 5, 2) := by decide +kernel
theorem jd_M_block_214 : decode prog_10_method_30_code 214 = .ok (.aload_n 0, 1) := by decide +kernel
theorem jd_M_block_215 : decode prog_10_method_30_code 215 = .ok (.iload_n 3, 1) := by decide +kernel
theorem jd_M_block_216 : decode prog_10_method_30_code 216 = .ok (.bipush 30, 2) := by decide +kernel
theorem jd_M_block_218 : decode prog_10_method_30_code 218 = .ok (.invokevirtual 130, 3) := by decide +kernel
theorem jd_M_block_221 : decode prog_10_method_30_code 221 = .ok (.istore 4, 2) := by decide +kernel
theorem jd_M_block_223 : decode prog_10_method_30_code 223 = .ok (.iload_n 2, 1) := by decide +kernel
theorem jd_M_block_224 : decode prog_10_method_30_code 224 = .ok (.istore_n 3, 1) := by decide +kernel
theorem jd_M_block_225 : decode prog_10_method_30_code 225 = .ok (.iload 8, 2) := by decide +kernel
theorem jd_M_block_227 : decode prog_10_method_30_code 227 = .ok (.istore_n 2, 1) := by decide +kernel
theorem jd_M_block_228 : decode prog_10_method_30_code 228 = .ok (.iinc 7 1, 3) := by decide +kernel
theorem jd_M_block_231 : decode prog_10_method_30_code 231 = .ok (.goto (-70), 3) := by decide +kernel
theorem jd_M_block_234 : decode prog_10_method_30_code 234 = .ok (.aload_n 0, 1) := by decide +kernel
theorem jd_M_block_235 : decode prog_10_method_30_code 235 = .ok (.getfield 48, 3) := by decide +kernel
theorem jd_M_block_238 : decode prog_10_method_30_code 238 = .ok (.iconst 0, 1) := by decide +kernel
theorem jd_M_block_239 : decode prog_10_method_30_code 239 = .ok (.dup2, 1) := by decide +kernel
theorem jd_M_block_240 : decode prog_10_method_30_code 240 = .ok (.iaload, 1) := by decide +kernel
theorem jd_M_block_241 : decode prog_10_method_30_code 241 = .ok (.iload_n 2, 1) := by decide +kernel
theorem jd_M_block_242 : decode prog_10_method_30_code 242 = .ok (.iadd, 1) := by decide +kernel
theorem jd_M_block_243 : decode prog_10_method_30_code 243 = .ok (.iastore, 1) := by decide +kernel
theorem jd_M_block_244 : decode prog_10_method_30_code 244 = .ok (.aload_n 0, 1) := by decide +kernel
theorem jd_M_block_245 : decode prog_10_method_30_code 245 = .ok (.getfield 48, 3) := by decide +kernel
theorem jd_M_block_248 : decode prog_10_method_30_code 248 = .ok (.iconst 1, 1) := by decide +kernel
theorem jd_M_block_249 : decode prog_10_method_30_code 249 = .ok (.dup2, 1) := by decide +kernel
theorem jd_M_block_250 : decode prog_10_method_30_code 250 = .ok (.iaload, 1) := by decide +kernel
theorem jd_M_block_251 : decode prog_10_method_30_code 251 = .ok (.iload_n 3, 1) := by decide +kernel
theorem jd_M_block_252 : decode prog_10_method_30_code 252 = .ok (.iadd, 1) := by decide +kernel
theorem jd_M_block_253 : decode prog_10_method_30_code 253 = .ok (.iastore, 1) := by decide +kernel
theorem jd_M_block_254 : decode prog_10_method_30_code 254 = .ok (.aload_n 0, 1) := by decide +kernel
theorem jd_M_block_255 : decode prog_10_method_30_code 255 = .ok (.getfield 48, 3) := by decide +kernel
theorem jd_M_block_258 : decode prog_10_method_30_code 258 = .ok (.iconst 2, 1) := by decide +kernel
theorem jd_M_block_259 : decode prog_10_method_30_code 259 = .ok (.dup2, 1) := by decide +kernel
theorem jd_M_block_260 : decode prog_10_method_30_code 260 = .ok (.iaload, 1) := by decide +kernel
theorem jd_M_block_261 : decode prog_10_method_30_code 261 = .ok (.iload 4, 2) := by decide +kernel
theorem jd_M_block_263 : decode prog_10_method_30_code 263 = .ok (.iadd, 1) := by decide +kernel
theorem jd_M_block_264 : decode prog_10_method_30_code 264 = .ok (.iastore, 1) := by decide +kernel
theorem jd_M_block_265 : decode prog_10_method_30_code 265 = .ok (.aload_n 0, 1) := by decide +kernel
theorem jd_M_block_266 : decode prog_10_method_30_code 266 = .ok (.getfield 48, 3) := by decide +kernel
theorem jd_M_block_269 : decode prog_10_method_30_code 269 = .ok (.iconst 3, 1) := by decide +kernel
theorem jd_M_block_270 : decode prog_10_method_30_code 270 = .ok (.dup2, 1) := by decide +kernel
theorem jd_M_block_271 : decode prog_10_method_30_code 271 = .ok (.iaload, 1) := by decide +kernel
theorem jd_M_block_272 : decode prog_10_method_30_code 272 = .ok (.iload 5, 2) := by decide +kernel
theorem jd_M_block_274 : decode prog_10_method_30_code 274 = .ok (.iadd, 1) := by decide +kernel
theorem jd_M_block_275 : decode prog_10_method_30_code 275 = .ok (.iastore, 1) := by decide +kernel
theorem jd_M_block_276 : decode prog_10_method_30_code 276 = .ok (.aload_n 0, 1) := by decide +kernel
theorem jd_M_block_277 : decode prog_10_method_30_code 277 = .ok (.getfield 48, 3) := by decide +kernel
theorem jd_M_block_280 : decode prog_10_method_30_code 280 = .ok (.iconst 4, 1) := by decide +kernel
theorem jd_M_block_281 : decode prog_10_method_30_code 281 = .ok (.dup2, 1) := by decide +kernel
theorem jd_M_block_282 : decode prog_10_method_30_code 282 = .ok (.iaload, 1) := by decide +kernel
theorem jd_M_block_283 : decode prog_10_method_30_code 283 = .ok (.iload 6, 2) := by decide +kernel
theorem jd_M_block_285 : decode prog_10_method_30_code 285 = .ok (.iadd, 1) := by decide +kernel
theorem jd_M_block_286 : decode prog_10_method_30_code 286 = .ok (.iastore, 1) := by decide +kernel
theorem jd_M_block_287 : decode prog_10_method_30_code 287 = .ok (.return_, 1) := by decide +kernel
theorem jd_M_turned_0 : decode prog_10_method_27_code 0 = .ok (.iload_n 1, 1) := by decide +kernel
theorem jd_M_turned_1 : decode prog_10_method_27_code 1 = .ok (.iload_n 2, 1) := by decide +kernel
theorem jd_M_turned_2 : decode prog_10_method_27_code 2 = .ok (.ishl, 1) := by decide +kernel
theorem jd_M_turned_3 : decode prog_10_method_27_code 3 = .ok (.iload_n 1, 1) := by decide +kernel
theorem jd_M_turned_4 : decode prog_10_method_27_code 4 = .ok (.bipush 32, 2) := by decide +kernel
theorem jd_M_turned_6 : decode prog_10_method_27_code 6 = .ok (.iload_n 2, 1) := by decide +kernel
theorem jd_M_turned_7 : decode prog_10_method_27_code 7 = .ok (.isub, 1) := by decide +kernel
theorem jd_M_turned_8 : decode prog_10_method_27_code 8 = .ok (.iushr, 1) := by decide +kernel
theorem jd_M_turned_9 : decode prog_10_method_27_code 9 = .ok (.ior, 1) := by decide +kernel
theorem jd_M_turned_10 : decode prog_10_method_27_code 10 = .ok (.ireturn, 1) := by decide +kernel
theorem jd_M_mixed_0 : decode prog_10_method_28_code 0 = .ok (.iload_n 1, 1) := by decide +kernel
theorem jd_M_mixed_1 : decode prog_10_method_28_code 1 = .ok (.bipush 20, 2) := by decide +kernel
theorem jd_M_mixed_3 : decode prog_10_method_28_code 3 = .ok (.if_icmp .ge 14, 3) := by decide +kernel
theorem jd_M_mixed_6 : decode prog_10_method_28_code 6 = .ok (.iload_n 2, 1) := by decide +kernel
theorem jd_M_mixed_7 : decode prog_10_method_28_code 7 = .ok (.iload_n 3, 1) := by decide +kernel
theorem jd_M_mixed_8 : decode prog_10_method_28_code 8 = .ok (.iand, 1) := by decide +kernel
theorem jd_M_mixed_9 : decode prog_10_method_28_code 9 = .ok (.iload_n 2, 1) := by decide +kernel
theorem jd_M_mixed_10 : decode prog_10_method_28_code 10 = .ok (.iconst (-1), 1) := by decide +kernel
theorem jd_M_mixed_11 : decode prog_10_method_28_code 11 = .ok (.ixor, 1) := by decide +kernel
theorem jd_M_mixed_12 : decode prog_10_method_28_code 12 = .ok (.iload 4, 2) := by decide +kernel
theorem jd_M_mixed_14 : decode prog_10_method_28_code 14 = .ok (.iand, 1) := by decide +kernel
theorem jd_M_mixed_15 : decode prog_10_method_28_code 15 = .ok (.ior, 1) := by decide +kernel
theorem jd_M_mixed_16 : decode prog_10_method_28_code 16 = .ok (.ireturn, 1) := by decide +kernel
theorem jd_M_mixed_17 : decode prog_10_method_28_code 17 = .ok (.iload_n 1, 1) := by decide +kernel
theorem jd_M_mixed_18 : decode prog_10_method_28_code 18 = .ok (.bipush 40, 2) := by decide +kernel
theorem jd_M_mixed_20 : decode prog_10_method_28_code 20 = .ok (.if_icmp .lt 9, 3) := by decide +kernel
theorem jd_M_mixed_23 : decode prog_10_method_28_code 23 = .ok (.iload_n 1, 1) := by decide +kernel
theorem jd_M_mixed_24 : decode prog_10_method_28_code 24 = .ok (.bipush 60, 2) := by decide +kernel
theorem jd_M_mixed_26 : decode prog_10_method_28_code 26 = .ok (.if_icmp .lt 10, 3) := by decide +kernel
theorem jd_M_mixed_29 : decode prog_10_method_28_code 29 = .ok (.iload_n 2, 1) := by decide +kernel
theorem jd_M_mixed_30 : decode prog_10_method_28_code 30 = .ok (.iload_n 3, 1) := by decide +kernel
theorem jd_M_mixed_31 : decode prog_10_method_28_code 31 = .ok (.ixor, 1) := by decide +kernel
theorem jd_M_mixed_32 : decode prog_10_method_28_code 32 = .ok (.iload 4, 2) := by decide +kernel
theorem jd_M_mixed_34 : decode prog_10_method_28_code 34 = .ok (.ixor, 1) := by decide +kernel
theorem jd_M_mixed_35 : decode prog_10_method_28_code 35 = .ok (.ireturn, 1) := by decide +kernel
theorem jd_M_mixed_36 : decode prog_10_method_28_code 36 = .ok (.iload_n 2, 1) := by decide +kernel
theorem jd_M_mixed_37 : decode prog_10_method_28_code 37 = .ok (.iload_n 3, 1) := by decide +kernel
theorem jd_M_mixed_38 : decode prog_10_method_28_code 38 = .ok (.iand, 1) := by decide +kernel
theorem jd_M_mixed_39 : decode prog_10_method_28_code 39 = .ok (.iload_n 2, 1) := by decide +kernel
theorem jd_M_mixed_40 : decode prog_10_method_28_code 40 = .ok (.iload 4, 2) := by decide +kernel
theorem jd_M_mixed_42 : decode prog_10_method_28_code 42 = .ok (.iand, 1) := by decide +kernel
theorem jd_M_mixed_43 : decode prog_10_method_28_code 43 = .ok (.ior, 1) := by decide +kernel
theorem jd_M_mixed_44 : decode prog_10_method_28_code 44 = .ok (.iload_n 3, 1) := by decide +kernel
theorem jd_M_mixed_45 : decode prog_10_method_28_code 45 = .ok (.iload 4, 2) := by decide +kernel
theorem jd_M_mixed_47 : decode prog_10_method_28_code 47 = .ok (.iand, 1) := by decide +kernel
theorem jd_M_mixed_48 : decode prog_10_method_28_code 48 = .ok (.ior, 1) := by decide +kernel
theorem jd_M_mixed_49 : decode prog_10_method_28_code 49 = .ok (.ireturn, 1) := by decide +kernel
end
section
theorem jd_M_constant_0 : decode prog_10_method_29_code 0 = .ok (.iload_n 1, 1) := by decide +kernel
theorem jd_M_constant_1 : decode prog_10_method_29_code 1 = .ok (.bipush 20, 2) := by decide +kernel
theorem jd_M_constant_3 : decode prog_10_method_29_code 3 = .ok (.if_icmp .ge 8, 3) := by decide +kernel
theorem jd_M_constant_6 : decode prog_10_method_29_code 6 = .ok (.ldc 126, 2) := by decide +kernel
theorem jd_M_constant_8 : decode prog_10_method_29_code 8 = .ok (.goto 27, 3) := by decide +kernel
theorem jd_M_constant_11 : decode prog_10_method_29_code 11 = .ok (.iload_n 1, 1) := by decide +kernel
theorem jd_M_constant_12 : decode prog_10_method_29_code 12 = .ok (.bipush 40, 2) := by decide +kernel
theorem jd_M_constant_14 : decode prog_10_method_29_code 14 = .ok (.if_icmp .ge 8, 3) := by decide +kernel
theorem jd_M_constant_17 : decode prog_10_method_29_code 17 = .ok (.ldc 127, 2) := by decide +kernel
theorem jd_M_constant_19 : decode prog_10_method_29_code 19 = .ok (.goto 16, 3) := by decide +kernel
theorem jd_M_constant_22 : decode prog_10_method_29_code 22 = .ok (.iload_n 1, 1) := by decide +kernel
theorem jd_M_constant_23 : decode prog_10_method_29_code 23 = .ok (.bipush 60, 2) := by decide +kernel
theorem jd_M_constant_25 : decode prog_10_method_29_code 25 = .ok (.if_icmp .ge 8, 3) := by decide +kernel
theorem jd_M_constant_28 : decode prog_10_method_29_code 28 = .ok (.ldc 128, 2) := by decide +kernel
theorem jd_M_constant_30 : decode prog_10_method_29_code 30 = .ok (.goto 5, 3) := by decide +kernel
theorem jd_M_constant_33 : decode prog_10_method_29_code 33 = .ok (.ldc 129, 2) := by decide +kernel
theorem jd_M_constant_35 : decode prog_10_method_29_code 35 = .ok (.ireturn, 1) := by decide +kernel
theorem jd_M_hash_0 : decode prog_10_method_33_code 0 = .ok (.aload_n 0, 1) := by decide +kernel
theorem jd_M_hash_1 : decode prog_10_method_33_code 1 = .ok (.iload_n 1, 1) := by decide +kernel
theorem jd_M_hash_2 : decode prog_10_method_33_code 2 = .ok (.invokevirtual 78, 3) := by decide +kernel
theorem jd_M_hash_5 : decode prog_10_method_33_code 5 = .ok (.ifCond .ne 12, 3) := by decide +kernel
theorem jd_M_hash_8 : decode prog_10_method_33_code 8 = .ok (.aload_n 0, 1) := by decide +kernel
theorem jd_M_hash_9 : decode prog_10_method_33_code 9 = .ok (.iload_n 2, 1) := by decide +kernel
theorem jd_M_hash_10 : decode prog_10_method_33_code 10 = .ok (.iconst 5, 1) := by decide +kernel
theorem jd_M_hash_11 : decode prog_10_method_33_code 11 = .ok (.invokevirtual 54, 3) := by decide +kernel
theorem jd_M_hash_14 : decode prog_10_method_33_code 14 = .ok (.ifCond .eq 7, 3) := by decide +kernel
theorem jd_M_hash_17 : decode prog_10_method_33_code 17 = .ok (.ldc2_w 151, 3) := by decide +kernel
theorem jd_M_hash_20 : decode prog_10_method_33_code 20 = .ok (.lreturn, 1) := by decide +kernel
theorem jd_M_hash_21 : decode prog_10_method_33_code 21 = .ok (.aload_n 0, 1) := by decide +kernel
theorem jd_M_hash_22 : decode prog_10_method_33_code 22 = .ok (.iload_n 1, 1) := by decide +kernel
theorem jd_M_hash_23 : decode prog_10_method_33_code 23 = .ok (.invokevirtual 153, 3) := by decide +kernel
theorem jd_M_hash_26 : decode prog_10_method_33_code 26 = .ok (.aload_n 0, 1) := by decide +kernel
theorem jd_M_hash_27 : decode prog_10_method_33_code 27 = .ok (.getfield 48, 3) := by decide +kernel
theorem jd_M_hash_30 : decode prog_10_method_33_code 30 = .ok (.iload_n 2, 1) := by decide +kernel
theorem jd_M_hash_31 : decode prog_10_method_33_code 31 = .ok (.iaload, 1) := by decide +kernel
theorem jd_M_hash_32 : decode prog_10_method_33_code 32 = .ok (.i2l, 1) := by decide +kernel
theorem jd_M_hash_33 : decode prog_10_method_33_code 33 = .ok (.lreturn, 1) := by decide +kernel
theorem jd_M_size_0 : decode prog_10_method_34_code 0 = .ok (.aload_n 0, 1) := by decide +kernel
theorem jd_M_size_1 : decode prog_10_method_34_code 1 = .ok (.iload_n 1, 1) := by decide +kernel
theorem jd_M_size_2 : decode prog_10_method_34_code 2 = .ok (.invokevirtual 78, 3) := by decide +kernel
theorem jd_M_size_5 : decode prog_10_method_34_code 5 = .ok (.ifCond .eq 5, 3) := by decide +kernel
theorem jd_M_size_8 : decode prog_10_method_34_code 8 = .ok (.iconst (-1), 1) := by decide +kernel
theorem jd_M_size_9 : decode prog_10_method_34_code 9 = .ok (.ireturn, 1) := by decide +kernel
theorem jd_M_size_10 : decode prog_10_method_34_code 10 = .ok (.aload_n 0, 1) := by decide +kernel
theorem jd_M_size_11 : decode prog_10_method_34_code 11 = .ok (.iload_n 1, 1) := by decide +kernel
theorem jd_M_size_12 : decode prog_10_method_34_code 12 = .ok (.invokevirtual 140, 3) := by decide +kernel
theorem jd_M_size_15 : decode prog_10_method_34_code 15 = .ok (.aload_n 0, 1) := by decide +kernel
theorem jd_M_size_16 : decode prog_10_method_34_code 16 = .ok (.getfield 92, 3) := by decide +kernel
theorem jd_M_size_19 : decode prog_10_method_34_code 19 = .ok (.ireturn, 1) := by decide +kernel
theorem jd_M_byteAt_0 : decode prog_10_method_35_code 0 = .ok (.aload_n 0, 1) := by decide +kernel
theorem jd_M_byteAt_1 : decode prog_10_method_35_code 1 = .ok (.iload_n 1, 1) := by decide +kernel
theorem jd_M_byteAt_2 : decode prog_10_method_35_code 2 = .ok (.invokevirtual 78, 3) := by decide +kernel
theorem jd_M_byteAt_5 : decode prog_10_method_35_code 5 = .ok (.ifCond .eq 5, 3) := by decide +kernel
theorem jd_M_byteAt_8 : decode prog_10_method_35_code 8 = .ok (.iconst (-1), 1) := by decide +kernel
theorem jd_M_byteAt_9 : decode prog_10_method_35_code 9 = .ok (.ireturn, 1) := by decide +kernel
theorem jd_M_byteAt_10 : decode prog_10_method_35_code 10 = .ok (.aload_n 0, 1) := by decide +kernel
theorem jd_M_byteAt_11 : decode prog_10_method_35_code 11 = .ok (.iload_n 1, 1) := by decide +kernel
theorem jd_M_byteAt_12 : decode prog_10_method_35_code 12 = .ok (.invokevirtual 140, 3) := by decide +kernel
theorem jd_M_byteAt_15 : decode prog_10_method_35_code 15 = .ok (.aload_n 0, 1) := by decide +kernel
theorem jd_M_byteAt_16 : decode prog_10_method_35_code 16 = .ok (.iload_n 2, 1) := by decide +kernel
theorem jd_M_byteAt_17 : decode prog_10_method_35_code 17 = .ok (.aload_n 0, 1) := by decide +kernel
theorem jd_M_byteAt_18 : decode prog_10_method_35_code 18 = .ok (.getfield 92, 3) := by decide +kernel
theorem jd_M_byteAt_21 : decode prog_10_method_35_code 21 = .ok (.invokevirtual 54, 3) := by decide +kernel
theorem jd_M_byteAt_24 : decode prog_10_method_35_code 24 = .ok (.ifCond .eq 7, 3) := by decide +kernel
theorem jd_M_byteAt_27 : decode prog_10_method_35_code 27 = .ok (.iconst (-1), 1) := by decide +kernel
theorem jd_M_byteAt_28 : decode prog_10_method_35_code 28 = .ok (.goto 9, 3) := by decide +kernel
theorem jd_M_byteAt_31 : decode prog_10_method_35_code 31 = .ok (.aload_n 0, 1) := by decide +kernel
theorem jd_M_byteAt_32 : decode prog_10_method_35_code 32 = .ok (.getfield 42, 3) := by decide +kernel
theorem jd_M_byteAt_35 : decode prog_10_method_35_code 35 = .ok (.iload_n 2, 1) := by decide +kernel
theorem jd_M_byteAt_36 : decode prog_10_method_35_code 36 = .ok (.iaload, 1) := by decide +kernel
theorem jd_M_byteAt_37 : decode prog_10_method_35_code 37 = .ok (.ireturn, 1) := by decide +kernel
theorem jd_M_part_0 : decode prog_10_method_36_code 0 = .ok (.aload_n 0, 1) := by decide +kernel
theorem jd_M_part_1 : decode prog_10_method_36_code 1 = .ok (.iload_n 1, 1) := by decide +kernel
theorem jd_M_part_2 : decode prog_10_method_36_code 2 = .ok (.invokevirtual 78, 3) := by decide +kernel
theorem jd_M_part_5 : decode prog_10_method_36_code 5 = .ok (.ifCond .ne 13, 3) := by decide +kernel
theorem jd_M_part_8 : decode prog_10_method_36_code 8 = .ok (.aload_n 0, 1) := by decide +kernel
theorem jd_M_part_9 : decode prog_10_method_36_code 9 = .ok (.iload_n 2, 1) := by decide +kernel
theorem jd_M_part_10 : decode prog_10_method_36_code 10 = .ok (.bipush 6, 2) := by decide +kernel
theorem jd_M_part_12 : decode prog_10_method_36_code 12 = .ok (.invokevirtual 54, 3) := by decide +kernel
theorem jd_M_part_15 : decode prog_10_method_36_code 15 = .ok (.ifCond .eq 5, 3) := by decide +kernel
theorem jd_M_part_18 : decode prog_10_method_36_code 18 = .ok (.iconst (-1), 1) := by decide +kernel
theorem jd_M_part_19 : decode prog_10_method_36_code 19 = .ok (.ireturn, 1) := by decide +kernel
theorem jd_M_part_20 : decode prog_10_method_36_code 20 = .ok (.aload_n 0, 1) := by decide +kernel
theorem jd_M_part_21 : decode prog_10_method_36_code 21 = .ok (.iload_n 1, 1) := by decide +kernel
theorem jd_M_part_22 : decode prog_10_method_36_code 22 = .ok (.invokevirtual 140, 3) := by decide +kernel
theorem jd_M_part_25 : decode prog_10_method_36_code 25 = .ok (.aload_n 0, 1) := by decide +kernel
theorem jd_M_part_26 : decode prog_10_method_36_code 26 = .ok (.getfield 45, 3) := by decide +kernel
theorem jd_M_part_29 : decode prog_10_method_36_code 29 = .ok (.iload_n 2, 1) := by decide +kernel
theorem jd_M_part_30 : decode prog_10_method_36_code 30 = .ok (.iaload, 1) := by decide +kernel
theorem jd_M_part_31 : decode prog_10_method_36_code 31 = .ok (.ireturn, 1) := by decide +kernel
theorem jd_M_count_0 : decode prog_10_method_37_code 0 = .ok (.aload_n 0, 1) := by decide +kernel
theorem jd_M_count_1 : decode prog_10_method_37_code 1 = .ok (.iload_n 1, 1) := by decide +kernel
theorem jd_M_count_2 : decode prog_10_method_37_code 2 = .ok (.invokevirtual 78, 3) := by decide +kernel
theorem jd_M_count_5 : decode prog_10_method_37_code 5 = .ok (.ifCond .ne 13, 3) := by decide +kernel
theorem jd_M_count_8 : decode prog_10_method_37_code 8 = .ok (.aload_n 0, 1) := by decide +kernel
theorem jd_M_count_9 : decode prog_10_method_37_code 9 = .ok (.iload_n 2, 1) := by decide +kernel
theorem jd_M_count_10 : decode prog_10_method_37_code 10 = .ok (.bipush 8, 2) := by decide +kernel
theorem jd_M_count_12 : decode prog_10_method_37_code 12 = .ok (.invokevirtual 54, 3) := by decide +kernel
theorem jd_M_count_15 : decode prog_10_method_37_code 15 = .ok (.ifCond .eq 5, 3) := by decide +kernel
theorem jd_M_count_18 : decode prog_10_method_37_code 18 = .ok (.iconst (-1), 1) := by decide +kernel
theorem jd_M_count_19 : decode prog_10_method_37_code 19 = .ok (.ireturn, 1) := by decide +kernel
theorem jd_M_count_20 : decode prog_10_method_37_code 20 = .ok (.iload_n 2, 1) := by decide +kernel
theorem jd_M_count_21 : decode prog_10_method_37_code 21 = .ok (.tableswitch 92 0 6 #[43, 50, 57, 64, 71, 78, 85], 43) := by decide +kernel
theorem jd_M_count_64 : decode prog_10_method_37_code 64 = .ok (.aload_n 0, 1) := by decide +kernel
theorem jd_M_count_65 : decode prog_10_method_37_code 65 = .ok (.getfield 23, 3) := by decide +kernel
theorem jd_M_count_68 : decode prog_10_method_37_code 68 = .ok (.iload_n 1, 1) := by decide +kernel
theorem jd_M_count_69 : decode prog_10_method_37_code 69 = .ok (.iaload, 1) := by decide +kernel
theorem jd_M_count_70 : decode prog_10_method_37_code 70 = .ok (.ireturn, 1) := by decide +kernel
theorem jd_M_count_71 : decode prog_10_method_37_code 71 = .ok (.aload_n 0, 1) := by decide +kernel
theorem jd_M_count_72 : decode prog_10_method_37_code 72 = .ok (.getfield 26, 3) := by decide +kernel
theorem jd_M_count_75 : decode prog_10_method_37_code 75 = .ok (.iload_n 1, 1) := by decide +kernel
theorem jd_M_count_76 : decode prog_10_method_37_code 76 = .ok (.iaload, 1) := by decide +kernel
theorem jd_M_count_77 : decode prog_10_method_37_code 77 = .ok (.ireturn, 1) := by decide +kernel
theorem jd_M_count_78 : decode prog_10_method_37_code 78 = .ok (.aload_n 0, 1) := by decide +kernel
theorem jd_M_count_79 : decode prog_10_method_37_code 79 = .ok (.iload_n 1, 1) := by decide +kernel
theorem jd_M_count_80 : decode prog_10_method_37_code 80 = .ok (.iconst 0, 1) := by decide +kernel
theorem jd_M_count_81 : decode prog_10_method_37_code 81 = .ok (.invokevirtual 117, 3) := by decide +kernel
theorem jd_M_count_84 : decode prog_10_method_37_code 84 = .ok (.ireturn, 1) := by decide +kernel
theorem jd_M_count_85 : decode prog_10_method_37_code 85 = .ok (.aload_n 0, 1) := by decide +kernel
theorem jd_M_count_86 : decode prog_10_method_37_code 86 = .ok (.iload_n 1, 1) := by decide +kernel
theorem jd_M_count_87 : decode prog_10_method_37_code 87 = .ok (.iconst 1, 1) := by decide +kernel
theorem jd_M_count_88 : decode prog_10_method_37_code 88 = .ok (.invokevirtual 117, 3) := by decide +kernel
theorem jd_M_count_91 : decode prog_10_method_37_code 91 = .ok (.ireturn, 1) := by decide +kernel
theorem jd_M_count_92 : decode prog_10_method_37_code 92 = .ok (.aload_n 0, 1) := by decide +kernel
theorem jd_M_count_93 : decode prog_10_method_37_code 93 = .ok (.iload_n 1, 1) := by decide +kernel
theorem jd_M_count_94 : decode prog_10_method_37_code 94 = .ok (.iconst 2, 1) := by decide +kernel
theorem jd_M_count_95 : decode prog_10_method_37_code 95 = .ok (.invokevirtual 117, 3) := by decide +kernel
theorem jd_M_count_98 : decode prog_10_method_37_code 98 = .ok (.ireturn, 1) := by decide +kernel
theorem jd_M_count_99 : decode prog_10_method_37_code 99 = .ok (.aload_n 0, 1) := by decide +kernel
theorem jd_M_count_100 : decode prog_10_method_37_code 100 = .ok (.iload_n 1, 1) := by decide +kernel
theorem jd_M_count_101 : decode prog_10_method_37_code 101 = .ok (.iconst 3, 1) := by decide +kernel
theorem jd_M_count_102 : decode prog_10_method_37_code 102 = .ok (.invokevirtual 117, 3) := by decide +kernel
theorem jd_M_count_105 : decode prog_10_method_37_code 105 = .ok (.ireturn, 1) := by decide +kernel
theorem jd_M_count_106 : decode prog_10_method_37_code 106 = .ok (.aload_n 0, 1) := by decide +kernel
theorem jd_M_count_107 : decode prog_10_method_37_code 107 = .ok (.getfield 20, 3) := by decide +kernel
theorem jd_M_count_110 : decode prog_10_method_37_code 110 = .ok (.iload_n 1, 1) := by decide +kernel
theorem jd_M_count_111 : decode prog_10_method_37_code 111 = .ok (.iaload, 1) := by decide +kernel
theorem jd_M_count_112 : decode prog_10_method_37_code 112 = .ok (.ireturn, 1) := by decide +kernel
theorem jd_M_count_113 : decode prog_10_method_37_code 113 = .ok (.aload_n 0, 1) := by decide +kernel
theorem jd_M_count_114 : decode prog_10_method_37_code 114 = .ok (.getfield 29, 3) := by decide +kernel
theorem jd_M_count_117 : decode prog_10_method_37_code 117 = .ok (.iload_n 1, 1) := by decide +kernel
theorem jd_M_count_118 : decode prog_10_method_37_code 118 = .ok (.baload, 1) := by decide +kernel
theorem jd_M_count_119 : decode prog_10_method_37_code 119 = .ok (.ifCond .eq 7, 3) := by decide +kernel
theorem jd_M_count_122 : decode prog_10_method_37_code 122 = .ok (.iconst 1, 1) := by decide +kernel
theorem jd_M_count_123 : decode prog_10_method_37_code 123 = .ok (.goto 4, 3) := by decide +kernel
theorem jd_M_count_126 : decode prog_10_method_37_code 126 = .ok (.iconst 0, 1) := by decide +kernel
theorem jd_M_count_127 : decode prog_10_method_37_code 127 = .ok (.ireturn, 1) := by decide +kernel
theorem jd_law_0 : decode code 0 = .ok (.new 7, 3) := by decide +kernel
theorem jd_law_3 : decode code 3 = .ok (.dup, 1) := by decide +kernel
theorem jd_law_4 : decode code 4 = .ok (.invokespecial 9, 3) := by decide +kernel
theorem jd_law_7 : decode code 7 = .ok (.astore_n 1, 1) := by decide +kernel
theorem jd_law_8 : decode code 8 = .ok (.new 10, 3) := by decide +kernel
theorem jd_law_11 : decode code 11 = .ok (.dup, 1) := by decide +kernel
theorem jd_law_12 : decode code 12 = .ok (.invokespecial 12, 3) := by decide +kernel
theorem jd_law_15 : decode code 15 = .ok (.astore_n 2, 1) := by decide +kernel
theorem jd_law_16 : decode code 16 = .ok (.iconst 0, 1) := by decide +kernel
theorem jd_law_17 : decode code 17 = .ok (.istore_n 3, 1) := by decide +kernel
theorem jd_law_18 : decode code 18 = .ok (.iload_n 3, 1) := by decide +kernel
theorem jd_law_19 : decode code 19 = .ok (.aload_n 0, 1) := by decide +kernel
theorem jd_law_20 : decode code 20 = .ok (.arraylength, 1) := by decide +kernel
theorem jd_law_21 : decode code 21 = .ok (.iconst 5, 1) := by decide +kernel
theorem jd_law_22 : decode code 22 = .ok (.isub, 1) := by decide +kernel
theorem jd_law_23 : decode code 23 = .ok (.if_icmp .gt 570, 3) := by decide +kernel
theorem jd_law_26 : decode code 26 = .ok (.aload_n 0, 1) := by decide +kernel
theorem jd_law_27 : decode code 27 = .ok (.iload_n 3, 1) := by decide +kernel
theorem jd_law_28 : decode code 28 = .ok (.iaload, 1) := by decide +kernel
theorem jd_law_29 : decode code 29 = .ok (.bipush 15, 2) := by decide +kernel
theorem jd_law_31 : decode code 31 = .ok (.iand, 1) := by decide +kernel
theorem jd_law_32 : decode code 32 = .ok (.tableswitch 555 0 12 #[68, 131, 154, 187, 210, 253, 286, 375, 399, 433, 456, 489, 522], 68) := by decide +kernel
theorem jd_law_100 : decode code 100 = .ok (.aload_n 1, 1) := by decide +kernel
theorem jd_law_101 : decode code 101 = .ok (.aload_n 0, 1) := by decide +kernel
theorem jd_law_102 : decode code 102 = .ok (.iload_n 3, 1) := by decide +kernel
theorem jd_law_103 : decode code 103 = .ok (.iconst 1, 1) := by decide +kernel
theorem jd_law_104 : decode code 104 = .ok (.iadd, 1) := by decide +kernel
theorem jd_law_105 : decode code 105 = .ok (.iaload, 1) := by decide +kernel
theorem jd_law_106 : decode code 106 = .ok (.aload_n 0, 1) := by decide +kernel
theorem jd_law_107 : decode code 107 = .ok (.iload_n 3, 1) := by decide +kernel
theorem jd_law_108 : decode code 108 = .ok (.iconst 2, 1) := by decide +kernel
theorem jd_law_109 : decode code 109 = .ok (.iadd, 1) := by decide +kernel
theorem jd_law_110 : decode code 110 = .ok (.iaload, 1) := by decide +kernel
theorem jd_law_111 : decode code 111 = .ok (.i2l, 1) := by decide +kernel
theorem jd_law_112 : decode code 112 = .ok (.bipush 32, 2) := by decide +kernel
theorem jd_law_114 : decode code 114 = .ok (.lshl, 1) := by decide +kernel
theorem jd_law_115 : decode code 115 = .ok (.aload_n 0, 1) := by decide +kernel
theorem jd_law_116 : decode code 116 = .ok (.iload_n 3, 1) := by decide +kernel
theorem jd_law_117 : decode code 117 = .ok (.iconst 3, 1) := by decide +kernel
theorem jd_law_118 : decode code 118 = .ok (.iadd, 1) := by decide +kernel
theorem jd_law_119 : decode code 119 = .ok (.iaload, 1) := by decide +kernel
theorem jd_law_120 : decode code 120 = .ok (.i2l, 1) := by decide +kernel
theorem jd_law_121 : decode code 121 = .ok (.ldc2_w 13, 3) := by decide +kernel
theorem jd_law_124 : decode code 124 = .ok (.land, 1) := by decide +kernel
theorem jd_law_125 : decode code 125 = .ok (.lor, 1) := by decide +kernel
theorem jd_law_126 : decode code 126 = .ok (.invokevirtual 15, 3) := by decide +kernel
theorem jd_law_129 : decode code 129 = .ok (.aload_n 2, 1) := by decide +kernel
theorem jd_law_130 : decode code 130 = .ok (.aload_n 0, 1) := by decide +kernel
theorem jd_law_131 : decode code 131 = .ok (.iload_n 3, 1) := by decide +kernel
theorem jd_law_132 : decode code 132 = .ok (.iconst 1, 1) := by decide +kernel
theorem jd_law_133 : decode code 133 = .ok (.iadd, 1) := by decide +kernel
theorem jd_law_134 : decode code 134 = .ok (.iaload, 1) := by decide +kernel
theorem jd_law_135 : decode code 135 = .ok (.aload_n 0, 1) := by decide +kernel
theorem jd_law_136 : decode code 136 = .ok (.iload_n 3, 1) := by decide +kernel
theorem jd_law_137 : decode code 137 = .ok (.iconst 2, 1) := by decide +kernel
theorem jd_law_138 : decode code 138 = .ok (.iadd, 1) := by decide +kernel
theorem jd_law_139 : decode code 139 = .ok (.iaload, 1) := by decide +kernel
theorem jd_law_140 : decode code 140 = .ok (.i2l, 1) := by decide +kernel
theorem jd_law_141 : decode code 141 = .ok (.bipush 32, 2) := by decide +kernel
theorem jd_law_143 : decode code 143 = .ok (.lshl, 1) := by decide +kernel
theorem jd_law_144 : decode code 144 = .ok (.aload_n 0, 1) := by decide +kernel
theorem jd_law_145 : decode code 145 = .ok (.iload_n 3, 1) := by decide +kernel
theorem jd_law_146 : decode code 146 = .ok (.iconst 3, 1) := by decide +kernel
theorem jd_law_147 : decode code 147 = .ok (.iadd, 1) := by decide +kernel
theorem jd_law_148 : decode code 148 = .ok (.iaload, 1) := by decide +kernel
theorem jd_law_149 : decode code 149 = .ok (.i2l, 1) := by decide +kernel
theorem jd_law_150 : decode code 150 = .ok (.ldc2_w 13, 3) := by decide +kernel
theorem jd_law_153 : decode code 153 = .ok (.land, 1) := by decide +kernel
theorem jd_law_154 : decode code 154 = .ok (.lor, 1) := by decide +kernel
theorem jd_law_155 : decode code 155 = .ok (.invokevirtual 19, 3) := by decide +kernel
theorem jd_law_158 : decode code 158 = .ok (.if_icmp .eq 429, 3) := by decide +kernel
theorem jd_law_161 : decode code 161 = .ok (.iconst 0, 1) := by decide +kernel
theorem jd_law_162 : decode code 162 = .ok (.ireturn, 1) := by decide +kernel
theorem jd_law_163 : decode code 163 = .ok (.aload_n 1, 1) := by decide +kernel
theorem jd_law_164 : decode code 164 = .ok (.aload_n 0, 1) := by decide +kernel
theorem jd_law_165 : decode code 165 = .ok (.iload_n 3, 1) := by decide +kernel
theorem jd_law_166 : decode code 166 = .ok (.iconst 1, 1) := by decide +kernel
theorem jd_law_167 : decode code 167 = .ok (.iadd, 1) := by decide +kernel
theorem jd_law_168 : decode code 168 = .ok (.iaload, 1) := by decide +kernel
theorem jd_law_169 : decode code 169 = .ok (.invokevirtual 20, 3) := by decide +kernel
theorem jd_law_172 : decode code 172 = .ok (.aload_n 2, 1) := by decide +kernel
theorem jd_law_173 : decode code 173 = .ok (.aload_n 0, 1) := by decide +kernel
theorem jd_law_174 : decode code 174 = .ok (.iload_n 3, 1) := by decide +kernel
theorem jd_law_175 : decode code 175 = .ok (.iconst 1, 1) := by decide +kernel
theorem jd_law_176 : decode code 176 = .ok (.iadd, 1) := by decide +kernel
theorem jd_law_177 : decode code 177 = .ok (.iaload, 1) := by decide +kernel
theorem jd_law_178 : decode code 178 = .ok (.invokevirtual 24, 3) := by decide +kernel
theorem jd_law_181 : decode code 181 = .ok (.if_icmp .eq 406, 3) := by decide +kernel
theorem jd_law_184 : decode code 184 = .ok (.iconst 0, 1) := by decide +kernel
theorem jd_law_185 : decode code 185 = .ok (.ireturn, 1) := by decide +kernel
theorem jd_law_186 : decode code 186 = .ok (.aload_n 1, 1) := by decide +kernel
theorem jd_law_187 : decode code 187 = .ok (.aload_n 0, 1) := by decide +kernel
theorem jd_law_188 : decode code 188 = .ok (.iload_n 3, 1) := by decide +kernel
theorem jd_law_189 : decode code 189 = .ok (.iconst 1, 1) := by decide +kernel
theorem jd_law_190 : decode code 190 = .ok (.iadd, 1) := by decide +kernel
theorem jd_law_191 : decode code 191 = .ok (.iaload, 1) := by decide +kernel
theorem jd_law_192 : decode code 192 = .ok (.aload_n 0, 1) := by decide +kernel
theorem jd_law_193 : decode code 193 = .ok (.iload_n 3, 1) := by decide +kernel
theorem jd_law_194 : decode code 194 = .ok (.iconst 2, 1) := by decide +kernel
theorem jd_law_195 : decode code 195 = .ok (.iadd, 1) := by decide +kernel
theorem jd_law_196 : decode code 196 = .ok (.iaload, 1) := by decide +kernel
theorem jd_law_197 : decode code 197 = .ok (.invokevirtual 25, 3) := by decide +kernel
theorem jd_law_200 : decode code 200 = .ok (.aload_n 2, 1) := by decide +kernel
theorem jd_law_201 : decode code 201 = .ok (.aload_n 0, 1) := by decide +kernel
theorem jd_law_202 : decode code 202 = .ok (.iload_n 3, 1) := by decide +kernel
theorem jd_law_203 : decode code 203 = .ok (.iconst 1, 1) := by decide +kernel
theorem jd_law_204 : decode code 204 = .ok (.iadd, 1) := by decide +kernel
theorem jd_law_205 : decode code 205 = .ok (.iaload, 1) := by decide +kernel
theorem jd_law_206 : decode code 206 = .ok (.aload_n 0, 1) := by decide +kernel
theorem jd_law_207 : decode code 207 = .ok (.iload_n 3, 1) := by decide +kernel
theorem jd_law_208 : decode code 208 = .ok (.iconst 2, 1) := by decide +kernel
theorem jd_law_209 : decode code 209 = .ok (.iadd, 1) := by decide +kernel
theorem jd_law_210 : decode code 210 = .ok (.iaload, 1) := by decide +kernel
theorem jd_law_211 : decode code 211 = .ok (.invokevirtual 29, 3) := by decide +kernel
theorem jd_law_214 : decode code 214 = .ok (.if_icmp .eq 373, 3) := by decide +kernel
theorem jd_law_217 : decode code 217 = .ok (.iconst 0, 1) := by decide +kernel
theorem jd_law_218 : decode code 218 = .ok (.ireturn, 1) := by decide +kernel
theorem jd_law_219 : decode code 219 = .ok (.aload_n 1, 1) := by decide +kernel
theorem jd_law_220 : decode code 220 = .ok (.aload_n 0, 1) := by decide +kernel
theorem jd_law_221 : decode code 221 = .ok (.iload_n 3, 1) := by decide +kernel
theorem jd_law_222 : decode code 222 = .ok (.iconst 1, 1) := by decide +kernel
theorem jd_law_223 : decode code 223 = .ok (.iadd, 1) := by decide +kernel
theorem jd_law_224 : decode code 224 = .ok (.iaload, 1) := by decide +kernel
theorem jd_law_225 : decode code 225 = .ok (.invokevirtual 30, 3) := by decide +kernel
theorem jd_law_228 : decode code 228 = .ok (.aload_n 2, 1) := by decide +kernel
theorem jd_law_229 : decode code 229 = .ok (.aload_n 0, 1) := by decide +kernel
theorem jd_law_230 : decode code 230 = .ok (.iload_n 3, 1) := by decide +kernel
theorem jd_law_231 : decode code 231 = .ok (.iconst 1, 1) := by decide +kernel
theorem jd_law_232 : decode code 232 = .ok (.iadd, 1) := by decide +kernel
theorem jd_law_233 : decode code 233 = .ok (.iaload, 1) := by decide +kernel
theorem jd_law_234 : decode code 234 = .ok (.invokevirtual 33, 3) := by decide +kernel
theorem jd_law_237 : decode code 237 = .ok (.if_icmp .eq 350, 3) := by decide +kernel
theorem jd_law_240 : decode code 240 = .ok (.iconst 0, 1) := by decide +kernel
theorem jd_law_241 : decode code 241 = .ok (.ireturn, 1) := by decide +kernel
theorem jd_law_242 : decode code 242 = .ok (.aload_n 1, 1) := by decide +kernel
theorem jd_law_243 : decode code 243 = .ok (.aload_n 0, 1) := by decide +kernel
theorem jd_law_244 : decode code 244 = .ok (.iload_n 3, 1) := by decide +kernel
theorem jd_law_245 : decode code 245 = .ok (.iconst 1, 1) := by decide +kernel
theorem jd_law_246 : decode code 246 = .ok (.iadd, 1) := by decide +kernel
theorem jd_law_247 : decode code 247 = .ok (.iaload, 1) := by decide +kernel
theorem jd_law_248 : decode code 248 = .ok (.aload_n 0, 1) := by decide +kernel
theorem jd_law_249 : decode code 249 = .ok (.iload_n 3, 1) := by decide +kernel
theorem jd_law_250 : decode code 250 = .ok (.iconst 2, 1) := by decide +kernel
theorem jd_law_251 : decode code 251 = .ok (.iadd, 1) := by decide +kernel
theorem jd_law_252 : decode code 252 = .ok (.iaload, 1) := by decide +kernel
theorem jd_law_253 : decode code 253 = .ok (.aload_n 0, 1) := by decide +kernel
theorem jd_law_254 : decode code 254 = .ok (.iload_n 3, 1) := by decide +kernel
theorem jd_law_255 : decode code 255 = .ok (.iconst 3, 1) := by decide +kernel
theorem jd_law_256 : decode code 256 = .ok (.iadd, 1) := by decide +kernel
theorem jd_law_257 : decode code 257 = .ok (.iaload, 1) := by decide +kernel
theorem jd_law_258 : decode code 258 = .ok (.invokevirtual 34, 3) := by decide +kernel
theorem jd_law_261 : decode code 261 = .ok (.aload_n 2, 1) := by decide +kernel
theorem jd_law_262 : decode code 262 = .ok (.aload_n 0, 1) := by decide +kernel
theorem jd_law_263 : decode code 263 = .ok (.iload_n 3, 1) := by decide +kernel
theorem jd_law_264 : decode code 264 = .ok (.iconst 1, 1) := by decide +kernel
theorem jd_law_265 : decode code 265 = .ok (.iadd, 1) := by decide +kernel
theorem jd_law_266 : decode code 266 = .ok (.iaload, 1) := by decide +kernel
theorem jd_law_267 : decode code 267 = .ok (.aload_n 0, 1) := by decide +kernel
theorem jd_law_268 : decode code 268 = .ok (.iload_n 3, 1) := by decide +kernel
theorem jd_law_269 : decode code 269 = .ok (.iconst 2, 1) := by decide +kernel
theorem jd_law_270 : decode code 270 = .ok (.iadd, 1) := by decide +kernel
theorem jd_law_271 : decode code 271 = .ok (.iaload, 1) := by decide +kernel
theorem jd_law_272 : decode code 272 = .ok (.aload_n 0, 1) := by decide +kernel
theorem jd_law_273 : decode code 273 = .ok (.iload_n 3, 1) := by decide +kernel
theorem jd_law_274 : decode code 274 = .ok (.iconst 3, 1) := by decide +kernel
theorem jd_law_275 : decode code 275 = .ok (.iadd, 1) := by decide +kernel
theorem jd_law_276 : decode code 276 = .ok (.iaload, 1) := by decide +kernel
theorem jd_law_277 : decode code 277 = .ok (.invokevirtual 38, 3) := by decide +kernel
theorem jd_law_280 : decode code 280 = .ok (.if_icmp .eq 307, 3) := by decide +kernel
theorem jd_law_283 : decode code 283 = .ok (.iconst 0, 1) := by decide +kernel
theorem jd_law_284 : decode code 284 = .ok (.ireturn, 1) := by decide +kernel
theorem jd_law_285 : decode code 285 = .ok (.aload_n 1, 1) := by decide +kernel
theorem jd_law_286 : decode code 286 = .ok (.aload_n 0, 1) := by decide +kernel
theorem jd_law_287 : decode code 287 = .ok (.iload_n 3, 1) := by decide +kernel
theorem jd_law_288 : decode code 288 = .ok (.iconst 1, 1) := by decide +kernel
theorem jd_law_289 : decode code 289 = .ok (.iadd, 1) := by decide +kernel
theorem jd_law_290 : decode code 290 = .ok (.iaload, 1) := by decide +kernel
theorem jd_law_291 : decode code 291 = .ok (.aload_n 0, 1) := by decide +kernel
theorem jd_law_292 : decode code 292 = .ok (.iload_n 3, 1) := by decide +kernel
theorem jd_law_293 : decode code 293 = .ok (.iconst 2, 1) := by decide +kernel
theorem jd_law_294 : decode code 294 = .ok (.iadd, 1) := by decide +kernel
theorem jd_law_295 : decode code 295 = .ok (.iaload, 1) := by decide +kernel
theorem jd_law_296 : decode code 296 = .ok (.invokevirtual 39, 3) := by decide +kernel
theorem jd_law_299 : decode code 299 = .ok (.aload_n 2, 1) := by decide +kernel
theorem jd_law_300 : decode code 300 = .ok (.aload_n 0, 1) := by decide +kernel
theorem jd_law_301 : decode code 301 = .ok (.iload_n 3, 1) := by decide +kernel
theorem jd_law_302 : decode code 302 = .ok (.iconst 1, 1) := by decide +kernel
theorem jd_law_303 : decode code 303 = .ok (.iadd, 1) := by decide +kernel
theorem jd_law_304 : decode code 304 = .ok (.iaload, 1) := by decide +kernel
theorem jd_law_305 : decode code 305 = .ok (.aload_n 0, 1) := by decide +kernel
theorem jd_law_306 : decode code 306 = .ok (.iload_n 3, 1) := by decide +kernel
theorem jd_law_307 : decode code 307 = .ok (.iconst 2, 1) := by decide +kernel
theorem jd_law_308 : decode code 308 = .ok (.iadd, 1) := by decide +kernel
theorem jd_law_309 : decode code 309 = .ok (.iaload, 1) := by decide +kernel
theorem jd_law_310 : decode code 310 = .ok (.invokevirtual 42, 3) := by decide +kernel
theorem jd_law_313 : decode code 313 = .ok (.if_icmp .eq 274, 3) := by decide +kernel
theorem jd_law_316 : decode code 316 = .ok (.iconst 0, 1) := by decide +kernel
theorem jd_law_317 : decode code 317 = .ok (.ireturn, 1) := by decide +kernel
theorem jd_law_318 : decode code 318 = .ok (.aload_n 1, 1) := by decide +kernel
theorem jd_law_319 : decode code 319 = .ok (.aload_n 0, 1) := by decide +kernel
theorem jd_law_320 : decode code 320 = .ok (.iload_n 3, 1) := by decide +kernel
theorem jd_law_321 : decode code 321 = .ok (.iconst 1, 1) := by decide +kernel
theorem jd_law_322 : decode code 322 = .ok (.iadd, 1) := by decide +kernel
theorem jd_law_323 : decode code 323 = .ok (.iaload, 1) := by decide +kernel
theorem jd_law_324 : decode code 324 = .ok (.aload_n 0, 1) := by decide +kernel
theorem jd_law_325 : decode code 325 = .ok (.iload_n 3, 1) := by decide +kernel
theorem jd_law_326 : decode code 326 = .ok (.iconst 2, 1) := by decide +kernel
theorem jd_law_327 : decode code 327 = .ok (.iadd, 1) := by decide +kernel
theorem jd_law_328 : decode code 328 = .ok (.iaload, 1) := by decide +kernel
theorem jd_law_329 : decode code 329 = .ok (.ifCond .eq 7, 3) := by decide +kernel
theorem jd_law_332 : decode code 332 = .ok (.iconst 1, 1) := by decide +kernel
theorem jd_law_333 : decode code 333 = .ok (.goto 4, 3) := by decide +kernel
theorem jd_law_336 : decode code 336 = .ok (.iconst 0, 1) := by decide +kernel
theorem jd_law_337 : decode code 337 = .ok (.aload_n 0, 1) := by decide +kernel
theorem jd_law_338 : decode code 338 = .ok (.iload_n 3, 1) := by decide +kernel
theorem jd_law_339 : decode code 339 = .ok (.iconst 3, 1) := by decide +kernel
theorem jd_law_340 : decode code 340 = .ok (.iadd, 1) := by decide +kernel
theorem jd_law_341 : decode code 341 = .ok (.iaload, 1) := by decide +kernel
theorem jd_law_342 : decode code 342 = .ok (.i2l, 1) := by decide +kernel
theorem jd_law_343 : decode code 343 = .ok (.bipush 32, 2) := by decide +kernel
theorem jd_law_345 : decode code 345 = .ok (.lshl, 1) := by decide +kernel
theorem jd_law_346 : decode code 346 = .ok (.aload_n 0, 1) := by decide +kernel
theorem jd_law_347 : decode code 347 = .ok (.iload_n 3, 1) := by decide +kernel
theorem jd_law_348 : decode code 348 = .ok (.iconst 4, 1) := by decide +kernel
theorem jd_law_349 : decode code 349 = .ok (.iadd, 1) := by decide +kernel
theorem jd_law_350 : decode code 350 = .ok (.iaload, 1) := by decide +kernel
theorem jd_law_351 : decode code 351 = .ok (.i2l, 1) := by decide +kernel
theorem jd_law_352 : decode code 352 = .ok (.ldc2_w 13, 3) := by decide +kernel
theorem jd_law_355 : decode code 355 = .ok (.land, 1) := by decide +kernel
theorem jd_law_356 : decode code 356 = .ok (.lor, 1) := by decide +kernel
theorem jd_law_357 : decode code 357 = .ok (.invokevirtual 43, 3) := by decide +kernel
theorem jd_law_360 : decode code 360 = .ok (.aload_n 2, 1) := by decide +kernel
theorem jd_law_361 : decode code 361 = .ok (.aload_n 0, 1) := by decide +kernel
theorem jd_law_362 : decode code 362 = .ok (.iload_n 3, 1) := by decide +kernel
theorem jd_law_363 : decode code 363 = .ok (.iconst 1, 1) := by decide +kernel
theorem jd_law_364 : decode code 364 = .ok (.iadd, 1) := by decide +kernel
theorem jd_law_365 : decode code 365 = .ok (.iaload, 1) := by decide +kernel
theorem jd_law_366 : decode code 366 = .ok (.aload_n 0, 1) := by decide +kernel
theorem jd_law_367 : decode code 367 = .ok (.iload_n 3, 1) := by decide +kernel
theorem jd_law_368 : decode code 368 = .ok (.iconst 2, 1) := by decide +kernel
theorem jd_law_369 : decode code 369 = .ok (.iadd, 1) := by decide +kernel
theorem jd_law_370 : decode code 370 = .ok (.iaload, 1) := by decide +kernel
theorem jd_law_371 : decode code 371 = .ok (.ifCond .eq 7, 3) := by decide +kernel
theorem jd_law_374 : decode code 374 = .ok (.iconst 1, 1) := by decide +kernel
theorem jd_law_375 : decode code 375 = .ok (.goto 4, 3) := by decide +kernel
theorem jd_law_378 : decode code 378 = .ok (.iconst 0, 1) := by decide +kernel
theorem jd_law_379 : decode code 379 = .ok (.aload_n 0, 1) := by decide +kernel
theorem jd_law_380 : decode code 380 = .ok (.iload_n 3, 1) := by decide +kernel
theorem jd_law_381 : decode code 381 = .ok (.iconst 3, 1) := by decide +kernel
theorem jd_law_382 : decode code 382 = .ok (.iadd, 1) := by decide +kernel
theorem jd_law_383 : decode code 383 = .ok (.iaload, 1) := by decide +kernel
theorem jd_law_384 : decode code 384 = .ok (.i2l, 1) := by decide +kernel
theorem jd_law_385 : decode code 385 = .ok (.bipush 32, 2) := by decide +kernel
theorem jd_law_387 : decode code 387 = .ok (.lshl, 1) := by decide +kernel
theorem jd_law_388 : decode code 388 = .ok (.aload_n 0, 1) := by decide +kernel
theorem jd_law_389 : decode code 389 = .ok (.iload_n 3, 1) := by decide +kernel
theorem jd_law_390 : decode code 390 = .ok (.iconst 4, 1) := by decide +kernel
theorem jd_law_391 : decode code 391 = .ok (.iadd, 1) := by decide +kernel
theorem jd_law_392 : decode code 392 = .ok (.iaload, 1) := by decide +kernel
theorem jd_law_393 : decode code 393 = .ok (.i2l, 1) := by decide +kernel
theorem jd_law_394 : decode code 394 = .ok (.ldc2_w 13, 3) := by decide +kernel
theorem jd_law_397 : decode code 397 = .ok (.land, 1) := by decide +kernel
theorem jd_law_398 : decode code 398 = .ok (.lor, 1) := by decide +kernel
theorem jd_law_399 : decode code 399 = .ok (.invokevirtual 47, 3) := by decide +kernel
theorem jd_law_402 : decode code 402 = .ok (.if_icmp .eq 185, 3) := by decide +kernel
theorem jd_law_405 : decode code 405 = .ok (.iconst 0, 1) := by decide +kernel
theorem jd_law_406 : decode code 406 = .ok (.ireturn, 1) := by decide +kernel
theorem jd_law_407 : decode code 407 = .ok (.aload_n 1, 1) := by decide +kernel
theorem jd_law_408 : decode code 408 = .ok (.aload_n 0, 1) := by decide +kernel
theorem jd_law_409 : decode code 409 = .ok (.iload_n 3, 1) := by decide +kernel
theorem jd_law_410 : decode code 410 = .ok (.iconst 1, 1) := by decide +kernel
theorem jd_law_411 : decode code 411 = .ok (.iadd, 1) := by decide +kernel
theorem jd_law_412 : decode code 412 = .ok (.iaload, 1) := by decide +kernel
theorem jd_law_413 : decode code 413 = .ok (.invokevirtual 48, 3) := by decide +kernel
theorem jd_law_416 : decode code 416 = .ok (.aload_n 2, 1) := by decide +kernel
theorem jd_law_417 : decode code 417 = .ok (.aload_n 0, 1) := by decide +kernel
theorem jd_law_418 : decode code 418 = .ok (.iload_n 3, 1) := by decide +kernel
theorem jd_law_419 : decode code 419 = .ok (.iconst 1, 1) := by decide +kernel
theorem jd_law_420 : decode code 420 = .ok (.iadd, 1) := by decide +kernel
theorem jd_law_421 : decode code 421 = .ok (.iaload, 1) := by decide +kernel
theorem jd_law_422 : decode code 422 = .ok (.invokevirtual 52, 3) := by decide +kernel
theorem jd_law_425 : decode code 425 = .ok (.lcmp, 1) := by decide +kernel
theorem jd_law_426 : decode code 426 = .ok (.ifCond .eq 161, 3) := by decide +kernel
theorem jd_law_429 : decode code 429 = .ok (.iconst 0, 1) := by decide +kernel
theorem jd_law_430 : decode code 430 = .ok (.ireturn, 1) := by decide +kernel
theorem jd_law_431 : decode code 431 = .ok (.aload_n 1, 1) := by decide +kernel
theorem jd_law_432 : decode code 432 = .ok (.aload_n 0, 1) := by decide +kernel
theorem jd_law_433 : decode code 433 = .ok (.iload_n 3, 1) := by decide +kernel
theorem jd_law_434 : decode code 434 = .ok (.iconst 1, 1) := by decide +kernel
theorem jd_law_435 : decode code 435 = .ok (.iadd, 1) := by decide +kernel
theorem jd_law_436 : decode code 436 = .ok (.iaload, 1) := by decide +kernel
theorem jd_law_437 : decode code 437 = .ok (.aload_n 0, 1) := by decide +kernel
theorem jd_law_438 : decode code 438 = .ok (.iload_n 3, 1) := by decide +kernel
theorem jd_law_439 : decode code 439 = .ok (.iconst 2, 1) := by decide +kernel
theorem jd_law_440 : decode code 440 = .ok (.iadd, 1) := by decide +kernel
theorem jd_law_441 : decode code 441 = .ok (.iaload, 1) := by decide +kernel
theorem jd_law_442 : decode code 442 = .ok (.invokevirtual 53, 3) := by decide +kernel
theorem jd_law_445 : decode code 445 = .ok (.aload_n 2, 1) := by decide +kernel
theorem jd_law_446 : decode code 446 = .ok (.aload_n 0, 1) := by decide +kernel
theorem jd_law_447 : decode code 447 = .ok (.iload_n 3, 1) := by decide +kernel
theorem jd_law_448 : decode code 448 = .ok (.iconst 1, 1) := by decide +kernel
theorem jd_law_449 : decode code 449 = .ok (.iadd, 1) := by decide +kernel
theorem jd_law_450 : decode code 450 = .ok (.iaload, 1) := by decide +kernel
theorem jd_law_451 : decode code 451 = .ok (.aload_n 0, 1) := by decide +kernel
theorem jd_law_452 : decode code 452 = .ok (.iload_n 3, 1) := by decide +kernel
theorem jd_law_453 : decode code 453 = .ok (.iconst 2, 1) := by decide +kernel
theorem jd_law_454 : decode code 454 = .ok (.iadd, 1) := by decide +kernel
theorem jd_law_455 : decode code 455 = .ok (.iaload, 1) := by decide +kernel
theorem jd_law_456 : decode code 456 = .ok (.invokevirtual 57, 3) := by decide +kernel
theorem jd_law_459 : decode code 459 = .ok (.lcmp, 1) := by decide +kernel
theorem jd_law_460 : decode code 460 = .ok (.ifCond .eq 127, 3) := by decide +kernel
theorem jd_law_463 : decode code 463 = .ok (.iconst 0, 1) := by decide +kernel
theorem jd_law_464 : decode code 464 = .ok (.ireturn, 1) := by decide +kernel
theorem jd_law_465 : decode code 465 = .ok (.aload_n 1, 1) := by decide +kernel
theorem jd_law_466 : decode code 466 = .ok (.aload_n 0, 1) := by decide +kernel
theorem jd_law_467 : decode code 467 = .ok (.iload_n 3, 1) := by decide +kernel
theorem jd_law_468 : decode code 468 = .ok (.iconst 1, 1) := by decide +kernel
theorem jd_law_469 : decode code 469 = .ok (.iadd, 1) := by decide +kernel
theorem jd_law_470 : decode code 470 = .ok (.iaload, 1) := by decide +kernel
theorem jd_law_471 : decode code 471 = .ok (.invokevirtual 58, 3) := by decide +kernel
theorem jd_law_474 : decode code 474 = .ok (.aload_n 2, 1) := by decide +kernel
theorem jd_law_475 : decode code 475 = .ok (.aload_n 0, 1) := by decide +kernel
theorem jd_law_476 : decode code 476 = .ok (.iload_n 3, 1) := by decide +kernel
theorem jd_law_477 : decode code 477 = .ok (.iconst 1, 1) := by decide +kernel
theorem jd_law_478 : decode code 478 = .ok (.iadd, 1) := by decide +kernel
theorem jd_law_479 : decode code 479 = .ok (.iaload, 1) := by decide +kernel
theorem jd_law_480 : decode code 480 = .ok (.invokevirtual 61, 3) := by decide +kernel
theorem jd_law_483 : decode code 483 = .ok (.if_icmp .eq 104, 3) := by decide +kernel
theorem jd_law_486 : decode code 486 = .ok (.iconst 0, 1) := by decide +kernel
theorem jd_law_487 : decode code 487 = .ok (.ireturn, 1) := by decide +kernel
theorem jd_law_488 : decode code 488 = .ok (.aload_n 1, 1) := by decide +kernel
theorem jd_law_489 : decode code 489 = .ok (.aload_n 0, 1) := by decide +kernel
theorem jd_law_490 : decode code 490 = .ok (.iload_n 3, 1) := by decide +kernel
theorem jd_law_491 : decode code 491 = .ok (.iconst 1, 1) := by decide +kernel
theorem jd_law_492 : decode code 492 = .ok (.iadd, 1) := by decide +kernel
theorem jd_law_493 : decode code 493 = .ok (.iaload, 1) := by decide +kernel
theorem jd_law_494 : decode code 494 = .ok (.aload_n 0, 1) := by decide +kernel
theorem jd_law_495 : decode code 495 = .ok (.iload_n 3, 1) := by decide +kernel
theorem jd_law_496 : decode code 496 = .ok (.iconst 2, 1) := by decide +kernel
theorem jd_law_497 : decode code 497 = .ok (.iadd, 1) := by decide +kernel
theorem jd_law_498 : decode code 498 = .ok (.iaload, 1) := by decide +kernel
theorem jd_law_499 : decode code 499 = .ok (.invokevirtual 62, 3) := by decide +kernel
theorem jd_law_502 : decode code 502 = .ok (.aload_n 2, 1) := by decide +kernel
theorem jd_law_503 : decode code 503 = .ok (.aload_n 0, 1) := by decide +kernel
theorem jd_law_504 : decode code 504 = .ok (.iload_n 3, 1) := by decide +kernel
theorem jd_law_505 : decode code 505 = .ok (.iconst 1, 1) := by decide +kernel
theorem jd_law_506 : decode code 506 = .ok (.iadd, 1) := by decide +kernel
theorem jd_law_507 : decode code 507 = .ok (.iaload, 1) := by decide +kernel
theorem jd_law_508 : decode code 508 = .ok (.aload_n 0, 1) := by decide +kernel
theorem jd_law_509 : decode code 509 = .ok (.iload_n 3, 1) := by decide +kernel
theorem jd_law_510 : decode code 510 = .ok (.iconst 2, 1) := by decide +kernel
theorem jd_law_511 : decode code 511 = .ok (.iadd, 1) := by decide +kernel
theorem jd_law_512 : decode code 512 = .ok (.iaload, 1) := by decide +kernel
theorem jd_law_513 : decode code 513 = .ok (.invokevirtual 65, 3) := by decide +kernel
theorem jd_law_516 : decode code 516 = .ok (.if_icmp .eq 71, 3) := by decide +kernel
theorem jd_law_519 : decode code 519 = .ok (.iconst 0, 1) := by decide +kernel
theorem jd_law_520 : decode code 520 = .ok (.ireturn, 1) := by decide +kernel
theorem jd_law_521 : decode code 521 = .ok (.aload_n 1, 1) := by decide +kernel
theorem jd_law_522 : decode code 522 = .ok (.aload_n 0, 1) := by decide +kernel
theorem jd_law_523 : decode code 523 = .ok (.iload_n 3, 1) := by decide +kernel
theorem jd_law_524 : decode code 524 = .ok (.iconst 1, 1) := by decide +kernel
theorem jd_law_525 : decode code 525 = .ok (.iadd, 1) := by decide +kernel
theorem jd_law_526 : decode code 526 = .ok (.iaload, 1) := by decide +kernel
theorem jd_law_527 : decode code 527 = .ok (.aload_n 0, 1) := by decide +kernel
theorem jd_law_528 : decode code 528 = .ok (.iload_n 3, 1) := by decide +kernel
theorem jd_law_529 : decode code 529 = .ok (.iconst 2, 1) := by decide +kernel
theorem jd_law_530 : decode code 530 = .ok (.iadd, 1) := by decide +kernel
theorem jd_law_531 : decode code 531 = .ok (.iaload, 1) := by decide +kernel
theorem jd_law_532 : decode code 532 = .ok (.invokevirtual 66, 3) := by decide +kernel
theorem jd_law_535 : decode code 535 = .ok (.aload_n 2, 1) := by decide +kernel
theorem jd_law_536 : decode code 536 = .ok (.aload_n 0, 1) := by decide +kernel
theorem jd_law_537 : decode code 537 = .ok (.iload_n 3, 1) := by decide +kernel
theorem jd_law_538 : decode code 538 = .ok (.iconst 1, 1) := by decide +kernel
theorem jd_law_539 : decode code 539 = .ok (.iadd, 1) := by decide +kernel
theorem jd_law_540 : decode code 540 = .ok (.iaload, 1) := by decide +kernel
theorem jd_law_541 : decode code 541 = .ok (.aload_n 0, 1) := by decide +kernel
theorem jd_law_542 : decode code 542 = .ok (.iload_n 3, 1) := by decide +kernel
theorem jd_law_543 : decode code 543 = .ok (.iconst 2, 1) := by decide +kernel
theorem jd_law_544 : decode code 544 = .ok (.iadd, 1) := by decide +kernel
theorem jd_law_545 : decode code 545 = .ok (.iaload, 1) := by decide +kernel
theorem jd_law_546 : decode code 546 = .ok (.invokevirtual 69, 3) := by decide +kernel
theorem jd_law_549 : decode code 549 = .ok (.if_icmp .eq 38, 3) := by decide +kernel
theorem jd_law_552 : decode code 552 = .ok (.iconst 0, 1) := by decide +kernel
theorem jd_law_553 : decode code 553 = .ok (.ireturn, 1) := by decide +kernel
theorem jd_law_554 : decode code 554 = .ok (.aload_n 1, 1) := by decide +kernel
theorem jd_law_555 : decode code 555 = .ok (.aload_n 0, 1) := by decide +kernel
theorem jd_law_556 : decode code 556 = .ok (.iload_n 3, 1) := by decide +kernel
theorem jd_law_557 : decode code 557 = .ok (.iconst 1, 1) := by decide +kernel
theorem jd_law_558 : decode code 558 = .ok (.iadd, 1) := by decide +kernel
theorem jd_law_559 : decode code 559 = .ok (.iaload, 1) := by decide +kernel
theorem jd_law_560 : decode code 560 = .ok (.aload_n 0, 1) := by decide +kernel
theorem jd_law_561 : decode code 561 = .ok (.iload_n 3, 1) := by decide +kernel
theorem jd_law_562 : decode code 562 = .ok (.iconst 2, 1) := by decide +kernel
theorem jd_law_563 : decode code 563 = .ok (.iadd, 1) := by decide +kernel
theorem jd_law_564 : decode code 564 = .ok (.iaload, 1) := by decide +kernel
theorem jd_law_565 : decode code 565 = .ok (.invokevirtual 70, 3) := by decide +kernel
theorem jd_law_568 : decode code 568 = .ok (.aload_n 2, 1) := by decide +kernel
theorem jd_law_569 : decode code 569 = .ok (.aload_n 0, 1) := by decide +kernel
theorem jd_law_570 : decode code 570 = .ok (.iload_n 3, 1) := by decide +kernel
theorem jd_law_571 : decode code 571 = .ok (.iconst 1, 1) := by decide +kernel
theorem jd_law_572 : decode code 572 = .ok (.iadd, 1) := by decide +kernel
theorem jd_law_573 : decode code 573 = .ok (.iaload, 1) := by decide +kernel
theorem jd_law_574 : decode code 574 = .ok (.aload_n 0, 1) := by decide +kernel
theorem jd_law_575 : decode code 575 = .ok (.iload_n 3, 1) := by decide +kernel
theorem jd_law_576 : decode code 576 = .ok (.iconst 2, 1) := by decide +kernel
theorem jd_law_577 : decode code 577 = .ok (.iadd, 1) := by decide +kernel
theorem jd_law_578 : decode code 578 = .ok (.iaload, 1) := by decide +kernel
theorem jd_law_579 : decode code 579 = .ok (.invokevirtual 73, 3) := by decide +kernel
theorem jd_law_582 : decode code 582 = .ok (.if_icmp .eq 5, 3) := by decide +kernel
theorem jd_law_585 : decode code 585 = .ok (.iconst 0, 1) := by decide +kernel
theorem jd_law_586 : decode code 586 = .ok (.ireturn, 1) := by decide +kernel
theorem jd_law_587 : decode code 587 = .ok (.iinc 3 5, 3) := by decide +kernel
theorem jd_law_590 : decode code 590 = .ok (.goto (-572), 3) := by decide +kernel
theorem jd_law_593 : decode code 593 = .ok (.iconst 1, 1) := by decide +kernel
theorem jd_law_594 : decode code 594 = .ok (.ireturn, 1) := by decide +kernel
theorem jd_JP_checkIndex_0 : decode prog_16_method_11_code 0 = .ok (.iload_n 0, 1) := by decide +kernel
theorem jd_JP_checkIndex_1 : decode prog_16_method_11_code 1 = .ok (.ifCond .lt 8, 3) := by decide +kernel
theorem jd_JP_checkIndex_4 : decode prog_16_method_11_code 4 = .ok (.iload_n 0, 1) := by decide +kernel
theorem jd_JP_checkIndex_5 : decode prog_16_method_11_code 5 = .ok (.iload_n 1, 1) := by decide +kernel
theorem jd_JP_checkIndex_6 : decode prog_16_method_11_code 6 = .ok (.if_icmp .lt 10, 3) := by decide +kernel
theorem jd_JP_checkIndex_9 : decode prog_16_method_11_code 9 = .ok (.aload_n 2, 1) := by decide +kernel
theorem jd_JP_checkIndex_10 : decode prog_16_method_11_code 10 = .ok (.iload_n 0, 1) := by decide +kernel
theorem jd_JP_checkIndex_11 : decode prog_16_method_11_code 11 = .ok (.iload_n 1, 1) := by decide +kernel
theorem jd_JP_checkIndex_12 : decode prog_16_method_11_code 12 = .ok (.invokestatic 95, 3) := by decide +kernel
theorem jd_JP_checkIndex_15 : decode prog_16_method_11_code 15 = .ok (.athrow, 1) := by decide +kernel
theorem jd_JP_checkIndex_16 : decode prog_16_method_11_code 16 = .ok (.iload_n 0, 1) := by decide +kernel
theorem jd_JP_checkIndex_17 : decode prog_16_method_11_code 17 = .ok (.ireturn, 1) := by decide +kernel
end
section
/-! numbers, texts as lists of codes -/
theorem nI_sub_toInt {a b : Nat} (ha : a < 2 ^ 30) (hb : b < 2 ^ 30) : (nI a - nI b).toInt = (a : Int) - b := pk_sub_toInt ha hb
/-- two texts: their first difference, or their lengths' -/
def cmpZ : List Nat → List Nat → Int
  | [], ys => -(ys.length : Int)
  | x :: xs, [] => ((x :: xs).length : Int)
  | x :: xs, y :: ys => if x = y then cmpZ xs ys else (x : Int) - y
theorem cmpZ_nil_r (xs : List Nat) : cmpZ xs [] = xs.length := by cases xs <;> simp [cmpZ]
theorem zs_eq {es es1 : zE} {i : Nat} {e e0 : va_E} (he : es1 = es.set i e) (h0 : es[i]? = some e0) : es1[i]? = some e := by
  rw [he]; exact List.getElem?_set_self (List.getElem?_eq_some_iff.mp h0).1
theorem zs_ne {es es1 : zE} {i j : Nat} {e x : va_E} (he : es1 = es.set i e) (h : i ≠ j) (hj : es[j]? = some x) : es1[j]? = some x := by
  rw [he, List.getElem?_set_ne h]; exact hj
/-- outside lo .. hi nothing has changed -/
def Fr (es es' : zE) (lo hi : Nat) : Prop := es'.length = es.length ∧ ∀ j, (j < lo ∨ hi ≤ j) → es'[j]? = es[j]?
theorem Fr.rf {es : zE} {lo hi : Nat} : Fr es es lo hi := ⟨rfl, fun _ _ => rfl⟩
theorem Fr.set {es es1 : zE} {i lo hi : Nat} {e : va_E} (he : es1 = es.set i e) (h1 : lo ≤ i) (h2 : i < hi) : Fr es es1 lo hi := by
  subst he
  exact ⟨List.length_set, fun j hj => List.getElem?_set_ne (by omega)⟩
theorem Fr.tr {es es1 es2 : zE} {lo hi lo1 hi1 lo2 hi2 : Nat} (a : Fr es es1 lo1 hi1) (b : Fr es1 es2 lo2 hi2) (h1 : lo ≤ lo1) (h2 : hi1 ≤ hi) (h3 : lo ≤ lo2) (h4 : hi2 ≤ hi) : Fr es es2 lo hi :=
  ⟨b.1.trans a.1, fun j hj => (b.2 j (by omega)).trans (a.2 j (by omega))⟩
theorem Fr.trs {es es1 es2 : zE} {lo hi : Nat} (a : Fr es es1 lo hi) (b : Fr es1 es2 lo hi) : Fr es es2 lo hi := a.tr b (Nat.le_refl _) (Nat.le_refl _) (Nat.le_refl _) (Nat.le_refl _)
theorem cle {a b : Nat} (h : nI a ≤ nI b) (ha : a < 2 ^ 31 := by omega) (hb : b < 2 ^ 31 := by omega) : a ≤ b := (nI_leI ha hb).mp h
theorem ncle {a b : Nat} (h : ¬ nI a ≤ nI b) (ha : a < 2 ^ 31 := by omega) (hb : b < 2 ^ 31 := by omega) : b < a := Nat.lt_of_not_le fun q => h ((nI_leI ha hb).mpr q)
theorem clt {a b : Nat} (h : nI a < nI b) (ha : a < 2 ^ 31 := by omega) (hb : b < 2 ^ 31 := by omega) : a < b := (nI_ltI ha hb).mp h
theorem nclt {a b : Nat} (h : ¬ nI a < nI b) (ha : a < 2 ^ 31 := by omega) (hb : b < 2 ^ 31 := by omega) : b ≤ a := Nat.le_of_not_lt fun q => h ((nI_ltI ha hb).mpr q)
theorem ceq {a b : Nat} (h : nI a = nI b) (ha : a < 2 ^ 31 := by omega) (hb : b < 2 ^ 31 := by omega) : a = b := (nI_eq ha hb).mp h
theorem nceq {a b : Nat} (h : ¬ nI a = nI b) : a ≠ b := fun q => h (by rw [q])
theorem Fr.at {es es1 : zE} {lo hi j : Nat} {e : va_E} (a : Fr es es1 lo hi) (h : j < lo ∨ hi ≤ j) (he : es[j]? = some e) : es1[j]? = some e := (a.2 j h).trans he
/-- a Text at the place p holds the codes xs -/
def tx (G : zG) (B : Nat) (es : zE) (p : Nat) (xs : List Nat) : Prop := ∃ f : Nat → Int32, es[p]? = some (.inr (1, [.ref (B + (p + 1)), .int (nI xs.length)])) ∧ es[p + 1]? = some (.inl (G.2.1 0, 24, .inl f)) ∧ xs.length ≤ 24 ∧ (∀ j, j < xs.length → f j = nI (xs.getD j 0)) ∧ (∀ x ∈ xs, x < 128)
theorem tx.kept {G : zG} {B : Nat} {es es' : zE} {p : Nat} {xs : List Nat} (h : tx G B es p xs) (hk : ∀ j, p ≤ j → j < p + 2 → es'[j]? = es[j]?) : tx G B es' p xs := by
  obtain ⟨f, h1, h2, h3⟩ := h
  exact ⟨f, (hk p (by omega) (by omega)).trans h1, (hk (p + 1) (by omega) (by omega)).trans h2, h3⟩
theorem tx.fr {G : zG} {B : Nat} {es es' : zE} {p lo hi : Nat} {xs : List Nat} (h : tx G B es p xs) (hk : Fr es es' lo hi) (ho : p + 2 ≤ lo ∨ hi ≤ p) : tx G B es' p xs := h.kept (fun j h1 h2 => hk.2 j (by omega))
theorem getD_lt {xs : List Nat} {j : Nat} (h : ∀ x ∈ xs, x < 128) : xs.getD j 0 < 128 := by
  by_cases hj : j < xs.length
  · rw [List.getD_eq_getElem?_getD, List.getElem?_eq_getElem hj]; exact h _ (List.getElem_mem hj)
  · rw [List.getD_eq_getElem?_getD, List.getElem?_eq_none (by omega)]; decide
theorem getD_oob {xs : List Nat} {j : Nat} (h : xs.length ≤ j) : xs.getD j 0 = 0 := by
  rw [List.getD_eq_getElem?_getD, List.getElem?_eq_none h]; rfl
/-- the sign at a place, 0 where there is none -/
def tat (xs : List Nat) (x : Int32) : Int32 := if x < 0 then 0 else nI (xs.getD x.toNatClampNeg 0)
theorem tat_nI {xs : List Nat} {j : Nat} (h : j < 2 ^ 31) : tat xs (nI j) = nI (xs.getD j 0) := by
  rw [tat, if_neg (nI_pos h), nI_clamp h]
set_option maxHeartbeats 4000000 in
set_option maxRecDepth 100000 in
/-- Text.at -/
theorem c_T_at (l : Launch) (G : zG) (B : Nat) {es : zE} {p : Nat} {xs : List Nat} {x : Int32} (h : tx G B es p xs) : Tr l G B jy_T_at jb_T_at 2 (some .int) 0 0 0 [.ref (B + p), .int x] es (pI fun v es' => v = tat xs x ∧ es' = es) := by
  obtain ⟨f, h1, h2, h3, h4, h5⟩ := h
  refine Tr.of (ls := [some (.ref (B + p)), some (.int x)]) (by decide +kernel) (Nat.le_of_ble_eq_true rfl) rfl ?_
  intro zp ze zs zm zb zt zc E
  refine z_iload_n (pc := 0) E jd_T_at_0 rfl rfl ?_
  refine z_if_lt (pc := 1) (tgt := 21) E jd_T_at_1 (by decide) (fun c1 => ?_) (fun c1 => ?_)
  · have hz : tat xs x = 0 := by rw [tat, if_pos c1]
    refine z_iconst (v := 0) (pc := 21) E jd_T_at_21 (by decide) ?_
    exact z_iret E jd_T_at_22 ⟨_, rfl, hz.symm, rfl⟩
  · obtain ⟨j, hj, rfl⟩ := nI_of c1
    refine z_iload_n (pc := 4) E jd_T_at_4 rfl rfl ?_
    refine z_aload_n (pc := 5) E jd_T_at_5 rfl rfl ?_
    refine z_get (pc := 6) E jf_T_15 jd_T_at_6 (by assumption) (by rfl) ?_
    refine z_icmp_ge (pc := 9) (tgt := 21) E jd_T_at_9 (by decide) (fun c9 => ?_) (fun c9 => ?_)
    · have hz : tat xs (nI j) = 0 := by rw [tat_nI hj, getD_oob (cle c9)]; rfl
      refine z_iconst (v := 0) (pc := 21) E jd_T_at_21 (by decide) ?_
      exact z_iret E jd_T_at_22 ⟨_, rfl, hz.symm, rfl⟩
    · have hj2 : j < xs.length := ncle c9
      have hz : tat xs (nI j) = f j := by rw [tat_nI hj, h4 j hj2]
      refine z_aload_n (pc := 12) E jd_T_at_12 rfl rfl ?_
      refine z_get (pc := 13) E jf_T_9 jd_T_at_13 (by assumption) (by rfl) ?_
      refine z_iload_n (pc := 16) E jd_T_at_16 rfl rfl ?_
      refine z_bald (ti := 0) (pc := 17) E rfl jd_T_at_17 (by assumption) (vp_in_nI (by omega) (by omega)) ?_
      rw [nI_clamp (by omega)]
      refine z_goto (pc := 18) (tgt := 22) E jd_T_at_18 (by decide) ?_
      exact z_iret E jd_T_at_22 ⟨_, rfl, hz.symm, rfl⟩
theorem nb_small : ∀ c, c < 128 → (nI c).toInt8.toInt32 = nI c := by decide +kernel
theorem nb_fit : ∀ c, c < 128 → fits .byte (.int (nI c)) = true := by decide +kernel
theorem getD_app_l {xs ys : List Nat} {j : Nat} (h : j < xs.length) : (xs ++ ys).getD j 0 = xs.getD j 0 := by
  rw [List.getD_eq_getElem?_getD, List.getElem?_append_left h, ← List.getD_eq_getElem?_getD]
theorem getD_app_r {xs ys : List Nat} {j : Nat} (h : xs.length ≤ j) : (xs ++ ys).getD j 0 = ys.getD (j - xs.length) 0 := by
  rw [List.getD_eq_getElem?_getD, List.getElem?_append_right h, ← List.getD_eq_getElem?_getD]
set_option maxHeartbeats 4000000 in
set_option maxRecDepth 100000 in
/-- Text.append -/
theorem c_T_append (l : Launch) (G : zG) (B : Nat) {es : zE} {p c : Nat} {xs : List Nat} (h : tx G B es p xs) (hl : xs.length < 24) (hc : c < 128) : Tr l G B jy_T_append jb_T_append 2 none 0 0 0 [.ref (B + p), .int (nI c)] es (pV fun es' => tx G B es' p (xs ++ [c]) ∧ Fr es es' p (p + 2)) := by
  obtain ⟨f, h1, h2, h3, h4, h5⟩ := h
  refine Tr.of (ls := [some (.ref (B + p)), some (.int (nI c))]) (by decide +kernel) (Nat.le_of_ble_eq_true rfl) rfl ?_
  intro zp ze zs zm zb zt zc E
  refine z_aload_n (pc := 0) E jd_T_append_0 rfl rfl ?_
  refine z_get (pc := 1) E jf_T_15 jd_T_append_1 (by assumption) (by rfl) ?_
  refine z_bipush (v := 24) (pc := 4) E jd_T_append_4 (by decide) ?_
  refine z_icmp_ge (pc := 6) (tgt := 30) E jd_T_append_6 (by decide) (fun c6 => ?_) (fun c6 => ?_)
  · exact absurd ((nI_leI (a := 24) (b := xs.length) (by omega) (by omega)).mp c6) (by omega)
  · refine z_aload_n (pc := 9) E jd_T_append_9 rfl rfl ?_
    refine z_get (pc := 10) E jf_T_9 jd_T_append_10 (by assumption) (by rfl) ?_
    refine z_aload_n (pc := 13) E jd_T_append_13 rfl rfl ?_
    refine z_get (pc := 14) E jf_T_15 jd_T_append_14 (by assumption) (by rfl) ?_
    refine z_iload_n (pc := 17) E jd_T_append_17 rfl rfl ?_
    refine z_i2b (pc := 18) E jd_T_append_18 ?_
    refine z_bast (ti := 0) (pc := 19) E rfl jd_T_append_19 (by assumption) (vp_in_nI (by omega) (by omega)) (fun es19 he19 => ?_)
    rw [nI_clamp (by omega)] at he19
    have g1 := zs_ne he19 (by omega) h1
    have g2 := zs_eq he19 h2
    refine z_aload_n (pc := 20) E jd_T_append_20 rfl rfl ?_
    refine z_dup (pc := 21) E jd_T_append_21 rfl ?_
    refine z_get (pc := 22) E jf_T_15 jd_T_append_22 (by assumption) (by rfl) ?_
    refine z_iconst (v := 1) (pc := 25) E jd_T_append_25 (by decide) ?_
    refine z_iadd (pc := 26) E jd_T_append_26 ?_
    refine z_put (pc := 27) E jp_T_15 jd_T_append_27 (by assumption) (Nat.le_of_ble_eq_true rfl) rfl rfl (fun es27 he27 => ?_)
    dsimp only [List.set] at he27
    have k1 := zs_eq he27 g1
    rw [nI_1] at k1
    have k2 := zs_ne he27 (by omega) g2
    have q1 : ∀ j, j < (xs ++ [c]).length → upd f xs.length (vp_nar .byte (nI c).toInt8.toInt32) j = nI ((xs ++ [c]).getD j 0) := by
      intro j hj
      rw [List.length_append] at hj
      have hj : j < xs.length + 1 := hj
      by_cases hjl : j = xs.length
      · subst hjl
        rw [pk_us, pk_vb, nb_small c hc, getD_app_r (Nat.le_refl _), Nat.sub_self]; rfl
      · rw [pk_un hjl, getD_app_l (by omega), h4 j (by omega)]
    have q2 : ∀ x ∈ xs ++ [c], x < 128 := by
      intro x hx
      rcases List.mem_append.mp hx with h | h
      · exact h5 x h
      · rw [List.mem_singleton.mp h]; exact hc
    have q3 : (xs ++ [c]).length = xs.length + 1 := by simp
    exact z_vret E jd_T_append_30 ⟨rfl, ⟨_, by rw [q3]; exact k1, k2, by omega, q1, q2⟩, (Fr.set he19 (by omega) (by omega)).trs (Fr.set he27 (by omega) (by omega))⟩
set_option maxHeartbeats 4000000 in
set_option maxRecDepth 100000 in
/-- Text.become -/
theorem c_T_become (l : Launch) (G : zG) (B : Nat) {es : zE} {p q : Nat} {xs ys : List Nat} (h : tx G B es p xs) (hq : tx G B es q ys) (hpq : p + 2 ≤ q ∨ q + 2 ≤ p) : Tr l G B jy_T_become jb_T_become 2 none 2 0 0 [.ref (B + p), .ref (B + q)] es (pV fun es' => tx G B es' p ys ∧ Fr es es' p (p + 2)) := by
  obtain ⟨f, h1, h2, h3, h4, h5⟩ := h
  obtain ⟨g, i1, i2, i3, i4, i5⟩ := hq
  refine Tr.of (ls := [some (.ref (B + p)), some (.ref (B + q))]) (by decide +kernel) (Nat.le_of_ble_eq_true rfl) rfl ?_
  intro zp ze zs zm zb zt zc E
  refine z_aload_n (pc := 0) E jd_T_become_0 rfl rfl ?_
  refine z_get (pc := 1) E jf_T_9 jd_T_become_1 (by assumption) (by rfl) ?_
  refine z_iconst (v := 0) (pc := 4) E jd_T_become_4 (by decide) ?_
  refine z_aload_n (pc := 5) E jd_T_become_5 rfl rfl ?_
  refine z_get (pc := 6) E jf_T_9 jd_T_become_6 (by assumption) (by rfl) ?_
  refine z_iconst (v := 0) (pc := 9) E jd_T_become_9 (by decide) ?_
  refine z_aload_n (pc := 10) E jd_T_become_10 rfl rfl ?_
  refine z_get (pc := 11) E jf_T_15 jd_T_become_11 (by assumption) (by rfl) ?_
  refine z_copy (ti := 0) (ty := .byte) (pc := 14) E ⟨jw_213, jw_215, jw_214, jw_9⟩ rfl rfl jd_T_become_14 i2 h2 (by decide) (by decide) (nI_pos (by omega)) (by rw [nI_clamp (by omega)]; show 0 + _ ≤ 24; omega) (by rw [nI_clamp (by omega)]; show 0 + _ ≤ 24; omega) (fun j hj => ?_) (by decide) (by decide) (fun es14 he14 => ?_)
  · rw [nI_clamp (by omega)] at hj
    show fits .byte (.int (g (0 + j))) = true
    rw [Nat.zero_add, i4 j hj]
    exact nb_fit _ (getD_lt i5)
  rw [nI_clamp (by omega)] at he14
  have g1 := zs_ne he14 (by omega) h1
  have g2 := zs_eq he14 h2
  have g3 := zs_ne he14 (by omega) i1
  refine z_aload_n (pc := 17) E jd_T_become_17 rfl rfl ?_
  refine z_aload_n (pc := 18) E jd_T_become_18 rfl rfl ?_
  refine z_get (pc := 19) E jf_T_15 jd_T_become_19 (by assumption) (by rfl) ?_
  refine z_put (pc := 22) E jp_T_15 jd_T_become_22 (by assumption) (Nat.le_of_ble_eq_true rfl) rfl rfl (fun es22 he22 => ?_)
  dsimp only [List.set] at he22
  have k1 := zs_eq he22 g1
  have k2 := zs_ne he22 (by omega) g2
  have q1 : ∀ j, j < ys.length → va_cpy g f (0 : Int32).toNatClampNeg (0 : Int32).toNatClampNeg ys.length j = nI (ys.getD j 0) := by
    intro j hj
    rw [pk_cpy_in (by show 0 ≤ j; omega) (by show j < 0 + _; omega)]
    show g (0 + (j - 0)) = _
    rw [show 0 + (j - 0) = j by omega, i4 j hj]
  exact z_vret E jd_T_become_25 ⟨rfl, ⟨_, k1, k2, i3, q1, i5⟩, (Fr.set he14 (by omega) (by omega)).trs (Fr.set he22 (by omega) (by omega))⟩
theorem drop_cons_getD {xs : List Nat} {i : Nat} (h : i < xs.length) : xs.drop i = xs.getD i 0 :: xs.drop (i + 1) := by
  rw [List.drop_eq_getElem_cons h, List.getD_eq_getElem?_getD, List.getElem?_eq_getElem h]; rfl
set_option maxHeartbeats 4000000 in
set_option maxRecDepth 100000 in
/-- Text.compareWith -/
theorem c_T_compareWith (l : Launch) (G : zG) (B : Nat) {es : zE} {p q : Nat} {xs ys : List Nat} (h : tx G B es p xs) (hq : tx G B es q ys) : Tr l G B jy_T_compareWith jb_T_compareWith 4 (some .int) 1 0 0 [.ref (B + p), .ref (B + q)] es (pI fun v es' => v.toInt = cmpZ xs ys ∧ es' = es) := by
  obtain ⟨f, h1, h2, h3, h4, h5⟩ := h
  obtain ⟨g, i1, i2, i3, i4, i5⟩ := hq
  refine Tr.of (ls := [some (.ref (B + p)), some (.ref (B + q)), none, none]) (by decide +kernel) (Nat.le_of_ble_eq_true rfl) rfl ?_
  intro zp ze zs zm zb zt zc E
  have loop : ∀ (n i sh : Nat), i + n = sh → (sh ≤ xs.length ∧ sh ≤ ys.length ∧ (sh = xs.length ∨ sh = ys.length)) → cmpZ (xs.drop i) (ys.drop i) = cmpZ xs ys → Zj zp l ze (zr 1 0 0) zs zm ([.ref (B + p), .ref (B + q)] : List Value).toArray zb zt zc (MQ zb (zQ G B (pI fun v es' => v.toInt = cmpZ xs ys ∧ es' = es)) ([.ref (B + p), .ref (B + q)] : List Value).toArray zs 0 0 (fun q => B ≤ q)) G B 4 0 0 14 [some (.ref (B + p)), some (.ref (B + q)), some (.int (nI sh)), some (.int (nI i))] [] es := by
    intro n
    induction n with
    | zero =>
      intro i sh hi hs hc
      have hi : i = sh := by omega
      refine z_iload_n (pc := 14) E jd_T_compareWith_14 rfl rfl ?_
      refine z_iload_n (pc := 15) E jd_T_compareWith_15 rfl rfl ?_
      refine z_icmp_ge (pc := 16) (tgt := 54) E jd_T_compareWith_16 (by decide) (fun c16 => ?_) (fun c16 => ?_)
      · refine z_aload_n (pc := 54) E jd_T_compareWith_54 rfl rfl ?_
        refine z_get (pc := 55) E jf_T_15 jd_T_compareWith_55 (by assumption) (by rfl) ?_
        refine z_aload_n (pc := 58) E jd_T_compareWith_58 rfl rfl ?_
        refine z_get (pc := 59) E jf_T_15 jd_T_compareWith_59 (by assumption) (by rfl) ?_
        refine z_isub (pc := 62) E jd_T_compareWith_62 ?_
        have hr : (nI xs.length - nI ys.length).toInt = cmpZ xs ys := by
          rw [nI_sub_toInt (by omega) (by omega), ← hc]
          rcases hs.2.2 with e | e
          · rw [List.drop_eq_nil_of_le (as := xs) (by omega)]
            show _ = -(((ys.drop i).length : Nat) : Int)
            rw [List.length_drop]; omega
          · rw [List.drop_eq_nil_of_le (as := ys) (by omega), cmpZ_nil_r, List.length_drop]; omega
        exact z_iret E jd_T_compareWith_63 ⟨_, rfl, hr, rfl⟩
      · exact absurd ((nI_leI (by omega) (by omega)).mpr (by omega)) c16
    | succ n ih =>
      intro i sh hi hs hc
      have hd1 := drop_cons_getD (xs := xs) (i := i) (by omega)
      have hd2 := drop_cons_getD (xs := ys) (i := i) (by omega)
      have e1 := h4 i (by omega)
      have e2 := i4 i (by omega)
      have b1 := getD_lt (j := i) h5
      have b2 := getD_lt (j := i) i5
      refine z_iload_n (pc := 14) E jd_T_compareWith_14 rfl rfl ?_
      refine z_iload_n (pc := 15) E jd_T_compareWith_15 rfl rfl ?_
      refine z_icmp_ge (pc := 16) (tgt := 54) E jd_T_compareWith_16 (by decide) (fun c16 => ?_) (fun c16 => ?_)
      · exact absurd ((nI_leI (by omega) (by omega)).mp c16) (by omega)
      · refine z_aload_n (pc := 19) E jd_T_compareWith_19 rfl rfl ?_
        refine z_get (pc := 20) E jf_T_9 jd_T_compareWith_20 (by assumption) (by rfl) ?_
        refine z_iload_n (pc := 23) E jd_T_compareWith_23 rfl rfl ?_
        refine z_bald (ti := 0) (pc := 24) E rfl jd_T_compareWith_24 (by assumption) (vp_in_nI (by omega) (by omega)) ?_
        rw [nI_clamp (by omega)]
        refine z_aload_n (pc := 25) E jd_T_compareWith_25 rfl rfl ?_
        refine z_get (pc := 26) E jf_T_9 jd_T_compareWith_26 (by assumption) (by rfl) ?_
        refine z_iload_n (pc := 29) E jd_T_compareWith_29 rfl rfl ?_
        refine z_bald (ti := 0) (pc := 30) E rfl jd_T_compareWith_30 (by assumption) (vp_in_nI (by omega) (by omega)) ?_
        rw [nI_clamp (by omega)]
        rw [e1, e2]
        refine z_icmp_eq (pc := 31) (tgt := 48) E jd_T_compareWith_31 (by decide) (fun c31 => ?_) (fun c31 => ?_)
        · have he : xs.getD i 0 = ys.getD i 0 := (nI_eq (by omega) (by omega)).mp c31
          refine z_iinc (pc := 48) E jd_T_compareWith_48 rfl rfl (by decide) rfl ?_
          dsimp only [List.set]
          refine z_goto (pc := 51) (tgt := 14) E jd_T_compareWith_51 (by decide) ?_
          have := ih (i + 1) sh (by omega) hs (by rw [← hc, hd1, hd2]; show _ = if _ then _ else _; rw [if_pos he])
          rw [nI_succ] at this
          exact this
        · have he : ¬ xs.getD i 0 = ys.getD i 0 := fun q => c31 (by rw [q])
          refine z_aload_n (pc := 34) E jd_T_compareWith_34 rfl rfl ?_
          refine z_get (pc := 35) E jf_T_9 jd_T_compareWith_35 (by assumption) (by rfl) ?_
          refine z_iload_n (pc := 38) E jd_T_compareWith_38 rfl rfl ?_
          refine z_bald (ti := 0) (pc := 39) E rfl jd_T_compareWith_39 (by assumption) (vp_in_nI (by omega) (by omega)) ?_
          rw [nI_clamp (by omega)]
          refine z_aload_n (pc := 40) E jd_T_compareWith_40 rfl rfl ?_
          refine z_get (pc := 41) E jf_T_9 jd_T_compareWith_41 (by assumption) (by rfl) ?_
          refine z_iload_n (pc := 44) E jd_T_compareWith_44 rfl rfl ?_
          refine z_bald (ti := 0) (pc := 45) E rfl jd_T_compareWith_45 (by assumption) (vp_in_nI (by omega) (by omega)) ?_
          rw [nI_clamp (by omega)]
          rw [e1, e2]
          refine z_isub (pc := 46) E jd_T_compareWith_46 ?_
          have hr : (nI (xs.getD i 0) - nI (ys.getD i 0)).toInt = cmpZ xs ys := by
            rw [nI_sub_toInt (by omega) (by omega), ← hc, hd1, hd2]
            show _ = if _ then _ else _
            rw [if_neg he]
          exact z_iret E jd_T_compareWith_47 ⟨_, rfl, hr, rfl⟩
  refine z_aload_n (pc := 0) E jd_T_compareWith_0 rfl rfl ?_
  refine z_get (pc := 1) E jf_T_15 jd_T_compareWith_1 (by assumption) (by rfl) ?_
  refine z_aload_n (pc := 4) E jd_T_compareWith_4 rfl rfl ?_
  refine z_get (pc := 5) E jf_T_15 jd_T_compareWith_5 (by assumption) (by rfl) ?_
  refine z_min (pc := 8) E ⟨jw_240, jw_241, jw_10, jw_242⟩ jd_T_compareWith_8 (by decide) (by decide) (by decide) (by decide) ?_
  have hm : (if nI ys.length < nI xs.length then nI ys.length else nI xs.length) = nI (min xs.length ys.length) := by
    by_cases hlt : ys.length < xs.length
    · rw [if_pos (nI_lt hlt (by omega)), Nat.min_eq_right (by omega)]
    · rw [if_neg (nI_nlt (by omega) (by omega)), Nat.min_eq_left (by omega)]
  rw [hm]
  refine z_istore_n (pc := 11) E jd_T_compareWith_11 rfl (by decide) rfl ?_
  dsimp only [List.set]
  refine z_iconst (v := 0) (pc := 12) E jd_T_compareWith_12 (by decide) ?_
  refine z_istore_n (pc := 13) E jd_T_compareWith_13 rfl (by decide) rfl ?_
  dsimp only [List.set]
  exact loop (min xs.length ys.length) 0 _ (by omega) ⟨by omega, by omega, by omega⟩ rfl
end
section
/-! which texts are shapes -/
def simpleC (c : Nat) : Bool := c == 66 || c == 67 || c == 68 || c == 70 || c == 73 || c == 74 || c == 83 || c == 90
def mayC (c : Nat) : Bool := !(c == 59 || c == 91 || c == 40 || c == 41 || c == 46)
/-- behind the brackets, at most f of them -/
def brk (xs : List Nat) : Nat → Nat → Nat
  | 0, i => i
  | f + 1, i => if xs.getD i 0 = 91 then brk xs f (i + 1) else i
/-- behind the signs of a name -/
def eonA (xs : List Nat) : Nat → Nat → Nat
  | 0, i => i
  | f + 1, i => if mayC (xs.getD i 0) = true then eonA xs f (i + 1) else i
def eon (xs : List Nat) (i : Nat) : Option Nat := if i < eonA xs (xs.length - i) i ∧ xs.getD (eonA xs (xs.length - i) i) 0 = 59 then some (eonA xs (xs.length - i) i + 1) else none
/-- behind the type that begins at i -/
def eot (xs : List Nat) (i : Nat) : Option Nat := if xs.getD (brk xs 3 i) 0 = 76 then eon xs (brk xs 3 i + 1) else if simpleC (xs.getD (brk xs 3 i) 0) = true then some (brk xs 3 i + 1) else none
/-- the place of the ) behind types -/
def ets (xs : List Nat) : Nat → Nat → Option Nat
  | 0, _ => none
  | f + 1, i => if xs.getD i 0 = 41 then some i else match eot xs i with
    | none => none
    | some j => ets xs f j
/-- 0: no method shape; 1: one that ends in V; 2: one that ends in a type -/
def shM (xs : List Nat) : Nat := if xs.getD 0 0 = 40 then (match ets xs 24 1 with
  | none => 0
  | some c => if xs.getD (c + 1) 0 = 86 then (if c + 2 = xs.length then 1 else 0) else if eot xs (c + 1) = some xs.length then 2 else 0) else 0
def oI : Option Nat → Int32
  | none => -1
  | some j => nI j
theorem brk_ge (xs : List Nat) : ∀ f i, i ≤ brk xs f i ∧ brk xs f i ≤ i + f
  | 0, i => ⟨Nat.le_refl _, Nat.le_refl _⟩
  | f + 1, i => by
    rw [brk]
    split
    · have := brk_ge xs f (i + 1); omega
    · omega
theorem eonA_ge (xs : List Nat) : ∀ f i, i ≤ eonA xs f i ∧ eonA xs f i ≤ i + f
  | 0, i => ⟨Nat.le_refl _, Nat.le_refl _⟩
  | f + 1, i => by
    rw [eonA]
    split
    · have := eonA_ge xs f (i + 1); omega
    · omega
theorem eon_lt {xs : List Nat} {i j : Nat} (h : eon xs i = some j) : i + 1 < j ∧ j ≤ xs.length ∧ xs.getD (j - 1) 0 = 59 := by
  unfold eon at h
  split at h
  · rename_i hc
    cases h
    refine ⟨by omega, ?_, hc.2⟩
    apply Nat.lt_of_not_le
    intro q
    have := hc.2
    rw [getD_oob (by omega)] at this
    cases this
  · cases h
theorem eot_lt {xs : List Nat} {i j : Nat} (h : eot xs i = some j) : i < j ∧ j ≤ xs.length ∧ xs.getD (j - 1) 0 ≠ 86 := by
  have hb := brk_ge xs 3 i
  unfold eot at h
  split at h
  · have := eon_lt h
    refine ⟨by omega, this.2.1, ?_⟩
    rw [this.2.2]; decide
  · split at h
    · rename_i hs
      cases h
      refine ⟨by omega, ?_, ?_⟩
      · apply Nat.lt_of_not_le
        intro q
        rw [getD_oob (by omega)] at hs
        cases hs
      · intro q
        rw [Nat.add_sub_cancel] at q
        rw [q] at hs
        cases hs
    · cases h
theorem sw_simple : ∀ c, c < 128 → (((nI c).toInt < 66 ∨ 90 < (nI c).toInt) ∧ simpleC c = false) ∨ (¬ (nI c).toInt < 66 ∧ ¬ 90 < (nI c).toInt ∧ (#[115, 115, 115, 117, 115, 117, 117, 115, 115, 117, 117, 117, 117, 117, 117, 117, 117, 115, 117, 117, 117, 117, 117, 117, 115] : Array Int)[((nI c).toInt - 66).toNat]? = some (if simpleC c = true then 115 else 117)) := by decide +kernel
set_option maxHeartbeats 4000000 in
set_option maxRecDepth 100000 in
theorem c_H_isSimple (l : Launch) (G : zG) (B : Nat) {es : zE} {c : Nat} (hc : c < 128) : Tr l G B jy_H_isSimple jb_H_isSimple 1 (some .boolean) 0 0 0 [.int (nI c)] es (pI fun v es' => v = (if simpleC c = true then 1 else 0) ∧ es' = es) := by
  refine Tr.of (ls := [some (.int (nI c))]) (by decide +kernel) (Nat.le_of_ble_eq_true rfl) rfl ?_
  intro zp ze zs zm zb zt zc E
  refine z_iload_n (pc := 0) E jd_H_isSimple_0 rfl rfl ?_
  rcases sw_simple c hc with ⟨h, hs⟩ | ⟨h1, h2, h3⟩
  · refine z_tableOut (pc := 1) (tgt := 118) E jd_H_isSimple_1 h (by decide) ?_
    rw [hs]
    refine z_iconst (v := 0) (pc := 118) E jd_H_isSimple_118 (by decide) ?_
    exact z_zret E rfl jd_H_isSimple_119 ⟨_, rfl, rfl, rfl⟩
  · cases hs : simpleC c with
    | true =>
      rw [hs] at h3
      refine z_tableIn (pc := 1) (tgt := 116) E jd_H_isSimple_1 h1 h2 h3 (by decide) ?_
      refine z_iconst (v := 1) (pc := 116) E jd_H_isSimple_116 (by decide) ?_
      exact z_zret E rfl jd_H_isSimple_117 ⟨_, rfl, rfl, rfl⟩
    | false =>
      rw [hs] at h3
      refine z_tableIn (pc := 1) (tgt := 118) E jd_H_isSimple_1 h1 h2 h3 (by decide) ?_
      refine z_iconst (v := 0) (pc := 118) E jd_H_isSimple_118 (by decide) ?_
      exact z_zret E rfl jd_H_isSimple_119 ⟨_, rfl, rfl, rfl⟩
theorem may_f {c : Nat} (h : c = 59 ∨ c = 91 ∨ c = 40 ∨ c = 41 ∨ c = 46) : mayC c = false := by
  rcases h with rfl | rfl | rfl | rfl | rfl <;> rfl
theorem may_t {c : Nat} (h1 : c ≠ 59) (h2 : c ≠ 91) (h3 : c ≠ 40) (h4 : c ≠ 41) (h5 : c ≠ 46) : mayC c = true := by
  simp [mayC, h1, h2, h3, h4, h5]
set_option maxHeartbeats 4000000 in
set_option maxRecDepth 100000 in
theorem c_H_mayStandInName (l : Launch) (G : zG) (B : Nat) {es : zE} {c : Nat} (hc : c < 128) : Tr l G B jy_H_mayStandInName jb_H_mayStandInName 1 (some .boolean) 0 0 0 [.int (nI c)] es (pI fun v es' => v = (if mayC c = true then 1 else 0) ∧ es' = es) := by
  refine Tr.of (ls := [some (.int (nI c))]) (by decide +kernel) (Nat.le_of_ble_eq_true rfl) rfl ?_
  intro zp ze zs zm zb zt zc E
  refine z_iload_n (pc := 0) E jd_H_mayStandInName_0 rfl rfl ?_
  refine z_bipush (v := 59) (pc := 1) E jd_H_mayStandInName_1 (by decide) ?_
  refine z_icmp_eq (pc := 3) (tgt := 34) E jd_H_mayStandInName_3 (by decide) (fun c3 => ?_) (fun c3 => ?_)
  · have hm : mayC c = false := may_f (by have := ceq (b := 59) c3; omega)
    refine z_iconst (v := 0) (pc := 34) E jd_H_mayStandInName_34 (by decide) ?_
    exact z_zret E rfl jd_H_mayStandInName_35 ⟨_, rfl, by rw [hm]; rfl, rfl⟩
  · refine z_iload_n (pc := 6) E jd_H_mayStandInName_6 rfl rfl ?_
    refine z_bipush (v := 91) (pc := 7) E jd_H_mayStandInName_7 (by decide) ?_
    refine z_icmp_eq (pc := 9) (tgt := 34) E jd_H_mayStandInName_9 (by decide) (fun c9 => ?_) (fun c9 => ?_)
    · have hm : mayC c = false := may_f (by have := ceq (b := 91) c9; omega)
      refine z_iconst (v := 0) (pc := 34) E jd_H_mayStandInName_34 (by decide) ?_
      exact z_zret E rfl jd_H_mayStandInName_35 ⟨_, rfl, by rw [hm]; rfl, rfl⟩
    · refine z_iload_n (pc := 12) E jd_H_mayStandInName_12 rfl rfl ?_
      refine z_bipush (v := 40) (pc := 13) E jd_H_mayStandInName_13 (by decide) ?_
      refine z_icmp_eq (pc := 15) (tgt := 34) E jd_H_mayStandInName_15 (by decide) (fun c15 => ?_) (fun c15 => ?_)
      · have hm : mayC c = false := may_f (by have := ceq (b := 40) c15; omega)
        refine z_iconst (v := 0) (pc := 34) E jd_H_mayStandInName_34 (by decide) ?_
        exact z_zret E rfl jd_H_mayStandInName_35 ⟨_, rfl, by rw [hm]; rfl, rfl⟩
      · refine z_iload_n (pc := 18) E jd_H_mayStandInName_18 rfl rfl ?_
        refine z_bipush (v := 41) (pc := 19) E jd_H_mayStandInName_19 (by decide) ?_
        refine z_icmp_eq (pc := 21) (tgt := 34) E jd_H_mayStandInName_21 (by decide) (fun c21 => ?_) (fun c21 => ?_)
        · have hm : mayC c = false := may_f (by have := ceq (b := 41) c21; omega)
          refine z_iconst (v := 0) (pc := 34) E jd_H_mayStandInName_34 (by decide) ?_
          exact z_zret E rfl jd_H_mayStandInName_35 ⟨_, rfl, by rw [hm]; rfl, rfl⟩
        · refine z_iload_n (pc := 24) E jd_H_mayStandInName_24 rfl rfl ?_
          refine z_bipush (v := 46) (pc := 25) E jd_H_mayStandInName_25 (by decide) ?_
          refine z_icmp_eq (pc := 27) (tgt := 34) E jd_H_mayStandInName_27 (by decide) (fun c27 => ?_) (fun c27 => ?_)
          · have hm : mayC c = false := may_f (by have := ceq (b := 46) c27; omega)
            refine z_iconst (v := 0) (pc := 34) E jd_H_mayStandInName_34 (by decide) ?_
            exact z_zret E rfl jd_H_mayStandInName_35 ⟨_, rfl, by rw [hm]; rfl, rfl⟩
          · have hm : mayC c = true := may_t (nceq (b := 59) c3) (nceq (b := 91) c9) (nceq (b := 40) c15) (nceq (b := 41) c21) (nceq (b := 46) c27)
            refine z_iconst (v := 1) (pc := 30) E jd_H_mayStandInName_30 (by decide) ?_
            refine z_goto (pc := 31) (tgt := 35) E jd_H_mayStandInName_31 (by decide) ?_
            exact z_zret E rfl jd_H_mayStandInName_35 ⟨_, rfl, by rw [hm]; rfl, rfl⟩
set_option maxHeartbeats 4000000 in
set_option maxRecDepth 100000 in
theorem c_H_endOfName (l : Launch) (G : zG) (B : Nat) {es : zE} {p i : Nat} {xs : List Nat} (h : tx G B es p xs) (hi : i < 100) : Tr l G B jy_H_endOfName jb_H_endOfName 3 (some .int) 1 0 0 [.ref (B + p), .int (nI i)] es (pI fun v es' => v = oI (eon xs i) ∧ es' = es) := by
  have hx := h
  obtain ⟨f, h1, h2, h3, h4, h5⟩ := h
  refine Tr.of (ls := [some (.ref (B + p)), some (.int (nI i)), none]) (by decide +kernel) (Nat.le_of_ble_eq_true rfl) rfl ?_
  intro zp ze zs zm zb zt zc E
  have tail : ∀ a : Nat, a = eonA xs (xs.length - i) i → Zj zp l ze (zr 1 0 0) zs zm ([.ref (B + p), .int (nI i)] : List Value).toArray zb zt zc (MQ zb (zQ G B (pI fun v es' => v = oI (eon xs i) ∧ es' = es)) ([.ref (B + p), .int (nI i)] : List Value).toArray zs 0 0 (fun q => B ≤ q)) G B 3 0 0 27 [some (.ref (B + p)), some (.int (nI i)), some (.int (nI a))] [] es := by
    intro a ha
    have hg := eonA_ge xs (xs.length - i) i
    refine z_iload_n (pc := 27) E jd_H_endOfName_27 rfl rfl ?_
    refine z_iload_n (pc := 28) E jd_H_endOfName_28 rfl rfl ?_
    refine z_icmp_le (pc := 29) (tgt := 48) E jd_H_endOfName_29 (by decide) (fun c29 => ?_) (fun c29 => ?_)
    · have hr : eon xs i = none := by rw [eon, if_neg]; rw [← ha]; have := cle c29; omega
      refine z_iconst (v := -1) (pc := 48) E jd_H_endOfName_48 (by decide) ?_
      exact z_iret E jd_H_endOfName_49 ⟨_, rfl, by rw [hr]; first | rfl | exact nI_1 a, rfl⟩
    · refine z_aload_n (pc := 32) E jd_H_endOfName_32 rfl rfl ?_
      refine z_iload_n (pc := 33) E jd_H_endOfName_33 rfl rfl ?_
      refine z_cV1I (pc := 34) E (c_T_at l G B hx) jc_H_21 jv_T_at rfl (by assumption) ⟨by decide, by decide⟩ jd_H_endOfName_34 (by decide) (by decide) (by decide) (fun v34 es34 h34 => ?_)
      obtain ⟨w34, e34⟩ := h34
      rw [e34, w34, tat_nI (by omega)]
      refine z_bipush (v := 59) (pc := 37) E jd_H_endOfName_37 (by decide) ?_
      refine z_icmp_ne (pc := 39) (tgt := 48) E jd_H_endOfName_39 (by decide) (fun c39 => ?_) (fun c39 => ?_)
      · have hr : eon xs i = none := by rw [eon, if_neg]; rw [← ha]; exact fun q => c39 (by rw [q.2]; rfl)
        refine z_iconst (v := -1) (pc := 48) E jd_H_endOfName_48 (by decide) ?_
        exact z_iret E jd_H_endOfName_49 ⟨_, rfl, by rw [hr]; first | rfl | exact nI_1 a, rfl⟩
      · have hr : eon xs i = some (a + 1) := by
          have h6 := ncle c29
          have h7 : xs.getD a 0 = 59 := ceq (b := 59) c39 (by have := getD_lt (j := a) h5; omega)
          rw [eon, ← ha, if_pos ⟨h6, h7⟩]
        refine z_iload_n (pc := 42) E jd_H_endOfName_42 rfl rfl ?_
        refine z_iconst (v := 1) (pc := 43) E jd_H_endOfName_43 (by decide) ?_
        refine z_iadd (pc := 44) E jd_H_endOfName_44 ?_
        refine z_goto (pc := 45) (tgt := 49) E jd_H_endOfName_45 (by decide) ?_
        exact z_iret E jd_H_endOfName_49 ⟨_, rfl, by rw [hr]; first | rfl | exact nI_1 a, rfl⟩
  have loop : ∀ (n a : Nat), i ≤ a → n = xs.length - a → eonA xs n a = eonA xs (xs.length - i) i → Zj zp l ze (zr 1 0 0) zs zm ([.ref (B + p), .int (nI i)] : List Value).toArray zb zt zc (MQ zb (zQ G B (pI fun v es' => v = oI (eon xs i) ∧ es' = es)) ([.ref (B + p), .int (nI i)] : List Value).toArray zs 0 0 (fun q => B ≤ q)) G B 3 0 0 2 [some (.ref (B + p)), some (.int (nI i)), some (.int (nI a))] [] es := by
    intro n
    induction n with
    | zero =>
      intro a hia hn he
      refine z_iload_n (pc := 2) E jd_H_endOfName_2 rfl rfl ?_
      refine z_aload_n (pc := 3) E jd_H_endOfName_3 rfl rfl ?_
      refine z_get (pc := 4) E jf_H_15 jd_H_endOfName_4 (by assumption) (by rfl) ?_
      have ha : a < 2 ^ 30 := by have := eonA_ge xs (xs.length - i) i; have h0 : a = eonA xs (xs.length - i) i := he; omega
      refine z_icmp_ge (pc := 7) (tgt := 27) E jd_H_endOfName_7 (by decide) (fun c7 => ?_) (fun c7 => ?_)
      · exact tail a he
      · exact absurd (nI_le (by omega) (by omega)) c7
    | succ n ih =>
      intro a hia hn he
      rw [eonA] at he
      refine z_iload_n (pc := 2) E jd_H_endOfName_2 rfl rfl ?_
      refine z_aload_n (pc := 3) E jd_H_endOfName_3 rfl rfl ?_
      refine z_get (pc := 4) E jf_H_15 jd_H_endOfName_4 (by assumption) (by rfl) ?_
      refine z_icmp_ge (pc := 7) (tgt := 27) E jd_H_endOfName_7 (by decide) (fun c7 => ?_) (fun c7 => ?_)
      · exact absurd (cle c7) (by omega)
      · refine z_aload_n (pc := 10) E jd_H_endOfName_10 rfl rfl ?_
        refine z_iload_n (pc := 11) E jd_H_endOfName_11 rfl rfl ?_
        refine z_cV1I (pc := 12) E (c_T_at l G B hx) jc_H_21 jv_T_at rfl (by assumption) ⟨by decide, by decide⟩ jd_H_endOfName_12 (by decide) (by decide) (by decide) (fun v12 es12 h12 => ?_)
        obtain ⟨w12, e12⟩ := h12
        rw [e12, w12, tat_nI (by omega)]
        refine z_cS1I (pc := 15) E (c_H_mayStandInName l G B (getD_lt h5)) jc_H_35 js_H_mayStandInName ⟨by decide, by decide⟩ jd_H_endOfName_15 (by decide) (by decide) (by decide) (fun v15 es15 h15 => ?_)
        obtain ⟨w15, e15⟩ := h15
        rw [e15, w15]
        refine z_if_eq (pc := 18) (tgt := 27) E jd_H_endOfName_18 (by decide) (fun c18 => ?_) (fun c18 => ?_)
        · have hm : ¬ mayC (xs.getD a 0) = true := fun q => by rw [if_pos q] at c18; exact absurd c18 (by decide)
          rw [if_neg hm] at he
          exact tail a he
        · have hm : mayC (xs.getD a 0) = true := by
            cases hb : mayC (xs.getD a 0) with
            | true => rfl
            | false => rw [hb] at c18; exact absurd rfl c18
          rw [if_pos hm] at he
          refine z_iinc (pc := 21) E jd_H_endOfName_21 rfl rfl (by decide) rfl ?_
          dsimp only [List.set]
          refine z_goto (pc := 24) (tgt := 2) E jd_H_endOfName_24 (by decide) ?_
          have := ih (a + 1) (by omega) (by omega) he
          rw [nI_succ] at this
          exact this
  refine z_iload_n (pc := 0) E jd_H_endOfName_0 rfl rfl ?_
  refine z_istore_n (pc := 1) E jd_H_endOfName_1 rfl (by decide) rfl ?_
  dsimp only [List.set]
  exact loop (xs.length - i) i (Nat.le_refl _) rfl rfl
set_option maxHeartbeats 4000000 in
set_option maxRecDepth 100000 in
theorem c_H_endOfType (l : Launch) (G : zG) (B : Nat) {es : zE} {p i : Nat} {xs : List Nat} (h : tx G B es p xs) (hi : i < 50) : Tr l G B jy_H_endOfType jb_H_endOfType 3 (some .int) 2 0 0 [.ref (B + p), .int (nI i)] es (pI fun v es' => v = oI (eot xs i) ∧ es' = es) := by
  have hx := h
  obtain ⟨f, h1, h2, h3, h4, h5⟩ := h
  refine Tr.of (ls := [some (.ref (B + p)), some (.int (nI i)), none]) (by decide +kernel) (Nat.le_of_ble_eq_true rfl) rfl ?_
  intro zp ze zs zm zb zt zc E
  have hbr := brk_ge xs 3 i
  have tail : ∀ a : Nat, a = brk xs 3 i → Zj zp l ze (zr 2 0 0) zs zm ([.ref (B + p), .int (nI i)] : List Value).toArray zb zt zc (MQ zb (zQ G B (pI fun v es' => v = oI (eot xs i) ∧ es' = es)) ([.ref (B + p), .int (nI i)] : List Value).toArray zs 0 0 (fun q => B ≤ q)) G B 3 0 0 25 [some (.ref (B + p)), some (.int (nI i)), some (.int (nI a))] [] es := by
    intro a ha
    refine z_aload_n (pc := 25) E jd_H_endOfType_25 rfl rfl ?_
    refine z_iload_n (pc := 26) E jd_H_endOfType_26 rfl rfl ?_
    refine z_cV1I (pc := 27) E (c_T_at l G B hx) jc_H_21 jv_T_at rfl (by assumption) ⟨by decide, by decide⟩ jd_H_endOfType_27 (by decide) (by decide) (by decide) (fun v27 es27 h27 => ?_)
    obtain ⟨w27, e27⟩ := h27
    rw [e27, w27, tat_nI (by omega)]
    refine z_bipush (v := 76) (pc := 30) E jd_H_endOfType_30 (by decide) ?_
    refine z_icmp_ne (pc := 32) (tgt := 43) E jd_H_endOfType_32 (by decide) (fun c32 => ?_) (fun c32 => ?_)
    · have hL : ¬ xs.getD a 0 = 76 := nceq (b := 76) c32
      refine z_aload_n (pc := 43) E jd_H_endOfType_43 rfl rfl ?_
      refine z_iload_n (pc := 44) E jd_H_endOfType_44 rfl rfl ?_
      refine z_cV1I (pc := 45) E (c_T_at l G B hx) jc_H_21 jv_T_at rfl (by assumption) ⟨by decide, by decide⟩ jd_H_endOfType_45 (by decide) (by decide) (by decide) (fun v45 es45 h45 => ?_)
      obtain ⟨w45, e45⟩ := h45
      rw [e45, w45, tat_nI (by omega)]
      refine z_cS1I (pc := 48) E (c_H_isSimple l G B (getD_lt h5)) jc_H_31 js_H_isSimple ⟨by decide, by decide⟩ jd_H_endOfType_48 (by decide) (by decide) (by decide) (fun v48 es48 h48 => ?_)
      obtain ⟨w48, e48⟩ := h48
      rw [e48, w48]
      refine z_if_eq (pc := 51) (tgt := 60) E jd_H_endOfType_51 (by decide) (fun c51 => ?_) (fun c51 => ?_)
      · have hr : eot xs i = none := by
          rw [eot, ← ha, if_neg hL, if_neg]
          intro q
          rw [if_pos q] at c51; exact absurd c51 (by decide)
        refine z_iconst (v := -1) (pc := 60) E jd_H_endOfType_60 (by decide) ?_
        exact z_iret E jd_H_endOfType_61 ⟨_, rfl, by rw [hr]; first | rfl | exact nI_1 a, rfl⟩
      · have hr : eot xs i = some (a + 1) := by
          rw [eot, ← ha, if_neg hL, if_pos]
          cases hb : simpleC (xs.getD a 0) with
          | true => rfl
          | false => rw [hb] at c51; exact absurd rfl c51
        refine z_iload_n (pc := 54) E jd_H_endOfType_54 rfl rfl ?_
        refine z_iconst (v := 1) (pc := 55) E jd_H_endOfType_55 (by decide) ?_
        refine z_iadd (pc := 56) E jd_H_endOfType_56 ?_
        refine z_goto (pc := 57) (tgt := 61) E jd_H_endOfType_57 (by decide) ?_
        exact z_iret E jd_H_endOfType_61 ⟨_, rfl, by rw [hr]; first | rfl | exact nI_1 a, rfl⟩
    · have hL : xs.getD a 0 = 76 := ceq (b := 76) c32 (by have := getD_lt (j := a) h5; omega)
      refine z_aload_n (pc := 35) E jd_H_endOfType_35 rfl rfl ?_
      refine z_iload_n (pc := 36) E jd_H_endOfType_36 rfl rfl ?_
      refine z_iconst (v := 1) (pc := 37) E jd_H_endOfType_37 (by decide) ?_
      refine z_iadd (pc := 38) E jd_H_endOfType_38 ?_
      rw [nI_1]
      refine z_cS2I (pc := 39) E (c_H_endOfName l G B (i := a + 1) hx (by omega)) jc_H_28 js_H_endOfName ⟨by decide, by decide⟩ jd_H_endOfType_39 (by decide) (by decide) (by decide) (fun v39 es39 h39 => ?_)
      obtain ⟨w39, e39⟩ := h39
      rw [e39, w39]
      have hr : eot xs i = eon xs (a + 1) := by rw [eot, ← ha, if_pos hL]
      exact z_iret E jd_H_endOfType_42 ⟨_, rfl, by rw [hr], rfl⟩
  have loop : ∀ (n a : Nat), a + n = i + 3 → brk xs n a = brk xs 3 i → Zj zp l ze (zr 2 0 0) zs zm ([.ref (B + p), .int (nI i)] : List Value).toArray zb zt zc (MQ zb (zQ G B (pI fun v es' => v = oI (eot xs i) ∧ es' = es)) ([.ref (B + p), .int (nI i)] : List Value).toArray zs 0 0 (fun q => B ≤ q)) G B 3 0 0 2 [some (.ref (B + p)), some (.int (nI i)), some (.int (nI a))] [] es := by
    intro n
    induction n with
    | zero =>
      intro a hn he
      refine z_iload_n (pc := 2) E jd_H_endOfType_2 rfl rfl ?_
      refine z_iload_n (pc := 3) E jd_H_endOfType_3 rfl rfl ?_
      refine z_iconst (v := 3) (pc := 4) E jd_H_endOfType_4 (by decide) ?_
      refine z_iadd (pc := 5) E jd_H_endOfType_5 ?_
      rw [show nI i + 3 = nI (i + 3) from nI_add i 3]
      refine z_icmp_ge (pc := 6) (tgt := 25) E jd_H_endOfType_6 (by decide) (fun c6 => ?_) (fun c6 => ?_)
      · exact tail a he
      · exact absurd (nI_le (by omega) (by omega)) c6
    | succ n ih =>
      intro a hn he
      rw [brk] at he
      refine z_iload_n (pc := 2) E jd_H_endOfType_2 rfl rfl ?_
      refine z_iload_n (pc := 3) E jd_H_endOfType_3 rfl rfl ?_
      refine z_iconst (v := 3) (pc := 4) E jd_H_endOfType_4 (by decide) ?_
      refine z_iadd (pc := 5) E jd_H_endOfType_5 ?_
      rw [show nI i + 3 = nI (i + 3) from nI_add i 3]
      refine z_icmp_ge (pc := 6) (tgt := 25) E jd_H_endOfType_6 (by decide) (fun c6 => ?_) (fun c6 => ?_)
      · exact absurd (cle c6) (by omega)
      · refine z_aload_n (pc := 9) E jd_H_endOfType_9 rfl rfl ?_
        refine z_iload_n (pc := 10) E jd_H_endOfType_10 rfl rfl ?_
        refine z_cV1I (pc := 11) E (c_T_at l G B hx) jc_H_21 jv_T_at rfl (by assumption) ⟨by decide, by decide⟩ jd_H_endOfType_11 (by decide) (by decide) (by decide) (fun v11 es11 h11 => ?_)
        obtain ⟨w11, e11⟩ := h11
        rw [e11, w11, tat_nI (by omega)]
        refine z_bipush (v := 91) (pc := 14) E jd_H_endOfType_14 (by decide) ?_
        refine z_icmp_ne (pc := 16) (tgt := 25) E jd_H_endOfType_16 (by decide) (fun c16 => ?_) (fun c16 => ?_)
        · rw [if_neg (nceq (b := 91) c16)] at he
          exact tail a he
        · rw [if_pos (ceq (b := 91) c16 (by have := getD_lt (j := a) h5; omega))] at he
          refine z_iinc (pc := 19) E jd_H_endOfType_19 rfl rfl (by decide) rfl ?_
          dsimp only [List.set]
          refine z_goto (pc := 22) (tgt := 2) E jd_H_endOfType_22 (by decide) ?_
          have := ih (a + 1) (by omega) he
          rw [nI_succ] at this
          exact this
  refine z_iload_n (pc := 0) E jd_H_endOfType_0 rfl rfl ?_
  refine z_istore_n (pc := 1) E jd_H_endOfType_1 rfl (by decide) rfl ?_
  dsimp only [List.set]
  exact loop 3 i rfl rfl
theorem oI_eq {o : Option Nat} {n : Nat} (ho : ∀ j, o = some j → j < 2 ^ 31) (hn : n < 2 ^ 31) : oI o = nI n ↔ o = some n := by
  cases o with
  | none =>
    constructor
    · intro h
      have h2 : (0 : Int32) ≤ -1 := by rw [show (-1 : Int32) = nI n from h]; exact nI_pos' hn
      exact absurd h2 (by decide)
    · intro h; cases h
  | some j => exact ⟨fun h => by rw [(nI_eq (ho j rfl) hn).mp h], fun h => by rw [Option.some.inj h]; rfl⟩
theorem eot_b {xs : List Nat} {i : Nat} (h3 : xs.length ≤ 24) : ∀ j, eot xs i = some j → j < 2 ^ 31 := fun j h => by have := (eot_lt h).2.1; omega
set_option maxHeartbeats 4000000 in
set_option maxRecDepth 100000 in
theorem c_H_isType (l : Launch) (G : zG) (B : Nat) {es : zE} {p : Nat} {xs : List Nat} (h : tx G B es p xs) : Tr l G B jy_H_isType jb_H_isType 1 (some .boolean) 3 0 0 [.ref (B + p)] es (pI fun v es' => v = (if eot xs 0 = some xs.length then 1 else 0) ∧ es' = es) := by
  have hx := h
  obtain ⟨f, h1, h2, h3, h4, h5⟩ := h
  refine Tr.of (ls := [some (.ref (B + p))]) (by decide +kernel) (Nat.le_of_ble_eq_true rfl) rfl ?_
  intro zp ze zs zm zb zt zc E
  refine z_aload_n (pc := 0) E jd_H_isType_0 rfl rfl ?_
  refine z_iconst (v := 0) (pc := 1) E jd_H_isType_1 (by decide) ?_
  refine z_cS2I (pc := 2) E (c_H_endOfType l G B (i := 0) hx (by omega)) jc_H_9 js_H_endOfType ⟨by decide, by decide⟩ jd_H_isType_2 (by decide) (by decide) (by decide) (fun v2 es2 h2 => ?_)
  obtain ⟨w2, e2⟩ := h2
  rw [e2, w2]
  refine z_aload_n (pc := 5) E jd_H_isType_5 rfl rfl ?_
  refine z_get (pc := 6) E jf_H_15 jd_H_isType_6 (by assumption) (by rfl) ?_
  refine z_icmp_ne (pc := 9) (tgt := 16) E jd_H_isType_9 (by decide) (fun c9 => ?_) (fun c9 => ?_)
  · have hr : ¬ eot xs 0 = some xs.length := fun q => c9 ((oI_eq (eot_b h3) (by omega)).mpr q)
    refine z_iconst (v := 0) (pc := 16) E jd_H_isType_16 (by decide) ?_
    exact z_zret E rfl jd_H_isType_17 ⟨_, rfl, by simp [hr], rfl⟩
  · have hr : eot xs 0 = some xs.length := (oI_eq (eot_b h3) (by omega)).mp c9
    refine z_iconst (v := 1) (pc := 12) E jd_H_isType_12 (by decide) ?_
    refine z_goto (pc := 13) (tgt := 17) E jd_H_isType_13 (by decide) ?_
    exact z_zret E rfl jd_H_isType_17 ⟨_, rfl, by simp [hr], rfl⟩
set_option maxHeartbeats 4000000 in
set_option maxRecDepth 100000 in
theorem c_H_endOfTypes (l : Launch) (G : zG) (B : Nat) {es : zE} {p : Nat} {xs : List Nat} (h : tx G B es p xs) : Tr l G B jy_H_endOfTypes jb_H_endOfTypes 4 (some .int) 3 0 0 [.ref (B + p), .int (nI 1)] es (pI fun v es' => ((∃ c, c ≤ 24 ∧ ets xs 24 1 = some c ∧ v = nI c ∧ xs.getD c 0 = 41) ∨ (ets xs 24 1 = none ∧ v = -1)) ∧ es' = es) := by
  have hx := h
  obtain ⟨f, h1, h2, h3, h4, h5⟩ := h
  refine Tr.of (ls := [some (.ref (B + p)), some (.int (nI 1)), none, none]) (by decide +kernel) (Nat.le_of_ble_eq_true rfl) rfl ?_
  intro zp ze zs zm zb zt zc E
  have loop : ∀ (f n : Nat) (o : Option Nat), n + f = 24 → (o = none → ets xs 24 1 = none) → (∀ a, o = some a → ets xs f a = ets xs 24 1 ∧ n + 1 ≤ a ∧ a ≤ 24) → Zj zp l ze (zr 3 0 0) zs zm ([.ref (B + p), .int (nI 1)] : List Value).toArray zb zt zc (MQ zb (zQ G B (pI fun v es' => ((∃ c, c ≤ 24 ∧ ets xs 24 1 = some c ∧ v = nI c ∧ xs.getD c 0 = 41) ∨ (ets xs 24 1 = none ∧ v = -1)) ∧ es' = es)) ([.ref (B + p), .int (nI 1)] : List Value).toArray zs 0 0 (fun q => B ≤ q)) G B 4 0 0 4 [some (.ref (B + p)), some (.int (nI 1)), some (.int (oI o)), some (.int (nI n))] [] es := by
    intro f
    induction f with
    | zero =>
      intro n o hn ho ha
      cases o with
      | some a => exact absurd (ha a rfl).2 (by omega)
      | none =>
        have hr := ho rfl
        refine z_iload_n (pc := 4) E jd_H_endOfTypes_4 rfl rfl ?_
        refine z_bipush (v := 24) (pc := 5) E jd_H_endOfTypes_5 (by decide) ?_
        refine z_icmp_ge (pc := 7) (tgt := 39) E jd_H_endOfTypes_7 (by decide) (fun c7 => ?_) (fun c7 => ?_)
        · refine z_iload_n (pc := 39) E jd_H_endOfTypes_39 rfl rfl ?_
          exact z_iret E jd_H_endOfTypes_40 ⟨_, rfl, Or.inr ⟨hr, rfl⟩, rfl⟩
        · exact absurd (nI_le (a := 24) (b := n) (by omega) (by omega)) c7
    | succ f ih =>
      intro n o hn ho ha
      cases o with
      | none =>
        have hr := ho rfl
        refine z_iload_n (pc := 4) E jd_H_endOfTypes_4 rfl rfl ?_
        refine z_bipush (v := 24) (pc := 5) E jd_H_endOfTypes_5 (by decide) ?_
        refine z_icmp_ge (pc := 7) (tgt := 39) E jd_H_endOfTypes_7 (by decide) (fun c7 => ?_) (fun c7 => ?_)
        · exact absurd (cle (a := 24) c7) (by omega)
        · refine z_iload_n (pc := 10) E jd_H_endOfTypes_10 rfl rfl ?_
          refine z_iconst (v := -1) (pc := 11) E jd_H_endOfTypes_11 (by decide) ?_
          refine z_icmp_eq (pc := 12) (tgt := 25) E jd_H_endOfTypes_12 (by decide) (fun c12 => ?_) (fun c12 => ?_)
          · refine z_iload_n (pc := 25) E jd_H_endOfTypes_25 rfl rfl ?_
            exact z_iret E jd_H_endOfTypes_26 ⟨_, rfl, Or.inr ⟨hr, rfl⟩, rfl⟩
          · exact absurd rfl c12
      | some a =>
        obtain ⟨ha1, ha2, ha3⟩ := ha a rfl
        rw [ets] at ha1
        refine z_iload_n (pc := 4) E jd_H_endOfTypes_4 rfl rfl ?_
        refine z_bipush (v := 24) (pc := 5) E jd_H_endOfTypes_5 (by decide) ?_
        refine z_icmp_ge (pc := 7) (tgt := 39) E jd_H_endOfTypes_7 (by decide) (fun c7 => ?_) (fun c7 => ?_)
        · exact absurd (cle (a := 24) c7) (by omega)
        · refine z_iload_n (pc := 10) E jd_H_endOfTypes_10 rfl rfl ?_
          refine z_iconst (v := -1) (pc := 11) E jd_H_endOfTypes_11 (by decide) ?_
          refine z_icmp_eq (pc := 12) (tgt := 25) E jd_H_endOfTypes_12 (by decide) (fun c12 => ?_) (fun c12 => ?_)
          · exact absurd (c12.symm ▸ nI_pos' (n := a) (by omega) : (0 : Int32) ≤ -1) (by decide)
          · refine z_aload_n (pc := 15) E jd_H_endOfTypes_15 rfl rfl ?_
            refine z_iload_n (pc := 16) E jd_H_endOfTypes_16 rfl rfl ?_
            refine z_cV1I (pc := 17) E (c_T_at l G B hx) jc_H_21 jv_T_at rfl (by assumption) ⟨by decide, by decide⟩ jd_H_endOfTypes_17 (by decide) (by decide) (by decide) (fun v17 es17 h17 => ?_)
            obtain ⟨w17, e17⟩ := h17
            rw [e17, w17, show tat xs (oI (some a)) = nI (xs.getD a 0) from tat_nI (by omega)]
            refine z_bipush (v := 41) (pc := 20) E jd_H_endOfTypes_20 (by decide) ?_
            refine z_icmp_ne (pc := 22) (tgt := 27) E jd_H_endOfTypes_22 (by decide) (fun c22 => ?_) (fun c22 => ?_)
            · have hc : ¬ xs.getD a 0 = 41 := nceq (b := 41) c22
              rw [if_neg hc] at ha1
              refine z_aload_n (pc := 27) E jd_H_endOfTypes_27 rfl rfl ?_
              refine z_iload_n (pc := 28) E jd_H_endOfTypes_28 rfl rfl ?_
              refine z_cS2I (pc := 29) E (c_H_endOfType l G B (i := a) hx (by omega)) jc_H_9 js_H_endOfType ⟨by decide, by decide⟩ jd_H_endOfTypes_29 (by decide) (by decide) (by decide) (fun v29 es29 h29 => ?_)
              obtain ⟨w29, e29⟩ := h29
              rw [e29, w29]
              refine z_istore_n (pc := 32) E jd_H_endOfTypes_32 rfl (by decide) rfl ?_
              dsimp only [List.set]
              refine z_iinc (pc := 33) E jd_H_endOfTypes_33 rfl rfl (by decide) rfl ?_
              dsimp only [List.set]
              refine z_goto (pc := 36) (tgt := 4) E jd_H_endOfTypes_36 (by decide) ?_
              have := ih (n + 1) (eot xs a) (by omega) (fun q => by rw [q] at ha1; exact ha1.symm) (fun b q => by rw [q] at ha1; have := eot_lt q; exact ⟨ha1, by omega, by omega⟩)
              rw [nI_succ n] at this
              exact this
            · have hc : xs.getD a 0 = 41 := ceq (b := 41) c22 (by have := getD_lt (j := a) h5; omega)
              rw [if_pos hc] at ha1
              refine z_iload_n (pc := 25) E jd_H_endOfTypes_25 rfl rfl ?_
              exact z_iret E jd_H_endOfTypes_26 ⟨_, rfl, Or.inl ⟨a, ha3, ha1.symm, rfl, hc⟩, rfl⟩
  refine z_iload_n (pc := 0) E jd_H_endOfTypes_0 rfl rfl ?_
  refine z_istore_n (pc := 1) E jd_H_endOfTypes_1 rfl (by decide) rfl ?_
  dsimp only [List.set]
  refine z_iconst (v := 0) (pc := 2) E jd_H_endOfTypes_2 (by decide) ?_
  refine z_istore_n (pc := 3) E jd_H_endOfTypes_3 rfl (by decide) rfl ?_
  dsimp only [List.set]
  exact loop 24 0 (some 1) rfl (fun q => by cases q) (fun a q => by cases q; exact ⟨rfl, by omega, by omega⟩)
set_option maxHeartbeats 4000000 in
set_option maxRecDepth 100000 in
theorem c_H_isMethod (l : Launch) (G : zG) (B : Nat) {es : zE} {p : Nat} {xs : List Nat} (h : tx G B es p xs) : Tr l G B jy_H_isMethod jb_H_isMethod 4 (some .boolean) 4 0 0 [.ref (B + p)] es (pI fun v es' => v = (if shM xs = 0 then 0 else 1) ∧ es' = es) := by
  have hx := h
  obtain ⟨f, h1, h2, h3, h4, h5⟩ := h
  refine Tr.of (ls := [some (.ref (B + p)), none, none, none]) (by decide +kernel) (Nat.le_of_ble_eq_true rfl) rfl ?_
  intro zp ze zs zm zb zt zc E
  have fin : ∀ (o : Option Nat) (c : Nat), c ≤ 24 → xs.getD 0 0 = 40 → ets xs 24 1 = some c → (∀ j, o = some j → j < 2 ^ 31) → ((o = some xs.length) ↔ ¬ shM xs = 0) → Zj zp l ze (zr 4 0 0) zs zm ([.ref (B + p)] : List Value).toArray zb zt zc (MQ zb (zQ G B (pI fun v es' => v = (if shM xs = 0 then 0 else 1) ∧ es' = es)) ([.ref (B + p)] : List Value).toArray zs 0 0 (fun q => B ≤ q)) G B 4 0 0 60 [some (.ref (B + p)), some (.int (nI c)), some (.int (nI c + 1)), none] [.int (oI o)] es := by
    intro o c hc h0 he hb hsh
    refine z_istore_n (pc := 60) E jd_H_isMethod_60 rfl (by decide) rfl ?_
    dsimp only [List.set]
    refine z_iload_n (pc := 61) E jd_H_isMethod_61 rfl rfl ?_
    refine z_aload_n (pc := 62) E jd_H_isMethod_62 rfl rfl ?_
    refine z_get (pc := 63) E jf_H_15 jd_H_isMethod_63 (by assumption) (by rfl) ?_
    refine z_icmp_ne (pc := 66) (tgt := 73) E jd_H_isMethod_66 (by decide) (fun c66 => ?_) (fun c66 => ?_)
    · have hr : shM xs = 0 := Decidable.byContradiction fun q => c66 ((oI_eq hb (by omega)).mpr (hsh.mpr q))
      refine z_iconst (v := 0) (pc := 73) E jd_H_isMethod_73 (by decide) ?_
      exact z_zret E rfl jd_H_isMethod_74 ⟨_, rfl, by simp [hr], rfl⟩
    · have hr : ¬ shM xs = 0 := hsh.mp ((oI_eq hb (by omega)).mp c66)
      refine z_iconst (v := 1) (pc := 69) E jd_H_isMethod_69 (by decide) ?_
      refine z_goto (pc := 70) (tgt := 74) E jd_H_isMethod_70 (by decide) ?_
      exact z_zret E rfl jd_H_isMethod_74 ⟨_, rfl, by simp [hr], rfl⟩
  refine z_aload_n (pc := 0) E jd_H_isMethod_0 rfl rfl ?_
  refine z_iconst (v := 0) (pc := 1) E jd_H_isMethod_1 (by decide) ?_
  refine z_cV1I (pc := 2) E (c_T_at l G B hx) jc_H_21 jv_T_at rfl (by assumption) ⟨by decide, by decide⟩ jd_H_isMethod_2 (by decide) (by decide) (by decide) (fun v2 es2 h2 => ?_)
  obtain ⟨w2, e2⟩ := h2
  rw [e2, w2, show tat xs 0 = nI (xs.getD 0 0) from tat_nI (j := 0) (by omega)]
  refine z_bipush (v := 40) (pc := 5) E jd_H_isMethod_5 (by decide) ?_
  refine z_icmp_eq (pc := 7) (tgt := 12) E jd_H_isMethod_7 (by decide) (fun c7 => ?_) (fun c7 => ?_)
  · have h0 : xs.getD 0 0 = 40 := ceq (b := 40) c7 (by have := getD_lt (j := 0) h5; omega)
    refine z_aload_n (pc := 12) E jd_H_isMethod_12 rfl rfl ?_
    refine z_iconst (v := 1) (pc := 13) E jd_H_isMethod_13 (by decide) ?_
    refine z_cS2I (pc := 14) E (c_H_endOfTypes l G B hx) jc_H_25 js_H_endOfTypes ⟨by decide, by decide⟩ jd_H_isMethod_14 (by decide) (by decide) (by decide) (fun v14 es14 h14 => ?_)
    obtain ⟨w14, e14⟩ := h14
    rw [e14]
    rcases w14 with ⟨cl, hcl, het, rfl, hpc⟩ | ⟨het, rfl⟩
    rotate_left
    · refine z_istore_n (pc := 17) E jd_H_isMethod_17 rfl (by decide) rfl ?_
      dsimp only [List.set]
      refine z_iload_n (pc := 18) E jd_H_isMethod_18 rfl rfl ?_
      refine z_iconst (v := -1) (pc := 19) E jd_H_isMethod_19 (by decide) ?_
      refine z_icmp_eq (pc := 20) (tgt := 33) E jd_H_isMethod_20 (by decide) (fun c20 => ?_) (fun c20 => ?_)
      · refine z_iconst (v := 0) (pc := 33) E jd_H_isMethod_33 (by decide) ?_
        exact z_zret E rfl jd_H_isMethod_34 ⟨_, rfl, by rw [if_pos]; rw [shM, if_pos h0, het], rfl⟩
      · exact absurd rfl c20
    refine z_istore_n (pc := 17) E jd_H_isMethod_17 rfl (by decide) rfl ?_
    dsimp only [List.set]
    refine z_iload_n (pc := 18) E jd_H_isMethod_18 rfl rfl ?_
    refine z_iconst (v := -1) (pc := 19) E jd_H_isMethod_19 (by decide) ?_
    refine z_icmp_eq (pc := 20) (tgt := 33) E jd_H_isMethod_20 (by decide) (fun c20 => ?_) (fun c20 => ?_)
    · exact absurd (c20.symm ▸ nI_pos' (n := cl) (by omega) : (0 : Int32) ≤ -1) (by decide)
    · refine z_aload_n (pc := 23) E jd_H_isMethod_23 rfl rfl ?_
      refine z_iload_n (pc := 24) E jd_H_isMethod_24 rfl rfl ?_
      refine z_cV1I (pc := 25) E (c_T_at l G B hx) jc_H_21 jv_T_at rfl (by assumption) ⟨by decide, by decide⟩ jd_H_isMethod_25 (by decide) (by decide) (by decide) (fun v25 es25 h25 => ?_)
      obtain ⟨w25, e25⟩ := h25
      rw [e25, w25, tat_nI (by omega)]
      refine z_bipush (v := 41) (pc := 28) E jd_H_isMethod_28 (by decide) ?_
      refine z_icmp_eq (pc := 30) (tgt := 35) E jd_H_isMethod_30 (by decide) (fun c30 => ?_) (fun c30 => ?_)
      · refine z_iload_n (pc := 35) E jd_H_isMethod_35 rfl rfl ?_
        refine z_iconst (v := 1) (pc := 36) E jd_H_isMethod_36 (by decide) ?_
        refine z_iadd (pc := 37) E jd_H_isMethod_37 ?_
        refine z_istore_n (pc := 38) E jd_H_isMethod_38 rfl (by decide) rfl ?_
        dsimp only [List.set]
        refine z_aload_n (pc := 39) E jd_H_isMethod_39 rfl rfl ?_
        refine z_iload_n (pc := 40) E jd_H_isMethod_40 rfl rfl ?_
        refine z_cV1I (pc := 41) E (c_T_at l G B hx) jc_H_21 jv_T_at rfl (by assumption) ⟨by decide, by decide⟩ jd_H_isMethod_41 (by decide) (by decide) (by decide) (fun v41 es41 h41 => ?_)
        obtain ⟨w41, e41⟩ := h41
        rw [e41, w41, show tat xs (nI cl + 1) = nI (xs.getD (cl + 1) 0) by rw [nI_1]; exact tat_nI (by omega)]
        refine z_bipush (v := 86) (pc := 44) E jd_H_isMethod_44 (by decide) ?_
        refine z_icmp_ne (pc := 46) (tgt := 55) E jd_H_isMethod_46 (by decide) (fun c46 => ?_) (fun c46 => ?_)
        · have hV : ¬ xs.getD (cl + 1) 0 = 86 := nceq (b := 86) c46
          refine z_aload_n (pc := 55) E jd_H_isMethod_55 rfl rfl ?_
          refine z_iload_n (pc := 56) E jd_H_isMethod_56 rfl rfl ?_
          rw [nI_1]
          refine z_cS2I (pc := 57) E (c_H_endOfType l G B (i := cl + 1) hx (by omega)) jc_H_9 js_H_endOfType ⟨by decide, by decide⟩ jd_H_isMethod_57 (by decide) (by decide) (by decide) (fun v57 es57 h57 => ?_)
          obtain ⟨w57, e57⟩ := h57
          rw [e57, w57, ← nI_1]
          refine fin (eot xs (cl + 1)) cl hcl h0 het (eot_b h3) ?_
          rw [shM, if_pos h0, het]
          dsimp only
          rw [if_neg hV]
          constructor
          · intro q; rw [if_pos q]; decide
          · intro q; exact Decidable.byContradiction fun q2 => q (by rw [if_neg q2])
        · have hV : xs.getD (cl + 1) 0 = 86 := ceq (b := 86) c46 (by have := getD_lt (j := cl + 1) h5; omega)
          refine z_iload_n (pc := 49) E jd_H_isMethod_49 rfl rfl ?_
          refine z_iconst (v := 1) (pc := 50) E jd_H_isMethod_50 (by decide) ?_
          refine z_iadd (pc := 51) E jd_H_isMethod_51 ?_
          refine z_goto (pc := 52) (tgt := 60) E jd_H_isMethod_52 (by decide) ?_
          refine z_st (st' := [.int (oI (some (cl + 2)))]) (by rw [nI_1, nI_1]; rfl) ?_
          refine fin (some (cl + 2)) cl hcl h0 het (fun j q => by cases q; omega) ?_
          rw [shM, if_pos h0, het]
          dsimp only
          rw [if_pos hV]
          constructor
          · intro q; rw [if_pos (Option.some.inj q)]; decide
          · intro q; exact congrArg some (Decidable.byContradiction fun q2 => q (by rw [if_neg q2]))
      · exact absurd (by rw [hpc]; rfl) c30
  · have h0 : ¬ xs.getD 0 0 = 40 := nceq (b := 40) c7
    refine z_iconst (v := 0) (pc := 10) E jd_H_isMethod_10 (by decide) ?_
    exact z_zret E rfl jd_H_isMethod_11 ⟨_, rfl, by rw [if_pos]; rw [shM, if_neg h0], rfl⟩
end
section
/-! entries and rows of them -/
abbrev Ent : Type := Nat × Int32 × List Nat × List Nat
def en (G : zG) (B : Nat) (es : zE) (q : Nat) (e : Ent) : Prop := es[q]? = some (.inr (6, [.int (nI e.1), .int e.2.1, .ref (B + (q + 1)), .ref (B + (q + 3))])) ∧ tx G B es (q + 1) e.2.2.1 ∧ tx G B es (q + 3) e.2.2.2 ∧ e.1 < 5
theorem en.kept {G : zG} {B : Nat} {es es' : zE} {q : Nat} {e : Ent} (h : en G B es q e) (hk : ∀ j, q ≤ j → j < q + 5 → es'[j]? = es[j]?) : en G B es' q e :=
  ⟨(hk q (by omega) (by omega)).trans h.1, h.2.1.kept (fun j h1 h2 => hk j (by omega) (by omega)), h.2.2.1.kept (fun j h1 h2 => hk j (by omega) (by omega)), h.2.2.2⟩
theorem en.fr {G : zG} {B : Nat} {es es' : zE} {q lo hi : Nat} {e : Ent} (h : en G B es q e) (hk : Fr es es' lo hi) (ho : q + 5 ≤ lo ∨ hi ≤ q) : en G B es' q e := h.kept (fun j h1 h2 => hk.2 j (by omega))
def keyC (k : Nat) (n s n' s' : List Nat) : Int := if k = 1 then cmpZ s s' else if k = 2 then (if cmpZ n n' = 0 then cmpZ s s' else cmpZ n n') else if k = 3 then 0 else cmpZ n n'
def entC (e : Ent) (k' : Nat) (n' s' : List Nat) : Int := if e.1 = k' then keyC e.1 e.2.2.1 e.2.2.2 n' s' else (e.1 : Int) - k'
theorem rf_some (x : Nat) : va_rf (some x) = .ref x := rfl
theorem i0_toInt {v : Int32} : v = 0 ↔ v.toInt = 0 := ⟨fun h => by rw [h]; rfl, fun h => Int32.toInt_inj.mp (by rw [h]; rfl)⟩
theorem ilt_toInt {v : Int32} : v < 0 ↔ v.toInt < 0 := Int32.lt_iff_toInt_lt
theorem ige_toInt {v : Int32} : 0 ≤ v ↔ 0 ≤ v.toInt := Int32.le_iff_toInt_le
theorem lt5 {k : Nat} (h : k < 5) : k = 0 ∨ k = 1 ∨ k = 2 ∨ k = 3 ∨ k = 4 := by omega
set_option maxHeartbeats 4000000 in
set_option maxRecDepth 100000 in
theorem c_E_compareWith (l : Launch) (G : zG) (B : Nat) {es : zE} {q pn ps k' : Nat} {e : Ent} {n' s' : List Nat} (h : en G B es q e) (hn : tx G B es pn n') (hs : tx G B es ps s') (hk' : k' < 5) : Tr l G B jy_E_compareWith jb_E_compareWith 5 (some .int) 2 0 0 [.ref (B + q), .int (nI k'), .ref (B + pn), .ref (B + ps)] es (pI fun v es' => v.toInt = entC e k' n' s' ∧ es' = es) := by
  obtain ⟨k, m, nn, ss⟩ := e
  obtain ⟨h1, h2, h3, h4⟩ := h
  dsimp only at h1 h2 h3 h4
  obtain ⟨fn, i1, i2, i3, i4, i5⟩ := id h2
  obtain ⟨fs, j1, j2, j3, j4, j5⟩ := id h3
  refine Tr.of (ls := [some (.ref (B + q)), some (.int (nI k')), some (.ref (B + pn)), some (.ref (B + ps)), none]) (by decide +kernel) (Nat.le_of_ble_eq_true rfl) rfl ?_
  intro zp ze zs zm zb zt zc E
  refine z_aload_n (pc := 0) E jd_E_compareWith_0 rfl rfl ?_
  refine z_get (pc := 1) E jf_E_9 jd_E_compareWith_1 (by assumption) (by rfl) ?_
  refine z_iload_n (pc := 4) E jd_E_compareWith_4 rfl rfl ?_
  refine z_icmp_eq (pc := 5) (tgt := 15) E jd_E_compareWith_5 (by decide) (fun c5 => ?_) (fun c5 => ?_)
  · have hkk : k = k' := ceq c5
    subst hkk
    refine z_aload_n (pc := 15) E jd_E_compareWith_15 rfl rfl ?_
    refine z_get (pc := 16) E jf_E_9 jd_E_compareWith_16 (by assumption) (by rfl) ?_
    have hE : ∀ z : Int, keyC k nn ss n' s' = z → entC (k, m, nn, ss) k n' s' = z := fun z hz => by rw [entC, if_pos rfl]; exact hz
    rcases lt5 h4 with rfl | rfl | rfl | rfl | rfl
    · refine z_tableOut (pc := 19) (tgt := 84) E jd_E_compareWith_19 (by decide) (by decide) ?_
      refine z_aload_n (pc := 84) E jd_E_compareWith_84 rfl rfl ?_
      refine z_get (pc := 85) E jf_E_21 jd_E_compareWith_85 (by assumption) (by rfl) ?_
      refine z_aload_n (pc := 88) E jd_E_compareWith_88 rfl rfl ?_
      refine z_cV1I (pc := 89) E (c_T_compareWith l G B h2 hn) jc_E_32 jv_T_compareWith rfl (by assumption) ⟨by decide, by decide⟩ jd_E_compareWith_89 (by decide) (by decide) (by decide) (fun v89 es89 h89 => ?_)
      obtain ⟨w89, e89⟩ := h89
      rw [e89]
      exact z_iret E jd_E_compareWith_92 ⟨_, rfl, by rw [w89]; exact (hE _ rfl).symm, rfl⟩
    · refine z_tableIn (pc := 19) (tgt := 44) (off := 25) E jd_E_compareWith_19 (by decide) (by decide) (by decide) (by decide) ?_
      refine z_aload_n (pc := 44) E jd_E_compareWith_44 rfl rfl ?_
      refine z_get (pc := 45) E jf_E_25 jd_E_compareWith_45 (by assumption) (by rfl) ?_
      refine z_aload_n (pc := 48) E jd_E_compareWith_48 rfl rfl ?_
      refine z_cV1I (pc := 49) E (c_T_compareWith l G B h3 hs) jc_E_32 jv_T_compareWith rfl (by assumption) ⟨by decide, by decide⟩ jd_E_compareWith_49 (by decide) (by decide) (by decide) (fun v49 es49 h49 => ?_)
      obtain ⟨w49, e49⟩ := h49
      rw [e49]
      exact z_iret E jd_E_compareWith_52 ⟨_, rfl, by rw [w49]; exact (hE _ rfl).symm, rfl⟩
    · refine z_tableIn (pc := 19) (tgt := 53) (off := 34) E jd_E_compareWith_19 (by decide) (by decide) (by decide) (by decide) ?_
      refine z_aload_n (pc := 53) E jd_E_compareWith_53 rfl rfl ?_
      refine z_get (pc := 54) E jf_E_21 jd_E_compareWith_54 (by assumption) (by rfl) ?_
      refine z_aload_n (pc := 57) E jd_E_compareWith_57 rfl rfl ?_
      refine z_cV1I (pc := 58) E (c_T_compareWith l G B h2 hn) jc_E_32 jv_T_compareWith rfl (by assumption) ⟨by decide, by decide⟩ jd_E_compareWith_58 (by decide) (by decide) (by decide) (fun v58 es58 h58 => ?_)
      obtain ⟨w58, e58⟩ := h58
      rw [e58]
      refine z_istore (pc := 61) E jd_E_compareWith_61 (by decide) rfl ?_
      dsimp only [List.set]
      refine z_iload (pc := 63) E jd_E_compareWith_63 rfl ?_
      refine z_if_eq (pc := 65) (tgt := 73) E jd_E_compareWith_65 (by decide) (fun c65 => ?_) (fun c65 => ?_)
      · have hz : cmpZ nn n' = 0 := by rw [← w58]; exact i0_toInt.mp c65
        have hE2 := hE (cmpZ ss s') (by show (if cmpZ nn n' = 0 then _ else _) = _; rw [if_pos hz])
        refine z_aload_n (pc := 73) E jd_E_compareWith_73 rfl rfl ?_
        refine z_get (pc := 74) E jf_E_25 jd_E_compareWith_74 (by assumption) (by rfl) ?_
        refine z_aload_n (pc := 77) E jd_E_compareWith_77 rfl rfl ?_
        refine z_cV1I (pc := 78) E (c_T_compareWith l G B h3 hs) jc_E_32 jv_T_compareWith rfl (by assumption) ⟨by decide, by decide⟩ jd_E_compareWith_78 (by decide) (by decide) (by decide) (fun v78 es78 h78 => ?_)
        obtain ⟨w78, e78⟩ := h78
        rw [e78]
        exact z_iret E jd_E_compareWith_81 ⟨_, rfl, by rw [hE2]; assumption, rfl⟩
      · have hz : ¬ cmpZ nn n' = 0 := by rw [← w58]; exact fun q => c65 (i0_toInt.mpr q)
        have hE2 := hE (cmpZ nn n') (by show (if cmpZ nn n' = 0 then _ else _) = _; rw [if_neg hz])
        refine z_iload (pc := 68) E jd_E_compareWith_68 rfl ?_
        refine z_goto (pc := 70) (tgt := 81) E jd_E_compareWith_70 (by decide) ?_
        exact z_iret E jd_E_compareWith_81 ⟨_, rfl, by rw [hE2]; assumption, rfl⟩
    · refine z_tableIn (pc := 19) (tgt := 82) (off := 63) E jd_E_compareWith_19 (by decide) (by decide) (by decide) (by decide) ?_
      refine z_iconst (v := 0) (pc := 82) E jd_E_compareWith_82 (by decide) ?_
      exact z_iret E jd_E_compareWith_83 ⟨_, rfl, (hE 0 rfl).symm, rfl⟩
    · refine z_tableOut (pc := 19) (tgt := 84) E jd_E_compareWith_19 (by decide) (by decide) ?_
      refine z_aload_n (pc := 84) E jd_E_compareWith_84 rfl rfl ?_
      refine z_get (pc := 85) E jf_E_21 jd_E_compareWith_85 (by assumption) (by rfl) ?_
      refine z_aload_n (pc := 88) E jd_E_compareWith_88 rfl rfl ?_
      refine z_cV1I (pc := 89) E (c_T_compareWith l G B h2 hn) jc_E_32 jv_T_compareWith rfl (by assumption) ⟨by decide, by decide⟩ jd_E_compareWith_89 (by decide) (by decide) (by decide) (fun v89 es89 h89 => ?_)
      obtain ⟨w89, e89⟩ := h89
      rw [e89]
      exact z_iret E jd_E_compareWith_92 ⟨_, rfl, by rw [w89]; exact (hE _ rfl).symm, rfl⟩
  · have hne : ¬ k = k' := nceq c5
    refine z_aload_n (pc := 8) E jd_E_compareWith_8 rfl rfl ?_
    refine z_get (pc := 9) E jf_E_9 jd_E_compareWith_9 (by assumption) (by rfl) ?_
    refine z_iload_n (pc := 12) E jd_E_compareWith_12 rfl rfl ?_
    refine z_isub (pc := 13) E jd_E_compareWith_13 ?_
    exact z_iret E jd_E_compareWith_14 ⟨_, rfl, by rw [nI_sub_toInt (by omega) (by omega), entC, if_neg hne], rfl⟩
set_option maxHeartbeats 4000000 in
set_option maxRecDepth 100000 in
theorem c_E_become (l : Launch) (G : zG) (B : Nat) {es : zE} {q pn ps k' : Nat} {m' : Int32} {e : Ent} {n' s' : List Nat} (h : en G B es q e) (hn : tx G B es pn n') (hs : tx G B es ps s') (hk' : k' < 5) (d1 : pn + 2 ≤ q ∨ q + 5 ≤ pn) (d2 : ps + 2 ≤ q ∨ q + 5 ≤ ps) : Tr l G B jy_E_become jb_E_become 5 none 3 0 0 [.ref (B + q), .int (nI k'), .int m', .ref (B + pn), .ref (B + ps)] es (pV fun es' => en G B es' q (k', m', n', s') ∧ Fr es es' q (q + 5)) := by
  obtain ⟨k, m, nn, ss⟩ := e
  obtain ⟨h1, h2, h3, h4⟩ := h
  dsimp only at h1 h2 h3 h4
  refine Tr.of (ls := [some (.ref (B + q)), some (.int (nI k')), some (.int m'), some (.ref (B + pn)), some (.ref (B + ps))]) (by decide +kernel) (Nat.le_of_ble_eq_true rfl) rfl ?_
  intro zp ze zs zm zb zt zc E
  refine z_aload_n (pc := 0) E jd_E_become_0 rfl rfl ?_
  refine z_iload_n (pc := 1) E jd_E_become_1 rfl rfl ?_
  refine z_put (pc := 2) E jp_E_9 jd_E_become_2 (by assumption) (Nat.le_of_ble_eq_true rfl) rfl rfl (fun es2 he2 => ?_)
  dsimp only [List.set] at he2
  have F2 : Fr es es2 q (q + 1) := Fr.set he2 (by omega) (by omega)
  have k1 := zs_eq he2 h1
  refine z_aload_n (pc := 5) E jd_E_become_5 rfl rfl ?_
  refine z_iload_n (pc := 6) E jd_E_become_6 rfl rfl ?_
  refine z_put (pc := 7) E jp_E_15 jd_E_become_7 (by assumption) (Nat.le_of_ble_eq_true rfl) rfl rfl (fun es7 he7 => ?_)
  dsimp only [List.set] at he7
  have F7 : Fr es es7 q (q + 1) := F2.trs (Fr.set he7 (by omega) (by omega))
  have k2 := zs_eq he7 k1
  have t1 := h2.fr F7 (by omega)
  have t2 := hn.fr F7 (by omega)
  obtain ⟨_, i1, _⟩ := id t1
  refine z_aload_n (pc := 10) E jd_E_become_10 rfl rfl ?_
  refine z_get (pc := 11) E jf_E_21 jd_E_become_11 (by assumption) (by rfl) ?_
  refine z_aload_n (pc := 14) E jd_E_become_14 rfl rfl ?_
  refine z_cV1V (pc := 15) E (c_T_become l G B t1 t2 (by omega)) jc_E_28 jv_T_become rfl (by assumption) ⟨by decide, by decide⟩ jd_E_become_15 (by decide) (by decide) (by decide) (fun es15 h15 => ?_)
  obtain ⟨w15, F15⟩ := h15
  have t3 := (h3.fr F7 (by omega)).fr F15 (by omega)
  have t4 := (hs.fr F7 (by omega)).fr F15 (by omega)
  have k3 := F15.at (by omega) k2
  obtain ⟨_, i2, _⟩ := id t3
  refine z_aload_n (pc := 18) E jd_E_become_18 rfl rfl ?_
  refine z_get (pc := 19) E jf_E_25 jd_E_become_19 (by assumption) (by rfl) ?_
  refine z_aload (pc := 22) E jd_E_become_22 rfl ?_
  refine z_cV1V (pc := 24) E (c_T_become l G B t3 t4 (by omega)) jc_E_28 jv_T_become rfl (by assumption) ⟨by decide, by decide⟩ jd_E_become_24 (by decide) (by decide) (by decide) (fun es24 h24 => ?_)
  obtain ⟨w24, F24⟩ := h24
  have k4 := F24.at (by omega) k3
  have t5 := w15.fr F24 (by omega)
  exact z_vret E jd_E_become_27 ⟨rfl, ⟨k4, t5, w24, hk'⟩, (F7.tr F15 (lo := q) (hi := q + 5) (by omega) (by omega) (by omega) (by omega)).tr F24 (by omega) (by omega) (by omega) (by omega)⟩
def hasM (e : Ent) (z : Int32) : Bool := decide (¬ e.2.1 &&& z = 0)
set_option maxHeartbeats 4000000 in
set_option maxRecDepth 100000 in
theorem c_E_has (l : Launch) (G : zG) (B : Nat) {es : zE} {q : Nat} {e : Ent} {z : Int32} (h : en G B es q e) : Tr l G B jy_E_has jb_E_has 2 (some .boolean) 0 0 0 [.ref (B + q), .int z] es (pI fun v es' => v = (if hasM e z = true then 1 else 0) ∧ es' = es) := by
  obtain ⟨k, m, nn, ss⟩ := e
  obtain ⟨h1, h2, h3, h4⟩ := h
  dsimp only at h1 h2 h3 h4
  refine Tr.of (ls := [some (.ref (B + q)), some (.int z)]) (by decide +kernel) (Nat.le_of_ble_eq_true rfl) rfl ?_
  intro zp ze zs zm zb zt zc E
  refine z_aload_n (pc := 0) E jd_E_has_0 rfl rfl ?_
  refine z_get (pc := 1) E jf_E_15 jd_E_has_1 (by assumption) (by rfl) ?_
  refine z_iload_n (pc := 4) E jd_E_has_4 rfl rfl ?_
  refine z_iand (pc := 5) E jd_E_has_5 ?_
  refine z_if_eq (pc := 6) (tgt := 13) E jd_E_has_6 (by decide) (fun c6 => ?_) (fun c6 => ?_)
  · have hr : hasM (k, m, nn, ss) z = false := by simp [hasM, c6]
    refine z_iconst (v := 0) (pc := 13) E jd_E_has_13 (by decide) ?_
    exact z_zret E rfl jd_E_has_14 ⟨_, rfl, by rw [hr]; rfl, rfl⟩
  · have hr : hasM (k, m, nn, ss) z = true := by simp [hasM, c6]
    refine z_iconst (v := 1) (pc := 9) E jd_E_has_9 (by decide) ?_
    refine z_goto (pc := 10) (tgt := 14) E jd_E_has_10 (by decide) ?_
    exact z_zret E rfl jd_E_has_14 ⟨_, rfl, by rw [hr]; rfl, rfl⟩
def hsh (e : Ent) : Bool := if e.1 = 0 then !(hasM e 2 && (hasM e 8 || hasM e 128)) else (decide (e.1 = 4) || (decide (e.1 = 3) || !hasM e 2))
theorem b01 {b : Bool} (h : (if b = true then (1 : Int32) else 0) = 0) : b = false := by cases b <;> simp at h ⊢
theorem b01n {b : Bool} (h : ¬ (if b = true then (1 : Int32) else 0) = 0) : b = true := by cases b <;> simp at h ⊢
set_option maxHeartbeats 4000000 in
set_option maxRecDepth 100000 in
theorem c_E_isHashed (l : Launch) (G : zG) (B : Nat) {es : zE} {q : Nat} {e : Ent} (h : en G B es q e) : Tr l G B jy_E_isHashed jb_E_isHashed 1 (some .boolean) 1 0 0 [.ref (B + q)] es (pI fun v es' => v = (if hsh e = true then 1 else 0) ∧ es' = es) := by
  have hx := h
  obtain ⟨h1, h2, h3, h4⟩ := h
  refine Tr.of (ls := [some (.ref (B + q))]) (by decide +kernel) (Nat.le_of_ble_eq_true rfl) rfl ?_
  intro zp ze zs zm zb zt zc E
  refine z_aload_n (pc := 0) E jd_E_isHashed_0 rfl rfl ?_
  refine z_get (pc := 1) E jf_E_9 jd_E_isHashed_1 (by assumption) (by rfl) ?_
  refine z_if_ne (pc := 4) (tgt := 40) E jd_E_isHashed_4 (by decide) (fun c4 => ?_) (fun c4 => ?_)
  · have hk : ¬ e.1 = 0 := nceq (b := 0) c4
    refine z_aload_n (pc := 40) E jd_E_isHashed_40 rfl rfl ?_
    refine z_get (pc := 41) E jf_E_9 jd_E_isHashed_41 (by assumption) (by rfl) ?_
    refine z_iconst (v := 4) (pc := 44) E jd_E_isHashed_44 (by decide) ?_
    refine z_icmp_eq (pc := 45) (tgt := 64) E jd_E_isHashed_45 (by decide) (fun c45 => ?_) (fun c45 => ?_)
    · have hr : hsh e = true := by simp [hsh, ceq (b := 4) c45]
      refine z_iconst (v := 1) (pc := 64) E jd_E_isHashed_64 (by decide) ?_
      refine z_goto (pc := 65) (tgt := 69) E jd_E_isHashed_65 (by decide) ?_
      exact z_zret E rfl jd_E_isHashed_69 ⟨_, rfl, by rw [hr]; rfl, rfl⟩
    · refine z_aload_n (pc := 48) E jd_E_isHashed_48 rfl rfl ?_
      refine z_get (pc := 49) E jf_E_9 jd_E_isHashed_49 (by assumption) (by rfl) ?_
      refine z_iconst (v := 3) (pc := 52) E jd_E_isHashed_52 (by decide) ?_
      refine z_icmp_eq (pc := 53) (tgt := 64) E jd_E_isHashed_53 (by decide) (fun c53 => ?_) (fun c53 => ?_)
      · have hr : hsh e = true := by simp [hsh, ceq (b := 3) c53]
        refine z_iconst (v := 1) (pc := 64) E jd_E_isHashed_64 (by decide) ?_
        refine z_goto (pc := 65) (tgt := 69) E jd_E_isHashed_65 (by decide) ?_
        exact z_zret E rfl jd_E_isHashed_69 ⟨_, rfl, by rw [hr]; rfl, rfl⟩
      · refine z_aload_n (pc := 56) E jd_E_isHashed_56 rfl rfl ?_
        refine z_iconst (v := 2) (pc := 57) E jd_E_isHashed_57 (by decide) ?_
        refine z_cV1I (pc := 58) E (c_E_has l G B hx) jc_E_36 jv_E_has rfl (by assumption) ⟨by decide, by decide⟩ jd_E_isHashed_58 (by decide) (by decide) (by decide) (fun v58 es58 h58 => ?_)
        obtain ⟨w58, e58⟩ := h58
        rw [e58, w58]
        refine z_if_ne (pc := 61) (tgt := 68) E jd_E_isHashed_61 (by decide) (fun c61 => ?_) (fun c61 => ?_)
        · have hr : hsh e = false := by simp [hsh, hk, nceq (b := 4) c45, nceq (b := 3) c53, b01n c61]
          refine z_iconst (v := 0) (pc := 68) E jd_E_isHashed_68 (by decide) ?_
          exact z_zret E rfl jd_E_isHashed_69 ⟨_, rfl, by rw [hr]; rfl, rfl⟩
        · have hr : hsh e = true := by simp [hsh, hk, b01 c61]
          refine z_iconst (v := 1) (pc := 64) E jd_E_isHashed_64 (by decide) ?_
          refine z_goto (pc := 65) (tgt := 69) E jd_E_isHashed_65 (by decide) ?_
          exact z_zret E rfl jd_E_isHashed_69 ⟨_, rfl, by rw [hr]; rfl, rfl⟩
  · have hk : e.1 = 0 := ceq (b := 0) c4
    refine z_aload_n (pc := 7) E jd_E_isHashed_7 rfl rfl ?_
    refine z_iconst (v := 2) (pc := 8) E jd_E_isHashed_8 (by decide) ?_
    refine z_cV1I (pc := 9) E (c_E_has l G B hx) jc_E_36 jv_E_has rfl (by assumption) ⟨by decide, by decide⟩ jd_E_isHashed_9 (by decide) (by decide) (by decide) (fun v9 es9 h9 => ?_)
    obtain ⟨w9, e9⟩ := h9
    rw [e9, w9]
    refine z_if_eq (pc := 12) (tgt := 34) E jd_E_isHashed_12 (by decide) (fun c12 => ?_) (fun c12 => ?_)
    · have hr : hsh e = true := by simp [hsh, hk, b01 c12]
      refine z_iconst (v := 1) (pc := 34) E jd_E_isHashed_34 (by decide) ?_
      refine z_goto (pc := 35) (tgt := 39) E jd_E_isHashed_35 (by decide) ?_
      exact z_zret E rfl jd_E_isHashed_39 ⟨_, rfl, by rw [hr]; rfl, rfl⟩
    · refine z_aload_n (pc := 15) E jd_E_isHashed_15 rfl rfl ?_
      refine z_bipush (v := 8) (pc := 16) E jd_E_isHashed_16 (by decide) ?_
      refine z_cV1I (pc := 18) E (c_E_has l G B hx) jc_E_36 jv_E_has rfl (by assumption) ⟨by decide, by decide⟩ jd_E_isHashed_18 (by decide) (by decide) (by decide) (fun v18 es18 h18 => ?_)
      obtain ⟨w18, e18⟩ := h18
      rw [e18, w18]
      refine z_if_ne (pc := 21) (tgt := 38) E jd_E_isHashed_21 (by decide) (fun c21 => ?_) (fun c21 => ?_)
      · have hr : hsh e = false := by simp [hsh, hk, b01n c12, b01n c21]
        refine z_iconst (v := 0) (pc := 38) E jd_E_isHashed_38 (by decide) ?_
        exact z_zret E rfl jd_E_isHashed_39 ⟨_, rfl, by rw [hr]; rfl, rfl⟩
      · refine z_aload_n (pc := 24) E jd_E_isHashed_24 rfl rfl ?_
        refine z_sipush (v := 128) (pc := 25) E jd_E_isHashed_25 (by decide) ?_
        refine z_cV1I (pc := 28) E (c_E_has l G B hx) jc_E_36 jv_E_has rfl (by assumption) ⟨by decide, by decide⟩ jd_E_isHashed_28 (by decide) (by decide) (by decide) (fun v28 es28 h28 => ?_)
        obtain ⟨w28, e28⟩ := h28
        rw [e28, w28]
        refine z_if_ne (pc := 31) (tgt := 38) E jd_E_isHashed_31 (by decide) (fun c31 => ?_) (fun c31 => ?_)
        · have hr : hsh e = false := by simp [hsh, hk, b01n c12, b01n c31]
          refine z_iconst (v := 0) (pc := 38) E jd_E_isHashed_38 (by decide) ?_
          exact z_zret E rfl jd_E_isHashed_39 ⟨_, rfl, by rw [hr]; rfl, rfl⟩
        · have hr : hsh e = true := by simp [hsh, hk, b01n c12, b01 c21, b01 c31]
          refine z_iconst (v := 1) (pc := 34) E jd_E_isHashed_34 (by decide) ?_
          refine z_goto (pc := 35) (tgt := 39) E jd_E_isHashed_35 (by decide) ?_
          exact z_zret E rfl jd_E_isHashed_39 ⟨_, rfl, by rw [hr]; rfl, rfl⟩
end
section
/-- a Row at p: its places' entries E, lying at p + 2 + 5 * w j; the first u are used -/
def rO (G : zG) (B : Nat) (es : zE) (p most : Nat) (w : Nat → Nat) (E : Nat → Ent) (u : Nat) : Prop :=
  es[p]? = some (.inr (5, [.ref (B + (p + 1)), .int (nI u)])) ∧ (∃ a : Nat → Option Nat, es[p + 1]? = some (.inl (G.2.1 4, most, .inr (.inr (.inr (.inr a))))) ∧ ∀ j, j < most → a j = some (B + (p + 2 + 5 * w j))) ∧ u ≤ most ∧ most ≤ 10 ∧ (∀ j, j < most → w j < most) ∧ (∀ i j, i < most → j < most → w i = w j → i = j) ∧ ∀ j, j < most → en G B es (p + 2 + 5 * w j) (E j)
theorem rO.kept {G : zG} {B : Nat} {es es' : zE} {p most u : Nat} {w : Nat → Nat} {E : Nat → Ent} (h : rO G B es p most w E u) (hk : ∀ j, p ≤ j → j < p + 2 + 5 * most → es'[j]? = es[j]?) : rO G B es' p most w E u := by
  obtain ⟨h1, ⟨a, h2, h3⟩, h4, h5, h6, h7, h8⟩ := h
  exact ⟨(hk p (by omega) (by omega)).trans h1, ⟨a, (hk (p + 1) (by omega) (by omega)).trans h2, h3⟩, h4, h5, h6, h7, fun j hj => (h8 j hj).kept (fun i g1 g2 => hk i (by omega) (by have := h6 j hj; omega))⟩
theorem rO.fr {G : zG} {B : Nat} {es es' : zE} {p most u lo hi : Nat} {w : Nat → Nat} {E : Nat → Ent} (h : rO G B es p most w E u) (hk : Fr es es' lo hi) (ho : p + 2 + 5 * most ≤ lo ∨ hi ≤ p) : rO G B es' p most w E u := h.kept (fun j h1 h2 => hk.2 j (by omega))
/-- the first place whose entry doesn't come before -/
def plc (E : Nat → Ent) (k : Nat) (n s : List Nat) : Nat → Nat → Nat
  | 0, i => i
  | f + 1, i => if entC (E i) k n s < 0 then plc E k n s f (i + 1) else i
theorem plc_le (E : Nat → Ent) (k : Nat) (n s : List Nat) : ∀ f i, i ≤ plc E k n s f i ∧ plc E k n s f i ≤ i + f
  | 0, i => ⟨Nat.le_refl _, Nat.le_refl _⟩
  | f + 1, i => by
    rw [plc]
    split
    · have := plc_le E k n s f (i + 1); omega
    · omega
set_option maxHeartbeats 4000000 in
set_option maxRecDepth 100000 in
theorem c_R_placeOf (l : Launch) (G : zG) (B : Nat) {es : zE} {p most u pn ps k : Nat} {w : Nat → Nat} {E : Nat → Ent} {n s : List Nat} (h : rO G B es p most w E u) (hn : tx G B es pn n) (hs : tx G B es ps s) (hk : k < 5) : Tr l G B jy_R_placeOf jb_R_placeOf 5 (some .int) 3 0 0 [.ref (B + p), .int (nI k), .ref (B + pn), .ref (B + ps)] es (pI fun v es' => v = nI (plc E k n s u 0) ∧ es' = es) := by
  obtain ⟨h1, ⟨a, h2, h3⟩, h4, h5, h6, h7, h8⟩ := h
  refine Tr.of (ls := [some (.ref (B + p)), some (.int (nI k)), some (.ref (B + pn)), some (.ref (B + ps)), none]) (by decide +kernel) (Nat.le_of_ble_eq_true rfl) rfl ?_
  intro zp ze zs zm zb zt zc zE0
  have loop : ∀ (f i : Nat), i + f = u → plc E k n s f i = plc E k n s u 0 → Zj zp l ze (zr 3 0 0) zs zm ([.ref (B + p), .int (nI k), .ref (B + pn), .ref (B + ps)] : List Value).toArray zb zt zc (MQ zb (zQ G B (pI fun v es' => v = nI (plc E k n s u 0) ∧ es' = es)) ([.ref (B + p), .int (nI k), .ref (B + pn), .ref (B + ps)] : List Value).toArray zs 0 0 (fun q => B ≤ q)) G B 5 0 0 3 [some (.ref (B + p)), some (.int (nI k)), some (.ref (B + pn)), some (.ref (B + ps)), some (.int (nI i))] [] es := by
    intro f
    induction f with
    | zero =>
      intro i hi he
      refine z_iload (pc := 3) zE0 jd_R_placeOf_3 rfl ?_
      refine z_aload_n (pc := 5) zE0 jd_R_placeOf_5 rfl rfl ?_
      refine z_get (pc := 6) zE0 jf_R_9 jd_R_placeOf_6 (by assumption) (by rfl) ?_
      refine z_icmp_ge (pc := 9) (tgt := 34) zE0 jd_R_placeOf_9 (by decide) (fun c9 => ?_) (fun c9 => ?_)
      · refine z_iload (pc := 34) zE0 jd_R_placeOf_34 rfl ?_
        exact z_iret zE0 jd_R_placeOf_36 ⟨_, rfl, by rw [← he]; rfl, rfl⟩
      · exact absurd (nI_le (by omega) (by omega)) c9
    | succ f ih =>
      intro i hi he
      rw [plc] at he
      have he8 := h8 i (by omega)
      have hen := he8.1
      refine z_iload (pc := 3) zE0 jd_R_placeOf_3 rfl ?_
      refine z_aload_n (pc := 5) zE0 jd_R_placeOf_5 rfl rfl ?_
      refine z_get (pc := 6) zE0 jf_R_9 jd_R_placeOf_6 (by assumption) (by rfl) ?_
      refine z_icmp_ge (pc := 9) (tgt := 34) zE0 jd_R_placeOf_9 (by decide) (fun c9 => ?_) (fun c9 => ?_)
      · exact absurd (cle c9) (by omega)
      · refine z_aload_n (pc := 12) zE0 jd_R_placeOf_12 rfl rfl ?_
        refine z_get (pc := 13) zE0 jf_R_17 jd_R_placeOf_13 (by assumption) (by rfl) ?_
        refine z_iload (pc := 16) zE0 jd_R_placeOf_16 rfl ?_
        refine z_aald (ti := 4) (pc := 18) zE0 rfl jd_R_placeOf_18 (by assumption) (vp_in_nI (by omega) (by omega)) ?_
        rw [nI_clamp (by omega), h3 i (by omega), rf_some]
        refine z_iload_n (pc := 19) zE0 jd_R_placeOf_19 rfl rfl ?_
        refine z_aload_n (pc := 20) zE0 jd_R_placeOf_20 rfl rfl ?_
        refine z_aload_n (pc := 21) zE0 jd_R_placeOf_21 rfl rfl ?_
        refine z_cV3I (pc := 22) zE0 (c_E_compareWith l G B he8 hn hs hk) jc_R_37 jv_E_compareWith rfl (by assumption) ⟨by decide, by decide⟩ jd_R_placeOf_22 (by decide) (by decide) (by decide) (fun v22 es22 h22 => ?_)
        obtain ⟨w22, e22⟩ := h22
        rw [e22]
        refine z_if_ge (pc := 25) (tgt := 34) zE0 jd_R_placeOf_25 (by decide) (fun c25 => ?_) (fun c25 => ?_)
        · rw [if_neg (by rw [← w22]; have := ige_toInt.mp c25; omega)] at he
          refine z_iload (pc := 34) zE0 jd_R_placeOf_34 rfl ?_
          exact z_iret zE0 jd_R_placeOf_36 ⟨_, rfl, by rw [← he], rfl⟩
        · rw [if_pos (by rw [← w22]; exact ilt_toInt.mp (Int32.not_le.mp c25))] at he
          refine z_iinc (pc := 28) zE0 jd_R_placeOf_28 rfl rfl (by decide) rfl ?_
          dsimp only [List.set]
          refine z_goto (pc := 31) (tgt := 3) zE0 jd_R_placeOf_31 (by decide) ?_
          have := ih (i + 1) (by omega) he
          rw [nI_succ i] at this
          exact this
  refine z_iconst (v := 0) (pc := 0) zE0 jd_R_placeOf_0 (by decide) ?_
  refine z_istore (pc := 1) zE0 jd_R_placeOf_1 (by decide) rfl ?_
  dsimp only [List.set]
  exact loop u 0 (by omega) rfl
set_option maxHeartbeats 4000000 in
set_option maxRecDepth 100000 in
theorem c_R_isAt (l : Launch) (G : zG) (B : Nat) {es : zE} {p most u pn ps k i : Nat} {w : Nat → Nat} {E : Nat → Ent} {n s : List Nat} (h : rO G B es p most w E u) (hn : tx G B es pn n) (hs : tx G B es ps s) (hk : k < 5) (hi : i ≤ u) : Tr l G B jy_R_isAt jb_R_isAt 5 (some .boolean) 3 0 0 [.ref (B + p), .int (nI i), .int (nI k), .ref (B + pn), .ref (B + ps)] es (pI fun v es' => v = (if i < u ∧ entC (E i) k n s = 0 then 1 else 0) ∧ es' = es) := by
  obtain ⟨h1, ⟨a, h2, h3⟩, h4, h5, h6, h7, h8⟩ := h
  refine Tr.of (ls := [some (.ref (B + p)), some (.int (nI i)), some (.int (nI k)), some (.ref (B + pn)), some (.ref (B + ps))]) (by decide +kernel) (Nat.le_of_ble_eq_true rfl) rfl ?_
  intro zp ze zs zm zb zt zc zE0
  refine z_iload_n (pc := 0) zE0 jd_R_isAt_0 rfl rfl ?_
  refine z_aload_n (pc := 1) zE0 jd_R_isAt_1 rfl rfl ?_
  refine z_get (pc := 2) zE0 jf_R_9 jd_R_isAt_2 (by assumption) (by rfl) ?_
  refine z_icmp_ge (pc := 5) (tgt := 28) zE0 jd_R_isAt_5 (by decide) (fun c5 => ?_) (fun c5 => ?_)
  · have hr : ¬ (i < u ∧ entC (E i) k n s = 0) := by have := cle c5; omega
    refine z_iconst (v := 0) (pc := 28) zE0 jd_R_isAt_28 (by decide) ?_
    exact z_zret zE0 rfl jd_R_isAt_29 ⟨_, rfl, by simp [hr], rfl⟩
  · have hlt := ncle c5
    have he8 := h8 i (by omega)
    have hen := he8.1
    refine z_aload_n (pc := 8) zE0 jd_R_isAt_8 rfl rfl ?_
    refine z_get (pc := 9) zE0 jf_R_17 jd_R_isAt_9 (by assumption) (by rfl) ?_
    refine z_iload_n (pc := 12) zE0 jd_R_isAt_12 rfl rfl ?_
    refine z_aald (ti := 4) (pc := 13) zE0 rfl jd_R_isAt_13 (by assumption) (vp_in_nI (by omega) (by omega)) ?_
    rw [nI_clamp (by omega), h3 i (by omega), rf_some]
    refine z_iload_n (pc := 14) zE0 jd_R_isAt_14 rfl rfl ?_
    refine z_aload_n (pc := 15) zE0 jd_R_isAt_15 rfl rfl ?_
    refine z_aload (pc := 16) zE0 jd_R_isAt_16 rfl ?_
    refine z_cV3I (pc := 18) zE0 (c_E_compareWith l G B he8 hn hs hk) jc_R_37 jv_E_compareWith rfl (by assumption) ⟨by decide, by decide⟩ jd_R_isAt_18 (by decide) (by decide) (by decide) (fun v18 es18 h18 => ?_)
    obtain ⟨w18, e18⟩ := h18
    rw [e18]
    refine z_if_ne (pc := 21) (tgt := 28) zE0 jd_R_isAt_21 (by decide) (fun c21 => ?_) (fun c21 => ?_)
    · have hr : ¬ (i < u ∧ entC (E i) k n s = 0) := by rw [← w18]; exact fun q => c21 (i0_toInt.mpr q.2)
      refine z_iconst (v := 0) (pc := 28) zE0 jd_R_isAt_28 (by decide) ?_
      exact z_zret zE0 rfl jd_R_isAt_29 ⟨_, rfl, by simp [hr], rfl⟩
    · have hr : i < u ∧ entC (E i) k n s = 0 := ⟨hlt, by rw [← w18]; exact i0_toInt.mp c21⟩
      refine z_iconst (v := 1) (pc := 24) zE0 jd_R_isAt_24 (by decide) ?_
      refine z_goto (pc := 25) (tgt := 29) zE0 jd_R_isAt_25 (by decide) ?_
      exact z_zret zE0 rfl jd_R_isAt_29 ⟨_, rfl, by simp [hr], rfl⟩
/-- how many entries of a kind are among the first -/
def tal (E : Nat → Ent) (k : Nat) : Nat → Nat
  | 0 => 0
  | n + 1 => tal E k n + (if (E n).1 = k then 1 else 0)
theorem tal_le (E : Nat → Ent) (k : Nat) : ∀ n, tal E k n ≤ n
  | 0 => Nat.le_refl _
  | n + 1 => by
    rw [tal]
    have := tal_le E k n
    split <;> omega
set_option maxHeartbeats 4000000 in
set_option maxRecDepth 100000 in
theorem c_R_tally (l : Launch) (G : zG) (B : Nat) {es : zE} {p most u k : Nat} {w : Nat → Nat} {E : Nat → Ent} (h : rO G B es p most w E u) (hk : k < 5) : Tr l G B jy_R_tally jb_R_tally 4 (some .int) 0 0 0 [.ref (B + p), .int (nI k)] es (pI fun v es' => v = nI (tal E k u) ∧ es' = es) := by
  obtain ⟨h1, ⟨a, h2, h3⟩, h4, h5, h6, h7, h8⟩ := h
  refine Tr.of (ls := [some (.ref (B + p)), some (.int (nI k)), none, none]) (by decide +kernel) (Nat.le_of_ble_eq_true rfl) rfl ?_
  intro zp ze zs zm zb zt zc zE0
  have loop : ∀ (f i : Nat), i + f = u → Zj zp l ze (zr 0 0 0) zs zm ([.ref (B + p), .int (nI k)] : List Value).toArray zb zt zc (MQ zb (zQ G B (pI fun v es' => v = nI (tal E k u) ∧ es' = es)) ([.ref (B + p), .int (nI k)] : List Value).toArray zs 0 0 (fun q => B ≤ q)) G B 4 0 0 4 [some (.ref (B + p)), some (.int (nI k)), some (.int (nI (tal E k i))), some (.int (nI i))] [] es := by
    intro f
    induction f with
    | zero =>
      intro i hi
      have hi : i = u := by omega
      subst hi
      refine z_iload_n (pc := 4) zE0 jd_R_tally_4 rfl rfl ?_
      refine z_aload_n (pc := 5) zE0 jd_R_tally_5 rfl rfl ?_
      refine z_get (pc := 6) zE0 jf_R_9 jd_R_tally_6 (by assumption) (by rfl) ?_
      refine z_icmp_ge (pc := 9) (tgt := 34) zE0 jd_R_tally_9 (by decide) (fun c9 => ?_) (fun c9 => ?_)
      · refine z_iload_n (pc := 34) zE0 jd_R_tally_34 rfl rfl ?_
        exact z_iret zE0 jd_R_tally_35 ⟨_, rfl, rfl, rfl⟩
      · exact absurd (nI_le (by omega) (by omega)) c9
    | succ f ih =>
      intro i hi
      obtain ⟨e1, e2, e3, e4⟩ := h8 i (by omega)
      have := tal_le E k i
      refine z_iload_n (pc := 4) zE0 jd_R_tally_4 rfl rfl ?_
      refine z_aload_n (pc := 5) zE0 jd_R_tally_5 rfl rfl ?_
      refine z_get (pc := 6) zE0 jf_R_9 jd_R_tally_6 (by assumption) (by rfl) ?_
      refine z_icmp_ge (pc := 9) (tgt := 34) zE0 jd_R_tally_9 (by decide) (fun c9 => ?_) (fun c9 => ?_)
      · exact absurd (cle c9) (by omega)
      · refine z_aload_n (pc := 12) zE0 jd_R_tally_12 rfl rfl ?_
        refine z_get (pc := 13) zE0 jf_R_17 jd_R_tally_13 (by assumption) (by rfl) ?_
        refine z_iload_n (pc := 16) zE0 jd_R_tally_16 rfl rfl ?_
        refine z_aald (ti := 4) (pc := 17) zE0 rfl jd_R_tally_17 (by assumption) (vp_in_nI (by omega) (by omega)) ?_
        rw [nI_clamp (by omega), h3 i (by omega), rf_some]
        refine z_get (pc := 18) zE0 jf_R_34 jd_R_tally_18 (by assumption) (by rfl) ?_
        refine z_iload_n (pc := 21) zE0 jd_R_tally_21 rfl rfl ?_
        refine z_icmp_ne (pc := 22) (tgt := 28) zE0 jd_R_tally_22 (by decide) (fun c22 => ?_) (fun c22 => ?_)
        · have ht : tal E k (i + 1) = tal E k i := by rw [tal, if_neg (nceq c22)]; rfl
          refine z_iinc (pc := 28) zE0 jd_R_tally_28 rfl rfl (by decide) rfl ?_
          dsimp only [List.set]
          refine z_goto (pc := 31) (tgt := 4) zE0 jd_R_tally_31 (by decide) ?_
          have := ih (i + 1) (by omega)
          rw [ht, nI_succ i] at this
          first | exact this | (rw [nI_succ] at this; exact this)
        · have ht : tal E k (i + 1) = tal E k i + 1 := by rw [tal, if_pos (ceq c22)]
          refine z_iinc (pc := 25) zE0 jd_R_tally_25 rfl rfl (by decide) rfl ?_
          dsimp only [List.set]
          refine z_iinc (pc := 28) zE0 jd_R_tally_28 rfl rfl (by decide) rfl ?_
          dsimp only [List.set]
          refine z_goto (pc := 31) (tgt := 4) zE0 jd_R_tally_31 (by decide) ?_
          have := ih (i + 1) (by omega)
          rw [ht, nI_succ i] at this
          first | exact this | (rw [nI_succ] at this; exact this)
  refine z_iconst (v := 0) (pc := 0) zE0 jd_R_tally_0 (by decide) ?_
  refine z_istore_n (pc := 1) zE0 jd_R_tally_1 rfl (by decide) rfl ?_
  dsimp only [List.set]
  refine z_iconst (v := 0) (pc := 2) zE0 jd_R_tally_2 (by decide) ?_
  refine z_istore_n (pc := 3) zE0 jd_R_tally_3 rfl (by decide) rfl ?_
  dsimp only [List.set]
  exact loop u 0 (by omega)
end
section
/-! Row.enter and Row.takeOut -/
def ins {α : Type} (f : Nat → α) (pl u : Nat) (x : α) : Nat → α := fun j => if j < pl then f j else if j = pl then x else if j ≤ u then f (j - 1) else f j
def del {α : Type} (f : Nat → α) (pl u : Nat) : Nat → α := fun j => if j < pl then f j else if j + 1 < u then f (j + 1) else if j + 1 = u then f pl else f j
theorem zs_self {es : zE} {i : Nat} {e : va_E} (h : es[i]? = some e) : es = es.set i e := by
  apply List.ext_getElem?
  intro j
  by_cases hij : i = j
  · subst hij
    rw [List.getElem?_set_self (List.getElem?_eq_some_iff.mp h).1, h]
  · rw [List.getElem?_set_ne hij]
theorem zs_set2 {es es1 es2 : zE} {i : Nat} {e1 e2 : va_E} (h1 : es1 = es.set i e1) (h2 : es2 = es1.set i e2) : es2 = es.set i e2 := by
  rw [h2, h1, List.set_set]
theorem ins_w {w : Nat → Nat} {pl u most : Nat} (hpl : pl ≤ u) (hu : u < most) (h6 : ∀ j, j < most → w j < most) (h7 : ∀ i j, i < most → j < most → w i = w j → i = j) : (∀ j, j < most → ins w pl u (w u) j < most) ∧ ∀ i j, i < most → j < most → ins w pl u (w u) i = ins w pl u (w u) j → i = j := by
  have key : ∀ j, j < most → ∃ j', j' < most ∧ ins w pl u (w u) j = w j' ∧ ((j < pl ∧ j' = j) ∨ (j = pl ∧ j' = u) ∨ (pl < j ∧ j ≤ u ∧ j' + 1 = j) ∨ (u < j ∧ j' = j)) := by
    intro j hj
    by_cases h1 : j < pl
    · exact ⟨j, hj, by simp [ins, h1], by omega⟩
    · by_cases h2 : j = pl
      · exact ⟨u, hu, by simp [ins, h2], by omega⟩
      · by_cases h3 : j ≤ u
        · exact ⟨j - 1, by omega, by simp [ins, h1, h2, h3], by omega⟩
        · exact ⟨j, hj, by simp [ins, h1, h2, h3], by omega⟩
  refine ⟨fun j hj => ?_, fun i j hi hj h => ?_⟩
  · obtain ⟨j', h1, h2, -⟩ := key j hj
    rw [h2]; exact h6 j' h1
  · obtain ⟨i', a1, a2, a3⟩ := key i hi
    obtain ⟨j', b1, b2, b3⟩ := key j hj
    have := h7 i' j' a1 b1 (by rw [← a2, ← b2]; exact h)
    omega
theorem del_w {w : Nat → Nat} {pl u most : Nat} (hpl : pl < u) (hu : u ≤ most) (h6 : ∀ j, j < most → w j < most) (h7 : ∀ i j, i < most → j < most → w i = w j → i = j) : (∀ j, j < most → del w pl u j < most) ∧ ∀ i j, i < most → j < most → del w pl u i = del w pl u j → i = j := by
  have key : ∀ j, j < most → ∃ j', j' < most ∧ del w pl u j = w j' ∧ ((j < pl ∧ j' = j) ∨ (pl ≤ j ∧ j + 1 < u ∧ j' = j + 1) ∨ (j + 1 = u ∧ j' = pl) ∨ (u ≤ j ∧ j' = j)) := by
    intro j hj
    by_cases h1 : j < pl
    · exact ⟨j, hj, by simp [del, h1], by omega⟩
    · by_cases h2 : j + 1 < u
      · exact ⟨j + 1, by omega, by simp [del, h1, h2], by omega⟩
      · by_cases h3 : j + 1 = u
        · exact ⟨pl, by omega, by simp [del, h1, h3], by omega⟩
        · exact ⟨j, hj, by simp [del, h1, h2, h3], by omega⟩
  refine ⟨fun j hj => ?_, fun i j hi hj h => ?_⟩
  · obtain ⟨j', h1, h2, -⟩ := key j hj
    rw [h2]; exact h6 j' h1
  · obtain ⟨i', a1, a2, a3⟩ := key i hi
    obtain ⟨j', b1, b2, b3⟩ := key j hj
    have := h7 i' j' a1 b1 (by rw [← a2, ← b2]; exact h)
    omega
set_option maxHeartbeats 4000000 in
set_option maxRecDepth 100000 in
theorem c_R_enter (l : Launch) (G : zG) (B : Nat) {es : zE} {p most u pn ps k : Nat} {m : Int32} {w : Nat → Nat} {E : Nat → Ent} {n s : List Nat} (h : rO G B es p most w E u) (hn : tx G B es pn n) (hs : tx G B es ps s) (hk : k < 5) (d1 : pn + 2 ≤ p ∨ p + 2 + 5 * most ≤ pn) (d2 : ps + 2 ≤ p ∨ p + 2 + 5 * most ≤ ps) : Tr l G B jy_R_enter jb_R_enter 8 (some .int) 4 0 0 [.ref (B + p), .int (nI k), .int m, .ref (B + pn), .ref (B + ps)] es (pI fun v es' => if plc E k n s u 0 < u ∧ entC (E (plc E k n s u 0)) k n s = 0 then v = -3 ∧ es' = es else if u = most then v = -4 ∧ es' = es else v = nI (u + 1) ∧ rO G B es' p most (ins w (plc E k n s u 0) u (w u)) (ins E (plc E k n s u 0) u (k, m, n, s)) (u + 1) ∧ Fr es es' p (p + 2 + 5 * most)) := by
  have hr := h
  obtain ⟨h1, ⟨a, h2, h3⟩, h4, hm10, h6, h7, h8⟩ := h
  obtain ⟨pl, hpl⟩ : ∃ x, x = plc E k n s u 0 := ⟨_, rfl⟩
  have hple : pl ≤ u := by have := plc_le E k n s u 0; omega
  refine Tr.of (ls := [some (.ref (B + p)), some (.int (nI k)), some (.int m), some (.ref (B + pn)), some (.ref (B + ps)), none, none, none]) (by decide +kernel) (Nat.le_of_ble_eq_true rfl) rfl ?_
  intro zp ze zs zm zb zt zc zE0
  refine z_aload_n (pc := 0) zE0 jd_R_enter_0 rfl rfl ?_
  refine z_iload_n (pc := 1) zE0 jd_R_enter_1 rfl rfl ?_
  refine z_aload_n (pc := 2) zE0 jd_R_enter_2 rfl rfl ?_
  refine z_aload (pc := 3) zE0 jd_R_enter_3 rfl ?_
  refine z_cV3I (pc := 5) zE0 (c_R_placeOf l G B hr hn hs hk) jc_R_22 jv_R_placeOf rfl (by assumption) ⟨by decide, by decide⟩ jd_R_enter_5 (by decide) (by decide) (by decide) (fun v5 es5 h5 => ?_)
  obtain ⟨w5, e5⟩ := h5
  rw [← hpl] at w5
  rw [e5, w5]
  refine z_istore (pc := 8) zE0 jd_R_enter_8 (by decide) rfl ?_
  dsimp only [List.set]
  refine z_aload_n (pc := 10) zE0 jd_R_enter_10 rfl rfl ?_
  refine z_iload (pc := 11) zE0 jd_R_enter_11 rfl ?_
  refine z_iload_n (pc := 13) zE0 jd_R_enter_13 rfl rfl ?_
  refine z_aload_n (pc := 14) zE0 jd_R_enter_14 rfl rfl ?_
  refine z_aload (pc := 15) zE0 jd_R_enter_15 rfl ?_
  refine z_cV4I (pc := 17) zE0 (c_R_isAt l G B hr hn hs hk hple) jc_R_26 jv_R_isAt rfl (by assumption) ⟨by decide, by decide⟩ jd_R_enter_17 (by decide) (by decide) (by decide) (fun v17 es17 h17 => ?_)
  obtain ⟨w17, e17⟩ := h17
  rw [e17, w17]
  refine z_if_eq (pc := 20) (tgt := 26) zE0 jd_R_enter_20 (by decide) (fun c20 => ?_) (fun c20 => ?_)
  · have hC : ¬ (pl < u ∧ entC (E pl) k n s = 0) := fun q => by rw [if_pos q] at c20; exact absurd c20 (by decide)
    refine z_aload_n (pc := 26) zE0 jd_R_enter_26 rfl rfl ?_
    refine z_get (pc := 27) zE0 jf_R_9 jd_R_enter_27 (by assumption) (by rfl) ?_
    refine z_aload_n (pc := 30) zE0 jd_R_enter_30 rfl rfl ?_
    refine z_get (pc := 31) zE0 jf_R_17 jd_R_enter_31 (by assumption) (by rfl) ?_
    refine z_alen (ti := 4) (pc := 34) zE0 rfl jd_R_enter_34 h2 ?_
    refine z_icmp_lt (pc := 35) (tgt := 41) zE0 jd_R_enter_35 (by decide) (fun c35 => ?_) (fun c35 => ?_)
    · have hum : u < most := clt (b := most) c35
      have hq := h8 u hum
      have hwu := h6 u hum
      refine z_aload_n (pc := 41) zE0 jd_R_enter_41 rfl rfl ?_
      refine z_get (pc := 42) zE0 jf_R_17 jd_R_enter_42 (by assumption) (by rfl) ?_
      refine z_aload_n (pc := 45) zE0 jd_R_enter_45 rfl rfl ?_
      refine z_get (pc := 46) zE0 jf_R_9 jd_R_enter_46 (by assumption) (by rfl) ?_
      refine z_aald (ti := 4) (pc := 49) zE0 rfl jd_R_enter_49 (by assumption) (vp_in_nI (by omega) (by omega)) ?_
      rw [nI_clamp (by omega), h3 u hum, rf_some]
      refine z_astore (pc := 50) zE0 jd_R_enter_50 (by decide) rfl ?_
      dsimp only [List.set]
      refine z_aload_n (pc := 52) zE0 jd_R_enter_52 rfl rfl ?_
      refine z_get (pc := 53) zE0 jf_R_9 jd_R_enter_53 (by assumption) (by rfl) ?_
      refine z_istore (pc := 56) zE0 jd_R_enter_56 (by decide) rfl ?_
      dsimp only [List.set]
      have loop : ∀ (f i : Nat) (a' : Nat → Option Nat) (es1 : zE), i = pl + f → i ≤ u → (∀ j, j < most → a' j = if j ≤ i then a j else if j ≤ u then a (j - 1) else a j) → es1 = es.set (p + 1) (.inl (G.2.1 4, most, .inr (.inr (.inr (.inr a'))))) → Zj zp l ze (zr 4 0 0) zs zm ([.ref (B + p), .int (nI k), .int m, .ref (B + pn), .ref (B + ps)] : List Value).toArray zb zt zc (MQ zb (zQ G B (pI fun v es' => if plc E k n s u 0 < u ∧ entC (E (plc E k n s u 0)) k n s = 0 then v = -3 ∧ es' = es else if u = most then v = -4 ∧ es' = es else v = nI (u + 1) ∧ rO G B es' p most (ins w (plc E k n s u 0) u (w u)) (ins E (plc E k n s u 0) u (k, m, n, s)) (u + 1) ∧ Fr es es' p (p + 2 + 5 * most))) ([.ref (B + p), .int (nI k), .int m, .ref (B + pn), .ref (B + ps)] : List Value).toArray zs 0 0 (fun q => B ≤ q)) G B 8 0 0 58 [some (.ref (B + p)), some (.int (nI k)), some (.int m), some (.ref (B + pn)), some (.ref (B + ps)), some (.int (nI pl)), some (.ref (B + (p + 2 + 5 * w u))), some (.int (nI i))] [] es1 := by
        intro f
        induction f with
        | zero =>
          intro i a' es1 hi hiu ha' he1
          have hi : i = pl := by omega
          subst hi
          have F1 : Fr es es1 (p + 1) (p + 2) := Fr.set he1 (by omega) (by omega)
          have r1 := zs_ne he1 (by omega) h1
          have r2 := zs_eq he1 h2
          have q1 := hq.fr F1 (by omega)
          have q2 := q1.1
          refine z_iload (pc := 58) zE0 jd_R_enter_58 rfl ?_
          refine z_iload (pc := 60) zE0 jd_R_enter_60 rfl ?_
          refine z_icmp_le (pc := 62) (tgt := 87) zE0 jd_R_enter_62 (by decide) (fun c62 => ?_) (fun c62 => ?_)
          · refine z_aload (pc := 87) zE0 jd_R_enter_87 rfl ?_
            refine z_iload_n (pc := 89) zE0 jd_R_enter_89 rfl rfl ?_
            refine z_iload_n (pc := 90) zE0 jd_R_enter_90 rfl rfl ?_
            refine z_aload_n (pc := 91) zE0 jd_R_enter_91 rfl rfl ?_
            refine z_aload (pc := 92) zE0 jd_R_enter_92 rfl ?_
            refine z_cV4V (pc := 94) zE0 (c_E_become l G B q1 (hn.fr F1 (by omega)) (hs.fr F1 (by omega)) hk (by omega) (by omega)) jc_R_30 jv_E_become rfl (by assumption) ⟨by decide, by decide⟩ jd_R_enter_94 (by decide) (by decide) (by decide) (fun es94 h94 => ?_)
            obtain ⟨w94, F94⟩ := h94
            have s1 := F94.at (by omega) r1
            have s2 := F94.at (by omega) r2
            have s3 := w94.1
            refine z_aload_n (pc := 97) zE0 jd_R_enter_97 rfl rfl ?_
            refine z_get (pc := 98) zE0 jf_R_17 jd_R_enter_98 (by assumption) (by rfl) ?_
            refine z_iload (pc := 101) zE0 jd_R_enter_101 rfl ?_
            refine z_aload (pc := 103) zE0 jd_R_enter_103 rfl ?_
            refine z_aast (ti := 4) (ci := 6) (r := ("StreamIds$Entry", jT_E, 4)) (pc := 105) zE0 rfl rfl jd_R_enter_105 s2 s3 rfl (vp_in_nI (by omega) (by omega)) (fun es105 he105 => ?_)
            rw [nI_clamp (by omega)] at he105
            have t1 := zs_ne he105 (by omega) s1
            have t2 := zs_eq he105 s2
            refine z_aload_n (pc := 106) zE0 jd_R_enter_106 rfl rfl ?_
            refine z_dup (pc := 107) zE0 jd_R_enter_107 rfl ?_
            refine z_get (pc := 108) zE0 jf_R_9 jd_R_enter_108 (by assumption) (by rfl) ?_
            refine z_iconst (v := 1) (pc := 111) zE0 jd_R_enter_111 (by decide) ?_
            refine z_iadd (pc := 112) zE0 jd_R_enter_112 ?_
            refine z_put (pc := 113) zE0 jp_R_9 jd_R_enter_113 (by assumption) (Nat.le_of_ble_eq_true rfl) rfl rfl (fun es113 he113 => ?_)
            dsimp only [List.set] at he113
            have v1 := zs_eq he113 t1
            have v2 := zs_ne he113 (by omega) t2
            rw [nI_1] at v1
            have F113 : Fr es94 es113 p (p + 2) := (Fr.set he105 (by omega) (by omega)).trs (Fr.set he113 (by omega) (by omega))
            have FF : Fr es es113 p (p + 2 + 5 * most) := ((F1.tr F94 (lo := p) (hi := p + 2 + 5 * most) (by omega) (by omega) (by omega) (by omega))).tr F113 (by omega) (by omega) (by omega) (by omega)
            obtain ⟨g6, g7⟩ := ins_w (w := w) hple hum h6 h7
            have ok : rO G B es113 p most (ins w i u (w u)) (ins E i u (k, m, n, s)) (u + 1) := by
              refine ⟨v1, ⟨_, v2, fun j hj => ?_⟩, by omega, hm10, g6, g7, fun j hj => ?_⟩
              · by_cases e1 : j = i
                · subst e1
                  simp [va_up, ins]
                · rw [va_up_ne _ _ e1, ha' j hj]
                  by_cases e2 : j < i
                  · rw [if_pos (by omega), h3 j hj]; simp [ins, e2]
                  · by_cases e3 : j ≤ u
                    · rw [if_neg (by omega), if_pos e3, h3 (j - 1) (by omega)]; simp [ins, e1, e2, e3]
                    · rw [if_neg (by omega), if_neg e3, h3 j hj]; simp [ins, e1, e2, e3]
              · have key : ∀ j', j' < most → j' ≠ u → en G B es113 (p + 2 + 5 * w j') (E j') := by
                  intro j' hj' hne
                  have hx1 : w j' ≠ w u := fun q => hne (h7 j' u hj' hum q)
                  have hx2 := h6 j' hj'
                  exact (((h8 j' hj').fr F1 (by omega)).fr F94 (by omega)).fr F113 (by omega)
                by_cases e1 : j = i
                · subst e1
                  have := w94.fr F113 (by omega)
                  simpa [ins] using this
                · by_cases e2 : j < i
                  · have := key j hj (by omega)
                    simpa [ins, e2] using this
                  · by_cases e3 : j ≤ u
                    · have := key (j - 1) (by omega) (by omega)
                      simpa [ins, e1, e2, e3] using this
                    · have := key j hj (by omega)
                      simpa [ins, e1, e2, e3] using this
            refine z_aload_n (pc := 116) zE0 jd_R_enter_116 rfl rfl ?_
            refine z_get (pc := 117) zE0 jf_R_9 jd_R_enter_117 (by assumption) (by rfl) ?_
            exact z_iret zE0 jd_R_enter_120 ⟨_, rfl, by dsimp only; rw [← hpl, if_neg hC, if_neg (by omega)]; exact ⟨rfl, ok, FF⟩⟩
          · exact absurd (nI_le (Nat.le_refl _) (by omega)) c62
        | succ f ih =>
          intro i a' es1 hi hiu ha' he1
          have r1 := zs_ne he1 (by omega) h1
          have r2 := zs_eq he1 h2
          have hen := h8 (i - 1) (by omega)
          have hw1 := h6 (i - 1) (by omega)
          have r3 := zs_ne he1 (by omega) hen.1
          refine z_iload (pc := 58) zE0 jd_R_enter_58 rfl ?_
          refine z_iload (pc := 60) zE0 jd_R_enter_60 rfl ?_
          refine z_icmp_le (pc := 62) (tgt := 87) zE0 jd_R_enter_62 (by decide) (fun c62 => ?_) (fun c62 => ?_)
          · exact absurd (cle c62) (by omega)
          · refine z_aload_n (pc := 65) zE0 jd_R_enter_65 rfl rfl ?_
            refine z_get (pc := 66) zE0 jf_R_17 jd_R_enter_66 (by assumption) (by rfl) ?_
            refine z_iload (pc := 69) zE0 jd_R_enter_69 rfl ?_
            refine z_aload_n (pc := 71) zE0 jd_R_enter_71 rfl rfl ?_
            refine z_get (pc := 72) zE0 jf_R_17 jd_R_enter_72 (by assumption) (by rfl) ?_
            refine z_iload (pc := 75) zE0 jd_R_enter_75 rfl ?_
            refine z_iconst (v := 1) (pc := 77) zE0 jd_R_enter_77 (by decide) ?_
            refine z_isub (pc := 78) zE0 jd_R_enter_78 ?_
            rw [show nI i - 1 = nI (i - 1) by rw [← pk_sub (by omega)]; rfl]
            refine z_aald (ti := 4) (pc := 79) zE0 rfl jd_R_enter_79 (by assumption) (vp_in_nI (by omega) (by omega)) ?_
            rw [nI_clamp (by omega), ha' (i - 1) (by omega), if_pos (by omega), h3 (i - 1) (by omega), rf_some]
            refine z_aast (ti := 4) (ci := 6) (r := ("StreamIds$Entry", jT_E, 4)) (pc := 80) zE0 rfl rfl jd_R_enter_80 r2 r3 rfl (vp_in_nI (by omega) (by omega)) (fun es80 he80 => ?_)
            rw [nI_clamp (by omega)] at he80
            refine z_iinc (pc := 81) zE0 jd_R_enter_81 rfl rfl (by decide) rfl ?_
            dsimp only [List.set]
            refine z_goto (pc := 84) (tgt := 58) zE0 jd_R_enter_84 (by decide) ?_
            rw [show nI i + Int32.ofInt (-1) = nI (i - 1) by rw [show i = (i - 1) + 1 by omega]; exact pk_m1 (i - 1)]
            refine ih (i - 1) _ es80 (by omega) (by omega) (fun j hj => ?_) (zs_set2 he1 he80)
            by_cases e1 : j = i
            · subst e1
              rw [va_up_self, if_neg (by omega), if_pos (by omega), h3 (j - 1) (by omega)]
            · rw [va_up_ne _ _ e1, ha' j hj]
              by_cases e2 : j < i
              · simp [show j ≤ i by omega, show j ≤ i - 1 by omega]
              · simp [show ¬ j ≤ i by omega, show ¬ j ≤ i - 1 by omega]
      exact loop (u - pl) u a es (by omega) (Nat.le_refl _) (fun j hj => by by_cases hju : j ≤ u <;> simp [hju]) (zs_self h2)
    · have hum : u = most := by have := nclt (b := most) c35; omega
      refine z_bipush (v := -4) (pc := 38) zE0 jd_R_enter_38 (by decide) ?_
      exact z_iret zE0 jd_R_enter_40 ⟨_, rfl, by dsimp only; rw [← hpl, if_neg hC, if_pos hum]; exact ⟨rfl, rfl⟩⟩
  · have hC : pl < u ∧ entC (E pl) k n s = 0 := Decidable.byContradiction fun q => c20 (by rw [if_neg q])
    refine z_bipush (v := -3) (pc := 23) zE0 jd_R_enter_23 (by decide) ?_
    exact z_iret zE0 jd_R_enter_25 ⟨_, rfl, by dsimp only; rw [← hpl, if_pos hC]; exact ⟨rfl, rfl⟩⟩
set_option maxHeartbeats 4000000 in
set_option maxRecDepth 100000 in
theorem c_R_takeOut (l : Launch) (G : zG) (B : Nat) {es : zE} {p most u pn ps k : Nat} {w : Nat → Nat} {E : Nat → Ent} {n s : List Nat} (h : rO G B es p most w E u) (hn : tx G B es pn n) (hs : tx G B es ps s) (hk : k < 5) : Tr l G B jy_R_takeOut jb_R_takeOut 7 (some .int) 4 0 0 [.ref (B + p), .int (nI k), .ref (B + pn), .ref (B + ps)] es (pI fun v es' => if plc E k n s u 0 < u ∧ entC (E (plc E k n s u 0)) k n s = 0 then v = nI (u - 1) ∧ rO G B es' p most (del w (plc E k n s u 0) u) (del E (plc E k n s u 0) u) (u - 1) ∧ Fr es es' p (p + 2 + 5 * most) else v = -2 ∧ es' = es) := by
  have hr := h
  obtain ⟨h1, ⟨a, h2, h3⟩, h4, hm10, h6, h7, h8⟩ := h
  obtain ⟨pl, hpl⟩ : ∃ x, x = plc E k n s u 0 := ⟨_, rfl⟩
  have hple : pl ≤ u := by have := plc_le E k n s u 0; omega
  refine Tr.of (ls := [some (.ref (B + p)), some (.int (nI k)), some (.ref (B + pn)), some (.ref (B + ps)), none, none, none]) (by decide +kernel) (Nat.le_of_ble_eq_true rfl) rfl ?_
  intro zp ze zs zm zb zt zc zE0
  refine z_aload_n (pc := 0) zE0 jd_R_takeOut_0 rfl rfl ?_
  refine z_iload_n (pc := 1) zE0 jd_R_takeOut_1 rfl rfl ?_
  refine z_aload_n (pc := 2) zE0 jd_R_takeOut_2 rfl rfl ?_
  refine z_aload_n (pc := 3) zE0 jd_R_takeOut_3 rfl rfl ?_
  refine z_cV3I (pc := 4) zE0 (c_R_placeOf l G B hr hn hs hk) jc_R_22 jv_R_placeOf rfl (by assumption) ⟨by decide, by decide⟩ jd_R_takeOut_4 (by decide) (by decide) (by decide) (fun v4 es4 h4 => ?_)
  obtain ⟨w4, e4⟩ := h4
  rw [← hpl] at w4
  rw [e4, w4]
  refine z_istore (pc := 7) zE0 jd_R_takeOut_7 (by decide) rfl ?_
  dsimp only [List.set]
  refine z_aload_n (pc := 9) zE0 jd_R_takeOut_9 rfl rfl ?_
  refine z_iload (pc := 10) zE0 jd_R_takeOut_10 rfl ?_
  refine z_iload_n (pc := 12) zE0 jd_R_takeOut_12 rfl rfl ?_
  refine z_aload_n (pc := 13) zE0 jd_R_takeOut_13 rfl rfl ?_
  refine z_aload_n (pc := 14) zE0 jd_R_takeOut_14 rfl rfl ?_
  refine z_cV4I (pc := 15) zE0 (c_R_isAt l G B hr hn hs hk hple) jc_R_26 jv_R_isAt rfl (by assumption) ⟨by decide, by decide⟩ jd_R_takeOut_15 (by decide) (by decide) (by decide) (fun v15 es15 h15 => ?_)
  obtain ⟨w15, e15⟩ := h15
  rw [e15, w15]
  refine z_if_ne (pc := 18) (tgt := 24) zE0 jd_R_takeOut_18 (by decide) (fun c18 => ?_) (fun c18 => ?_)
  · have hC : pl < u ∧ entC (E pl) k n s = 0 := Decidable.byContradiction fun q => c18 (by rw [if_neg q])
    have hpu := hC.1
    have hq := h8 pl (by omega)
    have hwp := h6 pl (by omega)
    refine z_aload_n (pc := 24) zE0 jd_R_takeOut_24 rfl rfl ?_
    refine z_get (pc := 25) zE0 jf_R_17 jd_R_takeOut_25 (by assumption) (by rfl) ?_
    refine z_iload (pc := 28) zE0 jd_R_takeOut_28 rfl ?_
    refine z_aald (ti := 4) (pc := 30) zE0 rfl jd_R_takeOut_30 (by assumption) (vp_in_nI (by omega) (by omega)) ?_
    rw [nI_clamp (by omega), h3 pl (by omega), rf_some]
    refine z_astore (pc := 31) zE0 jd_R_takeOut_31 (by decide) rfl ?_
    dsimp only [List.set]
    refine z_aload_n (pc := 33) zE0 jd_R_takeOut_33 rfl rfl ?_
    refine z_dup (pc := 34) zE0 jd_R_takeOut_34 rfl ?_
    refine z_get (pc := 35) zE0 jf_R_9 jd_R_takeOut_35 (by assumption) (by rfl) ?_
    refine z_iconst (v := 1) (pc := 38) zE0 jd_R_takeOut_38 (by decide) ?_
    refine z_isub (pc := 39) zE0 jd_R_takeOut_39 ?_
    refine z_put (pc := 40) zE0 jp_R_9 jd_R_takeOut_40 (by assumption) (Nat.le_of_ble_eq_true rfl) rfl rfl (fun es40 he40 => ?_)
    dsimp only [List.set] at he40
    rw [show nI u - 1 = nI (u - 1) by rw [← pk_sub (by omega)]; rfl] at he40
    have b1 := zs_eq he40 h1
    have b2 := zs_ne he40 (by omega) h2
    have F40 : Fr es es40 p (p + 1) := Fr.set he40 (by omega) (by omega)
    refine z_iload (pc := 43) zE0 jd_R_takeOut_43 rfl ?_
    refine z_istore (pc := 45) zE0 jd_R_takeOut_45 (by decide) rfl ?_
    dsimp only [List.set]
    have loop : ∀ (f i : Nat) (a' : Nat → Option Nat) (es1 : zE), i + f + 1 = u → pl ≤ i → (∀ j, j < most → a' j = if j < pl then a j else if j < i then a (j + 1) else a j) → es1 = es40.set (p + 1) (.inl (G.2.1 4, most, .inr (.inr (.inr (.inr a'))))) → Zj zp l ze (zr 4 0 0) zs zm ([.ref (B + p), .int (nI k), .ref (B + pn), .ref (B + ps)] : List Value).toArray zb zt zc (MQ zb (zQ G B (pI fun v es' => if plc E k n s u 0 < u ∧ entC (E (plc E k n s u 0)) k n s = 0 then v = nI (u - 1) ∧ rO G B es' p most (del w (plc E k n s u 0) u) (del E (plc E k n s u 0) u) (u - 1) ∧ Fr es es' p (p + 2 + 5 * most) else v = -2 ∧ es' = es)) ([.ref (B + p), .int (nI k), .ref (B + pn), .ref (B + ps)] : List Value).toArray zs 0 0 (fun q => B ≤ q)) G B 7 0 0 47 [some (.ref (B + p)), some (.int (nI k)), some (.ref (B + pn)), some (.ref (B + ps)), some (.int (nI pl)), some (.ref (B + (p + 2 + 5 * w pl))), some (.int (nI i))] [] es1 := by
      intro f
      induction f with
      | zero =>
        intro i a' es1 hi hiu ha' he1
        have F1 : Fr es40 es1 (p + 1) (p + 2) := Fr.set he1 (by omega) (by omega)
        have r1 := zs_ne he1 (by omega) b1
        have r2 := zs_eq he1 b2
        have q1 := (hq.fr F40 (by omega)).fr F1 (by omega)
        have q2 := q1.1
        refine z_iload (pc := 47) zE0 jd_R_takeOut_47 rfl ?_
        refine z_aload_n (pc := 49) zE0 jd_R_takeOut_49 rfl rfl ?_
        refine z_get (pc := 50) zE0 jf_R_9 jd_R_takeOut_50 (by assumption) (by rfl) ?_
        refine z_icmp_ge (pc := 53) (tgt := 78) zE0 jd_R_takeOut_53 (by decide) (fun c53 => ?_) (fun c53 => ?_)
        · refine z_aload_n (pc := 78) zE0 jd_R_takeOut_78 rfl rfl ?_
          refine z_get (pc := 79) zE0 jf_R_17 jd_R_takeOut_79 (by assumption) (by rfl) ?_
          refine z_aload_n (pc := 82) zE0 jd_R_takeOut_82 rfl rfl ?_
          refine z_get (pc := 83) zE0 jf_R_9 jd_R_takeOut_83 (by assumption) (by rfl) ?_
          refine z_aload (pc := 86) zE0 jd_R_takeOut_86 rfl ?_
          refine z_aast (ti := 4) (ci := 6) (r := ("StreamIds$Entry", jT_E, 4)) (pc := 88) zE0 rfl rfl jd_R_takeOut_88 r2 q2 rfl (vp_in_nI (by omega) (by omega)) (fun es88 he88 => ?_)
          rw [nI_clamp (by omega)] at he88
          have t1 := zs_ne he88 (by omega) r1
          have t2 := zs_eq he88 r2
          have F88 : Fr es1 es88 (p + 1) (p + 2) := Fr.set he88 (by omega) (by omega)
          have FA : Fr es es88 p (p + 2) := ((F40.tr F1 (lo := p) (hi := p + 2) (by omega) (by omega) (by omega) (by omega))).tr F88 (by omega) (by omega) (by omega) (by omega)
          obtain ⟨g6, g7⟩ := del_w (w := w) hpu h4 h6 h7
          have ok : rO G B es88 p most (del w pl u) (del E pl u) (u - 1) := by
            refine ⟨t1, ⟨_, t2, fun j hj => ?_⟩, by omega, hm10, g6, g7, fun j hj => ?_⟩
            · by_cases e1 : j = u - 1
              · subst e1
                rw [va_up_self]
                simp [del, show ¬ u - 1 < pl by omega, show ¬ u - 1 + 1 < u by omega, show u - 1 + 1 = u by omega]
              · rw [va_up_ne _ _ e1, ha' j hj]
                by_cases e2 : j < pl
                · rw [if_pos e2, h3 j hj]; simp [del, e2]
                · by_cases e3 : j < i
                  · rw [if_neg e2, if_pos e3, h3 (j + 1) (by omega)]; simp [del, e2, show j + 1 < u by omega]
                  · rw [if_neg e2, if_neg e3, h3 j hj]; simp [del, e2, show ¬ j + 1 < u by omega, show ¬ j + 1 = u by omega]
            · have key : ∀ j', j' < most → en G B es88 (p + 2 + 5 * w j') (E j') := by
                intro j' hj'
                exact (h8 j' hj').fr FA (by omega)
              by_cases e2 : j < pl
              · have := key j hj
                simpa [del, e2] using this
              · by_cases e3 : j + 1 < u
                · have := key (j + 1) (by omega)
                  simpa [del, e2, e3] using this
                · by_cases e4 : j + 1 = u
                  · have := key pl (by omega)
                    simpa [del, e2, e3, e4] using this
                  · have := key j hj
                    simpa [del, e2, e3, e4] using this
          refine z_aload_n (pc := 89) zE0 jd_R_takeOut_89 rfl rfl ?_
          refine z_get (pc := 90) zE0 jf_R_9 jd_R_takeOut_90 (by assumption) (by rfl) ?_
          exact z_iret zE0 jd_R_takeOut_93 ⟨_, rfl, by dsimp only; rw [← hpl, if_pos hC]; exact ⟨rfl, ok, FA.tr (Fr.rf (lo := p) (hi := p + 2)) (by omega) (by omega) (by omega) (by omega)⟩⟩
        · exact absurd (nI_le (by omega) (by omega)) c53
      | succ f ih =>
        intro i a' es1 hi hiu ha' he1
        have r1 := zs_ne he1 (by omega) b1
        have r2 := zs_eq he1 b2
        have hen := (h8 (i + 1) (by omega)).fr F40 (by omega)
        have hw1 := h6 (i + 1) (by omega)
        have r3 := zs_ne he1 (by omega) hen.1
        refine z_iload (pc := 47) zE0 jd_R_takeOut_47 rfl ?_
        refine z_aload_n (pc := 49) zE0 jd_R_takeOut_49 rfl rfl ?_
        refine z_get (pc := 50) zE0 jf_R_9 jd_R_takeOut_50 (by assumption) (by rfl) ?_
        refine z_icmp_ge (pc := 53) (tgt := 78) zE0 jd_R_takeOut_53 (by decide) (fun c53 => ?_) (fun c53 => ?_)
        · exact absurd (cle c53) (by omega)
        · refine z_aload_n (pc := 56) zE0 jd_R_takeOut_56 rfl rfl ?_
          refine z_get (pc := 57) zE0 jf_R_17 jd_R_takeOut_57 (by assumption) (by rfl) ?_
          refine z_iload (pc := 60) zE0 jd_R_takeOut_60 rfl ?_
          refine z_aload_n (pc := 62) zE0 jd_R_takeOut_62 rfl rfl ?_
          refine z_get (pc := 63) zE0 jf_R_17 jd_R_takeOut_63 (by assumption) (by rfl) ?_
          refine z_iload (pc := 66) zE0 jd_R_takeOut_66 rfl ?_
          refine z_iconst (v := 1) (pc := 68) zE0 jd_R_takeOut_68 (by decide) ?_
          refine z_iadd (pc := 69) zE0 jd_R_takeOut_69 ?_
          rw [nI_1]
          refine z_aald (ti := 4) (pc := 70) zE0 rfl jd_R_takeOut_70 (by assumption) (vp_in_nI (by omega) (by omega)) ?_
          rw [nI_clamp (by omega), ha' (i + 1) (by omega), if_neg (by omega), if_neg (by omega), h3 (i + 1) (by omega), rf_some]
          refine z_aast (ti := 4) (ci := 6) (r := ("StreamIds$Entry", jT_E, 4)) (pc := 71) zE0 rfl rfl jd_R_takeOut_71 r2 r3 rfl (vp_in_nI (by omega) (by omega)) (fun es71 he71 => ?_)
          rw [nI_clamp (by omega)] at he71
          refine z_iinc (pc := 72) zE0 jd_R_takeOut_72 rfl rfl (by decide) rfl ?_
          dsimp only [List.set]
          refine z_goto (pc := 75) (tgt := 47) zE0 jd_R_takeOut_75 (by decide) ?_
          have := ih (i + 1) _ es71 (by omega) (by omega) (fun j hj => ?_) (zs_set2 he1 he71)
          · rw [nI_succ i] at this
            exact this
          · by_cases e1 : j = i
            · subst e1
              rw [va_up_self, if_neg (by omega), if_pos (by omega), h3 (j + 1) (by omega)]
            · rw [va_up_ne _ _ e1, ha' j hj]
              by_cases e2 : j < pl
              · simp [e2]
              · by_cases e3 : j < i
                · simp [e2, e3, show j < i + 1 by omega]
                · simp [e2, e3, show ¬ j < i + 1 by omega]
    exact loop (u - 1 - pl) pl a es40 (by omega) (Nat.le_refl _) (fun j hj => by by_cases q1 : j < pl <;> simp [q1]) (zs_self b2)
  · have hC : ¬ (pl < u ∧ entC (E pl) k n s = 0) := fun q => by rw [if_pos q] at c18; exact absurd c18 (by decide)
    refine z_bipush (v := -2) (pc := 21) zE0 jd_R_takeOut_21 (by decide) ?_
    exact z_iret zE0 jd_R_takeOut_23 ⟨_, rfl, by dsimp only; rw [← hpl, if_neg hC]; exact ⟨rfl, rfl⟩⟩
end
section
/-! bytes -/
/-- the lowest byte -/
def by8 (v : Int32) : Nat := v.toBitVec.toNat % 256
/-- a byte as an element of a row of bytes -/
def bI (b : Nat) : Int32 := (nI b).toInt8.toInt32
theorem nI_bv (n : Nat) : (nI n).toBitVec = BitVec.ofNat 32 n := rfl
theorem by8_lt (v : Int32) : by8 v < 256 := Nat.mod_lt _ (by decide)
theorem by8_nI {c : Nat} (h : c < 256) : by8 (nI c) = c := by
  rw [by8, nI_bv, BitVec.toNat_ofNat]; omega
theorem i8_bv (v : Int32) : v.toInt8.toBitVec = v.toBitVec.setWidth 8 := by
  rw [Int32.toBitVec_toInt8]; exact BitVec.signExtend_eq_setWidth_of_le _ (by decide)
theorem bI_by8 (v : Int32) : v.toInt8.toInt32 = bI (by8 v) := by
  unfold bI
  congr 1
  apply Int8.toBitVec_inj.mp
  rw [i8_bv, i8_bv, nI_bv]
  apply BitVec.eq_of_toNat_eq
  simp [by8]
theorem bI_and : ∀ b, b < 256 → bI b &&& 255 = nI b := by decide +kernel
/-- a number's four bytes -/
def num (v : Int32) : List Nat := [v.toBitVec.toNat / 2 ^ 24 % 256, v.toBitVec.toNat / 2 ^ 16 % 256, v.toBitVec.toNat / 2 ^ 8 % 256, v.toBitVec.toNat % 256]
theorem num_len (v : Int32) : (num v).length = 4 := rfl
theorem num_lt (v : Int32) : ∀ b ∈ num v, b < 256 := by
  intro b hb
  simp only [num, List.mem_cons, List.not_mem_nil, or_false] at hb
  omega
theorem by8_ushr (v s : Int32) (k : Nat) (hs : ((s.toUInt32 &&& Int32.toUInt32 31).toBitVec % 32).toNat = k) : by8 (v.toUInt32 >>> (s.toUInt32 &&& Int32.toUInt32 31)).toInt32 = v.toBitVec.toNat / 2 ^ k % 256 := by
  rw [by8, pk_ushr v s k hs]
def ut (t : List Nat) : List Nat := 0 :: t.length :: t
def dot (c : Nat) : Nat := if c = 47 then 46 else c
def utd (t : List Nat) : List Nat := 0 :: t.length :: t.map dot
theorem ut_len (t : List Nat) : (ut t).length = t.length + 2 := rfl
theorem utd_len (t : List Nat) : (utd t).length = t.length + 2 := by simp [utd]
/-- a Layout at p: its bytes, where the parts begin -/
def ly (G : zG) (B : Nat) (es : zE) (p : Nat) (bs : List Nat) (bg : Nat → Int32) : Prop := ∃ f : Nat → Int32, es[p]? = some (.inr (2, [.ref (B + (p + 1)), .int (nI bs.length), .ref (B + (p + 2))])) ∧ es[p + 1]? = some (.inl (G.2.1 0, 694, .inl f)) ∧ es[p + 2]? = some (.inl (G.2.1 1, 6, .inl bg)) ∧ bs.length ≤ 694 ∧ (∀ j, j < bs.length → f j = bI (bs.getD j 0)) ∧ ∀ b ∈ bs, b < 256
theorem ly.kept {G : zG} {B : Nat} {es es' : zE} {p : Nat} {bs : List Nat} {bg : Nat → Int32} (h : ly G B es p bs bg) (hk : ∀ j, p ≤ j → j < p + 3 → es'[j]? = es[j]?) : ly G B es' p bs bg := by
  obtain ⟨f, h1, h2, h3, h4⟩ := h
  exact ⟨f, (hk p (by omega) (by omega)).trans h1, (hk (p + 1) (by omega) (by omega)).trans h2, (hk (p + 2) (by omega) (by omega)).trans h3, h4⟩
theorem ly.fr {G : zG} {B : Nat} {es es' : zE} {p lo hi : Nat} {bs : List Nat} {bg : Nat → Int32} (h : ly G B es p bs bg) (hk : Fr es es' lo hi) (ho : p + 3 ≤ lo ∨ hi ≤ p) : ly G B es' p bs bg := h.kept (fun j h1 h2 => hk.2 j (by omega))
theorem ly.obj {G : zG} {B : Nat} {es : zE} {p : Nat} {bs : List Nat} {bg : Nat → Int32} (h : ly G B es p bs bg) : es[p]? = some (.inr (2, [.ref (B + (p + 1)), .int (nI bs.length), .ref (B + (p + 2))])) := by
  obtain ⟨f, h1, -⟩ := h; exact h1
theorem tx.obj {G : zG} {B : Nat} {es : zE} {p : Nat} {xs : List Nat} (h : tx G B es p xs) : es[p]? = some (.inr (1, [.ref (B + (p + 1)), .int (nI xs.length)])) := by
  obtain ⟨f, h1, -⟩ := h; exact h1
theorem tx.len {G : zG} {B : Nat} {es : zE} {p : Nat} {xs : List Nat} (h : tx G B es p xs) : xs.length ≤ 24 := by
  obtain ⟨f, -, -, h1, -⟩ := h; exact h1
theorem tx.lt {G : zG} {B : Nat} {es : zE} {p : Nat} {xs : List Nat} (h : tx G B es p xs) : ∀ x ∈ xs, x < 128 := by
  obtain ⟨f, -, -, -, -, h1⟩ := h; exact h1
set_option maxHeartbeats 4000000 in
set_option maxRecDepth 100000 in
theorem c_L_put (l : Launch) (G : zG) (B : Nat) {es : zE} {p : Nat} {bs : List Nat} {bg : Nat → Int32} {v : Int32} (h : ly G B es p bs bg) (hl : bs.length < 694) : Tr l G B jy_L_put jb_L_put 2 none 0 0 0 [.ref (B + p), .int v] es (pV fun es' => ly G B es' p (bs ++ [by8 v]) bg ∧ Fr es es' p (p + 3)) := by
  obtain ⟨f, h1, h2, h3, h4, h5, h6⟩ := h
  refine Tr.of (ls := [some (.ref (B + p)), some (.int v)]) (by decide +kernel) (Nat.le_of_ble_eq_true rfl) rfl ?_
  intro zp ze zs zm zb zt zc E
  refine z_aload_n (pc := 0) E jd_L_put_0 rfl rfl ?_
  refine z_get (pc := 1) E jf_L_15 jd_L_put_1 (by assumption) (by rfl) ?_
  refine z_sipush (v := 694) (pc := 4) E jd_L_put_4 (by decide) ?_
  refine z_icmp_ge (pc := 7) (tgt := 31) E jd_L_put_7 (by decide) (fun c7 => ?_) (fun c7 => ?_)
  · exact absurd (cle (a := 694) c7) (by omega)
  · refine z_aload_n (pc := 10) E jd_L_put_10 rfl rfl ?_
    refine z_get (pc := 11) E jf_L_9 jd_L_put_11 (by assumption) (by rfl) ?_
    refine z_aload_n (pc := 14) E jd_L_put_14 rfl rfl ?_
    refine z_get (pc := 15) E jf_L_15 jd_L_put_15 (by assumption) (by rfl) ?_
    refine z_iload_n (pc := 18) E jd_L_put_18 rfl rfl ?_
    refine z_i2b (pc := 19) E jd_L_put_19 ?_
    refine z_bast (ti := 0) (pc := 20) E rfl jd_L_put_20 (by assumption) (vp_in_nI (by omega) (by omega)) (fun es20 he20 => ?_)
    rw [nI_clamp (by omega)] at he20
    have g1 := zs_ne he20 (by omega) h1
    have g2 := zs_eq he20 h2
    have g3 := zs_ne he20 (by omega) h3
    refine z_aload_n (pc := 21) E jd_L_put_21 rfl rfl ?_
    refine z_dup (pc := 22) E jd_L_put_22 rfl ?_
    refine z_get (pc := 23) E jf_L_15 jd_L_put_23 (by assumption) (by rfl) ?_
    refine z_iconst (v := 1) (pc := 26) E jd_L_put_26 (by decide) ?_
    refine z_iadd (pc := 27) E jd_L_put_27 ?_
    refine z_put (pc := 28) E jp_L_15 jd_L_put_28 (by assumption) (Nat.le_of_ble_eq_true rfl) rfl rfl (fun es28 he28 => ?_)
    dsimp only [List.set] at he28
    have k1 := zs_eq he28 g1
    rw [nI_1] at k1
    have k2 := zs_ne he28 (by omega) g2
    have k3 := zs_ne he28 (by omega) g3
    have q3 : (bs ++ [by8 v]).length = bs.length + 1 := by simp
    have q1 : ∀ j, j < (bs ++ [by8 v]).length → upd f bs.length (vp_nar .byte v.toInt8.toInt32) j = bI ((bs ++ [by8 v]).getD j 0) := by
      intro j hj
      by_cases hjl : j = bs.length
      · subst hjl
        rw [pk_us, pk_vb, bI_by8, getD_app_r (Nat.le_refl _), Nat.sub_self]; rfl
      · rw [pk_un hjl, getD_app_l (by omega), h5 j (by omega)]
    have q2 : ∀ x ∈ bs ++ [by8 v], x < 256 := by
      intro x hx
      rcases List.mem_append.mp hx with h | h
      · exact h6 x h
      · rw [List.mem_singleton.mp h]; exact by8_lt v
    exact z_vret E jd_L_put_31 ⟨rfl, ⟨_, by rw [q3]; exact k1, k2, k3, by omega, q1, q2⟩, (Fr.set he20 (by omega) (by omega)).trs (Fr.set he28 (by omega) (by omega))⟩
set_option maxHeartbeats 4000000 in
set_option maxRecDepth 100000 in
theorem c_L_putLength (l : Launch) (G : zG) (B : Nat) {es : zE} {p c : Nat} {bs : List Nat} {bg : Nat → Int32} (h : ly G B es p bs bg) (hl : bs.length + 2 ≤ 694) (hc : c < 256) : Tr l G B jy_L_putLength jb_L_putLength 2 none 1 0 0 [.ref (B + p), .int (nI c)] es (pV fun es' => ly G B es' p (bs ++ [0, c]) bg ∧ Fr es es' p (p + 3)) := by
  have h1 := h.obj
  refine Tr.of (ls := [some (.ref (B + p)), some (.int (nI c))]) (by decide +kernel) (Nat.le_of_ble_eq_true rfl) rfl ?_
  intro zp ze zs zm zb zt zc E
  refine z_aload_n (pc := 0) E jd_L_putLength_0 rfl rfl ?_
  refine z_iload_n (pc := 1) E jd_L_putLength_1 rfl rfl ?_
  refine z_bipush (v := 8) (pc := 2) E jd_L_putLength_2 (by decide) ?_
  refine z_iushr (pc := 4) E jd_L_putLength_4 ?_
  refine z_topi (y := nI 0) (by have := pk_ushrN (n := c) (by omega) 8 8 (by decide); rw [Nat.div_eq_of_lt hc] at this; exact this) ?_
  refine z_cV1V (pc := 5) E (c_L_put l G B (v := nI 0) h (by omega)) jc_L_102 jv_L_put rfl (by assumption) ⟨by decide, by decide⟩ jd_L_putLength_5 (Nat.le_of_ble_eq_true rfl) (by decide) (by decide) (fun es5 h5 => ?_)
  obtain ⟨w5, F5⟩ := h5
  have h1 := w5.obj
  refine z_aload_n (pc := 8) E jd_L_putLength_8 rfl rfl ?_
  refine z_iload_n (pc := 9) E jd_L_putLength_9 rfl rfl ?_
  refine z_cV1V (pc := 10) E (c_L_put l G B (v := nI c) w5 (by simp; omega)) jc_L_102 jv_L_put rfl (by assumption) ⟨by decide, by decide⟩ jd_L_putLength_10 (Nat.le_of_ble_eq_true rfl) (by decide) (by decide) (fun es10 h10 => ?_)
  obtain ⟨w10, F10⟩ := h10
  rw [by8_nI hc, by8_nI (by omega), List.append_assoc] at w10
  exact z_vret E jd_L_putLength_13 ⟨rfl, w10, F5.trs F10⟩
set_option maxHeartbeats 4000000 in
set_option maxRecDepth 100000 in
theorem c_L_putNumber (l : Launch) (G : zG) (B : Nat) {es : zE} {p : Nat} {bs : List Nat} {bg : Nat → Int32} {v : Int32} (h : ly G B es p bs bg) (hl : bs.length + 4 ≤ 694) : Tr l G B jy_L_putNumber jb_L_putNumber 2 none 1 0 0 [.ref (B + p), .int v] es (pV fun es' => ly G B es' p (bs ++ num v) bg ∧ Fr es es' p (p + 3)) := by
  have h1 := h.obj
  refine Tr.of (ls := [some (.ref (B + p)), some (.int v)]) (by decide +kernel) (Nat.le_of_ble_eq_true rfl) rfl ?_
  intro zp ze zs zm zb zt zc E
  refine z_aload_n (pc := 0) E jd_L_putNumber_0 rfl rfl ?_
  refine z_iload_n (pc := 1) E jd_L_putNumber_1 rfl rfl ?_
  refine z_bipush (v := 24) (pc := 2) E jd_L_putNumber_2 (by decide) ?_
  refine z_iushr (pc := 4) E jd_L_putNumber_4 ?_
  refine z_cV1V (pc := 5) E (c_L_put l G B h (by omega)) jc_L_102 jv_L_put rfl (by assumption) ⟨by decide, by decide⟩ jd_L_putNumber_5 (Nat.le_of_ble_eq_true rfl) (by decide) (by decide) (fun es5 h5 => ?_)
  obtain ⟨w5, F5⟩ := h5
  rw [by8_ushr v 24 24 (by decide)] at w5
  have h1 := w5.obj
  refine z_aload_n (pc := 8) E jd_L_putNumber_8 rfl rfl ?_
  refine z_iload_n (pc := 9) E jd_L_putNumber_9 rfl rfl ?_
  refine z_bipush (v := 16) (pc := 10) E jd_L_putNumber_10 (by decide) ?_
  refine z_iushr (pc := 12) E jd_L_putNumber_12 ?_
  refine z_cV1V (pc := 13) E (c_L_put l G B w5 (by simp; omega)) jc_L_102 jv_L_put rfl (by assumption) ⟨by decide, by decide⟩ jd_L_putNumber_13 (Nat.le_of_ble_eq_true rfl) (by decide) (by decide) (fun es13 h13 => ?_)
  obtain ⟨w13, F13⟩ := h13
  rw [by8_ushr v 16 16 (by decide)] at w13
  have h1 := w13.obj
  refine z_aload_n (pc := 16) E jd_L_putNumber_16 rfl rfl ?_
  refine z_iload_n (pc := 17) E jd_L_putNumber_17 rfl rfl ?_
  refine z_bipush (v := 8) (pc := 18) E jd_L_putNumber_18 (by decide) ?_
  refine z_iushr (pc := 20) E jd_L_putNumber_20 ?_
  refine z_cV1V (pc := 21) E (c_L_put l G B w13 (by simp; omega)) jc_L_102 jv_L_put rfl (by assumption) ⟨by decide, by decide⟩ jd_L_putNumber_21 (Nat.le_of_ble_eq_true rfl) (by decide) (by decide) (fun es21 h21 => ?_)
  obtain ⟨w21, F21⟩ := h21
  rw [by8_ushr v 8 8 (by decide)] at w21
  have h1 := w21.obj
  refine z_aload_n (pc := 24) E jd_L_putNumber_24 rfl rfl ?_
  refine z_iload_n (pc := 25) E jd_L_putNumber_25 rfl rfl ?_
  refine z_cV1V (pc := 26) E (c_L_put l G B (v := v) w21 (by simp; omega)) jc_L_102 jv_L_put rfl (by assumption) ⟨by decide, by decide⟩ jd_L_putNumber_26 (Nat.le_of_ble_eq_true rfl) (by decide) (by decide) (fun es26 h26 => ?_)
  obtain ⟨w26, F26⟩ := h26
  rw [List.append_assoc, List.append_assoc, List.append_assoc] at w26
  exact z_vret E jd_L_putNumber_29 ⟨rfl, w26, ((F5.trs F13).trs F21).trs F26⟩
theorem take_succ_getD {xs : List Nat} {i : Nat} (h : i < xs.length) : xs.take (i + 1) = xs.take i ++ [xs.getD i 0] := by
  rw [List.take_succ, List.getElem?_eq_getElem h, List.getD_eq_getElem?_getD, List.getElem?_eq_getElem h]; rfl
set_option maxHeartbeats 4000000 in
set_option maxRecDepth 100000 in
theorem c_L_putText (l : Launch) (G : zG) (B : Nat) {es : zE} {p q : Nat} {bs xs : List Nat} {bg : Nat → Int32} (h : ly G B es p bs bg) (hx : tx G B es q xs) (hq : q + 2 ≤ p ∨ p + 3 ≤ q) (hl : bs.length + (xs.length + 2) ≤ 694) : Tr l G B jy_L_putText jb_L_putText 3 none 2 0 0 [.ref (B + p), .ref (B + q)] es (pV fun es' => ly G B es' p (bs ++ ut xs) bg ∧ Fr es es' p (p + 3)) := by
  have h1 := h.obj
  have i1 := hx.obj
  have i3 := hx.len
  refine Tr.of (ls := [some (.ref (B + p)), some (.ref (B + q)), none]) (by decide +kernel) (Nat.le_of_ble_eq_true rfl) rfl ?_
  intro zp ze zs zm zb zt zc E
  have loop : ∀ (f i : Nat) (es1 : zE), i + f = xs.length → ly G B es1 p (bs ++ ([0, xs.length] ++ xs.take i)) bg → Fr es es1 p (p + 3) → Zj zp l ze (zr 2 0 0) zs zm ([.ref (B + p), .ref (B + q)] : List Value).toArray zb zt zc (MQ zb (zQ G B (pV fun es' => ly G B es' p (bs ++ ut xs) bg ∧ Fr es es' p (p + 3))) ([.ref (B + p), .ref (B + q)] : List Value).toArray zs 0 0 (fun q => B ≤ q)) G B 3 0 0 10 [some (.ref (B + p)), some (.ref (B + q)), some (.int (nI i))] [] es1 := by
    intro f
    induction f with
    | zero =>
      intro i es1 hi hly hF
      have i2 := (hx.fr hF (by omega)).obj
      refine z_iload_n (pc := 10) E jd_L_putText_10 rfl rfl ?_
      refine z_aload_n (pc := 11) E jd_L_putText_11 rfl rfl ?_
      refine z_get (pc := 12) E jf_L_92 jd_L_putText_12 (by assumption) (by rfl) ?_
      refine z_icmp_ge (pc := 15) (tgt := 33) E jd_L_putText_15 (by decide) (fun c15 => ?_) (fun c15 => ?_)
      · rw [show i = xs.length by omega, List.take_length] at hly
        exact z_vret E jd_L_putText_33 ⟨rfl, hly, hF⟩
      · exact absurd (nI_le (by omega) (by omega)) c15
    | succ f ih =>
      intro i es1 hi hly hF
      have hx2 := hx.fr hF (by omega)
      have i2 := hx2.obj
      have i4 := hly.obj
      refine z_iload_n (pc := 10) E jd_L_putText_10 rfl rfl ?_
      refine z_aload_n (pc := 11) E jd_L_putText_11 rfl rfl ?_
      refine z_get (pc := 12) E jf_L_92 jd_L_putText_12 (by assumption) (by rfl) ?_
      refine z_icmp_ge (pc := 15) (tgt := 33) E jd_L_putText_15 (by decide) (fun c15 => ?_) (fun c15 => ?_)
      · exact absurd (cle c15) (by omega)
      · refine z_aload_n (pc := 18) E jd_L_putText_18 rfl rfl ?_
        refine z_aload_n (pc := 19) E jd_L_putText_19 rfl rfl ?_
        refine z_iload_n (pc := 20) E jd_L_putText_20 rfl rfl ?_
        refine z_cV1I (pc := 21) E (c_T_at l G B hx2) jc_L_98 jv_T_at rfl (by assumption) ⟨by decide, by decide⟩ jd_L_putText_21 (Nat.le_of_ble_eq_true rfl) (by decide) (by decide) (fun v21 es21 h21 => ?_)
        obtain ⟨w21, e21⟩ := h21
        rw [e21, w21, tat_nI (by omega)]
        refine z_cV1V (pc := 24) E (c_L_put l G B hly (by simp; omega)) jc_L_102 jv_L_put rfl (by assumption) ⟨by decide, by decide⟩ jd_L_putText_24 (Nat.le_of_ble_eq_true rfl) (by decide) (by decide) (fun es24 h24 => ?_)
        obtain ⟨w24, F24⟩ := h24
        rw [by8_nI (by have := getD_lt (j := i) hx.lt; omega), List.append_assoc, List.append_assoc, ← take_succ_getD (by omega)] at w24
        refine z_iinc (pc := 27) E jd_L_putText_27 rfl rfl (by decide) rfl ?_
        dsimp only [List.set]
        refine z_goto (pc := 30) (tgt := 10) E jd_L_putText_30 (by decide) ?_
        have := ih (i + 1) es24 (by omega) w24 (hF.trs F24)
        rw [nI_succ i] at this
        exact this
  refine z_aload_n (pc := 0) E jd_L_putText_0 rfl rfl ?_
  refine z_aload_n (pc := 1) E jd_L_putText_1 rfl rfl ?_
  refine z_get (pc := 2) E jf_L_92 jd_L_putText_2 (by assumption) (by rfl) ?_
  refine z_cV1V (pc := 5) E (c_L_putLength l G B h (by omega) (by omega)) jc_L_95 jv_L_putLength rfl (by assumption) ⟨by decide, by decide⟩ jd_L_putText_5 (Nat.le_of_ble_eq_true rfl) (by decide) (by decide) (fun es5 h5 => ?_)
  obtain ⟨w5, F5⟩ := h5
  refine z_iconst (v := 0) (pc := 8) E jd_L_putText_8 (by decide) ?_
  refine z_istore_n (pc := 9) E jd_L_putText_9 rfl (by decide) rfl ?_
  dsimp only [List.set]
  exact loop xs.length 0 es5 (by omega) w5 F5
set_option maxHeartbeats 4000000 in
set_option maxRecDepth 100000 in
theorem c_L_putDotted (l : Launch) (G : zG) (B : Nat) {es : zE} {p q : Nat} {bs xs : List Nat} {bg : Nat → Int32} (h : ly G B es p bs bg) (hx : tx G B es q xs) (hq : q + 2 ≤ p ∨ p + 3 ≤ q) (hl : bs.length + (xs.length + 2) ≤ 694) : Tr l G B jy_L_putDotted jb_L_putDotted 3 none 2 0 0 [.ref (B + p), .ref (B + q)] es (pV fun es' => ly G B es' p (bs ++ utd xs) bg ∧ Fr es es' p (p + 3)) := by
  have h1 := h.obj
  have i1 := hx.obj
  have i3 := hx.len
  refine Tr.of (ls := [some (.ref (B + p)), some (.ref (B + q)), none]) (by decide +kernel) (Nat.le_of_ble_eq_true rfl) rfl ?_
  intro zp ze zs zm zb zt zc E
  have loop : ∀ (f i : Nat) (es1 : zE), i + f = xs.length → ly G B es1 p (bs ++ ([0, xs.length] ++ (xs.take i).map dot)) bg → Fr es es1 p (p + 3) → Zj zp l ze (zr 2 0 0) zs zm ([.ref (B + p), .ref (B + q)] : List Value).toArray zb zt zc (MQ zb (zQ G B (pV fun es' => ly G B es' p (bs ++ utd xs) bg ∧ Fr es es' p (p + 3))) ([.ref (B + p), .ref (B + q)] : List Value).toArray zs 0 0 (fun q => B ≤ q)) G B 3 0 0 10 [some (.ref (B + p)), some (.ref (B + q)), some (.int (nI i))] [] es1 := by
    intro f
    induction f with
    | zero =>
      intro i es1 hi hly hF
      have i2 := (hx.fr hF (by omega)).obj
      refine z_iload_n (pc := 10) E jd_L_putDotted_10 rfl rfl ?_
      refine z_aload_n (pc := 11) E jd_L_putDotted_11 rfl rfl ?_
      refine z_get (pc := 12) E jf_L_92 jd_L_putDotted_12 (by assumption) (by rfl) ?_
      refine z_icmp_ge (pc := 15) (tgt := 48) E jd_L_putDotted_15 (by decide) (fun c15 => ?_) (fun c15 => ?_)
      · rw [show i = xs.length by omega, List.take_length] at hly
        exact z_vret E jd_L_putDotted_48 ⟨rfl, hly, hF⟩
      · exact absurd (nI_le (by omega) (by omega)) c15
    | succ f ih =>
      intro i es1 hi hly hF
      have hx2 := hx.fr hF (by omega)
      have i2 := hx2.obj
      have i4 := hly.obj
      have hlt := getD_lt (j := i) hx.lt
      refine z_iload_n (pc := 10) E jd_L_putDotted_10 rfl rfl ?_
      refine z_aload_n (pc := 11) E jd_L_putDotted_11 rfl rfl ?_
      refine z_get (pc := 12) E jf_L_92 jd_L_putDotted_12 (by assumption) (by rfl) ?_
      refine z_icmp_ge (pc := 15) (tgt := 48) E jd_L_putDotted_15 (by decide) (fun c15 => ?_) (fun c15 => ?_)
      · exact absurd (cle c15) (by omega)
      · refine z_aload_n (pc := 18) E jd_L_putDotted_18 rfl rfl ?_
        refine z_aload_n (pc := 19) E jd_L_putDotted_19 rfl rfl ?_
        refine z_iload_n (pc := 20) E jd_L_putDotted_20 rfl rfl ?_
        refine z_cV1I (pc := 21) E (c_T_at l G B hx2) jc_L_98 jv_T_at rfl (by assumption) ⟨by decide, by decide⟩ jd_L_putDotted_21 (Nat.le_of_ble_eq_true rfl) (by decide) (by decide) (fun v21 es21 h21 => ?_)
        obtain ⟨w21, e21⟩ := h21
        rw [e21, w21, tat_nI (by omega)]
        refine z_bipush (v := 47) (pc := 24) E jd_L_putDotted_24 (by decide) ?_
        refine z_icmp_ne (pc := 26) (tgt := 34) E jd_L_putDotted_26 (by decide) (fun c26 => ?_) (fun c26 => ?_)
        · have hd : dot (xs.getD i 0) = xs.getD i 0 := by rw [dot, if_neg (nceq (b := 47) c26)]
          have hd2 : by8 (nI (xs.getD i 0)) = xs.getD i 0 := by8_nI (by omega)
          refine z_aload_n (pc := 34) E jd_L_putDotted_34 rfl rfl ?_
          refine z_iload_n (pc := 35) E jd_L_putDotted_35 rfl rfl ?_
          refine z_cV1I (pc := 36) E (c_T_at l G B hx2) jc_L_98 jv_T_at rfl (by assumption) ⟨by decide, by decide⟩ jd_L_putDotted_36 (Nat.le_of_ble_eq_true rfl) (by decide) (by decide) (fun v36 es36 h36 => ?_)
          obtain ⟨w36, e36⟩ := h36
          rw [e36, w36, tat_nI (by omega)]
          refine z_cV1V (pc := 39) E (c_L_put l G B hly (by simp; omega)) jc_L_102 jv_L_put rfl (by assumption) ⟨by decide, by decide⟩ jd_L_putDotted_39 (Nat.le_of_ble_eq_true rfl) (by decide) (by decide) (fun es39 h39 => ?_)
          obtain ⟨w39, F39⟩ := h39
          rw [hd2, List.append_assoc, List.append_assoc, ← hd, show [dot (xs.getD i 0)] = List.map dot [xs.getD i 0] from rfl, ← List.map_append, ← take_succ_getD (by omega)] at w39
          refine z_iinc (pc := 42) E jd_L_putDotted_42 rfl rfl (by decide) rfl ?_
          dsimp only [List.set]
          refine z_goto (pc := 45) (tgt := 10) E jd_L_putDotted_45 (by decide) ?_
          have := ih (i + 1) es39 (by omega) w39 (hF.trs F39)
          rw [nI_succ i] at this
          exact this
        · have hd : dot (xs.getD i 0) = 46 := by rw [dot, if_pos (ceq (b := 47) c26)]
          have hd2 : by8 46 = 46 := by8_nI (c := 46) (by omega)
          refine z_bipush (v := 46) (pc := 29) E jd_L_putDotted_29 (by decide) ?_
          refine z_goto (pc := 31) (tgt := 39) E jd_L_putDotted_31 (by decide) ?_
          refine z_cV1V (pc := 39) E (c_L_put l G B hly (by simp; omega)) jc_L_102 jv_L_put rfl (by assumption) ⟨by decide, by decide⟩ jd_L_putDotted_39 (Nat.le_of_ble_eq_true rfl) (by decide) (by decide) (fun es39 h39 => ?_)
          obtain ⟨w39, F39⟩ := h39
          rw [hd2, List.append_assoc, List.append_assoc, ← hd, show [dot (xs.getD i 0)] = List.map dot [xs.getD i 0] from rfl, ← List.map_append, ← take_succ_getD (by omega)] at w39
          refine z_iinc (pc := 42) E jd_L_putDotted_42 rfl rfl (by decide) rfl ?_
          dsimp only [List.set]
          refine z_goto (pc := 45) (tgt := 10) E jd_L_putDotted_45 (by decide) ?_
          have := ih (i + 1) es39 (by omega) w39 (hF.trs F39)
          rw [nI_succ i] at this
          exact this
  refine z_aload_n (pc := 0) E jd_L_putDotted_0 rfl rfl ?_
  refine z_aload_n (pc := 1) E jd_L_putDotted_1 rfl rfl ?_
  refine z_get (pc := 2) E jf_L_92 jd_L_putDotted_2 (by assumption) (by rfl) ?_
  refine z_cV1V (pc := 5) E (c_L_putLength l G B h (by omega) (by omega)) jc_L_95 jv_L_putLength rfl (by assumption) ⟨by decide, by decide⟩ jd_L_putDotted_5 (Nat.le_of_ble_eq_true rfl) (by decide) (by decide) (fun es5 h5 => ?_)
  obtain ⟨w5, F5⟩ := h5
  refine z_iconst (v := 0) (pc := 8) E jd_L_putDotted_8 (by decide) ?_
  refine z_istore_n (pc := 9) E jd_L_putDotted_9 rfl (by decide) rfl ?_
  dsimp only [List.set]
  exact loop xs.length 0 es5 (by omega) w5 F5
set_option maxHeartbeats 4000000 in
set_option maxRecDepth 100000 in
theorem c_L_at (l : Launch) (G : zG) (B : Nat) {es : zE} {p : Nat} {bs : List Nat} {bg : Nat → Int32} {x : Int32} (h : ly G B es p bs bg) : Tr l G B jy_L_at jb_L_at 2 (some .int) 0 0 0 [.ref (B + p), .int x] es (pI fun v es' => v = tat bs x ∧ es' = es) := by
  obtain ⟨f, h1, h2, h3, h4, h5, h6⟩ := h
  refine Tr.of (ls := [some (.ref (B + p)), some (.int x)]) (by decide +kernel) (Nat.le_of_ble_eq_true rfl) rfl ?_
  intro zp ze zs zm zb zt zc E
  refine z_iload_n (pc := 0) E jd_L_at_0 rfl rfl ?_
  refine z_if_lt (pc := 1) (tgt := 25) E jd_L_at_1 (by decide) (fun c1 => ?_) (fun c1 => ?_)
  · have hz : tat bs x = 0 := by rw [tat, if_pos c1]
    refine z_iconst (v := 0) (pc := 25) E jd_L_at_25 (by decide) ?_
    exact z_iret E jd_L_at_26 ⟨_, rfl, hz.symm, rfl⟩
  · obtain ⟨j, hj, rfl⟩ := nI_of c1
    refine z_iload_n (pc := 4) E jd_L_at_4 rfl rfl ?_
    refine z_aload_n (pc := 5) E jd_L_at_5 rfl rfl ?_
    refine z_get (pc := 6) E jf_L_15 jd_L_at_6 (by assumption) (by rfl) ?_
    refine z_icmp_ge (pc := 9) (tgt := 25) E jd_L_at_9 (by decide) (fun c9 => ?_) (fun c9 => ?_)
    · have hz : tat bs (nI j) = 0 := by rw [tat_nI hj, getD_oob (cle c9)]; rfl
      refine z_iconst (v := 0) (pc := 25) E jd_L_at_25 (by decide) ?_
      exact z_iret E jd_L_at_26 ⟨_, rfl, hz.symm, rfl⟩
    · have hj2 : j < bs.length := ncle c9
      have hb : bs.getD j 0 < 256 := by rw [List.getD_eq_getElem?_getD, List.getElem?_eq_getElem hj2]; exact h6 _ (List.getElem_mem hj2)
      have hz : tat bs (nI j) = f j &&& 255 := by rw [tat_nI hj, h5 j hj2, bI_and _ hb]
      refine z_aload_n (pc := 12) E jd_L_at_12 rfl rfl ?_
      refine z_get (pc := 13) E jf_L_9 jd_L_at_13 (by assumption) (by rfl) ?_
      refine z_iload_n (pc := 16) E jd_L_at_16 rfl rfl ?_
      refine z_bald (ti := 0) (pc := 17) E rfl jd_L_at_17 (by assumption) (vp_in_nI (by omega) (by omega)) ?_
      rw [nI_clamp (by omega)]
      refine z_sipush (v := 255) (pc := 18) E jd_L_at_18 (by decide) ?_
      refine z_iand (pc := 21) E jd_L_at_21 ?_
      refine z_goto (pc := 22) (tgt := 26) E jd_L_at_22 (by decide) ?_
      exact z_iret E jd_L_at_26 ⟨_, rfl, hz.symm, rfl⟩
end
section
/-! the JDK's own methods over the three texts -/
theorem zx_len : ∀ i, i < zzX.length → zzXl.getD i 0 ≤ 8 := by decide
theorem zx_byte : ∀ i, i < zzX.length → ∀ k, k < zzXl.getD i 0 → ((((zzXb.getD i []).getD k 0 &&& 255).toUInt32 % 65536).toInt32 = nI (by8 ((zzXb.getD i []).getD k 0)) ∧ by8 ((zzXb.getD i []).getD k 0) < 128 ∧ narrow .char (.int (nI (by8 ((zzXb.getD i []).getD k 0)))) = .int (nI (by8 ((zzXb.getD i []).getD k 0)))) := by decide +kernel
/-- a text's codes -/
def kx (i : Nat) : List Nat := (zzXb.getD i []).map by8
theorem kx_len : ∀ i, i < zzX.length → (kx i).length = zzXl.getD i 0 := by decide
theorem kx_at : ∀ i, i < zzX.length → ∀ k, k < zzXl.getD i 0 → by8 ((zzXb.getD i []).getD k 0) = (kx i).getD k 0 := by decide +kernel
set_option maxHeartbeats 4000000 in
set_option maxRecDepth 100000 in
theorem c_JS_coder (l : Launch) (G : zG) (B : Nat) {es : zE} {i : Nat} (hi : i < zzX.length) : Tr l G B jy_JS_coder jb_JS_coder 1 (some .byte) 0 0 0 [.ref (G.2.2.2.1 i)] es (pI fun v es' => v = 0 ∧ es' = es) := by
  refine Tr.of (ls := [some (.ref (G.2.2.2.1 i))]) (by decide +kernel) (Nat.le_of_ble_eq_true rfl) rfl ?_
  intro zp ze zs zm zb zt zc E
  refine z_getsI (i := 0) (pc := 0) E rfl jw_368 jd_JS_coder_0 ?_
  refine z_if_eq (pc := 3) (tgt := 13) E jd_JS_coder_3 (by decide) (fun c3 => ?_) (fun c3 => ?_)
  · exact absurd c3 (by decide)
  · refine z_aload_n (pc := 6) E jd_JS_coder_6 rfl rfl ?_
    refine z_getKc (pc := 7) E hi jw_692 jd_JS_coder_7 ?_
    refine z_goto (pc := 10) (tgt := 14) E jd_JS_coder_10 (by decide) ?_
    exact z_zret E rfl jd_JS_coder_14 ⟨_, rfl, rfl, rfl⟩
set_option maxHeartbeats 4000000 in
set_option maxRecDepth 100000 in
theorem c_JS_isLatin1 (l : Launch) (G : zG) (B : Nat) {es : zE} {i : Nat} (hi : i < zzX.length) : Tr l G B jy_JS_isLatin1 jb_JS_isLatin1 1 (some .boolean) 0 0 0 [.ref (G.2.2.2.1 i)] es (pI fun v es' => v = 1 ∧ es' = es) := by
  refine Tr.of (ls := [some (.ref (G.2.2.2.1 i))]) (by decide +kernel) (Nat.le_of_ble_eq_true rfl) rfl ?_
  intro zp ze zs zm zb zt zc E
  refine z_getsI (i := 0) (pc := 0) E rfl jw_368 jd_JS_isLatin1_0 ?_
  refine z_if_eq (pc := 3) (tgt := 17) E jd_JS_isLatin1_3 (by decide) (fun c3 => ?_) (fun c3 => ?_)
  · exact absurd c3 (by decide)
  · refine z_aload_n (pc := 6) E jd_JS_isLatin1_6 rfl rfl ?_
    refine z_getKc (pc := 7) E hi jw_692 jd_JS_isLatin1_7 ?_
    refine z_if_ne (pc := 10) (tgt := 17) E jd_JS_isLatin1_10 (by decide) (fun c10 => ?_) (fun c10 => ?_)
    · exact absurd rfl c10
    · refine z_iconst (v := 1) (pc := 13) E jd_JS_isLatin1_13 (by decide) ?_
      refine z_goto (pc := 14) (tgt := 18) E jd_JS_isLatin1_14 (by decide) ?_
      exact z_zret E rfl jd_JS_isLatin1_18 ⟨_, rfl, rfl, rfl⟩
set_option maxHeartbeats 4000000 in
set_option maxRecDepth 100000 in
theorem c_JS_length (l : Launch) (G : zG) (B : Nat) {es : zE} {i : Nat} (hi : i < zzX.length) : Tr l G B jy_JS_length jb_JS_length 1 (some .int) 1 0 0 [.ref (G.2.2.2.1 i)] es (pI fun v es' => v = nI (zzXl.getD i 0) ∧ es' = es) := by
  refine Tr.of (ls := [some (.ref (G.2.2.2.1 i))]) (by decide +kernel) (Nat.le_of_ble_eq_true rfl) rfl ?_
  intro zp ze zs zm zb zt zc E
  refine z_aload_n (pc := 0) E jd_JS_length_0 rfl rfl ?_
  refine z_getKv (pc := 1) E hi jw_691 jd_JS_length_1 ?_
  refine z_lenK (pc := 4) E hi jd_JS_length_4 ?_
  refine z_aload_n (pc := 5) E jd_JS_length_5 rfl rfl ?_
  refine z_callK (As := []) (pc := 6) E hi (c_JS_coder l G B hi) jc_JS_335 jv_JS_coder ⟨by decide, by decide⟩ jd_JS_length_6 rfl (Nat.le_of_ble_eq_true rfl) (by decide) (by decide) (fun r6 es6 h6 => ?_)
  obtain ⟨v6, rfl, w6, e6⟩ := h6
  rw [w6, e6]
  refine z_ishr (pc := 9) E jd_JS_length_9 ?_
  exact z_iret E jd_JS_length_10 ⟨_, rfl, sc_shr0 (by have := zx_len i hi; omega), rfl⟩
set_option maxHeartbeats 4000000 in
set_option maxRecDepth 100000 in
theorem c_JP_checkIndex (l : Launch) (G : zG) (B : Nat) {es : zE} {k n : Nat} {v : Value} (hk : k < n) (hn : n < 1000) (hv : v = .null ∨ ∃ t, v = .ref t) : Tr l G B jy_JP_checkIndex jb_JP_checkIndex 3 (some .int) 0 0 0 [.int (nI k), .int (nI n), v] es (pI fun v es' => v = nI k ∧ es' = es) := by
  have go : ∀ w : Value, w.category = 1 → Tr l G B jy_JP_checkIndex jb_JP_checkIndex 3 (some .int) 0 0 0 [.int (nI k), .int (nI n), w] es (pI fun v es' => v = nI k ∧ es' = es) := by
    intro w hw
    have hci : ∀ x, (Value.int x).category = 1 := fun _ => rfl
    refine Tr.of (ls := [some (.int (nI k)), some (.int (nI n)), some w]) (by decide +kernel) (by simp [lg_sl, hw, hci]) (by simp [zent, hw, hci]) ?_
    intro zp ze zs zm zb zt zc E
    refine z_iload_n (pc := 0) E jd_JP_checkIndex_0 rfl rfl ?_
    refine z_if_lt (pc := 1) (tgt := 9) E jd_JP_checkIndex_1 (by decide) (fun c1 => ?_) (fun c1 => ?_)
    · exact absurd c1 (nI_pos (by omega))
    · refine z_iload_n (pc := 4) E jd_JP_checkIndex_4 rfl rfl ?_
      refine z_iload_n (pc := 5) E jd_JP_checkIndex_5 rfl rfl ?_
      refine z_icmp_lt (pc := 6) (tgt := 16) E jd_JP_checkIndex_6 (by decide) (fun c6 => ?_) (fun c6 => ?_)
      · refine z_iload_n (pc := 16) E jd_JP_checkIndex_16 rfl rfl ?_
        exact z_iret E jd_JP_checkIndex_17 ⟨_, rfl, rfl, rfl⟩
      · exact absurd (nI_lt hk (by omega)) c6
  rcases hv with rfl | ⟨t, rfl⟩
  · exact go _ rfl
  · exact go _ rfl
set_option maxHeartbeats 4000000 in
set_option maxRecDepth 100000 in
theorem c_JS_checkIndex (l : Launch) (G : zG) (B : Nat) {es : zE} {k n : Nat} (hk : k < n) (hn : n < 1000) : Tr l G B jy_JS_checkIndex jb_JS_checkIndex 2 none 1 0 0 [.int (nI k), .int (nI n)] es (pV fun es' => es' = es) := by
  refine Tr.of (ls := [some (.int (nI k)), some (.int (nI n))]) (by decide +kernel) (Nat.le_of_ble_eq_true rfl) rfl ?_
  intro zp ze zs zm zb zt zc E
  refine z_iload_n (pc := 0) E jd_JS_checkIndex_0 rfl rfl ?_
  refine z_iload_n (pc := 1) E jd_JS_checkIndex_1 rfl rfl ?_
  refine z_getsQ (pc := 2) E jw_384 jd_JS_checkIndex_2 (fun v2 hv2 => ?_)
  refine z_cS3I (pc := 5) E (c_JP_checkIndex l G B hk hn hv2) jc_JS_1059 js_JP_checkIndex ⟨by decide, by decide⟩ jd_JS_checkIndex_5 (Nat.le_of_ble_eq_true rfl) (by decide) (by decide) (fun v5 es5 h5 => ?_)
  obtain ⟨w5, e5⟩ := h5
  rw [e5]
  refine z_pop (pc := 8) E jd_JS_checkIndex_8 rfl ?_
  exact z_vret E jd_JS_checkIndex_9 ⟨rfl, rfl⟩
set_option maxHeartbeats 4000000 in
set_option maxRecDepth 100000 in
theorem c_JL_charAt (l : Launch) (G : zG) (B : Nat) {es : zE} {i k : Nat} (hi : i < zzX.length) (hk : k < zzXl.getD i 0) : Tr l G B jy_JL_charAt jb_JL_charAt 2 (some .char) 2 0 0 [.ref (G.2.2.2.2 i), .int (nI k)] es (pI fun v es' => v = nI (by8 ((zzXb.getD i []).getD k 0)) ∧ es' = es) := by
  have hlen := zx_len i hi
  obtain ⟨hb1, hb2, hb3⟩ := zx_byte i hi k hk
  refine Tr.of (ls := [some (.ref (G.2.2.2.2 i)), some (.int (nI k))]) (by decide +kernel) (Nat.le_of_ble_eq_true rfl) rfl ?_
  intro zp ze zs zm zb zt zc E
  refine z_iload_n (pc := 0) E jd_JL_charAt_0 rfl rfl ?_
  refine z_aload_n (pc := 1) E jd_JL_charAt_1 rfl rfl ?_
  refine z_lenK (pc := 2) E hi jd_JL_charAt_2 ?_
  refine z_cS2V (pc := 3) E (c_JS_checkIndex l G B (k := k) (n := zzXl.getD i 0) hk (by omega)) jc_JL_9 js_JS_checkIndex ⟨by decide, by decide⟩ jd_JL_charAt_3 (Nat.le_of_ble_eq_true rfl) (by decide) (by decide) (fun es3 h3 => ?_)
  rw [h3]
  refine z_aload_n (pc := 6) E jd_JL_charAt_6 rfl rfl ?_
  refine z_iload_n (pc := 7) E jd_JL_charAt_7 rfl rfl ?_
  refine z_tbK (pc := 8) E hi (vp_in_nI hk (by omega)) jd_JL_charAt_8 ?_
  rw [nI_clamp (by omega)]
  refine z_sipush (v := 255) (pc := 9) E jd_JL_charAt_9 (by decide) ?_
  refine z_iand (pc := 12) E jd_JL_charAt_12 ?_
  refine z_i2c (pc := 13) E jd_JL_charAt_13 ?_
  refine z_topi hb1 ?_
  exact z_zret E hb3 jd_JL_charAt_14 ⟨_, rfl, rfl, rfl⟩
set_option maxHeartbeats 4000000 in
set_option maxRecDepth 100000 in
theorem c_JS_charAt (l : Launch) (G : zG) (B : Nat) {es : zE} {i k : Nat} (hi : i < zzX.length) (hk : k < zzXl.getD i 0) : Tr l G B jy_JS_charAt jb_JS_charAt 2 (some .char) 3 0 0 [.ref (G.2.2.2.1 i), .int (nI k)] es (pI fun v es' => v = nI (by8 ((zzXb.getD i []).getD k 0)) ∧ es' = es) := by
  obtain ⟨hb1, hb2, hb3⟩ := zx_byte i hi k hk
  refine Tr.of (ls := [some (.ref (G.2.2.2.1 i)), some (.int (nI k))]) (by decide +kernel) (Nat.le_of_ble_eq_true rfl) rfl ?_
  intro zp ze zs zm zb zt zc E
  refine z_aload_n (pc := 0) E jd_JS_charAt_0 rfl rfl ?_
  refine z_callK (As := []) (pc := 1) E hi (c_JS_isLatin1 l G B hi) jc_JS_492 jv_JS_isLatin1 ⟨by decide, by decide⟩ jd_JS_charAt_1 rfl (Nat.le_of_ble_eq_true rfl) (by decide) (by decide) (fun r1 es1 h1 => ?_)
  obtain ⟨v1, rfl, w1, e1⟩ := h1
  rw [w1, e1]
  refine z_if_eq (pc := 4) (tgt := 16) E jd_JS_charAt_4 (by decide) (fun c4 => ?_) (fun c4 => ?_)
  · exact absurd c4 (by decide)
  · refine z_aload_n (pc := 7) E jd_JS_charAt_7 rfl rfl ?_
    refine z_getKv (pc := 8) E hi jw_691 jd_JS_charAt_8 ?_
    refine z_iload_n (pc := 11) E jd_JS_charAt_11 rfl rfl ?_
    refine z_cS2I (pc := 12) E (c_JL_charAt l G B hi hk) jc_JS_495 js_JL_charAt ⟨by decide, by decide⟩ jd_JS_charAt_12 (Nat.le_of_ble_eq_true rfl) (by decide) (by decide) (fun v12 es12 h12 => ?_)
    obtain ⟨w12, e12⟩ := h12
    rw [e12, w12]
    exact z_zret E hb3 jd_JS_charAt_15 ⟨_, rfl, rfl, rfl⟩
set_option maxHeartbeats 4000000 in
set_option maxRecDepth 100000 in
theorem c_L_putConstant (l : Launch) (G : zG) (B : Nat) {es : zE} {p i : Nat} {bs : List Nat} {bg : Nat → Int32} (h : ly G B es p bs bg) (hi : i < zzX.length) (hl : bs.length + ((kx i).length + 2) ≤ 694) : Tr l G B jy_L_putConstant jb_L_putConstant 3 none 4 0 0 [.ref (B + p), .ref (G.2.2.2.1 i)] es (pV fun es' => ly G B es' p (bs ++ ut (kx i)) bg ∧ Fr es es' p (p + 3)) := by
  have h1 := h.obj
  have hlen := zx_len i hi
  have hkl := kx_len i hi
  refine Tr.of (ls := [some (.ref (B + p)), some (.ref (G.2.2.2.1 i)), none]) (by decide +kernel) (Nat.le_of_ble_eq_true rfl) rfl ?_
  intro zp ze zs zm zb zt zc E
  have loop : ∀ (f j : Nat) (es1 : zE), j + f = zzXl.getD i 0 → ly G B es1 p (bs ++ ([0, (kx i).length] ++ (kx i).take j)) bg → Fr es es1 p (p + 3) → Zj zp l ze (zr 4 0 0) zs zm ([.ref (B + p), .ref (G.2.2.2.1 i)] : List Value).toArray zb zt zc (MQ zb (zQ G B (pV fun es' => ly G B es' p (bs ++ ut (kx i)) bg ∧ Fr es es' p (p + 3))) ([.ref (B + p), .ref (G.2.2.2.1 i)] : List Value).toArray zs 0 0 (fun q => B ≤ q)) G B 3 0 0 10 [some (.ref (B + p)), some (.ref (G.2.2.2.1 i)), some (.int (nI j))] [] es1 := by
    intro f
    induction f with
    | zero =>
      intro j es1 hj hly hF
      refine z_iload_n (pc := 10) E jd_L_putConstant_10 rfl rfl ?_
      refine z_aload_n (pc := 11) E jd_L_putConstant_11 rfl rfl ?_
      refine z_callK (As := []) (pc := 12) E hi (c_JS_length l G B hi) jc_L_105 jv_JS_length ⟨by decide, by decide⟩ jd_L_putConstant_12 rfl (Nat.le_of_ble_eq_true rfl) (by decide) (by decide) (fun r12 es12 h12 => ?_)
      obtain ⟨v12, rfl, w12, e12⟩ := h12
      rw [w12, e12]
      refine z_icmp_ge (pc := 15) (tgt := 33) E jd_L_putConstant_15 (by decide) (fun c15 => ?_) (fun c15 => ?_)
      · rw [show j = (kx i).length by omega, List.take_length] at hly
        exact z_vret E jd_L_putConstant_33 ⟨rfl, hly, hF⟩
      · exact absurd (nI_le (by omega) (by omega)) c15
    | succ f ih =>
      intro j es1 hj hly hF
      have i4 := hly.obj
      have hb := (zx_byte i hi j (by omega)).2.1
      have hat := kx_at i hi j (by omega)
      refine z_iload_n (pc := 10) E jd_L_putConstant_10 rfl rfl ?_
      refine z_aload_n (pc := 11) E jd_L_putConstant_11 rfl rfl ?_
      refine z_callK (As := []) (pc := 12) E hi (c_JS_length l G B hi) jc_L_105 jv_JS_length ⟨by decide, by decide⟩ jd_L_putConstant_12 rfl (Nat.le_of_ble_eq_true rfl) (by decide) (by decide) (fun r12 es12 h12 => ?_)
      obtain ⟨v12, rfl, w12, e12⟩ := h12
      rw [w12, e12]
      refine z_icmp_ge (pc := 15) (tgt := 33) E jd_L_putConstant_15 (by decide) (fun c15 => ?_) (fun c15 => ?_)
      · exact absurd (cle c15) (by omega)
      · refine z_aload_n (pc := 18) E jd_L_putConstant_18 rfl rfl ?_
        refine z_aload_n (pc := 19) E jd_L_putConstant_19 rfl rfl ?_
        refine z_iload_n (pc := 20) E jd_L_putConstant_20 rfl rfl ?_
        refine z_callK (As := [.int (nI j)]) (pc := 21) E hi (c_JS_charAt l G B hi (k := j) (by omega)) jc_L_109 jv_JS_charAt ⟨by decide, by decide⟩ jd_L_putConstant_21 rfl (Nat.le_of_ble_eq_true rfl) (by decide) (by decide) (fun r21 es21 h21 => ?_)
        obtain ⟨v21, rfl, w21, e21⟩ := h21
        rw [w21, e21]
        refine z_st (st' := [.int (nI (by8 ((zzXb.getD i []).getD j 0))), .ref (B + p)]) rfl ?_
        refine z_cV1V (pc := 24) E (c_L_put l G B hly (by simp; omega)) jc_L_102 jv_L_put rfl (by assumption) ⟨by decide, by decide⟩ jd_L_putConstant_24 (Nat.le_of_ble_eq_true rfl) (by decide) (by decide) (fun es24 h24 => ?_)
        obtain ⟨w24, F24⟩ := h24
        rw [by8_nI (by omega), hat, List.append_assoc, List.append_assoc, ← take_succ_getD (by omega)] at w24
        refine z_iinc (pc := 27) E jd_L_putConstant_27 rfl rfl (by decide) rfl ?_
        dsimp only [List.set]
        refine z_goto (pc := 30) (tgt := 10) E jd_L_putConstant_30 (by decide) ?_
        have := ih (j + 1) es24 (by omega) w24 (hF.trs F24)
        rw [nI_succ j] at this
        exact this
  refine z_aload_n (pc := 0) E jd_L_putConstant_0 rfl rfl ?_
  refine z_aload_n (pc := 1) E jd_L_putConstant_1 rfl rfl ?_
  refine z_callK (As := []) (pc := 2) E hi (c_JS_length l G B hi) jc_L_105 jv_JS_length ⟨by decide, by decide⟩ jd_L_putConstant_2 rfl (Nat.le_of_ble_eq_true rfl) (by decide) (by decide) (fun r2 es2 h2 => ?_)
  obtain ⟨v2, rfl, w2, e2⟩ := h2
  rw [w2, e2]
  refine z_st (st' := [.int (nI (zzXl.getD i 0)), .ref (B + p)]) rfl ?_
  refine z_cV1V (pc := 5) E (c_L_putLength l G B h (by omega) (by omega)) jc_L_95 jv_L_putLength rfl (by assumption) ⟨by decide, by decide⟩ jd_L_putConstant_5 (Nat.le_of_ble_eq_true rfl) (by decide) (by decide) (fun es5 h5 => ?_)
  obtain ⟨w5, F5⟩ := h5
  rw [← hkl] at w5
  refine z_iconst (v := 0) (pc := 8) E jd_L_putConstant_8 (by decide) ?_
  refine z_istore_n (pc := 9) E jd_L_putConstant_9 rfl (by decide) rfl ?_
  dsimp only [List.set]
  exact loop (zzXl.getD i 0) 0 es5 (by omega) w5 F5
/-! an entry's bytes; a row's -/
def entB (e : Ent) : List Nat := if e.1 = 0 then ut e.2.2.1 ++ (num (e.2.1 &&& 223) ++ ut e.2.2.2) else if e.1 = 1 then ut (kx 2) ++ (num (e.2.1 &&& 3391) ++ utd e.2.2.2) else if e.1 = 2 then ut e.2.2.1 ++ (num (e.2.1 &&& 3391) ++ utd e.2.2.2) else if e.1 = 3 then ut (kx 0) ++ (num 8 ++ ut (kx 1)) else ut e.2.2.1
theorem kxl0 : (kx 0).length = 8 := by decide
theorem kxl1 : (kx 1).length = 3 := by decide
theorem kxl2 : (kx 2).length = 6 := by decide
theorem entB_len {e : Ent} (h1 : e.2.2.1.length ≤ 24) (h2 : e.2.2.2.length ≤ 24) : (entB e).length ≤ 56 := by
  unfold entB
  split
  · simp only [List.length_append, ut_len, num_len]; omega
  · split
    · simp only [List.length_append, ut_len, utd_len, num_len, kxl2]; omega
    · split
      · simp only [List.length_append, ut_len, utd_len, num_len]; omega
      · split
        · simp only [List.length_append, ut_len, num_len, kxl0, kxl1]; omega
        · simp only [ut_len]; omega
set_option maxHeartbeats 4000000 in
set_option maxRecDepth 100000 in
theorem c_L_putEntry (l : Launch) (G : zG) (B : Nat) {es : zE} {p q : Nat} {e : Ent} {bs : List Nat} {bg : Nat → Int32} (h : ly G B es p bs bg) (he : en G B es q e) (hq : q + 5 ≤ p ∨ p + 3 ≤ q) (hl : bs.length + (entB e).length ≤ 694) : Tr l G B jy_L_putEntry jb_L_putEntry 2 none 5 0 0 [.ref (B + p), .ref (B + q)] es (pV fun es' => ly G B es' p (bs ++ entB e) bg ∧ Fr es es' p (p + 3)) := by
  obtain ⟨k, m, nn, ss⟩ := e
  have hen := he
  obtain ⟨e1, e2, e3, e4⟩ := he
  dsimp only at e1 e2 e3 e4
  have h1 := h.obj
  have l2 := e2.len
  have l3 := e3.len
  refine Tr.of (ls := [some (.ref (B + p)), some (.ref (B + q))]) (by decide +kernel) (Nat.le_of_ble_eq_true rfl) rfl ?_
  intro zp ze zs zm zb zt zc E
  refine z_aload_n (pc := 0) E jd_L_putEntry_0 rfl rfl ?_
  refine z_get (pc := 1) E jf_L_61 jd_L_putEntry_1 (by assumption) (by rfl) ?_
  rcases lt5 e4 with rfl | rfl | rfl | rfl | rfl
  · have hE : entB (0, m, nn, ss) = ut nn ++ (num (m &&& 223) ++ ut ss) := rfl
    rw [hE, List.length_append, List.length_append, ut_len, ut_len, num_len] at hl
    refine z_tableIn (pc := 4) (tgt := 36) (off := 32) E jd_L_putEntry_4 (by decide) (by decide) (by decide) (by decide) ?_
    refine z_aload_n (pc := 36) E jd_L_putEntry_36 rfl rfl ?_
    refine z_aload_n (pc := 37) E jd_L_putEntry_37 rfl rfl ?_
    refine z_get (pc := 38) E jf_L_74 jd_L_putEntry_38 (by assumption) (by rfl) ?_
    refine z_cV1V (pc := 41) E (c_L_putText l G B h e2 (by omega) (by omega)) jc_L_29 jv_L_putText rfl (by assumption) ⟨by decide, by decide⟩ jd_L_putEntry_41 (Nat.le_of_ble_eq_true rfl) (by decide) (by decide) (fun es41 h41 => ?_)
    obtain ⟨w41, F41⟩ := h41
    have g1 := F41.at (by omega) e1
    have g2 := w41.obj
    refine z_aload_n (pc := 44) E jd_L_putEntry_44 rfl rfl ?_
    refine z_aload_n (pc := 45) E jd_L_putEntry_45 rfl rfl ?_
    refine z_get (pc := 46) E jf_L_75 jd_L_putEntry_46 (by assumption) (by rfl) ?_
    refine z_sipush (v := 223) (pc := 49) E jd_L_putEntry_49 (by decide) ?_
    refine z_iand (pc := 52) E jd_L_putEntry_52 ?_
    refine z_cV1V (pc := 53) E (c_L_putNumber l G B w41 (by simp only [List.length_append, ut_len]; omega)) jc_L_37 jv_L_putNumber rfl (by assumption) ⟨by decide, by decide⟩ jd_L_putEntry_53 (Nat.le_of_ble_eq_true rfl) (by decide) (by decide) (fun es53 h53 => ?_)
    obtain ⟨w53, F53⟩ := h53
    have g3 := F53.at (by omega) g1
    have g4 := w53.obj
    have x3 := (e3.fr F41 (by omega)).fr F53 (by omega)
    refine z_aload_n (pc := 56) E jd_L_putEntry_56 rfl rfl ?_
    refine z_aload_n (pc := 57) E jd_L_putEntry_57 rfl rfl ?_
    refine z_get (pc := 58) E jf_L_78 jd_L_putEntry_58 (by assumption) (by rfl) ?_
    refine z_cV1V (pc := 61) E (c_L_putText l G B w53 x3 (by omega) (by simp only [List.length_append, ut_len, num_len]; omega)) jc_L_29 jv_L_putText rfl (by assumption) ⟨by decide, by decide⟩ jd_L_putEntry_61 (Nat.le_of_ble_eq_true rfl) (by decide) (by decide) (fun es61 h61 => ?_)
    obtain ⟨w61, F61⟩ := h61
    rw [List.append_assoc, List.append_assoc, ← hE] at w61
    have FF := (F41.trs F53).trs F61
    have ok := w61
    refine z_goto (pc := 64) (tgt := 156) E jd_L_putEntry_64 (by decide) ?_
    exact z_vret E jd_L_putEntry_156 ⟨rfl, ok, FF⟩
  · have hE : entB (1, m, nn, ss) = ut (kx 2) ++ (num (m &&& 3391) ++ utd ss) := rfl
    rw [hE, List.length_append, List.length_append, ut_len, utd_len, num_len, kxl2] at hl
    refine z_tableIn (pc := 4) (tgt := 88) (off := 84) E jd_L_putEntry_4 (by decide) (by decide) (by decide) (by decide) ?_
    refine z_aload_n (pc := 88) E jd_L_putEntry_88 rfl rfl ?_
    refine z_ldcS (i := 2) (pc := 89) E rfl ⟨rfl, rfl⟩ jd_L_putEntry_89 ?_
    refine z_cV1V (pc := 91) E (c_L_putConstant l G B (i := 2) h (by decide) (by have := kxl2; omega)) jc_L_83 jv_L_putConstant rfl (by assumption) ⟨by decide, by decide⟩ jd_L_putEntry_91 (Nat.le_of_ble_eq_true rfl) (by decide) (by decide) (fun es91 h91 => ?_)
    obtain ⟨w91, F91⟩ := h91
    have g1 := F91.at (by omega) e1
    have g2 := w91.obj
    refine z_aload_n (pc := 94) E jd_L_putEntry_94 rfl rfl ?_
    refine z_aload_n (pc := 95) E jd_L_putEntry_95 rfl rfl ?_
    refine z_get (pc := 96) E jf_L_75 jd_L_putEntry_96 (by assumption) (by rfl) ?_
    refine z_sipush (v := 3391) (pc := 99) E jd_L_putEntry_99 (by decide) ?_
    refine z_iand (pc := 102) E jd_L_putEntry_102 ?_
    refine z_cV1V (pc := 103) E (c_L_putNumber l G B w91 (by simp only [List.length_append, ut_len, kxl2]; omega)) jc_L_37 jv_L_putNumber rfl (by assumption) ⟨by decide, by decide⟩ jd_L_putEntry_103 (Nat.le_of_ble_eq_true rfl) (by decide) (by decide) (fun es103 h103 => ?_)
    obtain ⟨w103, F103⟩ := h103
    have g3 := F103.at (by omega) g1
    have g4 := w103.obj
    have x3 := (e3.fr F91 (by omega)).fr F103 (by omega)
    refine z_aload_n (pc := 106) E jd_L_putEntry_106 rfl rfl ?_
    refine z_aload_n (pc := 107) E jd_L_putEntry_107 rfl rfl ?_
    refine z_get (pc := 108) E jf_L_78 jd_L_putEntry_108 (by assumption) (by rfl) ?_
    refine z_cV1V (pc := 111) E (c_L_putDotted l G B w103 x3 (by omega) (by simp only [List.length_append, ut_len, num_len, kxl2]; omega)) jc_L_89 jv_L_putDotted rfl (by assumption) ⟨by decide, by decide⟩ jd_L_putEntry_111 (Nat.le_of_ble_eq_true rfl) (by decide) (by decide) (fun es111 h111 => ?_)
    obtain ⟨w111, F111⟩ := h111
    rw [List.append_assoc, List.append_assoc, ← hE] at w111
    have FF := (F91.trs F103).trs F111
    have ok := w111
    refine z_goto (pc := 114) (tgt := 156) E jd_L_putEntry_114 (by decide) ?_
    exact z_vret E jd_L_putEntry_156 ⟨rfl, ok, FF⟩
  · have hE : entB (2, m, nn, ss) = ut nn ++ (num (m &&& 3391) ++ utd ss) := rfl
    rw [hE, List.length_append, List.length_append, ut_len, utd_len, num_len] at hl
    refine z_tableIn (pc := 4) (tgt := 117) (off := 113) E jd_L_putEntry_4 (by decide) (by decide) (by decide) (by decide) ?_
    refine z_aload_n (pc := 117) E jd_L_putEntry_117 rfl rfl ?_
    refine z_aload_n (pc := 118) E jd_L_putEntry_118 rfl rfl ?_
    refine z_get (pc := 119) E jf_L_74 jd_L_putEntry_119 (by assumption) (by rfl) ?_
    refine z_cV1V (pc := 122) E (c_L_putText l G B h e2 (by omega) (by omega)) jc_L_29 jv_L_putText rfl (by assumption) ⟨by decide, by decide⟩ jd_L_putEntry_122 (Nat.le_of_ble_eq_true rfl) (by decide) (by decide) (fun es122 h122 => ?_)
    obtain ⟨w122, F122⟩ := h122
    have g1 := F122.at (by omega) e1
    have g2 := w122.obj
    refine z_aload_n (pc := 125) E jd_L_putEntry_125 rfl rfl ?_
    refine z_aload_n (pc := 126) E jd_L_putEntry_126 rfl rfl ?_
    refine z_get (pc := 127) E jf_L_75 jd_L_putEntry_127 (by assumption) (by rfl) ?_
    refine z_sipush (v := 3391) (pc := 130) E jd_L_putEntry_130 (by decide) ?_
    refine z_iand (pc := 133) E jd_L_putEntry_133 ?_
    refine z_cV1V (pc := 134) E (c_L_putNumber l G B w122 (by simp only [List.length_append, ut_len]; omega)) jc_L_37 jv_L_putNumber rfl (by assumption) ⟨by decide, by decide⟩ jd_L_putEntry_134 (Nat.le_of_ble_eq_true rfl) (by decide) (by decide) (fun es134 h134 => ?_)
    obtain ⟨w134, F134⟩ := h134
    have g3 := F134.at (by omega) g1
    have g4 := w134.obj
    have x3 := (e3.fr F122 (by omega)).fr F134 (by omega)
    refine z_aload_n (pc := 137) E jd_L_putEntry_137 rfl rfl ?_
    refine z_aload_n (pc := 138) E jd_L_putEntry_138 rfl rfl ?_
    refine z_get (pc := 139) E jf_L_78 jd_L_putEntry_139 (by assumption) (by rfl) ?_
    refine z_cV1V (pc := 142) E (c_L_putDotted l G B w134 x3 (by omega) (by simp only [List.length_append, ut_len, num_len]; omega)) jc_L_89 jv_L_putDotted rfl (by assumption) ⟨by decide, by decide⟩ jd_L_putEntry_142 (Nat.le_of_ble_eq_true rfl) (by decide) (by decide) (fun es142 h142 => ?_)
    obtain ⟨w142, F142⟩ := h142
    rw [List.append_assoc, List.append_assoc, ← hE] at w142
    have FF := (F122.trs F134).trs F142
    have ok := w142
    refine z_goto (pc := 145) (tgt := 156) E jd_L_putEntry_145 (by decide) ?_
    exact z_vret E jd_L_putEntry_156 ⟨rfl, ok, FF⟩
  · have hE : entB (3, m, nn, ss) = ut (kx 0) ++ (num 8 ++ ut (kx 1)) := rfl
    rw [hE, List.length_append, List.length_append, ut_len, ut_len, num_len, kxl0, kxl1] at hl
    refine z_tableIn (pc := 4) (tgt := 67) (off := 63) E jd_L_putEntry_4 (by decide) (by decide) (by decide) (by decide) ?_
    refine z_aload_n (pc := 67) E jd_L_putEntry_67 rfl rfl ?_
    refine z_ldcS (i := 0) (pc := 68) E rfl ⟨rfl, rfl⟩ jd_L_putEntry_68 ?_
    refine z_cV1V (pc := 70) E (c_L_putConstant l G B (i := 0) h (by decide) (by have := kxl0; omega)) jc_L_83 jv_L_putConstant rfl (by assumption) ⟨by decide, by decide⟩ jd_L_putEntry_70 (Nat.le_of_ble_eq_true rfl) (by decide) (by decide) (fun es70 h70 => ?_)
    obtain ⟨w70, F70⟩ := h70
    have g2 := w70.obj
    refine z_aload_n (pc := 73) E jd_L_putEntry_73 rfl rfl ?_
    refine z_bipush (v := 8) (pc := 74) E jd_L_putEntry_74 (by decide) ?_
    refine z_cV1V (pc := 76) E (c_L_putNumber l G B w70 (by simp only [List.length_append, ut_len, kxl0]; omega)) jc_L_37 jv_L_putNumber rfl (by assumption) ⟨by decide, by decide⟩ jd_L_putEntry_76 (Nat.le_of_ble_eq_true rfl) (by decide) (by decide) (fun es76 h76 => ?_)
    obtain ⟨w76, F76⟩ := h76
    have g4 := w76.obj
    refine z_aload_n (pc := 79) E jd_L_putEntry_79 rfl rfl ?_
    refine z_ldcS (i := 1) (pc := 80) E rfl ⟨rfl, rfl⟩ jd_L_putEntry_80 ?_
    refine z_cV1V (pc := 82) E (c_L_putConstant l G B (i := 1) w76 (by decide) (by simp only [List.length_append, ut_len, num_len, kxl0, kxl1]; omega)) jc_L_83 jv_L_putConstant rfl (by assumption) ⟨by decide, by decide⟩ jd_L_putEntry_82 (Nat.le_of_ble_eq_true rfl) (by decide) (by decide) (fun es82 h82 => ?_)
    obtain ⟨w82, F82⟩ := h82
    rw [List.append_assoc, List.append_assoc, ← hE] at w82
    have FF := (F70.trs F76).trs F82
    have ok := w82
    refine z_goto (pc := 85) (tgt := 156) E jd_L_putEntry_85 (by decide) ?_
    exact z_vret E jd_L_putEntry_156 ⟨rfl, ok, FF⟩
  · have hE : entB (4, m, nn, ss) = ut nn := rfl
    rw [hE, ut_len] at hl
    refine z_tableOut (pc := 4) (tgt := 148) E jd_L_putEntry_4 (by decide) (by decide) ?_
    refine z_aload_n (pc := 148) E jd_L_putEntry_148 rfl rfl ?_
    refine z_aload_n (pc := 149) E jd_L_putEntry_149 rfl rfl ?_
    refine z_get (pc := 150) E jf_L_74 jd_L_putEntry_150 (by assumption) (by rfl) ?_
    refine z_cV1V (pc := 153) E (c_L_putText l G B h e2 (by omega) (by omega)) jc_L_29 jv_L_putText rfl (by assumption) ⟨by decide, by decide⟩ jd_L_putEntry_153 (Nat.le_of_ble_eq_true rfl) (by decide) (by decide) (fun es153 h153 => ?_)
    obtain ⟨w153, F153⟩ := h153
    have FF := F153
    have ok := w153
    exact z_vret E jd_L_putEntry_156 ⟨rfl, ok, FF⟩
def allB (E : Nat → Ent) (k : Nat) : Nat → List Nat
  | 0 => []
  | n + 1 => allB E k n ++ (if (E n).1 = k ∧ hsh (E n) = true then entB (E n) else [])
theorem allB_mono (E : Nat → Ent) (k : Nat) : ∀ n m, n ≤ m → (allB E k n).length ≤ (allB E k m).length
  | n, 0, h => by rw [Nat.le_zero.mp h]; exact Nat.le_refl _
  | n, m + 1, h => by
    by_cases e : n = m + 1
    · rw [e]; exact Nat.le_refl _
    · have := allB_mono E k n m (by omega)
      rw [show allB E k (m + 1) = allB E k m ++ (if (E m).1 = k ∧ hsh (E m) = true then entB (E m) else []) from rfl, List.length_append]
      omega
set_option maxHeartbeats 4000000 in
set_option maxRecDepth 100000 in
theorem c_L_putAll (l : Launch) (G : zG) (B : Nat) {es : zE} {p q most u k : Nat} {w : Nat → Nat} {E : Nat → Ent} {bs : List Nat} {bg : Nat → Int32} (h : ly G B es p bs bg) (hr : rO G B es q most w E u) (hq : q + 2 + 5 * most ≤ p ∨ p + 3 ≤ q) (hk : k < 5) (hl : bs.length + (allB E k u).length ≤ 694) : Tr l G B jy_L_putAll jb_L_putAll 5 none 6 0 0 [.ref (B + p), .ref (B + q), .int (nI k)] es (pV fun es' => ly G B es' p (bs ++ allB E k u) bg ∧ Fr es es' p (p + 3)) := by
  refine Tr.of (ls := [some (.ref (B + p)), some (.ref (B + q)), some (.int (nI k)), none, none]) (by decide +kernel) (Nat.le_of_ble_eq_true rfl) rfl ?_
  intro zp ze zs zm zb zt zc zE0
  have loop : ∀ (f i : Nat) (z : Option Value) (es1 : zE), i + f = u → ly G B es1 p (bs ++ allB E k i) bg → Fr es es1 p (p + 3) → Zj zp l ze (zr 6 0 0) zs zm ([.ref (B + p), .ref (B + q), .int (nI k)] : List Value).toArray zb zt zc (MQ zb (zQ G B (pV fun es' => ly G B es' p (bs ++ allB E k u) bg ∧ Fr es es' p (p + 3))) ([.ref (B + p), .ref (B + q), .int (nI k)] : List Value).toArray zs 0 0 (fun q => B ≤ q)) G B 5 0 0 2 [some (.ref (B + p)), some (.ref (B + q)), some (.int (nI k)), some (.int (nI i)), z] [] es1 := by
    intro f
    induction f with
    | zero =>
      intro i z es1 hi hly hF
      obtain ⟨h1, ⟨a, h2, h3⟩, h4, h5, h6, h7, h8⟩ := hr.fr hF (by omega)
      refine z_iload_n (pc := 2) zE0 jd_L_putAll_2 rfl rfl ?_
      refine z_aload_n (pc := 3) zE0 jd_L_putAll_3 rfl rfl ?_
      refine z_get (pc := 4) zE0 jf_L_52 jd_L_putAll_4 (by assumption) (by rfl) ?_
      refine z_icmp_ge (pc := 7) (tgt := 47) zE0 jd_L_putAll_7 (by decide) (fun c7 => ?_) (fun c7 => ?_)
      · rw [show i = u by omega] at hly
        exact z_vret zE0 jd_L_putAll_47 ⟨rfl, hly, hF⟩
      · exact absurd (nI_le (by omega) (by omega)) c7
    | succ f ih =>
      intro i z es1 hi hly hF
      obtain ⟨h1, ⟨a, h2, h3⟩, h4, h5, h6, h7, h8⟩ := hr.fr hF (by omega)
      have hen := h8 i (by omega)
      have hwi := h6 i (by omega)
      have he1 := hen.1
      have he5 := hen.2.2.2
      have hob := hly.obj
      have hmo := allB_mono E k (i + 1) u (by omega)
      have hsu : allB E k (i + 1) = allB E k i ++ (if (E i).1 = k ∧ hsh (E i) = true then entB (E i) else []) := rfl
      have next : ∀ es2 : zE, ly G B es2 p (bs ++ allB E k (i + 1)) bg → Fr es es2 p (p + 3) → Zj zp l ze (zr 6 0 0) zs zm ([.ref (B + p), .ref (B + q), .int (nI k)] : List Value).toArray zb zt zc (MQ zb (zQ G B (pV fun es' => ly G B es' p (bs ++ allB E k u) bg ∧ Fr es es' p (p + 3))) ([.ref (B + p), .ref (B + q), .int (nI k)] : List Value).toArray zs 0 0 (fun q => B ≤ q)) G B 5 0 0 41 [some (.ref (B + p)), some (.ref (B + q)), some (.int (nI k)), some (.int (nI i)), some (.ref (B + (q + 2 + 5 * w i)))] [] es2 := by
        intro es2 g1 g2
        refine z_iinc (pc := 41) zE0 jd_L_putAll_41 rfl rfl (by decide) rfl ?_
        dsimp only [List.set]
        refine z_goto (pc := 44) (tgt := 2) zE0 jd_L_putAll_44 (by decide) ?_
        have := ih (i + 1) (some (.ref (B + (q + 2 + 5 * w i)))) es2 (by omega) g1 g2
        rw [nI_succ i] at this
        exact this
      refine z_iload_n (pc := 2) zE0 jd_L_putAll_2 rfl rfl ?_
      refine z_aload_n (pc := 3) zE0 jd_L_putAll_3 rfl rfl ?_
      refine z_get (pc := 4) zE0 jf_L_52 jd_L_putAll_4 (by assumption) (by rfl) ?_
      refine z_icmp_ge (pc := 7) (tgt := 47) zE0 jd_L_putAll_7 (by decide) (fun c7 => ?_) (fun c7 => ?_)
      · exact absurd (cle c7) (by omega)
      · refine z_aload_n (pc := 10) zE0 jd_L_putAll_10 rfl rfl ?_
        refine z_get (pc := 11) zE0 jf_L_57 jd_L_putAll_11 (by assumption) (by rfl) ?_
        refine z_iload_n (pc := 14) zE0 jd_L_putAll_14 rfl rfl ?_
        refine z_aald (ti := 4) (pc := 15) zE0 rfl jd_L_putAll_15 (by assumption) (vp_in_nI (by omega) (by omega)) ?_
        rw [nI_clamp (by omega), h3 i (by omega), rf_some]
        refine z_astore (pc := 16) zE0 jd_L_putAll_16 (by decide) rfl ?_
        dsimp only [List.set]
        refine z_aload (pc := 18) zE0 jd_L_putAll_18 rfl ?_
        refine z_get (pc := 20) zE0 jf_L_61 jd_L_putAll_20 (by assumption) (by rfl) ?_
        refine z_iload_n (pc := 23) zE0 jd_L_putAll_23 rfl rfl ?_
        refine z_icmp_ne (pc := 24) (tgt := 41) zE0 jd_L_putAll_24 (by decide) (fun c24 => ?_) (fun c24 => ?_)
        · have hne := nceq c24
          rw [if_neg (fun q => hne q.1), List.append_nil] at hsu
          exact next es1 (by rw [hsu]; exact hly) hF
        · have hke := ceq c24
          refine z_aload (pc := 27) zE0 jd_L_putAll_27 rfl ?_
          refine z_cV0I (pc := 29) zE0 (c_E_isHashed l G B hen) jc_L_66 jv_E_isHashed rfl (by assumption) ⟨by decide, by decide⟩ jd_L_putAll_29 (Nat.le_of_ble_eq_true rfl) (by decide) (by decide) (fun v29 es29 h29 => ?_)
          obtain ⟨w29, e29⟩ := h29
          rw [e29, w29]
          refine z_if_eq (pc := 32) (tgt := 41) zE0 jd_L_putAll_32 (by decide) (fun c32 => ?_) (fun c32 => ?_)
          · rw [if_neg (fun q => by rw [b01 c32] at q; exact absurd q.2 (by decide)), List.append_nil] at hsu
            exact next es1 (by rw [hsu]; exact hly) hF
          · rw [if_pos ⟨hke, b01n c32⟩] at hsu
            refine z_aload_n (pc := 35) zE0 jd_L_putAll_35 rfl rfl ?_
            refine z_aload (pc := 36) zE0 jd_L_putAll_36 rfl ?_
            refine z_cV1V (pc := 38) zE0 (c_L_putEntry l G B hly hen (by omega) (by rw [hsu, List.length_append] at hmo; rw [List.length_append]; omega)) jc_L_70 jv_L_putEntry rfl (by assumption) ⟨by decide, by decide⟩ jd_L_putAll_38 (Nat.le_of_ble_eq_true rfl) (by decide) (by decide) (fun es38 h38 => ?_)
            obtain ⟨w38, F38⟩ := h38
            rw [List.append_assoc, ← hsu] at w38
            exact next es38 w38 (hF.trs F38)
  refine z_iconst (v := 0) (pc := 0) zE0 jd_L_putAll_0 (by decide) ?_
  refine z_istore_n (pc := 1) zE0 jd_L_putAll_1 rfl (by decide) rfl ?_
  dsimp only [List.set]
  exact loop u 0 none es (by omega) (by rw [show allB E k 0 = [] from rfl, List.append_nil]; exact h) Fr.rf
end
section
/-! Declaration, Layout.write -/
def dO (G : zG) (B : Nat) (es : zE) (q : Nat) (th : Int32) (nm : List Nat) (mo : Int32) (wf : Nat → Nat) (Ef : Nat → Ent) (uf : Nat) (wm : Nat → Nat) (Em : Nat → Ent) (um : Nat) (ho : Int32) (oi : Int64) : Prop :=
  es[q]? = some (.inr (4, [.int th, .ref (B + (q + 1)), .int mo, .ref (B + (q + 3)), .ref (B + (q + 25)), .int ho, .long oi])) ∧ tx G B es (q + 1) nm ∧ rO G B es (q + 3) 4 wf Ef uf ∧ rO G B es (q + 25) 10 wm Em um
theorem dO.kept {G : zG} {B : Nat} {es es' : zE} {q : Nat} {th : Int32} {nm : List Nat} {mo : Int32} {wf : Nat → Nat} {Ef : Nat → Ent} {uf : Nat} {wm : Nat → Nat} {Em : Nat → Ent} {um : Nat} {ho : Int32} {oi : Int64} (h : dO G B es q th nm mo wf Ef uf wm Em um ho oi) (hk : ∀ j, q ≤ j → j < q + 77 → es'[j]? = es[j]?) : dO G B es' q th nm mo wf Ef uf wm Em um ho oi :=
  ⟨(hk q (by omega) (by omega)).trans h.1, h.2.1.kept (fun j h1 h2 => hk j (by omega) (by omega)), h.2.2.1.kept (fun j h1 h2 => hk j (by omega) (by omega)), h.2.2.2.kept (fun j h1 h2 => hk j (by omega) (by omega))⟩
theorem dO.fr {G : zG} {B : Nat} {es es' : zE} {q lo hi : Nat} {th : Int32} {nm : List Nat} {mo : Int32} {wf : Nat → Nat} {Ef : Nat → Ent} {uf : Nat} {wm : Nat → Nat} {Em : Nat → Ent} {um : Nat} {ho : Int32} {oi : Int64} (h : dO G B es q th nm mo wf Ef uf wm Em um ho oi) (hk : Fr es es' lo hi) (hx : q + 77 ≤ lo ∨ hi ≤ q) : dO G B es' q th nm mo wf Ef uf wm Em um ho oi := h.kept (fun j h1 h2 => hk.2 j (by omega))
theorem rO.used {G : zG} {B : Nat} {es es1 : zE} {p most u u' : Nat} {w : Nat → Nat} {E : Nat → Ent} (h : rO G B es p most w E u) (he : es1 = es.set p (.inr (5, [.ref (B + (p + 1)), .int (nI u')]))) (hu : u' ≤ most) : rO G B es1 p most w E u' := by
  obtain ⟨h1, ⟨a, h2, h3⟩, h4, h5, h6, h7, h8⟩ := h
  have F : Fr es es1 p (p + 1) := Fr.set he (by omega) (by omega)
  exact ⟨zs_eq he h1, ⟨a, F.at (by omega) h2, h3⟩, hu, h5, h6, h7, fun j hj => (h8 j hj).fr F (by omega)⟩
set_option maxHeartbeats 4000000 in
set_option maxRecDepth 100000 in
theorem c_D_begin (l : Launch) (G : zG) (B : Nat) {es : zE} {q pn : Nat} {th : Int32} {nm : List Nat} {mo : Int32} {wf : Nat → Nat} {Ef : Nat → Ent} {uf : Nat} {wm : Nat → Nat} {Em : Nat → Ent} {um : Nat} {ho : Int32} {oi : Int64} {n' : List Nat} {m' : Int32} (h : dO G B es q th nm mo wf Ef uf wm Em um ho oi) (hn : tx G B es pn n') (d1 : pn + 2 ≤ q ∨ q + 77 ≤ pn) : Tr l G B jy_D_begin jb_D_begin 3 none 3 0 0 [.ref (B + q), .ref (B + pn), .int m'] es (pV fun es' => dO G B es' q 1 n' m' wf Ef 0 wm Em 0 0 oi ∧ Fr es es' q (q + 77)) := by
  obtain ⟨h1, h2, h3, h4⟩ := h
  refine Tr.of (ls := [some (.ref (B + q)), some (.ref (B + pn)), some (.int m')]) (by decide +kernel) (Nat.le_of_ble_eq_true rfl) rfl ?_
  intro zp ze zs zm zb zt zc E
  refine z_aload_n (pc := 0) E jd_D_begin_0 rfl rfl ?_
  refine z_iconst (v := 1) (pc := 1) E jd_D_begin_1 (by decide) ?_
  refine z_put (pc := 2) E jp_D_9 jd_D_begin_2 (by assumption) (Nat.le_of_ble_eq_true rfl) rfl rfl (fun es2 he2 => ?_)
  dsimp only [List.set] at he2
  have F2 : Fr es es2 q (q + 1) := Fr.set he2 (by omega) (by omega)
  have k1 := zs_eq he2 h1
  have t1 := h2.fr F2 (by omega)
  have t2 := hn.fr F2 (by omega)
  have t1o := t1.obj
  refine z_aload_n (pc := 5) E jd_D_begin_5 rfl rfl ?_
  refine z_get (pc := 6) E jf_D_18 jd_D_begin_6 (by assumption) (by rfl) ?_
  refine z_aload_n (pc := 9) E jd_D_begin_9 rfl rfl ?_
  refine z_cV1V (pc := 10) E (c_T_become l G B t1 t2 (by omega)) jc_D_45 jv_T_become rfl (by assumption) ⟨by decide, by decide⟩ jd_D_begin_10 (Nat.le_of_ble_eq_true rfl) (by decide) (by decide) (fun es10 h10 => ?_)
  obtain ⟨w10, F10⟩ := h10
  have k2 := F10.at (by omega) k1
  have G10 : Fr es es10 q (q + 3) := F2.tr F10 (by omega) (by omega) (by omega) (by omega)
  refine z_aload_n (pc := 13) E jd_D_begin_13 rfl rfl ?_
  refine z_iload_n (pc := 14) E jd_D_begin_14 rfl rfl ?_
  refine z_put (pc := 15) E jp_D_22 jd_D_begin_15 (by assumption) (Nat.le_of_ble_eq_true rfl) rfl rfl (fun es15 he15 => ?_)
  dsimp only [List.set] at he15
  have k3 := zs_eq he15 k2
  have G15 : Fr es es15 q (q + 3) := G10.tr (Fr.set (lo := q) (hi := q + 3) he15 (by omega) (by omega)) (by omega) (by omega) (by omega) (by omega)
  have w15 := w10.fr (Fr.set (lo := q) (hi := q + 1) he15 (by omega) (by omega)) (by omega)
  have r15 := h3.fr G15 (by omega)
  have s15 := h4.fr G15 (by omega)
  have ro := r15.1
  refine z_aload_n (pc := 18) E jd_D_begin_18 rfl rfl ?_
  refine z_get (pc := 19) E jf_D_31 jd_D_begin_19 (by assumption) (by rfl) ?_
  refine z_iconst (v := 0) (pc := 22) E jd_D_begin_22 (by decide) ?_
  refine z_put (pc := 23) E jp_D_49 jd_D_begin_23 (by assumption) (Nat.le_of_ble_eq_true rfl) rfl rfl (fun es23 he23 => ?_)
  dsimp only [List.set] at he23
  have F23 : Fr es15 es23 (q + 3) (q + 4) := Fr.set he23 (by omega) (by omega)
  have r23 := r15.used (u' := 0) he23 (by omega)
  have s23 := s15.fr F23 (by omega)
  have so := s23.1
  have k4 := F23.at (by omega) k3
  refine z_aload_n (pc := 26) E jd_D_begin_26 rfl rfl ?_
  refine z_get (pc := 27) E jf_D_35 jd_D_begin_27 (by assumption) (by rfl) ?_
  refine z_iconst (v := 0) (pc := 30) E jd_D_begin_30 (by decide) ?_
  refine z_put (pc := 31) E jp_D_49 jd_D_begin_31 (by assumption) (Nat.le_of_ble_eq_true rfl) rfl rfl (fun es31 he31 => ?_)
  dsimp only [List.set] at he31
  have F31 : Fr es23 es31 (q + 25) (q + 26) := Fr.set he31 (by omega) (by omega)
  have s31 := s23.used (u' := 0) he31 (by omega)
  have r31 := r23.fr F31 (by omega)
  have k5 := F31.at (by omega) k4
  have w31 := (w15.fr F23 (by omega)).fr F31 (by omega)
  refine z_aload_n (pc := 34) E jd_D_begin_34 rfl rfl ?_
  refine z_iconst (v := 0) (pc := 35) E jd_D_begin_35 (by decide) ?_
  refine z_put (pc := 36) E jp_D_38 jd_D_begin_36 (by assumption) (Nat.le_of_ble_eq_true rfl) rfl rfl (fun es36 he36 => ?_)
  dsimp only [List.set] at he36
  have F36 : Fr es31 es36 q (q + 1) := Fr.set he36 (by omega) (by omega)
  have k6 := zs_eq he36 k5
  have ok : dO G B es36 q 1 n' m' wf Ef 0 wm Em 0 0 oi := ⟨k6, w31.fr F36 (by omega), r31.fr F36 (by omega), s31.fr F36 (by omega)⟩
  have FF : Fr es es36 q (q + 77) := ((G15.tr F23 (lo := q) (hi := q + 77) (by omega) (by omega) (by omega) (by omega)).tr F31 (lo := q) (hi := q + 77) (by omega) (by omega) (by omega) (by omega)).tr F36 (by omega) (by omega) (by omega) (by omega)
  exact z_vret E jd_D_begin_39 ⟨rfl, ok, FF⟩
/-- a class's MODIFIERS as they are hashed; t: how many METHODS it has -/
def hmo (mo : Int32) (t : Nat) : Int32 := if mo &&& 512 = 0 then mo &&& 1553 else if 0 < t then (mo &&& 1553) ||| 1024 else (mo &&& 1553) &&& (-1025)
set_option maxHeartbeats 4000000 in
set_option maxRecDepth 100000 in
theorem c_D_hashedModifiers (l : Launch) (G : zG) (B : Nat) {es : zE} {q : Nat} {th : Int32} {nm : List Nat} {mo : Int32} {wf : Nat → Nat} {Ef : Nat → Ent} {uf : Nat} {wm : Nat → Nat} {Em : Nat → Ent} {um : Nat} {ho : Int32} {oi : Int64} (h : dO G B es q th nm mo wf Ef uf wm Em um ho oi) : Tr l G B jy_D_hashedModifiers jb_D_hashedModifiers 2 (some .int) 1 0 0 [.ref (B + q)] es (pI fun v es' => v = hmo mo (tal Em 2 um) ∧ es' = es) := by
  obtain ⟨h1, h2, h3, h4⟩ := h
  have h4o := h4.1
  have hum := h4.2.2.1
  have htl := tal_le Em 2 um
  refine Tr.of (ls := [some (.ref (B + q)), none]) (by decide +kernel) (Nat.le_of_ble_eq_true rfl) rfl ?_
  intro zp ze zs zm zb zt zc E
  refine z_aload_n (pc := 0) E jd_D_hashedModifiers_0 rfl rfl ?_
  refine z_get (pc := 1) E jf_D_22 jd_D_hashedModifiers_1 (by assumption) (by rfl) ?_
  refine z_sipush (v := 1553) (pc := 4) E jd_D_hashedModifiers_4 (by decide) ?_
  refine z_iand (pc := 7) E jd_D_hashedModifiers_7 ?_
  refine z_istore_n (pc := 8) E jd_D_hashedModifiers_8 rfl (by decide) rfl ?_
  dsimp only [List.set]
  refine z_aload_n (pc := 9) E jd_D_hashedModifiers_9 rfl rfl ?_
  refine z_get (pc := 10) E jf_D_22 jd_D_hashedModifiers_10 (by assumption) (by rfl) ?_
  refine z_sipush (v := 512) (pc := 13) E jd_D_hashedModifiers_13 (by decide) ?_
  refine z_iand (pc := 16) E jd_D_hashedModifiers_16 ?_
  refine z_if_ne (pc := 17) (tgt := 22) E jd_D_hashedModifiers_17 (by decide) (fun c17 => ?_) (fun c17 => ?_)
  · refine z_aload_n (pc := 22) E jd_D_hashedModifiers_22 rfl rfl ?_
    refine z_get (pc := 23) E jf_D_35 jd_D_hashedModifiers_23 (by assumption) (by rfl) ?_
    refine z_iconst (v := 2) (pc := 26) E jd_D_hashedModifiers_26 (by decide) ?_
    refine z_cV1I (pc := 27) E (c_R_tally l G B (k := 2) h4 (by omega)) jc_D_52 jv_R_tally rfl (by assumption) ⟨by decide, by decide⟩ jd_D_hashedModifiers_27 (Nat.le_of_ble_eq_true rfl) (by decide) (by decide) (fun v27 es27 h27 => ?_)
    obtain ⟨w27, e27⟩ := h27
    rw [e27, w27]
    refine z_if_le (pc := 30) (tgt := 41) E jd_D_hashedModifiers_30 (by decide) (fun c30 => ?_) (fun c30 => ?_)
    · have hr : hmo mo (tal Em 2 um) = (mo &&& 1553) &&& (-1025) := by rw [hmo, if_neg c17, if_neg (by have := cle (b := 0) c30; omega)]
      refine z_iload_n (pc := 41) E jd_D_hashedModifiers_41 rfl rfl ?_
      refine z_sipush (v := -1025) (pc := 42) E jd_D_hashedModifiers_42 (by decide) ?_
      refine z_iand (pc := 45) E jd_D_hashedModifiers_45 ?_
      exact z_iret E jd_D_hashedModifiers_46 ⟨_, rfl, hr.symm, rfl⟩
    · have hr : hmo mo (tal Em 2 um) = (mo &&& 1553) ||| 1024 := by rw [hmo, if_neg c17, if_pos (by have := ncle (b := 0) c30; omega)]
      refine z_iload_n (pc := 33) E jd_D_hashedModifiers_33 rfl rfl ?_
      refine z_sipush (v := 1024) (pc := 34) E jd_D_hashedModifiers_34 (by decide) ?_
      refine z_ior (pc := 37) E jd_D_hashedModifiers_37 ?_
      refine z_goto (pc := 38) (tgt := 46) E jd_D_hashedModifiers_38 (by decide) ?_
      exact z_iret E jd_D_hashedModifiers_46 ⟨_, rfl, hr.symm, rfl⟩
  · have hr : hmo mo (tal Em 2 um) = mo &&& 1553 := by rw [hmo, if_pos c17]
    refine z_iload_n (pc := 20) E jd_D_hashedModifiers_20 rfl rfl ?_
    exact z_iret E jd_D_hashedModifiers_21 ⟨_, rfl, hr.symm, rfl⟩
theorem allB_face {E : Nat → Ent} : ∀ n, (∀ j, j < n → (E j).2.2.1.length ≤ 24) → (allB E 4 n).length ≤ 26 * n
  | 0, _ => Nat.zero_le _
  | n + 1, h => by
    have := allB_face n (fun j hj => h j (by omega))
    have h2 := h n (by omega)
    rw [allB, List.length_append]
    split
    · rename_i hc
      have : entB (E n) = ut (E n).2.2.1 := by unfold entB; simp [hc.1]
      rw [this, ut_len]; omega
    · simp only [List.length_nil]; omega
theorem allB_mem {E : Nat → Ent} : ∀ n, (∀ j, j < n → (E j).2.2.1.length ≤ 24 ∧ (E j).2.2.2.length ≤ 24) → (allB E 0 n).length + (allB E 3 n).length + (allB E 1 n).length + (allB E 2 n).length ≤ 56 * n
  | 0, _ => Nat.zero_le _
  | n + 1, h => by
    have ih := allB_mem n (fun j hj => h j (by omega))
    have hb := entB_len (h n (by omega)).1 (h n (by omega)).2
    have one : ∀ k, (allB E k (n + 1)).length = (allB E k n).length + (if (E n).1 = k ∧ hsh (E n) = true then entB (E n) else []).length := fun k => by rw [allB, List.length_append]
    rw [one 0, one 3, one 1, one 2]
    by_cases hh : hsh (E n) = true
    · have hx : ∀ k, (if (E n).1 = k ∧ hsh (E n) = true then entB (E n) else []).length = if (E n).1 = k then (entB (E n)).length else 0 := by
        intro k
        by_cases e : (E n).1 = k
        · rw [if_pos ⟨e, hh⟩, if_pos e]
        · rw [if_neg (fun q => e q.1), if_neg e]; rfl
      rw [hx, hx, hx, hx]
      split <;> split <;> split <;> split <;> omega
    · have hx : ∀ k, (if (E n).1 = k ∧ hsh (E n) = true then entB (E n) else []).length = 0 := by
        intro k
        rw [if_neg (fun q => hh q.2)]; rfl
      rw [hx, hx, hx, hx]
      omega
/-- the BYTES, part by part -/
def hdr (nm : List Nat) (mo : Int32) (t : Nat) : List Nat := ut nm ++ num (hmo mo t)
def by1 (nm : List Nat) (mo : Int32) (Ef : Nat → Ent) (uf : Nat) (Em : Nat → Ent) (um : Nat) : List Nat := hdr nm mo (tal Em 2 um) ++ allB Ef 4 uf
def by2 (nm : List Nat) (mo : Int32) (Ef : Nat → Ent) (uf : Nat) (Em : Nat → Ent) (um : Nat) : List Nat := by1 nm mo Ef uf Em um ++ allB Em 0 um
def by3 (nm : List Nat) (mo : Int32) (Ef : Nat → Ent) (uf : Nat) (Em : Nat → Ent) (um : Nat) : List Nat := by2 nm mo Ef uf Em um ++ allB Em 3 um
def by4 (nm : List Nat) (mo : Int32) (Ef : Nat → Ent) (uf : Nat) (Em : Nat → Ent) (um : Nat) : List Nat := by3 nm mo Ef uf Em um ++ allB Em 1 um
def by5 (nm : List Nat) (mo : Int32) (Ef : Nat → Ent) (uf : Nat) (Em : Nat → Ent) (um : Nat) : List Nat := by4 nm mo Ef uf Em um ++ allB Em 2 um
/-- where the parts begin -/
def byo (nm : List Nat) (mo : Int32) (Ef : Nat → Ent) (uf : Nat) (Em : Nat → Ent) (um : Nat) (k : Nat) : Nat := if k = 0 then 0 else if k = 1 then (hdr nm mo (tal Em 2 um)).length else if k = 2 then (by1 nm mo Ef uf Em um).length else if k = 3 then (by2 nm mo Ef uf Em um).length else if k = 4 then (by3 nm mo Ef uf Em um).length else (by4 nm mo Ef uf Em um).length
theorem ly.bgs {G : zG} {B : Nat} {es es1 : zE} {p : Nat} {bs : List Nat} {bg bg' : Nat → Int32} (h : ly G B es p bs bg) (he : es1 = es.set (p + 2) (.inl (G.2.1 1, 6, .inl bg'))) : ly G B es1 p bs bg' := by
  obtain ⟨f, h1, h2, h3, h4⟩ := h
  exact ⟨f, zs_ne he (by omega) h1, zs_ne he (by omega) h2, zs_eq he h3, h4⟩
theorem ly.bg {G : zG} {B : Nat} {es : zE} {p : Nat} {bs : List Nat} {bg : Nat → Int32} (h : ly G B es p bs bg) : es[p + 2]? = some (.inl (G.2.1 1, 6, .inl bg)) := by
  obtain ⟨f, h1, h2, h3, h4⟩ := h; exact h3
theorem ly.nil {G : zG} {B : Nat} {es es1 : zE} {p : Nat} {bs : List Nat} {bg : Nat → Int32} (h : ly G B es p bs bg) (he : es1 = es.set p (.inr (2, [.ref (B + (p + 1)), .int 0, .ref (B + (p + 2))]))) : ly G B es1 p [] bg := by
  obtain ⟨f, h1, h2, h3, h4⟩ := h
  exact ⟨f, zs_eq he h1, zs_ne he (by omega) h2, zs_ne he (by omega) h3, Nat.zero_le _, fun j hj => absurd hj (Nat.not_lt_zero _), fun b hb => by cases hb⟩
end
section
theorem tcl (k : Nat) (h : k < 2 ^ 31) : (nI k).toNatClampNeg = k := nI_clamp h
set_option maxHeartbeats 4000000 in
set_option maxRecDepth 100000 in
theorem c_L_write (l : Launch) (G : zG) (B : Nat) {es : zE} {p q : Nat} {bs : List Nat} {bg : Nat → Int32} {th : Int32} {nm : List Nat} {mo : Int32} {wf : Nat → Nat} {Ef : Nat → Ent} {uf : Nat} {wm : Nat → Nat} {Em : Nat → Ent} {um : Nat} {ho : Int32} {oi : Int64} (hy : ly G B es p bs bg) (h : dO G B es q th nm mo wf Ef uf wm Em um ho oi) (d1 : q + 77 ≤ p ∨ p + 3 ≤ q) : Tr l G B jy_L_write jb_L_write 2 none 7 0 0 [.ref (B + p), .ref (B + q)] es (pV fun es' => ∃ bg', ly G B es' p (by5 nm mo Ef uf Em um) bg' ∧ (∀ k, k < 6 → bg' k = nI (byo nm mo Ef uf Em um k)) ∧ (by5 nm mo Ef uf Em um).length ≤ 694 ∧ Fr es es' p (p + 3)) := by
  have hD := h
  obtain ⟨h1, h2, h3, h4⟩ := h
  have y1 := hy.obj
  have y3 := hy.bg
  have lf : (allB Ef 4 uf).length ≤ 26 * 4 := by
    have := allB_face (E := Ef) uf (fun j hj => (h3.2.2.2.2.2.2 j (by have := h3.2.2.1; omega)).2.1.len)
    have := h3.2.2.1
    omega
  have lm : (allB Em 0 um).length + (allB Em 3 um).length + (allB Em 1 um).length + (allB Em 2 um).length ≤ 560 := by
    have := allB_mem (E := Em) um (fun j hj => ⟨(h4.2.2.2.2.2.2 j (by have := h4.2.2.1; omega)).2.1.len, (h4.2.2.2.2.2.2 j (by have := h4.2.2.1; omega)).2.2.1.len⟩)
    have := h4.2.2.1
    omega
  have ln := h2.len
  have hh : (hdr nm mo (tal Em 2 um)).length = nm.length + 6 := by rw [hdr, List.length_append, ut_len, num_len]
  have hb1 : (by1 nm mo Ef uf Em um).length = nm.length + 6 + (allB Ef 4 uf).length := by rw [by1, List.length_append, hh]
  have hb2 : (by2 nm mo Ef uf Em um).length = nm.length + 6 + (allB Ef 4 uf).length + (allB Em 0 um).length := by rw [by2, List.length_append, hb1]
  have hb3 : (by3 nm mo Ef uf Em um).length = nm.length + 6 + (allB Ef 4 uf).length + (allB Em 0 um).length + (allB Em 3 um).length := by rw [by3, List.length_append, hb2]
  have hb4 : (by4 nm mo Ef uf Em um).length = nm.length + 6 + (allB Ef 4 uf).length + (allB Em 0 um).length + (allB Em 3 um).length + (allB Em 1 um).length := by rw [by4, List.length_append, hb3]
  have hb5 : (by5 nm mo Ef uf Em um).length = nm.length + 6 + (allB Ef 4 uf).length + (allB Em 0 um).length + (allB Em 3 um).length + (allB Em 1 um).length + (allB Em 2 um).length := by rw [by5, List.length_append, hb4]
  refine Tr.of (ls := [some (.ref (B + p)), some (.ref (B + q))]) (by decide +kernel) (Nat.le_of_ble_eq_true rfl) rfl ?_
  intro zp ze zs zm zb zt zc E
  refine z_aload_n (pc := 0) E jd_L_write_0 rfl rfl ?_
  refine z_iconst (v := 0) (pc := 1) E jd_L_write_1 (by decide) ?_
  refine z_put (pc := 2) E jp_L_15 jd_L_write_2 (by assumption) (Nat.le_of_ble_eq_true rfl) rfl rfl (fun es2 he2 => ?_)
  dsimp only [List.set] at he2
  have g2 := hy.nil he2
  have F2 : Fr es es2 p (p + 3) := Fr.set he2 (by omega) (by omega)
  have y1 := g2.obj
  have y3 := g2.bg
  refine z_aload_n (pc := 5) E jd_L_write_5 rfl rfl ?_
  refine z_get (pc := 6) E jf_L_19 jd_L_write_6 (by assumption) (by rfl) ?_
  refine z_iconst (v := 0) (pc := 9) E jd_L_write_9 (by decide) ?_
  refine z_aload_n (pc := 10) E jd_L_write_10 rfl rfl ?_
  refine z_get (pc := 11) E jf_L_15 jd_L_write_11 (by assumption) (by rfl) ?_
  refine z_iast (ti := 1) (pc := 14) E rfl jd_L_write_14 (by assumption) (vp_in_nI (n := 0) (by omega) (by omega)) (fun es14 he14 => ?_)
  rw [show (0 : Int32).toNatClampNeg = 0 from rfl] at he14
  have g14 := g2.bgs he14
  have F14 : Fr es es14 p (p + 3) := F2.trs (Fr.set he14 (by omega) (by omega))
  have D14 := hD.fr F14 (by omega)
  have o1 := D14.1
  have y1 := g14.obj
  refine z_aload_n (pc := 15) E jd_L_write_15 rfl rfl ?_
  refine z_aload_n (pc := 16) E jd_L_write_16 rfl rfl ?_
  refine z_get (pc := 17) E jf_L_23 jd_L_write_17 (by assumption) (by rfl) ?_
  refine z_cV1V (pc := 20) E (c_L_putText l G B g14 D14.2.1 (by omega) (by simp only [List.length_nil]; omega)) jc_L_29 jv_L_putText rfl (by assumption) ⟨by decide, by decide⟩ jd_L_write_20 (Nat.le_of_ble_eq_true rfl) (by decide) (by decide) (fun es20 h20 => ?_)
  obtain ⟨w20, f20⟩ := h20
  rw [List.nil_append] at w20
  have F20 := F14.trs f20
  have D20 := hD.fr F20 (by omega)
  have o1 := D20.1
  have y1 := w20.obj
  refine z_aload_n (pc := 23) E jd_L_write_23 rfl rfl ?_
  refine z_aload_n (pc := 24) E jd_L_write_24 rfl rfl ?_
  refine z_cV0I (pc := 25) E (c_D_hashedModifiers l G B D20) jc_L_33 jv_D_hashedModifiers rfl (by assumption) ⟨by decide, by decide⟩ jd_L_write_25 (Nat.le_of_ble_eq_true rfl) (by decide) (by decide) (fun v25 es25 h25 => ?_)
  obtain ⟨w25, e25⟩ := h25
  rw [e25, w25]
  refine z_cV1V (pc := 28) E (c_L_putNumber l G B w20 (by rw [ut_len]; omega)) jc_L_37 jv_L_putNumber rfl (by assumption) ⟨by decide, by decide⟩ jd_L_write_28 (Nat.le_of_ble_eq_true rfl) (by decide) (by decide) (fun es28 h28 => ?_)
  obtain ⟨w28, f28⟩ := h28
  have w28 : ly G B es28 p (hdr nm mo (tal Em 2 um)) _ := w28
  have F28 := F20.trs f28
  have y1 := w28.obj
  have y3 := w28.bg
  refine z_aload_n (pc := 31) E jd_L_write_31 rfl rfl ?_
  refine z_get (pc := 32) E jf_L_19 jd_L_write_32 (by assumption) (by rfl) ?_
  refine z_iconst (v := 1) (pc := 35) E jd_L_write_35 (by decide) ?_
  refine z_aload_n (pc := 36) E jd_L_write_36 rfl rfl ?_
  refine z_get (pc := 37) E jf_L_15 jd_L_write_37 (by assumption) (by rfl) ?_
  refine z_iast (ti := 1) (pc := 40) E rfl jd_L_write_40 (by assumption) (vp_in_nI (n := 1) (by omega) (by omega)) (fun es40 he40 => ?_)
  rw [show (1 : Int32).toNatClampNeg = 1 from rfl] at he40
  have g40 := w28.bgs he40
  have F40 := F28.trs (Fr.set (lo := p) (hi := p + 3) he40 (by omega) (by omega))
  have D40 := hD.fr F40 (by omega)
  have o1 := D40.1
  have y1 := g40.obj
  refine z_aload_n (pc := 41) E jd_L_write_41 rfl rfl ?_
  refine z_aload_n (pc := 42) E jd_L_write_42 rfl rfl ?_
  refine z_get (pc := 43) E jf_L_41 jd_L_write_43 (by assumption) (by rfl) ?_
  refine z_iconst (v := 4) (pc := 46) E jd_L_write_46 (by decide) ?_
  refine z_cV2V (pc := 47) E (c_L_putAll l G B (k := 4) g40 D40.2.2.1 (by omega) (by omega) (by omega)) jc_L_45 jv_L_putAll rfl (by assumption) ⟨by decide, by decide⟩ jd_L_write_47 (Nat.le_of_ble_eq_true rfl) (by decide) (by decide) (fun es47 h47 => ?_)
  obtain ⟨w47, f47⟩ := h47
  have w47 : ly G B es47 p (by1 nm mo Ef uf Em um) _ := w47
  have F47 := F40.trs f47
  have y1 := w47.obj
  have y3 := w47.bg
  refine z_aload_n (pc := 50) E jd_L_write_50 rfl rfl ?_
  refine z_get (pc := 51) E jf_L_19 jd_L_write_51 (by assumption) (by rfl) ?_
  refine z_iconst (v := 2) (pc := 54) E jd_L_write_54 (by decide) ?_
  refine z_aload_n (pc := 55) E jd_L_write_55 rfl rfl ?_
  refine z_get (pc := 56) E jf_L_15 jd_L_write_56 (by assumption) (by rfl) ?_
  refine z_iast (ti := 1) (pc := 59) E rfl jd_L_write_59 (by assumption) (vp_in_nI (n := 2) (by omega) (by omega)) (fun es59 he59 => ?_)
  rw [show (2 : Int32).toNatClampNeg = 2 from rfl] at he59
  have g59 := w47.bgs he59
  have F59 := F47.trs (Fr.set (lo := p) (hi := p + 3) he59 (by omega) (by omega))
  have D59 := hD.fr F59 (by omega)
  have o1 := D59.1
  have y1 := g59.obj
  refine z_aload_n (pc := 60) E jd_L_write_60 rfl rfl ?_
  refine z_aload_n (pc := 61) E jd_L_write_61 rfl rfl ?_
  refine z_get (pc := 62) E jf_L_49 jd_L_write_62 (by assumption) (by rfl) ?_
  refine z_iconst (v := 0) (pc := 65) E jd_L_write_65 (by decide) ?_
  refine z_cV2V (pc := 66) E (c_L_putAll l G B (k := 0) g59 D59.2.2.2 (by omega) (by omega) (by omega)) jc_L_45 jv_L_putAll rfl (by assumption) ⟨by decide, by decide⟩ jd_L_write_66 (Nat.le_of_ble_eq_true rfl) (by decide) (by decide) (fun es66 h66 => ?_)
  obtain ⟨w66, f66⟩ := h66
  have w66 : ly G B es66 p (by2 nm mo Ef uf Em um) _ := w66
  have F66 := F59.trs f66
  have y1 := w66.obj
  have y3 := w66.bg
  refine z_aload_n (pc := 69) E jd_L_write_69 rfl rfl ?_
  refine z_get (pc := 70) E jf_L_19 jd_L_write_70 (by assumption) (by rfl) ?_
  refine z_iconst (v := 3) (pc := 73) E jd_L_write_73 (by decide) ?_
  refine z_aload_n (pc := 74) E jd_L_write_74 rfl rfl ?_
  refine z_get (pc := 75) E jf_L_15 jd_L_write_75 (by assumption) (by rfl) ?_
  refine z_iast (ti := 1) (pc := 78) E rfl jd_L_write_78 (by assumption) (vp_in_nI (n := 3) (by omega) (by omega)) (fun es78 he78 => ?_)
  rw [show (3 : Int32).toNatClampNeg = 3 from rfl] at he78
  have g78 := w66.bgs he78
  have F78 := F66.trs (Fr.set (lo := p) (hi := p + 3) he78 (by omega) (by omega))
  have D78 := hD.fr F78 (by omega)
  have o1 := D78.1
  have y1 := g78.obj
  refine z_aload_n (pc := 79) E jd_L_write_79 rfl rfl ?_
  refine z_aload_n (pc := 80) E jd_L_write_80 rfl rfl ?_
  refine z_get (pc := 81) E jf_L_49 jd_L_write_81 (by assumption) (by rfl) ?_
  refine z_iconst (v := 3) (pc := 84) E jd_L_write_84 (by decide) ?_
  refine z_cV2V (pc := 85) E (c_L_putAll l G B (k := 3) g78 D78.2.2.2 (by omega) (by omega) (by omega)) jc_L_45 jv_L_putAll rfl (by assumption) ⟨by decide, by decide⟩ jd_L_write_85 (Nat.le_of_ble_eq_true rfl) (by decide) (by decide) (fun es85 h85 => ?_)
  obtain ⟨w85, f85⟩ := h85
  have w85 : ly G B es85 p (by3 nm mo Ef uf Em um) _ := w85
  have F85 := F78.trs f85
  have y1 := w85.obj
  have y3 := w85.bg
  refine z_aload_n (pc := 88) E jd_L_write_88 rfl rfl ?_
  refine z_get (pc := 89) E jf_L_19 jd_L_write_89 (by assumption) (by rfl) ?_
  refine z_iconst (v := 4) (pc := 92) E jd_L_write_92 (by decide) ?_
  refine z_aload_n (pc := 93) E jd_L_write_93 rfl rfl ?_
  refine z_get (pc := 94) E jf_L_15 jd_L_write_94 (by assumption) (by rfl) ?_
  refine z_iast (ti := 1) (pc := 97) E rfl jd_L_write_97 (by assumption) (vp_in_nI (n := 4) (by omega) (by omega)) (fun es97 he97 => ?_)
  rw [show (4 : Int32).toNatClampNeg = 4 from rfl] at he97
  have g97 := w85.bgs he97
  have F97 := F85.trs (Fr.set (lo := p) (hi := p + 3) he97 (by omega) (by omega))
  have D97 := hD.fr F97 (by omega)
  have o1 := D97.1
  have y1 := g97.obj
  refine z_aload_n (pc := 98) E jd_L_write_98 rfl rfl ?_
  refine z_aload_n (pc := 99) E jd_L_write_99 rfl rfl ?_
  refine z_get (pc := 100) E jf_L_49 jd_L_write_100 (by assumption) (by rfl) ?_
  refine z_iconst (v := 1) (pc := 103) E jd_L_write_103 (by decide) ?_
  refine z_cV2V (pc := 104) E (c_L_putAll l G B (k := 1) g97 D97.2.2.2 (by omega) (by omega) (by omega)) jc_L_45 jv_L_putAll rfl (by assumption) ⟨by decide, by decide⟩ jd_L_write_104 (Nat.le_of_ble_eq_true rfl) (by decide) (by decide) (fun es104 h104 => ?_)
  obtain ⟨w104, f104⟩ := h104
  have w104 : ly G B es104 p (by4 nm mo Ef uf Em um) _ := w104
  have F104 := F97.trs f104
  have y1 := w104.obj
  have y3 := w104.bg
  refine z_aload_n (pc := 107) E jd_L_write_107 rfl rfl ?_
  refine z_get (pc := 108) E jf_L_19 jd_L_write_108 (by assumption) (by rfl) ?_
  refine z_iconst (v := 5) (pc := 111) E jd_L_write_111 (by decide) ?_
  refine z_aload_n (pc := 112) E jd_L_write_112 rfl rfl ?_
  refine z_get (pc := 113) E jf_L_15 jd_L_write_113 (by assumption) (by rfl) ?_
  refine z_iast (ti := 1) (pc := 116) E rfl jd_L_write_116 (by assumption) (vp_in_nI (n := 5) (by omega) (by omega)) (fun es116 he116 => ?_)
  rw [show (5 : Int32).toNatClampNeg = 5 from rfl] at he116
  have g116 := w104.bgs he116
  have F116 := F104.trs (Fr.set (lo := p) (hi := p + 3) he116 (by omega) (by omega))
  have D116 := hD.fr F116 (by omega)
  have o1 := D116.1
  have y1 := g116.obj
  refine z_aload_n (pc := 117) E jd_L_write_117 rfl rfl ?_
  refine z_aload_n (pc := 118) E jd_L_write_118 rfl rfl ?_
  refine z_get (pc := 119) E jf_L_49 jd_L_write_119 (by assumption) (by rfl) ?_
  refine z_iconst (v := 2) (pc := 122) E jd_L_write_122 (by decide) ?_
  refine z_cV2V (pc := 123) E (c_L_putAll l G B (k := 2) g116 D116.2.2.2 (by omega) (by omega) (by omega)) jc_L_45 jv_L_putAll rfl (by assumption) ⟨by decide, by decide⟩ jd_L_write_123 (Nat.le_of_ble_eq_true rfl) (by decide) (by decide) (fun es123 h123 => ?_)
  obtain ⟨w123, f123⟩ := h123
  have w123 : ly G B es123 p (by5 nm mo Ef uf Em um) _ := w123
  have F123 := F116.trs f123
  have hk : ∀ k, k < 6 → upd (upd (upd (upd (upd (upd bg 0 (nI ([] : List Nat).length)) 1 (nI (hdr nm mo (tal Em 2 um)).length)) 2 (nI (by1 nm mo Ef uf Em um).length)) 3 (nI (by2 nm mo Ef uf Em um).length)) 4 (nI (by3 nm mo Ef uf Em um).length)) 5 (nI (by4 nm mo Ef uf Em um).length) k = nI (byo nm mo Ef uf Em um k) := by
    intro k hk
    rcases (show k = 0 ∨ k = 1 ∨ k = 2 ∨ k = 3 ∨ k = 4 ∨ k = 5 by omega) with rfl | rfl | rfl | rfl | rfl | rfl <;> rfl
  exact z_vret E jd_L_write_126 ⟨rfl, _, w123, hk, by omega, F123⟩
end
