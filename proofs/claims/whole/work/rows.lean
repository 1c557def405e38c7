section
-- ===== PART A: goes FIRST, ahead of the names: the tables' words, and 'selects' of the private methods out of them =====
/-- a private method of a class that the tables say can be made, by its rows of tables_1 -/
def lw_okq (q : MethodName × Nat) : Prop := (q.1.cls ≠ "java/lang/invoke/MethodHandle" ∧ q.1.cls ≠ "java/lang/invoke/VarHandle") ∧ Cond.instantiable q.1.cls q.2 ∈ tables_1 ∧ Cond.privateMethod q.1 ∈ tables_1 ∧ Cond.instanceMethod q.1 ∈ tables_1
theorem lw_p0 : lw_okq (⟨"YearTags$Handles", "makeRoom", "(I)V"⟩, 6) := ⟨⟨by decide +kernel, by decide +kernel⟩, List.mem_of_getElem? (i := 30) (by decide +kernel), List.mem_of_getElem? (i := 275) (by decide +kernel), List.mem_of_getElem? (i := 276) (by decide +kernel)⟩
theorem lw_p1 : lw_okq (⟨"YearTags$TagText", "addTag", "(I)V"⟩, 4) := ⟨⟨by decide +kernel, by decide +kernel⟩, List.mem_of_getElem? (i := 203) (by decide +kernel), List.mem_of_getElem? (i := 557) (by decide +kernel), List.mem_of_getElem? (i := 558) (by decide +kernel)⟩
theorem lw_p2 : lw_okq (⟨"YearTags", "findClaimedPlaces", "()I"⟩, 6) := ⟨⟨by decide +kernel, by decide +kernel⟩, List.mem_of_getElem? (i := 14) (by decide +kernel), List.mem_of_getElem? (i := 567) (by decide +kernel), List.mem_of_getElem? (i := 568) (by decide +kernel)⟩
theorem lw_p3 : lw_okq (⟨"YearTags", "isClaimedBefore", "(II)Z"⟩, 6) := ⟨⟨by decide +kernel, by decide +kernel⟩, List.mem_of_getElem? (i := 14) (by decide +kernel), List.mem_of_getElem? (i := 571) (by decide +kernel), List.mem_of_getElem? (i := 572) (by decide +kernel)⟩
theorem lw_p4 : lw_okq (⟨"YearTagsModel", "copy", "(II)V"⟩, 5) := ⟨⟨by decide +kernel, by decide +kernel⟩, List.mem_of_getElem? (i := 668) (by decide +kernel), List.mem_of_getElem? (i := 695) (by decide +kernel), List.mem_of_getElem? (i := 696) (by decide +kernel)⟩
theorem lw_p5 : lw_okq (⟨"YearTagsModel", "coats", "()I"⟩, 5) := ⟨⟨by decide +kernel, by decide +kernel⟩, List.mem_of_getElem? (i := 668) (by decide +kernel), List.mem_of_getElem? (i := 704) (by decide +kernel), List.mem_of_getElem? (i := 705) (by decide +kernel)⟩
theorem lw_p6 : lw_okq (⟨"YearTagsModel", "record", "(I)V"⟩, 5) := ⟨⟨by decide +kernel, by decide +kernel⟩, List.mem_of_getElem? (i := 668) (by decide +kernel), List.mem_of_getElem? (i := 715) (by decide +kernel), List.mem_of_getElem? (i := 716) (by decide +kernel)⟩
theorem lw_p7 : lw_okq (⟨"YearTagsModel", "isRack", "(I)Z"⟩, 5) := ⟨⟨by decide +kernel, by decide +kernel⟩, List.mem_of_getElem? (i := 668) (by decide +kernel), List.mem_of_getElem? (i := 733) (by decide +kernel), List.mem_of_getElem? (i := 734) (by decide +kernel)⟩
theorem lw_p8 : lw_okq (⟨"YearTagsModel", "coatsOn", "(I)I"⟩, 5) := ⟨⟨by decide +kernel, by decide +kernel⟩, List.mem_of_getElem? (i := 668) (by decide +kernel), List.mem_of_getElem? (i := 737) (by decide +kernel), List.mem_of_getElem? (i := 738) (by decide +kernel)⟩
theorem lw_p9 : lw_okq (⟨"YearTagsModel", "isHook", "(I)Z"⟩, 5) := ⟨⟨by decide +kernel, by decide +kernel⟩, List.mem_of_getElem? (i := 668) (by decide +kernel), List.mem_of_getElem? (i := 745) (by decide +kernel), List.mem_of_getElem? (i := 746) (by decide +kernel)⟩
theorem lw_p10 : lw_okq (⟨"YearTagsModel", "holds", "(I)Z"⟩, 5) := ⟨⟨by decide +kernel, by decide +kernel⟩, List.mem_of_getElem? (i := 668) (by decide +kernel), List.mem_of_getElem? (i := 749) (by decide +kernel), List.mem_of_getElem? (i := 750) (by decide +kernel)⟩
theorem lw_p11 : lw_okq (⟨"YearTagsModel", "hookFor", "(I)I"⟩, 5) := ⟨⟨by decide +kernel, by decide +kernel⟩, List.mem_of_getElem? (i := 668) (by decide +kernel), List.mem_of_getElem? (i := 764) (by decide +kernel), List.mem_of_getElem? (i := 765) (by decide +kernel)⟩
theorem lw_p12 : lw_okq (⟨"YearTagsModel", "isFree", "(II)Z"⟩, 5) := ⟨⟨by decide +kernel, by decide +kernel⟩, List.mem_of_getElem? (i := 668) (by decide +kernel), List.mem_of_getElem? (i := 768) (by decide +kernel), List.mem_of_getElem? (i := 769) (by decide +kernel)⟩
theorem lw_p13 : lw_okq (⟨"YearTagsModel", "rankOf", "(I)I"⟩, 5) := ⟨⟨by decide +kernel, by decide +kernel⟩, List.mem_of_getElem? (i := 668) (by decide +kernel), List.mem_of_getElem? (i := 772) (by decide +kernel), List.mem_of_getElem? (i := 773) (by decide +kernel)⟩
theorem lw_p14 : lw_okq (⟨"YearTagsModel", "hang", "(IIII)I"⟩, 5) := ⟨⟨by decide +kernel, by decide +kernel⟩, List.mem_of_getElem? (i := 668) (by decide +kernel), List.mem_of_getElem? (i := 776) (by decide +kernel), List.mem_of_getElem? (i := 777) (by decide +kernel)⟩
theorem lw_p15 : lw_okq (⟨"YearTagsModel", "handleOn", "(I)I"⟩, 5) := ⟨⟨by decide +kernel, by decide +kernel⟩, List.mem_of_getElem? (i := 668) (by decide +kernel), List.mem_of_getElem? (i := 780) (by decide +kernel), List.mem_of_getElem? (i := 781) (by decide +kernel)⟩
def lw_privs_1 : List (MethodName × Nat) := [(⟨"YearTags$Handles", "makeRoom", "(I)V"⟩, 6), (⟨"YearTags$TagText", "addTag", "(I)V"⟩, 4), (⟨"YearTags", "findClaimedPlaces", "()I"⟩, 6), (⟨"YearTags", "isClaimedBefore", "(II)Z"⟩, 6), (⟨"YearTagsModel", "copy", "(II)V"⟩, 5), (⟨"YearTagsModel", "coats", "()I"⟩, 5), (⟨"YearTagsModel", "record", "(I)V"⟩, 5), (⟨"YearTagsModel", "isRack", "(I)Z"⟩, 5), (⟨"YearTagsModel", "coatsOn", "(I)I"⟩, 5), (⟨"YearTagsModel", "isHook", "(I)Z"⟩, 5), (⟨"YearTagsModel", "holds", "(I)Z"⟩, 5), (⟨"YearTagsModel", "hookFor", "(I)I"⟩, 5), (⟨"YearTagsModel", "isFree", "(II)Z"⟩, 5), (⟨"YearTagsModel", "rankOf", "(I)I"⟩, 5), (⟨"YearTagsModel", "hang", "(IIII)I"⟩, 5), (⟨"YearTagsModel", "handleOn", "(I)I"⟩, 5)]
theorem lw_r1 : ∀ q ∈ lw_privs_1, lw_okq q := List.forall_mem_cons.mpr ⟨lw_p0, List.forall_mem_cons.mpr ⟨lw_p1, List.forall_mem_cons.mpr ⟨lw_p2, List.forall_mem_cons.mpr ⟨lw_p3, List.forall_mem_cons.mpr ⟨lw_p4, List.forall_mem_cons.mpr ⟨lw_p5, List.forall_mem_cons.mpr ⟨lw_p6, List.forall_mem_cons.mpr ⟨lw_p7, List.forall_mem_cons.mpr ⟨lw_p8, List.forall_mem_cons.mpr ⟨lw_p9, List.forall_mem_cons.mpr ⟨lw_p10, List.forall_mem_cons.mpr ⟨lw_p11, List.forall_mem_cons.mpr ⟨lw_p12, List.forall_mem_cons.mpr ⟨lw_p13, List.forall_mem_cons.mpr ⟨lw_p14, List.forall_mem_cons.mpr ⟨lw_p15, fun _ h => absurd h List.not_mem_nil⟩⟩⟩⟩⟩⟩⟩⟩⟩⟩⟩⟩⟩⟩⟩⟩
theorem lw_p16 : lw_okq (⟨"YearTagsModel", "log", "(II)V"⟩, 5) := ⟨⟨by decide +kernel, by decide +kernel⟩, List.mem_of_getElem? (i := 668) (by decide +kernel), List.mem_of_getElem? (i := 784) (by decide +kernel), List.mem_of_getElem? (i := 785) (by decide +kernel)⟩
theorem lw_p17 : lw_okq (⟨"YearTagsModel", "noTag", "(I)I"⟩, 5) := ⟨⟨by decide +kernel, by decide +kernel⟩, List.mem_of_getElem? (i := 668) (by decide +kernel), List.mem_of_getElem? (i := 795) (by decide +kernel), List.mem_of_getElem? (i := 796) (by decide +kernel)⟩
theorem lw_p18 : lw_okq (⟨"YearTagsModel", "isGiven", "(I)Z"⟩, 5) := ⟨⟨by decide +kernel, by decide +kernel⟩, List.mem_of_getElem? (i := 668) (by decide +kernel), List.mem_of_getElem? (i := 803) (by decide +kernel), List.mem_of_getElem? (i := 804) (by decide +kernel)⟩
theorem lw_p19 : lw_okq (⟨"YearTagsModel", "lastOf", "(I)I"⟩, 5) := ⟨⟨by decide +kernel, by decide +kernel⟩, List.mem_of_getElem? (i := 668) (by decide +kernel), List.mem_of_getElem? (i := 807) (by decide +kernel), List.mem_of_getElem? (i := 808) (by decide +kernel)⟩
theorem lw_p20 : lw_okq (⟨"YearTagsModel", "follows", "(I)I"⟩, 5) := ⟨⟨by decide +kernel, by decide +kernel⟩, List.mem_of_getElem? (i := 668) (by decide +kernel), List.mem_of_getElem? (i := 811) (by decide +kernel), List.mem_of_getElem? (i := 812) (by decide +kernel)⟩
theorem lw_p21 : lw_okq (⟨"YearTagsModel", "endOf", "(I)I"⟩, 5) := ⟨⟨by decide +kernel, by decide +kernel⟩, List.mem_of_getElem? (i := 668) (by decide +kernel), List.mem_of_getElem? (i := 815) (by decide +kernel), List.mem_of_getElem? (i := 816) (by decide +kernel)⟩
theorem lw_p22 : lw_okq (⟨"YearTagsModel", "doClaim", "(I)I"⟩, 5) := ⟨⟨by decide +kernel, by decide +kernel⟩, List.mem_of_getElem? (i := 668) (by decide +kernel), List.mem_of_getElem? (i := 819) (by decide +kernel), List.mem_of_getElem? (i := 820) (by decide +kernel)⟩
theorem lw_p23 : lw_okq (⟨"YearTagsModel", "dueOn", "(I)I"⟩, 5) := ⟨⟨by decide +kernel, by decide +kernel⟩, List.mem_of_getElem? (i := 668) (by decide +kernel), List.mem_of_getElem? (i := 826) (by decide +kernel), List.mem_of_getElem? (i := 827) (by decide +kernel)⟩
theorem lw_p24 : lw_okq (⟨"YearTagsModel", "end", "(III)V"⟩, 5) := ⟨⟨by decide +kernel, by decide +kernel⟩, List.mem_of_getElem? (i := 668) (by decide +kernel), List.mem_of_getElem? (i := 830) (by decide +kernel), List.mem_of_getElem? (i := 831) (by decide +kernel)⟩
theorem lw_p25 : lw_okq (⟨"YearTagsModel", "leave", "(I)V"⟩, 5) := ⟨⟨by decide +kernel, by decide +kernel⟩, List.mem_of_getElem? (i := 668) (by decide +kernel), List.mem_of_getElem? (i := 834) (by decide +kernel), List.mem_of_getElem? (i := 835) (by decide +kernel)⟩
theorem lw_p26 : lw_okq (⟨"YearTagsModel", "doMove", "(II)I"⟩, 5) := ⟨⟨by decide +kernel, by decide +kernel⟩, List.mem_of_getElem? (i := 668) (by decide +kernel), List.mem_of_getElem? (i := 846) (by decide +kernel), List.mem_of_getElem? (i := 847) (by decide +kernel)⟩
theorem lw_p27 : lw_okq (⟨"YearTagsModel", "moveOn", "(II)Z"⟩, 5) := ⟨⟨by decide +kernel, by decide +kernel⟩, List.mem_of_getElem? (i := 668) (by decide +kernel), List.mem_of_getElem? (i := 855) (by decide +kernel), List.mem_of_getElem? (i := 856) (by decide +kernel)⟩
theorem lw_p28 : lw_okq (⟨"YearTagsModel", "freeOn", "(II)I"⟩, 5) := ⟨⟨by decide +kernel, by decide +kernel⟩, List.mem_of_getElem? (i := 668) (by decide +kernel), List.mem_of_getElem? (i := 859) (by decide +kernel), List.mem_of_getElem? (i := 860) (by decide +kernel)⟩
theorem lw_p29 : lw_okq (⟨"YearTagsModel", "wayOf", "(I)I"⟩, 5) := ⟨⟨by decide +kernel, by decide +kernel⟩, List.mem_of_getElem? (i := 668) (by decide +kernel), List.mem_of_getElem? (i := 867) (by decide +kernel), List.mem_of_getElem? (i := 868) (by decide +kernel)⟩
theorem lw_p30 : lw_okq (⟨"YearTagsModel", "passDay", "()I"⟩, 5) := ⟨⟨by decide +kernel, by decide +kernel⟩, List.mem_of_getElem? (i := 668) (by decide +kernel), List.mem_of_getElem? (i := 875) (by decide +kernel), List.mem_of_getElem? (i := 876) (by decide +kernel)⟩
theorem lw_p31 : lw_okq (⟨"YearTagsModel", "faultOf", "()I"⟩, 5) := ⟨⟨by decide +kernel, by decide +kernel⟩, List.mem_of_getElem? (i := 668) (by decide +kernel), List.mem_of_getElem? (i := 891) (by decide +kernel), List.mem_of_getElem? (i := 892) (by decide +kernel)⟩
def lw_privs_2 : List (MethodName × Nat) := [(⟨"YearTagsModel", "log", "(II)V"⟩, 5), (⟨"YearTagsModel", "noTag", "(I)I"⟩, 5), (⟨"YearTagsModel", "isGiven", "(I)Z"⟩, 5), (⟨"YearTagsModel", "lastOf", "(I)I"⟩, 5), (⟨"YearTagsModel", "follows", "(I)I"⟩, 5), (⟨"YearTagsModel", "endOf", "(I)I"⟩, 5), (⟨"YearTagsModel", "doClaim", "(I)I"⟩, 5), (⟨"YearTagsModel", "dueOn", "(I)I"⟩, 5), (⟨"YearTagsModel", "end", "(III)V"⟩, 5), (⟨"YearTagsModel", "leave", "(I)V"⟩, 5), (⟨"YearTagsModel", "doMove", "(II)I"⟩, 5), (⟨"YearTagsModel", "moveOn", "(II)Z"⟩, 5), (⟨"YearTagsModel", "freeOn", "(II)I"⟩, 5), (⟨"YearTagsModel", "wayOf", "(I)I"⟩, 5), (⟨"YearTagsModel", "passDay", "()I"⟩, 5), (⟨"YearTagsModel", "faultOf", "()I"⟩, 5)]
theorem lw_r2 : ∀ q ∈ lw_privs_2, lw_okq q := List.forall_mem_cons.mpr ⟨lw_p16, List.forall_mem_cons.mpr ⟨lw_p17, List.forall_mem_cons.mpr ⟨lw_p18, List.forall_mem_cons.mpr ⟨lw_p19, List.forall_mem_cons.mpr ⟨lw_p20, List.forall_mem_cons.mpr ⟨lw_p21, List.forall_mem_cons.mpr ⟨lw_p22, List.forall_mem_cons.mpr ⟨lw_p23, List.forall_mem_cons.mpr ⟨lw_p24, List.forall_mem_cons.mpr ⟨lw_p25, List.forall_mem_cons.mpr ⟨lw_p26, List.forall_mem_cons.mpr ⟨lw_p27, List.forall_mem_cons.mpr ⟨lw_p28, List.forall_mem_cons.mpr ⟨lw_p29, List.forall_mem_cons.mpr ⟨lw_p30, List.forall_mem_cons.mpr ⟨lw_p31, fun _ h => absurd h List.not_mem_nil⟩⟩⟩⟩⟩⟩⟩⟩⟩⟩⟩⟩⟩⟩⟩⟩
theorem lw_p32 : lw_okq (⟨"YearTagsModel", "claimOn", "()I"⟩, 5) := ⟨⟨by decide +kernel, by decide +kernel⟩, List.mem_of_getElem? (i := 668) (by decide +kernel), List.mem_of_getElem? (i := 895) (by decide +kernel), List.mem_of_getElem? (i := 896) (by decide +kernel)⟩
theorem lw_p33 : lw_okq (⟨"YearTagsModel", "hooks", "()I"⟩, 5) := ⟨⟨by decide +kernel, by decide +kernel⟩, List.mem_of_getElem? (i := 668) (by decide +kernel), List.mem_of_getElem? (i := 935) (by decide +kernel), List.mem_of_getElem? (i := 936) (by decide +kernel)⟩
theorem lw_p34 : lw_okq (⟨"YearTagsModel", "retired", "()I"⟩, 5) := ⟨⟨by decide +kernel, by decide +kernel⟩, List.mem_of_getElem? (i := 668) (by decide +kernel), List.mem_of_getElem? (i := 939) (by decide +kernel), List.mem_of_getElem? (i := 940) (by decide +kernel)⟩
theorem lw_p35 : lw_okq (⟨"YearTagsModel", "greatestWay", "()I"⟩, 5) := ⟨⟨by decide +kernel, by decide +kernel⟩, List.mem_of_getElem? (i := 668) (by decide +kernel), List.mem_of_getElem? (i := 943) (by decide +kernel), List.mem_of_getElem? (i := 944) (by decide +kernel)⟩
def lw_privs_3 : List (MethodName × Nat) := [(⟨"YearTagsModel", "claimOn", "()I"⟩, 5), (⟨"YearTagsModel", "hooks", "()I"⟩, 5), (⟨"YearTagsModel", "retired", "()I"⟩, 5), (⟨"YearTagsModel", "greatestWay", "()I"⟩, 5)]
theorem lw_r3 : ∀ q ∈ lw_privs_3, lw_okq q := List.forall_mem_cons.mpr ⟨lw_p32, List.forall_mem_cons.mpr ⟨lw_p33, List.forall_mem_cons.mpr ⟨lw_p34, List.forall_mem_cons.mpr ⟨lw_p35, fun _ h => absurd h List.not_mem_nil⟩⟩⟩⟩
def lw_privs : List (MethodName × Nat) := lw_privs_1 ++ (lw_privs_2 ++ (lw_privs_3))
def lw_tbl : List Cond := k2_sels lw_privs ++ tables_1
theorem lw_privs_ok : ∀ q ∈ lw_privs, lw_okq q := by
  show ∀ q ∈ lw_privs_1 ++ (lw_privs_2 ++ (lw_privs_3)), lw_okq q
  exact List.forall_mem_append.mpr ⟨lw_r1, List.forall_mem_append.mpr ⟨lw_r2, lw_r3⟩⟩
-- ===== our names =====
def lw_gd : List Cond := lw_tbl.filter goodWord
theorem gIn {w : Cond} (i : Nat) (h : lw_tbl[i]? = some w) (hg : goodWord w = true) : w ∈ lw_gd := List.mem_filter.mpr ⟨List.mem_of_getElem? h, hg⟩
theorem gGood : GoodIn lw_gd lw_gd := fun w h => ⟨h, good_of_word (List.mem_filter.mp h).2⟩
def R_Ha : String := "YearTags$Handles"
def F_Ha : u_T := fun k => match k with
  | 0 => ("YearTags$Handles", "given", "I", false)
  | 1 => ("YearTags$Handles", "handle", "[I", false)
  | 2 => ("YearTags$Handles", "follower", "[I", false)
  | 3 => ("YearTags$Handles", "owner", "[I", false)
  | 4 => ("YearTags$Handles", "end", "[I", false)
  | _ => ("YearTags$Handles", "way", "[I", false)
def t_Ha : Nat → FieldType := fun k => match k with
  | 0 => .int
  | 1 => .array .int
  | 2 => .array .int
  | 3 => .array .int
  | 4 => .array .int
  | _ => .array .int
theorem n_Ha : ∀ a, a < 6 → ∀ b, b < 6 → a ≠ b → (F_Ha a).2.1 ≠ (F_Ha b).2.1 := by decide +kernel
theorem t_Ha_ok : ∀ k, k < 6 → parseFieldDescriptor (F_Ha k).2.2.1 = some (t_Ha k) := by decide +kernel
theorem i_Ha : ∀ w ∈ u_ws R_Ha F_Ha 6, w ∈ lw_gd := fun w h => List.mem_filter.mpr ⟨(by decide +kernel : ∀ w ∈ u_ws R_Ha F_Ha 6, w ∈ lw_tbl) w h, List.all_eq_true.mp (by decide +kernel : (u_ws R_Ha F_Ha 6).all goodWord = true) w h⟩
def R_Hi : String := "YearTags$History"
def F_Hi : u_T := fun k => match k with
  | 0 => ("YearTags$History", "states", "[LYearTags$State;", true)
  | 1 => ("YearTags$History", "newest", "I", false)
  | _ => ("YearTags$History", "size", "I", false)
def t_Hi : Nat → FieldType := fun k => match k with
  | 0 => .array (.object "YearTags$State")
  | 1 => .int
  | _ => .int
theorem n_Hi : ∀ a, a < 3 → ∀ b, b < 3 → a ≠ b → (F_Hi a).2.1 ≠ (F_Hi b).2.1 := by decide +kernel
theorem t_Hi_ok : ∀ k, k < 3 → parseFieldDescriptor (F_Hi k).2.2.1 = some (t_Hi k) := by decide +kernel
theorem i_Hi : ∀ w ∈ u_ws R_Hi F_Hi 3, w ∈ lw_gd := fun w h => List.mem_filter.mpr ⟨(by decide +kernel : ∀ w ∈ u_ws R_Hi F_Hi 3, w ∈ lw_tbl) w h, List.all_eq_true.mp (by decide +kernel : (u_ws R_Hi F_Hi 3).all goodWord = true) w h⟩
def R_Ho : String := "YearTags$Hook"
def F_Ho : u_T := fun k => match k with
  | 0 => ("YearTags$Hook", "number", "I", true)
  | 1 => ("YearTags$Hook", "year", "I", false)
  | 2 => ("YearTags$Hook", "isRetired", "Z", false)
  | 3 => ("YearTags$Hook", "timesLeft", "I", false)
  | 4 => ("YearTags$Hook", "leftAt", "I", false)
  | 5 => ("YearTags$Hook", "coat", "I", false)
  | 6 => ("YearTags$Hook", "coatSize", "I", false)
  | _ => ("YearTags$Hook", "coatDay", "I", false)
def t_Ho : Nat → FieldType := fun k => match k with
  | 0 => .int
  | 1 => .int
  | 2 => .boolean
  | 3 => .int
  | 4 => .int
  | 5 => .int
  | 6 => .int
  | _ => .int
theorem n_Ho : ∀ a, a < 8 → ∀ b, b < 8 → a ≠ b → (F_Ho a).2.1 ≠ (F_Ho b).2.1 := by decide +kernel
theorem t_Ho_ok : ∀ k, k < 8 → parseFieldDescriptor (F_Ho k).2.2.1 = some (t_Ho k) := by decide +kernel
theorem i_Ho : ∀ w ∈ u_ws R_Ho F_Ho 8, w ∈ lw_gd := fun w h => List.mem_filter.mpr ⟨(by decide +kernel : ∀ w ∈ u_ws R_Ho F_Ho 8, w ∈ lw_tbl) w h, List.all_eq_true.mp (by decide +kernel : (u_ws R_Ho F_Ho 8).all goodWord = true) w h⟩
def R_Lg : String := "YearTags$Log"
def F_Lg : u_T := fun k => match k with
  | 0 => ("YearTags$Log", "total", "I", false)
  | 1 => ("YearTags$Log", "kinds", "[I", true)
  | 2 => ("YearTags$Log", "handles", "[I", true)
  | 3 => ("YearTags$Log", "days", "[I", true)
  | _ => ("YearTags$Log", "times", "[I", true)
def t_Lg : Nat → FieldType := fun k => match k with
  | 0 => .int
  | 1 => .array .int
  | 2 => .array .int
  | 3 => .array .int
  | _ => .array .int
theorem n_Lg : ∀ a, a < 5 → ∀ b, b < 5 → a ≠ b → (F_Lg a).2.1 ≠ (F_Lg b).2.1 := by decide +kernel
theorem t_Lg_ok : ∀ k, k < 5 → parseFieldDescriptor (F_Lg k).2.2.1 = some (t_Lg k) := by decide +kernel
theorem i_Lg : ∀ w ∈ u_ws R_Lg F_Lg 5, w ∈ lw_gd := fun w h => List.mem_filter.mpr ⟨(by decide +kernel : ∀ w ∈ u_ws R_Lg F_Lg 5, w ∈ lw_tbl) w h, List.all_eq_true.mp (by decide +kernel : (u_ws R_Lg F_Lg 5).all goodWord = true) w h⟩
def R_Rk : String := "YearTags$Rack"
def F_Rk : u_T := fun k => match k with
  | 0 => ("YearTags$Rack", "hooks", "[LYearTags$Hook;", true)
  | 1 => ("YearTags$Rack", "hookCount", "I", false)
  | 2 => ("YearTags$Rack", "size", "I", false)
  | _ => ("YearTags$Rack", "isOpen", "Z", false)
def t_Rk : Nat → FieldType := fun k => match k with
  | 0 => .array (.object "YearTags$Hook")
  | 1 => .int
  | 2 => .int
  | _ => .boolean
theorem n_Rk : ∀ a, a < 4 → ∀ b, b < 4 → a ≠ b → (F_Rk a).2.1 ≠ (F_Rk b).2.1 := by decide +kernel
theorem t_Rk_ok : ∀ k, k < 4 → parseFieldDescriptor (F_Rk k).2.2.1 = some (t_Rk k) := by decide +kernel
theorem i_Rk : ∀ w ∈ u_ws R_Rk F_Rk 4, w ∈ lw_gd := fun w h => List.mem_filter.mpr ⟨(by decide +kernel : ∀ w ∈ u_ws R_Rk F_Rk 4, w ∈ lw_tbl) w h, List.all_eq_true.mp (by decide +kernel : (u_ws R_Rk F_Rk 4).all goodWord = true) w h⟩
def R_St : String := "YearTags$State"
def F_St : u_T := fun k => match k with
  | 0 => ("YearTags$State", "racks", "[LYearTags$Rack;", true)
  | 1 => ("YearTags$State", "rackCount", "I", false)
  | 2 => ("YearTags$State", "handles", "LYearTags$Handles;", true)
  | 3 => ("YearTags$State", "log", "LYearTags$Log;", true)
  | 4 => ("YearTags$State", "settings", "[I", true)
  | 5 => ("YearTags$State", "takenFor", "[I", true)
  | 6 => ("YearTags$State", "day", "I", false)
  | 7 => ("YearTags$State", "earned", "I", false)
  | _ => ("YearTags$State", "departures", "I", false)
def t_St : Nat → FieldType := fun k => match k with
  | 0 => .array (.object "YearTags$Rack")
  | 1 => .int
  | 2 => .object "YearTags$Handles"
  | 3 => .object "YearTags$Log"
  | 4 => .array .int
  | 5 => .array .int
  | 6 => .int
  | 7 => .int
  | _ => .int
theorem n_St : ∀ a, a < 9 → ∀ b, b < 9 → a ≠ b → (F_St a).2.1 ≠ (F_St b).2.1 := by decide +kernel
theorem t_St_ok : ∀ k, k < 9 → parseFieldDescriptor (F_St k).2.2.1 = some (t_St k) := by decide +kernel
theorem i_St : ∀ w ∈ u_ws R_St F_St 9, w ∈ lw_gd := fun w h => List.mem_filter.mpr ⟨(by decide +kernel : ∀ w ∈ u_ws R_St F_St 9, w ∈ lw_tbl) w h, List.all_eq_true.mp (by decide +kernel : (u_ws R_St F_St 9).all goodWord = true) w h⟩
def R_Tx : String := "YearTags$TagText"
def F_Tx : u_T := fun k => match k with
  | 0 => ("YearTags$TagText", "characters", "[C", true)
  | 1 => ("YearTags$TagText", "length", "I", false)
  | 2 => ("YearTags$TagText", "tags", "[I", true)
  | _ => ("YearTags$TagText", "tagCount", "I", false)
def t_Tx : Nat → FieldType := fun k => match k with
  | 0 => .array .char
  | 1 => .int
  | 2 => .array .int
  | _ => .int
theorem n_Tx : ∀ a, a < 4 → ∀ b, b < 4 → a ≠ b → (F_Tx a).2.1 ≠ (F_Tx b).2.1 := by decide +kernel
theorem t_Tx_ok : ∀ k, k < 4 → parseFieldDescriptor (F_Tx k).2.2.1 = some (t_Tx k) := by decide +kernel
theorem i_Tx : ∀ w ∈ u_ws R_Tx F_Tx 4, w ∈ lw_gd := fun w h => List.mem_filter.mpr ⟨(by decide +kernel : ∀ w ∈ u_ws R_Tx F_Tx 4, w ∈ lw_tbl) w h, List.all_eq_true.mp (by decide +kernel : (u_ws R_Tx F_Tx 4).all goodWord = true) w h⟩
def R_Yt : String := "YearTags"
def F_Yt : u_T := fun k => match k with
  | 0 => ("YearTags", "now", "LYearTags$State;", true)
  | 1 => ("YearTags", "snapshot", "LYearTags$State;", true)
  | 2 => ("YearTags", "hasSnapshot", "Z", false)
  | 3 => ("YearTags", "history", "LYearTags$History;", true)
  | 4 => ("YearTags", "text", "LYearTags$TagText;", true)
  | _ => ("YearTags", "claimedPlaces", "[I", true)
def t_Yt : Nat → FieldType := fun k => match k with
  | 0 => .object "YearTags$State"
  | 1 => .object "YearTags$State"
  | 2 => .boolean
  | 3 => .object "YearTags$History"
  | 4 => .object "YearTags$TagText"
  | _ => .array .int
theorem n_Yt : ∀ a, a < 6 → ∀ b, b < 6 → a ≠ b → (F_Yt a).2.1 ≠ (F_Yt b).2.1 := by decide +kernel
theorem t_Yt_ok : ∀ k, k < 6 → parseFieldDescriptor (F_Yt k).2.2.1 = some (t_Yt k) := by decide +kernel
theorem i_Yt : ∀ w ∈ u_ws R_Yt F_Yt 6, w ∈ lw_gd := fun w h => List.mem_filter.mpr ⟨(by decide +kernel : ∀ w ∈ u_ws R_Yt F_Yt 6, w ∈ lw_tbl) w h, List.all_eq_true.mp (by decide +kernel : (u_ws R_Yt F_Yt 6).all goodWord = true) w h⟩
def R_Md : String := "YearTagsModel"
def F_Md : u_T := fun k => match k with
  | 0 => ("YearTagsModel", "row", "[I", true)
  | 1 => ("YearTagsModel", "states", "I", false)
  | 2 => ("YearTagsModel", "isKept", "Z", false)
  | 3 => ("YearTagsModel", "text", "[I", true)
  | _ => ("YearTagsModel", "length", "I", false)
def t_Md : Nat → FieldType := fun k => match k with
  | 0 => .array .int
  | 1 => .int
  | 2 => .boolean
  | 3 => .array .int
  | _ => .int
theorem n_Md : ∀ a, a < 5 → ∀ b, b < 5 → a ≠ b → (F_Md a).2.1 ≠ (F_Md b).2.1 := by decide +kernel
theorem t_Md_ok : ∀ k, k < 5 → parseFieldDescriptor (F_Md k).2.2.1 = some (t_Md k) := by decide +kernel
theorem i_Md : ∀ w ∈ u_ws R_Md F_Md 5, w ∈ lw_gd := fun w h => List.mem_filter.mpr ⟨(by decide +kernel : ∀ w ∈ u_ws R_Md F_Md 5, w ∈ lw_tbl) w h, List.all_eq_true.mp (by decide +kernel : (u_ws R_Md F_Md 5).all goodWord = true) w h⟩
abbrev vwCl : List vw_C := [(R_Ha, F_Ha, 6), (R_Hi, F_Hi, 3), (R_Ho, F_Ho, 8), (R_Lg, F_Lg, 5), (R_Rk, F_Rk, 4), (R_St, F_St, 9), (R_Tx, F_Tx, 4), (R_Yt, F_Yt, 6), (R_Md, F_Md, 5)]
end
section
/-! ===== a small logic over W: whole abstract heaps, exact ends, one rule an instruction ===== -/
/-- a cell: an object (number of its class in vwCl, its fields) or an array (kind, length, contents) -/
abbrev gC : Type := (Nat × List Value) ⊕ (Nat × Nat × (Nat → Value))
/-- a heap: its cells, the next address, the slots made so far -/
abbrev gH : Type := (Nat → Option gC) × Nat × Nat
/-- a method: name, code, locals, what it returns, the frames and the words that its calls need -/
abbrev gMd : Type := MethodName × ByteArray × Nat × Option FieldType × Nat × Nat
abbrev gY (M : gMd) : MethodName := M.1
abbrev gBy (M : gMd) : ByteArray := M.2.1
abbrev gMl (M : gMd) : Nat := M.2.2.1
abbrev gRt (M : gMd) : Option FieldType := M.2.2.2.1
abbrev gFr (M : gMd) : Nat := M.2.2.2.2.1
abbrev gLo (M : gMd) : Nat := M.2.2.2.2.2
/-- what is fixed: the launch, the classes' numbers and slots, the arrays' classes, the first address of ours -/
abbrev gE : Type := Launch × va_G × List (ClassId × FieldType) × Nat
abbrev gL (E : gE) : Launch := E.1
abbrev gD (E : gE) : va_G := E.2.1
abbrev gT (E : gE) : List (ClassId × FieldType) := E.2.2.1
abbrev gB (E : gE) : Nat := E.2.2.2
def gWs (M : gMd) : List Cond := Cond.code (gY M) (gBy M) (gMl M) (gRt M) :: lw_gd
/-- a cell as it lies in the machine's heap; kind 99: the script, which is only read -/
def gAt (E : gE) (U : State) (a : Nat) (c : gC) (H : Heap) : Prop := match c with
  | .inl o => ∃ r : vw_C, vwCl[o.1]? = some r ∧ o.2.length = r.2.2 ∧ t_OB a ((gD E).1 o.1) r.2.2 ((gD E).2 o.1) H (vp_V o.2)
  | .inr x => (∃ q, (gT E)[x.1]? = some q ∧ H[a]? = some (arrV q.1 x.2.1 x.2.2)) ∨ (x.1 = 99 ∧ ∃ scr : Cell, H[a]? = some scr ∧ U.isArrayOf scr .int ∧ scr.vm ≠ .unknown ∧ scr.slots.size = x.2.1 ∧ ∀ j : Nat, j < x.2.1 → scr.slots[j]? = some (x.2.2 j))
def gRep (E : gE) (U : State) (h : gH) (H : Heap) : Prop := H.size = h.2.1 ∧ gB E ≤ h.2.1 ∧ ∀ (a : Nat) (c : gC), h.1 a = some c → gAt E U a c H
theorem gAt.kept {E : gE} {U : State} {a : Nat} {c : gC} {H H1 : Heap} (h : gAt E U a c H) (hq : H1[a]? = H[a]?) : gAt E U a c H1 := by
  cases c with
  | inl o =>
    obtain ⟨r, h1, h2, h3⟩ := h
    exact ⟨r, h1, h2, h3.kept hq⟩
  | inr x =>
    rcases h with ⟨q, h1, h2⟩ | ⟨h0, scr, h1, h2⟩
    · exact Or.inl ⟨q, h1, by rw [hq]; exact h2⟩
    · exact Or.inr ⟨h0, scr, by rw [hq]; exact h1, h2⟩
theorem gAt.lt {E : gE} {U : State} {a : Nat} {c : gC} {H : Heap} (h : gAt E U a c H) : a < H.size := by
  cases c with
  | inl o =>
    obtain ⟨r, h1, h2, cell, h3, -⟩ := h
    exact (Array.getElem?_eq_some_iff.mp h3).1
  | inr x =>
    rcases h with ⟨q, h1, h2⟩ | ⟨h0, scr, h1, h2⟩
    · exact (Array.getElem?_eq_some_iff.mp h2).1
    · exact (Array.getElem?_eq_some_iff.mp h1).1
theorem gAt.moved {E : gE} {u U : State} {a : Nat} {c : gC} {H : Heap} (hvm : u.vm.Alike U.vm) (h : gAt E u a c H) : gAt E U a c H := by
  cases c with
  | inl o => exact h
  | inr x =>
    rcases h with h | ⟨h0, scr, h1, h2, h3⟩
    · exact Or.inl h
    · exact Or.inr ⟨h0, scr, h1, State.isArrayOf_alike hvm h2, h3⟩
theorem gRep.moved {E : gE} {u U : State} {h : gH} {H : Heap} (hvm : u.vm.Alike U.vm) (h1 : gRep E u h H) : gRep E U h H := ⟨h1.1, h1.2.1, fun a c hc => (h1.2.2 a c hc).moved hvm⟩
/-- one cell written -/
def gPut (h : gH) (a : Nat) (c : gC) : gH := (fun q => if q = a then some c else h.1 q, h.2)
/-- one cell made, of n slots -/
def gPush (h : gH) (c : gC) (n : Nat) : gH := (fun q => if q = h.2.1 then some c else h.1 q, h.2.1 + 1, h.2.2 + n)
theorem gRep.put {E : gE} {U : State} {h : gH} {H H1 : Heap} {a : Nat} {c : gC} (hR : gRep E U h H) (hz : H1.size = H.size) (ho : ∀ q : Nat, q ≠ a → H1[q]? = H[q]?) (hc : gAt E U a c H1) : gRep E U (gPut h a c) H1 := by
  refine ⟨hz.trans hR.1, hR.2.1, fun q x hx => ?_⟩
  by_cases hq : q = a
  · subst hq
    simp only [gPut, if_pos] at hx
    cases hx
    exact hc
  · simp only [gPut, if_neg hq] at hx
    exact (hR.2.2 q x hx).kept (ho q hq)
theorem gRep.push {E : gE} {U : State} {h : gH} {H H1 : Heap} {c : gC} {n : Nat} (hR : gRep E U h H) (hz : H1.size = H.size + 1) (ho : ∀ q : Nat, q < H.size → H1[q]? = H[q]?) (hc : gAt E U H.size c H1) : gRep E U (gPush h c n) H1 := by
  refine ⟨by rw [hz, hR.1]; rfl, Nat.le_trans hR.2.1 (Nat.le_succ _), fun q x hx => ?_⟩
  by_cases hq : q = h.2.1
  · subst hq
    simp only [gPush, if_pos] at hx
    cases hx
    rw [← hR.1]
    exact hc
  · simp only [gPush, if_neg hq] at hx
    have h1 := hR.2.2 q x hx
    exact h1.kept (ho q h1.lt)
/-- the words that callees get by the side: nest mates' links, arrays of references -/
def gXw : Cond → Bool
  | .methodLinkNest .. => true
  | .arrayOver (.object _) => true
  | _ => false
def gXs (U : State) : Prop := ∀ w ∈ lw_tbl, gXw w = true → va_Nw w U
theorem gXs.moved {u U : State} (hW : u.WarmedH U.vm) (h : gXs u) : gXs U := by
  intro w hw hx
  have h1 := h w hw hx
  cases w <;> first | exact va_Nw.warmM hW h1 | (simp [gXw] at hx; done) | skip
  rename_i t
  cases t <;> first | exact va_AO.moved hW.alike h1 | (simp [gXw] at hx; done)
/-- a method's end -/
def gQ (E : gE) (r : Option Value) (h' : gH) : Array Value → State → Outcome → State → Prop := fun _ st o t =>
  o = .returned r ∧ gRep E t h' t.heap ∧ ∀ q : Nat, q < gB E → t.heap[q]? = st.heap[q]?
def gFree (E : gE) : Addr → Prop := fun q => gB E ≤ q
def gPre (E : gE) (h : gH) (U : State) : Prop := gRep E U h U.heap ∧ va_K (gD E) vwCl (gT E) U ∧ gXs U
def gCx (E : gE) (M : gMd) (p : Program) (s : State) (m : MethodId) (args : Array Value) (meth : Method) (c : Code) : Prop :=
  p.tables.exec = Jvm.exec ∧ c.code = gBy M ∧ meth.sig.returnType = gRt M ∧ c.maxLocals = gMl M ∧ s.vm.findClass (gY M).cls = some m.cls ∧ (∀ w ∈ lw_gd, w.before args s = true) ∧ gXs s ∧ meth.locks = false ∧ meth.name = (gY M).name ∧ va_K (gD E) vwCl (gT E) s
/-- the locals that are known -/
def gLs (M : gMd) (lsA : Array Slot) (ls : List (Option Value)) : Prop := lsA.size = gMl M ∧ lv_wf lsA ∧ ∀ (k : Nat) (v : Value), ls[k]? = some (some v) → lsA[k]? = some (.val v) ∧ v.category = 1
/-- from here the method ends with r and h' -/
def gSem (E : gE) (M : gMd) (pc : Nat) (ls : List (Option Value)) (st : List Value) (h : gH) (r : Option Value) (h' : gH) : Prop :=
  ∀ (p : Program) (e : Env) (R : Room) (s : State) (m : MethodId) (args : Array Value) (below : List Frame) (meth : Method) (c : Code), gCx E M p s m args meth c → gFr M ≤ R.frames → gLo M ≤ R.locals →
    ∀ (mc ms cells slots : Nat) (H : Heap) (locs : List Loc) (lsA : Array Slot), mc ≤ R.cells → ms ≤ R.slots → cells + h'.2.1 = mc + h.2.1 → slots + h'.2.2 = ms + h.2.2 → gRep E s h H → (∀ q : Nat, q < gB E → H[q]? = s.heap[q]?) → (∀ q ∈ locs, gFree E q.base) → gLs M lsA ls →
      W p (gL E) e R s m args below meth c H locs cells slots (MQ below (gQ E r h') args s mc ms (gFree E)) (F0 m pc lsA st)
/-- from here the method ends so that Q holds -/
def Wp (E : gE) (M : gMd) (pc : Nat) (ls : List (Option Value)) (st : List Value) (h : gH) (Q : Option Value → gH → Prop) : Prop :=
  ∃ (r : Option Value) (h' : gH), Q r h' ∧ h.2.1 ≤ h'.2.1 ∧ h.2.2 ≤ h'.2.2 ∧ gSem E M pc ls st h r h'
def gDec (M : gMd) (pc : Nat) (i : Instr) (n : Nat) : Prop := decode (gBy M) pc = .ok (i, n)
section GL
variable {E : gE} {M : gMd} {pc : Nat} {ls : List (Option Value)} {st : List Value} {h : gH} {Q : Option Value → gH → Prop}
theorem Wp.mono {Q' : Option Value → gH → Prop} (hq : ∀ r h', Q r h' → Q' r h') (w : Wp E M pc ls st h Q) : Wp E M pc ls st h Q' := by
  obtain ⟨r, h', q, a, b, k⟩ := w
  exact ⟨r, h', hq r h' q, a, b, k⟩
/-- an instruction that changes neither heap nor locals -/
theorem Wp.pure {pc' : Nat} {st' : List Value} (k : ∀ (p : Program) (e : Env) (R : Room) (s : State) (m : MethodId) (args : Array Value) (below : List Frame) (meth : Method) (c : Code) (H : Heap) (locs : List Loc) (cells slots : Nat) (Qs : State → Prop) (lsA : Array Slot), gCx E M p s m args meth c → gLs M lsA ls →
      gRep E s h H → W p (gL E) e R s m args below meth c H locs cells slots Qs (F0 m pc' lsA st') → W p (gL E) e R s m args below meth c H locs cells slots Qs (F0 m pc lsA st)) (w : Wp E M pc' ls st' h Q) : Wp E M pc ls st h Q := by
  obtain ⟨r, h', q, a, b, k1⟩ := w
  exact ⟨r, h', q, a, b, fun p e R s m args below meth c C f1 f2 mc ms cells slots H locs lsA g1 g2 g3 g4 hR hB hl hL => k p e R s m args below meth c H locs cells slots _ lsA C hL hR (k1 p e R s m args below meth c C f1 f2 mc ms cells slots H locs lsA g1 g2 g3 g4 hR hB hl hL)⟩
/-- an instruction that changes the locals -/
theorem Wp.loc {pc' : Nat} {st' : List Value} {ls' : List (Option Value)} (k : ∀ (p : Program) (e : Env) (R : Room) (s : State) (m : MethodId) (args : Array Value) (below : List Frame) (meth : Method) (c : Code) (H : Heap) (locs : List Loc) (cells slots : Nat) (Qs : State → Prop) (lsA : Array Slot), gCx E M p s m args meth c → gLs M lsA ls →
      (∀ lsB, gLs M lsB ls' → W p (gL E) e R s m args below meth c H locs cells slots Qs (F0 m pc' lsB st')) → W p (gL E) e R s m args below meth c H locs cells slots Qs (F0 m pc lsA st)) (w : Wp E M pc' ls' st' h Q) : Wp E M pc ls st h Q := by
  obtain ⟨r, h', q, a, b, k1⟩ := w
  exact ⟨r, h', q, a, b, fun p e R s m args below meth c C f1 f2 mc ms cells slots H locs lsA g1 g2 g3 g4 hR hB hl hL => k p e R s m args below meth c H locs cells slots _ lsA C hL (fun lsB hB2 => k1 p e R s m args below meth c C f1 f2 mc ms cells slots H locs lsB g1 g2 g3 g4 hR hB hl hB2)⟩
theorem gLs.at {lsA : Array Slot} (hL : gLs M lsA ls) {k : Nat} {v : Value} (hk : ls[k]? = some (some v)) : lsA[k]? = some (.val v) := (hL.2.2 k v hk).1
def gPr (ls : List (Option Value)) : List (Nat × Value) := (List.range ls.length).filterMap fun k => (ls[k]?).bind fun o => o.map fun v => (k, v)
theorem gPr_mem {k : Nat} {v : Value} (hk : ls[k]? = some (some v)) : (k, v) ∈ gPr ls := by
  refine List.mem_filterMap.mpr ⟨k, List.mem_range.mpr (List.getElem?_eq_some_iff.mp hk).1, ?_⟩
  rw [hk]; rfl
theorem gPr_of {q : Nat × Value} (hq : q ∈ gPr ls) : ls[q.1]? = some (some q.2) := by
  obtain ⟨k, -, hk⟩ := List.mem_filterMap.mp hq
  cases h1 : ls[k]? with
  | none => rw [h1] at hk; cases hk
  | some o => cases o with
    | none => rw [h1] at hk; cases hk
    | some v => rw [h1] at hk; cases hk; exact h1
theorem gLs.has {lsA : Array Slot} (hL : gLs M lsA ls) : lv_has lsA (gMl M) (gPr ls) := ⟨hL.1, hL.2.1, fun q hq => hL.at (gPr_of hq)⟩
theorem gLs.stored {lsA lsB : Array Slot} (hL : gLs M lsA ls) {i : Nat} {v : Value} (hc : v.category = 1) (hB : lv_has lsB (gMl M) ((i, v) :: (gPr ls).filter (fun q => !(q.1 == i) && !(q.1 + 1 == i && q.2.category == 2)))) : gLs M lsB (ls.set i (some v)) := by
  refine ⟨hB.1, hB.2.1, fun k w hk => ?_⟩
  by_cases hki : k = i
  · subst hki
    rw [List.getElem?_set] at hk
    rw [if_pos rfl] at hk
    split at hk
    · cases hk
      exact ⟨hB.2.2 (k, v) List.mem_cons_self, hc⟩
    · cases hk
  · rw [List.getElem?_set, if_neg (fun e => hki e.symm)] at hk
    have h1 := hL.2.2 k w hk
    refine ⟨hB.2.2 (k, w) (List.mem_cons_of_mem _ (List.mem_filter.mpr ⟨gPr_mem hk, ?_⟩)), h1.2⟩
    simp [hki, h1.2]
-- ----- constants, locals, stack, arithmetic
theorem wp_iconst {n : Int} (hd : gDec M pc (.iconst n) 1) (w : Wp E M (pc + 1) ls (.int (Int32.ofInt n) :: st) h Q) : Wp E M pc ls st h Q :=
  Wp.pure (fun p e R s m args below meth c H locs cells slots Qs lsA C _ _ k => lv_iconst C.1 C.2.1 hd rfl k) w
theorem wp_bipush {n : Int} (hd : gDec M pc (.bipush n) 2) (w : Wp E M (pc + 2) ls (.int ((Int8.ofInt n).toInt32) :: st) h Q) : Wp E M pc ls st h Q :=
  Wp.pure (fun p e R s m args below meth c H locs cells slots Qs lsA C _ _ k => lv_bipush C.1 C.2.1 hd rfl k) w
theorem wp_sipush {n : Int} (hd : gDec M pc (.sipush n) 3) (w : Wp E M (pc + 3) ls (.int ((Int16.ofInt n).toInt32) :: st) h Q) : Wp E M pc ls st h Q :=
  Wp.pure (fun p e R s m args below meth c H locs cells slots Qs lsA C _ _ k => lv_sipush C.1 C.2.1 hd rfl k) w
def gLd (own : String) (cp : Nat) (v : Int32) : Prop := Cond.constant own cp v ∈ lw_gd
theorem wp_ldc {cp : Nat} {v : Int32} (hd : gDec M pc (.ldc cp) 2) (hc : gLd (gY M).cls cp v) (w : Wp E M (pc + 2) ls (.int v :: st) h Q) : Wp E M pc ls st h Q :=
  Wp.pure (fun p e R s m args below meth c H locs cells slots Qs lsA C _ _ k => lv_ldc C.1 C.2.1 C.2.2.2.2.1 (C.2.2.2.2.2.1 _ hc) hd k) w
theorem wp_ldc_w {cp : Nat} {v : Int32} (hd : gDec M pc (.ldc_w cp) 3) (hc : gLd (gY M).cls cp v) (w : Wp E M (pc + 3) ls (.int v :: st) h Q) : Wp E M pc ls st h Q :=
  Wp.pure (fun p e R s m args below meth c H locs cells slots Qs lsA C _ _ k => lv_ldcw C.1 C.2.1 C.2.2.2.2.1 (C.2.2.2.2.2.1 _ hc) hd k) w
theorem wp_aconst_null (hd : gDec M pc .aconst_null 1) (w : Wp E M (pc + 1) ls (.null :: st) h Q) : Wp E M pc ls st h Q :=
  Wp.pure (fun p e R s m args below meth c H locs cells slots Qs lsA C _ _ k => lv_null C.1 C.2.1 hd k) w
theorem wp_iload_n {k : Fin 4} {x : Int32} (hd : gDec M pc (.iload_n k) 1) (hl : ls[(k : Nat)]? = some (some (.int x))) (w : Wp E M (pc + 1) ls (.int x :: st) h Q) : Wp E M pc ls st h Q :=
  Wp.pure (fun p e R s m args below meth c H locs cells slots Qs lsA C hL _ kk => lv_iload_n C.1 C.2.1 hd rfl (hL.at hl) kk) w
theorem wp_iload {k : Nat} {x : Int32} (hd : gDec M pc (.iload k) 2) (hl : ls[k]? = some (some (.int x))) (w : Wp E M (pc + 2) ls (.int x :: st) h Q) : Wp E M pc ls st h Q :=
  Wp.pure (fun p e R s m args below meth c H locs cells slots Qs lsA C hL _ kk => lv_iload C.1 C.2.1 hd (hL.at hl) kk) w
theorem wp_aload_n {k : Fin 4} {x : Nat} (hd : gDec M pc (.aload_n k) 1) (hl : ls[(k : Nat)]? = some (some (.ref x))) (w : Wp E M (pc + 1) ls (.ref x :: st) h Q) : Wp E M pc ls st h Q :=
  Wp.pure (fun p e R s m args below meth c H locs cells slots Qs lsA C hL _ kk => lv_aload_n C.1 C.2.1 hd rfl (hL.at hl) kk) w
theorem wp_aload {k : Nat} {x : Nat} (hd : gDec M pc (.aload k) 2) (hl : ls[k]? = some (some (.ref x))) (w : Wp E M (pc + 2) ls (.ref x :: st) h Q) : Wp E M pc ls st h Q :=
  Wp.pure (fun p e R s m args below meth c H locs cells slots Qs lsA C hL _ kk => lv_aload C.1 C.2.1 hd (hL.at hl) kk) w
theorem wp_aload_nN {k : Fin 4} (hd : gDec M pc (.aload_n k) 1) (hl : ls[(k : Nat)]? = some (some .null)) (w : Wp E M (pc + 1) ls (.null :: st) h Q) : Wp E M pc ls st h Q :=
  Wp.pure (fun p e R s m args below meth c H locs cells slots Qs lsA C hL _ kk => lv_aload_nN C.1 C.2.1 hd rfl (hL.at hl) kk) w
theorem wp_aloadN {k : Nat} (hd : gDec M pc (.aload k) 2) (hl : ls[k]? = some (some .null)) (w : Wp E M (pc + 2) ls (.null :: st) h Q) : Wp E M pc ls st h Q :=
  Wp.pure (fun p e R s m args below meth c H locs cells slots Qs lsA C hL _ kk => lv_aloadN C.1 C.2.1 hd (hL.at hl) kk) w
theorem wp_istore_n {k : Fin 4} {x : Int32} {ls' : List (Option Value)} (hd : gDec M pc (.istore_n k) 1) (hk : (k : Nat) < gMl M) (hl : ls.set (k : Nat) (some (.int x)) = ls') (w : Wp E M (pc + 1) ls' st h Q) : Wp E M pc ls (.int x :: st) h Q :=
  Wp.loc (fun p e R s m args below meth c H locs cells slots Qs lsA C hL kk => lv_istore_n C.1 C.2.1 hd rfl hL.has hk rfl (fun lsB hB => kk lsB (hl ▸ hL.stored rfl hB))) w
theorem wp_istore {k : Nat} {x : Int32} {ls' : List (Option Value)} (hd : gDec M pc (.istore k) 2) (hk : k < gMl M) (hl : ls.set k (some (.int x)) = ls') (w : Wp E M (pc + 2) ls' st h Q) : Wp E M pc ls (.int x :: st) h Q :=
  Wp.loc (fun p e R s m args below meth c H locs cells slots Qs lsA C hL kk => lv_istore C.1 C.2.1 hd hL.has hk rfl (fun lsB hB => kk lsB (hl ▸ hL.stored rfl hB))) w
theorem wp_astore_n {k : Fin 4} {x : Nat} {ls' : List (Option Value)} (hd : gDec M pc (.astore_n k) 1) (hk : (k : Nat) < gMl M) (hl : ls.set (k : Nat) (some (.ref x)) = ls') (w : Wp E M (pc + 1) ls' st h Q) : Wp E M pc ls (.ref x :: st) h Q :=
  Wp.loc (fun p e R s m args below meth c H locs cells slots Qs lsA C hL kk => lv_astore_n C.1 C.2.1 hd rfl hL.has hk rfl (fun lsB hB => kk lsB (hl ▸ hL.stored rfl hB))) w
theorem wp_astore {k : Nat} {x : Nat} {ls' : List (Option Value)} (hd : gDec M pc (.astore k) 2) (hk : k < gMl M) (hl : ls.set k (some (.ref x)) = ls') (w : Wp E M (pc + 2) ls' st h Q) : Wp E M pc ls (.ref x :: st) h Q :=
  Wp.loc (fun p e R s m args below meth c H locs cells slots Qs lsA C hL kk => lv_astore C.1 C.2.1 hd hL.has hk rfl (fun lsB hB => kk lsB (hl ▸ hL.stored rfl hB))) w
theorem wp_astore_nN {k : Fin 4} {ls' : List (Option Value)} (hd : gDec M pc (.astore_n k) 1) (hk : (k : Nat) < gMl M) (hl : ls.set (k : Nat) (some .null) = ls') (w : Wp E M (pc + 1) ls' st h Q) : Wp E M pc ls (.null :: st) h Q :=
  Wp.loc (fun p e R s m args below meth c H locs cells slots Qs lsA C hL kk => lv_astore_nN C.1 C.2.1 hd rfl hL.has hk rfl (fun lsB hB => kk lsB (hl ▸ hL.stored rfl hB))) w
theorem wp_astoreN {k : Nat} {ls' : List (Option Value)} (hd : gDec M pc (.astore k) 2) (hk : k < gMl M) (hl : ls.set k (some .null) = ls') (w : Wp E M (pc + 2) ls' st h Q) : Wp E M pc ls (.null :: st) h Q :=
  Wp.loc (fun p e R s m args below meth c H locs cells slots Qs lsA C hL kk => lv_astoreN C.1 C.2.1 hd hL.has hk rfl (fun lsB hB => kk lsB (hl ▸ hL.stored rfl hB))) w
theorem wp_iinc {k : Nat} {n : Int} {x : Int32} {ls' : List (Option Value)} (hd : gDec M pc (.iinc k n) 3) (hx : ls[k]? = some (some (.int x))) (hk : k < gMl M) (hl : ls.set k (some (.int (x + Int32.ofInt n))) = ls') (w : Wp E M (pc + 3) ls' st h Q) : Wp E M pc ls st h Q :=
  Wp.loc (fun p e R s m args below meth c H locs cells slots Qs lsA C hL kk => by
    obtain ⟨j, hj⟩ := List.getElem?_of_mem (gPr_mem hx)
    exact lv_iinc C.1 C.2.1 hd hL.has hj rfl hk rfl (fun lsB hB => kk lsB (hl ▸ hL.stored rfl hB))) w
theorem wp_iadd {x y : Int32} (hd : gDec M pc .iadd 1) (w : Wp E M (pc + 1) ls (.int (x + y) :: st) h Q) : Wp E M pc ls (.int y :: .int x :: st) h Q :=
  Wp.pure (fun p e R s m args below meth c H locs cells slots Qs lsA C _ _ k => lv_iadd C.1 C.2.1 hd k) w
theorem wp_isub {x y : Int32} (hd : gDec M pc .isub 1) (w : Wp E M (pc + 1) ls (.int (x - y) :: st) h Q) : Wp E M pc ls (.int y :: .int x :: st) h Q :=
  Wp.pure (fun p e R s m args below meth c H locs cells slots Qs lsA C _ _ k => lv_isub C.1 C.2.1 hd k) w
theorem wp_imul {x y : Int32} (hd : gDec M pc .imul 1) (w : Wp E M (pc + 1) ls (.int (x * y) :: st) h Q) : Wp E M pc ls (.int y :: .int x :: st) h Q :=
  Wp.pure (fun p e R s m args below meth c H locs cells slots Qs lsA C _ _ k => lv_imul C.1 C.2.1 hd k) w
theorem wp_iand {x y : Int32} (hd : gDec M pc .iand 1) (w : Wp E M (pc + 1) ls (.int (x &&& y) :: st) h Q) : Wp E M pc ls (.int y :: .int x :: st) h Q :=
  Wp.pure (fun p e R s m args below meth c H locs cells slots Qs lsA C _ _ k => lv_iand C.1 C.2.1 hd k) w
theorem wp_ixor {x y : Int32} (hd : gDec M pc .ixor 1) (w : Wp E M (pc + 1) ls (.int (x ^^^ y) :: st) h Q) : Wp E M pc ls (.int y :: .int x :: st) h Q :=
  Wp.pure (fun p e R s m args below meth c H locs cells slots Qs lsA C _ _ k => lv_ixor C.1 C.2.1 hd k) w
theorem wp_idiv {x y : Int32} (hd : gDec M pc .idiv 1) (hne : ¬ y = 0) (w : Wp E M (pc + 1) ls (.int (x / y) :: st) h Q) : Wp E M pc ls (.int y :: .int x :: st) h Q :=
  Wp.pure (fun p e R s m args below meth c H locs cells slots Qs lsA C _ _ k => lv_idiv C.1 C.2.1 hd hne k) w
theorem gRem (x y : Int32) : x - x / y * y = x % y := Int32.toInt_inj.mp (by rw [rem_toInt, Int32.toInt_mod])
theorem wp_irem {x y : Int32} (hd : gDec M pc .irem 1) (hne : ¬ y = 0) (w : Wp E M (pc + 1) ls (.int (x % y) :: st) h Q) : Wp E M pc ls (.int y :: .int x :: st) h Q :=
  Wp.pure (fun p e R s m args below meth c H locs cells slots Qs lsA C _ _ k => lv_irem C.1 C.2.1 hd hne (by rw [gRem]; exact k)) w
theorem wp_ineg {x : Int32} (hd : gDec M pc .ineg 1) (w : Wp E M (pc + 1) ls (.int (-x) :: st) h Q) : Wp E M pc ls (.int x :: st) h Q :=
  Wp.pure (fun p e R s m args below meth c H locs cells slots Qs lsA C _ _ k => lv_ineg C.1 C.2.1 hd k) w
theorem wp_i2c {x : Int32} (hd : gDec M pc .i2c 1) (w : Wp E M (pc + 1) ls (.int ((x.toUInt32 % 65536).toInt32) :: st) h Q) : Wp E M pc ls (.int x :: st) h Q :=
  Wp.pure (fun p e R s m args below meth c H locs cells slots Qs lsA C _ _ k => lv_i2c C.1 C.2.1 hd rfl k) w
theorem wp_dup {v : Value} (hd : gDec M pc .dup 1) (hv : v.category = 1) (w : Wp E M (pc + 1) ls (v :: v :: st) h Q) : Wp E M pc ls (v :: st) h Q :=
  Wp.pure (fun p e R s m args below meth c H locs cells slots Qs lsA C _ _ k => lv_dup C.1 C.2.1 hd hv k) w
theorem wp_dup2 {v u : Value} (hd : gDec M pc .dup2 1) (hv : v.category = 1) (hu : u.category = 1) (w : Wp E M (pc + 1) ls (v :: u :: v :: u :: st) h Q) : Wp E M pc ls (v :: u :: st) h Q :=
  Wp.pure (fun p e R s m args below meth c H locs cells slots Qs lsA C _ _ k => lv_dup2_11 C.1 C.2.1 hd hv hu k) w
theorem wp_pop {v : Value} (hd : gDec M pc .pop 1) (hv : v.category = 1) (w : Wp E M (pc + 1) ls st h Q) : Wp E M pc ls (v :: st) h Q :=
  Wp.pure (fun p e R s m args below meth c H locs cells slots Qs lsA C _ _ k => lv_pop C.1 C.2.1 hd hv k) w
end GL
end
section
/-! ===== the logic, on: branches, heap, calls, ends ===== -/
section GM
variable {E : gE} {M : gMd} {pc : Nat} {ls : List (Option Value)} {st : List Value} {h : gH} {Q : Option Value → gH → Prop}
theorem wp_goto {off : Int} {tgt : Nat} (hd : gDec M pc (.goto off) 3) (ht : (pc : Int) + off = (tgt : Int)) (w : Wp E M tgt ls st h Q) : Wp E M pc ls st h Q :=
  Wp.pure (fun p e R s m args below meth c H locs cells slots Qs lsA C _ _ k => lv_goto C.1 C.2.1 hd ht k) w
theorem wp_if_eq {x : Int32} {off : Int} {tgt : Nat} (hd : gDec M pc (.ifCond .eq off) 3) (ht : (pc : Int) + off = (tgt : Int)) (kt : x = 0 → Wp E M tgt ls st h Q) (kf : ¬ x = 0 → Wp E M (pc + 3) ls st h Q) : Wp E M pc ls (.int x :: st) h Q := by
  by_cases hP : x = 0
  · exact Wp.pure (fun p e R s m args below meth c H locs cells slots Qs lsA C _ _ k => lv_if_eq C.1 C.2.1 hd ht (fun _ => k) (fun z => absurd hP z)) (kt hP)
  · exact Wp.pure (fun p e R s m args below meth c H locs cells slots Qs lsA C _ _ k => lv_if_eq C.1 C.2.1 hd ht (fun z => absurd z hP) (fun _ => k)) (kf hP)
theorem wp_if_ne {x : Int32} {off : Int} {tgt : Nat} (hd : gDec M pc (.ifCond .ne off) 3) (ht : (pc : Int) + off = (tgt : Int)) (kt : ¬ x = 0 → Wp E M tgt ls st h Q) (kf : x = 0 → Wp E M (pc + 3) ls st h Q) : Wp E M pc ls (.int x :: st) h Q := by
  by_cases hP : x = 0
  · exact Wp.pure (fun p e R s m args below meth c H locs cells slots Qs lsA C _ _ k => lv_if_ne C.1 C.2.1 hd ht (fun z => absurd hP z) (fun _ => k)) (kf hP)
  · exact Wp.pure (fun p e R s m args below meth c H locs cells slots Qs lsA C _ _ k => lv_if_ne C.1 C.2.1 hd ht (fun _ => k) (fun z => absurd z hP)) (kt hP)
theorem wp_if_lt {x : Int32} {off : Int} {tgt : Nat} (hd : gDec M pc (.ifCond .lt off) 3) (ht : (pc : Int) + off = (tgt : Int)) (kt : x < 0 → Wp E M tgt ls st h Q) (kf : ¬ x < 0 → Wp E M (pc + 3) ls st h Q) : Wp E M pc ls (.int x :: st) h Q := by
  by_cases hP : x < 0
  · exact Wp.pure (fun p e R s m args below meth c H locs cells slots Qs lsA C _ _ k => lv_if_lt C.1 C.2.1 hd ht (fun _ => k) (fun z => absurd hP z)) (kt hP)
  · exact Wp.pure (fun p e R s m args below meth c H locs cells slots Qs lsA C _ _ k => lv_if_lt C.1 C.2.1 hd ht (fun z => absurd z hP) (fun _ => k)) (kf hP)
theorem wp_if_ge {x : Int32} {off : Int} {tgt : Nat} (hd : gDec M pc (.ifCond .ge off) 3) (ht : (pc : Int) + off = (tgt : Int)) (kt : 0 ≤ x → Wp E M tgt ls st h Q) (kf : ¬ 0 ≤ x → Wp E M (pc + 3) ls st h Q) : Wp E M pc ls (.int x :: st) h Q := by
  by_cases hP : 0 ≤ x
  · exact Wp.pure (fun p e R s m args below meth c H locs cells slots Qs lsA C _ _ k => lv_if_ge C.1 C.2.1 hd ht (fun _ => k) (fun z => absurd hP z)) (kt hP)
  · exact Wp.pure (fun p e R s m args below meth c H locs cells slots Qs lsA C _ _ k => lv_if_ge C.1 C.2.1 hd ht (fun z => absurd z hP) (fun _ => k)) (kf hP)
theorem wp_if_gt {x : Int32} {off : Int} {tgt : Nat} (hd : gDec M pc (.ifCond .gt off) 3) (ht : (pc : Int) + off = (tgt : Int)) (kt : 0 < x → Wp E M tgt ls st h Q) (kf : ¬ 0 < x → Wp E M (pc + 3) ls st h Q) : Wp E M pc ls (.int x :: st) h Q := by
  by_cases hP : 0 < x
  · exact Wp.pure (fun p e R s m args below meth c H locs cells slots Qs lsA C _ _ k => lv_if_gt C.1 C.2.1 hd ht (fun _ => k) (fun z => absurd hP z)) (kt hP)
  · exact Wp.pure (fun p e R s m args below meth c H locs cells slots Qs lsA C _ _ k => lv_if_gt C.1 C.2.1 hd ht (fun z => absurd z hP) (fun _ => k)) (kf hP)
theorem wp_if_le {x : Int32} {off : Int} {tgt : Nat} (hd : gDec M pc (.ifCond .le off) 3) (ht : (pc : Int) + off = (tgt : Int)) (kt : x ≤ 0 → Wp E M tgt ls st h Q) (kf : ¬ x ≤ 0 → Wp E M (pc + 3) ls st h Q) : Wp E M pc ls (.int x :: st) h Q := by
  by_cases hP : x ≤ 0
  · exact Wp.pure (fun p e R s m args below meth c H locs cells slots Qs lsA C _ _ k => lv_if_le C.1 C.2.1 hd ht (fun _ => k) (fun z => absurd hP z)) (kt hP)
  · exact Wp.pure (fun p e R s m args below meth c H locs cells slots Qs lsA C _ _ k => lv_if_le C.1 C.2.1 hd ht (fun z => absurd z hP) (fun _ => k)) (kf hP)
theorem wp_icmp_eq {x y : Int32} {off : Int} {tgt : Nat} (hd : gDec M pc (.if_icmp .eq off) 3) (ht : (pc : Int) + off = (tgt : Int)) (kt : x = y → Wp E M tgt ls st h Q) (kf : ¬ x = y → Wp E M (pc + 3) ls st h Q) : Wp E M pc ls (.int y :: .int x :: st) h Q := by
  by_cases hP : x = y
  · exact Wp.pure (fun p e R s m args below meth c H locs cells slots Qs lsA C _ _ k => lv_icmp_eq C.1 C.2.1 hd ht (fun _ => k) (fun z => absurd hP z)) (kt hP)
  · exact Wp.pure (fun p e R s m args below meth c H locs cells slots Qs lsA C _ _ k => lv_icmp_eq C.1 C.2.1 hd ht (fun z => absurd z hP) (fun _ => k)) (kf hP)
theorem wp_icmp_ne {x y : Int32} {off : Int} {tgt : Nat} (hd : gDec M pc (.if_icmp .ne off) 3) (ht : (pc : Int) + off = (tgt : Int)) (kt : ¬ x = y → Wp E M tgt ls st h Q) (kf : x = y → Wp E M (pc + 3) ls st h Q) : Wp E M pc ls (.int y :: .int x :: st) h Q := by
  by_cases hP : x = y
  · exact Wp.pure (fun p e R s m args below meth c H locs cells slots Qs lsA C _ _ k => lv_icmp_ne C.1 C.2.1 hd ht (fun z => absurd hP z) (fun _ => k)) (kf hP)
  · exact Wp.pure (fun p e R s m args below meth c H locs cells slots Qs lsA C _ _ k => lv_icmp_ne C.1 C.2.1 hd ht (fun _ => k) (fun z => absurd z hP)) (kt hP)
theorem wp_icmp_lt {x y : Int32} {off : Int} {tgt : Nat} (hd : gDec M pc (.if_icmp .lt off) 3) (ht : (pc : Int) + off = (tgt : Int)) (kt : x < y → Wp E M tgt ls st h Q) (kf : ¬ x < y → Wp E M (pc + 3) ls st h Q) : Wp E M pc ls (.int y :: .int x :: st) h Q := by
  by_cases hP : x < y
  · exact Wp.pure (fun p e R s m args below meth c H locs cells slots Qs lsA C _ _ k => lv_icmp_lt C.1 C.2.1 hd ht (fun _ => k) (fun z => absurd hP z)) (kt hP)
  · exact Wp.pure (fun p e R s m args below meth c H locs cells slots Qs lsA C _ _ k => lv_icmp_lt C.1 C.2.1 hd ht (fun z => absurd z hP) (fun _ => k)) (kf hP)
theorem wp_icmp_ge {x y : Int32} {off : Int} {tgt : Nat} (hd : gDec M pc (.if_icmp .ge off) 3) (ht : (pc : Int) + off = (tgt : Int)) (kt : y ≤ x → Wp E M tgt ls st h Q) (kf : ¬ y ≤ x → Wp E M (pc + 3) ls st h Q) : Wp E M pc ls (.int y :: .int x :: st) h Q := by
  by_cases hP : y ≤ x
  · exact Wp.pure (fun p e R s m args below meth c H locs cells slots Qs lsA C _ _ k => lv_icmp_ge C.1 C.2.1 hd ht (fun _ => k) (fun z => absurd hP z)) (kt hP)
  · exact Wp.pure (fun p e R s m args below meth c H locs cells slots Qs lsA C _ _ k => lv_icmp_ge C.1 C.2.1 hd ht (fun z => absurd z hP) (fun _ => k)) (kf hP)
theorem wp_icmp_gt {x y : Int32} {off : Int} {tgt : Nat} (hd : gDec M pc (.if_icmp .gt off) 3) (ht : (pc : Int) + off = (tgt : Int)) (kt : y < x → Wp E M tgt ls st h Q) (kf : ¬ y < x → Wp E M (pc + 3) ls st h Q) : Wp E M pc ls (.int y :: .int x :: st) h Q := by
  by_cases hP : y < x
  · exact Wp.pure (fun p e R s m args below meth c H locs cells slots Qs lsA C _ _ k => lv_icmp_gt C.1 C.2.1 hd ht (fun _ => k) (fun z => absurd hP z)) (kt hP)
  · exact Wp.pure (fun p e R s m args below meth c H locs cells slots Qs lsA C _ _ k => lv_icmp_gt C.1 C.2.1 hd ht (fun z => absurd z hP) (fun _ => k)) (kf hP)
theorem wp_icmp_le {x y : Int32} {off : Int} {tgt : Nat} (hd : gDec M pc (.if_icmp .le off) 3) (ht : (pc : Int) + off = (tgt : Int)) (kt : x ≤ y → Wp E M tgt ls st h Q) (kf : ¬ x ≤ y → Wp E M (pc + 3) ls st h Q) : Wp E M pc ls (.int y :: .int x :: st) h Q := by
  by_cases hP : x ≤ y
  · exact Wp.pure (fun p e R s m args below meth c H locs cells slots Qs lsA C _ _ k => lv_icmp_le C.1 C.2.1 hd ht (fun _ => k) (fun z => absurd hP z)) (kt hP)
  · exact Wp.pure (fun p e R s m args below meth c H locs cells slots Qs lsA C _ _ k => lv_icmp_le C.1 C.2.1 hd ht (fun z => absurd z hP) (fun _ => k)) (kf hP)
theorem wp_ifnull {x : Nat} {off : Int} (hd : gDec M pc (.ifnull off) 3) (w : Wp E M (pc + 3) ls st h Q) : Wp E M pc ls (.ref x :: st) h Q :=
  Wp.pure (fun p e R s m args below meth c H locs cells slots Qs lsA C _ _ k => lv_ifnull C.1 C.2.1 hd k) w
theorem wp_ifnullN {off : Int} {tgt : Nat} (hd : gDec M pc (.ifnull off) 3) (ht : (pc : Int) + off = (tgt : Int)) (w : Wp E M tgt ls st h Q) : Wp E M pc ls (.null :: st) h Q :=
  Wp.pure (fun p e R s m args below meth c H locs cells slots Qs lsA C _ _ k => lv_ifnullN C.1 C.2.1 hd ht k) w
theorem wp_ifnonnull {x : Nat} {off : Int} {tgt : Nat} (hd : gDec M pc (.ifnonnull off) 3) (ht : (pc : Int) + off = (tgt : Int)) (w : Wp E M tgt ls st h Q) : Wp E M pc ls (.ref x :: st) h Q :=
  Wp.pure (fun p e R s m args below meth c H locs cells slots Qs lsA C _ _ k => lv_ifnonnull C.1 C.2.1 hd ht k) w
theorem wp_ifnonnullN {off : Int} (hd : gDec M pc (.ifnonnull off) 3) (w : Wp E M (pc + 3) ls st h Q) : Wp E M pc ls (.null :: st) h Q :=
  Wp.pure (fun p e R s m args below meth c H locs cells slots Qs lsA C _ _ k => lv_ifnonnullN C.1 C.2.1 hd k) w
theorem wp_tableOut {dflt lo hi : Int} {offs : Array Int} {len : Nat} {x : Int32} {tgt : Nat} (hd : gDec M pc (.tableswitch dflt lo hi offs) len) (hx : x.toInt < lo ∨ hi < x.toInt) (ht : (pc : Int) + dflt = (tgt : Int)) (w : Wp E M tgt ls st h Q) : Wp E M pc ls (.int x :: st) h Q :=
  Wp.pure (fun p e R s m args below meth c H locs cells slots Qs lsA C _ _ k => lv_tableOut C.1 C.2.1 hd hx ht k) w
theorem wp_tableIn {dflt lo hi : Int} {offs : Array Int} {len : Nat} {x : Int32} {off : Int} {tgt : Nat} (hd : gDec M pc (.tableswitch dflt lo hi offs) len) (h1 : ¬ x.toInt < lo) (h2 : ¬ hi < x.toInt) (ho : offs[(x.toInt - lo).toNat]? = some off) (ht : (pc : Int) + off = (tgt : Int)) (w : Wp E M tgt ls st h Q) : Wp E M pc ls (.int x :: st) h Q :=
  Wp.pure (fun p e R s m args below meth c H locs cells slots Qs lsA C _ _ k => lv_tableIn C.1 C.2.1 hd h1 h2 ho ht k) w
theorem wp_lookup {dflt : Int} {ps : Array (Int × Int)} {len : Nat} {x : Int32} {off : Int} {tgt : Nat} (hd : gDec M pc (.lookupswitch dflt ps) len) (hp : (ps.toList.zip (ps.toList.drop 1)).all (fun (a, next) => a.1 < next.1) = true) (ho : Op.lookupswitch.offset ps.toList dflt x.toInt = off) (ht : (pc : Int) + off = (tgt : Int)) (w : Wp E M tgt ls st h Q) : Wp E M pc ls (.int x :: st) h Q :=
  Wp.pure (fun p e R s m args below meth c H locs cells slots Qs lsA C _ _ k => lv_lookup C.1 C.2.1 hd hp ho ht k) w
-- ----- the heap
theorem Wp.put {a : Nat} {x : gC} {pc' : Nat} {st' : List Value} (ha : gB E ≤ a) (k : ∀ (p : Program) (e : Env) (R : Room) (s : State) (m : MethodId) (args : Array Value) (below : List Frame) (meth : Method) (c : Code) (H : Heap) (locs : List Loc) (cells slots : Nat) (Qs : State → Prop) (lsA : Array Slot), gFr M ≤ R.frames → gLo M ≤ R.locals → gCx E M p s m args meth c → gLs M lsA ls →
      gRep E s h H → (∀ (H1 : Heap) (L : List Loc), H1.size = H.size → (∀ q : Nat, q ≠ a → H1[q]? = H[q]?) → gAt E s a x H1 → (∀ q ∈ L, q.base = a) → W p (gL E) e R s m args below meth c H1 (locs ++ L) cells slots Qs (F0 m pc' lsA st')) → W p (gL E) e R s m args below meth c H locs cells slots Qs (F0 m pc lsA st)) (w : Wp E M pc' ls st' (gPut h a x) Q) : Wp E M pc ls st h Q := by
  obtain ⟨r, h', q, a1, b1, k1⟩ := w
  refine ⟨r, h', q, a1, b1, fun p e R s m args below meth c C f1 f2 mc ms cells slots H locs lsA g1 g2 g3 g4 hR hB hl hL => k p e R s m args below meth c H locs cells slots _ lsA f1 f2 C hL hR (fun H1 L z o hat hLb => ?_)⟩
  refine k1 p e R s m args below meth c C f1 f2 mc ms cells slots H1 (locs ++ L) lsA g1 g2 g3 g4 (hR.put z o hat) (fun q hq => (o q (Nat.ne_of_lt (Nat.lt_of_lt_of_le hq ha))).trans (hB q hq)) (fun q hq => ?_) hL
  rcases List.mem_append.mp hq with h1 | h1
  · exact hl q h1
  · show gB E ≤ q.base
    rw [hLb q h1]; exact ha
theorem Wp.push {x : gC} {n pc' : Nat} {st' : List Value} (k : ∀ (p : Program) (e : Env) (R : Room) (s : State) (m : MethodId) (args : Array Value) (below : List Frame) (meth : Method) (c : Code) (H : Heap) (locs : List Loc) (cells slots : Nat) (Qs : State → Prop) (lsA : Array Slot), gCx E M p s m args meth c → gLs M lsA ls →
      gRep E s h H → cells + 1 ≤ R.cells → slots + n ≤ R.slots → (∀ (H1 : Heap), H1.size = H.size + 1 → (∀ q : Nat, q < H.size → H1[q]? = H[q]?) → gAt E s H.size x H1 → W p (gL E) e R s m args below meth c H1 locs (cells + 1) (slots + n) Qs (F0 m pc' lsA st')) → W p (gL E) e R s m args below meth c H locs cells slots Qs (F0 m pc lsA st)) (w : Wp E M pc' ls st' (gPush h x n) Q) : Wp E M pc ls st h Q := by
  obtain ⟨r, h', q, a1, b1, k1⟩ := w
  have a2 : h.2.1 + 1 ≤ h'.2.1 := a1
  have b2 : h.2.2 + n ≤ h'.2.2 := b1
  refine ⟨r, h', q, by omega, by omega, fun p e R s m args below meth c C f1 f2 mc ms cells slots H locs lsA g1 g2 g3 g4 hR hB hl hL => k p e R s m args below meth c H locs cells slots _ lsA C hL hR (by omega) (by omega) (fun H1 z o hat => ?_)⟩
  refine k1 p e R s m args below meth c C f1 f2 mc ms (cells + 1) (slots + n) H1 locs lsA g1 g2 (by show cells + 1 + _ = mc + (h.2.1 + 1); omega) (by show slots + n + _ = ms + (h.2.2 + n); omega) (hR.push z o hat) (fun q hq => (o q ?_).trans (hB q hq)) hl hL
  have := hR.2.1
  rw [hR.1]
  omega
theorem Wp.pureR {pc' : Nat} {st' : List Value} (k : ∀ (p : Program) (e : Env) (R : Room) (s : State) (m : MethodId) (args : Array Value) (below : List Frame) (meth : Method) (c : Code) (H : Heap) (locs : List Loc) (cells slots : Nat) (Qs : State → Prop) (lsA : Array Slot), gFr M ≤ R.frames → gLo M ≤ R.locals → gCx E M p s m args meth c → gLs M lsA ls →
      gRep E s h H → W p (gL E) e R s m args below meth c H locs cells slots Qs (F0 m pc' lsA st') → W p (gL E) e R s m args below meth c H locs cells slots Qs (F0 m pc lsA st)) (w : Wp E M pc' ls st' h Q) : Wp E M pc ls st h Q := by
  obtain ⟨r, h', q, a, b, k1⟩ := w
  exact ⟨r, h', q, a, b, fun p e R s m args below meth c C f1 f2 mc ms cells slots H locs lsA g1 g2 g3 g4 hR hB hl hL => k p e R s m args below meth c H locs cells slots _ lsA f1 f2 C hL hR (k1 p e R s m args below meth c C f1 f2 mc ms cells slots H locs lsA g1 g2 g3 g4 hR hB hl hL)⟩
/-- a field's link in a class: which class of vwCl, which field, its type, whether it is final -/
def gFd (own : String) (cp ci k : Nat) (ty : FieldType) (fin : Bool) : Prop := ∃ (C : String) (T : u_T) (N : Nat) (t0 : Nat → FieldType), vwCl[ci]? = some (C, T, N) ∧ (∀ w ∈ u_ws C T N, w ∈ lw_gd) ∧ (∀ k, k < N → parseFieldDescriptor (T k).2.2.1 = some (t0 k)) ∧
  (∀ a, a < N → ∀ b, b < N → a ≠ b → (T a).2.1 ≠ (T b).2.1) ∧ k < N ∧ Cond.fieldLink own cp (T k).1 (T k).2.1 (T k).2.2.1 ∈ lw_gd ∧ t0 k = ty ∧ (T k).2.2.2 = fin
theorem gAt.obj {U : State} {a ci : Nat} {fs : List Value} {H : Heap} (hc : gAt E U a (.inl (ci, fs)) H) : va_P (gD E) vwCl [(a, .inr (ci, fs))] H := by
  obtain ⟨r, h1, h2, h3⟩ := hc
  intro k q hq
  match k, hq with
  | 0, hq => cases hq; exact ⟨r, h1, h3⟩
  | k + 1, hq => simp at hq
theorem wp_getfield {cp ci k a : Nat} {ty : FieldType} {fin : Bool} {fs : List Value} {v : Value} (hd : gDec M pc (.getfield cp) 3) (hf : gFd (gY M).cls cp ci k ty fin) (hh : h.1 a = some (.inl (ci, fs))) (hv : fs[k]? = some v) (w : Wp E M (pc + 3) ls (v :: st) h Q) : Wp E M pc ls (.ref a :: st) h Q := by
  obtain ⟨CN, T, N, t0, e1, e2, e3, e4, e5, e6, e7, e8⟩ := hf
  exact Wp.pure (fun p e R s m args below meth c H locs cells slots Qs lsA C _ hR kk => va_get (q0 := 0) C.1 C.2.1 C.2.2.2.2.2.1 e2 C.2.2.2.2.1 C.2.2.2.2.2.2.2.2.2 (hR.2.2 a _ hh).obj rfl e1 k e5 (C.2.2.2.2.2.1 _ e6) (fun _ z => z) hv hd kk) w
theorem wp_putfield {cp ci k a : Nat} {ty : FieldType} {fin : Bool} {fs : List Value} {v : Value} (hd : gDec M pc (.putfield cp) 3) (hf : gFd (gY M).cls cp ci k ty fin) (hh : h.1 a = some (.inl (ci, fs))) (ha : gB E ≤ a) (hn : narrow ty v = v) (hfit : fits ty v = true) (hfin : fin = false ∨ ((gY M).name = "<init>" ∧ ∀ q, vwCl[ci]? = some q → (q.2.1 k).1 = (gY M).cls))
    (w : Wp E M (pc + 3) ls st (gPut h a (.inl (ci, fs.set k v))) Q) : Wp E M pc ls (v :: .ref a :: st) h Q := by
  obtain ⟨CN, T, N, t0, e1, e2, e3, e4, e5, e6, e7, e8⟩ := hf
  refine Wp.put ha (fun p e R s m args below meth c H locs cells slots Qs lsA _ _ C _ hR kk => ?_) w
  obtain ⟨hx, hb, -, -, hown, hts, -, -, hname, hK⟩ := C
  have hap := va_apart (own := (gY M).cls) hts e2 t0 e3 e4 hK e1
  obtain ⟨r, h1, hlen, cell, q1, q2, q3, q4⟩ := hR.2.2 a _ hh
  have hr : r = (CN, T, N) := Option.some.inj (h1.symm.trans e1)
  subst hr
  obtain ⟨hS, hfc, kC, hkC, hkind⟩ := hK.1 ci _ e1
  obtain ⟨cf, kf, fi, f, hi, hsl⟩ := hS k e5
  have hlay := hts _ (e2 _ (u_in_lay e5))
  have hst := (u_facts hfc hkC (u_lays hts e2 e5) hi).1
  have hkl : k < fs.length := by rw [hlen]; exact e5
  have hty : parseFieldDescriptor (T k).2.2.1 = some ty := by rw [← e7]; exact e3 k e5
  have done : ∀ H' : Heap, H'[a]? = some (cell.setSlot f.slot v) → H'.size = H.size → (∀ q, q ≠ a → H'[q]? = H[q]?) → W p (gL E) e R s m args below meth c H' (locs ++ [⟨a, f.slot⟩]) cells slots Qs (F0 m (pc + 3) lsA st) := by
    intro H' i1 i2 i3
    rw [hsl] at i1
    refine kk H' _ i2 i3 ⟨_, e1, ?_, ?_⟩ (fun q hq => by rw [List.mem_singleton.mp hq])
    · rw [List.length_set]; exact hlen
    · exact t_OB.to (V := updV (vp_V fs) k v) ⟨_, i1, q2, q3, t_set q4 hap e5 v⟩ (fun j _ => vp_updV_set hkl v j)
  unfold u_lay at hlay
  cases fin with
  | false =>
    rw [if_neg (by rw [e8]; decide)] at hlay
    have h6 := u_store hfc hkC hkind hlay hi hty hn hfit
    exact W.putK hx hb (f := f) ⟨hown, hts _ e6, ⟨_, _, _, hi⟩, hst⟩ (by rw [q2]; exact h6) q1 q3 (by rw [hsl]; exact k2_hasslot (q4 k e5)) rfl rfl hd done
  | true =>
    rw [if_pos e8] at hlay
    obtain ⟨hin, hdecl0⟩ := hfin.resolve_left (by decide)
    have hdecl : (T k).1 = (gY M).cls := hdecl0 _ e1
    have hcf : m.cls = cf := by
      obtain ⟨_, _, c', _, _, _, -, -, hf', -, -, -, hown2, -⟩ := Cond.laysFinal_spec hlay
      have e1 : c' = cf := by have := hi.symm.trans hf'; simp at this; exact this.1.symm
      rw [hdecl] at hown2
      rw [← e1]; exact Option.some.inj (hown.symm.trans hown2)
    have h6 := u_fits hfc hkC hkind (Or.inr hlay) hi hty hn hfit
    exact W.putFinK hx hb hown (hts _ e6) hi hst hcf (hname.trans hin) (by rw [q2]; exact h6) q1 q3 (by rw [hsl]; exact k2_hasslot (q4 k e5)) rfl rfl hd done
/-- arrays: kinds of E's list -/
theorem gAt.arr {U : State} {a kd n : Nat} {f : Nat → Value} {H : Heap} (hc : gAt E U a (.inr (kd, n, f)) H) (hk : kd < 99) : ∃ q, (gT E)[kd]? = some q ∧ H[a]? = some (arrV q.1 n f) := by
  rcases hc with h | ⟨h0, -⟩
  · exact h
  · exact absurd h0 (Nat.ne_of_lt hk)
def gTy (E : gE) (kd : Nat) (ty : FieldType) : Prop := kd < 99 ∧ ∃ cA, (gT E)[kd]? = some (cA, ty)
theorem wp_iaload {a n : Nat} {f : Nat → Value} {i : Int32} (hd : gDec M pc .iaload 1) (ht : gTy E 0 .int) (hh : h.1 a = some (.inr (0, n, f))) (hin : vp_in i n) (w : Wp E M (pc + 1) ls (f i.toNatClampNeg :: st) h Q) : Wp E M pc ls (.int i :: .ref a :: st) h Q := by
  obtain ⟨cA, ht⟩ := ht.2
  have hlt : i.toNatClampNeg < n := Nat.not_le.mp fun q => hin (Or.inr q)
  refine Wp.pure (fun p e R s m args below meth c H locs cells slots Qs lsA C _ hR kk => ?_) w
  obtain ⟨q, h1, h2⟩ := (hR.2.2 a _ hh).arr (by decide)
  cases h1.symm.trans ht
  exact W.iald (v := f i.toNatClampNeg) C.1 C.2.1 h2 ((C.2.2.2.2.2.2.2.2.2.2 0 _ ht).1 n f) (fun q => by cases q) (by rw [arrV_size]; exact hin) (arrV_read _ _ hlt) rfl rfl hd kk
theorem wp_saload {a n : Nat} {f : Nat → Value} {i : Int32} (hd : gDec M pc .iaload 1) (hh : h.1 a = some (.inr (99, n, f))) (hin : vp_in i n) (hg : (gT E)[99]? = none) (w : Wp E M (pc + 1) ls (f i.toNatClampNeg :: st) h Q) : Wp E M pc ls (.int i :: .ref a :: st) h Q := by
  have hlt : i.toNatClampNeg < n := Nat.not_le.mp fun q => hin (Or.inr q)
  refine Wp.pure (fun p e R s m args below meth c H locs cells slots Qs lsA C _ hR kk => ?_) w
  rcases hR.2.2 a _ hh with ⟨q, h1, -⟩ | ⟨-, scr, h1, h2, h3, h4, h5⟩
  · rw [hg] at h1; cases h1
  · exact W.iald (v := f i.toNatClampNeg) C.1 C.2.1 h1 h2 h3 (by rw [h4]; exact hin) (h5 _ hlt) rfl rfl hd kk
theorem wp_caload {a n : Nat} {f : Nat → Value} {i : Int32} (hd : gDec M pc .caload 1) (ht : gTy E 1 .char) (hh : h.1 a = some (.inr (1, n, f))) (hin : vp_in i n) (w : Wp E M (pc + 1) ls (f i.toNatClampNeg :: st) h Q) : Wp E M pc ls (.int i :: .ref a :: st) h Q := by
  obtain ⟨cA, ht⟩ := ht.2
  have hlt : i.toNatClampNeg < n := Nat.not_le.mp fun q => hin (Or.inr q)
  refine Wp.pure (fun p e R s m args below meth c H locs cells slots Qs lsA C _ hR kk => ?_) w
  obtain ⟨q, h1, h2⟩ := (hR.2.2 a _ hh).arr (by decide)
  cases h1.symm.trans ht
  exact W.cald (v := f i.toNatClampNeg) C.1 C.2.1 h2 ((C.2.2.2.2.2.2.2.2.2.2 1 _ ht).1 n f) (fun q => by cases q) (by rw [arrV_size]; exact hin) (arrV_read _ _ hlt) rfl rfl hd kk
theorem wp_aaload {a n kd : Nat} {cn : String} {f : Nat → Value} {i : Int32} (hd : gDec M pc .aaload 1) (ht : gTy E kd (.object cn)) (hh : h.1 a = some (.inr (kd, n, f))) (hin : vp_in i n) (w : Wp E M (pc + 1) ls (f i.toNatClampNeg :: st) h Q) : Wp E M pc ls (.int i :: .ref a :: st) h Q := by
  obtain ⟨cA, ht'⟩ := ht.2
  have hlt : i.toNatClampNeg < n := Nat.not_le.mp fun q => hin (Or.inr q)
  refine Wp.pure (fun p e R s m args below meth c H locs cells slots Qs lsA C _ hR kk => ?_) w
  obtain ⟨q, h1, h2⟩ := (hR.2.2 a _ hh).arr ht.1
  cases h1.symm.trans ht'
  exact W.aald (v := f i.toNatClampNeg) (ty := .object cn) C.1 C.2.1 h2 ((C.2.2.2.2.2.2.2.2.2.2 kd _ ht').1 n f) rfl (fun q => by cases q) (by rw [arrV_size]; exact hin) (arrV_read _ _ hlt) rfl rfl hd kk
def gUp (f : Nat → Value) (k : Nat) (v : Value) : Nat → Value := fun j => if j = k then v else f j
theorem wp_iastore {a n : Nat} {f : Nat → Value} {i x : Int32} (hd : gDec M pc .iastore 1) (ht : gTy E 0 .int) (hh : h.1 a = some (.inr (0, n, f))) (ha : gB E ≤ a) (hin : vp_in i n) (w : Wp E M (pc + 1) ls st (gPut h a (.inr (0, n, gUp f i.toNatClampNeg (.int x)))) Q) : Wp E M pc ls (.int x :: .int i :: .ref a :: st) h Q := by
  obtain ⟨cA, ht⟩ := ht.2
  refine Wp.put ha (fun p e R s m args below meth c H locs cells slots Qs lsA _ _ C _ hR kk => ?_) w
  obtain ⟨q, h1, h2⟩ := (hR.2.2 a _ hh).arr (by decide)
  cases h1.symm.trans ht
  refine W.iast C.1 C.2.1 h2 ((C.2.2.2.2.2.2.2.2.2.2 0 _ ht).1 n f) (fun q => by cases q) (by rw [arrV_size]; exact hin) rfl rfl hd (fun H1 e1 z o => kk H1 _ z o (Or.inl ⟨_, ht, ?_⟩) (fun q hq => by rw [List.mem_singleton.mp hq]))
  rw [e1, arrV_store]
  rfl
theorem wp_castore {a n : Nat} {f : Nat → Value} {i x : Int32} (hd : gDec M pc .castore 1) (ht : gTy E 1 .char) (hh : h.1 a = some (.inr (1, n, f))) (ha : gB E ≤ a) (hin : vp_in i n) (hx : narrow .char (.int x) = .int x) (w : Wp E M (pc + 1) ls st (gPut h a (.inr (1, n, gUp f i.toNatClampNeg (.int x)))) Q) : Wp E M pc ls (.int x :: .int i :: .ref a :: st) h Q := by
  obtain ⟨cA, ht⟩ := ht.2
  refine Wp.put ha (fun p e R s m args below meth c H locs cells slots Qs lsA _ _ C _ hR kk => ?_) w
  obtain ⟨q, h1, h2⟩ := (hR.2.2 a _ hh).arr (by decide)
  cases h1.symm.trans ht
  refine W.cast C.1 C.2.1 h2 ((C.2.2.2.2.2.2.2.2.2.2 1 _ ht).1 n f) (fun q => by cases q) (by rw [arrV_size]; exact hin) rfl rfl hd (fun H1 e1 z o => kk H1 _ z o (Or.inl ⟨_, ht, ?_⟩) (fun q hq => by rw [List.mem_singleton.mp hq]))
  rw [e1, hx, arrV_store]
  rfl
theorem wp_aastore {a n kd v ci : Nat} {cn : String} {f : Nat → Value} {fs : List Value} {i : Int32} (hd : gDec M pc .aastore 1) (ht : gTy E kd (.object cn)) (hh : h.1 a = some (.inr (kd, n, f))) (ha : gB E ≤ a) (hv : h.1 v = some (.inl (ci, fs))) (hci : (vwCl[ci]?).map (fun q => q.1) = some cn) (hin : vp_in i n)
    (w : Wp E M (pc + 1) ls st (gPut h a (.inr (kd, n, gUp f i.toNatClampNeg (.ref v)))) Q) : Wp E M pc ls (.ref v :: .int i :: .ref a :: st) h Q := by
  obtain ⟨cA, ht'⟩ := ht.2
  have hlt : i.toNatClampNeg < n := Nat.not_le.mp fun q => hin (Or.inr q)
  have h0 : ¬ i < 0 := fun q => hin (Or.inl q)
  refine Wp.put ha (fun p e R s m args below meth c H locs cells slots Qs lsA _ _ C _ hR kk => ?_) w
  obtain ⟨q, h1, h2⟩ := (hR.2.2 a _ hh).arr ht.1
  cases h1.symm.trans ht'
  obtain ⟨r, hr, -, cellV, g1, g2, g3, -⟩ := hR.2.2 v _ hv
  have hK := C.2.2.2.2.2.2.2.2.2
  have hcn : r.1 = cn := by rw [hr] at hci; exact Option.some.inj hci
  have hcls := (hK.1 ci r hr).2
  rw [hcn] at hcls
  obtain ⟨kA, comp, k1, k2, k3, -⟩ := (hK.2 kd _ ht').2
  have hcomp : comp = (gD E).1 ci := Option.some.inj (k3.symm.trans hcls.1)
  subst hcomp
  obtain ⟨kC, hkC, -⟩ := hcls.2
  refine W.aast C.1 C.2.1 h2 (fun q h => by cases h) (fun h => by cases h) k1 k2 rfl hkC ⟨h0, by rw [arrV_size]; exact hlt⟩ g1 (fun q h => by rw [g3] at h; cases h) (by rw [g2]; exact hkC) (by rw [g2]; exact va_assign hcls) rfl rfl hd (fun H1 e1 z o => kk H1 _ z o (Or.inl ⟨_, ht', ?_⟩) (fun q hq => by rw [List.mem_singleton.mp hq]))
  rw [e1, arrV_store]
  rfl
theorem wp_arraylength {a n kd : Nat} {f : Nat → Value} (hd : gDec M pc .arraylength 1) (hk : kd < 99) (hh : h.1 a = some (.inr (kd, n, f))) (w : Wp E M (pc + 1) ls (.int (Int32.ofNat n) :: st) h Q) : Wp E M pc ls (.ref a :: st) h Q := by
  refine Wp.pure (fun p e R s m args below meth c H locs cells slots Qs lsA C _ hR kk => ?_) w
  obtain ⟨q, h1, h2⟩ := (hR.2.2 a _ hh).arr hk
  exact W.alen (n := Int32.ofNat n) C.1 C.2.1 h2 ((C.2.2.2.2.2.2.2.2.2.2 kd _ h1).1 n f) (by rw [arrV_size] <;> rfl) rfl rfl hd kk
theorem wp_slength {a n : Nat} {f : Nat → Value} (hd : gDec M pc .arraylength 1) (hh : h.1 a = some (.inr (99, n, f))) (hg : (gT E)[99]? = none) (w : Wp E M (pc + 1) ls (.int (Int32.ofNat n) :: st) h Q) : Wp E M pc ls (.ref a :: st) h Q := by
  refine Wp.pure (fun p e R s m args below meth c H locs cells slots Qs lsA C _ hR kk => ?_) w
  rcases hR.2.2 a _ hh with ⟨q, h1, -⟩ | ⟨-, scr, h1, h2, h3, h4, h5⟩
  · rw [hg] at h1; cases h1
  · exact W.alen (n := Int32.ofNat n) C.1 C.2.1 h1 h2 (by rw [h4] <;> rfl) rfl rfl hd kk
-- ----- what is made
def gNw (own : String) (cp ci n : Nat) : Prop := ∃ (C : String) (T : u_T) (t0 : Nat → FieldType), vwCl[ci]? = some (C, T, n) ∧ (∀ w ∈ u_ws C T n, w ∈ lw_gd) ∧ (∀ k, k < n → parseFieldDescriptor (T k).2.2.1 = some (t0 k)) ∧ Cond.classLink own cp C ∈ lw_gd ∧ Cond.instantiable C n ∈ lw_gd ∧ Cond.initialized C ∈ lw_gd
def gNf (ci n : Nat) (fs : List Value) : Prop := fs.length = n ∧ ∀ q, vwCl[ci]? = some q → ∀ j ty, j < n → parseFieldDescriptor (q.2.1 j).2.2.1 = some ty → defaultValue ty = vp_V fs j
theorem wp_new {cp ci n : Nat} {fs : List Value} (hd : gDec M pc (.new cp) 3) (hn : gNw (gY M).cls cp ci n) (hf : gNf ci n fs) (w : Wp E M (pc + 3) ls (.ref h.2.1 :: st) (gPush h (.inl (ci, fs)) n) Q) : Wp E M pc ls st h Q := by
  obtain ⟨CN, T, t0, e1, e2, e3, e4, e5, e6⟩ := hn
  refine Wp.push (fun p e R s m args below meth c H locs cells slots Qs lsA C _ hR r1 r2 kk => ?_) w
  have hK := C.2.2.2.2.2.2.2.2.2
  have hts := C.2.2.2.2.2.1
  have hKn := hK.1 ci _ e1
  refine W.newcK C.1 C.2.1 C.2.2.2.2.1 (hts _ e4) (hts _ e5) (hts _ e6) rfl hd r1 r2 hKn.2.1 rfl fun H1 kC hkC i1 z1 o1 => ?_
  have := kk H1 z1 o1 ⟨_, e1, hf.1, (u_born t0 hts e2 hKn hkC i1 e3).to (fun j hj => hf.2 _ e1 j _ hj (e3 j hj))⟩
  rw [← hR.1] at this
  exact this
theorem wp_newarray {aty : ArrayType} {kd N : Nat} {ty : FieldType} {n : Int32} (hd : gDec M pc (.newarray aty) 2) (hty : newarray.typeOf aty = ty) (ht : gTy E kd ty) (ha : Cond.arrayClass ty ∈ lw_gd) (hra : ∀ C, ty ≠ .object C) (hn : ¬ n < 0) (hN : n.toNatClampNeg = N) (hb : N * componentBytes ty ≤ 536870912)
    (w : Wp E M (pc + 2) ls (.ref h.2.1 :: st) (gPush h (.inr (kd, N, fun _ => defaultValue ty)) N) Q) : Wp E M pc ls (.int n :: st) h Q := by
  subst hty
  obtain ⟨cA, ht'⟩ := ht.2
  refine Wp.push (fun p e R s m args below meth c H locs cells slots Qs lsA C _ hR r1 r2 kk => ?_) w
  have hK := C.2.2.2.2.2.2.2.2.2
  refine va_newaK C.1 C.2.1 (C.2.2.2.2.2.1 _ ha) rfl hd rfl hn hN hb r1 r2 rfl fun H1 cB i1 z1 o1 hAr hNm => ?_
  have hra2 := (hK.2 kd _ ht').2
  have hcB : cB = cA := by
    have h2 : s.vm.findClass ("[" ++ (newarray.typeOf aty).toString) = some cA := by
      revert hra2 hra
      show _ → va_RA s cA (newarray.typeOf aty) → _
      cases aty <;> exact fun _ z => z
    exact Option.some.inj (hNm.symm.trans h2)
  subst hcB
  have := kk H1 z1 o1 (Or.inl ⟨_, ht', i1⟩)
  rw [← hR.1] at this
  exact this
theorem wp_anewarray {cp kd N : Nat} {cn : String} {n : Int32} (hd : gDec M pc (.anewarray cp) 3) (ht : gTy E kd (.object cn)) (hcl : Cond.classLink (gY M).cls cp cn ∈ lw_gd) (hov : Cond.arrayOver (.object cn) ∈ lw_tbl) (hn : ¬ n < 0) (hN : n.toNatClampNeg = N) (hb : N * 4 ≤ 536870912)
    (w : Wp E M (pc + 3) ls (.ref h.2.1 :: st) (gPush h (.inr (kd, N, fun _ => .null)) N) Q) : Wp E M pc ls (.int n :: st) h Q := by
  obtain ⟨cA, ht'⟩ := ht.2
  subst hN
  refine Wp.push (fun p e R s m args below meth c H locs cells slots Qs lsA C _ hR r1 r2 kk => ?_) w
  have hK := C.2.2.2.2.2.2.2.2.2
  refine W.anew C.1 C.2.1 C.2.2.2.2.1 (C.2.2.2.2.2.1 _ hcl) (va_AO.use (C.2.2.2.2.2.2.1 _ hov rfl)) rfl hd rfl hn hb r1 r2 fun cB kA comp f1 f2 f3 f4 => ?_
  obtain ⟨kA', comp', k1, k2, k3, k4⟩ := (hK.2 kd _ ht').2
  have hcB : cB = cA := Option.some.inj (f1.symm.trans k4)
  subst hcB
  have := kk (H.push { cls := cB, slots := Array.replicate n.toNatClampNeg .null, vm := .none }) (by simp) (fun q hq => by rw [Array.getElem?_push, if_neg (Nat.ne_of_lt hq)]) (Or.inl ⟨_, ht', by rw [← arrV_new]; simp⟩)
  rw [← hR.1] at this
  exact this
-- ----- ends
theorem wp_ireturn {v : Int32} {ty : FieldType} (hd : gDec M pc .ireturn 1) (hr : gRt M = some ty) (hn : narrow ty (.int v) = .int v) (hq : Q (some (.int v)) h) : Wp E M pc ls [.int v] h Q := by
  refine ⟨_, h, hq, Nat.le_refl _, Nat.le_refl _, fun p e R s m args below meth c C f1 f2 mc ms cells slots H locs lsA g1 g2 g3 g4 hR hB hl hL => ?_⟩
  obtain rfl : cells = mc := by omega
  obtain rfl : slots = ms := by omega
  exact W.zret C.1 C.2.1 (C.2.2.1.trans hr) hn (fun t ht hW => ⟨rfl, by rw [ht]; exact hR.moved hW.alike, fun q hq => by rw [ht]; exact hB q hq⟩) hl hd C.2.2.2.2.2.2.2.1
theorem wp_return (hd : gDec M pc .return_ 1) (hr : gRt M = none) (hq : Q none h) : Wp E M pc ls [] h Q := by
  refine ⟨_, h, hq, Nat.le_refl _, Nat.le_refl _, fun p e R s m args below meth c C f1 f2 mc ms cells slots H locs lsA g1 g2 g3 g4 hR hB hl hL => ?_⟩
  obtain rfl : cells = mc := by omega
  obtain rfl : slots = ms := by omega
  exact W.vret C.1 C.2.1 (C.2.2.1.trans hr) (fun t ht hW => ⟨rfl, by rw [ht]; exact hR.moved hW.alike, fun q hq => by rw [ht]; exact hB q hq⟩) hl hd C.2.2.2.2.2.2.2.1
theorem wp_areturn {v : Value} {ty : FieldType} (hd : gDec M pc .areturn 1) (hr : gRt M = some ty) (hty : (∃ n, ty = .object n) ∨ ∃ t, ty = .array t) (hv : v = .null ∨ ∃ a, v = .ref a) (hq : Q (some v) h) : Wp E M pc ls [v] h Q := by
  refine ⟨_, h, hq, Nat.le_refl _, Nat.le_refl _, fun p e R s m args below meth c C f1 f2 mc ms cells slots H locs lsA g1 g2 g3 g4 hR hB hl hL => ?_⟩
  obtain rfl : cells = mc := by omega
  obtain rfl : slots = ms := by omega
  exact W.aret C.1 C.2.1 (C.2.2.1.trans hr) hty hv (fun t ht hW => ⟨rfl, by rw [ht]; exact hR.moved hW.alike, fun q hq => by rw [ht]; exact hB q hq⟩) hl hd C.2.2.2.2.2.2.2.1
end GM
end
