-- ===== PART A: goes FIRST, ahead of the names: the tables' words, and 'selects' of the private methods out of them =====
/-- a private method of a class that the tables say can be made, by its rows of tables_1 -/
def lw_okq (q : MethodName × Nat) : Prop := (q.1.cls ≠ "java/lang/invoke/MethodHandle" ∧ q.1.cls ≠ "java/lang/invoke/VarHandle") ∧ Cond.instantiable q.1.cls q.2 ∈ tables_1 ∧ Cond.privateMethod q.1 ∈ tables_1 ∧ Cond.instanceMethod q.1 ∈ tables_1
theorem lw_p0 : lw_okq (⟨"YearTags$Handles", "makeRoom", "(I)V"⟩, 6) := ⟨⟨by decide +kernel, by decide +kernel⟩, List.mem_of_getElem? (i := 30) (by decide +kernel), List.mem_of_getElem? (i := 275) (by decide +kernel), List.mem_of_getElem? (i := 276) (by decide +kernel)⟩
theorem lw_p1 : lw_okq (⟨"YearTags$TagText", "addTag", "(I)V"⟩, 4) := ⟨⟨by decide +kernel, by decide +kernel⟩, List.mem_of_getElem? (i := 203) (by decide +kernel), List.mem_of_getElem? (i := 557) (by decide +kernel), List.mem_of_getElem? (i := 558) (by decide +kernel)⟩
theorem lw_p2 : lw_okq (⟨"YearTags", "findClaimedPlaces", "()I"⟩, 6) := ⟨⟨by decide +kernel, by decide +kernel⟩, List.mem_of_getElem? (i := 14) (by decide +kernel), List.mem_of_getElem? (i := 567) (by decide +kernel), List.mem_of_getElem? (i := 568) (by decide +kernel)⟩
theorem lw_p3 : lw_okq (⟨"YearTags", "isClaimedBefore", "(II)Z"⟩, 6) := ⟨⟨by decide +kernel, by decide +kernel⟩, List.mem_of_getElem? (i := 14) (by decide +kernel), List.mem_of_getElem? (i := 571) (by decide +kernel), List.mem_of_getElem? (i := 572) (by decide +kernel)⟩
theorem lw_p4 : lw_okq (⟨"YearTagsModel", "copy", "(II)V"⟩, 5) := ⟨⟨by decide +kernel, by decide +kernel⟩, List.mem_of_getElem? (i := 668) (by decide +kernel), List.mem_of_getElem? (i := 695) (by decide +kernel), List.mem_of_getElem? (i := 696) (by decide +kernel)⟩
theorem lw_p5 : lw_okq (⟨"YearTagsModel", "coats", "()I"⟩, 5) := ⟨⟨by decide +kernel, by decide +kernel⟩, List.mem_of_getElem? (i := 668) (by decide +kernel), List.mem_of_getElem? (i := 704) (by decide +kernel), List.mem_of_getElem? (i := 705) (by decide +kernel)⟩
theorem lw_p6 : lw_okq (⟨"YearTagsModel", "record", "(I)V"⟩, 5) := ⟨⟨by decide +kernel, by decide +kernel⟩, List.mem_of_getElem? (i := 668) (by decide +kernel), List.mem_of_getElem? (i := 715) (by decide +kernel), List.mem_of_getElem? (i := 716) (by decide +kernel)⟩
theorem lw_p7 : lw_okq (⟨"YearTagsModel", "isRack", "(I)Z"⟩, 5) := ⟨⟨by decide +kernel, by decide +kernel⟩, List.mem_of_getElem? (i := 668) (by decide +kernel), List.mem_of_getElem? (i := 733) (by decide +kernel), List.mem_of_getElem? (i := 734) (by decide +kernel)⟩
theorem lw_p8 : lw_okq (⟨"YearTagsModel", "coatsOn", "(I)I"⟩, 5) := ⟨⟨by decide +kernel, by decide +kernel⟩, List.mem_of_getElem? (i := 668) (by decide +kernel), List.mem_of_getElem? (i := 737) (by decide +kernel), List.mem_of_getElem? (i := 738) (by decide +kernel)⟩
theorem lw_p9 : lw_okq (⟨"YearTagsModel", "isHook", "(I)Z"⟩, 5) := ⟨⟨by decide +kernel, by decide +kernel⟩, List.mem_of_getElem? (i := 668) (by decide +kernel), List.mem_of_getElem? (i := 745) (by decide +kernel), List.mem_of_getElem? (i := 746) (by decide +kernel)⟩
theorem lw_p10 : lw_okq (⟨"YearTagsModel", "holds", "(I)Z"⟩, 5) := ⟨⟨by decide +kernel, by decide +kernel⟩, List.mem_of_getElem? (i := 668) (by decide +kernel), List.mem_of_getElem? (i := 749) (by decide +kernel), List.mem_of_getElem? (i := 750) (by decide +kernel)⟩
theorem lw_p11 : lw_okq (⟨"YearTagsModel", "hookFor", "(I)I"⟩, 5) := ⟨⟨by decide +kernel, by decide +kernel⟩, List.mem_of_getElem? (i := 668) (by decide +kernel), List.mem_of_getElem? (i := 764) (by decide +kernel), List.mem_of_getElem? (i := 765) (by decide +kernel)⟩
theorem lw_p12 : lw_okq (⟨"YearTagsModel", "isFree", "(II)Z"⟩, 5) := ⟨⟨by decide +kernel, by decide +kernel⟩, List.mem_of_getElem? (i := 668) (by decide +kernel), List.mem_of_getElem? (i := 768) (by decide +kernel), List.mem_of_getElem? (i := 769) (by decide +kernel)⟩
theorem lw_p13 : lw_okq (⟨"YearTagsModel", "rankOf", "(I)I"⟩, 5) := ⟨⟨by decide +kernel, by decide +kernel⟩, List.mem_of_getElem? (i := 668) (by decide +kernel), List.mem_of_getElem? (i := 772) (by decide +kernel), List.mem_of_getElem? (i := 773) (by decide +kernel)⟩
theorem lw_p14 : lw_okq (⟨"YearTagsModel", "hang", "(IIII)I"⟩, 5) := ⟨⟨by decide +kernel, by decide +kernel⟩, List.mem_of_getElem? (i := 668) (by decide +kernel), List.mem_of_getElem? (i := 776) (by decide +kernel), List.mem_of_getElem? (i := 777) (by decide +kernel)⟩
theorem lw_p15 : lw_okq (⟨"YearTagsModel", "handleOn", "(I)I"⟩, 5) := ⟨⟨by decide +kernel, by decide +kernel⟩, List.mem_of_getElem? (i := 668) (by decide +kernel), List.mem_of_getElem? (i := 780) (by decide +kernel), List.mem_of_getElem? (i := 781) (by decide +kernel)⟩
def lw_privs_1 : List (MethodName × Nat) := [(⟨"YearTags$Handles", "makeRoom", "(I)V"⟩, 6), (⟨"YearTags$TagText", "addTag", "(I)V"⟩, 4), (⟨"YearTags", "findClaimedPlaces", "()I"⟩, 6), (⟨"YearTags", "isClaimedBefore", "(II)Z"⟩, 6), (⟨"YearTagsModel", "copy", "(II)V"⟩, 5), (⟨"YearTagsModel", "coats", "()I"⟩, 5), (⟨"YearTagsModel", "record", "(I)V"⟩, 5), (⟨"YearTagsModel", "isRack", "(I)Z"⟩, 5), (⟨"YearTagsModel", "coatsOn", "(I)I"⟩, 5), (⟨"YearTagsModel", "isHook", "(I)Z"⟩, 5), (⟨"YearTagsModel", "holds", "(I)Z"⟩, 5), (⟨"YearTagsModel", "hookFor", "(I)I"⟩, 5), (⟨"YearTagsModel", "isFree", "(II)Z"⟩, 5), (⟨"YearTagsModel", "rankOf", "(I)I"⟩, 5), (⟨"YearTagsModel", "hang", "(IIII)I"⟩, 5), (⟨"YearTagsModel", "handleOn", "(I)I"⟩, 5)]
theorem lw_r1 : ∀ q ∈ lw_privs_1, lw_okq q := List.forall_mem_cons.mpr ⟨lw_p0, List.forall_mem_cons.mpr ⟨lw_p1, List.forall_mem_cons.mpr ⟨lw_p2, List.forall_mem_cons.mpr ⟨lw_p3, List.forall_mem_cons.mpr ⟨lw_p4, List.forall_mem_cons.mpr ⟨lw_p5, List.forall_mem_cons.mpr ⟨lw_p6, List.forall_mem_cons.mpr ⟨lw_p7, List.forall_mem_cons.mpr ⟨lw_p8, List.forall_mem_cons.mpr ⟨lw_p9, List.forall_mem_cons.mpr ⟨lw_p10, List.forall_mem_cons.mpr ⟨lw_p11, List.forall_mem_cons.mpr ⟨lw_p12, List.forall_mem_cons.mpr ⟨lw_p13, List.forall_mem_cons.mpr ⟨lw_p14, List.forall_mem_cons.mpr ⟨lw_p15, fun _ h => absurd h List.not_mem_nil⟩⟩⟩⟩⟩⟩⟩⟩⟩⟩⟩⟩⟩⟩⟩⟩
theorem lw_p16 : lw_okq (⟨"YearTagsModel", "log", "(II)V"⟩, 5) := ⟨⟨by decide +kernel, by decide +kernel⟩, List.mem_of_getElem? (i := 668) (by decide +kernel), List.mem_of_getElem? (i := 784) (by decide +kernel), List.mem_of_getElem? (i := 785) (by decide +kernel)⟩
theorem lw_p17 : lw_okq (⟨"YearTagsModel", "noTag", "(I)I"⟩, 5) := ⟨⟨by decide +kernel, by decide +kernel⟩, List.mem_of_getElem? (i := 668) (by decide +kernel), List.mem_of_getElem? (i := 795) (by decide +kernel), List.mem_of_getElem? (i := 796) (by decide +kernel)⟩
theorem lw_p18 : lw_okq (⟨"YearTagsModel", "isGiven", "(I)Z"⟩, 5) := ⟨⟨by decide +kernel, by decide +kernel⟩, List.mem_of_getElem? (i := 668) (by decide +kernel), List.mem_of_getElem? (i := 803) (by decide +kernel), List.mem_of_getElem? (i := 804) (by decide +kernel)⟩
theorem lw_p19 : lw_okq (⟨"YearTagsModel", "lastOf", "(I)I"⟩, 5) := ⟨⟨by decide +kernel, by decide +kernel⟩, List.mem_of_getElem? (i := 668) (by decide +kernel), List.mem_of_getElem? (i := 807) (by decide +kernel), List.mem_of_getElem? (i := 808) (by decide +kernel)⟩
theorem lw_p20 : lw_okq (⟨"YearTagsModel", "follows", "(I)I"⟩, 5) := ⟨⟨by decide +kernel, by decide +kernel⟩, List.mem_of_getElem? (i := 668) (by decide +kernel), List.mem_of_getElem? (i := 811) (by decide +kernel), List.mem_of_getElem? (i := 812) (by decide +kernel)⟩
theorem lw_p21 : lw_okq (⟨"YearTagsModel", "endOf", "(I)I"⟩, 5) := ⟨⟨by decide +kernel, by decide +kernel⟩, List.mem_of_getElem? (i := 668) (by decide +kernel), List.mem_of_getElem? (i := 815) (by decide +kernel), List.mem_of_getElem? (i := 816) (by decide +kernel)⟩
theorem lw_p22 : lw_okq (⟨"YearTagsModel", "doClaim", "(I)I"⟩, 5) := ⟨⟨by decide +kernel, by decide +kernel⟩, List.mem_of_getElem? (i := 668) (by decide +kernel), List.mem_of_getElem? (i := 819) (by decide +kernel), List.mem_of_getElem? (i := 820) (by decide +kernel)⟩
theorem lw_p23 : lw_okq (⟨"YearTagsModel", "dueOn", "(I)I"⟩, 5) := ⟨⟨by decide +kernel, by decide +kernel⟩, List.mem_of_getElem? (i := 668) (by decide +kernel), List.mem_of_getElem? (i := 826) (by decide +kernel), List.mem_of_getElem? (i := 827) (by decide +kernel)⟩
theorem lw_p24 : lw_okq (⟨"YearTagsModel", "end", "(III)V"⟩, 5) := ⟨⟨by decide +kernel, by decide +kernel⟩, List.mem_of_getElem? (i := 668) (by decide +kernel), List.mem_of_getElem? (i := 830) (by decide +kernel), List.mem_of_getElem? (i := 831) (by decide +kernel)⟩
theorem lw_p25 : lw_okq (⟨"YearTagsModel", "leave", "(I)V"⟩, 5) := ⟨⟨by decide +kernel, by decide +kernel⟩, List.mem_of_getElem? (i := 668) (by decide +kernel), List.mem_of_getElem? (i := 834) (by decide +kernel), List.mem_of_getElem? (i := 835) (by decide +kernel)⟩
theorem lw_p26 : lw_okq (⟨"YearTagsModel", "doMove", "(II)I"⟩, 5) := ⟨⟨by decide +kernel, by decide +kernel⟩, List.mem_of_getElem? (i := 668) (by decide +kernel), List.mem_of_getElem? (i := 846) (by decide +kernel), List.mem_of_getElem? (i := 847) (by decide +kernel)⟩
theorem lw_p27 : lw_okq (⟨"YearTagsModel", "moveOn", "(II)Z"⟩, 5) := ⟨⟨by decide +kernel, by decide +kernel⟩, List.mem_of_getElem? (i := 668) (by decide +kernel), List.mem_of_getElem? (i := 855) (by decide +kernel), List.mem_of_getElem? (i := 856) (by decide +kernel)⟩
theorem lw_p28 : lw_okq (⟨"YearTagsModel", "freeOn", "(II)I"⟩, 5) := ⟨⟨by decide +kernel, by decide +kernel⟩, List.mem_of_getElem? (i := 668) (by decide +kernel), List.mem_of_getElem? (i := 859) (by decide +kernel), List.mem_of_getElem? (i := 860) (by decide +kernel)⟩
theorem lw_p29 : lw_okq (⟨"YearTagsModel", "wayOf", "(I)I"⟩, 5) := ⟨⟨by decide +kernel, by decide +kernel⟩, List.mem_of_getElem? (i := 668) (by decide +kernel), List.mem_of_getElem? (i := 867) (by decide +kernel), List.mem_of_getElem? (i := 868) (by decide +kernel)⟩
theorem lw_p30 : lw_okq (⟨"YearTagsModel", "passDay", "()I"⟩, 5) := ⟨⟨by decide +kernel, by decide +kernel⟩, List.mem_of_getElem? (i := 668) (by decide +kernel), List.mem_of_getElem? (i := 875) (by decide +kernel), List.mem_of_getElem? (i := 876) (by decide +kernel)⟩
theorem lw_p31 : lw_okq (⟨"YearTagsModel", "faultOf", "()I"⟩, 5) := ⟨⟨by decide +kernel, by decide +kernel⟩, List.mem_of_getElem? (i := 668) (by decide +kernel), List.mem_of_getElem? (i := 891) (by decide +kernel), List.mem_of_getElem? (i := 892) (by decide +kernel)⟩
def lw_privs_2 : List (MethodName × Nat) := [(⟨"YearTagsModel", "log", "(II)V"⟩, 5), (⟨"YearTagsModel", "noTag", "(I)I"⟩, 5), (⟨"YearTagsModel", "isGiven", "(I)Z"⟩, 5), (⟨"YearTagsModel", "lastOf", "(I)I"⟩, 5), (⟨"YearTagsModel", "follows", "(I)I"⟩, 5), (⟨"YearTagsModel", "endOf", "(I)I"⟩, 5), (⟨"YearTagsModel", "doClaim", "(I)I"⟩, 5), (⟨"YearTagsModel", "dueOn", "(I)I"⟩, 5), (⟨"YearTagsModel", "end", "(III)V"⟩, 5), (⟨"YearTagsModel", "leave", "(I)V"⟩, 5), (⟨"YearTagsModel", "doMove", "(II)I"⟩, 5), (⟨"YearTagsModel", "moveOn", "(II)Z"⟩, 5), (⟨"YearTagsModel", "freeOn", "(II)I"⟩, 5), (⟨"YearTagsModel", "wayOf", "(I)I"⟩, 5), (⟨"YearTagsModel", "passDay", "()I"⟩, 5), (⟨"YearTagsModel", "faultOf", "()I"⟩, 5)]
theorem lw_r2 : ∀ q ∈ lw_privs_2, lw_okq q := List.forall_mem_cons.mpr ⟨lw_p16, List.forall_mem_cons.mpr ⟨lw_p17, List.forall_mem_cons.mpr ⟨lw_p18, List.forall_mem_cons.mpr ⟨lw_p19, List.forall_mem_cons.mpr ⟨lw_p20, List.forall_mem_cons.mpr ⟨lw_p21, List.forall_mem_cons.mpr ⟨lw_p22, List.forall_mem_cons.mpr ⟨lw_p23, List.forall_mem_cons.mpr ⟨lw_p24, List.forall_mem_cons.mpr ⟨lw_p25, List.forall_mem_cons.mpr ⟨lw_p26, List.forall_mem_cons.mpr ⟨lw_p27, List.forall_mem_cons.mpr ⟨lw_p28, List.forall_mem_cons.mpr ⟨lw_p29, List.forall_mem_cons.mpr ⟨lw_p30, List.forall_mem_cons.mpr ⟨lw_p31, fun _ h => absurd h List.not_mem_nil⟩⟩⟩⟩⟩⟩⟩⟩⟩⟩⟩⟩⟩⟩⟩⟩
theorem lw_p32 : lw_okq (⟨"YearTagsModel", "claimOn", "()I"⟩, 5) := ⟨⟨by decide +kernel, by decide +kernel⟩, List.mem_of_getElem? (i := 668) (by decide +kernel), List.mem_of_getElem? (i := 895) (by decide +kernel), List.mem_of_getElem? (i := 896) (by decide +kernel)⟩
theorem lw_p33 : lw_okq (⟨"YearTagsModel", "hooks", "()I"⟩, 5) := ⟨⟨by decide +kernel, by decide +kernel⟩, List.mem_of_getElem? (i := 668) (by decide +kernel), List.mem_of_getElem? (i := 935) (by decide +kernel), List.mem_of_getElem? (i := 936) (by decide +kernel)⟩
theorem lw_p34 : lw_okq (⟨"YearTagsModel", "retired", "()I"⟩, 5) := ⟨⟨by decide +kernel, by decide +kernel⟩, List.mem_of_getElem? (i := 668) (by decide +kernel), List.mem_of_getElem? (i := 939) (by decide +kernel), List.mem_of_getElem? (i := 940) (by decide +kernel)⟩
theorem lw_p35 : lw_okq (⟨"YearTagsModel", "greatestWay", "()I"⟩, 5) := ⟨⟨by decide +kernel, by decide +kernel⟩, List.mem_of_getElem? (i := 668) (by decide +kernel), List.mem_of_getElem? (i := 943) (by decide +kernel), List.mem_of_getElem? (i := 944) (by decide +kernel)⟩
def lw_privs_3 : List (MethodName × Nat) := [(⟨"YearTagsModel", "claimOn", "()I"⟩, 5), (⟨"YearTagsModel", "hooks", "()I"⟩, 5), (⟨"YearTagsModel", "retired", "()I"⟩, 5), (⟨"YearTagsModel", "greatestWay", "()I"⟩, 5)]
theorem lw_r3 : ∀ q ∈ lw_privs_3, lw_okq q := List.forall_mem_cons.mpr ⟨lw_p32, List.forall_mem_cons.mpr ⟨lw_p33, List.forall_mem_cons.mpr ⟨lw_p34, List.forall_mem_cons.mpr ⟨lw_p35, fun _ h => absurd h List.not_mem_nil⟩⟩⟩⟩
def lw_privs : List (MethodName × Nat) := lw_privs_1 ++ (lw_privs_2 ++ (lw_privs_3))
def lw_tbl : List Cond := k2_sels lw_privs ++ tables_1
theorem lw_privs_ok : ∀ q ∈ lw_privs, lw_okq q := by
  show ∀ q ∈ lw_privs_1 ++ (lw_privs_2 ++ (lw_privs_3)), lw_okq q
  exact List.forall_mem_append.mpr ⟨lw_r1, List.forall_mem_append.mpr ⟨lw_r2, lw_r3⟩⟩
-- ===== our names =====
def lw_gd : List Cond := lw_tbl.filter goodWord
theorem gIn {w : Cond} (i : Nat) (h : lw_tbl[i]? = some w) (hg : goodWord w = true) : w ∈ lw_gd := List.mem_filter.mpr ⟨List.mem_of_getElem? h, hg⟩
theorem gGood : GoodIn lw_gd lw_gd := fun w h => ⟨h, good_of_word (List.mem_filter.mp h).2⟩
def R_Ha : String := "YearTags$Handles"
def F_Ha : u_T := fun k => match k with
  | 0 => ("YearTags$Handles", "given", "I", false)
  | 1 => ("YearTags$Handles", "handle", "[I", false)
  | 2 => ("YearTags$Handles", "follower", "[I", false)
  | 3 => ("YearTags$Handles", "owner", "[I", false)
  | 4 => ("YearTags$Handles", "end", "[I", false)
  | _ => ("YearTags$Handles", "way", "[I", false)
def t_Ha : Nat → FieldType := fun k => match k with
  | 0 => .int
  | 1 => .array .int
  | 2 => .array .int
  | 3 => .array .int
  | 4 => .array .int
  | _ => .array .int
theorem n_Ha : ∀ a, a < 6 → ∀ b, b < 6 → a ≠ b → (F_Ha a).2.1 ≠ (F_Ha b).2.1 := by decide +kernel
theorem t_Ha_ok : ∀ k, k < 6 → parseFieldDescriptor (F_Ha k).2.2.1 = some (t_Ha k) := by decide +kernel
theorem i_Ha : ∀ w ∈ u_ws R_Ha F_Ha 6, w ∈ lw_gd := fun w h => List.mem_filter.mpr ⟨(by decide +kernel : ∀ w ∈ u_ws R_Ha F_Ha 6, w ∈ lw_tbl) w h, List.all_eq_true.mp (by decide +kernel : (u_ws R_Ha F_Ha 6).all goodWord = true) w h⟩
def R_Hi : String := "YearTags$History"
def F_Hi : u_T := fun k => match k with
  | 0 => ("YearTags$History", "states", "[LYearTags$State;", true)
  | 1 => ("YearTags$History", "newest", "I", false)
  | _ => ("YearTags$History", "size", "I", false)
def t_Hi : Nat → FieldType := fun k => match k with
  | 0 => .array (.object "YearTags$State")
  | 1 => .int
  | _ => .int
theorem n_Hi : ∀ a, a < 3 → ∀ b, b < 3 → a ≠ b → (F_Hi a).2.1 ≠ (F_Hi b).2.1 := by decide +kernel
theorem t_Hi_ok : ∀ k, k < 3 → parseFieldDescriptor (F_Hi k).2.2.1 = some (t_Hi k) := by decide +kernel
theorem i_Hi : ∀ w ∈ u_ws R_Hi F_Hi 3, w ∈ lw_gd := fun w h => List.mem_filter.mpr ⟨(by decide +kernel : ∀ w ∈ u_ws R_Hi F_Hi 3, w ∈ lw_tbl) w h, List.all_eq_true.mp (by decide +kernel : (u_ws R_Hi F_Hi 3).all goodWord = true) w h⟩
def R_Ho : String := "YearTags$Hook"
def F_Ho : u_T := fun k => match k with
  | 0 => ("YearTags$Hook", "number", "I", true)
  | 1 => ("YearTags$Hook", "year", "I", false)
  | 2 => ("YearTags$Hook", "isRetired", "Z", false)
  | 3 => ("YearTags$Hook", "timesLeft", "I", false)
  | 4 => ("YearTags$Hook", "leftAt", "I", false)
  | 5 => ("YearTags$Hook", "coat", "I", false)
  | 6 => ("YearTags$Hook", "coatSize", "I", false)
  | _ => ("YearTags$Hook", "coatDay", "I", false)
def t_Ho : Nat → FieldType := fun k => match k with
  | 0 => .int
  | 1 => .int
  | 2 => .boolean
  | 3 => .int
  | 4 => .int
  | 5 => .int
  | 6 => .int
  | _ => .int
theorem n_Ho : ∀ a, a < 8 → ∀ b, b < 8 → a ≠ b → (F_Ho a).2.1 ≠ (F_Ho b).2.1 := by decide +kernel
theorem t_Ho_ok : ∀ k, k < 8 → parseFieldDescriptor (F_Ho k).2.2.1 = some (t_Ho k) := by decide +kernel
theorem i_Ho : ∀ w ∈ u_ws R_Ho F_Ho 8, w ∈ lw_gd := fun w h => List.mem_filter.mpr ⟨(by decide +kernel : ∀ w ∈ u_ws R_Ho F_Ho 8, w ∈ lw_tbl) w h, List.all_eq_true.mp (by decide +kernel : (u_ws R_Ho F_Ho 8).all goodWord = true) w h⟩
def R_Lg : String := "YearTags$Log"
def F_Lg : u_T := fun k => match k with
  | 0 => ("YearTags$Log", "total", "I", false)
  | 1 => ("YearTags$Log", "kinds", "[I", true)
  | 2 => ("YearTags$Log", "handles", "[I", true)
  | 3 => ("YearTags$Log", "days", "[I", true)
  | _ => ("YearTags$Log", "times", "[I", true)
def t_Lg : Nat → FieldType := fun k => match k with
  | 0 => .int
  | 1 => .array .int
  | 2 => .array .int
  | 3 => .array .int
  | _ => .array .int
theorem n_Lg : ∀ a, a < 5 → ∀ b, b < 5 → a ≠ b → (F_Lg a).2.1 ≠ (F_Lg b).2.1 := by decide +kernel
theorem t_Lg_ok : ∀ k, k < 5 → parseFieldDescriptor (F_Lg k).2.2.1 = some (t_Lg k) := by decide +kernel
theorem i_Lg : ∀ w ∈ u_ws R_Lg F_Lg 5, w ∈ lw_gd := fun w h => List.mem_filter.mpr ⟨(by decide +kernel : ∀ w ∈ u_ws R_Lg F_Lg 5, w ∈ lw_tbl) w h, List.all_eq_true.mp (by decide +kernel : (u_ws R_Lg F_Lg 5).all goodWord = true) w h⟩
def R_Rk : String := "YearTags$Rack"
def F_Rk : u_T := fun k => match k with
  | 0 => ("YearTags$Rack", "hooks", "[LYearTags$Hook;", true)
  | 1 => ("YearTags$Rack", "hookCount", "I", false)
  | 2 => ("YearTags$Rack", "size", "I", false)
  | _ => ("YearTags$Rack", "isOpen", "Z", false)
def t_Rk : Nat → FieldType := fun k => match k with
  | 0 => .array (.object "YearTags$Hook")
  | 1 => .int
  | 2 => .int
  | _ => .boolean
theorem n_Rk : ∀ a, a < 4 → ∀ b, b < 4 → a ≠ b → (F_Rk a).2.1 ≠ (F_Rk b).2.1 := by decide +kernel
theorem t_Rk_ok : ∀ k, k < 4 → parseFieldDescriptor (F_Rk k).2.2.1 = some (t_Rk k) := by decide +kernel
theorem i_Rk : ∀ w ∈ u_ws R_Rk F_Rk 4, w ∈ lw_gd := fun w h => List.mem_filter.mpr ⟨(by decide +kernel : ∀ w ∈ u_ws R_Rk F_Rk 4, w ∈ lw_tbl) w h, List.all_eq_true.mp (by decide +kernel : (u_ws R_Rk F_Rk 4).all goodWord = true) w h⟩
def R_St : String := "YearTags$State"
def F_St : u_T := fun k => match k with
  | 0 => ("YearTags$State", "racks", "[LYearTags$Rack;", true)
  | 1 => ("YearTags$State", "rackCount", "I", false)
  | 2 => ("YearTags$State", "handles", "LYearTags$Handles;", true)
  | 3 => ("YearTags$State", "log", "LYearTags$Log;", true)
  | 4 => ("YearTags$State", "settings", "[I", true)
  | 5 => ("YearTags$State", "takenFor", "[I", true)
  | 6 => ("YearTags$State", "day", "I", false)
  | 7 => ("YearTags$State", "earned", "I", false)
  | _ => ("YearTags$State", "departures", "I", false)
def t_St : Nat → FieldType := fun k => match k with
  | 0 => .array (.object "YearTags$Rack")
  | 1 => .int
  | 2 => .object "YearTags$Handles"
  | 3 => .object "YearTags$Log"
  | 4 => .array .int
  | 5 => .array .int
  | 6 => .int
  | 7 => .int
  | _ => .int
theorem n_St : ∀ a, a < 9 → ∀ b, b < 9 → a ≠ b → (F_St a).2.1 ≠ (F_St b).2.1 := by decide +kernel
theorem t_St_ok : ∀ k, k < 9 → parseFieldDescriptor (F_St k).2.2.1 = some (t_St k) := by decide +kernel
theorem i_St : ∀ w ∈ u_ws R_St F_St 9, w ∈ lw_gd := fun w h => List.mem_filter.mpr ⟨(by decide +kernel : ∀ w ∈ u_ws R_St F_St 9, w ∈ lw_tbl) w h, List.all_eq_true.mp (by decide +kernel : (u_ws R_St F_St 9).all goodWord = true) w h⟩
def R_Tx : String := "YearTags$TagText"
def F_Tx : u_T := fun k => match k with
  | 0 => ("YearTags$TagText", "characters", "[C", true)
  | 1 => ("YearTags$TagText", "length", "I", false)
  | 2 => ("YearTags$TagText", "tags", "[I", true)
  | _ => ("YearTags$TagText", "tagCount", "I", false)
def t_Tx : Nat → FieldType := fun k => match k with
  | 0 => .array .char
  | 1 => .int
  | 2 => .array .int
  | _ => .int
theorem n_Tx : ∀ a, a < 4 → ∀ b, b < 4 → a ≠ b → (F_Tx a).2.1 ≠ (F_Tx b).2.1 := by decide +kernel
theorem t_Tx_ok : ∀ k, k < 4 → parseFieldDescriptor (F_Tx k).2.2.1 = some (t_Tx k) := by decide +kernel
theorem i_Tx : ∀ w ∈ u_ws R_Tx F_Tx 4, w ∈ lw_gd := fun w h => List.mem_filter.mpr ⟨(by decide +kernel : ∀ w ∈ u_ws R_Tx F_Tx 4, w ∈ lw_tbl) w h, List.all_eq_true.mp (by decide +kernel : (u_ws R_Tx F_Tx 4).all goodWord = true) w h⟩
def R_Yt : String := "YearTags"
def F_Yt : u_T := fun k => match k with
  | 0 => ("YearTags", "now", "LYearTags$State;", true)
  | 1 => ("YearTags", "snapshot", "LYearTags$State;", true)
  | 2 => ("YearTags", "hasSnapshot", "Z", false)
  | 3 => ("YearTags", "history", "LYearTags$History;", true)
  | 4 => ("YearTags", "text", "LYearTags$TagText;", true)
  | _ => ("YearTags", "claimedPlaces", "[I", true)
def t_Yt : Nat → FieldType := fun k => match k with
  | 0 => .object "YearTags$State"
  | 1 => .object "YearTags$State"
  | 2 => .boolean
  | 3 => .object "YearTags$History"
  | 4 => .object "YearTags$TagText"
  | _ => .array .int
theorem n_Yt : ∀ a, a < 6 → ∀ b, b < 6 → a ≠ b → (F_Yt a).2.1 ≠ (F_Yt b).2.1 := by decide +kernel
theorem t_Yt_ok : ∀ k, k < 6 → parseFieldDescriptor (F_Yt k).2.2.1 = some (t_Yt k) := by decide +kernel
theorem i_Yt : ∀ w ∈ u_ws R_Yt F_Yt 6, w ∈ lw_gd := fun w h => List.mem_filter.mpr ⟨(by decide +kernel : ∀ w ∈ u_ws R_Yt F_Yt 6, w ∈ lw_tbl) w h, List.all_eq_true.mp (by decide +kernel : (u_ws R_Yt F_Yt 6).all goodWord = true) w h⟩
def R_Md : String := "YearTagsModel"
def F_Md : u_T := fun k => match k with
  | 0 => ("YearTagsModel", "row", "[I", true)
  | 1 => ("YearTagsModel", "states", "I", false)
  | 2 => ("YearTagsModel", "isKept", "Z", false)
  | 3 => ("YearTagsModel", "text", "[I", true)
  | _ => ("YearTagsModel", "length", "I", false)
def t_Md : Nat → FieldType := fun k => match k with
  | 0 => .array .int
  | 1 => .int
  | 2 => .boolean
  | 3 => .array .int
  | _ => .int
theorem n_Md : ∀ a, a < 5 → ∀ b, b < 5 → a ≠ b → (F_Md a).2.1 ≠ (F_Md b).2.1 := by decide +kernel
theorem t_Md_ok : ∀ k, k < 5 → parseFieldDescriptor (F_Md k).2.2.1 = some (t_Md k) := by decide +kernel
theorem i_Md : ∀ w ∈ u_ws R_Md F_Md 5, w ∈ lw_gd := fun w h => List.mem_filter.mpr ⟨(by decide +kernel : ∀ w ∈ u_ws R_Md F_Md 5, w ∈ lw_tbl) w h, List.all_eq_true.mp (by decide +kernel : (u_ws R_Md F_Md 5).all goodWord = true) w h⟩
abbrev vwCl : List vw_C := [(R_Ha, F_Ha, 6), (R_Hi, F_Hi, 3), (R_Ho, F_Ho, 8), (R_Lg, F_Lg, 5), (R_Rk, F_Rk, 4), (R_St, F_St, 9), (R_Tx, F_Tx, 4), (R_Yt, F_Yt, 6), (R_Md, F_Md, 5)]
