-- ===== PART A: goes FIRST, ahead of the names: the tables' words, and 'selects' of the private methods out of them =====
/-- a private method of a class that the tables say can be made, by its rows of tables_1 -/
def lw_okq (q : MethodName × Nat) : Prop := (q.1.cls ≠ "java/lang/invoke/MethodHandle" ∧ q.1.cls ≠ "java/lang/invoke/VarHandle") ∧ Cond.instantiable q.1.cls q.2 ∈ tables_1 ∧ Cond.privateMethod q.1 ∈ tables_1 ∧ Cond.instanceMethod q.1 ∈ tables_1
theorem lw_p0 : lw_okq (⟨"YearTags$Handles", "makeRoom", "(I)V"⟩, 6) := ⟨⟨by decide +kernel, by decide +kernel⟩, List.mem_of_getElem? (i := 29) (by decide +kernel), List.mem_of_getElem? (i := 272) (by decide +kernel), List.mem_of_getElem? (i := 273) (by decide +kernel)⟩
def lw_privs_1 : List (MethodName × Nat) := [(⟨"YearTags$Handles", "makeRoom", "(I)V"⟩, 6)]
theorem lw_r1 : ∀ q ∈ lw_privs_1, lw_okq q := List.forall_mem_cons.mpr ⟨lw_p0, fun _ h => absurd h List.not_mem_nil⟩
def lw_privs : List (MethodName × Nat) := lw_privs_1
def lw_tbl : List Cond := k2_sels lw_privs ++ tables_1
theorem lw_privs_ok : ∀ q ∈ lw_privs, lw_okq q := lw_r1
-- ===== our names =====
def lw_gd : List Cond := lw_tbl.filter goodWord
theorem gIn {w : Cond} (i : Nat) (h : lw_tbl[i]? = some w) (hg : goodWord w = true) : w ∈ lw_gd := List.mem_filter.mpr ⟨List.mem_of_getElem? h, hg⟩
theorem gGood : GoodIn lw_gd lw_gd := fun w h => ⟨h, good_of_word (List.mem_filter.mp h).2⟩
def R_Ha : String := "YearTags$Handles"
def F_Ha : u_T := fun k => match k with
  | 0 => ("YearTags$Handles", "given", "I", false)
  | 1 => ("YearTags$Handles", "handle", "[I", false)
  | 2 => ("YearTags$Handles", "follower", "[I", false)
  | 3 => ("YearTags$Handles", "owner", "[I", false)
  | 4 => ("YearTags$Handles", "end", "[I", false)
  | _ => ("YearTags$Handles", "way", "[I", false)
def t_Ha : Nat → FieldType := fun k => match k with
  | 0 => .int
  | 1 => .array .int
  | 2 => .array .int
  | 3 => .array .int
  | 4 => .array .int
  | _ => .array .int
theorem n_Ha : ∀ a, a < 6 → ∀ b, b < 6 → a ≠ b → (F_Ha a).2.1 ≠ (F_Ha b).2.1 := by decide +kernel
theorem t_Ha_ok : ∀ k, k < 6 → parseFieldDescriptor (F_Ha k).2.2.1 = some (t_Ha k) := by decide +kernel
theorem i_Ha : ∀ w ∈ u_ws R_Ha F_Ha 6, w ∈ lw_gd := fun w h => List.mem_filter.mpr ⟨(by decide +kernel : ∀ w ∈ u_ws R_Ha F_Ha 6, w ∈ lw_tbl) w h, List.all_eq_true.mp (by decide +kernel : (u_ws R_Ha F_Ha 6).all goodWord = true) w h⟩
def R_Hi : String := "YearTags$History"
def F_Hi : u_T := fun k => match k with
  | 0 => ("YearTags$History", "states", "[LYearTags$State;", true)
  | 1 => ("YearTags$History", "newest", "I", false)
  | _ => ("YearTags$History", "size", "I", false)
def t_Hi : Nat → FieldType := fun k => match k with
  | 0 => .array (.object "YearTags$State")
  | 1 => .int
  | _ => .int
theorem n_Hi : ∀ a, a < 3 → ∀ b, b < 3 → a ≠ b → (F_Hi a).2.1 ≠ (F_Hi b).2.1 := by decide +kernel
theorem t_Hi_ok : ∀ k, k < 3 → parseFieldDescriptor (F_Hi k).2.2.1 = some (t_Hi k) := by decide +kernel
theorem i_Hi : ∀ w ∈ u_ws R_Hi F_Hi 3, w ∈ lw_gd := fun w h => List.mem_filter.mpr ⟨(by decide +kernel : ∀ w ∈ u_ws R_Hi F_Hi 3, w ∈ lw_tbl) w h, List.all_eq_true.mp (by decide +kernel : (u_ws R_Hi F_Hi 3).all goodWord = true) w h⟩
def R_Ho : String := "YearTags$Hook"
def F_Ho : u_T := fun k => match k with
  | 0 => ("YearTags$Hook", "number", "I", true)
  | 1 => ("YearTags$Hook", "year", "I", false)
  | 2 => ("YearTags$Hook", "isRetired", "Z", false)
  | 3 => ("YearTags$Hook", "timesLeft", "I", false)
  | 4 => ("YearTags$Hook", "leftAt", "I", false)
  | 5 => ("YearTags$Hook", "coat", "I", false)
  | 6 => ("YearTags$Hook", "coatSize", "I", false)
  | _ => ("YearTags$Hook", "coatDay", "I", false)
def t_Ho : Nat → FieldType := fun k => match k with
  | 0 => .int
  | 1 => .int
  | 2 => .boolean
  | 3 => .int
  | 4 => .int
  | 5 => .int
  | 6 => .int
  | _ => .int
theorem n_Ho : ∀ a, a < 8 → ∀ b, b < 8 → a ≠ b → (F_Ho a).2.1 ≠ (F_Ho b).2.1 := by decide +kernel
theorem t_Ho_ok : ∀ k, k < 8 → parseFieldDescriptor (F_Ho k).2.2.1 = some (t_Ho k) := by decide +kernel
theorem i_Ho : ∀ w ∈ u_ws R_Ho F_Ho 8, w ∈ lw_gd := fun w h => List.mem_filter.mpr ⟨(by decide +kernel : ∀ w ∈ u_ws R_Ho F_Ho 8, w ∈ lw_tbl) w h, List.all_eq_true.mp (by decide +kernel : (u_ws R_Ho F_Ho 8).all goodWord = true) w h⟩
def R_Lg : String := "YearTags$Log"
def F_Lg : u_T := fun k => match k with
  | 0 => ("YearTags$Log", "total", "I", false)
  | 1 => ("YearTags$Log", "kinds", "[I", true)
  | 2 => ("YearTags$Log", "handles", "[I", true)
  | 3 => ("YearTags$Log", "days", "[I", true)
  | _ => ("YearTags$Log", "times", "[I", true)
def t_Lg : Nat → FieldType := fun k => match k with
  | 0 => .int
  | 1 => .array .int
  | 2 => .array .int
  | 3 => .array .int
  | _ => .array .int
theorem n_Lg : ∀ a, a < 5 → ∀ b, b < 5 → a ≠ b → (F_Lg a).2.1 ≠ (F_Lg b).2.1 := by decide +kernel
theorem t_Lg_ok : ∀ k, k < 5 → parseFieldDescriptor (F_Lg k).2.2.1 = some (t_Lg k) := by decide +kernel
theorem i_Lg : ∀ w ∈ u_ws R_Lg F_Lg 5, w ∈ lw_gd := fun w h => List.mem_filter.mpr ⟨(by decide +kernel : ∀ w ∈ u_ws R_Lg F_Lg 5, w ∈ lw_tbl) w h, List.all_eq_true.mp (by decide +kernel : (u_ws R_Lg F_Lg 5).all goodWord = true) w h⟩
def R_Rk : String := "YearTags$Rack"
def F_Rk : u_T := fun k => match k with
  | 0 => ("YearTags$Rack", "hooks", "[LYearTags$Hook;", true)
  | 1 => ("YearTags$Rack", "hookCount", "I", false)
  | 2 => ("YearTags$Rack", "size", "I", false)
  | _ => ("YearTags$Rack", "isOpen", "Z", false)
def t_Rk : Nat → FieldType := fun k => match k with
  | 0 => .array (.object "YearTags$Hook")
  | 1 => .int
  | 2 => .int
  | _ => .boolean
theorem n_Rk : ∀ a, a < 4 → ∀ b, b < 4 → a ≠ b → (F_Rk a).2.1 ≠ (F_Rk b).2.1 := by decide +kernel
theorem t_Rk_ok : ∀ k, k < 4 → parseFieldDescriptor (F_Rk k).2.2.1 = some (t_Rk k) := by decide +kernel
theorem i_Rk : ∀ w ∈ u_ws R_Rk F_Rk 4, w ∈ lw_gd := fun w h => List.mem_filter.mpr ⟨(by decide +kernel : ∀ w ∈ u_ws R_Rk F_Rk 4, w ∈ lw_tbl) w h, List.all_eq_true.mp (by decide +kernel : (u_ws R_Rk F_Rk 4).all goodWord = true) w h⟩
def R_St : String := "YearTags$State"
def F_St : u_T := fun k => match k with
  | 0 => ("YearTags$State", "racks", "[LYearTags$Rack;", true)
  | 1 => ("YearTags$State", "rackCount", "I", false)
  | 2 => ("YearTags$State", "handles", "LYearTags$Handles;", true)
  | 3 => ("YearTags$State", "log", "LYearTags$Log;", true)
  | 4 => ("YearTags$State", "settings", "[I", true)
  | 5 => ("YearTags$State", "takenFor", "[I", true)
  | 6 => ("YearTags$State", "day", "I", false)
  | 7 => ("YearTags$State", "earned", "I", false)
  | _ => ("YearTags$State", "departures", "I", false)
def t_St : Nat → FieldType := fun k => match k with
  | 0 => .array (.object "YearTags$Rack")
  | 1 => .int
  | 2 => .object "YearTags$Handles"
  | 3 => .object "YearTags$Log"
  | 4 => .array .int
  | 5 => .array .int
  | 6 => .int
  | 7 => .int
  | _ => .int
theorem n_St : ∀ a, a < 9 → ∀ b, b < 9 → a ≠ b → (F_St a).2.1 ≠ (F_St b).2.1 := by decide +kernel
theorem t_St_ok : ∀ k, k < 9 → parseFieldDescriptor (F_St k).2.2.1 = some (t_St k) := by decide +kernel
theorem i_St : ∀ w ∈ u_ws R_St F_St 9, w ∈ lw_gd := fun w h => List.mem_filter.mpr ⟨(by decide +kernel : ∀ w ∈ u_ws R_St F_St 9, w ∈ lw_tbl) w h, List.all_eq_true.mp (by decide +kernel : (u_ws R_St F_St 9).all goodWord = true) w h⟩
def R_Tx : String := "YearTags$TagText"
def F_Tx : u_T := fun k => match k with
  | 0 => ("YearTags$TagText", "characters", "[C", true)
  | 1 => ("YearTags$TagText", "length", "I", false)
  | 2 => ("YearTags$TagText", "tags", "[I", true)
  | _ => ("YearTags$TagText", "tagCount", "I", false)
def t_Tx : Nat → FieldType := fun k => match k with
  | 0 => .array .char
  | 1 => .int
  | 2 => .array .int
  | _ => .int
theorem n_Tx : ∀ a, a < 4 → ∀ b, b < 4 → a ≠ b → (F_Tx a).2.1 ≠ (F_Tx b).2.1 := by decide +kernel
theorem t_Tx_ok : ∀ k, k < 4 → parseFieldDescriptor (F_Tx k).2.2.1 = some (t_Tx k) := by decide +kernel
theorem i_Tx : ∀ w ∈ u_ws R_Tx F_Tx 4, w ∈ lw_gd := fun w h => List.mem_filter.mpr ⟨(by decide +kernel : ∀ w ∈ u_ws R_Tx F_Tx 4, w ∈ lw_tbl) w h, List.all_eq_true.mp (by decide +kernel : (u_ws R_Tx F_Tx 4).all goodWord = true) w h⟩
def R_Yt : String := "YearTags"
def F_Yt : u_T := fun k => match k with
  | 0 => ("YearTags", "now", "LYearTags$State;", true)
  | 1 => ("YearTags", "snapshot", "LYearTags$State;", true)
  | 2 => ("YearTags", "hasSnapshot", "Z", false)
  | 3 => ("YearTags", "history", "LYearTags$History;", true)
  | 4 => ("YearTags", "text", "LYearTags$TagText;", true)
  | _ => ("YearTags", "claimedPlaces", "[I", true)
def t_Yt : Nat → FieldType := fun k => match k with
  | 0 => .object "YearTags$State"
  | 1 => .object "YearTags$State"
  | 2 => .boolean
  | 3 => .object "YearTags$History"
  | 4 => .object "YearTags$TagText"
  | _ => .array .int
theorem n_Yt : ∀ a, a < 6 → ∀ b, b < 6 → a ≠ b → (F_Yt a).2.1 ≠ (F_Yt b).2.1 := by decide +kernel
theorem t_Yt_ok : ∀ k, k < 6 → parseFieldDescriptor (F_Yt k).2.2.1 = some (t_Yt k) := by decide +kernel
theorem i_Yt : ∀ w ∈ u_ws R_Yt F_Yt 6, w ∈ lw_gd := fun w h => List.mem_filter.mpr ⟨(by decide +kernel : ∀ w ∈ u_ws R_Yt F_Yt 6, w ∈ lw_tbl) w h, List.all_eq_true.mp (by decide +kernel : (u_ws R_Yt F_Yt 6).all goodWord = true) w h⟩
abbrev vwCl : List vw_C := [(R_Ha, F_Ha, 6), (R_Hi, F_Hi, 3), (R_Ho, F_Ho, 8), (R_Lg, F_Lg, 5), (R_Rk, F_Rk, 4), (R_St, F_St, 9), (R_Tx, F_Tx, 4), (R_Yt, F_Yt, 6)]
