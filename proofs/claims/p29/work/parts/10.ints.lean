/-! ===== the rules in whole numbers: an int of the machine is zI of an Int ===== -/
abbrev zI (z : Int) : Int32 := Int32.ofInt z
abbrev gR (z : Int) : Prop := -2147483648 ≤ z ∧ z ≤ 2147483647
def bI (p : Prop) [Decidable p] : Int := if p then 1 else 0
theorem zI_toInt {z : Int} (h : gR z) : (zI z).toInt = z := by
  have hs : (Int32.size : Int) = 4294967296 := rfl
  rw [Int32.toInt_ofInt]
  exact Int.bmod_eq_of_le (by have := h.1; omega) (by have := h.2; omega)
theorem zI_of (x : Int32) : x = zI x.toInt := (Int32.ofInt_toInt x).symm
theorem gR_of (x : Int32) : gR x.toInt := ⟨Int32.le_toInt x, Int32.toInt_le x⟩
theorem zI_inj {a b : Int} (ha : gR a) (hb : gR b) (h : zI a = zI b) : a = b := by
  have := congrArg Int32.toInt h
  rwa [zI_toInt ha, zI_toInt hb] at this
theorem zI_eq {a b : Int} (ha : gR a) (hb : gR b) : zI a = zI b ↔ a = b := ⟨zI_inj ha hb, fun h => by rw [h]⟩
theorem zI_lt {a b : Int} (ha : gR a) (hb : gR b) : zI a < zI b ↔ a < b := by
  rw [Int32.lt_iff_toInt_lt, zI_toInt ha, zI_toInt hb]
theorem zI_le {a b : Int} (ha : gR a) (hb : gR b) : zI a ≤ zI b ↔ a ≤ b := by
  rw [Int32.le_iff_toInt_le, zI_toInt ha, zI_toInt hb]
theorem zI_add (a b : Int) : zI a + zI b = zI (a + b) := (Int32.ofInt_add a b).symm
theorem zI_sub (a b : Int) : zI a - zI b = zI (a - b) := (Int32.ofInt_sub a b).symm
theorem zI_mul (a b : Int) : zI a * zI b = zI (a * b) := (Int32.ofInt_mul a b).symm
theorem zI_neg (a : Int) : - zI a = zI (-a) := (Int32.ofInt_neg a).symm
theorem zI_clamp {a : Int} (ha : gR a) : (zI a).toNatClampNeg = a.toNat := by
  show (zI a).toInt.toNat = _
  rw [zI_toInt ha]
theorem zI_zero : (0 : Int32) = zI 0 := rfl
theorem gR0 : gR 0 := ⟨by decide, by decide⟩
theorem zI_div {a b : Int} (h0 : 0 ≤ a) (ha : a ≤ 2147483647) (h1 : 0 < b) (hb : b ≤ 2147483647) : zI a / zI b = zI (a / b) := by
  have ra : gR a := ⟨by omega, ha⟩
  have rb : gR b := ⟨by omega, hb⟩
  have hle : a / b ≤ a := Int.ediv_le_self b h0
  have h2 : 0 ≤ a / b := Int.ediv_nonneg h0 (by omega)
  apply Int32.toInt_inj.mp
  rw [Int32.toInt_div, zI_toInt ra, zI_toInt rb, zI_toInt (z := a / b) ⟨by omega, by omega⟩, Int.tdiv_eq_ediv_of_nonneg h0]
  exact Int.bmod_eq_of_le (by omega) (by omega)
theorem zI_mod {a b : Int} (h0 : 0 ≤ a) (ha : a ≤ 2147483647) (h1 : 0 < b) (hb : b ≤ 2147483647) : zI a % zI b = zI (a % b) := by
  have ra : gR a := ⟨by omega, ha⟩
  have rb : gR b := ⟨by omega, hb⟩
  have h2 : 0 ≤ a % b := Int.emod_nonneg a (by omega)
  have h3 : a % b < b := Int.emod_lt_of_pos a h1
  apply Int32.toInt_inj.mp
  rw [Int32.toInt_mod, zI_toInt ra, zI_toInt rb, zI_toInt (z := a % b) ⟨by omega, by omega⟩, Int.tmod_eq_emod_of_nonneg h0]
theorem zI_vin {i : Int} {n : Nat} (h0 : 0 ≤ i) (h1 : i < n) (hn : n ≤ 2147483647) : vp_in (zI i) n := by
  have hr : gR i := ⟨by omega, by omega⟩
  rintro (h | h)
  · rw [zI_zero, zI_lt hr gR0] at h; omega
  · rw [zI_clamp hr] at h; omega
section GZ
variable {E : gE} {M : gMd} {pc : Nat} {ls : List (Option Value)} {st : List Value} {h : gH} {Q : Option Value → gH → Prop}
theorem zp_bipush {n : Int} (hd : gDec M pc (.bipush n) 2) (hn : (Int8.ofInt n).toInt32 = zI n) (w : Wp E M (pc + 2) ls (.int (zI n) :: st) h Q) : Wp E M pc ls st h Q := wp_bipush hd (by rw [hn]; exact w)
theorem zp_sipush {n : Int} (hd : gDec M pc (.sipush n) 3) (hn : (Int16.ofInt n).toInt32 = zI n) (w : Wp E M (pc + 3) ls (.int (zI n) :: st) h Q) : Wp E M pc ls st h Q := wp_sipush hd (by rw [hn]; exact w)
theorem zp_iinc {k : Nat} {n x : Int} {ls' : List (Option Value)} (hd : gDec M pc (.iinc k n) 3) (hx : ls[k]? = some (some (.int (zI x)))) (hk : gKs M k) (hl : ls.set k (some (.int (zI (x + n)))) = ls') (w : Wp E M (pc + 3) ls' st h Q) : Wp E M pc ls st h Q :=
  wp_iinc hd hx hk (by rw [← hl, ← zI_add]) w
theorem zp_iadd {x y : Int} (hd : gDec M pc .iadd 1) (w : Wp E M (pc + 1) ls (.int (zI (x + y)) :: st) h Q) : Wp E M pc ls (.int (zI y) :: .int (zI x) :: st) h Q := wp_iadd hd (by rw [zI_add]; exact w)
theorem zp_isub {x y : Int} (hd : gDec M pc .isub 1) (w : Wp E M (pc + 1) ls (.int (zI (x - y)) :: st) h Q) : Wp E M pc ls (.int (zI y) :: .int (zI x) :: st) h Q := wp_isub hd (by rw [zI_sub]; exact w)
theorem zp_imul {x y : Int} (hd : gDec M pc .imul 1) (w : Wp E M (pc + 1) ls (.int (zI (x * y)) :: st) h Q) : Wp E M pc ls (.int (zI y) :: .int (zI x) :: st) h Q := wp_imul hd (by rw [zI_mul]; exact w)
theorem zp_ineg {x : Int} (hd : gDec M pc .ineg 1) (w : Wp E M (pc + 1) ls (.int (zI (-x)) :: st) h Q) : Wp E M pc ls (.int (zI x) :: st) h Q := wp_ineg hd (by rw [zI_neg]; exact w)
theorem zp_idiv {x y : Int} (hd : gDec M pc .idiv 1) (h0 : 0 ≤ x) (hx : x ≤ 2147483647) (h1 : 0 < y) (hy : y ≤ 2147483647) (w : Wp E M (pc + 1) ls (.int (zI (x / y)) :: st) h Q) : Wp E M pc ls (.int (zI y) :: .int (zI x) :: st) h Q :=
  wp_idiv hd (by rw [zI_zero, zI_eq ⟨by omega, hy⟩ gR0]; omega) (by rw [zI_div h0 hx h1 hy]; exact w)
theorem zp_irem {x y : Int} (hd : gDec M pc .irem 1) (h0 : 0 ≤ x) (hx : x ≤ 2147483647) (h1 : 0 < y) (hy : y ≤ 2147483647) (w : Wp E M (pc + 1) ls (.int (zI (x % y)) :: st) h Q) : Wp E M pc ls (.int (zI y) :: .int (zI x) :: st) h Q :=
  wp_irem hd (by rw [zI_zero, zI_eq ⟨by omega, hy⟩ gR0]; omega) (by rw [zI_mod h0 hx h1 hy]; exact w)
theorem zp_if_eq {x : Int} {off : Int} {tgt : Nat} (hd : gDec M pc (.ifCond .eq off) 3) (ht : (pc : Int) + off = (tgt : Int)) (hx : gR x) (kt : x = 0 → Wp E M tgt ls st h Q) (kf : ¬ x = 0 → Wp E M (pc + 3) ls st h Q) : Wp E M pc ls (.int (zI x) :: st) h Q :=
  wp_if_eq hd ht (fun z => kt ((zI_eq hx gR0).mp z)) (fun z => kf (fun q => z ((zI_eq hx gR0).mpr q)))
theorem zp_if_ne {x : Int} {off : Int} {tgt : Nat} (hd : gDec M pc (.ifCond .ne off) 3) (ht : (pc : Int) + off = (tgt : Int)) (hx : gR x) (kt : ¬ x = 0 → Wp E M tgt ls st h Q) (kf : x = 0 → Wp E M (pc + 3) ls st h Q) : Wp E M pc ls (.int (zI x) :: st) h Q :=
  wp_if_ne hd ht (fun z => kt (fun q => z ((zI_eq hx gR0).mpr q))) (fun z => kf ((zI_eq hx gR0).mp z))
theorem zp_if_lt {x : Int} {off : Int} {tgt : Nat} (hd : gDec M pc (.ifCond .lt off) 3) (ht : (pc : Int) + off = (tgt : Int)) (hx : gR x) (kt : x < 0 → Wp E M tgt ls st h Q) (kf : ¬ x < 0 → Wp E M (pc + 3) ls st h Q) : Wp E M pc ls (.int (zI x) :: st) h Q :=
  wp_if_lt hd ht (fun z => kt ((zI_lt hx gR0).mp z)) (fun z => kf (fun q => z ((zI_lt hx gR0).mpr q)))
theorem zp_if_ge {x : Int} {off : Int} {tgt : Nat} (hd : gDec M pc (.ifCond .ge off) 3) (ht : (pc : Int) + off = (tgt : Int)) (hx : gR x) (kt : 0 ≤ x → Wp E M tgt ls st h Q) (kf : ¬ 0 ≤ x → Wp E M (pc + 3) ls st h Q) : Wp E M pc ls (.int (zI x) :: st) h Q :=
  wp_if_ge hd ht (fun z => kt ((zI_le gR0 hx).mp z)) (fun z => kf (fun q => z ((zI_le gR0 hx).mpr q)))
theorem zp_if_gt {x : Int} {off : Int} {tgt : Nat} (hd : gDec M pc (.ifCond .gt off) 3) (ht : (pc : Int) + off = (tgt : Int)) (hx : gR x) (kt : 0 < x → Wp E M tgt ls st h Q) (kf : ¬ 0 < x → Wp E M (pc + 3) ls st h Q) : Wp E M pc ls (.int (zI x) :: st) h Q :=
  wp_if_gt hd ht (fun z => kt ((zI_lt gR0 hx).mp z)) (fun z => kf (fun q => z ((zI_lt gR0 hx).mpr q)))
theorem zp_if_le {x : Int} {off : Int} {tgt : Nat} (hd : gDec M pc (.ifCond .le off) 3) (ht : (pc : Int) + off = (tgt : Int)) (hx : gR x) (kt : x ≤ 0 → Wp E M tgt ls st h Q) (kf : ¬ x ≤ 0 → Wp E M (pc + 3) ls st h Q) : Wp E M pc ls (.int (zI x) :: st) h Q :=
  wp_if_le hd ht (fun z => kt ((zI_le hx gR0).mp z)) (fun z => kf (fun q => z ((zI_le hx gR0).mpr q)))
theorem zp_icmp_eq {x y : Int} {off : Int} {tgt : Nat} (hd : gDec M pc (.if_icmp .eq off) 3) (ht : (pc : Int) + off = (tgt : Int)) (hx : gR x) (hy : gR y) (kt : x = y → Wp E M tgt ls st h Q) (kf : ¬ x = y → Wp E M (pc + 3) ls st h Q) : Wp E M pc ls (.int (zI y) :: .int (zI x) :: st) h Q :=
  wp_icmp_eq hd ht (fun z => kt ((zI_eq hx hy).mp z)) (fun z => kf (fun q => z ((zI_eq hx hy).mpr q)))
theorem zp_icmp_ne {x y : Int} {off : Int} {tgt : Nat} (hd : gDec M pc (.if_icmp .ne off) 3) (ht : (pc : Int) + off = (tgt : Int)) (hx : gR x) (hy : gR y) (kt : ¬ x = y → Wp E M tgt ls st h Q) (kf : x = y → Wp E M (pc + 3) ls st h Q) : Wp E M pc ls (.int (zI y) :: .int (zI x) :: st) h Q :=
  wp_icmp_ne hd ht (fun z => kt (fun q => z ((zI_eq hx hy).mpr q))) (fun z => kf ((zI_eq hx hy).mp z))
theorem zp_icmp_lt {x y : Int} {off : Int} {tgt : Nat} (hd : gDec M pc (.if_icmp .lt off) 3) (ht : (pc : Int) + off = (tgt : Int)) (hx : gR x) (hy : gR y) (kt : x < y → Wp E M tgt ls st h Q) (kf : ¬ x < y → Wp E M (pc + 3) ls st h Q) : Wp E M pc ls (.int (zI y) :: .int (zI x) :: st) h Q :=
  wp_icmp_lt hd ht (fun z => kt ((zI_lt hx hy).mp z)) (fun z => kf (fun q => z ((zI_lt hx hy).mpr q)))
theorem zp_icmp_ge {x y : Int} {off : Int} {tgt : Nat} (hd : gDec M pc (.if_icmp .ge off) 3) (ht : (pc : Int) + off = (tgt : Int)) (hx : gR x) (hy : gR y) (kt : y ≤ x → Wp E M tgt ls st h Q) (kf : ¬ y ≤ x → Wp E M (pc + 3) ls st h Q) : Wp E M pc ls (.int (zI y) :: .int (zI x) :: st) h Q :=
  wp_icmp_ge hd ht (fun z => kt ((zI_le hy hx).mp z)) (fun z => kf (fun q => z ((zI_le hy hx).mpr q)))
theorem zp_icmp_gt {x y : Int} {off : Int} {tgt : Nat} (hd : gDec M pc (.if_icmp .gt off) 3) (ht : (pc : Int) + off = (tgt : Int)) (hx : gR x) (hy : gR y) (kt : y < x → Wp E M tgt ls st h Q) (kf : ¬ y < x → Wp E M (pc + 3) ls st h Q) : Wp E M pc ls (.int (zI y) :: .int (zI x) :: st) h Q :=
  wp_icmp_gt hd ht (fun z => kt ((zI_lt hy hx).mp z)) (fun z => kf (fun q => z ((zI_lt hy hx).mpr q)))
theorem zp_icmp_le {x y : Int} {off : Int} {tgt : Nat} (hd : gDec M pc (.if_icmp .le off) 3) (ht : (pc : Int) + off = (tgt : Int)) (hx : gR x) (hy : gR y) (kt : x ≤ y → Wp E M tgt ls st h Q) (kf : ¬ x ≤ y → Wp E M (pc + 3) ls st h Q) : Wp E M pc ls (.int (zI y) :: .int (zI x) :: st) h Q :=
  wp_icmp_le hd ht (fun z => kt ((zI_le hx hy).mp z)) (fun z => kf (fun q => z ((zI_le hx hy).mpr q)))
theorem gR_bI (p : Prop) [Decidable p] : gR (bI p) := by unfold bI; split <;> decide
theorem bI_t {p : Prop} [Decidable p] (h : p) : bI p = 1 := if_pos h
theorem bI_f {p : Prop} [Decidable p] (h : ¬ p) : bI p = 0 := if_neg h
/-- tests of an answer yes or no -/
theorem zp_ifb_eq {p : Prop} [Decidable p] {off : Int} {tgt : Nat} (hd : gDec M pc (.ifCond .eq off) 3) (ht : (pc : Int) + off = (tgt : Int)) (kt : ¬ p → Wp E M tgt ls st h Q) (kf : p → Wp E M (pc + 3) ls st h Q) : Wp E M pc ls (.int (zI (bI p)) :: st) h Q :=
  zp_if_eq hd ht (gR_bI p) (fun z => kt (fun hp => by rw [bI_t hp] at z; cases z)) (fun z => kf (by by_cases hp : p; exact hp; exact absurd (bI_f hp) z))
theorem zp_ifb_ne {p : Prop} [Decidable p] {off : Int} {tgt : Nat} (hd : gDec M pc (.ifCond .ne off) 3) (ht : (pc : Int) + off = (tgt : Int)) (kt : p → Wp E M tgt ls st h Q) (kf : ¬ p → Wp E M (pc + 3) ls st h Q) : Wp E M pc ls (.int (zI (bI p)) :: st) h Q :=
  zp_if_ne hd ht (gR_bI p) (fun z => kt (by by_cases hp : p; exact hp; exact absurd (bI_f hp) z)) (fun z => kf (fun hp => by rw [bI_t hp] at z; cases z))
/-- an array of ints: kind 0 -/
def gI (n : Nat) (F : Int → Int) : gC := .inr (0, n, fun j => .int (zI (F (j : Int))))
def zup (F : Int → Int) (i v : Int) : Int → Int := fun j => if j = i then v else F j
theorem zup_eq (F : Int → Int) (i v : Int) : zup F i v i = v := if_pos rfl
theorem zup_ne (F : Int → Int) {i j : Int} (v : Int) (h : j ≠ i) : zup F i v j = F j := if_neg h
theorem gI_up {n : Nat} {F : Int → Int} {i v : Int} (h0 : 0 ≤ i) : (.inr (0, n, gUp (fun j => .int (zI (F (j : Int)))) i.toNat (.int (zI v))) : gC) = gI n (zup F i v) := by
  unfold gI
  congr 3
  funext j
  unfold gUp zup
  by_cases hj : j = i.toNat
  · rw [if_pos hj, if_pos (by omega)]
  · rw [if_neg hj, if_neg (by omega)]
theorem zp_iaload {a n : Nat} {F : Int → Int} {i : Int} (hd : gDec M pc .iaload 1) (ht : gTy E 0 .int) (hh : h.1 a = some (gI n F)) (h0 : 0 ≤ i) (h1 : i < n) (hn : n ≤ 2147483647) (w : Wp E M (pc + 1) ls (.int (zI (F i)) :: st) h Q) : Wp E M pc ls (.int (zI i) :: .ref a :: st) h Q := by
  refine wp_iaload hd ht hh (zI_vin h0 h1 hn) ?_
  rw [zI_clamp ⟨by omega, by omega⟩, Int.toNat_of_nonneg h0]
  exact w
theorem zp_saload {a n : Nat} {F : Int → Int} {i : Int} (hd : gDec M pc .iaload 1) (hh : h.1 a = some (.inr (99, n, fun j => .int (zI (F (j : Int)))))) (hg : (gT E)[99]? = none) (h0 : 0 ≤ i) (h1 : i < n) (hn : n ≤ 2147483647) (w : Wp E M (pc + 1) ls (.int (zI (F i)) :: st) h Q) : Wp E M pc ls (.int (zI i) :: .ref a :: st) h Q := by
  refine wp_saload hd hh (zI_vin h0 h1 hn) hg ?_
  rw [zI_clamp ⟨by omega, by omega⟩, Int.toNat_of_nonneg h0]
  exact w
theorem zp_iastore {a n : Nat} {F : Int → Int} {i v : Int} (hd : gDec M pc .iastore 1) (ht : gTy E 0 .int) (hh : h.1 a = some (gI n F)) (ha : gB E ≤ a) (h0 : 0 ≤ i) (h1 : i < n) (hn : n ≤ 2147483647) (w : Wp E M (pc + 1) ls st (gPut h a (gI n (zup F i v))) Q) : Wp E M pc ls (.int (zI v) :: .int (zI i) :: .ref a :: st) h Q := by
  refine wp_iastore hd ht hh ha (zI_vin h0 h1 hn) ?_
  rw [zI_clamp ⟨by omega, by omega⟩, gI_up h0]
  exact w
theorem zp_aaload {a n kd : Nat} {cn : String} {f : Int → Value} {i : Int} (hd : gDec M pc .aaload 1) (ht : gTy E kd (.object cn)) (hh : h.1 a = some (.inr (kd, n, fun j => f (j : Int)))) (h0 : 0 ≤ i) (h1 : i < n) (hn : n ≤ 2147483647) (w : Wp E M (pc + 1) ls (f i :: st) h Q) : Wp E M pc ls (.int (zI i) :: .ref a :: st) h Q := by
  refine wp_aaload hd ht hh (zI_vin h0 h1 hn) ?_
  rw [zI_clamp ⟨by omega, by omega⟩, Int.toNat_of_nonneg h0]
  exact w
/-- an array of chars: kind 1 -/
def gCh (n : Nat) (F : Int → Int) : gC := .inr (1, n, fun j => .int (zI (F (j : Int))))
theorem gCh_up {n : Nat} {F : Int → Int} {i v : Int} (h0 : 0 ≤ i) : (.inr (1, n, gUp (fun j => .int (zI (F (j : Int)))) i.toNat (.int (zI v))) : gC) = gCh n (zup F i v) := by
  unfold gCh
  congr 3
  funext j
  unfold gUp zup
  by_cases hj : j = i.toNat
  · rw [if_pos hj, if_pos (by omega)]
  · rw [if_neg hj, if_neg (by omega)]
theorem zp_caload {a n : Nat} {F : Int → Int} {i : Int} (hd : gDec M pc .caload 1) (ht : gTy E 1 .char) (hh : h.1 a = some (gCh n F)) (h0 : 0 ≤ i) (h1 : i < n) (hn : n ≤ 2147483647) (w : Wp E M (pc + 1) ls (.int (zI (F i)) :: st) h Q) : Wp E M pc ls (.int (zI i) :: .ref a :: st) h Q := by
  refine wp_caload hd ht hh (zI_vin h0 h1 hn) ?_
  rw [zI_clamp ⟨by omega, by omega⟩, Int.toNat_of_nonneg h0]
  exact w
theorem zp_castore {a n : Nat} {F : Int → Int} {i v : Int} (hd : gDec M pc .castore 1) (ht : gTy E 1 .char) (hh : h.1 a = some (gCh n F)) (ha : gB E ≤ a) (h0 : 0 ≤ i) (h1 : i < n) (hn : n ≤ 2147483647) (hv : narrow .char (.int (zI v)) = .int (zI v)) (w : Wp E M (pc + 1) ls st (gPut h a (gCh n (zup F i v))) Q) : Wp E M pc ls (.int (zI v) :: .int (zI i) :: .ref a :: st) h Q := by
  refine wp_castore hd ht hh ha (zI_vin h0 h1 hn) hv ?_
  rw [zI_clamp ⟨by omega, by omega⟩, gCh_up h0]
  exact w
theorem zp_tableOut {dflt lo hi : Int} {offs : Array Int} {len : Nat} {x : Int} {tgt : Nat} (hd : gDec M pc (.tableswitch dflt lo hi offs) len) (hr : gR x) (hx : x < lo ∨ hi < x) (ht : (pc : Int) + dflt = (tgt : Int)) (w : Wp E M tgt ls st h Q) : Wp E M pc ls (.int (zI x) :: st) h Q :=
  wp_tableOut hd (by rw [zI_toInt hr]; exact hx) ht w
theorem zp_tableIn {dflt lo hi : Int} {offs : Array Int} {len : Nat} {x : Int} {off : Int} {tgt : Nat} (hd : gDec M pc (.tableswitch dflt lo hi offs) len) (hr : gR x) (h1 : lo ≤ x) (h2 : x ≤ hi) (ho : offs[(x - lo).toNat]? = some off) (ht : (pc : Int) + off = (tgt : Int)) (w : Wp E M tgt ls st h Q) : Wp E M pc ls (.int (zI x) :: st) h Q :=
  wp_tableIn hd (by rw [zI_toInt hr]; omega) (by rw [zI_toInt hr]; omega) (by rw [zI_toInt hr]; exact ho) ht w
theorem zp_lookup {dflt : Int} {ps : Array (Int × Int)} {len : Nat} {x : Int} {off : Int} {tgt : Nat} (hd : gDec M pc (.lookupswitch dflt ps) len) (hp : (ps.toList.zip (ps.toList.drop 1)).all (fun (a, next) => a.1 < next.1) = true) (hr : gR x) (ho : Op.lookupswitch.offset ps.toList dflt x = off) (ht : (pc : Int) + off = (tgt : Int)) (w : Wp E M tgt ls st h Q) : Wp E M pc ls (.int (zI x) :: st) h Q :=
  wp_lookup hd hp (by rw [zI_toInt hr]; exact ho) ht w
theorem zp_arraylength {a n kd : Nat} {f : Nat → Value} (hd : gDec M pc .arraylength 1) (hk : kd < 99) (hh : h.1 a = some (.inr (kd, n, f))) (w : Wp E M (pc + 1) ls (.int (zI (n : Int)) :: st) h Q) : Wp E M pc ls (.ref a :: st) h Q := by
  refine wp_arraylength hd hk hh ?_
  rw [← Int32.ofInt_eq_ofNat]
  exact w
/-- an int or a yes-or-no field -/
theorem zp_putI {cp ci k a : Nat} {fin : Bool} {fs : List Value} {v : Int} (hd : gDec M pc (.putfield cp) 3) (hf : gFd (gY M).cls cp ci k .int fin) (hh : h.1 a = some (.inl (ci, fs))) (ha : gB E ≤ a) (hfin : fin = false ∨ ((gY M).name = "<init>" ∧ ∀ q, vwCl[ci]? = some q → (q.2.1 k).1 = (gY M).cls))
    (w : Wp E M (pc + 3) ls st (gPut h a (.inl (ci, fs.set k (.int (zI v))))) Q) : Wp E M pc ls (.int (zI v) :: .ref a :: st) h Q := wp_putfield hd hf hh ha rfl rfl hfin w
theorem nar_bI (p : Prop) [Decidable p] : narrow .boolean (.int (zI (bI p))) = .int (zI (bI p)) := by
  by_cases hp : p
  · rw [bI_t hp]; rfl
  · rw [bI_f hp]; rfl
theorem zp_putB {cp ci k a : Nat} {fin : Bool} {fs : List Value} {p : Prop} [Decidable p] (hd : gDec M pc (.putfield cp) 3) (hf : gFd (gY M).cls cp ci k .boolean fin) (hh : h.1 a = some (.inl (ci, fs))) (ha : gB E ≤ a) (hfin : fin = false ∨ ((gY M).name = "<init>" ∧ ∀ q, vwCl[ci]? = some q → (q.2.1 k).1 = (gY M).cls))
    (w : Wp E M (pc + 3) ls st (gPut h a (.inl (ci, fs.set k (.int (zI (bI p)))))) Q) : Wp E M pc ls (.int (zI (bI p)) :: .ref a :: st) h Q := wp_putfield hd hf hh ha (nar_bI p) (by by_cases hp : p; rw [bI_t hp]; rfl; rw [bI_f hp]; rfl) hfin w
theorem zp_ireturn {v : Int} (hd : gDec M pc .ireturn 1) (hr : gRt M = some .int) (hq : Q (some (.int (zI v))) h) : Wp E M pc ls [.int (zI v)] h Q := wp_ireturn hd hr rfl hq
theorem zp_zreturn {v : Int} (hd : gDec M pc .ireturn 1) (hr : gRt M = some .boolean) (hv : narrow .boolean (.int (zI v)) = .int (zI v)) (hq : Q (some (.int (zI v))) h) : Wp E M pc ls [.int (zI v)] h Q := wp_ireturn hd hr hv hq
end GZ
theorem gPut_eq (h : gH) (a : Nat) (c : gC) : (gPut h a c).1 a = some c := if_pos rfl
theorem gPut_ne (h : gH) {a b : Nat} (c : gC) (hb : b ≠ a) : (gPut h a c).1 b = h.1 b := if_neg hb
theorem gPut_gPut (h : gH) (a : Nat) (c d : gC) : gPut (gPut h a c) a d = gPut h a d := by
  unfold gPut
  congr 1
  funext q
  by_cases hq : q = a <;> simp [hq]
theorem gPut_self {h : gH} {a : Nat} {c : gC} (hc : h.1 a = some c) : gPut h a c = h := by
  unfold gPut
  refine Prod.ext (funext fun q => ?_) rfl
  by_cases hq : q = a
  · subst hq; simp [hc]
  · simp [hq]
