/-! ===== chains of handles; the best hook ===== -/
def Ch (F : Int → Int) : Nat → Int → Int → Prop
  | 0, x, z => x = z ∧ 0 ≤ x ∧ x < 6000 ∧ fol F x < 0
  | n + 1, x, z => 0 ≤ x ∧ x < 6000 ∧ 0 ≤ fol F x ∧ Ch F n (fol F x) z
def lsF (F : Int → Int) : Nat → Int → Int
  | 0, x => x
  | n + 1, x => if 0 ≤ fol F x then lsF F n (fol F x) else x
def wyF (F : Int → Int) : Nat → Int → Int
  | 0, _ => 0
  | n + 1, x => if 0 ≤ fol F x then wyF F n (fol F x) + 1 else 0
/-- the last handle to which one gets; the way -/
def la (F : Int → Int) (x : Int) : Int := lsF F (F 5).toNat x
def wy (F : Int → Int) (x : Int) : Int := wyF F (F 5).toNat x
/-- every way has an end -/
def AC (F : Int → Int) : Prop := ∀ x : Int, 0 ≤ x → x < 6000 → ∃ (d : Nat) (z : Int), (d : Int) ≤ F 5 ∧ Ch F d x z
theorem Ch.x {F : Int → Int} {d : Nat} {x z : Int} (h : Ch F d x z) : 0 ≤ x ∧ x < 6000 := by
  cases d with
  | zero => exact ⟨h.2.1, h.2.2.1⟩
  | succ d => exact ⟨h.1, h.2.1⟩
theorem Ch.z {F : Int → Int} : ∀ {d : Nat} {x z : Int}, Ch F d x z → 0 ≤ z ∧ z < 6000 ∧ fol F z < 0
  | 0, x, z, h => by obtain ⟨rfl, h1, h2, h3⟩ := h; exact ⟨h1, h2, h3⟩
  | d + 1, x, z, h => Ch.z h.2.2.2
theorem Ch.ls {F : Int → Int} : ∀ {d m : Nat} {x z : Int}, Ch F d x z → d ≤ m → lsF F m x = z
  | 0, 0, x, z, h, _ => h.1
  | 0, m + 1, x, z, h, _ => by
    have := h.2.2.2
    show (if 0 ≤ fol F x then _ else x) = z
    rw [if_neg (by omega)]
    exact h.1
  | d + 1, 0, x, z, h, hm => by omega
  | d + 1, m + 1, x, z, h, hm => by
    show (if 0 ≤ fol F x then _ else x) = z
    rw [if_pos h.2.2.1]
    exact Ch.ls h.2.2.2 (by omega)
theorem Ch.wy {F : Int → Int} : ∀ {d m : Nat} {x z : Int}, Ch F d x z → d ≤ m → wyF F m x = d
  | 0, 0, x, z, h, _ => rfl
  | 0, m + 1, x, z, h, _ => by
    have := h.2.2.2
    show (if 0 ≤ fol F x then _ else 0) = _
    rw [if_neg (by omega)]
    rfl
  | d + 1, 0, x, z, h, hm => by omega
  | d + 1, m + 1, x, z, h, hm => by
    show (if 0 ≤ fol F x then _ else 0) = _
    rw [if_pos h.2.2.1, Ch.wy h.2.2.2 (by omega)]
    omega
theorem AC.en {F : Int → Int} (h : AC F) {x : Int} (h0 : 0 ≤ x) (h1 : x < 6000) : ∃ d : Nat, (d : Int) ≤ F 5 ∧ Ch F d x (la F x) ∧ wy F x = d := by
  obtain ⟨d, z, hd, hc⟩ := h x h0 h1
  refine ⟨d, hd, ?_, hc.wy (by omega)⟩
  have := hc.ls (m := (F 5).toNat) (by omega)
  unfold la
  rw [this]
  exact hc
theorem AC.b {F : Int → Int} (h : AC F) {x : Int} (h0 : 0 ≤ x) (h1 : x < 6000) : 0 ≤ la F x ∧ la F x < 6000 := by
  obtain ⟨d, -, hc, -⟩ := h.en h0 h1
  exact ⟨hc.z.1, hc.z.2.1⟩
theorem fol_b {n : Int} {F : Int → Int} (hV : Vd n F) {x : Int} (h0 : 0 ≤ x) (h1 : x < 6000) : -1 ≤ fol F x ∧ fol F x < 6001 := by
  have hh := hV.2.2.2.2.2.2 x h0 h1
  unfold fol
  omega
theorem eo_b {n : Int} {F : Int → Int} (hV : Vd n F) {x : Int} (h0 : 0 ≤ x) (h1 : x < 6000) : 0 ≤ eo F x ∧ eo F x < 8 := by
  have hh := hV.2.2.2.2.2.2 x h0 h1
  unfold eo
  omega
theorem bst_b (F : Int → Int) (z : Int) : ∀ n : Nat, bst F z n = -5 ∨ (0 ≤ bst F z n ∧ bst F z n < n)
  | 0 => Or.inl rfl
  | n + 1 => by
    have := bst_b F z n
    show (if _ then (n : Int) else bst F z n) = -5 ∨ (0 ≤ (if _ then (n : Int) else bst F z n) ∧ (if _ then (n : Int) else bst F z n) < _)
    split <;> omega
theorem sm_b {f : Int → Int} {m : Int} (hm : 0 ≤ m) : ∀ {n : Nat}, (∀ k : Nat, k < n → 0 ≤ f k ∧ f k ≤ m) → 0 ≤ sm f n ∧ sm f n ≤ m * n
  | 0, _ => by simp [sm]
  | n + 1, h => by
    have h1 := sm_b hm (n := n) (fun k hk => h k (by omega))
    have h2 := h n (by omega)
    have e : m * ((n + 1 : Nat) : Int) = m * n + m := by
      rw [Int.natCast_succ, Int.mul_add, Int.mul_one]
    rw [e]
    show 0 ≤ sm f n + f n ∧ sm f n + f n ≤ _
    omega
/-- 0, or the error of a tag -/
def noT (F : Int → Int) (t : Int) : Int := if ¬ isTg t then -2 else if ¬ 0 < F (559 + t / 10) then -1 else if eo F (la F (t / 10)) = 0 then 0 else if eo F (la F (t / 10)) = 1 then -6 else -7
theorem sm_congr {f g : Int → Int} : ∀ {n : Nat}, (∀ k : Nat, k < n → f k = g k) → sm f n = sm g n
  | 0, _ => rfl
  | n + 1, h => by
    show sm f n + f n = sm g n + g n
    rw [sm_congr (n := n) (fun k hk => h k (by omega)), h n (by omega)]
/-! ===== what other entries stay ===== -/
theorem lvF_o {F : Int → Int} {x j : Int} (h0 : j ≠ 29 + 8 * x + 0) (h1 : j ≠ 29 + 8 * x + 1) (h5 : j ≠ 29 + 8 * x + 5) (h6 : j ≠ 29 + 8 * x + 6) (h7 : j ≠ 29 + 8 * x + 7) (h12 : j ≠ 12) : lvF F x j = F j := by
  unfold lvF
  rw [zup_ne _ _ h7, zup_ne _ _ h12, zup_ne _ _ h6, zup_ne _ _ h0, zup_ne _ _ h5, zup_ne _ _ h1]
theorem hgF_o {F : Int → Int} {x y z d j : Int} (h1 : j ≠ 29 + 8 * x + 1) (h2 : j ≠ 29 + 8 * x + 2) (h3 : j ≠ 29 + 8 * x + 3) (h4 : j ≠ 29 + 8 * x + 4) (hh : j ≠ 559 + hdl F x) (h5 : j ≠ 5) : hgF F x y z d j = F j := by
  unfold hgF
  rw [zup_ne _ _ h5, zup_ne _ _ hh, zup_ne _ _ h4, zup_ne _ _ h3, zup_ne _ _ h2, zup_ne _ _ h1]
theorem lgF_o {F : Int → Int} {c e j : Int} (h : j < 529 ∨ 559 ≤ j) (h13 : j ≠ 13) : lgF F c e j = F j := by
  unfold lgF
  rw [zup_ne _ _ h13, zup_ne _ _ (by omega), zup_ne _ _ (by omega), zup_ne _ _ (by omega)]
theorem enF_o {F : Int → Int} {x e c j : Int} (h0 : j ≠ 29 + 8 * x + 0) (h1 : j ≠ 29 + 8 * x + 1) (h5 : j ≠ 29 + 8 * x + 5) (h6 : j ≠ 29 + 8 * x + 6) (h7 : j ≠ 29 + 8 * x + 7) (h12 : j ≠ 12) (h : j < 529 ∨ 559 ≤ j) (h13 : j ≠ 13) (hh : j ≠ 559 + hdl F x) : enF F x e c j = F j := by
  unfold enF
  rw [lgF_o h h13, lvF_o h0 h1 h5 h6 h7 h12, zup_ne _ _ hh]
theorem hdl_congr {F G : Int → Int} {x : Int} (h : G (29 + 8 * x + 0) = F (29 + 8 * x + 0)) : hdl G x = hdl F x := by
  unfold hdl
  rw [h]
theorem duF_congr {F G : Int → Int} {x : Int} (h3 : G 3 = F 3) (h0 : G 0 = F 0) (hs : G (29 + 8 * x + 3) = F (29 + 8 * x + 3)) (hd : G (29 + 8 * x + 4) = F (29 + 8 * x + 4)) : duF G x = duF F x := by
  unfold duF
  rw [h3, h0, hs, hd]
/-! ===== bounds by index ===== -/
def bHi (n j : Int) : Int :=
  if j = 0 then 9999 else if j = 1 then 5 else if j = 2 then 3 else if j = 3 then 50 else if j = 4 then 99 else if j < 14 then n
  else if j < 29 then (if (j - 14) % 3 = 0 then 12 else if (j - 14) % 3 = 1 then 5 else 1)
  else if j < 509 then (if (j - 29) % 8 = 0 then 99 else if (j - 29) % 8 = 1 then 1 else if (j - 29) % 8 = 2 then 19 else if (j - 29) % 8 = 3 then 5 else if (j - 29) % 8 = 4 then 9999 else if (j - 29) % 8 = 5 then 1 else n)
  else if j < 529 then n else if j < 559 then 9999 else 3072511
def bLo (j : Int) : Int := if j = 4 then 1 else 0
def Vb (n : Int) (F : Int → Int) : Prop := ∀ j : Int, 0 ≤ j → j < 6559 → j ≠ 11 → bLo j ≤ F j ∧ F j ≤ bHi n j
theorem Vb.at {n : Int} {F : Int → Int} (h : Vb n F) {j m : Int} (h0 : 0 ≤ j) (h1 : j < 6559) (h11 : j ≠ 11) (hm : bHi n j = m) : 0 ≤ F j ∧ F j ≤ m := by
  have := h j h0 h1 h11
  unfold bLo at this
  split at this <;> omega
theorem bHi_r0 (n r : Int) (h0 : 0 ≤ r) (h1 : r < 5) : bHi n (14 + 3 * r + 0) = 12 := by
  unfold bHi
  repeat (first | rw [if_pos (by omega)] | rw [if_neg (by omega)])
theorem bHi_r1 (n r : Int) (h0 : 0 ≤ r) (h1 : r < 5) : bHi n (14 + 3 * r + 1) = 5 := by
  unfold bHi
  repeat (first | rw [if_pos (by omega)] | rw [if_neg (by omega)])
theorem bHi_r2 (n r : Int) (h0 : 0 ≤ r) (h1 : r < 5) : bHi n (14 + 3 * r + 2) = 1 := by
  unfold bHi
  repeat (first | rw [if_pos (by omega)] | rw [if_neg (by omega)])
theorem bHi_h0 (n x : Int) (h0 : 0 ≤ x) (h1 : x < 60) : bHi n (29 + 8 * x + 0) = 99 := by
  unfold bHi
  repeat (first | rw [if_pos (by omega)] | rw [if_neg (by omega)])
theorem bHi_h1 (n x : Int) (h0 : 0 ≤ x) (h1 : x < 60) : bHi n (29 + 8 * x + 1) = 1 := by
  unfold bHi
  repeat (first | rw [if_pos (by omega)] | rw [if_neg (by omega)])
theorem bHi_h2 (n x : Int) (h0 : 0 ≤ x) (h1 : x < 60) : bHi n (29 + 8 * x + 2) = 19 := by
  unfold bHi
  repeat (first | rw [if_pos (by omega)] | rw [if_neg (by omega)])
theorem bHi_h3 (n x : Int) (h0 : 0 ≤ x) (h1 : x < 60) : bHi n (29 + 8 * x + 3) = 5 := by
  unfold bHi
  repeat (first | rw [if_pos (by omega)] | rw [if_neg (by omega)])
theorem bHi_h4 (n x : Int) (h0 : 0 ≤ x) (h1 : x < 60) : bHi n (29 + 8 * x + 4) = 9999 := by
  unfold bHi
  repeat (first | rw [if_pos (by omega)] | rw [if_neg (by omega)])
theorem bHi_h5 (n x : Int) (h0 : 0 ≤ x) (h1 : x < 60) : bHi n (29 + 8 * x + 5) = 1 := by
  unfold bHi
  repeat (first | rw [if_pos (by omega)] | rw [if_neg (by omega)])
theorem bHi_h6 (n x : Int) (h0 : 0 ≤ x) (h1 : x < 60) : bHi n (29 + 8 * x + 6) = n := by
  unfold bHi
  repeat (first | rw [if_pos (by omega)] | rw [if_neg (by omega)])
theorem bHi_h7 (n x : Int) (h0 : 0 ≤ x) (h1 : x < 60) : bHi n (29 + 8 * x + 7) = n := by
  unfold bHi
  repeat (first | rw [if_pos (by omega)] | rw [if_neg (by omega)])
theorem bHi_c (n j : Int) (h0 : 5 ≤ j) (h1 : j < 14) : bHi n j = n := by
  unfold bHi
  repeat (first | rw [if_pos (by omega)] | rw [if_neg (by omega)])
theorem bHi_g (n y : Int) (h0 : 0 ≤ y) (h1 : y < 20) : bHi n (509 + y) = n := by
  unfold bHi
  repeat (first | rw [if_pos (by omega)] | rw [if_neg (by omega)])
theorem bHi_l (n y : Int) (h0 : 0 ≤ y) (h1 : y < 30) : bHi n (529 + y) = 9999 := by
  unfold bHi
  repeat (first | rw [if_pos (by omega)] | rw [if_neg (by omega)])
theorem bHi_t (n y : Int) (h0 : 0 ≤ y) (h1 : y < 6000) : bHi n (559 + y) = 3072511 := by
  unfold bHi
  repeat (first | rw [if_pos (by omega)] | rw [if_neg (by omega)])
theorem Vb.vd {n : Int} {F : Int → Int} (h : Vb n F) : Vd n F := by
  refine ⟨⟨h.at (by omega) (by omega) (by omega) rfl, h.at (by omega) (by omega) (by omega) rfl, h.at (by omega) (by omega) (by omega) rfl, h.at (by omega) (by omega) (by omega) rfl, ?_⟩, fun j h1 h2 h3 => h.at (by omega) (by omega) h3 (bHi_c n j h1 (by omega)),
    fun r h1 h2 => ⟨h.at (by omega) (by omega) (by omega) (bHi_r0 n r h1 h2), h.at (by omega) (by omega) (by omega) (bHi_r1 n r h1 h2), h.at (by omega) (by omega) (by omega) (bHi_r2 n r h1 h2)⟩,
    fun x h1 h2 => ⟨h.at (by omega) (by omega) (by omega) (bHi_h0 n x h1 h2), h.at (by omega) (by omega) (by omega) (bHi_h1 n x h1 h2), h.at (by omega) (by omega) (by omega) (bHi_h2 n x h1 h2), h.at (by omega) (by omega) (by omega) (bHi_h3 n x h1 h2),
      h.at (by omega) (by omega) (by omega) (bHi_h4 n x h1 h2), h.at (by omega) (by omega) (by omega) (bHi_h5 n x h1 h2), h.at (by omega) (by omega) (by omega) (bHi_h6 n x h1 h2), h.at (by omega) (by omega) (by omega) (bHi_h7 n x h1 h2)⟩,
    fun y h1 h2 => h.at (by omega) (by omega) (by omega) (bHi_g n y h1 h2), fun y h1 h2 => h.at (by omega) (by omega) (by omega) (bHi_l n y h1 h2), fun x h1 h2 => ?_⟩
  · exact h 4 (by omega) (by omega) (by omega)
  · have := h.at (by omega) (by omega) (by omega) (bHi_t n x h1 h2)
    omega
theorem bHi_mono {n m j : Int} (h : n ≤ m) : bHi n j ≤ bHi m j := by
  unfold bHi
  repeat' split
  all_goals omega
theorem Vb.mono {n m : Int} {F : Int → Int} (h : Vb n F) (hm : n ≤ m) : Vb m F := fun j h0 h1 h2 => ⟨(h j h0 h1 h2).1, Int.le_trans (h j h0 h1 h2).2 (bHi_mono hm)⟩
theorem Vb.upd {n : Int} {F : Int → Int} (h : Vb n F) {i v : Int} (hv : i ≠ 11 → bLo i ≤ v ∧ v ≤ bHi n i) : Vb n (zup F i v) := fun j h0 h1 h2 => by
  by_cases hj : j = i
  · subst hj
    rw [zup_eq]
    exact hv h2
  · rw [zup_ne _ _ hj]
    exact h j h0 h1 h2
theorem Vb.congr {n : Int} {F G : Int → Int} (h : Vb n F) (hg : ∀ j : Int, 0 ≤ j → j < 6559 → G j = F j) : Vb n G := fun j h0 h1 h2 => by
  rw [hg j h0 h1]
  exact h j h0 h1 h2
/-- a value that any place takes: 0, but not as the limit -/
theorem bHi_0 {n j : Int} (hn : 0 ≤ n) : 0 ≤ bHi n j := by
  unfold bHi
  repeat' split
  all_goals omega
