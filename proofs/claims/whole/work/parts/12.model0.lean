/-! ===== the reference: its heap, its words ===== -/
/-- the reference's object at mo, its row at mo + 1, its text at mo + 2, over any heap -/
def MH (mo : Nat) (h : gH) (F : Int → Int) (sn kp : Int) (g : Int → Int) (ln : Int) : gH :=
  gPut (gPut (gPut h mo (.inl (8, [.ref (mo + 1), .int (zI sn), .int (zI kp), .ref (mo + 2), .int (zI ln)]))) (mo + 1) (gI 45913 F)) (mo + 2) (gI 60 g)
section MH
variable {mo : Nat} {h : gH} {F F' g g' : Int → Int} {sn kp ln sn' kp' ln' : Int}
theorem MH_o : (MH mo h F sn kp g ln).1 mo = some (.inl (8, [.ref (mo + 1), .int (zI sn), .int (zI kp), .ref (mo + 2), .int (zI ln)])) := by
  unfold MH
  rw [gPut_ne _ _ (by omega), gPut_ne _ _ (by omega), gPut_eq]
theorem MH_r : (MH mo h F sn kp g ln).1 (mo + 1) = some (gI 45913 F) := by
  unfold MH
  rw [gPut_ne _ _ (by omega), gPut_eq]
theorem MH_t : (MH mo h F sn kp g ln).1 (mo + 2) = some (gI 60 g) := by
  unfold MH
  rw [gPut_eq]
theorem MH_2 : (MH mo h F sn kp g ln).2 = h.2 := rfl
theorem MH_ne {a : Nat} (h1 : a ≠ mo) (h2 : a ≠ mo + 1) (h3 : a ≠ mo + 2) : (MH mo h F sn kp g ln).1 a = h.1 a := by
  unfold MH
  rw [gPut_ne _ _ h3, gPut_ne _ _ h2, gPut_ne _ _ h1]
theorem gPut_comm (h : gH) {a b : Nat} (c d : gC) (hab : a ≠ b) : gPut (gPut h a c) b d = gPut (gPut h b d) a c := by
  unfold gPut
  congr 1
  funext q
  by_cases h1 : q = a
  · subst h1; simp [hab]
  · simp [h1]
theorem MH_po : gPut (MH mo h F sn kp g ln) mo (.inl (8, [.ref (mo + 1), .int (zI sn'), .int (zI kp'), .ref (mo + 2), .int (zI ln')])) = MH mo h F sn' kp' g ln' := by
  unfold MH
  rw [gPut_comm _ _ _ (show mo + 2 ≠ mo by omega), gPut_comm _ _ _ (show mo + 1 ≠ mo by omega), gPut_gPut]
theorem MH_pr : gPut (MH mo h F sn kp g ln) (mo + 1) (gI 45913 F') = MH mo h F' sn kp g ln := by
  unfold MH
  rw [gPut_comm _ _ _ (show mo + 2 ≠ mo + 1 by omega), gPut_gPut]
theorem MH_pt : gPut (MH mo h F sn kp g ln) (mo + 2) (gI 60 g') = MH mo h F sn kp g' ln := by
  unfold MH
  rw [gPut_gPut]
/-- a heap that holds it is of this form -/
theorem MH_of {H : gH} (h1 : H.1 mo = some (.inl (8, [.ref (mo + 1), .int (zI sn), .int (zI kp), .ref (mo + 2), .int (zI ln)]))) (h2 : H.1 (mo + 1) = some (gI 45913 F)) (h3 : H.1 (mo + 2) = some (gI 60 g)) : MH mo H F sn kp g ln = H := by
  unfold MH
  rw [gPut_self h1, gPut_self h2, gPut_self h3]
end MH
/-- the check digit's tag of a handle -/
def tb (x : Int) : Int := 10 * x + (3 * (x / 1000) + x / 100 % 10 + 7 * (x / 10 % 10) + 9 * (x % 10)) % 10
abbrev isHk (F : Int → Int) (x : Int) : Prop := 0 ≤ x ∧ x ≤ 59 ∧ x / 12 < F 1 ∧ x % 12 < F (14 + 3 * (x / 12) + 0)
abbrev isFr (F : Int → Int) (x z : Int) : Prop := isHk F x ∧ ¬ F (29 + 8 * x + 1) = 1 ∧ F (29 + 8 * x + 5) = 0 ∧ F (14 + 3 * (x / 12) + 2) = 1 ∧ z ≤ F (14 + 3 * (x / 12) + 1)
abbrev isTg (t : Int) : Prop := 0 ≤ t ∧ t ≤ 59999 ∧ tb (t / 10) = t
/-- sums -/
def sm (f : Int → Int) : Nat → Int
  | 0 => 0
  | n + 1 => sm f n + f n
/-- what the rule goes by -/
def rk (F : Int → Int) (x : Int) : Int := if F 2 = 0 then 0 else if F 2 = 1 then - F (29 + 8 * x + 7) else if F 2 = 2 then F (29 + 8 * x + 7) else F (29 + 8 * x + 0)
def bst (F : Int → Int) (z : Int) : Nat → Int
  | 0 => -5
  | n + 1 => if isFr F n z ∧ (bst F z n = -5 ∨ rk F n < rk F (bst F z n)) then n else bst F z n
def fol (F : Int → Int) (x : Int) : Int := F (559 + x) / 512 - 1
def eo (F : Int → Int) (x : Int) : Int := F (559 + x) / 2 % 8
/-- bounds of a state's numbers: n for what only counts -/
def Vd (n : Int) (F : Int → Int) : Prop :=
  ((0 ≤ F 0 ∧ F 0 ≤ 9999) ∧ (0 ≤ F 1 ∧ F 1 ≤ 5) ∧ (0 ≤ F 2 ∧ F 2 ≤ 3) ∧ (0 ≤ F 3 ∧ F 3 ≤ 50) ∧ (1 ≤ F 4 ∧ F 4 ≤ 99)) ∧
  (∀ j : Int, 5 ≤ j → j ≤ 13 → j ≠ 11 → 0 ≤ F j ∧ F j ≤ n) ∧
  (∀ r : Int, 0 ≤ r → r < 5 → (0 ≤ F (14 + 3 * r + 0) ∧ F (14 + 3 * r + 0) ≤ 12) ∧ (0 ≤ F (14 + 3 * r + 1) ∧ F (14 + 3 * r + 1) ≤ 5) ∧ (0 ≤ F (14 + 3 * r + 2) ∧ F (14 + 3 * r + 2) ≤ 1)) ∧
  (∀ x : Int, 0 ≤ x → x < 60 → (0 ≤ F (29 + 8 * x + 0) ∧ F (29 + 8 * x + 0) ≤ 99) ∧ (0 ≤ F (29 + 8 * x + 1) ∧ F (29 + 8 * x + 1) ≤ 1) ∧ (0 ≤ F (29 + 8 * x + 2) ∧ F (29 + 8 * x + 2) ≤ 19) ∧ (0 ≤ F (29 + 8 * x + 3) ∧ F (29 + 8 * x + 3) ≤ 5) ∧
    (0 ≤ F (29 + 8 * x + 4) ∧ F (29 + 8 * x + 4) ≤ 9999) ∧ (0 ≤ F (29 + 8 * x + 5) ∧ F (29 + 8 * x + 5) ≤ 1) ∧ (0 ≤ F (29 + 8 * x + 6) ∧ F (29 + 8 * x + 6) ≤ n) ∧ (0 ≤ F (29 + 8 * x + 7) ∧ F (29 + 8 * x + 7) ≤ n)) ∧
  (∀ y : Int, 0 ≤ y → y < 20 → 0 ≤ F (509 + y) ∧ F (509 + y) ≤ n) ∧
  (∀ y : Int, 0 ≤ y → y < 30 → 0 ≤ F (529 + y) ∧ F (529 + y) ≤ 9999) ∧
  (∀ x : Int, 0 ≤ x → x < 6000 → 0 ≤ F (559 + x) ∧ F (559 + x) < 512 * 6001)
