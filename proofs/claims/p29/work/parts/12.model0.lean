/-! ===== the reference: its heap, its words ===== -/
/-- the reference's object at mo, its row at mo + 1, its text at mo + 2, over any heap -/
def MH (mo : Nat) (h : gH) (F : Int → Int) (sn kp : Int) (g : Int → Int) (ln : Int) : gH :=
  gPut (gPut (gPut h mo (.inl (8, [.ref (mo + 1), .int (zI sn), .int (zI kp), .ref (mo + 2), .int (zI ln)]))) (mo + 1) (gI 45913 F)) (mo + 2) (gI 60 g)
section MH
variable {mo : Nat} {h : gH} {F F' g g' : Int → Int} {sn kp ln sn' kp' ln' : Int}
theorem MH_o : (MH mo h F sn kp g ln).1 mo = some (.inl (8, [.ref (mo + 1), .int (zI sn), .int (zI kp), .ref (mo + 2), .int (zI ln)])) := by
  unfold MH
  rw [gPut_ne _ _ (by omega), gPut_ne _ _ (by omega), gPut_eq]
theorem MH_r : (MH mo h F sn kp g ln).1 (mo + 1) = some (gI 45913 F) := by
  unfold MH
  rw [gPut_ne _ _ (by omega), gPut_eq]
theorem MH_t : (MH mo h F sn kp g ln).1 (mo + 2) = some (gI 60 g) := by
  unfold MH
  rw [gPut_eq]
theorem MH_2 : (MH mo h F sn kp g ln).2 = h.2 := rfl
theorem MH_ne {a : Nat} (h1 : a ≠ mo) (h2 : a ≠ mo + 1) (h3 : a ≠ mo + 2) : (MH mo h F sn kp g ln).1 a = h.1 a := by
  unfold MH
  rw [gPut_ne _ _ h3, gPut_ne _ _ h2, gPut_ne _ _ h1]
theorem gPut_comm (h : gH) {a b : Nat} (c d : gC) (hab : a ≠ b) : gPut (gPut h a c) b d = gPut (gPut h b d) a c := by
  unfold gPut
  congr 1
  funext q
  by_cases h1 : q = a
  · subst h1; simp [hab]
  · simp [h1]
theorem MH_po : gPut (MH mo h F sn kp g ln) mo (.inl (8, [.ref (mo + 1), .int (zI sn'), .int (zI kp'), .ref (mo + 2), .int (zI ln')])) = MH mo h F sn' kp' g ln' := by
  unfold MH
  rw [gPut_comm _ _ _ (show mo + 2 ≠ mo by omega), gPut_comm _ _ _ (show mo + 1 ≠ mo by omega), gPut_gPut]
theorem MH_pr : gPut (MH mo h F sn kp g ln) (mo + 1) (gI 45913 F') = MH mo h F' sn kp g ln := by
  unfold MH
  rw [gPut_comm _ _ _ (show mo + 2 ≠ mo + 1 by omega), gPut_gPut]
theorem MH_pt : gPut (MH mo h F sn kp g ln) (mo + 2) (gI 60 g') = MH mo h F sn kp g' ln := by
  unfold MH
  rw [gPut_gPut]
/-- a heap that holds it is of this form -/
theorem MH_of {H : gH} (h1 : H.1 mo = some (.inl (8, [.ref (mo + 1), .int (zI sn), .int (zI kp), .ref (mo + 2), .int (zI ln)]))) (h2 : H.1 (mo + 1) = some (gI 45913 F)) (h3 : H.1 (mo + 2) = some (gI 60 g)) : MH mo H F sn kp g ln = H := by
  unfold MH
  rw [gPut_self h1, gPut_self h2, gPut_self h3]
end MH
/-- the check digit's tag of a handle -/
def tb (x : Int) : Int := 10 * x + (3 * (x / 1000) + x / 100 % 10 + 7 * (x / 10 % 10) + 9 * (x % 10)) % 10
abbrev isHk (F : Int → Int) (x : Int) : Prop := 0 ≤ x ∧ x ≤ 59 ∧ x / 12 < F 1 ∧ x % 12 < F (14 + 3 * (x / 12) + 0)
abbrev isFr (F : Int → Int) (x z : Int) : Prop := isHk F x ∧ ¬ F (29 + 8 * x + 1) = 1 ∧ F (29 + 8 * x + 5) = 0 ∧ F (14 + 3 * (x / 12) + 2) = 1 ∧ z ≤ F (14 + 3 * (x / 12) + 1)
abbrev isTg (t : Int) : Prop := 0 ≤ t ∧ t ≤ 59999 ∧ tb (t / 10) = t
/-- sums -/
def sm (f : Int → Int) : Nat → Int
  | 0 => 0
  | n + 1 => sm f n + f n
/-- what the rule goes by -/
def rk (F : Int → Int) (x : Int) : Int := if F 2 = 0 then 0 else if F 2 = 1 then - F (29 + 8 * x + 7) else if F 2 = 2 then F (29 + 8 * x + 7) else F (29 + 8 * x + 0)
def bst (F : Int → Int) (z : Int) : Nat → Int
  | 0 => -5
  | n + 1 => if isFr F n z ∧ (bst F z n = -5 ∨ rk F n < rk F (bst F z n)) then n else bst F z n
def fol (F : Int → Int) (x : Int) : Int := F (559 + x) / 512 - 1
def eo (F : Int → Int) (x : Int) : Int := F (559 + x) / 2 % 8
/-- bounds of a state's numbers: n for what only counts -/
def Vd (n : Int) (F : Int → Int) : Prop :=
  ((0 ≤ F 0 ∧ F 0 ≤ 9999) ∧ (0 ≤ F 1 ∧ F 1 ≤ 5) ∧ (0 ≤ F 2 ∧ F 2 ≤ 3) ∧ (0 ≤ F 3 ∧ F 3 ≤ 50) ∧ (1 ≤ F 4 ∧ F 4 ≤ 99)) ∧
  (∀ j : Int, 5 ≤ j → j ≤ 13 → j ≠ 11 → 0 ≤ F j ∧ F j ≤ n) ∧
  (∀ r : Int, 0 ≤ r → r < 5 → (0 ≤ F (14 + 3 * r + 0) ∧ F (14 + 3 * r + 0) ≤ 12) ∧ (0 ≤ F (14 + 3 * r + 1) ∧ F (14 + 3 * r + 1) ≤ 5) ∧ (0 ≤ F (14 + 3 * r + 2) ∧ F (14 + 3 * r + 2) ≤ 1)) ∧
  (∀ x : Int, 0 ≤ x → x < 60 → (0 ≤ F (29 + 8 * x + 0) ∧ F (29 + 8 * x + 0) ≤ 99) ∧ (0 ≤ F (29 + 8 * x + 1) ∧ F (29 + 8 * x + 1) ≤ 1) ∧ (0 ≤ F (29 + 8 * x + 2) ∧ F (29 + 8 * x + 2) ≤ 19) ∧ (0 ≤ F (29 + 8 * x + 3) ∧ F (29 + 8 * x + 3) ≤ 5) ∧
    (0 ≤ F (29 + 8 * x + 4) ∧ F (29 + 8 * x + 4) ≤ 9999) ∧ (0 ≤ F (29 + 8 * x + 5) ∧ F (29 + 8 * x + 5) ≤ 1) ∧ (0 ≤ F (29 + 8 * x + 6) ∧ F (29 + 8 * x + 6) ≤ n) ∧ (0 ≤ F (29 + 8 * x + 7) ∧ F (29 + 8 * x + 7) ≤ n)) ∧
  (∀ y : Int, 0 ≤ y → y < 20 → 0 ≤ F (509 + y) ∧ F (509 + y) ≤ n) ∧
  (∀ y : Int, 0 ≤ y → y < 30 → 0 ≤ F (529 + y) ∧ F (529 + y) ≤ 9999) ∧
  (∀ x : Int, 0 ≤ x → x < 6000 → 0 ≤ F (559 + x) ∧ F (559 + x) < 512 * 6001)
/-- a coat leaves; comes; the log; an end; what is due -/
def hdl (F : Int → Int) (x : Int) : Int := 100 * x + F (29 + 8 * x + 0)
def lvF (F : Int → Int) (x : Int) : Int → Int :=
  zup (zup (zup (zup (zup (zup F (29 + 8 * x + 1) 0) (29 + 8 * x + 5) (bI (F (29 + 8 * x + 0) = 99))) (29 + 8 * x + 0) (F (29 + 8 * x + 0) + bI (¬ F (29 + 8 * x + 0) = 99))) (29 + 8 * x + 6) (F (29 + 8 * x + 6) + 1)) 12 (F 12 + 1)) (29 + 8 * x + 7) (F 12 + 1)
def hgF (F : Int → Int) (x y z d : Int) : Int → Int :=
  zup (zup (zup (zup (zup (zup F (29 + 8 * x + 1) 1) (29 + 8 * x + 2) y) (29 + 8 * x + 3) z) (29 + 8 * x + 4) d) (559 + hdl F x) (1 + 16 * y)) 5 (F 5 + 1)
def lgF (F : Int → Int) (c e : Int) : Int → Int :=
  zup (zup (zup (zup F (529 + 3 * (F 13 % 10)) c) (529 + 3 * (F 13 % 10) + 1) e) (529 + 3 * (F 13 % 10) + 2) (F 0)) 13 (F 13 + 1)
def enF (F : Int → Int) (x e c : Int) : Int → Int := lgF (lvF (zup F (559 + hdl F x) (F (559 + hdl F x) + 2 * e)) x) c (hdl F x)
def duF (F : Int → Int) (x : Int) : Int := if F 3 < F (29 + 8 * x + 3) * F 3 * (F 0 - F (29 + 8 * x + 4)) then F (29 + 8 * x + 3) * F 3 * (F 0 - F (29 + 8 * x + 4)) else F 3
theorem du_b {a b c : Int} (ha : 0 ≤ a) (ha2 : a ≤ 5) (hb : 0 ≤ b) (hb2 : b ≤ 50) (hc : -9999 ≤ c) (hc2 : c ≤ 9999) : -2500000 ≤ a * b * c ∧ a * b * c ≤ 2500000 := by
  have h1 : 0 ≤ a * b := Int.mul_nonneg ha hb
  have h2 : a * b ≤ 250 := by
    have := Int.mul_le_mul ha2 hb2 hb (by omega : (0 : Int) ≤ 5)
    omega
  generalize a * b = p at *
  have h3 : p * c ≤ 250 * 9999 := by
    have g1 : p * c ≤ p * 9999 := Int.mul_le_mul_of_nonneg_left hc2 h1
    omega
  have h4 : p * (-9999) ≤ p * c := Int.mul_le_mul_of_nonneg_left hc h1
  omega
theorem duF_b {n : Int} {F : Int → Int} (hV : Vd n F) {x : Int} (h0 : 0 ≤ x) (h1 : x < 60) : 0 ≤ duF F x ∧ duF F x ≤ 2500000 := by
  have hx := hV.2.2.2.1 x h0 h1
  have h := hV.1
  have := du_b (a := F (29 + 8 * x + 3)) (b := F 3) (c := F 0 - F (29 + 8 * x + 4)) (by omega) (by omega) (by omega) (by omega) (by omega) (by omega)
  unfold duF
  split <;> omega
/-- blocks copied -/
def cpk (F : Int → Int) (a b : Int) (k : Int) : Int → Int := fun j => if b ≤ j ∧ j < b + k then F (j - b + a) else F j
def cpF (F : Int → Int) (a b : Int) : Int → Int := cpk F a b 6559
theorem cpk_0 (F : Int → Int) (a b : Int) : cpk F a b 0 = F := by
  funext j
  unfold cpk
  rw [if_neg (by omega)]
theorem cpk_s (F : Int → Int) {a b k : Int} (hk : 0 ≤ k) (hd : a + k < b ∨ b + k ≤ a) : zup (cpk F a b k) (b + k) (cpk F a b k (a + k)) = cpk F a b (k + 1) := by
  funext j
  have e : cpk F a b k (a + k) = F (a + k) := by
    unfold cpk
    rw [if_neg (by omega)]
  rw [e]
  unfold zup cpk
  by_cases hj : j = b + k
  · subst hj
    rw [if_pos rfl, if_pos (by omega)]
    congr 1
    omega
  · rw [if_neg hj]
    by_cases h1 : b ≤ j ∧ j < b + k
    · rw [if_pos h1, if_pos (by omega)]
    · rw [if_neg h1, if_neg (by omega)]
theorem cpF_in {F : Int → Int} {a b j : Int} (h1 : b ≤ j) (h2 : j < b + 6559) : cpF F a b j = F (j - b + a) := if_pos ⟨h1, h2⟩
theorem cpF_out {F : Int → Int} {a b j : Int} (h : j < b ∨ b + 6559 ≤ j) : cpF F a b j = F j := if_neg (by omega)
def rcF (F : Int → Int) (sn b : Int) : Int → Int := if sn = 4 then cpF (cpF (cpF (cpF F 13118 6559) 19677 13118) 26236 19677) b 26236 else cpF F b (6559 + 6559 * sn)
def rcS (sn : Int) : Int := if sn = 4 then 4 else sn + 1
theorem rcF_lo {F : Int → Int} {sn b j : Int} (h0 : 0 ≤ sn) (h1 : sn ≤ 4) (hj : j < 6559) : rcF F sn b j = F j := by
  unfold rcF
  split
  · rw [cpF_out (by omega), cpF_out (by omega), cpF_out (by omega), cpF_out (by omega)]
  · rw [cpF_out (by omega)]
theorem rcF_hi {F : Int → Int} {sn b j : Int} (h0 : 0 ≤ sn) (h1 : sn ≤ 4) (hj : 32795 ≤ j) : rcF F sn b j = F j := by
  unfold rcF
  split
  · rw [cpF_out (by omega), cpF_out (by omega), cpF_out (by omega), cpF_out (by omega)]
  · rw [cpF_out (by omega)]
