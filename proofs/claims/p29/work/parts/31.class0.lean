/-! ===== the class: its heap as a function of rows ===== -/
/-- a state: its row, the entries of the coats by hooks, the arrays of its handles: addresses, length, contents -/
abbrev SC : Type := (Int → Int) × (Int → Int) × (Nat → Nat) × Nat × (Nat → Int → Int)
abbrev xR (X : SC) : Int → Int := X.1
abbrev xT (X : SC) : Int → Int := X.2.1
abbrev xA (X : SC) : Nat → Nat := X.2.2.1
abbrev xN (X : SC) : Nat := X.2.2.2.1
abbrev xV (X : SC) : Nat → Int → Int := X.2.2.2.2
/-- a row's first entries, nothing behind -/
def cut (n : Int) (f : Int → Int) : Int → Int := fun j => if 0 ≤ j ∧ j < n then f j else 0
theorem cut_at {n j : Int} {f : Int → Int} (h0 : 0 ≤ j) (h1 : j < n) : cut n f j = f j := if_pos ⟨h0, h1⟩
theorem cut_congr {n : Int} {f g : Int → Int} (h : ∀ j : Int, 0 ≤ j → j < n → f j = g j) : cut n f = cut n g := by
  funext j
  unfold cut
  by_cases q : 0 ≤ j ∧ j < n
  · rw [if_pos q, if_pos q]
    exact h j q.1 q.2
  · rw [if_neg q, if_neg q]
theorem cut_up {n i v : Int} {f g : Int → Int} (hi : 0 ≤ i ∧ i < n) (hg : ∀ j : Int, 0 ≤ j → j < n → g j = if j = i then v else f j) : zup (cut n f) i v = cut n g := by
  funext j
  unfold zup cut
  by_cases q : 0 ≤ j ∧ j < n
  · rw [if_pos q, if_pos q, hg j q.1 q.2]
  · rw [if_neg q, if_neg q, if_neg (by omega)]
/-- where a kind of event is counted -/
def tmx (k : Int) : Int := if k = 0 then 6 else if k = 1 then 10 else k + 5
def hkC (X : SC) (n : Int) : gC := .inl (2, [.int (zI n), .int (zI (xR X (29 + 8 * n + 0))), .int (zI (xR X (29 + 8 * n + 5))), .int (zI (xR X (29 + 8 * n + 6))), .int (zI (xR X (29 + 8 * n + 7))), .int (zI (xT X n)), .int (zI (xR X (29 + 8 * n + 3))), .int (zI (xR X (29 + 8 * n + 4)))])
def rkC (s : Nat) (X : SC) (k : Int) : gC := .inl (4, [.ref (s + 16 + 14 * k.toNat), .int (zI (xR X (14 + 3 * k + 0))), .int (zI (xR X (14 + 3 * k + 1))), .int (zI (xR X (14 + 3 * k + 2)))])
def stC (s : Nat) (X : SC) : gC := .inl (5, [.ref (s + 1), .int (zI (xR X 1)), .ref (s + 2), .ref (s + 8), .ref (s + 13), .ref (s + 14), .int (zI (xR X 0)), .int (zI (xR X 11)), .int (zI (xR X 12))])
def haC (X : SC) : gC := .inl (0, [.int (zI (xR X 5)), .ref (xA X 0), .ref (xA X 1), .ref (xA X 2), .ref (xA X 3), .ref (xA X 4)])
def lgC (s : Nat) (X : SC) : gC := .inl (3, [.int (zI (xR X 13)), .ref (s + 9), .ref (s + 10), .ref (s + 11), .ref (s + 12)])
/-- the cell of a state at an offset from its base; 3 to 7: the first arrays of its handles, which may be left behind -/
def xS (s : Nat) (X : SC) (o : Nat) : Option gC :=
  if o = 0 then some (stC s X) else if o = 1 then some (.inr (2, 5, fun j => (fun i : Int => .ref (s + 15 + 14 * i.toNat)) (j : Int))) else if o = 2 then some (haC X) else if o < 8 then none
  else if o = 8 then some (lgC s X) else if o = 9 then some (gI 10 (cut 10 fun j => xR X (529 + 3 * j))) else if o = 10 then some (gI 10 (cut 10 fun j => xR X (529 + 3 * j + 1))) else if o = 11 then some (gI 10 (cut 10 fun j => xR X (529 + 3 * j + 2)))
  else if o = 12 then some (gI 5 (cut 5 fun j => xR X (tmx j))) else if o = 13 then some (gI 3 (cut 3 fun j => xR X (2 + j))) else if o = 14 then some (gI 20 (cut 20 fun j => xR X (509 + j)))
  else if (o - 15) % 14 = 0 then some (rkC s X (((o - 15) / 14 : Nat) : Int)) else if (o - 15) % 14 = 1 then some (.inr (3, 12, fun j => (fun i : Int => .ref (s + 17 + 14 * ((o - 15) / 14) + i.toNat)) (j : Int)))
  else some (hkC X (12 * (((o - 15) / 14 : Nat) : Int) + (((o - 15) % 14 - 2 : Nat) : Int)))
/-- whose cell an entry of the row stands in -/
def own (j : Int) : Nat := if j = 0 ∨ j = 1 ∨ j = 11 ∨ j = 12 then 0 else if j = 5 then 2 else if j = 13 then 8 else if 529 ≤ j then 9 + ((j - 529) % 3).toNat else if 6 ≤ j ∧ j ≤ 10 then 12 else if j ≤ 4 then 13 else if 509 ≤ j then 14
  else if j < 29 then 15 + 14 * ((j - 14) / 3).toNat else 17 + 14 * ((j - 29) / 96).toNat + ((j - 29) / 8 % 12).toNat
theorem xS_ne {s : Nat} {X Y : SC} {o : Nat} (ho : o < 85) (hr : ∀ j : Int, 0 ≤ j → j < 559 → own j = o → xR Y j = xR X j) (hc : ∀ n : Int, 0 ≤ n → n < 60 → 17 + 14 * (n / 12).toNat + (n % 12).toNat = o → xT Y n = xT X n) (ha : o = 2 → ∀ j : Nat, j < 5 → xA Y j = xA X j) : xS s Y o = xS s X o := by
  unfold xS
  by_cases h0 : o = 0
  · subst h0
    rw [if_pos rfl, if_pos rfl]
    unfold stC
    rw [hr 1 (by omega) (by omega) rfl, hr 0 (by omega) (by omega) rfl, hr 11 (by omega) (by omega) rfl, hr 12 (by omega) (by omega) rfl]
  rw [if_neg h0, if_neg h0]
  by_cases h1 : o = 1
  · rw [if_pos h1, if_pos h1]
  rw [if_neg h1, if_neg h1]
  by_cases h2 : o = 2
  · subst h2
    rw [if_pos rfl, if_pos rfl]
    unfold haC
    rw [hr 5 (by omega) (by omega) rfl, ha rfl 0 (by omega), ha rfl 1 (by omega), ha rfl 2 (by omega), ha rfl 3 (by omega), ha rfl 4 (by omega)]
  rw [if_neg h2, if_neg h2]
  by_cases h7 : o < 8
  · rw [if_pos h7, if_pos h7]
  rw [if_neg h7, if_neg h7]
  by_cases h8 : o = 8
  · subst h8
    rw [if_pos rfl, if_pos rfl]
    unfold lgC
    rw [hr 13 (by omega) (by omega) rfl]
  rw [if_neg h8, if_neg h8]
  have ol : ∀ j t : Int, 0 ≤ j → j < 10 → 0 ≤ t → t < 3 → own (529 + 3 * j + t) = 9 + t.toNat := fun j t q0 q1 q2 q3 => by
    unfold own
    rw [if_neg (by omega), if_neg (by omega), if_neg (by omega), if_pos (by omega)]
    congr 2
    omega
  by_cases h9 : o = 9
  · subst h9
    rw [if_pos rfl, if_pos rfl]
    congr 2
    exact cut_congr fun j q0 q1 => hr _ (by omega) (by omega) (by have := ol j 0 q0 q1 (by omega) (by omega); rwa [Int.add_zero] at this)
  rw [if_neg h9, if_neg h9]
  by_cases h10 : o = 10
  · subst h10
    rw [if_pos rfl, if_pos rfl]
    congr 2
    exact cut_congr fun j q0 q1 => hr _ (by omega) (by omega) (ol j 1 q0 q1 (by omega) (by omega))
  rw [if_neg h10, if_neg h10]
  by_cases h11 : o = 11
  · subst h11
    rw [if_pos rfl, if_pos rfl]
    congr 2
    exact cut_congr fun j q0 q1 => hr _ (by omega) (by omega) (ol j 2 q0 q1 (by omega) (by omega))
  rw [if_neg h11, if_neg h11]
  by_cases h12 : o = 12
  · subst h12
    rw [if_pos rfl, if_pos rfl]
    congr 2
    refine cut_congr fun j q0 q1 => ?_
    have ht : 6 ≤ tmx j ∧ tmx j ≤ 10 ∧ tmx j ≠ 11 := by
      unfold tmx
      (repeat' split) <;> omega
    refine hr _ (by omega) (by omega) ?_
    unfold own
    rw [if_neg (by omega), if_neg (by omega), if_neg (by omega), if_neg (by omega), if_pos (by omega)]
  rw [if_neg h12, if_neg h12]
  by_cases h13 : o = 13
  · subst h13
    rw [if_pos rfl, if_pos rfl]
    congr 2
    refine cut_congr fun j q0 q1 => hr _ (by omega) (by omega) ?_
    unfold own
    rw [if_neg (by omega), if_neg (by omega), if_neg (by omega), if_neg (by omega), if_neg (by omega), if_pos (by omega)]
  rw [if_neg h13, if_neg h13]
  by_cases h14 : o = 14
  · subst h14
    rw [if_pos rfl, if_pos rfl]
    congr 2
    refine cut_congr fun j q0 q1 => hr _ (by omega) (by omega) ?_
    unfold own
    rw [if_neg (by omega), if_neg (by omega), if_neg (by omega), if_neg (by omega), if_neg (by omega), if_neg (by omega), if_pos (by omega)]
  rw [if_neg h14, if_neg h14]
  by_cases hm0 : (o - 15) % 14 = 0
  · rw [if_pos hm0, if_pos hm0]
    have oo : ∀ t : Int, 0 ≤ t → t < 3 → own (14 + 3 * (((o - 15) / 14 : Nat) : Int) + t) = o := fun t q0 q1 => by
      unfold own
      rw [if_neg (by omega), if_neg (by omega), if_neg (by omega), if_neg (by omega), if_neg (by omega), if_neg (by omega), if_neg (by omega), if_pos (by omega)]
      omega
    unfold rkC
    rw [hr _ (by omega) (by omega) (oo 0 (by omega) (by omega)), hr _ (by omega) (by omega) (oo 1 (by omega) (by omega)), hr _ (by omega) (by omega) (oo 2 (by omega) (by omega))]
  rw [if_neg hm0, if_neg hm0]
  by_cases hm1 : (o - 15) % 14 = 1
  · rw [if_pos hm1, if_pos hm1]
  rw [if_neg hm1, if_neg hm1]
  have oo : ∀ t : Int, 0 ≤ t → t < 8 → own (29 + 8 * (12 * (((o - 15) / 14 : Nat) : Int) + (((o - 15) % 14 - 2 : Nat) : Int)) + t) = o := fun t q0 q1 => by
    unfold own
    rw [if_neg (by omega), if_neg (by omega), if_neg (by omega), if_neg (by omega), if_neg (by omega), if_neg (by omega), if_neg (by omega), if_neg (by omega)]
    omega
  unfold hkC
  rw [hr _ (by omega) (by omega) (oo 0 (by omega) (by omega)), hr _ (by omega) (by omega) (oo 5 (by omega) (by omega)), hr _ (by omega) (by omega) (oo 6 (by omega) (by omega)), hr _ (by omega) (by omega) (oo 7 (by omega) (by omega)), hr _ (by omega) (by omega) (oo 3 (by omega) (by omega)), hr _ (by omega) (by omega) (oo 4 (by omega) (by omega)),
    hc _ (by omega) (by omega) (by omega)]
