/-! ===== the class's world ===== -/
def sA (B i : Nat) : Nat := B + 1 + 85 * i + (if i < 2 then 0 else 2)
theorem sA_b (B : Nat) {i : Nat} (hi : i < 6) : B < sA B i ∧ sA B i + 85 ≤ B + 513 := by
  unfold sA
  split <;> omega
theorem sA_s (B : Nat) {i k : Nat} (h : i ≠ k) : sA B i + 85 ≤ sA B k ∨ sA B k + 85 ≤ sA B i := by
  unfold sA
  split <;> split <;> omega
theorem sA_t (B : Nat) {i : Nat} (hi : i < 6) : sA B i + 85 ≤ B + 171 ∨ B + 173 ≤ sA B i := by
  unfold sA
  split <;> omega
/-- what stands beside the states: hasSnapshot, newest, size, the text's length, tagCount; the characters, the tags, claimedPlaces -/
abbrev TC : Type := (Int × Int × Int × Int × Int) × (Int → Int) × (Int → Int) × (Int → Int)
def xO (B : Nat) (T : TC) (o : Nat) : Option gC :=
  if o = 0 then some (.inl (7, [.ref (sA B 0), .ref (sA B 1), .int (zI T.1.1), .ref (B + 171), .ref (B + 513), .ref (B + 516)]))
  else if o = 171 then some (.inl (1, [.ref (B + 172), .int (zI T.1.2.1), .int (zI T.1.2.2.1)]))
  else if o = 172 then some (.inr (4, 4, fun j => (fun i : Int => .ref (sA B (2 + i.toNat))) (j : Int)))
  else if o = 513 then some (.inl (6, [.ref (B + 514), .int (zI T.1.2.2.2.1), .ref (B + 515), .int (zI T.1.2.2.2.2)]))
  else if o = 514 then some (gCh 60 T.2.1) else if o = 515 then some (gI 30 T.2.2.1) else if o = 516 then some (gI 30 T.2.2.2) else none
theorem xO_o {B : Nat} {T : TC} {o : Nat} {c : gC} (h : xO B T o = some c) : o = 0 ∨ o = 171 ∨ o = 172 ∨ (513 ≤ o ∧ o < 517) := by
  unfold xO at h
  repeat' split at h
  all_goals first | omega | cases h
/-- the sum of the lengths; what the arrays made so far have cost at most -/
def sN (X : Nat → SC) : Nat := xN (X 0) + xN (X 1) + xN (X 2) + xN (X 3) + xN (X 4) + xN (X 5)
def pt (n : Nat) : Nat := if n < 6000 then 10 * n else 90000
def sP (X : Nat → SC) : Nat := pt (xN (X 0)) + pt (xN (X 1)) + pt (xN (X 2)) + pt (xN (X 3)) + pt (xN (X 4)) + pt (xN (X 5))
def CW (B S : Nat) (h0 h : gH) (X : Nat → SC) (T : TC) : Prop :=
  (∀ (o : Nat) (c : gC), xO B T o = some c → h.1 (B + o) = some c) ∧
  (∀ (i o : Nat) (c : gC), i < 6 → o < 85 → xS (sA B i) (X i) o = some c → h.1 (sA B i + o) = some c) ∧
  (∀ i j : Nat, i < 6 → j < 5 → h.1 (xA (X i) j) = some (gI (xN (X i)) (xV (X i) j))) ∧
  (∀ i j : Nat, i < 6 → j < 5 → (xA (X i) j = sA B i + 3 + j ∨ B + 517 ≤ xA (X i) j) ∧ xA (X i) j < h.2.1) ∧
  (∀ i j i' j' : Nat, i < 6 → j < 5 → i' < 6 → j' < 5 → xA (X i) j = xA (X i') j' → i = i' ∧ j = j') ∧
  (∀ i : Nat, i < 6 → 16 ≤ xN (X i) ∧ xN (X i) ≤ 6000) ∧ B + 517 ≤ h.2.1 ∧
  (∀ q : Nat, (q < B ∨ (B + 517 ≤ q ∧ q < B + 517)) → h.1 q = h0.1 q) ∧
  h.2.1 ≤ B + 517 + 5 * sN X ∧ h.2.2 ≤ S + sP X
def upX (X : Nat → SC) (i : Nat) (Y : SC) : Nat → SC := fun k => if k = i then Y else X k
theorem upX_eq (X : Nat → SC) (i : Nat) (Y : SC) : upX X i Y i = Y := if_pos rfl
theorem upX_ne (X : Nat → SC) {i k : Nat} (Y : SC) (h : k ≠ i) : upX X i Y k = X k := if_neg h
theorem sN_up {X : Nat → SC} {i : Nat} {Y : SC} (h : xN Y = xN (X i)) : sN (upX X i Y) = sN X := by
  have e : ∀ k, xN (upX X i Y k) = xN (X k) := fun k => by
    by_cases q : k = i
    · subst q
      rw [upX_eq, h]
    · rw [upX_ne _ _ q]
  unfold sN
  rw [e, e, e, e, e, e]
theorem sP_up {X : Nat → SC} {i : Nat} {Y : SC} (h : xN Y = xN (X i)) : sP (upX X i Y) = sP X := by
  have e : ∀ k, xN (upX X i Y k) = xN (X k) := fun k => by
    by_cases q : k = i
    · subst q
      rw [upX_eq, h]
    · rw [upX_ne _ _ q]
  unfold sP
  rw [e, e, e, e, e, e]
section CWs
variable {B S : Nat} {h0 h : gH} {X : Nat → SC} {T : TC}
/-- one cell of a state written -/
theorem CW.wr (hW : CW B S h0 h X T) {i o : Nat} (hi : i < 6) (ho : o < 85) (ho2 : o < 3 ∨ 8 ≤ o) {Y : SC} {c : gC} (hr : ∀ j : Int, 0 ≤ j → j < 559 → own j ≠ o → xR Y j = xR (X i) j) (hc : ∀ n : Int, 0 ≤ n → n < 60 → 17 + 14 * (n / 12).toNat + (n % 12).toNat ≠ o → xT Y n = xT (X i) n)
    (hA : xA Y = xA (X i)) (hN : xN Y = xN (X i)) (hV : xV Y = xV (X i)) (hcell : xS (sA B i) Y o = some c) : CW B S h0 (gPut h (sA B i + o) c) (upX X i Y) T := by
  obtain ⟨h1, h2, h3, h4, h5, h6, h7, h8, h9, h10⟩ := hW
  have hb := sA_b B hi
  have ht := sA_t B hi
  have eA : ∀ k, xA (upX X i Y k) = xA (X k) := fun k => by
    by_cases q : k = i
    · subst q; rw [upX_eq, hA]
    · rw [upX_ne _ _ q]
  have eN : ∀ k, xN (upX X i Y k) = xN (X k) := fun k => by
    by_cases q : k = i
    · subst q; rw [upX_eq, hN]
    · rw [upX_ne _ _ q]
  have eV : ∀ k, xV (upX X i Y k) = xV (X k) := fun k => by
    by_cases q : k = i
    · subst q; rw [upX_eq, hV]
    · rw [upX_ne _ _ q]
  refine ⟨fun o' c' q => ?_, fun k o' c' q0 q1 q2 => ?_, fun k j q0 q1 => ?_, fun k j q0 q1 => ?_, fun k j k' j' q0 q1 q2 q3 q4 => ?_, fun k q0 => ?_, h7, fun q q0 => ?_, by rw [sN_up hN]; exact h9, by rw [sP_up hN]; exact h10⟩
  · rw [gPut_ne _ _ (by have := xO_o q; omega)]
    exact h1 o' c' q
  · by_cases hk : k = i
    · subst hk
      rw [upX_eq] at q2
      by_cases hoo : o' = o
      · subst hoo
        rw [gPut_eq]
        rw [hcell] at q2
        exact q2
      · rw [gPut_ne _ _ (by omega)]
        refine h2 k o' c' q0 q1 ?_
        rw [← q2]
        exact (xS_ne q1 (fun j r0 r1 r2 => hr j r0 r1 (by omega)) (fun n r0 r1 r2 => hc n r0 r1 (by omega)) (fun _ j _ => by rw [hA])).symm
    · rw [upX_ne _ _ hk] at q2
      rw [gPut_ne _ _ (by have := sA_s B hk; omega)]
      exact h2 k o' c' q0 q1 q2
  · rw [eA, eN, eV]
    have := (h4 k j q0 q1).1
    rw [gPut_ne _ _ (by
      rcases this with q | q
      · by_cases hk : k = i
        · subst hk; omega
        · have := sA_s B hk; omega
      · omega)]
    exact h3 k j q0 q1
  · rw [eA]
    exact h4 k j q0 q1
  · rw [eA, eA] at q4
    exact h5 k j k' j' q0 q1 q2 q3 q4
  · rw [eN]
    exact h6 k q0
  · rw [gPut_ne _ _ (by omega)]
    exact h8 q q0
/-- one array of a state's handles written -/
theorem CW.wa (hW : CW B S h0 h X T) {i j : Nat} (hi : i < 6) (hj : j < 5) {V : Int → Int} {Y : SC} (hR : xR Y = xR (X i)) (hT : xT Y = xT (X i)) (hA : xA Y = xA (X i)) (hN : xN Y = xN (X i)) (hV : xV Y = fun k => if k = j then V else xV (X i) k) : CW B S h0 (gPut h (xA (X i) j) (gI (xN (X i)) V)) (upX X i Y) T := by
  obtain ⟨h1, h2, h3, h4, h5, h6, h7, h8, h9, h10⟩ := hW
  have hb := sA_b B hi
  have ht := sA_t B hi
  have ha := h4 i j hi hj
  have eA : ∀ k, xA (upX X i Y k) = xA (X k) := fun k => by
    by_cases q : k = i
    · subst q; rw [upX_eq, hA]
    · rw [upX_ne _ _ q]
  have eN : ∀ k, xN (upX X i Y k) = xN (X k) := fun k => by
    by_cases q : k = i
    · subst q; rw [upX_eq, hN]
    · rw [upX_ne _ _ q]
  refine ⟨fun o' c' q => ?_, fun k o' c' q0 q1 q2 => ?_, fun k j' q0 q1 => ?_, fun k j' q0 q1 => ?_, fun k j' k' j'' q0 q1 q2 q3 q4 => ?_, fun k q0 => ?_, h7, fun q q0 => ?_, by rw [sN_up hN]; exact h9, by rw [sP_up hN]; exact h10⟩
  · rw [gPut_ne _ _ (by have := xO_o q; omega)]
    exact h1 o' c' q
  · have e : xS (sA B k) (upX X i Y k) o' = xS (sA B k) (X k) o' := by
      by_cases hk : k = i
      · subst hk
        rw [upX_eq]
        exact xS_ne q1 (fun _ _ _ _ => by rw [hR]) (fun _ _ _ _ => by rw [hT]) (fun _ _ _ => by rw [hA])
      · rw [upX_ne _ _ hk]
    rw [e] at q2
    have hkk := sA_b B q0
    have ho : ¬ (3 ≤ o' ∧ o' < 8) := fun q => by
      unfold xS at q2
      rw [if_neg (by omega), if_neg (by omega), if_neg (by omega), if_pos (by omega)] at q2
      cases q2
    rw [gPut_ne _ _ (by
      rcases ha.1 with q | q
      · by_cases hk : k = i
        · subst hk; omega
        · have := sA_s B hk; omega
      · omega)]
    exact h2 k o' c' q0 q1 q2
  · rw [eA, eN]
    by_cases hk : k = i
    · subst hk
      rw [upX_eq, hV]
      by_cases hjj : j' = j
      · subst hjj
        rw [gPut_eq]
        show _ = some (gI _ (if j' = j' then V else _))
        rw [if_pos rfl]
      · rw [gPut_ne _ _ (fun q => hjj (h5 k j' k j q0 q1 hi hj q).2)]
        show _ = some (gI _ (if j' = j then V else _))
        rw [if_neg hjj]
        exact h3 k j' q0 q1
    · rw [upX_ne _ _ hk, gPut_ne _ _ (fun q => hk (h5 k j' i j q0 q1 hi hj q).1)]
      exact h3 k j' q0 q1
  · rw [eA]
    exact h4 k j' q0 q1
  · rw [eA, eA] at q4
    exact h5 k j' k' j'' q0 q1 q2 q3 q4
  · rw [eN]
    exact h6 k q0
  · rw [gPut_ne _ _ (by omega)]
    exact h8 q q0
/-- one cell beside the states written -/
theorem CW.wt (hW : CW B S h0 h X T) {o : Nat} {T' : TC} {c : gC} (hn : ∀ o' c', o' ≠ o → xO B T' o' = some c' → xO B T o' = some c') (hc : xO B T' o = some c) : CW B S h0 (gPut h (B + o) c) X T' := by
  obtain ⟨h1, h2, h3, h4, h5, h6, h7, h8, h9, h10⟩ := hW
  have ho := xO_o hc
  refine ⟨fun o' c' q => ?_, fun k o' c' q0 q1 q2 => ?_, fun k j q0 q1 => ?_, h4, h5, h6, h7, fun q q0 => ?_, h9, h10⟩
  · by_cases hoo : o' = o
    · subst hoo
      rw [gPut_eq]
      rw [hc] at q
      exact q
    · rw [gPut_ne _ _ (by omega)]
      exact h1 o' c' (hn o' c' hoo q)
  · have hb := sA_b B q0
    have ht := sA_t B q0
    rw [gPut_ne _ _ (by omega)]
    exact h2 k o' c' q0 q1 q2
  · have hb := sA_b B q0
    have ht := sA_t B q0
    have := (h4 k j q0 q1).1
    rw [gPut_ne _ _ (by omega)]
    exact h3 k j q0 q1
  · rw [gPut_ne _ _ (by omega)]
    exact h8 q q0
/-- the same cells, other words for them -/
theorem CW.to (hW : CW B S h0 h X T) {i : Nat} {Y : SC} (hr : ∀ j : Int, 0 ≤ j → j < 559 → xR Y j = xR (X i) j) (hT : ∀ n : Int, 0 ≤ n → n < 60 → xT Y n = xT (X i) n) (hA : xA Y = xA (X i)) (hN : xN Y = xN (X i)) (hV : xV Y = xV (X i)) : CW B S h0 h (upX X i Y) T := by
  obtain ⟨h1, h2, h3, h4, h5, h6, h7, h8, h9, h10⟩ := hW
  have eA : ∀ k, xA (upX X i Y k) = xA (X k) := fun k => by
    by_cases q : k = i
    · subst q; rw [upX_eq, hA]
    · rw [upX_ne _ _ q]
  have eN : ∀ k, xN (upX X i Y k) = xN (X k) := fun k => by
    by_cases q : k = i
    · subst q; rw [upX_eq, hN]
    · rw [upX_ne _ _ q]
  have eV : ∀ k, xV (upX X i Y k) = xV (X k) := fun k => by
    by_cases q : k = i
    · subst q; rw [upX_eq, hV]
    · rw [upX_ne _ _ q]
  refine ⟨h1, fun k o' c' q0 q1 q2 => ?_, fun k j q0 q1 => by rw [eA, eN, eV]; exact h3 k j q0 q1, fun k j q0 q1 => by rw [eA]; exact h4 k j q0 q1, fun k j k' j' q0 q1 q2 q3 q4 => by rw [eA, eA] at q4; exact h5 k j k' j' q0 q1 q2 q3 q4, fun k q0 => by rw [eN]; exact h6 k q0, h7, h8, by rw [sN_up hN]; exact h9, by rw [sP_up hN]; exact h10⟩
  by_cases hk : k = i
  · subst hk
    rw [upX_eq] at q2
    refine h2 k o' c' q0 q1 ?_
    rw [← q2]
    exact (xS_ne q1 (fun j r0 r1 _ => hr j r0 r1) (fun n r0 r1 _ => hT n r0 r1) (fun _ j _ => by rw [hA])).symm
  · rw [upX_ne _ _ hk] at q2
    exact h2 k o' c' q0 q1 q2
-- what stands where
theorem CW.yt (hW : CW B S h0 h X T) : h.1 B = some (.inl (7, [.ref (sA B 0), .ref (sA B 1), .int (zI T.1.1), .ref (B + 171), .ref (B + 513), .ref (B + 516)])) := hW.1 0 _ rfl
theorem CW.hy (hW : CW B S h0 h X T) : h.1 (B + 171) = some (.inl (1, [.ref (B + 172), .int (zI T.1.2.1), .int (zI T.1.2.2.1)])) := hW.1 171 _ rfl
theorem CW.hs (hW : CW B S h0 h X T) : h.1 (B + 172) = some (.inr (4, 4, fun j => (fun i : Int => .ref (sA B (2 + i.toNat))) (j : Int))) := hW.1 172 _ rfl
theorem CW.tx (hW : CW B S h0 h X T) : h.1 (B + 513) = some (.inl (6, [.ref (B + 514), .int (zI T.1.2.2.2.1), .ref (B + 515), .int (zI T.1.2.2.2.2)])) := hW.1 513 _ rfl
theorem CW.ch (hW : CW B S h0 h X T) : h.1 (B + 514) = some (gCh 60 T.2.1) := hW.1 514 _ rfl
theorem CW.tg (hW : CW B S h0 h X T) : h.1 (B + 515) = some (gI 30 T.2.2.1) := hW.1 515 _ rfl
theorem CW.cp (hW : CW B S h0 h X T) : h.1 (B + 516) = some (gI 30 T.2.2.2) := hW.1 516 _ rfl
theorem CW.st (hW : CW B S h0 h X T) {i : Nat} (hi : i < 6) : h.1 (sA B i) = some (stC (sA B i) (X i)) := hW.2.1 i 0 _ hi (by omega) rfl
theorem CW.rs (hW : CW B S h0 h X T) {i : Nat} (hi : i < 6) : h.1 (sA B i + 1) = some (.inr (2, 5, fun j => (fun k : Int => .ref (sA B i + 15 + 14 * k.toNat)) (j : Int))) := hW.2.1 i 1 _ hi (by omega) rfl
theorem CW.ha (hW : CW B S h0 h X T) {i : Nat} (hi : i < 6) : h.1 (sA B i + 2) = some (haC (X i)) := hW.2.1 i 2 _ hi (by omega) rfl
theorem CW.lg (hW : CW B S h0 h X T) {i : Nat} (hi : i < 6) : h.1 (sA B i + 8) = some (lgC (sA B i) (X i)) := hW.2.1 i 8 _ hi (by omega) rfl
theorem CW.l0 (hW : CW B S h0 h X T) {i : Nat} (hi : i < 6) : h.1 (sA B i + 9) = some (gI 10 (cut 10 fun j => xR (X i) (529 + 3 * j))) := hW.2.1 i 9 _ hi (by omega) rfl
theorem CW.l1 (hW : CW B S h0 h X T) {i : Nat} (hi : i < 6) : h.1 (sA B i + 10) = some (gI 10 (cut 10 fun j => xR (X i) (529 + 3 * j + 1))) := hW.2.1 i 10 _ hi (by omega) rfl
theorem CW.l2 (hW : CW B S h0 h X T) {i : Nat} (hi : i < 6) : h.1 (sA B i + 11) = some (gI 10 (cut 10 fun j => xR (X i) (529 + 3 * j + 2))) := hW.2.1 i 11 _ hi (by omega) rfl
theorem CW.l3 (hW : CW B S h0 h X T) {i : Nat} (hi : i < 6) : h.1 (sA B i + 12) = some (gI 5 (cut 5 fun j => xR (X i) (tmx j))) := hW.2.1 i 12 _ hi (by omega) rfl
theorem CW.se (hW : CW B S h0 h X T) {i : Nat} (hi : i < 6) : h.1 (sA B i + 13) = some (gI 3 (cut 3 fun j => xR (X i) (2 + j))) := hW.2.1 i 13 _ hi (by omega) rfl
theorem CW.tk (hW : CW B S h0 h X T) {i : Nat} (hi : i < 6) : h.1 (sA B i + 14) = some (gI 20 (cut 20 fun j => xR (X i) (509 + j))) := hW.2.1 i 14 _ hi (by omega) rfl
theorem CW.ar (hW : CW B S h0 h X T) {i j : Nat} (hi : i < 6) (hj : j < 5) : h.1 (xA (X i) j) = some (gI (xN (X i)) (xV (X i) j)) := hW.2.2.1 i j hi hj
theorem xS_rk (s : Nat) (X : SC) {k : Nat} (hk : k < 5) : xS s X (15 + 14 * k) = some (rkC s X k) := by
  unfold xS
  rw [if_neg (by omega), if_neg (by omega), if_neg (by omega), if_neg (by omega), if_neg (by omega), if_neg (by omega), if_neg (by omega), if_neg (by omega), if_neg (by omega), if_neg (by omega), if_neg (by omega), if_pos (by omega), show (15 + 14 * k - 15) / 14 = k by omega]
theorem xS_ra (s : Nat) (X : SC) {k : Nat} (hk : k < 5) : xS s X (16 + 14 * k) = some (.inr (3, 12, fun j => (fun i : Int => .ref (s + 17 + 14 * k + i.toNat)) (j : Int))) := by
  unfold xS
  rw [if_neg (by omega), if_neg (by omega), if_neg (by omega), if_neg (by omega), if_neg (by omega), if_neg (by omega), if_neg (by omega), if_neg (by omega), if_neg (by omega), if_neg (by omega), if_neg (by omega), if_neg (by omega), if_pos (by omega), show (16 + 14 * k - 15) / 14 = k by omega]
theorem xS_hk (s : Nat) (X : SC) {k m : Nat} (hk : k < 5) (hm : m < 12) : xS s X (17 + 14 * k + m) = some (hkC X (12 * k + m)) := by
  unfold xS
  rw [if_neg (by omega), if_neg (by omega), if_neg (by omega), if_neg (by omega), if_neg (by omega), if_neg (by omega), if_neg (by omega), if_neg (by omega), if_neg (by omega), if_neg (by omega), if_neg (by omega), if_neg (by omega), if_neg (by omega), show (17 + 14 * k + m - 15) / 14 = k by omega, show (17 + 14 * k + m - 15) % 14 - 2 = m by omega]
theorem CW.rk (hW : CW B S h0 h X T) {i k : Nat} (hi : i < 6) (hk : k < 5) : h.1 (sA B i + 15 + 14 * k) = some (rkC (sA B i) (X i) k) := by
  have := hW.2.1 i (15 + 14 * k) _ hi (by omega) (xS_rk _ _ hk)
  rwa [← Nat.add_assoc] at this
theorem CW.ra (hW : CW B S h0 h X T) {i k : Nat} (hi : i < 6) (hk : k < 5) : h.1 (sA B i + 16 + 14 * k) = some (.inr (3, 12, fun j => (fun i' : Int => .ref (sA B i + 17 + 14 * k + i'.toNat)) (j : Int))) := by
  have := hW.2.1 i (16 + 14 * k) _ hi (by omega) (xS_ra _ _ hk)
  rwa [← Nat.add_assoc] at this
theorem CW.hk (hW : CW B S h0 h X T) {i k m : Nat} (hi : i < 6) (hk : k < 5) (hm : m < 12) : h.1 (sA B i + 17 + 14 * k + m) = some (hkC (X i) (12 * k + m)) := by
  have := hW.2.1 i (17 + 14 * k + m) _ hi (by omega) (xS_hk _ _ hk hm)
  rwa [← Nat.add_assoc, ← Nat.add_assoc] at this
end CWs
