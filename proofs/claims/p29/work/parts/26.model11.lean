/-! ===== shortened ways; rows that agree; moves of a rack; the text ===== -/
def shF (F : Int → Int) (i : Int) : Int → Int := fun j => if (559 ≤ j ∧ j < 559 + i) ∧ 1 < wy F (j - 559) then F j % 512 + 512 * (la F (j - 559) + 1) else F j
theorem shF_0 (F : Int → Int) : shF F 0 = F := by
  funext j
  unfold shF
  rw [if_neg (by omega)]
theorem shF_lo {F : Int → Int} {i j : Int} (h : j < 559 ∨ 559 + i ≤ j) : shF F i j = F j := if_neg (by omega)
theorem shF_at {F : Int → Int} {i x : Int} (h : 0 ≤ x ∧ x < i) (hw : 1 < wy F x) : shF F i (559 + x) = F (559 + x) % 512 + 512 * (la F x + 1) := by
  unfold shF
  rw [show 559 + x - 559 = x by omega, if_pos (by omega)]
theorem shF_no {F : Int → Int} {i x : Int} (hw : ¬ 1 < wy F x) : shF F i (559 + x) = F (559 + x) := by
  unfold shF
  rw [show 559 + x - 559 = x by omega, if_neg (by omega)]
theorem shF_s {F : Int → Int} {i : Int} (h0 : 0 ≤ i) : shF F (i + 1) = if 1 < wy F i then zup (shF F i) (559 + i) (F (559 + i) % 512 + 512 * (la F i + 1)) else shF F i := by
  funext j
  by_cases hw : 1 < wy F i
  · rw [if_pos hw]
    by_cases hj : j = 559 + i
    · subst hj
      rw [zup_eq, shF_at (by omega) hw]
    · rw [zup_ne _ _ hj]
      unfold shF
      by_cases hc : (559 ≤ j ∧ j < 559 + i) ∧ 1 < wy F (j - 559)
      · rw [if_pos hc, if_pos (by omega)]
      · rw [if_neg hc, if_neg (by omega)]
  · rw [if_neg hw]
    unfold shF
    by_cases hj : j = 559 + i
    · subst hj
      rw [show 559 + i - 559 = i by omega, if_neg (by omega), if_neg (by omega)]
    · by_cases hc : (559 ≤ j ∧ j < 559 + i) ∧ 1 < wy F (j - 559)
      · rw [if_pos hc, if_pos (by omega)]
      · rw [if_neg hc, if_neg (by omega)]
theorem ch_d {n : Int} {F : Int → Int} (hA : AC F) {d : Nat} {x z : Int} (hd : (d : Int) ≤ F 5) (hc : Ch F d x z) : wy F x = d ∧ la F x = z := ⟨Ch.wy hc (by omega), Ch.ls hc (by omega)⟩
/-- in a row whose ways below i are shortened, every way has the same end, and is long where it was and isn't shortened yet -/
theorem shF_ch {F : Int → Int} {i : Int} (hA : AC F) : ∀ {d : Nat} {x z : Int}, (d : Int) ≤ F 5 → Ch F d x z → ∃ d' : Nat, d' ≤ d ∧ Ch (shF F i) d' x z ∧ (d' = 0 ↔ d = 0) ∧ (2 ≤ d → i ≤ x → 2 ≤ d') ∧ (x < i → d' ≤ 1)
  | 0, x, z, hd, hc => by
    have hw := (ch_d (n := 0) hA hd hc).1
    obtain ⟨rfl, h0, h1, h2⟩ := hc
    refine ⟨0, by omega, ⟨rfl, h0, h1, ?_⟩, by omega, by omega, by omega⟩
    rw [fol_congr (shF_no (by omega))]
    exact h2
  | d + 1, x, z, hd, hc => by
    have hw := ch_d (n := 0) hA hd hc
    obtain ⟨h0, h1, h2, h3⟩ := hc
    obtain ⟨e, g1, g2, g3, g4, g5⟩ := shF_ch (i := i) hA (by omega) h3
    have hz := h3.z
    by_cases hx : x < i ∧ 1 < wy F x
    · have hzw : ¬ 1 < wy F z := by
        have := (ch_d (n := 0) (d := 0) (x := z) (z := z) hA (by omega) ⟨rfl, hz.1, hz.2.1, hz.2.2⟩).1
        omega
      have hf : fol (shF F i) x = z := by
        unfold fol
        rw [shF_at ⟨h0, hx.1⟩ hx.2, hw.2]
        omega
      refine ⟨1, by omega, ⟨h0, h1, by rw [hf]; exact hz.1, by rw [hf]; exact ⟨rfl, hz.1, hz.2.1, by rw [fol_congr (shF_no hzw)]; exact hz.2.2⟩⟩, by omega, by omega, by omega⟩
    · have hf : fol (shF F i) x = fol F x := by
        by_cases hx2 : x < i
        · exact fol_congr (shF_no (by omega))
        · exact fol_congr (shF_lo (by omega))
      refine ⟨e + 1, by omega, ⟨h0, h1, by rw [hf]; exact h2, by rw [hf]; exact g2⟩, by omega, by omega, fun q => ?_⟩
      have hd0 : d = 0 := by omega
      omega
theorem shF_AC {F : Int → Int} {i : Int} (hA : AC F) : AC (shF F i) := fun x h0 h1 => by
  obtain ⟨d, z, hd, hc⟩ := hA x h0 h1
  obtain ⟨e, g1, g2, -⟩ := shF_ch (i := i) hA hd hc
  exact ⟨e, z, by rw [shF_lo (by omega)]; omega, g2⟩
theorem shF_la {F : Int → Int} {i x : Int} (hA : AC F) (h0 : 0 ≤ x) (h1 : x < 6000) : la (shF F i) x = la F x ∧ (i ≤ x → (1 < wy (shF F i) x ↔ 1 < wy F x)) := by
  obtain ⟨d, hd, hc, hw⟩ := hA.en h0 h1
  obtain ⟨e, g1, g2, g3, g4, g5⟩ := shF_ch (i := i) hA hd hc
  have h5 : shF F i 5 = F 5 := shF_lo (by omega)
  have hq := ch_d (n := 0) (shF_AC (i := i) hA) (by rw [h5]; omega) g2
  exact ⟨hq.2, fun q => by omega⟩
theorem shF_Vb {n : Int} {F : Int → Int} (h : Vb n F) (hA : AC F) (i : Int) : Vb n (shF F i) := fun j h0 h1 h2 => by
  by_cases hc : (559 ≤ j ∧ j < 559 + i) ∧ 1 < wy F (j - 559)
  · obtain ⟨x, rfl⟩ : ∃ x, j = 559 + x := ⟨j - 559, by omega⟩
    rw [show 559 + x - 559 = x by omega] at hc
    have hb := hA.b (x := x) (by omega) (by omega)
    have hv := h.vd.2.2.2.2.2.2 x (by omega) (by omega)
    rw [shF_at (by omega) hc.2, bLo_0 (by omega), bHi_t n x (by omega) (by omega)]
    omega
  · unfold shF
    rw [if_neg hc]
    exact h j h0 h1 h2
/-- how many ways are shortened -/
def nSh (F : Int → Int) : Nat → Int
  | 0 => 0
  | n + 1 => nSh F n + bI (1 < wy F n)
def c_sh (F : Int → Int) : Int := if nSh F 6000 = 0 then -5 else nSh F 6000
theorem nSh_b (F : Int → Int) : ∀ n : Nat, 0 ≤ nSh F n ∧ nSh F n ≤ n
  | 0 => ⟨by show (0 : Int) ≤ 0; omega, by show (0 : Int) ≤ 0; omega⟩
  | n + 1 => by
    have := nSh_b F n
    have hb := bI_b (1 < wy F n)
    show 0 ≤ nSh F n + bI _ ∧ nSh F n + bI _ ≤ _
    omega
theorem nSh_s (F : Int → Int) (n : Nat) : nSh F (n + 1) = nSh F n + bI (1 < wy F n) := rfl
theorem gw_s (F : Int → Int) (n : Nat) : gw F (n + 1) = if gw F n < wy F n then wy F n else gw F n := rfl
theorem wy_b {n : Int} {F : Int → Int} (hV : Vd n F) (hA : AC F) {x : Int} (h0 : 0 ≤ x) (h1 : x < 6000) : 0 ≤ wy F x ∧ wy F x ≤ n := by
  obtain ⟨d, hd, -, hw⟩ := hA.en h0 h1
  have := hV.2.1 5 (by omega) (by omega) (by omega)
  omega
theorem gw_b {n : Int} {F : Int → Int} (hV : Vd n F) (hA : AC F) : ∀ i : Nat, i ≤ 6000 → 0 ≤ gw F i ∧ gw F i ≤ n
  | 0, _ => ⟨by show (0 : Int) ≤ 0; omega, by have := hV.2.1 5 (by omega) (by omega) (by omega); show (0 : Int) ≤ n; omega⟩
  | i + 1, hi => by
    have h1 := gw_b hV hA i (by omega)
    have h2 := wy_b hV hA (x := i) (by omega) (by omega)
    rw [gw_s]
    split <;> omega
-- rows that agree in the entries of a state
def Ag (F G : Int → Int) : Prop := ∀ j : Int, j < 6559 → G j = F j
def Ou (F G : Int → Int) : Prop := ∀ j : Int, 6559 ≤ j → G j = F j
theorem Ag.up {F G : Int → Int} (h : Ag F G) {i v w : Int} (hv : w = v) : Ag (zup F i v) (zup G i w) := fun j hj => by
  subst hv
  by_cases hi : j = i
  · subst hi
    rw [zup_eq, zup_eq]
  · rw [zup_ne _ _ hi, zup_ne _ _ hi]
    exact h j hj
theorem Ou.up {F G : Int → Int} (h : Ou F G) {i v : Int} (hi : i < 6559) : Ou F (zup G i v) := fun j hj => by
  rw [zup_ne _ _ (by omega)]
  exact h j hj
theorem Ou.rf (F : Int → Int) : Ou F F := fun _ _ => rfl
-- moves of a rack
/-- the lowest hook of the rack b that is free for a coat of size z, among the first -/
def fo (F : Int → Int) (b z : Int) : Nat → Int
  | 0 => -5
  | n + 1 => if ¬ fo F b z n = -5 then fo F b z n else if isFr F (12 * b + n) z then 12 * b + n else -5
theorem fo_s (F : Int → Int) (b z : Int) (n : Nat) : fo F b z (n + 1) = if ¬ fo F b z n = -5 then fo F b z n else if isFr F (12 * b + n) z then 12 * b + n else -5 := rfl
theorem fo_b {F : Int → Int} {b z : Int} (hb : 0 ≤ b) : ∀ n : Nat, fo F b z n = -5 ∨ (12 * b ≤ fo F b z n ∧ fo F b z n < 12 * b + n ∧ isFr F (fo F b z n) z)
  | 0 => Or.inl rfl
  | n + 1 => by
    have ih := fo_b hb (F := F) (z := z) n
    rw [fo_s]
    by_cases h1 : fo F b z n = -5
    · rw [if_neg (fun q => q h1)]
      by_cases h2 : isFr F (12 * b + n) z
      · rw [if_pos h2]
        exact Or.inr ⟨by omega, by omega, h2⟩
      · rw [if_neg h2]
        exact Or.inl rfl
    · rw [if_pos h1]
      rcases ih with q | q
      · exact absurd q h1
      · exact Or.inr ⟨q.1, by omega, q.2.2⟩
theorem fo_keep {F : Int → Int} {b z : Int} {n : Nat} (h : ¬ fo F b z n = -5) : ∀ k : Nat, fo F b z (n + k) = fo F b z n
  | 0 => rfl
  | k + 1 => by
    show fo F b z (n + k + 1) = _
    rw [fo_s, fo_keep h k, if_pos h]
theorem fo_at {F : Int → Int} {b z : Int} {n : Nat} (h : fo F b z n = -5) (hf : isFr F (12 * b + n) z) (hb : 0 ≤ b) (hn : n < 12) : fo F b z 12 = 12 * b + n := by
  have h1 : fo F b z (n + 1) = 12 * b + n := by rw [fo_s, if_neg (fun q => q h), if_pos hf]
  have h2 := fo_keep (n := n + 1) (by rw [h1]; omega) (11 - n)
  rw [show n + 1 + (11 - n) = 12 by omega] at h2
  rw [h2, h1]
/-- the moves of a rack's first hooks: whether all could be, the row -/
def mvS (F : Int → Int) (a b : Int) : Nat → Int × (Int → Int)
  | 0 => (1, F)
  | n + 1 => if ¬ (mvS F a b n).1 = 1 then mvS F a b n else if ¬ (mvS F a b n).2 (29 + 8 * (12 * a + n) + 1) = 1 then mvS F a b n
      else if fo (mvS F a b n).2 b ((mvS F a b n).2 (29 + 8 * (12 * a + n) + 3)) 12 = -5 then (0, (mvS F a b n).2)
      else (1, dmU (mvS F a b n).2 (12 * a + n) (fo (mvS F a b n).2 b ((mvS F a b n).2 (29 + 8 * (12 * a + n) + 3)) 12))
theorem mvS_s (F : Int → Int) (a b : Int) (n : Nat) (P : Int × (Int → Int)) (hP : mvS F a b n = P) : mvS F a b (n + 1) = if ¬ P.1 = 1 then P else if ¬ P.2 (29 + 8 * (12 * a + n) + 1) = 1 then P
      else if fo P.2 b (P.2 (29 + 8 * (12 * a + n) + 3)) 12 = -5 then (0, P.2) else (1, dmU P.2 (12 * a + n) (fo P.2 b (P.2 (29 + 8 * (12 * a + n) + 3)) 12)) := by
  subst hP
  rfl
theorem mvS_keep {F : Int → Int} {a b : Int} {n : Nat} (h : ¬ (mvS F a b n).1 = 1) : ∀ k : Nat, mvS F a b (n + k) = mvS F a b n
  | 0 => rfl
  | k + 1 => by
    show mvS F a b (n + k + 1) = _
    rw [mvS_s _ _ _ _ _ (mvS_keep h k), if_pos h]
def c_ma (F : Int → Int) (a b : Int) : Int := if ¬ (0 ≤ a ∧ a ≤ F 1 - 1) then -1 else if ¬ (0 ≤ b ∧ b ≤ F 1 - 1) then -1 else if a = b then -2 else if sC F a = 0 then -5 else if (mvS F a b 12).1 = 1 then sC F a else -4
def u_ma (G : Int → Int) (a b : Int) : Int → Int := (mvS G a b 12).2
theorem J.mv {n a b : Int} {F : Int → Int} (h : J n F) (ha : 0 ≤ a ∧ a < 5) (hb : 0 ≤ b ∧ b < 5) (hab : a ≠ b) : ∀ i : Nat, i ≤ 12 → J (n + 3 * i) (mvS F a b i).2
  | 0, _ => h.mono (by omega)
  | i + 1, hi => by
    have ih := J.mv h ha hb hab i (by omega)
    rw [mvS_s _ _ _ _ _ rfl]
    generalize mvS F a b i = P at ih ⊢
    have hm : J (n + 3 * ((i + 1 : Nat) : Int)) P.2 := ih.mono (by omega)
    by_cases q1 : P.1 = 1
    · rw [if_neg (fun q => q q1)]
      by_cases q2 : P.2 (29 + 8 * (12 * a + i) + 1) = 1
      · rw [if_neg (fun q => q q2)]
        by_cases q3 : fo P.2 b (P.2 (29 + 8 * (12 * a + i) + 3)) 12 = -5
        · rw [if_pos q3]
          exact hm
        · rw [if_neg q3]
          have hf := (fo_b (F := P.2) (z := P.2 (29 + 8 * (12 * a + i) + 3)) hb.1 12).resolve_left q3
          have hk := ih.1.vd.2.2.2.1 (fo P.2 b (P.2 (29 + 8 * (12 * a + i) + 3)) 12) (by omega) (by omega)
          exact (ih.dm (a := 12 * a + i) (b := fo P.2 b (P.2 (29 + 8 * (12 * a + i) + 3)) 12) (by omega) (by omega) (by omega) (by omega) q2 (by omega) (by omega) hf.2.2.1).mono (by omega)
      · rw [if_pos q2]
        exact hm
    · rw [if_pos q1]
      exact hm
theorem mvS_ou {F : Int → Int} {n a b : Int} (h : J n F) (ha : 0 ≤ a ∧ a < 5) (hb : 0 ≤ b ∧ b < 5) (hab : a ≠ b) : ∀ i : Nat, i ≤ 12 → Ou F (mvS F a b i).2 ∧ ((mvS F a b i).1 = 0 ∨ (mvS F a b i).1 = 1)
  | 0, _ => ⟨Ou.rf F, Or.inr rfl⟩
  | i + 1, hi => by
    have ih := mvS_ou h ha hb hab i (by omega)
    have hj := h.mv ha hb hab i (by omega)
    rw [mvS_s _ _ _ _ _ rfl]
    generalize mvS F a b i = P at ih hj ⊢
    by_cases q1 : P.1 = 1
    · rw [if_neg (fun q => q q1)]
      by_cases q2 : P.2 (29 + 8 * (12 * a + i) + 1) = 1
      · rw [if_neg (fun q => q q2)]
        by_cases q3 : fo P.2 b (P.2 (29 + 8 * (12 * a + i) + 3)) 12 = -5
        · rw [if_pos q3]
          exact ⟨ih.1, Or.inl rfl⟩
        · rw [if_neg q3]
          have hf := (fo_b (F := P.2) (z := P.2 (29 + 8 * (12 * a + i) + 3)) hb.1 12).resolve_left q3
          generalize fo P.2 b (P.2 (29 + 8 * (12 * a + i) + 3)) 12 = y at hf ⊢
          have hba := hdl_b hj.1.vd (x := 12 * a + i) (by omega) (by omega)
          have hbb := hdl_b hj.1.vd (x := y) (by omega) (by omega)
          have hlv := hdl_lv (F := P.2) (a := 12 * a + i) (b := y) (by omega)
          refine ⟨fun j hj2 => ?_, Or.inr rfl⟩
          show dmU P.2 (12 * a + i) y j = _
          simp (disch := omega) only [dmU, lgF_o, zup_ne, hgF_o, lvF_o]
          exact ih.1 j hj2
      · rw [if_pos q2]
        exact ih
    · rw [if_pos q1]
      exact ih
