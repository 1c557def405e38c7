/-! ===== the text; claims one after the other; rows that agree, on ===== -/
/-- what stands before k: digits since the last comma, their value, the tags that are complete -/
def pS (g : Int → Int) : Nat → Int × Int × List Int
  | 0 => (0, 0, [])
  | k + 1 => if g k = 44 then (0, 0, (pS g k).2.2 ++ [(pS g k).2.1]) else ((pS g k).1 + 1, 10 * (pS g k).2.1 + g k - 48, (pS g k).2.2)
abbrev okD (g : Int → Int) (k : Nat) : Prop := 48 ≤ g k ∧ g k ≤ 57 ∧ (pS g k).1 < 5 ∧ ¬ (0 < (pS g k).1 ∧ (pS g k).2.1 = 0)
abbrev okC (g : Int → Int) (k : Nat) : Prop := g k = 44 ∧ 0 < (pS g k).1
/-- the first place below k at which the character is not allowed; -1 without -/
def fl (g : Int → Int) : Nat → Int
  | 0 => -1
  | k + 1 => if ¬ fl g k = -1 then fl g k else if okD g k ∨ okC g k then -1 else k
def ft (g : Int → Int) (ln : Int) : Int := if ¬ fl g ln.toNat = -1 then fl g ln.toNat else if 0 < (pS g ln.toNat).1 then -1 else ln
theorem pS_s (g : Int → Int) (k : Nat) : pS g (k + 1) = if g k = 44 then (0, 0, (pS g k).2.2 ++ [(pS g k).2.1]) else ((pS g k).1 + 1, 10 * (pS g k).2.1 + g k - 48, (pS g k).2.2) := rfl
theorem fl_s (g : Int → Int) (k : Nat) : fl g (k + 1) = if ¬ fl g k = -1 then fl g k else if okD g k ∨ okC g k then -1 else (k : Int) := rfl
theorem fl_keep {g : Int → Int} {k : Nat} (h : ¬ fl g k = -1) : ∀ m : Nat, fl g (k + m) = fl g k
  | 0 => rfl
  | m + 1 => by
    show fl g (k + m + 1) = _
    rw [fl_s, fl_keep h m, if_pos h]
theorem fl_at {g : Int → Int} {k : Nat} (h : fl g k = -1) (hn : ¬ (okD g k ∨ okC g k)) {m : Nat} (hm : k < m) : fl g m = k := by
  have h1 : fl g (k + 1) = k := by rw [fl_s, if_neg (fun q => q h), if_neg hn]
  have h2 := fl_keep (k := k + 1) (by rw [h1]; omega) (m - (k + 1))
  rw [show k + 1 + (m - (k + 1)) = m by omega] at h2
  rw [h2, h1]
theorem fl_go {g : Int → Int} {k : Nat} (h : fl g k = -1) (hn : okD g k ∨ okC g k) : fl g (k + 1) = -1 := by
  rw [fl_s, if_neg (fun q => q h), if_pos hn]
theorem fl_back {g : Int → Int} {m : Nat} (h : fl g m = -1) : ∀ k : Nat, k ≤ m → fl g k = -1 := fun k hk => by
  by_cases q : fl g k = -1
  · exact q
  · have := fl_keep q (m - k)
    rw [show k + (m - k) = m by omega] at this
    exact absurd (this ▸ h) q
theorem fl_ok {g : Int → Int} {m : Nat} (h : fl g m = -1) {k : Nat} (hk : k < m) : okD g k ∨ okC g k := by
  have h0 := fl_back h k (by omega)
  have h1 := fl_back h (k + 1) (by omega)
  by_cases q : okD g k ∨ okC g k
  · exact q
  · rw [fl_s, if_neg (fun q2 => q2 h0), if_neg q] at h1
    omega
/-- ten to the digits -/
def p10 (d : Int) : Int := if d = 0 then 1 else if d = 1 then 10 else if d = 2 then 100 else if d = 3 then 1000 else if d = 4 then 10000 else 100000
theorem p10_s {d : Int} (h0 : 0 ≤ d) (h1 : d < 5) : p10 (d + 1) = 10 * p10 d := by
  unfold p10
  rcases (show d = 0 ∨ d = 1 ∨ d = 2 ∨ d = 3 ∨ d = 4 by omega) with rfl | rfl | rfl | rfl | rfl <;> rfl
theorem p10_b (d : Int) : 1 ≤ p10 d ∧ p10 d ≤ 100000 := by
  unfold p10
  repeat' split
  all_goals omega
theorem pS_b {g : Int → Int} : ∀ {k : Nat}, fl g k = -1 → 0 ≤ (pS g k).1 ∧ (pS g k).1 ≤ 5 ∧ 0 ≤ (pS g k).2.1 ∧ (pS g k).2.1 < p10 (pS g k).1
  | 0, _ => by
    show (0 : Int) ≤ 0 ∧ (0 : Int) ≤ 5 ∧ (0 : Int) ≤ 0 ∧ (0 : Int) < p10 0
    exact ⟨by omega, by omega, by omega, by decide⟩
  | k + 1, h => by
    have h0 := fl_back h k (by omega)
    have ih := pS_b h0
    have ho := fl_ok h (k := k) (by omega)
    rw [pS_s]
    by_cases hc : g k = 44
    · rw [if_pos hc]
      show (0 : Int) ≤ 0 ∧ (0 : Int) ≤ 5 ∧ (0 : Int) ≤ 0 ∧ (0 : Int) < p10 0
      exact ⟨by omega, by omega, by omega, by decide⟩
    · rw [if_neg hc]
      have hd : okD g k := ho.resolve_right (fun q => hc q.1)
      have hp := p10_s ih.1 hd.2.2.1
      show 0 ≤ (pS g k).1 + 1 ∧ (pS g k).1 + 1 ≤ 5 ∧ 0 ≤ 10 * (pS g k).2.1 + g k - 48 ∧ 10 * (pS g k).2.1 + g k - 48 < p10 ((pS g k).1 + 1)
      rw [hp]
      omega
theorem pS_v {g : Int → Int} {k : Nat} (h : fl g k = -1) : 0 ≤ (pS g k).2.1 ∧ (pS g k).2.1 ≤ 99999 := by
  have h1 := pS_b h
  have h2 := p10_b (pS g k).1
  omega
/-- claims one after the other: the error, the sum, the row -/
def cl1 (P : Int × Int × (Int → Int)) (t : Int) : Int × Int × (Int → Int) :=
  if ¬ P.1 = 0 then P else if ¬ noT P.2.2 t = 0 then (noT P.2.2 t, P.2.1, P.2.2) else (0, P.2.1 + duF P.2.2 (hkT P.2.2 t), u_cl P.2.2 (hkT P.2.2 t))
def clS (F : Int → Int) (ts : List Int) : Int × Int × (Int → Int) := ts.foldl cl1 (0, 0, F)
theorem clS_s (F : Int → Int) (ts : List Int) (t : Int) : clS F (ts ++ [t]) = cl1 (clS F ts) t := by
  unfold clS
  rw [List.foldl_append]
  rfl
/-- the tags of a text without fault -/
def tgs (g : Int → Int) (ln : Int) : List Int := (pS g ln.toNat).2.2 ++ [(pS g ln.toNat).2.1]
def c_ca (F : Int → Int) (g : Int → Int) (ln : Int) : Int := if 0 ≤ ft g ln then -100 - ft g ln else if ¬ (clS F (tgs g ln)).1 = 0 then (clS F (tgs g ln)).1 else (clS F (tgs g ln)).2.1
def u_ca (G : Int → Int) (g : Int → Int) (ln : Int) : Int → Int := (clS G (tgs g ln)).2.2
theorem noT_b (F : Int → Int) (t : Int) : -7 ≤ noT F t ∧ noT F t ≤ 0 := by
  unfold noT
  (repeat' split) <;> omega
/-- what stays true over claims: m of them at most -/
def clI (n : Int) (F : Int → Int) (m : Nat) (P : Int × Int × (Int → Int)) : Prop := J (n + 3 * m) P.2.2 ∧ Ou F P.2.2 ∧ (-7 ≤ P.1 ∧ P.1 ≤ 0) ∧ 0 ≤ P.2.1 ∧ P.2.1 ≤ 2500000 * m
theorem u_cl_ou {n x : Int} {F : Int → Int} (h : J n F) (h0 : 0 ≤ x) (h1 : x < 60) : Ou F (u_cl F x) := fun j hj => by
  have hb := hdl_b h.1.vd h0 h1
  have hh := cnt_h (F := F) (a := F 11 + duF F x) (j := 7) (v := F 7 + 1) h0 (by omega)
  unfold u_cl
  rw [enF_o (by omega) (by omega) (by omega) (by omega) (by omega) (by omega) (by omega) (by omega) (by rw [hh]; omega), zup_ne _ _ (by omega), zup_ne _ _ (by omega)]
theorem J.cl {n x : Int} {F : Int → Int} (h : J n F) (h0 : 0 ≤ x) (h1 : x < 60) (hx : F (29 + 8 * x + 1) = 1) : J (n + 3) (u_cl F x) := h.cend (j := 7) (by omega) h0 h1 hx (by omega) (by omega)
theorem cl1_I {n t : Int} {F : Int → Int} {m : Nat} {P : Int × Int × (Int → Int)} (h : clI n F m P) : clI n F (m + 1) (cl1 P t) := by
  obtain ⟨h1, h2, h3, h4, h5⟩ := h
  have e : ((m + 1 : Nat) : Int) = m + 1 := by omega
  unfold cl1
  by_cases q1 : P.1 = 0
  · rw [if_neg (fun q => q q1)]
    by_cases q2 : noT P.2.2 t = 0
    · rw [if_neg (fun q => q q2)]
      have ht := h1.tag q2
      have hd := duF_b h1.1.vd ht.2.2.1 ht.2.2.2.1
      refine ⟨(h1.cl ht.2.2.1 ht.2.2.2.1 ht.2.2.2.2.1).mono (by omega), fun j hj => (u_cl_ou h1 ht.2.2.1 ht.2.2.2.1 j hj).trans (h2 j hj), by show -7 ≤ (0 : Int) ∧ (0 : Int) ≤ 0; omega, ?_, ?_⟩
      · show 0 ≤ P.2.1 + _
        omega
      · show P.2.1 + _ ≤ _
        omega
    · rw [if_pos q2]
      exact ⟨h1.mono (by omega), h2, noT_b _ _, h4, by show P.2.1 ≤ _; omega⟩
  · rw [if_pos q1]
    exact ⟨h1.mono (by omega), h2, h3, h4, by omega⟩
theorem clS_I {n : Int} {F : Int → Int} (h : J n F) : ∀ ts : List Int, clI n F ts.length (clS F ts) := by
  have gen : ∀ (ts : List Int) (m : Nat) (P : Int × Int × (Int → Int)), clI n F m P → clI n F (m + ts.length) (ts.foldl cl1 P) := by
    intro ts
    induction ts with
    | nil => exact fun m P q => q
    | cons t ts ih =>
      intro m P q
      have := ih (m + 1) (cl1 P t) (cl1_I q)
      rw [show m + 1 + ts.length = m + (t :: ts).length by simp; omega] at this
      exact this
  intro ts
  have := gen ts 0 (0, 0, F) ⟨h.mono (by omega), Ou.rf F, by show -7 ≤ (0 : Int) ∧ (0 : Int) ≤ 0; omega, by show (0 : Int) ≤ 0; omega, by show (0 : Int) ≤ 2500000 * 0; omega⟩
  rw [Nat.zero_add] at this
  exact this
theorem pS_len (g : Int → Int) : ∀ k : Nat, (pS g k).2.2.length ≤ k
  | 0 => by show 0 ≤ 0; omega
  | k + 1 => by
    have ih := pS_len g k
    rw [pS_s]
    split
    · show ((pS g k).2.2 ++ [(pS g k).2.1]).length ≤ _
      rw [List.length_append]
      show _ + 1 ≤ _
      omega
    · show (pS g k).2.2.length ≤ _
      omega
-- rows that agree in the entries of a state: each change of such a row
theorem Ag.rf (F : Int → Int) : Ag F F := fun _ _ => rfl
theorem Ag.hdl {F G : Int → Int} (h : Ag F G) {x : Int} (h1 : x < 60) : hdl G x = hdl F x := hdl_congr (h _ (by omega))
theorem Ag.lv {F G : Int → Int} (h : Ag F G) {x : Int} (h1 : x < 60) : Ag (lvF F x) (lvF G x) := by
  have e0 := h (29 + 8 * x + 0) (by omega)
  have e6 := h (29 + 8 * x + 6) (by omega)
  have e12 := h 12 (by omega)
  unfold lvF
  exact (((((h.up rfl).up (by rw [e0])).up (by rw [e0])).up (by rw [e6])).up (by rw [e12])).up (by rw [e12])
theorem Ag.ix {F G : Int → Int} (h : Ag F G) {i k v w : Int} (hi : k = i) (hv : w = v) : Ag (zup F i v) (zup G k w) := by
  subst hi
  exact h.up hv
theorem Ag.hg {F G : Int → Int} (h : Ag F G) {x y z d y' z' d' : Int} (h1 : x < 60) (hy : y' = y) (hz : z' = z) (hd : d' = d) : Ag (hgF F x y z d) (hgF G x y' z' d') := by
  subst hy hz hd
  have e5 := h 5 (by omega)
  unfold hgF
  exact (((((h.up rfl).up rfl).up rfl).up rfl).ix (by rw [h.hdl h1]) rfl).up (by rw [e5])
theorem Ag.lg {F G : Int → Int} (h : Ag F G) {c e e' : Int} (he : e' = e) : Ag (lgF F c e) (lgF G c e') := by
  subst he
  have e13 := h 13 (by omega)
  have e0 := h 0 (by omega)
  unfold lgF
  rw [e13]
  exact (((h.up rfl).up rfl).up e0).up rfl
theorem ag_en {F G : Int → Int} (h : Ag F G) {x e c : Int} (h1 : x < 60) (hb : hdl F x < 6000) : Ag (enF F x e c) (enF G x e c) := by
  have eh := h.hdl h1
  have ev := h (559 + hdl F x) (by omega)
  unfold enF
  rw [eh, ev]
  exact ((h.up rfl).lv h1).lg rfl
theorem ag_dm {F G : Int → Int} (h : Ag F G) {a b : Int} (h1 : a < 60) (h2 : b < 60) (hb : hdl F a < 6000) : Ag (dmU F a b) (dmU G a b) := by
  have eha := h.hdl h1
  have ehb := h.hdl h2
  have ev := h (559 + hdl F a) (by omega)
  have e10 := h 10 (by omega)
  unfold dmU
  rw [eha, ehb, ev, e10]
  exact ((((h.lv h1).hg h2 (h _ (by omega)) (h _ (by omega)) (h _ (by omega))).up rfl).up rfl).lg rfl
theorem ag_du {F G : Int → Int} (h : Ag F G) {x : Int} (h1 : x < 60) : duF G x = duF F x := duF_congr (h _ (by omega)) (h _ (by omega)) (h _ (by omega)) (h _ (by omega))
theorem ag_fr {F G : Int → Int} (h : Ag F G) {x z : Int} (h1 : x < 60) : (isFr G x z ↔ isFr F x z) := by
  unfold isFr isHk
  rw [h 1 (by omega), h (14 + 3 * (x / 12) + 0) (by omega), h (29 + 8 * x + 1) (by omega), h (29 + 8 * x + 5) (by omega), h (14 + 3 * (x / 12) + 2) (by omega), h (14 + 3 * (x / 12) + 1) (by omega)]
theorem ag_fo {F G : Int → Int} (h : Ag F G) {b z : Int} (hb : b < 5) : ∀ n : Nat, n ≤ 12 → fo G b z n = fo F b z n
  | 0, _ => rfl
  | n + 1, hn => by
    have e := ag_fr h (x := 12 * b + n) (z := z) (by omega)
    rw [fo_s, fo_s, ag_fo h hb n (by omega)]
    by_cases q : isFr F (12 * b + n) z
    · rw [if_pos q, if_pos (e.mpr q)]
    · rw [if_neg q, if_neg (fun q2 => q (e.mp q2))]
theorem ag_mv {F G : Int → Int} {n a b : Int} (hJ : J n F) (h : Ag F G) (ha : 0 ≤ a ∧ a < 5) (hb : 0 ≤ b ∧ b < 5) (hab : a ≠ b) : ∀ i : Nat, i ≤ 12 → (mvS G a b i).1 = (mvS F a b i).1 ∧ Ag (mvS F a b i).2 (mvS G a b i).2
  | 0, _ => ⟨rfl, h⟩
  | i + 1, hi => by
    have ih := ag_mv hJ h ha hb hab i (by omega)
    have hj := hJ.mv ha hb hab i (by omega)
    rw [mvS_s _ _ _ _ _ rfl, mvS_s F _ _ _ _ rfl]
    generalize mvS F a b i = P at ih hj ⊢
    generalize mvS G a b i = R at ih ⊢
    have e1 := ih.2 (29 + 8 * (12 * a + i) + 1) (by omega)
    have e3 := ih.2 (29 + 8 * (12 * a + i) + 3) (by omega)
    have ef := ag_fo ih.2 (b := b) (z := P.2 (29 + 8 * (12 * a + i) + 3)) hb.2 12 (by omega)
    rw [ih.1, e1, e3, ef]
    by_cases q1 : P.1 = 1
    · have n1 : ¬ ¬ P.1 = 1 := fun q => q q1
      rw [if_neg n1, if_neg n1]
      by_cases q2 : P.2 (29 + 8 * (12 * a + i) + 1) = 1
      · have n2 : ¬ ¬ P.2 (29 + 8 * (12 * a + i) + 1) = 1 := fun q => q q2
        rw [if_neg n2, if_neg n2]
        have hfb := fo_b (F := P.2) (z := P.2 (29 + 8 * (12 * a + i) + 3)) hb.1 12
        generalize fo P.2 b (P.2 (29 + 8 * (12 * a + i) + 3)) 12 = y at hfb ⊢
        by_cases q3 : y = -5
        · rw [if_pos q3, if_pos q3]
          exact ⟨rfl, ih.2⟩
        · rw [if_neg q3, if_neg q3]
          have hba := hdl_b hj.1.vd (x := 12 * a + i) (by omega) (by omega)
          exact ⟨rfl, ag_dm ih.2 (by omega) (by omega) (by omega)⟩
      · rw [if_pos q2, if_pos q2]
        exact ih
    · rw [if_pos q1, if_pos q1]
      exact ih
theorem ag_cl {F G : Int → Int} {n x : Int} (hJ : J n F) (h : Ag F G) (h0 : 0 ≤ x) (h1 : x < 60) : Ag (u_cl F x) (u_cl G x) := by
  have hb := hdl_b hJ.1.vd h0 h1
  unfold u_cl
  rw [h 11 (by omega), h 7 (by omega), ag_du h h1]
  exact ag_en ((h.up rfl).up rfl) h1 (by rw [cnt_h h0 (by omega)]; omega)
theorem ag_la {F G : Int → Int} {n x : Int} (hJ : J n F) (h : Ag F G) (h0 : 0 ≤ x) (h1 : x < 6000) : la G x = la F x ∧ wy G x = wy F x := la_congr hJ (fun j hj => h j (by omega)) h0 h1
theorem ag_no {F G : Int → Int} {n t : Int} (hJ : J n F) (h : Ag F G) : noT G t = noT F t := by
  unfold noT
  by_cases q : isTg t
  · have hl := (ag_la hJ h (x := t / 10) (by omega) (by omega)).1
    have hb := hJ.ac.b (x := t / 10) (by omega) (by omega)
    rw [h (559 + t / 10) (by omega), hl, eo_congr (h (559 + la F (t / 10)) (by omega))]
  · rw [if_pos q, if_pos q]
theorem ag_cl1 {F G : Int → Int} {n t e s : Int} (hJ : J n F) (h : Ag F G) : (cl1 (e, s, G) t).1 = (cl1 (e, s, F) t).1 ∧ (cl1 (e, s, G) t).2.1 = (cl1 (e, s, F) t).2.1 ∧ Ag (cl1 (e, s, F) t).2.2 (cl1 (e, s, G) t).2.2 := by
  unfold cl1
  rw [ag_no hJ h]
  by_cases q1 : e = 0
  · have n1 : ¬ ¬ e = 0 := fun q => q q1
    have c1 : ¬ ¬ (e, s, G).1 = 0 := n1
    have c2 : ¬ ¬ (e, s, F).1 = 0 := n1
    rw [if_neg c1, if_neg c2]
    by_cases q2 : noT F t = 0
    · have ht := hJ.tag q2
      have e1 : hkT G t = hkT F t := hkT_congr hJ (fun j hj => h j (by omega)) (by omega) (by omega)
      have n2 : ¬ ¬ noT F t = 0 := fun q => q q2
      rw [if_neg n2, if_neg n2, e1]
      refine ⟨rfl, ?_, ag_cl hJ h ht.2.2.1 ht.2.2.2.1⟩
      show s + duF G _ = s + duF F _
      rw [ag_du h ht.2.2.2.1]
    · rw [if_pos q2, if_pos q2]
      exact ⟨rfl, rfl, h⟩
  · rw [if_pos q1, if_pos q1]
    exact ⟨rfl, rfl, h⟩
theorem ag_clS {n : Int} : ∀ (ts : List Int) (m : Nat) (P R : Int × Int × (Int → Int)) (F : Int → Int), clI n F m P → R.1 = P.1 → R.2.1 = P.2.1 → Ag P.2.2 R.2.2 → (ts.foldl cl1 R).1 = (ts.foldl cl1 P).1 ∧ (ts.foldl cl1 R).2.1 = (ts.foldl cl1 P).2.1 ∧ Ag (ts.foldl cl1 P).2.2 (ts.foldl cl1 R).2.2
  | [], m, P, R, F, hI, h1, h2, h3 => ⟨h1, h2, h3⟩
  | t :: ts, m, P, R, F, hI, h1, h2, h3 => by
    have hq := ag_cl1 (t := t) (e := P.1) (s := P.2.1) hI.1 h3
    have hR : R = (P.1, P.2.1, R.2.2) := by rw [← h1, ← h2]
    rw [List.foldl_cons, List.foldl_cons, hR]
    exact ag_clS ts (m + 1) (cl1 P t) (cl1 (P.1, P.2.1, R.2.2) t) F (cl1_I hI) hq.1 hq.2.1 hq.2.2
theorem ag_ca {n : Int} {F G : Int → Int} (hJ : J n F) (h : Ag F G) (ts : List Int) : (clS G ts).1 = (clS F ts).1 ∧ (clS G ts).2.1 = (clS F ts).2.1 ∧ Ag (clS F ts).2.2 (clS G ts).2.2 :=
  ag_clS ts 0 (0, 0, F) (0, 0, G) F (clS_I hJ []) rfl rfl h
/-- a record of the row that was tried from is a record of the row -/
theorem rcF_tried {F G : Int → Int} {sn : Int} (h0 : 0 ≤ sn) (h1 : sn ≤ 4) (hG : ∀ j : Int, 6559 ≤ j → j < 39354 → G j = F j) (hT : ∀ j : Int, 0 ≤ j → j < 6559 → G (39354 + j) = F j) : ∀ j : Int, 6559 ≤ j → j < 39354 → rcF G sn 39354 j = rcF F sn 0 j := by
  intro j hj hj2
  unfold rcF
  by_cases q : sn = 4
  · rw [if_pos q, if_pos q]
    by_cases q4 : 26236 ≤ j ∧ j < 32795
    · have eG : ∀ (H : Int → Int) (c : Int), cpF (cpF (cpF (cpF H 13118 6559) 19677 13118) 26236 19677) c 26236 j = cpF (cpF (cpF H 13118 6559) 19677 13118) 26236 19677 (j - 26236 + c) := fun H c => cpF_in q4.1 (by omega)
      rw [eG, eG]
      rw [cpF_out (by omega), cpF_out (by omega), cpF_out (by omega), cpF_out (by omega), cpF_out (by omega), cpF_out (by omega)]
      rw [show j - 26236 + 39354 = 39354 + (j - 26236) by omega, hT (j - 26236) (by omega) (by omega)]
      congr 1
      omega
    · rw [cpF_out (b := 26236) (by omega), cpF_out (b := 26236) (by omega)]
      by_cases q3 : 19677 ≤ j ∧ j < 26236
      · rw [cpF_in q3.1 (by omega), cpF_in q3.1 (by omega), cpF_out (by omega), cpF_out (by omega), cpF_out (by omega), cpF_out (by omega)]
        exact hG _ (by omega) (by omega)
      · rw [cpF_out (b := 19677) (by omega), cpF_out (b := 19677) (by omega)]
        by_cases q2 : 13118 ≤ j ∧ j < 19677
        · rw [cpF_in q2.1 (by omega), cpF_in q2.1 (by omega), cpF_out (by omega), cpF_out (by omega)]
          exact hG _ (by omega) (by omega)
        · rw [cpF_out (b := 13118) (by omega), cpF_out (b := 13118) (by omega)]
          by_cases q1 : 6559 ≤ j ∧ j < 13118
          · rw [cpF_in q1.1 (by omega), cpF_in q1.1 (by omega)]
            exact hG _ (by omega) (by omega)
          · rw [cpF_out (b := 6559) (by omega), cpF_out (b := 6559) (by omega)]
            exact hG _ (by omega) (by omega)
  · rw [if_neg q, if_neg q]
    by_cases qi : 6559 + 6559 * sn ≤ j ∧ j < 6559 + 6559 * sn + 6559
    · rw [cpF_in qi.1 qi.2, cpF_in qi.1 qi.2]
      rw [show j - (6559 + 6559 * sn) + 39354 = 39354 + (j - (6559 + 6559 * sn)) by omega, hT _ (by omega) (by omega)]
      congr 1
      omega
    · rw [cpF_out (by omega), cpF_out (by omega)]
      exact hG _ (by omega) (by omega)
theorem ag_pd {n : Int} {F G : Int → Int} (hJ : J n F) (h : Ag F G) : ∀ i : Nat, i ≤ 60 → (pdS G i).1 = (pdS F i).1 ∧ Ag (pdS F i).2 (pdS G i).2
  | 0, _ => ⟨rfl, h⟩
  | i + 1, hi => by
    have ih := ag_pd hJ h i (by omega)
    have hj := (hJ.pd i (by omega)).1
    rw [pdS_s _ _ _ rfl, pdS_s F _ _ rfl]
    generalize pdS F i = P at ih hj ⊢
    generalize pdS G i = R at ih ⊢
    have e1 := ih.2 (29 + 8 * (i : Int) + 1) (by omega)
    have e3 := ih.2 (29 + 8 * (i : Int) + 3) (by omega)
    have e4 := ih.2 (29 + 8 * (i : Int) + 4) (by omega)
    rw [e1, e3, e4, ih.2 4 (by omega), ih.2 0 (by omega), ih.2 11 (by omega), ih.2 9 (by omega), ih.1]
    by_cases q : P.2 (29 + 8 * (i : Int) + 1) = 1 ∧ P.2 4 < P.2 0 - P.2 (29 + 8 * (i : Int) + 4)
    · rw [if_pos q, if_pos q]
      have hb := hdl_b hj.1.vd (x := (i : Int)) (by omega) (by omega)
      exact ⟨rfl, ag_en ((ih.2.up rfl).up rfl) (by omega) (by rw [cnt_h (by omega) (by omega)]; omega)⟩
    · rw [if_neg q, if_neg q]
      exact ih
theorem ag_ps {n : Int} {F G : Int → Int} (hJ : J n F) (h : Ag F G) : ∀ m : Nat, F 0 + m ≤ 9999 → (psS G m).1 = (psS F m).1 ∧ Ag (psS F m).2 (psS G m).2
  | 0, _ => ⟨rfl, h⟩
  | m + 1, hm => by
    have ih := ag_ps hJ h m (by omega)
    have hj := hJ.ps m (by omega)
    have e0 := ih.2 0 (by omega)
    have hp := ag_pd (hj.1.day (by omega)) (ih.2.up (i := 0) (v := (psS F m).2 0 + 1) (w := (psS G m).2 0 + 1) (by rw [e0])) 60 (by omega)
    rw [psS_s, psS_s]
    generalize pdS (zup (psS G m).2 0 ((psS G m).2 0 + 1)) 60 = P at hp ⊢
    generalize pdS (zup (psS F m).2 0 ((psS F m).2 0 + 1)) 60 = R at hp ⊢
    refine ⟨?_, hp.2⟩
    show (psS G m).1 + P.1 = (psS F m).1 + R.1
    rw [ih.1, hp.1]
theorem ag_nSh {n : Int} {F G : Int → Int} (hJ : J n F) (h : Ag F G) : ∀ i : Nat, i ≤ 6000 → nSh G i = nSh F i
  | 0, _ => rfl
  | i + 1, hi => by
    have e := (ag_la hJ h (x := (i : Int)) (by omega) (by omega)).2
    rw [nSh_s, nSh_s, ag_nSh hJ h i (by omega), e]
theorem ag_sh {n : Int} {F G : Int → Int} (hJ : J n F) (h : Ag F G) : Ag (shF F 6000) (shF G 6000) := fun j hj => by
  unfold shF
  by_cases q : 559 ≤ j ∧ j < 559 + 6000
  · have e := ag_la hJ h (x := j - 559) (by omega) (by omega)
    rw [e.1, e.2, h j hj]
  · rw [if_neg (by omega), if_neg (by omega)]
    exact h j hj
/-- places below 0 are never written -/
theorem mvS_neg {F : Int → Int} {n a b : Int} (h : J n F) (ha : 0 ≤ a ∧ a < 5) (hb : 0 ≤ b ∧ b < 5) (hab : a ≠ b) : ∀ i : Nat, i ≤ 12 → ∀ j : Int, j < 0 → (mvS F a b i).2 j = F j
  | 0, _ => fun j _ => rfl
  | i + 1, hi => by
    have ih := mvS_neg h ha hb hab i (by omega)
    have hj := h.mv ha hb hab i (by omega)
    rw [mvS_s _ _ _ _ _ rfl]
    generalize mvS F a b i = P at ih hj ⊢
    by_cases q1 : P.1 = 1
    · rw [if_neg (fun q => q q1)]
      by_cases q2 : P.2 (29 + 8 * (12 * a + i) + 1) = 1
      · rw [if_neg (fun q => q q2)]
        by_cases q3 : fo P.2 b (P.2 (29 + 8 * (12 * a + i) + 3)) 12 = -5
        · rw [if_pos q3]
          exact ih
        · rw [if_neg q3]
          have hf := (fo_b (F := P.2) (z := P.2 (29 + 8 * (12 * a + i) + 3)) hb.1 12).resolve_left q3
          generalize fo P.2 b (P.2 (29 + 8 * (12 * a + i) + 3)) 12 = y at hf ⊢
          have hba := hdl_b hj.1.vd (x := 12 * a + i) (by omega) (by omega)
          have hbb := hdl_b hj.1.vd (x := y) (by omega) (by omega)
          have hlv := hdl_lv (F := P.2) (a := 12 * a + i) (b := y) (by omega)
          intro j hj2
          show dmU P.2 (12 * a + i) y j = _
          simp (disch := omega) only [dmU, lgF_o, zup_ne, hgF_o, lvF_o]
          exact ih j hj2
      · rw [if_pos q2]
        exact ih
    · rw [if_pos q1]
      exact ih
theorem clS_err {P : Int × Int × (Int → Int)} (h : ¬ P.1 = 0) : ∀ ts : List Int, ts.foldl cl1 P = P
  | [] => rfl
  | t :: ts => by
    rw [List.foldl_cons, show cl1 P t = P from if_pos h]
    exact clS_err h ts
theorem pS_pre (g : Int → Int) (k : Nat) : ∀ m : Nat, ∃ r, (pS g (k + m)).2.2 = (pS g k).2.2 ++ r
  | 0 => ⟨[], by rw [List.append_nil]; rfl⟩
  | m + 1 => by
    obtain ⟨r, hr⟩ := pS_pre g k m
    by_cases hc : g ((k + m : Nat) : Int) = 44
    · refine ⟨r ++ [(pS g (k + m)).2.1], ?_⟩
      show (pS g (k + m + 1)).2.2 = _
      rw [pS_s, if_pos hc, ← List.append_assoc, ← hr]
    · refine ⟨r, ?_⟩
      show (pS g (k + m + 1)).2.2 = _
      rw [pS_s, if_neg hc]
      exact hr
/-- an error among the first tags is the error of all -/
theorem clS_stop {F : Int → Int} {g : Int → Int} {ln : Int} {k : Nat} (hk : k ≤ ln.toNat) (h : ¬ (clS F ((pS g k).2.2)).1 = 0) : clS F (tgs g ln) = clS F ((pS g k).2.2) := by
  obtain ⟨r, hr⟩ := pS_pre g k (ln.toNat - k)
  rw [show k + (ln.toNat - k) = ln.toNat by omega] at hr
  unfold tgs
  rw [hr, List.append_assoc]
  unfold clS
  rw [List.foldl_append]
  exact clS_err h _
theorem fl_nn (g : Int → Int) : ∀ k : Nat, fl g k = -1 ∨ (0 ≤ fl g k ∧ fl g k < k)
  | 0 => Or.inl rfl
  | k + 1 => by
    have ih := fl_nn g k
    rw [fl_s]
    by_cases q : fl g k = -1
    · rw [if_neg (fun z => z q)]
      split
      · exact Or.inl rfl
      · exact Or.inr ⟨by omega, by omega⟩
    · rw [if_pos q]
      omega
theorem ft_b {ln : Int} (h0 : 0 ≤ ln) (h1 : ln ≤ 60) (g : Int → Int) : -1 ≤ ft g ln ∧ ft g ln ≤ 60 := by
  have := fl_nn g ln.toNat
  unfold ft
  (repeat' split) <;> omega
theorem cl1_neg {n t : Int} {F : Int → Int} {m : Nat} {P : Int × Int × (Int → Int)} (h : clI n F m P) (hn : ∀ j : Int, j < 0 → P.2.2 j = F j) : ∀ j : Int, j < 0 → (cl1 P t).2.2 j = F j := by
  intro j hj
  unfold cl1
  by_cases q1 : P.1 = 0
  · rw [if_neg (fun q => q q1)]
    by_cases q2 : noT P.2.2 t = 0
    · rw [if_neg (fun q => q q2)]
      have ht := h.1.tag q2
      have hb := hdl_b h.1.1.vd ht.2.2.1 ht.2.2.2.1
      have hh := cnt_h (F := P.2.2) (a := P.2.2 11 + duF P.2.2 (hkT P.2.2 t)) (j := 7) (v := P.2.2 7 + 1) ht.2.2.1 (by omega)
      have ht2 := ht.2.2.1
      show u_cl P.2.2 (hkT P.2.2 t) j = _
      unfold u_cl
      rw [enF_o (by omega) (by omega) (by omega) (by omega) (by omega) (by omega) (by omega) (by omega) (by rw [hh]; omega), zup_ne _ _ (by omega), zup_ne _ _ (by omega)]
      exact hn j hj
    · rw [if_pos q2]
      exact hn j hj
  · rw [if_pos q1]
    exact hn j hj
theorem clS_neg {n : Int} {F : Int → Int} (h : J n F) (ts : List Int) : ∀ j : Int, j < 0 → (clS F ts).2.2 j = F j := by
  have gen : ∀ (ts : List Int) (m : Nat) (P : Int × Int × (Int → Int)), clI n F m P → (∀ j : Int, j < 0 → P.2.2 j = F j) → ∀ j : Int, j < 0 → (ts.foldl cl1 P).2.2 j = F j := by
    intro ts
    induction ts with
    | nil => exact fun m P _ q => q
    | cons t ts ih =>
      intro m P q q2
      exact ih (m + 1) (cl1 P t) (cl1_I q) (cl1_neg q q2)
  exact gen ts 0 (0, 0, F) (clS_I h []) (fun _ _ => rfl)
