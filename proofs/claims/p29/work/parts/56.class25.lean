/-! ===== moves of a rack, counted ===== -/
section S56
variable {E : gE} {B S : Nat} {h0 h : gH} {X : Nat → SC} {T : TC} {i : Nat} {Y : SC} {F t : Int → Int} {A : Nat → Nat} {N : Nat} {V : Nat → Int → Int} {Q : Option Value → gH → Prop}
theorem dmU_o {nv a b j : Int} (hV : Vd nv F) (a0 : 0 ≤ a) (a1 : a < 60) (b0 : 0 ≤ b) (b1 : b < 60) (hab : a ≠ b) (hj : j = 1 ∨ (14 ≤ j ∧ j < 509 ∧ ¬ (29 + 8 * a ≤ j ∧ j < 29 + 8 * a + 8) ∧ ¬ (29 + 8 * b + 1 ≤ j ∧ j ≤ 29 + 8 * b + 4))) : dmU F a b j = F j := by
  have hba := hdl_b hV a0 a1
  have hbb := hdl_b hV b0 b1
  have hlv := hdl_lv (F := F) (a := a) (b := b) hab
  simp (disch := omega) only [dmU, lgF_o, zup_ne, hgF_o, lvF_o]
theorem fo_none {F : Int → Int} {b z : Int} (hb : 0 ≤ b) : ∀ n : Nat, (fo F b z n = -5 ↔ ∀ m : Nat, m < n → ¬ isFr F (12 * b + m) z)
  | 0 => ⟨fun _ m hm => absurd hm (by omega), fun _ => rfl⟩
  | n + 1 => by
    have ih := fo_none hb (F := F) (z := z) n
    rw [fo_s]
    by_cases h1 : fo F b z n = -5
    · rw [if_neg (not_not_intro h1)]
      by_cases h2 : isFr F (12 * b + n) z
      · rw [if_pos h2]
        exact ⟨fun q => absurd q (by omega), fun q => absurd h2 (q n (by omega))⟩
      · rw [if_neg h2]
        refine ⟨fun _ m hm => ?_, fun _ => rfl⟩
        by_cases q : m = n
        · subst q; exact h2
        · exact ih.mp h1 m (by omega)
    · rw [if_pos h1]
      exact ⟨fun q => absurd q h1, fun q => absurd (ih.mpr fun m hm => q m (by omega)) h1⟩
theorem sm_pos {f : Int → Int} : ∀ {m : Nat}, (∀ k : Nat, k < m → 0 ≤ f k) → 0 ≤ sm f m ∧ (0 < sm f m ↔ ∃ k : Nat, k < m ∧ 0 < f k)
  | 0, _ => ⟨Int.le_refl 0, ⟨fun q => absurd q (by show ¬ (0 : Int) < 0; omega), fun ⟨k, hk, _⟩ => absurd hk (by omega)⟩⟩
  | m + 1, h => by
    obtain ⟨q0, q1⟩ := sm_pos (f := f) (m := m) fun k hk => h k (by omega)
    have q2 := h m (by omega)
    refine ⟨by show 0 ≤ sm f m + f m; omega, ⟨fun q => ?_, fun ⟨k, hk, hf⟩ => ?_⟩⟩
    · have q : 0 < sm f m + f m := q
      by_cases z : 0 < f m
      · exact ⟨m, by omega, z⟩
      · obtain ⟨k, hk, hf⟩ := q1.mp (by omega)
        exact ⟨k, by omega, hf⟩
    · show 0 < sm f m + f m
      by_cases z : k = m
      · subst z; omega
      · have := q1.mpr ⟨k, by omega, hf⟩
        omega
theorem fo_low {F : Int → Int} {b z : Int} (hb : 0 ≤ b) : ∀ (n : Nat) {m : Nat}, m < n → 12 * b + (m : Int) < fo F b z n → ¬ isFr F (12 * b + m) z
  | 0, m, hm => absurd hm (by omega)
  | n + 1, m, hm => by
    intro h
    rw [fo_s] at h
    by_cases h1 : fo F b z n = -5
    · rw [if_neg (not_not_intro h1)] at h
      have hn := (fo_none hb n).mp h1
      by_cases q : m = n
      · subst q
        by_cases h2 : isFr F (12 * b + m) z
        · rw [if_pos h2] at h; omega
        · exact h2
      · exact hn m (by omega)
    · rw [if_pos h1] at h
      by_cases q : m = n
      · have := (fo_b (F := F) (z := z) hb n).resolve_left h1
        omega
      · exact fo_low hb n (by omega) h
-- a hook that is not used; how many there are on a rack; coats on the first hooks of a rack
abbrev un (F : Int → Int) (n : Int) : Prop := isHk F n ∧ ¬ F (29 + 8 * n + 1) = 1 ∧ F (29 + 8 * n + 5) = 0
def nU (F : Int → Int) (b : Int) : Int := sm (fun y => bI (un F (12 * b + y))) 12
def nC (F : Int → Int) (a : Int) (m : Nat) : Int := sm (fun y => F (29 + 8 * (12 * a + y) + 1)) m
abbrev adm (F : Int → Int) (b z : Int) : Prop := F (14 + 3 * b + 2) = 1 ∧ z ≤ F (14 + 3 * b + 1)
theorem isFr_un {F : Int → Int} {b z : Int} {y : Int} (y0 : 0 ≤ y) (y1 : y < 12) : isFr F (12 * b + y) z ↔ un F (12 * b + y) ∧ adm F b z := by
  have e : (12 * b + y) / 12 = b := by omega
  constructor
  · rintro ⟨q0, q1, q2, q3, q4⟩
    rw [e] at q3 q4
    exact ⟨⟨q0, q1, q2⟩, q3, q4⟩
  · rintro ⟨⟨q0, q1, q2⟩, q3, q4⟩
    refine ⟨q0, q1, q2, ?_, ?_⟩
    · rw [e]; exact q3
    · rw [e]; exact q4
theorem nU_pos {F : Int → Int} {b : Int} : 0 ≤ nU F b ∧ (0 < nU F b ↔ ∃ k : Nat, k < 12 ∧ un F (12 * b + k)) := by
  obtain ⟨q0, q1⟩ := sm_pos (f := fun y => bI (un F (12 * b + y))) (m := 12) fun k _ => (bI_b _).1
  refine ⟨q0, q1.trans ⟨fun ⟨k, hk, h⟩ => ⟨k, hk, ?_⟩, fun ⟨k, hk, h⟩ => ⟨k, hk, ?_⟩⟩⟩
  · by_cases z : un F (12 * b + k)
    · exact z
    · have h : 0 < bI (un F (12 * b + (k : Int))) := h
      rw [bI_f z] at h
      omega
  · show 0 < bI (un F (12 * b + (k : Int)))
    rw [bI_t h]
    omega
theorem fo_adm {F : Int → Int} {b z : Int} (hb : 0 ≤ b) : ¬ fo F b z 12 = -5 ↔ adm F b z ∧ 0 < nU F b := by
  rw [nU_pos.2]
  constructor
  · intro h
    rcases fo_b (F := F) (z := z) hb 12 with q | ⟨q0, q1, q2⟩
    · exact absurd q h
    · have e : fo F b z 12 = 12 * b + (fo F b z 12 - 12 * b) := by omega
      rw [e] at q2
      have := (isFr_un (by omega) (by omega)).mp q2
      refine ⟨this.2, (fo F b z 12 - 12 * b).toNat, by omega, ?_⟩
      rw [show (((fo F b z 12 - 12 * b).toNat : Nat) : Int) = fo F b z 12 - 12 * b by omega]
      exact this.1
  · rintro ⟨h1, k, hk, h2⟩ q
    exact (fo_none hb 12).mp q k hk ((isFr_un (by omega) (by omega)).mpr ⟨h2, h1⟩)
theorem nU_dm {nv : Int} {F : Int → Int} {b x y : Int} (hV : Vd nv F) (x0 : 0 ≤ x) (x1 : x < 60) (hx : x / 12 ≠ b) (b0 : 0 ≤ b) (b1 : b < 5) (y0 : 12 * b ≤ y) (y1 : y < 12 * b + 12) (hu : un F y) : nU (dmU F x y) b = nU F b - 1 := by
  have hab : x ≠ y := fun q => hx (by omega)
  have hf := dmU_f hV x0 x1 (b := y) (by omega) (by omega) hab
  have h1 : dmU F x y 1 = F 1 := dmU_o hV x0 x1 (by omega) (by omega) hab (by omega)
  have hrr : ∀ r c : Int, 0 ≤ r → r < 5 → 0 ≤ c → c < 3 → dmU F x y (14 + 3 * r + c) = F (14 + 3 * r + c) := fun r c q0 q1 q2 q3 => dmU_o hV x0 x1 (by omega) (by omega) hab (by omega)
  have e : sm (fun z => bI (un (dmU F x y) (12 * b + z))) 12 = sm (zup (fun z => bI (un F (12 * b + z))) (y - 12 * b) 0) 12 := sm_congr fun k hk => by
    by_cases q : (k : Int) = y - 12 * b
    · rw [q, zup_eq]
      refine bI_f fun w => w.2.1 ?_
      rw [show 12 * b + (y - 12 * b) = y by omega]
      exact hf.2.2.1
    · rw [zup_ne _ _ q]
      have hi : isHk (dmU F x y) (12 * b + k) ↔ isHk F (12 * b + k) := by
        unfold isHk
        rw [h1, hrr ((12 * b + (k : Int)) / 12) 0 (by omega) (by omega) (by omega) (by omega)]
      have ha : dmU F x y (29 + 8 * (12 * b + (k : Int)) + 1) = F (29 + 8 * (12 * b + (k : Int)) + 1) := dmU_o hV x0 x1 (by omega) (by omega) hab (by omega)
      have hc : dmU F x y (29 + 8 * (12 * b + (k : Int)) + 5) = F (29 + 8 * (12 * b + (k : Int)) + 5) := dmU_o hV x0 x1 (by omega) (by omega) hab (by omega)
      by_cases z : un F (12 * b + k)
      · rw [bI_t z, bI_t ⟨hi.mpr z.1, by rw [ha]; exact z.2.1, by rw [hc]; exact z.2.2⟩]
      · rw [bI_f z, bI_f fun w => z ⟨hi.mp w.1, by rw [← ha]; exact w.2.1, by rw [← hc]; exact w.2.2⟩]
  unfold nU
  rw [e, sm_up (by omega) (by omega)]
  show _ - bI (un F (12 * b + (y - 12 * b))) + 0 = _ - 1
  rw [bI_t (by rw [show 12 * b + (y - 12 * b) = y by omega]; exact hu)]
  omega
/-- the moves of a rack's first m hooks -/
theorem mvS_at {nv : Int} {F : Int → Int} {a b : Int} (hJ : J nv F) (ha : 0 ≤ a ∧ a < 5) (hb : 0 ≤ b ∧ b < 5) (hab : a ≠ b) : ∀ m : Nat, m ≤ 12 →
    ((mvS F a b m).2 1 = F 1 ∧ (∀ r c : Int, 0 ≤ r → r < 5 → 0 ≤ c → c < 3 → (mvS F a b m).2 (14 + 3 * r + c) = F (14 + 3 * r + c)) ∧ (∀ y c : Int, m ≤ y → y < 12 → 0 ≤ c → c < 8 → (mvS F a b m).2 (29 + 8 * (12 * a + y) + c) = F (29 + 8 * (12 * a + y) + c))) ∧
    ((mvS F a b m).1 = 1 → nU (mvS F a b m).2 b = nU F b - nC F a m) ∧
    ((mvS F a b m).1 = 1 ↔ (∀ y : Nat, y < m → F (29 + 8 * (12 * a + y) + 1) = 1 → adm F b (F (29 + 8 * (12 * a + y) + 3))) ∧ nC F a m ≤ nU F b)
  | 0, _ => ⟨⟨rfl, fun _ _ _ _ _ _ => rfl, fun _ _ _ _ _ _ => rfl⟩, fun _ => by show nU F b = nU F b - 0; omega, ⟨fun _ => ⟨fun y hy => absurd hy (by omega), nU_pos.1⟩, fun _ => rfl⟩⟩
  | m + 1, hm => by
    obtain ⟨⟨h1, hr, hk⟩, hn, hp⟩ := mvS_at hJ ha hb hab m (by omega)
    have hj := hJ.mv ha hb hab m (by omega)
    have hbit := (hJ.vd.2.2.2.1 (12 * a + m) (by omega) (by omega)).2.1
    have hs : nC F a (m + 1) = nC F a m + F (29 + 8 * (12 * a + (m : Int)) + 1) := rfl
    rw [mvS_s _ _ _ _ _ rfl]
    generalize hP : mvS F a b m = P at h1 hr hk hn hp hj ⊢
    have k1 := hk m 1 (by omega) (by omega) (by omega) (by omega)
    have k3 := hk m 3 (by omega) (by omega) (by omega) (by omega)
    have keep : ∀ y c : Int, ((m + 1 : Nat) : Int) ≤ y → y < 12 → 0 ≤ c → c < 8 → P.2 (29 + 8 * (12 * a + y) + c) = F (29 + 8 * (12 * a + y) + c) := fun y c q0 q1 q2 q3 => hk y c (by omega) q1 q2 q3
    by_cases q1 : P.1 = 1
    · rw [if_neg (not_not_intro q1), k1, k3]
      have hr1 := hp.mp q1
      by_cases q2 : F (29 + 8 * (12 * a + (m : Int)) + 1) = 1
      · rw [if_neg (not_not_intro q2)]
        have ef := fo_adm (F := P.2) (b := b) (z := F (29 + 8 * (12 * a + (m : Int)) + 3)) hb.1
        have ea : adm P.2 b (F (29 + 8 * (12 * a + (m : Int)) + 3)) ↔ adm F b (F (29 + 8 * (12 * a + (m : Int)) + 3)) := by
          unfold adm
          rw [hr b 2 hb.1 hb.2 (by omega) (by omega), hr b 1 hb.1 hb.2 (by omega) (by omega)]
        have hfb := fo_b (F := P.2) (z := F (29 + 8 * (12 * a + (m : Int)) + 3)) hb.1 12
        generalize fo P.2 b (F (29 + 8 * (12 * a + (m : Int)) + 3)) 12 = y at ef hfb ⊢
        have hn1 := hn q1
        by_cases q3 : y = -5
        · rw [if_pos q3]
          refine ⟨⟨h1, hr, keep⟩, fun q => absurd q (by show ¬ (0 : Int) = 1; omega), ⟨fun q => absurd q (by show ¬ (0 : Int) = 1; omega), fun ⟨w0, w1⟩ => ?_⟩⟩
          exact absurd q3 (ef.mpr ⟨ea.mpr (w0 m (by omega) q2), by omega⟩)
        · rw [if_neg q3]
          obtain ⟨w1, w2⟩ := ef.mp q3
          obtain ⟨f0, f1, f2⟩ := hfb.resolve_left q3
          have hu : un P.2 y := ⟨f2.1, f2.2.1, f2.2.2.1⟩
          have hne : 12 * a + (m : Int) ≠ y := by omega
          have hV := hj.vd
          refine ⟨⟨(dmU_o hV (by omega) (by omega) (by omega) (by omega) hne (by omega)).trans h1, fun r c r0 r1 c0 c1 => (dmU_o hV (by omega) (by omega) (by omega) (by omega) hne (by omega)).trans (hr r c r0 r1 c0 c1), fun z c z0 z1 c0 c1 => (dmU_o hV (by omega) (by omega) (by omega) (by omega) hne (by omega)).trans (keep z c z0 z1 c0 c1)⟩, fun _ => ?_, ⟨fun _ => ⟨fun z hz => ?_, by omega⟩, fun _ => rfl⟩⟩
          · have := nU_dm hV (x := 12 * a + m) (by omega) (by omega) (b := b) (by omega) hb.1 hb.2 f0 f1 hu
            show nU (dmU P.2 (12 * a + m) y) b = _
            omega
          · by_cases z2 : z = m
            · subst z2
              exact fun _ => ea.mp w1
            · exact hr1.1 z (by omega)
      · rw [if_pos q2]
        have hn1 := hn q1
        refine ⟨⟨h1, hr, keep⟩, fun _ => by omega, ⟨fun _ => ⟨fun z hz => ?_, by omega⟩, fun _ => q1⟩⟩
        by_cases z2 : z = m
        · subst z2
          exact fun w => absurd w q2
        · exact hr1.1 z (by omega)
    · rw [if_pos q1]
      refine ⟨⟨h1, hr, keep⟩, fun q => absurd q q1, ⟨fun q => absurd q q1, fun ⟨w0, w1⟩ => ?_⟩⟩
      exact absurd (hp.mpr ⟨fun y hy => w0 y (by omega), by omega⟩) q1
/-- the hooks that a rack doesn't have hold nothing -/
theorem mvS_hc {nv : Int} {F : Int → Int} {a b : Int} (hJ : J nv F) (ha : 0 ≤ a ∧ a < 5) (hb : 0 ≤ b ∧ b < 5) (hab : a ≠ b) {m : Nat} (hm : m ≤ 12) (hh : F (14 + 3 * a + 0) ≤ m) : ∀ k : Nat, m + k ≤ 12 → mvS F a b (m + k) = mvS F a b m ∧ nC F a (m + k) = nC F a m
  | 0, _ => ⟨rfl, rfl⟩
  | k + 1, hk => by
    obtain ⟨e1, e2⟩ := mvS_hc hJ ha hb hab hm hh k (by omega)
    have hat := (mvS_at hJ ha hb hab (m + k) (by omega)).1.2.2 ((m + k : Nat) : Int) 1 (by omega) (by omega) (by omega) (by omega)
    have hd := (hJ.2.2.2.2.1 (12 * a + ((m + k : Nat) : Int)) (by omega) (by omega) (fun q => by
      have := q.2.2.2
      rw [show (12 * a + ((m + k : Nat) : Int)) / 12 = a by omega] at this
      omega)).2.1
    constructor
    · show mvS F a b (m + k + 1) = _
      rw [mvS_s _ _ _ _ _ rfl, ← e1]
      by_cases q1 : (mvS F a b (m + k)).1 = 1
      · rw [if_neg (not_not_intro q1), if_pos (by rw [hat]; omega)]
      · rw [if_pos q1]
    · show nC F a (m + k) + F (29 + 8 * (12 * a + ((m + k : Nat) : Int)) + 1) = _
      omega
end S56
