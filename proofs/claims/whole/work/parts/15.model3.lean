/-! ===== chains of handles; the best hook ===== -/
def Ch (F : Int → Int) : Nat → Int → Int → Prop
  | 0, x, z => x = z ∧ 0 ≤ x ∧ x < 6000 ∧ fol F x < 0
  | n + 1, x, z => 0 ≤ x ∧ x < 6000 ∧ 0 ≤ fol F x ∧ Ch F n (fol F x) z
def lsF (F : Int → Int) : Nat → Int → Int
  | 0, x => x
  | n + 1, x => if 0 ≤ fol F x then lsF F n (fol F x) else x
def wyF (F : Int → Int) : Nat → Int → Int
  | 0, _ => 0
  | n + 1, x => if 0 ≤ fol F x then wyF F n (fol F x) + 1 else 0
/-- the last handle to which one gets; the way -/
def la (F : Int → Int) (x : Int) : Int := lsF F 6000 x
def wy (F : Int → Int) (x : Int) : Int := wyF F 6000 x
/-- every way has an end -/
def AC (F : Int → Int) : Prop := ∀ x : Int, 0 ≤ x → x < 6000 → ∃ (d : Nat) (z : Int), d ≤ 6000 ∧ Ch F d x z
theorem Ch.x {F : Int → Int} {d : Nat} {x z : Int} (h : Ch F d x z) : 0 ≤ x ∧ x < 6000 := by
  cases d with
  | zero => exact ⟨h.2.1, h.2.2.1⟩
  | succ d => exact ⟨h.1, h.2.1⟩
theorem Ch.z {F : Int → Int} : ∀ {d : Nat} {x z : Int}, Ch F d x z → 0 ≤ z ∧ z < 6000 ∧ fol F z < 0
  | 0, x, z, h => by obtain ⟨rfl, h1, h2, h3⟩ := h; exact ⟨h1, h2, h3⟩
  | d + 1, x, z, h => Ch.z h.2.2.2
theorem Ch.ls {F : Int → Int} : ∀ {d m : Nat} {x z : Int}, Ch F d x z → d ≤ m → lsF F m x = z
  | 0, 0, x, z, h, _ => h.1
  | 0, m + 1, x, z, h, _ => by
    have := h.2.2.2
    show (if 0 ≤ fol F x then _ else x) = z
    rw [if_neg (by omega)]
    exact h.1
  | d + 1, 0, x, z, h, hm => by omega
  | d + 1, m + 1, x, z, h, hm => by
    show (if 0 ≤ fol F x then _ else x) = z
    rw [if_pos h.2.2.1]
    exact Ch.ls h.2.2.2 (by omega)
theorem Ch.wy {F : Int → Int} : ∀ {d m : Nat} {x z : Int}, Ch F d x z → d ≤ m → wyF F m x = d
  | 0, 0, x, z, h, _ => rfl
  | 0, m + 1, x, z, h, _ => by
    have := h.2.2.2
    show (if 0 ≤ fol F x then _ else 0) = _
    rw [if_neg (by omega)]
    rfl
  | d + 1, 0, x, z, h, hm => by omega
  | d + 1, m + 1, x, z, h, hm => by
    show (if 0 ≤ fol F x then _ else 0) = _
    rw [if_pos h.2.2.1, Ch.wy h.2.2.2 (by omega)]
    omega
theorem AC.en {F : Int → Int} (h : AC F) {x : Int} (h0 : 0 ≤ x) (h1 : x < 6000) : ∃ d : Nat, d ≤ 6000 ∧ Ch F d x (la F x) ∧ wy F x = d := by
  obtain ⟨d, z, hd, hc⟩ := h x h0 h1
  refine ⟨d, hd, ?_, hc.wy hd⟩
  have := hc.ls hd
  unfold la
  rw [this]
  exact hc
theorem AC.b {F : Int → Int} (h : AC F) {x : Int} (h0 : 0 ≤ x) (h1 : x < 6000) : 0 ≤ la F x ∧ la F x < 6000 := by
  obtain ⟨d, -, hc, -⟩ := h.en h0 h1
  exact ⟨hc.z.1, hc.z.2.1⟩
theorem fol_b {n : Int} {F : Int → Int} (hV : Vd n F) {x : Int} (h0 : 0 ≤ x) (h1 : x < 6000) : -1 ≤ fol F x ∧ fol F x < 6001 := by
  have hh := hV.2.2.2.2.2.2 x h0 h1
  unfold fol
  omega
theorem eo_b {n : Int} {F : Int → Int} (hV : Vd n F) {x : Int} (h0 : 0 ≤ x) (h1 : x < 6000) : 0 ≤ eo F x ∧ eo F x < 8 := by
  have hh := hV.2.2.2.2.2.2 x h0 h1
  unfold eo
  omega
theorem bst_b (F : Int → Int) (z : Int) : ∀ n : Nat, bst F z n = -5 ∨ (0 ≤ bst F z n ∧ bst F z n < n)
  | 0 => Or.inl rfl
  | n + 1 => by
    have := bst_b F z n
    show (if _ then (n : Int) else bst F z n) = -5 ∨ (0 ≤ (if _ then (n : Int) else bst F z n) ∧ (if _ then (n : Int) else bst F z n) < _)
    split <;> omega
theorem sm_b {f : Int → Int} {m : Int} (hm : 0 ≤ m) : ∀ {n : Nat}, (∀ k : Nat, k < n → 0 ≤ f k ∧ f k ≤ m) → 0 ≤ sm f n ∧ sm f n ≤ m * n
  | 0, _ => by simp [sm]
  | n + 1, h => by
    have h1 := sm_b hm (n := n) (fun k hk => h k (by omega))
    have h2 := h n (by omega)
    have e : m * ((n + 1 : Nat) : Int) = m * n + m := by
      rw [Int.natCast_succ, Int.mul_add, Int.mul_one]
    rw [e]
    show 0 ≤ sm f n + f n ∧ sm f n + f n ≤ _
    omega
/-- 0, or the error of a tag -/
def noT (F : Int → Int) (t : Int) : Int := if ¬ isTg t then -2 else if ¬ 0 < F (559 + t / 10) then -1 else if eo F (la F (t / 10)) = 0 then 0 else if eo F (la F (t / 10)) = 1 then -6 else -7
