/-! ===== masks ===== -/
theorem nI_ofInt (v : Nat) : Int32.ofInt (v : Int) = nI v := Int32.ofInt_eq_ofNat
theorem sh_r (v s : Nat) (hv : v < 2147483648) (hs : s < 16) : Int32.ofInt (v : Int) >>> (Int32.ofInt (s : Int) &&& 31) = Int32.ofInt ((v / 2 ^ s : Nat) : Int) := by
  rw [nI_ofInt, nI_ofInt]
  have h : s = 0 ∨ s = 1 ∨ s = 2 ∨ s = 3 ∨ s = 4 ∨ s = 5 ∨ s = 6 ∨ s = 7 ∨ s = 8 ∨ s = 9 ∨ s = 10 ∨ s = 11 ∨ s = 12 ∨ s = 13 ∨ s = 14 ∨ s = 15 := by omega
  rcases h with rfl | rfl | rfl | rfl | rfl | rfl | rfl | rfl | rfl | rfl | rfl | rfl | rfl | rfl | rfl | rfl <;> exact pk_shrN (by omega) _ _ (by decide)
theorem sh_l (s : Nat) (hs : s < 16) : Int32.ofInt 1 <<< (Int32.ofInt (s : Int) &&& 31) = Int32.ofInt ((2 ^ s : Nat) : Int) := by
  have h : s = 0 ∨ s = 1 ∨ s = 2 ∨ s = 3 ∨ s = 4 ∨ s = 5 ∨ s = 6 ∨ s = 7 ∨ s = 8 ∨ s = 9 ∨ s = 10 ∨ s = 11 ∨ s = 12 ∨ s = 13 ∨ s = 14 ∨ s = 15 := by omega
  rcases h with rfl | rfl | rfl | rfl | rfl | rfl | rfl | rfl | rfl | rfl | rfl | rfl | rfl | rfl | rfl | rfl <;> decide
theorem an_1 (v : Nat) (hv : v < 2147483648) : Int32.ofInt (v : Int) &&& Int32.ofInt 1 = Int32.ofInt ((v % 2 : Nat) : Int) := by
  rw [nI_ofInt, nI_ofInt]
  exact pk_andN (by omega) 1 (by decide)
theorem an_15 (x : Int) (hx : inR x) : Int32.ofInt x &&& Int32.ofInt 15 = Int32.ofInt (x % 16) := by
  have e := pk_and (Int32.ofInt x) (m := Int32.ofInt 15) 4 (by decide)
  rw [e, ← nI_ofInt]
  congr 1
  have h1 : (Int32.ofInt x).toBitVec.toInt = x := inR_toInt hx
  have h2 : (Int32.ofInt x).toBitVec.toInt % 16 = ((Int32.ofInt x).toBitVec.toNat : Int) % 16 := by
    rw [BitVec.toInt_eq_toNat_cond]
    split <;> omega
  rw [h1] at h2
  omega
theorem an_nat (a b : Nat) : Int32.ofInt (a : Int) &&& Int32.ofInt (b : Int) = Int32.ofInt ((a &&& b : Nat) : Int) := by
  rw [nI_ofInt, nI_ofInt, nI_ofInt]
  unfold nI
  apply Int32.toBitVec.inj
  first
    | simp [BitVec.ofNat_and]
    | (apply BitVec.eq_of_toNat_eq; simp [Nat.and_mod_two_pow])
theorem or_nat (a b : Nat) : Int32.ofInt (a : Int) ||| Int32.ofInt (b : Int) = Int32.ofInt ((a ||| b : Nat) : Int) := by
  rw [nI_ofInt, nI_ofInt, nI_ofInt]
  unfold nI
  apply Int32.toBitVec.inj
  first
    | simp [BitVec.ofNat_or]
    | (apply BitVec.eq_of_toNat_eq; simp [Nat.or_mod_two_pow])
theorem and_lt {a b n : Nat} (h : a < 2 ^ n) : a &&& b < 2 ^ n := Nat.lt_of_le_of_lt Nat.and_le_left h
theorem div_lt16 {a s : Nat} (h : a < 65536) : a / 2 ^ s < 65536 := Nat.lt_of_le_of_lt (Nat.div_le_self _ _) h
/-- the highest shared mark, from e down to 1; else 0 -/
def nearF (m : Nat) : Nat → Nat
  | 0 => 0
  | e + 1 => if m / 2 ^ (e + 1) % 2 = 1 then e + 1 else nearF m e
theorem nearF_s (m e : Nat) : nearF m (e + 1) = if m / 2 ^ (e + 1) % 2 = 1 then e + 1 else nearF m e := rfl
theorem nearF_le (m e : Nat) : nearF m e ≤ e := by
  induction e with
  | zero => exact Nat.le_refl _
  | succ e ih =>
    unfold nearF
    split
    · omega
    · omega
/-! ===== rows that a loop fills ===== -/
def w_map (I : w_Mm) (a j : Nat) (g : Nat → Int) : w_Mm := fun b k => if b = a ∧ k < j then g k else I b k
theorem w_map_0 {I : w_Mm} {a : Nat} {g : Nat → Int} : w_map I a 0 g = I := by
  funext b k
  simp [w_map]
theorem w_map_s {I : w_Mm} {a j : Nat} {g : Nat → Int} {z : Int} (hz : z = g j) : w_up (w_map I a j g) a j z = w_map I a (j + 1) g := by
  funext b k
  unfold w_up w_map
  by_cases h1 : b = a
  · by_cases h2 : k = j
    · subst h2
      simp [h1, hz]
    · by_cases h3 : k < j
      · simp [h1, h2, h3, Nat.lt_succ_of_lt h3]
      · have h4 : ¬ k < j + 1 := by omega
        simp [h1, h2, h3, h4]
  · simp [h1]
theorem w_map_o {I : w_Mm} {a j b k : Nat} {g : Nat → Int} (h : ¬ (b = a ∧ k < j)) : w_map I a j g b k = I b k := by simp [w_map, h]
theorem w_map_i {I : w_Mm} {a j k : Nat} {g : Nat → Int} (h : k < j) : w_map I a j g a k = g k := by simp [w_map, h]
theorem w_rngm {I : w_Mm} {a j : Nat} {g : Nat → Int} (h : ∀ a k, inR (I a k)) (hg : ∀ k, k < j → inR (g k)) : ∀ b k, inR (w_map I a j g b k) := fun b k => by
  unfold w_map
  split
  · rename_i h1; exact hg k h1.2
  · exact h b k
theorem nat_1 (j : Nat) : ((j : Int) + 1) = ((j + 1 : Nat) : Int) := rfl
theorem w_cpy_o {I : w_Mm} {b a len x j : Nat} (h : ¬ (x = a ∧ j < len)) : w_cpy I b a len x j = I x j := by simp [w_cpy, h]
theorem w_cpy_i {I : w_Mm} {b a len j : Nat} (h : j < len) : w_cpy I b a len a j = I b j := by simp [w_cpy, h]
