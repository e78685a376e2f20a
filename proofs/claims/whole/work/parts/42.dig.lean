/-! numbers by digits of 32 bits, the lowest first -/
section ZDIG
def zdg (f : Nat → Nat) : Nat → Nat
  | 0 => 0
  | n + 1 => zdg f n + f n * 2 ^ (32 * n)
theorem zdg_s (f : Nat → Nat) (n : Nat) : zdg f (n + 1) = zdg f n + f n * 2 ^ (32 * n) := rfl
theorem zdg_congr {f g : Nat → Nat} : ∀ {n : Nat}, (∀ k, k < n → f k = g k) → zdg f n = zdg g n
  | 0, _ => rfl
  | n + 1, h => by unfold zdg; rw [zdg_congr (fun k hk => h k (by omega)), h n (by omega)]
theorem zp32 (n : Nat) : 2 ^ (32 * (n + 1)) = 4294967296 * 2 ^ (32 * n) := by rw [show 32 * (n + 1) = 32 + 32 * n by omega, Nat.pow_add]
theorem zdg_lt {f : Nat → Nat} : ∀ {n : Nat}, (∀ k, k < n → f k < 4294967296) → zdg f n < 2 ^ (32 * n)
  | 0, _ => Nat.one_pos
  | n + 1, h => by
    have h1 := zdg_lt (f := f) (n := n) (fun k hk => h k (by omega))
    have h2 : f n * 2 ^ (32 * n) ≤ 4294967295 * 2 ^ (32 * n) := Nat.mul_le_mul_right _ (by have := h n (by omega); omega)
    unfold zdg
    rw [zp32]; omega
theorem zdg_z {f : Nat → Nat} : ∀ {n : Nat}, (∀ k, k < n → f k = 0) → zdg f n = 0
  | 0, _ => rfl
  | n + 1, h => by unfold zdg; rw [zdg_z (fun k hk => h k (by omega)), h n (by omega)]; simp
/-- digits that are 0 from m on -/
theorem zdg_top {f : Nat → Nat} {m : Nat} : ∀ {n : Nat}, m ≤ n → (∀ k, m ≤ k → k < n → f k = 0) → zdg f n = zdg f m
  | 0, h, _ => by rw [show m = 0 by omega]
  | n + 1, h, h2 => by
    by_cases h1 : m = n + 1
    · rw [h1]
    · rw [zdg_s, zdg_top (m := m) (n := n) (by omega) (fun k hk hk2 => h2 k hk (by omega)), h2 n (by omega) (by omega), Nat.zero_mul, Nat.add_zero]
theorem zdg_split (f : Nat → Nat) (k : Nat) : ∀ n, zdg f (k + n) = zdg f k + 2 ^ (32 * k) * zdg (fun i => f (k + i)) n
  | 0 => by simp [zdg]
  | n + 1 => by
    rw [show k + (n + 1) = (k + n) + 1 by omega, zdg_s, zdg_s, zdg_split f k n, Nat.mul_add, Nat.mul_add, Nat.pow_add]
    have : f (k + n) * (2 ^ (32 * k) * 2 ^ (32 * n)) = 2 ^ (32 * k) * (f (k + n) * 2 ^ (32 * n)) := by ac_rfl
    rw [this]; omega
theorem zdg_1 (f : Nat → Nat) : zdg f 1 = f 0 := by simp [zdg]
/-- one digit and those above it -/
theorem zdg_hd (f : Nat → Nat) (n : Nat) : zdg f (n + 1) = f 0 + 4294967296 * zdg (fun i => f (i + 1)) n := by
  rw [Nat.add_comm n 1, zdg_split, zdg_1]
  congr 2
  exact zdg_congr fun k _ => by rw [Nat.add_comm]
/-- a digit of a number -/
theorem zdg_dig {f : Nat → Nat} {n k : Nat} (h : ∀ k, k < n → f k < 4294967296) (hk : k < n) : zdg f n / 2 ^ (32 * k) % 4294967296 = f k := by
  obtain ⟨m, rfl⟩ : ∃ m, n = k + (m + 1) := ⟨n - k - 1, by omega⟩
  rw [zdg_split, Nat.add_mul_div_left _ _ (Nat.two_pow_pos _), Nat.div_eq_of_lt (zdg_lt (fun i hi => h i (by omega))), Nat.zero_add, zdg_hd, Nat.add_mul_mod_self_left]
  exact Nat.mod_eq_of_lt (h _ (by omega))
theorem zdg_inj {f g : Nat → Nat} {n : Nat} (hf : ∀ k, k < n → f k < 4294967296) (hg : ∀ k, k < n → g k < 4294967296) (h : zdg f n = zdg g n) (k : Nat) (hk : k < n) : f k = g k := by
  rw [← zdg_dig hf hk, h, zdg_dig hg hk]
/-- what decides between two numbers is their highest digit that differs -/
theorem zdg_cmp {f g : Nat → Nat} {n k : Nat} (hf : ∀ i, i < k → f i < 4294967296) (hk : k < n) (he : ∀ i, k < i → i < n → f i = g i) (h : f k < g k) : zdg f n < zdg g n := by
  obtain ⟨m, rfl⟩ : ∃ m, n = (k + 1) + m := ⟨n - k - 1, by omega⟩
  rw [zdg_split f, zdg_split g, zdg_congr (f := fun i => f (k + 1 + i)) (g := fun i => g (k + 1 + i)) (fun i hi => he _ (by omega) (by omega))]
  have h1 := zdg_lt (f := f) (n := k) hf
  have h2 : (f k + 1) * 2 ^ (32 * k) ≤ g k * 2 ^ (32 * k) := Nat.mul_le_mul_right _ h
  rw [Nat.add_mul] at h2
  unfold zdg
  omega
/-- reading any number's digits -/
def zdo (V k : Nat) : Nat := V / 2 ^ (32 * k) % 4294967296
theorem zdo_lt (V k : Nat) : zdo V k < 4294967296 := Nat.mod_lt _ (by decide)
theorem zdg_zdo (V : Nat) : ∀ n, zdg (zdo V) n = V % 2 ^ (32 * n)
  | 0 => by simp [zdg, Nat.mod_one]
  | n + 1 => by
    unfold zdg
    rw [zdg_zdo V n, zp32, Nat.mul_comm 4294967296, Nat.mod_mul]
    unfold zdo
    rw [Nat.mul_comm (2 ^ (32 * n))]
/-- the bits of a number by its digits -/
theorem zdg_bit {f : Nat → Nat} {n i : Nat} (h : ∀ k, k < n → f k < 4294967296) (hi : i < 32 * n) : zdg f n / 2 ^ i % 2 = f (i / 32) / 2 ^ (i % 32) % 2 := by
  have h1 := zdg_dig h (show i / 32 < n by omega)
  rw [← h1]
  have e : 2 ^ i = 2 ^ (32 * (i / 32)) * 2 ^ (i % 32) := by rw [← Nat.pow_add]; congr 1; omega
  rw [e, ← Nat.div_div_eq_div_mul]
  generalize zdg f n / 2 ^ (32 * (i / 32)) = V
  have h32 : 4294967296 = 2 ^ (i % 32) * (2 * 2 ^ (31 - i % 32)) := by
    rw [← Nat.mul_assoc, Nat.mul_right_comm, ← Nat.pow_add, show i % 32 + (31 - i % 32) = 31 by omega]
  rw [h32, Nat.mod_mul_right_div_self, Nat.mod_mul_right_mod]
end ZDIG
