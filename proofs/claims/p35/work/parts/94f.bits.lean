/-! both ways of counting names agree -/
def n_v (x : Int32) : Nat := x.toBitVec.toNat
theorem n_add (x y : Int32) : n_v (x + y) = (n_v x + n_v y) % 4294967296 := by
  unfold n_v
  rw [Int32.toBitVec_add, BitVec.toNat_add]
theorem n_sub (x y : Int32) : n_v (x - y) = (4294967296 - n_v y + n_v x) % 4294967296 := by
  unfold n_v
  rw [Int32.toBitVec_sub, BitVec.toNat_sub]
theorem n_and (x y : Int32) : n_v (x &&& y) = n_v x &&& n_v y := by
  unfold n_v
  rw [Int32.toBitVec_and, BitVec.toNat_and]
theorem n_sh (x : Int32) (k : Int32) (j : Nat) (h : (k.toUInt32 &&& Int32.toUInt32 31).toNat % 32 = j) : n_v (f_sh x k) = n_v x >>> j := by
  unfold n_v f_sh
  show (x.toUInt32 >>> (k.toUInt32 &&& Int32.toUInt32 31)).toBitVec.toNat = _
  rw [show (x.toUInt32 >>> (k.toUInt32 &&& Int32.toUInt32 31)).toBitVec.toNat = (x.toUInt32 >>> (k.toUInt32 &&& Int32.toUInt32 31)).toNat from rfl, UInt32.toNat_shiftRight, h]
  rfl
def g_1b (n : Nat) : Nat := (4294967296 - ((n >>> 1) &&& 1431655765) + n) % 4294967296
def g_2b (n : Nat) : Nat := ((n &&& 858993459) + ((n >>> 2) &&& 858993459)) % 4294967296
def g_3b (n : Nat) : Nat := ((n + (n >>> 4)) % 4294967296) &&& 252645135
def g_4b (n : Nat) : Nat := (n + (n >>> 8)) % 4294967296
def g_5b (n : Nat) : Nat := (n + (n >>> 16)) % 4294967296
def g_bc (n : Nat) : Nat := g_5b (g_4b (g_3b (g_2b (g_1b n)))) &&& 63
theorem n_bc (x : Int32) : n_v (f_bc x) = g_bc (n_v x) := by
  unfold f_bc g_bc f_b5 f_b4 f_b3 f_b2 f_b1 g_5b g_4b g_3b g_2b g_1b
  simp only [n_add, n_sub, n_and, n_sh _ 1 1 rfl, n_sh _ 2 2 rfl, n_sh _ 4 4 rfl, n_sh _ 8 8 rfl, n_sh _ 16 16 rfl]
  rfl
def g_bits (n : Nat) : Nat → Nat
  | 0 => 0
  | k + 1 => (g_bits n k + ((n >>> k) &&& 1)) % 4294967296
theorem n_shr (x : Int32) (hx : n_v x < 32768) (k : Nat) (hk : k < 15) : n_v ((x >>> (Int32.ofNat k &&& 31)) &&& 1) = (n_v x >>> k) &&& 1 := by
  rw [n_and]
  have e : (Int32.ofNat k &&& 31).toBitVec.smod 32 = BitVec.ofNat 32 k := (by decide : ∀ k, k < 15 → (Int32.ofNat k &&& 31).toBitVec.smod 32 = BitVec.ofNat 32 k) k hk
  have h2 : n_v (x >>> (Int32.ofNat k &&& 31)) = n_v x >>> k := by
    unfold n_v at *
    rw [Int32.toBitVec_shiftRight, e, BitVec.sshiftRight_eq', BitVec.toNat_sshiftRight_of_msb_false, BitVec.toNat_ofNat, Nat.mod_eq_of_lt (by omega)]
    rw [BitVec.msb_eq_decide]
    simp
    omega
  rw [h2]
  rfl
theorem n_bits (x : Int32) (hx : n_v x < 32768) : ∀ k, k ≤ 15 → n_v (f_bits x k) = g_bits (n_v x) k
  | 0, _ => rfl
  | k + 1, h => by
    unfold f_bits g_bits
    rw [n_add, n_bits x hx k (by omega), n_shr x hx k (by omega)]
def g_all : Nat → Nat → Bool
  | 0, n => Nat.beq (g_bc n) (g_bits n 15)
  | k + 1, n => g_all k n && g_all k (n + 2 ^ k)
theorem g_all_e : ∀ (k n : Nat), g_all k n = true → ∀ i, n ≤ i → i < n + 2 ^ k → g_bc i = g_bits i 15
  | 0, n, h, i, h1, h2 => by
    have : i = n := by rw [Nat.pow_zero] at h2; omega
    subst this
    exact Nat.eq_of_beq_eq_true h
  | k + 1, n, h, i, h1, h2 => by
    obtain ⟨a, b⟩ := (Bool.and_eq_true _ _).mp (show (g_all k n && g_all k (n + 2 ^ k)) = true from h)
    by_cases q : i < n + 2 ^ k
    · exact g_all_e k n a i h1 q
    · exact g_all_e k _ b i (by omega) (by rw [Nat.pow_succ] at h2; omega)
theorem g_all_15 : g_all 15 0 = true := by decide +kernel
theorem bits_eq (x : Int32) (h0 : 0 ≤ x.toInt) (h1 : x.toInt < 32768) : f_bc x = f_bits x 15 := by
  have hn : n_v x < 32768 := by
    have : x.toInt = x.toBitVec.toInt := rfl
    rw [this, BitVec.toInt_eq_toNat_cond] at h0 h1
    unfold n_v
    split at h0 <;> split at h1 <;> omega
  have e : n_v (f_bc x) = n_v (f_bits x 15) := by
    rw [n_bc, n_bits x hn 15 (by omega)]
    exact g_all_e 15 0 g_all_15 _ (Nat.zero_le _) (by omega)
  unfold n_v at e
  exact Int32.toBitVec_inj.mp (BitVec.eq_of_toNat_eq e)
