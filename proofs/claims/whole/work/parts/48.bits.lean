/-! the JDK's bitCount for all that is below 2^17 -/
def bcA (S : Nat) : Nat := S - ((S / 2) &&& 1431655765)
def bcY (a : Nat) : Nat := (a &&& 858993459) + ((a / 4) &&& 858993459)
def bcZ (y : Nat) : Nat := (y + y / 16) &&& 252645135
def bcU (z : Nat) : Nat := z + z / 256
def bcN (S : Nat) : Nat := (bcU (bcZ (bcY (bcA S))) + bcU (bcZ (bcY (bcA S))) / 65536) &&& 63
def bchk : Nat → Nat → Nat → Bool
  | 0, p, c => Nat.beq (bcN p) c
  | d + 1, p, c => bchk d (2 * p) c && bchk d (2 * p + 1) (c + 1)
theorem bchk17 : bchk 17 0 0 = true := by decide +kernel
theorem pc_shift (p b : Nat) (hb : b < 2) : ∀ k, pc10 (2 * p + b) (k + 1) = pc10 p k + b
  | 0 => by
    simp only [pc10]
    rw [Nat.testBit_zero]
    rcases (show b = 0 ∨ b = 1 by omega) with e | e
    · subst e; simp
    · subst e; simp [Nat.add_mod]
  | k + 1 => by
    rw [pc10, pc_shift p b hb k]
    have : (2 * p + b).testBit (k + 1) = p.testBit k := by
      rw [Nat.testBit_succ]
      congr 1
      omega
    rw [this]
    simp only [pc10]
    omega
theorem bchk_all : ∀ d p c, bchk d p c = true → ∀ x, x < 2 ^ d → ∀ k, pc10 p k = c → bcN (2 ^ d * p + x) = pc10 (2 ^ d * p + x) (k + d)
  | 0, p, c, h, x, hx, k, hk => by
    have e : x = 0 := by rw [Nat.pow_zero] at hx; omega
    subst e
    simp only [bchk] at h
    rw [Nat.pow_zero, Nat.one_mul, Nat.add_zero, Nat.add_zero, hk]
    exact Nat.eq_of_beq_eq_true h
  | d + 1, p, c, h, x, hx, k, hk => by
    simp only [bchk, Bool.and_eq_true] at h
    have e2 : (2 : Nat) ^ (d + 1) = 2 * 2 ^ d := by rw [Nat.pow_succ, Nat.mul_comm]
    by_cases q : x < 2 ^ d
    · have := bchk_all d (2 * p) c h.1 x q (k + 1) (by have := pc_shift p 0 (by decide) k; rw [Nat.add_zero] at this; rw [this, hk]; rfl)
      rw [show 2 ^ (d + 1) * p + x = 2 ^ d * (2 * p) + x by rw [Nat.pow_succ, Nat.mul_assoc], show k + (d + 1) = k + 1 + d by omega]
      exact this
    · have := bchk_all d (2 * p + 1) (c + 1) h.2 (x - 2 ^ d) (by omega) (k + 1) (by rw [pc_shift p 1 (by decide) k, hk])
      rw [show 2 ^ (d + 1) * p + x = 2 ^ d * (2 * p + 1) + (x - 2 ^ d) by rw [Nat.pow_succ, Nat.mul_assoc, Nat.mul_add, Nat.mul_one]; omega, show k + (d + 1) = k + 1 + d by omega]
      exact this
theorem bcN_popc {S : Nat} (hS : S < 2 ^ 17) : bcN S = popc S := by
  have := bchk_all 17 0 0 bchk17 S hS 0 rfl
  rw [Nat.mul_zero, Nat.zero_add, Nat.zero_add] at this
  exact this
theorem bcE_n {S : Nat} (hS : S < 2 ^ 17) : bcE (nI S) = nI (bcN S) := by
  have a1 : (S / 2) &&& 1431655765 ≤ S := Nat.le_trans Nat.and_le_left (Nat.div_le_self _ _)
  have ha : bcA S ≤ S := by unfold bcA; omega
  have hy : bcY (bcA S) ≤ 2 * S := by
    unfold bcY
    have h1 : bcA S &&& 858993459 ≤ bcA S := Nat.and_le_left
    have h2 : (bcA S / 4) &&& 858993459 ≤ bcA S / 4 := Nat.and_le_left
    omega
  have hz : bcZ (bcY (bcA S)) ≤ 4 * S := by
    unfold bcZ
    have h1 : (bcY (bcA S) + bcY (bcA S) / 16) &&& 252645135 ≤ bcY (bcA S) + bcY (bcA S) / 16 := Nat.and_le_left
    omega
  have hu : bcU (bcZ (bcY (bcA S))) ≤ 8 * S := by unfold bcU; omega
  have E1 : nI S - ((jush (nI S) (1 : Int32)) &&& (1431655765 : Int32)) = nI (bcA S) := by
    have j : jush (nI S) (nI 1) = nI (S / 2 ^ 1) := jush_n (by omega) (by omega)
    rw [show (1 : Int32) = nI 1 from rfl, j, show (1431655765 : Int32) = nI 1431655765 from rfl, nI_and, pk_sub a1]
    rfl
  have E2 : (nI (bcA S) &&& (858993459 : Int32)) + ((jush (nI (bcA S)) (2 : Int32)) &&& (858993459 : Int32)) = nI (bcY (bcA S)) := by
    have j : jush (nI (bcA S)) (nI 2) = nI (bcA S / 2 ^ 2) := jush_n (by omega) (by omega)
    rw [show (2 : Int32) = nI 2 from rfl, j, show (858993459 : Int32) = nI 858993459 from rfl, nI_and, nI_and, nI_add]
    rfl
  have E3 : (nI (bcY (bcA S)) + (jush (nI (bcY (bcA S))) (4 : Int32))) &&& (252645135 : Int32) = nI (bcZ (bcY (bcA S))) := by
    have j : jush (nI (bcY (bcA S))) (nI 4) = nI (bcY (bcA S) / 2 ^ 4) := jush_n (by omega) (by omega)
    rw [show (4 : Int32) = nI 4 from rfl, j, show (252645135 : Int32) = nI 252645135 from rfl, nI_add, nI_and]
    rfl
  have E4 : nI (bcZ (bcY (bcA S))) + (jush (nI (bcZ (bcY (bcA S)))) (8 : Int32)) = nI (bcU (bcZ (bcY (bcA S)))) := by
    have j : jush (nI (bcZ (bcY (bcA S)))) (nI 8) = nI (bcZ (bcY (bcA S)) / 2 ^ 8) := jush_n (by omega) (by omega)
    rw [show (8 : Int32) = nI 8 from rfl, j, nI_add]
    rfl
  have E5 : (nI (bcU (bcZ (bcY (bcA S)))) + (jush (nI (bcU (bcZ (bcY (bcA S))))) (16 : Int32))) &&& (63 : Int32) = nI (bcN S) := by
    have j : jush (nI (bcU (bcZ (bcY (bcA S))))) (nI 16) = nI (bcU (bcZ (bcY (bcA S))) / 2 ^ 16) := jush_n (by omega) (by omega)
    rw [show (16 : Int32) = nI 16 from rfl, j, show (63 : Int32) = nI 63 from rfl, nI_add, nI_and]
    rfl
  unfold bcE
  dsimp only
  rw [E1, E2, E3, E4, E5]
theorem sp_bitCount17 {S : Nat} {post : Int32 → Prop} (hS : S < 2 ^ 17) (hp : post (nI (popc S))) : wpJ6_bitCount_0f7a4 (nI S) post := sp_bc (by rw [bcE_n hS, bcN_popc hS]; exact hp)
