/-! pixels out of bytes -/
theorem qa_px {b k : Nat} (hb : b < 256) (hk : k < 4) : (nI b >>> (nI (2 * k) &&& 31)) &&& 3 = nI (b / 4 ^ k % 4) := by
  have h : k = 0 ∨ k = 1 ∨ k = 2 ∨ k = 3 := by omega
  rcases h with rfl | rfl | rfl | rfl
  · rw [pk_shrN (by omega) (nI (2 * 0) &&& 31) 0 (by decide), pk_andN (by omega) 2 (by decide)]
  · rw [pk_shrN (by omega) (nI (2 * 1) &&& 31) 2 (by decide), pk_andN (by omega) 2 (by decide)]
  · rw [pk_shrN (by omega) (nI (2 * 2) &&& 31) 4 (by decide), pk_andN (by omega) 2 (by decide)]
  · rw [pk_shrN (by omega) (nI (2 * 3) &&& 31) 6 (by decide), pk_andN (by omega) 2 (by decide)]
def qa_rv (b : Nat) : Nat := b % 4 * 64 + b / 4 % 4 * 16 + b / 16 % 4 * 4 + b / 64
theorem qa_rvX : ∀ b, b < 256 → ((((nI b &&& 3) <<< ((6 : Int32) &&& 31)) ||| ((nI b &&& 12) <<< ((2 : Int32) &&& 31))) ||| ((nI b >>> ((2 : Int32) &&& 31)) &&& 12)) ||| (nI b >>> ((6 : Int32) &&& 31)) = nI (qa_rv b) := by decide +kernel
theorem qa_rvB {b : Nat} (h : b < 256) : qa_rv b < 256 := by unfold qa_rv; omega
theorem qa_rvT : ∀ b, b < 256 → ∀ k, k < 4 → qa_rv b / 4 ^ (3 - k) % 4 = b / 4 ^ k % 4 := by decide +kernel
theorem qa_rvK {b k : Nat} (hb : b < 256) (hk : k < 4) : qa_rv b / 4 ^ (3 - k) % 4 = b / 4 ^ k % 4 := qa_rvT b hb k hk
/-! the pad -/
theorem qa_pad0 : ∀ k, k < 256 → ((0 ||| (nI k &&& 15)) ^^^ (-1)) &&& 15 = 15 &&& ((nI k ||| 0) ^^^ (-1)) := by decide +kernel
/-! reckoning -/
theorem qa_dec : ∀ b, b < 256 → (nI b - 1) &&& 255 = (nI b + 255) &&& 255 := by decide +kernel
theorem qa_and255 {n : Nat} (h : n < 256) : nI n &&& 255 = nI n := by
  rw [pk_andN (by omega) 8 (by decide), Nat.mod_eq_of_lt h]
theorem qa_c8 {n : Nat} (h : n < 512) : nI n >>> ((8 : Int32) &&& 31) = if 255 < nI n then 1 else 0 := by
  rw [pk_shrN (by omega) _ 8 (by decide)]
  by_cases c : 255 < n
  · have z : (255 : Int32) < nI n := nI_lt (a := 255) c (by omega)
    rw [if_pos z, show n / 2 ^ 8 = 1 by omega]
    rfl
  · have z : ¬ (255 : Int32) < nI n := nI_nlt (b := n) (a := 255) (by omega) (by omega)
    rw [if_neg z, show n / 2 ^ 8 = 0 by omega]
    rfl
