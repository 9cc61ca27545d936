/-! the reference: mean rent, share let -/
theorem nn_d : ∀ a, a < 201 → ∀ b, b < 11 → vf_n64 (FP.ddiv (FP.i2d (zI (a : Nat))) (FP.i2d (zI ((b : Nat) + 1 : Nat)))) := by unfold vf_n64; decide +kernel
theorem nn_f : ∀ a, a < 11 → ∀ b, b < 11 → vf_n32 (FP.fdiv (FP.i2f (zI (a : Nat))) (FP.i2f (zI ((b : Nat) + 1 : Nat)))) := by unfold vf_n32; decide +kernel
theorem nnD {a b : Int} (ha : 0 ≤ a ∧ a ≤ 200) (hb : 1 ≤ b ∧ b ≤ 10) : vf_n64 (FP.ddiv (FP.i2d (zI a)) (FP.i2d (zI b))) := by
  have h := nn_d a.toNat (by omega) (b.toNat - 1) (by omega)
  rw [Int.toNat_of_nonneg ha.1, show (((b.toNat - 1) + 1 : Nat) : Int) = b by omega] at h
  exact h
theorem nnF {a b : Int} (ha : 0 ≤ a ∧ a ≤ 10) (hb : 1 ≤ b ∧ b ≤ 10) : vf_n32 (FP.fdiv (FP.i2f (zI a)) (FP.i2f (zI b))) := by
  have h := nn_f a.toNat (by omega) (b.toNat - 1) (by omega)
  rw [Int.toNat_of_nonneg ha.1, show (((b.toNat - 1) + 1 : Nat) : Int) = b by omega] at h
  exact h
def mrD (S : St) : UInt64 := if S 0 0 = 0 then FP.dconst0 else FP.ddiv (FP.i2d (zI (sumZ (rent S) (S 0 0).toNat))) (FP.i2d (zI (S 0 0)))
def lsF (S : St) : UInt32 := if S 0 0 = 0 then FP.fconst0 else FP.fdiv (FP.i2f (zI (sumZ (fun o => bI (S 4 o ≠ 0)) (S 0 0).toNat))) (FP.i2f (zI (S 0 0)))

theorem barM_n {S M : St} {t b : Int} {k : Nat} {i : Int} (h : ¬ (k = 8 ∧ i = 9)) : barM S M t b k i = M k i := by
  unfold barM
  split
  · rfl
  · exact upS_n (by omega)
/-- what a question leaves: what is thrown, all else as it was but for what it speaks about -/
def qM (M u : St) (t : Int) : Prop := u 8 0 = t ∧ ∀ k i, ¬ (k = 8 ∧ (i = 0 ∨ i = 9)) → u k i = M k i
