/-! the reference: what it writes -/
def wrL (M : St) : List Int → St
  | [] => M
  | c :: L => wrL (upS (upS M 7 (M 8 4) c) 8 4 (M 8 4 + 1)) L
theorem wrL_app (L2 : List Int) : ∀ (L1 : List Int) (M : St), wrL M (L1 ++ L2) = wrL (wrL M L1) L2
  | [], _ => rfl
  | _ :: L1, _ => wrL_app L2 L1 _
theorem wrL_84 : ∀ (L : List Int) (M : St), wrL M L 8 4 = M 8 4 + (L.length : Int)
  | [], M => (Int.add_zero _).symm
  | c :: L, M => by
    show wrL (upS (upS M 7 (M 8 4) c) 8 4 (M 8 4 + 1)) L 8 4 = _
    rw [wrL_84 L]
    have e : upS (upS M 7 (M 8 4) c) 8 4 (M 8 4 + 1) 8 4 = M 8 4 + 1 := upS_s
    rw [e, List.length_cons]
    omega
/-- what is written lies in the row behind what was there -/
theorem wrL_k {k : Nat} {j : Int} : ∀ (L : List Int) (M : St), ¬ (k = 8 ∧ j = 4) → (k = 7 → j < M 8 4 ∨ M 8 4 + (L.length : Int) ≤ j) → wrL M L k j = M k j
  | [], M, _, _ => rfl
  | c :: L, M, h1, h2 => by
    show wrL (upS (upS M 7 (M 8 4) c) 8 4 (M 8 4 + 1)) L k j = _
    have e : upS (upS M 7 (M 8 4) c) 8 4 (M 8 4 + 1) 8 4 = M 8 4 + 1 := upS_s
    rw [List.length_cons] at h2
    rw [wrL_k L _ h1 (fun q => by rw [e]; have := h2 q; omega), upS_n (by omega)]
    by_cases q : k = 7
    · have := h2 q
      exact upS_n (by omega)
    · exact upS_n (by omega)
theorem wrL_g : ∀ (L : List Int) (M : St) (i : Nat) (h : i < L.length), wrL M L 7 (M 8 4 + (i : Int)) = L[i]
  | [], M, i, h => absurd h (Nat.not_lt_zero _)
  | c :: L, M, i, h => by
    show wrL (upS (upS M 7 (M 8 4) c) 8 4 (M 8 4 + 1)) L 7 _ = _
    have e : upS (upS M 7 (M 8 4) c) 8 4 (M 8 4 + 1) 8 4 = M 8 4 + 1 := upS_s
    match i, h with
    | 0, _ =>
      rw [wrL_k L _ (by omega) (fun _ => by rw [e]; omega), upS_n (by omega)]
      exact (upS_k _ _ _ _ _).trans (if_pos (by omega))
    | i + 1, h =>
      have h2 := wrL_g L (upS (upS M 7 (M 8 4) c) 8 4 (M 8 4 + 1)) i (by rw [List.length_cons] at h; omega)
      rw [e] at h2
      rw [show M 8 4 + ((i + 1 : Nat) : Int) = M 8 4 + 1 + (i : Int) by omega]
      exact h2
def digZ (n : Int) : List Int := if 9 < n then [48 + n / 10, 48 + n % 10] else [48 + n % 10]
theorem digZ_l (n : Int) : 1 ≤ ((digZ n).length : Int) ∧ ((digZ n).length : Int) ≤ 2 := by
  unfold digZ
  split <;> (simp only [List.length_cons, List.length_nil]; omega)
def btx (S : St) (b : Int) : List Int := digZ b ++ ([64] ++ (digZ (S 1 b) ++ ([44] ++ (digZ (S 2 b) ++ ([36] ++ (digZ (rent S b) ++ ([126] ++ (digZ (noiseB S b) ++ (if S 4 b ≠ 0 then [61] ++ (digZ (S 4 b - 1) ++ ([47] ++ digZ (S 6 b))) else [])))))))))
def sgnZ (S : St) (r x : Int) : Int := if holder S r x = -1 then 46 else if holder S r x < 10 then 48 + holder S r x else if S 10 (holder S r x - 10) = 1 then 70 else 102
def rtx (S : St) (r : Int) : Nat → List Int
  | 0 => []
  | n + 1 => rtx S r n ++ [sgnZ S r n]
theorem rtx_s {S : St} {r i : Int} (h : 0 ≤ i) : rtx S r (i + 1).toNat = rtx S r i.toNat ++ [sgnZ S r i] := by
  rw [show (i + 1).toNat = i.toNat + 1 by omega]
  show _ ++ [sgnZ S r (i.toNat : Int)] = _
  rw [Int.toNat_of_nonneg h]
theorem rtx_l (S : St) (r : Int) : ∀ n : Nat, (rtx S r n).length = n
  | 0 => rfl
  | n + 1 => by
    show (rtx S r n ++ [sgnZ S r n]).length = _
    rw [List.length_append, rtx_l S r n]
    rfl
