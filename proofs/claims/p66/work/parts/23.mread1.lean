/-! one command: its kind (0 .. 9 in the order of the verbs, -1 none), whether it went wrong, where, its numbers -/
def cmdK (T : Int → Int) (n p : Int) : Int := if chA T n p = 98 then 0 else if chA T n p = 102 then 1 else if chA T n p = 116 then 2 else if chA T n p = 103 then 3 else if chA T n p = 108 then (if chA T n (p + 1) = 105 then 8 else 4) else if chA T n p = 101 then 5 else if chA T n p = 114 then 6 else if chA T n p = 115 then 7 else if chA T n p = 112 then 9 else -1
def oneZ (T : Int → Int) (n : Int) (w : Nat) (r a b d p : Int) : Int × Int × Int × Int × Int :=
  let q := sayN T n w r p (lnZ w).toNat
  let x := numZ T n q.1 q.2 a
  let y := if 0 < b then numZ T n x.1 x.2.1 b else (x.1, x.2.1, 0)
  let z := if 0 < d then numZ T n y.1 y.2.1 d else (y.1, y.2.1, 0)
  (z.1, z.2.1, x.2.2, y.2.2, z.2.2)
def cmdO (T : Int → Int) (n r p k : Int) : Int × Int × Int × Int × Int := if k = 0 then oneZ T n 11 r 1 1 2 p else if k = 1 then oneZ T n 12 r 1 1 1 p else if k = 2 then oneZ T n 13 r 2 0 0 p else if k = 3 then oneZ T n 14 r 1 2 0 p else if k = 4 then oneZ T n 16 r 1 1 2 p else if k = 5 then oneZ T n 17 r 1 0 0 p else if k = 6 then oneZ T n 18 r 1 2 0 p else if k = 7 then oneZ T n 19 r 1 0 0 p else if k = 8 then oneZ T n 15 r 2 0 0 p else if k = 9 then oneZ T n 20 r 2 0 0 p else (1, p, 0, 0, 0)
def cmdR (T : Int → Int) (n p : Int) : Int × Int × Int × Int × Int := cmdO T n 0 p (cmdK T n p)
def srtZ (k : Int) : Int := if k = 0 then 98 else if k = 1 then 102 else if k = 2 then 116 else if k = 3 then 103 else if k = 4 then 108 else if k = 5 then 101 else if k = 6 then 114 else if k = 7 then 115 else if k = 8 then 105 else if k = 9 then 112 else 0
def arZ (k : Int) : Int := if k = 0 then 3 else if k = 1 then 3 else if k = 2 then 1 else if k = 3 then 2 else if k = 4 then 3 else if k = 5 then 1 else if k = 6 then 2 else if k = 7 then 1 else if k = 8 then 1 else if k = 9 then 1 else 0
/-- what is left when one command has been read -/
def rd1P (M u : St) : Prop := u 8 14 = (cmdR (M 5) (M 8 12) (M 8 11)).1 ∧ u 8 11 = (cmdR (M 5) (M 8 12) (M 8 11)).2.1 ∧ u 8 13 = M 8 13 + 1 ∧ u 5 = M 5 ∧ u 7 = M 7 ∧ (∀ i, i ≠ 11 → i ≠ 13 → i ≠ 14 → u 8 i = M 8 i) ∧ (∀ i, i < 4 * M 8 13 → u 6 i = M 6 i) ∧
  (cmdK (M 5) (M 8 12) (M 8 11) ≠ -1 → u 6 (4 * M 8 13) = srtZ (cmdK (M 5) (M 8 12) (M 8 11)) ∧ u 6 (4 * M 8 13 + 1) = (cmdR (M 5) (M 8 12) (M 8 11)).2.2.1 ∧ (2 ≤ arZ (cmdK (M 5) (M 8 12) (M 8 11)) → u 6 (4 * M 8 13 + 2) = (cmdR (M 5) (M 8 12) (M 8 11)).2.2.2.1) ∧ (3 ≤ arZ (cmdK (M 5) (M 8 12) (M 8 11)) → u 6 (4 * M 8 13 + 3) = (cmdR (M 5) (M 8 12) (M 8 11)).2.2.2.2))
