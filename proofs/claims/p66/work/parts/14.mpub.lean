/-! the reference: months, what is remembered, ends of acts -/
/-- the history with another row behind it -/
def k1Z (k : Int) : Int := if k = 8 then 8 else k + 1
def shZ (F : Int → Int) (k : Int) : Int → Int := fun j => if j < k then F (j + 102) else F j
def bsZ (F3 : Int → Int) (k : Int) : Int → Int := if k = 8 then shZ F3 714 else F3
def inZ (F G : Int → Int) (o k : Int) : Int → Int := fun j => if o ≤ j ∧ j < o + k then G (j - o) else F j
def hiZ (F3 F1 : Int → Int) (k : Int) : Int → Int := inZ (bsZ F3 k) F1 (102 * (k1Z k - 1)) 102
theorem sh_0 (F : Int → Int) (j : Nat) : zz F j = zz (shZ F 0) j := by
  unfold zz shZ
  rw [if_neg (by omega)]
theorem sh_put {F : Int → Int} {k : Int} (hk : 0 ≤ k) (j : Nat) (hj : j < 816) : upd (zz (shZ F k)) k.toNat (zI (shZ F k (k + 102))) j = zz (shZ F (k + 1)) j := by
  unfold upd zz shZ
  by_cases h : j = k.toNat
  · rw [if_pos h, if_neg (by omega), if_pos (by omega), show (j : Int) = k by omega]
  · rw [if_neg h]
    by_cases h2 : (j : Int) < k
    · rw [if_pos h2, if_pos (by omega)]
    · rw [if_neg h2, if_neg (by omega)]
theorem in_0 (F G : Int → Int) (o : Int) (j : Nat) : zz F j = zz (inZ F G o 0) j := by
  unfold zz inZ
  rw [if_neg (by omega)]
theorem in_put {F G : Int → Int} {o k : Int} (ho : 0 ≤ o) (hk : 0 ≤ k) (j : Nat) (hj : j < 816) : upd (zz (inZ F G o k)) (o + k).toNat (zI (G k)) j = zz (inZ F G o (k + 1)) j := by
  unfold upd zz inZ
  by_cases h : j = (o + k).toNat
  · rw [if_pos h, if_pos (by omega), show (j : Int) - o = k by omega]
  · rw [if_neg h]
    by_cases h2 : o ≤ (j : Int) ∧ (j : Int) < o + k
    · rw [if_pos h2, if_pos (by omega)]
    · rw [if_neg h2, if_neg (by omega)]
theorem va_P_eq {D : va_G} {cl : List vw_C} {ws ws' : va_W} {H : Heap} (h : ws' = ws) (hP : va_P D cl ws H) : va_P D cl ws' H := h ▸ hP
theorem va_D_eq {A : Nat → Prop} {ws ws' : va_W} (h : ws' = ws) (hD : va_D A ws) : va_D A ws' := h ▸ hD
theorem upS_id {S : St} {k : Nat} {i v : Int} (h : v = S k i) : upS S k i v = S := by
  funext k' j
  unfold upS
  by_cases e : k' = k ∧ j = i
  · rw [if_pos e, e.1, e.2, h]
  · rw [if_neg e]
theorem k1Z_r {k : Int} (h : 0 ≤ k ∧ k ≤ 8) : 1 ≤ k1Z k ∧ k1Z k ≤ 8 := by
  unfold k1Z
  split <;> omega
theorem mix_p {f g : Int → Int} {k : Int} (hk : 0 ≤ k) (j : Nat) (_ : j < 102) : upd (zz (mixZ k f g)) k.toNat (zI (f k)) j = zz (mixZ (k + 1) f g) j := congrFun (mix_s hk) j
/-- the end of an act with the result c -/
def endR (M : St) (c : Int) : Int := if c = 0 then M 8 10 else 0
def endF (F3 F1 : Int → Int) (M : St) (c : Int) : Int → Int := if c = 0 then hiZ F3 F1 (M 8 1) else F3
def endM (M : St) (c d : Int) : St := if c = 0 then upS M 8 1 (k1Z (M 8 1)) else if c < 0 then upS M 8 0 (-c) else upS (upS (upS (upS M 8 6 c) 8 7 (M 8 9)) 8 8 0) 8 0 d
