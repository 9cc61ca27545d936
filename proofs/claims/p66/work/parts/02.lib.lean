/-! integers of the machine as whole numbers: zI -/
section LIBZ
def zI (z : Int) : Int32 := Int32.ofInt z
theorem zI_add (a b : Int) : zI a + zI b = zI (a + b) := (Int32.ofInt_add a b).symm
theorem zI_sub (a b : Int) : zI a - zI b = zI (a - b) := (Int32.ofInt_sub a b).symm
theorem zI_mul (a b : Int) : zI a * zI b = zI (a * b) := (Int32.ofInt_mul a b).symm
theorem zI_neg (a : Int) : -zI a = zI (-a) := (Int32.ofInt_neg a).symm
theorem zI_toInt {z : Int} (h : -2147483648 ≤ z ∧ z < 2147483648) : (zI z).toInt = z := Int32.toInt_ofInt_of_le (by omega) (by omega)
theorem zI_lt {a b : Int} (ha : -2147483648 ≤ a ∧ a < 2147483648) (hb : -2147483648 ≤ b ∧ b < 2147483648) : zI a < zI b ↔ a < b := by rw [Int32.lt_iff_toInt_lt, zI_toInt ha, zI_toInt hb]
theorem zI_le {a b : Int} (ha : -2147483648 ≤ a ∧ a < 2147483648) (hb : -2147483648 ≤ b ∧ b < 2147483648) : zI a ≤ zI b ↔ a ≤ b := by rw [Int32.le_iff_toInt_le, zI_toInt ha, zI_toInt hb]
theorem zI_eq {a b : Int} (ha : -2147483648 ≤ a ∧ a < 2147483648) (hb : -2147483648 ≤ b ∧ b < 2147483648) : zI a = zI b ↔ a = b := by rw [← Int32.toInt_inj, zI_toInt ha, zI_toInt hb]
theorem zI_of (x : Int32) : x = zI x.toInt := (Int32.ofInt_toInt x).symm
theorem zI_rng (x : Int32) : -2147483648 ≤ x.toInt ∧ x.toInt < 2147483648 := ⟨x.le_toInt, x.toInt_lt⟩
theorem zI_clamp {z : Int} (h : 0 ≤ z ∧ z < 2147483648) : (zI z).toNatClampNeg = z.toNat := by
  show (zI z).toInt.toNat = z.toNat
  rw [zI_toInt (by omega)]
theorem zI_in {z : Int} {n : Nat} (h : 0 ≤ z ∧ z < n) (hn : n < 2147483648) : vp_in (zI z) n := by
  rw [vp_in_iff, zI_toInt (by omega)]
  exact h
theorem zI_div {a b : Int} (ha : 0 ≤ a ∧ a < 2147483648) (hb : 0 < b ∧ b < 2147483648) : zI a / zI b = zI (a / b) := by
  have h1 : (zI b).toInt = b := zI_toInt (by omega)
  have h2 : zI b ≠ -1 := fun h => by
    have h3 := congrArg Int32.toInt h
    rw [h1] at h3
    have h4 : ((-1 : Int32)).toInt = -1 := by decide
    omega
  rw [← Int32.toInt_inj, Int32.toInt_div_of_ne_right _ _ h2, zI_toInt (by omega), h1, Int.tdiv_eq_ediv_of_nonneg ha.1]
  have h5 : 0 ≤ a / b := Int.ediv_nonneg ha.1 (by omega)
  have h6 : a / b ≤ a := Int.ediv_le_self b ha.1
  rw [zI_toInt (by omega)]
theorem zI_rem {a b : Int} (ha : 0 ≤ a ∧ a < 2147483648) (hb : 0 < b ∧ b < 2147483648) : zI a - zI a / zI b * zI b = zI (a % b) := by
  rw [zI_div ha hb, zI_mul, zI_sub, Int.emod_def, Int.mul_comm]
theorem zI_char {z : Int} (h : 0 ≤ z ∧ z < 65536) : (zI z).toUInt32 % 65536 = (zI z).toUInt32 := by
  apply UInt32.toNat_inj.mp
  have h1 : (zI z).toUInt32.toNat = z.toNat := by
    obtain ⟨n, rfl⟩ : ∃ n : Nat, z = n := ⟨z.toNat, by omega⟩
    have h2 : n < 65536 := by omega
    show (Int32.ofInt (n : Int)).toUInt32.toNat = _
    rw [Int32.ofInt_eq_ofNat]
    show (BitVec.ofNat 32 n).toNat = _
    rw [BitVec.toNat_ofNat, Nat.mod_eq_of_lt (by omega)]
    omega
  rw [UInt32.toNat_mod, h1]
  show z.toNat % 65536 = _
  exact Nat.mod_eq_of_lt (by omega)
end LIBZ

section LIBR
variable {p : Program} {l : Launch} {e : Env} {R : Room} {s : State} {m : MethodId} {args : Array Value} {below : List Frame} {meth : Method} {c : Code} {H : Heap} {locs : List Loc} {cells slots : Nat} {Q : State → Prop}
variable {cc : ByteArray} {pc : Nat} {ls : Array Slot} {rest : List Value} {D : va_G} {cl : List vw_C} {A : Nat → Prop} {a : Nat} {tys : List (ClassId × FieldType)} {ws ws' : va_W} {H0 : Heap}

theorem x_iadd (hexec : p.tables.exec = Jvm.exec) (hb : c.code = cc) {x y : Int} (hdg : decode cc pc = .ok (.iadd, 1)) (k : W p l e R s m args below meth c H locs cells slots Q (F0 m (pc + 1) ls (.int (zI (x + y)) :: rest))) : W p l e R s m args below meth c H locs cells slots Q (F0 m pc ls (.int (zI y) :: .int (zI x) :: rest)) := lv_iadd hexec hb hdg (by rw [zI_add]; exact k)

theorem x_isub (hexec : p.tables.exec = Jvm.exec) (hb : c.code = cc) {x y : Int} (hdg : decode cc pc = .ok (.isub, 1)) (k : W p l e R s m args below meth c H locs cells slots Q (F0 m (pc + 1) ls (.int (zI (x - y)) :: rest))) : W p l e R s m args below meth c H locs cells slots Q (F0 m pc ls (.int (zI y) :: .int (zI x) :: rest)) := lv_isub hexec hb hdg (by rw [zI_sub]; exact k)

theorem x_imul (hexec : p.tables.exec = Jvm.exec) (hb : c.code = cc) {x y : Int} (hdg : decode cc pc = .ok (.imul, 1)) (k : W p l e R s m args below meth c H locs cells slots Q (F0 m (pc + 1) ls (.int (zI (x * y)) :: rest))) : W p l e R s m args below meth c H locs cells slots Q (F0 m pc ls (.int (zI y) :: .int (zI x) :: rest)) := lv_imul hexec hb hdg (by rw [zI_mul]; exact k)

theorem x_ineg (hexec : p.tables.exec = Jvm.exec) (hb : c.code = cc) {x : Int} (hdg : decode cc pc = .ok (.ineg, 1)) (k : W p l e R s m args below meth c H locs cells slots Q (F0 m (pc + 1) ls (.int (zI (-x)) :: rest))) : W p l e R s m args below meth c H locs cells slots Q (F0 m pc ls (.int (zI x) :: rest)) := lv_ineg hexec hb hdg (by first | (rw [zI_neg]; exact k) | (rw [show (0 : Int32) = zI 0 from rfl, zI_sub, Int.zero_sub]; exact k))

theorem x_idiv (hexec : p.tables.exec = Jvm.exec) (hb : c.code = cc) {x y : Int} (hdg : decode cc pc = .ok (.idiv, 1)) (hx : 0 ≤ x ∧ x < 2147483648) (hy : 0 < y ∧ y < 2147483648) (k : W p l e R s m args below meth c H locs cells slots Q (F0 m (pc + 1) ls (.int (zI (x / y)) :: rest))) : W p l e R s m args below meth c H locs cells slots Q (F0 m pc ls (.int (zI y) :: .int (zI x) :: rest)) :=
  lv_idiv hexec hb hdg (fun h => by rw [show (0 : Int32) = zI 0 from rfl, zI_eq (by omega) (by omega)] at h; omega) (by rw [zI_div hx hy]; exact k)

theorem x_iconst (hexec : p.tables.exec = Jvm.exec) (hb : c.code = cc) {n : Int} (hdg : decode cc pc = .ok (.iconst n, 1)) (k : W p l e R s m args below meth c H locs cells slots Q (F0 m (pc + 1) ls (.int (zI n) :: rest))) : W p l e R s m args below meth c H locs cells slots Q (F0 m pc ls (rest)) := lv_iconst hexec hb (v := zI n) hdg rfl k
theorem x_bipush (hexec : p.tables.exec = Jvm.exec) (hb : c.code = cc) {n : Int} (hdg : decode cc pc = .ok (.bipush n, 2)) (h : (Int8.ofInt n).toInt32 = zI n) (k : W p l e R s m args below meth c H locs cells slots Q (F0 m (pc + 2) ls (.int (zI n) :: rest))) : W p l e R s m args below meth c H locs cells slots Q (F0 m pc ls (rest)) := lv_bipush hexec hb (v := zI n) hdg h k
theorem x_sipush (hexec : p.tables.exec = Jvm.exec) (hb : c.code = cc) {n : Int} (hdg : decode cc pc = .ok (.sipush n, 3)) (h : (Int16.ofInt n).toInt32 = zI n) (k : W p l e R s m args below meth c H locs cells slots Q (F0 m (pc + 3) ls (.int (zI n) :: rest))) : W p l e R s m args below meth c H locs cells slots Q (F0 m pc ls (rest)) := lv_sipush hexec hb (v := zI n) hdg h k
theorem x_top (x : Int) (k : ∀ y : Int, y = x → W p l e R s m args below meth c H locs cells slots Q (F0 m pc ls (.int (zI y) :: rest))) : W p l e R s m args below meth c H locs cells slots Q (F0 m pc ls (.int (zI x) :: rest)) := k x rfl
theorem x_is {x y : Int} (h : x = y) (k : W p l e R s m args below meth c H locs cells slots Q (F0 m pc ls (.int (zI y) :: rest))) : W p l e R s m args below meth c H locs cells slots Q (F0 m pc ls (.int (zI x) :: rest)) := h ▸ k

theorem x_icmp_eq (hexec : p.tables.exec = Jvm.exec) (hb : c.code = cc) {x y : Int} {off : Int} {tgt : Nat} (hdg : decode cc pc = .ok (.if_icmp .eq off, 3)) (ht : (pc : Int) + off = (tgt : Int)) (hx : -2147483648 ≤ x ∧ x < 2147483648) (hy : -2147483648 ≤ y ∧ y < 2147483648)
    (kt : x = y → W p l e R s m args below meth c H locs cells slots Q (F0 m tgt ls (rest))) (kf : ¬ x = y → W p l e R s m args below meth c H locs cells slots Q (F0 m (pc + 3) ls (rest))) : W p l e R s m args below meth c H locs cells slots Q (F0 m pc ls (.int (zI y) :: .int (zI x) :: rest)) := lv_icmp_eq hexec hb hdg ht (fun h => kt ((zI_eq hx hy).mp h)) (fun h => kf (fun q => h ((zI_eq hx hy).mpr q)))

theorem x_icmp_ne (hexec : p.tables.exec = Jvm.exec) (hb : c.code = cc) {x y : Int} {off : Int} {tgt : Nat} (hdg : decode cc pc = .ok (.if_icmp .ne off, 3)) (ht : (pc : Int) + off = (tgt : Int)) (hx : -2147483648 ≤ x ∧ x < 2147483648) (hy : -2147483648 ≤ y ∧ y < 2147483648)
    (kt : ¬ x = y → W p l e R s m args below meth c H locs cells slots Q (F0 m tgt ls (rest))) (kf : x = y → W p l e R s m args below meth c H locs cells slots Q (F0 m (pc + 3) ls (rest))) : W p l e R s m args below meth c H locs cells slots Q (F0 m pc ls (.int (zI y) :: .int (zI x) :: rest)) := lv_icmp_ne hexec hb hdg ht (fun h => kt (fun q => h ((zI_eq hx hy).mpr q))) (fun h => kf ((zI_eq hx hy).mp h))

theorem x_icmp_lt (hexec : p.tables.exec = Jvm.exec) (hb : c.code = cc) {x y : Int} {off : Int} {tgt : Nat} (hdg : decode cc pc = .ok (.if_icmp .lt off, 3)) (ht : (pc : Int) + off = (tgt : Int)) (hx : -2147483648 ≤ x ∧ x < 2147483648) (hy : -2147483648 ≤ y ∧ y < 2147483648)
    (kt : x < y → W p l e R s m args below meth c H locs cells slots Q (F0 m tgt ls (rest))) (kf : ¬ x < y → W p l e R s m args below meth c H locs cells slots Q (F0 m (pc + 3) ls (rest))) : W p l e R s m args below meth c H locs cells slots Q (F0 m pc ls (.int (zI y) :: .int (zI x) :: rest)) := lv_icmp_lt hexec hb hdg ht (fun h => kt ((zI_lt hx hy).mp h)) (fun h => kf (fun q => h ((zI_lt hx hy).mpr q)))

theorem x_icmp_ge (hexec : p.tables.exec = Jvm.exec) (hb : c.code = cc) {x y : Int} {off : Int} {tgt : Nat} (hdg : decode cc pc = .ok (.if_icmp .ge off, 3)) (ht : (pc : Int) + off = (tgt : Int)) (hx : -2147483648 ≤ x ∧ x < 2147483648) (hy : -2147483648 ≤ y ∧ y < 2147483648)
    (kt : y ≤ x → W p l e R s m args below meth c H locs cells slots Q (F0 m tgt ls (rest))) (kf : ¬ y ≤ x → W p l e R s m args below meth c H locs cells slots Q (F0 m (pc + 3) ls (rest))) : W p l e R s m args below meth c H locs cells slots Q (F0 m pc ls (.int (zI y) :: .int (zI x) :: rest)) := lv_icmp_ge hexec hb hdg ht (fun h => kt ((zI_le hy hx).mp h)) (fun h => kf (fun q => h ((zI_le hy hx).mpr q)))

theorem x_icmp_gt (hexec : p.tables.exec = Jvm.exec) (hb : c.code = cc) {x y : Int} {off : Int} {tgt : Nat} (hdg : decode cc pc = .ok (.if_icmp .gt off, 3)) (ht : (pc : Int) + off = (tgt : Int)) (hx : -2147483648 ≤ x ∧ x < 2147483648) (hy : -2147483648 ≤ y ∧ y < 2147483648)
    (kt : y < x → W p l e R s m args below meth c H locs cells slots Q (F0 m tgt ls (rest))) (kf : ¬ y < x → W p l e R s m args below meth c H locs cells slots Q (F0 m (pc + 3) ls (rest))) : W p l e R s m args below meth c H locs cells slots Q (F0 m pc ls (.int (zI y) :: .int (zI x) :: rest)) := lv_icmp_gt hexec hb hdg ht (fun h => kt ((zI_lt hy hx).mp h)) (fun h => kf (fun q => h ((zI_lt hy hx).mpr q)))

theorem x_icmp_le (hexec : p.tables.exec = Jvm.exec) (hb : c.code = cc) {x y : Int} {off : Int} {tgt : Nat} (hdg : decode cc pc = .ok (.if_icmp .le off, 3)) (ht : (pc : Int) + off = (tgt : Int)) (hx : -2147483648 ≤ x ∧ x < 2147483648) (hy : -2147483648 ≤ y ∧ y < 2147483648)
    (kt : x ≤ y → W p l e R s m args below meth c H locs cells slots Q (F0 m tgt ls (rest))) (kf : ¬ x ≤ y → W p l e R s m args below meth c H locs cells slots Q (F0 m (pc + 3) ls (rest))) : W p l e R s m args below meth c H locs cells slots Q (F0 m pc ls (.int (zI y) :: .int (zI x) :: rest)) := lv_icmp_le hexec hb hdg ht (fun h => kt ((zI_le hx hy).mp h)) (fun h => kf (fun q => h ((zI_le hx hy).mpr q)))

theorem h00 : (-2147483648 : Int) ≤ 0 ∧ (0 : Int) < 2147483648 := by decide

theorem x_if_eq (hexec : p.tables.exec = Jvm.exec) (hb : c.code = cc) {x : Int} {off : Int} {tgt : Nat} (hdg : decode cc pc = .ok (.ifCond .eq off, 3)) (ht : (pc : Int) + off = (tgt : Int)) (hx : -2147483648 ≤ x ∧ x < 2147483648)
    (kt : x = 0 → W p l e R s m args below meth c H locs cells slots Q (F0 m tgt ls (rest))) (kf : ¬ x = 0 → W p l e R s m args below meth c H locs cells slots Q (F0 m (pc + 3) ls (rest))) : W p l e R s m args below meth c H locs cells slots Q (F0 m pc ls (.int (zI x) :: rest)) := lv_if_eq hexec hb hdg ht (fun h => kt ((zI_eq hx h00).mp h)) (fun h => kf (fun q => h ((zI_eq hx h00).mpr q)))

theorem x_if_ne (hexec : p.tables.exec = Jvm.exec) (hb : c.code = cc) {x : Int} {off : Int} {tgt : Nat} (hdg : decode cc pc = .ok (.ifCond .ne off, 3)) (ht : (pc : Int) + off = (tgt : Int)) (hx : -2147483648 ≤ x ∧ x < 2147483648)
    (kt : ¬ x = 0 → W p l e R s m args below meth c H locs cells slots Q (F0 m tgt ls (rest))) (kf : x = 0 → W p l e R s m args below meth c H locs cells slots Q (F0 m (pc + 3) ls (rest))) : W p l e R s m args below meth c H locs cells slots Q (F0 m pc ls (.int (zI x) :: rest)) := lv_if_ne hexec hb hdg ht (fun h => kt (fun q => h ((zI_eq hx h00).mpr q))) (fun h => kf ((zI_eq hx h00).mp h))

theorem x_if_lt (hexec : p.tables.exec = Jvm.exec) (hb : c.code = cc) {x : Int} {off : Int} {tgt : Nat} (hdg : decode cc pc = .ok (.ifCond .lt off, 3)) (ht : (pc : Int) + off = (tgt : Int)) (hx : -2147483648 ≤ x ∧ x < 2147483648)
    (kt : x < 0 → W p l e R s m args below meth c H locs cells slots Q (F0 m tgt ls (rest))) (kf : ¬ x < 0 → W p l e R s m args below meth c H locs cells slots Q (F0 m (pc + 3) ls (rest))) : W p l e R s m args below meth c H locs cells slots Q (F0 m pc ls (.int (zI x) :: rest)) := lv_if_lt hexec hb hdg ht (fun h => kt ((zI_lt hx h00).mp h)) (fun h => kf (fun q => h ((zI_lt hx h00).mpr q)))

theorem x_if_ge (hexec : p.tables.exec = Jvm.exec) (hb : c.code = cc) {x : Int} {off : Int} {tgt : Nat} (hdg : decode cc pc = .ok (.ifCond .ge off, 3)) (ht : (pc : Int) + off = (tgt : Int)) (hx : -2147483648 ≤ x ∧ x < 2147483648)
    (kt : 0 ≤ x → W p l e R s m args below meth c H locs cells slots Q (F0 m tgt ls (rest))) (kf : ¬ 0 ≤ x → W p l e R s m args below meth c H locs cells slots Q (F0 m (pc + 3) ls (rest))) : W p l e R s m args below meth c H locs cells slots Q (F0 m pc ls (.int (zI x) :: rest)) := lv_if_ge hexec hb hdg ht (fun h => kt ((zI_le h00 hx).mp h)) (fun h => kf (fun q => h ((zI_le h00 hx).mpr q)))

theorem x_if_gt (hexec : p.tables.exec = Jvm.exec) (hb : c.code = cc) {x : Int} {off : Int} {tgt : Nat} (hdg : decode cc pc = .ok (.ifCond .gt off, 3)) (ht : (pc : Int) + off = (tgt : Int)) (hx : -2147483648 ≤ x ∧ x < 2147483648)
    (kt : 0 < x → W p l e R s m args below meth c H locs cells slots Q (F0 m tgt ls (rest))) (kf : ¬ 0 < x → W p l e R s m args below meth c H locs cells slots Q (F0 m (pc + 3) ls (rest))) : W p l e R s m args below meth c H locs cells slots Q (F0 m pc ls (.int (zI x) :: rest)) := lv_if_gt hexec hb hdg ht (fun h => kt ((zI_lt h00 hx).mp h)) (fun h => kf (fun q => h ((zI_lt h00 hx).mpr q)))

theorem x_if_le (hexec : p.tables.exec = Jvm.exec) (hb : c.code = cc) {x : Int} {off : Int} {tgt : Nat} (hdg : decode cc pc = .ok (.ifCond .le off, 3)) (ht : (pc : Int) + off = (tgt : Int)) (hx : -2147483648 ≤ x ∧ x < 2147483648)
    (kt : x ≤ 0 → W p l e R s m args below meth c H locs cells slots Q (F0 m tgt ls (rest))) (kf : ¬ x ≤ 0 → W p l e R s m args below meth c H locs cells slots Q (F0 m (pc + 3) ls (rest))) : W p l e R s m args below meth c H locs cells slots Q (F0 m pc ls (.int (zI x) :: rest)) := lv_if_le hexec hb hdg ht (fun h => kt ((zI_le hx h00).mp h)) (fun h => kf (fun q => h ((zI_le hx h00).mpr q)))

theorem x_iald (hexec : p.tables.exec = Jvm.exec) (hb : c.code = cc) (hK : va_K D cl tys s) (hP : va_P D cl ws H) (q0 t0 : Nat) {cA : ClassId} {n : Nat} {f : Nat → Int32} (g : Int → Int) (ha : ws[q0]? = some (a, .inl (cA, n, .inl f))) (ht : tys[t0]? = some (cA, .int)) {z : Int} (hg : ∀ j : Nat, f j = zI (g j)) {P : Int → Prop} (hB : ∀ i, P (g i)) (hn : n < 2147483648) (hz : 0 ≤ z ∧ z < n) (hdg : decode cc pc = .ok (.iaload, 1))
    (kk : P (g z) → W p l e R s m args below meth c H locs cells slots Q (F0 m (pc + 1) ls (.int (zI (g z)) :: rest))) : W p l e R s m args below meth c H locs cells slots Q (F0 m pc ls (.int (zI z) :: .ref a :: rest)) := by
  refine va_iald hexec hb hK hP q0 t0 ha ht (zI_in hz hn) hdg ?_
  rw [zI_clamp (by omega), hg, Int.toNat_of_nonneg hz.1]
  exact kk (hB z)

theorem x_zald (hexec : p.tables.exec = Jvm.exec) (hb : c.code = cc) (hK : va_K D cl tys s) (hP : va_P D cl ws H) (q0 t0 : Nat) {cA : ClassId} {n : Nat} {f : Nat → Int32} (g : Int → Int) (ha : ws[q0]? = some (a, .inl (cA, n, .inl f))) (ht : tys[t0]? = some (cA, .boolean)) {z : Int} (hg : ∀ j : Nat, f j = zI (g j)) {P : Int → Prop} (hB : ∀ i, P (g i)) (hn : n < 2147483648) (hz : 0 ≤ z ∧ z < n) (hdg : decode cc pc = .ok (.baload, 1))
    (kk : P (g z) → W p l e R s m args below meth c H locs cells slots Q (F0 m (pc + 1) ls (.int (zI (g z)) :: rest))) : W p l e R s m args below meth c H locs cells slots Q (F0 m pc ls (.int (zI z) :: .ref a :: rest)) := by
  refine va_zald hexec hb hK hP q0 t0 ha ht (zI_in hz hn) hdg ?_
  rw [zI_clamp (by omega), hg, Int.toNat_of_nonneg hz.1]
  exact kk (hB z)

theorem x_cald (hexec : p.tables.exec = Jvm.exec) (hb : c.code = cc) (hK : va_K D cl tys s) (hP : va_P D cl ws H) (q0 t0 : Nat) {cA : ClassId} {n : Nat} {f : Nat → Int32} (g : Int → Int) (ha : ws[q0]? = some (a, .inl (cA, n, .inl f))) (ht : tys[t0]? = some (cA, .char)) {z : Int} (hg : ∀ j : Nat, f j = zI (g j)) {P : Int → Prop} (hB : ∀ i, P (g i)) (hn : n < 2147483648) (hz : 0 ≤ z ∧ z < n) (hdg : decode cc pc = .ok (.caload, 1))
    (kk : P (g z) → W p l e R s m args below meth c H locs cells slots Q (F0 m (pc + 1) ls (.int (zI (g z)) :: rest))) : W p l e R s m args below meth c H locs cells slots Q (F0 m pc ls (.int (zI z) :: .ref a :: rest)) := by
  refine va_cald hexec hb hK hP q0 t0 ha ht (zI_in hz hn) hdg ?_
  rw [zI_clamp (by omega), hg, Int.toNat_of_nonneg hz.1]
  exact kk (hB z)

theorem x_bald (hexec : p.tables.exec = Jvm.exec) (hb : c.code = cc) (hK : va_K D cl tys s) (hP : va_P D cl ws H) (q0 t0 : Nat) {cA : ClassId} {n : Nat} {f : Nat → Int32} (g : Int → Int) (ha : ws[q0]? = some (a, .inl (cA, n, .inl f))) (ht : tys[t0]? = some (cA, .byte)) {z : Int} (hg : ∀ j : Nat, f j = zI (g j)) {P : Int → Prop} (hB : ∀ i, P (g i)) (hn : n < 2147483648) (hz : 0 ≤ z ∧ z < n) (hdg : decode cc pc = .ok (.baload, 1))
    (kk : P (g z) → W p l e R s m args below meth c H locs cells slots Q (F0 m (pc + 1) ls (.int (zI (g z)) :: rest))) : W p l e R s m args below meth c H locs cells slots Q (F0 m pc ls (.int (zI z) :: .ref a :: rest)) := by
  refine va_bald hexec hb hK hP q0 t0 ha ht (zI_in hz hn) hdg ?_
  rw [zI_clamp (by omega), hg, Int.toNat_of_nonneg hz.1]
  exact kk (hB z)

theorem x_iast (hexec : p.tables.exec = Jvm.exec) (hb : c.code = cc) (hK : va_K D cl tys s) (hP : va_P D cl ws H) (hD : va_D A ws) (hS : va_S A H0 H locs) (q0 t0 : Nat) {cA : ClassId} {n : Nat} {f : Nat → Int32} (ha : ws[q0]? = some (a, .inl (cA, n, .inl f))) (ht : tys[t0]? = some (cA, .int)) {z v : Int} (hn : n < 2147483648) (hz : 0 ≤ z ∧ z < n) (hw : ws.set q0 (a, .inl (cA, n, .inl (upd f z.toNat (zI v)))) = ws') (hdg : decode cc pc = .ok (.iastore, 1))
    (kk : ∀ (H1 : Heap) (locs1 : List Loc), va_P D cl ws' H1 → va_D A ws' → va_S A H0 H1 locs1 → W p l e R s m args below meth c H1 locs1 cells slots Q (F0 m (pc + 1) ls (rest))) : W p l e R s m args below meth c H locs cells slots Q (F0 m pc ls (.int (zI v) :: .int (zI z) :: .ref a :: rest)) := by
  refine va_iast hexec hb hK hP hD hS q0 t0 ha ht (zI_in hz hn) hdg ?_
  rw [zI_clamp (by omega), hw]
  exact kk

end LIBR

section LIBL
variable {p : Program} {l : Launch} {e : Env} {R : Room} {s : State} {m : MethodId} {args : Array Value} {below : List Frame} {meth : Method} {c : Code} {H : Heap} {locs : List Loc} {cells slots : Nat} {Q : State → Prop}
variable {cc : ByteArray} {pc : Nat} {ls : Array Slot} {rest : List Value} {D : va_G} {cl : List vw_C} {A : Nat → Prop} {a : Nat} {tys : List (ClassId × FieldType)} {ws ws' : va_W} {H0 : Heap}

/-- a truth as a number -/
def bI (P : Prop) [Decidable P] : Int := if P then 1 else 0
theorem bI_t {P : Prop} [Decidable P] (h : P) : bI P = 1 := if_pos h
theorem bI_f {P : Prop} [Decidable P] (h : ¬ P) : bI P = 0 := if_neg h
theorem bI_r (P : Prop) [Decidable P] : 0 ≤ bI P ∧ bI P ≤ 1 := by unfold bI; split <;> decide
theorem bI_0 {P : Prop} [Decidable P] : bI P = 0 ↔ ¬ P := by unfold bI; split <;> simp_all
theorem bI_1 {P : Prop} [Decidable P] : bI P = 1 ↔ P := by unfold bI; split <;> simp_all
theorem bI_c {P Q : Prop} [Decidable P] [Decidable Q] (h : P ↔ Q) : bI P = bI Q := by
  by_cases hp : P
  · rw [bI_t hp, bI_t (h.mp hp)]
  · rw [bI_f hp, bI_f (fun q => hp (h.mpr q))]
/-- a loop of which the heap does not change -/
theorem x_loop {ι : Type} {nL : Nat} (I : ι → Prop) (μ : ι → Nat) (L : ι → List (Nat × Value)) (v0 : ι) (h0 : I v0) (hl0 : lv_has ls nL (L v0))
    (hs : ∀ v, I v → (∀ v', I v' → μ v' < μ v → ∀ ls : Array Slot, lv_has ls nL (L v') → W p l e R s m args below meth c H locs cells slots Q (F0 m pc ls rest)) → ∀ ls : Array Slot, lv_has ls nL (L v) → W p l e R s m args below meth c H locs cells slots Q (F0 m pc ls rest)) :
    W p l e R s m args below meth c H locs cells slots Q (F0 m pc ls rest) := by
  have key : ∀ (n : Nat) (v : ι), μ v < n → I v → ∀ ls : Array Slot, lv_has ls nL (L v) → W p l e R s m args below meth c H locs cells slots Q (F0 m pc ls rest) := by
    intro n
    induction n with
    | zero => exact fun v h => absurd h (Nat.not_lt_zero _)
    | succ n ih => exact fun v hm hv => hs v hv (fun v' h1 h2 => ih v' (by omega) h1)
  exact key _ v0 (Nat.lt_succ_self _) h0 ls hl0
/-- a place where ways come together -/
theorem x_mid {ι : Type} {nL : Nat} (I : ι → Prop) (L : ι → List (Nat × Value)) (st : ι → List Value) (pcJ : Nat) {ls0 : Array Slot} {st0 : List Value}
    (hj : ∀ v, I v → ∀ ls : Array Slot, lv_has ls nL (L v) → W p l e R s m args below meth c H locs cells slots Q (F0 m pcJ ls (st v)))
    (k : (∀ v, I v → ∀ ls : Array Slot, lv_has ls nL (L v) → W p l e R s m args below meth c H locs cells slots Q (F0 m pcJ ls (st v))) → W p l e R s m args below meth c H locs cells slots Q (F0 m pc ls0 st0)) :
    W p l e R s m args below meth c H locs cells slots Q (F0 m pc ls0 st0) := k hj
/-- a loop that writes -/
theorem x_loopW {ι : Type} {nL : Nat} (I : ι → Prop) (μ : ι → Nat) (L : ι → List (Nat × Value)) (wv : ι → va_W) (v0 : ι) (h0 : I v0) (hl0 : lv_has ls nL (L v0)) (hP0 : va_P D cl (wv v0) H) (hD0 : va_D A (wv v0)) (hS0 : va_S A H0 H locs)
    (hs : ∀ v, I v → (∀ v', I v' → μ v' < μ v → ∀ (ls : Array Slot) (H : Heap) (locs : List Loc), lv_has ls nL (L v') → va_P D cl (wv v') H → va_D A (wv v') → va_S A H0 H locs → W p l e R s m args below meth c H locs cells slots Q (F0 m pc ls rest)) → ∀ (ls : Array Slot) (H : Heap) (locs : List Loc), lv_has ls nL (L v) → va_P D cl (wv v) H → va_D A (wv v) → va_S A H0 H locs → W p l e R s m args below meth c H locs cells slots Q (F0 m pc ls rest)) :
    W p l e R s m args below meth c H locs cells slots Q (F0 m pc ls rest) := by
  have key : ∀ (n : Nat) (v : ι), μ v < n → I v → ∀ (ls : Array Slot) (H : Heap) (locs : List Loc), lv_has ls nL (L v) → va_P D cl (wv v) H → va_D A (wv v) → va_S A H0 H locs → W p l e R s m args below meth c H locs cells slots Q (F0 m pc ls rest) := by
    intro n
    induction n with
    | zero => exact fun v h => absurd h (Nat.not_lt_zero _)
    | succ n ih => exact fun v hm hv => hs v hv (fun v' h1 h2 => ih v' (by omega) h1)
  exact key _ v0 (Nat.lt_succ_self _) h0 ls H locs hl0 hP0 hD0 hS0
theorem x_midW {ι : Type} {nL : Nat} (I : ι → Prop) (L : ι → List (Nat × Value)) (st : ι → List Value) (wv : ι → va_W) (pcJ : Nat) {ls0 : Array Slot} {st0 : List Value}
    (hj : ∀ v, I v → ∀ (ls : Array Slot) (H : Heap) (locs : List Loc), lv_has ls nL (L v) → va_P D cl (wv v) H → va_D A (wv v) → va_S A H0 H locs → W p l e R s m args below meth c H locs cells slots Q (F0 m pcJ ls (st v)))
    (k : (∀ v, I v → ∀ (ls : Array Slot) (H : Heap) (locs : List Loc), lv_has ls nL (L v) → va_P D cl (wv v) H → va_D A (wv v) → va_S A H0 H locs → W p l e R s m args below meth c H locs cells slots Q (F0 m pcJ ls (st v))) → W p l e R s m args below meth c H locs cells slots Q (F0 m pc ls0 st0)) :
    W p l e R s m args below meth c H locs cells slots Q (F0 m pc ls0 st0) := k hj

theorem x_bz_eq (hexec : p.tables.exec = Jvm.exec) (hb : c.code = cc) {P : Prop} [Decidable P] {off : Int} {tgt : Nat} (hdg : decode cc pc = .ok (.ifCond .eq off, 3)) (ht : (pc : Int) + off = (tgt : Int))
    (kt : ¬ P → W p l e R s m args below meth c H locs cells slots Q (F0 m tgt ls (rest))) (kf : P → W p l e R s m args below meth c H locs cells slots Q (F0 m (pc + 3) ls (rest))) : W p l e R s m args below meth c H locs cells slots Q (F0 m pc ls (.int (zI (bI P)) :: rest)) := x_if_eq hexec hb hdg ht (by have := bI_r P; omega) (fun h => kt (bI_0.mp h)) (fun h => kf (Classical.byContradiction (fun q => h (bI_0.mpr q))))

theorem x_bz_ne (hexec : p.tables.exec = Jvm.exec) (hb : c.code = cc) {P : Prop} [Decidable P] {off : Int} {tgt : Nat} (hdg : decode cc pc = .ok (.ifCond .ne off, 3)) (ht : (pc : Int) + off = (tgt : Int))
    (kt : P → W p l e R s m args below meth c H locs cells slots Q (F0 m tgt ls (rest))) (kf : ¬ P → W p l e R s m args below meth c H locs cells slots Q (F0 m (pc + 3) ls (rest))) : W p l e R s m args below meth c H locs cells slots Q (F0 m pc ls (.int (zI (bI P)) :: rest)) := x_if_ne hexec hb hdg ht (by have := bI_r P; omega) (fun h => kt (Classical.byContradiction (fun q => h (bI_0.mpr q)))) (fun h => kf (bI_0.mp h))

end LIBL

section LIBM
variable {p : Program} {l : Launch} {e : Env} {R : Room} {s : State} {m : MethodId} {args : Array Value} {below : List Frame} {meth : Method} {c : Code} {H : Heap} {locs : List Loc} {cells slots : Nat} {Q : State → Prop}
variable {cc : ByteArray} {pc : Nat} {ls : Array Slot} {rest : List Value} {D : va_G} {cl : List vw_C} {A : Nat → Prop} {a : Nat} {tys : List (ClassId × FieldType)} {ws ws' : va_W} {H0 : Heap}

theorem x_mabs {own : String} {index : Nat} (hexec : p.tables.exec = Jvm.exec) (hb : c.code = cc) (hml : c.maxLocals = ls.size) (hown : s.vm.findClass own = some m.cls) (hlink : (Cond.methodLink own index Lib.Math.abs.name).before args s = true) (hstat : (Cond.static Lib.Math.abs.name).before args s = true) (hini : (Cond.initialized "java/lang/Math").before args s = true) (hcode : (Cond.code Lib.Math.abs.name Lib.Math.abs.code 1 (some .int)).before args s = true)
    (hframes : 1 ≤ R.frames) (hlocals : (rest.map fun v => v.category).sum + 13 ≤ R.locals) (hc : cells ≤ R.cells) (hs : slots ≤ R.slots) {x : Int} (hx : -2147483648 < x ∧ x < 2147483648) (hdg : decode cc pc = .ok (.invokestatic index, 3))
    (kk : ∀ y : Int, (0 ≤ x ∧ y = x ∨ x < 0 ∧ y = -x) → W p l e R s m args below meth c H locs cells slots Q (F0 m (pc + 3) ls (.int (zI y) :: rest))) : W p l e R s m args below meth c H locs cells slots Q (F0 m pc ls (.int (zI x) :: rest)) := by
  refine va_mabs hexec hb hml hown hlink hstat hini hcode hframes hlocals hc hs hdg ?_
  by_cases h : 0 ≤ x
  · rw [if_pos (show (0 : Int32) ≤ zI x from (zI_le h00 (by omega)).mpr h)]
    exact kk x (Or.inl ⟨h, rfl⟩)
  · rw [if_neg (show ¬ (0 : Int32) ≤ zI x from fun q => h ((zI_le h00 (by omega)).mp q)), show (0 : Int32) = zI 0 from rfl, zI_sub]
    exact kk (0 - x) (Or.inr ⟨by omega, by omega⟩)

theorem x_mmax {own : String} {index : Nat} (hexec : p.tables.exec = Jvm.exec) (hb : c.code = cc) (hml : c.maxLocals = ls.size) (hown : s.vm.findClass own = some m.cls) (hlink : (Cond.methodLink own index Lib.Math.max.name).before args s = true) (hstat : (Cond.static Lib.Math.max.name).before args s = true) (hini : (Cond.initialized "java/lang/Math").before args s = true) (hcode : (Cond.code Lib.Math.max.name Lib.Math.max.code 2 (some .int)).before args s = true)
    (hframes : 1 ≤ R.frames) (hlocals : (rest.map fun v => v.category).sum + 13 ≤ R.locals) (hc : cells ≤ R.cells) (hs : slots ≤ R.slots) {x y : Int} (hx : -2147483648 ≤ x ∧ x < 2147483648) (hy : -2147483648 ≤ y ∧ y < 2147483648) (hdg : decode cc pc = .ok (.invokestatic index, 3))
    (kk : ∀ z : Int, (y ≤ x ∧ z = x ∨ x ≤ y ∧ z = y) → W p l e R s m args below meth c H locs cells slots Q (F0 m (pc + 3) ls (.int (zI z) :: rest))) : W p l e R s m args below meth c H locs cells slots Q (F0 m pc ls (.int (zI y) :: .int (zI x) :: rest)) := by
  refine va_mmax hexec hb hml hown hlink hstat hini hcode hframes hlocals hc hs hdg ?_
  split
  · rename_i h
    first | rw [zI_le hx hy] at h | rw [zI_le hy hx] at h | rw [zI_lt hx hy] at h | rw [zI_lt hy hx] at h
    exact kk _ (by omega)
  · rename_i h
    first | rw [zI_le hx hy] at h | rw [zI_le hy hx] at h | rw [zI_lt hx hy] at h | rw [zI_lt hy hx] at h
    exact kk _ (by omega)

theorem x_mmin {own : String} {index : Nat} (hexec : p.tables.exec = Jvm.exec) (hb : c.code = cc) (hml : c.maxLocals = ls.size) (hown : s.vm.findClass own = some m.cls) (hlink : (Cond.methodLink own index Lib.Math.min.name).before args s = true) (hstat : (Cond.static Lib.Math.min.name).before args s = true) (hini : (Cond.initialized "java/lang/Math").before args s = true) (hcode : (Cond.code Lib.Math.min.name Lib.Math.min.code 2 (some .int)).before args s = true)
    (hframes : 1 ≤ R.frames) (hlocals : (rest.map fun v => v.category).sum + 13 ≤ R.locals) (hc : cells ≤ R.cells) (hs : slots ≤ R.slots) {x y : Int} (hx : -2147483648 ≤ x ∧ x < 2147483648) (hy : -2147483648 ≤ y ∧ y < 2147483648) (hdg : decode cc pc = .ok (.invokestatic index, 3))
    (kk : ∀ z : Int, (x ≤ y ∧ z = x ∨ y ≤ x ∧ z = y) → W p l e R s m args below meth c H locs cells slots Q (F0 m (pc + 3) ls (.int (zI z) :: rest))) : W p l e R s m args below meth c H locs cells slots Q (F0 m pc ls (.int (zI y) :: .int (zI x) :: rest)) := by
  refine va_mmin hexec hb hml hown hlink hstat hini hcode hframes hlocals hc hs hdg ?_
  split
  · rename_i h
    first | rw [zI_le hx hy] at h | rw [zI_le hy hx] at h | rw [zI_lt hx hy] at h | rw [zI_lt hy hx] at h
    exact kk _ (by omega)
  · rename_i h
    first | rw [zI_le hx hy] at h | rw [zI_le hy hx] at h | rw [zI_lt hx hy] at h | rw [zI_lt hy hx] at h
    exact kk _ (by omega)

end LIBM

section LIBN
variable {p : Program} {l : Launch} {e : Env} {R : Room} {s : State} {m : MethodId} {args : Array Value} {below : List Frame} {meth : Method} {c : Code} {H : Heap} {locs : List Loc} {cells slots : Nat} {Q : State → Prop}
variable {cc : ByteArray} {pc : Nat} {ls : Array Slot} {rest : List Value} {D : va_G} {cl : List vw_C} {A : Nat → Prop} {a : Nat} {tys : List (ClassId × FieldType)} {ws ws' : va_W} {H0 : Heap}

theorem x_irem (hexec : p.tables.exec = Jvm.exec) (hb : c.code = cc) {x y : Int} (hdg : decode cc pc = .ok (.irem, 1)) (hx : 0 ≤ x ∧ x < 2147483648) (hy : 0 < y ∧ y < 2147483648) (k : W p l e R s m args below meth c H locs cells slots Q (F0 m (pc + 1) ls (.int (zI (x % y)) :: rest))) : W p l e R s m args below meth c H locs cells slots Q (F0 m pc ls (.int (zI y) :: .int (zI x) :: rest)) :=
  lv_irem hexec hb hdg (fun h => by rw [show (0 : Int32) = zI 0 from rfl, zI_eq (by omega) (by omega)] at h; omega) (by first | (rw [zI_rem hx hy]; exact k) | (have h := zI_rem hx hy; simp only [h]; exact k))
theorem zI_z {v : Int} (h : 0 ≤ v ∧ v ≤ 1) : vp_nar .boolean (zI v) = zI v := by
  rcases (show v = 0 ∨ v = 1 by omega) with rfl | rfl <;> rfl
theorem x_zast (hexec : p.tables.exec = Jvm.exec) (hb : c.code = cc) (hK : va_K D cl tys s) (hP : va_P D cl ws H) (hD : va_D A ws) (hS : va_S A H0 H locs) (q0 t0 : Nat) {cA : ClassId} {n : Nat} {f : Nat → Int32} (ha : ws[q0]? = some (a, .inl (cA, n, .inl f))) (ht : tys[t0]? = some (cA, .boolean)) {z v : Int} (hn : n < 2147483648) (hz : 0 ≤ z ∧ z < n) (hv : 0 ≤ v ∧ v ≤ 1) (hw : ws.set q0 (a, .inl (cA, n, .inl (upd f z.toNat (zI v)))) = ws') (hdg : decode cc pc = .ok (.bastore, 1))
    (kk : ∀ (H1 : Heap) (locs1 : List Loc), va_P D cl ws' H1 → va_D A ws' → va_S A H0 H1 locs1 → W p l e R s m args below meth c H1 locs1 cells slots Q (F0 m (pc + 1) ls (rest))) : W p l e R s m args below meth c H locs cells slots Q (F0 m pc ls (.int (zI v) :: .int (zI z) :: .ref a :: rest)) := by
  refine va_zast hexec hb hK hP hD hS q0 t0 ha ht (zI_in hz hn) hdg ?_
  rw [zI_clamp (by omega), zI_z hv, hw]
  exact kk

end LIBN

section LIBO
variable {p : Program} {l : Launch} {e : Env} {R : Room} {s : State} {m : MethodId} {args : Array Value} {below : List Frame} {meth : Method} {c : Code} {H : Heap} {locs : List Loc} {cells slots : Nat} {Q : State → Prop}
variable {cc : ByteArray} {pc : Nat} {ls : Array Slot} {rest : List Value} {D : va_G} {cl : List vw_C} {A : Nat → Prop} {a : Nat} {tys : List (ClassId × FieldType)} {ws ws' : va_W} {H0 : Heap}

theorem cell_c {cA : ClassId} {n : Nat} {f g : Nat → Int32} (h : ∀ j, j < n → f j = g j) : vp_cell cA (n, .inl f) = vp_cell cA (n, .inl g) := by
  show arrV cA n (fun j => .int (f j)) = arrV cA n (fun j => .int (g j))
  unfold arrV
  congr 1
  congr 1
  funext j
  exact congrArg Value.int (h j.val j.isLt)
theorem va_P_cell {q : Nat} {cA : ClassId} {n : Nat} {f g : Nat → Int32} (h : ∀ j, j < n → f j = g j) (hP : va_P D cl (ws.set q (a, .inl (cA, n, .inl f))) H) : va_P D cl (ws.set q (a, .inl (cA, n, .inl g))) H := by
  intro k x hk
  by_cases e : k = q
  · subst e
    by_cases hl : k < ws.length
    · rw [List.getElem?_set_self hl] at hk
      cases hk
      have h1 := hP k (a, .inl (cA, n, .inl f)) (List.getElem?_set_self hl)
      exact (show H[a]? = some (vp_cell cA (n, .inl f)) from h1).trans (congrArg some (cell_c h))
    · rw [List.getElem?_eq_none (by rw [List.length_set]; omega)] at hk
      cases hk
  · rw [List.getElem?_set_ne (Ne.symm e)] at hk
    exact hP k x (by rw [List.getElem?_set_ne (Ne.symm e)]; exact hk)
theorem va_D_cell {q : Nat} {e1 e2 : va_E} (hD : va_D A (ws.set q (a, e1))) : va_D A (ws.set q (a, e2)) := by
  have key : ∀ (k : Nat) (x : Nat × va_E), (ws.set q (a, e2))[k]? = some x → ∃ y, (ws.set q (a, e1))[k]? = some y ∧ y.1 = x.1 := by
    intro k x hk
    by_cases e : k = q
    · subst e
      by_cases hl : k < ws.length
      · rw [List.getElem?_set_self hl] at hk
        cases hk
        exact ⟨_, List.getElem?_set_self hl, rfl⟩
      · rw [List.getElem?_eq_none (by rw [List.length_set]; omega)] at hk
        cases hk
    · rw [List.getElem?_set_ne (Ne.symm e)] at hk
      exact ⟨x, by rw [List.getElem?_set_ne (Ne.symm e)]; exact hk, rfl⟩
  refine ⟨fun i j x y hi hj hxy => ?_, fun k x hk => ?_⟩
  · obtain ⟨x0, h1, h2⟩ := key i x hi
    obtain ⟨y0, h3, h4⟩ := key j y hj
    exact hD.1 i j x0 y0 h1 h3 (h2.trans (hxy.trans h4.symm))
  · obtain ⟨x0, h1, h2⟩ := key k x hk
    rw [← h2]
    exact hD.2 k x0 h1
/-- System.arraycopy of a whole row onto another of its length -/
theorem x_copy {cc : ByteArray} (hexec : p.tables.exec = Jvm.exec) (hb : c.code = cc) (hml : c.maxLocals = ls.size) {own : String} {index : Nat} (hown : s.vm.findClass own = some m.cls) (hlink : (Cond.methodLink own index arraycopyName).before args s = true) (hnat : (Cond.native arraycopyName).before args s = true) (hstat : (Cond.static arraycopyName).before args s = true) (hini : (Cond.initialized "java/lang/System").before args s = true)
    (hK : va_K D cl tys s) (hP : va_P D cl ws H) (hD : va_D A ws) (hS : va_S A H0 H locs) (q0 q1 t0 : Nat) {a0 : Nat} {c0 : ClassId} {n : Nat} {f g : Nat → Int32} {ty : FieldType} (ha0 : ws[q0]? = some (a0, .inl (c0, n, .inl f))) (ha1 : ws[q1]? = some (a, .inl (c0, n, .inl g))) (ht0 : tys[t0]? = some (c0, ty)) (hprim : refKind ty = false) (hn : n < 2147483648)
    (hfit : ∀ i, fits ty (.int (f i)) = true)
    (hframes : 1 ≤ R.frames) (hlocals : (rest.map fun v => v.category).sum + (nativeFrameWords "java/lang/System" "arraycopy" 5 + 11) ≤ R.locals) (hw : ws.set q1 (a, .inl (c0, n, .inl f)) = ws') (hdg : decode cc pc = .ok (.invokestatic index, 3))
    (kk : ∀ (H1 : Heap) (locs1 : List Loc), va_P D cl ws' H1 → va_D A ws' → va_S A H0 H1 locs1 → W p l e R s m args below meth c H1 locs1 cells slots Q (F0 m (pc + 3) ls (rest))) : W p l e R s m args below meth c H locs cells slots Q (F0 m pc ls (.int (zI n) :: .int (zI 0) :: .ref a :: .int (zI 0) :: .ref a0 :: rest)) := by
  have hz : (zI 0).toNatClampNeg = 0 := by decide
  have hnc : (zI n).toNatClampNeg = n := by rw [zI_clamp (by omega)]; omega
  have h0 : ¬ zI 0 < 0 := by decide
  have hn0 : ¬ zI n < 0 := by rw [show (0 : Int32) = zI 0 from rfl, zI_lt (by omega) (by omega)]; omega
  refine va_copyi hexec hb hml hown hlink hnat hstat hini hK hP hD hS q0 q1 t0 t0 ha0 ha1 ht0 ht0 hprim h0 h0 hn0 (by rw [hz, hnc]; omega) (by rw [hz, hnc]; omega) (fun i _ => hfit _) hframes hlocals hdg (fun H1 locs1 hP1 hD1 hS1 => ?_)
  rw [hz, hnc] at hP1 hD1
  subst hw
  exact kk H1 locs1 (va_P_cell (fun j hj => by rw [pk_cpy_in (Nat.zero_le _) (by omega)]; congr 1; omega) hP1) (va_D_cell hD1) hS1

end LIBO
