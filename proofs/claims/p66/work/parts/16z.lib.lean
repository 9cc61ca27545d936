section LIBQ
variable {p : Program} {l : Launch} {e : Env} {R : Room} {s : State} {m : MethodId} {args : Array Value} {below : List Frame} {meth : Method} {c : Code} {H : Heap} {locs : List Loc} {cells slots : Nat} {Q : State → Prop}
variable {cc : ByteArray} {pc : Nat} {ls : Array Slot} {rest : List Value}
theorem x_i2c (hexec : p.tables.exec = Jvm.exec) (hb : c.code = cc) {z : Int} (hdg : decode cc pc = .ok (.i2c, 1)) (hz : 0 ≤ z ∧ z < 65536) (k : W p l e R s m args below meth c H locs cells slots Q (F0 m (pc + 1) ls (.int (zI z) :: rest))) : W p l e R s m args below meth c H locs cells slots Q (F0 m pc ls (.int (zI z) :: rest)) :=
  lv_i2c hexec hb (v := zI z) hdg (by rw [zI_char hz]; rfl) k
end LIBQ
theorem zI_n (n : Nat) : zI (n : Int) = nI n := Int32.ofInt_eq_ofNat
theorem narC {z : Int} (h : 0 ≤ z ∧ z < 65536) : narrow .char (.int (zI z)) = .int (zI z) := by
  rw [show z = (z.toNat : Int) by omega, zI_n]
  exact (pk_charN (by omega)).1
