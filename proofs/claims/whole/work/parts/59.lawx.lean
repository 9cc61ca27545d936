/-! the law: its loop's words -/
section LAWX
variable {p : Program} {l : Launch} {e : Env} {R : Room} {s : State} {m : MethodId} {args : Array Value} {below : List Frame} {meth : Method} {c : Code} {H : Heap} {locs : List Loc} {cells slots : Nat} {Q : State → Prop}
variable {cc : ByteArray} {pc : Nat} {ls : Array Slot} {rest st0 : List Value} {a : Array Value} {A0 A : Nat → Prop} {H0 : Heap} {mc ms : Nat} {dg : va_G} {M M' N ws ws' : va_W}
theorem x_calldB {post : UInt64 → Prop} (e1 : ws.Perm (M ++ N)) (e2 : ws'.Perm (M' ++ N)) (hP : va_P dg vwCl ws H) (hD : va_D A0 ws) (hS : va_S A0 H0 H locs) (hA : ∀ q, H0.size ≤ q → A0 q)
    (hr : va_P dg vwCl M H → va_D A0 M → va_Run p l e R s m args below meth c H locs cells slots mc ms (F0 m pc ls st0) rest (va_Qd (fun r (_ : Unit) => post r) (fun _ t => wrQ dg H.size M M' t) (va_A M H.size) a) (va_A M H.size))
    (kk : ∀ (r : UInt64) (H1 : Heap) (locs1 : List Loc), post r → va_P dg vwCl ws' H1 → va_D A0 ws' → va_S A0 H0 H1 locs1 → W p l e R s m args below meth c H1 locs1 (cells + mc) (slots + ms) Q (F0 m (pc + 3) ls (.double r :: rest))) : W p l e R s m args below meth c H locs cells slots Q (F0 m pc ls st0) := by
  have hP' : va_P dg vwCl ([] ++ (M ++ N)) H := va_P_perm e1 hP
  have hD' : va_D A0 ([] ++ (M ++ N)) := va_D_perm e1 hD
  have hF := fr_F (dg := dg) (L := []) (M := M) (N := N) hD' hS hA
  refine va_calld (hr (va_P_l hP') (va_D_l hD')) hS (fun q _ h => hF q h) hF (fun r u t H1 locs1 ht hvm hw hB hz1 hk1 hS1 => ?_)
  obtain ⟨hP1, hD1⟩ := hB
  rw [ht] at hP1
  obtain ⟨g1, g2⟩ := fr_mid hP' hD' hk1 hF hP1 hD1
  exact kk r H1 locs1 hw (va_P_perm e2.symm g1) (va_D_perm e2.symm g2) hS1
theorem x_callfB {post : UInt32 → Prop} (e1 : ws.Perm (M ++ N)) (e2 : ws'.Perm (M' ++ N)) (hP : va_P dg vwCl ws H) (hD : va_D A0 ws) (hS : va_S A0 H0 H locs) (hA : ∀ q, H0.size ≤ q → A0 q)
    (hr : va_P dg vwCl M H → va_D A0 M → va_Run p l e R s m args below meth c H locs cells slots mc ms (F0 m pc ls st0) rest (va_Qf (fun r (_ : Unit) => post r) (fun _ t => wrQ dg H.size M M' t) (va_A M H.size) a) (va_A M H.size))
    (kk : ∀ (r : UInt32) (H1 : Heap) (locs1 : List Loc), post r → va_P dg vwCl ws' H1 → va_D A0 ws' → va_S A0 H0 H1 locs1 → W p l e R s m args below meth c H1 locs1 (cells + mc) (slots + ms) Q (F0 m (pc + 3) ls (.float r :: rest))) : W p l e R s m args below meth c H locs cells slots Q (F0 m pc ls st0) := by
  have hP' : va_P dg vwCl ([] ++ (M ++ N)) H := va_P_perm e1 hP
  have hD' : va_D A0 ([] ++ (M ++ N)) := va_D_perm e1 hD
  have hF := fr_F (dg := dg) (L := []) (M := M) (N := N) hD' hS hA
  refine va_callf (hr (va_P_l hP') (va_D_l hD')) hS (fun q _ h => hF q h) hF (fun r u t H1 locs1 ht hvm hw hB hz1 hk1 hS1 => ?_)
  obtain ⟨hP1, hD1⟩ := hB
  rw [ht] at hP1
  obtain ⟨g1, g2⟩ := fr_mid hP' hD' hk1 hF hP1 hD1
  exact kk r H1 locs1 hw (va_P_perm e2.symm g1) (va_D_perm e2.symm g2) hS1
theorem x_sld (hexec : p.tables.exec = Jvm.exec) (hb : c.code = cc) {b L : Nat} {xs : Nat → Int32} (hX : va_X b L xs s H0) (hbl : b < H0.size) (hbA : ¬ A b) (hS : va_S A H0 H locs) {z v : Int} (hz : 0 ≤ z ∧ z < L) (hL : L < 2147483648) (hv : (xs z.toNat).toInt = v) (hdg : decode cc pc = .ok (.iaload, 1))
    (kk : W p l e R s m args below meth c H locs cells slots Q (F0 m (pc + 1) ls (.int (zI v) :: rest))) : W p l e R s m args below meth c H locs cells slots Q (F0 m pc ls (.int (zI z) :: .ref b :: rest)) := by
  refine va_sld hexec hb hX hbl hbA hS (zI_in hz hL) hdg ?_
  rw [zI_clamp (by omega), zI_of (xs z.toNat), hv]
  exact kk
theorem x_slen (hexec : p.tables.exec = Jvm.exec) (hb : c.code = cc) {b L : Nat} {xs : Nat → Int32} (hX : va_X b L xs s H0) (hbl : b < H0.size) (hbA : ¬ A b) (hS : va_S A H0 H locs) (hdg : decode cc pc = .ok (.arraylength, 1))
    (kk : W p l e R s m args below meth c H locs cells slots Q (F0 m (pc + 1) ls (.int (zI (L : Int)) :: rest))) : W p l e R s m args below meth c H locs cells slots Q (F0 m pc ls (.ref b :: rest)) := by
  refine va_slen hexec hb hX hbl hbA hS hdg ?_
  have e9 : Int32.ofNat L = zI (L : Int) := (zI_n L).symm
  rw [e9]
  exact kk
theorem x_i2cm (hexec : p.tables.exec = Jvm.exec) (hb : c.code = cc) {x : Int} (hdg : decode cc pc = .ok (.i2c, 1)) (k : W p l e R s m args below meth c H locs cells slots Q (F0 m (pc + 1) ls (.int (zI (x % 65536)) :: rest))) : W p l e R s m args below meth c H locs cells slots Q (F0 m pc ls (.int (zI x) :: rest)) := by
  refine lv_i2c hexec hb hdg ?_ k
  apply Int32.toBitVec_inj.mp
  apply BitVec.eq_of_toNat_eq
  show ((BitVec.ofInt 32 x) % 65536#32).toNat = (BitVec.ofInt 32 (x % 65536)).toNat
  rw [BitVec.toNat_umod, BitVec.toNat_ofInt, BitVec.toNat_ofInt]
  show (x % 4294967296).toNat % 65536 = (x % 65536 % 4294967296).toNat
  omega
end LAWX
theorem lg_self (x : Int64) : lg_cmp x x = zI 0 := by
  unfold lg_cmp
  rw [if_neg (by intro q; exact absurd q (by rw [gt_iff_lt, Int64.lt_iff_toInt_lt]; omega)), if_pos rfl]
  rfl
theorem xi_r (x : Int32) : -2147483648 ≤ x.toInt ∧ x.toInt < 2147483648 := ⟨Int32.le_toInt x, Int32.toInt_lt x⟩
/-- what the law's walk stands on -/
def LX (p : Program) (l : Launch) (s : State) (m : MethodId) (c : Code) (dg : va_G) (ck : Nat → ClassId) (ka : Nat → Nat) (b L : Nat) (xs : Nat → Int32) (A : Nat → Prop) : Prop :=
  p.tables.exec = Jvm.exec ∧ c.code = code ∧ c.maxLocals = 9 ∧ s.vm.findClass RL = some m.cls ∧ (∀ w ∈ GW, w.before #[Value.ref b] s = true) ∧ va_X b L xs s s.heap ∧ b < s.heap.size ∧ ¬ A b ∧ va_K dg vwCl (TY ck) s ∧ KC ka A s s.heap ∧ (∀ q, s.heap.size ≤ q → A q) ∧ l.stackTraces = false ∧ L ≤ 2048
abbrev lawW (ck : Nat → ClassId) (ka : Nat → Nat) (ad ra : Nat → Nat → Nat) (mo : Nat → Nat) (oa od : Nat) (bb : BU) (F1 F2 F3 F4 : Int → Int) (M : St) (D : Nat → Int64) (E : Nat → UInt64) : va_W := brkU ck ka ad ra bb ++ (modelC ck mo (encZ (bb.2.2.2.2.1)) F1 F2 F3 F4 M ++ (lngC ck oa D ++ dblC ck od E))
/-- from behind a call on: the law goes on, whatever the two sides now hold in common -/
def LKK (p : Program) (l : Launch) (e : Env) (s : State) (m : MethodId) (below : List Frame) (meth : Method) (c : Code) (dg : va_G) (ck : Nat → ClassId) (ka : Nat → Nat) (ad ra : Nat → Nat → Nat) (mo : Nat → Nat) (oa od b : Nat) (A : Nat → Prop) (Qf : State → Prop) (i : Int) (cells slots : Nat) : Prop :=
  ∀ (bb : BU) (F1 F2 F3 F4 : Int → Int) (M : St) (D : Nat → Int64) (E : Nat → UInt64) (H : Heap) (locs : List Loc) (ls : Array Slot), LI (775 * i + 3100) (bb.1) (bb.2.2.1) (bb.2.2.2.1) (bb.2.2.2.2.1) (bb.2.2.2.2.2.2.1) (bb.2.2.2.2.2.2.2.1) (bb.2.2.2.2.2.2.2.2.2.2.1) (bb.2.2.2.2.2.2.2.2.2.2.2) F2 F3 M → va_P dg vwCl (lawW ck ka ad ra mo oa od bb F1 F2 F3 F4 M D E) H → va_D A (lawW ck ka ad ra mo oa od bb F1 F2 F3 F4 M D E) → va_S A s.heap H locs → lv_has ls 9 [(0, .ref b), (1, .ref (ad 7 0)), (2, .ref (mo 0)), (3, .ref oa), (4, .ref od), (5, .int (zI i))] → W p l e room_1 s m #[Value.ref b] below meth c H locs (cells + 3) (slots + 18) Qf (F0 m 3323 ls [])
