/-! the law: what its walk begins with -/
theorem uG_Jx00060 : ∀ k, k < 6 → u_lay RJx00060 TJx00060 k ∈ GW := fun k hk => match k, hk with
  | 0, _ => wq_384
  | 1, _ => wq_386
  | 2, _ => wq_388
  | 3, _ => wq_390
  | 4, _ => wq_392
  | 5, _ => wq_394
  | k + 6, hk => absurd hk (by omega)
theorem inG_Jx00060 : ∀ w ∈ u_ws RJx00060 TJx00060 6, w ∈ GW := by
  intro w hw
  obtain ⟨k, hk, rfl⟩ := List.mem_map.mp hw
  exact uG_Jx00060 k (List.mem_range.mp hk)
theorem uG_Jx7c733 : ∀ k, k < 6 → u_lay RJx7c733 TJx7c733 k ∈ GW := fun k hk => match k, hk with
  | 0, _ => wq_1289
  | 1, _ => wq_1290
  | 2, _ => wq_1291
  | 3, _ => wq_1292
  | 4, _ => wq_1293
  | 5, _ => wq_1294
  | k + 6, hk => absurd hk (by omega)
theorem inG_Jx7c733 : ∀ w ∈ u_ws RJx7c733 TJx7c733 6, w ∈ GW := by
  intro w hw
  obtain ⟨k, hk, rfl⟩ := List.mem_map.mp hw
  exact uG_Jx7c733 k (List.mem_range.mp hk)
theorem s0_inv : Inv 0 S0 := by
  refine ⟨⟨by show (0 : Int) ≤ 0 ∧ (0 : Int) ≤ 10; omega, by show (0 : Int) ≤ 0 ∧ (0 : Int) ≤ 4; omega, by show (0 : Int) ≤ 3 ∧ (3 : Int) ≤ 20; omega, fun i => by show (0 : Int) ≤ 0 ∧ (0 : Int) ≤ 5; omega, fun i => by show (0 : Int) ≤ 0 ∧ (0 : Int) ≤ 5; omega, fun i => by show (0 : Int) ≤ 0 ∧ (0 : Int) ≤ 20; omega, fun i => by show (0 : Int) ≤ 0 ∧ (0 : Int) ≤ 5; omega, fun i => by show (0 : Int) ≤ 0 ∧ (0 : Int) ≤ 5; omega, fun i => by show (0 : Int) ≤ 0 ∧ (0 : Int) ≤ 9; omega, fun i => by show (0 : Int) ≤ 0 ∧ (0 : Int) ≤ 1; omega⟩, ?_⟩
  refine ⟨by show (0 : Int) ≤ 0 ∧ (0 : Int) ≤ 8; omega, fun i => by show (0 : Int) ≤ 0 ∧ (0 : Int) ≤ 0; omega, fun i => by show (0 : Int) ≤ 0 ∧ (0 : Int) ≤ 20; omega, fun i => by show (0 : Int) ≤ 0 ∧ (0 : Int) ≤ 12; omega, fun i => by show (0 : Int) ≤ 0; omega, fun i => by show (0 : Int) ≤ 0 ∧ (0 : Int) ≤ 3; omega, fun _ _ => ⟨rfl, rfl⟩, fun _ h => absurd rfl h, fun _ h => absurd rfl h, fun _ _ _ h => absurd rfl h, fun _ _ => rfl, by show (0 : Int) ≤ 0; omega, by decide +kernel, by show (0 : Int) ≤ 0; omega, by omega⟩
theorem s0_i2 : Iv2 S0 := ⟨rfl, fun _ h => absurd rfl h⟩
theorem ki0 : KI 0 S0 (fun _ => 0) (fun _ => S0) S0 0 := by
  have h10 : ∀ i, 0 ≤ S0 10 i ∧ S0 10 i ≤ 1 := fun i => by show (0 : Int) ≤ 0 ∧ (0 : Int) ≤ 1; omega
  exact ⟨⟨s0_inv, s0_i2⟩, ⟨by show (0 : Int) ≤ 0 ∧ (0 : Int) < 8; omega, by show (0 : Int) ≤ 0 ∧ (0 : Int) ≤ 8; omega⟩, fun _ i => h10 i, fun j h1 h2 => absurd (show j ≤ 0 from h2) (by omega), by decide, h10, fun h => absurd rfl h⟩
abbrev bu0 : BU := (Z0, (fun _ => 0), (fun _ => 0), (fun _ => 0), S0, S0, S0, (fun _ _ => 0), (fun _ => 0), (fun _ => 0), (fun _ => 0), (fun _ => S0))
theorem ro0 : RO S0 (fun _ => 0) (fun _ => S0) S0 0 bu0 := ⟨rfl, rfl, rfl, rfl, rfl, ⟨by show (0 : Int) ≤ 0 ∧ (0 : Int) ≤ 60; omega, fun i _ _ => by show (0 : Int) ≤ 0 ∧ (0 : Int) ≤ 126; omega, by show (0 : Int) ≤ 0 ∧ (0 : Int) ≤ 9; omega⟩, by show (0 : Int) ≤ 0 ∧ (0 : Int) ≤ 16; omega, fun z _ _ => by show (0 : Int) ≤ 0 ∧ (0 : Int) ≤ 126; omega⟩
theorem hs0 (D : Nat → Int64) : HS (fun _ => 0) (fun _ => S0) 0 D := fun j h1 h2 => absurd (show j ≤ 0 from h2) (by omega)
set_option maxRecDepth 100000 in
theorem wh_K {args : Array Value} {s : State} (htg : ∀ w ∈ GW, w.before args s = true) (hAO : va_AO "BenchBroker$Books" s) : ∃ (dg : va_G) (ck : Nat → ClassId), va_K dg vwCl (TY ck) s := by
  obtain ⟨c0, i0, k0⟩ := u_known (C := RJ0) (T := TJ0) (N := 4) (n := 4) htg inG_J0 (htg _ wq_416)
  obtain ⟨c1, i1, k1⟩ := u_known (C := RJ4) (T := TJ4) (N := 4) (n := 4) htg inG_J4 (htg _ wq_247)
  obtain ⟨c2, i2, k2⟩ := u_known (C := RJx00060) (T := TJx00060) (N := 6) (n := 6) htg inG_Jx00060 (htg _ wq_342)
  obtain ⟨c3, i3, k3⟩ := u_known (C := RJx7c733) (T := TJx7c733) (N := 6) (n := 6) htg inG_Jx7c733 (htg _ wq_1278)
  obtain ⟨c4, i4, k4⟩ := u_known (C := RX1) (T := TX1) (N := 13) (n := 13) htg inG_X1 (htg _ wq_43)
  obtain ⟨c5, i5, k5⟩ := u_known (C := RX2) (T := TX2) (N := 3) (n := 3) htg inG_X2 (htg _ wq_160)
  obtain ⟨c6, i6, k6⟩ := u_known (C := RX3) (T := TX3) (N := 5) (n := 5) htg inG_X3 (htg _ wq_217)
  obtain ⟨c7, i7, k7⟩ := u_known (C := RX4) (T := TX4) (N := 2) (n := 2) htg inG_X4 (htg _ wq_203)
  obtain ⟨c8, i8, k8⟩ := u_known (C := RX5) (T := TX5) (N := 4) (n := 4) htg inG_X5 (htg _ wq_180)
  obtain ⟨c9, i9, k9⟩ := u_known (C := RX6) (T := TX6) (N := 10) (n := 10) htg inG_X6 (htg _ wq_49)
  obtain ⟨c10, i10, k10⟩ := u_known (C := RX8) (T := TX8) (N := 13) (n := 13) htg inG_X8 (htg _ wq_35)
  obtain ⟨a0, b0, p0, e0, f0, g0⟩ := Cond.arrayClass_spec (htg _ wq_101)
  obtain ⟨a1, b1, p1, e1, f1, g1⟩ := Cond.arrayClass_spec (htg _ wq_102)
  obtain ⟨a2, b2, p2, e2, f2, g2⟩ := Cond.arrayClass_spec (htg _ wq_245)
  obtain ⟨a3, b3, p3, e3, f3, g3⟩ := Cond.arrayClass_spec (htg _ wq_278)
  obtain ⟨p4, a4, b4, d4, -, f4, g4, e4⟩ := Cond.arrayOver_spec hAO
  obtain ⟨a5, b5, p5, e5, f5, g5⟩ := Cond.arrayClass_spec (htg _ wq_1567)
  obtain ⟨dC, hdC⟩ : ∃ dC : Nat → ClassId, dC = fun k => ([c0, c1, c2, c3, c4, c5, c6, c7, c8, c9, c10] : List ClassId).getD k 0 := ⟨_, rfl⟩
  obtain ⟨dI, hdI⟩ : ∃ dI : Nat → Nat → Nat, dI = fun k => ([i0, i1, i2, i3, i4, i5, i6, i7, i8, i9, i10] : List (Nat → Nat)).getD k (fun _ => 0) := ⟨_, rfl⟩
  obtain ⟨ck, hck⟩ : ∃ ck : Nat → ClassId, ck = fun k => ([a0, a1, a2, a3, a4, a5] : List ClassId).getD k 0 := ⟨_, rfl⟩
  refine ⟨(dC, dI), ck, fun k q hq => ?_, fun k q hq => ?_⟩
  · have hk : k < 11 := (List.getElem?_eq_some_iff.mp hq).1
    rcases (show k = 0 ∨ k = 1 ∨ k = 2 ∨ k = 3 ∨ k = 4 ∨ k = 5 ∨ k = 6 ∨ k = 7 ∨ k = 8 ∨ k = 9 ∨ k = 10 by omega) with rfl | rfl | rfl | rfl | rfl | rfl | rfl | rfl | rfl | rfl | rfl
    · cases hq
      show u_Kn s RJ0 TJ0 4 (dC 0) (dI 0)
      rw [show dC 0 = c0 by rw [hdC]; rfl, show dI 0 = i0 by rw [hdI]; rfl]
      exact k0
    · cases hq
      show u_Kn s RJ4 TJ4 4 (dC 1) (dI 1)
      rw [show dC 1 = c1 by rw [hdC]; rfl, show dI 1 = i1 by rw [hdI]; rfl]
      exact k1
    · cases hq
      show u_Kn s RJx00060 TJx00060 6 (dC 2) (dI 2)
      rw [show dC 2 = c2 by rw [hdC]; rfl, show dI 2 = i2 by rw [hdI]; rfl]
      exact k2
    · cases hq
      show u_Kn s RJx7c733 TJx7c733 6 (dC 3) (dI 3)
      rw [show dC 3 = c3 by rw [hdC]; rfl, show dI 3 = i3 by rw [hdI]; rfl]
      exact k3
    · cases hq
      show u_Kn s RX1 TX1 13 (dC 4) (dI 4)
      rw [show dC 4 = c4 by rw [hdC]; rfl, show dI 4 = i4 by rw [hdI]; rfl]
      exact k4
    · cases hq
      show u_Kn s RX2 TX2 3 (dC 5) (dI 5)
      rw [show dC 5 = c5 by rw [hdC]; rfl, show dI 5 = i5 by rw [hdI]; rfl]
      exact k5
    · cases hq
      show u_Kn s RX3 TX3 5 (dC 6) (dI 6)
      rw [show dC 6 = c6 by rw [hdC]; rfl, show dI 6 = i6 by rw [hdI]; rfl]
      exact k6
    · cases hq
      show u_Kn s RX4 TX4 2 (dC 7) (dI 7)
      rw [show dC 7 = c7 by rw [hdC]; rfl, show dI 7 = i7 by rw [hdI]; rfl]
      exact k7
    · cases hq
      show u_Kn s RX5 TX5 4 (dC 8) (dI 8)
      rw [show dC 8 = c8 by rw [hdC]; rfl, show dI 8 = i8 by rw [hdI]; rfl]
      exact k8
    · cases hq
      show u_Kn s RX6 TX6 10 (dC 9) (dI 9)
      rw [show dC 9 = c9 by rw [hdC]; rfl, show dI 9 = i9 by rw [hdI]; rfl]
      exact k9
    · cases hq
      show u_Kn s RX8 TX8 13 (dC 10) (dI 10)
      rw [show dC 10 = c10 by rw [hdC]; rfl, show dI 10 = i10 by rw [hdI]; rfl]
      exact k10
  · have hk : k < 6 := (List.getElem?_eq_some_iff.mp hq).1
    rcases (show k = 0 ∨ k = 1 ∨ k = 2 ∨ k = 3 ∨ k = 4 ∨ k = 5 by omega) with rfl | rfl | rfl | rfl | rfl | rfl
    · cases hq
      show ArrOfT s (ck 0) .int ∧ va_RA s (ck 0) .int
      rw [show ck 0 = a0 by rw [hck]; rfl]
      exact ⟨fun N z => ⟨(fun k h => by cases h), b0, f0, p0, g0⟩, e0⟩
    · cases hq
      show ArrOfT s (ck 1) .boolean ∧ va_RA s (ck 1) .boolean
      rw [show ck 1 = a1 by rw [hck]; rfl]
      exact ⟨fun N z => ⟨(fun k h => by cases h), b1, f1, p1, g1⟩, e1⟩
    · cases hq
      show ArrOfT s (ck 2) .char ∧ va_RA s (ck 2) .char
      rw [show ck 2 = a2 by rw [hck]; rfl]
      exact ⟨fun N z => ⟨(fun k h => by cases h), b2, f2, p2, g2⟩, e2⟩
    · cases hq
      show ArrOfT s (ck 3) .byte ∧ va_RA s (ck 3) .byte
      rw [show ck 3 = a3 by rw [hck]; rfl]
      exact ⟨fun N z => ⟨(fun k h => by cases h), b3, f3, p3, g3⟩, e3⟩
    · cases hq
      show ArrOfT s (ck 4) (.object "BenchBroker$Books") ∧ va_RA s (ck 4) (.object "BenchBroker$Books")
      rw [show ck 4 = a4 by rw [hck]; rfl]
      exact ⟨fun N z => ⟨(fun k h => by cases h), b4, f4, p4, g4⟩, b4, p4, f4, g4, d4, e4⟩
    · cases hq
      show ArrOfT s (ck 5) .long ∧ va_RA s (ck 5) .long
      rw [show ck 5 = a5 by rw [hck]; rfl]
      exact ⟨fun N z => ⟨(fun k h => by cases h), b5, f5, p5, g5⟩, e5⟩
/-! THE CLAIM OUT OF ONE WALK OF THE LAW'S BODY. Your part is whole_start (and what it stands on); all else here is the same for every law, but numbers. -/
def R_law : String := "BenchBrokerLaw"
def lw_P (b : Addr) (xs : List Int32) (args : Array Value) (s : State) : Prop := args = #[.ref b] ∧ s.IntsAt b xs ∧ xs.length ≤ 260 ∧ (Jvm.Cond.and given_1 narrow_1).before args s = true
/-- what a walk over the start with the record d0 says of its end, said of the start itself -/
theorem lw_closed {s t : State} {o : Outcome} {d0 : Drawn} {L : List Loc} {k n : Nat} (hd0 : s.drawn.sameBut d0 lw_cs) (hv : ∃ v, o = .returned v) (hW : (s.setDrawn d0).WarmedH t.vm) (hs : (s.setDrawn d0).sameButNew ({ t with vm := s.vm } : State) L k n) : State.butDraws s t lw_cs (fun t1 => Framed s o t1 L k n) := by
  have h2 : t.drawn = d0 := congrArg State.drawn hs.1
  refine ⟨⟨hv, hW, State.sameButNew.setDrawn hs s.drawn⟩, ?_, by decide⟩
  rw [h2]
  exact hd0
def lw_Q (_ : Array Value) (s : State) (o : Outcome) (t : State) : Prop := o = .returned (some (.int 1)) ∧ State.butDraws s t lw_cs (fun t1 => Framed s o t1 [] 747773 6848010)
def lw_Z (below : List Frame) (a : Array Value) (s : State) : State → Prop := fun t => ∃ o, t.status = .running ∧ Ended t below o ∧ lw_Q a s o t
/-- the law's own end, with 1 on the stack, nothing written that was there before, its room as the claim has it; d0: the record of draws at this point (at the entry s.drawn: begin with 'refine W.base ?_' and 'have hd0 := Drawn.sameBut.refl s.drawn lw_cs') -/
theorem lw_ret {p : Program} {l : Launch} {e : Env} {s : State} {m : MethodId} {below : List Frame} {meth : Method} {c : Code} {b : Nat} {d0 : Drawn} (hd0 : s.drawn.sameBut d0 lw_cs) (hx : p.tables.exec = Jvm.exec) (hb : c.code = code) (hr : meth.sig.returnType = ret) (hlocks : meth.locks = false) {pc : Nat} {H : Heap} {ls : Array Slot} (hdg : decode code pc = .ok (.ireturn, 1)) : W p l e room_1 (s.setDrawn d0) m #[Value.ref b] below meth c H [] 747773 6848010 (lw_Z below #[Value.ref b] s) (F0 m pc ls [.int 1]) := by
  intro T hT X
  obtain ⟨fs, hret, hrun, hended, hW, hframe⟩ := X.leave (v := some (.int 1)) (hlocks := hlocks) (fun h => by rw [hr] at h; cases h)
  have hmeth' : T.vm.method? m = some meth := X.method'
  refine ⟨T.setFrames fs, ?_, .returned (some (.int 1)), hrun, hended, rfl, lw_closed hd0 ⟨_, rfl⟩ hW hframe⟩
  jvm_step X.here [X.here.top, hx, hb, hdg, hmeth', hr, ret, narrow_b1]
  (try refine ⟨rfl, ?_⟩); (try refine ⟨rfl, ?_⟩)
  first | (intro acts; rw [hret _ acts rfl rfl rfl]) | rw [hret _ _ rfl rfl rfl]
  exact Steps.refl _
/-- what holds at the law's entry: the machine, the code, the tables' words (any of lw_tbl by 'hts w (by decide +kernel)'), the script of L ints xs at the cell b, what the Statement gives of the start (any of its parts by flat_of_before) -/
def lw_At (p : Program) (s : State) (m : MethodId) (meth : Method) (c : Code) (b L : Nat) (xs : Nat → Int32) : Prop :=
  p.tables.exec = Jvm.exec ∧ c.code = code ∧ meth.sig.returnType = ret ∧ c.maxLocals = 23 ∧ s.vm.findClass R_law = some m.cls ∧ (∀ w ∈ lw_tbl, w.before #[Value.ref b] s = true) ∧ va_X b L xs s s.heap ∧ b < s.heap.size ∧ meth.locks = false ∧ (Jvm.Cond.and given_1 narrow_1).before #[Value.ref b] s = true
