/-! what a state of the system is: a table of whole numbers S k i (k = 0: single numbers, 1..6 benches, 7..10 fountains, 11, 12 tenants), and the cells that hold it -/
abbrev St : Type := Nat → Int → Int
def upS (S : St) (k : Nat) (i v : Int) : St := fun k' i' => if k' = k ∧ i' = i then v else S k' i'
def ar (S : St) (k : Nat) : Nat → Int32 := fun j => zI (S k j)
def arB (S : St) : Nat → Int32 := fun j => zI (S 4 j - 1)
theorem ar_up {S : St} {k : Nat} {z v : Int} (hz : 0 ≤ z) : upd (ar S k) z.toNat (zI v) = ar (upS S k z v) k := by
  funext j
  unfold upd ar upS
  by_cases h : j = z.toNat
  · rw [if_pos h, if_pos ⟨rfl, by omega⟩]
  · rw [if_neg h, if_neg (fun q => h (by omega))]
theorem arB_up {S : St} {z v : Int} (hz : 0 ≤ z) : upd (arB S) z.toNat (zI v) = arB (upS S 4 z (v + 1)) := by
  funext j
  unfold upd arB upS
  by_cases h : j = z.toNat
  · rw [if_pos h, if_pos ⟨rfl, by omega⟩]; congr 1; omega
  · rw [if_neg h, if_neg (fun q => h (by omega))]
/-- the array classes: ck 0 int, 1 boolean, 2 char, 3 byte, 4 Books, 5 long -/
abbrev TY (ck : Nat → ClassId) : List (ClassId × FieldType) := [(ck 0, .int), (ck 1, .boolean), (ck 2, .char), (ck 3, .byte), (ck 4, .object "BenchBroker$Books"), (ck 5, .long)]
def parkC (ck : Nat → ClassId) (a : Nat → Nat) (S : St) : va_W :=
  [(a 0, .inr (9, [.int (zI (S 0 0)), .ref (a 1), .ref (a 2), .ref (a 3), .int (zI (S 0 1)), .ref (a 4), .ref (a 5), .ref (a 6), .ref (a 7), .int (zI (S 0 3))])),
   (a 1, .inl (ck 0, 10, .inl (ar S 1))), (a 2, .inl (ck 0, 10, .inl (ar S 2))), (a 3, .inl (ck 0, 10, .inl (ar S 3))),
   (a 4, .inl (ck 0, 4, .inl (ar S 7))), (a 5, .inl (ck 0, 4, .inl (ar S 8))), (a 6, .inl (ck 0, 4, .inl (ar S 9))), (a 7, .inl (ck 1, 4, .inl (ar S 10)))]
def bookC (ck : Nat → ClassId) (a : Nat → Nat) (S : St) : va_W :=
  [(a 0, .inr (4, [.ref (a 6), .int (zI (S 0 2)), .ref (a 1), .ref (a 2), .ref (a 3), .ref (a 4), .ref (a 5), .int (zI (S 0 4)), .int (zI (S 0 5)), .int (zI (S 0 6)), .int (zI (S 0 7)), .int (zI (S 0 8)), .int (zI (S 0 9))])),
   (a 1, .inl (ck 0, 8, .inl (ar S 11))), (a 2, .inl (ck 0, 8, .inl (ar S 12))), (a 3, .inl (ck 0, 10, .inl (arB S))), (a 4, .inl (ck 0, 10, .inl (ar S 5))), (a 5, .inl (ck 0, 10, .inl (ar S 6)))]
def pa (a : Nat → Nat) : Nat → Nat := fun k => a (6 + k)
def booksC (ck : Nat → ClassId) (a : Nat → Nat) (S : St) : va_W := bookC ck a S ++ parkC ck (pa a) S
/-- what a method that reads asks of its world -/
def rdP (dg : va_G) (ck : Nat → ClassId) (ws : va_W) : State → Prop := fun U => va_P dg vwCl ws U.heap ∧ va_K dg vwCl (TY ck) U
theorem rd_blind {dg : va_G} {ck : Nat → ClassId} {ws : va_W} {As : List Value} : FrameBlind (va_Pc As (rdP dg ck ws)) := fun a U g mk q => by
  obtain ⟨q0, qP, qK⟩ := q
  exact ⟨q0, qP, va_K.moved (u := U) (U := U.calling g mk a) (Vm.Alike.refl U.vm) qK⟩
theorem rd_preV {dg : va_G} {ck : Nat → ClassId} {ws : va_W} {b : Nat} {As : List Value} {s : State} {H : Heap} {q : vw_C} (hK : va_K dg vwCl (TY ck) s) (hP : va_P dg vwCl ws H) (q0 ci : Nat) {fs : List Value} (hc : vwCl[ci]? = some q) (he : ws[q0]? = some (b, .inr (ci, fs))) : PreV s H q.1 b (va_Pc (.ref b :: As) (rdP dg ck ws)) As :=
  ⟨rd_blind, va_recv hK hP hc he, fun U hU hW => ⟨rfl, by rw [hU]; exact hP, va_K.moved hW.alike hK⟩⟩
theorem rd_preS {dg : va_G} {ck : Nat → ClassId} {ws : va_W} {As : List Value} {s : State} {H : Heap} (hK : va_K dg vwCl (TY ck) s) (hP : va_P dg vwCl ws H) : PreS s H (va_Pc As (rdP dg ck ws)) As :=
  ⟨rd_blind, fun U hU hW => ⟨rfl, by rw [hU]; exact hP, va_K.moved hW.alike hK⟩⟩
theorem va_P_nil {dg : va_G} {cl : List vw_C} {H : Heap} : va_P dg cl [] H := fun k q h => by simp at h
theorem va_P_l {dg : va_G} {cl : List vw_C} {w1 w2 : va_W} {H : Heap} (h : va_P dg cl (w1 ++ w2) H) : va_P dg cl w1 H := fun k q hk => h k q (by rw [List.getElem?_append_left (List.getElem?_eq_some_iff.mp hk).1]; exact hk)
theorem va_P_r {dg : va_G} {cl : List vw_C} {w1 w2 : va_W} {H : Heap} (h : va_P dg cl (w1 ++ w2) H) : va_P dg cl w2 H := fun k q hk => h (w1.length + k) q (by rw [List.getElem?_append_right (Nat.le_add_right _ _), Nat.add_sub_cancel_left]; exact hk)
/-- every single number of a state that bounds something, and the rows, within their bounds -/
def Bd (S : St) : Prop := (0 ≤ S 0 0 ∧ S 0 0 ≤ 10) ∧ (0 ≤ S 0 1 ∧ S 0 1 ≤ 4) ∧ (0 ≤ S 0 2 ∧ S 0 2 ≤ 8) ∧ (0 ≤ S 0 3 ∧ S 0 3 ≤ 20) ∧ (∀ i, 0 ≤ S 1 i ∧ S 1 i ≤ 5) ∧ (∀ i, 0 ≤ S 2 i ∧ S 2 i ≤ 5) ∧ (∀ i, 0 ≤ S 3 i ∧ S 3 i ≤ 20) ∧ (∀ i, 0 ≤ S 4 i ∧ S 4 i ≤ S 0 2) ∧ (∀ i, 0 ≤ S 5 i ∧ S 5 i ≤ 20) ∧ (∀ i, 0 ≤ S 6 i ∧ S 6 i ≤ 12) ∧ (∀ i, 0 ≤ S 7 i ∧ S 7 i ≤ 5) ∧ (∀ i, 0 ≤ S 8 i ∧ S 8 i ≤ 5) ∧ (∀ i, 0 ≤ S 9 i ∧ S 9 i ≤ 9) ∧ (∀ i, 0 ≤ S 10 i ∧ S 10 i ≤ 1) ∧ (∀ i, 0 ≤ S 11 i ∧ S 11 i ≤ 4000000) ∧ (∀ i, 0 ≤ S 12 i ∧ S 12 i ≤ 3)
theorem upS_s {S : St} {k : Nat} {i v : Int} : upS S k i v k i = v := if_pos ⟨rfl, rfl⟩
theorem upS_n {S : St} {k k' : Nat} {i j v : Int} (h : ¬ (k' = k ∧ j = i)) : upS S k i v k' j = S k' j := if_neg h
theorem upS_k (S : St) (k : Nat) (i v : Int) (j : Int) : upS S k i v k j = if j = i then v else S k j := by
  unfold upS
  by_cases h : j = i
  · rw [if_pos ⟨rfl, h⟩, if_pos h]
  · rw [if_neg (fun q => h q.2), if_neg h]
/-- the outcome of a change: 0 result, 1 value, 2 reason, 3 detail -/
def upO (O : Nat → Int) (k : Nat) (v : Int) : Nat → Int := fun j => if j = k then v else O j
def outC (o : Nat) (O : Nat → Int) : va_W := [(o, .inr (8, [.int (zI (O 0)), .int (zI (O 1)), .int (zI (O 2)), .int (zI (O 3))]))]
/-- a change with the code c (0 done, -1 no such index, -2 wrong number, else the reason) and the answer or detail x -/
def outc (O : Nat → Int) (c x : Int) : Nat → Int := if c = 0 then upO (upO O 0 0) 1 x else if c = -1 then upO O 0 1 else if c = -2 then upO O 0 2 else upO (upO (upO O 0 3) 2 c) 3 x
/-- what a method that writes asks of its world, and leaves -/
def wrP (dg : va_G) (ck : Nat → ClassId) (sz : Nat) (ws : va_W) : State → Prop := fun U => U.heap.size = sz ∧ va_P dg vwCl ws U.heap ∧ va_K dg vwCl (TY ck) U ∧ va_D (fun _ => True) ws
def wrQ (dg : va_G) (sz : Nat) (ws ws' : va_W) : State → Prop := fun t => va_P dg vwCl ws' t.heap ∧ va_D (va_A ws sz) ws'
theorem wr_blind {dg : va_G} {ck : Nat → ClassId} {sz : Nat} {ws : va_W} {As : List Value} : FrameBlind (va_Pc As (wrP dg ck sz ws)) := fun a U g mk q => by
  obtain ⟨q0, q1, qP, qK, qD⟩ := q
  exact ⟨q0, q1, qP, va_K.moved (u := U) (U := U.calling g mk a) (Vm.Alike.refl U.vm) qK, qD⟩
theorem va_D_l {A : Nat → Prop} {w1 w2 : va_W} (h : va_D A (w1 ++ w2)) : va_D A w1 :=
  ⟨fun i j p q hi hj e => h.1 i j p q (by rw [List.getElem?_append_left (List.getElem?_eq_some_iff.mp hi).1]; exact hi) (by rw [List.getElem?_append_left (List.getElem?_eq_some_iff.mp hj).1]; exact hj) e, fun k q hk => h.2 k q (by rw [List.getElem?_append_left (List.getElem?_eq_some_iff.mp hk).1]; exact hk)⟩
theorem va_D_r {A : Nat → Prop} {w1 w2 : va_W} (h : va_D A (w1 ++ w2)) : va_D A w2 :=
  ⟨fun i j p q hi hj e => by
    have := h.1 (w1.length + i) (w1.length + j) p q (by rw [List.getElem?_append_right (Nat.le_add_right _ _), Nat.add_sub_cancel_left]; exact hi) (by rw [List.getElem?_append_right (Nat.le_add_right _ _), Nat.add_sub_cancel_left]; exact hj) e
    omega, fun k q hk => h.2 (w1.length + k) q (by rw [List.getElem?_append_right (Nat.le_add_right _ _), Nat.add_sub_cancel_left]; exact hk)⟩
theorem va_D_x {A : Nat → Prop} {w1 w2 : va_W} (h : va_D A (w1 ++ w2)) : ∀ (i j : Nat) (p q : Nat × va_E), w1[i]? = some p → w2[j]? = some q → p.1 ≠ q.1 := fun i j p q hi hj e => by
  have h1 := (List.getElem?_eq_some_iff.mp hi).1
  have := h.1 i (w1.length + j) p q (by rw [List.getElem?_append_left h1]; exact hi) (by rw [List.getElem?_append_right (Nat.le_add_right _ _), Nat.add_sub_cancel_left]; exact hj) e
  omega
theorem wr_preV {dg : va_G} {ck : Nat → ClassId} {ws : va_W} {b : Nat} {As : List Value} {s : State} {H : Heap} {A : Nat → Prop} {q : vw_C} (hK : va_K dg vwCl (TY ck) s) (hP : va_P dg vwCl ws H) (hD : va_D A ws) (q0 ci : Nat) {fs : List Value} (hc : vwCl[ci]? = some q) (he : ws[q0]? = some (b, .inr (ci, fs))) : PreV s H q.1 b (va_Pc (.ref b :: As) (wrP dg ck H.size ws)) As :=
  ⟨wr_blind, va_recv hK hP hc he, fun U hU hW => ⟨rfl, by rw [hU], by rw [hU]; exact hP, va_K.moved hW.alike hK, hD.weaken (fun _ _ _ _ => trivial)⟩⟩
theorem wr_preS {dg : va_G} {ck : Nat → ClassId} {ws : va_W} {As : List Value} {s : State} {H : Heap} {A : Nat → Prop} (hK : va_K dg vwCl (TY ck) s) (hP : va_P dg vwCl ws H) (hD : va_D A ws) : PreS s H (va_Pc As (wrP dg ck H.size ws)) As :=
  ⟨wr_blind, fun U hU hW => ⟨rfl, by rw [hU], by rw [hU]; exact hP, va_K.moved hW.alike hK, hD.weaken (fun _ _ _ _ => trivial)⟩⟩
/-- the frame rule: the middle part of a world is a callee's -/
theorem fr_mid {dg : va_G} {A0 : Nat → Prop} {L M N M' : va_W} {H H1 : Heap} (hP : va_P dg vwCl (L ++ (M ++ N)) H) (hD : va_D A0 (L ++ (M ++ N))) (hk : ∀ q : Nat, q < H.size → ¬ va_A M H.size q → H1[q]? = H[q]?) (hF : ∀ q, va_A M H.size q → A0 q) (hP1 : va_P dg vwCl M' H1) (hD1 : va_D (va_A M H.size) M') : va_P dg vwCl (L ++ (M' ++ N)) H1 ∧ va_D A0 (L ++ (M' ++ N)) := by
  have hLM : ∀ (k : Nat) (q : Nat × va_E), L[k]? = some q → q.1 < H.size ∧ ¬ va_A M H.size q.1 := fun k q hq => by
    have hl := (va_P_l hP k q hq).lt
    refine ⟨hl, fun h => ?_⟩
    rcases h with ⟨k2, e, h⟩ | h
    · exact va_D_x hD k k2 q (q.1, e) hq (by rw [List.getElem?_append_left (List.getElem?_eq_some_iff.mp h).1]; exact h) rfl
    · omega
  have hNM : ∀ (k : Nat) (q : Nat × va_E), N[k]? = some q → q.1 < H.size ∧ ¬ va_A M H.size q.1 := fun k q hq => by
    have hl := (va_P_r (va_P_r hP) k q hq).lt
    refine ⟨hl, fun h => ?_⟩
    rcases h with ⟨k2, e, h⟩ | h
    · exact va_D_x (va_D_r hD) k2 k (q.1, e) q h hq rfl
    · omega
  refine ⟨va_P.app (fun k q hq => (va_P_l hP k q hq).kept (hk q.1 (hLM k q hq).1 (hLM k q hq).2)) (va_P.app hP1 (fun k q hq => (va_P_r (va_P_r hP) k q hq).kept (hk q.1 (hNM k q hq).1 (hNM k q hq).2))), va_D.app (va_D_l hD) (va_D.app (hD1.weaken (fun k q _ h => hF q.1 h)) (va_D_r (va_D_r hD)) (fun i j x y hx hy hxy => ?_)) (fun i j x y hx hy hxy => ?_)⟩
  · exact (hNM j y hy).2 (by rw [← hxy]; exact hD1.2 i x hx)
  · rcases List.mem_append.mp (List.mem_of_getElem? hy) with h | h
    · obtain ⟨k, hk2⟩ := List.getElem?_of_mem h
      exact (hLM i x hx).2 (by rw [hxy]; exact hD1.2 k y hk2)
    · obtain ⟨k, hk2⟩ := List.getElem?_of_mem h
      exact va_D_x hD i (M.length + k) x y hx (by rw [List.getElem?_append_right (Nat.le_add_right _ _), Nat.add_sub_cancel_left]; exact hk2) hxy
theorem fr_F {dg : va_G} {A0 : Nat → Prop} {L M N : va_W} {H0 H : Heap} {locs : List Loc} (hD : va_D A0 (L ++ (M ++ N))) (hS : va_S A0 H0 H locs) (hA : ∀ q, H0.size ≤ q → A0 q) : ∀ q, va_A M H.size q → A0 q := fun q h => by
  rcases h with ⟨k, e, h⟩ | h
  · exact (va_D_l (va_D_r hD)).2 k (q, e) h
  · exact hA q (Nat.le_trans hS.1 h)
section LIBC
variable {p : Program} {l : Launch} {e : Env} {R : Room} {s : State} {m : MethodId} {args : Array Value} {below : List Frame} {meth : Method} {c : Code} {H : Heap} {locs : List Loc} {cells slots : Nat} {Q : State → Prop}
variable {pc : Nat} {ls : Array Slot} {rest st0 : List Value} {a : Array Value} {A0 : Nat → Prop} {H0 : Heap} {mc ms : Nat} {dg : va_G} {ws ws' : va_W}
theorem x_callv (L : va_W) {M M' : va_W} (N : va_W) (e1 : ws = L ++ (M ++ N)) (e2 : ws' = L ++ (M' ++ N)) (hP : va_P dg vwCl ws H) (hD : va_D A0 ws) (hS : va_S A0 H0 H locs) (hA : ∀ q, H0.size ≤ q → A0 q)
    (hr : va_P dg vwCl M H → va_D A0 M → va_Run p l e R s m args below meth c H locs cells slots mc ms (F0 m pc ls st0) rest (va_Qv (fun _ : Unit => True) (fun _ t => wrQ dg H.size M M' t) (va_A M H.size) a) (va_A M H.size))
    (kk : ∀ (H1 : Heap) (locs1 : List Loc), va_P dg vwCl ws' H1 → va_D A0 ws' → va_S A0 H0 H1 locs1 → W p l e R s m args below meth c H1 locs1 (cells + mc) (slots + ms) Q (F0 m (pc + 3) ls rest)) : W p l e R s m args below meth c H locs cells slots Q (F0 m pc ls st0) := by
  subst e1; subst e2
  have hF := fr_F (dg := dg) hD hS hA
  refine va_callv (hr (va_P_l (va_P_r hP)) (va_D_l (va_D_r hD))) hS (fun q _ h => hF q h) hF (fun u t H1 locs1 ht hvm hw hB hz1 hk1 hS1 => ?_)
  obtain ⟨hP1, hD1⟩ := hB
  rw [ht] at hP1
  obtain ⟨g1, g2⟩ := fr_mid hP hD hk1 hF hP1 hD1
  exact kk H1 locs1 g1 g2 hS1
theorem x_calli {post : Int32 → Prop} (L : va_W) {M M' : va_W} (N : va_W) (e1 : ws = L ++ (M ++ N)) (e2 : ws' = L ++ (M' ++ N)) (hP : va_P dg vwCl ws H) (hD : va_D A0 ws) (hS : va_S A0 H0 H locs) (hA : ∀ q, H0.size ≤ q → A0 q)
    (hr : va_P dg vwCl M H → va_D A0 M → va_Run p l e R s m args below meth c H locs cells slots mc ms (F0 m pc ls st0) rest (va_Qi (fun r (_ : Unit) => post r) (fun _ t => wrQ dg H.size M M' t) (va_A M H.size) a) (va_A M H.size))
    (kk : ∀ (r : Int32) (H1 : Heap) (locs1 : List Loc), post r → va_P dg vwCl ws' H1 → va_D A0 ws' → va_S A0 H0 H1 locs1 → W p l e R s m args below meth c H1 locs1 (cells + mc) (slots + ms) Q (F0 m (pc + 3) ls (.int r :: rest))) : W p l e R s m args below meth c H locs cells slots Q (F0 m pc ls st0) := by
  subst e1; subst e2
  have hF := fr_F (dg := dg) hD hS hA
  refine va_calli (hr (va_P_l (va_P_r hP)) (va_D_l (va_D_r hD))) hS (fun q _ h => hF q h) hF (fun r u t H1 locs1 ht hvm hw hB hz1 hk1 hS1 => ?_)
  obtain ⟨hP1, hD1⟩ := hB
  rw [ht] at hP1
  obtain ⟨g1, g2⟩ := fr_mid hP hD hk1 hF hP1 hD1
  exact kk r H1 locs1 hw g1 g2 hS1
end LIBC
/-- a row of a state is another's -/
def repS (S : St) (k : Nat) (T : St) : St := fun k' i => if k' = k then T k i else S k' i
theorem fit_z {v : Int} (h : 0 ≤ v ∧ v ≤ 1) : fits .boolean (.int (zI v)) = true := by
  rcases (show v = 0 ∨ v = 1 by omega) with rfl | rfl <;> rfl
/-! worlds in another order -/
theorem va_P_iff {dg : va_G} {cl : List vw_C} {ws : va_W} {H : Heap} : va_P dg cl ws H ↔ ∀ q ∈ ws, va_at dg cl q H :=
  ⟨fun h q hq => by obtain ⟨k, hk⟩ := List.getElem?_of_mem hq; exact h k q hk, fun h k q hk => h q (List.mem_of_getElem? hk)⟩
theorem va_D_iff {A : Nat → Prop} {ws : va_W} : va_D A ws ↔ (ws.map Prod.fst).Nodup ∧ ∀ q ∈ ws, A q.1 := by
  constructor
  · intro h
    refine ⟨?_, fun q hq => by obtain ⟨k, hk⟩ := List.getElem?_of_mem hq; exact h.2 k q hk⟩
    rw [List.nodup_iff_pairwise_ne, List.pairwise_iff_getElem]
    intro i j hi hj hij he
    rw [List.length_map] at hi hj
    rw [List.getElem_map, List.getElem_map] at he
    have := h.1 i j ws[i] ws[j] (List.getElem?_eq_getElem hi) (List.getElem?_eq_getElem hj) he
    omega
  · intro h
    refine ⟨fun i j p q hi hj he => ?_, fun k q hk => h.2 q (List.mem_of_getElem? hk)⟩
    have h1 := h.1
    rw [List.nodup_iff_pairwise_ne, List.pairwise_iff_getElem] at h1
    obtain ⟨li, ei⟩ := List.getElem?_eq_some_iff.mp hi
    obtain ⟨lj, ej⟩ := List.getElem?_eq_some_iff.mp hj
    rcases Nat.lt_trichotomy i j with c | c | c
    · exact absurd (by rw [List.getElem_map, List.getElem_map, ei, ej]; exact he) (h1 i j (by rw [List.length_map]; exact li) (by rw [List.length_map]; exact lj) c)
    · exact c
    · exact absurd (by rw [List.getElem_map, List.getElem_map, ei, ej]; exact he.symm) (h1 j i (by rw [List.length_map]; exact lj) (by rw [List.length_map]; exact li) c)
theorem va_P_perm {dg : va_G} {cl : List vw_C} {w1 w2 : va_W} {H : Heap} (p : w1.Perm w2) (h : va_P dg cl w1 H) : va_P dg cl w2 H := va_P_iff.mpr fun q hq => va_P_iff.mp h q (p.mem_iff.mpr hq)
theorem va_D_perm {A : Nat → Prop} {w1 w2 : va_W} (p : w1.Perm w2) (h : va_D A w1) : va_D A w2 := by
  obtain ⟨h1, h2⟩ := va_D_iff.mp h
  exact va_D_iff.mpr ⟨(p.map Prod.fst).nodup_iff.mp h1, fun q hq => h2 q (p.mem_iff.mpr hq)⟩
theorem pick_perm (bs : List va_W) (is : List Nat) (h : is.Perm (List.range bs.length)) : (is.map (fun i => bs.getD i [])).Perm bs := by
  have h1 := h.map (fun i => bs.getD i [])
  refine h1.trans ?_
  have h2 : (List.range bs.length).map (fun i => bs.getD i []) = bs := by
    apply List.ext_getElem
    · rw [List.length_map, List.length_range]
    · intro i h3 h4
      rw [List.getElem_map, List.getElem_range, List.getD_eq_getElem?_getD, List.getElem?_eq_getElem h4]
      rfl
  rw [h2]
theorem flat_perm {b1 b2 : List va_W} (p : b1.Perm b2) : b1.flatten.Perm b2.flatten := p.flatten
def cat : List va_W → va_W
  | [] => []
  | [x] => x
  | x :: y :: r => x ++ cat (y :: r)
theorem cat_flat : ∀ bs : List va_W, cat bs = bs.flatten
  | [] => rfl
  | [x] => (List.append_nil x).symm
  | x :: y :: r => by
    show x ++ cat (y :: r) = x ++ (y :: r).flatten
    rw [cat_flat (y :: r)]
theorem cat_perm (bs : List va_W) (is js : List Nat) (n : Nat) (hn : bs.length = n) (h : (is ++ js).Perm (List.range n)) : (cat bs).Perm (cat (is.map (fun i => bs.getD i [])) ++ cat (js.map (fun i => bs.getD i []))) := by
  rw [cat_flat, cat_flat, cat_flat, ← List.flatten_append, ← List.map_append]
  exact (pick_perm bs (is ++ js) (hn ▸ h)).symm.flatten
theorem wrP_perm {dg : va_G} {ck : Nat → ClassId} {sz : Nat} {w1 w2 : va_W} (p : w1.Perm w2) : wrP dg ck sz w1 = wrP dg ck sz w2 := by
  funext U
  exact propext ⟨fun h => ⟨h.1, va_P_perm p h.2.1, h.2.2.1, va_D_perm p h.2.2.2⟩, fun h => ⟨h.1, va_P_perm p.symm h.2.1, h.2.2.1, va_D_perm p.symm h.2.2.2⟩⟩
theorem vaA_perm {sz : Nat} {w1 w2 : va_W} (p : w1.Perm w2) : va_A w1 sz = va_A w2 sz := by
  funext q
  apply propext
  have key : ∀ {w1 w2 : va_W}, w1.Perm w2 → va_A w1 sz q → va_A w2 sz q := by
    intro w1 w2 p h
    rcases h with ⟨k, e, h⟩ | h
    · obtain ⟨k2, h2⟩ := List.getElem?_of_mem (p.mem_iff.mp (List.mem_of_getElem? h))
      exact Or.inl ⟨k2, e, h2⟩
    · exact Or.inr h
  exact ⟨key p, key p.symm⟩
theorem wrQ_perm {dg : va_G} {sz : Nat} {w1 w2 v1 v2 : va_W} (p : w1.Perm w2) (p' : v1.Perm v2) : wrQ dg sz w1 v1 = wrQ dg sz w2 v2 := by
  funext U
  unfold wrQ
  rw [vaA_perm p]
  exact propext ⟨fun h => ⟨va_P_perm p' h.1, va_D_perm p' h.2⟩, fun h => ⟨va_P_perm p'.symm h.1, va_D_perm p'.symm h.2⟩⟩
section LIBP
variable {p : Program} {l : Launch} {e : Env} {R : Room} {s : State} {m : MethodId} {args : Array Value} {below : List Frame} {meth : Method} {c : Code} {H : Heap} {locs : List Loc} {cells slots : Nat} {Q : State → Prop}
variable {pc : Nat} {ls : Array Slot} {rest st0 : List Value} {a : Array Value} {A0 : Nat → Prop} {H0 : Heap} {mc ms : Nat} {dg : va_G} {ws ws' : va_W}
theorem x_callvB {M M' N : va_W} (e1 : ws.Perm (M ++ N)) (e2 : ws'.Perm (M' ++ N)) (hP : va_P dg vwCl ws H) (hD : va_D A0 ws) (hS : va_S A0 H0 H locs) (hA : ∀ q, H0.size ≤ q → A0 q)
    (hr : va_P dg vwCl M H → va_D A0 M → va_Run p l e R s m args below meth c H locs cells slots mc ms (F0 m pc ls st0) rest (va_Qv (fun _ : Unit => True) (fun _ t => wrQ dg H.size M M' t) (va_A M H.size) a) (va_A M H.size))
    (kk : ∀ (H1 : Heap) (locs1 : List Loc), va_P dg vwCl ws' H1 → va_D A0 ws' → va_S A0 H0 H1 locs1 → W p l e R s m args below meth c H1 locs1 (cells + mc) (slots + ms) Q (F0 m (pc + 3) ls rest)) : W p l e R s m args below meth c H locs cells slots Q (F0 m pc ls st0) :=
  x_callv [] N rfl rfl (va_P_perm e1 hP) (va_D_perm e1 hD) hS hA hr (fun H1 locs1 h1 h2 h3 => kk H1 locs1 (va_P_perm e2.symm h1) (va_D_perm e2.symm h2) h3)
theorem x_calliB {post : Int32 → Prop} {M M' N : va_W} (e1 : ws.Perm (M ++ N)) (e2 : ws'.Perm (M' ++ N)) (hP : va_P dg vwCl ws H) (hD : va_D A0 ws) (hS : va_S A0 H0 H locs) (hA : ∀ q, H0.size ≤ q → A0 q)
    (hr : va_P dg vwCl M H → va_D A0 M → va_Run p l e R s m args below meth c H locs cells slots mc ms (F0 m pc ls st0) rest (va_Qi (fun r (_ : Unit) => post r) (fun _ t => wrQ dg H.size M M' t) (va_A M H.size) a) (va_A M H.size))
    (kk : ∀ (r : Int32) (H1 : Heap) (locs1 : List Loc), post r → va_P dg vwCl ws' H1 → va_D A0 ws' → va_S A0 H0 H1 locs1 → W p l e R s m args below meth c H1 locs1 (cells + mc) (slots + ms) Q (F0 m (pc + 3) ls (.int r :: rest))) : W p l e R s m args below meth c H locs cells slots Q (F0 m pc ls st0) :=
  x_calli [] N rfl rfl (va_P_perm e1 hP) (va_D_perm e1 hD) hS hA hr (fun r H1 locs1 h0 h1 h2 h3 => kk r H1 locs1 h0 (va_P_perm e2.symm h1) (va_D_perm e2.symm h2) h3)
end LIBP
section LIBU
variable {p : Program} {l : Launch} {e : Env} {R : Room} {s : State} {m : MethodId} {args : Array Value} {below : List Frame} {meth : Method} {c : Code} {H : Heap} {locs : List Loc} {cells slots : Nat} {Q : State → Prop}
variable {pc : Nat} {ls : Array Slot} {rest st0 : List Value} {a : Array Value} {A0 : Nat → Prop} {H0 : Heap} {mc ms : Nat} {dg : va_G} {M : va_W}
theorem fr_F1 {A0 : Nat → Prop} {M : va_W} {H0 H : Heap} {locs : List Loc} (hD : va_D A0 M) (hS : va_S A0 H0 H locs) (hA : ∀ q, H0.size ≤ q → A0 q) : ∀ q, va_A M H.size q → A0 q := fun q h => by
  rcases h with ⟨k, e, h⟩ | h
  · exact hD.2 k (q, e) h
  · exact hA q (Nat.le_trans hS.1 h)
theorem x_callvU {S : Type} {post : S → Prop} {Mf : S → va_W} (hP : va_P dg vwCl M H) (hD : va_D A0 M) (hS : va_S A0 H0 H locs) (hA : ∀ q, H0.size ≤ q → A0 q)
    (hr : va_Run p l e R s m args below meth c H locs cells slots mc ms (F0 m pc ls st0) rest (va_Qv post (fun u t => wrQ dg H.size M (Mf u) t) (va_A M H.size) a) (va_A M H.size))
    (kk : ∀ (u : S) (H1 : Heap) (locs1 : List Loc), post u → va_P dg vwCl (Mf u) H1 → va_D A0 (Mf u) → va_S A0 H0 H1 locs1 → W p l e R s m args below meth c H1 locs1 (cells + mc) (slots + ms) Q (F0 m (pc + 3) ls rest)) : W p l e R s m args below meth c H locs cells slots Q (F0 m pc ls st0) := by
  have hF := fr_F1 hD hS hA
  refine va_callv hr hS (fun q _ h => hF q h) hF (fun u t H1 locs1 ht hvm hw hB hz1 hk1 hS1 => ?_)
  obtain ⟨hP1, hD1⟩ := hB
  rw [ht] at hP1
  exact kk u H1 locs1 hw hP1 (hD1.weaken (fun k q _ h => hF q.1 h)) hS1
theorem x_calliU {S : Type} {post : Int32 → S → Prop} {Mf : S → va_W} (hP : va_P dg vwCl M H) (hD : va_D A0 M) (hS : va_S A0 H0 H locs) (hA : ∀ q, H0.size ≤ q → A0 q)
    (hr : va_Run p l e R s m args below meth c H locs cells slots mc ms (F0 m pc ls st0) rest (va_Qi post (fun u t => wrQ dg H.size M (Mf u) t) (va_A M H.size) a) (va_A M H.size))
    (kk : ∀ (r : Int32) (u : S) (H1 : Heap) (locs1 : List Loc), post r u → va_P dg vwCl (Mf u) H1 → va_D A0 (Mf u) → va_S A0 H0 H1 locs1 → W p l e R s m args below meth c H1 locs1 (cells + mc) (slots + ms) Q (F0 m (pc + 3) ls (.int r :: rest))) : W p l e R s m args below meth c H locs cells slots Q (F0 m pc ls st0) := by
  have hF := fr_F1 hD hS hA
  refine va_calli hr hS (fun q _ h => hF q h) hF (fun r u t H1 locs1 ht hvm hw hB hz1 hk1 hS1 => ?_)
  obtain ⟨hP1, hD1⟩ := hB
  rw [ht] at hP1
  exact kk r u H1 locs1 hw hP1 (hD1.weaken (fun k q _ h => hF q.1 h)) hS1
end LIBU
