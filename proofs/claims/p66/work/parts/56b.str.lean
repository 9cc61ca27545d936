/-! texts made while the law runs -/
/-- a builder's object: its bytes at a, n of them used; a row of bytes; a text's object -/
abbrev sbO (q a : Nat) (n ml : Int) : va_W := [(q, .inr (1, [.ref a, .int (zI 0), .int (zI ml), .int (zI n)]))]
abbrev bR (ck : Nat → ClassId) (a N : Nat) (Y : Int → Int) : va_W := [(a, .inl (ck 3, N, .inl (zz Y)))]
abbrev stO (q a : Nat) : va_W := [(q, .inr (0, [.ref a, .int (zI 0), .int (zI 0), .int (zI 0)]))]
/-- letters -/
abbrev LY (N : Nat) (Y : Int → Int) : Prop := ∀ z : Int, 0 ≤ z → z < N → 0 ≤ Y z ∧ Y z ≤ 126
def cpZ (F Y : Int → Int) (dp n : Int) : Int → Int := fun z => if dp ≤ z ∧ z < dp + n then F (z - dp) else Y z
theorem LY.cp {N M : Nat} {F Y : Int → Int} {dp n : Int} (h : LY N Y) (hF : LY M F) (hd : 0 ≤ dp) (hn : n ≤ M) : LY N (cpZ F Y dp n) := by
  intro z h0 h1
  unfold cpZ
  split
  · exact hF _ (by omega) (by omega)
  · exact h z h0 h1
theorem fit_b {v : Int} (h : 0 ≤ v ∧ v ≤ 126) : fits .byte (.int (zI v)) = true := by
  have key : ∀ n : Fin 128, fits .byte (.int (zI (n.val : Int))) = true := by decide +kernel
  have h9 := key ⟨v.toNat, by omega⟩
  rw [show ((⟨v.toNat, by omega⟩ : Fin 128).val : Int) = v by show ((v.toNat : Nat) : Int) = v; omega] at h9
  exact h9
theorem zz_cp {F Y : Int → Int} {dp n : Int} (hd : 0 ≤ dp) (hn : 0 ≤ n) (j : Nat) : va_cpy (zz F) (zz Y) 0 dp.toNat n.toNat j = zz (cpZ F Y dp n) j := by
  unfold va_cpy zz cpZ
  by_cases c : dp.toNat ≤ j ∧ j < dp.toNat + n.toNat
  · rw [if_pos c, if_pos (by omega), show ((0 + (j - dp.toNat) : Nat) : Int) = (j : Int) - dp by omega]
  · rw [if_neg c, if_neg (by omega)]
theorem chZ_126 (i : Nat) (z : Int) : 0 ≤ chZ i z ∧ chZ i z ≤ 126 := by
  have key : ∀ i : Fin 27, ∀ j : Fin 10, 0 ≤ ((sbt.getD i.val []).getD j.val 0).toInt ∧ ((sbt.getD i.val []).getD j.val 0).toInt ≤ 126 := by decide +kernel
  have kl : ∀ i : Fin 27, (sbt.getD i.val []).length ≤ 10 := by decide +kernel
  unfold chZ
  by_cases hi : i < 27
  · by_cases hj : z.toNat < 10
    · exact key ⟨i, hi⟩ ⟨z.toNat, hj⟩
    · have h := kl ⟨i, hi⟩
      have e : (sbt.getD i []).getD z.toNat 0 = 0 := by
        rw [List.getD_eq_getElem?_getD, List.getElem?_eq_none (by have h2 : (sbt.getD i []).length ≤ 10 := h; omega)]
        rfl
      rw [e]
      decide
  · have e : sbt.getD i [] = [] := by
      rw [List.getD_eq_getElem?_getD, List.getElem?_eq_none (by show 27 ≤ i; omega)]
      rfl
    rw [e, show ([] : List Int32).getD z.toNat 0 = 0 from rfl]
    decide
theorem LY.chz (w : Nat) : LY (sln.getD w 0) (chZ w) := fun z _ _ => chZ_126 w z
theorem LY.zero (N : Nat) : LY N (fun _ => 0) := fun _ _ _ => ⟨Int.le_refl 0, show (0 : Int) ≤ 126 by decide⟩
theorem gwO {own C owner : String} {ix : Nat} {x y : MethodName} {cc : ByteArray} {n : Nat} {r : Option FieldType} (h1 : Cond.methodLink own ix x ∈ GW) (h2 : Cond.sameMethod x.cls owner x.name x.desc ∈ GW) (h3 : Cond.instanceMethod ⟨owner, x.name, x.desc⟩ ∈ GW) (h4 : Cond.selects C x y ∈ GW) (h6 : Cond.instanceMethod y ∈ GW) (h7 : Cond.initialized y.cls ∈ GW) (h5 : Cond.code y cc n r ∈ GW) : GoodIn GW (va_wsO own ix C owner x y (.code y cc n r :: GW)) := by
  intro w hw
  rcases List.mem_append.mp hw with h | h
  · simp only [List.mem_cons, List.not_mem_nil, or_false] at h
    rcases h with e | e | e | e | e | e <;> rw [e]
    · exact ⟨h1, good_of_word (gw_good h1)⟩
    · exact ⟨h2, good_of_word (gw_good h2)⟩
    · exact ⟨h3, good_of_word (gw_good h3)⟩
    · exact ⟨h4, good_of_word (gw_good h4)⟩
    · exact ⟨h6, good_of_word (gw_good h6)⟩
    · exact ⟨h7, good_of_word (gw_good h7)⟩
  · exact gwG h5 w h
section JSX
variable {p : Program} {l : Launch} {e : Env} {R : Room} {s : State} {m : MethodId} {args : Array Value} {below : List Frame} {meth : Method} {c : Code} {H : Heap} {locs : List Loc} {cells slots : Nat} {Q : State → Prop}
variable {cc : ByteArray} {pc : Nat} {ls : Array Slot} {rest st0 : List Value} {ar9 : Array Value} {A0 A : Nat → Prop} {H0 : Heap} {mc ms : Nat} {dg : va_G} {ws ws' M N : va_W} {D : va_G} {cl : List vw_C} {a : Nat} {tys : List (ClassId × FieldType)}
theorem x_callrUB {U : Type} {post : U → Prop} {fr : U → Nat} {Mf wf : U → va_W} (e1 : ws.Perm (M ++ N)) (e2 : ∀ u, (wf u).Perm (Mf u ++ N)) (hP : va_P dg vwCl ws H) (hD : va_D A0 ws) (hS : va_S A0 H0 H locs) (hA : ∀ q, H0.size ≤ q → A0 q)
    (hr : va_P dg vwCl M H → va_D A0 M → va_Run p l e R s m args below meth c H locs cells slots mc ms (F0 m pc ls st0) rest (va_Qr post (fun u ra t => ra = fr u ∧ wrQ dg H.size M (Mf u) t) (va_A M H.size) ar9) (va_A M H.size))
    (kk : ∀ (u : U) (H1 : Heap) (locs1 : List Loc), post u → va_P dg vwCl (wf u) H1 → va_D A0 (wf u) → va_S A0 H0 H1 locs1 → W p l e R s m args below meth c H1 locs1 (cells + mc) (slots + ms) Q (F0 m (pc + 3) ls (.ref (fr u) :: rest))) : W p l e R s m args below meth c H locs cells slots Q (F0 m pc ls st0) := by
  have hP' : va_P dg vwCl ([] ++ (M ++ N)) H := va_P_perm e1 hP
  have hD' : va_D A0 ([] ++ (M ++ N)) := va_D_perm e1 hD
  have hF := fr_F (dg := dg) (L := []) (M := M) (N := N) hD' hS hA
  refine va_callr (hr (va_P_l hP') (va_D_l hD')) hS (fun q _ h => hF q h) hF (fun u ra t H1 locs1 ht hvm hw hB hz1 hk1 hS1 => ?_)
  obtain ⟨rfl, hP1, hD1⟩ := hB
  rw [ht] at hP1
  obtain ⟨g1, g2⟩ := fr_mid hP' hD' hk1 hF hP1 hD1
  exact kk u H1 locs1 hw (va_P_perm (e2 u).symm g1) (va_D_perm (e2 u).symm g2) hS1
/-- bytes copied between two rows of the world -/
theorem x_cpW {own : String} {index : Nat} (hexec : p.tables.exec = Jvm.exec) (hb : c.code = cc) (hml : c.maxLocals = ls.size) (hown : s.vm.findClass own = some m.cls) (hlink : (Cond.methodLink own index arraycopyName).before args s = true) (hnat : (Cond.native arraycopyName).before args s = true) (hstat : (Cond.static arraycopyName).before args s = true) (hini : (Cond.initialized "java/lang/System").before args s = true)
    (hK : va_K D cl tys s) (hP : va_P D cl ws H) (hD : va_D A ws) (hS : va_S A H0 H locs) (q0 q1 t0 : Nat) {a0 : Nat} {c0 : ClassId} {n0 n1 : Nat} {F Y : Int → Int} (ha0 : ws[q0]? = some (a0, .inl (c0, n0, .inl (zz F)))) (ha1 : ws[q1]? = some (a, .inl (c0, n1, .inl (zz Y)))) (ht0 : tys[t0]? = some (c0, .byte)) (hF : LY n0 F)
    {dp n : Int} (h2 : 0 ≤ dp) (h3 : 0 ≤ n) (h4 : n ≤ n0) (h5 : dp + n ≤ n1) (hn1 : (n1 : Int) < 2147483648) (hw : ws.set q1 (a, .inl (c0, n1, .inl (zz (cpZ F Y dp n)))) = ws')
    (hframes : 1 ≤ R.frames) (hlocals : (rest.map fun v => v.category).sum + (nativeFrameWords "java/lang/System" "arraycopy" 5 + 11) ≤ R.locals) (hdg : decode cc pc = .ok (.invokestatic index, 3))
    (kk : ∀ (H1 : Heap) (locs1 : List Loc), va_P D cl ws' H1 → va_D A ws' → va_S A H0 H1 locs1 → W p l e R s m args below meth c H1 locs1 cells slots Q (F0 m (pc + 3) ls rest)) : W p l e R s m args below meth c H locs cells slots Q (F0 m pc ls (.int (zI n) :: .int (zI dp) :: .ref a :: .int (zI 0) :: .ref a0 :: rest)) := by
  have k0 : (zI 0).toNatClampNeg = 0 := zI_clamp (by omega)
  have kd : (zI dp).toNatClampNeg = dp.toNat := zI_clamp (by omega)
  have kn : (zI n).toNatClampNeg = n.toNat := zI_clamp (by omega)
  have ng : ∀ z : Int, 0 ≤ z → z < 2147483648 → ¬ zI z < 0 := fun z g1 g2 g3 => by
    have g4 := (zI_lt (a := z) (b := 0) (by omega) (by omega)).mp g3
    omega
  refine va_copyi hexec hb hml hown hlink hnat hstat hini hK hP hD hS q0 q1 t0 t0 ha0 ha1 ht0 ht0 rfl (ng 0 (by omega) (by omega)) (ng dp h2 (by omega)) (ng n h3 (by omega)) (by rw [k0, kn]; omega) (by rw [kd, kn]; omega) (fun i hi => ?_) hframes hlocals hdg (fun H1 locs1 hP1 hD1 hS1 => ?_)
  · rw [kn] at hi
    rw [k0]
    have h9 := hF ((0 + i : Nat) : Int) (by omega) (by omega)
    exact fit_b h9
  · rw [k0, kd, kn] at hP1 hD1
    subst hw
    exact kk H1 locs1 (va_P_cell (fun j _ => zz_cp h2 h3 j) hP1) (va_D_cell hD1) hS1
/-- bytes copied out of a row that stands (the proof follows va_copyx's) -/
theorem x_cpT {own : String} {index : Nat} (hexec : p.tables.exec = Jvm.exec) (hb : c.code = cc) (hml : c.maxLocals = ls.size) (hown : s.vm.findClass own = some m.cls) (hlink : (Cond.methodLink own index arraycopyName).before args s = true) (hnat : (Cond.native arraycopyName).before args s = true) (hstat : (Cond.static arraycopyName).before args s = true) (hini : (Cond.initialized "java/lang/System").before args s = true)
    (hK : va_K D cl tys s) (hP : va_P D cl ws H) (hD : va_D A ws) (hS : va_S A s.heap H locs) {b0 n0 : Nat} {f : Nat → Int32} {F Y : Int → Int} (hT : va_T .byte b0 n0 (fun j => .int (f j)) A s s.heap) (hf : ∀ j : Nat, j < n0 → f j = zI (F j)) (hF : LY n0 F) (q1 t1 : Nat) {c1 : ClassId} {n1 : Nat} (ha1 : ws[q1]? = some (a, .inl (c1, n1, .inl (zz Y)))) (ht1 : tys[t1]? = some (c1, .byte))
    {dp n : Int} (h2 : 0 ≤ dp) (h3 : 0 ≤ n) (h4 : n ≤ n0) (h5 : dp + n ≤ n1) (hn1 : (n1 : Int) < 2147483648) (hw : ws.set q1 (a, .inl (c1, n1, .inl (zz (cpZ F Y dp n)))) = ws')
    (hframes : 1 ≤ R.frames) (hlocals : (rest.map fun v => v.category).sum + (nativeFrameWords "java/lang/System" "arraycopy" 5 + 11) ≤ R.locals) (hdg : decode cc pc = .ok (.invokestatic index, 3))
    (kk : ∀ (H1 : Heap) (locs1 : List Loc), va_P D cl ws' H1 → va_D A ws' → va_S A s.heap H1 locs1 → W p l e R s m args below meth c H1 locs1 cells slots Q (F0 m (pc + 3) ls rest)) : W p l e R s m args below meth c H locs cells slots Q (F0 m pc ls (.int (zI n) :: .int (zI dp) :: .ref a :: .int (zI 0) :: .ref b0 :: rest)) := by
  have k0 : (zI 0).toNatClampNeg = 0 := zI_clamp (by omega)
  have kd : (zI dp).toNatClampNeg = dp.toNat := zI_clamp (by omega)
  have kn : (zI n).toNatClampNeg = n.toNat := zI_clamp (by omega)
  have i0 : (zI 0).toInt = 0 := zI_toInt (by omega)
  have id : (zI dp).toInt = dp := zI_toInt (by omega)
  have ni : (zI n).toInt = n := zI_toInt (by omega)
  have ng : ∀ z : Int, 0 ≤ z → z < 2147483648 → ¬ zI z < 0 := fun z g1 g2 g3 => by
    have g4 := (zI_lt (a := z) (b := 0) (by omega) (by omega)).mp g3
    omega
  intro T hTH X
  obtain ⟨scr, hs1, hs2, hs3, hs4, -, hs5, hbA⟩ := hT
  have hbl : b0 < s.heap.size := (Array.getElem?_eq_some_iff.mp hs1).1
  have hc0 : H[b0]? = some scr := by rw [hS.2.1 b0 hbl hbA]; exact hs1
  have hc1 : H[a]? = some (vp_cell c1 (n1, .inl (zz Y))) := hP q1 _ ha1
  obtain ⟨hs6, z0, hk0, cm0, hkk0⟩ := hs2
  obtain ⟨-, z1, hk1, cm1, hkk1⟩ := (hK.2 t1 _ ht1).1 n1 (fun j => .int (zz Y j))
  have hscr : ∀ i : Nat, i < n.toNat → scr.slots.getD ((zI 0).toNatClampNeg + i) .null = .int (zI (F i)) := fun i hi => by
    rw [k0, Nat.zero_add, Array.getD_eq_getD_getElem?, hs5 _ (by omega)]
    show Value.int (f i) = _
    rw [hf i (by omega)]
  obtain ⟨vm', X', step⟩ := X.arraycopy hexec hown hlink hnat hstat hini (src := b0) (dst := a) (cs := scr) (cd := vp_cell c1 (n1, .inl (zz Y))) (srcPos := zI 0) (destPos := zI dp) (n := zI n) (by rw [hTH]; exact hc0) (by rw [hTH]; exact hc1)
    hs6 (fun _ h => by cases h) hs3 (fun h => by cases h) hk0 hk1 hkk0 hkk1 (by simp [refKind]) (ng 0 (by omega) (by omega)) (ng dp h2 (by omega)) (ng n h3 (by omega))
    (by rw [i0, ni]; omega)
    (by rw [id, ni]; show ¬ _ > ((arrV c1 n1 (fun j => .int (zz Y j))).slots.size : Int); rw [arrV_size]; omega)
    (fun vm₁ _ i hi => by
      rw [kn] at hi
      have h9 := hF (i : Int) (by omega) (by omega)
      refine ⟨?_, ?_⟩
      · rw [hscr i hi]
        exact fit_b h9
      · rw [hscr i hi]
        exact trivial)
    (g := F0 m pc ls (.int (zI n) :: .int (zI dp) :: .ref a :: .int (zI 0) :: .ref b0 :: rest)) rfl (by rw [hml]) (rest := rest) rfl (by rw [hb]; exact hdg) hframes (by show 2 * 0 + _ + _ ≤ _; omega)
  have e1 : copied scr (vp_cell c1 (n1, .inl (zz Y))) (zI 0) (zI dp) (zI n) = vp_cell c1 (n1, .inl (zz (cpZ F Y dp n))) := by
    have e2 : copied scr (vp_cell c1 (n1, .inl (zz Y))) (zI 0) (zI dp) (zI n) = vp_cell c1 (n1, .inl (va_cpy f (zz Y) (zI 0).toNatClampNeg (zI dp).toNatClampNeg (zI n).toNatClampNeg)) := va_copiedX (fun z => .int z) scr c1 f (zz Y) hs5 (by rw [k0, kn]; omega)
    rw [e2, k0, kd, kn]
    refine congrArg (fun g => vp_cell c1 (n1, .inl g)) (funext fun j => ?_)
    rw [← zz_cp h2 h3 j]
    unfold va_cpy zz
    by_cases c9 : dp.toNat ≤ j ∧ j < dp.toNat + n.toNat
    · rw [if_pos c9, if_pos c9]
      exact hf _ (by omega)
    · rw [if_neg c9, if_neg c9]
  rw [e1] at X' step
  have hl : a < H.size := (Array.getElem?_eq_some_iff.mp hc1).1
  have hheap : ((T.setVm vm').setCell a (vp_cell c1 (n1, .inl (zz (cpZ F Y dp n))))).heap = H.setIfInBounds a (vp_cell c1 (n1, .inl (zz (cpZ F Y dp n)))) := by rw [← hTH]; rfl
  have oq : ∀ q : Nat, q ≠ a → (H.setIfInBounds a (vp_cell c1 (n1, .inl (zz (cpZ F Y dp n)))))[q]? = H[q]? := fun q hq => by simp [Array.getElem?_setIfInBounds, Ne.symm hq]
  subst hw
  obtain ⟨t, a1, b1⟩ := kk _ _ (hP.set hD ha1 (show (H.setIfInBounds a _)[a]? = some _ by simp [Array.getElem?_setIfInBounds, hl]) oq) (hD.set ha1) ⟨by simp; exact hS.1, fun q g1 g2 => by
      rw [oq q (fun e => g2 (by rw [e]; exact hD.2 q1 _ ha1))]
      exact hS.2.1 q g1 g2, fun q hq => by
      rcases List.mem_append.mp hq with h | h
      · exact hS.2.2 q h
      · obtain ⟨z, -, hz⟩ := List.mem_map.mp h
        rw [← hz]
        exact hD.2 q1 _ ha1⟩ _ hheap X'
  exact ⟨t, step t a1, b1⟩
theorem x_ishl0 (hexec : p.tables.exec = Jvm.exec) (hb : c.code = cc) {x : Int} (hdg : decode cc pc = .ok (.ishl, 1)) (k : W p l e R s m args below meth c H locs cells slots Q (F0 m (pc + 1) ls (.int (zI x) :: rest))) : W p l e R s m args below meth c H locs cells slots Q (F0 m pc ls (.int (zI 0) :: .int (zI x) :: rest)) :=
  lv_ishl hexec hb hdg (by rw [show zI x <<< (zI 0 &&& 31) = zI x from Int32.shiftLeft_zero]; exact k)
end JSX

set_option maxHeartbeats 4000000 in
set_option maxRecDepth 100000 in
/-- java/lang/AbstractStringBuilder.inflateIfNeededFor -/
theorem j_infK (l : Launch) (dg : va_G) (ck : Nat → ClassId) (ka : Nat → Nat) (o a : Nat) (n ml : Int) (w : Nat) (sz : Nat) (hw : okS w) : Met l yJ5_inflateIfNeededFor_a7421 (.code yJ5_inflateIfNeededFor_a7421 cJ5_inflateIfNeededFor_a7421 2 none :: GW) ({ frames := 1, cells := 0, slots := 0, locals := 20 }) (va_Pc [.ref o, .ref (ka (20 + w))] (wrK dg ck ka sz (sbO o a n ml))) (va_Qv (fun _ : Unit => True) (fun _ t9 => wrQ dg sz (sbO o a n ml) (sbO o a n ml) t9) (va_A (sbO o a n ml) sz)) 0 0 (va_A (sbO o a n ml) sz) := by
  refine Met.ofW (cc := cJ5_inflateIfNeededFor_a7421) (maxL := 2) (ret := none) (by decide) rfl ?_
  intro p e s m args below meth c s₁ B hml hv
  obtain ⟨rfl, ⟨hsz, hP, hK, hD0⟩, hC⟩ := hv
  have hx := B.exec
  have hb := B.bytes
  have hr := B.returns
  have hts := atoms_spec (ws := .code yJ5_inflateIfNeededFor_a7421 cJ5_inflateIfNeededFor_a7421 2 none :: GW) B.pre
  have htg : ∀ w ∈ GW, w.before _ s = true := fun w h => hts w (List.mem_cons_of_mem _ h)
  have hown : s.vm.findClass RJ5 = some m.cls := findClass_of_methodNamed B.named
  have hlocks := B.notSynchronized
  subst hsz
  have hD := hD0.self (sz := s.heap.size)
  generalize hAe : va_A (sbO o a n ml) s.heap.size = A at hD hC ⊢
  have hA : ∀ q : Nat, s.heap.size ≤ q → A q := fun q h => by rw [← hAe]; exact Or.inr h
  have hS : va_S A s.heap s.heap [] := va_S.rf
  have hP : va_P dg vwCl (sbO o a n ml) s.heap := hP
  have hl := lv_entry ([.ref o, .ref (ka (20 + w))]) (n := 2) (Nat.le_of_ble_eq_true rfl)
  rw [lg_entry_eq]
  generalize (lg_sl ([.ref o, .ref (ka (20 + w))]) ++ List.replicate (2 - (lg_sl ([.ref o, .ref (ka (20 + w))])).length) Slot.unset).toArray = ls at hl ⊢
  have hl : lv_has ls 2 [(0, .ref o), (1, .ref (ka (20 + w)))] := hl
  refine va_gets (v := .int (zI 1)) hx hb hC.cmp hS hown (htg _ wq_255) (fun _ h9 => h9) dJ5_inflateIfNeededFor_a7421_0 ?_
  refine x_if_eq (tgt := 21) hx hb dJ5_inflateIfNeededFor_a7421_3 (by decide) (by omega) (fun c3 => absurd c3 (by decide)) (fun c3 => ?_)
  refine lv_aload_n hx hb dJ5_inflateIfNeededFor_a7421_6 rfl (lv_at hl 0 rfl) ?_
  refine va_get (D := dg) (ci := 1) (v := .int (zI 0)) (C := RJ4) (T := TJ4) (N := 4) hx hb htg inG_J4 hown hK hP 0 rfl rfl 1 (Nat.le_of_ble_eq_true rfl) (htg _ wq_265) (fun _ h9 => h9) rfl dJ5_inflateIfNeededFor_a7421_7 ?_
  refine lv_aload_n hx hb dJ5_inflateIfNeededFor_a7421_10 rfl (lv_at hl 1 rfl) ?_
  refine vp_callSi (W.runV (As := []) (rest := [.int (zI 0)]) ⟨hx, hb, hml, hown, htg⟩ (j_coder l dg ck ka w hw) (cwV 0 htg (gwV wq_942 wq_930 wq_931 wq_13 wq_932) rfl rfl rfl (by decide +kernel) ⟨Nat.le_of_ble_eq_true rfl, Nat.le_of_ble_eq_true rfl⟩) (rdK_preR (C := "java/lang/String") hK va_P_nil hC hS (hC.srecv hw hS)) rfl rfl hl.1 rfl (lv_room (Nat.le_of_ble_eq_true rfl)) dJ5_inflateIfNeededFor_a7421_11 ⟨Nat.le_of_ble_eq_true rfl, Nat.le_of_ble_eq_true rfl⟩) (fun r11 hr11 => ?_)
  subst hr11
  refine x_icmp_eq (tgt := 21) hx hb dJ5_inflateIfNeededFor_a7421_14 (by decide) (by omega) (by omega) (fun c14 => ?_) (fun c14 => absurd c14 (by decide))
  have hEq : sbO o a n ml = sbO o a n ml := rfl
  exact W.widen (k := 0) (n := 0) (by first | exact Nat.le_of_ble_eq_true rfl | omega) (by first | exact Nat.le_of_ble_eq_true rfl | omega) (W.vret hx hb hr (fun t9 ht9 hW9 => ⟨⟨(), rfl, trivial, by rw [ht9]; show va_P dg vwCl (sbO o a n ml) _; rw [hEq]; exact hP, by rw [hAe]; show va_D A (sbO o a n ml); rw [hEq]; exact hD⟩, hS.F ht9⟩) hS.2.2 dJ5_inflateIfNeededFor_a7421_21)

set_option maxHeartbeats 4000000 in
set_option maxRecDepth 100000 in
/-- java/lang/String.getBytes -/
theorem j_gbK (l : Launch) (dg : va_G) (ck : Nat → ClassId) (ka : Nat → Nat) (a : Nat) (n : Int) (Y : Int → Int) (w : Nat) (sz : Nat) (hw : okS w) (hn : 0 ≤ n ∧ n + lnZ w ≤ 16) : Met l yJ0_getBytes_840e7 (.code yJ0_getBytes_840e7 cJ0_getBytes_840e7 4 none :: GW) ({ frames := 1, cells := 0, slots := 0, locals := 26 }) (va_Pc [.ref (ka (20 + w)), .ref a, .int (zI n), .int (zI 0)] (wrK dg ck ka sz (bR ck a 16 Y))) (va_Qv (fun _ : Unit => True) (fun _ t9 => wrQ dg sz (bR ck a 16 Y) (bR ck a 16 (cpZ (chZ w) Y n (lnZ w))) t9) (va_A (bR ck a 16 Y) sz)) 0 0 (va_A (bR ck a 16 Y) sz) := by
  refine Met.ofW (cc := cJ0_getBytes_840e7) (maxL := 4) (ret := none) (by decide) rfl ?_
  intro p e s m args below meth c s₁ B hml hv
  obtain ⟨rfl, ⟨hsz, hP, hK, hD0⟩, hC⟩ := hv
  have hx := B.exec
  have hb := B.bytes
  have hr := B.returns
  have hts := atoms_spec (ws := .code yJ0_getBytes_840e7 cJ0_getBytes_840e7 4 none :: GW) B.pre
  have htg : ∀ w ∈ GW, w.before _ s = true := fun w h => hts w (List.mem_cons_of_mem _ h)
  have hown : s.vm.findClass RJ0 = some m.cls := findClass_of_methodNamed B.named
  have hlocks := B.notSynchronized
  subst hsz
  have hD := hD0.self (sz := s.heap.size)
  generalize hAe : va_A (bR ck a 16 Y) s.heap.size = A at hD hC ⊢
  have hA : ∀ q : Nat, s.heap.size ≤ q → A q := fun q h => by rw [← hAe]; exact Or.inr h
  have hS : va_S A s.heap s.heap [] := va_S.rf
  have hP : va_P dg vwCl (bR ck a 16 Y) s.heap := hP
  have hl := lv_entry ([.ref (ka (20 + w)), .ref a, .int (zI n), .int (zI 0)]) (n := 4) (Nat.le_of_ble_eq_true rfl)
  rw [lg_entry_eq]
  generalize (lg_sl ([.ref (ka (20 + w)), .ref a, .int (zI n), .int (zI 0)]) ++ List.replicate (4 - (lg_sl ([.ref (ka (20 + w)), .ref a, .int (zI n), .int (zI 0)])).length) Slot.unset).toArray = ls at hl ⊢
  have hl : lv_has ls 4 [(0, .ref (ka (20 + w))), (1, .ref a), (2, .int (zI n)), (3, .int (zI 0))] := hl
  have hlz : lnZ w = ((sln.getD w 0 : Nat) : Int) := rfl
  have hlr := lnZ_r w
  refine lv_aload_n hx hb dJ0_getBytes_840e7_0 rfl (lv_at hl 0 rfl) ?_
  refine vp_callSi (W.runV (As := []) (rest := []) ⟨hx, hb, hml, hown, htg⟩ (j_coder l dg ck ka w hw) (cwV 0 htg (gwV wq_929 wq_930 wq_931 wq_13 wq_932) rfl rfl rfl (by decide +kernel) ⟨Nat.le_of_ble_eq_true rfl, Nat.le_of_ble_eq_true rfl⟩) (rdK_preR (C := "java/lang/String") hK va_P_nil hC hS (hC.srecv hw hS)) rfl rfl hl.1 rfl (lv_room (Nat.le_of_ble_eq_true rfl)) dJ0_getBytes_840e7_1 ⟨Nat.le_of_ble_eq_true rfl, Nat.le_of_ble_eq_true rfl⟩) (fun r1 hr1 => ?_)
  subst hr1
  refine lv_iload_n hx hb dJ0_getBytes_840e7_4 rfl (lv_at hl 3 rfl) ?_
  refine x_icmp_ne (tgt := 28) hx hb dJ0_getBytes_840e7_5 (by decide) (by omega) (by omega) (fun c5 => absurd c5 (by decide)) (fun c5 => ?_)
  refine lv_aload_n hx hb dJ0_getBytes_840e7_8 rfl (lv_at hl 0 rfl) ?_
  refine vk_getf (v := .ref (ka (50 + w))) hx hb (hC.sval hw) hS hown (htg _ wq_1055) (fun _ h9 => h9) dJ0_getBytes_840e7_9 ?_
  refine x_iconst hx hb dJ0_getBytes_840e7_12 ?_
  refine lv_aload_n hx hb dJ0_getBytes_840e7_13 rfl (lv_at hl 1 rfl) ?_
  refine lv_iload_n hx hb dJ0_getBytes_840e7_14 rfl (lv_at hl 2 rfl) ?_
  refine lv_iload_n hx hb dJ0_getBytes_840e7_15 rfl (lv_at hl 3 rfl) ?_
  refine x_ishl0 hx hb dJ0_getBytes_840e7_16 ?_
  refine lv_aload_n hx hb dJ0_getBytes_840e7_17 rfl (lv_at hl 0 rfl) ?_
  refine vk_getf (v := .ref (ka (50 + w))) hx hb (hC.sval hw) hS hown (htg _ wq_1055) (fun _ h9 => h9) dJ0_getBytes_840e7_18 ?_
  refine x_tlen hx hb (hC.sbyt hw) hS dJ0_getBytes_840e7_21 ?_
  refine x_is (show ((sln.getD w 0 : Nat) : Int) = lnZ w from rfl) ?_
  refine x_cpT (n := (lnZ w)) (dp := n) (F := (chZ w)) (Y := Y) (ws' := bR ck a 16 (cpZ (chZ w) Y n (lnZ w))) hx hb (hml.trans hl.1.symm) hown (htg _ wq_966) (htg _ wq_607) (htg _ wq_606) (htg _ wq_24) hK hP hD hS (hC.sbyt hw) (fun j hj => zI_of _) (LY.chz w) 0 3 rfl rfl (by omega) (by omega) (by omega) (by omega) (by omega) rfl (Nat.le_of_ble_eq_true rfl) (Nat.le_of_ble_eq_true rfl) dJ0_getBytes_840e7_22 (fun H locs hP hD hS => ?_)
  refine lv_goto (tgt := 43) hx hb dJ0_getBytes_840e7_25 (by decide) ?_
  have hEq : bR ck a 16 (cpZ (chZ w) Y n (lnZ w)) = bR ck a 16 (cpZ (chZ w) Y n (lnZ w)) := rfl
  exact W.widen (k := 0) (n := 0) (by first | exact Nat.le_of_ble_eq_true rfl | omega) (by first | exact Nat.le_of_ble_eq_true rfl | omega) (W.vret hx hb hr (fun t9 ht9 hW9 => ⟨⟨(), rfl, trivial, by rw [ht9]; show va_P dg vwCl (bR ck a 16 (cpZ (chZ w) Y n (lnZ w))) _; rw [hEq]; exact hP, by rw [hAe]; show va_D A (bR ck a 16 (cpZ (chZ w) Y n (lnZ w))); rw [hEq]; exact hD⟩, hS.F ht9⟩) hS.2.2 dJ0_getBytes_840e7_43)

set_option maxHeartbeats 4000000 in
set_option maxRecDepth 100000 in
/-- java/lang/AbstractStringBuilder.putStringAt -/
theorem j_psK (l : Launch) (dg : va_G) (ck : Nat → ClassId) (ka : Nat → Nat) (o a : Nat) (n ml : Int) (Y : Int → Int) (k : Int) (w : Nat) (sz : Nat) (hw : okS w) (hn : 0 ≤ k ∧ k + lnZ w ≤ 16) : Met l yJ5_putStringAt_47b60 (.code yJ5_putStringAt_47b60 cJ5_putStringAt_47b60 3 none :: GW) ({ frames := 2, cells := 0, slots := 0, locals := 49 }) (va_Pc [.ref o, .int (zI k), .ref (ka (20 + w))] (wrK dg ck ka sz (sbO o a n ml ++ (bR ck a 16 Y)))) (va_Qv (fun _ : Unit => True) (fun _ t9 => wrQ dg sz (sbO o a n ml ++ (bR ck a 16 Y)) (sbO o a n ml ++ (bR ck a 16 (cpZ (chZ w) Y k (lnZ w)))) t9) (va_A (sbO o a n ml ++ (bR ck a 16 Y)) sz)) 0 0 (va_A (sbO o a n ml ++ (bR ck a 16 Y)) sz) := by
  refine Met.ofW (cc := cJ5_putStringAt_47b60) (maxL := 3) (ret := none) (by decide) rfl ?_
  intro p e s m args below meth c s₁ B hml hv
  obtain ⟨rfl, ⟨hsz, hP, hK, hD0⟩, hC⟩ := hv
  have hx := B.exec
  have hb := B.bytes
  have hr := B.returns
  have hts := atoms_spec (ws := .code yJ5_putStringAt_47b60 cJ5_putStringAt_47b60 3 none :: GW) B.pre
  have htg : ∀ w ∈ GW, w.before _ s = true := fun w h => hts w (List.mem_cons_of_mem _ h)
  have hown : s.vm.findClass RJ5 = some m.cls := findClass_of_methodNamed B.named
  have hlocks := B.notSynchronized
  subst hsz
  have hD := hD0.self (sz := s.heap.size)
  generalize hAe : va_A (sbO o a n ml ++ (bR ck a 16 Y)) s.heap.size = A at hD hC ⊢
  have hA : ∀ q : Nat, s.heap.size ≤ q → A q := fun q h => by rw [← hAe]; exact Or.inr h
  have hS : va_S A s.heap s.heap [] := va_S.rf
  have hP : va_P dg vwCl (sbO o a n ml ++ (bR ck a 16 Y)) s.heap := hP
  have hl := lv_entry ([.ref o, .int (zI k), .ref (ka (20 + w))]) (n := 3) (Nat.le_of_ble_eq_true rfl)
  rw [lg_entry_eq]
  generalize (lg_sl ([.ref o, .int (zI k), .ref (ka (20 + w))]) ++ List.replicate (3 - (lg_sl ([.ref o, .int (zI k), .ref (ka (20 + w))])).length) Slot.unset).toArray = ls at hl ⊢
  have hl : lv_has ls 3 [(0, .ref o), (1, .int (zI k)), (2, .ref (ka (20 + w)))] := hl
  refine lv_aload_n hx hb dJ5_putStringAt_47b60_0 rfl (lv_at hl 0 rfl) ?_
  refine lv_aload_n hx hb dJ5_putStringAt_47b60_1 rfl (lv_at hl 2 rfl) ?_
  refine x_callvUB (wf := fun u2 : Unit => sbO o a n ml ++ (bR ck a 16 Y)) (M := sbO o a n ml) (Mf := fun u2 => sbO o a n ml) (N := bR ck a 16 Y) (cat_perm [sbO o a n ml, bR ck a 16 Y] [0] [1] 2 rfl (by decide)) (fun u2 => cat_perm [sbO o a n ml, bR ck a 16 Y] [0] [1] 2 rfl (by decide)) hP hD hS hA (fun hPm hDm => va_runV (As := [.ref (ka (20 + w))]) (rest := []) ⟨hx, hb, hml, hown, htg⟩ (j_infK l dg ck ka o a n ml w _ hw) (cwVC 1 htg wq_938 wq_940 (va_Nw.use rfl (hC.nw (w := .selects "java/lang/StringBuilder" ⟨"java/lang/AbstractStringBuilder", "inflateIfNeededFor", "(Ljava/lang/String;)V"⟩ ⟨"java/lang/AbstractStringBuilder", "inflateIfNeededFor", "(Ljava/lang/String;)V"⟩) (by decide +kernel))) wq_11 wq_941 rfl rfl (by decide +kernel) ⟨Nat.le_of_ble_eq_true rfl, Nat.le_of_ble_eq_true rfl⟩) (wrK_preV hK hPm hDm hC hS hA 0 1 rfl rfl) rfl rfl hl.1 rfl (lv_room (Nat.le_of_ble_eq_true rfl)) dJ5_putStringAt_47b60_2 ⟨Nat.le_of_ble_eq_true rfl, Nat.le_of_ble_eq_true rfl⟩) (fun u2 H locs hu2 hP hD hS => ?_)
  have hP : va_P dg vwCl (sbO o a n ml ++ (bR ck a 16 Y)) H := hP
  have hD : va_D A (sbO o a n ml ++ (bR ck a 16 Y)) := hD
  refine lv_aload_n hx hb dJ5_putStringAt_47b60_5 rfl (lv_at hl 2 rfl) ?_
  refine lv_aload_n hx hb dJ5_putStringAt_47b60_6 rfl (lv_at hl 0 rfl) ?_
  refine va_get (D := dg) (ci := 1) (v := .ref a) (C := RJ4) (T := TJ4) (N := 4) hx hb htg inG_J4 hown hK hP 0 rfl rfl 0 (Nat.le_of_ble_eq_true rfl) (htg _ wq_264) (fun _ h9 => h9) rfl dJ5_putStringAt_47b60_7 ?_
  refine lv_iload_n hx hb dJ5_putStringAt_47b60_10 rfl (lv_at hl 1 rfl) ?_
  refine lv_aload_n hx hb dJ5_putStringAt_47b60_11 rfl (lv_at hl 0 rfl) ?_
  refine va_get (D := dg) (ci := 1) (v := .int (zI 0)) (C := RJ4) (T := TJ4) (N := 4) hx hb htg inG_J4 hown hK hP 0 rfl rfl 1 (Nat.le_of_ble_eq_true rfl) (htg _ wq_265) (fun _ h9 => h9) rfl dJ5_putStringAt_47b60_12 ?_
  refine x_callvUB (wf := fun u15 : Unit => bR ck a 16 (cpZ (chZ w) Y k (lnZ w)) ++ (sbO o a n ml)) (M := bR ck a 16 Y) (Mf := fun u15 => bR ck a 16 (cpZ (chZ w) Y k (lnZ w))) (N := sbO o a n ml) (cat_perm [sbO o a n ml, bR ck a 16 Y] [1] [0] 2 rfl (by decide)) (fun u15 => cat_perm [bR ck a 16 (cpZ (chZ w) Y k (lnZ w)), sbO o a n ml] [0] [1] 2 rfl (by decide)) hP hD hS hA (fun hPm hDm => va_runV (As := [.ref a, .int (zI k), .int (zI 0)]) (rest := []) ⟨hx, hb, hml, hown, htg⟩ (j_gbK l dg ck ka a k Y w _ hw hn) (cwV 3 htg (gwV wq_962 wq_963 wq_964 wq_13 wq_965) rfl rfl rfl (by decide +kernel) ⟨Nat.le_of_ble_eq_true rfl, Nat.le_of_ble_eq_true rfl⟩) (wrK_preR (C := "java/lang/String") hK hPm hDm hC hS hA (hC.srecv hw hS)) rfl rfl hl.1 rfl (lv_room (Nat.le_of_ble_eq_true rfl)) dJ5_putStringAt_47b60_15 ⟨Nat.le_of_ble_eq_true rfl, Nat.le_of_ble_eq_true rfl⟩) (fun u15 H locs hu15 hP hD hS => ?_)
  have hP : va_P dg vwCl (bR ck a 16 (cpZ (chZ w) Y k (lnZ w)) ++ (sbO o a n ml)) H := hP
  have hD : va_D A (bR ck a 16 (cpZ (chZ w) Y k (lnZ w)) ++ (sbO o a n ml)) := hD
  have hP : va_P dg vwCl (sbO o a n ml ++ (bR ck a 16 (cpZ (chZ w) Y k (lnZ w)))) H := va_P_l (w2 := []) (va_P_perm (cat_perm [bR ck a 16 (cpZ (chZ w) Y k (lnZ w)), sbO o a n ml] [1, 0] [] 2 rfl (by decide)) hP)
  have hD : va_D A (sbO o a n ml ++ (bR ck a 16 (cpZ (chZ w) Y k (lnZ w)))) := va_D_l (w2 := []) (va_D_perm (cat_perm [bR ck a 16 (cpZ (chZ w) Y k (lnZ w)), sbO o a n ml] [1, 0] [] 2 rfl (by decide)) hD)
  have hEq : sbO o a n ml ++ (bR ck a 16 (cpZ (chZ w) Y k (lnZ w))) = sbO o a n ml ++ (bR ck a 16 (cpZ (chZ w) Y k (lnZ w))) := rfl
  exact W.widen (k := 0) (n := 0) (by first | exact Nat.le_of_ble_eq_true rfl | omega) (by first | exact Nat.le_of_ble_eq_true rfl | omega) (W.vret hx hb hr (fun t9 ht9 hW9 => ⟨⟨(), rfl, trivial, by rw [ht9]; show va_P dg vwCl (sbO o a n ml ++ (bR ck a 16 (cpZ (chZ w) Y k (lnZ w)))) _; rw [hEq]; exact hP, by rw [hAe]; show va_D A (sbO o a n ml ++ (bR ck a 16 (cpZ (chZ w) Y k (lnZ w)))); rw [hEq]; exact hD⟩, hS.F ht9⟩) hS.2.2 dJ5_putStringAt_47b60_18)

set_option maxHeartbeats 4000000 in
set_option maxRecDepth 100000 in
/-- java/lang/AbstractStringBuilder.ensureCapacityInternal -/
theorem j_ensN (l : Launch) (dg : va_G) (ck : Nat → ClassId) (ka : Nat → Nat) (o a N : Nat) (n ml x : Int) (Y : Int → Int) (sz : Nat) (hx0 : 0 ≤ x ∧ x ≤ N) (hN : N < 1000) : Met l yJ5_ensureCapacityInternal_d00df (.code yJ5_ensureCapacityInternal_d00df cJ5_ensureCapacityInternal_d00df 3 none :: GW) ({ frames := 0, cells := 0, slots := 0, locals := 0 }) (va_Pc [.ref o, .int (zI x)] (wrK dg ck ka sz (sbO o a n ml ++ (bR ck a N Y)))) (va_Qv (fun _ : Unit => True) (fun _ t9 => wrQ dg sz (sbO o a n ml ++ (bR ck a N Y)) (sbO o a n ml ++ (bR ck a N Y)) t9) (va_A (sbO o a n ml ++ (bR ck a N Y)) sz)) 0 0 (va_A (sbO o a n ml ++ (bR ck a N Y)) sz) := by
  refine Met.ofW (cc := cJ5_ensureCapacityInternal_d00df) (maxL := 3) (ret := none) (by decide) rfl ?_
  intro p e s m args below meth c s₁ B hml hv
  obtain ⟨rfl, ⟨hsz, hP, hK, hD0⟩, hC⟩ := hv
  have hx := B.exec
  have hb := B.bytes
  have hr := B.returns
  have hts := atoms_spec (ws := .code yJ5_ensureCapacityInternal_d00df cJ5_ensureCapacityInternal_d00df 3 none :: GW) B.pre
  have htg : ∀ w ∈ GW, w.before _ s = true := fun w h => hts w (List.mem_cons_of_mem _ h)
  have hown : s.vm.findClass RJ5 = some m.cls := findClass_of_methodNamed B.named
  have hlocks := B.notSynchronized
  subst hsz
  have hD := hD0.self (sz := s.heap.size)
  generalize hAe : va_A (sbO o a n ml ++ (bR ck a N Y)) s.heap.size = A at hD hC ⊢
  have hA : ∀ q : Nat, s.heap.size ≤ q → A q := fun q h => by rw [← hAe]; exact Or.inr h
  have hS : va_S A s.heap s.heap [] := va_S.rf
  have hP : va_P dg vwCl (sbO o a n ml ++ (bR ck a N Y)) s.heap := hP
  have hl := lv_entry ([.ref o, .int (zI x)]) (n := 3) (Nat.le_of_ble_eq_true rfl)
  rw [lg_entry_eq]
  generalize (lg_sl ([.ref o, .int (zI x)]) ++ List.replicate (3 - (lg_sl ([.ref o, .int (zI x)])).length) Slot.unset).toArray = ls at hl ⊢
  have hl : lv_has ls 3 [(0, .ref o), (1, .int (zI x))] := hl
  refine lv_aload_n hx hb dJ5_ensureCapacityInternal_d00df_0 rfl (lv_at hl 0 rfl) ?_
  refine va_get (D := dg) (ci := 1) (v := .ref a) (C := RJ4) (T := TJ4) (N := 4) hx hb htg inG_J4 hown hK hP 0 rfl rfl 0 (Nat.le_of_ble_eq_true rfl) (htg _ wq_264) (fun _ h9 => h9) rfl dJ5_ensureCapacityInternal_d00df_1 ?_
  refine x_alen hx hb hK hP 1 3 rfl rfl dJ5_ensureCapacityInternal_d00df_4 ?_
  refine lv_aload_n hx hb dJ5_ensureCapacityInternal_d00df_5 rfl (lv_at hl 0 rfl) ?_
  refine va_get (D := dg) (ci := 1) (v := .int (zI 0)) (C := RJ4) (T := TJ4) (N := 4) hx hb htg inG_J4 hown hK hP 0 rfl rfl 1 (Nat.le_of_ble_eq_true rfl) (htg _ wq_265) (fun _ h9 => h9) rfl dJ5_ensureCapacityInternal_d00df_6 ?_
  refine x_ishr0 hx hb dJ5_ensureCapacityInternal_d00df_9 ?_
  refine lv_istore_n (lv' := [(2, .int (zI ((N : Nat) : Int))), (0, .ref o), (1, .int (zI x))]) hx hb dJ5_ensureCapacityInternal_d00df_10 rfl hl (by decide) rfl (fun ls hl => ?_)
  refine lv_iload_n hx hb dJ5_ensureCapacityInternal_d00df_11 rfl (lv_at hl 2 rfl) ?_
  refine lv_iload_n hx hb dJ5_ensureCapacityInternal_d00df_12 rfl (lv_at hl 0 rfl) ?_
  refine x_isub hx hb dJ5_ensureCapacityInternal_d00df_13 ?_
  refine x_if_le (tgt := 38) hx hb dJ5_ensureCapacityInternal_d00df_14 (by decide) (by omega) (fun c14 => ?_) (fun c14 => False.elim (by omega))
  have hEq : sbO o a n ml ++ (bR ck a N Y) = sbO o a n ml ++ (bR ck a N Y) := rfl
  exact W.widen (k := 0) (n := 0) (by first | exact Nat.le_of_ble_eq_true rfl | omega) (by first | exact Nat.le_of_ble_eq_true rfl | omega) (W.vret hx hb hr (fun t9 ht9 hW9 => ⟨⟨(), rfl, trivial, by rw [ht9]; show va_P dg vwCl (sbO o a n ml ++ (bR ck a N Y)) _; rw [hEq]; exact hP, by rw [hAe]; show va_D A (sbO o a n ml ++ (bR ck a N Y)); rw [hEq]; exact hD⟩, hS.F ht9⟩) hS.2.2 dJ5_ensureCapacityInternal_d00df_38)

set_option maxHeartbeats 4000000 in
set_option maxRecDepth 100000 in
/-- java/lang/AbstractStringBuilder.append -/
theorem j_asK (l : Launch) (dg : va_G) (ck : Nat → ClassId) (ka : Nat → Nat) (o a : Nat) (n ml : Int) (Y : Int → Int) (w : Nat) (sz : Nat) (hw : okS w) (hn : 0 ≤ n ∧ n + lnZ w ≤ 16) : Met l yJ5_append_cf1ce (.code yJ5_append_cf1ce cJ5_append_cf1ce 3 (some (.object "java/lang/AbstractStringBuilder")) :: GW) ({ frames := 3, cells := 0, slots := 0, locals := 71 }) (va_Pc [.ref o, .ref (ka (20 + w))] (wrK dg ck ka sz (sbO o a n ml ++ (bR ck a 16 Y)))) (va_Qr (fun _ : Unit => True) (fun _ ra t9 => ra = o ∧ wrQ dg sz (sbO o a n ml ++ (bR ck a 16 Y)) (sbO o a (n + (lnZ w)) ml ++ (bR ck a 16 (cpZ (chZ w) Y n (lnZ w)))) t9) (va_A (sbO o a n ml ++ (bR ck a 16 Y)) sz)) 0 0 (va_A (sbO o a n ml ++ (bR ck a 16 Y)) sz) := by
  refine Met.ofW (cc := cJ5_append_cf1ce) (maxL := 3) (ret := (some (.object "java/lang/AbstractStringBuilder"))) (by decide) rfl ?_
  intro p e s m args below meth c s₁ B hml hv
  obtain ⟨rfl, ⟨hsz, hP, hK, hD0⟩, hC⟩ := hv
  have hx := B.exec
  have hb := B.bytes
  have hr := B.returns
  have hts := atoms_spec (ws := .code yJ5_append_cf1ce cJ5_append_cf1ce 3 (some (.object "java/lang/AbstractStringBuilder")) :: GW) B.pre
  have htg : ∀ w ∈ GW, w.before _ s = true := fun w h => hts w (List.mem_cons_of_mem _ h)
  have hown : s.vm.findClass RJ5 = some m.cls := findClass_of_methodNamed B.named
  have hlocks := B.notSynchronized
  subst hsz
  have hD := hD0.self (sz := s.heap.size)
  generalize hAe : va_A (sbO o a n ml ++ (bR ck a 16 Y)) s.heap.size = A at hD hC ⊢
  have hA : ∀ q : Nat, s.heap.size ≤ q → A q := fun q h => by rw [← hAe]; exact Or.inr h
  have hS : va_S A s.heap s.heap [] := va_S.rf
  have hP : va_P dg vwCl (sbO o a n ml ++ (bR ck a 16 Y)) s.heap := hP
  have hl := lv_entry ([.ref o, .ref (ka (20 + w))]) (n := 3) (Nat.le_of_ble_eq_true rfl)
  rw [lg_entry_eq]
  generalize (lg_sl ([.ref o, .ref (ka (20 + w))]) ++ List.replicate (3 - (lg_sl ([.ref o, .ref (ka (20 + w))])).length) Slot.unset).toArray = ls at hl ⊢
  have hl : lv_has ls 3 [(0, .ref o), (1, .ref (ka (20 + w)))] := hl
  have hlz : lnZ w = ((sln.getD w 0 : Nat) : Int) := rfl
  have hlr := lnZ_r w
  refine lv_aload_n hx hb dJ5_append_cf1ce_0 rfl (lv_at hl 1 rfl) ?_
  refine lv_ifnonnull (tgt := 9) hx hb dJ5_append_cf1ce_1 (by decide) ?_
  refine lv_aload_n hx hb dJ5_append_cf1ce_9 rfl (lv_at hl 1 rfl) ?_
  refine vp_callSi (W.runV (As := []) (rest := []) ⟨hx, hb, hml, hown, htg⟩ (j_slen l dg ck ka w hw) (cwV 0 htg (gwV wq_925 wq_926 wq_927 wq_13 wq_928) rfl rfl rfl (by decide +kernel) ⟨Nat.le_of_ble_eq_true rfl, Nat.le_of_ble_eq_true rfl⟩) (rdK_preR (C := "java/lang/String") hK va_P_nil hC hS (hC.srecv hw hS)) rfl rfl hl.1 rfl (lv_room (Nat.le_of_ble_eq_true rfl)) dJ5_append_cf1ce_10 ⟨Nat.le_of_ble_eq_true rfl, Nat.le_of_ble_eq_true rfl⟩) (fun r10 hr10 => ?_)
  subst hr10
  refine lv_istore_n (lv' := [(2, .int (zI (lnZ w))), (0, .ref o), (1, .ref (ka (20 + w)))]) hx hb dJ5_append_cf1ce_13 rfl hl (by decide) rfl (fun ls hl => ?_)
  refine lv_aload_n hx hb dJ5_append_cf1ce_14 rfl (lv_at hl 1 rfl) ?_
  refine lv_aload_n hx hb dJ5_append_cf1ce_15 rfl (lv_at hl 1 rfl) ?_
  refine va_get (D := dg) (ci := 1) (v := .int (zI n)) (C := RJ4) (T := TJ4) (N := 4) hx hb htg inG_J4 hown hK hP 0 rfl rfl 3 (Nat.le_of_ble_eq_true rfl) (htg _ wq_268) (fun _ h9 => h9) rfl dJ5_append_cf1ce_16 ?_
  refine lv_iload_n hx hb dJ5_append_cf1ce_19 rfl (lv_at hl 0 rfl) ?_
  refine x_iadd hx hb dJ5_append_cf1ce_20 ?_
  refine x_callvUB (wf := fun u21 : Unit => sbO o a n ml ++ (bR ck a 16 Y)) (M := sbO o a n ml ++ (bR ck a 16 Y)) (Mf := fun u21 => sbO o a n ml ++ (bR ck a 16 Y)) (N := []) (cat_perm [sbO o a n ml, bR ck a 16 Y] [0, 1] [] 2 rfl (by decide)) (fun u21 => cat_perm [sbO o a n ml, bR ck a 16 Y] [0, 1] [] 2 rfl (by decide)) hP hD hS hA (fun hPm hDm => va_runV (As := [.int (zI (n + (lnZ w)))]) (rest := []) ⟨hx, hb, hml, hown, htg⟩ (j_ensN l dg ck ka o a 16 n ml (n + (lnZ w)) Y _ (by omega) (by omega)) (cwVC 1 htg wq_865 wq_867 (va_Nw.use rfl (hC.nw (w := .selects "java/lang/StringBuilder" ⟨"java/lang/AbstractStringBuilder", "ensureCapacityInternal", "(I)V"⟩ ⟨"java/lang/AbstractStringBuilder", "ensureCapacityInternal", "(I)V"⟩) (by decide +kernel))) wq_11 wq_868 rfl rfl (by decide +kernel) ⟨Nat.le_of_ble_eq_true rfl, Nat.le_of_ble_eq_true rfl⟩) (wrK_preV hK hPm hDm hC hS hA 0 1 rfl rfl) rfl rfl hl.1 rfl (lv_room (Nat.le_of_ble_eq_true rfl)) dJ5_append_cf1ce_21 ⟨Nat.le_of_ble_eq_true rfl, Nat.le_of_ble_eq_true rfl⟩) (fun u21 H locs hu21 hP hD hS => ?_)
  have hP : va_P dg vwCl (sbO o a n ml ++ (bR ck a 16 Y)) H := hP
  have hD : va_D A (sbO o a n ml ++ (bR ck a 16 Y)) := hD
  refine lv_aload_n hx hb dJ5_append_cf1ce_24 rfl (lv_at hl 1 rfl) ?_
  refine lv_aload_n hx hb dJ5_append_cf1ce_25 rfl (lv_at hl 1 rfl) ?_
  refine va_get (D := dg) (ci := 1) (v := .int (zI n)) (C := RJ4) (T := TJ4) (N := 4) hx hb htg inG_J4 hown hK hP 0 rfl rfl 3 (Nat.le_of_ble_eq_true rfl) (htg _ wq_268) (fun _ h9 => h9) rfl dJ5_append_cf1ce_26 ?_
  refine lv_aload_n hx hb dJ5_append_cf1ce_29 rfl (lv_at hl 2 rfl) ?_
  refine x_callvUB (wf := fun u30 : Unit => sbO o a n ml ++ (bR ck a 16 (cpZ (chZ w) Y n (lnZ w)))) (M := sbO o a n ml ++ (bR ck a 16 Y)) (Mf := fun u30 => sbO o a n ml ++ (bR ck a 16 (cpZ (chZ w) Y n (lnZ w)))) (N := []) (cat_perm [sbO o a n ml, bR ck a 16 Y] [0, 1] [] 2 rfl (by decide)) (fun u30 => cat_perm [sbO o a n ml, bR ck a 16 (cpZ (chZ w) Y n (lnZ w))] [0, 1] [] 2 rfl (by decide)) hP hD hS hA (fun hPm hDm => va_runV (As := [.int (zI n), .ref (ka (20 + w))]) (rest := []) ⟨hx, hb, hml, hown, htg⟩ (j_psK l dg ck ka o a n ml Y n w _ hw hn) (cwVC 2 htg wq_934 wq_936 (va_Nw.use rfl (hC.nw (w := .selects "java/lang/StringBuilder" ⟨"java/lang/AbstractStringBuilder", "putStringAt", "(ILjava/lang/String;)V"⟩ ⟨"java/lang/AbstractStringBuilder", "putStringAt", "(ILjava/lang/String;)V"⟩) (by decide +kernel))) wq_11 wq_937 rfl rfl (by decide +kernel) ⟨Nat.le_of_ble_eq_true rfl, Nat.le_of_ble_eq_true rfl⟩) (wrK_preV hK hPm hDm hC hS hA 0 1 rfl rfl) rfl rfl hl.1 rfl (lv_room (Nat.le_of_ble_eq_true rfl)) dJ5_append_cf1ce_30 ⟨Nat.le_of_ble_eq_true rfl, Nat.le_of_ble_eq_true rfl⟩) (fun u30 H locs hu30 hP hD hS => ?_)
  have hP : va_P dg vwCl (sbO o a n ml ++ (bR ck a 16 (cpZ (chZ w) Y n (lnZ w)))) H := hP
  have hD : va_D A (sbO o a n ml ++ (bR ck a 16 (cpZ (chZ w) Y n (lnZ w)))) := hD
  refine lv_aload_n hx hb dJ5_append_cf1ce_33 rfl (lv_at hl 1 rfl) ?_
  refine lv_dup hx hb dJ5_append_cf1ce_34 rfl ?_
  refine va_get (D := dg) (ci := 1) (v := .int (zI n)) (C := RJ4) (T := TJ4) (N := 4) hx hb htg inG_J4 hown hK hP 0 rfl rfl 3 (Nat.le_of_ble_eq_true rfl) (htg _ wq_268) (fun _ h9 => h9) rfl dJ5_append_cf1ce_35 ?_
  refine lv_iload_n hx hb dJ5_append_cf1ce_38 rfl (lv_at hl 0 rfl) ?_
  refine x_iadd hx hb dJ5_append_cf1ce_39 ?_
  refine va_put (D := dg) (ci := 1) (v := .int (zI (n + (lnZ w)))) (ty := .int) (C := RJ4) (T := TJ4) (N := 4) hx hb htg inG_J4 tyJ4 tyJ4_ok nmJ4 hown hK hP hD hS 0 rfl rfl 3 (Nat.le_of_ble_eq_true rfl) (htg _ wq_268) (fun _ h9 => h9) rfl (by decide +kernel) rfl rfl (Nat.le_of_ble_eq_true rfl) dJ5_append_cf1ce_40 (fun H locs hP hD hS => ?_)
  have hP : va_P dg vwCl (sbO o a (n + (lnZ w)) ml ++ (bR ck a 16 (cpZ (chZ w) Y n (lnZ w)))) H := hP
  have hD : va_D A (sbO o a (n + (lnZ w)) ml ++ (bR ck a 16 (cpZ (chZ w) Y n (lnZ w)))) := hD
  refine lv_aload_n hx hb dJ5_append_cf1ce_43 rfl (lv_at hl 1 rfl) ?_
  have hEq : sbO o a (n + (lnZ w)) ml ++ (bR ck a 16 (cpZ (chZ w) Y n (lnZ w))) = sbO o a (n + (lnZ w)) ml ++ (bR ck a 16 (cpZ (chZ w) Y n (lnZ w))) := rfl
  exact W.widen (k := 0) (n := 0) (by first | exact Nat.le_of_ble_eq_true rfl | omega) (by first | exact Nat.le_of_ble_eq_true rfl | omega) (W.aret (v := .ref o) hx hb hr (Or.inl ⟨_, rfl⟩) (Or.inr ⟨_, rfl⟩) (fun t9 ht9 hW9 => ⟨⟨(), _, rfl, trivial, rfl, by rw [ht9]; show va_P dg vwCl (sbO o a (n + (lnZ w)) ml ++ (bR ck a 16 (cpZ (chZ w) Y n (lnZ w)))) _; rw [hEq]; exact hP, by rw [hAe]; show va_D A (sbO o a (n + (lnZ w)) ml ++ (bR ck a 16 (cpZ (chZ w) Y n (lnZ w)))); rw [hEq]; exact hD⟩, hS.F ht9⟩) hS.2.2 dJ5_append_cf1ce_44)

set_option maxHeartbeats 4000000 in
set_option maxRecDepth 100000 in
/-- java/lang/StringBuilder.append -/
theorem a_K (l : Launch) (dg : va_G) (ck : Nat → ClassId) (ka : Nat → Nat) (o a : Nat) (n ml : Int) (Y : Int → Int) (w : Nat) (sz : Nat) (hw : okS w) (hY : LY 16 Y) (hn : 0 ≤ n ∧ n + lnZ w ≤ 16) : Met l yJ4_append_15ec4 (.code yJ4_append_15ec4 cJ4_append_15ec4 2 (some (.object "java/lang/StringBuilder")) :: GW) ({ frames := 4, cells := 0, slots := 0, locals := 93 }) (va_Pc [.ref o, .ref (ka (20 + w))] (wrK dg ck ka sz (sbO o a n ml ++ (bR ck a 16 Y)))) (va_Qr (fun u : (Int → Int) => LY 16 u) (fun u ra t9 => ra = o ∧ wrQ dg sz (sbO o a n ml ++ (bR ck a 16 Y)) (sbO o a (n + (lnZ w)) ml ++ (bR ck a 16 u)) t9) (va_A (sbO o a n ml ++ (bR ck a 16 Y)) sz)) 0 0 (va_A (sbO o a n ml ++ (bR ck a 16 Y)) sz) := by
  refine Met.ofW (cc := cJ4_append_15ec4) (maxL := 2) (ret := (some (.object "java/lang/StringBuilder"))) (by decide) rfl ?_
  intro p e s m args below meth c s₁ B hml hv
  obtain ⟨rfl, ⟨hsz, hP, hK, hD0⟩, hC⟩ := hv
  have hx := B.exec
  have hb := B.bytes
  have hr := B.returns
  have hts := atoms_spec (ws := .code yJ4_append_15ec4 cJ4_append_15ec4 2 (some (.object "java/lang/StringBuilder")) :: GW) B.pre
  have htg : ∀ w ∈ GW, w.before _ s = true := fun w h => hts w (List.mem_cons_of_mem _ h)
  have hown : s.vm.findClass RJ4 = some m.cls := findClass_of_methodNamed B.named
  have hlocks := B.notSynchronized
  subst hsz
  have hD := hD0.self (sz := s.heap.size)
  generalize hAe : va_A (sbO o a n ml ++ (bR ck a 16 Y)) s.heap.size = A at hD hC ⊢
  have hA : ∀ q : Nat, s.heap.size ≤ q → A q := fun q h => by rw [← hAe]; exact Or.inr h
  have hS : va_S A s.heap s.heap [] := va_S.rf
  have hP : va_P dg vwCl (sbO o a n ml ++ (bR ck a 16 Y)) s.heap := hP
  have hl := lv_entry ([.ref o, .ref (ka (20 + w))]) (n := 2) (Nat.le_of_ble_eq_true rfl)
  rw [lg_entry_eq]
  generalize (lg_sl ([.ref o, .ref (ka (20 + w))]) ++ List.replicate (2 - (lg_sl ([.ref o, .ref (ka (20 + w))])).length) Slot.unset).toArray = ls at hl ⊢
  have hl : lv_has ls 2 [(0, .ref o), (1, .ref (ka (20 + w)))] := hl
  refine lv_aload_n hx hb dJ4_append_15ec4_0 rfl (lv_at hl 0 rfl) ?_
  refine lv_aload_n hx hb dJ4_append_15ec4_1 rfl (lv_at hl 1 rfl) ?_
  refine x_callrUB (fr := fun u2 : Unit => o) (wf := fun u2 : Unit => sbO o a (n + (lnZ w)) ml ++ (bR ck a 16 (cpZ (chZ w) Y n (lnZ w)))) (M := sbO o a n ml ++ (bR ck a 16 Y)) (Mf := fun u2 => sbO o a (n + (lnZ w)) ml ++ (bR ck a 16 (cpZ (chZ w) Y n (lnZ w)))) (N := []) (cat_perm [sbO o a n ml, bR ck a 16 Y] [0, 1] [] 2 rfl (by decide)) (fun u2 => cat_perm [sbO o a (n + (lnZ w)) ml, bR ck a 16 (cpZ (chZ w) Y n (lnZ w))] [0, 1] [] 2 rfl (by decide)) hP hD hS hA (fun hPm hDm => va_runSU ((hK.1 1 _ rfl).2) (As := [.ref (ka (20 + w))]) (rest := []) ⟨hx, hb, hml, hown, htg⟩ (j_asK l dg ck ka o a n ml Y w _ hw hn) (va_cwSU 1 htg (gwSU wq_858 wq_1569 wq_277 wq_859 wq_11 wq_860) rfl rfl rfl (by decide +kernel) ⟨Nat.le_of_ble_eq_true rfl, Nat.le_of_ble_eq_true rfl⟩) (wrK_preV hK hPm hDm hC hS hA 0 1 rfl rfl) rfl rfl hl.1 rfl (lv_room (Nat.le_of_ble_eq_true rfl)) dJ4_append_15ec4_2 ⟨Nat.le_of_ble_eq_true rfl, Nat.le_of_ble_eq_true rfl⟩) (fun u2 H locs hu2 hP hD hS => ?_)
  have hP : va_P dg vwCl (sbO o a (n + (lnZ w)) ml ++ (bR ck a 16 (cpZ (chZ w) Y n (lnZ w)))) H := hP
  have hD : va_D A (sbO o a (n + (lnZ w)) ml ++ (bR ck a 16 (cpZ (chZ w) Y n (lnZ w)))) := hD
  refine W.eq (g2 := F0 m 5 ls [.ref o]) rfl ?_
  refine lv_pop hx hb dJ4_append_15ec4_5 rfl ?_
  refine lv_aload_n hx hb dJ4_append_15ec4_6 rfl (lv_at hl 0 rfl) ?_
  have hEq : sbO o a (n + (lnZ w)) ml ++ (bR ck a 16 (cpZ (chZ w) Y n (lnZ w))) = sbO o a (n + (lnZ w)) ml ++ (bR ck a 16 (cpZ (chZ w) Y n (lnZ w))) := rfl
  exact W.widen (k := 0) (n := 0) (by first | exact Nat.le_of_ble_eq_true rfl | omega) (by first | exact Nat.le_of_ble_eq_true rfl | omega) (W.aret (v := .ref o) hx hb hr (Or.inl ⟨_, rfl⟩) (Or.inr ⟨_, rfl⟩) (fun t9 ht9 hW9 => ⟨⟨(cpZ (chZ w) Y n (lnZ w)), _, rfl, LY.cp hY (LY.chz w) hn.1 (Int.le_refl _), rfl, by rw [ht9]; show va_P dg vwCl (sbO o a (n + (lnZ w)) ml ++ (bR ck a 16 (cpZ (chZ w) Y n (lnZ w)))) _; rw [hEq]; exact hP, by rw [hAe]; show va_D A (sbO o a (n + (lnZ w)) ml ++ (bR ck a 16 (cpZ (chZ w) Y n (lnZ w)))); rw [hEq]; exact hD⟩, hS.F ht9⟩) hS.2.2 dJ4_append_15ec4_7)

def ia2 (o a : Nat) : Nat → Nat
  | 0 => o
  | _ + 1 => a
def ix2 (n ml : Int) : Nat → Int
  | 0 => n
  | _ + 1 => ml
theorem LY.y7 {Y : Int → Int} (h : LY 16 Y) : y7Z Y := fun z h0 h1 => h z h0 (by omega)
theorem y7.ly {Y : Int → Int} (h : y7Z Y) : LY 16 Y := fun z h0 h1 => h z h0 (by omega)
theorem digZ_b {x : Int} (h : 0 ≤ x ∧ x ≤ 99) : ∀ y ∈ digZ x, 0 ≤ y ∧ y ≤ 126 := by
  intro y hy
  unfold digZ at hy
  split at hy
  · rcases List.mem_cons.mp hy with e | hy
    · omega
    · rw [List.mem_singleton.mp hy]
      omega
  · rw [List.mem_singleton.mp hy]
    omega
/-- a number appended -/
theorem a_I (l : Launch) (dg : va_G) (ck : Nat → ClassId) (ka : Nat → Nat) (o a : Nat) (n ml : Int) (Y : Int → Int) (x : Int) (sz : Nat) (hY : LY 16 Y) (hn : 0 ≤ n ∧ n + nnZ x ≤ 16) (hx0 : 0 ≤ x ∧ x ≤ 99) : Met l yJ4_append_bf812 (.code yJ4_append_bf812 cJ4_append_bf812 2 (some (.object "java/lang/StringBuilder")) :: GW) ({ frames := 2, cells := 0, slots := 0, locals := 49 }) (va_Pc [.ref o, .int (zI x)] (wrK dg ck ka sz (sbO o a n ml ++ bR ck a 16 Y))) (va_Qr (fun u : Int → Int => LY 16 u) (fun u ra t9 => ra = o ∧ wrQ dg sz (sbO o a n ml ++ bR ck a 16 Y) (sbO o a (n + nnZ x) ml ++ bR ck a 16 u) t9) (va_A (sbO o a n ml ++ bR ck a 16 Y) sz)) 0 0 (va_A (sbO o a n ml ++ bR ck a 16 Y) sz) := by
  refine MetFree.mono (j_appI_J4 l dg ck ka (ia2 o a) (ix2 n ml) Y x sz hn hx0) (fun _ _ h => h) (fun _ _ _ _ _ h => h) (fun a9 s o9 t _ h => ⟨?_, h.2⟩)
  obtain ⟨⟨u, ra, h1, h2, h3⟩, h4⟩ := h.1
  exact ⟨⟨wrY Y n (digZ x), ra, h1, y7.ly (wrY_b (digZ_b hx0) Y n hY.y7), h3⟩, h4⟩

set_option maxHeartbeats 4000000 in
set_option maxRecDepth 100000 in
/-- java/lang/String.coder -/
theorem f_coder (l : Launch) (dg : va_G) (ck : Nat → ClassId) (ka : Nat → Nat) (q t : Nat) (sz : Nat)  : Met l yJ0_coder_7d493 (.code yJ0_coder_7d493 cJ0_coder_7d493 1 (some .byte) :: GW) ({ frames := 0, cells := 0, slots := 0, locals := 0 }) (va_Pc [.ref q] (wrK dg ck ka sz (stO q t))) (va_Qi (fun r (_ : Unit) => r = zI 0) (fun _ t9 => wrQ dg sz (stO q t) (stO q t) t9) (va_A (stO q t) sz)) 0 0 (va_A (stO q t) sz) := by
  refine Met.ofW (cc := cJ0_coder_7d493) (maxL := 1) (ret := (some .byte)) (by decide) rfl ?_
  intro p e s m args below meth c s₁ B hml hv
  obtain ⟨rfl, ⟨hsz, hP, hK, hD0⟩, hC⟩ := hv
  have hx := B.exec
  have hb := B.bytes
  have hr := B.returns
  have hts := atoms_spec (ws := .code yJ0_coder_7d493 cJ0_coder_7d493 1 (some .byte) :: GW) B.pre
  have htg : ∀ w ∈ GW, w.before _ s = true := fun w h => hts w (List.mem_cons_of_mem _ h)
  have hown : s.vm.findClass RJ0 = some m.cls := findClass_of_methodNamed B.named
  have hlocks := B.notSynchronized
  subst hsz
  have hD := hD0.self (sz := s.heap.size)
  generalize hAe : va_A (stO q t) s.heap.size = A at hD hC ⊢
  have hA : ∀ q : Nat, s.heap.size ≤ q → A q := fun q h => by rw [← hAe]; exact Or.inr h
  have hS : va_S A s.heap s.heap [] := va_S.rf
  have hP : va_P dg vwCl (stO q t) s.heap := hP
  have hl := lv_entry ([.ref q]) (n := 1) (Nat.le_of_ble_eq_true rfl)
  rw [lg_entry_eq]
  generalize (lg_sl ([.ref q]) ++ List.replicate (1 - (lg_sl ([.ref q])).length) Slot.unset).toArray = ls at hl ⊢
  have hl : lv_has ls 1 [(0, .ref q)] := hl
  refine va_gets (v := .int (zI 1)) hx hb hC.cmp hS hown (htg _ wq_933) (fun _ h9 => h9) dJ0_coder_7d493_0 ?_
  refine x_if_eq (tgt := 13) hx hb dJ0_coder_7d493_3 (by decide) (by omega) (fun c3 => absurd c3 (by decide)) (fun c3 => ?_)
  refine lv_aload_n hx hb dJ0_coder_7d493_6 rfl (lv_at hl 0 rfl) ?_
  refine va_get (D := dg) (ci := 0) (v := .int (zI 0)) (C := RJ0) (T := TJ0) (N := 4) hx hb htg inG_J0 hown hK hP 0 rfl rfl 1 (Nat.le_of_ble_eq_true rfl) (htg _ wq_1056) (fun _ h9 => h9) rfl dJ0_coder_7d493_7 ?_
  refine lv_goto (tgt := 14) hx hb dJ0_coder_7d493_10 (by decide) ?_
  have hEq : stO q t = stO q t := rfl
  exact W.widen (k := 0) (n := 0) (by first | exact Nat.le_of_ble_eq_true rfl | omega) (by first | exact Nat.le_of_ble_eq_true rfl | omega) (W.zret (v := _) hx hb hr (by first | rfl | rfl) (fun t9 ht9 hW9 => ⟨⟨_, (), rfl, rfl, by rw [ht9]; show va_P dg vwCl (stO q t) _; rw [hEq]; exact hP, by rw [hAe]; show va_D A (stO q t); rw [hEq]; exact hD⟩, hS.F ht9⟩) hS.2.2 dJ0_coder_7d493_14)

set_option maxHeartbeats 4000000 in
set_option maxRecDepth 100000 in
/-- java/lang/String.isLatin1 -/
theorem f_isL (l : Launch) (dg : va_G) (ck : Nat → ClassId) (ka : Nat → Nat) (q t : Nat) (sz : Nat)  : Met l yJ0_isLatin1_aae02 (.code yJ0_isLatin1_aae02 cJ0_isLatin1_aae02 1 (some .boolean) :: GW) ({ frames := 0, cells := 0, slots := 0, locals := 0 }) (va_Pc [.ref q] (wrK dg ck ka sz (stO q t))) (va_Qi (fun r (_ : Unit) => r = zI 1) (fun _ t9 => wrQ dg sz (stO q t) (stO q t) t9) (va_A (stO q t) sz)) 0 0 (va_A (stO q t) sz) := by
  refine Met.ofW (cc := cJ0_isLatin1_aae02) (maxL := 1) (ret := (some .boolean)) (by decide) rfl ?_
  intro p e s m args below meth c s₁ B hml hv
  obtain ⟨rfl, ⟨hsz, hP, hK, hD0⟩, hC⟩ := hv
  have hx := B.exec
  have hb := B.bytes
  have hr := B.returns
  have hts := atoms_spec (ws := .code yJ0_isLatin1_aae02 cJ0_isLatin1_aae02 1 (some .boolean) :: GW) B.pre
  have htg : ∀ w ∈ GW, w.before _ s = true := fun w h => hts w (List.mem_cons_of_mem _ h)
  have hown : s.vm.findClass RJ0 = some m.cls := findClass_of_methodNamed B.named
  have hlocks := B.notSynchronized
  subst hsz
  have hD := hD0.self (sz := s.heap.size)
  generalize hAe : va_A (stO q t) s.heap.size = A at hD hC ⊢
  have hA : ∀ q : Nat, s.heap.size ≤ q → A q := fun q h => by rw [← hAe]; exact Or.inr h
  have hS : va_S A s.heap s.heap [] := va_S.rf
  have hP : va_P dg vwCl (stO q t) s.heap := hP
  have hl := lv_entry ([.ref q]) (n := 1) (Nat.le_of_ble_eq_true rfl)
  rw [lg_entry_eq]
  generalize (lg_sl ([.ref q]) ++ List.replicate (1 - (lg_sl ([.ref q])).length) Slot.unset).toArray = ls at hl ⊢
  have hl : lv_has ls 1 [(0, .ref q)] := hl
  refine va_gets (v := .int (zI 1)) hx hb hC.cmp hS hown (htg _ wq_933) (fun _ h9 => h9) dJ0_isLatin1_aae02_0 ?_
  refine x_if_eq (tgt := 17) hx hb dJ0_isLatin1_aae02_3 (by decide) (by omega) (fun c3 => absurd c3 (by decide)) (fun c3 => ?_)
  refine lv_aload_n hx hb dJ0_isLatin1_aae02_6 rfl (lv_at hl 0 rfl) ?_
  refine va_get (D := dg) (ci := 0) (v := .int (zI 0)) (C := RJ0) (T := TJ0) (N := 4) hx hb htg inG_J0 hown hK hP 0 rfl rfl 1 (Nat.le_of_ble_eq_true rfl) (htg _ wq_1056) (fun _ h9 => h9) rfl dJ0_isLatin1_aae02_7 ?_
  refine x_if_ne (tgt := 17) hx hb dJ0_isLatin1_aae02_10 (by decide) (by omega) (fun c10 => absurd c10 (by decide)) (fun c10 => ?_)
  refine x_iconst hx hb dJ0_isLatin1_aae02_13 ?_
  refine lv_goto (tgt := 18) hx hb dJ0_isLatin1_aae02_14 (by decide) ?_
  have hEq : stO q t = stO q t := rfl
  exact W.widen (k := 0) (n := 0) (by first | exact Nat.le_of_ble_eq_true rfl | omega) (by first | exact Nat.le_of_ble_eq_true rfl | omega) (W.zret (v := _) hx hb hr (by first | rfl | rfl) (fun t9 ht9 hW9 => ⟨⟨_, (), rfl, rfl, by rw [ht9]; show va_P dg vwCl (stO q t) _; rw [hEq]; exact hP, by rw [hAe]; show va_D A (stO q t); rw [hEq]; exact hD⟩, hS.F ht9⟩) hS.2.2 dJ0_isLatin1_aae02_18)

set_option maxHeartbeats 4000000 in
set_option maxRecDepth 100000 in
/-- java/lang/String.length -/
theorem f_len (l : Launch) (dg : va_G) (ck : Nat → ClassId) (ka : Nat → Nat) (q t tl : Nat) (F : Int → Int) (sz : Nat)  : Met l yJ0_length_8abf5 (.code yJ0_length_8abf5 cJ0_length_8abf5 1 (some .int) :: GW) ({ frames := 1, cells := 0, slots := 0, locals := 20 }) (va_Pc [.ref q] (wrK dg ck ka sz (stO q t ++ (bR ck t tl F)))) (va_Qi (fun r (_ : Unit) => r = zI (tl : Int)) (fun _ t9 => wrQ dg sz (stO q t ++ (bR ck t tl F)) (stO q t ++ (bR ck t tl F)) t9) (va_A (stO q t ++ (bR ck t tl F)) sz)) 0 0 (va_A (stO q t ++ (bR ck t tl F)) sz) := by
  refine Met.ofW (cc := cJ0_length_8abf5) (maxL := 1) (ret := (some .int)) (by decide) rfl ?_
  intro p e s m args below meth c s₁ B hml hv
  obtain ⟨rfl, ⟨hsz, hP, hK, hD0⟩, hC⟩ := hv
  have hx := B.exec
  have hb := B.bytes
  have hr := B.returns
  have hts := atoms_spec (ws := .code yJ0_length_8abf5 cJ0_length_8abf5 1 (some .int) :: GW) B.pre
  have htg : ∀ w ∈ GW, w.before _ s = true := fun w h => hts w (List.mem_cons_of_mem _ h)
  have hown : s.vm.findClass RJ0 = some m.cls := findClass_of_methodNamed B.named
  have hlocks := B.notSynchronized
  subst hsz
  have hD := hD0.self (sz := s.heap.size)
  generalize hAe : va_A (stO q t ++ (bR ck t tl F)) s.heap.size = A at hD hC ⊢
  have hA : ∀ q : Nat, s.heap.size ≤ q → A q := fun q h => by rw [← hAe]; exact Or.inr h
  have hS : va_S A s.heap s.heap [] := va_S.rf
  have hP : va_P dg vwCl (stO q t ++ (bR ck t tl F)) s.heap := hP
  have hl := lv_entry ([.ref q]) (n := 1) (Nat.le_of_ble_eq_true rfl)
  rw [lg_entry_eq]
  generalize (lg_sl ([.ref q]) ++ List.replicate (1 - (lg_sl ([.ref q])).length) Slot.unset).toArray = ls at hl ⊢
  have hl : lv_has ls 1 [(0, .ref q)] := hl
  refine lv_aload_n hx hb dJ0_length_8abf5_0 rfl (lv_at hl 0 rfl) ?_
  refine va_get (D := dg) (ci := 0) (v := .ref t) (C := RJ0) (T := TJ0) (N := 4) hx hb htg inG_J0 hown hK hP 0 rfl rfl 0 (Nat.le_of_ble_eq_true rfl) (htg _ wq_1055) (fun _ h9 => h9) rfl dJ0_length_8abf5_1 ?_
  refine x_alen hx hb hK hP 1 3 rfl rfl dJ0_length_8abf5_4 ?_
  refine lv_aload_n hx hb dJ0_length_8abf5_5 rfl (lv_at hl 0 rfl) ?_
  refine x_calliUB (wf := fun u6 : Unit => stO q t ++ (bR ck t tl F)) (M := stO q t) (Mf := fun u6 => stO q t) (N := bR ck t tl F) (cat_perm [stO q t, bR ck t tl F] [0] [1] 2 rfl (by decide)) (fun u6 => cat_perm [stO q t, bR ck t tl F] [0] [1] 2 rfl (by decide)) hP hD hS hA (fun hPm hDm => va_runV (As := []) (rest := [.int (zI ((tl : Nat) : Int))]) ⟨hx, hb, hml, hown, htg⟩ (f_coder l dg ck ka q t _) (cwV 0 htg (gwV wq_929 wq_930 wq_931 wq_13 wq_932) rfl rfl rfl (by decide +kernel) ⟨Nat.le_of_ble_eq_true rfl, Nat.le_of_ble_eq_true rfl⟩) (wrK_preV hK hPm hDm hC hS hA 0 0 rfl rfl) rfl rfl hl.1 rfl (lv_room (Nat.le_of_ble_eq_true rfl)) dJ0_length_8abf5_6 ⟨Nat.le_of_ble_eq_true rfl, Nat.le_of_ble_eq_true rfl⟩) (fun r6 u6 H locs hu6 hP hD hS => ?_)
  have hP : va_P dg vwCl (stO q t ++ (bR ck t tl F)) H := hP
  have hD : va_D A (stO q t ++ (bR ck t tl F)) := hD
  subst hu6
  refine x_ishr0 hx hb dJ0_length_8abf5_9 ?_
  have hEq : stO q t ++ (bR ck t tl F) = stO q t ++ (bR ck t tl F) := rfl
  exact W.widen (k := 0) (n := 0) (by first | exact Nat.le_of_ble_eq_true rfl | omega) (by first | exact Nat.le_of_ble_eq_true rfl | omega) (W.iret (v := _) hx hb hr (fun t9 ht9 hW9 => ⟨⟨_, (), rfl, rfl, by rw [ht9]; show va_P dg vwCl (stO q t ++ (bR ck t tl F)) _; rw [hEq]; exact hP, by rw [hAe]; show va_D A (stO q t ++ (bR ck t tl F)); rw [hEq]; exact hD⟩, hS.F ht9⟩) hS.2.2 dJ0_length_8abf5_10)

set_option maxHeartbeats 4000000 in
set_option maxRecDepth 100000 in
/-- java/lang/AbstractStringBuilder.inflateIfNeededFor -/
theorem f_inf (l : Launch) (dg : va_G) (ck : Nat → ClassId) (ka : Nat → Nat) (o a : Nat) (n ml : Int) (q t : Nat) (sz : Nat)  : Met l yJ5_inflateIfNeededFor_a7421 (.code yJ5_inflateIfNeededFor_a7421 cJ5_inflateIfNeededFor_a7421 2 none :: GW) ({ frames := 1, cells := 0, slots := 0, locals := 20 }) (va_Pc [.ref o, .ref q] (wrK dg ck ka sz (sbO o a n ml ++ (stO q t)))) (va_Qv (fun _ : Unit => True) (fun _ t9 => wrQ dg sz (sbO o a n ml ++ (stO q t)) (sbO o a n ml ++ (stO q t)) t9) (va_A (sbO o a n ml ++ (stO q t)) sz)) 0 0 (va_A (sbO o a n ml ++ (stO q t)) sz) := by
  refine Met.ofW (cc := cJ5_inflateIfNeededFor_a7421) (maxL := 2) (ret := none) (by decide) rfl ?_
  intro p e s m args below meth c s₁ B hml hv
  obtain ⟨rfl, ⟨hsz, hP, hK, hD0⟩, hC⟩ := hv
  have hx := B.exec
  have hb := B.bytes
  have hr := B.returns
  have hts := atoms_spec (ws := .code yJ5_inflateIfNeededFor_a7421 cJ5_inflateIfNeededFor_a7421 2 none :: GW) B.pre
  have htg : ∀ w ∈ GW, w.before _ s = true := fun w h => hts w (List.mem_cons_of_mem _ h)
  have hown : s.vm.findClass RJ5 = some m.cls := findClass_of_methodNamed B.named
  have hlocks := B.notSynchronized
  subst hsz
  have hD := hD0.self (sz := s.heap.size)
  generalize hAe : va_A (sbO o a n ml ++ (stO q t)) s.heap.size = A at hD hC ⊢
  have hA : ∀ q : Nat, s.heap.size ≤ q → A q := fun q h => by rw [← hAe]; exact Or.inr h
  have hS : va_S A s.heap s.heap [] := va_S.rf
  have hP : va_P dg vwCl (sbO o a n ml ++ (stO q t)) s.heap := hP
  have hl := lv_entry ([.ref o, .ref q]) (n := 2) (Nat.le_of_ble_eq_true rfl)
  rw [lg_entry_eq]
  generalize (lg_sl ([.ref o, .ref q]) ++ List.replicate (2 - (lg_sl ([.ref o, .ref q])).length) Slot.unset).toArray = ls at hl ⊢
  have hl : lv_has ls 2 [(0, .ref o), (1, .ref q)] := hl
  refine va_gets (v := .int (zI 1)) hx hb hC.cmp hS hown (htg _ wq_255) (fun _ h9 => h9) dJ5_inflateIfNeededFor_a7421_0 ?_
  refine x_if_eq (tgt := 21) hx hb dJ5_inflateIfNeededFor_a7421_3 (by decide) (by omega) (fun c3 => absurd c3 (by decide)) (fun c3 => ?_)
  refine lv_aload_n hx hb dJ5_inflateIfNeededFor_a7421_6 rfl (lv_at hl 0 rfl) ?_
  refine va_get (D := dg) (ci := 1) (v := .int (zI 0)) (C := RJ4) (T := TJ4) (N := 4) hx hb htg inG_J4 hown hK hP 0 rfl rfl 1 (Nat.le_of_ble_eq_true rfl) (htg _ wq_265) (fun _ h9 => h9) rfl dJ5_inflateIfNeededFor_a7421_7 ?_
  refine lv_aload_n hx hb dJ5_inflateIfNeededFor_a7421_10 rfl (lv_at hl 1 rfl) ?_
  refine x_calliUB (wf := fun u11 : Unit => stO q t ++ (sbO o a n ml)) (M := stO q t) (Mf := fun u11 => stO q t) (N := sbO o a n ml) (cat_perm [sbO o a n ml, stO q t] [1] [0] 2 rfl (by decide)) (fun u11 => cat_perm [stO q t, sbO o a n ml] [0] [1] 2 rfl (by decide)) hP hD hS hA (fun hPm hDm => va_runV (As := []) (rest := [.int (zI 0)]) ⟨hx, hb, hml, hown, htg⟩ (f_coder l dg ck ka q t _) (cwV 0 htg (gwV wq_942 wq_930 wq_931 wq_13 wq_932) rfl rfl rfl (by decide +kernel) ⟨Nat.le_of_ble_eq_true rfl, Nat.le_of_ble_eq_true rfl⟩) (wrK_preV hK hPm hDm hC hS hA 0 0 rfl rfl) rfl rfl hl.1 rfl (lv_room (Nat.le_of_ble_eq_true rfl)) dJ5_inflateIfNeededFor_a7421_11 ⟨Nat.le_of_ble_eq_true rfl, Nat.le_of_ble_eq_true rfl⟩) (fun r11 u11 H locs hu11 hP hD hS => ?_)
  have hP : va_P dg vwCl (stO q t ++ (sbO o a n ml)) H := hP
  have hD : va_D A (stO q t ++ (sbO o a n ml)) := hD
  subst hu11
  refine x_icmp_eq (tgt := 21) hx hb dJ5_inflateIfNeededFor_a7421_14 (by decide) (by omega) (by omega) (fun c14 => ?_) (fun c14 => absurd c14 (by decide))
  have hP : va_P dg vwCl (sbO o a n ml ++ (stO q t)) H := va_P_l (w2 := []) (va_P_perm (cat_perm [stO q t, sbO o a n ml] [1, 0] [] 2 rfl (by decide)) hP)
  have hD : va_D A (sbO o a n ml ++ (stO q t)) := va_D_l (w2 := []) (va_D_perm (cat_perm [stO q t, sbO o a n ml] [1, 0] [] 2 rfl (by decide)) hD)
  have hEq : sbO o a n ml ++ (stO q t) = sbO o a n ml ++ (stO q t) := rfl
  exact W.widen (k := 0) (n := 0) (by first | exact Nat.le_of_ble_eq_true rfl | omega) (by first | exact Nat.le_of_ble_eq_true rfl | omega) (W.vret hx hb hr (fun t9 ht9 hW9 => ⟨⟨(), rfl, trivial, by rw [ht9]; show va_P dg vwCl (sbO o a n ml ++ (stO q t)) _; rw [hEq]; exact hP, by rw [hAe]; show va_D A (sbO o a n ml ++ (stO q t)); rw [hEq]; exact hD⟩, hS.F ht9⟩) hS.2.2 dJ5_inflateIfNeededFor_a7421_21)

set_option maxHeartbeats 4000000 in
set_option maxRecDepth 100000 in
/-- java/lang/String.getBytes -/
theorem f_gb (l : Launch) (dg : va_G) (ck : Nat → ClassId) (ka : Nat → Nat) (q t tl a N : Nat) (n : Int) (F Y : Int → Int) (sz : Nat) (hm : tl < 100) (hN : N < 1000) (hn : 0 ≤ n ∧ n + tl ≤ N) (hF : LY tl F) : Met l yJ0_getBytes_840e7 (.code yJ0_getBytes_840e7 cJ0_getBytes_840e7 4 none :: GW) ({ frames := 1, cells := 0, slots := 0, locals := 26 }) (va_Pc [.ref q, .ref a, .int (zI n), .int (zI 0)] (wrK dg ck ka sz (stO q t ++ (bR ck t tl F ++ (bR ck a N Y))))) (va_Qv (fun _ : Unit => True) (fun _ t9 => wrQ dg sz (stO q t ++ (bR ck t tl F ++ (bR ck a N Y))) (stO q t ++ (bR ck t tl F ++ (bR ck a N (cpZ F Y n ((tl : Nat) : Int))))) t9) (va_A (stO q t ++ (bR ck t tl F ++ (bR ck a N Y))) sz)) 0 0 (va_A (stO q t ++ (bR ck t tl F ++ (bR ck a N Y))) sz) := by
  refine Met.ofW (cc := cJ0_getBytes_840e7) (maxL := 4) (ret := none) (by decide) rfl ?_
  intro p e s m args below meth c s₁ B hml hv
  obtain ⟨rfl, ⟨hsz, hP, hK, hD0⟩, hC⟩ := hv
  have hx := B.exec
  have hb := B.bytes
  have hr := B.returns
  have hts := atoms_spec (ws := .code yJ0_getBytes_840e7 cJ0_getBytes_840e7 4 none :: GW) B.pre
  have htg : ∀ w ∈ GW, w.before _ s = true := fun w h => hts w (List.mem_cons_of_mem _ h)
  have hown : s.vm.findClass RJ0 = some m.cls := findClass_of_methodNamed B.named
  have hlocks := B.notSynchronized
  subst hsz
  have hD := hD0.self (sz := s.heap.size)
  generalize hAe : va_A (stO q t ++ (bR ck t tl F ++ (bR ck a N Y))) s.heap.size = A at hD hC ⊢
  have hA : ∀ q : Nat, s.heap.size ≤ q → A q := fun q h => by rw [← hAe]; exact Or.inr h
  have hS : va_S A s.heap s.heap [] := va_S.rf
  have hP : va_P dg vwCl (stO q t ++ (bR ck t tl F ++ (bR ck a N Y))) s.heap := hP
  have hl := lv_entry ([.ref q, .ref a, .int (zI n), .int (zI 0)]) (n := 4) (Nat.le_of_ble_eq_true rfl)
  rw [lg_entry_eq]
  generalize (lg_sl ([.ref q, .ref a, .int (zI n), .int (zI 0)]) ++ List.replicate (4 - (lg_sl ([.ref q, .ref a, .int (zI n), .int (zI 0)])).length) Slot.unset).toArray = ls at hl ⊢
  have hl : lv_has ls 4 [(0, .ref q), (1, .ref a), (2, .int (zI n)), (3, .int (zI 0))] := hl
  refine lv_aload_n hx hb dJ0_getBytes_840e7_0 rfl (lv_at hl 0 rfl) ?_
  refine x_calliUB (wf := fun u1 : Unit => stO q t ++ (bR ck t tl F ++ (bR ck a N Y))) (M := stO q t) (Mf := fun u1 => stO q t) (N := bR ck t tl F ++ (bR ck a N Y)) (cat_perm [stO q t, bR ck t tl F, bR ck a N Y] [0] [1, 2] 3 rfl (by decide)) (fun u1 => cat_perm [stO q t, bR ck t tl F, bR ck a N Y] [0] [1, 2] 3 rfl (by decide)) hP hD hS hA (fun hPm hDm => va_runV (As := []) (rest := []) ⟨hx, hb, hml, hown, htg⟩ (f_coder l dg ck ka q t _) (cwV 0 htg (gwV wq_929 wq_930 wq_931 wq_13 wq_932) rfl rfl rfl (by decide +kernel) ⟨Nat.le_of_ble_eq_true rfl, Nat.le_of_ble_eq_true rfl⟩) (wrK_preV hK hPm hDm hC hS hA 0 0 rfl rfl) rfl rfl hl.1 rfl (lv_room (Nat.le_of_ble_eq_true rfl)) dJ0_getBytes_840e7_1 ⟨Nat.le_of_ble_eq_true rfl, Nat.le_of_ble_eq_true rfl⟩) (fun r1 u1 H locs hu1 hP hD hS => ?_)
  have hP : va_P dg vwCl (stO q t ++ (bR ck t tl F ++ (bR ck a N Y))) H := hP
  have hD : va_D A (stO q t ++ (bR ck t tl F ++ (bR ck a N Y))) := hD
  subst hu1
  refine lv_iload_n hx hb dJ0_getBytes_840e7_4 rfl (lv_at hl 3 rfl) ?_
  refine x_icmp_ne (tgt := 28) hx hb dJ0_getBytes_840e7_5 (by decide) (by omega) (by omega) (fun c5 => absurd c5 (by decide)) (fun c5 => ?_)
  refine lv_aload_n hx hb dJ0_getBytes_840e7_8 rfl (lv_at hl 0 rfl) ?_
  refine va_get (D := dg) (ci := 0) (v := .ref t) (C := RJ0) (T := TJ0) (N := 4) hx hb htg inG_J0 hown hK hP 0 rfl rfl 0 (Nat.le_of_ble_eq_true rfl) (htg _ wq_1055) (fun _ h9 => h9) rfl dJ0_getBytes_840e7_9 ?_
  refine x_iconst hx hb dJ0_getBytes_840e7_12 ?_
  refine lv_aload_n hx hb dJ0_getBytes_840e7_13 rfl (lv_at hl 1 rfl) ?_
  refine lv_iload_n hx hb dJ0_getBytes_840e7_14 rfl (lv_at hl 2 rfl) ?_
  refine lv_iload_n hx hb dJ0_getBytes_840e7_15 rfl (lv_at hl 3 rfl) ?_
  refine x_ishl0 hx hb dJ0_getBytes_840e7_16 ?_
  refine lv_aload_n hx hb dJ0_getBytes_840e7_17 rfl (lv_at hl 0 rfl) ?_
  refine va_get (D := dg) (ci := 0) (v := .ref t) (C := RJ0) (T := TJ0) (N := 4) hx hb htg inG_J0 hown hK hP 0 rfl rfl 0 (Nat.le_of_ble_eq_true rfl) (htg _ wq_1055) (fun _ h9 => h9) rfl dJ0_getBytes_840e7_18 ?_
  refine x_alen hx hb hK hP 1 3 rfl rfl dJ0_getBytes_840e7_21 ?_
  refine x_cpW (n := ((tl : Nat) : Int)) (dp := n) (F := F) (Y := Y) (ws' := stO q t ++ (bR ck t tl F ++ (bR ck a N (cpZ F Y n ((tl : Nat) : Int))))) hx hb (hml.trans hl.1.symm) hown (htg _ wq_966) (htg _ wq_607) (htg _ wq_606) (htg _ wq_24) hK hP hD hS 1 2 3 rfl rfl rfl hF (by omega) (by omega) (by omega) (by omega) (by omega) rfl (Nat.le_of_ble_eq_true rfl) (Nat.le_of_ble_eq_true rfl) dJ0_getBytes_840e7_22 (fun H locs hP hD hS => ?_)
  refine lv_goto (tgt := 43) hx hb dJ0_getBytes_840e7_25 (by decide) ?_
  have hEq : stO q t ++ (bR ck t tl F ++ (bR ck a N (cpZ F Y n ((tl : Nat) : Int)))) = stO q t ++ (bR ck t tl F ++ (bR ck a N (cpZ F Y n ((tl : Nat) : Int)))) := rfl
  exact W.widen (k := 0) (n := 0) (by first | exact Nat.le_of_ble_eq_true rfl | omega) (by first | exact Nat.le_of_ble_eq_true rfl | omega) (W.vret hx hb hr (fun t9 ht9 hW9 => ⟨⟨(), rfl, trivial, by rw [ht9]; show va_P dg vwCl (stO q t ++ (bR ck t tl F ++ (bR ck a N (cpZ F Y n ((tl : Nat) : Int))))) _; rw [hEq]; exact hP, by rw [hAe]; show va_D A (stO q t ++ (bR ck t tl F ++ (bR ck a N (cpZ F Y n ((tl : Nat) : Int))))); rw [hEq]; exact hD⟩, hS.F ht9⟩) hS.2.2 dJ0_getBytes_840e7_43)

set_option maxHeartbeats 4000000 in
set_option maxRecDepth 100000 in
/-- java/lang/AbstractStringBuilder.putStringAt -/
theorem f_ps (l : Launch) (dg : va_G) (ck : Nat → ClassId) (ka : Nat → Nat) (o a N q t tl : Nat) (n ml k : Int) (Y F : Int → Int) (sz : Nat) (hm : tl < 100) (hN : N < 1000) (hn : 0 ≤ k ∧ k + tl ≤ N) (hF : LY tl F) : Met l yJ5_putStringAt_47b60 (.code yJ5_putStringAt_47b60 cJ5_putStringAt_47b60 3 none :: GW) ({ frames := 2, cells := 0, slots := 0, locals := 49 }) (va_Pc [.ref o, .int (zI k), .ref q] (wrK dg ck ka sz (sbO o a n ml ++ (bR ck a N Y ++ (stO q t ++ (bR ck t tl F)))))) (va_Qv (fun _ : Unit => True) (fun _ t9 => wrQ dg sz (sbO o a n ml ++ (bR ck a N Y ++ (stO q t ++ (bR ck t tl F)))) (sbO o a n ml ++ (bR ck a N (cpZ F Y k ((tl : Nat) : Int)) ++ (stO q t ++ (bR ck t tl F)))) t9) (va_A (sbO o a n ml ++ (bR ck a N Y ++ (stO q t ++ (bR ck t tl F)))) sz)) 0 0 (va_A (sbO o a n ml ++ (bR ck a N Y ++ (stO q t ++ (bR ck t tl F)))) sz) := by
  refine Met.ofW (cc := cJ5_putStringAt_47b60) (maxL := 3) (ret := none) (by decide) rfl ?_
  intro p e s m args below meth c s₁ B hml hv
  obtain ⟨rfl, ⟨hsz, hP, hK, hD0⟩, hC⟩ := hv
  have hx := B.exec
  have hb := B.bytes
  have hr := B.returns
  have hts := atoms_spec (ws := .code yJ5_putStringAt_47b60 cJ5_putStringAt_47b60 3 none :: GW) B.pre
  have htg : ∀ w ∈ GW, w.before _ s = true := fun w h => hts w (List.mem_cons_of_mem _ h)
  have hown : s.vm.findClass RJ5 = some m.cls := findClass_of_methodNamed B.named
  have hlocks := B.notSynchronized
  subst hsz
  have hD := hD0.self (sz := s.heap.size)
  generalize hAe : va_A (sbO o a n ml ++ (bR ck a N Y ++ (stO q t ++ (bR ck t tl F)))) s.heap.size = A at hD hC ⊢
  have hA : ∀ q : Nat, s.heap.size ≤ q → A q := fun q h => by rw [← hAe]; exact Or.inr h
  have hS : va_S A s.heap s.heap [] := va_S.rf
  have hP : va_P dg vwCl (sbO o a n ml ++ (bR ck a N Y ++ (stO q t ++ (bR ck t tl F)))) s.heap := hP
  have hl := lv_entry ([.ref o, .int (zI k), .ref q]) (n := 3) (Nat.le_of_ble_eq_true rfl)
  rw [lg_entry_eq]
  generalize (lg_sl ([.ref o, .int (zI k), .ref q]) ++ List.replicate (3 - (lg_sl ([.ref o, .int (zI k), .ref q])).length) Slot.unset).toArray = ls at hl ⊢
  have hl : lv_has ls 3 [(0, .ref o), (1, .int (zI k)), (2, .ref q)] := hl
  refine lv_aload_n hx hb dJ5_putStringAt_47b60_0 rfl (lv_at hl 0 rfl) ?_
  refine lv_aload_n hx hb dJ5_putStringAt_47b60_1 rfl (lv_at hl 2 rfl) ?_
  refine x_callvUB (wf := fun u2 : Unit => sbO o a n ml ++ (stO q t ++ (bR ck a N Y ++ (bR ck t tl F)))) (M := sbO o a n ml ++ (stO q t)) (Mf := fun u2 => sbO o a n ml ++ (stO q t)) (N := bR ck a N Y ++ (bR ck t tl F)) (cat_perm [sbO o a n ml, bR ck a N Y, stO q t, bR ck t tl F] [0, 2] [1, 3] 4 rfl (by decide)) (fun u2 => cat_perm [sbO o a n ml, stO q t, bR ck a N Y, bR ck t tl F] [0, 1] [2, 3] 4 rfl (by decide)) hP hD hS hA (fun hPm hDm => va_runV (As := [.ref q]) (rest := []) ⟨hx, hb, hml, hown, htg⟩ (f_inf l dg ck ka o a n ml q t _) (cwVC 1 htg wq_938 wq_940 (va_Nw.use rfl (hC.nw (w := .selects "java/lang/StringBuilder" ⟨"java/lang/AbstractStringBuilder", "inflateIfNeededFor", "(Ljava/lang/String;)V"⟩ ⟨"java/lang/AbstractStringBuilder", "inflateIfNeededFor", "(Ljava/lang/String;)V"⟩) (by decide +kernel))) wq_11 wq_941 rfl rfl (by decide +kernel) ⟨Nat.le_of_ble_eq_true rfl, Nat.le_of_ble_eq_true rfl⟩) (wrK_preV hK hPm hDm hC hS hA 0 1 rfl rfl) rfl rfl hl.1 rfl (lv_room (Nat.le_of_ble_eq_true rfl)) dJ5_putStringAt_47b60_2 ⟨Nat.le_of_ble_eq_true rfl, Nat.le_of_ble_eq_true rfl⟩) (fun u2 H locs hu2 hP hD hS => ?_)
  have hP : va_P dg vwCl (sbO o a n ml ++ (stO q t ++ (bR ck a N Y ++ (bR ck t tl F)))) H := hP
  have hD : va_D A (sbO o a n ml ++ (stO q t ++ (bR ck a N Y ++ (bR ck t tl F)))) := hD
  refine lv_aload_n hx hb dJ5_putStringAt_47b60_5 rfl (lv_at hl 2 rfl) ?_
  refine lv_aload_n hx hb dJ5_putStringAt_47b60_6 rfl (lv_at hl 0 rfl) ?_
  refine va_get (D := dg) (ci := 1) (v := .ref a) (C := RJ4) (T := TJ4) (N := 4) hx hb htg inG_J4 hown hK hP 0 rfl rfl 0 (Nat.le_of_ble_eq_true rfl) (htg _ wq_264) (fun _ h9 => h9) rfl dJ5_putStringAt_47b60_7 ?_
  refine lv_iload_n hx hb dJ5_putStringAt_47b60_10 rfl (lv_at hl 1 rfl) ?_
  refine lv_aload_n hx hb dJ5_putStringAt_47b60_11 rfl (lv_at hl 0 rfl) ?_
  refine va_get (D := dg) (ci := 1) (v := .int (zI 0)) (C := RJ4) (T := TJ4) (N := 4) hx hb htg inG_J4 hown hK hP 0 rfl rfl 1 (Nat.le_of_ble_eq_true rfl) (htg _ wq_265) (fun _ h9 => h9) rfl dJ5_putStringAt_47b60_12 ?_
  refine x_callvUB (wf := fun u15 : Unit => stO q t ++ (bR ck t tl F ++ (bR ck a N (cpZ F Y k ((tl : Nat) : Int)) ++ (sbO o a n ml)))) (M := stO q t ++ (bR ck t tl F ++ (bR ck a N Y))) (Mf := fun u15 => stO q t ++ (bR ck t tl F ++ (bR ck a N (cpZ F Y k ((tl : Nat) : Int))))) (N := sbO o a n ml) (cat_perm [sbO o a n ml, stO q t, bR ck a N Y, bR ck t tl F] [1, 3, 2] [0] 4 rfl (by decide)) (fun u15 => cat_perm [stO q t, bR ck t tl F, bR ck a N (cpZ F Y k ((tl : Nat) : Int)), sbO o a n ml] [0, 1, 2] [3] 4 rfl (by decide)) hP hD hS hA (fun hPm hDm => va_runV (As := [.ref a, .int (zI k), .int (zI 0)]) (rest := []) ⟨hx, hb, hml, hown, htg⟩ (f_gb l dg ck ka q t tl a N k F Y _ hm hN hn hF) (cwV 3 htg (gwV wq_962 wq_963 wq_964 wq_13 wq_965) rfl rfl rfl (by decide +kernel) ⟨Nat.le_of_ble_eq_true rfl, Nat.le_of_ble_eq_true rfl⟩) (wrK_preV hK hPm hDm hC hS hA 0 0 rfl rfl) rfl rfl hl.1 rfl (lv_room (Nat.le_of_ble_eq_true rfl)) dJ5_putStringAt_47b60_15 ⟨Nat.le_of_ble_eq_true rfl, Nat.le_of_ble_eq_true rfl⟩) (fun u15 H locs hu15 hP hD hS => ?_)
  have hP : va_P dg vwCl (stO q t ++ (bR ck t tl F ++ (bR ck a N (cpZ F Y k ((tl : Nat) : Int)) ++ (sbO o a n ml)))) H := hP
  have hD : va_D A (stO q t ++ (bR ck t tl F ++ (bR ck a N (cpZ F Y k ((tl : Nat) : Int)) ++ (sbO o a n ml)))) := hD
  have hP : va_P dg vwCl (sbO o a n ml ++ (bR ck a N (cpZ F Y k ((tl : Nat) : Int)) ++ (stO q t ++ (bR ck t tl F)))) H := va_P_l (w2 := []) (va_P_perm (cat_perm [stO q t, bR ck t tl F, bR ck a N (cpZ F Y k ((tl : Nat) : Int)), sbO o a n ml] [3, 2, 0, 1] [] 4 rfl (by decide)) hP)
  have hD : va_D A (sbO o a n ml ++ (bR ck a N (cpZ F Y k ((tl : Nat) : Int)) ++ (stO q t ++ (bR ck t tl F)))) := va_D_l (w2 := []) (va_D_perm (cat_perm [stO q t, bR ck t tl F, bR ck a N (cpZ F Y k ((tl : Nat) : Int)), sbO o a n ml] [3, 2, 0, 1] [] 4 rfl (by decide)) hD)
  have hEq : sbO o a n ml ++ (bR ck a N (cpZ F Y k ((tl : Nat) : Int)) ++ (stO q t ++ (bR ck t tl F))) = sbO o a n ml ++ (bR ck a N (cpZ F Y k ((tl : Nat) : Int)) ++ (stO q t ++ (bR ck t tl F))) := rfl
  exact W.widen (k := 0) (n := 0) (by first | exact Nat.le_of_ble_eq_true rfl | omega) (by first | exact Nat.le_of_ble_eq_true rfl | omega) (W.vret hx hb hr (fun t9 ht9 hW9 => ⟨⟨(), rfl, trivial, by rw [ht9]; show va_P dg vwCl (sbO o a n ml ++ (bR ck a N (cpZ F Y k ((tl : Nat) : Int)) ++ (stO q t ++ (bR ck t tl F)))) _; rw [hEq]; exact hP, by rw [hAe]; show va_D A (sbO o a n ml ++ (bR ck a N (cpZ F Y k ((tl : Nat) : Int)) ++ (stO q t ++ (bR ck t tl F)))); rw [hEq]; exact hD⟩, hS.F ht9⟩) hS.2.2 dJ5_putStringAt_47b60_18)

set_option maxHeartbeats 4000000 in
set_option maxRecDepth 100000 in
/-- jdk/internal/util/ArraysSupport.newLength -/
theorem j_newLen (l : Launch) (dg : va_G) (ck : Nat → ClassId) (ka : Nat → Nat) (x : Int) (sz : Nat) (hx0 : 17 ≤ x ∧ x ≤ 34) : Met l yJ8_newLength_cabcc (.code yJ8_newLength_cabcc cJ8_newLength_cabcc 4 (some .int) :: GW) ({ frames := 1, cells := 0, slots := 0, locals := 21 }) (va_Pc [.int (zI 16), .int (zI (x - 16)), .int (zI 18)] (wrK dg ck ka sz (([] : va_W)))) (va_Qi (fun r (_ : Unit) => r = zI 34) (fun _ t9 => wrQ dg sz (([] : va_W)) (([] : va_W)) t9) (va_A (([] : va_W)) sz)) 0 0 (va_A (([] : va_W)) sz) := by
  refine Met.ofW (cc := cJ8_newLength_cabcc) (maxL := 4) (ret := (some .int)) (by decide) rfl ?_
  intro p e s m args below meth c s₁ B hml hv
  obtain ⟨rfl, ⟨hsz, hP, hK, hD0⟩, hC⟩ := hv
  have hx := B.exec
  have hb := B.bytes
  have hr := B.returns
  have hts := atoms_spec (ws := .code yJ8_newLength_cabcc cJ8_newLength_cabcc 4 (some .int) :: GW) B.pre
  have htg : ∀ w ∈ GW, w.before _ s = true := fun w h => hts w (List.mem_cons_of_mem _ h)
  have hown : s.vm.findClass RJ8 = some m.cls := findClass_of_methodNamed B.named
  have hlocks := B.notSynchronized
  subst hsz
  have hD := hD0.self (sz := s.heap.size)
  generalize hAe : va_A (([] : va_W)) s.heap.size = A at hD hC ⊢
  have hA : ∀ q : Nat, s.heap.size ≤ q → A q := fun q h => by rw [← hAe]; exact Or.inr h
  have hS : va_S A s.heap s.heap [] := va_S.rf
  have hP : va_P dg vwCl (([] : va_W)) s.heap := hP
  have hl := lv_entry ([.int (zI 16), .int (zI (x - 16)), .int (zI 18)]) (n := 4) (Nat.le_of_ble_eq_true rfl)
  rw [lg_entry_eq]
  generalize (lg_sl ([.int (zI 16), .int (zI (x - 16)), .int (zI 18)]) ++ List.replicate (4 - (lg_sl ([.int (zI 16), .int (zI (x - 16)), .int (zI 18)])).length) Slot.unset).toArray = ls at hl ⊢
  have hl : lv_has ls 4 [(0, .int (zI 16)), (1, .int (zI (x - 16))), (2, .int (zI 18))] := hl
  refine lv_iload_n hx hb dJ8_newLength_cabcc_0 rfl (lv_at hl 0 rfl) ?_
  refine lv_iload_n hx hb dJ8_newLength_cabcc_1 rfl (lv_at hl 1 rfl) ?_
  refine lv_iload_n hx hb dJ8_newLength_cabcc_2 rfl (lv_at hl 2 rfl) ?_
  refine x_mmax hx hb (hml.trans hl.1.symm) hown (htg _ wq_876) (htg _ wq_466) (htg _ wq_23) (htg _ wq_467) (Nat.le_of_ble_eq_true rfl) (Nat.le_of_ble_eq_true rfl) (Nat.le_of_ble_eq_true rfl) (by first | exact Nat.le_of_ble_eq_true rfl | (show _ ≤ 0; omega)) (by omega) (by omega) dJ8_newLength_cabcc_3 (fun m3 hm3 => ?_)
  refine x_is (show m3 = 18 by omega) ?_
  refine x_iadd hx hb dJ8_newLength_cabcc_6 ?_
  refine W.eq (g2 := F0 m 7 ls [.int (zI 34)]) rfl ?_
  refine lv_istore_n (lv' := [(3, .int (zI 34)), (0, .int (zI 16)), (1, .int (zI (x - 16))), (2, .int (zI 18))]) hx hb dJ8_newLength_cabcc_7 rfl hl (by decide) rfl (fun ls hl => ?_)
  refine x_iconst hx hb dJ8_newLength_cabcc_8 ?_
  refine lv_iload_n hx hb dJ8_newLength_cabcc_9 rfl (lv_at hl 0 rfl) ?_
  refine x_icmp_ge (tgt := 21) hx hb dJ8_newLength_cabcc_10 (by decide) (by omega) (by omega) (fun c10 => absurd c10 (by decide)) (fun c10 => ?_)
  refine lv_iload_n hx hb dJ8_newLength_cabcc_13 rfl (lv_at hl 0 rfl) ?_
  refine lv_ldc hx hb hown (htg _ wq_877) dJ8_newLength_cabcc_14 ?_
  refine W.eq (g2 := F0 m 16 ls [.int (zI 2147483639), .int (zI 34)]) rfl ?_
  refine x_icmp_gt (tgt := 21) hx hb dJ8_newLength_cabcc_16 (by decide) (by omega) (by omega) (fun c16 => absurd c16 (by decide)) (fun c16 => ?_)
  refine lv_iload_n hx hb dJ8_newLength_cabcc_19 rfl (lv_at hl 0 rfl) ?_
  have hEq : ([] : va_W) = ([] : va_W) := rfl
  exact W.widen (k := 0) (n := 0) (by first | exact Nat.le_of_ble_eq_true rfl | omega) (by first | exact Nat.le_of_ble_eq_true rfl | omega) (W.iret (v := _) hx hb hr (fun t9 ht9 hW9 => ⟨⟨_, (), rfl, rfl, by rw [ht9]; show va_P dg vwCl (([] : va_W)) _; rw [hEq]; exact hP, by rw [hAe]; show va_D A (([] : va_W)); rw [hEq]; exact hD⟩, hS.F ht9⟩) hS.2.2 dJ8_newLength_cabcc_20)

set_option maxHeartbeats 4000000 in
set_option maxRecDepth 100000 in
/-- java/lang/AbstractStringBuilder.newCapacity -/
theorem j_newCap (l : Launch) (dg : va_G) (ck : Nat → ClassId) (ka : Nat → Nat) (o a : Nat) (n ml : Int) (Y : Int → Int) (x : Int) (sz : Nat) (hx0 : 17 ≤ x ∧ x ≤ 34) : Met l yJ5_newCapacity_0f7a4 (.code yJ5_newCapacity_0f7a4 cJ5_newCapacity_0f7a4 6 (some .int) :: GW) ({ frames := 2, cells := 0, slots := 0, locals := 44 }) (va_Pc [.ref o, .int (zI x)] (wrK dg ck ka sz (sbO o a n ml ++ (bR ck a 16 Y)))) (va_Qi (fun r (_ : Unit) => r = zI 34) (fun _ t9 => wrQ dg sz (sbO o a n ml ++ (bR ck a 16 Y)) (sbO o a n ml ++ (bR ck a 16 Y)) t9) (va_A (sbO o a n ml ++ (bR ck a 16 Y)) sz)) 0 0 (va_A (sbO o a n ml ++ (bR ck a 16 Y)) sz) := by
  refine Met.ofW (cc := cJ5_newCapacity_0f7a4) (maxL := 6) (ret := (some .int)) (by decide) rfl ?_
  intro p e s m args below meth c s₁ B hml hv
  obtain ⟨rfl, ⟨hsz, hP, hK, hD0⟩, hC⟩ := hv
  have hx := B.exec
  have hb := B.bytes
  have hr := B.returns
  have hts := atoms_spec (ws := .code yJ5_newCapacity_0f7a4 cJ5_newCapacity_0f7a4 6 (some .int) :: GW) B.pre
  have htg : ∀ w ∈ GW, w.before _ s = true := fun w h => hts w (List.mem_cons_of_mem _ h)
  have hown : s.vm.findClass RJ5 = some m.cls := findClass_of_methodNamed B.named
  have hlocks := B.notSynchronized
  subst hsz
  have hD := hD0.self (sz := s.heap.size)
  generalize hAe : va_A (sbO o a n ml ++ (bR ck a 16 Y)) s.heap.size = A at hD hC ⊢
  have hA : ∀ q : Nat, s.heap.size ≤ q → A q := fun q h => by rw [← hAe]; exact Or.inr h
  have hS : va_S A s.heap s.heap [] := va_S.rf
  have hP : va_P dg vwCl (sbO o a n ml ++ (bR ck a 16 Y)) s.heap := hP
  have hl := lv_entry ([.ref o, .int (zI x)]) (n := 6) (Nat.le_of_ble_eq_true rfl)
  rw [lg_entry_eq]
  generalize (lg_sl ([.ref o, .int (zI x)]) ++ List.replicate (6 - (lg_sl ([.ref o, .int (zI x)])).length) Slot.unset).toArray = ls at hl ⊢
  have hl : lv_has ls 6 [(0, .ref o), (1, .int (zI x))] := hl
  refine lv_aload_n hx hb dJ5_newCapacity_0f7a4_0 rfl (lv_at hl 0 rfl) ?_
  refine va_get (D := dg) (ci := 1) (v := .ref a) (C := RJ4) (T := TJ4) (N := 4) hx hb htg inG_J4 hown hK hP 0 rfl rfl 0 (Nat.le_of_ble_eq_true rfl) (htg _ wq_264) (fun _ h9 => h9) rfl dJ5_newCapacity_0f7a4_1 ?_
  refine x_alen hx hb hK hP 1 3 rfl rfl dJ5_newCapacity_0f7a4_4 ?_
  refine lv_istore_n (lv' := [(2, .int (zI 16)), (0, .ref o), (1, .int (zI x))]) hx hb dJ5_newCapacity_0f7a4_5 rfl hl (by decide) rfl (fun ls hl => ?_)
  refine lv_iload_n hx hb dJ5_newCapacity_0f7a4_6 rfl (lv_at hl 2 rfl) ?_
  refine lv_aload_n hx hb dJ5_newCapacity_0f7a4_7 rfl (lv_at hl 1 rfl) ?_
  refine va_get (D := dg) (ci := 1) (v := .int (zI 0)) (C := RJ4) (T := TJ4) (N := 4) hx hb htg inG_J4 hown hK hP 0 rfl rfl 1 (Nat.le_of_ble_eq_true rfl) (htg _ wq_265) (fun _ h9 => h9) rfl dJ5_newCapacity_0f7a4_8 ?_
  refine x_ishl0 hx hb dJ5_newCapacity_0f7a4_11 ?_
  refine lv_istore_n (lv' := [(3, .int (zI x)), (2, .int (zI 16)), (0, .ref o), (1, .int (zI x))]) hx hb dJ5_newCapacity_0f7a4_12 rfl hl (by decide) rfl (fun ls hl => ?_)
  refine lv_iload_n hx hb dJ5_newCapacity_0f7a4_13 rfl (lv_at hl 0 rfl) ?_
  refine lv_iload_n hx hb dJ5_newCapacity_0f7a4_14 rfl (lv_at hl 1 rfl) ?_
  refine x_isub hx hb dJ5_newCapacity_0f7a4_15 ?_
  refine lv_istore (lv' := [(4, .int (zI (x - 16))), (3, .int (zI x)), (2, .int (zI 16)), (0, .ref o), (1, .int (zI x))]) hx hb dJ5_newCapacity_0f7a4_16 hl (by decide) rfl (fun ls hl => ?_)
  refine lv_iload_n hx hb dJ5_newCapacity_0f7a4_18 rfl (lv_at hl 2 rfl) ?_
  refine lv_iload hx hb dJ5_newCapacity_0f7a4_19 (lv_at hl 0 rfl) ?_
  refine lv_iload_n hx hb dJ5_newCapacity_0f7a4_21 rfl (lv_at hl 2 rfl) ?_
  refine x_iconst hx hb dJ5_newCapacity_0f7a4_22 ?_
  refine lv_aload_n hx hb dJ5_newCapacity_0f7a4_23 rfl (lv_at hl 3 rfl) ?_
  refine va_get (D := dg) (ci := 1) (v := .int (zI 0)) (C := RJ4) (T := TJ4) (N := 4) hx hb htg inG_J4 hown hK hP 0 rfl rfl 1 (Nat.le_of_ble_eq_true rfl) (htg _ wq_265) (fun _ h9 => h9) rfl dJ5_newCapacity_0f7a4_24 ?_
  refine x_ishl0 hx hb dJ5_newCapacity_0f7a4_27 ?_
  refine x_iadd hx hb dJ5_newCapacity_0f7a4_28 ?_
  refine W.eq (g2 := F0 m 29 ls [.int (zI 18), .int (zI (x - 16)), .int (zI 16)]) rfl ?_
  refine x_calliUB (wf := fun u29 : Unit => sbO o a n ml ++ (bR ck a 16 Y)) (M := []) (Mf := fun u29 => []) (N := sbO o a n ml ++ (bR ck a 16 Y)) (cat_perm [sbO o a n ml, bR ck a 16 Y] [] [0, 1] 2 rfl (by decide)) (fun u29 => cat_perm [sbO o a n ml, bR ck a 16 Y] [] [0, 1] 2 rfl (by decide)) hP hD hS hA (fun hPm hDm => va_runS (As := [.int (zI 16), .int (zI (x - 16)), .int (zI 18)]) (rest := []) ⟨hx, hb, hml, hown, htg⟩ (j_newLen l dg ck ka x _ hx0) (cwSC 3 htg wq_873 wq_874 wq_22 wq_875 rfl rfl (by decide +kernel) ⟨Nat.le_of_ble_eq_true rfl, Nat.le_of_ble_eq_true rfl⟩) (wrK_preS hK hPm hDm hC hS hA) rfl rfl hl.1 rfl (lv_room (Nat.le_of_ble_eq_true rfl)) dJ5_newCapacity_0f7a4_29 ⟨Nat.le_of_ble_eq_true rfl, Nat.le_of_ble_eq_true rfl⟩) (fun r29 u29 H locs hu29 hP hD hS => ?_)
  have hP : va_P dg vwCl (sbO o a n ml ++ (bR ck a 16 Y)) H := hP
  have hD : va_D A (sbO o a n ml ++ (bR ck a 16 Y)) := hD
  subst hu29
  refine lv_istore (lv' := [(5, .int (zI 34)), (4, .int (zI (x - 16))), (3, .int (zI x)), (2, .int (zI 16)), (0, .ref o), (1, .int (zI x))]) hx hb dJ5_newCapacity_0f7a4_32 hl (by decide) rfl (fun ls hl => ?_)
  refine lv_iload hx hb dJ5_newCapacity_0f7a4_34 (lv_at hl 0 rfl) ?_
  refine lv_ldc hx hb hown (htg _ wq_881) dJ5_newCapacity_0f7a4_36 ?_
  refine W.eq (g2 := F0 m 38 ls [.int (zI 2147483647), .int (zI 34)]) rfl ?_
  refine x_icmp_ne (tgt := 51) hx hb dJ5_newCapacity_0f7a4_38 (by decide) (by omega) (by omega) (fun c38 => ?_) (fun c38 => absurd c38 (by decide))
  refine lv_iload hx hb dJ5_newCapacity_0f7a4_51 (lv_at hl 0 rfl) ?_
  refine lv_aload_n hx hb dJ5_newCapacity_0f7a4_53 rfl (lv_at hl 4 rfl) ?_
  refine va_get (D := dg) (ci := 1) (v := .int (zI 0)) (C := RJ4) (T := TJ4) (N := 4) hx hb htg inG_J4 hown hK hP 0 rfl rfl 1 (Nat.le_of_ble_eq_true rfl) (htg _ wq_265) (fun _ h9 => h9) rfl dJ5_newCapacity_0f7a4_54 ?_
  refine x_ishr0 hx hb dJ5_newCapacity_0f7a4_57 ?_
  have hEq : sbO o a n ml ++ (bR ck a 16 Y) = sbO o a n ml ++ (bR ck a 16 Y) := rfl
  exact W.widen (k := 0) (n := 0) (by first | exact Nat.le_of_ble_eq_true rfl | omega) (by first | exact Nat.le_of_ble_eq_true rfl | omega) (W.iret (v := _) hx hb hr (fun t9 ht9 hW9 => ⟨⟨_, (), rfl, rfl, by rw [ht9]; show va_P dg vwCl (sbO o a n ml ++ (bR ck a 16 Y)) _; rw [hEq]; exact hP, by rw [hAe]; show va_D A (sbO o a n ml ++ (bR ck a 16 Y)); rw [hEq]; exact hD⟩, hS.F ht9⟩) hS.2.2 dJ5_newCapacity_0f7a4_58)

set_option maxHeartbeats 4000000 in
set_option maxRecDepth 100000 in
/-- java/util/Arrays.copyOf -/
theorem j_copyOf (l : Launch) (dg : va_G) (ck : Nat → ClassId) (ka : Nat → Nat) (a : Nat) (Y : Int → Int) (sz : Nat) (hLY : LY 16 Y) : Met l yJ7_copyOf_9075b (.code yJ7_copyOf_9075b cJ7_copyOf_9075b 3 (some (.array .byte)) :: GW) ({ frames := 1, cells := 1, slots := 34, locals := 26 }) (va_Pc [.ref a, .int (zI 34)] (wrK dg ck ka sz (bR ck a 16 Y))) (va_Qr (fun u : Nat => True) (fun u ra t9 => ra = u ∧ wrQ dg sz (bR ck a 16 Y) (bR ck a 16 Y ++ (bR ck u 34 (cpZ Y (fun _ => 0) 0 16))) t9) (va_A (bR ck a 16 Y) sz)) 1 34 (va_A (bR ck a 16 Y) sz) := by
  refine Met.ofW (cc := cJ7_copyOf_9075b) (maxL := 3) (ret := (some (.array .byte))) (by decide) rfl ?_
  intro p e s m args below meth c s₁ B hml hv
  obtain ⟨rfl, ⟨hsz, hP, hK, hD0⟩, hC⟩ := hv
  have hx := B.exec
  have hb := B.bytes
  have hr := B.returns
  have hts := atoms_spec (ws := .code yJ7_copyOf_9075b cJ7_copyOf_9075b 3 (some (.array .byte)) :: GW) B.pre
  have htg : ∀ w ∈ GW, w.before _ s = true := fun w h => hts w (List.mem_cons_of_mem _ h)
  have hown : s.vm.findClass RJ7 = some m.cls := findClass_of_methodNamed B.named
  have hlocks := B.notSynchronized
  subst hsz
  have hD := hD0.self (sz := s.heap.size)
  generalize hAe : va_A (bR ck a 16 Y) s.heap.size = A at hD hC ⊢
  have hA : ∀ q : Nat, s.heap.size ≤ q → A q := fun q h => by rw [← hAe]; exact Or.inr h
  have hS : va_S A s.heap s.heap [] := va_S.rf
  have hP : va_P dg vwCl (bR ck a 16 Y) s.heap := hP
  have hl := lv_entry ([.ref a, .int (zI 34)]) (n := 3) (Nat.le_of_ble_eq_true rfl)
  rw [lg_entry_eq]
  generalize (lg_sl ([.ref a, .int (zI 34)]) ++ List.replicate (3 - (lg_sl ([.ref a, .int (zI 34)])).length) Slot.unset).toArray = ls at hl ⊢
  have hl : lv_has ls 3 [(0, .ref a), (1, .int (zI 34))] := hl
  refine lv_iload_n hx hb dJ7_copyOf_9075b_0 rfl (lv_at hl 1 rfl) ?_
  refine lv_aload_n hx hb dJ7_copyOf_9075b_1 rfl (lv_at hl 0 rfl) ?_
  refine x_alen hx hb hK hP 0 3 rfl rfl dJ7_copyOf_9075b_2 ?_
  refine x_icmp_ne (tgt := 14) hx hb dJ7_copyOf_9075b_3 (by decide) (by omega) (by omega) (fun c3 => ?_) (fun c3 => absurd c3 (by decide))
  refine lv_iload_n hx hb dJ7_copyOf_9075b_14 rfl (lv_at hl 1 rfl) ?_
  refine x_newi (atype := .byte) (ty := .byte) (f := zz (fun _ => 0)) (N := 34) hx hb (htg _ wq_278) rfl (fun _ h => h) hK hP hD hS hA 3 rfl (fun _ => rfl) (fun h9 => by have h8 := (zI_lt (a := 34) (b := 0) (by omega) (by omega)).mp h9; omega) (by rw [zI_clamp (by omega)] <;> first | rfl | omega) (by show 34 * 1 ≤ 536870912; omega) (Nat.le_of_ble_eq_true rfl) (by first | exact Nat.le_of_ble_eq_true rfl | (show _ ≤ 34; omega)) dJ7_copyOf_9075b_15 (fun q15 H hP hD hS => ?_)
  have hP : va_P dg vwCl (bR ck a 16 Y ++ (bR ck q15 34 (fun _ => 0))) H := va_P_eq (by simp only [List.append_assoc] <;> rfl) hP
  have hD : va_D A (bR ck a 16 Y ++ (bR ck q15 34 (fun _ => 0))) := va_D_eq (by simp only [List.append_assoc] <;> rfl) hD
  refine lv_astore_n (lv' := [(2, .ref q15), (0, .ref a), (1, .int (zI 34))]) hx hb dJ7_copyOf_9075b_17 rfl hl (by decide) rfl (fun ls hl => ?_)
  refine lv_aload_n hx hb dJ7_copyOf_9075b_18 rfl (lv_at hl 1 rfl) ?_
  refine x_iconst hx hb dJ7_copyOf_9075b_19 ?_
  refine lv_aload_n hx hb dJ7_copyOf_9075b_20 rfl (lv_at hl 0 rfl) ?_
  refine x_iconst hx hb dJ7_copyOf_9075b_21 ?_
  refine lv_aload_n hx hb dJ7_copyOf_9075b_22 rfl (lv_at hl 1 rfl) ?_
  refine x_alen hx hb hK hP 0 3 rfl rfl dJ7_copyOf_9075b_23 ?_
  refine lv_iload_n hx hb dJ7_copyOf_9075b_24 rfl (lv_at hl 2 rfl) ?_
  refine x_mmin hx hb (hml.trans hl.1.symm) hown (htg _ wq_892) (htg _ wq_718) (htg _ wq_23) (htg _ wq_719) (Nat.le_of_ble_eq_true rfl) (Nat.le_of_ble_eq_true rfl) (Nat.le_of_ble_eq_true rfl) (by first | exact Nat.le_of_ble_eq_true rfl | (show _ ≤ 34; omega)) (by omega) (by omega) dJ7_copyOf_9075b_25 (fun m25 hm25 => ?_)
  refine x_is (show m25 = 16 by omega) ?_
  refine x_cpW (n := 16) (dp := 0) (F := Y) (Y := (fun _ => 0)) (ws' := bR ck a 16 Y ++ (bR ck q15 34 (cpZ Y (fun _ => 0) 0 16))) hx hb (hml.trans hl.1.symm) hown (htg _ wq_893) (htg _ wq_607) (htg _ wq_606) (htg _ wq_24) hK hP hD hS 0 1 3 rfl rfl rfl hLY (by omega) (by omega) (by omega) (by omega) (by omega) rfl (Nat.le_of_ble_eq_true rfl) (Nat.le_of_ble_eq_true rfl) dJ7_copyOf_9075b_28 (fun H locs hP hD hS => ?_)
  refine lv_aload_n hx hb dJ7_copyOf_9075b_31 rfl (lv_at hl 0 rfl) ?_
  have hEq : bR ck a 16 Y ++ (bR ck q15 34 (cpZ Y (fun _ => 0) 0 16)) = bR ck a 16 Y ++ (bR ck q15 34 (cpZ Y (fun _ => 0) 0 16)) := rfl
  exact W.widen (k := 1) (n := 34) (by first | exact Nat.le_of_ble_eq_true rfl | omega) (by first | exact Nat.le_of_ble_eq_true rfl | omega) (W.aret (v := .ref q15) hx hb hr (Or.inr ⟨_, rfl⟩) (Or.inr ⟨_, rfl⟩) (fun t9 ht9 hW9 => ⟨⟨q15, _, rfl, trivial, rfl, by rw [ht9]; show va_P dg vwCl (bR ck a 16 Y ++ (bR ck q15 34 (cpZ Y (fun _ => 0) 0 16))) _; rw [hEq]; exact hP, by rw [hAe]; show va_D A (bR ck a 16 Y ++ (bR ck q15 34 (cpZ Y (fun _ => 0) 0 16))); rw [hEq]; exact hD⟩, hS.F ht9⟩) hS.2.2 dJ7_copyOf_9075b_32)

set_option maxHeartbeats 4000000 in
set_option maxRecDepth 100000 in
/-- java/lang/AbstractStringBuilder.ensureCapacityInternal -/
theorem j_ensG (l : Launch) (dg : va_G) (ck : Nat → ClassId) (ka : Nat → Nat) (o a : Nat) (n ml : Int) (Y : Int → Int) (x : Int) (sz : Nat) (hx0 : 17 ≤ x ∧ x ≤ 34) (hLY : LY 16 Y) : Met l yJ5_ensureCapacityInternal_d00df (.code yJ5_ensureCapacityInternal_d00df cJ5_ensureCapacityInternal_d00df 3 none :: GW) ({ frames := 3, cells := 1, slots := 34, locals := 69 }) (va_Pc [.ref o, .int (zI x)] (wrK dg ck ka sz (sbO o a n ml ++ (bR ck a 16 Y)))) (va_Qv (fun u : Nat => True) (fun u t9 => wrQ dg sz (sbO o a n ml ++ (bR ck a 16 Y)) (sbO o u n ml ++ (bR ck u 34 (cpZ Y (fun _ => 0) 0 16))) t9) (va_A (sbO o a n ml ++ (bR ck a 16 Y)) sz)) 1 34 (va_A (sbO o a n ml ++ (bR ck a 16 Y)) sz) := by
  refine Met.ofW (cc := cJ5_ensureCapacityInternal_d00df) (maxL := 3) (ret := none) (by decide) rfl ?_
  intro p e s m args below meth c s₁ B hml hv
  obtain ⟨rfl, ⟨hsz, hP, hK, hD0⟩, hC⟩ := hv
  have hx := B.exec
  have hb := B.bytes
  have hr := B.returns
  have hts := atoms_spec (ws := .code yJ5_ensureCapacityInternal_d00df cJ5_ensureCapacityInternal_d00df 3 none :: GW) B.pre
  have htg : ∀ w ∈ GW, w.before _ s = true := fun w h => hts w (List.mem_cons_of_mem _ h)
  have hown : s.vm.findClass RJ5 = some m.cls := findClass_of_methodNamed B.named
  have hlocks := B.notSynchronized
  subst hsz
  have hD := hD0.self (sz := s.heap.size)
  generalize hAe : va_A (sbO o a n ml ++ (bR ck a 16 Y)) s.heap.size = A at hD hC ⊢
  have hA : ∀ q : Nat, s.heap.size ≤ q → A q := fun q h => by rw [← hAe]; exact Or.inr h
  have hS : va_S A s.heap s.heap [] := va_S.rf
  have hP : va_P dg vwCl (sbO o a n ml ++ (bR ck a 16 Y)) s.heap := hP
  have hl := lv_entry ([.ref o, .int (zI x)]) (n := 3) (Nat.le_of_ble_eq_true rfl)
  rw [lg_entry_eq]
  generalize (lg_sl ([.ref o, .int (zI x)]) ++ List.replicate (3 - (lg_sl ([.ref o, .int (zI x)])).length) Slot.unset).toArray = ls at hl ⊢
  have hl : lv_has ls 3 [(0, .ref o), (1, .int (zI x))] := hl
  refine lv_aload_n hx hb dJ5_ensureCapacityInternal_d00df_0 rfl (lv_at hl 0 rfl) ?_
  refine va_get (D := dg) (ci := 1) (v := .ref a) (C := RJ4) (T := TJ4) (N := 4) hx hb htg inG_J4 hown hK hP 0 rfl rfl 0 (Nat.le_of_ble_eq_true rfl) (htg _ wq_264) (fun _ h9 => h9) rfl dJ5_ensureCapacityInternal_d00df_1 ?_
  refine x_alen hx hb hK hP 1 3 rfl rfl dJ5_ensureCapacityInternal_d00df_4 ?_
  refine lv_aload_n hx hb dJ5_ensureCapacityInternal_d00df_5 rfl (lv_at hl 0 rfl) ?_
  refine va_get (D := dg) (ci := 1) (v := .int (zI 0)) (C := RJ4) (T := TJ4) (N := 4) hx hb htg inG_J4 hown hK hP 0 rfl rfl 1 (Nat.le_of_ble_eq_true rfl) (htg _ wq_265) (fun _ h9 => h9) rfl dJ5_ensureCapacityInternal_d00df_6 ?_
  refine x_ishr0 hx hb dJ5_ensureCapacityInternal_d00df_9 ?_
  refine lv_istore_n (lv' := [(2, .int (zI 16)), (0, .ref o), (1, .int (zI x))]) hx hb dJ5_ensureCapacityInternal_d00df_10 rfl hl (by decide) rfl (fun ls hl => ?_)
  refine lv_iload_n hx hb dJ5_ensureCapacityInternal_d00df_11 rfl (lv_at hl 2 rfl) ?_
  refine lv_iload_n hx hb dJ5_ensureCapacityInternal_d00df_12 rfl (lv_at hl 0 rfl) ?_
  refine x_isub hx hb dJ5_ensureCapacityInternal_d00df_13 ?_
  refine x_if_le (tgt := 38) hx hb dJ5_ensureCapacityInternal_d00df_14 (by decide) (by omega) (fun c14 => False.elim (by omega)) (fun c14 => ?_)
  refine lv_aload_n hx hb dJ5_ensureCapacityInternal_d00df_17 rfl (lv_at hl 1 rfl) ?_
  refine lv_aload_n hx hb dJ5_ensureCapacityInternal_d00df_18 rfl (lv_at hl 1 rfl) ?_
  refine va_get (D := dg) (ci := 1) (v := .ref a) (C := RJ4) (T := TJ4) (N := 4) hx hb htg inG_J4 hown hK hP 0 rfl rfl 0 (Nat.le_of_ble_eq_true rfl) (htg _ wq_264) (fun _ h9 => h9) rfl dJ5_ensureCapacityInternal_d00df_19 ?_
  refine lv_aload_n hx hb dJ5_ensureCapacityInternal_d00df_22 rfl (lv_at hl 1 rfl) ?_
  refine lv_iload_n hx hb dJ5_ensureCapacityInternal_d00df_23 rfl (lv_at hl 2 rfl) ?_
  refine x_calliUB (wf := fun u24 : Unit => sbO o a n ml ++ (bR ck a 16 Y)) (M := sbO o a n ml ++ (bR ck a 16 Y)) (Mf := fun u24 => sbO o a n ml ++ (bR ck a 16 Y)) (N := []) (cat_perm [sbO o a n ml, bR ck a 16 Y] [0, 1] [] 2 rfl (by decide)) (fun u24 => cat_perm [sbO o a n ml, bR ck a 16 Y] [0, 1] [] 2 rfl (by decide)) hP hD hS hA (fun hPm hDm => va_runV (As := [.int (zI x)]) (rest := [.ref a, .ref o]) ⟨hx, hb, hml, hown, htg⟩ (j_newCap l dg ck ka o a n ml Y x _ hx0) (cwVC 1 htg wq_869 wq_871 (va_Nw.use rfl (hC.nw (w := .selects "java/lang/StringBuilder" ⟨"java/lang/AbstractStringBuilder", "newCapacity", "(I)I"⟩ ⟨"java/lang/AbstractStringBuilder", "newCapacity", "(I)I"⟩) (by decide +kernel))) wq_11 wq_872 rfl rfl (by decide +kernel) ⟨Nat.le_of_ble_eq_true rfl, Nat.le_of_ble_eq_true rfl⟩) (wrK_preV hK hPm hDm hC hS hA 0 1 rfl rfl) rfl rfl hl.1 rfl (lv_room (Nat.le_of_ble_eq_true rfl)) dJ5_ensureCapacityInternal_d00df_24 ⟨Nat.le_of_ble_eq_true rfl, Nat.le_of_ble_eq_true rfl⟩) (fun r24 u24 H locs hu24 hP hD hS => ?_)
  have hP : va_P dg vwCl (sbO o a n ml ++ (bR ck a 16 Y)) H := hP
  have hD : va_D A (sbO o a n ml ++ (bR ck a 16 Y)) := hD
  subst hu24
  refine lv_aload_n hx hb dJ5_ensureCapacityInternal_d00df_27 rfl (lv_at hl 1 rfl) ?_
  refine va_get (D := dg) (ci := 1) (v := .int (zI 0)) (C := RJ4) (T := TJ4) (N := 4) hx hb htg inG_J4 hown hK hP 0 rfl rfl 1 (Nat.le_of_ble_eq_true rfl) (htg _ wq_265) (fun _ h9 => h9) rfl dJ5_ensureCapacityInternal_d00df_28 ?_
  refine x_ishl0 hx hb dJ5_ensureCapacityInternal_d00df_31 ?_
  refine x_callrUB (fr := fun u32 : Nat => u32) (wf := fun u32 : Nat => bR ck a 16 Y ++ (bR ck u32 34 (cpZ Y (fun _ => 0) 0 16) ++ (sbO o a n ml))) (M := bR ck a 16 Y) (Mf := fun u32 => bR ck a 16 Y ++ (bR ck u32 34 (cpZ Y (fun _ => 0) 0 16))) (N := sbO o a n ml) (cat_perm [sbO o a n ml, bR ck a 16 Y] [1] [0] 2 rfl (by decide)) (fun u32 => cat_perm [bR ck a 16 Y, bR ck u32 34 (cpZ Y (fun _ => 0) 0 16), sbO o a n ml] [0, 1] [2] 3 rfl (by decide)) hP hD hS hA (fun hPm hDm => va_runS (As := [.ref a, .int (zI 34)]) (rest := [.ref o]) ⟨hx, hb, hml, hown, htg⟩ (j_copyOf l dg ck ka a Y _ hLY) (cwSC 2 htg wq_882 wq_883 wq_4 wq_884 rfl rfl (by decide +kernel) ⟨Nat.le_of_ble_eq_true rfl, Nat.le_of_ble_eq_true rfl⟩) (wrK_preS hK hPm hDm hC hS hA) rfl rfl hl.1 rfl (lv_room (Nat.le_of_ble_eq_true rfl)) dJ5_ensureCapacityInternal_d00df_32 ⟨Nat.le_of_ble_eq_true rfl, Nat.le_of_ble_eq_true rfl⟩) (fun u32 H locs hu32 hP hD hS => ?_)
  have hP : va_P dg vwCl (bR ck a 16 Y ++ (bR ck u32 34 (cpZ Y (fun _ => 0) 0 16) ++ (sbO o a n ml))) H := hP
  have hD : va_D A (bR ck a 16 Y ++ (bR ck u32 34 (cpZ Y (fun _ => 0) 0 16) ++ (sbO o a n ml))) := hD
  refine W.eq (g2 := F0 m 35 ls [.ref u32, .ref o]) rfl ?_
  refine va_put (D := dg) (ci := 1) (v := .ref u32) (ty := (.array .byte)) (C := RJ4) (T := TJ4) (N := 4) hx hb htg inG_J4 tyJ4 tyJ4_ok nmJ4 hown hK hP hD hS 2 rfl rfl 0 (Nat.le_of_ble_eq_true rfl) (htg _ wq_264) (fun _ h9 => h9) rfl (by decide +kernel) rfl rfl (Nat.le_of_ble_eq_true rfl) dJ5_ensureCapacityInternal_d00df_35 (fun H locs hP hD hS => ?_)
  have hP : va_P dg vwCl (bR ck a 16 Y ++ (bR ck u32 34 (cpZ Y (fun _ => 0) 0 16) ++ (sbO o u32 n ml))) H := hP
  have hD : va_D A (bR ck a 16 Y ++ (bR ck u32 34 (cpZ Y (fun _ => 0) 0 16) ++ (sbO o u32 n ml))) := hD
  have hP : va_P dg vwCl (sbO o u32 n ml ++ (bR ck u32 34 (cpZ Y (fun _ => 0) 0 16))) H := va_P_l (w2 := bR ck a 16 Y) (va_P_perm (cat_perm [bR ck a 16 Y, bR ck u32 34 (cpZ Y (fun _ => 0) 0 16), sbO o u32 n ml] [2, 1] [0] 3 rfl (by decide)) hP)
  have hD : va_D A (sbO o u32 n ml ++ (bR ck u32 34 (cpZ Y (fun _ => 0) 0 16))) := va_D_l (w2 := bR ck a 16 Y) (va_D_perm (cat_perm [bR ck a 16 Y, bR ck u32 34 (cpZ Y (fun _ => 0) 0 16), sbO o u32 n ml] [2, 1] [0] 3 rfl (by decide)) hD)
  have hEq : sbO o u32 n ml ++ (bR ck u32 34 (cpZ Y (fun _ => 0) 0 16)) = sbO o u32 n ml ++ (bR ck u32 34 (cpZ Y (fun _ => 0) 0 16)) := rfl
  exact W.widen (k := 1) (n := 34) (by first | exact Nat.le_of_ble_eq_true rfl | omega) (by first | exact Nat.le_of_ble_eq_true rfl | omega) (W.vret hx hb hr (fun t9 ht9 hW9 => ⟨⟨u32, rfl, trivial, by rw [ht9]; show va_P dg vwCl (sbO o u32 n ml ++ (bR ck u32 34 (cpZ Y (fun _ => 0) 0 16))) _; rw [hEq]; exact hP, by rw [hAe]; show va_D A (sbO o u32 n ml ++ (bR ck u32 34 (cpZ Y (fun _ => 0) 0 16))); rw [hEq]; exact hD⟩, hS.F ht9⟩) hS.2.2 dJ5_ensureCapacityInternal_d00df_38)

set_option maxHeartbeats 4000000 in
set_option maxRecDepth 100000 in
/-- java/lang/AbstractStringBuilder.append -/
theorem f_as0 (l : Launch) (dg : va_G) (ck : Nat → ClassId) (ka : Nat → Nat) (o a q t tl : Nat) (n ml : Int) (Y F : Int → Int) (sz : Nat) (hm : tl < 100) (hn : 0 ≤ n ∧ n + tl ≤ 16) (hF : LY tl F) : Met l yJ5_append_cf1ce (.code yJ5_append_cf1ce cJ5_append_cf1ce 3 (some (.object "java/lang/AbstractStringBuilder")) :: GW) ({ frames := 3, cells := 0, slots := 0, locals := 71 }) (va_Pc [.ref o, .ref q] (wrK dg ck ka sz (sbO o a n ml ++ (bR ck a 16 Y ++ (stO q t ++ (bR ck t tl F)))))) (va_Qr (fun _ : Unit => True) (fun _ ra t9 => ra = o ∧ wrQ dg sz (sbO o a n ml ++ (bR ck a 16 Y ++ (stO q t ++ (bR ck t tl F)))) (sbO o a (n + ((tl : Nat) : Int)) ml ++ (bR ck a 16 (cpZ F Y n ((tl : Nat) : Int)) ++ (stO q t ++ (bR ck t tl F)))) t9) (va_A (sbO o a n ml ++ (bR ck a 16 Y ++ (stO q t ++ (bR ck t tl F)))) sz)) 0 0 (va_A (sbO o a n ml ++ (bR ck a 16 Y ++ (stO q t ++ (bR ck t tl F)))) sz) := by
  refine Met.ofW (cc := cJ5_append_cf1ce) (maxL := 3) (ret := (some (.object "java/lang/AbstractStringBuilder"))) (by decide) rfl ?_
  intro p e s m args below meth c s₁ B hml hv
  obtain ⟨rfl, ⟨hsz, hP, hK, hD0⟩, hC⟩ := hv
  have hx := B.exec
  have hb := B.bytes
  have hr := B.returns
  have hts := atoms_spec (ws := .code yJ5_append_cf1ce cJ5_append_cf1ce 3 (some (.object "java/lang/AbstractStringBuilder")) :: GW) B.pre
  have htg : ∀ w ∈ GW, w.before _ s = true := fun w h => hts w (List.mem_cons_of_mem _ h)
  have hown : s.vm.findClass RJ5 = some m.cls := findClass_of_methodNamed B.named
  have hlocks := B.notSynchronized
  subst hsz
  have hD := hD0.self (sz := s.heap.size)
  generalize hAe : va_A (sbO o a n ml ++ (bR ck a 16 Y ++ (stO q t ++ (bR ck t tl F)))) s.heap.size = A at hD hC ⊢
  have hA : ∀ q : Nat, s.heap.size ≤ q → A q := fun q h => by rw [← hAe]; exact Or.inr h
  have hS : va_S A s.heap s.heap [] := va_S.rf
  have hP : va_P dg vwCl (sbO o a n ml ++ (bR ck a 16 Y ++ (stO q t ++ (bR ck t tl F)))) s.heap := hP
  have hl := lv_entry ([.ref o, .ref q]) (n := 3) (Nat.le_of_ble_eq_true rfl)
  rw [lg_entry_eq]
  generalize (lg_sl ([.ref o, .ref q]) ++ List.replicate (3 - (lg_sl ([.ref o, .ref q])).length) Slot.unset).toArray = ls at hl ⊢
  have hl : lv_has ls 3 [(0, .ref o), (1, .ref q)] := hl
  refine lv_aload_n hx hb dJ5_append_cf1ce_0 rfl (lv_at hl 1 rfl) ?_
  refine lv_ifnonnull (tgt := 9) hx hb dJ5_append_cf1ce_1 (by decide) ?_
  refine lv_aload_n hx hb dJ5_append_cf1ce_9 rfl (lv_at hl 1 rfl) ?_
  refine x_calliUB (wf := fun u10 : Unit => stO q t ++ (bR ck t tl F ++ (sbO o a n ml ++ (bR ck a 16 Y)))) (M := stO q t ++ (bR ck t tl F)) (Mf := fun u10 => stO q t ++ (bR ck t tl F)) (N := sbO o a n ml ++ (bR ck a 16 Y)) (cat_perm [sbO o a n ml, bR ck a 16 Y, stO q t, bR ck t tl F] [2, 3] [0, 1] 4 rfl (by decide)) (fun u10 => cat_perm [stO q t, bR ck t tl F, sbO o a n ml, bR ck a 16 Y] [0, 1] [2, 3] 4 rfl (by decide)) hP hD hS hA (fun hPm hDm => va_runV (As := []) (rest := []) ⟨hx, hb, hml, hown, htg⟩ (f_len l dg ck ka q t tl F _) (cwV 0 htg (gwV wq_925 wq_926 wq_927 wq_13 wq_928) rfl rfl rfl (by decide +kernel) ⟨Nat.le_of_ble_eq_true rfl, Nat.le_of_ble_eq_true rfl⟩) (wrK_preV hK hPm hDm hC hS hA 0 0 rfl rfl) rfl rfl hl.1 rfl (lv_room (Nat.le_of_ble_eq_true rfl)) dJ5_append_cf1ce_10 ⟨Nat.le_of_ble_eq_true rfl, Nat.le_of_ble_eq_true rfl⟩) (fun r10 u10 H locs hu10 hP hD hS => ?_)
  have hP : va_P dg vwCl (stO q t ++ (bR ck t tl F ++ (sbO o a n ml ++ (bR ck a 16 Y)))) H := hP
  have hD : va_D A (stO q t ++ (bR ck t tl F ++ (sbO o a n ml ++ (bR ck a 16 Y)))) := hD
  subst hu10
  refine lv_istore_n (lv' := [(2, .int (zI ((tl : Nat) : Int))), (0, .ref o), (1, .ref q)]) hx hb dJ5_append_cf1ce_13 rfl hl (by decide) rfl (fun ls hl => ?_)
  refine lv_aload_n hx hb dJ5_append_cf1ce_14 rfl (lv_at hl 1 rfl) ?_
  refine lv_aload_n hx hb dJ5_append_cf1ce_15 rfl (lv_at hl 1 rfl) ?_
  refine va_get (D := dg) (ci := 1) (v := .int (zI n)) (C := RJ4) (T := TJ4) (N := 4) hx hb htg inG_J4 hown hK hP 2 rfl rfl 3 (Nat.le_of_ble_eq_true rfl) (htg _ wq_268) (fun _ h9 => h9) rfl dJ5_append_cf1ce_16 ?_
  refine lv_iload_n hx hb dJ5_append_cf1ce_19 rfl (lv_at hl 0 rfl) ?_
  refine x_iadd hx hb dJ5_append_cf1ce_20 ?_
  refine x_callvUB (wf := fun u21 : Unit => sbO o a n ml ++ (bR ck a 16 Y ++ (stO q t ++ (bR ck t tl F)))) (M := sbO o a n ml ++ (bR ck a 16 Y)) (Mf := fun u21 => sbO o a n ml ++ (bR ck a 16 Y)) (N := stO q t ++ (bR ck t tl F)) (cat_perm [stO q t, bR ck t tl F, sbO o a n ml, bR ck a 16 Y] [2, 3] [0, 1] 4 rfl (by decide)) (fun u21 => cat_perm [sbO o a n ml, bR ck a 16 Y, stO q t, bR ck t tl F] [0, 1] [2, 3] 4 rfl (by decide)) hP hD hS hA (fun hPm hDm => va_runV (As := [.int (zI (n + ((tl : Nat) : Int)))]) (rest := []) ⟨hx, hb, hml, hown, htg⟩ (j_ensN l dg ck ka o a 16 n ml (n + ((tl : Nat) : Int)) Y _ (by omega) (by omega)) (cwVC 1 htg wq_865 wq_867 (va_Nw.use rfl (hC.nw (w := .selects "java/lang/StringBuilder" ⟨"java/lang/AbstractStringBuilder", "ensureCapacityInternal", "(I)V"⟩ ⟨"java/lang/AbstractStringBuilder", "ensureCapacityInternal", "(I)V"⟩) (by decide +kernel))) wq_11 wq_868 rfl rfl (by decide +kernel) ⟨Nat.le_of_ble_eq_true rfl, Nat.le_of_ble_eq_true rfl⟩) (wrK_preV hK hPm hDm hC hS hA 0 1 rfl rfl) rfl rfl hl.1 rfl (lv_room (Nat.le_of_ble_eq_true rfl)) dJ5_append_cf1ce_21 ⟨Nat.le_of_ble_eq_true rfl, Nat.le_of_ble_eq_true rfl⟩) (fun u21 H locs hu21 hP hD hS => ?_)
  have hP : va_P dg vwCl (sbO o a n ml ++ (bR ck a 16 Y ++ (stO q t ++ (bR ck t tl F)))) H := hP
  have hD : va_D A (sbO o a n ml ++ (bR ck a 16 Y ++ (stO q t ++ (bR ck t tl F)))) := hD
  refine lv_aload_n hx hb dJ5_append_cf1ce_24 rfl (lv_at hl 1 rfl) ?_
  refine lv_aload_n hx hb dJ5_append_cf1ce_25 rfl (lv_at hl 1 rfl) ?_
  refine va_get (D := dg) (ci := 1) (v := .int (zI n)) (C := RJ4) (T := TJ4) (N := 4) hx hb htg inG_J4 hown hK hP 0 rfl rfl 3 (Nat.le_of_ble_eq_true rfl) (htg _ wq_268) (fun _ h9 => h9) rfl dJ5_append_cf1ce_26 ?_
  refine lv_aload_n hx hb dJ5_append_cf1ce_29 rfl (lv_at hl 2 rfl) ?_
  refine x_callvUB (wf := fun u30 : Unit => sbO o a n ml ++ (bR ck a 16 (cpZ F Y n ((tl : Nat) : Int)) ++ (stO q t ++ (bR ck t tl F)))) (M := sbO o a n ml ++ (bR ck a 16 Y ++ (stO q t ++ (bR ck t tl F)))) (Mf := fun u30 => sbO o a n ml ++ (bR ck a 16 (cpZ F Y n ((tl : Nat) : Int)) ++ (stO q t ++ (bR ck t tl F)))) (N := []) (cat_perm [sbO o a n ml, bR ck a 16 Y, stO q t, bR ck t tl F] [0, 1, 2, 3] [] 4 rfl (by decide)) (fun u30 => cat_perm [sbO o a n ml, bR ck a 16 (cpZ F Y n ((tl : Nat) : Int)), stO q t, bR ck t tl F] [0, 1, 2, 3] [] 4 rfl (by decide)) hP hD hS hA (fun hPm hDm => va_runV (As := [.int (zI n), .ref q]) (rest := []) ⟨hx, hb, hml, hown, htg⟩ (f_ps l dg ck ka o a 16 q t tl n ml n Y F _ hm (by omega) (by omega) hF) (cwVC 2 htg wq_934 wq_936 (va_Nw.use rfl (hC.nw (w := .selects "java/lang/StringBuilder" ⟨"java/lang/AbstractStringBuilder", "putStringAt", "(ILjava/lang/String;)V"⟩ ⟨"java/lang/AbstractStringBuilder", "putStringAt", "(ILjava/lang/String;)V"⟩) (by decide +kernel))) wq_11 wq_937 rfl rfl (by decide +kernel) ⟨Nat.le_of_ble_eq_true rfl, Nat.le_of_ble_eq_true rfl⟩) (wrK_preV hK hPm hDm hC hS hA 0 1 rfl rfl) rfl rfl hl.1 rfl (lv_room (Nat.le_of_ble_eq_true rfl)) dJ5_append_cf1ce_30 ⟨Nat.le_of_ble_eq_true rfl, Nat.le_of_ble_eq_true rfl⟩) (fun u30 H locs hu30 hP hD hS => ?_)
  have hP : va_P dg vwCl (sbO o a n ml ++ (bR ck a 16 (cpZ F Y n ((tl : Nat) : Int)) ++ (stO q t ++ (bR ck t tl F)))) H := hP
  have hD : va_D A (sbO o a n ml ++ (bR ck a 16 (cpZ F Y n ((tl : Nat) : Int)) ++ (stO q t ++ (bR ck t tl F)))) := hD
  refine lv_aload_n hx hb dJ5_append_cf1ce_33 rfl (lv_at hl 1 rfl) ?_
  refine lv_dup hx hb dJ5_append_cf1ce_34 rfl ?_
  refine va_get (D := dg) (ci := 1) (v := .int (zI n)) (C := RJ4) (T := TJ4) (N := 4) hx hb htg inG_J4 hown hK hP 0 rfl rfl 3 (Nat.le_of_ble_eq_true rfl) (htg _ wq_268) (fun _ h9 => h9) rfl dJ5_append_cf1ce_35 ?_
  refine lv_iload_n hx hb dJ5_append_cf1ce_38 rfl (lv_at hl 0 rfl) ?_
  refine x_iadd hx hb dJ5_append_cf1ce_39 ?_
  refine va_put (D := dg) (ci := 1) (v := .int (zI (n + ((tl : Nat) : Int)))) (ty := .int) (C := RJ4) (T := TJ4) (N := 4) hx hb htg inG_J4 tyJ4 tyJ4_ok nmJ4 hown hK hP hD hS 0 rfl rfl 3 (Nat.le_of_ble_eq_true rfl) (htg _ wq_268) (fun _ h9 => h9) rfl (by decide +kernel) rfl rfl (Nat.le_of_ble_eq_true rfl) dJ5_append_cf1ce_40 (fun H locs hP hD hS => ?_)
  have hP : va_P dg vwCl (sbO o a (n + ((tl : Nat) : Int)) ml ++ (bR ck a 16 (cpZ F Y n ((tl : Nat) : Int)) ++ (stO q t ++ (bR ck t tl F)))) H := hP
  have hD : va_D A (sbO o a (n + ((tl : Nat) : Int)) ml ++ (bR ck a 16 (cpZ F Y n ((tl : Nat) : Int)) ++ (stO q t ++ (bR ck t tl F)))) := hD
  refine lv_aload_n hx hb dJ5_append_cf1ce_43 rfl (lv_at hl 1 rfl) ?_
  have hEq : sbO o a (n + ((tl : Nat) : Int)) ml ++ (bR ck a 16 (cpZ F Y n ((tl : Nat) : Int)) ++ (stO q t ++ (bR ck t tl F))) = sbO o a (n + ((tl : Nat) : Int)) ml ++ (bR ck a 16 (cpZ F Y n ((tl : Nat) : Int)) ++ (stO q t ++ (bR ck t tl F))) := rfl
  exact W.widen (k := 0) (n := 0) (by first | exact Nat.le_of_ble_eq_true rfl | omega) (by first | exact Nat.le_of_ble_eq_true rfl | omega) (W.aret (v := .ref o) hx hb hr (Or.inl ⟨_, rfl⟩) (Or.inr ⟨_, rfl⟩) (fun t9 ht9 hW9 => ⟨⟨(), _, rfl, trivial, rfl, by rw [ht9]; show va_P dg vwCl (sbO o a (n + ((tl : Nat) : Int)) ml ++ (bR ck a 16 (cpZ F Y n ((tl : Nat) : Int)) ++ (stO q t ++ (bR ck t tl F)))) _; rw [hEq]; exact hP, by rw [hAe]; show va_D A (sbO o a (n + ((tl : Nat) : Int)) ml ++ (bR ck a 16 (cpZ F Y n ((tl : Nat) : Int)) ++ (stO q t ++ (bR ck t tl F)))); rw [hEq]; exact hD⟩, hS.F ht9⟩) hS.2.2 dJ5_append_cf1ce_44)

set_option maxHeartbeats 4000000 in
set_option maxRecDepth 100000 in
/-- java/lang/AbstractStringBuilder.append -/
theorem f_asG (l : Launch) (dg : va_G) (ck : Nat → ClassId) (ka : Nat → Nat) (o a q t tl : Nat) (n ml : Int) (Y F : Int → Int) (sz : Nat) (hm : tl < 100) (hn : 0 ≤ n ∧ n ≤ 16 ∧ 17 ≤ n + tl ∧ n + tl ≤ 34) (hF : LY tl F) (hY : LY 16 Y) : Met l yJ5_append_cf1ce (.code yJ5_append_cf1ce cJ5_append_cf1ce 3 (some (.object "java/lang/AbstractStringBuilder")) :: GW) ({ frames := 4, cells := 1, slots := 34, locals := 91 }) (va_Pc [.ref o, .ref q] (wrK dg ck ka sz (sbO o a n ml ++ (bR ck a 16 Y ++ (stO q t ++ (bR ck t tl F)))))) (va_Qr (fun u : Nat => True) (fun u ra t9 => ra = o ∧ wrQ dg sz (sbO o a n ml ++ (bR ck a 16 Y ++ (stO q t ++ (bR ck t tl F)))) (sbO o u (n + ((tl : Nat) : Int)) ml ++ (bR ck u 34 (cpZ F (cpZ Y (fun _ => 0) 0 16) n ((tl : Nat) : Int)) ++ (stO q t ++ (bR ck t tl F)))) t9) (va_A (sbO o a n ml ++ (bR ck a 16 Y ++ (stO q t ++ (bR ck t tl F)))) sz)) 1 34 (va_A (sbO o a n ml ++ (bR ck a 16 Y ++ (stO q t ++ (bR ck t tl F)))) sz) := by
  refine Met.ofW (cc := cJ5_append_cf1ce) (maxL := 3) (ret := (some (.object "java/lang/AbstractStringBuilder"))) (by decide) rfl ?_
  intro p e s m args below meth c s₁ B hml hv
  obtain ⟨rfl, ⟨hsz, hP, hK, hD0⟩, hC⟩ := hv
  have hx := B.exec
  have hb := B.bytes
  have hr := B.returns
  have hts := atoms_spec (ws := .code yJ5_append_cf1ce cJ5_append_cf1ce 3 (some (.object "java/lang/AbstractStringBuilder")) :: GW) B.pre
  have htg : ∀ w ∈ GW, w.before _ s = true := fun w h => hts w (List.mem_cons_of_mem _ h)
  have hown : s.vm.findClass RJ5 = some m.cls := findClass_of_methodNamed B.named
  have hlocks := B.notSynchronized
  subst hsz
  have hD := hD0.self (sz := s.heap.size)
  generalize hAe : va_A (sbO o a n ml ++ (bR ck a 16 Y ++ (stO q t ++ (bR ck t tl F)))) s.heap.size = A at hD hC ⊢
  have hA : ∀ q : Nat, s.heap.size ≤ q → A q := fun q h => by rw [← hAe]; exact Or.inr h
  have hS : va_S A s.heap s.heap [] := va_S.rf
  have hP : va_P dg vwCl (sbO o a n ml ++ (bR ck a 16 Y ++ (stO q t ++ (bR ck t tl F)))) s.heap := hP
  have hl := lv_entry ([.ref o, .ref q]) (n := 3) (Nat.le_of_ble_eq_true rfl)
  rw [lg_entry_eq]
  generalize (lg_sl ([.ref o, .ref q]) ++ List.replicate (3 - (lg_sl ([.ref o, .ref q])).length) Slot.unset).toArray = ls at hl ⊢
  have hl : lv_has ls 3 [(0, .ref o), (1, .ref q)] := hl
  refine lv_aload_n hx hb dJ5_append_cf1ce_0 rfl (lv_at hl 1 rfl) ?_
  refine lv_ifnonnull (tgt := 9) hx hb dJ5_append_cf1ce_1 (by decide) ?_
  refine lv_aload_n hx hb dJ5_append_cf1ce_9 rfl (lv_at hl 1 rfl) ?_
  refine x_calliUB (wf := fun u10 : Unit => stO q t ++ (bR ck t tl F ++ (sbO o a n ml ++ (bR ck a 16 Y)))) (M := stO q t ++ (bR ck t tl F)) (Mf := fun u10 => stO q t ++ (bR ck t tl F)) (N := sbO o a n ml ++ (bR ck a 16 Y)) (cat_perm [sbO o a n ml, bR ck a 16 Y, stO q t, bR ck t tl F] [2, 3] [0, 1] 4 rfl (by decide)) (fun u10 => cat_perm [stO q t, bR ck t tl F, sbO o a n ml, bR ck a 16 Y] [0, 1] [2, 3] 4 rfl (by decide)) hP hD hS hA (fun hPm hDm => va_runV (As := []) (rest := []) ⟨hx, hb, hml, hown, htg⟩ (f_len l dg ck ka q t tl F _) (cwV 0 htg (gwV wq_925 wq_926 wq_927 wq_13 wq_928) rfl rfl rfl (by decide +kernel) ⟨Nat.le_of_ble_eq_true rfl, Nat.le_of_ble_eq_true rfl⟩) (wrK_preV hK hPm hDm hC hS hA 0 0 rfl rfl) rfl rfl hl.1 rfl (lv_room (Nat.le_of_ble_eq_true rfl)) dJ5_append_cf1ce_10 ⟨Nat.le_of_ble_eq_true rfl, Nat.le_of_ble_eq_true rfl⟩) (fun r10 u10 H locs hu10 hP hD hS => ?_)
  have hP : va_P dg vwCl (stO q t ++ (bR ck t tl F ++ (sbO o a n ml ++ (bR ck a 16 Y)))) H := hP
  have hD : va_D A (stO q t ++ (bR ck t tl F ++ (sbO o a n ml ++ (bR ck a 16 Y)))) := hD
  subst hu10
  refine lv_istore_n (lv' := [(2, .int (zI ((tl : Nat) : Int))), (0, .ref o), (1, .ref q)]) hx hb dJ5_append_cf1ce_13 rfl hl (by decide) rfl (fun ls hl => ?_)
  refine lv_aload_n hx hb dJ5_append_cf1ce_14 rfl (lv_at hl 1 rfl) ?_
  refine lv_aload_n hx hb dJ5_append_cf1ce_15 rfl (lv_at hl 1 rfl) ?_
  refine va_get (D := dg) (ci := 1) (v := .int (zI n)) (C := RJ4) (T := TJ4) (N := 4) hx hb htg inG_J4 hown hK hP 2 rfl rfl 3 (Nat.le_of_ble_eq_true rfl) (htg _ wq_268) (fun _ h9 => h9) rfl dJ5_append_cf1ce_16 ?_
  refine lv_iload_n hx hb dJ5_append_cf1ce_19 rfl (lv_at hl 0 rfl) ?_
  refine x_iadd hx hb dJ5_append_cf1ce_20 ?_
  refine x_callvUB (wf := fun u21 : Nat => sbO o u21 n ml ++ (bR ck u21 34 (cpZ Y (fun _ => 0) 0 16) ++ (stO q t ++ (bR ck t tl F)))) (M := sbO o a n ml ++ (bR ck a 16 Y)) (Mf := fun u21 => sbO o u21 n ml ++ (bR ck u21 34 (cpZ Y (fun _ => 0) 0 16))) (N := stO q t ++ (bR ck t tl F)) (cat_perm [stO q t, bR ck t tl F, sbO o a n ml, bR ck a 16 Y] [2, 3] [0, 1] 4 rfl (by decide)) (fun u21 => cat_perm [sbO o u21 n ml, bR ck u21 34 (cpZ Y (fun _ => 0) 0 16), stO q t, bR ck t tl F] [0, 1] [2, 3] 4 rfl (by decide)) hP hD hS hA (fun hPm hDm => va_runV (As := [.int (zI (n + ((tl : Nat) : Int)))]) (rest := []) ⟨hx, hb, hml, hown, htg⟩ (j_ensG l dg ck ka o a n ml Y (n + ((tl : Nat) : Int)) _ (by omega) hY) (cwVC 1 htg wq_865 wq_867 (va_Nw.use rfl (hC.nw (w := .selects "java/lang/StringBuilder" ⟨"java/lang/AbstractStringBuilder", "ensureCapacityInternal", "(I)V"⟩ ⟨"java/lang/AbstractStringBuilder", "ensureCapacityInternal", "(I)V"⟩) (by decide +kernel))) wq_11 wq_868 rfl rfl (by decide +kernel) ⟨Nat.le_of_ble_eq_true rfl, Nat.le_of_ble_eq_true rfl⟩) (wrK_preV hK hPm hDm hC hS hA 0 1 rfl rfl) rfl rfl hl.1 rfl (lv_room (Nat.le_of_ble_eq_true rfl)) dJ5_append_cf1ce_21 ⟨Nat.le_of_ble_eq_true rfl, Nat.le_of_ble_eq_true rfl⟩) (fun u21 H locs hu21 hP hD hS => ?_)
  have hP : va_P dg vwCl (sbO o u21 n ml ++ (bR ck u21 34 (cpZ Y (fun _ => 0) 0 16) ++ (stO q t ++ (bR ck t tl F)))) H := hP
  have hD : va_D A (sbO o u21 n ml ++ (bR ck u21 34 (cpZ Y (fun _ => 0) 0 16) ++ (stO q t ++ (bR ck t tl F)))) := hD
  refine lv_aload_n hx hb dJ5_append_cf1ce_24 rfl (lv_at hl 1 rfl) ?_
  refine lv_aload_n hx hb dJ5_append_cf1ce_25 rfl (lv_at hl 1 rfl) ?_
  refine va_get (D := dg) (ci := 1) (v := .int (zI n)) (C := RJ4) (T := TJ4) (N := 4) hx hb htg inG_J4 hown hK hP 0 rfl rfl 3 (Nat.le_of_ble_eq_true rfl) (htg _ wq_268) (fun _ h9 => h9) rfl dJ5_append_cf1ce_26 ?_
  refine lv_aload_n hx hb dJ5_append_cf1ce_29 rfl (lv_at hl 2 rfl) ?_
  refine x_callvUB (wf := fun u30 : Unit => sbO o u21 n ml ++ (bR ck u21 34 (cpZ F (cpZ Y (fun _ => 0) 0 16) n ((tl : Nat) : Int)) ++ (stO q t ++ (bR ck t tl F)))) (M := sbO o u21 n ml ++ (bR ck u21 34 (cpZ Y (fun _ => 0) 0 16) ++ (stO q t ++ (bR ck t tl F)))) (Mf := fun u30 => sbO o u21 n ml ++ (bR ck u21 34 (cpZ F (cpZ Y (fun _ => 0) 0 16) n ((tl : Nat) : Int)) ++ (stO q t ++ (bR ck t tl F)))) (N := []) (cat_perm [sbO o u21 n ml, bR ck u21 34 (cpZ Y (fun _ => 0) 0 16), stO q t, bR ck t tl F] [0, 1, 2, 3] [] 4 rfl (by decide)) (fun u30 => cat_perm [sbO o u21 n ml, bR ck u21 34 (cpZ F (cpZ Y (fun _ => 0) 0 16) n ((tl : Nat) : Int)), stO q t, bR ck t tl F] [0, 1, 2, 3] [] 4 rfl (by decide)) hP hD hS hA (fun hPm hDm => va_runV (As := [.int (zI n), .ref q]) (rest := []) ⟨hx, hb, hml, hown, htg⟩ (f_ps l dg ck ka o u21 34 q t tl n ml n (cpZ Y (fun _ => 0) 0 16) F _ hm (by omega) (by omega) hF) (cwVC 2 htg wq_934 wq_936 (va_Nw.use rfl (hC.nw (w := .selects "java/lang/StringBuilder" ⟨"java/lang/AbstractStringBuilder", "putStringAt", "(ILjava/lang/String;)V"⟩ ⟨"java/lang/AbstractStringBuilder", "putStringAt", "(ILjava/lang/String;)V"⟩) (by decide +kernel))) wq_11 wq_937 rfl rfl (by decide +kernel) ⟨Nat.le_of_ble_eq_true rfl, Nat.le_of_ble_eq_true rfl⟩) (wrK_preV hK hPm hDm hC hS hA 0 1 rfl rfl) rfl rfl hl.1 rfl (lv_room (Nat.le_of_ble_eq_true rfl)) dJ5_append_cf1ce_30 ⟨Nat.le_of_ble_eq_true rfl, Nat.le_of_ble_eq_true rfl⟩) (fun u30 H locs hu30 hP hD hS => ?_)
  have hP : va_P dg vwCl (sbO o u21 n ml ++ (bR ck u21 34 (cpZ F (cpZ Y (fun _ => 0) 0 16) n ((tl : Nat) : Int)) ++ (stO q t ++ (bR ck t tl F)))) H := hP
  have hD : va_D A (sbO o u21 n ml ++ (bR ck u21 34 (cpZ F (cpZ Y (fun _ => 0) 0 16) n ((tl : Nat) : Int)) ++ (stO q t ++ (bR ck t tl F)))) := hD
  refine lv_aload_n hx hb dJ5_append_cf1ce_33 rfl (lv_at hl 1 rfl) ?_
  refine lv_dup hx hb dJ5_append_cf1ce_34 rfl ?_
  refine va_get (D := dg) (ci := 1) (v := .int (zI n)) (C := RJ4) (T := TJ4) (N := 4) hx hb htg inG_J4 hown hK hP 0 rfl rfl 3 (Nat.le_of_ble_eq_true rfl) (htg _ wq_268) (fun _ h9 => h9) rfl dJ5_append_cf1ce_35 ?_
  refine lv_iload_n hx hb dJ5_append_cf1ce_38 rfl (lv_at hl 0 rfl) ?_
  refine x_iadd hx hb dJ5_append_cf1ce_39 ?_
  refine va_put (D := dg) (ci := 1) (v := .int (zI (n + ((tl : Nat) : Int)))) (ty := .int) (C := RJ4) (T := TJ4) (N := 4) hx hb htg inG_J4 tyJ4 tyJ4_ok nmJ4 hown hK hP hD hS 0 rfl rfl 3 (Nat.le_of_ble_eq_true rfl) (htg _ wq_268) (fun _ h9 => h9) rfl (by decide +kernel) rfl rfl (Nat.le_of_ble_eq_true rfl) dJ5_append_cf1ce_40 (fun H locs hP hD hS => ?_)
  have hP : va_P dg vwCl (sbO o u21 (n + ((tl : Nat) : Int)) ml ++ (bR ck u21 34 (cpZ F (cpZ Y (fun _ => 0) 0 16) n ((tl : Nat) : Int)) ++ (stO q t ++ (bR ck t tl F)))) H := hP
  have hD : va_D A (sbO o u21 (n + ((tl : Nat) : Int)) ml ++ (bR ck u21 34 (cpZ F (cpZ Y (fun _ => 0) 0 16) n ((tl : Nat) : Int)) ++ (stO q t ++ (bR ck t tl F)))) := hD
  refine lv_aload_n hx hb dJ5_append_cf1ce_43 rfl (lv_at hl 1 rfl) ?_
  have hEq : sbO o u21 (n + ((tl : Nat) : Int)) ml ++ (bR ck u21 34 (cpZ F (cpZ Y (fun _ => 0) 0 16) n ((tl : Nat) : Int)) ++ (stO q t ++ (bR ck t tl F))) = sbO o u21 (n + ((tl : Nat) : Int)) ml ++ (bR ck u21 34 (cpZ F (cpZ Y (fun _ => 0) 0 16) n ((tl : Nat) : Int)) ++ (stO q t ++ (bR ck t tl F))) := rfl
  exact W.widen (k := 1) (n := 34) (by first | exact Nat.le_of_ble_eq_true rfl | omega) (by first | exact Nat.le_of_ble_eq_true rfl | omega) (W.aret (v := .ref o) hx hb hr (Or.inl ⟨_, rfl⟩) (Or.inr ⟨_, rfl⟩) (fun t9 ht9 hW9 => ⟨⟨u21, _, rfl, trivial, rfl, by rw [ht9]; show va_P dg vwCl (sbO o u21 (n + ((tl : Nat) : Int)) ml ++ (bR ck u21 34 (cpZ F (cpZ Y (fun _ => 0) 0 16) n ((tl : Nat) : Int)) ++ (stO q t ++ (bR ck t tl F)))) _; rw [hEq]; exact hP, by rw [hAe]; show va_D A (sbO o u21 (n + ((tl : Nat) : Int)) ml ++ (bR ck u21 34 (cpZ F (cpZ Y (fun _ => 0) 0 16) n ((tl : Nat) : Int)) ++ (stO q t ++ (bR ck t tl F)))); rw [hEq]; exact hD⟩, hS.F ht9⟩) hS.2.2 dJ5_append_cf1ce_44)

set_option maxHeartbeats 4000000 in
set_option maxRecDepth 100000 in
/-- java/lang/StringBuilder.append -/
theorem a_F (l : Launch) (dg : va_G) (ck : Nat → ClassId) (ka : Nat → Nat) (o a q t tl : Nat) (n ml : Int) (Y F : Int → Int) (sz : Nat) (hm : tl < 100) (hn : 0 ≤ n ∧ n + tl ≤ 16) (hF : LY tl F) (hY : LY 16 Y) : Met l yJ4_append_15ec4 (.code yJ4_append_15ec4 cJ4_append_15ec4 2 (some (.object "java/lang/StringBuilder")) :: GW) ({ frames := 4, cells := 0, slots := 0, locals := 93 }) (va_Pc [.ref o, .ref q] (wrK dg ck ka sz (sbO o a n ml ++ (bR ck a 16 Y ++ (stO q t ++ (bR ck t tl F)))))) (va_Qr (fun u : (Int → Int) => LY 16 u) (fun u ra t9 => ra = o ∧ wrQ dg sz (sbO o a n ml ++ (bR ck a 16 Y ++ (stO q t ++ (bR ck t tl F)))) (sbO o a (n + ((tl : Nat) : Int)) ml ++ (bR ck a 16 u)) t9) (va_A (sbO o a n ml ++ (bR ck a 16 Y ++ (stO q t ++ (bR ck t tl F)))) sz)) 0 0 (va_A (sbO o a n ml ++ (bR ck a 16 Y ++ (stO q t ++ (bR ck t tl F)))) sz) := by
  refine Met.ofW (cc := cJ4_append_15ec4) (maxL := 2) (ret := (some (.object "java/lang/StringBuilder"))) (by decide) rfl ?_
  intro p e s m args below meth c s₁ B hml hv
  obtain ⟨rfl, ⟨hsz, hP, hK, hD0⟩, hC⟩ := hv
  have hx := B.exec
  have hb := B.bytes
  have hr := B.returns
  have hts := atoms_spec (ws := .code yJ4_append_15ec4 cJ4_append_15ec4 2 (some (.object "java/lang/StringBuilder")) :: GW) B.pre
  have htg : ∀ w ∈ GW, w.before _ s = true := fun w h => hts w (List.mem_cons_of_mem _ h)
  have hown : s.vm.findClass RJ4 = some m.cls := findClass_of_methodNamed B.named
  have hlocks := B.notSynchronized
  subst hsz
  have hD := hD0.self (sz := s.heap.size)
  generalize hAe : va_A (sbO o a n ml ++ (bR ck a 16 Y ++ (stO q t ++ (bR ck t tl F)))) s.heap.size = A at hD hC ⊢
  have hA : ∀ q : Nat, s.heap.size ≤ q → A q := fun q h => by rw [← hAe]; exact Or.inr h
  have hS : va_S A s.heap s.heap [] := va_S.rf
  have hP : va_P dg vwCl (sbO o a n ml ++ (bR ck a 16 Y ++ (stO q t ++ (bR ck t tl F)))) s.heap := hP
  have hl := lv_entry ([.ref o, .ref q]) (n := 2) (Nat.le_of_ble_eq_true rfl)
  rw [lg_entry_eq]
  generalize (lg_sl ([.ref o, .ref q]) ++ List.replicate (2 - (lg_sl ([.ref o, .ref q])).length) Slot.unset).toArray = ls at hl ⊢
  have hl : lv_has ls 2 [(0, .ref o), (1, .ref q)] := hl
  refine lv_aload_n hx hb dJ4_append_15ec4_0 rfl (lv_at hl 0 rfl) ?_
  refine lv_aload_n hx hb dJ4_append_15ec4_1 rfl (lv_at hl 1 rfl) ?_
  refine x_callrUB (fr := fun u2 : Unit => o) (wf := fun u2 : Unit => sbO o a (n + ((tl : Nat) : Int)) ml ++ (bR ck a 16 (cpZ F Y n ((tl : Nat) : Int)) ++ (stO q t ++ (bR ck t tl F)))) (M := sbO o a n ml ++ (bR ck a 16 Y ++ (stO q t ++ (bR ck t tl F)))) (Mf := fun u2 => sbO o a (n + ((tl : Nat) : Int)) ml ++ (bR ck a 16 (cpZ F Y n ((tl : Nat) : Int)) ++ (stO q t ++ (bR ck t tl F)))) (N := []) (cat_perm [sbO o a n ml, bR ck a 16 Y, stO q t, bR ck t tl F] [0, 1, 2, 3] [] 4 rfl (by decide)) (fun u2 => cat_perm [sbO o a (n + ((tl : Nat) : Int)) ml, bR ck a 16 (cpZ F Y n ((tl : Nat) : Int)), stO q t, bR ck t tl F] [0, 1, 2, 3] [] 4 rfl (by decide)) hP hD hS hA (fun hPm hDm => va_runSU ((hK.1 1 _ rfl).2) (As := [.ref q]) (rest := []) ⟨hx, hb, hml, hown, htg⟩ (f_as0 l dg ck ka o a q t tl n ml Y F _ hm hn hF) (va_cwSU 1 htg (gwSU wq_858 wq_1569 wq_277 wq_859 wq_11 wq_860) rfl rfl rfl (by decide +kernel) ⟨Nat.le_of_ble_eq_true rfl, Nat.le_of_ble_eq_true rfl⟩) (wrK_preV hK hPm hDm hC hS hA 0 1 rfl rfl) rfl rfl hl.1 rfl (lv_room (Nat.le_of_ble_eq_true rfl)) dJ4_append_15ec4_2 ⟨Nat.le_of_ble_eq_true rfl, Nat.le_of_ble_eq_true rfl⟩) (fun u2 H locs hu2 hP hD hS => ?_)
  have hP : va_P dg vwCl (sbO o a (n + ((tl : Nat) : Int)) ml ++ (bR ck a 16 (cpZ F Y n ((tl : Nat) : Int)) ++ (stO q t ++ (bR ck t tl F)))) H := hP
  have hD : va_D A (sbO o a (n + ((tl : Nat) : Int)) ml ++ (bR ck a 16 (cpZ F Y n ((tl : Nat) : Int)) ++ (stO q t ++ (bR ck t tl F)))) := hD
  refine W.eq (g2 := F0 m 5 ls [.ref o]) rfl ?_
  refine lv_pop hx hb dJ4_append_15ec4_5 rfl ?_
  refine lv_aload_n hx hb dJ4_append_15ec4_6 rfl (lv_at hl 0 rfl) ?_
  have hP : va_P dg vwCl (sbO o a (n + ((tl : Nat) : Int)) ml ++ (bR ck a 16 (cpZ F Y n ((tl : Nat) : Int)))) H := va_P_l (w2 := stO q t ++ (bR ck t tl F)) (va_P_perm (cat_perm [sbO o a (n + ((tl : Nat) : Int)) ml, bR ck a 16 (cpZ F Y n ((tl : Nat) : Int)), stO q t, bR ck t tl F] [0, 1] [2, 3] 4 rfl (by decide)) hP)
  have hD : va_D A (sbO o a (n + ((tl : Nat) : Int)) ml ++ (bR ck a 16 (cpZ F Y n ((tl : Nat) : Int)))) := va_D_l (w2 := stO q t ++ (bR ck t tl F)) (va_D_perm (cat_perm [sbO o a (n + ((tl : Nat) : Int)) ml, bR ck a 16 (cpZ F Y n ((tl : Nat) : Int)), stO q t, bR ck t tl F] [0, 1] [2, 3] 4 rfl (by decide)) hD)
  have hEq : sbO o a (n + ((tl : Nat) : Int)) ml ++ (bR ck a 16 (cpZ F Y n ((tl : Nat) : Int))) = sbO o a (n + ((tl : Nat) : Int)) ml ++ (bR ck a 16 (cpZ F Y n ((tl : Nat) : Int))) := rfl
  exact W.widen (k := 0) (n := 0) (by first | exact Nat.le_of_ble_eq_true rfl | omega) (by first | exact Nat.le_of_ble_eq_true rfl | omega) (W.aret (v := .ref o) hx hb hr (Or.inl ⟨_, rfl⟩) (Or.inr ⟨_, rfl⟩) (fun t9 ht9 hW9 => ⟨⟨(cpZ F Y n ((tl : Nat) : Int)), _, rfl, LY.cp hY hF hn.1 (Int.le_refl _), rfl, by rw [ht9]; show va_P dg vwCl (sbO o a (n + ((tl : Nat) : Int)) ml ++ (bR ck a 16 (cpZ F Y n ((tl : Nat) : Int)))) _; rw [hEq]; exact hP, by rw [hAe]; show va_D A (sbO o a (n + ((tl : Nat) : Int)) ml ++ (bR ck a 16 (cpZ F Y n ((tl : Nat) : Int)))); rw [hEq]; exact hD⟩, hS.F ht9⟩) hS.2.2 dJ4_append_15ec4_7)

set_option maxHeartbeats 4000000 in
set_option maxRecDepth 100000 in
/-- java/lang/StringBuilder.append -/
theorem a_G (l : Launch) (dg : va_G) (ck : Nat → ClassId) (ka : Nat → Nat) (o a q t tl : Nat) (n ml : Int) (Y F : Int → Int) (sz : Nat) (hm : tl < 100) (hn : 0 ≤ n ∧ n ≤ 16 ∧ 17 ≤ n + tl ∧ n + tl ≤ 34) (hF : LY tl F) (hY : LY 16 Y) : Met l yJ4_append_15ec4 (.code yJ4_append_15ec4 cJ4_append_15ec4 2 (some (.object "java/lang/StringBuilder")) :: GW) ({ frames := 5, cells := 1, slots := 34, locals := 113 }) (va_Pc [.ref o, .ref q] (wrK dg ck ka sz (sbO o a n ml ++ (bR ck a 16 Y ++ (stO q t ++ (bR ck t tl F)))))) (va_Qr (fun u : (Nat × (Int → Int)) => LY 34 u.2) (fun u ra t9 => ra = o ∧ wrQ dg sz (sbO o a n ml ++ (bR ck a 16 Y ++ (stO q t ++ (bR ck t tl F)))) (sbO o (u.1) (n + ((tl : Nat) : Int)) ml ++ (bR ck (u.1) 34 (u.2))) t9) (va_A (sbO o a n ml ++ (bR ck a 16 Y ++ (stO q t ++ (bR ck t tl F)))) sz)) 1 34 (va_A (sbO o a n ml ++ (bR ck a 16 Y ++ (stO q t ++ (bR ck t tl F)))) sz) := by
  refine Met.ofW (cc := cJ4_append_15ec4) (maxL := 2) (ret := (some (.object "java/lang/StringBuilder"))) (by decide) rfl ?_
  intro p e s m args below meth c s₁ B hml hv
  obtain ⟨rfl, ⟨hsz, hP, hK, hD0⟩, hC⟩ := hv
  have hx := B.exec
  have hb := B.bytes
  have hr := B.returns
  have hts := atoms_spec (ws := .code yJ4_append_15ec4 cJ4_append_15ec4 2 (some (.object "java/lang/StringBuilder")) :: GW) B.pre
  have htg : ∀ w ∈ GW, w.before _ s = true := fun w h => hts w (List.mem_cons_of_mem _ h)
  have hown : s.vm.findClass RJ4 = some m.cls := findClass_of_methodNamed B.named
  have hlocks := B.notSynchronized
  subst hsz
  have hD := hD0.self (sz := s.heap.size)
  generalize hAe : va_A (sbO o a n ml ++ (bR ck a 16 Y ++ (stO q t ++ (bR ck t tl F)))) s.heap.size = A at hD hC ⊢
  have hA : ∀ q : Nat, s.heap.size ≤ q → A q := fun q h => by rw [← hAe]; exact Or.inr h
  have hS : va_S A s.heap s.heap [] := va_S.rf
  have hP : va_P dg vwCl (sbO o a n ml ++ (bR ck a 16 Y ++ (stO q t ++ (bR ck t tl F)))) s.heap := hP
  have hl := lv_entry ([.ref o, .ref q]) (n := 2) (Nat.le_of_ble_eq_true rfl)
  rw [lg_entry_eq]
  generalize (lg_sl ([.ref o, .ref q]) ++ List.replicate (2 - (lg_sl ([.ref o, .ref q])).length) Slot.unset).toArray = ls at hl ⊢
  have hl : lv_has ls 2 [(0, .ref o), (1, .ref q)] := hl
  refine lv_aload_n hx hb dJ4_append_15ec4_0 rfl (lv_at hl 0 rfl) ?_
  refine lv_aload_n hx hb dJ4_append_15ec4_1 rfl (lv_at hl 1 rfl) ?_
  refine x_callrUB (fr := fun u2 : Nat => o) (wf := fun u2 : Nat => sbO o u2 (n + ((tl : Nat) : Int)) ml ++ (bR ck u2 34 (cpZ F (cpZ Y (fun _ => 0) 0 16) n ((tl : Nat) : Int)) ++ (stO q t ++ (bR ck t tl F)))) (M := sbO o a n ml ++ (bR ck a 16 Y ++ (stO q t ++ (bR ck t tl F)))) (Mf := fun u2 => sbO o u2 (n + ((tl : Nat) : Int)) ml ++ (bR ck u2 34 (cpZ F (cpZ Y (fun _ => 0) 0 16) n ((tl : Nat) : Int)) ++ (stO q t ++ (bR ck t tl F)))) (N := []) (cat_perm [sbO o a n ml, bR ck a 16 Y, stO q t, bR ck t tl F] [0, 1, 2, 3] [] 4 rfl (by decide)) (fun u2 => cat_perm [sbO o u2 (n + ((tl : Nat) : Int)) ml, bR ck u2 34 (cpZ F (cpZ Y (fun _ => 0) 0 16) n ((tl : Nat) : Int)), stO q t, bR ck t tl F] [0, 1, 2, 3] [] 4 rfl (by decide)) hP hD hS hA (fun hPm hDm => va_runSU ((hK.1 1 _ rfl).2) (As := [.ref q]) (rest := []) ⟨hx, hb, hml, hown, htg⟩ (f_asG l dg ck ka o a q t tl n ml Y F _ hm hn hF hY) (va_cwSU 1 htg (gwSU wq_858 wq_1569 wq_277 wq_859 wq_11 wq_860) rfl rfl rfl (by decide +kernel) ⟨Nat.le_of_ble_eq_true rfl, Nat.le_of_ble_eq_true rfl⟩) (wrK_preV hK hPm hDm hC hS hA 0 1 rfl rfl) rfl rfl hl.1 rfl (lv_room (Nat.le_of_ble_eq_true rfl)) dJ4_append_15ec4_2 ⟨Nat.le_of_ble_eq_true rfl, Nat.le_of_ble_eq_true rfl⟩) (fun u2 H locs hu2 hP hD hS => ?_)
  have hP : va_P dg vwCl (sbO o u2 (n + ((tl : Nat) : Int)) ml ++ (bR ck u2 34 (cpZ F (cpZ Y (fun _ => 0) 0 16) n ((tl : Nat) : Int)) ++ (stO q t ++ (bR ck t tl F)))) H := hP
  have hD : va_D A (sbO o u2 (n + ((tl : Nat) : Int)) ml ++ (bR ck u2 34 (cpZ F (cpZ Y (fun _ => 0) 0 16) n ((tl : Nat) : Int)) ++ (stO q t ++ (bR ck t tl F)))) := hD
  refine W.eq (g2 := F0 m 5 ls [.ref o]) rfl ?_
  refine lv_pop hx hb dJ4_append_15ec4_5 rfl ?_
  refine lv_aload_n hx hb dJ4_append_15ec4_6 rfl (lv_at hl 0 rfl) ?_
  have hP : va_P dg vwCl (sbO o u2 (n + ((tl : Nat) : Int)) ml ++ (bR ck u2 34 (cpZ F (cpZ Y (fun _ => 0) 0 16) n ((tl : Nat) : Int)))) H := va_P_l (w2 := stO q t ++ (bR ck t tl F)) (va_P_perm (cat_perm [sbO o u2 (n + ((tl : Nat) : Int)) ml, bR ck u2 34 (cpZ F (cpZ Y (fun _ => 0) 0 16) n ((tl : Nat) : Int)), stO q t, bR ck t tl F] [0, 1] [2, 3] 4 rfl (by decide)) hP)
  have hD : va_D A (sbO o u2 (n + ((tl : Nat) : Int)) ml ++ (bR ck u2 34 (cpZ F (cpZ Y (fun _ => 0) 0 16) n ((tl : Nat) : Int)))) := va_D_l (w2 := stO q t ++ (bR ck t tl F)) (va_D_perm (cat_perm [sbO o u2 (n + ((tl : Nat) : Int)) ml, bR ck u2 34 (cpZ F (cpZ Y (fun _ => 0) 0 16) n ((tl : Nat) : Int)), stO q t, bR ck t tl F] [0, 1] [2, 3] 4 rfl (by decide)) hD)
  have hEq : sbO o (u2) (n + ((tl : Nat) : Int)) ml ++ (bR ck (u2) 34 ((cpZ F (cpZ Y (fun _ => 0) 0 16) n ((tl : Nat) : Int)))) = sbO o u2 (n + ((tl : Nat) : Int)) ml ++ (bR ck u2 34 (cpZ F (cpZ Y (fun _ => 0) 0 16) n ((tl : Nat) : Int))) := rfl
  exact W.widen (k := 1) (n := 34) (by first | exact Nat.le_of_ble_eq_true rfl | omega) (by first | exact Nat.le_of_ble_eq_true rfl | omega) (W.aret (v := .ref o) hx hb hr (Or.inl ⟨_, rfl⟩) (Or.inr ⟨_, rfl⟩) (fun t9 ht9 hW9 => ⟨⟨(u2, (cpZ F (cpZ Y (fun _ => 0) 0 16) n ((tl : Nat) : Int))), _, rfl, LY.cp (LY.cp (LY.zero 34) hY (Int.le_refl 0) (by decide)) hF hn.1 (Int.le_refl _), rfl, by rw [ht9]; show va_P dg vwCl (sbO o (u2) (n + ((tl : Nat) : Int)) ml ++ (bR ck (u2) 34 ((cpZ F (cpZ Y (fun _ => 0) 0 16) n ((tl : Nat) : Int))))) _; rw [hEq]; exact hP, by rw [hAe]; show va_D A (sbO o (u2) (n + ((tl : Nat) : Int)) ml ++ (bR ck (u2) 34 ((cpZ F (cpZ Y (fun _ => 0) 0 16) n ((tl : Nat) : Int))))); rw [hEq]; exact hD⟩, hS.F ht9⟩) hS.2.2 dJ4_append_15ec4_7)

set_option maxHeartbeats 4000000 in
set_option maxRecDepth 100000 in
/-- java/lang/AbstractStringBuilder.getValue -/
theorem t_val (l : Launch) (dg : va_G) (ck : Nat → ClassId) (ka : Nat → Nat) (o a : Nat) (n ml : Int) (sz : Nat)  : Met l yJ5_getValue_6d5f1 (.code yJ5_getValue_6d5f1 cJ5_getValue_6d5f1 1 (some (.array .byte)) :: GW) ({ frames := 0, cells := 0, slots := 0, locals := 0 }) (va_Pc [.ref o] (wrK dg ck ka sz (sbO o a n ml))) (va_Qr (fun _ : Unit => True) (fun _ ra t9 => ra = a ∧ wrQ dg sz (sbO o a n ml) (sbO o a n ml) t9) (va_A (sbO o a n ml) sz)) 0 0 (va_A (sbO o a n ml) sz) := by
  refine Met.ofW (cc := cJ5_getValue_6d5f1) (maxL := 1) (ret := (some (.array .byte))) (by decide) rfl ?_
  intro p e s m args below meth c s₁ B hml hv
  obtain ⟨rfl, ⟨hsz, hP, hK, hD0⟩, hC⟩ := hv
  have hx := B.exec
  have hb := B.bytes
  have hr := B.returns
  have hts := atoms_spec (ws := .code yJ5_getValue_6d5f1 cJ5_getValue_6d5f1 1 (some (.array .byte)) :: GW) B.pre
  have htg : ∀ w ∈ GW, w.before _ s = true := fun w h => hts w (List.mem_cons_of_mem _ h)
  have hown : s.vm.findClass RJ5 = some m.cls := findClass_of_methodNamed B.named
  have hlocks := B.notSynchronized
  subst hsz
  have hD := hD0.self (sz := s.heap.size)
  generalize hAe : va_A (sbO o a n ml) s.heap.size = A at hD hC ⊢
  have hA : ∀ q : Nat, s.heap.size ≤ q → A q := fun q h => by rw [← hAe]; exact Or.inr h
  have hS : va_S A s.heap s.heap [] := va_S.rf
  have hP : va_P dg vwCl (sbO o a n ml) s.heap := hP
  have hl := lv_entry ([.ref o]) (n := 1) (Nat.le_of_ble_eq_true rfl)
  rw [lg_entry_eq]
  generalize (lg_sl ([.ref o]) ++ List.replicate (1 - (lg_sl ([.ref o])).length) Slot.unset).toArray = ls at hl ⊢
  have hl : lv_has ls 1 [(0, .ref o)] := hl
  refine lv_aload_n hx hb dJ5_getValue_6d5f1_0 rfl (lv_at hl 0 rfl) ?_
  refine va_get (D := dg) (ci := 1) (v := .ref a) (C := RJ4) (T := TJ4) (N := 4) hx hb htg inG_J4 hown hK hP 0 rfl rfl 0 (Nat.le_of_ble_eq_true rfl) (htg _ wq_264) (fun _ h9 => h9) rfl dJ5_getValue_6d5f1_1 ?_
  have hEq : sbO o a n ml = sbO o a n ml := rfl
  exact W.widen (k := 0) (n := 0) (by first | exact Nat.le_of_ble_eq_true rfl | omega) (by first | exact Nat.le_of_ble_eq_true rfl | omega) (W.aret (v := .ref a) hx hb hr (Or.inr ⟨_, rfl⟩) (Or.inr ⟨_, rfl⟩) (fun t9 ht9 hW9 => ⟨⟨(), _, rfl, trivial, rfl, by rw [ht9]; show va_P dg vwCl (sbO o a n ml) _; rw [hEq]; exact hP, by rw [hAe]; show va_D A (sbO o a n ml); rw [hEq]; exact hD⟩, hS.F ht9⟩) hS.2.2 dJ5_getValue_6d5f1_4)

set_option maxHeartbeats 4000000 in
set_option maxRecDepth 100000 in
/-- java/lang/AbstractStringBuilder.length -/
theorem t_len5 (l : Launch) (dg : va_G) (ck : Nat → ClassId) (ka : Nat → Nat) (o a : Nat) (n ml : Int) (sz : Nat)  : Met l yJ5_length_8abf5 (.code yJ5_length_8abf5 cJ5_length_8abf5 1 (some .int) :: GW) ({ frames := 0, cells := 0, slots := 0, locals := 0 }) (va_Pc [.ref o] (wrK dg ck ka sz (sbO o a n ml))) (va_Qi (fun r (_ : Unit) => r = zI n) (fun _ t9 => wrQ dg sz (sbO o a n ml) (sbO o a n ml) t9) (va_A (sbO o a n ml) sz)) 0 0 (va_A (sbO o a n ml) sz) := by
  refine Met.ofW (cc := cJ5_length_8abf5) (maxL := 1) (ret := (some .int)) (by decide) rfl ?_
  intro p e s m args below meth c s₁ B hml hv
  obtain ⟨rfl, ⟨hsz, hP, hK, hD0⟩, hC⟩ := hv
  have hx := B.exec
  have hb := B.bytes
  have hr := B.returns
  have hts := atoms_spec (ws := .code yJ5_length_8abf5 cJ5_length_8abf5 1 (some .int) :: GW) B.pre
  have htg : ∀ w ∈ GW, w.before _ s = true := fun w h => hts w (List.mem_cons_of_mem _ h)
  have hown : s.vm.findClass RJ5 = some m.cls := findClass_of_methodNamed B.named
  have hlocks := B.notSynchronized
  subst hsz
  have hD := hD0.self (sz := s.heap.size)
  generalize hAe : va_A (sbO o a n ml) s.heap.size = A at hD hC ⊢
  have hA : ∀ q : Nat, s.heap.size ≤ q → A q := fun q h => by rw [← hAe]; exact Or.inr h
  have hS : va_S A s.heap s.heap [] := va_S.rf
  have hP : va_P dg vwCl (sbO o a n ml) s.heap := hP
  have hl := lv_entry ([.ref o]) (n := 1) (Nat.le_of_ble_eq_true rfl)
  rw [lg_entry_eq]
  generalize (lg_sl ([.ref o]) ++ List.replicate (1 - (lg_sl ([.ref o])).length) Slot.unset).toArray = ls at hl ⊢
  have hl : lv_has ls 1 [(0, .ref o)] := hl
  refine lv_aload_n hx hb dJ5_length_8abf5_0 rfl (lv_at hl 0 rfl) ?_
  refine va_get (D := dg) (ci := 1) (v := .int (zI n)) (C := RJ4) (T := TJ4) (N := 4) hx hb htg inG_J4 hown hK hP 0 rfl rfl 3 (Nat.le_of_ble_eq_true rfl) (htg _ wq_268) (fun _ h9 => h9) rfl dJ5_length_8abf5_1 ?_
  have hEq : sbO o a n ml = sbO o a n ml := rfl
  exact W.widen (k := 0) (n := 0) (by first | exact Nat.le_of_ble_eq_true rfl | omega) (by first | exact Nat.le_of_ble_eq_true rfl | omega) (W.iret (v := _) hx hb hr (fun t9 ht9 hW9 => ⟨⟨_, (), rfl, rfl, by rw [ht9]; show va_P dg vwCl (sbO o a n ml) _; rw [hEq]; exact hP, by rw [hAe]; show va_D A (sbO o a n ml); rw [hEq]; exact hD⟩, hS.F ht9⟩) hS.2.2 dJ5_length_8abf5_4)

set_option maxHeartbeats 4000000 in
set_option maxRecDepth 100000 in
/-- java/lang/StringBuilder.length -/
theorem t_len4 (l : Launch) (dg : va_G) (ck : Nat → ClassId) (ka : Nat → Nat) (o a : Nat) (n ml : Int) (sz : Nat)  : Met l yJ4_length_8abf5 (.code yJ4_length_8abf5 cJ4_length_8abf5 1 (some .int) :: GW) ({ frames := 1, cells := 0, slots := 0, locals := 20 }) (va_Pc [.ref o] (wrK dg ck ka sz (sbO o a n ml))) (va_Qi (fun r (_ : Unit) => r = zI n) (fun _ t9 => wrQ dg sz (sbO o a n ml) (sbO o a n ml) t9) (va_A (sbO o a n ml) sz)) 0 0 (va_A (sbO o a n ml) sz) := by
  refine Met.ofW (cc := cJ4_length_8abf5) (maxL := 1) (ret := (some .int)) (by decide) rfl ?_
  intro p e s m args below meth c s₁ B hml hv
  obtain ⟨rfl, ⟨hsz, hP, hK, hD0⟩, hC⟩ := hv
  have hx := B.exec
  have hb := B.bytes
  have hr := B.returns
  have hts := atoms_spec (ws := .code yJ4_length_8abf5 cJ4_length_8abf5 1 (some .int) :: GW) B.pre
  have htg : ∀ w ∈ GW, w.before _ s = true := fun w h => hts w (List.mem_cons_of_mem _ h)
  have hown : s.vm.findClass RJ4 = some m.cls := findClass_of_methodNamed B.named
  have hlocks := B.notSynchronized
  subst hsz
  have hD := hD0.self (sz := s.heap.size)
  generalize hAe : va_A (sbO o a n ml) s.heap.size = A at hD hC ⊢
  have hA : ∀ q : Nat, s.heap.size ≤ q → A q := fun q h => by rw [← hAe]; exact Or.inr h
  have hS : va_S A s.heap s.heap [] := va_S.rf
  have hP : va_P dg vwCl (sbO o a n ml) s.heap := hP
  have hl := lv_entry ([.ref o]) (n := 1) (Nat.le_of_ble_eq_true rfl)
  rw [lg_entry_eq]
  generalize (lg_sl ([.ref o]) ++ List.replicate (1 - (lg_sl ([.ref o])).length) Slot.unset).toArray = ls at hl ⊢
  have hl : lv_has ls 1 [(0, .ref o)] := hl
  refine lv_aload_n hx hb dJ4_length_8abf5_0 rfl (lv_at hl 0 rfl) ?_
  refine x_calliUB (wf := fun u1 : Unit => sbO o a n ml) (M := sbO o a n ml) (Mf := fun u1 => sbO o a n ml) (N := []) (cat_perm [sbO o a n ml] [0] [] 1 rfl (by decide)) (fun u1 => cat_perm [sbO o a n ml] [0] [] 1 rfl (by decide)) hP hD hS hA (fun hPm hDm => va_runSU ((hK.1 1 _ rfl).2) (As := []) (rest := []) ⟨hx, hb, hml, hown, htg⟩ (t_len5 l dg ck ka o a n ml _) (va_cwSU 0 htg (gwSU wq_1019 wq_1015 wq_277 wq_1014 wq_11 wq_1020) rfl rfl rfl (by decide +kernel) ⟨Nat.le_of_ble_eq_true rfl, Nat.le_of_ble_eq_true rfl⟩) (wrK_preV hK hPm hDm hC hS hA 0 1 rfl rfl) rfl rfl hl.1 rfl (lv_room (Nat.le_of_ble_eq_true rfl)) dJ4_length_8abf5_1 ⟨Nat.le_of_ble_eq_true rfl, Nat.le_of_ble_eq_true rfl⟩) (fun r1 u1 H locs hu1 hP hD hS => ?_)
  have hP : va_P dg vwCl (sbO o a n ml) H := hP
  have hD : va_D A (sbO o a n ml) := hD
  subst hu1
  have hEq : sbO o a n ml = sbO o a n ml := rfl
  exact W.widen (k := 0) (n := 0) (by first | exact Nat.le_of_ble_eq_true rfl | omega) (by first | exact Nat.le_of_ble_eq_true rfl | omega) (W.iret (v := _) hx hb hr (fun t9 ht9 hW9 => ⟨⟨_, (), rfl, rfl, by rw [ht9]; show va_P dg vwCl (sbO o a n ml) _; rw [hEq]; exact hP, by rw [hAe]; show va_D A (sbO o a n ml); rw [hEq]; exact hD⟩, hS.F ht9⟩) hS.2.2 dJ4_length_8abf5_4)

set_option maxHeartbeats 4000000 in
set_option maxRecDepth 100000 in
/-- java/lang/AbstractStringBuilder.isLatin1 -/
theorem t_isL (l : Launch) (dg : va_G) (ck : Nat → ClassId) (ka : Nat → Nat) (o a : Nat) (n ml : Int) (sz : Nat)  : Met l yJ5_isLatin1_aae02 (.code yJ5_isLatin1_aae02 cJ5_isLatin1_aae02 1 (some .boolean) :: GW) ({ frames := 0, cells := 0, slots := 0, locals := 0 }) (va_Pc [.ref o] (wrK dg ck ka sz (sbO o a n ml))) (va_Qi (fun r (_ : Unit) => r = zI 1) (fun _ t9 => wrQ dg sz (sbO o a n ml) (sbO o a n ml) t9) (va_A (sbO o a n ml) sz)) 0 0 (va_A (sbO o a n ml) sz) := by
  refine Met.ofW (cc := cJ5_isLatin1_aae02) (maxL := 1) (ret := (some .boolean)) (by decide) rfl ?_
  intro p e s m args below meth c s₁ B hml hv
  obtain ⟨rfl, ⟨hsz, hP, hK, hD0⟩, hC⟩ := hv
  have hx := B.exec
  have hb := B.bytes
  have hr := B.returns
  have hts := atoms_spec (ws := .code yJ5_isLatin1_aae02 cJ5_isLatin1_aae02 1 (some .boolean) :: GW) B.pre
  have htg : ∀ w ∈ GW, w.before _ s = true := fun w h => hts w (List.mem_cons_of_mem _ h)
  have hown : s.vm.findClass RJ5 = some m.cls := findClass_of_methodNamed B.named
  have hlocks := B.notSynchronized
  subst hsz
  have hD := hD0.self (sz := s.heap.size)
  generalize hAe : va_A (sbO o a n ml) s.heap.size = A at hD hC ⊢
  have hA : ∀ q : Nat, s.heap.size ≤ q → A q := fun q h => by rw [← hAe]; exact Or.inr h
  have hS : va_S A s.heap s.heap [] := va_S.rf
  have hP : va_P dg vwCl (sbO o a n ml) s.heap := hP
  have hl := lv_entry ([.ref o]) (n := 1) (Nat.le_of_ble_eq_true rfl)
  rw [lg_entry_eq]
  generalize (lg_sl ([.ref o]) ++ List.replicate (1 - (lg_sl ([.ref o])).length) Slot.unset).toArray = ls at hl ⊢
  have hl : lv_has ls 1 [(0, .ref o)] := hl
  refine va_gets (v := .int (zI 1)) hx hb hC.cmp hS hown (htg _ wq_255) (fun _ h9 => h9) dJ5_isLatin1_aae02_0 ?_
  refine x_if_eq (tgt := 17) hx hb dJ5_isLatin1_aae02_3 (by decide) (by omega) (fun c3 => absurd c3 (by decide)) (fun c3 => ?_)
  refine lv_aload_n hx hb dJ5_isLatin1_aae02_6 rfl (lv_at hl 0 rfl) ?_
  refine va_get (D := dg) (ci := 1) (v := .int (zI 0)) (C := RJ4) (T := TJ4) (N := 4) hx hb htg inG_J4 hown hK hP 0 rfl rfl 1 (Nat.le_of_ble_eq_true rfl) (htg _ wq_265) (fun _ h9 => h9) rfl dJ5_isLatin1_aae02_7 ?_
  refine x_if_ne (tgt := 17) hx hb dJ5_isLatin1_aae02_10 (by decide) (by omega) (fun c10 => absurd c10 (by decide)) (fun c10 => ?_)
  refine x_iconst hx hb dJ5_isLatin1_aae02_13 ?_
  refine lv_goto (tgt := 18) hx hb dJ5_isLatin1_aae02_14 (by decide) ?_
  have hEq : sbO o a n ml = sbO o a n ml := rfl
  exact W.widen (k := 0) (n := 0) (by first | exact Nat.le_of_ble_eq_true rfl | omega) (by first | exact Nat.le_of_ble_eq_true rfl | omega) (W.zret (v := _) hx hb hr (by first | rfl | rfl) (fun t9 ht9 hW9 => ⟨⟨_, (), rfl, rfl, by rw [ht9]; show va_P dg vwCl (sbO o a n ml) _; rw [hEq]; exact hP, by rw [hAe]; show va_D A (sbO o a n ml); rw [hEq]; exact hD⟩, hS.F ht9⟩) hS.2.2 dJ5_isLatin1_aae02_18)

set_option maxHeartbeats 4000000 in
set_option maxRecDepth 100000 in
/-- java/util/Arrays.checkLength -/
theorem j_chkLen (l : Launch) (dg : va_G) (ck : Nat → ClassId) (ka : Nat → Nat) (n : Int) (sz : Nat) (hn : 0 ≤ n ∧ n < 100) : Met l yJ7_checkLength_df160 (.code yJ7_checkLength_df160 cJ7_checkLength_df160 2 none :: GW) ({ frames := 0, cells := 0, slots := 0, locals := 0 }) (va_Pc [.int (zI 0), .int (zI n)] (wrK dg ck ka sz (([] : va_W)))) (va_Qv (fun _ : Unit => True) (fun _ t9 => wrQ dg sz (([] : va_W)) (([] : va_W)) t9) (va_A (([] : va_W)) sz)) 0 0 (va_A (([] : va_W)) sz) := by
  refine Met.ofW (cc := cJ7_checkLength_df160) (maxL := 2) (ret := none) (by decide) rfl ?_
  intro p e s m args below meth c s₁ B hml hv
  obtain ⟨rfl, ⟨hsz, hP, hK, hD0⟩, hC⟩ := hv
  have hx := B.exec
  have hb := B.bytes
  have hr := B.returns
  have hts := atoms_spec (ws := .code yJ7_checkLength_df160 cJ7_checkLength_df160 2 none :: GW) B.pre
  have htg : ∀ w ∈ GW, w.before _ s = true := fun w h => hts w (List.mem_cons_of_mem _ h)
  have hown : s.vm.findClass RJ7 = some m.cls := findClass_of_methodNamed B.named
  have hlocks := B.notSynchronized
  subst hsz
  have hD := hD0.self (sz := s.heap.size)
  generalize hAe : va_A (([] : va_W)) s.heap.size = A at hD hC ⊢
  have hA : ∀ q : Nat, s.heap.size ≤ q → A q := fun q h => by rw [← hAe]; exact Or.inr h
  have hS : va_S A s.heap s.heap [] := va_S.rf
  have hP : va_P dg vwCl (([] : va_W)) s.heap := hP
  have hl := lv_entry ([.int (zI 0), .int (zI n)]) (n := 2) (Nat.le_of_ble_eq_true rfl)
  rw [lg_entry_eq]
  generalize (lg_sl ([.int (zI 0), .int (zI n)]) ++ List.replicate (2 - (lg_sl ([.int (zI 0), .int (zI n)])).length) Slot.unset).toArray = ls at hl ⊢
  have hl : lv_has ls 2 [(0, .int (zI 0)), (1, .int (zI n))] := hl
  refine lv_iload_n hx hb dJ7_checkLength_df160_0 rfl (lv_at hl 1 rfl) ?_
  refine lv_iload_n hx hb dJ7_checkLength_df160_1 rfl (lv_at hl 0 rfl) ?_
  refine x_icmp_ge (tgt := 37) hx hb dJ7_checkLength_df160_2 (by decide) (by omega) (by omega) (fun c2 => ?_) (fun c2 => False.elim (by omega))
  have hEq : ([] : va_W) = ([] : va_W) := rfl
  exact W.widen (k := 0) (n := 0) (by first | exact Nat.le_of_ble_eq_true rfl | omega) (by first | exact Nat.le_of_ble_eq_true rfl | omega) (W.vret hx hb hr (fun t9 ht9 hW9 => ⟨⟨(), rfl, trivial, by rw [ht9]; show va_P dg vwCl (([] : va_W)) _; rw [hEq]; exact hP, by rw [hAe]; show va_D A (([] : va_W)); rw [hEq]; exact hD⟩, hS.F ht9⟩) hS.2.2 dJ7_checkLength_df160_37)

set_option maxHeartbeats 4000000 in
set_option maxRecDepth 100000 in
/-- java/util/Arrays.copyOfRangeByte -/
theorem j_corB (l : Launch) (dg : va_G) (ck : Nat → ClassId) (ka : Nat → Nat) (a N : Nat) (n : Int) (Y : Int → Int) (sz : Nat) (hn : 1 ≤ n ∧ n < N) (hN : N ≤ 34) (hLY : LY N Y) : Met l yJ7_copyOfRangeByte_39247 (.code yJ7_copyOfRangeByte_39247 cJ7_copyOfRangeByte_39247 5 (some (.array .byte)) :: GW) ({ frames := 1, cells := 1, slots := 34, locals := 26 }) (va_Pc [.ref a, .int (zI 0), .int (zI n)] (wrK dg ck ka sz (bR ck a N Y))) (va_Qr (fun u : Nat => True) (fun u ra t9 => ra = u ∧ wrQ dg sz (bR ck a N Y) (bR ck a N Y ++ (bR ck u (n.toNat) (cpZ Y (fun _ => 0) 0 n))) t9) (va_A (bR ck a N Y) sz)) 1 34 (va_A (bR ck a N Y) sz) := by
  refine Met.ofW (cc := cJ7_copyOfRangeByte_39247) (maxL := 5) (ret := (some (.array .byte))) (by decide) rfl ?_
  intro p e s m args below meth c s₁ B hml hv
  obtain ⟨rfl, ⟨hsz, hP, hK, hD0⟩, hC⟩ := hv
  have hx := B.exec
  have hb := B.bytes
  have hr := B.returns
  have hts := atoms_spec (ws := .code yJ7_copyOfRangeByte_39247 cJ7_copyOfRangeByte_39247 5 (some (.array .byte)) :: GW) B.pre
  have htg : ∀ w ∈ GW, w.before _ s = true := fun w h => hts w (List.mem_cons_of_mem _ h)
  have hown : s.vm.findClass RJ7 = some m.cls := findClass_of_methodNamed B.named
  have hlocks := B.notSynchronized
  subst hsz
  have hD := hD0.self (sz := s.heap.size)
  generalize hAe : va_A (bR ck a N Y) s.heap.size = A at hD hC ⊢
  have hA : ∀ q : Nat, s.heap.size ≤ q → A q := fun q h => by rw [← hAe]; exact Or.inr h
  have hS : va_S A s.heap s.heap [] := va_S.rf
  have hP : va_P dg vwCl (bR ck a N Y) s.heap := hP
  have hl := lv_entry ([.ref a, .int (zI 0), .int (zI n)]) (n := 5) (Nat.le_of_ble_eq_true rfl)
  rw [lg_entry_eq]
  generalize (lg_sl ([.ref a, .int (zI 0), .int (zI n)]) ++ List.replicate (5 - (lg_sl ([.ref a, .int (zI 0), .int (zI n)])).length) Slot.unset).toArray = ls at hl ⊢
  have hl : lv_has ls 5 [(0, .ref a), (1, .int (zI 0)), (2, .int (zI n))] := hl
  refine lv_iload_n hx hb dJ7_copyOfRangeByte_39247_0 rfl (lv_at hl 1 rfl) ?_
  refine lv_iload_n hx hb dJ7_copyOfRangeByte_39247_1 rfl (lv_at hl 2 rfl) ?_
  refine x_callvUB (wf := fun u2 : Unit => bR ck a N Y) (M := []) (Mf := fun u2 => []) (N := bR ck a N Y) (cat_perm [bR ck a N Y] [] [0] 1 rfl (by decide)) (fun u2 => cat_perm [bR ck a N Y] [] [0] 1 rfl (by decide)) hP hD hS hA (fun hPm hDm => va_runS (As := [.int (zI 0), .int (zI n)]) (rest := []) ⟨hx, hb, hml, hown, htg⟩ (j_chkLen l dg ck ka n _ (by omega)) (cwS 2 htg (gwS wq_1028 wq_1029 wq_4 wq_1030) rfl rfl rfl (by decide +kernel) ⟨Nat.le_of_ble_eq_true rfl, Nat.le_of_ble_eq_true rfl⟩) (wrK_preS hK hPm hDm hC hS hA) rfl rfl hl.1 rfl (lv_room (Nat.le_of_ble_eq_true rfl)) dJ7_copyOfRangeByte_39247_2 ⟨Nat.le_of_ble_eq_true rfl, Nat.le_of_ble_eq_true rfl⟩) (fun u2 H locs hu2 hP hD hS => ?_)
  have hP : va_P dg vwCl (bR ck a N Y) H := hP
  have hD : va_D A (bR ck a N Y) := hD
  refine lv_iload_n hx hb dJ7_copyOfRangeByte_39247_5 rfl (lv_at hl 2 rfl) ?_
  refine lv_iload_n hx hb dJ7_copyOfRangeByte_39247_6 rfl (lv_at hl 1 rfl) ?_
  refine x_isub hx hb dJ7_copyOfRangeByte_39247_7 ?_
  refine x_is (show n - 0 = n by omega) ?_
  refine lv_istore_n (lv' := [(3, .int (zI n)), (0, .ref a), (1, .int (zI 0)), (2, .int (zI n))]) hx hb dJ7_copyOfRangeByte_39247_8 rfl hl (by decide) rfl (fun ls hl => ?_)
  refine lv_iload_n hx hb dJ7_copyOfRangeByte_39247_9 rfl (lv_at hl 0 rfl) ?_
  refine x_newi (atype := .byte) (ty := .byte) (f := zz (fun _ => 0)) (N := n.toNat) hx hb (htg _ wq_278) rfl (fun _ h => h) hK hP hD hS hA 3 rfl (fun _ => rfl) (fun h9 => by have h8 := (zI_lt (a := n) (b := 0) (by omega) (by omega)).mp h9; omega) (by rw [zI_clamp (by omega)] <;> first | rfl | omega) (by show n.toNat * 1 ≤ 536870912; omega) (Nat.le_of_ble_eq_true rfl) (by first | exact Nat.le_of_ble_eq_true rfl | (show _ ≤ 34; omega)) dJ7_copyOfRangeByte_39247_10 (fun q10 H hP hD hS => ?_)
  have hP : va_P dg vwCl (bR ck a N Y ++ (bR ck q10 (n.toNat) (fun _ => 0))) H := va_P_eq (by simp only [List.append_assoc] <;> rfl) hP
  have hD : va_D A (bR ck a N Y ++ (bR ck q10 (n.toNat) (fun _ => 0))) := va_D_eq (by simp only [List.append_assoc] <;> rfl) hD
  refine lv_astore (lv' := [(4, .ref q10), (3, .int (zI n)), (0, .ref a), (1, .int (zI 0)), (2, .int (zI n))]) hx hb dJ7_copyOfRangeByte_39247_12 hl (by decide) rfl (fun ls hl => ?_)
  refine lv_aload_n hx hb dJ7_copyOfRangeByte_39247_14 rfl (lv_at hl 2 rfl) ?_
  refine lv_iload_n hx hb dJ7_copyOfRangeByte_39247_15 rfl (lv_at hl 3 rfl) ?_
  refine lv_aload hx hb dJ7_copyOfRangeByte_39247_16 (lv_at hl 0 rfl) ?_
  refine x_iconst hx hb dJ7_copyOfRangeByte_39247_18 ?_
  refine lv_aload_n hx hb dJ7_copyOfRangeByte_39247_19 rfl (lv_at hl 2 rfl) ?_
  refine x_alen hx hb hK hP 0 3 rfl rfl dJ7_copyOfRangeByte_39247_20 ?_
  refine lv_iload_n hx hb dJ7_copyOfRangeByte_39247_21 rfl (lv_at hl 3 rfl) ?_
  refine x_isub hx hb dJ7_copyOfRangeByte_39247_22 ?_
  refine x_is (show ((N : Nat) : Int) - 0 = ((N : Nat) : Int) by omega) ?_
  refine lv_iload_n hx hb dJ7_copyOfRangeByte_39247_23 rfl (lv_at hl 1 rfl) ?_
  refine x_mmin hx hb (hml.trans hl.1.symm) hown (htg _ wq_892) (htg _ wq_718) (htg _ wq_23) (htg _ wq_719) (Nat.le_of_ble_eq_true rfl) (Nat.le_of_ble_eq_true rfl) (Nat.le_of_ble_eq_true rfl) (by first | exact Nat.le_of_ble_eq_true rfl | (show _ ≤ 34; omega)) (by omega) (by omega) dJ7_copyOfRangeByte_39247_24 (fun m24 hm24 => ?_)
  refine x_is (show m24 = n by omega) ?_
  refine x_cpW (n := n) (dp := 0) (F := Y) (Y := (fun _ => 0)) (ws' := bR ck a N Y ++ (bR ck q10 (n.toNat) (cpZ Y (fun _ => 0) 0 n))) hx hb (hml.trans hl.1.symm) hown (htg _ wq_893) (htg _ wq_607) (htg _ wq_606) (htg _ wq_24) hK hP hD hS 0 1 3 rfl rfl rfl hLY (by omega) (by omega) (by omega) (by omega) (by omega) rfl (Nat.le_of_ble_eq_true rfl) (Nat.le_of_ble_eq_true rfl) dJ7_copyOfRangeByte_39247_27 (fun H locs hP hD hS => ?_)
  refine lv_aload hx hb dJ7_copyOfRangeByte_39247_30 (lv_at hl 0 rfl) ?_
  have hEq : bR ck a N Y ++ (bR ck q10 (n.toNat) (cpZ Y (fun _ => 0) 0 n)) = bR ck a N Y ++ (bR ck q10 (n.toNat) (cpZ Y (fun _ => 0) 0 n)) := rfl
  exact W.widen (k := 1) (n := 34) (by first | exact Nat.le_of_ble_eq_true rfl | omega) (by first | exact Nat.le_of_ble_eq_true rfl | omega) (W.aret (v := .ref q10) hx hb hr (Or.inr ⟨_, rfl⟩) (Or.inr ⟨_, rfl⟩) (fun t9 ht9 hW9 => ⟨⟨q10, _, rfl, trivial, rfl, by rw [ht9]; show va_P dg vwCl (bR ck a N Y ++ (bR ck q10 (n.toNat) (cpZ Y (fun _ => 0) 0 n))) _; rw [hEq]; exact hP, by rw [hAe]; show va_D A (bR ck a N Y ++ (bR ck q10 (n.toNat) (cpZ Y (fun _ => 0) 0 n))); rw [hEq]; exact hD⟩, hS.F ht9⟩) hS.2.2 dJ7_copyOfRangeByte_39247_32)

set_option maxHeartbeats 4000000 in
set_option maxRecDepth 100000 in
/-- java/util/Arrays.copyOfRange -/
theorem j_cor (l : Launch) (dg : va_G) (ck : Nat → ClassId) (ka : Nat → Nat) (a N : Nat) (n : Int) (Y : Int → Int) (sz : Nat) (hn : 1 ≤ n ∧ n < N) (hN : N ≤ 34) (hLY : LY N Y) : Met l yJ7_copyOfRange_39247 (.code yJ7_copyOfRange_39247 cJ7_copyOfRange_39247 3 (some (.array .byte)) :: GW) ({ frames := 2, cells := 1, slots := 34, locals := 50 }) (va_Pc [.ref a, .int (zI 0), .int (zI n)] (wrK dg ck ka sz (bR ck a N Y))) (va_Qr (fun u : Nat => True) (fun u ra t9 => ra = u ∧ wrQ dg sz (bR ck a N Y) (bR ck a N Y ++ (bR ck u (n.toNat) (cpZ Y (fun _ => 0) 0 n))) t9) (va_A (bR ck a N Y) sz)) 1 34 (va_A (bR ck a N Y) sz) := by
  refine Met.ofW (cc := cJ7_copyOfRange_39247) (maxL := 3) (ret := (some (.array .byte))) (by decide) rfl ?_
  intro p e s m args below meth c s₁ B hml hv
  obtain ⟨rfl, ⟨hsz, hP, hK, hD0⟩, hC⟩ := hv
  have hx := B.exec
  have hb := B.bytes
  have hr := B.returns
  have hts := atoms_spec (ws := .code yJ7_copyOfRange_39247 cJ7_copyOfRange_39247 3 (some (.array .byte)) :: GW) B.pre
  have htg : ∀ w ∈ GW, w.before _ s = true := fun w h => hts w (List.mem_cons_of_mem _ h)
  have hown : s.vm.findClass RJ7 = some m.cls := findClass_of_methodNamed B.named
  have hlocks := B.notSynchronized
  subst hsz
  have hD := hD0.self (sz := s.heap.size)
  generalize hAe : va_A (bR ck a N Y) s.heap.size = A at hD hC ⊢
  have hA : ∀ q : Nat, s.heap.size ≤ q → A q := fun q h => by rw [← hAe]; exact Or.inr h
  have hS : va_S A s.heap s.heap [] := va_S.rf
  have hP : va_P dg vwCl (bR ck a N Y) s.heap := hP
  have hl := lv_entry ([.ref a, .int (zI 0), .int (zI n)]) (n := 3) (Nat.le_of_ble_eq_true rfl)
  rw [lg_entry_eq]
  generalize (lg_sl ([.ref a, .int (zI 0), .int (zI n)]) ++ List.replicate (3 - (lg_sl ([.ref a, .int (zI 0), .int (zI n)])).length) Slot.unset).toArray = ls at hl ⊢
  have hl : lv_has ls 3 [(0, .ref a), (1, .int (zI 0)), (2, .int (zI n))] := hl
  refine lv_iload_n hx hb dJ7_copyOfRange_39247_0 rfl (lv_at hl 1 rfl) ?_
  refine x_if_ne (tgt := 10) hx hb dJ7_copyOfRange_39247_1 (by decide) (by omega) (fun c1 => absurd c1 (by decide)) (fun c1 => ?_)
  refine lv_iload_n hx hb dJ7_copyOfRange_39247_4 rfl (lv_at hl 2 rfl) ?_
  refine lv_aload_n hx hb dJ7_copyOfRange_39247_5 rfl (lv_at hl 0 rfl) ?_
  refine x_alen hx hb hK hP 0 3 rfl rfl dJ7_copyOfRange_39247_6 ?_
  refine x_icmp_eq (tgt := 17) hx hb dJ7_copyOfRange_39247_7 (by decide) (by omega) (by omega) (fun c7 => False.elim (by omega)) (fun c7 => ?_)
  refine lv_aload_n hx hb dJ7_copyOfRange_39247_10 rfl (lv_at hl 0 rfl) ?_
  refine lv_iload_n hx hb dJ7_copyOfRange_39247_11 rfl (lv_at hl 1 rfl) ?_
  refine lv_iload_n hx hb dJ7_copyOfRange_39247_12 rfl (lv_at hl 2 rfl) ?_
  refine x_callrUB (fr := fun u13 : Nat => u13) (wf := fun u13 : Nat => bR ck a N Y ++ (bR ck u13 (n.toNat) (cpZ Y (fun _ => 0) 0 n))) (M := bR ck a N Y) (Mf := fun u13 => bR ck a N Y ++ (bR ck u13 (n.toNat) (cpZ Y (fun _ => 0) 0 n))) (N := []) (cat_perm [bR ck a N Y] [0] [] 1 rfl (by decide)) (fun u13 => cat_perm [bR ck a N Y, bR ck u13 (n.toNat) (cpZ Y (fun _ => 0) 0 n)] [0, 1] [] 2 rfl (by decide)) hP hD hS hA (fun hPm hDm => va_runS (As := [.ref a, .int (zI 0), .int (zI n)]) (rest := []) ⟨hx, hb, hml, hown, htg⟩ (j_corB l dg ck ka a N n Y _ hn hN hLY) (cwS 3 htg (gwS wq_1025 wq_1026 wq_4 wq_1027) rfl rfl rfl (by decide +kernel) ⟨Nat.le_of_ble_eq_true rfl, Nat.le_of_ble_eq_true rfl⟩) (wrK_preS hK hPm hDm hC hS hA) rfl rfl hl.1 rfl (lv_room (Nat.le_of_ble_eq_true rfl)) dJ7_copyOfRange_39247_13 ⟨Nat.le_of_ble_eq_true rfl, Nat.le_of_ble_eq_true rfl⟩) (fun u13 H locs hu13 hP hD hS => ?_)
  have hP : va_P dg vwCl (bR ck a N Y ++ (bR ck u13 (n.toNat) (cpZ Y (fun _ => 0) 0 n))) H := hP
  have hD : va_D A (bR ck a N Y ++ (bR ck u13 (n.toNat) (cpZ Y (fun _ => 0) 0 n))) := hD
  refine W.eq (g2 := F0 m 16 ls [.ref u13]) rfl ?_
  have hEq : bR ck a N Y ++ (bR ck u13 (n.toNat) (cpZ Y (fun _ => 0) 0 n)) = bR ck a N Y ++ (bR ck u13 (n.toNat) (cpZ Y (fun _ => 0) 0 n)) := rfl
  exact W.widen (k := 1) (n := 34) (by first | exact Nat.le_of_ble_eq_true rfl | omega) (by first | exact Nat.le_of_ble_eq_true rfl | omega) (W.aret (v := .ref u13) hx hb hr (Or.inr ⟨_, rfl⟩) (Or.inr ⟨_, rfl⟩) (fun t9 ht9 hW9 => ⟨⟨u13, _, rfl, trivial, rfl, by rw [ht9]; show va_P dg vwCl (bR ck a N Y ++ (bR ck u13 (n.toNat) (cpZ Y (fun _ => 0) 0 n))) _; rw [hEq]; exact hP, by rw [hAe]; show va_D A (bR ck a N Y ++ (bR ck u13 (n.toNat) (cpZ Y (fun _ => 0) 0 n))); rw [hEq]; exact hD⟩, hS.F ht9⟩) hS.2.2 dJ7_copyOfRange_39247_16)

set_option maxHeartbeats 4000000 in
set_option maxRecDepth 100000 in
/-- java/lang/String.<init> -/
theorem t_ini (l : Launch) (dg : va_G) (ck : Nat → ClassId) (ka : Nat → Nat) (q : Nat) (o a N : Nat) (n ml : Int) (Y : Int → Int) (sz : Nat) (hn : 1 ≤ n ∧ n < N) (hN : N ≤ 34) (hLY : LY N Y) : Met l yJ0_init_db425 (.code yJ0_init_db425 cJ0_init_db425 5 none :: GW) ({ frames := 3, cells := 1, slots := 34, locals := 72 }) (va_Pc [.ref q, .ref o, .null] (wrK dg ck ka sz ([(q, .inr (0, [.null, .int (zI 0), .int (zI 0), .int (zI 0)]))] ++ (sbO o a n ml ++ (bR ck a N Y))))) (va_Qv (fun u : Nat => True) (fun u t9 => wrQ dg sz ([(q, .inr (0, [.null, .int (zI 0), .int (zI 0), .int (zI 0)]))] ++ (sbO o a n ml ++ (bR ck a N Y))) (stO q u ++ (sbO o a n ml ++ (bR ck a N Y ++ (bR ck u (n.toNat) (cpZ Y (fun _ => 0) 0 n))))) t9) (va_A ([(q, .inr (0, [.null, .int (zI 0), .int (zI 0), .int (zI 0)]))] ++ (sbO o a n ml ++ (bR ck a N Y))) sz)) 1 34 (va_A ([(q, .inr (0, [.null, .int (zI 0), .int (zI 0), .int (zI 0)]))] ++ (sbO o a n ml ++ (bR ck a N Y))) sz) := by
  refine Met.ofW (cc := cJ0_init_db425) (maxL := 5) (ret := none) (by decide) rfl ?_
  intro p e s m args below meth c s₁ B hml hv
  obtain ⟨rfl, ⟨hsz, hP, hK, hD0⟩, hC⟩ := hv
  have hx := B.exec
  have hb := B.bytes
  have hr := B.returns
  have hts := atoms_spec (ws := .code yJ0_init_db425 cJ0_init_db425 5 none :: GW) B.pre
  have htg : ∀ w ∈ GW, w.before _ s = true := fun w h => hts w (List.mem_cons_of_mem _ h)
  have hown : s.vm.findClass RJ0 = some m.cls := findClass_of_methodNamed B.named
  have hlocks := B.notSynchronized
  subst hsz
  have hD := hD0.self (sz := s.heap.size)
  have hin : meth.name = "<init>" := (name_of_methodNamed B.named B.method).1
  generalize hAe : va_A ([(q, .inr (0, [.null, .int (zI 0), .int (zI 0), .int (zI 0)]))] ++ (sbO o a n ml ++ (bR ck a N Y))) s.heap.size = A at hD hC ⊢
  have hA : ∀ q : Nat, s.heap.size ≤ q → A q := fun q h => by rw [← hAe]; exact Or.inr h
  have hS : va_S A s.heap s.heap [] := va_S.rf
  have hP : va_P dg vwCl ([(q, .inr (0, [.null, .int (zI 0), .int (zI 0), .int (zI 0)]))] ++ (sbO o a n ml ++ (bR ck a N Y))) s.heap := hP
  have hl := lv_entry ([.ref q, .ref o, .null]) (n := 5) (Nat.le_of_ble_eq_true rfl)
  rw [lg_entry_eq]
  generalize (lg_sl ([.ref q, .ref o, .null]) ++ List.replicate (5 - (lg_sl ([.ref q, .ref o, .null])).length) Slot.unset).toArray = ls at hl ⊢
  have hl : lv_has ls 5 [(0, .ref q), (1, .ref o), (2, .null)] := hl
  refine lv_aload_n hx hb dJ0_init_db425_0 rfl (lv_at hl 0 rfl) ?_
  refine W.objInit hx hb hown (htg _ wq_1007) (htg _ wq_40) (htg _ wq_41) rfl (by rw [hml]; exact hl.1) rfl dJ0_init_db425_1 (Nat.le_of_ble_eq_true rfl) (Nat.le_of_ble_eq_true rfl) ?_
  refine W.eq (g2 := F0 m 4 ls []) rfl ?_
  refine lv_aload_n hx hb dJ0_init_db425_4 rfl (lv_at hl 1 rfl) ?_
  refine x_callrUB (fr := fun u5 : Unit => a) (wf := fun u5 : Unit => sbO o a n ml ++ ([(q, .inr (0, [.null, .int (zI 0), .int (zI 0), .int (zI 0)]))] ++ (bR ck a N Y))) (M := sbO o a n ml) (Mf := fun u5 => sbO o a n ml) (N := [(q, .inr (0, [.null, .int (zI 0), .int (zI 0), .int (zI 0)]))] ++ (bR ck a N Y)) (cat_perm [[(q, .inr (0, [.null, .int (zI 0), .int (zI 0), .int (zI 0)]))], sbO o a n ml, bR ck a N Y] [1] [0, 2] 3 rfl (by decide)) (fun u5 => cat_perm [sbO o a n ml, [(q, .inr (0, [.null, .int (zI 0), .int (zI 0), .int (zI 0)]))], bR ck a N Y] [0] [1, 2] 3 rfl (by decide)) hP hD hS hA (fun hPm hDm => va_runV (As := []) (rest := []) ⟨hx, hb, hml, hown, htg⟩ (t_val l dg ck ka o a n ml _) (cwVC 0 htg wq_1008 wq_1009 (htg _ wq_1011) wq_11 wq_1012 rfl rfl (by decide +kernel) ⟨Nat.le_of_ble_eq_true rfl, Nat.le_of_ble_eq_true rfl⟩) (wrK_preV hK hPm hDm hC hS hA 0 1 rfl rfl) rfl rfl hl.1 rfl (lv_room (Nat.le_of_ble_eq_true rfl)) dJ0_init_db425_5 ⟨Nat.le_of_ble_eq_true rfl, Nat.le_of_ble_eq_true rfl⟩) (fun u5 H locs hu5 hP hD hS => ?_)
  have hP : va_P dg vwCl (sbO o a n ml ++ ([(q, .inr (0, [.null, .int (zI 0), .int (zI 0), .int (zI 0)]))] ++ (bR ck a N Y))) H := hP
  have hD : va_D A (sbO o a n ml ++ ([(q, .inr (0, [.null, .int (zI 0), .int (zI 0), .int (zI 0)]))] ++ (bR ck a N Y))) := hD
  refine W.eq (g2 := F0 m 8 ls [.ref a]) rfl ?_
  refine lv_astore_n (lv' := [(3, .ref a), (0, .ref q), (1, .ref o), (2, .null)]) hx hb dJ0_init_db425_8 rfl hl (by decide) rfl (fun ls hl => ?_)
  refine lv_aload_n hx hb dJ0_init_db425_9 rfl (lv_at hl 2 rfl) ?_
  refine x_calliUB (wf := fun u10 : Unit => sbO o a n ml ++ ([(q, .inr (0, [.null, .int (zI 0), .int (zI 0), .int (zI 0)]))] ++ (bR ck a N Y))) (M := sbO o a n ml) (Mf := fun u10 => sbO o a n ml) (N := [(q, .inr (0, [.null, .int (zI 0), .int (zI 0), .int (zI 0)]))] ++ (bR ck a N Y)) (cat_perm [sbO o a n ml, [(q, .inr (0, [.null, .int (zI 0), .int (zI 0), .int (zI 0)]))], bR ck a N Y] [0] [1, 2] 3 rfl (by decide)) (fun u10 => cat_perm [sbO o a n ml, [(q, .inr (0, [.null, .int (zI 0), .int (zI 0), .int (zI 0)]))], bR ck a N Y] [0] [1, 2] 3 rfl (by decide)) hP hD hS hA (fun hPm hDm => va_runU (As := []) (rest := []) ⟨hx, hb, hml, hown, htg⟩ (t_len4 l dg ck ka o a n ml _) (va_cwO 0 htg (gwO wq_1013 wq_1015 wq_1014 wq_1016 wq_1017 wq_12 wq_1018) rfl rfl rfl wq_1020 (by decide +kernel) ⟨Nat.le_of_ble_eq_true rfl, Nat.le_of_ble_eq_true rfl⟩) (wrK_preV hK hPm hDm hC hS hA 0 1 rfl rfl) rfl rfl hl.1 rfl (lv_room (Nat.le_of_ble_eq_true rfl)) dJ0_init_db425_10 ⟨Nat.le_of_ble_eq_true rfl, Nat.le_of_ble_eq_true rfl⟩) (fun r10 u10 H locs hu10 hP hD hS => ?_)
  have hP : va_P dg vwCl (sbO o a n ml ++ ([(q, .inr (0, [.null, .int (zI 0), .int (zI 0), .int (zI 0)]))] ++ (bR ck a N Y))) H := hP
  have hD : va_D A (sbO o a n ml ++ ([(q, .inr (0, [.null, .int (zI 0), .int (zI 0), .int (zI 0)]))] ++ (bR ck a N Y))) := hD
  subst hu10
  refine lv_istore (lv' := [(4, .int (zI n)), (3, .ref a), (0, .ref q), (1, .ref o), (2, .null)]) hx hb dJ0_init_db425_13 hl (by decide) rfl (fun ls hl => ?_)
  refine lv_aload_n hx hb dJ0_init_db425_15 rfl (lv_at hl 3 rfl) ?_
  refine x_calliUB (wf := fun u16 : Unit => sbO o a n ml ++ ([(q, .inr (0, [.null, .int (zI 0), .int (zI 0), .int (zI 0)]))] ++ (bR ck a N Y))) (M := sbO o a n ml) (Mf := fun u16 => sbO o a n ml) (N := [(q, .inr (0, [.null, .int (zI 0), .int (zI 0), .int (zI 0)]))] ++ (bR ck a N Y)) (cat_perm [sbO o a n ml, [(q, .inr (0, [.null, .int (zI 0), .int (zI 0), .int (zI 0)]))], bR ck a N Y] [0] [1, 2] 3 rfl (by decide)) (fun u16 => cat_perm [sbO o a n ml, [(q, .inr (0, [.null, .int (zI 0), .int (zI 0), .int (zI 0)]))], bR ck a N Y] [0] [1, 2] 3 rfl (by decide)) hP hD hS hA (fun hPm hDm => va_runV (As := []) (rest := []) ⟨hx, hb, hml, hown, htg⟩ (t_isL l dg ck ka o a n ml _) (cwVC 0 htg wq_1021 wq_895 (htg _ wq_897) wq_11 wq_898 rfl rfl (by decide +kernel) ⟨Nat.le_of_ble_eq_true rfl, Nat.le_of_ble_eq_true rfl⟩) (wrK_preV hK hPm hDm hC hS hA 0 1 rfl rfl) rfl rfl hl.1 rfl (lv_room (Nat.le_of_ble_eq_true rfl)) dJ0_init_db425_16 ⟨Nat.le_of_ble_eq_true rfl, Nat.le_of_ble_eq_true rfl⟩) (fun r16 u16 H locs hu16 hP hD hS => ?_)
  have hP : va_P dg vwCl (sbO o a n ml ++ ([(q, .inr (0, [.null, .int (zI 0), .int (zI 0), .int (zI 0)]))] ++ (bR ck a N Y))) H := hP
  have hD : va_D A (sbO o a n ml ++ ([(q, .inr (0, [.null, .int (zI 0), .int (zI 0), .int (zI 0)]))] ++ (bR ck a N Y))) := hD
  subst hu16
  refine x_if_eq (tgt := 41) hx hb dJ0_init_db425_19 (by decide) (by omega) (fun c19 => absurd c19 (by decide)) (fun c19 => ?_)
  refine lv_aload_n hx hb dJ0_init_db425_22 rfl (lv_at hl 2 rfl) ?_
  refine x_iconst hx hb dJ0_init_db425_23 ?_
  refine va_putF (D := dg) (ci := 0) (v := .int (zI 0)) (ty := .byte) (C := RJ0) (T := TJ0) (N := 4) hx hb htg inG_J0 tyJ0 tyJ0_ok nmJ0 hown hK hP hD hS 1 rfl rfl 1 (Nat.le_of_ble_eq_true rfl) (htg _ wq_1056) (fun _ h9 => h9) rfl hin rfl (by decide +kernel) rfl rfl (Nat.le_of_ble_eq_true rfl) dJ0_init_db425_24 (fun H locs hP hD hS => ?_)
  have hP : va_P dg vwCl (sbO o a n ml ++ ([(q, .inr (0, [.null, .int (zI 0), .int (zI 0), .int (zI 0)]))] ++ (bR ck a N Y))) H := hP
  have hD : va_D A (sbO o a n ml ++ ([(q, .inr (0, [.null, .int (zI 0), .int (zI 0), .int (zI 0)]))] ++ (bR ck a N Y))) := hD
  refine lv_aload_n hx hb dJ0_init_db425_27 rfl (lv_at hl 2 rfl) ?_
  refine lv_aload_n hx hb dJ0_init_db425_28 rfl (lv_at hl 1 rfl) ?_
  refine x_iconst hx hb dJ0_init_db425_29 ?_
  refine lv_iload hx hb dJ0_init_db425_30 (lv_at hl 0 rfl) ?_
  refine x_callrUB (fr := fun u32 : Nat => u32) (wf := fun u32 : Nat => bR ck a N Y ++ (bR ck u32 (n.toNat) (cpZ Y (fun _ => 0) 0 n) ++ (sbO o a n ml ++ ([(q, .inr (0, [.null, .int (zI 0), .int (zI 0), .int (zI 0)]))])))) (M := bR ck a N Y) (Mf := fun u32 => bR ck a N Y ++ (bR ck u32 (n.toNat) (cpZ Y (fun _ => 0) 0 n))) (N := sbO o a n ml ++ ([(q, .inr (0, [.null, .int (zI 0), .int (zI 0), .int (zI 0)]))])) (cat_perm [sbO o a n ml, [(q, .inr (0, [.null, .int (zI 0), .int (zI 0), .int (zI 0)]))], bR ck a N Y] [2] [0, 1] 3 rfl (by decide)) (fun u32 => cat_perm [bR ck a N Y, bR ck u32 (n.toNat) (cpZ Y (fun _ => 0) 0 n), sbO o a n ml, [(q, .inr (0, [.null, .int (zI 0), .int (zI 0), .int (zI 0)]))]] [0, 1] [2, 3] 4 rfl (by decide)) hP hD hS hA (fun hPm hDm => va_runS (As := [.ref a, .int (zI 0), .int (zI n)]) (rest := [.ref q]) ⟨hx, hb, hml, hown, htg⟩ (j_cor l dg ck ka a N n Y _ hn hN hLY) (cwSC 3 htg wq_1022 wq_1023 wq_4 wq_1024 rfl rfl (by decide +kernel) ⟨Nat.le_of_ble_eq_true rfl, Nat.le_of_ble_eq_true rfl⟩) (wrK_preS hK hPm hDm hC hS hA) rfl rfl hl.1 rfl (lv_room (Nat.le_of_ble_eq_true rfl)) dJ0_init_db425_32 ⟨Nat.le_of_ble_eq_true rfl, Nat.le_of_ble_eq_true rfl⟩) (fun u32 H locs hu32 hP hD hS => ?_)
  have hP : va_P dg vwCl (bR ck a N Y ++ (bR ck u32 (n.toNat) (cpZ Y (fun _ => 0) 0 n) ++ (sbO o a n ml ++ ([(q, .inr (0, [.null, .int (zI 0), .int (zI 0), .int (zI 0)]))])))) H := hP
  have hD : va_D A (bR ck a N Y ++ (bR ck u32 (n.toNat) (cpZ Y (fun _ => 0) 0 n) ++ (sbO o a n ml ++ ([(q, .inr (0, [.null, .int (zI 0), .int (zI 0), .int (zI 0)]))])))) := hD
  refine W.eq (g2 := F0 m 35 ls [.ref u32, .ref q]) rfl ?_
  refine va_putF (D := dg) (ci := 0) (v := .ref u32) (ty := (.array .byte)) (C := RJ0) (T := TJ0) (N := 4) hx hb htg inG_J0 tyJ0 tyJ0_ok nmJ0 hown hK hP hD hS 3 rfl rfl 0 (Nat.le_of_ble_eq_true rfl) (htg _ wq_1055) (fun _ h9 => h9) rfl hin rfl (by decide +kernel) rfl rfl (Nat.le_of_ble_eq_true rfl) dJ0_init_db425_35 (fun H locs hP hD hS => ?_)
  have hP : va_P dg vwCl (bR ck a N Y ++ (bR ck u32 (n.toNat) (cpZ Y (fun _ => 0) 0 n) ++ (sbO o a n ml ++ (stO q u32)))) H := hP
  have hD : va_D A (bR ck a N Y ++ (bR ck u32 (n.toNat) (cpZ Y (fun _ => 0) 0 n) ++ (sbO o a n ml ++ (stO q u32)))) := hD
  refine lv_goto (tgt := 97) hx hb dJ0_init_db425_38 (by decide) ?_
  have hP : va_P dg vwCl (stO q u32 ++ (sbO o a n ml ++ (bR ck a N Y ++ (bR ck u32 (n.toNat) (cpZ Y (fun _ => 0) 0 n))))) H := va_P_l (w2 := []) (va_P_perm (cat_perm [bR ck a N Y, bR ck u32 (n.toNat) (cpZ Y (fun _ => 0) 0 n), sbO o a n ml, stO q u32] [3, 2, 0, 1] [] 4 rfl (by decide)) hP)
  have hD : va_D A (stO q u32 ++ (sbO o a n ml ++ (bR ck a N Y ++ (bR ck u32 (n.toNat) (cpZ Y (fun _ => 0) 0 n))))) := va_D_l (w2 := []) (va_D_perm (cat_perm [bR ck a N Y, bR ck u32 (n.toNat) (cpZ Y (fun _ => 0) 0 n), sbO o a n ml, stO q u32] [3, 2, 0, 1] [] 4 rfl (by decide)) hD)
  have hEq : stO q u32 ++ (sbO o a n ml ++ (bR ck a N Y ++ (bR ck u32 (n.toNat) (cpZ Y (fun _ => 0) 0 n)))) = stO q u32 ++ (sbO o a n ml ++ (bR ck a N Y ++ (bR ck u32 (n.toNat) (cpZ Y (fun _ => 0) 0 n)))) := rfl
  exact W.widen (k := 1) (n := 34) (by first | exact Nat.le_of_ble_eq_true rfl | omega) (by first | exact Nat.le_of_ble_eq_true rfl | omega) (W.vret hx hb hr (fun t9 ht9 hW9 => ⟨⟨u32, rfl, trivial, by rw [ht9]; show va_P dg vwCl (stO q u32 ++ (sbO o a n ml ++ (bR ck a N Y ++ (bR ck u32 (n.toNat) (cpZ Y (fun _ => 0) 0 n))))) _; rw [hEq]; exact hP, by rw [hAe]; show va_D A (stO q u32 ++ (sbO o a n ml ++ (bR ck a N Y ++ (bR ck u32 (n.toNat) (cpZ Y (fun _ => 0) 0 n))))); rw [hEq]; exact hD⟩, hS.F ht9⟩) hS.2.2 dJ0_init_db425_97)

set_option maxHeartbeats 4000000 in
set_option maxRecDepth 100000 in
/-- java/lang/String.<init> -/
theorem t_ini4 (l : Launch) (dg : va_G) (ck : Nat → ClassId) (ka : Nat → Nat) (q : Nat) (o a N : Nat) (n ml : Int) (Y : Int → Int) (sz : Nat) (hn : 1 ≤ n ∧ n < N) (hN : N ≤ 34) (hLY : LY N Y) : Met l yJ0_init_81219 (.code yJ0_init_81219 cJ0_init_81219 2 none :: GW) ({ frames := 4, cells := 1, slots := 34, locals := 96 }) (va_Pc [.ref q, .ref o] (wrK dg ck ka sz ([(q, .inr (0, [.null, .int (zI 0), .int (zI 0), .int (zI 0)]))] ++ (sbO o a n ml ++ (bR ck a N Y))))) (va_Qv (fun u : Nat => True) (fun u t9 => wrQ dg sz ([(q, .inr (0, [.null, .int (zI 0), .int (zI 0), .int (zI 0)]))] ++ (sbO o a n ml ++ (bR ck a N Y))) (stO q u ++ (sbO o a n ml ++ (bR ck a N Y ++ (bR ck u (n.toNat) (cpZ Y (fun _ => 0) 0 n))))) t9) (va_A ([(q, .inr (0, [.null, .int (zI 0), .int (zI 0), .int (zI 0)]))] ++ (sbO o a n ml ++ (bR ck a N Y))) sz)) 1 34 (va_A ([(q, .inr (0, [.null, .int (zI 0), .int (zI 0), .int (zI 0)]))] ++ (sbO o a n ml ++ (bR ck a N Y))) sz) := by
  refine Met.ofW (cc := cJ0_init_81219) (maxL := 2) (ret := none) (by decide) rfl ?_
  intro p e s m args below meth c s₁ B hml hv
  obtain ⟨rfl, ⟨hsz, hP, hK, hD0⟩, hC⟩ := hv
  have hx := B.exec
  have hb := B.bytes
  have hr := B.returns
  have hts := atoms_spec (ws := .code yJ0_init_81219 cJ0_init_81219 2 none :: GW) B.pre
  have htg : ∀ w ∈ GW, w.before _ s = true := fun w h => hts w (List.mem_cons_of_mem _ h)
  have hown : s.vm.findClass RJ0 = some m.cls := findClass_of_methodNamed B.named
  have hlocks := B.notSynchronized
  subst hsz
  have hD := hD0.self (sz := s.heap.size)
  have hin : meth.name = "<init>" := (name_of_methodNamed B.named B.method).1
  generalize hAe : va_A ([(q, .inr (0, [.null, .int (zI 0), .int (zI 0), .int (zI 0)]))] ++ (sbO o a n ml ++ (bR ck a N Y))) s.heap.size = A at hD hC ⊢
  have hA : ∀ q : Nat, s.heap.size ≤ q → A q := fun q h => by rw [← hAe]; exact Or.inr h
  have hS : va_S A s.heap s.heap [] := va_S.rf
  have hP : va_P dg vwCl ([(q, .inr (0, [.null, .int (zI 0), .int (zI 0), .int (zI 0)]))] ++ (sbO o a n ml ++ (bR ck a N Y))) s.heap := hP
  have hl := lv_entry ([.ref q, .ref o]) (n := 2) (Nat.le_of_ble_eq_true rfl)
  rw [lg_entry_eq]
  generalize (lg_sl ([.ref q, .ref o]) ++ List.replicate (2 - (lg_sl ([.ref q, .ref o])).length) Slot.unset).toArray = ls at hl ⊢
  have hl : lv_has ls 2 [(0, .ref q), (1, .ref o)] := hl
  refine lv_aload_n hx hb dJ0_init_81219_0 rfl (lv_at hl 0 rfl) ?_
  refine lv_aload_n hx hb dJ0_init_81219_1 rfl (lv_at hl 1 rfl) ?_
  refine lv_null hx hb dJ0_init_81219_2 ?_
  refine x_callvUB (wf := fun u3 : Nat => stO q u3 ++ (sbO o a n ml ++ (bR ck a N Y ++ (bR ck u3 (n.toNat) (cpZ Y (fun _ => 0) 0 n))))) (M := [(q, .inr (0, [.null, .int (zI 0), .int (zI 0), .int (zI 0)]))] ++ (sbO o a n ml ++ (bR ck a N Y))) (Mf := fun u3 => stO q u3 ++ (sbO o a n ml ++ (bR ck a N Y ++ (bR ck u3 (n.toNat) (cpZ Y (fun _ => 0) 0 n))))) (N := []) (cat_perm [[(q, .inr (0, [.null, .int (zI 0), .int (zI 0), .int (zI 0)]))], sbO o a n ml, bR ck a N Y] [0, 1, 2] [] 3 rfl (by decide)) (fun u3 => cat_perm [stO q u3, sbO o a n ml, bR ck a N Y, bR ck u3 (n.toNat) (cpZ Y (fun _ => 0) 0 n)] [0, 1, 2, 3] [] 4 rfl (by decide)) hP hD hS hA (fun hPm hDm => va_runI (As := [.ref o, .null]) (rest := []) ⟨hx, hb, hml, hown, htg⟩ (t_ini l dg ck ka q o a N n ml Y _ hn hN hLY) (cwI 2 htg (gwG wq_1006) rfl rfl rfl (htg _ wq_13) (htg _ wq_1004) (htg _ wq_1005) rfl (by decide +kernel) ⟨Nat.le_of_ble_eq_true rfl, Nat.le_of_ble_eq_true rfl⟩) (wrK_preS hK hPm hDm hC hS hA) rfl rfl hl.1 rfl (lv_room (Nat.le_of_ble_eq_true rfl)) dJ0_init_81219_3 ⟨Nat.le_of_ble_eq_true rfl, Nat.le_of_ble_eq_true rfl⟩) (fun u3 H locs hu3 hP hD hS => ?_)
  have hP : va_P dg vwCl (stO q u3 ++ (sbO o a n ml ++ (bR ck a N Y ++ (bR ck u3 (n.toNat) (cpZ Y (fun _ => 0) 0 n))))) H := hP
  have hD : va_D A (stO q u3 ++ (sbO o a n ml ++ (bR ck a N Y ++ (bR ck u3 (n.toNat) (cpZ Y (fun _ => 0) 0 n))))) := hD
  have hEq : stO q u3 ++ (sbO o a n ml ++ (bR ck a N Y ++ (bR ck u3 (n.toNat) (cpZ Y (fun _ => 0) 0 n)))) = stO q u3 ++ (sbO o a n ml ++ (bR ck a N Y ++ (bR ck u3 (n.toNat) (cpZ Y (fun _ => 0) 0 n)))) := rfl
  exact W.widen (k := 1) (n := 34) (by first | exact Nat.le_of_ble_eq_true rfl | omega) (by first | exact Nat.le_of_ble_eq_true rfl | omega) (W.vret hx hb hr (fun t9 ht9 hW9 => ⟨⟨u3, rfl, trivial, by rw [ht9]; show va_P dg vwCl (stO q u3 ++ (sbO o a n ml ++ (bR ck a N Y ++ (bR ck u3 (n.toNat) (cpZ Y (fun _ => 0) 0 n))))) _; rw [hEq]; exact hP, by rw [hAe]; show va_D A (stO q u3 ++ (sbO o a n ml ++ (bR ck a N Y ++ (bR ck u3 (n.toNat) (cpZ Y (fun _ => 0) 0 n))))); rw [hEq]; exact hD⟩, hS.F ht9⟩) hS.2.2 dJ0_init_81219_6)

set_option maxHeartbeats 4000000 in
set_option maxRecDepth 100000 in
/-- java/lang/StringBuilder.toString -/
theorem t_S (l : Launch) (dg : va_G) (ck : Nat → ClassId) (ka : Nat → Nat) (o a N : Nat) (n ml : Int) (Y : Int → Int) (sz : Nat) (hn : 1 ≤ n ∧ n < N) (hN : N ≤ 34) (hLY : LY N Y) : Met l yJ4_toString_0e30d (.code yJ4_toString_0e30d cJ4_toString_0e30d 1 (some (.object "java/lang/String")) :: GW) ({ frames := 5, cells := 2, slots := 38, locals := 117 }) (va_Pc [.ref o] (wrK dg ck ka sz (sbO o a n ml ++ (bR ck a N Y)))) (va_Qr (fun u : (Nat × Nat × (Int → Int)) => LY n.toNat u.2.2) (fun u ra t9 => ra = u.1 ∧ wrQ dg sz (sbO o a n ml ++ (bR ck a N Y)) (stO (u.1) (u.2.1) ++ (bR ck (u.2.1) (n.toNat) (u.2.2))) t9) (va_A (sbO o a n ml ++ (bR ck a N Y)) sz)) 2 38 (va_A (sbO o a n ml ++ (bR ck a N Y)) sz) := by
  refine Met.ofW (cc := cJ4_toString_0e30d) (maxL := 1) (ret := (some (.object "java/lang/String"))) (by decide) rfl ?_
  intro p e s m args below meth c s₁ B hml hv
  obtain ⟨rfl, ⟨hsz, hP, hK, hD0⟩, hC⟩ := hv
  have hx := B.exec
  have hb := B.bytes
  have hr := B.returns
  have hts := atoms_spec (ws := .code yJ4_toString_0e30d cJ4_toString_0e30d 1 (some (.object "java/lang/String")) :: GW) B.pre
  have htg : ∀ w ∈ GW, w.before _ s = true := fun w h => hts w (List.mem_cons_of_mem _ h)
  have hown : s.vm.findClass RJ4 = some m.cls := findClass_of_methodNamed B.named
  have hlocks := B.notSynchronized
  subst hsz
  have hD := hD0.self (sz := s.heap.size)
  generalize hAe : va_A (sbO o a n ml ++ (bR ck a N Y)) s.heap.size = A at hD hC ⊢
  have hA : ∀ q : Nat, s.heap.size ≤ q → A q := fun q h => by rw [← hAe]; exact Or.inr h
  have hS : va_S A s.heap s.heap [] := va_S.rf
  have hP : va_P dg vwCl (sbO o a n ml ++ (bR ck a N Y)) s.heap := hP
  have hl := lv_entry ([.ref o]) (n := 1) (Nat.le_of_ble_eq_true rfl)
  rw [lg_entry_eq]
  generalize (lg_sl ([.ref o]) ++ List.replicate (1 - (lg_sl ([.ref o])).length) Slot.unset).toArray = ls at hl ⊢
  have hl : lv_has ls 1 [(0, .ref o)] := hl
  refine va_new (ci := 0) (fs := [.null, .int (zI 0), .int (zI 0), .int (zI 0)]) (C := RJ0) (T := TJ0) (N := 4) hx hb htg inG_J0 tyJ0 tyJ0_ok hown (htg _ wq_1000) (htg _ wq_416) (htg _ wq_13) hK hP hD hS hA rfl (fun j hj => by rcases (show j = 0 ∨ j = 1 ∨ j = 2 ∨ j = 3 by omega) with rfl | rfl | rfl | rfl <;> rfl) (Nat.le_of_ble_eq_true rfl) (by first | exact Nat.le_of_ble_eq_true rfl | (show _ ≤ 38; omega)) dJ4_toString_0e30d_0 (fun q0 H hP hD hS => ?_)
  have hP : va_P dg vwCl (sbO o a n ml ++ (bR ck a N Y ++ ([(q0, .inr (0, [.null, .int (zI 0), .int (zI 0), .int (zI 0)]))]))) H := va_P_eq (by simp only [List.append_assoc] <;> rfl) hP
  have hD : va_D A (sbO o a n ml ++ (bR ck a N Y ++ ([(q0, .inr (0, [.null, .int (zI 0), .int (zI 0), .int (zI 0)]))]))) := va_D_eq (by simp only [List.append_assoc] <;> rfl) hD
  refine lv_dup hx hb dJ4_toString_0e30d_3 rfl ?_
  refine lv_aload_n hx hb dJ4_toString_0e30d_4 rfl (lv_at hl 0 rfl) ?_
  refine x_callvUB (wf := fun u5 : Nat => stO q0 u5 ++ (sbO o a n ml ++ (bR ck a N Y ++ (bR ck u5 (n.toNat) (cpZ Y (fun _ => 0) 0 n))))) (M := [(q0, .inr (0, [.null, .int (zI 0), .int (zI 0), .int (zI 0)]))] ++ (sbO o a n ml ++ (bR ck a N Y))) (Mf := fun u5 => stO q0 u5 ++ (sbO o a n ml ++ (bR ck a N Y ++ (bR ck u5 (n.toNat) (cpZ Y (fun _ => 0) 0 n))))) (N := []) (cat_perm [sbO o a n ml, bR ck a N Y, [(q0, .inr (0, [.null, .int (zI 0), .int (zI 0), .int (zI 0)]))]] [2, 0, 1] [] 3 rfl (by decide)) (fun u5 => cat_perm [stO q0 u5, sbO o a n ml, bR ck a N Y, bR ck u5 (n.toNat) (cpZ Y (fun _ => 0) 0 n)] [0, 1, 2, 3] [] 4 rfl (by decide)) hP hD hS hA (fun hPm hDm => va_runI (As := [.ref o]) (rest := [.ref q0]) ⟨hx, hb, hml, hown, htg⟩ (t_ini4 l dg ck ka q0 o a N n ml Y _ hn hN hLY) (cwI 1 htg (gwG wq_1003) rfl rfl rfl (htg _ wq_13) (htg _ wq_1001) (htg _ wq_1002) rfl (by decide +kernel) ⟨Nat.le_of_ble_eq_true rfl, Nat.le_of_ble_eq_true rfl⟩) (wrK_preS hK hPm hDm hC hS hA) rfl rfl hl.1 rfl (lv_room (Nat.le_of_ble_eq_true rfl)) dJ4_toString_0e30d_5 ⟨Nat.le_of_ble_eq_true rfl, Nat.le_of_ble_eq_true rfl⟩) (fun u5 H locs hu5 hP hD hS => ?_)
  have hP : va_P dg vwCl (stO q0 u5 ++ (sbO o a n ml ++ (bR ck a N Y ++ (bR ck u5 (n.toNat) (cpZ Y (fun _ => 0) 0 n))))) H := hP
  have hD : va_D A (stO q0 u5 ++ (sbO o a n ml ++ (bR ck a N Y ++ (bR ck u5 (n.toNat) (cpZ Y (fun _ => 0) 0 n))))) := hD
  have hP : va_P dg vwCl (stO q0 u5 ++ (bR ck u5 (n.toNat) (cpZ Y (fun _ => 0) 0 n))) H := va_P_l (w2 := sbO o a n ml ++ (bR ck a N Y)) (va_P_perm (cat_perm [stO q0 u5, sbO o a n ml, bR ck a N Y, bR ck u5 (n.toNat) (cpZ Y (fun _ => 0) 0 n)] [0, 3] [1, 2] 4 rfl (by decide)) hP)
  have hD : va_D A (stO q0 u5 ++ (bR ck u5 (n.toNat) (cpZ Y (fun _ => 0) 0 n))) := va_D_l (w2 := sbO o a n ml ++ (bR ck a N Y)) (va_D_perm (cat_perm [stO q0 u5, sbO o a n ml, bR ck a N Y, bR ck u5 (n.toNat) (cpZ Y (fun _ => 0) 0 n)] [0, 3] [1, 2] 4 rfl (by decide)) hD)
  have hEq : stO (q0) (u5) ++ (bR ck (u5) (n.toNat) ((cpZ Y (fun _ => 0) 0 n))) = stO q0 u5 ++ (bR ck u5 (n.toNat) (cpZ Y (fun _ => 0) 0 n)) := rfl
  exact W.widen (k := 2) (n := 38) (by first | exact Nat.le_of_ble_eq_true rfl | omega) (by first | exact Nat.le_of_ble_eq_true rfl | omega) (W.aret (v := .ref q0) hx hb hr (Or.inl ⟨_, rfl⟩) (Or.inr ⟨_, rfl⟩) (fun t9 ht9 hW9 => ⟨⟨(q0, u5, (cpZ Y (fun _ => 0) 0 n)), _, rfl, LY.cp (LY.zero _) hLY (Int.le_refl 0) (by omega), rfl, by rw [ht9]; show va_P dg vwCl (stO (q0) (u5) ++ (bR ck (u5) (n.toNat) ((cpZ Y (fun _ => 0) 0 n)))) _; rw [hEq]; exact hP, by rw [hAe]; show va_D A (stO (q0) (u5) ++ (bR ck (u5) (n.toNat) ((cpZ Y (fun _ => 0) 0 n)))); rw [hEq]; exact hD⟩, hS.F ht9⟩) hS.2.2 dJ4_toString_0e30d_8)

set_option maxHeartbeats 4000000 in
set_option maxRecDepth 100000 in
/-- java/lang/StringLatin1.charAt -/
theorem f_lat (l : Launch) (dg : va_G) (ck : Nat → ClassId) (ka : Nat → Nat) (t tl : Nat) (z : Int) (F : Int → Int) (sz : Nat) (hm : tl < 100) (hz : 0 ≤ z ∧ z < tl) (hLY : LY tl F) : Met l yJ1_charAt_3b067 (.code yJ1_charAt_3b067 cJ1_charAt_3b067 2 (some .char) :: GW) ({ frames := 2, cells := 0, slots := 0, locals := 43 }) (va_Pc [.ref t, .int (zI z)] (wrK dg ck ka sz (bR ck t tl F))) (va_Qi (fun r (_ : Unit) => ∃ v : Int, r = zI v ∧ 0 ≤ v ∧ v ≤ 126) (fun _ t9 => wrQ dg sz (bR ck t tl F) (bR ck t tl F) t9) (va_A (bR ck t tl F) sz)) 0 0 (va_A (bR ck t tl F) sz) := by
  refine Met.ofW (cc := cJ1_charAt_3b067) (maxL := 2) (ret := (some .char)) (by decide) rfl ?_
  intro p e s m args below meth c s₁ B hml hv
  obtain ⟨rfl, ⟨hsz, hP, hK, hD0⟩, hC⟩ := hv
  have hx := B.exec
  have hb := B.bytes
  have hr := B.returns
  have hts := atoms_spec (ws := .code yJ1_charAt_3b067 cJ1_charAt_3b067 2 (some .char) :: GW) B.pre
  have htg : ∀ w ∈ GW, w.before _ s = true := fun w h => hts w (List.mem_cons_of_mem _ h)
  have hown : s.vm.findClass RJ1 = some m.cls := findClass_of_methodNamed B.named
  have hlocks := B.notSynchronized
  subst hsz
  have hD := hD0.self (sz := s.heap.size)
  generalize hAe : va_A (bR ck t tl F) s.heap.size = A at hD hC ⊢
  have hA : ∀ q : Nat, s.heap.size ≤ q → A q := fun q h => by rw [← hAe]; exact Or.inr h
  have hS : va_S A s.heap s.heap [] := va_S.rf
  have hP : va_P dg vwCl (bR ck t tl F) s.heap := hP
  have hl := lv_entry ([.ref t, .int (zI z)]) (n := 2) (Nat.le_of_ble_eq_true rfl)
  rw [lg_entry_eq]
  generalize (lg_sl ([.ref t, .int (zI z)]) ++ List.replicate (2 - (lg_sl ([.ref t, .int (zI z)])).length) Slot.unset).toArray = ls at hl ⊢
  have hl : lv_has ls 2 [(0, .ref t), (1, .int (zI z))] := hl
  refine lv_iload_n hx hb dJ1_charAt_3b067_0 rfl (lv_at hl 1 rfl) ?_
  refine lv_aload_n hx hb dJ1_charAt_3b067_1 rfl (lv_at hl 0 rfl) ?_
  refine x_alen hx hb hK hP 0 3 rfl rfl dJ1_charAt_3b067_2 ?_
  refine x_callSv (W.runS (As := [.int (zI z), .int (zI ((tl : Nat) : Int))]) (rest := []) ⟨hx, hb, hml, hown, htg⟩ (j_checkIndex l dg ck ka z ((tl : Nat) : Int) (by omega) (by omega)) (cwSC 2 htg wq_1080 wq_1081 wq_13 wq_1082 rfl rfl (by decide +kernel) ⟨Nat.le_of_ble_eq_true rfl, Nat.le_of_ble_eq_true rfl⟩) (rdK_preS hK va_P_nil hC hS) rfl rfl hl.1 rfl (lv_room (Nat.le_of_ble_eq_true rfl)) dJ1_charAt_3b067_3 ⟨Nat.le_of_ble_eq_true rfl, Nat.le_of_ble_eq_true rfl⟩) ?_
  refine lv_aload_n hx hb dJ1_charAt_3b067_6 rfl (lv_at hl 0 rfl) ?_
  refine lv_iload_n hx hb dJ1_charAt_3b067_7 rfl (lv_at hl 1 rfl) ?_
  refine x_bald hx hb hK hP 0 3 F rfl rfl (fun _ => rfl) (P := fun _ => True) (fun _ => trivial) (by omega) (by omega) dJ1_charAt_3b067_8 (fun _ => ?_)
  have hby8 := hLY z (by omega) (by omega)
  refine x_sipush hx hb dJ1_charAt_3b067_9 (by decide) ?_
  refine x_and255 hx hb dJ1_charAt_3b067_12 (by omega) ?_
  refine x_i2c hx hb dJ1_charAt_3b067_13 (by omega) ?_
  have hEq : bR ck t tl F = bR ck t tl F := rfl
  exact W.widen (k := 0) (n := 0) (by first | exact Nat.le_of_ble_eq_true rfl | omega) (by first | exact Nat.le_of_ble_eq_true rfl | omega) (W.zret (v := _) hx hb hr (by first | rfl | exact narC (by omega)) (fun t9 ht9 hW9 => ⟨⟨_, (), rfl, ⟨_, rfl, hby8⟩, by rw [ht9]; show va_P dg vwCl (bR ck t tl F) _; rw [hEq]; exact hP, by rw [hAe]; show va_D A (bR ck t tl F); rw [hEq]; exact hD⟩, hS.F ht9⟩) hS.2.2 dJ1_charAt_3b067_14)

set_option maxHeartbeats 4000000 in
set_option maxRecDepth 100000 in
/-- java/lang/String.charAt -/
theorem f_at (l : Launch) (dg : va_G) (ck : Nat → ClassId) (ka : Nat → Nat) (q t tl : Nat) (z : Int) (F : Int → Int) (sz : Nat) (hm : tl < 100) (hz : 0 ≤ z ∧ z < tl) (hLY : LY tl F) : Met l yJ0_charAt_5068e (.code yJ0_charAt_5068e cJ0_charAt_5068e 2 (some .char) :: GW) ({ frames := 3, cells := 0, slots := 0, locals := 64 }) (va_Pc [.ref q, .int (zI z)] (wrK dg ck ka sz (stO q t ++ (bR ck t tl F)))) (va_Qi (fun r (_ : Unit) => ∃ v : Int, r = zI v ∧ 0 ≤ v ∧ v ≤ 126) (fun _ t9 => wrQ dg sz (stO q t ++ (bR ck t tl F)) (stO q t ++ (bR ck t tl F)) t9) (va_A (stO q t ++ (bR ck t tl F)) sz)) 0 0 (va_A (stO q t ++ (bR ck t tl F)) sz) := by
  refine Met.ofW (cc := cJ0_charAt_5068e) (maxL := 2) (ret := (some .char)) (by decide) rfl ?_
  intro p e s m args below meth c s₁ B hml hv
  obtain ⟨rfl, ⟨hsz, hP, hK, hD0⟩, hC⟩ := hv
  have hx := B.exec
  have hb := B.bytes
  have hr := B.returns
  have hts := atoms_spec (ws := .code yJ0_charAt_5068e cJ0_charAt_5068e 2 (some .char) :: GW) B.pre
  have htg : ∀ w ∈ GW, w.before _ s = true := fun w h => hts w (List.mem_cons_of_mem _ h)
  have hown : s.vm.findClass RJ0 = some m.cls := findClass_of_methodNamed B.named
  have hlocks := B.notSynchronized
  subst hsz
  have hD := hD0.self (sz := s.heap.size)
  generalize hAe : va_A (stO q t ++ (bR ck t tl F)) s.heap.size = A at hD hC ⊢
  have hA : ∀ q : Nat, s.heap.size ≤ q → A q := fun q h => by rw [← hAe]; exact Or.inr h
  have hS : va_S A s.heap s.heap [] := va_S.rf
  have hP : va_P dg vwCl (stO q t ++ (bR ck t tl F)) s.heap := hP
  have hl := lv_entry ([.ref q, .int (zI z)]) (n := 2) (Nat.le_of_ble_eq_true rfl)
  rw [lg_entry_eq]
  generalize (lg_sl ([.ref q, .int (zI z)]) ++ List.replicate (2 - (lg_sl ([.ref q, .int (zI z)])).length) Slot.unset).toArray = ls at hl ⊢
  have hl : lv_has ls 2 [(0, .ref q), (1, .int (zI z))] := hl
  refine lv_aload_n hx hb dJ0_charAt_5068e_0 rfl (lv_at hl 0 rfl) ?_
  refine x_calliUB (wf := fun u1 : Unit => stO q t ++ (bR ck t tl F)) (M := stO q t) (Mf := fun u1 => stO q t) (N := bR ck t tl F) (cat_perm [stO q t, bR ck t tl F] [0] [1] 2 rfl (by decide)) (fun u1 => cat_perm [stO q t, bR ck t tl F] [0] [1] 2 rfl (by decide)) hP hD hS hA (fun hPm hDm => va_runV (As := []) (rest := []) ⟨hx, hb, hml, hown, htg⟩ (f_isL l dg ck ka q t _) (cwV 0 htg (gwV wq_1073 wq_1074 wq_1075 wq_13 wq_1076) rfl rfl rfl (by decide +kernel) ⟨Nat.le_of_ble_eq_true rfl, Nat.le_of_ble_eq_true rfl⟩) (wrK_preV hK hPm hDm hC hS hA 0 0 rfl rfl) rfl rfl hl.1 rfl (lv_room (Nat.le_of_ble_eq_true rfl)) dJ0_charAt_5068e_1 ⟨Nat.le_of_ble_eq_true rfl, Nat.le_of_ble_eq_true rfl⟩) (fun r1 u1 H locs hu1 hP hD hS => ?_)
  have hP : va_P dg vwCl (stO q t ++ (bR ck t tl F)) H := hP
  have hD : va_D A (stO q t ++ (bR ck t tl F)) := hD
  subst hu1
  refine x_if_eq (tgt := 16) hx hb dJ0_charAt_5068e_4 (by decide) (by omega) (fun c4 => absurd c4 (by decide)) (fun c4 => ?_)
  refine lv_aload_n hx hb dJ0_charAt_5068e_7 rfl (lv_at hl 0 rfl) ?_
  refine va_get (D := dg) (ci := 0) (v := .ref t) (C := RJ0) (T := TJ0) (N := 4) hx hb htg inG_J0 hown hK hP 0 rfl rfl 0 (Nat.le_of_ble_eq_true rfl) (htg _ wq_1055) (fun _ h9 => h9) rfl dJ0_charAt_5068e_8 ?_
  refine lv_iload_n hx hb dJ0_charAt_5068e_11 rfl (lv_at hl 1 rfl) ?_
  refine x_calliUB (wf := fun u12 : Unit => bR ck t tl F ++ (stO q t)) (M := bR ck t tl F) (Mf := fun u12 => bR ck t tl F) (N := stO q t) (cat_perm [stO q t, bR ck t tl F] [1] [0] 2 rfl (by decide)) (fun u12 => cat_perm [bR ck t tl F, stO q t] [0] [1] 2 rfl (by decide)) hP hD hS hA (fun hPm hDm => va_runS (As := [.ref t, .int (zI z)]) (rest := []) ⟨hx, hb, hml, hown, htg⟩ (f_lat l dg ck ka t tl z F _ hm hz hLY) (cwSC 2 htg wq_1077 wq_1078 wq_26 wq_1079 rfl rfl (by decide +kernel) ⟨Nat.le_of_ble_eq_true rfl, Nat.le_of_ble_eq_true rfl⟩) (wrK_preS hK hPm hDm hC hS hA) rfl rfl hl.1 rfl (lv_room (Nat.le_of_ble_eq_true rfl)) dJ0_charAt_5068e_12 ⟨Nat.le_of_ble_eq_true rfl, Nat.le_of_ble_eq_true rfl⟩) (fun r12 u12 H locs hu12 hP hD hS => ?_)
  have hP : va_P dg vwCl (bR ck t tl F ++ (stO q t)) H := hP
  have hD : va_D A (bR ck t tl F ++ (stO q t)) := hD
  obtain ⟨v9, rfl, hv9⟩ := hu12
  have hP : va_P dg vwCl (stO q t ++ (bR ck t tl F)) H := va_P_l (w2 := []) (va_P_perm (cat_perm [bR ck t tl F, stO q t] [1, 0] [] 2 rfl (by decide)) hP)
  have hD : va_D A (stO q t ++ (bR ck t tl F)) := va_D_l (w2 := []) (va_D_perm (cat_perm [bR ck t tl F, stO q t] [1, 0] [] 2 rfl (by decide)) hD)
  have hEq : stO q t ++ (bR ck t tl F) = stO q t ++ (bR ck t tl F) := rfl
  exact W.widen (k := 0) (n := 0) (by first | exact Nat.le_of_ble_eq_true rfl | omega) (by first | exact Nat.le_of_ble_eq_true rfl | omega) (W.zret (v := _) hx hb hr (by first | rfl | exact narC (by omega)) (fun t9 ht9 hW9 => ⟨⟨_, (), rfl, ⟨_, rfl, hv9⟩, by rw [ht9]; show va_P dg vwCl (stO q t ++ (bR ck t tl F)) _; rw [hEq]; exact hP, by rw [hAe]; show va_D A (stO q t ++ (bR ck t tl F)); rw [hEq]; exact hD⟩, hS.F ht9⟩) hS.2.2 dJ0_charAt_5068e_15)
