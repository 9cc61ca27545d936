/-! the law: rows for its own methods; its own two arrays -/
section LROW
variable {p : Program} {l : Launch} {e : Env} {R : Room} {s : State} {m : MethodId} {args : Array Value} {below : List Frame} {meth : Method} {c : Code} {H : Heap} {locs : List Loc} {cells slots : Nat} {Q : State → Prop}
variable {pc : Nat} {ls : Array Slot} {rest st0 : List Value} {a : Array Value} {A0 : Nat → Prop} {H0 : Heap} {mc ms : Nat} {dg : va_G} {M N : va_W}
theorem xl_calli {U UX : Type} {post : Int32 → U → Prop} {XP : String → UX → Prop} {Mf : U → va_W} {MX : UX → va_W} (hP : va_P dg vwCl (M ++ N) H) (hD : va_D A0 (M ++ N)) (hS : va_S A0 H0 H locs) (hA : ∀ q, H0.size ≤ q → A0 q)
    (hr : va_P dg vwCl M H → va_D A0 M → vx_Run p l e R s m args below meth c H locs cells slots mc ms (F0 m pc ls st0) rest (va_Qi post (fun u t => wrQ dg H.size M (Mf u) t) (va_A M H.size) a) (vx_X (fun _ : UX => True) (fun E u t => XP E u ∧ wrQ dg H.size M (MX u) t) (va_A M H.size)) (va_A M H.size))
    (kx : ∀ (E : String) (ce : Cell) (q9 : Addr) (u : UX) (H1 : Heap) (locs1 : List Loc), XP E u → va_P dg vwCl (MX u ++ N) H1 → va_D A0 (MX u ++ N) → va_S A0 H0 H1 locs1 → H1[q9]? = some ce → ce.vm = .none → s.vm.findClass E = some ce.cls → vx_W p l e R s m args below meth c H1 locs1 (cells + mc) (slots + ms) Q (F0 m pc ls rest) q9)
    (kk : ∀ (r : Int32) (u : U) (H1 : Heap) (locs1 : List Loc), post r u → va_P dg vwCl (Mf u ++ N) H1 → va_D A0 (Mf u ++ N) → va_S A0 H0 H1 locs1 → W p l e R s m args below meth c H1 locs1 (cells + mc) (slots + ms) Q (F0 m (pc + 3) ls (.int r :: rest))) : W p l e R s m args below meth c H locs cells slots Q (F0 m pc ls st0) := by
  have hP' : va_P dg vwCl ([] ++ (M ++ N)) H := hP
  have hD' : va_D A0 ([] ++ (M ++ N)) := hD
  have hF := fr_F (dg := dg) (L := []) (M := M) (N := N) hD' hS hA
  refine vx_calli (hr (va_P_l hP') (va_D_l hD')) hS (fun q _ h => hF q h) hF (fun q _ h => hF q h) (fun E ce q9 u t H1 locs1 ht hvm hpx hB hz1 hk1 hS1 g1 g2 g3 => ?_) (fun r u t H1 locs1 ht hvm hw hB hz1 hk1 hS1 => ?_)
  · obtain ⟨hE, hP1, hD1⟩ := hB
    rw [ht] at hP1
    obtain ⟨k1, k2⟩ := fr_mid hP' hD' hk1 hF hP1 hD1
    exact kx E ce q9 u H1 locs1 hE k1 k2 hS1 g1 g2 g3
  · obtain ⟨hP1, hD1⟩ := hB
    rw [ht] at hP1
    obtain ⟨k1, k2⟩ := fr_mid hP' hD' hk1 hF hP1 hD1
    exact kk r u H1 locs1 hw k1 k2 hS1
theorem xl_calld {U UX : Type} {post : UInt64 → U → Prop} {XP : String → UX → Prop} {Mf : U → va_W} {MX : UX → va_W} (hP : va_P dg vwCl (M ++ N) H) (hD : va_D A0 (M ++ N)) (hS : va_S A0 H0 H locs) (hA : ∀ q, H0.size ≤ q → A0 q)
    (hr : va_P dg vwCl M H → va_D A0 M → vx_Run p l e R s m args below meth c H locs cells slots mc ms (F0 m pc ls st0) rest (va_Qd post (fun u t => wrQ dg H.size M (Mf u) t) (va_A M H.size) a) (vx_X (fun _ : UX => True) (fun E u t => XP E u ∧ wrQ dg H.size M (MX u) t) (va_A M H.size)) (va_A M H.size))
    (kx : ∀ (E : String) (ce : Cell) (q9 : Addr) (u : UX) (H1 : Heap) (locs1 : List Loc), XP E u → va_P dg vwCl (MX u ++ N) H1 → va_D A0 (MX u ++ N) → va_S A0 H0 H1 locs1 → H1[q9]? = some ce → ce.vm = .none → s.vm.findClass E = some ce.cls → vx_W p l e R s m args below meth c H1 locs1 (cells + mc) (slots + ms) Q (F0 m pc ls rest) q9)
    (kk : ∀ (r : UInt64) (u : U) (H1 : Heap) (locs1 : List Loc), post r u → va_P dg vwCl (Mf u ++ N) H1 → va_D A0 (Mf u ++ N) → va_S A0 H0 H1 locs1 → W p l e R s m args below meth c H1 locs1 (cells + mc) (slots + ms) Q (F0 m (pc + 3) ls (.double r :: rest))) : W p l e R s m args below meth c H locs cells slots Q (F0 m pc ls st0) := by
  have hP' : va_P dg vwCl ([] ++ (M ++ N)) H := hP
  have hD' : va_D A0 ([] ++ (M ++ N)) := hD
  have hF := fr_F (dg := dg) (L := []) (M := M) (N := N) hD' hS hA
  refine vx_calld (hr (va_P_l hP') (va_D_l hD')) hS (fun q _ h => hF q h) hF (fun q _ h => hF q h) (fun E ce q9 u t H1 locs1 ht hvm hpx hB hz1 hk1 hS1 g1 g2 g3 => ?_) (fun r u t H1 locs1 ht hvm hw hB hz1 hk1 hS1 => ?_)
  · obtain ⟨hE, hP1, hD1⟩ := hB
    rw [ht] at hP1
    obtain ⟨k1, k2⟩ := fr_mid hP' hD' hk1 hF hP1 hD1
    exact kx E ce q9 u H1 locs1 hE k1 k2 hS1 g1 g2 g3
  · obtain ⟨hP1, hD1⟩ := hB
    rw [ht] at hP1
    obtain ⟨k1, k2⟩ := fr_mid hP' hD' hk1 hF hP1 hD1
    exact kk r u H1 locs1 hw k1 k2 hS1
theorem xl_callf {U UX : Type} {post : UInt32 → U → Prop} {XP : String → UX → Prop} {Mf : U → va_W} {MX : UX → va_W} (hP : va_P dg vwCl (M ++ N) H) (hD : va_D A0 (M ++ N)) (hS : va_S A0 H0 H locs) (hA : ∀ q, H0.size ≤ q → A0 q)
    (hr : va_P dg vwCl M H → va_D A0 M → vx_Run p l e R s m args below meth c H locs cells slots mc ms (F0 m pc ls st0) rest (va_Qf post (fun u t => wrQ dg H.size M (Mf u) t) (va_A M H.size) a) (vx_X (fun _ : UX => True) (fun E u t => XP E u ∧ wrQ dg H.size M (MX u) t) (va_A M H.size)) (va_A M H.size))
    (kx : ∀ (E : String) (ce : Cell) (q9 : Addr) (u : UX) (H1 : Heap) (locs1 : List Loc), XP E u → va_P dg vwCl (MX u ++ N) H1 → va_D A0 (MX u ++ N) → va_S A0 H0 H1 locs1 → H1[q9]? = some ce → ce.vm = .none → s.vm.findClass E = some ce.cls → vx_W p l e R s m args below meth c H1 locs1 (cells + mc) (slots + ms) Q (F0 m pc ls rest) q9)
    (kk : ∀ (r : UInt32) (u : U) (H1 : Heap) (locs1 : List Loc), post r u → va_P dg vwCl (Mf u ++ N) H1 → va_D A0 (Mf u ++ N) → va_S A0 H0 H1 locs1 → W p l e R s m args below meth c H1 locs1 (cells + mc) (slots + ms) Q (F0 m (pc + 3) ls (.float r :: rest))) : W p l e R s m args below meth c H locs cells slots Q (F0 m pc ls st0) := by
  have hP' : va_P dg vwCl ([] ++ (M ++ N)) H := hP
  have hD' : va_D A0 ([] ++ (M ++ N)) := hD
  have hF := fr_F (dg := dg) (L := []) (M := M) (N := N) hD' hS hA
  refine vx_callf (hr (va_P_l hP') (va_D_l hD')) hS (fun q _ h => hF q h) hF (fun q _ h => hF q h) (fun E ce q9 u t H1 locs1 ht hvm hpx hB hz1 hk1 hS1 g1 g2 g3 => ?_) (fun r u t H1 locs1 ht hvm hw hB hz1 hk1 hS1 => ?_)
  · obtain ⟨hE, hP1, hD1⟩ := hB
    rw [ht] at hP1
    obtain ⟨k1, k2⟩ := fr_mid hP' hD' hk1 hF hP1 hD1
    exact kx E ce q9 u H1 locs1 hE k1 k2 hS1 g1 g2 g3
  · obtain ⟨hP1, hD1⟩ := hB
    rw [ht] at hP1
    obtain ⟨k1, k2⟩ := fr_mid hP' hD' hk1 hF hP1 hD1
    exact kk r u H1 locs1 hw k1 k2 hS1
end LROW
theorem x_ofWH {l : Launch} {y : MethodName} {ws ws' : List Cond} {rm : Room} {Pc : Array Value → State → Prop} {Qc : Array Value → State → Outcome → State → Prop} {mc ms : Nat} {free : Addr → Prop} {cc : ByteArray} {maxL : Nat} {ret : Option FieldType} {hh : List (Nat × Nat × Nat × Nat)}
    (hy : plainName y.cls = true) (hw : ws = Cond.codeWith y cc maxL ret hh :: ws')
    (body : ∀ p e s m args below meth c s₁, BodyLoose p l y (headSpec ws rm) cc maxL ret e s m args below meth c s₁ → c.maxLocals = maxL → c.exceptionTable.toList = tableOf hh → Pc args s →
      W p l e (headSpec ws rm).room s m args below meth c s.heap [] 0 0 (MQ below Qc args s mc ms free) (entryFrame m args maxL)) : Met l y ws rm Pc Qc mc ms free := by
  refine MetFree.of_bodyS (code := cc) (maxLocals := maxL) (ret := ret) hy ?_ ?_
  · intro args s m h hn
    obtain ⟨m9, meth, c, hn9, h1, h2, h3, h4, -, h5, h6, -⟩ := Cond.codeWith_spec (atoms_spec (ws := ws) h _ (by rw [hw]; exact List.mem_cons_self))
    cases hn.symm.trans hn9
    exact ⟨meth, c, h1, h2, h3, h4, h5, h6⟩
  · intro p e s m args below meth c s₁ B hml hP _
    have hh0 : s₁.heap = s.heap := by rw [B.state]; rfl
    have ht : c.exceptionTable.toList = tableOf hh := vx_table (x := y) B (atoms_spec (ws := ws) B.pre _ (by rw [hw]; exact List.mem_cons_self))
    obtain ⟨t, a1, o, b1, b2, b3⟩ := body p e s m args below meth c s₁ B hml ht hP s₁ hh0 (Stand.of_body B)
    exact ⟨t, o, a1, b1, b2, ⟨b3.1, b3.2⟩⟩
theorem gwSW {own : String} {ix : Nat} {y : MethodName} {cc : ByteArray} {n : Nat} {r : Option FieldType} {hh : List (Nat × Nat × Nat × Nat)} (h1 : Cond.methodLink own ix y ∈ GW) (h2 : Cond.static y ∈ GW) (h4 : Cond.initialized y.cls ∈ GW) (h5 : Cond.codeWith y cc n r hh ∈ GW) : GoodIn GW (va_wsS own ix y (.codeWith y cc n r hh :: GW)) := by
  intro w hw
  rcases List.mem_append.mp hw with h | h
  · simp only [List.mem_cons, List.not_mem_nil, or_false] at h
    rcases h with e | e | e <;> rw [e]
    · exact ⟨h1, good_of_word (gw_good h1)⟩
    · exact ⟨h2, good_of_word (gw_good h2)⟩
    · exact ⟨h4, good_of_word (gw_good h4)⟩
  · rcases List.mem_cons.mp h with e | h2
    · rw [e]; exact ⟨h5, good_of_word (gw_good h5)⟩
    · exact ⟨h2, good_of_word (gw_good h2)⟩
def lngC (ck : Nat → ClassId) (oa : Nat) (D : Nat → Int64) : va_W := [(oa, .inl (ck 5, 70, .inr (.inl D)))]
/-- the broker's twelve parts: Z O U X S T P I V N Y Q -/
abbrev BU : Type := (Nat → Int) × (Nat → Int) × (Nat → Int) × (Nat → Int) × St × St × St × St × (Int → Int) × (Int → Int) × (Int → Int) × (Nat → St)
abbrev brkU (ck : Nat → ClassId) (ka : Nat → Nat) (ad ra : Nat → Nat → Nat) (b : BU) : va_W := brkW ck ka ad ra (b.1) (b.2.1) (b.2.2.1) (b.2.2.2.1) (b.2.2.2.2.1) (b.2.2.2.2.2.1) (b.2.2.2.2.2.2.1) (b.2.2.2.2.2.2.2.1) (b.2.2.2.2.2.2.2.2.1) (b.2.2.2.2.2.2.2.2.2.1) (b.2.2.2.2.2.2.2.2.2.2.1) (b.2.2.2.2.2.2.2.2.2.2.2)
theorem tg_c (S : St) (f : Int) : (tgZ S f).1 = 0 ∨ (tgZ S f).1 = -1 := by
  unfold tgZ
  (repeat' split) <;> simp
theorem cm_c (S : St) (x : Int) : (cmZ S x).1 = 0 ∨ (cmZ S x).1 = -2 := by
  unfold cmZ
  (repeat' split) <;> simp
theorem cr_c (S : St) (x y : Int) : (crZ S x y).1 ≤ 0 := by
  unfold crZ
  (repeat' split) <;> simp
theorem cl_c (S : St) (x y : Int) : (clZ S x y).1 ≤ 0 := by
  unfold clZ
  (repeat' split) <;> simp
theorem gi_c (S : St) (x y : Int) : (giZ S x y).1 ≤ 0 := by
  unfold giZ
  (repeat' split) <;> simp
theorem te_c (S : St) (x : Int) : (teZ S x).1 ≠ -1 := by
  unfold teZ
  (repeat' split) <;> simp
theorem en_c (S : St) (x : Int) : (enZ S x).1 ≠ -2 := by
  unfold enZ
  (repeat' split) <;> simp
theorem el_c (S : St) (x : Int) : (elZ S x).1 = 0 ∨ (elZ S x).1 = -2 := by
  unfold elZ
  (repeat' split) <;> simp
theorem dd_n : ∀ a, a < 201 → ∀ b, b < 11 → Op.cmpValue (FP.dcmp (FP.ddiv (FP.i2d (zI (a : Nat))) (FP.i2d (zI ((b : Nat) + 1 : Nat)))) (FP.ddiv (FP.i2d (zI (a : Nat))) (FP.i2d (zI ((b : Nat) + 1 : Nat))))) CmpOp.l = 0 := by decide +kernel
theorem ff_n : ∀ a, a < 11 → ∀ b, b < 11 → vf_n64 (FP.f2d (FP.fdiv (FP.i2f (zI (a : Nat))) (FP.i2f (zI ((b : Nat) + 1 : Nat))))) ∧ Op.cmpValue (FP.dcmp (FP.f2d (FP.fdiv (FP.i2f (zI (a : Nat))) (FP.i2f (zI ((b : Nat) + 1 : Nat))))) (FP.f2d (FP.fdiv (FP.i2f (zI (a : Nat))) (FP.i2f (zI ((b : Nat) + 1 : Nat)))))) CmpOp.l = 0 := by unfold vf_n64; decide +kernel
theorem f0_n : vf_n64 (FP.f2d FP.fconst0) ∧ Op.cmpValue (FP.dcmp (FP.f2d FP.fconst0) (FP.f2d FP.fconst0)) CmpOp.l = 0 ∧ Op.cmpValue (FP.dcmp FP.dconst0 FP.dconst0) CmpOp.l = 0 := by unfold vf_n64; decide +kernel
theorem md_c {S : St} (hI : Bd S) : Op.cmpValue (FP.dcmp (mrD S) (mrD S)) CmpOp.l = 0 := by
  have h := sumZ_r (f := rent S) (M := 20) (fun o => ⟨by have := (rent_r hI o).1; omega, (rent_r hI o).2⟩) (S 0 0).toNat
  have hb := hI.1
  unfold mrD
  split
  · exact f0_n.2.2
  · have h9 := dd_n (sumZ (rent S) (S 0 0).toNat).toNat (by omega) ((S 0 0).toNat - 1) (by omega)
    rw [Int.toNat_of_nonneg h.1, show ((((S 0 0).toNat - 1) + 1 : Nat) : Int) = S 0 0 by omega] at h9
    exact h9
theorem ls_n {S : St} (hI : Bd S) : vf_n64 (FP.f2d (lsF S)) ∧ Op.cmpValue (FP.dcmp (FP.f2d (lsF S)) (FP.f2d (lsF S))) CmpOp.l = 0 := by
  have h := sumZ_r (f := fun o => bI (S 4 o ≠ 0)) (M := 1) (fun o => bI_r _) (S 0 0).toNat
  have hb := hI.1
  unfold lsF
  split
  · exact ⟨f0_n.1, f0_n.2.1⟩
  · have h9 := ff_n (sumZ (fun o => bI (S 4 o ≠ 0)) (S 0 0).toNat).toNat (by omega) ((S 0 0).toNat - 1) (by omega)
    rw [Int.toNat_of_nonneg h.1, show ((((S 0 0).toNat - 1) + 1 : Nat) : Int) = S 0 0 by omega] at h9
    exact h9
theorem ls_n64 {S : St} (hI : Bd S) : vf_n64 (FP.f2d (lsF S)) := (ls_n hI).1
theorem outc_1 {O : Nat → Int} {c x : Int} (h : outc O c x 0 = 1) : c = -1 := by
  rw [outc_0] at h
  (repeat' split at h) <;> first | assumption | omega
theorem outc_2 {O : Nat → Int} {c x : Int} (h : outc O c x 0 = 2) : c = -2 := by
  rw [outc_0] at h
  (repeat' split at h) <;> first | assumption | omega
theorem outc_4 {O : Nat → Int} {c x : Int} (hc : -2 ≤ c) (h : outc O c x 0 = 3) : 0 < c := by
  rw [outc_0] at h
  (repeat' split at h) <;> omega


/-! what the law's calls answer, out of the books -/
def vRow (S : St) (x : Int) : Int := if isBench S x then S 1 x else -77
def vCol (S : St) (x : Int) : Int := if isBench S x then S 2 x else -77
def vBase (S : St) (x : Int) : Int := if isBench S x then S 3 x else -77
def vRent (S : St) (x : Int) : Int := if isBench S x then rent S x else -77
def vLoud (S : St) (x : Int) : Int := if isFount S x then S 9 x else -77
def vRun (S : St) (x : Int) : Int := if isFount S x then S 10 x else -77
def vNoise (S : St) (x y : Int) : Int := if isCell x y then noise S x y else -77
def vQuiet (S : St) (x : Int) : Int := if isBench S x then bI (quietB S x) else -77
def vCoins (S : St) (x : Int) : Int := if isTen S x then S 11 x else -77
def vDefs (S : St) (x : Int) : Int := if isTen S x then S 12 x else -77
def vBof (S : St) (x : Int) : Int := if isTen S x then (if lb S x = -1 then -75 else lb S x) else -77
def vCan (S : St) (x y : Int) : Int := if isTen S x ∧ isBench S y then bI (obst S x y = 0) else -77
def vCheap (S : St) (x : Int) : Int := if isTen S x then (if chB S x (S 0 0).toNat = -1 then -75 else chB S x (S 0 0).toNat) else -77
def vLet (S : St) (x : Int) : Int := if isBench S x then bI (S 4 x ≠ 0) else -77
def vTen (S : St) (x : Int) : Int := if isBench S x then (if S 4 x = 0 then -75 else S 4 x - 1) else -77
def vDep (S : St) (x : Int) : Int := if isBench S x then (if S 4 x = 0 then -75 else S 5 x) else -77
def vLeft (S : St) (x : Int) : Int := if isBench S x then (if S 4 x = 0 then -75 else S 6 x) else -77
def vDefM (S : St) (x : Int) : Int := if isBench S x then (if S 4 x ≠ 0 ∧ quietB S x ∧ payable S x < S 6 x then payable S x + 1 else -75) else -77
def vInc (S : St) (x : Int) : Int := if isTerm x then (elZ S x).2.2 0 5 - S 0 5 else -78
def vIncL (S : St) (x : Int) : Int := if isTerm x then leaseInc S x else -78
def vByR (S : St) (x : Int) : Int := if bbR S x = -1 then -75 else bbR S x
def vByC (S : St) (x : Int) : Int := if tbC S x = -1 then -75 else tbC S x
def vMean (S : St) (d : UInt64) : UInt64 := if S 0 0 = 0 then d else mrD S
def vShare (S : St) (d : UInt32) : UInt32 := if S 0 0 = 0 then d else lsF S
/-- a change: what the law is told -/
def ansK (ch : Chg) : Int := if ch.1 = 0 then ch.2.1 else if ch.1 = -1 then -77 else if ch.1 = -2 then -78 else -76
def phX (X : Nat → Int) (c : Int) : Nat → Int := if c = 0 then upO (upO X 0 ((X 0 + 1) % 8)) 1 (k1Z (X 1)) else X
def phQ (Q : Nat → St) (X : Nat → Int) (S : St) (c : Int) : Nat → St := if c = 0 then upQ Q (X 0) S else Q
/-- more of every state: the defaults counted, deposits of leases -/
def Iv2 (S : St) : Prop := S 0 7 = sumZ (S 12) (S 0 2).toNat ∧ ∀ b, S 4 b ≠ 0 → 1 ≤ S 5 b
/-- where the j-th latest change's books lie -/
abbrev hix (X : Nat → Int) (j : Int) : Nat := ((X 0 + 8 - j) % 8).toNat
/-- what holds of books, history, snapshot -/
def KI (n : Int) (S : St) (X : Nat → Int) (Q : Nat → St) (P : St) (z : Int) : Prop :=
  (Inv n S ∧ Iv2 S) ∧ ((0 ≤ X 0 ∧ X 0 < 8) ∧ (0 ≤ X 1 ∧ X 1 ≤ 8)) ∧ (∀ k i, 0 ≤ Q k 10 i ∧ Q k 10 i ≤ 1) ∧ (∀ j : Int, 1 ≤ j → j ≤ X 1 → Inv n (Q (hix X j)) ∧ Iv2 (Q (hix X j))) ∧ (0 ≤ z ∧ z ≤ 1) ∧ (∀ i, 0 ≤ P 10 i ∧ P 10 i ≤ 1) ∧ (z ≠ 0 → Inv n P ∧ Iv2 P)
/-- the broker's tuple holds these books, history, snapshot; its input and output are sound -/
def RO (S : St) (X : Nat → Int) (Q : Nat → St) (P : St) (z : Int) (b : BU) : Prop :=
  S = b.2.2.2.2.1 ∧ X = b.2.2.2.1 ∧ Q = b.2.2.2.2.2.2.2.2.2.2.2 ∧ P = b.2.2.2.2.2.2.1 ∧ z = b.1 0 ∧ ((0 ≤ b.2.2.2.2.2.2.2.1 0 0 ∧ b.2.2.2.2.2.2.2.1 0 0 ≤ 60) ∧ (∀ i, 0 ≤ i → i < 60 → 0 ≤ b.2.2.2.2.2.2.2.1 1 i ∧ b.2.2.2.2.2.2.2.1 1 i ≤ 126) ∧ (0 ≤ b.2.2.2.2.2.2.2.1 0 2 ∧ b.2.2.2.2.2.2.2.1 0 2 ≤ 9)) ∧ (0 ≤ b.2.2.1 0 ∧ b.2.2.1 0 ≤ 16) ∧ y7Z b.2.2.2.2.2.2.2.2.2.2.1
/-- the output's text -/
def OT (n : Int) (L : Int → Int) (b : BU) : Prop := b.2.2.1 0 = n ∧ ∀ z, 0 ≤ z → z < n → b.2.2.2.2.2.2.2.2.2.2.1 z = L z
theorem outc_c0 {O : Nat → Int} {c x : Int} (hr : -2 ≤ c ∧ c ≤ 11) (h : outc O c x 0 = 0) : c = 0 ∧ outc O c x 1 = x := by
  have e := (outc_z O (x := x) hr).1.mp h
  subst e
  exact ⟨rfl, rfl⟩
theorem zkt_0 (Z : Nat → Int) (O : Nat → Int) : Z 0 = (if O 0 = 3 then (upO (upO (upO Z 1 (O 2)) 2 (O 3)) 3 0) else Z) 0 := by
  split <;> rfl
theorem ansK_0 {ch : Chg} (h : ch.1 = 0) : ansK ch = ch.2.1 := if_pos h
theorem ansK_1 {ch : Chg} (h : ch.1 = -1) : ansK ch = -77 := (if_neg (by omega)).trans (if_pos h)
theorem ansK_2 {ch : Chg} (h : ch.1 = -2) : ansK ch = -78 := (if_neg (by omega)).trans ((if_neg (by omega)).trans (if_pos h))
theorem ansK_3 {ch : Chg} (h : 0 < ch.1) : ansK ch = -76 := (if_neg (by omega)).trans ((if_neg (by omega)).trans (if_neg (by omega)))
theorem cr_k {S : St} {x y : Int} (h : (crZ S x y).1 ≠ 0) : (crZ S x y).2.2 = S := by
  unfold crZ at h ⊢
  (repeat' split) <;> first | rfl | (rename_i a1 a2; exfalso; apply h; rw [if_neg a1, if_neg a2])
theorem cl_k {S : St} {x y : Int} (h : (clZ S x y).1 ≠ 0) : (clZ S x y).2.2 = S := by
  unfold clZ at h ⊢
  (repeat' split) <;> first | rfl | (rename_i a1 a2; exfalso; apply h; rw [if_neg a1, if_neg a2])

section LROW0
variable {p : Program} {l : Launch} {e : Env} {R : Room} {s : State} {m : MethodId} {args : Array Value} {below : List Frame} {meth : Method} {c : Code} {H : Heap} {locs : List Loc} {cells slots : Nat} {Q : State → Prop}
variable {pc : Nat} {ls : Array Slot} {rest st0 : List Value} {a : Array Value} {A0 : Nat → Prop} {H0 : Heap} {mc ms : Nat} {dg : va_G} {M N : va_W}
theorem xl_calli0 {U UX : Type} {post : Int32 → U → Prop} {XP : String → UX → Prop} {Mf : U → va_W} {MX : UX → va_W} (hP : va_P dg vwCl (M) H) (hD : va_D A0 (M)) (hS : va_S A0 H0 H locs) (hA : ∀ q, H0.size ≤ q → A0 q)
    (hr : va_P dg vwCl M H → va_D A0 M → vx_Run p l e R s m args below meth c H locs cells slots mc ms (F0 m pc ls st0) rest (va_Qi post (fun u t => wrQ dg H.size M (Mf u) t) (va_A M H.size) a) (vx_X (fun _ : UX => True) (fun E u t => XP E u ∧ wrQ dg H.size M (MX u) t) (va_A M H.size)) (va_A M H.size))
    (kx : ∀ (E : String) (ce : Cell) (q9 : Addr) (u : UX) (H1 : Heap) (locs1 : List Loc), XP E u → va_P dg vwCl (MX u) H1 → va_D A0 (MX u) → va_S A0 H0 H1 locs1 → H1[q9]? = some ce → ce.vm = .none → s.vm.findClass E = some ce.cls → vx_W p l e R s m args below meth c H1 locs1 (cells + mc) (slots + ms) Q (F0 m pc ls rest) q9)
    (kk : ∀ (r : Int32) (u : U) (H1 : Heap) (locs1 : List Loc), post r u → va_P dg vwCl (Mf u) H1 → va_D A0 (Mf u) → va_S A0 H0 H1 locs1 → W p l e R s m args below meth c H1 locs1 (cells + mc) (slots + ms) Q (F0 m (pc + 3) ls (.int r :: rest))) : W p l e R s m args below meth c H locs cells slots Q (F0 m pc ls st0) := by
  refine xl_calli (N := []) (by rw [List.append_nil]; exact hP) (by rw [List.append_nil]; exact hD) hS hA hr (fun E ce q9 u H1 locs1 h1 h2 h3 => kx E ce q9 u H1 locs1 h1 (by rw [List.append_nil] at h2; exact h2) (by rw [List.append_nil] at h3; exact h3)) (fun r u H1 locs1 h1 h2 h3 => kk r u H1 locs1 h1 (by rw [List.append_nil] at h2; exact h2) (by rw [List.append_nil] at h3; exact h3))
end LROW0

section LROW0
variable {p : Program} {l : Launch} {e : Env} {R : Room} {s : State} {m : MethodId} {args : Array Value} {below : List Frame} {meth : Method} {c : Code} {H : Heap} {locs : List Loc} {cells slots : Nat} {Q : State → Prop}
variable {pc : Nat} {ls : Array Slot} {rest st0 : List Value} {a : Array Value} {A0 : Nat → Prop} {H0 : Heap} {mc ms : Nat} {dg : va_G} {M N : va_W}
theorem xl_calld0 {U UX : Type} {post : UInt64 → U → Prop} {XP : String → UX → Prop} {Mf : U → va_W} {MX : UX → va_W} (hP : va_P dg vwCl (M) H) (hD : va_D A0 (M)) (hS : va_S A0 H0 H locs) (hA : ∀ q, H0.size ≤ q → A0 q)
    (hr : va_P dg vwCl M H → va_D A0 M → vx_Run p l e R s m args below meth c H locs cells slots mc ms (F0 m pc ls st0) rest (va_Qd post (fun u t => wrQ dg H.size M (Mf u) t) (va_A M H.size) a) (vx_X (fun _ : UX => True) (fun E u t => XP E u ∧ wrQ dg H.size M (MX u) t) (va_A M H.size)) (va_A M H.size))
    (kx : ∀ (E : String) (ce : Cell) (q9 : Addr) (u : UX) (H1 : Heap) (locs1 : List Loc), XP E u → va_P dg vwCl (MX u) H1 → va_D A0 (MX u) → va_S A0 H0 H1 locs1 → H1[q9]? = some ce → ce.vm = .none → s.vm.findClass E = some ce.cls → vx_W p l e R s m args below meth c H1 locs1 (cells + mc) (slots + ms) Q (F0 m pc ls rest) q9)
    (kk : ∀ (r : UInt64) (u : U) (H1 : Heap) (locs1 : List Loc), post r u → va_P dg vwCl (Mf u) H1 → va_D A0 (Mf u) → va_S A0 H0 H1 locs1 → W p l e R s m args below meth c H1 locs1 (cells + mc) (slots + ms) Q (F0 m (pc + 3) ls (.double r :: rest))) : W p l e R s m args below meth c H locs cells slots Q (F0 m pc ls st0) := by
  refine xl_calld (N := []) (by rw [List.append_nil]; exact hP) (by rw [List.append_nil]; exact hD) hS hA hr (fun E ce q9 u H1 locs1 h1 h2 h3 => kx E ce q9 u H1 locs1 h1 (by rw [List.append_nil] at h2; exact h2) (by rw [List.append_nil] at h3; exact h3)) (fun r u H1 locs1 h1 h2 h3 => kk r u H1 locs1 h1 (by rw [List.append_nil] at h2; exact h2) (by rw [List.append_nil] at h3; exact h3))
end LROW0

section LROW0
variable {p : Program} {l : Launch} {e : Env} {R : Room} {s : State} {m : MethodId} {args : Array Value} {below : List Frame} {meth : Method} {c : Code} {H : Heap} {locs : List Loc} {cells slots : Nat} {Q : State → Prop}
variable {pc : Nat} {ls : Array Slot} {rest st0 : List Value} {a : Array Value} {A0 : Nat → Prop} {H0 : Heap} {mc ms : Nat} {dg : va_G} {M N : va_W}
theorem xl_callf0 {U UX : Type} {post : UInt32 → U → Prop} {XP : String → UX → Prop} {Mf : U → va_W} {MX : UX → va_W} (hP : va_P dg vwCl (M) H) (hD : va_D A0 (M)) (hS : va_S A0 H0 H locs) (hA : ∀ q, H0.size ≤ q → A0 q)
    (hr : va_P dg vwCl M H → va_D A0 M → vx_Run p l e R s m args below meth c H locs cells slots mc ms (F0 m pc ls st0) rest (va_Qf post (fun u t => wrQ dg H.size M (Mf u) t) (va_A M H.size) a) (vx_X (fun _ : UX => True) (fun E u t => XP E u ∧ wrQ dg H.size M (MX u) t) (va_A M H.size)) (va_A M H.size))
    (kx : ∀ (E : String) (ce : Cell) (q9 : Addr) (u : UX) (H1 : Heap) (locs1 : List Loc), XP E u → va_P dg vwCl (MX u) H1 → va_D A0 (MX u) → va_S A0 H0 H1 locs1 → H1[q9]? = some ce → ce.vm = .none → s.vm.findClass E = some ce.cls → vx_W p l e R s m args below meth c H1 locs1 (cells + mc) (slots + ms) Q (F0 m pc ls rest) q9)
    (kk : ∀ (r : UInt32) (u : U) (H1 : Heap) (locs1 : List Loc), post r u → va_P dg vwCl (Mf u) H1 → va_D A0 (Mf u) → va_S A0 H0 H1 locs1 → W p l e R s m args below meth c H1 locs1 (cells + mc) (slots + ms) Q (F0 m (pc + 3) ls (.float r :: rest))) : W p l e R s m args below meth c H locs cells slots Q (F0 m pc ls st0) := by
  refine xl_callf (N := []) (by rw [List.append_nil]; exact hP) (by rw [List.append_nil]; exact hD) hS hA hr (fun E ce q9 u H1 locs1 h1 h2 h3 => kx E ce q9 u H1 locs1 h1 (by rw [List.append_nil] at h2; exact h2) (by rw [List.append_nil] at h3; exact h3)) (fun r u H1 locs1 h1 h2 h3 => kk r u H1 locs1 h1 (by rw [List.append_nil] at h2; exact h2) (by rw [List.append_nil] at h3; exact h3))
end LROW0
