def xK (dC : Nat → ClassId) (dI : Nat → Nat → Nat) (kI kZ : ClassId) (U : State) : Prop := va_K (dC, dI) vwCl [(kI, .int), (kZ, .boolean)] U ∧ (va_Nw (.methodLinkNest ROm 15 yRw_isBelow "DeclarativeRows") U ∧ va_Nw (.methodLinkNest RRn 26 yRw_isBelow "DeclarativeRows") U ∧ va_Nw (.methodLinkNest RRw 9 yTr_init "DeclarativeRows") U ∧ va_Nw (.methodLinkNest RRw 18 yCk_init "DeclarativeRows") U ∧ va_Nw (.methodLinkNest RRw 25 yUs_init "DeclarativeRows") U ∧ va_Nw (.methodLinkNest RRw 39 yRn_init "DeclarativeRows") U ∧ va_Nw (.methodLinkNest RRw 46 yLt_init "DeclarativeRows") U)
theorem xK.blind {dC : Nat → ClassId} {dI : Nat → Nat → Nat} {kI kZ : ClassId} {U : State} (h : xK dC dI kI kZ U) (g : JFrame) (mk : MethodId) (a : Array Value) : xK dC dI kI kZ (U.calling g mk a) := ⟨va_K.moved (u := U) (U := U.calling g mk a) (Vm.Alike.refl U.vm) h.1, va_Nw.same rfl rfl h.2.1, va_Nw.same rfl rfl h.2.2.1, va_Nw.same rfl rfl h.2.2.2.1, va_Nw.same rfl rfl h.2.2.2.2.1, va_Nw.same rfl rfl h.2.2.2.2.2.1, va_Nw.same rfl rfl h.2.2.2.2.2.2.1, va_Nw.same rfl rfl h.2.2.2.2.2.2.2⟩
theorem xK.warm {dC : Nat → ClassId} {dI : Nat → Nat → Nat} {kI kZ : ClassId} {s U : State} (h : xK dC dI kI kZ s) (hW : s.WarmedH U.vm) : xK dC dI kI kZ U := ⟨va_K.moved hW.alike h.1, va_Nw.warmM hW h.2.1, va_Nw.warmM hW h.2.2.1, va_Nw.warmM hW h.2.2.2.1, va_Nw.warmM hW h.2.2.2.2.1, va_Nw.warmM hW h.2.2.2.2.2.1, va_Nw.warmM hW h.2.2.2.2.2.2.1, va_Nw.warmM hW h.2.2.2.2.2.2.2⟩
abbrev r_Pc (dC : Nat → ClassId) (dI : Nat → Nat → Nat) (kI kZ : ClassId) (av : List Value) (ws : va_W) : Array Value → State → Prop := va_Pc av (fun U => va_P (dC, dI) vwCl ws U.heap ∧ xK dC dI kI kZ U)
abbrev r_Qc (v : Int32) : Array Value → State → Outcome → State → Prop := va_Qi (fun r (_ : Unit) => r = v) (fun _ _ => True) (fun _ => False)
abbrev w_Pc (dC : Nat → ClassId) (dI : Nat → Nat → Nat) (kI kZ : ClassId) (sz : Nat) (av : List Value) (ws : va_W) : Array Value → State → Prop := va_Pc av (fun U => U.heap.size = sz ∧ va_P (dC, dI) vwCl ws U.heap ∧ xK dC dI kI kZ U ∧ va_D (fun _ => True) ws)
abbrev w_Qi {S : Type} (dC : Nat → ClassId) (dI : Nat → Nat → Nat) (Wf : S → va_W) (ws : va_W) (sz : Nat) (v : Int32 × S) : Array Value → State → Outcome → State → Prop := va_Qi (fun r (u : S) => (r, u) = v) (fun u t => va_P (dC, dI) vwCl (Wf u) t.heap ∧ va_D (va_A ws sz) (Wf u)) (va_A ws sz)
abbrev w_Qv {S : Type} (dC : Nat → ClassId) (dI : Nat → Nat → Nat) (Wf : S → va_W) (ws : va_W) (sz : Nat) (v : S) : Array Value → State → Outcome → State → Prop := va_Qv (fun (u : S) => u = v) (fun u t => va_P (dC, dI) vwCl (Wf u) t.heap ∧ va_D (va_A ws sz) (Wf u)) (va_A ws sz)
abbrev c_Qv (dC : Nat → ClassId) (dI : Nat → Nat → Nat) (Wf : (Nat → Nat) → va_W) (post : (Nat → Nat) → Prop) (ws : va_W) (sz : Nat) : Array Value → State → Outcome → State → Prop := va_Qv post (fun u t => va_P (dC, dI) vwCl (Wf u) t.heap ∧ va_D (va_A ws sz) (Wf u)) (va_A ws sz)
section XB
variable {p : Program} {l : Launch} {e : Env} {R : Room} {s : State} {m : MethodId} {args : Array Value} {below : List Frame} {meth : Method} {c : Code} {H H0 : Heap} {locs : List Loc} {cells slots : Nat} {Q : State → Prop} {pc : Nat} {ls : Array Slot} {st0 rest : List Value} {a : Array Value} {A0 : Nat → Prop} {dC : Nat → ClassId} {dI : Nat → Nat → Nat} {kI kZ : ClassId}
theorem xx_preR {ws : va_W} {ci q0 : Nat} {fs As : List Value} {C : String} {T : u_T} {N b : Nat} (hX : xK dC dI kI kZ s) (hP : va_P (dC, dI) vwCl ws H) (hc : vwCl[ci]? = some (C, T, N)) (he : ws[q0]? = some (b, .inr (ci, fs))) : PreV s H C b (r_Pc dC dI kI kZ (.ref b :: As) ws) As :=
  ⟨fun a U g mk q => ⟨q.1, q.2.1, q.2.2.blind g mk a⟩, va_recv hX.1 hP hc he, fun U hU hW => ⟨rfl, by rw [hU]; exact hP, hX.warm hW⟩⟩
theorem xx_preRS {ws : va_W} {As : List Value} (hX : xK dC dI kI kZ s) (hP : va_P (dC, dI) vwCl ws H) : PreS s H (r_Pc dC dI kI kZ As ws) As :=
  ⟨fun a U g mk q => ⟨q.1, q.2.1, q.2.2.blind g mk a⟩, fun U hU hW => ⟨rfl, by rw [hU]; exact hP, hX.warm hW⟩⟩
theorem xx_preW {ws : va_W} {A : Nat → Prop} {ci q0 : Nat} {fs As : List Value} {C : String} {T : u_T} {N b : Nat} (hX : xK dC dI kI kZ s) (hP : va_P (dC, dI) vwCl ws H) (hD : va_D A ws) (hc : vwCl[ci]? = some (C, T, N)) (he : ws[q0]? = some (b, .inr (ci, fs))) : PreV s H C b (w_Pc dC dI kI kZ H.size (.ref b :: As) ws) As :=
  ⟨fun a U g mk q => ⟨q.1, q.2.1, q.2.2.1, q.2.2.2.1.blind g mk a, q.2.2.2.2⟩, va_recv hX.1 hP hc he, fun U hU hW => ⟨rfl, by rw [hU], by rw [hU]; exact hP, hX.warm hW, hD.weaken (fun _ _ _ _ => trivial)⟩⟩
theorem xx_preC {ws : va_W} {A : Nat → Prop} {As : List Value} (hX : xK dC dI kI kZ s) (hP : va_P (dC, dI) vwCl ws H) (hD : va_D A ws) : PreS s H (w_Pc dC dI kI kZ H.size As ws) As :=
  ⟨fun a U g mk q => ⟨q.1, q.2.1, q.2.2.1, q.2.2.2.1.blind g mk a, q.2.2.2.2⟩, fun U hU hW => ⟨rfl, by rw [hU], by rw [hU]; exact hP, hX.warm hW, hD.weaken (fun _ _ _ _ => trivial)⟩⟩
theorem xx_callR {v : Int32} (hr : va_Run p l e R s m args below meth c H locs cells slots 0 0 (F0 m pc ls st0) rest (r_Qc v a) (fun _ => False)) (hS : va_S A0 H0 H locs)
    (kk : ∀ (H1 : Heap) (locs1 : List Loc), (∀ ws : va_W, va_P (dC, dI) vwCl ws H → va_P (dC, dI) vwCl ws H1) → va_S A0 H0 H1 locs1 → W p l e R s m args below meth c H1 locs1 cells slots Q (F0 m (pc + 3) ls (.int v :: rest))) : W p l e R s m args below meth c H locs cells slots Q (F0 m pc ls st0) := by
  refine va_calli hr hS (fun q _ h => h.elim) (fun q h => h.elim) (fun r u t H1 locs1 ht hvm hw hB hz hk hS1 => ?_)
  have hw : r = v := hw
  subst hw
  exact kk H1 locs1 (fun ws h => h.kept (fun k q hq => hk q.1 (h k q hq).lt id)) hS1
theorem xx_callWi {S : Type} {Wf : S → va_W} {ws wc wr : va_W} {v : Int32 × S} (hr : va_Run p l e R s m args below meth c H locs cells slots 0 0 (F0 m pc ls st0) rest (w_Qi dC dI Wf wc H.size v a) (va_A wc H.size)) (hP : va_P (dC, dI) vwCl ws H) (hD : va_D A0 ws) (hS : va_S A0 H0 H locs) (hA : ∀ q, H0.size ≤ q → A0 q) (isC isR : List Nat) (hC : isC.map (fun i => ws[i]?) = wc.map some) (hR : isR.map (fun i => ws[i]?) = wr.map some) (hn : va_nd isR = true) (hdis : ∀ i ∈ isR, i ∉ isC)
    (kk : ∀ (H1 : Heap) (locs1 : List Loc), va_P (dC, dI) vwCl (wr ++ Wf v.2) H1 → va_D A0 (wr ++ Wf v.2) → va_S A0 H0 H1 locs1 → W p l e R s m args below meth c H1 locs1 cells slots Q (F0 m (pc + 3) ls (.int v.1 :: rest))) : W p l e R s m args below meth c H locs cells slots Q (F0 m pc ls st0) := by
  have hFc := va_free (wc := wc) hD hS hA isC hC
  refine va_calli hr hS (fun q _ h => hFc q h) hFc (fun r u t H1 locs1 ht hvm hw hB hz hk hS1 => ?_)
  have hw : (r, u) = v := hw
  subst hw
  obtain ⟨hP1, hD1⟩ := hB
  rw [ht] at hP1
  obtain ⟨j1, j2⟩ := va_join hP hD isC isR hC hR hn hdis hk hFc hP1 hD1
  exact kk H1 locs1 j1 j2 hS1
theorem xx_callWv {S : Type} {Wf : S → va_W} {ws wc wr : va_W} {v : S} (hr : va_Run p l e R s m args below meth c H locs cells slots 0 0 (F0 m pc ls st0) rest (w_Qv dC dI Wf wc H.size v a) (va_A wc H.size)) (hP : va_P (dC, dI) vwCl ws H) (hD : va_D A0 ws) (hS : va_S A0 H0 H locs) (hA : ∀ q, H0.size ≤ q → A0 q) (isC isR : List Nat) (hC : isC.map (fun i => ws[i]?) = wc.map some) (hR : isR.map (fun i => ws[i]?) = wr.map some) (hn : va_nd isR = true) (hdis : ∀ i ∈ isR, i ∉ isC)
    (kk : ∀ (H1 : Heap) (locs1 : List Loc), va_P (dC, dI) vwCl (wr ++ Wf v) H1 → va_D A0 (wr ++ Wf v) → va_S A0 H0 H1 locs1 → W p l e R s m args below meth c H1 locs1 cells slots Q (F0 m (pc + 3) ls rest)) : W p l e R s m args below meth c H locs cells slots Q (F0 m pc ls st0) := by
  have hFc := va_free (wc := wc) hD hS hA isC hC
  refine va_callv hr hS (fun q _ h => hFc q h) hFc (fun u t H1 locs1 ht hvm hw hB hz hk hS1 => ?_)
  have hw : u = v := hw
  subst hw
  obtain ⟨hP1, hD1⟩ := hB
  rw [ht] at hP1
  obtain ⟨j1, j2⟩ := va_join hP hD isC isR hC hR hn hdis hk hFc hP1 hD1
  exact kk H1 locs1 j1 j2 hS1
theorem xx_callC {Wf : (Nat → Nat) → va_W} {post : (Nat → Nat) → Prop} {ws wc wr : va_W} {mc ms : Nat} (hr : va_Run p l e R s m args below meth c H locs cells slots mc ms (F0 m pc ls st0) rest (c_Qv dC dI Wf post wc H.size a) (va_A wc H.size)) (hP : va_P (dC, dI) vwCl ws H) (hD : va_D A0 ws) (hS : va_S A0 H0 H locs) (hA : ∀ q, H0.size ≤ q → A0 q) (isC isR : List Nat) (hC : isC.map (fun i => ws[i]?) = wc.map some) (hR : isR.map (fun i => ws[i]?) = wr.map some) (hn : va_nd isR = true) (hdis : ∀ i ∈ isR, i ∉ isC)
    (kk : ∀ (u : Nat → Nat), post u → ∀ (H1 : Heap) (locs1 : List Loc), va_P (dC, dI) vwCl (wr ++ Wf u) H1 → va_D A0 (wr ++ Wf u) → va_S A0 H0 H1 locs1 → W p l e R s m args below meth c H1 locs1 (cells + mc) (slots + ms) Q (F0 m (pc + 3) ls rest)) : W p l e R s m args below meth c H locs cells slots Q (F0 m pc ls st0) := by
  have hFc := va_free (wc := wc) hD hS hA isC hC
  refine va_callv hr hS (fun q _ h => hFc q h) hFc (fun u t H1 locs1 ht hvm hw hB hz hk hS1 => ?_)
  obtain ⟨hP1, hD1⟩ := hB
  rw [ht] at hP1
  obtain ⟨j1, j2⟩ := va_join hP hD isC isR hC hR hn hdis hk hFc hP1 hD1
  exact kk u hw H1 locs1 j1 j2 hS1
theorem xx_newi {cc : ByteArray} {D : va_G} {cl : List vw_C} {ws : va_W} {A : Nat → Prop} (hexec : p.tables.exec = Jvm.exec) (hb : c.code = cc) (harr : (Cond.arrayClass .int).before args s = true) (hK : va_K D cl [(kI, .int), (kZ, .boolean)] s) (hP : va_P D cl ws H) (hD : va_D A ws) (hS : va_S A H0 H locs) (hA : ∀ q, H0.size ≤ q → A q) {n : Int32} {N : Nat} (hn : ¬ n < 0) (hN : n.toNatClampNeg = N) (hbytes : N * componentBytes .int ≤ 536870912) (hcells : cells + 1 ≤ R.cells) (hslots : slots + N ≤ R.slots) (hdg : decode cc pc = .ok (.newarray .int, 2))
    (kk : ∀ (q : Nat) (H1 : Heap), va_P D cl (ws ++ [(q, .inl (kI, N, .inl (fun _ => 0)))]) H1 → va_D A (ws ++ [(q, .inl (kI, N, .inl (fun _ => 0)))]) → va_S A H0 H1 locs → W p l e R s m args below meth c H1 locs (cells + 1) (slots + N) Q (F0 m (pc + 2) ls (.ref q :: rest))) : W p l e R s m args below meth c H locs cells slots Q (F0 m pc ls (.int n :: rest)) := by
  refine va_newa hexec hb (atype := .int) harr rfl hK hP hD hS hA (a0 := (N, .inl (fun _ => 0))) (fun cA => rfl) hn hN hbytes hcells hslots hdg (fun q cA H1 hK1 hP1 hD1 hS1 => ?_)
  have h1 : s.vm.findClass ("[" ++ FieldType.int.toString) = some cA := (hK1.2 2 (cA, .int) rfl).2
  have h0 : s.vm.findClass ("[" ++ FieldType.int.toString) = some kI := (hK1.2 0 (kI, .int) rfl).2
  obtain rfl : cA = kI := Option.some.inj (h1.symm.trans h0)
  exact kk q H1 hP1 hD1 hS1
theorem xx_newz {cc : ByteArray} {D : va_G} {cl : List vw_C} {ws : va_W} {A : Nat → Prop} (hexec : p.tables.exec = Jvm.exec) (hb : c.code = cc) (harr : (Cond.arrayClass .boolean).before args s = true) (hK : va_K D cl [(kI, .int), (kZ, .boolean)] s) (hP : va_P D cl ws H) (hD : va_D A ws) (hS : va_S A H0 H locs) (hA : ∀ q, H0.size ≤ q → A q) {n : Int32} {N : Nat} (hn : ¬ n < 0) (hN : n.toNatClampNeg = N) (hbytes : N * componentBytes .boolean ≤ 536870912) (hcells : cells + 1 ≤ R.cells) (hslots : slots + N ≤ R.slots) (hdg : decode cc pc = .ok (.newarray .boolean, 2))
    (kk : ∀ (q : Nat) (H1 : Heap), va_P D cl (ws ++ [(q, .inl (kZ, N, .inl (fun _ => 0)))]) H1 → va_D A (ws ++ [(q, .inl (kZ, N, .inl (fun _ => 0)))]) → va_S A H0 H1 locs → W p l e R s m args below meth c H1 locs (cells + 1) (slots + N) Q (F0 m (pc + 2) ls (.ref q :: rest))) : W p l e R s m args below meth c H locs cells slots Q (F0 m pc ls (.int n :: rest)) := by
  refine va_newa hexec hb (atype := .boolean) harr rfl hK hP hD hS hA (a0 := (N, .inl (fun _ => 0))) (fun cA => rfl) hn hN hbytes hcells hslots hdg (fun q cA H1 hK1 hP1 hD1 hS1 => ?_)
  have h1 : s.vm.findClass ("[" ++ FieldType.boolean.toString) = some cA := (hK1.2 2 (cA, .boolean) rfl).2
  have h0 : s.vm.findClass ("[" ++ FieldType.boolean.toString) = some kZ := (hK1.2 1 (kZ, .boolean) rfl).2
  obtain rfl : cA = kZ := Option.some.inj (h1.symm.trans h0)
  exact kk q H1 hP1 hD1 hS1
theorem xx_arr {ty : FieldType} (h : (Cond.arrayClass ty).before args s = true) : ∃ cA : ClassId, ArrOfT s cA ty ∧ s.vm.findClass ("[" ++ ty.toString) = some cA := by
  obtain ⟨c, k, comp, h1, h2, h3⟩ := Cond.arrayClass_spec h
  exact ⟨c, fun n z => ⟨fun k h => (by cases h), k, h2, comp, h3⟩, h1⟩
end XB
theorem in_of {x M : Int32} {N : Nat} (hM : M.toInt = N) (h0 : ¬ x < 0) (h1 : ¬ M ≤ x) : vp_in x N := by
  rw [vp_in_iff]
  rw [Int32.lt_iff_toInt_lt, Int32.toInt_zero] at h0
  rw [Int32.le_iff_toInt_le, hM] at h1
  omega
theorem nn_of1 {x : Int32} (h : ¬ x < 1) : ¬ x < 0 := by
  rw [Int32.lt_iff_toInt_lt] at h ⊢
  have a : (1 : Int32).toInt = 1 := rfl
  have b : (0 : Int32).toInt = 0 := rfl
  omega
theorem in_of1 {x M : Int32} {N : Nat} (hM : M.toInt = N) (h0 : ¬ x < 1) (h1 : ¬ M ≤ x) : vp_in x N := in_of hM (nn_of1 h0) h1
theorem in_of3 {x M : Int32} {N : Nat} (hM : M.toInt = N) (h0 : ¬ x < 1) (h1 : x < M) : vp_in x N := in_of1 hM h0 (by
  rw [Int32.lt_iff_toInt_lt] at h1
  rw [Int32.le_iff_toInt_le]
  omega)
theorem lt_ofM {x M : Int32} {j N : Nat} (hM : M.toInt = N) (hj : x = nI j) (hN : j < 2 ^ 31) (h1 : ¬ M ≤ x) : j < N := by
  rw [Int32.le_iff_toInt_le, hM, hj, nI_toInt hN] at h1
  omega
theorem lt_of3 {x : Int32} {j : Nat} (hj : x = nI j) (hN : j ≤ 3) (h1 : ¬ 3 ≤ x) : j < 3 := lt_ofM (M := 3) rfl hj (by omega) h1
theorem lt_of20 {x : Int32} {j : Nat} (hj : x = nI j) (hN : j ≤ 20) (h1 : ¬ 20 ≤ x) : j < 20 := lt_ofM (M := 20) rfl hj (by omega) h1
theorem in_20 {x : Int32} {j : Nat} (hj : x = nI j) (hN : j < 20) : vp_in x 20 := by rw [hj]; exact vp_in_nI hN (by decide)
theorem lt_in {x : Int32} {j N : Nat} (hj : x = nI j) (hN : j < 2 ^ 31) (h : vp_in x N) : j < N := by
  rw [vp_in_iff, hj, nI_toInt hN] at h
  omega
