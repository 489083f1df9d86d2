set_option maxHeartbeats 4000000 in
set_option maxRecDepth 100000 in
theorem m_OpenModes_init (l : Launch) (dC : Nat → ClassId) (dI : Nat → Nat → Nat) (kI kZ : ClassId) (sz : Nat) (h0 : Nat) : Met l yOm_init wsOm_init ({ frames := 1, cells := 1, slots := 20, locals := 12 }) (w_Pc dC dI kI kZ sz [.ref h0] [(h0, .inr (3, [.null]))]) (c_Qv dC dI (fun u => w_OpenModes kI kZ h0 (u 1) f_OpenModes_init) (fun _ => True) [(h0, .inr (3, [.null]))] sz) 1 20 (va_A [(h0, .inr (3, [.null]))] sz) := by
  refine Met.ofW (cc := cOm_init) (maxL := 2) (ret := none) (by decide) rfl ?_
  intro p e s m args below meth c s₁ B hml hv
  obtain ⟨rfl, hsz, hP, hX, hD0⟩ := hv
  have hK := hX.1
  have hx := B.exec
  have hb := B.bytes
  have hr := B.returns
  have hts := atoms_spec (ws := wsOm_init) B.pre
  have hown : s.vm.findClass ROm = some m.cls := findClass_of_methodNamed B.named
  have hlocks := B.notSynchronized
  have hin : meth.name = "<init>" := (name_of_methodNamed B.named B.method).1
  subst hsz
  have hD := hD0.self (sz := s.heap.size)
  unfold c_Qv
  generalize hAe : va_A [(h0, .inr (3, [.null]))] s.heap.size = A at hD ⊢
  have hA : ∀ q : Nat, s.heap.size ≤ q → A q := fun q h => by rw [← hAe]; exact Or.inr h
  have hS : va_S A s.heap s.heap [] := va_S.rf
  have hP : va_P (dC, dI) vwCl [(h0, .inr (3, [.null]))] s.heap := hP
  have hD : va_D A [(h0, .inr (3, [.null]))] := hD
  have hl := lv_entry ([.ref h0]) (n := 2) (Nat.le_of_ble_eq_true rfl)
  rw [lg_entry_eq]
  generalize (lg_sl ([.ref h0]) ++ List.replicate (2 - (lg_sl ([.ref h0])).length) Slot.unset).toArray = ls at hl ⊢
  have hl : lv_has ls 2 [(0, .ref h0)] := hl
  refine lv_aload_n hx hb dOm_init_0 rfl (lv_at hl 0 rfl) ?_
  refine W.objInit hx hb hown (hts (.methodLink ROm 3 objectInit) (by decide +kernel)) (hts (.instanceMethod objectInit) (by decide +kernel)) (hts _ (List.mem_of_getElem? (i := 3) rfl)) rfl (by rw [hml]; exact hl.1) rfl dOm_init_1 (Nat.le_of_ble_eq_true rfl) (Nat.le_of_ble_eq_true rfl) ?_
  refine W.eq (g2 := F0 m 4 ls []) rfl ?_
  refine lv_aload_n hx hb dOm_init_4 rfl (lv_at hl 0 rfl) ?_
  refine lv_bipush (v := 20) hx hb dOm_init_5 (by decide) ?_
  refine xx_newi hx hb (hts (.arrayClass .int) (by decide +kernel)) hK hP hD hS hA (N := 20) (by decide) (by decide) (by decide) (Nat.le_of_ble_eq_true rfl) (Nat.le_of_ble_eq_true rfl) dOm_init_7 (fun q7 H hP hD hS => ?_)
  have hP : va_P (dC, dI) vwCl [(h0, .inr (3, [.null])), (q7, .inl (kI, 20, .inl (fun _ => 0)))] H := hP
  have hD : va_D A [(h0, .inr (3, [.null])), (q7, .inl (kI, 20, .inl (fun _ => 0)))] := hD
  refine va_putF (D := (dC, dI)) (ci := 3) (v := .ref q7) (ty := .array .int) (C := ROm) (T := TOm) (N := 1) hx hb hts (by decide +kernel) tyOm tyOm_ok nmOm hown hK hP hD hS 0 rfl rfl 0 (by decide) (hts (.fieldLink ROm 9 "DeclarativeRows$OpenModes" "modes" "[I") (by decide +kernel)) (fun _ h9 => h9) rfl hin rfl (by decide +kernel) rfl rfl (Nat.le_of_ble_eq_true rfl) dOm_init_9 (fun H locs hP hD hS => ?_)
  have hP : va_P (dC, dI) vwCl [(h0, .inr (3, [.ref q7])), (q7, .inl (kI, 20, .inl (fun _ => 0)))] H := hP
  have hD : va_D A [(h0, .inr (3, [.ref q7])), (q7, .inl (kI, 20, .inl (fun _ => 0)))] := hD
  refine lv_iconst (v := 0) hx hb dOm_init_12 (by decide) ?_
  refine lv_istore_n (lv' := [(1, .int 0), (0, .ref h0)]) hx hb dOm_init_13 rfl hl (by decide) rfl (fun ls hl => ?_)
  refine (?_ : ∀ (k j : Nat) (x1 : Int32) (F : Nat → Int32) (ls : Array Slot) (H : Heap) (locs : List Loc), lv_has ls 2 [(0, .ref h0), (1, .int x1)] → va_P (dC, dI) vwCl [(h0, .inr (3, [.ref q7])), (q7, .inl (kI, 20, .inl F))] H → va_D A [(h0, .inr (3, [.ref q7])), (q7, .inl (kI, 20, .inl F))] → va_S A s.heap H locs → x1 = nI j → j ≤ 20 → 20 < j + k → f_OpenModes_init_F = f_OpenModes_init_L14 k x1 F → W p l e _ s m _ below meth c H locs _ _ _ (F0 m 14 ls [])) 21 0 0 (fun _ => 0) ls _ _ (lv_sub hl [1, 0] rfl) hP hD hS (nI_0.symm) (by omega) (by omega) (rfl)
  intro k14
  induction k14 with
  | zero => intro j14 x1 F ls H locs hl hP hD hS hj14 hjN14 hk14 hI14; exfalso; omega
  | succ k14 ih14 =>
    intro j14 x1 F ls H locs hl hP hD hS hj14 hjN14 hk14 hI14
    refine lv_iload_n hx hb dOm_init_14 rfl (lv_at hl 1 rfl) ?_
    refine lv_aload_n hx hb dOm_init_15 rfl (lv_at hl 0 rfl) ?_
    refine va_get (D := (dC, dI)) (ci := 3) (v := .ref q7) (C := ROm) (T := TOm) (N := 1) hx hb hts (by decide +kernel) hown hK hP 0 rfl rfl 0 (by decide) (hts (.fieldLink ROm 9 "DeclarativeRows$OpenModes" "modes" "[I") (by decide +kernel)) (fun _ h9 => h9) rfl dOm_init_16 ?_
    refine va_alen (v := 20) hx hb hK hP 1 0 rfl rfl rfl dOm_init_19 ?_
    refine lv_icmp_ge (tgt := 36) hx hb dOm_init_20 (by decide) (fun c_1 => ?_) (fun c_1 => ?_)
    · have hE : f_OpenModes_init_F = F := by rw [hI14, f_OpenModes_init_L14, if_pos c_1]
      subst hE
      refine W.widen (k := 1) (n := 20) (Nat.le_of_ble_eq_true rfl) (Nat.le_of_ble_eq_true rfl) ?_
      exact W.vret hx hb hr (fun t ht hW => ⟨⟨(fun k => [h0, q7].getD k 0), rfl, trivial, by rw [ht]; exact hP, hD⟩, hS.F ht⟩) hS.2.2 dOm_init_36
    · have hjl : j14 < 20 := lt_of20 hj14 (by omega) c_1
      have hin20 := in_20 hj14 hjl
      refine lv_aload_n hx hb dOm_init_23 rfl (lv_at hl 0 rfl) ?_
      refine va_get (D := (dC, dI)) (ci := 3) (v := .ref q7) (C := ROm) (T := TOm) (N := 1) hx hb hts (by decide +kernel) hown hK hP 0 rfl rfl 0 (by decide) (hts (.fieldLink ROm 9 "DeclarativeRows$OpenModes" "modes" "[I") (by decide +kernel)) (fun _ h9 => h9) rfl dOm_init_24 ?_
      refine lv_iload_n hx hb dOm_init_27 rfl (lv_at hl 1 rfl) ?_
      refine lv_iconst (v := -1) hx hb dOm_init_28 (by decide) ?_
      refine va_iast hx hb hK hP hD hS 1 0 rfl rfl (i := x1) (x := -1) (hin20) dOm_init_29 (fun H locs hP hD hS => ?_)
      have hP : va_P (dC, dI) vwCl [(h0, .inr (3, [.ref q7])), (q7, .inl (kI, 20, .inl (upd F x1.toNatClampNeg (-1))))] H := hP
      have hD : va_D A [(h0, .inr (3, [.ref q7])), (q7, .inl (kI, 20, .inl (upd F x1.toNatClampNeg (-1))))] := hD
      refine lv_iinc (v := (x1 + 1)) (lv' := [(1, .int (x1 + 1)), (0, .ref h0)]) hx hb dOm_init_30 hl (k := 1) rfl rfl (by decide) rfl (fun ls hl => ?_)
      refine lv_goto (tgt := 14) hx hb dOm_init_33 (by decide) ?_
      exact ih14 (j14 + 1) (x1 + 1) (upd F x1.toNatClampNeg (-1)) ls _ _ (lv_sub hl [1, 0] rfl) hP hD hS (by rw [hj14]; exact nI_1 j14) (by omega) (by omega) (by rw [hI14, f_OpenModes_init_L14, if_neg c_1])
set_option maxHeartbeats 4000000 in
set_option maxRecDepth 100000 in
theorem m_OpenModes_of (l : Launch) (dC : Nat → ClassId) (dI : Nat → Nat → Nat) (kI kZ : ClassId) (a0 a1 : Nat) (S : S_OpenModes) (x1 : Int32) : Met l yOm_of wsOm_of ({ frames := 1, cells := 0, slots := 0, locals := 21 }) (r_Pc dC dI kI kZ [.ref a0, .int x1] (w_OpenModes kI kZ a0 a1 S)) (r_Qc (f_OpenModes_of S x1)) 0 0 (fun _ => False) := by
  refine Met.ofW (cc := cOm_of) (maxL := 2) (ret := (some .int)) (by decide) rfl ?_
  intro p e s m args below meth c s₁ B hml hv
  obtain ⟨rfl, hP, hX⟩ := hv
  have hK := hX.1
  have hx := B.exec
  have hb := B.bytes
  have hr := B.returns
  have hts := atoms_spec (ws := wsOm_of) B.pre
  have hown : s.vm.findClass ROm = some m.cls := findClass_of_methodNamed B.named
  have hlocks := B.notSynchronized
  have hS : va_S (fun _ => False) s.heap s.heap [] := va_S.rf
  have hP : va_P (dC, dI) vwCl [(a0, .inr (3, [.ref a1])), (a1, .inl (kI, 20, .inl S))] s.heap := hP
  have hl := lv_entry ([.ref a0, .int x1]) (n := 2) (Nat.le_of_ble_eq_true rfl)
  rw [lg_entry_eq]
  generalize (lg_sl ([.ref a0, .int x1]) ++ List.replicate (2 - (lg_sl ([.ref a0, .int x1])).length) Slot.unset).toArray = ls at hl ⊢
  have hl : lv_has ls 2 [(0, .ref a0), (1, .int x1)] := hl
  refine lv_iload_n hx hb dOm_of_0 rfl (lv_at hl 1 rfl) ?_
  refine lv_aload_n hx hb dOm_of_1 rfl (lv_at hl 0 rfl) ?_
  refine va_get (D := (dC, dI)) (ci := 3) (v := .ref a1) (C := ROm) (T := TOm) (N := 1) hx hb hts (by decide +kernel) hown hK hP 0 rfl rfl 0 (by decide) (hts (.fieldLink ROm 9 "DeclarativeRows$OpenModes" "modes" "[I") (by decide +kernel)) (fun _ h9 => h9) rfl dOm_of_2 ?_
  refine va_alen (v := 20) hx hb hK hP 1 0 rfl rfl rfl dOm_of_5 ?_
  refine xx_callR (dC := dC) (dI := dI) (va_runSN (As := [.int x1, .int 20]) (rest := []) ⟨hx, hb, hml, hown, hts⟩ (m_Rows_isBelow l dC dI kI kZ x1 20) ⟨va_cnB 2 hts gOm_of_Rw_isBelow rfl rfl rfl (hX.2.1) (hts (.initialized RRw) (by decide +kernel)) (by decide +kernel) ⟨Nat.le_of_ble_eq_true rfl, Nat.le_of_ble_eq_true rfl⟩, hts (.static yRw_isBelow) (by decide +kernel), trivial⟩ (xx_preRS hX (hP.sub (ws' := []) [] rfl)) rfl rfl hl.1 rfl (lv_room (Nat.le_of_ble_eq_true rfl)) dOm_of_6 ⟨Nat.le_of_ble_eq_true rfl, Nat.le_of_ble_eq_true rfl⟩) hS (fun H locs kp hS => ?_)
  have hP := kp _ hP
  refine lv_if_eq (tgt := 21) hx hb dOm_of_9 (by decide) (fun c_1 => ?_) (fun c_1 => ?_)
  · refine lv_iconst (v := -1) hx hb dOm_of_21 (by decide) ?_
    exact W.iret (v := -1) hx hb hr (fun t ht hW => ⟨⟨_, (), rfl, (show -1 = f_OpenModes_of S x1 from by unfold f_OpenModes_of; rw [if_pos c_1]), trivial⟩, hS.F ht⟩) hS.2.2 dOm_of_22
  · refine lv_aload_n hx hb dOm_of_12 rfl (lv_at hl 0 rfl) ?_
    refine va_get (D := (dC, dI)) (ci := 3) (v := .ref a1) (C := ROm) (T := TOm) (N := 1) hx hb hts (by decide +kernel) hown hK hP 0 rfl rfl 0 (by decide) (hts (.fieldLink ROm 9 "DeclarativeRows$OpenModes" "modes" "[I") (by decide +kernel)) (fun _ h9 => h9) rfl dOm_of_13 ?_
    refine lv_iload_n hx hb dOm_of_16 rfl (lv_at hl 1 rfl) ?_
    refine va_iald hx hb hK hP 1 0 rfl rfl (i := x1) (in_below20 c_1) dOm_of_17 ?_
    refine lv_goto (tgt := 22) hx hb dOm_of_18 (by decide) ?_
    exact W.iret (v := (S x1.toNatClampNeg)) hx hb hr (fun t ht hW => ⟨⟨_, (), rfl, (show (S x1.toNatClampNeg) = f_OpenModes_of S x1 from by unfold f_OpenModes_of; rw [if_neg c_1]), trivial⟩, hS.F ht⟩) hS.2.2 dOm_of_22
set_option maxHeartbeats 4000000 in
set_option maxRecDepth 100000 in
theorem m_OpenModes_put (l : Launch) (dC : Nat → ClassId) (dI : Nat → Nat → Nat) (kI kZ : ClassId) (sz : Nat) (a0 a1 : Nat) (S : S_OpenModes) (x1 x2 : Int32) : Met l yOm_put wsOm_put ({ frames := 1, cells := 0, slots := 0, locals := 21 }) (w_Pc dC dI kI kZ sz [.ref a0, .int x1, .int x2] (w_OpenModes kI kZ a0 a1 S)) (w_Qv dC dI (w_OpenModes kI kZ a0 a1) (w_OpenModes kI kZ a0 a1 S) sz (f_OpenModes_put S x1 x2)) 0 0 (va_A (w_OpenModes kI kZ a0 a1 S) sz) := by
  refine Met.ofW (cc := cOm_put) (maxL := 3) (ret := none) (by decide) rfl ?_
  intro p e s m args below meth c s₁ B hml hv
  obtain ⟨rfl, hsz, hP, hX, hD0⟩ := hv
  have hK := hX.1
  have hx := B.exec
  have hb := B.bytes
  have hr := B.returns
  have hts := atoms_spec (ws := wsOm_put) B.pre
  have hown : s.vm.findClass ROm = some m.cls := findClass_of_methodNamed B.named
  have hlocks := B.notSynchronized
  subst hsz
  have hD := hD0.self (sz := s.heap.size)
  unfold w_Qv
  generalize hAe : va_A (w_OpenModes kI kZ a0 a1 S) s.heap.size = A at hD ⊢
  have hA : ∀ q : Nat, s.heap.size ≤ q → A q := fun q h => by rw [← hAe]; exact Or.inr h
  have hS : va_S A s.heap s.heap [] := va_S.rf
  have hP : va_P (dC, dI) vwCl [(a0, .inr (3, [.ref a1])), (a1, .inl (kI, 20, .inl S))] s.heap := hP
  have hD : va_D A [(a0, .inr (3, [.ref a1])), (a1, .inl (kI, 20, .inl S))] := hD
  have hl := lv_entry ([.ref a0, .int x1, .int x2]) (n := 3) (Nat.le_of_ble_eq_true rfl)
  rw [lg_entry_eq]
  generalize (lg_sl ([.ref a0, .int x1, .int x2]) ++ List.replicate (3 - (lg_sl ([.ref a0, .int x1, .int x2])).length) Slot.unset).toArray = ls at hl ⊢
  have hl : lv_has ls 3 [(0, .ref a0), (1, .int x1), (2, .int x2)] := hl
  refine lv_iload_n hx hb dOm_put_0 rfl (lv_at hl 1 rfl) ?_
  refine lv_aload_n hx hb dOm_put_1 rfl (lv_at hl 0 rfl) ?_
  refine va_get (D := (dC, dI)) (ci := 3) (v := .ref a1) (C := ROm) (T := TOm) (N := 1) hx hb hts (by decide +kernel) hown hK hP 0 rfl rfl 0 (by decide) (hts (.fieldLink ROm 9 "DeclarativeRows$OpenModes" "modes" "[I") (by decide +kernel)) (fun _ h9 => h9) rfl dOm_put_2 ?_
  refine va_alen (v := 20) hx hb hK hP 1 0 rfl rfl rfl dOm_put_5 ?_
  refine xx_callR (dC := dC) (dI := dI) (va_runSN (As := [.int x1, .int 20]) (rest := []) ⟨hx, hb, hml, hown, hts⟩ (m_Rows_isBelow l dC dI kI kZ x1 20) ⟨va_cnB 2 hts gOm_put_Rw_isBelow rfl rfl rfl (hX.2.1) (hts (.initialized RRw) (by decide +kernel)) (by decide +kernel) ⟨Nat.le_of_ble_eq_true rfl, Nat.le_of_ble_eq_true rfl⟩, hts (.static yRw_isBelow) (by decide +kernel), trivial⟩ (xx_preRS hX (hP.sub (ws' := []) [] rfl)) rfl rfl hl.1 rfl (lv_room (Nat.le_of_ble_eq_true rfl)) dOm_put_6 ⟨Nat.le_of_ble_eq_true rfl, Nat.le_of_ble_eq_true rfl⟩) hS (fun H locs kp hS => ?_)
  have hP := kp _ hP
  refine lv_if_eq (tgt := 19) hx hb dOm_put_9 (by decide) (fun c_1 => ?_) (fun c_1 => ?_)
  · exact W.vret hx hb hr (fun t ht hW => ⟨⟨S, rfl, (show S = f_OpenModes_put S x1 x2 from by unfold f_OpenModes_put; rw [if_pos c_1]), by rw [ht]; exact hP, hD⟩, hS.F ht⟩) hS.2.2 dOm_put_19
  · refine lv_aload_n hx hb dOm_put_12 rfl (lv_at hl 0 rfl) ?_
    refine va_get (D := (dC, dI)) (ci := 3) (v := .ref a1) (C := ROm) (T := TOm) (N := 1) hx hb hts (by decide +kernel) hown hK hP 0 rfl rfl 0 (by decide) (hts (.fieldLink ROm 9 "DeclarativeRows$OpenModes" "modes" "[I") (by decide +kernel)) (fun _ h9 => h9) rfl dOm_put_13 ?_
    refine lv_iload_n hx hb dOm_put_16 rfl (lv_at hl 1 rfl) ?_
    refine lv_iload_n hx hb dOm_put_17 rfl (lv_at hl 2 rfl) ?_
    refine va_iast hx hb hK hP hD hS 1 0 rfl rfl (i := x1) (x := x2) (in_below20 c_1) dOm_put_18 (fun H locs hP hD hS => ?_)
    have hP : va_P (dC, dI) vwCl [(a0, .inr (3, [.ref a1])), (a1, .inl (kI, 20, .inl (upd S x1.toNatClampNeg x2)))] H := hP
    have hD : va_D A [(a0, .inr (3, [.ref a1])), (a1, .inl (kI, 20, .inl (upd S x1.toNatClampNeg x2)))] := hD
    exact W.vret hx hb hr (fun t ht hW => ⟨⟨(upd S x1.toNatClampNeg x2), rfl, (show (upd S x1.toNatClampNeg x2) = f_OpenModes_put S x1 x2 from by unfold f_OpenModes_put; rw [if_neg c_1]), by rw [ht]; exact hP, hD⟩, hS.F ht⟩) hS.2.2 dOm_put_19
set_option maxHeartbeats 4000000 in
set_option maxRecDepth 100000 in
theorem m_Running_init (l : Launch) (dC : Nat → ClassId) (dI : Nat → Nat → Nat) (kI kZ : ClassId) (sz : Nat) (h0 : Nat) : Met l yRn_init wsRn_init ({ frames := 1, cells := 2, slots := 20, locals := 12 }) (w_Pc dC dI kI kZ sz [.ref h0] [(h0, .inr (4, [.null, .null, .int 0]))]) (c_Qv dC dI (fun u => w_Running kI kZ h0 (u 1) (u 2) f_Running_init) (fun _ => True) [(h0, .inr (4, [.null, .null, .int 0]))] sz) 2 20 (va_A [(h0, .inr (4, [.null, .null, .int 0]))] sz) := by
  refine Met.ofW (cc := cRn_init) (maxL := 1) (ret := none) (by decide) rfl ?_
  intro p e s m args below meth c s₁ B hml hv
  obtain ⟨rfl, hsz, hP, hX, hD0⟩ := hv
  have hK := hX.1
  have hx := B.exec
  have hb := B.bytes
  have hr := B.returns
  have hts := atoms_spec (ws := wsRn_init) B.pre
  have hown : s.vm.findClass RRn = some m.cls := findClass_of_methodNamed B.named
  have hlocks := B.notSynchronized
  have hin : meth.name = "<init>" := (name_of_methodNamed B.named B.method).1
  subst hsz
  have hD := hD0.self (sz := s.heap.size)
  unfold c_Qv
  generalize hAe : va_A [(h0, .inr (4, [.null, .null, .int 0]))] s.heap.size = A at hD ⊢
  have hA : ∀ q : Nat, s.heap.size ≤ q → A q := fun q h => by rw [← hAe]; exact Or.inr h
  have hS : va_S A s.heap s.heap [] := va_S.rf
  have hP : va_P (dC, dI) vwCl [(h0, .inr (4, [.null, .null, .int 0]))] s.heap := hP
  have hD : va_D A [(h0, .inr (4, [.null, .null, .int 0]))] := hD
  have hl := lv_entry ([.ref h0]) (n := 1) (Nat.le_of_ble_eq_true rfl)
  rw [lg_entry_eq]
  generalize (lg_sl ([.ref h0]) ++ List.replicate (1 - (lg_sl ([.ref h0])).length) Slot.unset).toArray = ls at hl ⊢
  have hl : lv_has ls 1 [(0, .ref h0)] := hl
  refine lv_aload_n hx hb dRn_init_0 rfl (lv_at hl 0 rfl) ?_
  refine W.objInit hx hb hown (hts (.methodLink RRn 3 objectInit) (by decide +kernel)) (hts (.instanceMethod objectInit) (by decide +kernel)) (hts _ (List.mem_of_getElem? (i := 3) rfl)) rfl (by rw [hml]; exact hl.1) rfl dRn_init_1 (Nat.le_of_ble_eq_true rfl) (Nat.le_of_ble_eq_true rfl) ?_
  refine W.eq (g2 := F0 m 4 ls []) rfl ?_
  refine lv_aload_n hx hb dRn_init_4 rfl (lv_at hl 0 rfl) ?_
  refine lv_bipush (v := 10) hx hb dRn_init_5 (by decide) ?_
  refine xx_newi hx hb (hts (.arrayClass .int) (by decide +kernel)) hK hP hD hS hA (N := 10) (by decide) (by decide) (by decide) (Nat.le_of_ble_eq_true rfl) (Nat.le_of_ble_eq_true rfl) dRn_init_7 (fun q7 H hP hD hS => ?_)
  have hP : va_P (dC, dI) vwCl [(h0, .inr (4, [.null, .null, .int 0])), (q7, .inl (kI, 10, .inl (fun _ => 0)))] H := hP
  have hD : va_D A [(h0, .inr (4, [.null, .null, .int 0])), (q7, .inl (kI, 10, .inl (fun _ => 0)))] := hD
  refine va_putF (D := (dC, dI)) (ci := 4) (v := .ref q7) (ty := .array .int) (C := RRn) (T := TRn) (N := 3) hx hb hts (by decide +kernel) tyRn tyRn_ok nmRn hown hK hP hD hS 0 rfl rfl 0 (by decide) (hts (.fieldLink RRn 9 "DeclarativeRows$Running" "takers" "[I") (by decide +kernel)) (fun _ h9 => h9) rfl hin rfl (by decide +kernel) rfl rfl (Nat.le_of_ble_eq_true rfl) dRn_init_9 (fun H locs hP hD hS => ?_)
  have hP : va_P (dC, dI) vwCl [(h0, .inr (4, [.ref q7, .null, .int 0])), (q7, .inl (kI, 10, .inl (fun _ => 0)))] H := hP
  have hD : va_D A [(h0, .inr (4, [.ref q7, .null, .int 0])), (q7, .inl (kI, 10, .inl (fun _ => 0)))] := hD
  refine lv_aload_n hx hb dRn_init_12 rfl (lv_at hl 0 rfl) ?_
  refine lv_bipush (v := 10) hx hb dRn_init_13 (by decide) ?_
  refine xx_newi hx hb (hts (.arrayClass .int) (by decide +kernel)) hK hP hD hS hA (N := 10) (by decide) (by decide) (by decide) (Nat.le_of_ble_eq_true rfl) (Nat.le_of_ble_eq_true rfl) dRn_init_15 (fun q15 H hP hD hS => ?_)
  have hP : va_P (dC, dI) vwCl [(h0, .inr (4, [.ref q7, .null, .int 0])), (q7, .inl (kI, 10, .inl (fun _ => 0))), (q15, .inl (kI, 10, .inl (fun _ => 0)))] H := hP
  have hD : va_D A [(h0, .inr (4, [.ref q7, .null, .int 0])), (q7, .inl (kI, 10, .inl (fun _ => 0))), (q15, .inl (kI, 10, .inl (fun _ => 0)))] := hD
  refine va_putF (D := (dC, dI)) (ci := 4) (v := .ref q15) (ty := .array .int) (C := RRn) (T := TRn) (N := 3) hx hb hts (by decide +kernel) tyRn tyRn_ok nmRn hown hK hP hD hS 0 rfl rfl 1 (by decide) (hts (.fieldLink RRn 15 "DeclarativeRows$Running" "places" "[I") (by decide +kernel)) (fun _ h9 => h9) rfl hin rfl (by decide +kernel) rfl rfl (Nat.le_of_ble_eq_true rfl) dRn_init_17 (fun H locs hP hD hS => ?_)
  have hP : va_P (dC, dI) vwCl [(h0, .inr (4, [.ref q7, .ref q15, .int 0])), (q7, .inl (kI, 10, .inl (fun _ => 0))), (q15, .inl (kI, 10, .inl (fun _ => 0)))] H := hP
  have hD : va_D A [(h0, .inr (4, [.ref q7, .ref q15, .int 0])), (q7, .inl (kI, 10, .inl (fun _ => 0))), (q15, .inl (kI, 10, .inl (fun _ => 0)))] := hD
  refine lv_aload_n hx hb dRn_init_20 rfl (lv_at hl 0 rfl) ?_
  refine lv_iconst (v := 0) hx hb dRn_init_21 (by decide) ?_
  refine va_put (D := (dC, dI)) (ci := 4) (v := .int 0) (ty := .int) (C := RRn) (T := TRn) (N := 3) hx hb hts (by decide +kernel) tyRn tyRn_ok nmRn hown hK hP hD hS 0 rfl rfl 2 (by decide) (hts (.fieldLink RRn 18 "DeclarativeRows$Running" "size" "I") (by decide +kernel)) (fun _ h9 => h9) rfl (by decide +kernel) rfl rfl (Nat.le_of_ble_eq_true rfl) dRn_init_22 (fun H locs hP hD hS => ?_)
  have hP : va_P (dC, dI) vwCl [(h0, .inr (4, [.ref q7, .ref q15, .int 0])), (q7, .inl (kI, 10, .inl (fun _ => 0))), (q15, .inl (kI, 10, .inl (fun _ => 0)))] H := hP
  have hD : va_D A [(h0, .inr (4, [.ref q7, .ref q15, .int 0])), (q7, .inl (kI, 10, .inl (fun _ => 0))), (q15, .inl (kI, 10, .inl (fun _ => 0)))] := hD
  refine W.widen (k := 2) (n := 20) (Nat.le_of_ble_eq_true rfl) (Nat.le_of_ble_eq_true rfl) ?_
  exact W.vret hx hb hr (fun t ht hW => ⟨⟨(fun k => [h0, q7, q15].getD k 0), rfl, trivial, by rw [ht]; exact hP, hD⟩, hS.F ht⟩) hS.2.2 dRn_init_25
set_option maxHeartbeats 4000000 in
set_option maxRecDepth 100000 in
theorem m_Running_size (l : Launch) (dC : Nat → ClassId) (dI : Nat → Nat → Nat) (kI kZ : ClassId) (a0 a1 a2 : Nat) (S : S_Running) : Met l yRn_size wsRn_size ({ frames := 0, cells := 0, slots := 0, locals := 0 }) (r_Pc dC dI kI kZ [.ref a0] (w_Running kI kZ a0 a1 a2 S)) (r_Qc (f_Running_size S)) 0 0 (fun _ => False) := by
  refine Met.ofW (cc := cRn_size) (maxL := 1) (ret := (some .int)) (by decide) rfl ?_
  intro p e s m args below meth c s₁ B hml hv
  obtain ⟨rfl, hP, hX⟩ := hv
  have hK := hX.1
  have hx := B.exec
  have hb := B.bytes
  have hr := B.returns
  have hts := atoms_spec (ws := wsRn_size) B.pre
  have hown : s.vm.findClass RRn = some m.cls := findClass_of_methodNamed B.named
  have hlocks := B.notSynchronized
  have hS : va_S (fun _ => False) s.heap s.heap [] := va_S.rf
  have hP : va_P (dC, dI) vwCl [(a0, .inr (4, [.ref a1, .ref a2, .int S.2.2])), (a1, .inl (kI, 10, .inl S.1)), (a2, .inl (kI, 10, .inl S.2.1))] s.heap := hP
  have hl := lv_entry ([.ref a0]) (n := 1) (Nat.le_of_ble_eq_true rfl)
  rw [lg_entry_eq]
  generalize (lg_sl ([.ref a0]) ++ List.replicate (1 - (lg_sl ([.ref a0])).length) Slot.unset).toArray = ls at hl ⊢
  have hl : lv_has ls 1 [(0, .ref a0)] := hl
  refine lv_aload_n hx hb dRn_size_0 rfl (lv_at hl 0 rfl) ?_
  refine va_get (D := (dC, dI)) (ci := 4) (v := .int S.2.2) (C := RRn) (T := TRn) (N := 3) hx hb hts (by decide +kernel) hown hK hP 0 rfl rfl 2 (by decide) (hts (.fieldLink RRn 18 "DeclarativeRows$Running" "size" "I") (by decide +kernel)) (fun _ h9 => h9) rfl dRn_size_1 ?_
  exact W.iret (v := S.2.2) hx hb hr (fun t ht hW => ⟨⟨_, (), rfl, (show S.2.2 = f_Running_size S from rfl), trivial⟩, hS.F ht⟩) hS.2.2 dRn_size_4
set_option maxHeartbeats 4000000 in
set_option maxRecDepth 100000 in
theorem m_Running_isRow (l : Launch) (dC : Nat → ClassId) (dI : Nat → Nat → Nat) (kI kZ : ClassId) (a0 a1 a2 : Nat) (S : S_Running) (x1 : Int32) : Met l yRn_isRow wsRn_isRow ({ frames := 0, cells := 0, slots := 0, locals := 0 }) (r_Pc dC dI kI kZ [.ref a0, .int x1] (w_Running kI kZ a0 a1 a2 S)) (r_Qc (f_Running_isRow S x1)) 0 0 (fun _ => False) := by
  refine Met.ofW (cc := cRn_isRow) (maxL := 2) (ret := (some .boolean)) (by decide) rfl ?_
  intro p e s m args below meth c s₁ B hml hv
  obtain ⟨rfl, hP, hX⟩ := hv
  have hK := hX.1
  have hx := B.exec
  have hb := B.bytes
  have hr := B.returns
  have hts := atoms_spec (ws := wsRn_isRow) B.pre
  have hown : s.vm.findClass RRn = some m.cls := findClass_of_methodNamed B.named
  have hlocks := B.notSynchronized
  have hS : va_S (fun _ => False) s.heap s.heap [] := va_S.rf
  have hP : va_P (dC, dI) vwCl [(a0, .inr (4, [.ref a1, .ref a2, .int S.2.2])), (a1, .inl (kI, 10, .inl S.1)), (a2, .inl (kI, 10, .inl S.2.1))] s.heap := hP
  have hl := lv_entry ([.ref a0, .int x1]) (n := 2) (Nat.le_of_ble_eq_true rfl)
  rw [lg_entry_eq]
  generalize (lg_sl ([.ref a0, .int x1]) ++ List.replicate (2 - (lg_sl ([.ref a0, .int x1])).length) Slot.unset).toArray = ls at hl ⊢
  have hl : lv_has ls 2 [(0, .ref a0), (1, .int x1)] := hl
  refine lv_iload_n hx hb dRn_isRow_0 rfl (lv_at hl 1 rfl) ?_
  refine lv_if_lt (tgt := 26) hx hb dRn_isRow_1 (by decide) (fun c_1 => ?_) (fun c_1 => ?_)
  · refine lv_iconst (v := 0) hx hb dRn_isRow_26 (by decide) ?_
    exact W.zret (v := 0) hx hb hr rfl (fun t ht hW => ⟨⟨_, (), rfl, (show 0 = f_Running_isRow S x1 from by unfold f_Running_isRow; rw [if_pos c_1]), trivial⟩, hS.F ht⟩) hS.2.2 dRn_isRow_27
  · refine lv_iload_n hx hb dRn_isRow_4 rfl (lv_at hl 1 rfl) ?_
    refine lv_aload_n hx hb dRn_isRow_5 rfl (lv_at hl 0 rfl) ?_
    refine va_get (D := (dC, dI)) (ci := 4) (v := .ref a1) (C := RRn) (T := TRn) (N := 3) hx hb hts (by decide +kernel) hown hK hP 0 rfl rfl 0 (by decide) (hts (.fieldLink RRn 9 "DeclarativeRows$Running" "takers" "[I") (by decide +kernel)) (fun _ h9 => h9) rfl dRn_isRow_6 ?_
    refine va_alen (v := 10) hx hb hK hP 1 0 rfl rfl rfl dRn_isRow_9 ?_
    refine lv_icmp_ge (tgt := 26) hx hb dRn_isRow_10 (by decide) (fun c_2 => ?_) (fun c_2 => ?_)
    · refine lv_iconst (v := 0) hx hb dRn_isRow_26 (by decide) ?_
      exact W.zret (v := 0) hx hb hr rfl (fun t ht hW => ⟨⟨_, (), rfl, (show 0 = f_Running_isRow S x1 from by unfold f_Running_isRow; rw [if_neg c_1, if_pos c_2]), trivial⟩, hS.F ht⟩) hS.2.2 dRn_isRow_27
    · refine lv_iload_n hx hb dRn_isRow_13 rfl (lv_at hl 1 rfl) ?_
      refine lv_aload_n hx hb dRn_isRow_14 rfl (lv_at hl 0 rfl) ?_
      refine va_get (D := (dC, dI)) (ci := 4) (v := .ref a2) (C := RRn) (T := TRn) (N := 3) hx hb hts (by decide +kernel) hown hK hP 0 rfl rfl 1 (by decide) (hts (.fieldLink RRn 15 "DeclarativeRows$Running" "places" "[I") (by decide +kernel)) (fun _ h9 => h9) rfl dRn_isRow_15 ?_
      refine va_alen (v := 10) hx hb hK hP 2 0 rfl rfl rfl dRn_isRow_18 ?_
      refine lv_icmp_ge (tgt := 26) hx hb dRn_isRow_19 (by decide) (fun c_3 => ?_) (fun c_3 => ?_)
      · exact absurd c_3 c_2
      · refine lv_iconst (v := 1) hx hb dRn_isRow_22 (by decide) ?_
        refine lv_goto (tgt := 27) hx hb dRn_isRow_23 (by decide) ?_
        exact W.zret (v := 1) hx hb hr rfl (fun t ht hW => ⟨⟨_, (), rfl, (show 1 = f_Running_isRow S x1 from by unfold f_Running_isRow; rw [if_neg c_1, if_neg c_2]), trivial⟩, hS.F ht⟩) hS.2.2 dRn_isRow_27
set_option maxHeartbeats 4000000 in
set_option maxRecDepth 100000 in
theorem m_Running_start (l : Launch) (dC : Nat → ClassId) (dI : Nat → Nat → Nat) (kI kZ : ClassId) (sz : Nat) (a0 a1 a2 : Nat) (S : S_Running) (x1 x2 : Int32) : Met l yRn_start wsRn_start ({ frames := 1, cells := 0, slots := 0, locals := 21 }) (w_Pc dC dI kI kZ sz [.ref a0, .int x1, .int x2] (w_Running kI kZ a0 a1 a2 S)) (w_Qi dC dI (w_Running kI kZ a0 a1 a2) (w_Running kI kZ a0 a1 a2 S) sz (f_Running_start S x1 x2)) 0 0 (va_A (w_Running kI kZ a0 a1 a2 S) sz) := by
  refine Met.ofW (cc := cRn_start) (maxL := 3) (ret := (some .boolean)) (by decide) rfl ?_
  intro p e s m args below meth c s₁ B hml hv
  obtain ⟨rfl, hsz, hP, hX, hD0⟩ := hv
  have hK := hX.1
  have hx := B.exec
  have hb := B.bytes
  have hr := B.returns
  have hts := atoms_spec (ws := wsRn_start) B.pre
  have hown : s.vm.findClass RRn = some m.cls := findClass_of_methodNamed B.named
  have hlocks := B.notSynchronized
  subst hsz
  have hD := hD0.self (sz := s.heap.size)
  unfold w_Qi
  generalize hAe : va_A (w_Running kI kZ a0 a1 a2 S) s.heap.size = A at hD ⊢
  have hA : ∀ q : Nat, s.heap.size ≤ q → A q := fun q h => by rw [← hAe]; exact Or.inr h
  have hS : va_S A s.heap s.heap [] := va_S.rf
  have hP : va_P (dC, dI) vwCl [(a0, .inr (4, [.ref a1, .ref a2, .int S.2.2])), (a1, .inl (kI, 10, .inl S.1)), (a2, .inl (kI, 10, .inl S.2.1))] s.heap := hP
  have hD : va_D A [(a0, .inr (4, [.ref a1, .ref a2, .int S.2.2])), (a1, .inl (kI, 10, .inl S.1)), (a2, .inl (kI, 10, .inl S.2.1))] := hD
  have hl := lv_entry ([.ref a0, .int x1, .int x2]) (n := 3) (Nat.le_of_ble_eq_true rfl)
  rw [lg_entry_eq]
  generalize (lg_sl ([.ref a0, .int x1, .int x2]) ++ List.replicate (3 - (lg_sl ([.ref a0, .int x1, .int x2])).length) Slot.unset).toArray = ls at hl ⊢
  have hl : lv_has ls 3 [(0, .ref a0), (1, .int x1), (2, .int x2)] := hl
  refine lv_aload_n hx hb dRn_start_0 rfl (lv_at hl 0 rfl) ?_
  refine lv_aload_n hx hb dRn_start_1 rfl (lv_at hl 0 rfl) ?_
  refine va_get (D := (dC, dI)) (ci := 4) (v := .int S.2.2) (C := RRn) (T := TRn) (N := 3) hx hb hts (by decide +kernel) hown hK hP 0 rfl rfl 2 (by decide) (hts (.fieldLink RRn 18 "DeclarativeRows$Running" "size" "I") (by decide +kernel)) (fun _ h9 => h9) rfl dRn_start_2 ?_
  refine xx_callR (dC := dC) (dI := dI) (va_runV (As := [.int S.2.2]) (rest := []) ⟨hx, hb, hml, hown, hts⟩ (m_Running_isRow l dC dI kI kZ a0 a1 a2 S S.2.2) (cwV 1 hts gRn_start_Rn_isRow rfl rfl rfl (by decide +kernel) ⟨Nat.le_of_ble_eq_true rfl, Nat.le_of_ble_eq_true rfl⟩) (xx_preR hX (hP.sub (ws' := (w_Running kI kZ a0 a1 a2 S)) [0, 1, 2] rfl) (ci := 4) (q0 := 0) rfl rfl) rfl rfl hl.1 rfl (lv_room (Nat.le_of_ble_eq_true rfl)) dRn_start_5 ⟨Nat.le_of_ble_eq_true rfl, Nat.le_of_ble_eq_true rfl⟩) hS (fun H locs kp hS => ?_)
  have hP := kp _ hP
  refine lv_if_ne (tgt := 13) hx hb dRn_start_8 (by decide) (fun c_1 => ?_) (fun c_1 => ?_)
  · refine lv_aload_n hx hb dRn_start_13 rfl (lv_at hl 0 rfl) ?_
    refine va_get (D := (dC, dI)) (ci := 4) (v := .ref a1) (C := RRn) (T := TRn) (N := 3) hx hb hts (by decide +kernel) hown hK hP 0 rfl rfl 0 (by decide) (hts (.fieldLink RRn 9 "DeclarativeRows$Running" "takers" "[I") (by decide +kernel)) (fun _ h9 => h9) rfl dRn_start_14 ?_
    refine lv_aload_n hx hb dRn_start_17 rfl (lv_at hl 0 rfl) ?_
    refine va_get (D := (dC, dI)) (ci := 4) (v := .int S.2.2) (C := RRn) (T := TRn) (N := 3) hx hb hts (by decide +kernel) hown hK hP 0 rfl rfl 2 (by decide) (hts (.fieldLink RRn 18 "DeclarativeRows$Running" "size" "I") (by decide +kernel)) (fun _ h9 => h9) rfl dRn_start_18 ?_
    refine lv_iload_n hx hb dRn_start_21 rfl (lv_at hl 1 rfl) ?_
    refine va_iast hx hb hK hP hD hS 1 0 rfl rfl (i := S.2.2) (x := x1) (in_rowR c_1) dRn_start_22 (fun H locs hP hD hS => ?_)
    have hP : va_P (dC, dI) vwCl [(a0, .inr (4, [.ref a1, .ref a2, .int S.2.2])), (a1, .inl (kI, 10, .inl (upd S.1 S.2.2.toNatClampNeg x1))), (a2, .inl (kI, 10, .inl S.2.1))] H := hP
    have hD : va_D A [(a0, .inr (4, [.ref a1, .ref a2, .int S.2.2])), (a1, .inl (kI, 10, .inl (upd S.1 S.2.2.toNatClampNeg x1))), (a2, .inl (kI, 10, .inl S.2.1))] := hD
    refine lv_aload_n hx hb dRn_start_23 rfl (lv_at hl 0 rfl) ?_
    refine va_get (D := (dC, dI)) (ci := 4) (v := .ref a2) (C := RRn) (T := TRn) (N := 3) hx hb hts (by decide +kernel) hown hK hP 0 rfl rfl 1 (by decide) (hts (.fieldLink RRn 15 "DeclarativeRows$Running" "places" "[I") (by decide +kernel)) (fun _ h9 => h9) rfl dRn_start_24 ?_
    refine lv_aload_n hx hb dRn_start_27 rfl (lv_at hl 0 rfl) ?_
    refine va_get (D := (dC, dI)) (ci := 4) (v := .int S.2.2) (C := RRn) (T := TRn) (N := 3) hx hb hts (by decide +kernel) hown hK hP 0 rfl rfl 2 (by decide) (hts (.fieldLink RRn 18 "DeclarativeRows$Running" "size" "I") (by decide +kernel)) (fun _ h9 => h9) rfl dRn_start_28 ?_
    refine lv_iload_n hx hb dRn_start_31 rfl (lv_at hl 2 rfl) ?_
    refine va_iast hx hb hK hP hD hS 2 0 rfl rfl (i := S.2.2) (x := x2) (in_rowR c_1) dRn_start_32 (fun H locs hP hD hS => ?_)
    have hP : va_P (dC, dI) vwCl [(a0, .inr (4, [.ref a1, .ref a2, .int S.2.2])), (a1, .inl (kI, 10, .inl (upd S.1 S.2.2.toNatClampNeg x1))), (a2, .inl (kI, 10, .inl (upd S.2.1 S.2.2.toNatClampNeg x2)))] H := hP
    have hD : va_D A [(a0, .inr (4, [.ref a1, .ref a2, .int S.2.2])), (a1, .inl (kI, 10, .inl (upd S.1 S.2.2.toNatClampNeg x1))), (a2, .inl (kI, 10, .inl (upd S.2.1 S.2.2.toNatClampNeg x2)))] := hD
    refine lv_aload_n hx hb dRn_start_33 rfl (lv_at hl 0 rfl) ?_
    refine lv_dup hx hb dRn_start_34 rfl ?_
    refine va_get (D := (dC, dI)) (ci := 4) (v := .int S.2.2) (C := RRn) (T := TRn) (N := 3) hx hb hts (by decide +kernel) hown hK hP 0 rfl rfl 2 (by decide) (hts (.fieldLink RRn 18 "DeclarativeRows$Running" "size" "I") (by decide +kernel)) (fun _ h9 => h9) rfl dRn_start_35 ?_
    refine lv_iconst (v := 1) hx hb dRn_start_38 (by decide) ?_
    refine lv_iadd hx hb dRn_start_39 ?_
    refine va_put (D := (dC, dI)) (ci := 4) (v := .int (S.2.2 + 1)) (ty := .int) (C := RRn) (T := TRn) (N := 3) hx hb hts (by decide +kernel) tyRn tyRn_ok nmRn hown hK hP hD hS 0 rfl rfl 2 (by decide) (hts (.fieldLink RRn 18 "DeclarativeRows$Running" "size" "I") (by decide +kernel)) (fun _ h9 => h9) rfl (by decide +kernel) rfl rfl (Nat.le_of_ble_eq_true rfl) dRn_start_40 (fun H locs hP hD hS => ?_)
    have hP : va_P (dC, dI) vwCl [(a0, .inr (4, [.ref a1, .ref a2, .int (S.2.2 + 1)])), (a1, .inl (kI, 10, .inl (upd S.1 S.2.2.toNatClampNeg x1))), (a2, .inl (kI, 10, .inl (upd S.2.1 S.2.2.toNatClampNeg x2)))] H := hP
    have hD : va_D A [(a0, .inr (4, [.ref a1, .ref a2, .int (S.2.2 + 1)])), (a1, .inl (kI, 10, .inl (upd S.1 S.2.2.toNatClampNeg x1))), (a2, .inl (kI, 10, .inl (upd S.2.1 S.2.2.toNatClampNeg x2)))] := hD
    refine lv_iconst (v := 1) hx hb dRn_start_43 (by decide) ?_
    exact W.zret (v := 1) hx hb hr rfl (fun t ht hW => ⟨⟨_, ((upd S.1 S.2.2.toNatClampNeg x1), (upd S.2.1 S.2.2.toNatClampNeg x2), (S.2.2 + 1)), rfl, (show (1, ((upd S.1 S.2.2.toNatClampNeg x1), (upd S.2.1 S.2.2.toNatClampNeg x2), (S.2.2 + 1))) = f_Running_start S x1 x2 from by unfold f_Running_start; rw [if_neg c_1]), by rw [ht]; exact hP, hD⟩, hS.F ht⟩) hS.2.2 dRn_start_44
  · refine lv_iconst (v := 0) hx hb dRn_start_11 (by decide) ?_
    exact W.zret (v := 0) hx hb hr rfl (fun t ht hW => ⟨⟨_, S, rfl, (show (0, S) = f_Running_start S x1 x2 from by unfold f_Running_start; rw [if_pos c_1]), by rw [ht]; exact hP, hD⟩, hS.F ht⟩) hS.2.2 dRn_start_12
set_option maxHeartbeats 4000000 in
set_option maxRecDepth 100000 in
theorem m_Running_useAt (l : Launch) (dC : Nat → ClassId) (dI : Nat → Nat → Nat) (kI kZ : ClassId) (a0 a1 a2 : Nat) (S : S_Running) (x1 : Int32) : Met l yRn_useAt wsRn_useAt ({ frames := 1, cells := 0, slots := 0, locals := 21 }) (r_Pc dC dI kI kZ [.ref a0, .int x1] (w_Running kI kZ a0 a1 a2 S)) (r_Qc (f_Running_useAt S x1)) 0 0 (fun _ => False) := by
  refine Met.ofW (cc := cRn_useAt) (maxL := 3) (ret := (some .int)) (by decide) rfl ?_
  intro p e s m args below meth c s₁ B hml hv
  obtain ⟨rfl, hP, hX⟩ := hv
  have hK := hX.1
  have hx := B.exec
  have hb := B.bytes
  have hr := B.returns
  have hts := atoms_spec (ws := wsRn_useAt) B.pre
  have hown : s.vm.findClass RRn = some m.cls := findClass_of_methodNamed B.named
  have hlocks := B.notSynchronized
  have hS : va_S (fun _ => False) s.heap s.heap [] := va_S.rf
  have hP : va_P (dC, dI) vwCl [(a0, .inr (4, [.ref a1, .ref a2, .int S.2.2])), (a1, .inl (kI, 10, .inl S.1)), (a2, .inl (kI, 10, .inl S.2.1))] s.heap := hP
  have hl := lv_entry ([.ref a0, .int x1]) (n := 3) (Nat.le_of_ble_eq_true rfl)
  rw [lg_entry_eq]
  generalize (lg_sl ([.ref a0, .int x1]) ++ List.replicate (3 - (lg_sl ([.ref a0, .int x1])).length) Slot.unset).toArray = ls at hl ⊢
  have hl : lv_has ls 3 [(0, .ref a0), (1, .int x1)] := hl
  refine lv_iload_n hx hb dRn_useAt_0 rfl (lv_at hl 1 rfl) ?_
  refine lv_aload_n hx hb dRn_useAt_1 rfl (lv_at hl 0 rfl) ?_
  refine va_get (D := (dC, dI)) (ci := 4) (v := .int S.2.2) (C := RRn) (T := TRn) (N := 3) hx hb hts (by decide +kernel) hown hK hP 0 rfl rfl 2 (by decide) (hts (.fieldLink RRn 18 "DeclarativeRows$Running" "size" "I") (by decide +kernel)) (fun _ h9 => h9) rfl dRn_useAt_2 ?_
  refine xx_callR (dC := dC) (dI := dI) (va_runSN (As := [.int x1, .int S.2.2]) (rest := []) ⟨hx, hb, hml, hown, hts⟩ (m_Rows_isBelow l dC dI kI kZ x1 S.2.2) ⟨va_cnB 2 hts gRn_useAt_Rw_isBelow rfl rfl rfl (hX.2.2.1) (hts (.initialized RRw) (by decide +kernel)) (by decide +kernel) ⟨Nat.le_of_ble_eq_true rfl, Nat.le_of_ble_eq_true rfl⟩, hts (.static yRw_isBelow) (by decide +kernel), trivial⟩ (xx_preRS hX (hP.sub (ws' := []) [] rfl)) rfl rfl hl.1 rfl (lv_room (Nat.le_of_ble_eq_true rfl)) dRn_useAt_5 ⟨Nat.le_of_ble_eq_true rfl, Nat.le_of_ble_eq_true rfl⟩) hS (fun H locs kp hS => ?_)
  have hP := kp _ hP
  refine lv_if_ne (tgt := 13) hx hb dRn_useAt_8 (by decide) (fun c_1 => ?_) (fun c_1 => ?_)
  · refine lv_aload_n hx hb dRn_useAt_13 rfl (lv_at hl 0 rfl) ?_
    refine va_get (D := (dC, dI)) (ci := 4) (v := .int S.2.2) (C := RRn) (T := TRn) (N := 3) hx hb hts (by decide +kernel) hown hK hP 0 rfl rfl 2 (by decide) (hts (.fieldLink RRn 18 "DeclarativeRows$Running" "size" "I") (by decide +kernel)) (fun _ h9 => h9) rfl dRn_useAt_14 ?_
    refine lv_iconst (v := 1) hx hb dRn_useAt_17 (by decide) ?_
    refine lv_isub hx hb dRn_useAt_18 ?_
    refine lv_iload_n hx hb dRn_useAt_19 rfl (lv_at hl 1 rfl) ?_
    refine lv_isub hx hb dRn_useAt_20 ?_
    refine lv_istore_n (lv' := [(2, .int ((S.2.2 - 1) - x1)), (0, .ref a0), (1, .int x1)]) hx hb dRn_useAt_21 rfl hl (by decide) rfl (fun ls hl => ?_)
    refine lv_aload_n hx hb dRn_useAt_22 rfl (lv_at hl 1 rfl) ?_
    refine lv_iload_n hx hb dRn_useAt_23 rfl (lv_at hl 0 rfl) ?_
    refine xx_callR (dC := dC) (dI := dI) (va_runV (As := [.int ((S.2.2 - 1) - x1)]) (rest := []) ⟨hx, hb, hml, hown, hts⟩ (m_Running_isRow l dC dI kI kZ a0 a1 a2 S ((S.2.2 - 1) - x1)) (cwV 1 hts gRn_useAt_Rn_isRow rfl rfl rfl (by decide +kernel) ⟨Nat.le_of_ble_eq_true rfl, Nat.le_of_ble_eq_true rfl⟩) (xx_preR hX (hP.sub (ws' := (w_Running kI kZ a0 a1 a2 S)) [0, 1, 2] rfl) (ci := 4) (q0 := 0) rfl rfl) rfl rfl hl.1 rfl (lv_room (Nat.le_of_ble_eq_true rfl)) dRn_useAt_24 ⟨Nat.le_of_ble_eq_true rfl, Nat.le_of_ble_eq_true rfl⟩) hS (fun H locs kp hS => ?_)
    have hP := kp _ hP
    refine lv_if_eq (tgt := 39) hx hb dRn_useAt_27 (by decide) (fun c_2 => ?_) (fun c_2 => ?_)
    · refine lv_iconst (v := 0) hx hb dRn_useAt_39 (by decide) ?_
      exact W.iret (v := 0) hx hb hr (fun t ht hW => ⟨⟨_, (), rfl, (show 0 = f_Running_useAt S x1 from by unfold f_Running_useAt; rw [if_neg c_1, if_pos c_2]), trivial⟩, hS.F ht⟩) hS.2.2 dRn_useAt_40
    · refine lv_aload_n hx hb dRn_useAt_30 rfl (lv_at hl 1 rfl) ?_
      refine va_get (D := (dC, dI)) (ci := 4) (v := .ref a1) (C := RRn) (T := TRn) (N := 3) hx hb hts (by decide +kernel) hown hK hP 0 rfl rfl 0 (by decide) (hts (.fieldLink RRn 9 "DeclarativeRows$Running" "takers" "[I") (by decide +kernel)) (fun _ h9 => h9) rfl dRn_useAt_31 ?_
      refine lv_iload_n hx hb dRn_useAt_34 rfl (lv_at hl 0 rfl) ?_
      refine va_iald hx hb hK hP 1 0 rfl rfl (i := ((S.2.2 - 1) - x1)) (in_rowR c_2) dRn_useAt_35 ?_
      refine lv_goto (tgt := 40) hx hb dRn_useAt_36 (by decide) ?_
      exact W.iret (v := (S.1 ((S.2.2 - 1) - x1).toNatClampNeg)) hx hb hr (fun t ht hW => ⟨⟨_, (), rfl, (show (S.1 ((S.2.2 - 1) - x1).toNatClampNeg) = f_Running_useAt S x1 from by unfold f_Running_useAt; rw [if_neg c_1, if_neg c_2]), trivial⟩, hS.F ht⟩) hS.2.2 dRn_useAt_40
  · refine lv_iconst (v := 0) hx hb dRn_useAt_11 (by decide) ?_
    exact W.iret (v := 0) hx hb hr (fun t ht hW => ⟨⟨_, (), rfl, (show 0 = f_Running_useAt S x1 from by unfold f_Running_useAt; rw [if_pos c_1]), trivial⟩, hS.F ht⟩) hS.2.2 dRn_useAt_12
set_option maxHeartbeats 4000000 in
set_option maxRecDepth 100000 in
theorem m_Running_endLatest (l : Launch) (dC : Nat → ClassId) (dI : Nat → Nat → Nat) (kI kZ : ClassId) (sz : Nat) (a0 a1 a2 : Nat) (S : S_Running) : Met l yRn_endLatest wsRn_endLatest ({ frames := 1, cells := 0, slots := 0, locals := 21 }) (w_Pc dC dI kI kZ sz [.ref a0] (w_Running kI kZ a0 a1 a2 S)) (w_Qi dC dI (w_Running kI kZ a0 a1 a2) (w_Running kI kZ a0 a1 a2 S) sz (f_Running_endLatest S)) 0 0 (va_A (w_Running kI kZ a0 a1 a2 S) sz) := by
  refine Met.ofW (cc := cRn_endLatest) (maxL := 2) (ret := (some .int)) (by decide) rfl ?_
  intro p e s m args below meth c s₁ B hml hv
  obtain ⟨rfl, hsz, hP, hX, hD0⟩ := hv
  have hK := hX.1
  have hx := B.exec
  have hb := B.bytes
  have hr := B.returns
  have hts := atoms_spec (ws := wsRn_endLatest) B.pre
  have hown : s.vm.findClass RRn = some m.cls := findClass_of_methodNamed B.named
  have hlocks := B.notSynchronized
  subst hsz
  have hD := hD0.self (sz := s.heap.size)
  unfold w_Qi
  generalize hAe : va_A (w_Running kI kZ a0 a1 a2 S) s.heap.size = A at hD ⊢
  have hA : ∀ q : Nat, s.heap.size ≤ q → A q := fun q h => by rw [← hAe]; exact Or.inr h
  have hS : va_S A s.heap s.heap [] := va_S.rf
  have hP : va_P (dC, dI) vwCl [(a0, .inr (4, [.ref a1, .ref a2, .int S.2.2])), (a1, .inl (kI, 10, .inl S.1)), (a2, .inl (kI, 10, .inl S.2.1))] s.heap := hP
  have hD : va_D A [(a0, .inr (4, [.ref a1, .ref a2, .int S.2.2])), (a1, .inl (kI, 10, .inl S.1)), (a2, .inl (kI, 10, .inl S.2.1))] := hD
  have hl := lv_entry ([.ref a0]) (n := 2) (Nat.le_of_ble_eq_true rfl)
  rw [lg_entry_eq]
  generalize (lg_sl ([.ref a0]) ++ List.replicate (2 - (lg_sl ([.ref a0])).length) Slot.unset).toArray = ls at hl ⊢
  have hl : lv_has ls 2 [(0, .ref a0)] := hl
  refine lv_aload_n hx hb dRn_endLatest_0 rfl (lv_at hl 0 rfl) ?_
  refine va_get (D := (dC, dI)) (ci := 4) (v := .int S.2.2) (C := RRn) (T := TRn) (N := 3) hx hb hts (by decide +kernel) hown hK hP 0 rfl rfl 2 (by decide) (hts (.fieldLink RRn 18 "DeclarativeRows$Running" "size" "I") (by decide +kernel)) (fun _ h9 => h9) rfl dRn_endLatest_1 ?_
  refine lv_iconst (v := 1) hx hb dRn_endLatest_4 (by decide) ?_
  refine lv_isub hx hb dRn_endLatest_5 ?_
  refine lv_istore_n (lv' := [(1, .int (S.2.2 - 1)), (0, .ref a0)]) hx hb dRn_endLatest_6 rfl hl (by decide) rfl (fun ls hl => ?_)
  refine lv_aload_n hx hb dRn_endLatest_7 rfl (lv_at hl 1 rfl) ?_
  refine lv_iload_n hx hb dRn_endLatest_8 rfl (lv_at hl 0 rfl) ?_
  refine xx_callR (dC := dC) (dI := dI) (va_runV (As := [.int (S.2.2 - 1)]) (rest := []) ⟨hx, hb, hml, hown, hts⟩ (m_Running_isRow l dC dI kI kZ a0 a1 a2 S (S.2.2 - 1)) (cwV 1 hts gRn_endLatest_Rn_isRow rfl rfl rfl (by decide +kernel) ⟨Nat.le_of_ble_eq_true rfl, Nat.le_of_ble_eq_true rfl⟩) (xx_preR hX (hP.sub (ws' := (w_Running kI kZ a0 a1 a2 S)) [0, 1, 2] rfl) (ci := 4) (q0 := 0) rfl rfl) rfl rfl hl.1 rfl (lv_room (Nat.le_of_ble_eq_true rfl)) dRn_endLatest_9 ⟨Nat.le_of_ble_eq_true rfl, Nat.le_of_ble_eq_true rfl⟩) hS (fun H locs kp hS => ?_)
  have hP := kp _ hP
  refine lv_if_ne (tgt := 17) hx hb dRn_endLatest_12 (by decide) (fun c_1 => ?_) (fun c_1 => ?_)
  · refine lv_aload_n hx hb dRn_endLatest_17 rfl (lv_at hl 1 rfl) ?_
    refine lv_iload_n hx hb dRn_endLatest_18 rfl (lv_at hl 0 rfl) ?_
    refine va_put (D := (dC, dI)) (ci := 4) (v := .int (S.2.2 - 1)) (ty := .int) (C := RRn) (T := TRn) (N := 3) hx hb hts (by decide +kernel) tyRn tyRn_ok nmRn hown hK hP hD hS 0 rfl rfl 2 (by decide) (hts (.fieldLink RRn 18 "DeclarativeRows$Running" "size" "I") (by decide +kernel)) (fun _ h9 => h9) rfl (by decide +kernel) rfl rfl (Nat.le_of_ble_eq_true rfl) dRn_endLatest_19 (fun H locs hP hD hS => ?_)
    have hP : va_P (dC, dI) vwCl [(a0, .inr (4, [.ref a1, .ref a2, .int (S.2.2 - 1)])), (a1, .inl (kI, 10, .inl S.1)), (a2, .inl (kI, 10, .inl S.2.1))] H := hP
    have hD : va_D A [(a0, .inr (4, [.ref a1, .ref a2, .int (S.2.2 - 1)])), (a1, .inl (kI, 10, .inl S.1)), (a2, .inl (kI, 10, .inl S.2.1))] := hD
    refine lv_aload_n hx hb dRn_endLatest_22 rfl (lv_at hl 1 rfl) ?_
    refine va_get (D := (dC, dI)) (ci := 4) (v := .ref a2) (C := RRn) (T := TRn) (N := 3) hx hb hts (by decide +kernel) hown hK hP 0 rfl rfl 1 (by decide) (hts (.fieldLink RRn 15 "DeclarativeRows$Running" "places" "[I") (by decide +kernel)) (fun _ h9 => h9) rfl dRn_endLatest_23 ?_
    refine lv_iload_n hx hb dRn_endLatest_26 rfl (lv_at hl 0 rfl) ?_
    refine va_iald hx hb hK hP 2 0 rfl rfl (i := (S.2.2 - 1)) (in_rowR c_1) dRn_endLatest_27 ?_
    exact W.iret (v := (S.2.1 (S.2.2 - 1).toNatClampNeg)) hx hb hr (fun t ht hW => ⟨⟨_, (S.1, S.2.1, (S.2.2 - 1)), rfl, (show ((S.2.1 (S.2.2 - 1).toNatClampNeg), (S.1, S.2.1, (S.2.2 - 1))) = f_Running_endLatest S from by unfold f_Running_endLatest; rw [if_neg c_1]), by rw [ht]; exact hP, hD⟩, hS.F ht⟩) hS.2.2 dRn_endLatest_28
  · refine lv_iconst (v := 0) hx hb dRn_endLatest_15 (by decide) ?_
    exact W.iret (v := 0) hx hb hr (fun t ht hW => ⟨⟨_, S, rfl, (show (0, S) = f_Running_endLatest S from by unfold f_Running_endLatest; rw [if_pos c_1]), by rw [ht]; exact hP, hD⟩, hS.F ht⟩) hS.2.2 dRn_endLatest_16
set_option maxHeartbeats 4000000 in
set_option maxRecDepth 100000 in
theorem m_Running_holds (l : Launch) (dC : Nat → ClassId) (dI : Nat → Nat → Nat) (kI kZ : ClassId) (a0 a1 a2 : Nat) (S : S_Running) (x1 : Int32) : Met l yRn_holds wsRn_holds ({ frames := 1, cells := 0, slots := 0, locals := 21 }) (r_Pc dC dI kI kZ [.ref a0, .int x1] (w_Running kI kZ a0 a1 a2 S)) (r_Qc (f_Running_holds S x1)) 0 0 (fun _ => False) := by
  refine Met.ofW (cc := cRn_holds) (maxL := 3) (ret := (some .boolean)) (by decide) rfl ?_
  intro p e s m args below meth c s₁ B hml hv
  obtain ⟨rfl, hP, hX⟩ := hv
  have hK := hX.1
  have hx := B.exec
  have hb := B.bytes
  have hr := B.returns
  have hts := atoms_spec (ws := wsRn_holds) B.pre
  have hown : s.vm.findClass RRn = some m.cls := findClass_of_methodNamed B.named
  have hlocks := B.notSynchronized
  have hS : va_S (fun _ => False) s.heap s.heap [] := va_S.rf
  have hP : va_P (dC, dI) vwCl [(a0, .inr (4, [.ref a1, .ref a2, .int S.2.2])), (a1, .inl (kI, 10, .inl S.1)), (a2, .inl (kI, 10, .inl S.2.1))] s.heap := hP
  have hl := lv_entry ([.ref a0, .int x1]) (n := 3) (Nat.le_of_ble_eq_true rfl)
  rw [lg_entry_eq]
  generalize (lg_sl ([.ref a0, .int x1]) ++ List.replicate (3 - (lg_sl ([.ref a0, .int x1])).length) Slot.unset).toArray = ls at hl ⊢
  have hl : lv_has ls 3 [(0, .ref a0), (1, .int x1)] := hl
  refine lv_iconst (v := 0) hx hb dRn_holds_0 (by decide) ?_
  refine lv_istore_n (lv' := [(2, .int 0), (0, .ref a0), (1, .int x1)]) hx hb dRn_holds_1 rfl hl (by decide) rfl (fun ls hl => ?_)
  refine (?_ : ∀ (k j : Nat) (x2 : Int32) (ls : Array Slot) (H : Heap) (locs : List Loc), lv_has ls 3 [(0, .ref a0), (1, .int x1), (2, .int x2)] → va_P (dC, dI) vwCl [(a0, .inr (4, [.ref a1, .ref a2, .int S.2.2])), (a1, .inl (kI, 10, .inl S.1)), (a2, .inl (kI, 10, .inl S.2.1))] H → va_S (fun _ => False) s.heap H locs → x2 = nI j → j ≤ 10 → 10 < j + k → f_Running_holds S x1 = f_Running_holds_L2 S x1 k x2 → W p l e _ s m _ below meth c H locs _ _ _ (F0 m 2 ls [])) 11 0 0 ls _ _ (lv_sub hl [1, 2, 0] rfl) hP hS (nI_0.symm) (by omega) (by omega) (rfl)
  intro k2
  induction k2 with
  | zero => intro j2 x2 ls H locs hl hP hS hj2 hjN2 hk2 hI2; exfalso; omega
  | succ k2 ih2 =>
    intro j2 x2 ls H locs hl hP hS hj2 hjN2 hk2 hI2
    refine lv_iload_n hx hb dRn_holds_2 rfl (lv_at hl 2 rfl) ?_
    refine lv_aload_n hx hb dRn_holds_3 rfl (lv_at hl 0 rfl) ?_
    refine va_get (D := (dC, dI)) (ci := 4) (v := .int S.2.2) (C := RRn) (T := TRn) (N := 3) hx hb hts (by decide +kernel) hown hK hP 0 rfl rfl 2 (by decide) (hts (.fieldLink RRn 18 "DeclarativeRows$Running" "size" "I") (by decide +kernel)) (fun _ h9 => h9) rfl dRn_holds_4 ?_
    refine lv_icmp_ge (tgt := 36) hx hb dRn_holds_7 (by decide) (fun c_1 => ?_) (fun c_1 => ?_)
    · refine lv_iconst (v := 0) hx hb dRn_holds_36 (by decide) ?_
      exact W.zret (v := 0) hx hb hr rfl (fun t ht hW => ⟨⟨_, (), rfl, (show 0 = f_Running_holds S x1 from by rw [hI2, f_Running_holds_L2, if_pos c_1]), trivial⟩, hS.F ht⟩) hS.2.2 dRn_holds_37
    · refine lv_aload_n hx hb dRn_holds_10 rfl (lv_at hl 0 rfl) ?_
      refine lv_iload_n hx hb dRn_holds_11 rfl (lv_at hl 2 rfl) ?_
      refine xx_callR (dC := dC) (dI := dI) (va_runV (As := [.int x2]) (rest := []) ⟨hx, hb, hml, hown, hts⟩ (m_Running_isRow l dC dI kI kZ a0 a1 a2 S x2) (cwV 1 hts gRn_holds_Rn_isRow rfl rfl rfl (by decide +kernel) ⟨Nat.le_of_ble_eq_true rfl, Nat.le_of_ble_eq_true rfl⟩) (xx_preR hX (hP.sub (ws' := (w_Running kI kZ a0 a1 a2 S)) [0, 1, 2] rfl) (ci := 4) (q0 := 0) rfl rfl) rfl rfl hl.1 rfl (lv_room (Nat.le_of_ble_eq_true rfl)) dRn_holds_12 ⟨Nat.le_of_ble_eq_true rfl, Nat.le_of_ble_eq_true rfl⟩) hS (fun H locs kp hS => ?_)
      have hP := kp _ hP
      refine lv_if_eq (tgt := 36) hx hb dRn_holds_15 (by decide) (fun c_2 => ?_) (fun c_2 => ?_)
      · refine lv_iconst (v := 0) hx hb dRn_holds_36 (by decide) ?_
        exact W.zret (v := 0) hx hb hr rfl (fun t ht hW => ⟨⟨_, (), rfl, (show 0 = f_Running_holds S x1 from by rw [hI2, f_Running_holds_L2, if_neg c_1, if_pos c_2]), trivial⟩, hS.F ht⟩) hS.2.2 dRn_holds_37
      · have hjl : j2 < 10 := lt_rowR hj2 (by omega) c_2
        have hin := in_rowR c_2
        refine lv_aload_n hx hb dRn_holds_18 rfl (lv_at hl 0 rfl) ?_
        refine va_get (D := (dC, dI)) (ci := 4) (v := .ref a1) (C := RRn) (T := TRn) (N := 3) hx hb hts (by decide +kernel) hown hK hP 0 rfl rfl 0 (by decide) (hts (.fieldLink RRn 9 "DeclarativeRows$Running" "takers" "[I") (by decide +kernel)) (fun _ h9 => h9) rfl dRn_holds_19 ?_
        refine lv_iload_n hx hb dRn_holds_22 rfl (lv_at hl 2 rfl) ?_
        refine va_iald hx hb hK hP 1 0 rfl rfl (i := x2) (hin) dRn_holds_23 ?_
        refine lv_iload_n hx hb dRn_holds_24 rfl (lv_at hl 1 rfl) ?_
        refine lv_icmp_ne (tgt := 30) hx hb dRn_holds_25 (by decide) (fun c_3 => ?_) (fun c_3 => ?_)
        · refine lv_iinc (v := (x2 + 1)) (lv' := [(2, .int (x2 + 1)), (0, .ref a0), (1, .int x1)]) hx hb dRn_holds_30 hl (k := 2) rfl rfl (by decide) rfl (fun ls hl => ?_)
          refine lv_goto (tgt := 2) hx hb dRn_holds_33 (by decide) ?_
          exact ih2 (j2 + 1) (x2 + 1) ls _ _ (lv_sub hl [1, 2, 0] rfl) hP hS (by rw [hj2]; exact nI_1 j2) (by omega) (by omega) (by rw [hI2, f_Running_holds_L2, if_neg c_1, if_neg c_2, if_neg c_3])
        · refine lv_iconst (v := 1) hx hb dRn_holds_28 (by decide) ?_
          exact W.zret (v := 1) hx hb hr rfl (fun t ht hW => ⟨⟨_, (), rfl, (show 1 = f_Running_holds S x1 from by rw [hI2, f_Running_holds_L2, if_neg c_1, if_neg c_2, if_pos c_3]), trivial⟩, hS.F ht⟩) hS.2.2 dRn_holds_29
set_option maxHeartbeats 4000000 in
set_option maxRecDepth 100000 in
theorem m_Latest_init (l : Launch) (dC : Nat → ClassId) (dI : Nat → Nat → Nat) (kI kZ : ClassId) (sz : Nat) (h0 : Nat) : Met l yLt_init wsLt_init ({ frames := 1, cells := 0, slots := 0, locals := 12 }) (w_Pc dC dI kI kZ sz [.ref h0] [(h0, .inr (5, [.int 0, .int 0, .int 0, .int 0]))]) (c_Qv dC dI (fun u => w_Latest kI kZ h0 f_Latest_init) (fun _ => True) [(h0, .inr (5, [.int 0, .int 0, .int 0, .int 0]))] sz) 0 0 (va_A [(h0, .inr (5, [.int 0, .int 0, .int 0, .int 0]))] sz) := by
  refine Met.ofW (cc := cLt_init) (maxL := 1) (ret := none) (by decide) rfl ?_
  intro p e s m args below meth c s₁ B hml hv
  obtain ⟨rfl, hsz, hP, hX, hD0⟩ := hv
  have hK := hX.1
  have hx := B.exec
  have hb := B.bytes
  have hr := B.returns
  have hts := atoms_spec (ws := wsLt_init) B.pre
  have hown : s.vm.findClass RLt = some m.cls := findClass_of_methodNamed B.named
  have hlocks := B.notSynchronized
  have hin : meth.name = "<init>" := (name_of_methodNamed B.named B.method).1
  subst hsz
  have hD := hD0.self (sz := s.heap.size)
  unfold c_Qv
  generalize hAe : va_A [(h0, .inr (5, [.int 0, .int 0, .int 0, .int 0]))] s.heap.size = A at hD ⊢
  have hA : ∀ q : Nat, s.heap.size ≤ q → A q := fun q h => by rw [← hAe]; exact Or.inr h
  have hS : va_S A s.heap s.heap [] := va_S.rf
  have hP : va_P (dC, dI) vwCl [(h0, .inr (5, [.int 0, .int 0, .int 0, .int 0]))] s.heap := hP
  have hD : va_D A [(h0, .inr (5, [.int 0, .int 0, .int 0, .int 0]))] := hD
  have hl := lv_entry ([.ref h0]) (n := 1) (Nat.le_of_ble_eq_true rfl)
  rw [lg_entry_eq]
  generalize (lg_sl ([.ref h0]) ++ List.replicate (1 - (lg_sl ([.ref h0])).length) Slot.unset).toArray = ls at hl ⊢
  have hl : lv_has ls 1 [(0, .ref h0)] := hl
  refine lv_aload_n hx hb dLt_init_0 rfl (lv_at hl 0 rfl) ?_
  refine W.objInit hx hb hown (hts (.methodLink RLt 3 objectInit) (by decide +kernel)) (hts (.instanceMethod objectInit) (by decide +kernel)) (hts _ (List.mem_of_getElem? (i := 3) rfl)) rfl (by rw [hml]; exact hl.1) rfl dLt_init_1 (Nat.le_of_ble_eq_true rfl) (Nat.le_of_ble_eq_true rfl) ?_
  refine W.eq (g2 := F0 m 4 ls []) rfl ?_
  refine lv_aload_n hx hb dLt_init_4 rfl (lv_at hl 0 rfl) ?_
  refine lv_iconst (v := 0) hx hb dLt_init_5 (by decide) ?_
  refine va_put (D := (dC, dI)) (ci := 5) (v := .int 0) (ty := .int) (C := RLt) (T := TLt) (N := 4) hx hb hts (by decide +kernel) tyLt tyLt_ok nmLt hown hK hP hD hS 0 rfl rfl 0 (by decide) (hts (.fieldLink RLt 9 "DeclarativeRows$Latest" "number" "I") (by decide +kernel)) (fun _ h9 => h9) rfl (by decide +kernel) rfl rfl (Nat.le_of_ble_eq_true rfl) dLt_init_6 (fun H locs hP hD hS => ?_)
  have hP : va_P (dC, dI) vwCl [(h0, .inr (5, [.int 0, .int 0, .int 0, .int 0]))] H := hP
  have hD : va_D A [(h0, .inr (5, [.int 0, .int 0, .int 0, .int 0]))] := hD
  refine lv_aload_n hx hb dLt_init_9 rfl (lv_at hl 0 rfl) ?_
  refine lv_iconst (v := 0) hx hb dLt_init_10 (by decide) ?_
  refine va_put (D := (dC, dI)) (ci := 5) (v := .int 0) (ty := .int) (C := RLt) (T := TLt) (N := 4) hx hb hts (by decide +kernel) tyLt tyLt_ok nmLt hown hK hP hD hS 0 rfl rfl 1 (by decide) (hts (.fieldLink RLt 15 "DeclarativeRows$Latest" "place" "I") (by decide +kernel)) (fun _ h9 => h9) rfl (by decide +kernel) rfl rfl (Nat.le_of_ble_eq_true rfl) dLt_init_11 (fun H locs hP hD hS => ?_)
  have hP : va_P (dC, dI) vwCl [(h0, .inr (5, [.int 0, .int 0, .int 0, .int 0]))] H := hP
  have hD : va_D A [(h0, .inr (5, [.int 0, .int 0, .int 0, .int 0]))] := hD
  refine lv_aload_n hx hb dLt_init_14 rfl (lv_at hl 0 rfl) ?_
  refine lv_iconst (v := 0) hx hb dLt_init_15 (by decide) ?_
  refine va_put (D := (dC, dI)) (ci := 5) (v := .int 0) (ty := .int) (C := RLt) (T := TLt) (N := 4) hx hb hts (by decide +kernel) tyLt tyLt_ok nmLt hown hK hP hD hS 0 rfl rfl 2 (by decide) (hts (.fieldLink RLt 18 "DeclarativeRows$Latest" "taker" "I") (by decide +kernel)) (fun _ h9 => h9) rfl (by decide +kernel) rfl rfl (Nat.le_of_ble_eq_true rfl) dLt_init_16 (fun H locs hP hD hS => ?_)
  have hP : va_P (dC, dI) vwCl [(h0, .inr (5, [.int 0, .int 0, .int 0, .int 0]))] H := hP
  have hD : va_D A [(h0, .inr (5, [.int 0, .int 0, .int 0, .int 0]))] := hD
  refine lv_aload_n hx hb dLt_init_19 rfl (lv_at hl 0 rfl) ?_
  refine lv_iconst (v := -1) hx hb dLt_init_20 (by decide) ?_
  refine va_put (D := (dC, dI)) (ci := 5) (v := .int (-1)) (ty := .int) (C := RLt) (T := TLt) (N := 4) hx hb hts (by decide +kernel) tyLt tyLt_ok nmLt hown hK hP hD hS 0 rfl rfl 3 (by decide) (hts (.fieldLink RLt 21 "DeclarativeRows$Latest" "program" "I") (by decide +kernel)) (fun _ h9 => h9) rfl (by decide +kernel) rfl rfl (Nat.le_of_ble_eq_true rfl) dLt_init_21 (fun H locs hP hD hS => ?_)
  have hP : va_P (dC, dI) vwCl [(h0, .inr (5, [.int 0, .int 0, .int 0, .int (-1)]))] H := hP
  have hD : va_D A [(h0, .inr (5, [.int 0, .int 0, .int 0, .int (-1)]))] := hD
  refine W.widen (k := 0) (n := 0) (Nat.le_of_ble_eq_true rfl) (Nat.le_of_ble_eq_true rfl) ?_
  exact W.vret hx hb hr (fun t ht hW => ⟨⟨(fun k => [h0].getD k 0), rfl, trivial, by rw [ht]; exact hP, hD⟩, hS.F ht⟩) hS.2.2 dLt_init_24
set_option maxHeartbeats 4000000 in
set_option maxRecDepth 100000 in
theorem m_Latest_put (l : Launch) (dC : Nat → ClassId) (dI : Nat → Nat → Nat) (kI kZ : ClassId) (sz : Nat) (a0 : Nat) (S : S_Latest) (x1 x2 x3 : Int32) : Met l yLt_put wsLt_put ({ frames := 0, cells := 0, slots := 0, locals := 0 }) (w_Pc dC dI kI kZ sz [.ref a0, .int x1, .int x2, .int x3] (w_Latest kI kZ a0 S)) (w_Qv dC dI (w_Latest kI kZ a0) (w_Latest kI kZ a0 S) sz (f_Latest_put S x1 x2 x3)) 0 0 (va_A (w_Latest kI kZ a0 S) sz) := by
  refine Met.ofW (cc := cLt_put) (maxL := 4) (ret := none) (by decide) rfl ?_
  intro p e s m args below meth c s₁ B hml hv
  obtain ⟨rfl, hsz, hP, hX, hD0⟩ := hv
  have hK := hX.1
  have hx := B.exec
  have hb := B.bytes
  have hr := B.returns
  have hts := atoms_spec (ws := wsLt_put) B.pre
  have hown : s.vm.findClass RLt = some m.cls := findClass_of_methodNamed B.named
  have hlocks := B.notSynchronized
  subst hsz
  have hD := hD0.self (sz := s.heap.size)
  unfold w_Qv
  generalize hAe : va_A (w_Latest kI kZ a0 S) s.heap.size = A at hD ⊢
  have hA : ∀ q : Nat, s.heap.size ≤ q → A q := fun q h => by rw [← hAe]; exact Or.inr h
  have hS : va_S A s.heap s.heap [] := va_S.rf
  have hP : va_P (dC, dI) vwCl [(a0, .inr (5, [.int S.1, .int S.2.1, .int S.2.2.1, .int S.2.2.2]))] s.heap := hP
  have hD : va_D A [(a0, .inr (5, [.int S.1, .int S.2.1, .int S.2.2.1, .int S.2.2.2]))] := hD
  have hl := lv_entry ([.ref a0, .int x1, .int x2, .int x3]) (n := 4) (Nat.le_of_ble_eq_true rfl)
  rw [lg_entry_eq]
  generalize (lg_sl ([.ref a0, .int x1, .int x2, .int x3]) ++ List.replicate (4 - (lg_sl ([.ref a0, .int x1, .int x2, .int x3])).length) Slot.unset).toArray = ls at hl ⊢
  have hl : lv_has ls 4 [(0, .ref a0), (1, .int x1), (2, .int x2), (3, .int x3)] := hl
  refine lv_aload_n hx hb dLt_put_0 rfl (lv_at hl 0 rfl) ?_
  refine lv_iload_n hx hb dLt_put_1 rfl (lv_at hl 1 rfl) ?_
  refine va_put (D := (dC, dI)) (ci := 5) (v := .int x1) (ty := .int) (C := RLt) (T := TLt) (N := 4) hx hb hts (by decide +kernel) tyLt tyLt_ok nmLt hown hK hP hD hS 0 rfl rfl 0 (by decide) (hts (.fieldLink RLt 9 "DeclarativeRows$Latest" "number" "I") (by decide +kernel)) (fun _ h9 => h9) rfl (by decide +kernel) rfl rfl (Nat.le_of_ble_eq_true rfl) dLt_put_2 (fun H locs hP hD hS => ?_)
  have hP : va_P (dC, dI) vwCl [(a0, .inr (5, [.int x1, .int S.2.1, .int S.2.2.1, .int S.2.2.2]))] H := hP
  have hD : va_D A [(a0, .inr (5, [.int x1, .int S.2.1, .int S.2.2.1, .int S.2.2.2]))] := hD
  refine lv_aload_n hx hb dLt_put_5 rfl (lv_at hl 0 rfl) ?_
  refine lv_iload_n hx hb dLt_put_6 rfl (lv_at hl 2 rfl) ?_
  refine va_put (D := (dC, dI)) (ci := 5) (v := .int x2) (ty := .int) (C := RLt) (T := TLt) (N := 4) hx hb hts (by decide +kernel) tyLt tyLt_ok nmLt hown hK hP hD hS 0 rfl rfl 1 (by decide) (hts (.fieldLink RLt 15 "DeclarativeRows$Latest" "place" "I") (by decide +kernel)) (fun _ h9 => h9) rfl (by decide +kernel) rfl rfl (Nat.le_of_ble_eq_true rfl) dLt_put_7 (fun H locs hP hD hS => ?_)
  have hP : va_P (dC, dI) vwCl [(a0, .inr (5, [.int x1, .int x2, .int S.2.2.1, .int S.2.2.2]))] H := hP
  have hD : va_D A [(a0, .inr (5, [.int x1, .int x2, .int S.2.2.1, .int S.2.2.2]))] := hD
  refine lv_aload_n hx hb dLt_put_10 rfl (lv_at hl 0 rfl) ?_
  refine lv_iload_n hx hb dLt_put_11 rfl (lv_at hl 3 rfl) ?_
  refine va_put (D := (dC, dI)) (ci := 5) (v := .int x3) (ty := .int) (C := RLt) (T := TLt) (N := 4) hx hb hts (by decide +kernel) tyLt tyLt_ok nmLt hown hK hP hD hS 0 rfl rfl 2 (by decide) (hts (.fieldLink RLt 18 "DeclarativeRows$Latest" "taker" "I") (by decide +kernel)) (fun _ h9 => h9) rfl (by decide +kernel) rfl rfl (Nat.le_of_ble_eq_true rfl) dLt_put_12 (fun H locs hP hD hS => ?_)
  have hP : va_P (dC, dI) vwCl [(a0, .inr (5, [.int x1, .int x2, .int x3, .int S.2.2.2]))] H := hP
  have hD : va_D A [(a0, .inr (5, [.int x1, .int x2, .int x3, .int S.2.2.2]))] := hD
  refine lv_aload_n hx hb dLt_put_15 rfl (lv_at hl 0 rfl) ?_
  refine lv_iconst (v := -1) hx hb dLt_put_16 (by decide) ?_
  refine va_put (D := (dC, dI)) (ci := 5) (v := .int (-1)) (ty := .int) (C := RLt) (T := TLt) (N := 4) hx hb hts (by decide +kernel) tyLt tyLt_ok nmLt hown hK hP hD hS 0 rfl rfl 3 (by decide) (hts (.fieldLink RLt 21 "DeclarativeRows$Latest" "program" "I") (by decide +kernel)) (fun _ h9 => h9) rfl (by decide +kernel) rfl rfl (Nat.le_of_ble_eq_true rfl) dLt_put_17 (fun H locs hP hD hS => ?_)
  have hP : va_P (dC, dI) vwCl [(a0, .inr (5, [.int x1, .int x2, .int x3, .int (-1)]))] H := hP
  have hD : va_D A [(a0, .inr (5, [.int x1, .int x2, .int x3, .int (-1)]))] := hD
  exact W.vret hx hb hr (fun t ht hW => ⟨⟨(x1, x2, x3, -1), rfl, (show (x1, x2, x3, -1) = f_Latest_put S x1 x2 x3 from rfl), by rw [ht]; exact hP, hD⟩, hS.F ht⟩) hS.2.2 dLt_put_20
set_option maxHeartbeats 4000000 in
set_option maxRecDepth 100000 in
theorem m_Latest_passTo (l : Launch) (dC : Nat → ClassId) (dI : Nat → Nat → Nat) (kI kZ : ClassId) (sz : Nat) (a0 : Nat) (S : S_Latest) (x1 : Int32) : Met l yLt_passTo wsLt_passTo ({ frames := 0, cells := 0, slots := 0, locals := 0 }) (w_Pc dC dI kI kZ sz [.ref a0, .int x1] (w_Latest kI kZ a0 S)) (w_Qi dC dI (w_Latest kI kZ a0) (w_Latest kI kZ a0 S) sz (f_Latest_passTo S x1)) 0 0 (va_A (w_Latest kI kZ a0 S) sz) := by
  refine Met.ofW (cc := cLt_passTo) (maxL := 2) (ret := (some .int)) (by decide) rfl ?_
  intro p e s m args below meth c s₁ B hml hv
  obtain ⟨rfl, hsz, hP, hX, hD0⟩ := hv
  have hK := hX.1
  have hx := B.exec
  have hb := B.bytes
  have hr := B.returns
  have hts := atoms_spec (ws := wsLt_passTo) B.pre
  have hown : s.vm.findClass RLt = some m.cls := findClass_of_methodNamed B.named
  have hlocks := B.notSynchronized
  subst hsz
  have hD := hD0.self (sz := s.heap.size)
  unfold w_Qi
  generalize hAe : va_A (w_Latest kI kZ a0 S) s.heap.size = A at hD ⊢
  have hA : ∀ q : Nat, s.heap.size ≤ q → A q := fun q h => by rw [← hAe]; exact Or.inr h
  have hS : va_S A s.heap s.heap [] := va_S.rf
  have hP : va_P (dC, dI) vwCl [(a0, .inr (5, [.int S.1, .int S.2.1, .int S.2.2.1, .int S.2.2.2]))] s.heap := hP
  have hD : va_D A [(a0, .inr (5, [.int S.1, .int S.2.1, .int S.2.2.1, .int S.2.2.2]))] := hD
  have hl := lv_entry ([.ref a0, .int x1]) (n := 2) (Nat.le_of_ble_eq_true rfl)
  rw [lg_entry_eq]
  generalize (lg_sl ([.ref a0, .int x1]) ++ List.replicate (2 - (lg_sl ([.ref a0, .int x1])).length) Slot.unset).toArray = ls at hl ⊢
  have hl : lv_has ls 2 [(0, .ref a0), (1, .int x1)] := hl
  refine lv_aload_n hx hb dLt_passTo_0 rfl (lv_at hl 0 rfl) ?_
  refine va_get (D := (dC, dI)) (ci := 5) (v := .int S.1) (C := RLt) (T := TLt) (N := 4) hx hb hts (by decide +kernel) hown hK hP 0 rfl rfl 0 (by decide) (hts (.fieldLink RLt 9 "DeclarativeRows$Latest" "number" "I") (by decide +kernel)) (fun _ h9 => h9) rfl dLt_passTo_1 ?_
  refine lv_if_le (tgt := 15) hx hb dLt_passTo_4 (by decide) (fun c_1 => ?_) (fun c_1 => ?_)
  · refine lv_iconst (v := 0) hx hb dLt_passTo_15 (by decide) ?_
    exact W.iret (v := 0) hx hb hr (fun t ht hW => ⟨⟨_, S, rfl, (show (0, S) = f_Latest_passTo S x1 from by unfold f_Latest_passTo; rw [if_pos c_1]), by rw [ht]; exact hP, hD⟩, hS.F ht⟩) hS.2.2 dLt_passTo_16
  · refine lv_aload_n hx hb dLt_passTo_7 rfl (lv_at hl 0 rfl) ?_
    refine va_get (D := (dC, dI)) (ci := 5) (v := .int S.2.2.2) (C := RLt) (T := TLt) (N := 4) hx hb hts (by decide +kernel) hown hK hP 0 rfl rfl 3 (by decide) (hts (.fieldLink RLt 21 "DeclarativeRows$Latest" "program" "I") (by decide +kernel)) (fun _ h9 => h9) rfl dLt_passTo_8 ?_
    refine lv_iconst (v := -1) hx hb dLt_passTo_11 (by decide) ?_
    refine lv_icmp_eq (tgt := 17) hx hb dLt_passTo_12 (by decide) (fun c_2 => ?_) (fun c_2 => ?_)
    · refine lv_aload_n hx hb dLt_passTo_17 rfl (lv_at hl 0 rfl) ?_
      refine lv_iload_n hx hb dLt_passTo_18 rfl (lv_at hl 1 rfl) ?_
      refine va_put (D := (dC, dI)) (ci := 5) (v := .int x1) (ty := .int) (C := RLt) (T := TLt) (N := 4) hx hb hts (by decide +kernel) tyLt tyLt_ok nmLt hown hK hP hD hS 0 rfl rfl 3 (by decide) (hts (.fieldLink RLt 21 "DeclarativeRows$Latest" "program" "I") (by decide +kernel)) (fun _ h9 => h9) rfl (by decide +kernel) rfl rfl (Nat.le_of_ble_eq_true rfl) dLt_passTo_19 (fun H locs hP hD hS => ?_)
      have hP : va_P (dC, dI) vwCl [(a0, .inr (5, [.int S.1, .int S.2.1, .int S.2.2.1, .int x1]))] H := hP
      have hD : va_D A [(a0, .inr (5, [.int S.1, .int S.2.1, .int S.2.2.1, .int x1]))] := hD
      refine lv_aload_n hx hb dLt_passTo_22 rfl (lv_at hl 0 rfl) ?_
      refine va_get (D := (dC, dI)) (ci := 5) (v := .int S.1) (C := RLt) (T := TLt) (N := 4) hx hb hts (by decide +kernel) hown hK hP 0 rfl rfl 0 (by decide) (hts (.fieldLink RLt 9 "DeclarativeRows$Latest" "number" "I") (by decide +kernel)) (fun _ h9 => h9) rfl dLt_passTo_23 ?_
      exact W.iret (v := S.1) hx hb hr (fun t ht hW => ⟨⟨_, (S.1, S.2.1, S.2.2.1, x1), rfl, (show (S.1, (S.1, S.2.1, S.2.2.1, x1)) = f_Latest_passTo S x1 from by unfold f_Latest_passTo; rw [if_neg c_1, if_pos c_2]), by rw [ht]; exact hP, hD⟩, hS.F ht⟩) hS.2.2 dLt_passTo_26
    · refine lv_iconst (v := 0) hx hb dLt_passTo_15 (by decide) ?_
      exact W.iret (v := 0) hx hb hr (fun t ht hW => ⟨⟨_, S, rfl, (show (0, S) = f_Latest_passTo S x1 from by unfold f_Latest_passTo; rw [if_neg c_1, if_neg c_2]), by rw [ht]; exact hP, hD⟩, hS.F ht⟩) hS.2.2 dLt_passTo_16
set_option maxHeartbeats 4000000 in
set_option maxRecDepth 100000 in
theorem m_Latest_tell (l : Launch) (dC : Nat → ClassId) (dI : Nat → Nat → Nat) (kI kZ : ClassId) (a0 : Nat) (S : S_Latest) (x1 : Int32) : Met l yLt_tell wsLt_tell ({ frames := 0, cells := 0, slots := 0, locals := 0 }) (r_Pc dC dI kI kZ [.ref a0, .int x1] (w_Latest kI kZ a0 S)) (r_Qc (f_Latest_tell S x1)) 0 0 (fun _ => False) := by
  refine Met.ofW (cc := cLt_tell) (maxL := 2) (ret := (some .int)) (by decide) rfl ?_
  intro p e s m args below meth c s₁ B hml hv
  obtain ⟨rfl, hP, hX⟩ := hv
  have hK := hX.1
  have hx := B.exec
  have hb := B.bytes
  have hr := B.returns
  have hts := atoms_spec (ws := wsLt_tell) B.pre
  have hown : s.vm.findClass RLt = some m.cls := findClass_of_methodNamed B.named
  have hlocks := B.notSynchronized
  have hS : va_S (fun _ => False) s.heap s.heap [] := va_S.rf
  have hP : va_P (dC, dI) vwCl [(a0, .inr (5, [.int S.1, .int S.2.1, .int S.2.2.1, .int S.2.2.2]))] s.heap := hP
  have hl := lv_entry ([.ref a0, .int x1]) (n := 2) (Nat.le_of_ble_eq_true rfl)
  rw [lg_entry_eq]
  generalize (lg_sl ([.ref a0, .int x1]) ++ List.replicate (2 - (lg_sl ([.ref a0, .int x1])).length) Slot.unset).toArray = ls at hl ⊢
  have hl : lv_has ls 2 [(0, .ref a0), (1, .int x1)] := hl
  refine lv_aload_n hx hb dLt_tell_0 rfl (lv_at hl 0 rfl) ?_
  refine va_get (D := (dC, dI)) (ci := 5) (v := .int S.1) (C := RLt) (T := TLt) (N := 4) hx hb hts (by decide +kernel) hown hK hP 0 rfl rfl 0 (by decide) (hts (.fieldLink RLt 9 "DeclarativeRows$Latest" "number" "I") (by decide +kernel)) (fun _ h9 => h9) rfl dLt_tell_1 ?_
  refine lv_if_ne (tgt := 9) hx hb dLt_tell_4 (by decide) (fun c_1 => ?_) (fun c_1 => ?_)
  · refine lv_iload_n hx hb dLt_tell_9 rfl (lv_at hl 1 rfl) ?_
    by_cases c_2 : x1 = 0
    · refine lv_tableIn (tgt := 40) hx hb dLt_tell_10 (by rw [c_2]; decide) (by rw [c_2]; decide) (by rw [c_2]; rfl) (by decide) ?_
      refine lv_aload_n hx hb dLt_tell_40 rfl (lv_at hl 0 rfl) ?_
      refine va_get (D := (dC, dI)) (ci := 5) (v := .int S.1) (C := RLt) (T := TLt) (N := 4) hx hb hts (by decide +kernel) hown hK hP 0 rfl rfl 0 (by decide) (hts (.fieldLink RLt 9 "DeclarativeRows$Latest" "number" "I") (by decide +kernel)) (fun _ h9 => h9) rfl dLt_tell_41 ?_
      exact W.iret (v := S.1) hx hb hr (fun t ht hW => ⟨⟨_, (), rfl, (show S.1 = f_Latest_tell S x1 from by unfold f_Latest_tell; rw [if_neg c_1, if_pos c_2]), trivial⟩, hS.F ht⟩) hS.2.2 dLt_tell_44
    ·
      by_cases c_3 : x1 = 1
      · refine lv_tableIn (tgt := 45) hx hb dLt_tell_10 (by rw [c_3]; decide) (by rw [c_3]; decide) (by rw [c_3]; rfl) (by decide) ?_
        refine lv_aload_n hx hb dLt_tell_45 rfl (lv_at hl 0 rfl) ?_
        refine va_get (D := (dC, dI)) (ci := 5) (v := .int S.2.1) (C := RLt) (T := TLt) (N := 4) hx hb hts (by decide +kernel) hown hK hP 0 rfl rfl 1 (by decide) (hts (.fieldLink RLt 15 "DeclarativeRows$Latest" "place" "I") (by decide +kernel)) (fun _ h9 => h9) rfl dLt_tell_46 ?_
        exact W.iret (v := S.2.1) hx hb hr (fun t ht hW => ⟨⟨_, (), rfl, (show S.2.1 = f_Latest_tell S x1 from by unfold f_Latest_tell; rw [if_neg c_1, if_neg c_2, if_pos c_3]), trivial⟩, hS.F ht⟩) hS.2.2 dLt_tell_49
      ·
        by_cases c_4 : x1 = 2
        · refine lv_tableIn (tgt := 50) hx hb dLt_tell_10 (by rw [c_4]; decide) (by rw [c_4]; decide) (by rw [c_4]; rfl) (by decide) ?_
          refine lv_aload_n hx hb dLt_tell_50 rfl (lv_at hl 0 rfl) ?_
          refine va_get (D := (dC, dI)) (ci := 5) (v := .int S.2.2.1) (C := RLt) (T := TLt) (N := 4) hx hb hts (by decide +kernel) hown hK hP 0 rfl rfl 2 (by decide) (hts (.fieldLink RLt 18 "DeclarativeRows$Latest" "taker" "I") (by decide +kernel)) (fun _ h9 => h9) rfl dLt_tell_51 ?_
          exact W.iret (v := S.2.2.1) hx hb hr (fun t ht hW => ⟨⟨_, (), rfl, (show S.2.2.1 = f_Latest_tell S x1 from by unfold f_Latest_tell; rw [if_neg c_1, if_neg c_2, if_neg c_3, if_pos c_4]), trivial⟩, hS.F ht⟩) hS.2.2 dLt_tell_54
        ·
          by_cases c_5 : x1 = 3
          · refine lv_tableIn (tgt := 55) hx hb dLt_tell_10 (by rw [c_5]; decide) (by rw [c_5]; decide) (by rw [c_5]; rfl) (by decide) ?_
            refine lv_aload_n hx hb dLt_tell_55 rfl (lv_at hl 0 rfl) ?_
            refine va_get (D := (dC, dI)) (ci := 5) (v := .int S.2.2.2) (C := RLt) (T := TLt) (N := 4) hx hb hts (by decide +kernel) hown hK hP 0 rfl rfl 3 (by decide) (hts (.fieldLink RLt 21 "DeclarativeRows$Latest" "program" "I") (by decide +kernel)) (fun _ h9 => h9) rfl dLt_tell_56 ?_
            exact W.iret (v := S.2.2.2) hx hb hr (fun t ht hW => ⟨⟨_, (), rfl, (show S.2.2.2 = f_Latest_tell S x1 from by unfold f_Latest_tell; rw [if_neg c_1, if_neg c_2, if_neg c_3, if_neg c_4, if_pos c_5]), trivial⟩, hS.F ht⟩) hS.2.2 dLt_tell_59
          ·
            have hc_2 := lv_neT c_2 (show (0 : Int32).toInt = 0 from rfl)
            have hc_3 := lv_neT c_3 (show (1 : Int32).toInt = 1 from rfl)
            have hc_4 := lv_neT c_4 (show (2 : Int32).toInt = 2 from rfl)
            have hc_5 := lv_neT c_5 (show (3 : Int32).toInt = 3 from rfl)
            refine lv_tableOut (tgt := 60) hx hb dLt_tell_10 (by omega) (by decide) ?_
            refine lv_iconst (v := -1) hx hb dLt_tell_60 (by decide) ?_
            exact W.iret (v := -1) hx hb hr (fun t ht hW => ⟨⟨_, (), rfl, (show -1 = f_Latest_tell S x1 from by unfold f_Latest_tell; rw [if_neg c_1, if_neg c_2, if_neg c_3, if_neg c_4, if_neg c_5]), trivial⟩, hS.F ht⟩) hS.2.2 dLt_tell_61
  · refine lv_iconst (v := -1) hx hb dLt_tell_7 (by decide) ?_
    exact W.iret (v := -1) hx hb hr (fun t ht hW => ⟨⟨_, (), rfl, (show -1 = f_Latest_tell S x1 from by unfold f_Latest_tell; rw [if_pos c_1]), trivial⟩, hS.F ht⟩) hS.2.2 dLt_tell_8
