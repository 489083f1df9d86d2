set_option maxHeartbeats 4000000 in
set_option maxRecDepth 100000 in
theorem m_Uses_init (l : Launch) (dC : Nat → ClassId) (dI : Nat → Nat → Nat) (kI kZ : ClassId) (sz : Nat) (h0 : Nat) : Met l yUs_init wsUs_init ({ frames := 1, cells := 2, slots := 60, locals := 12 }) (w_Pc dC dI kI kZ sz [.ref h0] [(h0, .inr (2, [.null, .null, .int 0]))]) (c_Qv dC dI (fun u => w_Uses kI kZ h0 (u 1) (u 2) f_Uses_init) (fun _ => True) [(h0, .inr (2, [.null, .null, .int 0]))] sz) 2 60 (va_A [(h0, .inr (2, [.null, .null, .int 0]))] sz) := by
  refine Met.ofW (cc := cUs_init) (maxL := 1) (ret := none) (by decide) rfl ?_
  intro p e s m args below meth c s₁ B hml hv
  obtain ⟨rfl, hsz, hP, hX, hD0⟩ := hv
  have hK := hX.1
  have hx := B.exec
  have hb := B.bytes
  have hr := B.returns
  have hts := atoms_spec (ws := wsUs_init) B.pre
  have hown : s.vm.findClass RUs = some m.cls := findClass_of_methodNamed B.named
  have hlocks := B.notSynchronized
  have hin : meth.name = "<init>" := (name_of_methodNamed B.named B.method).1
  subst hsz
  have hD := hD0.self (sz := s.heap.size)
  unfold c_Qv
  generalize hAe : va_A [(h0, .inr (2, [.null, .null, .int 0]))] s.heap.size = A at hD ⊢
  have hA : ∀ q : Nat, s.heap.size ≤ q → A q := fun q h => by rw [← hAe]; exact Or.inr h
  have hS : va_S A s.heap s.heap [] := va_S.rf
  have hP : va_P (dC, dI) vwCl [(h0, .inr (2, [.null, .null, .int 0]))] s.heap := hP
  have hD : va_D A [(h0, .inr (2, [.null, .null, .int 0]))] := hD
  have hl := lv_entry ([.ref h0]) (n := 1) (Nat.le_of_ble_eq_true rfl)
  rw [lg_entry_eq]
  generalize (lg_sl ([.ref h0]) ++ List.replicate (1 - (lg_sl ([.ref h0])).length) Slot.unset).toArray = ls at hl ⊢
  have hl : lv_has ls 1 [(0, .ref h0)] := hl
  refine lv_aload_n hx hb dUs_init_0 rfl (lv_at hl 0 rfl) ?_
  refine W.objInit hx hb hown (hts (.methodLink RUs 3 objectInit) (by decide +kernel)) (hts (.instanceMethod objectInit) (by decide +kernel)) (hts _ (List.mem_of_getElem? (i := 3) rfl)) rfl (by rw [hml]; exact hl.1) rfl dUs_init_1 (Nat.le_of_ble_eq_true rfl) (Nat.le_of_ble_eq_true rfl) ?_
  refine W.eq (g2 := F0 m 4 ls []) rfl ?_
  refine lv_aload_n hx hb dUs_init_4 rfl (lv_at hl 0 rfl) ?_
  refine lv_bipush (v := 30) hx hb dUs_init_5 (by decide) ?_
  refine xx_newi hx hb (hts (.arrayClass .int) (by decide +kernel)) hK hP hD hS hA (N := 30) (by decide) (by decide) (by decide) (Nat.le_of_ble_eq_true rfl) (Nat.le_of_ble_eq_true rfl) dUs_init_7 (fun q7 H hP hD hS => ?_)
  have hP : va_P (dC, dI) vwCl [(h0, .inr (2, [.null, .null, .int 0])), (q7, .inl (kI, 30, .inl (fun _ => 0)))] H := hP
  have hD : va_D A [(h0, .inr (2, [.null, .null, .int 0])), (q7, .inl (kI, 30, .inl (fun _ => 0)))] := hD
  refine va_putF (D := (dC, dI)) (ci := 2) (v := .ref q7) (ty := .array .int) (C := RUs) (T := TUs) (N := 3) hx hb hts (by decide +kernel) tyUs tyUs_ok nmUs hown hK hP hD hS 0 rfl rfl 0 (by decide) (hts (.fieldLink RUs 9 "DeclarativeRows$Uses" "kinds" "[I") (by decide +kernel)) (fun _ h9 => h9) rfl hin rfl (by decide +kernel) rfl rfl (Nat.le_of_ble_eq_true rfl) dUs_init_9 (fun H locs hP hD hS => ?_)
  have hP : va_P (dC, dI) vwCl [(h0, .inr (2, [.ref q7, .null, .int 0])), (q7, .inl (kI, 30, .inl (fun _ => 0)))] H := hP
  have hD : va_D A [(h0, .inr (2, [.ref q7, .null, .int 0])), (q7, .inl (kI, 30, .inl (fun _ => 0)))] := hD
  refine lv_aload_n hx hb dUs_init_12 rfl (lv_at hl 0 rfl) ?_
  refine lv_bipush (v := 30) hx hb dUs_init_13 (by decide) ?_
  refine xx_newi hx hb (hts (.arrayClass .int) (by decide +kernel)) hK hP hD hS hA (N := 30) (by decide) (by decide) (by decide) (Nat.le_of_ble_eq_true rfl) (Nat.le_of_ble_eq_true rfl) dUs_init_15 (fun q15 H hP hD hS => ?_)
  have hP : va_P (dC, dI) vwCl [(h0, .inr (2, [.ref q7, .null, .int 0])), (q7, .inl (kI, 30, .inl (fun _ => 0))), (q15, .inl (kI, 30, .inl (fun _ => 0)))] H := hP
  have hD : va_D A [(h0, .inr (2, [.ref q7, .null, .int 0])), (q7, .inl (kI, 30, .inl (fun _ => 0))), (q15, .inl (kI, 30, .inl (fun _ => 0)))] := hD
  refine va_putF (D := (dC, dI)) (ci := 2) (v := .ref q15) (ty := .array .int) (C := RUs) (T := TUs) (N := 3) hx hb hts (by decide +kernel) tyUs tyUs_ok nmUs hown hK hP hD hS 0 rfl rfl 1 (by decide) (hts (.fieldLink RUs 15 "DeclarativeRows$Uses" "subjects" "[I") (by decide +kernel)) (fun _ h9 => h9) rfl hin rfl (by decide +kernel) rfl rfl (Nat.le_of_ble_eq_true rfl) dUs_init_17 (fun H locs hP hD hS => ?_)
  have hP : va_P (dC, dI) vwCl [(h0, .inr (2, [.ref q7, .ref q15, .int 0])), (q7, .inl (kI, 30, .inl (fun _ => 0))), (q15, .inl (kI, 30, .inl (fun _ => 0)))] H := hP
  have hD : va_D A [(h0, .inr (2, [.ref q7, .ref q15, .int 0])), (q7, .inl (kI, 30, .inl (fun _ => 0))), (q15, .inl (kI, 30, .inl (fun _ => 0)))] := hD
  refine lv_aload_n hx hb dUs_init_20 rfl (lv_at hl 0 rfl) ?_
  refine lv_iconst (v := 0) hx hb dUs_init_21 (by decide) ?_
  refine va_put (D := (dC, dI)) (ci := 2) (v := .int 0) (ty := .int) (C := RUs) (T := TUs) (N := 3) hx hb hts (by decide +kernel) tyUs tyUs_ok nmUs hown hK hP hD hS 0 rfl rfl 2 (by decide) (hts (.fieldLink RUs 18 "DeclarativeRows$Uses" "size" "I") (by decide +kernel)) (fun _ h9 => h9) rfl (by decide +kernel) rfl rfl (Nat.le_of_ble_eq_true rfl) dUs_init_22 (fun H locs hP hD hS => ?_)
  have hP : va_P (dC, dI) vwCl [(h0, .inr (2, [.ref q7, .ref q15, .int 0])), (q7, .inl (kI, 30, .inl (fun _ => 0))), (q15, .inl (kI, 30, .inl (fun _ => 0)))] H := hP
  have hD : va_D A [(h0, .inr (2, [.ref q7, .ref q15, .int 0])), (q7, .inl (kI, 30, .inl (fun _ => 0))), (q15, .inl (kI, 30, .inl (fun _ => 0)))] := hD
  refine W.widen (k := 2) (n := 60) (Nat.le_of_ble_eq_true rfl) (Nat.le_of_ble_eq_true rfl) ?_
  exact W.vret hx hb hr (fun t ht hW => ⟨⟨(fun k => [h0, q7, q15].getD k 0), rfl, trivial, by rw [ht]; exact hP, hD⟩, hS.F ht⟩) hS.2.2 dUs_init_25
set_option maxHeartbeats 4000000 in
set_option maxRecDepth 100000 in
theorem m_Uses_size (l : Launch) (dC : Nat → ClassId) (dI : Nat → Nat → Nat) (kI kZ : ClassId) (a0 a1 a2 : Nat) (S : S_Uses) : Met l yUs_size wsUs_size ({ frames := 0, cells := 0, slots := 0, locals := 0 }) (r_Pc dC dI kI kZ [.ref a0] (w_Uses kI kZ a0 a1 a2 S)) (r_Qc (f_Uses_size S)) 0 0 (fun _ => False) := by
  refine Met.ofW (cc := cUs_size) (maxL := 1) (ret := (some .int)) (by decide) rfl ?_
  intro p e s m args below meth c s₁ B hml hv
  obtain ⟨rfl, hP, hX⟩ := hv
  have hK := hX.1
  have hx := B.exec
  have hb := B.bytes
  have hr := B.returns
  have hts := atoms_spec (ws := wsUs_size) B.pre
  have hown : s.vm.findClass RUs = some m.cls := findClass_of_methodNamed B.named
  have hlocks := B.notSynchronized
  have hS : va_S (fun _ => False) s.heap s.heap [] := va_S.rf
  have hP : va_P (dC, dI) vwCl [(a0, .inr (2, [.ref a1, .ref a2, .int S.2.2])), (a1, .inl (kI, 30, .inl S.1)), (a2, .inl (kI, 30, .inl S.2.1))] s.heap := hP
  have hl := lv_entry ([.ref a0]) (n := 1) (Nat.le_of_ble_eq_true rfl)
  rw [lg_entry_eq]
  generalize (lg_sl ([.ref a0]) ++ List.replicate (1 - (lg_sl ([.ref a0])).length) Slot.unset).toArray = ls at hl ⊢
  have hl : lv_has ls 1 [(0, .ref a0)] := hl
  refine lv_aload_n hx hb dUs_size_0 rfl (lv_at hl 0 rfl) ?_
  refine va_get (D := (dC, dI)) (ci := 2) (v := .int S.2.2) (C := RUs) (T := TUs) (N := 3) hx hb hts (by decide +kernel) hown hK hP 0 rfl rfl 2 (by decide) (hts (.fieldLink RUs 18 "DeclarativeRows$Uses" "size" "I") (by decide +kernel)) (fun _ h9 => h9) rfl dUs_size_1 ?_
  exact W.iret (v := S.2.2) hx hb hr (fun t ht hW => ⟨⟨_, (), rfl, (show S.2.2 = f_Uses_size S from rfl), trivial⟩, hS.F ht⟩) hS.2.2 dUs_size_4
set_option maxHeartbeats 4000000 in
set_option maxRecDepth 100000 in
theorem m_Uses_isRow (l : Launch) (dC : Nat → ClassId) (dI : Nat → Nat → Nat) (kI kZ : ClassId) (a0 a1 a2 : Nat) (S : S_Uses) (x1 : Int32) : Met l yUs_isRow wsUs_isRow ({ frames := 0, cells := 0, slots := 0, locals := 0 }) (r_Pc dC dI kI kZ [.ref a0, .int x1] (w_Uses kI kZ a0 a1 a2 S)) (r_Qc (f_Uses_isRow S x1)) 0 0 (fun _ => False) := by
  refine Met.ofW (cc := cUs_isRow) (maxL := 2) (ret := (some .boolean)) (by decide) rfl ?_
  intro p e s m args below meth c s₁ B hml hv
  obtain ⟨rfl, hP, hX⟩ := hv
  have hK := hX.1
  have hx := B.exec
  have hb := B.bytes
  have hr := B.returns
  have hts := atoms_spec (ws := wsUs_isRow) B.pre
  have hown : s.vm.findClass RUs = some m.cls := findClass_of_methodNamed B.named
  have hlocks := B.notSynchronized
  have hS : va_S (fun _ => False) s.heap s.heap [] := va_S.rf
  have hP : va_P (dC, dI) vwCl [(a0, .inr (2, [.ref a1, .ref a2, .int S.2.2])), (a1, .inl (kI, 30, .inl S.1)), (a2, .inl (kI, 30, .inl S.2.1))] s.heap := hP
  have hl := lv_entry ([.ref a0, .int x1]) (n := 2) (Nat.le_of_ble_eq_true rfl)
  rw [lg_entry_eq]
  generalize (lg_sl ([.ref a0, .int x1]) ++ List.replicate (2 - (lg_sl ([.ref a0, .int x1])).length) Slot.unset).toArray = ls at hl ⊢
  have hl : lv_has ls 2 [(0, .ref a0), (1, .int x1)] := hl
  refine lv_iload_n hx hb dUs_isRow_0 rfl (lv_at hl 1 rfl) ?_
  refine lv_if_lt (tgt := 26) hx hb dUs_isRow_1 (by decide) (fun c_1 => ?_) (fun c_1 => ?_)
  · refine lv_iconst (v := 0) hx hb dUs_isRow_26 (by decide) ?_
    exact W.zret (v := 0) hx hb hr rfl (fun t ht hW => ⟨⟨_, (), rfl, (show 0 = f_Uses_isRow S x1 from by unfold f_Uses_isRow; rw [if_pos c_1]), trivial⟩, hS.F ht⟩) hS.2.2 dUs_isRow_27
  · refine lv_iload_n hx hb dUs_isRow_4 rfl (lv_at hl 1 rfl) ?_
    refine lv_aload_n hx hb dUs_isRow_5 rfl (lv_at hl 0 rfl) ?_
    refine va_get (D := (dC, dI)) (ci := 2) (v := .ref a1) (C := RUs) (T := TUs) (N := 3) hx hb hts (by decide +kernel) hown hK hP 0 rfl rfl 0 (by decide) (hts (.fieldLink RUs 9 "DeclarativeRows$Uses" "kinds" "[I") (by decide +kernel)) (fun _ h9 => h9) rfl dUs_isRow_6 ?_
    refine va_alen (v := 30) hx hb hK hP 1 0 rfl rfl rfl dUs_isRow_9 ?_
    refine lv_icmp_ge (tgt := 26) hx hb dUs_isRow_10 (by decide) (fun c_2 => ?_) (fun c_2 => ?_)
    · refine lv_iconst (v := 0) hx hb dUs_isRow_26 (by decide) ?_
      exact W.zret (v := 0) hx hb hr rfl (fun t ht hW => ⟨⟨_, (), rfl, (show 0 = f_Uses_isRow S x1 from by unfold f_Uses_isRow; rw [if_neg c_1, if_pos c_2]), trivial⟩, hS.F ht⟩) hS.2.2 dUs_isRow_27
    · refine lv_iload_n hx hb dUs_isRow_13 rfl (lv_at hl 1 rfl) ?_
      refine lv_aload_n hx hb dUs_isRow_14 rfl (lv_at hl 0 rfl) ?_
      refine va_get (D := (dC, dI)) (ci := 2) (v := .ref a2) (C := RUs) (T := TUs) (N := 3) hx hb hts (by decide +kernel) hown hK hP 0 rfl rfl 1 (by decide) (hts (.fieldLink RUs 15 "DeclarativeRows$Uses" "subjects" "[I") (by decide +kernel)) (fun _ h9 => h9) rfl dUs_isRow_15 ?_
      refine va_alen (v := 30) hx hb hK hP 2 0 rfl rfl rfl dUs_isRow_18 ?_
      refine lv_icmp_ge (tgt := 26) hx hb dUs_isRow_19 (by decide) (fun c_3 => ?_) (fun c_3 => ?_)
      · exact absurd c_3 c_2
      · refine lv_iconst (v := 1) hx hb dUs_isRow_22 (by decide) ?_
        refine lv_goto (tgt := 27) hx hb dUs_isRow_23 (by decide) ?_
        exact W.zret (v := 1) hx hb hr rfl (fun t ht hW => ⟨⟨_, (), rfl, (show 1 = f_Uses_isRow S x1 from by unfold f_Uses_isRow; rw [if_neg c_1, if_neg c_2]), trivial⟩, hS.F ht⟩) hS.2.2 dUs_isRow_27
set_option maxHeartbeats 4000000 in
set_option maxRecDepth 100000 in
theorem m_Uses_add (l : Launch) (dC : Nat → ClassId) (dI : Nat → Nat → Nat) (kI kZ : ClassId) (sz : Nat) (a0 a1 a2 : Nat) (S : S_Uses) (x1 x2 : Int32) : Met l yUs_add wsUs_add ({ frames := 1, cells := 0, slots := 0, locals := 21 }) (w_Pc dC dI kI kZ sz [.ref a0, .int x1, .int x2] (w_Uses kI kZ a0 a1 a2 S)) (w_Qi dC dI (w_Uses kI kZ a0 a1 a2) (w_Uses kI kZ a0 a1 a2 S) sz (f_Uses_add S x1 x2)) 0 0 (va_A (w_Uses kI kZ a0 a1 a2 S) sz) := by
  refine Met.ofW (cc := cUs_add) (maxL := 3) (ret := (some .int)) (by decide) rfl ?_
  intro p e s m args below meth c s₁ B hml hv
  obtain ⟨rfl, hsz, hP, hX, hD0⟩ := hv
  have hK := hX.1
  have hx := B.exec
  have hb := B.bytes
  have hr := B.returns
  have hts := atoms_spec (ws := wsUs_add) B.pre
  have hown : s.vm.findClass RUs = some m.cls := findClass_of_methodNamed B.named
  have hlocks := B.notSynchronized
  subst hsz
  have hD := hD0.self (sz := s.heap.size)
  unfold w_Qi
  generalize hAe : va_A (w_Uses kI kZ a0 a1 a2 S) s.heap.size = A at hD ⊢
  have hA : ∀ q : Nat, s.heap.size ≤ q → A q := fun q h => by rw [← hAe]; exact Or.inr h
  have hS : va_S A s.heap s.heap [] := va_S.rf
  have hP : va_P (dC, dI) vwCl [(a0, .inr (2, [.ref a1, .ref a2, .int S.2.2])), (a1, .inl (kI, 30, .inl S.1)), (a2, .inl (kI, 30, .inl S.2.1))] s.heap := hP
  have hD : va_D A [(a0, .inr (2, [.ref a1, .ref a2, .int S.2.2])), (a1, .inl (kI, 30, .inl S.1)), (a2, .inl (kI, 30, .inl S.2.1))] := hD
  have hl := lv_entry ([.ref a0, .int x1, .int x2]) (n := 3) (Nat.le_of_ble_eq_true rfl)
  rw [lg_entry_eq]
  generalize (lg_sl ([.ref a0, .int x1, .int x2]) ++ List.replicate (3 - (lg_sl ([.ref a0, .int x1, .int x2])).length) Slot.unset).toArray = ls at hl ⊢
  have hl : lv_has ls 3 [(0, .ref a0), (1, .int x1), (2, .int x2)] := hl
  refine lv_aload_n hx hb dUs_add_0 rfl (lv_at hl 0 rfl) ?_
  refine lv_aload_n hx hb dUs_add_1 rfl (lv_at hl 0 rfl) ?_
  refine va_get (D := (dC, dI)) (ci := 2) (v := .int S.2.2) (C := RUs) (T := TUs) (N := 3) hx hb hts (by decide +kernel) hown hK hP 0 rfl rfl 2 (by decide) (hts (.fieldLink RUs 18 "DeclarativeRows$Uses" "size" "I") (by decide +kernel)) (fun _ h9 => h9) rfl dUs_add_2 ?_
  refine xx_callR (dC := dC) (dI := dI) (va_runV (As := [.int S.2.2]) (rest := []) ⟨hx, hb, hml, hown, hts⟩ (m_Uses_isRow l dC dI kI kZ a0 a1 a2 S S.2.2) (cwV 1 hts gUs_add_Us_isRow rfl rfl rfl (by decide +kernel) ⟨Nat.le_of_ble_eq_true rfl, Nat.le_of_ble_eq_true rfl⟩) (xx_preR hX (hP.sub (ws' := (w_Uses kI kZ a0 a1 a2 S)) [0, 1, 2] rfl) (ci := 2) (q0 := 0) rfl rfl) rfl rfl hl.1 rfl (lv_room (Nat.le_of_ble_eq_true rfl)) dUs_add_5 ⟨Nat.le_of_ble_eq_true rfl, Nat.le_of_ble_eq_true rfl⟩) hS (fun H locs kp hS => ?_)
  have hP := kp _ hP
  refine lv_if_ne (tgt := 13) hx hb dUs_add_8 (by decide) (fun c_1 => ?_) (fun c_1 => ?_)
  · refine lv_aload_n hx hb dUs_add_13 rfl (lv_at hl 0 rfl) ?_
    refine va_get (D := (dC, dI)) (ci := 2) (v := .ref a1) (C := RUs) (T := TUs) (N := 3) hx hb hts (by decide +kernel) hown hK hP 0 rfl rfl 0 (by decide) (hts (.fieldLink RUs 9 "DeclarativeRows$Uses" "kinds" "[I") (by decide +kernel)) (fun _ h9 => h9) rfl dUs_add_14 ?_
    refine lv_aload_n hx hb dUs_add_17 rfl (lv_at hl 0 rfl) ?_
    refine va_get (D := (dC, dI)) (ci := 2) (v := .int S.2.2) (C := RUs) (T := TUs) (N := 3) hx hb hts (by decide +kernel) hown hK hP 0 rfl rfl 2 (by decide) (hts (.fieldLink RUs 18 "DeclarativeRows$Uses" "size" "I") (by decide +kernel)) (fun _ h9 => h9) rfl dUs_add_18 ?_
    refine lv_iload_n hx hb dUs_add_21 rfl (lv_at hl 1 rfl) ?_
    refine va_iast hx hb hK hP hD hS 1 0 rfl rfl (i := S.2.2) (x := x1) (in_rowU c_1) dUs_add_22 (fun H locs hP hD hS => ?_)
    have hP : va_P (dC, dI) vwCl [(a0, .inr (2, [.ref a1, .ref a2, .int S.2.2])), (a1, .inl (kI, 30, .inl (upd S.1 S.2.2.toNatClampNeg x1))), (a2, .inl (kI, 30, .inl S.2.1))] H := hP
    have hD : va_D A [(a0, .inr (2, [.ref a1, .ref a2, .int S.2.2])), (a1, .inl (kI, 30, .inl (upd S.1 S.2.2.toNatClampNeg x1))), (a2, .inl (kI, 30, .inl S.2.1))] := hD
    refine lv_aload_n hx hb dUs_add_23 rfl (lv_at hl 0 rfl) ?_
    refine va_get (D := (dC, dI)) (ci := 2) (v := .ref a2) (C := RUs) (T := TUs) (N := 3) hx hb hts (by decide +kernel) hown hK hP 0 rfl rfl 1 (by decide) (hts (.fieldLink RUs 15 "DeclarativeRows$Uses" "subjects" "[I") (by decide +kernel)) (fun _ h9 => h9) rfl dUs_add_24 ?_
    refine lv_aload_n hx hb dUs_add_27 rfl (lv_at hl 0 rfl) ?_
    refine va_get (D := (dC, dI)) (ci := 2) (v := .int S.2.2) (C := RUs) (T := TUs) (N := 3) hx hb hts (by decide +kernel) hown hK hP 0 rfl rfl 2 (by decide) (hts (.fieldLink RUs 18 "DeclarativeRows$Uses" "size" "I") (by decide +kernel)) (fun _ h9 => h9) rfl dUs_add_28 ?_
    refine lv_iload_n hx hb dUs_add_31 rfl (lv_at hl 2 rfl) ?_
    refine va_iast hx hb hK hP hD hS 2 0 rfl rfl (i := S.2.2) (x := x2) (in_rowU c_1) dUs_add_32 (fun H locs hP hD hS => ?_)
    have hP : va_P (dC, dI) vwCl [(a0, .inr (2, [.ref a1, .ref a2, .int S.2.2])), (a1, .inl (kI, 30, .inl (upd S.1 S.2.2.toNatClampNeg x1))), (a2, .inl (kI, 30, .inl (upd S.2.1 S.2.2.toNatClampNeg x2)))] H := hP
    have hD : va_D A [(a0, .inr (2, [.ref a1, .ref a2, .int S.2.2])), (a1, .inl (kI, 30, .inl (upd S.1 S.2.2.toNatClampNeg x1))), (a2, .inl (kI, 30, .inl (upd S.2.1 S.2.2.toNatClampNeg x2)))] := hD
    refine lv_aload_n hx hb dUs_add_33 rfl (lv_at hl 0 rfl) ?_
    refine lv_dup hx hb dUs_add_34 rfl ?_
    refine va_get (D := (dC, dI)) (ci := 2) (v := .int S.2.2) (C := RUs) (T := TUs) (N := 3) hx hb hts (by decide +kernel) hown hK hP 0 rfl rfl 2 (by decide) (hts (.fieldLink RUs 18 "DeclarativeRows$Uses" "size" "I") (by decide +kernel)) (fun _ h9 => h9) rfl dUs_add_35 ?_
    refine lv_iconst (v := 1) hx hb dUs_add_38 (by decide) ?_
    refine lv_iadd hx hb dUs_add_39 ?_
    refine va_put (D := (dC, dI)) (ci := 2) (v := .int (S.2.2 + 1)) (ty := .int) (C := RUs) (T := TUs) (N := 3) hx hb hts (by decide +kernel) tyUs tyUs_ok nmUs hown hK hP hD hS 0 rfl rfl 2 (by decide) (hts (.fieldLink RUs 18 "DeclarativeRows$Uses" "size" "I") (by decide +kernel)) (fun _ h9 => h9) rfl (by decide +kernel) rfl rfl (Nat.le_of_ble_eq_true rfl) dUs_add_40 (fun H locs hP hD hS => ?_)
    have hP : va_P (dC, dI) vwCl [(a0, .inr (2, [.ref a1, .ref a2, .int (S.2.2 + 1)])), (a1, .inl (kI, 30, .inl (upd S.1 S.2.2.toNatClampNeg x1))), (a2, .inl (kI, 30, .inl (upd S.2.1 S.2.2.toNatClampNeg x2)))] H := hP
    have hD : va_D A [(a0, .inr (2, [.ref a1, .ref a2, .int (S.2.2 + 1)])), (a1, .inl (kI, 30, .inl (upd S.1 S.2.2.toNatClampNeg x1))), (a2, .inl (kI, 30, .inl (upd S.2.1 S.2.2.toNatClampNeg x2)))] := hD
    refine lv_aload_n hx hb dUs_add_43 rfl (lv_at hl 0 rfl) ?_
    refine va_get (D := (dC, dI)) (ci := 2) (v := .int (S.2.2 + 1)) (C := RUs) (T := TUs) (N := 3) hx hb hts (by decide +kernel) hown hK hP 0 rfl rfl 2 (by decide) (hts (.fieldLink RUs 18 "DeclarativeRows$Uses" "size" "I") (by decide +kernel)) (fun _ h9 => h9) rfl dUs_add_44 ?_
    exact W.iret (v := (S.2.2 + 1)) hx hb hr (fun t ht hW => ⟨⟨_, ((upd S.1 S.2.2.toNatClampNeg x1), (upd S.2.1 S.2.2.toNatClampNeg x2), (S.2.2 + 1)), rfl, (show ((S.2.2 + 1), ((upd S.1 S.2.2.toNatClampNeg x1), (upd S.2.1 S.2.2.toNatClampNeg x2), (S.2.2 + 1))) = f_Uses_add S x1 x2 from by unfold f_Uses_add; rw [if_neg c_1]), by rw [ht]; exact hP, hD⟩, hS.F ht⟩) hS.2.2 dUs_add_47
  · refine lv_iconst (v := -1) hx hb dUs_add_11 (by decide) ?_
    exact W.iret (v := -1) hx hb hr (fun t ht hW => ⟨⟨_, S, rfl, (show (-1, S) = f_Uses_add S x1 x2 from by unfold f_Uses_add; rw [if_pos c_1]), by rw [ht]; exact hP, hD⟩, hS.F ht⟩) hS.2.2 dUs_add_12
set_option maxHeartbeats 4000000 in
set_option maxRecDepth 100000 in
theorem m_Uses_firstFor (l : Launch) (dC : Nat → ClassId) (dI : Nat → Nat → Nat) (kI kZ : ClassId) (a0 a1 a2 : Nat) (S : S_Uses) (x1 x2 : Int32) : Met l yUs_firstFor wsUs_firstFor ({ frames := 1, cells := 0, slots := 0, locals := 21 }) (r_Pc dC dI kI kZ [.ref a0, .int x1, .int x2] (w_Uses kI kZ a0 a1 a2 S)) (r_Qc (f_Uses_firstFor S x1 x2)) 0 0 (fun _ => False) := by
  refine Met.ofW (cc := cUs_firstFor) (maxL := 4) (ret := (some .int)) (by decide) rfl ?_
  intro p e s m args below meth c s₁ B hml hv
  obtain ⟨rfl, hP, hX⟩ := hv
  have hK := hX.1
  have hx := B.exec
  have hb := B.bytes
  have hr := B.returns
  have hts := atoms_spec (ws := wsUs_firstFor) B.pre
  have hown : s.vm.findClass RUs = some m.cls := findClass_of_methodNamed B.named
  have hlocks := B.notSynchronized
  have hS : va_S (fun _ => False) s.heap s.heap [] := va_S.rf
  have hP : va_P (dC, dI) vwCl [(a0, .inr (2, [.ref a1, .ref a2, .int S.2.2])), (a1, .inl (kI, 30, .inl S.1)), (a2, .inl (kI, 30, .inl S.2.1))] s.heap := hP
  have hl := lv_entry ([.ref a0, .int x1, .int x2]) (n := 4) (Nat.le_of_ble_eq_true rfl)
  rw [lg_entry_eq]
  generalize (lg_sl ([.ref a0, .int x1, .int x2]) ++ List.replicate (4 - (lg_sl ([.ref a0, .int x1, .int x2])).length) Slot.unset).toArray = ls at hl ⊢
  have hl : lv_has ls 4 [(0, .ref a0), (1, .int x1), (2, .int x2)] := hl
  refine lv_iconst (v := 0) hx hb dUs_firstFor_0 (by decide) ?_
  refine lv_istore_n (lv' := [(3, .int 0), (0, .ref a0), (1, .int x1), (2, .int x2)]) hx hb dUs_firstFor_1 rfl hl (by decide) rfl (fun ls hl => ?_)
  refine (?_ : ∀ (k j : Nat) (x3 : Int32) (ls : Array Slot) (H : Heap) (locs : List Loc), lv_has ls 4 [(0, .ref a0), (1, .int x1), (2, .int x2), (3, .int x3)] → va_P (dC, dI) vwCl [(a0, .inr (2, [.ref a1, .ref a2, .int S.2.2])), (a1, .inl (kI, 30, .inl S.1)), (a2, .inl (kI, 30, .inl S.2.1))] H → va_S (fun _ => False) s.heap H locs → x3 = nI j → j ≤ 30 → 30 < j + k → f_Uses_firstFor S x1 x2 = f_Uses_firstFor_L2 S x1 x2 k x3 → W p l e _ s m _ below meth c H locs _ _ _ (F0 m 2 ls [])) 31 0 0 ls _ _ (lv_sub hl [1, 2, 3, 0] rfl) hP hS (nI_0.symm) (by omega) (by omega) (rfl)
  intro k2
  induction k2 with
  | zero => intro j2 x3 ls H locs hl hP hS hj2 hjN2 hk2 hI2; exfalso; omega
  | succ k2 ih2 =>
    intro j2 x3 ls H locs hl hP hS hj2 hjN2 hk2 hI2
    refine lv_iload_n hx hb dUs_firstFor_2 rfl (lv_at hl 3 rfl) ?_
    refine lv_aload_n hx hb dUs_firstFor_3 rfl (lv_at hl 0 rfl) ?_
    refine va_get (D := (dC, dI)) (ci := 2) (v := .int S.2.2) (C := RUs) (T := TUs) (N := 3) hx hb hts (by decide +kernel) hown hK hP 0 rfl rfl 2 (by decide) (hts (.fieldLink RUs 18 "DeclarativeRows$Uses" "size" "I") (by decide +kernel)) (fun _ h9 => h9) rfl dUs_firstFor_4 ?_
    refine lv_icmp_ge (tgt := 48) hx hb dUs_firstFor_7 (by decide) (fun c_1 => ?_) (fun c_1 => ?_)
    · refine lv_iconst (v := 0) hx hb dUs_firstFor_48 (by decide) ?_
      exact W.iret (v := 0) hx hb hr (fun t ht hW => ⟨⟨_, (), rfl, (show 0 = f_Uses_firstFor S x1 x2 from by rw [hI2, f_Uses_firstFor_L2, if_pos c_1]), trivial⟩, hS.F ht⟩) hS.2.2 dUs_firstFor_49
    · refine lv_aload_n hx hb dUs_firstFor_10 rfl (lv_at hl 0 rfl) ?_
      refine lv_iload_n hx hb dUs_firstFor_11 rfl (lv_at hl 3 rfl) ?_
      refine xx_callR (dC := dC) (dI := dI) (va_runV (As := [.int x3]) (rest := []) ⟨hx, hb, hml, hown, hts⟩ (m_Uses_isRow l dC dI kI kZ a0 a1 a2 S x3) (cwV 1 hts gUs_firstFor_Us_isRow rfl rfl rfl (by decide +kernel) ⟨Nat.le_of_ble_eq_true rfl, Nat.le_of_ble_eq_true rfl⟩) (xx_preR hX (hP.sub (ws' := (w_Uses kI kZ a0 a1 a2 S)) [0, 1, 2] rfl) (ci := 2) (q0 := 0) rfl rfl) rfl rfl hl.1 rfl (lv_room (Nat.le_of_ble_eq_true rfl)) dUs_firstFor_12 ⟨Nat.le_of_ble_eq_true rfl, Nat.le_of_ble_eq_true rfl⟩) hS (fun H locs kp hS => ?_)
      have hP := kp _ hP
      refine lv_if_eq (tgt := 48) hx hb dUs_firstFor_15 (by decide) (fun c_2 => ?_) (fun c_2 => ?_)
      · refine lv_iconst (v := 0) hx hb dUs_firstFor_48 (by decide) ?_
        exact W.iret (v := 0) hx hb hr (fun t ht hW => ⟨⟨_, (), rfl, (show 0 = f_Uses_firstFor S x1 x2 from by rw [hI2, f_Uses_firstFor_L2, if_neg c_1, if_pos c_2]), trivial⟩, hS.F ht⟩) hS.2.2 dUs_firstFor_49
      · have hjl : j2 < 30 := lt_rowU hj2 (by omega) c_2
        have hin := in_rowU c_2
        refine lv_aload_n hx hb dUs_firstFor_18 rfl (lv_at hl 0 rfl) ?_
        refine va_get (D := (dC, dI)) (ci := 2) (v := .ref a1) (C := RUs) (T := TUs) (N := 3) hx hb hts (by decide +kernel) hown hK hP 0 rfl rfl 0 (by decide) (hts (.fieldLink RUs 9 "DeclarativeRows$Uses" "kinds" "[I") (by decide +kernel)) (fun _ h9 => h9) rfl dUs_firstFor_19 ?_
        refine lv_iload_n hx hb dUs_firstFor_22 rfl (lv_at hl 3 rfl) ?_
        refine va_iald hx hb hK hP 1 0 rfl rfl (i := x3) (hin) dUs_firstFor_23 ?_
        refine lv_iload_n hx hb dUs_firstFor_24 rfl (lv_at hl 1 rfl) ?_
        refine lv_icmp_ne (tgt := 42) hx hb dUs_firstFor_25 (by decide) (fun c_3 => ?_) (fun c_3 => ?_)
        · refine lv_iinc (v := (x3 + 1)) (lv' := [(3, .int (x3 + 1)), (0, .ref a0), (1, .int x1), (2, .int x2)]) hx hb dUs_firstFor_42 hl (k := 3) rfl rfl (by decide) rfl (fun ls hl => ?_)
          refine lv_goto (tgt := 2) hx hb dUs_firstFor_45 (by decide) ?_
          exact ih2 (j2 + 1) (x3 + 1) ls _ _ (lv_sub hl [1, 2, 3, 0] rfl) hP hS (by rw [hj2]; exact nI_1 j2) (by omega) (by omega) (by rw [hI2, f_Uses_firstFor_L2, if_neg c_1, if_neg c_2, if_neg c_3])
        · refine lv_aload_n hx hb dUs_firstFor_28 rfl (lv_at hl 0 rfl) ?_
          refine va_get (D := (dC, dI)) (ci := 2) (v := .ref a2) (C := RUs) (T := TUs) (N := 3) hx hb hts (by decide +kernel) hown hK hP 0 rfl rfl 1 (by decide) (hts (.fieldLink RUs 15 "DeclarativeRows$Uses" "subjects" "[I") (by decide +kernel)) (fun _ h9 => h9) rfl dUs_firstFor_29 ?_
          refine lv_iload_n hx hb dUs_firstFor_32 rfl (lv_at hl 3 rfl) ?_
          refine va_iald hx hb hK hP 2 0 rfl rfl (i := x3) (hin) dUs_firstFor_33 ?_
          refine lv_iload_n hx hb dUs_firstFor_34 rfl (lv_at hl 2 rfl) ?_
          refine lv_icmp_ne (tgt := 42) hx hb dUs_firstFor_35 (by decide) (fun c_4 => ?_) (fun c_4 => ?_)
          · refine lv_iinc (v := (x3 + 1)) (lv' := [(3, .int (x3 + 1)), (0, .ref a0), (1, .int x1), (2, .int x2)]) hx hb dUs_firstFor_42 hl (k := 3) rfl rfl (by decide) rfl (fun ls hl => ?_)
            refine lv_goto (tgt := 2) hx hb dUs_firstFor_45 (by decide) ?_
            exact ih2 (j2 + 1) (x3 + 1) ls _ _ (lv_sub hl [1, 2, 3, 0] rfl) hP hS (by rw [hj2]; exact nI_1 j2) (by omega) (by omega) (by rw [hI2, f_Uses_firstFor_L2, if_neg c_1, if_neg c_2, if_pos c_3, if_neg c_4])
          · refine lv_iload_n hx hb dUs_firstFor_38 rfl (lv_at hl 3 rfl) ?_
            refine lv_iconst (v := 1) hx hb dUs_firstFor_39 (by decide) ?_
            refine lv_iadd hx hb dUs_firstFor_40 ?_
            exact W.iret (v := (x3 + 1)) hx hb hr (fun t ht hW => ⟨⟨_, (), rfl, (show (x3 + 1) = f_Uses_firstFor S x1 x2 from by rw [hI2, f_Uses_firstFor_L2, if_neg c_1, if_neg c_2, if_pos c_3, if_pos c_4]), trivial⟩, hS.F ht⟩) hS.2.2 dUs_firstFor_41
