set_option maxHeartbeats 4000000 in
set_option maxRecDepth 100000 in
theorem m_Checks_init (l : Launch) (dC : Nat → ClassId) (dI : Nat → Nat → Nat) (kI kZ : ClassId) (sz : Nat) (h0 : Nat) : Met l yCk_init wsCk_init ({ frames := 1, cells := 3, slots := 300, locals := 12 }) (w_Pc dC dI kI kZ sz [.ref h0] [(h0, .inr (1, [.null, .null, .null, .int 0]))]) (c_Qv dC dI (fun u => w_Checks kI kZ h0 (u 1) (u 2) (u 3) f_Checks_init) (fun _ => True) [(h0, .inr (1, [.null, .null, .null, .int 0]))] sz) 3 300 (va_A [(h0, .inr (1, [.null, .null, .null, .int 0]))] sz) := by
  refine Met.ofW (cc := cCk_init) (maxL := 1) (ret := none) (by decide) rfl ?_
  intro p e s m args below meth c s₁ B hml hv
  obtain ⟨rfl, hsz, hP, hX, hD0⟩ := hv
  have hK := hX.1
  have hx := B.exec
  have hb := B.bytes
  have hr := B.returns
  have hts := atoms_spec (ws := wsCk_init) B.pre
  have hown : s.vm.findClass RCk = some m.cls := findClass_of_methodNamed B.named
  have hlocks := B.notSynchronized
  have hin : meth.name = "<init>" := (name_of_methodNamed B.named B.method).1
  subst hsz
  have hD := hD0.self (sz := s.heap.size)
  unfold c_Qv
  generalize hAe : va_A [(h0, .inr (1, [.null, .null, .null, .int 0]))] s.heap.size = A at hD ⊢
  have hA : ∀ q : Nat, s.heap.size ≤ q → A q := fun q h => by rw [← hAe]; exact Or.inr h
  have hS : va_S A s.heap s.heap [] := va_S.rf
  have hP : va_P (dC, dI) vwCl [(h0, .inr (1, [.null, .null, .null, .int 0]))] s.heap := hP
  have hD : va_D A [(h0, .inr (1, [.null, .null, .null, .int 0]))] := hD
  have hl := lv_entry ([.ref h0]) (n := 1) (Nat.le_of_ble_eq_true rfl)
  rw [lg_entry_eq]
  generalize (lg_sl ([.ref h0]) ++ List.replicate (1 - (lg_sl ([.ref h0])).length) Slot.unset).toArray = ls at hl ⊢
  have hl : lv_has ls 1 [(0, .ref h0)] := hl
  refine lv_aload_n hx hb dCk_init_0 rfl (lv_at hl 0 rfl) ?_
  refine W.objInit hx hb hown (hts (.methodLink RCk 3 objectInit) (by decide +kernel)) (hts (.instanceMethod objectInit) (by decide +kernel)) (hts _ (List.mem_of_getElem? (i := 3) rfl)) rfl (by rw [hml]; exact hl.1) rfl dCk_init_1 (Nat.le_of_ble_eq_true rfl) (Nat.le_of_ble_eq_true rfl) ?_
  refine W.eq (g2 := F0 m 4 ls []) rfl ?_
  refine lv_aload_n hx hb dCk_init_4 rfl (lv_at hl 0 rfl) ?_
  refine lv_bipush (v := 100) hx hb dCk_init_5 (by decide) ?_
  refine xx_newi hx hb (hts (.arrayClass .int) (by decide +kernel)) hK hP hD hS hA (N := 100) (by decide) (by decide) (by decide) (Nat.le_of_ble_eq_true rfl) (Nat.le_of_ble_eq_true rfl) dCk_init_7 (fun q7 H hP hD hS => ?_)
  have hP : va_P (dC, dI) vwCl [(h0, .inr (1, [.null, .null, .null, .int 0])), (q7, .inl (kI, 100, .inl (fun _ => 0)))] H := hP
  have hD : va_D A [(h0, .inr (1, [.null, .null, .null, .int 0])), (q7, .inl (kI, 100, .inl (fun _ => 0)))] := hD
  refine va_putF (D := (dC, dI)) (ci := 1) (v := .ref q7) (ty := .array .int) (C := RCk) (T := TCk) (N := 4) hx hb hts (by decide +kernel) tyCk tyCk_ok nmCk hown hK hP hD hS 0 rfl rfl 0 (by decide) (hts (.fieldLink RCk 9 "DeclarativeRows$Checks" "exceptions" "[I") (by decide +kernel)) (fun _ h9 => h9) rfl hin rfl (by decide +kernel) rfl rfl (Nat.le_of_ble_eq_true rfl) dCk_init_9 (fun H locs hP hD hS => ?_)
  have hP : va_P (dC, dI) vwCl [(h0, .inr (1, [.ref q7, .null, .null, .int 0])), (q7, .inl (kI, 100, .inl (fun _ => 0)))] H := hP
  have hD : va_D A [(h0, .inr (1, [.ref q7, .null, .null, .int 0])), (q7, .inl (kI, 100, .inl (fun _ => 0)))] := hD
  refine lv_aload_n hx hb dCk_init_12 rfl (lv_at hl 0 rfl) ?_
  refine lv_bipush (v := 100) hx hb dCk_init_13 (by decide) ?_
  refine xx_newi hx hb (hts (.arrayClass .int) (by decide +kernel)) hK hP hD hS hA (N := 100) (by decide) (by decide) (by decide) (Nat.le_of_ble_eq_true rfl) (Nat.le_of_ble_eq_true rfl) dCk_init_15 (fun q15 H hP hD hS => ?_)
  have hP : va_P (dC, dI) vwCl [(h0, .inr (1, [.ref q7, .null, .null, .int 0])), (q7, .inl (kI, 100, .inl (fun _ => 0))), (q15, .inl (kI, 100, .inl (fun _ => 0)))] H := hP
  have hD : va_D A [(h0, .inr (1, [.ref q7, .null, .null, .int 0])), (q7, .inl (kI, 100, .inl (fun _ => 0))), (q15, .inl (kI, 100, .inl (fun _ => 0)))] := hD
  refine va_putF (D := (dC, dI)) (ci := 1) (v := .ref q15) (ty := .array .int) (C := RCk) (T := TCk) (N := 4) hx hb hts (by decide +kernel) tyCk tyCk_ok nmCk hown hK hP hD hS 0 rfl rfl 1 (by decide) (hts (.fieldLink RCk 15 "DeclarativeRows$Checks" "places" "[I") (by decide +kernel)) (fun _ h9 => h9) rfl hin rfl (by decide +kernel) rfl rfl (Nat.le_of_ble_eq_true rfl) dCk_init_17 (fun H locs hP hD hS => ?_)
  have hP : va_P (dC, dI) vwCl [(h0, .inr (1, [.ref q7, .ref q15, .null, .int 0])), (q7, .inl (kI, 100, .inl (fun _ => 0))), (q15, .inl (kI, 100, .inl (fun _ => 0)))] H := hP
  have hD : va_D A [(h0, .inr (1, [.ref q7, .ref q15, .null, .int 0])), (q7, .inl (kI, 100, .inl (fun _ => 0))), (q15, .inl (kI, 100, .inl (fun _ => 0)))] := hD
  refine lv_aload_n hx hb dCk_init_20 rfl (lv_at hl 0 rfl) ?_
  refine lv_bipush (v := 100) hx hb dCk_init_21 (by decide) ?_
  refine xx_newz hx hb (hts (.arrayClass .boolean) (by decide +kernel)) hK hP hD hS hA (N := 100) (by decide) (by decide) (by decide) (Nat.le_of_ble_eq_true rfl) (Nat.le_of_ble_eq_true rfl) dCk_init_23 (fun q23 H hP hD hS => ?_)
  have hP : va_P (dC, dI) vwCl [(h0, .inr (1, [.ref q7, .ref q15, .null, .int 0])), (q7, .inl (kI, 100, .inl (fun _ => 0))), (q15, .inl (kI, 100, .inl (fun _ => 0))), (q23, .inl (kZ, 100, .inl (fun _ => 0)))] H := hP
  have hD : va_D A [(h0, .inr (1, [.ref q7, .ref q15, .null, .int 0])), (q7, .inl (kI, 100, .inl (fun _ => 0))), (q15, .inl (kI, 100, .inl (fun _ => 0))), (q23, .inl (kZ, 100, .inl (fun _ => 0)))] := hD
  refine va_putF (D := (dC, dI)) (ci := 1) (v := .ref q23) (ty := .array .boolean) (C := RCk) (T := TCk) (N := 4) hx hb hts (by decide +kernel) tyCk tyCk_ok nmCk hown hK hP hD hS 0 rfl rfl 2 (by decide) (hts (.fieldLink RCk 18 "DeclarativeRows$Checks" "switches" "[Z") (by decide +kernel)) (fun _ h9 => h9) rfl hin rfl (by decide +kernel) rfl rfl (Nat.le_of_ble_eq_true rfl) dCk_init_25 (fun H locs hP hD hS => ?_)
  have hP : va_P (dC, dI) vwCl [(h0, .inr (1, [.ref q7, .ref q15, .ref q23, .int 0])), (q7, .inl (kI, 100, .inl (fun _ => 0))), (q15, .inl (kI, 100, .inl (fun _ => 0))), (q23, .inl (kZ, 100, .inl (fun _ => 0)))] H := hP
  have hD : va_D A [(h0, .inr (1, [.ref q7, .ref q15, .ref q23, .int 0])), (q7, .inl (kI, 100, .inl (fun _ => 0))), (q15, .inl (kI, 100, .inl (fun _ => 0))), (q23, .inl (kZ, 100, .inl (fun _ => 0)))] := hD
  refine lv_aload_n hx hb dCk_init_28 rfl (lv_at hl 0 rfl) ?_
  refine lv_iconst (v := 0) hx hb dCk_init_29 (by decide) ?_
  refine va_put (D := (dC, dI)) (ci := 1) (v := .int 0) (ty := .int) (C := RCk) (T := TCk) (N := 4) hx hb hts (by decide +kernel) tyCk tyCk_ok nmCk hown hK hP hD hS 0 rfl rfl 3 (by decide) (hts (.fieldLink RCk 22 "DeclarativeRows$Checks" "size" "I") (by decide +kernel)) (fun _ h9 => h9) rfl (by decide +kernel) rfl rfl (Nat.le_of_ble_eq_true rfl) dCk_init_30 (fun H locs hP hD hS => ?_)
  have hP : va_P (dC, dI) vwCl [(h0, .inr (1, [.ref q7, .ref q15, .ref q23, .int 0])), (q7, .inl (kI, 100, .inl (fun _ => 0))), (q15, .inl (kI, 100, .inl (fun _ => 0))), (q23, .inl (kZ, 100, .inl (fun _ => 0)))] H := hP
  have hD : va_D A [(h0, .inr (1, [.ref q7, .ref q15, .ref q23, .int 0])), (q7, .inl (kI, 100, .inl (fun _ => 0))), (q15, .inl (kI, 100, .inl (fun _ => 0))), (q23, .inl (kZ, 100, .inl (fun _ => 0)))] := hD
  refine W.widen (k := 3) (n := 300) (Nat.le_of_ble_eq_true rfl) (Nat.le_of_ble_eq_true rfl) ?_
  exact W.vret hx hb hr (fun t ht hW => ⟨⟨(fun k => [h0, q7, q15, q23].getD k 0), rfl, trivial, by rw [ht]; exact hP, hD⟩, hS.F ht⟩) hS.2.2 dCk_init_33
set_option maxHeartbeats 4000000 in
set_option maxRecDepth 100000 in
theorem m_Checks_size (l : Launch) (dC : Nat → ClassId) (dI : Nat → Nat → Nat) (kI kZ : ClassId) (a0 a1 a2 a3 : Nat) (S : S_Checks) : Met l yCk_size wsCk_size ({ frames := 0, cells := 0, slots := 0, locals := 0 }) (r_Pc dC dI kI kZ [.ref a0] (w_Checks kI kZ a0 a1 a2 a3 S)) (r_Qc (f_Checks_size S)) 0 0 (fun _ => False) := by
  refine Met.ofW (cc := cCk_size) (maxL := 1) (ret := (some .int)) (by decide) rfl ?_
  intro p e s m args below meth c s₁ B hml hv
  obtain ⟨rfl, hP, hX⟩ := hv
  have hK := hX.1
  have hx := B.exec
  have hb := B.bytes
  have hr := B.returns
  have hts := atoms_spec (ws := wsCk_size) B.pre
  have hown : s.vm.findClass RCk = some m.cls := findClass_of_methodNamed B.named
  have hlocks := B.notSynchronized
  have hS : va_S (fun _ => False) s.heap s.heap [] := va_S.rf
  have hP : va_P (dC, dI) vwCl [(a0, .inr (1, [.ref a1, .ref a2, .ref a3, .int S.2.2.2])), (a1, .inl (kI, 100, .inl S.1)), (a2, .inl (kI, 100, .inl S.2.1)), (a3, .inl (kZ, 100, .inl S.2.2.1))] s.heap := hP
  have hl := lv_entry ([.ref a0]) (n := 1) (Nat.le_of_ble_eq_true rfl)
  rw [lg_entry_eq]
  generalize (lg_sl ([.ref a0]) ++ List.replicate (1 - (lg_sl ([.ref a0])).length) Slot.unset).toArray = ls at hl ⊢
  have hl : lv_has ls 1 [(0, .ref a0)] := hl
  refine lv_aload_n hx hb dCk_size_0 rfl (lv_at hl 0 rfl) ?_
  refine va_get (D := (dC, dI)) (ci := 1) (v := .int S.2.2.2) (C := RCk) (T := TCk) (N := 4) hx hb hts (by decide +kernel) hown hK hP 0 rfl rfl 3 (by decide) (hts (.fieldLink RCk 22 "DeclarativeRows$Checks" "size" "I") (by decide +kernel)) (fun _ h9 => h9) rfl dCk_size_1 ?_
  exact W.iret (v := S.2.2.2) hx hb hr (fun t ht hW => ⟨⟨_, (), rfl, (show S.2.2.2 = f_Checks_size S from rfl), trivial⟩, hS.F ht⟩) hS.2.2 dCk_size_4
set_option maxHeartbeats 4000000 in
set_option maxRecDepth 100000 in
theorem m_Checks_isRow (l : Launch) (dC : Nat → ClassId) (dI : Nat → Nat → Nat) (kI kZ : ClassId) (a0 a1 a2 a3 : Nat) (S : S_Checks) (x1 : Int32) : Met l yCk_isRow wsCk_isRow ({ frames := 0, cells := 0, slots := 0, locals := 0 }) (r_Pc dC dI kI kZ [.ref a0, .int x1] (w_Checks kI kZ a0 a1 a2 a3 S)) (r_Qc (f_Checks_isRow S x1)) 0 0 (fun _ => False) := by
  refine Met.ofW (cc := cCk_isRow) (maxL := 2) (ret := (some .boolean)) (by decide) rfl ?_
  intro p e s m args below meth c s₁ B hml hv
  obtain ⟨rfl, hP, hX⟩ := hv
  have hK := hX.1
  have hx := B.exec
  have hb := B.bytes
  have hr := B.returns
  have hts := atoms_spec (ws := wsCk_isRow) B.pre
  have hown : s.vm.findClass RCk = some m.cls := findClass_of_methodNamed B.named
  have hlocks := B.notSynchronized
  have hS : va_S (fun _ => False) s.heap s.heap [] := va_S.rf
  have hP : va_P (dC, dI) vwCl [(a0, .inr (1, [.ref a1, .ref a2, .ref a3, .int S.2.2.2])), (a1, .inl (kI, 100, .inl S.1)), (a2, .inl (kI, 100, .inl S.2.1)), (a3, .inl (kZ, 100, .inl S.2.2.1))] s.heap := hP
  have hl := lv_entry ([.ref a0, .int x1]) (n := 2) (Nat.le_of_ble_eq_true rfl)
  rw [lg_entry_eq]
  generalize (lg_sl ([.ref a0, .int x1]) ++ List.replicate (2 - (lg_sl ([.ref a0, .int x1])).length) Slot.unset).toArray = ls at hl ⊢
  have hl : lv_has ls 2 [(0, .ref a0), (1, .int x1)] := hl
  refine lv_iload_n hx hb dCk_isRow_0 rfl (lv_at hl 1 rfl) ?_
  refine lv_if_lt (tgt := 35) hx hb dCk_isRow_1 (by decide) (fun c_1 => ?_) (fun c_1 => ?_)
  · refine lv_iconst (v := 0) hx hb dCk_isRow_35 (by decide) ?_
    exact W.zret (v := 0) hx hb hr rfl (fun t ht hW => ⟨⟨_, (), rfl, (show 0 = f_Checks_isRow S x1 from by unfold f_Checks_isRow; rw [if_pos c_1]), trivial⟩, hS.F ht⟩) hS.2.2 dCk_isRow_36
  · refine lv_iload_n hx hb dCk_isRow_4 rfl (lv_at hl 1 rfl) ?_
    refine lv_aload_n hx hb dCk_isRow_5 rfl (lv_at hl 0 rfl) ?_
    refine va_get (D := (dC, dI)) (ci := 1) (v := .ref a1) (C := RCk) (T := TCk) (N := 4) hx hb hts (by decide +kernel) hown hK hP 0 rfl rfl 0 (by decide) (hts (.fieldLink RCk 9 "DeclarativeRows$Checks" "exceptions" "[I") (by decide +kernel)) (fun _ h9 => h9) rfl dCk_isRow_6 ?_
    refine va_alen (v := 100) hx hb hK hP 1 0 rfl rfl rfl dCk_isRow_9 ?_
    refine lv_icmp_ge (tgt := 35) hx hb dCk_isRow_10 (by decide) (fun c_2 => ?_) (fun c_2 => ?_)
    · refine lv_iconst (v := 0) hx hb dCk_isRow_35 (by decide) ?_
      exact W.zret (v := 0) hx hb hr rfl (fun t ht hW => ⟨⟨_, (), rfl, (show 0 = f_Checks_isRow S x1 from by unfold f_Checks_isRow; rw [if_neg c_1, if_pos c_2]), trivial⟩, hS.F ht⟩) hS.2.2 dCk_isRow_36
    · refine lv_iload_n hx hb dCk_isRow_13 rfl (lv_at hl 1 rfl) ?_
      refine lv_aload_n hx hb dCk_isRow_14 rfl (lv_at hl 0 rfl) ?_
      refine va_get (D := (dC, dI)) (ci := 1) (v := .ref a2) (C := RCk) (T := TCk) (N := 4) hx hb hts (by decide +kernel) hown hK hP 0 rfl rfl 1 (by decide) (hts (.fieldLink RCk 15 "DeclarativeRows$Checks" "places" "[I") (by decide +kernel)) (fun _ h9 => h9) rfl dCk_isRow_15 ?_
      refine va_alen (v := 100) hx hb hK hP 2 0 rfl rfl rfl dCk_isRow_18 ?_
      refine lv_icmp_ge (tgt := 35) hx hb dCk_isRow_19 (by decide) (fun c_3 => ?_) (fun c_3 => ?_)
      · exact absurd c_3 c_2
      · refine lv_iload_n hx hb dCk_isRow_22 rfl (lv_at hl 1 rfl) ?_
        refine lv_aload_n hx hb dCk_isRow_23 rfl (lv_at hl 0 rfl) ?_
        refine va_get (D := (dC, dI)) (ci := 1) (v := .ref a3) (C := RCk) (T := TCk) (N := 4) hx hb hts (by decide +kernel) hown hK hP 0 rfl rfl 2 (by decide) (hts (.fieldLink RCk 18 "DeclarativeRows$Checks" "switches" "[Z") (by decide +kernel)) (fun _ h9 => h9) rfl dCk_isRow_24 ?_
        refine va_alen (v := 100) hx hb hK hP 3 1 rfl rfl rfl dCk_isRow_27 ?_
        refine lv_icmp_ge (tgt := 35) hx hb dCk_isRow_28 (by decide) (fun c_4 => ?_) (fun c_4 => ?_)
        · exact absurd c_4 c_2
        · refine lv_iconst (v := 1) hx hb dCk_isRow_31 (by decide) ?_
          refine lv_goto (tgt := 36) hx hb dCk_isRow_32 (by decide) ?_
          exact W.zret (v := 1) hx hb hr rfl (fun t ht hW => ⟨⟨_, (), rfl, (show 1 = f_Checks_isRow S x1 from by unfold f_Checks_isRow; rw [if_neg c_1, if_neg c_2]), trivial⟩, hS.F ht⟩) hS.2.2 dCk_isRow_36
set_option maxHeartbeats 4000000 in
set_option maxRecDepth 100000 in
theorem m_Checks_add (l : Launch) (dC : Nat → ClassId) (dI : Nat → Nat → Nat) (kI kZ : ClassId) (sz : Nat) (a0 a1 a2 a3 : Nat) (S : S_Checks) (x1 x2 x3 : Int32) : Met l yCk_add wsCk_add ({ frames := 1, cells := 0, slots := 0, locals := 21 }) (w_Pc dC dI kI kZ sz [.ref a0, .int x1, .int x2, .int x3] (w_Checks kI kZ a0 a1 a2 a3 S)) (w_Qi dC dI (w_Checks kI kZ a0 a1 a2 a3) (w_Checks kI kZ a0 a1 a2 a3 S) sz (f_Checks_add S x1 x2 x3)) 0 0 (va_A (w_Checks kI kZ a0 a1 a2 a3 S) sz) := by
  refine Met.ofW (cc := cCk_add) (maxL := 4) (ret := (some .int)) (by decide) rfl ?_
  intro p e s m args below meth c s₁ B hml hv
  obtain ⟨rfl, hsz, hP, hX, hD0⟩ := hv
  have hK := hX.1
  have hx := B.exec
  have hb := B.bytes
  have hr := B.returns
  have hts := atoms_spec (ws := wsCk_add) B.pre
  have hown : s.vm.findClass RCk = some m.cls := findClass_of_methodNamed B.named
  have hlocks := B.notSynchronized
  subst hsz
  have hD := hD0.self (sz := s.heap.size)
  unfold w_Qi
  generalize hAe : va_A (w_Checks kI kZ a0 a1 a2 a3 S) s.heap.size = A at hD ⊢
  have hA : ∀ q : Nat, s.heap.size ≤ q → A q := fun q h => by rw [← hAe]; exact Or.inr h
  have hS : va_S A s.heap s.heap [] := va_S.rf
  have hP : va_P (dC, dI) vwCl [(a0, .inr (1, [.ref a1, .ref a2, .ref a3, .int S.2.2.2])), (a1, .inl (kI, 100, .inl S.1)), (a2, .inl (kI, 100, .inl S.2.1)), (a3, .inl (kZ, 100, .inl S.2.2.1))] s.heap := hP
  have hD : va_D A [(a0, .inr (1, [.ref a1, .ref a2, .ref a3, .int S.2.2.2])), (a1, .inl (kI, 100, .inl S.1)), (a2, .inl (kI, 100, .inl S.2.1)), (a3, .inl (kZ, 100, .inl S.2.2.1))] := hD
  have hl := lv_entry ([.ref a0, .int x1, .int x2, .int x3]) (n := 4) (Nat.le_of_ble_eq_true rfl)
  rw [lg_entry_eq]
  generalize (lg_sl ([.ref a0, .int x1, .int x2, .int x3]) ++ List.replicate (4 - (lg_sl ([.ref a0, .int x1, .int x2, .int x3])).length) Slot.unset).toArray = ls at hl ⊢
  have hl : lv_has ls 4 [(0, .ref a0), (1, .int x1), (2, .int x2), (3, .int x3)] := hl
  refine lv_aload_n hx hb dCk_add_0 rfl (lv_at hl 0 rfl) ?_
  refine lv_aload_n hx hb dCk_add_1 rfl (lv_at hl 0 rfl) ?_
  refine va_get (D := (dC, dI)) (ci := 1) (v := .int S.2.2.2) (C := RCk) (T := TCk) (N := 4) hx hb hts (by decide +kernel) hown hK hP 0 rfl rfl 3 (by decide) (hts (.fieldLink RCk 22 "DeclarativeRows$Checks" "size" "I") (by decide +kernel)) (fun _ h9 => h9) rfl dCk_add_2 ?_
  refine xx_callR (dC := dC) (dI := dI) (va_runV (As := [.int S.2.2.2]) (rest := []) ⟨hx, hb, hml, hown, hts⟩ (m_Checks_isRow l dC dI kI kZ a0 a1 a2 a3 S S.2.2.2) (cwV 1 hts gCk_add_Ck_isRow rfl rfl rfl (by decide +kernel) ⟨Nat.le_of_ble_eq_true rfl, Nat.le_of_ble_eq_true rfl⟩) (xx_preR hX (hP.sub (ws' := (w_Checks kI kZ a0 a1 a2 a3 S)) [0, 1, 2, 3] rfl) (ci := 1) (q0 := 0) rfl rfl) rfl rfl hl.1 rfl (lv_room (Nat.le_of_ble_eq_true rfl)) dCk_add_5 ⟨Nat.le_of_ble_eq_true rfl, Nat.le_of_ble_eq_true rfl⟩) hS (fun H locs kp hS => ?_)
  have hP := kp _ hP
  refine lv_if_ne (tgt := 13) hx hb dCk_add_8 (by decide) (fun c_1 => ?_) (fun c_1 => ?_)
  · refine lv_aload_n hx hb dCk_add_13 rfl (lv_at hl 0 rfl) ?_
    refine va_get (D := (dC, dI)) (ci := 1) (v := .ref a1) (C := RCk) (T := TCk) (N := 4) hx hb hts (by decide +kernel) hown hK hP 0 rfl rfl 0 (by decide) (hts (.fieldLink RCk 9 "DeclarativeRows$Checks" "exceptions" "[I") (by decide +kernel)) (fun _ h9 => h9) rfl dCk_add_14 ?_
    refine lv_aload_n hx hb dCk_add_17 rfl (lv_at hl 0 rfl) ?_
    refine va_get (D := (dC, dI)) (ci := 1) (v := .int S.2.2.2) (C := RCk) (T := TCk) (N := 4) hx hb hts (by decide +kernel) hown hK hP 0 rfl rfl 3 (by decide) (hts (.fieldLink RCk 22 "DeclarativeRows$Checks" "size" "I") (by decide +kernel)) (fun _ h9 => h9) rfl dCk_add_18 ?_
    refine lv_iload_n hx hb dCk_add_21 rfl (lv_at hl 1 rfl) ?_
    refine va_iast hx hb hK hP hD hS 1 0 rfl rfl (i := S.2.2.2) (x := x1) (in_rowC c_1) dCk_add_22 (fun H locs hP hD hS => ?_)
    have hP : va_P (dC, dI) vwCl [(a0, .inr (1, [.ref a1, .ref a2, .ref a3, .int S.2.2.2])), (a1, .inl (kI, 100, .inl (upd S.1 S.2.2.2.toNatClampNeg x1))), (a2, .inl (kI, 100, .inl S.2.1)), (a3, .inl (kZ, 100, .inl S.2.2.1))] H := hP
    have hD : va_D A [(a0, .inr (1, [.ref a1, .ref a2, .ref a3, .int S.2.2.2])), (a1, .inl (kI, 100, .inl (upd S.1 S.2.2.2.toNatClampNeg x1))), (a2, .inl (kI, 100, .inl S.2.1)), (a3, .inl (kZ, 100, .inl S.2.2.1))] := hD
    refine lv_aload_n hx hb dCk_add_23 rfl (lv_at hl 0 rfl) ?_
    refine va_get (D := (dC, dI)) (ci := 1) (v := .ref a2) (C := RCk) (T := TCk) (N := 4) hx hb hts (by decide +kernel) hown hK hP 0 rfl rfl 1 (by decide) (hts (.fieldLink RCk 15 "DeclarativeRows$Checks" "places" "[I") (by decide +kernel)) (fun _ h9 => h9) rfl dCk_add_24 ?_
    refine lv_aload_n hx hb dCk_add_27 rfl (lv_at hl 0 rfl) ?_
    refine va_get (D := (dC, dI)) (ci := 1) (v := .int S.2.2.2) (C := RCk) (T := TCk) (N := 4) hx hb hts (by decide +kernel) hown hK hP 0 rfl rfl 3 (by decide) (hts (.fieldLink RCk 22 "DeclarativeRows$Checks" "size" "I") (by decide +kernel)) (fun _ h9 => h9) rfl dCk_add_28 ?_
    refine lv_iload_n hx hb dCk_add_31 rfl (lv_at hl 2 rfl) ?_
    refine va_iast hx hb hK hP hD hS 2 0 rfl rfl (i := S.2.2.2) (x := x2) (in_rowC c_1) dCk_add_32 (fun H locs hP hD hS => ?_)
    have hP : va_P (dC, dI) vwCl [(a0, .inr (1, [.ref a1, .ref a2, .ref a3, .int S.2.2.2])), (a1, .inl (kI, 100, .inl (upd S.1 S.2.2.2.toNatClampNeg x1))), (a2, .inl (kI, 100, .inl (upd S.2.1 S.2.2.2.toNatClampNeg x2))), (a3, .inl (kZ, 100, .inl S.2.2.1))] H := hP
    have hD : va_D A [(a0, .inr (1, [.ref a1, .ref a2, .ref a3, .int S.2.2.2])), (a1, .inl (kI, 100, .inl (upd S.1 S.2.2.2.toNatClampNeg x1))), (a2, .inl (kI, 100, .inl (upd S.2.1 S.2.2.2.toNatClampNeg x2))), (a3, .inl (kZ, 100, .inl S.2.2.1))] := hD
    refine lv_aload_n hx hb dCk_add_33 rfl (lv_at hl 0 rfl) ?_
    refine va_get (D := (dC, dI)) (ci := 1) (v := .ref a3) (C := RCk) (T := TCk) (N := 4) hx hb hts (by decide +kernel) hown hK hP 0 rfl rfl 2 (by decide) (hts (.fieldLink RCk 18 "DeclarativeRows$Checks" "switches" "[Z") (by decide +kernel)) (fun _ h9 => h9) rfl dCk_add_34 ?_
    refine lv_aload_n hx hb dCk_add_37 rfl (lv_at hl 0 rfl) ?_
    refine va_get (D := (dC, dI)) (ci := 1) (v := .int S.2.2.2) (C := RCk) (T := TCk) (N := 4) hx hb hts (by decide +kernel) hown hK hP 0 rfl rfl 3 (by decide) (hts (.fieldLink RCk 22 "DeclarativeRows$Checks" "size" "I") (by decide +kernel)) (fun _ h9 => h9) rfl dCk_add_38 ?_
    refine lv_iload_n hx hb dCk_add_41 rfl (lv_at hl 3 rfl) ?_
    refine va_zast hx hb hK hP hD hS 3 1 rfl rfl (i := S.2.2.2) (x := x3) (in_rowC c_1) dCk_add_42 (fun H locs hP hD hS => ?_)
    have hP : va_P (dC, dI) vwCl [(a0, .inr (1, [.ref a1, .ref a2, .ref a3, .int S.2.2.2])), (a1, .inl (kI, 100, .inl (upd S.1 S.2.2.2.toNatClampNeg x1))), (a2, .inl (kI, 100, .inl (upd S.2.1 S.2.2.2.toNatClampNeg x2))), (a3, .inl (kZ, 100, .inl (upd S.2.2.1 S.2.2.2.toNatClampNeg (vp_nar .boolean x3))))] H := hP
    have hD : va_D A [(a0, .inr (1, [.ref a1, .ref a2, .ref a3, .int S.2.2.2])), (a1, .inl (kI, 100, .inl (upd S.1 S.2.2.2.toNatClampNeg x1))), (a2, .inl (kI, 100, .inl (upd S.2.1 S.2.2.2.toNatClampNeg x2))), (a3, .inl (kZ, 100, .inl (upd S.2.2.1 S.2.2.2.toNatClampNeg (vp_nar .boolean x3))))] := hD
    refine lv_aload_n hx hb dCk_add_43 rfl (lv_at hl 0 rfl) ?_
    refine lv_dup hx hb dCk_add_44 rfl ?_
    refine va_get (D := (dC, dI)) (ci := 1) (v := .int S.2.2.2) (C := RCk) (T := TCk) (N := 4) hx hb hts (by decide +kernel) hown hK hP 0 rfl rfl 3 (by decide) (hts (.fieldLink RCk 22 "DeclarativeRows$Checks" "size" "I") (by decide +kernel)) (fun _ h9 => h9) rfl dCk_add_45 ?_
    refine lv_iconst (v := 1) hx hb dCk_add_48 (by decide) ?_
    refine lv_iadd hx hb dCk_add_49 ?_
    refine va_put (D := (dC, dI)) (ci := 1) (v := .int (S.2.2.2 + 1)) (ty := .int) (C := RCk) (T := TCk) (N := 4) hx hb hts (by decide +kernel) tyCk tyCk_ok nmCk hown hK hP hD hS 0 rfl rfl 3 (by decide) (hts (.fieldLink RCk 22 "DeclarativeRows$Checks" "size" "I") (by decide +kernel)) (fun _ h9 => h9) rfl (by decide +kernel) rfl rfl (Nat.le_of_ble_eq_true rfl) dCk_add_50 (fun H locs hP hD hS => ?_)
    have hP : va_P (dC, dI) vwCl [(a0, .inr (1, [.ref a1, .ref a2, .ref a3, .int (S.2.2.2 + 1)])), (a1, .inl (kI, 100, .inl (upd S.1 S.2.2.2.toNatClampNeg x1))), (a2, .inl (kI, 100, .inl (upd S.2.1 S.2.2.2.toNatClampNeg x2))), (a3, .inl (kZ, 100, .inl (upd S.2.2.1 S.2.2.2.toNatClampNeg (vp_nar .boolean x3))))] H := hP
    have hD : va_D A [(a0, .inr (1, [.ref a1, .ref a2, .ref a3, .int (S.2.2.2 + 1)])), (a1, .inl (kI, 100, .inl (upd S.1 S.2.2.2.toNatClampNeg x1))), (a2, .inl (kI, 100, .inl (upd S.2.1 S.2.2.2.toNatClampNeg x2))), (a3, .inl (kZ, 100, .inl (upd S.2.2.1 S.2.2.2.toNatClampNeg (vp_nar .boolean x3))))] := hD
    refine lv_aload_n hx hb dCk_add_53 rfl (lv_at hl 0 rfl) ?_
    refine va_get (D := (dC, dI)) (ci := 1) (v := .int (S.2.2.2 + 1)) (C := RCk) (T := TCk) (N := 4) hx hb hts (by decide +kernel) hown hK hP 0 rfl rfl 3 (by decide) (hts (.fieldLink RCk 22 "DeclarativeRows$Checks" "size" "I") (by decide +kernel)) (fun _ h9 => h9) rfl dCk_add_54 ?_
    exact W.iret (v := (S.2.2.2 + 1)) hx hb hr (fun t ht hW => ⟨⟨_, ((upd S.1 S.2.2.2.toNatClampNeg x1), (upd S.2.1 S.2.2.2.toNatClampNeg x2), (upd S.2.2.1 S.2.2.2.toNatClampNeg (vp_nar .boolean x3)), (S.2.2.2 + 1)), rfl, (show ((S.2.2.2 + 1), ((upd S.1 S.2.2.2.toNatClampNeg x1), (upd S.2.1 S.2.2.2.toNatClampNeg x2), (upd S.2.2.1 S.2.2.2.toNatClampNeg (vp_nar .boolean x3)), (S.2.2.2 + 1))) = f_Checks_add S x1 x2 x3 from by unfold f_Checks_add; rw [if_neg c_1]), by rw [ht]; exact hP, hD⟩, hS.F ht⟩) hS.2.2 dCk_add_57
  · refine lv_iconst (v := -1) hx hb dCk_add_11 (by decide) ?_
    exact W.iret (v := -1) hx hb hr (fun t ht hW => ⟨⟨_, S, rfl, (show (-1, S) = f_Checks_add S x1 x2 x3 from by unfold f_Checks_add; rw [if_pos c_1]), by rw [ht]; exact hP, hD⟩, hS.F ht⟩) hS.2.2 dCk_add_12
set_option maxHeartbeats 4000000 in
set_option maxRecDepth 100000 in
theorem m_Checks_areOn (l : Launch) (dC : Nat → ClassId) (dI : Nat → Nat → Nat) (kI kZ : ClassId) (a0 a1 a2 a3 : Nat) (b0 b1 b2 b3 : Nat) (S : S_Checks) (S2 : S_Tree) (x2 x3 : Int32) (hsw : ∀ j, narrow .boolean (.int (S.2.2.1 j)) = .int (S.2.2.1 j)) : Met l yCk_areOn wsCk_areOn ({ frames := 3, cells := 0, slots := 0, locals := 66 }) (r_Pc dC dI kI kZ [.ref a0, .ref b0, .int x2, .int x3] (w_Checks kI kZ a0 a1 a2 a3 S ++ w_Tree kI kZ b0 b1 b2 b3 S2)) (r_Qc (f_Checks_areOn S S2 x2 x3)) 0 0 (fun _ => False) := by
  refine Met.ofW (cc := cCk_areOn) (maxL := 7) (ret := (some .boolean)) (by decide) rfl ?_
  intro p e s m args below meth c s₁ B hml hv
  obtain ⟨rfl, hP, hX⟩ := hv
  have hK := hX.1
  have hx := B.exec
  have hb := B.bytes
  have hr := B.returns
  have hts := atoms_spec (ws := wsCk_areOn) B.pre
  have hown : s.vm.findClass RCk = some m.cls := findClass_of_methodNamed B.named
  have hlocks := B.notSynchronized
  have hS : va_S (fun _ => False) s.heap s.heap [] := va_S.rf
  have hP : va_P (dC, dI) vwCl [(a0, .inr (1, [.ref a1, .ref a2, .ref a3, .int S.2.2.2])), (a1, .inl (kI, 100, .inl S.1)), (a2, .inl (kI, 100, .inl S.2.1)), (a3, .inl (kZ, 100, .inl S.2.2.1)), (b0, .inr (0, [.ref b1, .ref b2, .ref b3, .int S2.2.2.2])), (b1, .inl (kI, 61, .inl S2.1)), (b2, .inl (kI, 61, .inl S2.2.1)), (b3, .inl (kI, 4, .inl S2.2.2.1))] s.heap := hP
  have hl := lv_entry ([.ref a0, .ref b0, .int x2, .int x3]) (n := 7) (Nat.le_of_ble_eq_true rfl)
  rw [lg_entry_eq]
  generalize (lg_sl ([.ref a0, .ref b0, .int x2, .int x3]) ++ List.replicate (7 - (lg_sl ([.ref a0, .ref b0, .int x2, .int x3])).length) Slot.unset).toArray = ls at hl ⊢
  have hl : lv_has ls 7 [(0, .ref a0), (1, .ref b0), (2, .int x2), (3, .int x3)] := hl
  refine lv_iconst (v := 0) hx hb dCk_areOn_0 (by decide) ?_
  refine lv_istore (lv' := [(4, .int 0), (0, .ref a0), (1, .ref b0), (2, .int x2), (3, .int x3)]) hx hb dCk_areOn_1 hl (by decide) rfl (fun ls hl => ?_)
  refine lv_iconst (v := 0) hx hb dCk_areOn_3 (by decide) ?_
  refine lv_istore (lv' := [(5, .int 0), (4, .int 0), (0, .ref a0), (1, .ref b0), (2, .int x2), (3, .int x3)]) hx hb dCk_areOn_4 hl (by decide) rfl (fun ls hl => ?_)
  refine lv_iconst (v := 0) hx hb dCk_areOn_6 (by decide) ?_
  refine lv_istore (lv' := [(6, .int 0), (5, .int 0), (4, .int 0), (0, .ref a0), (1, .ref b0), (2, .int x2), (3, .int x3)]) hx hb dCk_areOn_7 hl (by decide) rfl (fun ls hl => ?_)
  refine (?_ : ∀ (k j : Nat) (x4 : Int32) (x5 : Int32) (x6 : Int32) (ls : Array Slot) (H : Heap) (locs : List Loc), lv_has ls 7 [(0, .ref a0), (1, .ref b0), (2, .int x2), (3, .int x3), (4, .int x4), (5, .int x5), (6, .int x6)] → va_P (dC, dI) vwCl [(a0, .inr (1, [.ref a1, .ref a2, .ref a3, .int S.2.2.2])), (a1, .inl (kI, 100, .inl S.1)), (a2, .inl (kI, 100, .inl S.2.1)), (a3, .inl (kZ, 100, .inl S.2.2.1)), (b0, .inr (0, [.ref b1, .ref b2, .ref b3, .int S2.2.2.2])), (b1, .inl (kI, 61, .inl S2.1)), (b2, .inl (kI, 61, .inl S2.2.1)), (b3, .inl (kI, 4, .inl S2.2.2.1))] H → va_S (fun _ => False) s.heap H locs → x6 = nI j → j ≤ 100 → 100 < j + k → f_Checks_areOn S S2 x2 x3 = f_Checks_areOn_L9 S S2 x2 x3 k x4 x5 x6 → narrow .boolean (.int x4) = .int x4 → W p l e _ s m _ below meth c H locs _ _ _ (F0 m 9 ls [])) 101 0 0 0 0 ls _ _ (lv_sub hl [3, 4, 5, 6, 2, 1, 0] rfl) hP hS (nI_0.symm) (by omega) (by omega) (rfl) (rfl)
  intro k9
  induction k9 with
  | zero => intro j9 x4 x5 x6 ls H locs hl hP hS hj9 hjN9 hk9 hI9 hv0; exfalso; omega
  | succ k9 ih9 =>
    intro j9 x4 x5 x6 ls H locs hl hP hS hj9 hjN9 hk9 hI9 hv0
    refine lv_iload hx hb dCk_areOn_9 (lv_at hl 6 rfl) ?_
    refine lv_aload_n hx hb dCk_areOn_11 rfl (lv_at hl 0 rfl) ?_
    refine va_get (D := (dC, dI)) (ci := 1) (v := .int S.2.2.2) (C := RCk) (T := TCk) (N := 4) hx hb hts (by decide +kernel) hown hK hP 0 rfl rfl 3 (by decide) (hts (.fieldLink RCk 22 "DeclarativeRows$Checks" "size" "I") (by decide +kernel)) (fun _ h9 => h9) rfl dCk_areOn_12 ?_
    refine lv_icmp_ge (tgt := 93) hx hb dCk_areOn_15 (by decide) (fun c_1 => ?_) (fun c_1 => ?_)
    · refine lv_iload hx hb dCk_areOn_93 (lv_at hl 4 rfl) ?_
      exact W.zret (v := x4) hx hb hr hv0 (fun t ht hW => ⟨⟨_, (), rfl, (show x4 = f_Checks_areOn S S2 x2 x3 from by rw [hI9, f_Checks_areOn_L9, if_pos c_1]), trivial⟩, hS.F ht⟩) hS.2.2 dCk_areOn_95
    · refine lv_aload_n hx hb dCk_areOn_18 rfl (lv_at hl 0 rfl) ?_
      refine lv_iload hx hb dCk_areOn_19 (lv_at hl 6 rfl) ?_
      refine xx_callR (dC := dC) (dI := dI) (va_runV (As := [.int x6]) (rest := []) ⟨hx, hb, hml, hown, hts⟩ (m_Checks_isRow l dC dI kI kZ a0 a1 a2 a3 S x6) (cwV 1 hts gCk_areOn_Ck_isRow rfl rfl rfl (by decide +kernel) ⟨Nat.le_of_ble_eq_true rfl, Nat.le_of_ble_eq_true rfl⟩) (xx_preR hX (hP.sub (ws' := (w_Checks kI kZ a0 a1 a2 a3 S)) [0, 1, 2, 3] rfl) (ci := 1) (q0 := 0) rfl rfl) rfl rfl hl.1 rfl (lv_room (Nat.le_of_ble_eq_true rfl)) dCk_areOn_21 ⟨Nat.le_of_ble_eq_true rfl, Nat.le_of_ble_eq_true rfl⟩) hS (fun H locs kp hS => ?_)
      have hP := kp _ hP
      refine lv_if_eq (tgt := 93) hx hb dCk_areOn_24 (by decide) (fun c_2 => ?_) (fun c_2 => ?_)
      · refine lv_iload hx hb dCk_areOn_93 (lv_at hl 4 rfl) ?_
        exact W.zret (v := x4) hx hb hr hv0 (fun t ht hW => ⟨⟨_, (), rfl, (show x4 = f_Checks_areOn S S2 x2 x3 from by rw [hI9, f_Checks_areOn_L9, if_neg c_1, if_pos c_2]), trivial⟩, hS.F ht⟩) hS.2.2 dCk_areOn_95
      · have hjl : j9 < 100 := lt_rowC hj9 (by omega) c_2
        have hin := in_rowC c_2
        refine lv_aload_n hx hb dCk_areOn_27 rfl (lv_at hl 0 rfl) ?_
        refine va_get (D := (dC, dI)) (ci := 1) (v := .ref a2) (C := RCk) (T := TCk) (N := 4) hx hb hts (by decide +kernel) hown hK hP 0 rfl rfl 1 (by decide) (hts (.fieldLink RCk 15 "DeclarativeRows$Checks" "places" "[I") (by decide +kernel)) (fun _ h9 => h9) rfl dCk_areOn_28 ?_
        refine lv_iload hx hb dCk_areOn_31 (lv_at hl 6 rfl) ?_
        refine va_iald hx hb hK hP 2 0 rfl rfl (i := x6) (hin) dCk_areOn_33 ?_
        refine lv_iload hx hb dCk_areOn_34 (lv_at hl 5 rfl) ?_
        refine lv_icmp_lt (tgt := 87) hx hb dCk_areOn_36 (by decide) (fun c_3 => ?_) (fun c_3 => ?_)
        · refine lv_iinc (v := (x6 + 1)) (lv' := [(6, .int (x6 + 1)), (0, .ref a0), (1, .ref b0), (2, .int x2), (3, .int x3), (4, .int x4), (5, .int x5)]) hx hb dCk_areOn_87 hl (k := 6) rfl rfl (by decide) rfl (fun ls hl => ?_)
          refine lv_goto (tgt := 9) hx hb dCk_areOn_90 (by decide) ?_
          exact ih9 (j9 + 1) x4 x5 (x6 + 1) ls _ _ (lv_sub hl [1, 2, 3, 4, 5, 6, 0] rfl) hP hS (by rw [hj9]; exact nI_1 j9) (by omega) (by omega) (by rw [hI9, f_Checks_areOn_L9, if_neg c_1, if_neg c_2, if_pos c_3]) (by first | exact hv0 | exact hsw _)
        · refine lv_aload_n hx hb dCk_areOn_39 rfl (lv_at hl 0 rfl) ?_
          refine va_get (D := (dC, dI)) (ci := 1) (v := .ref a2) (C := RCk) (T := TCk) (N := 4) hx hb hts (by decide +kernel) hown hK hP 0 rfl rfl 1 (by decide) (hts (.fieldLink RCk 15 "DeclarativeRows$Checks" "places" "[I") (by decide +kernel)) (fun _ h9 => h9) rfl dCk_areOn_40 ?_
          refine lv_iload hx hb dCk_areOn_43 (lv_at hl 6 rfl) ?_
          refine va_iald hx hb hK hP 2 0 rfl rfl (i := x6) (hin) dCk_areOn_45 ?_
          refine lv_iload_n hx hb dCk_areOn_46 rfl (lv_at hl 3 rfl) ?_
          refine lv_icmp_gt (tgt := 87) hx hb dCk_areOn_47 (by decide) (fun c_4 => ?_) (fun c_4 => ?_)
          · refine lv_iinc (v := (x6 + 1)) (lv' := [(6, .int (x6 + 1)), (0, .ref a0), (1, .ref b0), (2, .int x2), (3, .int x3), (4, .int x4), (5, .int x5)]) hx hb dCk_areOn_87 hl (k := 6) rfl rfl (by decide) rfl (fun ls hl => ?_)
            refine lv_goto (tgt := 9) hx hb dCk_areOn_90 (by decide) ?_
            exact ih9 (j9 + 1) x4 x5 (x6 + 1) ls _ _ (lv_sub hl [1, 2, 3, 4, 5, 6, 0] rfl) hP hS (by rw [hj9]; exact nI_1 j9) (by omega) (by omega) (by rw [hI9, f_Checks_areOn_L9, if_neg c_1, if_neg c_2, if_neg c_3, if_pos c_4]) (by first | exact hv0 | exact hsw _)
          · refine lv_aload_n hx hb dCk_areOn_50 rfl (lv_at hl 1 rfl) ?_
            refine lv_ifnull hx hb dCk_areOn_51 ?_
            refine lv_aload_n hx hb dCk_areOn_54 rfl (lv_at hl 1 rfl) ?_
            refine lv_aload_n hx hb dCk_areOn_55 rfl (lv_at hl 0 rfl) ?_
            refine va_get (D := (dC, dI)) (ci := 1) (v := .ref a1) (C := RCk) (T := TCk) (N := 4) hx hb hts (by decide +kernel) hown hK hP 0 rfl rfl 0 (by decide) (hts (.fieldLink RCk 9 "DeclarativeRows$Checks" "exceptions" "[I") (by decide +kernel)) (fun _ h9 => h9) rfl dCk_areOn_56 ?_
            refine lv_iload hx hb dCk_areOn_59 (lv_at hl 6 rfl) ?_
            refine va_iald hx hb hK hP 1 0 rfl rfl (i := x6) (hin) dCk_areOn_61 ?_
            refine lv_iload_n hx hb dCk_areOn_62 rfl (lv_at hl 2 rfl) ?_
            refine xx_callR (dC := dC) (dI := dI) (va_runV (As := [.int (S.1 x6.toNatClampNeg), .int x2]) (rest := []) ⟨hx, hb, hml, hown, hts⟩ (m_Tree_isSameOrAbove l dC dI kI kZ b0 b1 b2 b3 S2 (S.1 x6.toNatClampNeg) x2) (cwV 2 hts gCk_areOn_Tr_isSameOrAbove rfl rfl rfl (by decide +kernel) ⟨Nat.le_of_ble_eq_true rfl, Nat.le_of_ble_eq_true rfl⟩) (xx_preR hX (hP.sub (ws' := (w_Tree kI kZ b0 b1 b2 b3 S2)) [4, 5, 6, 7] rfl) (ci := 0) (q0 := 0) rfl rfl) rfl rfl hl.1 rfl (lv_room (Nat.le_of_ble_eq_true rfl)) dCk_areOn_63 ⟨Nat.le_of_ble_eq_true rfl, Nat.le_of_ble_eq_true rfl⟩) hS (fun H locs kp hS => ?_)
            have hP := kp _ hP
            refine lv_if_eq (tgt := 87) hx hb dCk_areOn_66 (by decide) (fun c_5 => ?_) (fun c_5 => ?_)
            · refine lv_iinc (v := (x6 + 1)) (lv' := [(6, .int (x6 + 1)), (0, .ref a0), (1, .ref b0), (2, .int x2), (3, .int x3), (4, .int x4), (5, .int x5)]) hx hb dCk_areOn_87 hl (k := 6) rfl rfl (by decide) rfl (fun ls hl => ?_)
              refine lv_goto (tgt := 9) hx hb dCk_areOn_90 (by decide) ?_
              exact ih9 (j9 + 1) x4 x5 (x6 + 1) ls _ _ (lv_sub hl [1, 2, 3, 4, 5, 6, 0] rfl) hP hS (by rw [hj9]; exact nI_1 j9) (by omega) (by omega) (by rw [hI9, f_Checks_areOn_L9, if_neg c_1, if_neg c_2, if_neg c_3, if_neg c_4, if_pos c_5]) (by first | exact hv0 | exact hsw _)
            · refine lv_aload_n hx hb dCk_areOn_69 rfl (lv_at hl 0 rfl) ?_
              refine va_get (D := (dC, dI)) (ci := 1) (v := .ref a2) (C := RCk) (T := TCk) (N := 4) hx hb hts (by decide +kernel) hown hK hP 0 rfl rfl 1 (by decide) (hts (.fieldLink RCk 15 "DeclarativeRows$Checks" "places" "[I") (by decide +kernel)) (fun _ h9 => h9) rfl dCk_areOn_70 ?_
              refine lv_iload hx hb dCk_areOn_73 (lv_at hl 6 rfl) ?_
              refine va_iald hx hb hK hP 2 0 rfl rfl (i := x6) (hin) dCk_areOn_75 ?_
              refine lv_istore (lv' := [(5, .int (S.2.1 x6.toNatClampNeg)), (0, .ref a0), (1, .ref b0), (2, .int x2), (3, .int x3), (4, .int x4), (6, .int x6)]) hx hb dCk_areOn_76 hl (by decide) rfl (fun ls hl => ?_)
              refine lv_aload_n hx hb dCk_areOn_78 rfl (lv_at hl 1 rfl) ?_
              refine va_get (D := (dC, dI)) (ci := 1) (v := .ref a3) (C := RCk) (T := TCk) (N := 4) hx hb hts (by decide +kernel) hown hK hP 0 rfl rfl 2 (by decide) (hts (.fieldLink RCk 18 "DeclarativeRows$Checks" "switches" "[Z") (by decide +kernel)) (fun _ h9 => h9) rfl dCk_areOn_79 ?_
              refine lv_iload hx hb dCk_areOn_82 (lv_at hl 6 rfl) ?_
              refine va_zald hx hb hK hP 3 1 rfl rfl (i := x6) (hin) dCk_areOn_84 ?_
              refine lv_istore (lv' := [(4, .int (S.2.2.1 x6.toNatClampNeg)), (5, .int (S.2.1 x6.toNatClampNeg)), (0, .ref a0), (1, .ref b0), (2, .int x2), (3, .int x3), (6, .int x6)]) hx hb dCk_areOn_85 hl (by decide) rfl (fun ls hl => ?_)
              refine lv_iinc (v := (x6 + 1)) (lv' := [(6, .int (x6 + 1)), (4, .int (S.2.2.1 x6.toNatClampNeg)), (5, .int (S.2.1 x6.toNatClampNeg)), (0, .ref a0), (1, .ref b0), (2, .int x2), (3, .int x3)]) hx hb dCk_areOn_87 hl (k := 6) rfl rfl (by decide) rfl (fun ls hl => ?_)
              refine lv_goto (tgt := 9) hx hb dCk_areOn_90 (by decide) ?_
              exact ih9 (j9 + 1) (S.2.2.1 x6.toNatClampNeg) (S.2.1 x6.toNatClampNeg) (x6 + 1) ls _ _ (lv_sub hl [3, 4, 5, 6, 1, 2, 0] rfl) hP hS (by rw [hj9]; exact nI_1 j9) (by omega) (by omega) (by rw [hI9, f_Checks_areOn_L9, if_neg c_1, if_neg c_2, if_neg c_3, if_neg c_4, if_neg c_5]) (by first | exact hv0 | exact hsw _)
