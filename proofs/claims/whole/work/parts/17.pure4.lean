theorem useAt_eq {N : S_Running} {n : Nat} (hn : N.2.2 = nI n) (hn10 : n ≤ 10) (x : Int32) : f_Running_useAt N x = if x < 0 then 0 else if nI n ≤ x then 0 else N.1 ((nI n - 1) - x).toNatClampNeg := by
  unfold f_Running_useAt
  rw [hn]
  by_cases q0 : x < 0
  · rw [if_pos (below_n q0), if_pos q0]
  by_cases q1 : nI n ≤ x
  · rw [if_pos (below_h q1), if_neg q0, if_pos q1]
  · rw [if_neg (below_y q0 q1), if_neg q0, if_neg q1]
    obtain ⟨j, hj, hx⟩ := nI_of q0
    rw [hx, nI_leI (by omega) hj] at q1
    have e : (nI n - 1) - x = nI (n - 1 - j) := by rw [hx, show (1 : Int32) = nI 1 from rfl, pk_sub (by omega), pk_sub (by omega)]
    have r : ¬ f_Running_isRow N ((nI n - 1) - x) = 0 := by rw [e]; exact rowR_1 (by omega)
    rw [if_neg r]
theorem q_taken {X : S_Rows} {M : S_Model} (h : Rel X M) (x : Int32) : f_Rows_taken X x = (f_Model_taken M x).1 ∧ Rel X (f_Model_taken M x).2 := by
  obtain ⟨nE, nC, nU, nR, hE, hC, hU, hM, hR, hL, hZ⟩ := id h
  unfold f_Rows_taken f_Model_taken
  rw [useAt_eq hR.1 hR.2.2.1, hR.2.1]
  by_cases q0 : x < 0
  · rw [if_pos q0, if_pos q0]; exact ⟨rfl, h⟩
  by_cases q1 : nI nR ≤ x
  · rw [if_neg q0, if_neg q0, if_pos q1, if_pos q1]; exact ⟨rfl, h⟩
  · rw [if_neg q0, if_neg q0, if_neg q1, if_neg q1]
    have hn10 := hR.2.2.1
    obtain ⟨j, hj, hx⟩ := nI_of q0
    rw [hx, nI_leI (by omega) hj] at q1
    have e : (nI nR - 1) - x = nI (nR - 1 - j) := by rw [hx, show (1 : Int32) = nI 1 from rfl, pk_sub (by omega), pk_sub (by omega)]
    rw [e, nI_clamp (by omega)]
    exact ⟨(hR.2.2.2 (nR - 1 - j) (by omega)).1, h⟩
theorem res_tail {X : S_Rows} {M : S_Model} (h : Rel X M) {n : Nat} (hR : RelR X.2.2.2.2.1 M.2.2.2.2.1 M.2.2.2.2.2.2.2.2.2.2.2.2.2.2.2.2.2.1 M.2.2.2.2.2.2.2.2.2.2.2.2.2.2.2.2.2.2.1 n) (hp : 1 ≤ n) : (f_Running_endLatest X.2.2.2.2.1).1 = M.2.2.2.2.2.2.2.2.2.2.2.2.2.2.2.2.2.2.1 (n - 1) ∧ Rel (X.1, X.2.1, X.2.2.1, X.2.2.2.1, (f_Running_endLatest X.2.2.2.2.1).2, X.2.2.2.2.2) (0, M.2.1, M.2.2.1, M.2.2.2.1, M.2.2.2.2.1 - 1, M.2.2.2.2.2) := by
  obtain ⟨nE, nC, nU, nR, hE, hC, hU, hM, -, hL, hZ⟩ := id h
  have hn10 := hR.2.2.1
  have e1 : X.2.2.2.2.1.2.2 - 1 = nI (n - 1) := by rw [hR.1, show (1 : Int32) = nI 1 from rfl, pk_sub hp]
  have e2 : M.2.2.2.2.1 - 1 = nI (n - 1) := by rw [hR.2.1, show (1 : Int32) = nI 1 from rfl, pk_sub hp]
  have r : ¬ f_Running_isRow X.2.2.2.2.1 (nI (n - 1)) = 0 := rowR_1 (by omega)
  unfold f_Running_endLatest
  rw [e1, if_neg r, nI_clamp (by omega)]
  refine ⟨(hR.2.2.2 (n - 1) (by omega)).2.1, nE, nC, nU, n - 1, hE, hC, hU, hM, ⟨rfl, e2, by omega, fun i hi => hR.2.2.2 i (by omega)⟩, hL, hZ⟩
theorem q_resume {X : S_Rows} {M : S_Model} (h : Rel X M) (x1 x2 : Int32) : (f_Rows_resume X x1 x2).1 = (f_Model_resume M x1 x2).1 ∧ Rel (f_Rows_resume X x1 x2).2 (f_Model_resume M x1 x2).2 := by
  obtain ⟨nE, nC, nU, nR, hE, hC, hU, hM, hR, hL, hZ1, hZ2, hZ3, hZ4⟩ := id h
  have hn10 := hR.2.2.1
  unfold f_Rows_resume f_Model_resume f_Running_size
  by_cases q0 : x2 < 0
  · rw [if_pos (below_n q0), if_pos q0]; exact ⟨rfl, h⟩
  by_cases q1 : x2 ≤ 9999
  · rw [if_neg (below_y q0 (fun z => (le_p (a := 9999) rfl).mp z q1)), if_neg q0, if_pos q1, hZ3]
    by_cases z : M.2.2.2.2.2.2.2.1 = 0
    · rw [if_pos z, if_pos z, hR.1, hR.2.1]
      by_cases w : nI nR = 0
      · rw [if_pos w, if_pos w]; exact ⟨rfl, h⟩
      · rw [if_neg w, if_neg w]
        have hp : 1 ≤ nR := jpos rfl w
        have e : nI nR - 1 = nI (nR - 1) := by rw [show (1 : Int32) = nI 1 from rfl, pk_sub hp]
        have ea : f_Running_useAt X.2.2.2.2.1 0 = M.2.2.2.2.2.2.2.2.2.2.2.2.2.2.2.2.2.1 (nR - 1) := by
          rw [useAt_eq hR.1 hn10, if_neg (show ¬ (0 : Int32) < 0 by decide), if_neg (show ¬ nI nR ≤ 0 from nI_nle hp (by omega)), show (nI nR - 1) - 0 = nI (nR - 1) by rw [e, show (0 : Int32) = nI 0 from rfl, pk_sub (by omega)]; rfl, nI_clamp (by omega)]
          exact (hR.2.2.2 (nR - 1) (by omega)).1
        rw [ea, e, nI_clamp (by omega)]
        obtain ⟨t1, t2⟩ := res_tail h hR hp
        rw [hR.2.1, e] at t2
        by_cases v : M.2.2.2.2.2.2.2.2.2.2.2.2.2.2.2.2.2.1 (nR - 1) = x1
        · rw [if_pos v, if_pos v]
          by_cases y : x2 = 0
          · rw [if_pos y, if_pos y]; exact ⟨by rw [t1], t2⟩
          · rw [if_neg y, if_neg y]; exact ⟨rfl, t2⟩
        · rw [if_neg v, if_neg v]; exact ⟨rfl, h⟩
    · rw [if_neg z, if_neg z]; exact ⟨rfl, h⟩
  · rw [if_pos (below_h ((le_p (a := 9999) rfl).mpr q1)), if_neg q0, if_neg q1]; exact ⟨rfl, h⟩
theorem q_nested {X : S_Rows} {M : S_Model} (h : Rel X M) (x : Int32) : f_Rows_nested X x = (f_Model_nested M x).1 ∧ Rel X (f_Model_nested M x).2 := by
  obtain ⟨nE, nC, nU, nR, hE, hC, hU, hM, hR, hL, hZ⟩ := id h
  have e : f_Model_isException (0, M.2) x = f_Tree_has X.1 x := (has_eq (S := (0, M.2)) hE.1 hE.2.1 hE.2.2.1 x).symm
  unfold f_Rows_nested f_Model_nested
  rw [e]
  by_cases q : f_Tree_has X.1 x = 0
  · rw [if_pos q, if_pos q]; exact ⟨rfl, h⟩
  have et : f_Model_takerOf (0, M.2) x = f_Rows_takerOfException X x := (taker_eq (S := (0, M.2)) hE hU q).symm
  have eh : f_Model_isRunning (0, M.2) (f_Rows_takerOfException X x) = f_Running_holds X.2.2.2.2.1 (f_Rows_takerOfException X x) := holds_eq (S := (0, M.2)) hR _
  rw [if_neg q, if_neg q, et, eh]
  by_cases t : f_Rows_takerOfException X x = 0
  · rw [if_pos t, t, holds_0 hR, if_pos (show (0 : Int32) = 0 from rfl)]; exact ⟨rfl, h⟩
  · rw [if_neg t]
    by_cases r : f_Running_holds X.2.2.2.2.1 (f_Rows_takerOfException X x) = 0
    · rw [if_pos r, if_pos r]; exact ⟨rfl, h⟩
    · rw [if_neg r, if_neg r]; exact ⟨rfl, h⟩
theorem i32_a (r t : Int32) : r - t + 1 = r + 1 - (t + 0) := by
  rw [Int32.add_zero, Int32.sub_eq_add_neg, Int32.sub_eq_add_neg, Int32.add_assoc, Int32.add_comm (-t) 1, ← Int32.add_assoc]
theorem i32_b (r t : Int32) : r - t = r + 1 - (t + 1) := by
  apply Int32.toBitVec_inj.mp
  rw [Int32.toBitVec_sub, Int32.toBitVec_sub, Int32.toBitVec_add, Int32.toBitVec_add]
  generalize r.toBitVec = a
  generalize t.toBitVec = b
  apply BitVec.eq_of_toInt_eq
  simp only [BitVec.toInt_sub, BitVec.toInt_add, Int.bmod_sub_bmod, Int.sub_bmod_bmod, Int.bmod_add_bmod, Int.add_bmod_bmod]
  congr 1
  omega
theorem start_y {N : S_Running} {rn : Int32} {ru pl : Nat → Int32} {n : Nat} (h : RelR N rn ru pl n) (t p : Int32) (ht : ¬ t = 0) : (rn = 10 → f_Running_start N t p = (0, N)) ∧ (¬ rn = 10 → (f_Running_start N t p).1 = 1 ∧ RelR (f_Running_start N t p).2 (rn + 1) (upd ru rn.toNatClampNeg t) (upd pl rn.toNatClampNeg p) (n + 1)) := by
  obtain ⟨h1, h2, h3, h4⟩ := h
  unfold f_Running_start
  constructor
  · intro q
    have q2 : n = 10 := (nI_eq (by omega) (by decide)).mp (h2.symm.trans (q.trans rfl))
    rw [h1, q2, if_pos rowR_0]
  · intro q
    have q2 : n ≠ 10 := fun z => q (by rw [h2, z]; rfl)
    rw [h1, h2, nI_1, if_neg (rowR_1 (by omega)), nI_clamp (by omega)]
    refine ⟨rfl, rfl, rfl, by omega, fun i hi => ?_⟩
    by_cases e : i = n
    · subst e
      refine ⟨?_, ?_, ?_⟩
      · show upd N.1 i t i = upd ru i t i; rw [pk_us, pk_us]
      · show upd N.2.1 i p i = upd pl i p i; rw [pk_us, pk_us]
      · show ¬ upd N.1 i t i = 0; rw [pk_us]; exact ht
    · obtain ⟨g1, g2, g3⟩ := h4 i (by omega)
      refine ⟨?_, ?_, ?_⟩
      · show upd N.1 n t i = upd ru n t i; rw [pk_un e, pk_un e]; exact g1
      · show upd N.2.1 n p i = upd pl n p i; rw [pk_un e, pk_un e]; exact g2
      · show ¬ upd N.1 n t i = 0; rw [pk_un e]; exact g3
theorem q_come {X : S_Rows} {M : S_Model} (h : Rel X M) (hend : M.2.2.2.2.2.2.2.1 = 0) (x1 x2 x3 x4 : Int32) (h1 : ¬ x1 = 0) (h4 : x4 = 0 ∨ x4 = 1) : (f_Rows_come X x1 x2 x3 x4).1 = (f_Model_come (0, M.2) x1 x2 x3 x4).1 ∧ Rel (f_Rows_come X x1 x2 x3 x4).2 (f_Model_come (0, M.2) x1 x2 x3 x4).2 := by
  obtain ⟨nE, nC, nU, nR, hE, hC, hU, hM, hR, hL, hZ1, hZ2, hZ3, hZ4⟩ := id h
  have hLn : ∀ p : Int32, RelL (f_Latest_put X.2.2.2.2.2.1 x1 x2 x3) x1 x2 x3 (-1) 1 := fun _ => Or.inr ⟨rfl, h1, rfl, rfl, rfl, rfl⟩
  have r1 : X.2.2.2.2.2.2.1 + 1 = M.2.2.2.2.2.1 + 1 := by rw [hZ1]
  have r2 : X.2.2.2.2.2.2.2.1 + 1 = M.2.2.2.2.2.1 + 1 - (M.2.2.2.2.2.2.1 + 0) := by rw [hZ2]; exact i32_a _ _
  have r3 : X.2.2.2.2.2.2.2.1 = M.2.2.2.2.2.1 + 1 - (M.2.2.2.2.2.2.1 + 1) := by rw [hZ2]; exact i32_b _ _
  have z0 : X.2.2.2.2.2.2.2.2 = 0 := hZ3.trans hend
  unfold f_Rows_come f_Model_come
  by_cases t : x3 = 0
  · rw [if_pos t, if_pos t]
    rcases h4 with h4 | h4
    · rw [if_pos h4]
      exact ⟨rfl, nE, nC, nU, nR, hE, hC, hU, hM, hR, hLn 0, r1, r2, z0.trans h4.symm, Or.inl h4⟩
    · have h5 : ¬ x4 = 0 := by rw [h4]; decide
      rw [if_neg h5]
      exact ⟨rfl, nE, nC, nU, nR, hE, hC, hU, hM, hR, hLn 0, r1, r2, h4.symm, Or.inr h4⟩
  · rw [if_neg t, if_neg t, holds_eq (N := X.2.2.2.2.1) (n := nR) (by exact hR) x3]
    by_cases v : f_Running_holds X.2.2.2.2.1 x3 = 0
    · rw [if_pos v, if_pos v]
      obtain ⟨s1, s2⟩ := start_y hR x3 x2 t
      by_cases w : M.2.2.2.2.1 = 10
      · have w2 : (f_Running_start X.2.2.2.2.1 x3 x2).1 = 0 := by rw [s1 w]
        have w3 : (f_Running_start X.2.2.2.2.1 x3 x2).2 = X.2.2.2.2.1 := by rw [s1 w]
        have hR2 : RelR (f_Running_start X.2.2.2.2.1 x3 x2).2 M.2.2.2.2.1 M.2.2.2.2.2.2.2.2.2.2.2.2.2.2.2.2.2.1 M.2.2.2.2.2.2.2.2.2.2.2.2.2.2.2.2.2.2.1 nR := by rw [w3]; exact hR
        rw [if_pos w2]
        have w4 : (0, M.2).2.2.2.2.1 = (10 : Int32) := w
        rw [if_pos w4]
        exact ⟨rfl, nE, nC, nU, nR, hE, hC, hU, hM, hR2, hLn 0, r1, r3, rfl, Or.inr rfl⟩
      · have w2 : ¬ (f_Running_start X.2.2.2.2.1 x3 x2).1 = 0 := by rw [(s2 w).1]; decide
        rw [if_neg w2]
        have w4 : ¬ (0, M.2).2.2.2.2.1 = (10 : Int32) := w
        rw [if_neg w4]
        exact ⟨rfl, nE, nC, nU, nR + 1, hE, hC, hU, hM, (s2 w).2, hLn 0, r1, r3, hZ3, hZ4⟩
    · rw [if_neg v, if_neg v]
      exact ⟨rfl, nE, nC, nU, nR, hE, hC, hU, hM, hR, hLn 0, r1, r3, rfl, Or.inr rfl⟩
theorem q_raise {X : S_Rows} {M : S_Model} (h : Rel X M) (x1 x2 : Int32) : (f_Rows_raise X x1 x2).1 = (f_Model_raise M x1 x2).1 ∧ Rel (f_Rows_raise X x1 x2).2 (f_Model_raise M x1 x2).2 := by
  obtain ⟨nE, nC, nU, nR, hE, hC, hU, hM, hR, hL, hZ1, hZ2, hZ3, hZ4⟩ := id h
  have e : f_Model_isException (0, M.2) x1 = f_Tree_has X.1 x1 := (has_eq (S := (0, M.2)) hE.1 hE.2.1 hE.2.2.1 x1).symm
  unfold f_Rows_raise f_Model_raise
  rw [e]
  by_cases q : f_Tree_has X.1 x1 = 0
  · rw [if_pos q, if_pos q]; exact ⟨rfl, h⟩
  rw [if_neg q, if_neg q]
  by_cases q0 : x2 < 0
  · rw [if_pos (below_n q0), if_pos q0]; exact ⟨rfl, h⟩
  by_cases q1 : x2 ≤ 9999
  · rw [if_neg (below_y q0 (fun z => (le_p (a := 9999) rfl).mp z q1)), if_neg q0, if_pos q1, hZ3]
    by_cases z : M.2.2.2.2.2.2.2.1 = 0
    · rw [if_pos z, if_pos z]
      have ec : f_Model_isChecked (0, M.2) x1 x2 = f_Checks_areOn X.2.1 X.1 x1 x2 := (chk_eq (S := (0, M.2)) hC hE q).symm
      have et : f_Model_takerOf (0, M.2) x1 = f_Rows_takerOfException X x1 := (taker_eq (S := (0, M.2)) hE hU q).symm
      rw [ec, et]
      by_cases w : f_Checks_areOn X.2.1 X.1 x1 x2 = 0
      · rw [if_pos w, if_pos w]; exact ⟨rfl, h⟩
      · rw [if_neg w, if_neg w]
        obtain ⟨j, hj, j1, j2⟩ := has_of hE.1 hE.2.2.1 q
        have hn60 := hE.2.2.1
        have hx : ¬ x1 = 0 := by rw [hj]; exact nI_ne0 j1 (by omega)
        have en : X.1.1 x1.toNatClampNeg = M.2.2.2.2.2.2.2.2.2.1 x1.toNatClampNeg := by rw [hj, nI_clamp (by omega)]; exact (hE.2.2.2.1 j j1 j2).1
        unfold f_Tree_isFatal
        rw [if_neg q, en]
        by_cases f : 50 ≤ M.2.2.2.2.2.2.2.2.2.1 x1.toNatClampNeg
        · rw [if_pos f, if_pos f]; exact q_come h z x1 x2 _ 0 hx (Or.inl rfl)
        · rw [if_neg f, if_neg f]; exact q_come h z x1 x2 _ 1 hx (Or.inr rfl)
    · rw [if_neg z, if_neg z]; exact ⟨rfl, h⟩
  · rw [if_pos (below_h ((le_p (a := 9999) rfl).mpr q1)), if_neg q0, if_neg q1]; exact ⟨rfl, h⟩
theorem first_none {U : S_Uses} {us : Int32} {kd af : Nat → Int32} {n : Nat} (h : RelU U us kd af n) : f_Uses_firstFor U 2 (-1) = 0 := by
  rw [firstX_eq h.1 h.2.2.1]
  have key : ∀ (r j : Nat), j + r = n → ffn U.1 U.2.1 2 (-1) r j = 0 := by
    intro r
    induction r with
    | zero => intro j _; rfl
    | succ r ih =>
      intro j hj
      rw [ffn_s, ih (j + 1) (by omega)]
      by_cases q : U.1 j = 2
      · rw [if_pos q, if_neg ((h.2.2.2 j (by omega)).2.2 q)]
      · rw [if_neg q]
  exact key n 0 (by omega)
theorem q_status {X : S_Rows} {M : S_Model} (h : Rel X M) (x1 x2 : Int32) : (f_Rows_status X x1 x2).1 = (f_Model_status M x1 x2).1 ∧ Rel (f_Rows_status X x1 x2).2 (f_Model_status M x1 x2).2 := by
  obtain ⟨nE, nC, nU, nR, hE, hC, hU, hM, hR, hL, hZ1, hZ2, hZ3, hZ4⟩ := id h
  have e : f_Model_isFile x1 = f_Rows_isBelow x1 20 := rfl
  unfold f_Rows_status f_Model_status
  rw [e]
  by_cases q : f_Rows_isBelow x1 20 = 0
  · rw [if_pos q, if_pos q]; exact ⟨rfl, h⟩
  rw [if_neg q, if_neg q]
  by_cases q0 : x2 < 0
  · rw [if_pos (below_n q0), if_pos q0]; exact ⟨rfl, h⟩
  by_cases q1 : x2 ≤ 99
  · rw [if_neg (below_y q0 (fun z => (le_p (a := 99) rfl).mp z q1)), if_neg q0, if_pos q1, hZ3]
    by_cases z : M.2.2.2.2.2.2.2.1 = 0
    · rw [if_pos z, if_pos z]
      by_cases w : 10 ≤ x2
      · rw [if_pos w, if_pos w]
        have hx : ¬ -x2 = 0 := fun v => by
          have v2 : x2 = 0 := (@Int32.neg_neg x2).symm.trans (by rw [v]; rfl)
          rw [v2] at w
          exact absurd w (by decide)
        have ez : (0 : Int32) - x2 = -x2 := Int32.zero_sub x2
        have ef : ∀ a b : Int32, f_Model_first (0, M.2) a b = f_Uses_firstFor X.2.2.1 a b := fun a b => first_eq (S := (0, M.2)) hU a b
        rw [ez, ef, ef]
        have hf := in_below20 q
        obtain ⟨j, hj, hxj⟩ := vp_in_of hf (by decide)
        have em : f_OpenModes_of X.2.2.2.1 x1 = M.2.2.2.2.2.2.2.2.2.2.2.2.2.2.2.2.1 x1.toNatClampNeg := by
          unfold f_OpenModes_of
          rw [if_neg q, hxj, nI_clamp (by omega)]
          exact hM j hj
        unfold f_Rows_takerOfFile
        rw [em]
        by_cases y : f_Uses_firstFor X.2.2.1 1 x1 = 0
        · rw [if_pos y, if_pos y]
          by_cases v : M.2.2.2.2.2.2.2.2.2.2.2.2.2.2.2.2.1 x1.toNatClampNeg = -1
          · rw [if_pos v, v, first_none hU, y]; exact q_come h z (-x2) 0 0 0 hx (Or.inl rfl)
          · rw [if_neg v]; exact q_come h z (-x2) 0 _ 0 hx (Or.inl rfl)
        · rw [if_neg y, if_neg y]; exact q_come h z (-x2) 0 _ 0 hx (Or.inl rfl)
      · rw [if_neg w, if_neg w]; exact ⟨rfl, h⟩
    · rw [if_neg z, if_neg z]; exact ⟨rfl, h⟩
  · rw [if_pos (below_h ((le_p (a := 99) rfl).mpr q1)), if_neg q0, if_neg q1]; exact ⟨rfl, h⟩
