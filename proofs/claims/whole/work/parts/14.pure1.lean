def lastL (lv : Nat → Int32) : Nat → Int32 → Int32
  | 0, _ => 0
  | n + 1, y => if lv (n + 1) = y then nI (n + 1) else lastL lv n y
def LevN (ab : Nat → Int32) (n : Nat) : Nat → Nat → Prop
  | 0, j => j = 0
  | d + 1, j => 1 ≤ j ∧ j ≤ n ∧ ∃ a : Nat, ab j = nI a ∧ a < j ∧ LevN ab n d a
def RelE (T : S_Tree) (ex : Int32) (lv nm ab : Nat → Int32) (n : Nat) : Prop := T.2.2.2 = nI n ∧ ex = nI n ∧ n ≤ 60 ∧ (∀ i : Nat, 1 ≤ i → i ≤ n → T.1 i = nm i ∧ T.2.1 i = ab i) ∧ (∀ i : Nat, 1 ≤ i → i ≤ 60 → ∃ a : Nat, a < i ∧ ab i = nI a) ∧ (∀ i : Nat, 1 ≤ i → i ≤ n → ∃ d : Nat, 1 ≤ d ∧ d ≤ 3 ∧ lv i = nI d ∧ LevN ab n d i) ∧ T.2.2.1 1 = lastL lv n 1 ∧ T.2.2.1 2 = lastL lv n 2 ∧ T.2.2.1 3 = lastL lv n 3
def RelC (C : S_Checks) (ck : Int32) (cd fr on : Nat → Int32) (n : Nat) : Prop := C.2.2.2 = nI n ∧ ck = nI n ∧ n ≤ 100 ∧ (∀ i : Nat, i < n → C.1 i = cd i ∧ C.2.1 i = fr i ∧ C.2.2.1 i = on i ∧ ¬ cd i = 0 ∧ ¬ fr i < 0) ∧ (∀ j : Nat, C.2.2.1 j = 0 ∨ C.2.2.1 j = 1) ∧ (∀ j : Nat, on j = 0 ∨ on j = 1)
def RelU (U : S_Uses) (us : Int32) (kd af : Nat → Int32) (n : Nat) : Prop := U.2.2 = nI n ∧ us = nI n ∧ n ≤ 30 ∧ (∀ i : Nat, i < n → U.1 i = kd (i + 1) ∧ U.2.1 i = af (i + 1) ∧ (U.1 i = 2 → ¬ U.2.1 i = -1))
def RelR (N : S_Running) (rn : Int32) (ru pl : Nat → Int32) (n : Nat) : Prop := N.2.2 = nI n ∧ rn = nI n ∧ n ≤ 10 ∧ (∀ i : Nat, i < n → N.1 i = ru i ∧ N.2.1 i = pl i ∧ ¬ N.1 i = 0)
def RelL (L : S_Latest) (la lp lt pr an : Int32) : Prop := (an = 0 ∧ L.1 = 0) ∨ (an = 1 ∧ ¬ L.1 = 0 ∧ L.1 = la ∧ L.2.1 = lp ∧ L.2.2.1 = lt ∧ L.2.2.2 = pr)
def Rel (X : S_Rows) (M : S_Model) : Prop := ∃ nE nC nU nR : Nat, RelE X.1 M.2.1 M.2.2.2.2.2.2.2.2.1 M.2.2.2.2.2.2.2.2.2.1 M.2.2.2.2.2.2.2.2.2.2.1 nE ∧ RelC X.2.1 M.2.2.1 M.2.2.2.2.2.2.2.2.2.2.2.1 M.2.2.2.2.2.2.2.2.2.2.2.2.1 M.2.2.2.2.2.2.2.2.2.2.2.2.2.1 nC ∧ RelU X.2.2.1 M.2.2.2.1 M.2.2.2.2.2.2.2.2.2.2.2.2.2.2.1 M.2.2.2.2.2.2.2.2.2.2.2.2.2.2.2.1 nU ∧ (∀ f : Nat, f < 20 → X.2.2.2.1 f = M.2.2.2.2.2.2.2.2.2.2.2.2.2.2.2.2.1 f) ∧ RelR X.2.2.2.2.1 M.2.2.2.2.1 M.2.2.2.2.2.2.2.2.2.2.2.2.2.2.2.2.2.1 M.2.2.2.2.2.2.2.2.2.2.2.2.2.2.2.2.2.2.1 nR ∧ RelL X.2.2.2.2.2.1 M.2.2.2.2.2.2.2.2.2.2.2.2.2.2.2.2.2.2.2.1 M.2.2.2.2.2.2.2.2.2.2.2.2.2.2.2.2.2.2.2.2.1 M.2.2.2.2.2.2.2.2.2.2.2.2.2.2.2.2.2.2.2.2.2.1 M.2.2.2.2.2.2.2.2.2.2.2.2.2.2.2.2.2.2.2.2.2.2.1 M.2.2.2.2.2.2.2.2.2.2.2.2.2.2.2.2.2.2.2.2.2.2.2 ∧ X.2.2.2.2.2.2.1 = M.2.2.2.2.2.1 ∧ X.2.2.2.2.2.2.2.1 = M.2.2.2.2.2.1 - M.2.2.2.2.2.2.1 ∧ X.2.2.2.2.2.2.2.2 = M.2.2.2.2.2.2.2.1 ∧ (M.2.2.2.2.2.2.2.1 = 0 ∨ M.2.2.2.2.2.2.2.1 = 1)
theorem rel_MI {X : S_Rows} {M : S_Model} (h : Rel X M) : MI M := by
  obtain ⟨nE, nC, nU, nR, hE, hC, hU, hM, hR, hL, hZ1, hZ2, hZ3, hZ4⟩ := h
  exact ⟨nE, nC, nU, nR, hE.2.1, hE.2.2.1, hC.2.1, hC.2.2.1, hU.2.1, hU.2.2.1, hR.2.1, hR.2.2.1, hE.2.2.2.2.1, hC.2.2.2.2.2, hZ4⟩
theorem rel_hn {X : S_Rows} {M : S_Model} (h : Rel X M) : ¬ X.1.2.2.2 + 1 < 0 := by
  obtain ⟨nE, nC, nU, nR, hE, -⟩ := h
  rw [hE.1, nI_1]
  exact nI_pos (by have := hE.2.2.1; omega)
theorem rel_hsw {X : S_Rows} {M : S_Model} (h : Rel X M) : ∀ j, narrow .boolean (.int (X.2.1.2.2.1 j)) = .int (X.2.1.2.2.1 j) := by
  obtain ⟨nE, nC, nU, nR, hE, hC, -⟩ := h
  exact fun j => nar_b (hC.2.2.2.2.1 j)
theorem rel_hz {X : S_Rows} {M : S_Model} (h : Rel X M) : narrow .boolean (.int X.2.2.2.2.2.2.2.2) = .int X.2.2.2.2.2.2.2.2 := by
  obtain ⟨nE, nC, nU, nR, hE, hC, hU, hM, hR, hL, hZ1, hZ2, hZ3, hZ4⟩ := h
  exact nar_b (by rw [hZ3]; exact hZ4)
theorem modes_eq : ∀ f : Nat, f < 20 → f_OpenModes_init f = f_Model_init_F f := by
  have h : ∀ (k : Nat) (x : Int32) (F : Nat → Int32), f_OpenModes_init_L14 k x F = f_Model_init_L94 k x F := by
    intro k
    induction k with
    | zero => intro x F; rfl
    | succ k ih => intro x F; rw [f_OpenModes_init_L14, f_Model_init_L94, ih]
  intro f _
  show f_OpenModes_init_F f = f_Model_init_F f
  unfold f_OpenModes_init_F f_Model_init_F
  rw [h]
theorem rel_init : Rel f_Rows_init f_Model_init := by
  refine ⟨0, 0, 0, 0, ⟨rfl, rfl, by decide, fun i h1 h2 => by omega, fun i h1 h2 => ⟨0, by omega, rfl⟩, fun i h1 h2 => by omega, rfl, rfl, rfl⟩, ⟨rfl, rfl, by decide, fun i h => by omega, fun _ => Or.inl rfl, fun _ => Or.inl rfl⟩, ⟨rfl, rfl, by decide, fun i h => by omega⟩, modes_eq, ⟨rfl, rfl, by decide, fun i h => by omega⟩, Or.inl ⟨rfl, rfl⟩, rfl, rfl, rfl, Or.inl rfl⟩
/-! scans -/
def ffn (uk us : Nat → Int32) (kd o : Int32) : Nat → Nat → Int32
  | 0, _ => 0
  | r + 1, j => if uk j = kd then (if us j = o then nI (j + 1) else ffn uk us kd o r (j + 1)) else ffn uk us kd o r (j + 1)
theorem ffn_s (uk us : Nat → Int32) (kd o : Int32) (r j : Nat) : ffn uk us kd o (r + 1) j = if uk j = kd then (if us j = o then nI (j + 1) else ffn uk us kd o r (j + 1)) else ffn uk us kd o r (j + 1) := rfl
theorem rowU_1 {U : S_Uses} {j : Nat} (h : j < 30) : ¬ f_Uses_isRow U (nI j) = 0 := by
  unfold f_Uses_isRow
  rw [if_neg (nI_pos (by omega)), if_neg (by rw [show (30 : Int32) = nI 30 from rfl, nI_leI (by decide) (by omega)]; omega)]
  decide
theorem rowC_1 {C : S_Checks} {j : Nat} (h : j < 100) : ¬ f_Checks_isRow C (nI j) = 0 := by
  unfold f_Checks_isRow
  rw [if_neg (nI_pos (by omega)), if_neg (by rw [show (100 : Int32) = nI 100 from rfl, nI_leI (by decide) (by omega)]; omega)]
  decide
theorem rowR_1 {N : S_Running} {j : Nat} (h : j < 10) : ¬ f_Running_isRow N (nI j) = 0 := by
  unfold f_Running_isRow
  rw [if_neg (nI_pos (by omega)), if_neg (by rw [show (10 : Int32) = nI 10 from rfl, nI_leI (by decide) (by omega)]; omega)]
  decide
theorem rowR_0 {N : S_Running} : f_Running_isRow N (nI 10) = 0 := by rfl
theorem firstX {U : S_Uses} {n : Nat} (hn : U.2.2 = nI n) (hn30 : n ≤ 30) (kd o : Int32) : ∀ (r k j : Nat), j + r = n → r < k → f_Uses_firstFor_L2 U kd o k (nI j) = ffn U.1 U.2.1 kd o r j := by
  intro r
  induction r with
  | zero =>
    intro k j h1 h2
    obtain ⟨k, rfl⟩ : ∃ q, k = q + 1 := ⟨k - 1, by omega⟩
    rw [f_Uses_firstFor_L2, if_pos (by rw [hn]; exact nI_le (by omega) (by omega))]
    rfl
  | succ r ih =>
    intro k j h1 h2
    obtain ⟨k, rfl⟩ : ∃ q, k = q + 1 := ⟨k - 1, by omega⟩
    rw [f_Uses_firstFor_L2, if_neg (by rw [hn]; exact nI_ge (by omega) (by omega)), if_neg (rowU_1 (by omega)), nI_clamp (by omega), nI_1, ih k (j + 1) (by omega) (by omega)]
    rfl
theorem firstX_eq {U : S_Uses} {n : Nat} (hn : U.2.2 = nI n) (hn30 : n ≤ 30) (kd o : Int32) : f_Uses_firstFor U kd o = ffn U.1 U.2.1 kd o n 0 := by
  unfold f_Uses_firstFor
  exact firstX hn hn30 kd o n 31 0 (by omega) (by omega)
theorem ffn_snoc (uk us : Nat → Int32) (kd o : Int32) : ∀ (r j : Nat), j + r < 100 → ffn uk us kd o (r + 1) j = if ffn uk us kd o r j = 0 then (if uk (j + r) = kd then (if us (j + r) = o then nI (j + r + 1) else 0) else 0) else ffn uk us kd o r j := by
  intro r
  induction r with
  | zero => intro j _; rfl
  | succ r ih =>
    intro j hj
    have e := ih (j + 1) (by omega)
    rw [show j + 1 + r = j + (r + 1) by omega] at e
    rw [ffn_s uk us kd o (r + 1) j, ffn_s uk us kd o r j]
    by_cases h1 : uk j = kd
    · rw [if_pos h1, if_pos h1]
      by_cases h2 : us j = o
      · rw [if_pos h2, if_pos h2, if_neg (nI_ne0 (by omega) (by omega))]
      · rw [if_neg h2, if_neg h2, e]
    · rw [if_neg h1, if_neg h1, e]
theorem ffn_congr {uk us kd2 af : Nat → Int32} {kd o : Int32} : ∀ (r j : Nat), (∀ i, j ≤ i → i < j + r → uk i = kd2 i ∧ us i = af i) → ffn uk us kd o r j = ffn kd2 af kd o r j := by
  intro r
  induction r with
  | zero => intro j _; rfl
  | succ r ih =>
    intro j h
    rw [ffn, ffn, (h j (by omega) (by omega)).1, (h j (by omega) (by omega)).2, ih (j + 1) (fun i h1 h2 => h i (by omega) (by omega))]
theorem firstM {S : S_Model} (kd o : Int32) : ∀ (u k : Nat) (f : Int32), u ≤ 30 → u < k → f_Model_first_L8 S kd o k f (nI u) = if ffn (fun i => S.2.2.2.2.2.2.2.2.2.2.2.2.2.2.1 (i + 1)) (fun i => S.2.2.2.2.2.2.2.2.2.2.2.2.2.2.2.1 (i + 1)) kd o u 0 = 0 then f else ffn (fun i => S.2.2.2.2.2.2.2.2.2.2.2.2.2.2.1 (i + 1)) (fun i => S.2.2.2.2.2.2.2.2.2.2.2.2.2.2.2.1 (i + 1)) kd o u 0 := by
  intro u
  induction u with
  | zero =>
    intro k f h1 h2
    obtain ⟨k, rfl⟩ : ∃ q, k = q + 1 := ⟨k - 1, by omega⟩
    rw [f_Model_first_L8, if_pos (by decide)]
    rfl
  | succ u ih =>
    intro k f h1 h2
    obtain ⟨k, rfl⟩ : ∃ q, k = q + 1 := ⟨k - 1, by omega⟩
    rw [f_Model_first_L8, if_neg (nI_nle (by omega) (by omega)), nI_clamp (by omega), pk_m1, ih k _ (by omega) (by omega), ih k _ (by omega) (by omega), ffn_snoc _ _ _ _ u 0 (by omega), Nat.zero_add]
    by_cases h0 : ffn (fun i => S.2.2.2.2.2.2.2.2.2.2.2.2.2.2.1 (i + 1)) (fun i => S.2.2.2.2.2.2.2.2.2.2.2.2.2.2.2.1 (i + 1)) kd o u 0 = 0
    · rw [if_pos h0, if_pos h0, if_pos h0]
      by_cases h1 : S.2.2.2.2.2.2.2.2.2.2.2.2.2.2.1 (u + 1) = kd
      · rw [if_pos h1, if_pos h1]
        by_cases h2 : S.2.2.2.2.2.2.2.2.2.2.2.2.2.2.2.1 (u + 1) = o
        · rw [if_pos h2, if_pos h2, if_neg (nI_ne0 (by omega) (by omega))]
        · rw [if_neg h2, if_neg h2, if_pos rfl]
      · rw [if_neg h1, if_neg h1, if_pos rfl]
    · rw [if_neg h0, if_neg h0, if_neg h0, if_neg h0]
      by_cases h1 : S.2.2.2.2.2.2.2.2.2.2.2.2.2.2.1 (u + 1) = kd
      · rw [if_pos h1]
        by_cases h2 : S.2.2.2.2.2.2.2.2.2.2.2.2.2.2.2.1 (u + 1) = o
        · rw [if_pos h2]
        · rw [if_neg h2]
      · rw [if_neg h1]
theorem first_eq {U : S_Uses} {S : S_Model} {n : Nat} (h : RelU U S.2.2.2.1 S.2.2.2.2.2.2.2.2.2.2.2.2.2.2.1 S.2.2.2.2.2.2.2.2.2.2.2.2.2.2.2.1 n) (kd o : Int32) : f_Model_first S kd o = f_Uses_firstFor U kd o := by
  rw [firstX_eq h.1 h.2.2.1]
  unfold f_Model_first
  rw [h.2.1, firstM kd o n 31 0 h.2.2.1 (by have := h.2.2.1; omega), ffn_congr (uk := U.1) (us := U.2.1) (kd2 := fun i => S.2.2.2.2.2.2.2.2.2.2.2.2.2.2.1 (i + 1)) (af := fun i => S.2.2.2.2.2.2.2.2.2.2.2.2.2.2.2.1 (i + 1)) n 0 (fun i _ h2 => ⟨(h.2.2.2 i (by omega)).1, (h.2.2.2 i (by omega)).2.1⟩)]
  by_cases h0 : ffn (fun i => S.2.2.2.2.2.2.2.2.2.2.2.2.2.2.1 (i + 1)) (fun i => S.2.2.2.2.2.2.2.2.2.2.2.2.2.2.2.1 (i + 1)) kd o n 0 = 0
  · rw [if_pos h0, h0]
  · rw [if_neg h0]
def hln (rt : Nat → Int32) (x : Int32) : Nat → Nat → Int32
  | 0, _ => 0
  | r + 1, j => if rt j = x then 1 else hln rt x r (j + 1)
theorem holdsX {N : S_Running} {n : Nat} (hn : N.2.2 = nI n) (hn10 : n ≤ 10) (x : Int32) : ∀ (r k j : Nat), j + r = n → r < k → f_Running_holds_L2 N x k (nI j) = hln N.1 x r j := by
  intro r
  induction r with
  | zero =>
    intro k j h1 h2
    obtain ⟨k, rfl⟩ : ∃ q, k = q + 1 := ⟨k - 1, by omega⟩
    rw [f_Running_holds_L2, if_pos (by rw [hn]; exact nI_le (by omega) (by omega))]
    rfl
  | succ r ih =>
    intro k j h1 h2
    obtain ⟨k, rfl⟩ : ∃ q, k = q + 1 := ⟨k - 1, by omega⟩
    rw [f_Running_holds_L2, if_neg (by rw [hn]; exact nI_ge (by omega) (by omega)), if_neg (rowR_1 (by omega)), nI_clamp (by omega), nI_1, ih k (j + 1) (by omega) (by omega)]
    rfl
theorem runM {S : S_Model} {n : Nat} (hn : S.2.2.2.2.1 = nI n) (hn10 : n ≤ 10) (x : Int32) : ∀ (r k j : Nat) (acc : Int32), (acc = 0 ∨ acc = 1) → j + r = n → r < k → f_Model_isRunning_L4 S x k acc (nI j) = if acc = 0 then hln S.2.2.2.2.2.2.2.2.2.2.2.2.2.2.2.2.2.1 x r j else 1 := by
  intro r
  induction r with
  | zero =>
    intro k j acc ha h1 h2
    obtain ⟨k, rfl⟩ : ∃ q, k = q + 1 := ⟨k - 1, by omega⟩
    rw [f_Model_isRunning_L4, if_pos (by rw [hn]; exact nI_le (by omega) (by omega))]
    rcases ha with ha | ha <;> rw [ha] <;> rfl
  | succ r ih =>
    intro k j acc ha h1 h2
    obtain ⟨k, rfl⟩ : ∃ q, k = q + 1 := ⟨k - 1, by omega⟩
    rw [f_Model_isRunning_L4, if_neg (by rw [hn]; exact nI_ge (by omega) (by omega)), nI_clamp (by omega), nI_1, ih k (j + 1) 1 (Or.inr rfl) (by omega) (by omega), ih k (j + 1) 0 (Or.inl rfl) (by omega) (by omega), hln]
    by_cases h0 : acc = 0
    · rw [if_pos h0, if_pos h0]
      by_cases hx : S.2.2.2.2.2.2.2.2.2.2.2.2.2.2.2.2.2.1 j = x
      · rw [if_pos hx, if_pos hx, if_neg (show ¬ (1 : Int32) = 0 by decide)]
      · rw [if_neg hx, if_neg hx, if_pos (show (0 : Int32) = 0 from rfl)]
    · rw [if_neg h0, if_neg h0, if_neg (show ¬ (1 : Int32) = 0 by decide)]
theorem hln_congr {a b : Nat → Int32} {x : Int32} : ∀ (r j : Nat), (∀ i, j ≤ i → i < j + r → a i = b i) → hln a x r j = hln b x r j := by
  intro r
  induction r with
  | zero => intro j _; rfl
  | succ r ih =>
    intro j h
    rw [hln, hln, h j (by omega) (by omega), ih (j + 1) (fun i h1 h2 => h i (by omega) (by omega))]
theorem holds_eq {N : S_Running} {S : S_Model} {n : Nat} (h : RelR N S.2.2.2.2.1 S.2.2.2.2.2.2.2.2.2.2.2.2.2.2.2.2.2.1 S.2.2.2.2.2.2.2.2.2.2.2.2.2.2.2.2.2.2.1 n) (x : Int32) : f_Model_isRunning S x = f_Running_holds N x := by
  unfold f_Model_isRunning f_Running_holds
  rw [show (0 : Int32) = nI 0 from rfl, holdsX h.1 h.2.2.1 x n 11 0 (by omega) (by have := h.2.2.1; omega), runM h.2.1 h.2.2.1 x n 11 0 (nI 0) (Or.inl rfl) (by omega) (by have := h.2.2.1; omega), if_pos (show nI 0 = 0 from rfl)]
  exact (hln_congr n 0 (fun i _ h2 => (h.2.2.2 i (by omega)).1)).symm
theorem holds_0 {N : S_Running} {rn : Int32} {ru pl : Nat → Int32} {n : Nat} (h : RelR N rn ru pl n) : f_Running_holds N 0 = 0 := by
  unfold f_Running_holds
  rw [show f_Running_holds_L2 N 0 11 0 = f_Running_holds_L2 N 0 11 (nI 0) from rfl, holdsX h.1 h.2.2.1 0 n 11 0 (by omega) (by have := h.2.2.1; omega)]
  have key : ∀ (r j : Nat), j + r = n → hln N.1 0 r j = 0 := by
    intro r
    induction r with
    | zero => intro j _; rfl
    | succ r ih => intro j hj; rw [hln, if_neg (h.2.2.2 j (by omega)).2.2, ih (j + 1) (by omega)]
  exact key n 0 (by omega)
