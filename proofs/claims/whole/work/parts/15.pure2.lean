theorem LevN_mono {ab : Nat → Int32} {n : Nat} {v : Int32} : ∀ (d j : Nat), LevN ab n d j → LevN (upd ab (n + 1) v) (n + 1) d j := by
  intro d
  induction d with
  | zero => intro j h; exact h
  | succ d ih =>
    intro j h
    obtain ⟨h1, h2, a, h3, h4, h5⟩ := h
    exact ⟨h1, by omega, a, by rw [pk_un (by omega)]; exact h3, h4, ih a h5⟩
theorem has_1 {T : S_Tree} {n j : Nat} (hn : T.2.2.2 = nI n) (hn60 : n ≤ 60) (h1 : 1 ≤ j) (h2 : j ≤ n) : ¬ f_Tree_has T (nI j) = 0 := by
  unfold f_Tree_has
  rw [if_neg (by rw [show (1 : Int32) = nI 1 from rfl, nI_ltI (by omega) (by decide)]; omega), if_neg (by rw [hn, nI_ltI (by omega) (by omega)]; omega), if_neg (by rw [show (61 : Int32) = nI 61 from rfl, nI_leI (by decide) (by omega)]; omega)]
  decide
theorem has_0 {T : S_Tree} : f_Tree_has T (nI 0) = 0 := by rfl
theorem above_1 {T : S_Tree} {n j : Nat} (hn : T.2.2.2 = nI n) (hn60 : n ≤ 60) (h1 : 1 ≤ j) (h2 : j ≤ n) : f_Tree_above T (nI j) = T.2.1 j := by
  unfold f_Tree_above
  rw [if_neg (has_1 hn hn60 h1 h2), if_neg (by rw [show (61 : Int32) = nI 61 from rfl, nI_leI (by decide) (by omega)]; omega), nI_clamp (by omega)]
theorem nI_inj0 {j : Nat} (h1 : 1 ≤ j) (h : j < 2 ^ 31) : ¬ nI j = 0 := nI_ne0 h1 h
theorem has_eq {T : S_Tree} {S : S_Model} {n : Nat} (hn : T.2.2.2 = nI n) (hm : S.2.1 = nI n) (hn60 : n ≤ 60) (x : Int32) : f_Tree_has T x = f_Model_isException S x := by
  unfold f_Tree_has f_Model_isException
  have a1 : (1 : Int32).toInt = 1 := rfl
  have a0 : (0 : Int32).toInt = 0 := rfl
  by_cases h1 : x < 1
  · have h2 : x ≤ 0 := by rw [Int32.lt_iff_toInt_lt] at h1; rw [Int32.le_iff_toInt_le]; omega
    rw [if_pos h1, if_pos h2]
  · have h2 : ¬ x ≤ 0 := by rw [Int32.lt_iff_toInt_lt] at h1; rw [Int32.le_iff_toInt_le]; omega
    rw [if_neg h1, if_neg h2, hn, hm]
    by_cases h2 : nI n < x
    · rw [if_pos h2, if_pos h2]
    · have h3 : ¬ (61 : Int32) ≤ x := by rw [Int32.lt_iff_toInt_lt, nI_toInt (by omega)] at h2; rw [Int32.le_iff_toInt_le]; have a : (61 : Int32).toInt = 61 := rfl; omega
      rw [if_neg h2, if_neg h2, if_neg h3]
theorem has_of {T : S_Tree} {n : Nat} {x : Int32} (hn : T.2.2.2 = nI n) (hn60 : n ≤ 60) (h : ¬ f_Tree_has T x = 0) : ∃ j : Nat, x = nI j ∧ 1 ≤ j ∧ j ≤ n := by
  have hv := in_has h
  obtain ⟨j, hj, hx⟩ := vp_in_of hv (by decide)
  subst hx
  unfold f_Tree_has at h
  by_cases h1 : nI j < 1
  · rw [if_pos h1] at h; exact absurd rfl h
  rw [if_neg h1, hn] at h
  by_cases h2 : nI n < nI j
  · rw [if_pos h2] at h; exact absurd rfl h
  rw [show (1 : Int32) = nI 1 from rfl, nI_ltI (by omega) (by decide)] at h1
  rw [nI_ltI (by omega) (by omega)] at h2
  exact ⟨j, rfl, by omega, by omega⟩
/-! chains -/
def chn (ab : Nat → Int32) (u : Int32) : Nat → Nat → Int32
  | 0, _ => 0
  | d + 1, j => if nI j = u then 1 else chn ab u d (ab j).toNatClampNeg
theorem chX {T : S_Tree} {n : Nat} {ab : Nat → Int32} (hn : T.2.2.2 = nI n) (hn60 : n ≤ 60) (hab : ∀ i : Nat, 1 ≤ i → i ≤ n → T.2.1 i = ab i) (u x2 : Int32) : ∀ (d k j s : Nat), LevN ab n d j → s + d ≤ 3 → d < k → f_Tree_isSameOrAbove_L5 T u x2 k (nI j) (nI s) = chn ab u d j := by
  intro d
  induction d with
  | zero =>
    intro k j s h1 h2 h3
    obtain ⟨k, rfl⟩ : ∃ q, k = q + 1 := ⟨k - 1, by omega⟩
    have h1 : j = 0 := h1
    subst h1
    rw [f_Tree_isSameOrAbove_L5, if_pos has_0]
    by_cases h : (3 : Int32) ≤ nI s
    · rw [if_pos h]; rfl
    · rw [if_neg h]; rfl
  | succ d ih =>
    intro k j s h1 h2 h3
    obtain ⟨k, rfl⟩ : ∃ q, k = q + 1 := ⟨k - 1, by omega⟩
    obtain ⟨j1, jn, a, ha, hlt, hl⟩ := h1
    rw [f_Tree_isSameOrAbove_L5, if_neg (by rw [show (3 : Int32) = nI 3 from rfl, nI_leI (by decide) (by omega)]; omega), if_neg (has_1 hn hn60 j1 jn), above_1 hn hn60 j1 jn, hab j j1 jn, ha, nI_1, ih k a (s + 1) hl (by omega) (by omega), chn, ha, nI_clamp (by omega)]
theorem chM {S : S_Model} {n : Nat} (hn60 : n ≤ 60) (x1 u : Int32) (hu : ¬ u = 0) : ∀ (d k j : Nat), LevN S.2.2.2.2.2.2.2.2.2.2.1 n d j → d < k → f_Model_isAt_L2 S x1 u k (nI j) = chn S.2.2.2.2.2.2.2.2.2.2.1 u d j := by
  intro d
  induction d with
  | zero =>
    intro k j h1 h3
    obtain ⟨k, rfl⟩ : ∃ q, k = q + 1 := ⟨k - 1, by omega⟩
    have h1 : j = 0 := h1
    subst h1
    rw [f_Model_isAt_L2, if_pos (show nI 0 = 0 from rfl), if_neg (fun q => hu (by rw [← q]; rfl))]
    rfl
  | succ d ih =>
    intro k j h1 h3
    obtain ⟨k, rfl⟩ : ∃ q, k = q + 1 := ⟨k - 1, by omega⟩
    obtain ⟨j1, jn, a, ha, hlt, hl⟩ := h1
    rw [f_Model_isAt_L2, if_neg (nI_ne0 (by omega) (by omega)), nI_clamp (by omega), ha, ih k a hl (by omega), chn, ha, nI_clamp (by omega)]
theorem same_eq {T : S_Tree} {S : S_Model} {n : Nat} (h : RelE T S.2.1 S.2.2.2.2.2.2.2.2.1 S.2.2.2.2.2.2.2.2.2.1 S.2.2.2.2.2.2.2.2.2.2.1 n) {x u : Int32} (hx : ¬ f_Tree_has T x = 0) (hu : ¬ u = 0) : f_Tree_isSameOrAbove T u x = f_Model_isAt S x u := by
  obtain ⟨j, rfl, h1, h2⟩ := has_of h.1 h.2.2.1 hx
  obtain ⟨d, d1, d3, -, hl⟩ := h.2.2.2.2.2.1 j h1 h2
  unfold f_Tree_isSameOrAbove f_Model_isAt
  rw [show (0 : Int32) = nI 0 from rfl, chX h.1 h.2.2.1 (fun i a b => (h.2.2.2.1 i a b).2) u (nI j) d 4 j 0 hl (by omega) (by omega), chM h.2.2.1 (nI j) u hu d 61 j hl (by omega)]
def tkn (ab : Nat → Int32) (F : Int32 → Int32) : Nat → Nat → Int32
  | 0, _ => 0
  | d + 1, j => if F (nI j) = 0 then tkn ab F d (ab j).toNatClampNeg else F (nI j)
theorem tkX {X : S_Rows} {n : Nat} {ab : Nat → Int32} (hn : X.1.2.2.2 = nI n) (hn60 : n ≤ 60) (hab : ∀ i : Nat, 1 ≤ i → i ≤ n → X.1.2.1 i = ab i) (x1 : Int32) : ∀ (d k j s : Nat), LevN ab n d j → s + d ≤ 3 → d < k → f_Rows_takerOfException_L4 X x1 k (nI j) (nI s) = tkn ab (f_Uses_firstFor X.2.2.1 0) d j := by
  intro d
  induction d with
  | zero =>
    intro k j s h1 h2 h3
    obtain ⟨k, rfl⟩ : ∃ q, k = q + 1 := ⟨k - 1, by omega⟩
    have h1 : j = 0 := h1
    subst h1
    rw [f_Rows_takerOfException_L4, if_pos has_0]
    by_cases h : (3 : Int32) ≤ nI s
    · rw [if_pos h]; rfl
    · rw [if_neg h]; rfl
  | succ d ih =>
    intro k j s h1 h2 h3
    obtain ⟨k, rfl⟩ : ∃ q, k = q + 1 := ⟨k - 1, by omega⟩
    obtain ⟨j1, jn, a, ha, hlt, hl⟩ := h1
    rw [f_Rows_takerOfException_L4, if_neg (by rw [show (3 : Int32) = nI 3 from rfl, nI_leI (by decide) (by omega)]; omega), if_neg (has_1 hn hn60 j1 jn), above_1 hn hn60 j1 jn, hab j j1 jn, ha, nI_1, ih k a (s + 1) hl (by omega) (by omega), tkn, ha, nI_clamp (by omega)]
theorem tkMn {S : S_Model} (x1 t e : Int32) (ht : ¬ t = 0) : ∀ k : Nat, 0 < k → f_Model_takerOf_L4 S x1 k t e = t := by
  intro k hk
  obtain ⟨k, rfl⟩ : ∃ q, k = q + 1 := ⟨k - 1, by omega⟩
  rw [f_Model_takerOf_L4, if_neg ht]
  by_cases h : e = 0
  · rw [if_pos h]
  · rw [if_neg h]
theorem tkM {S : S_Model} {n : Nat} (hn60 : n ≤ 60) (x1 : Int32) : ∀ (d k j : Nat), LevN S.2.2.2.2.2.2.2.2.2.2.1 n d j → d + 1 < k → f_Model_takerOf_L4 S x1 k 0 (nI j) = tkn S.2.2.2.2.2.2.2.2.2.2.1 (f_Model_first S 0) d j := by
  intro d
  induction d with
  | zero =>
    intro k j h1 h3
    obtain ⟨k, rfl⟩ : ∃ q, k = q + 1 := ⟨k - 1, by omega⟩
    have h1 : j = 0 := h1
    subst h1
    rw [f_Model_takerOf_L4, if_pos (show nI 0 = 0 from rfl)]
    rfl
  | succ d ih =>
    intro k j h1 h3
    obtain ⟨k, rfl⟩ : ∃ q, k = q + 1 := ⟨k - 1, by omega⟩
    obtain ⟨j1, jn, a, ha, hlt, hl⟩ := h1
    rw [f_Model_takerOf_L4, if_neg (nI_ne0 (by omega) (by omega)), if_pos rfl, nI_clamp (by omega), ha, tkn, ha, nI_clamp (by omega)]
    by_cases h0 : f_Model_first S 0 (nI j) = 0
    · rw [if_pos h0, h0, ih k a hl (by omega)]
    · rw [if_neg h0, tkMn x1 _ _ h0 k (by omega)]
theorem tkn_congr {ab : Nat → Int32} {F G : Int32 → Int32} (h : ∀ x, F x = G x) : ∀ d j : Nat, tkn ab F d j = tkn ab G d j := by
  intro d
  induction d with
  | zero => intro j; rfl
  | succ d ih => intro j; rw [tkn, tkn, h, ih]
theorem taker_eq {X : S_Rows} {S : S_Model} {n nU : Nat} (h : RelE X.1 S.2.1 S.2.2.2.2.2.2.2.2.1 S.2.2.2.2.2.2.2.2.2.1 S.2.2.2.2.2.2.2.2.2.2.1 n) (hU : RelU X.2.2.1 S.2.2.2.1 S.2.2.2.2.2.2.2.2.2.2.2.2.2.2.1 S.2.2.2.2.2.2.2.2.2.2.2.2.2.2.2.1 nU) {x : Int32} (hx : ¬ f_Tree_has X.1 x = 0) : f_Rows_takerOfException X x = f_Model_takerOf S x := by
  obtain ⟨j, rfl, h1, h2⟩ := has_of h.1 h.2.2.1 hx
  obtain ⟨d, d1, d3, -, hl⟩ := h.2.2.2.2.2.1 j h1 h2
  unfold f_Rows_takerOfException f_Model_takerOf
  rw [show f_Rows_takerOfException_L4 X (nI j) 4 (nI j) 0 = f_Rows_takerOfException_L4 X (nI j) 4 (nI j) (nI 0) from rfl, tkX h.1 h.2.2.1 (fun i a b => (h.2.2.2.1 i a b).2) (nI j) d 4 j 0 hl (by omega) (by omega), tkM h.2.2.1 (nI j) d 61 j hl (by omega)]
  exact tkn_congr (fun y => (first_eq hU 0 y).symm) d j
/-! checks -/
theorem chk {C : S_Checks} {T : S_Tree} {S : S_Model} {n nE : Nat} (h : RelC C S.2.2.1 S.2.2.2.2.2.2.2.2.2.2.2.1 S.2.2.2.2.2.2.2.2.2.2.2.2.1 S.2.2.2.2.2.2.2.2.2.2.2.2.2.1 n) (hE : RelE T S.2.1 S.2.2.2.2.2.2.2.2.1 S.2.2.2.2.2.2.2.2.2.1 S.2.2.2.2.2.2.2.2.2.2.1 nE) {x p : Int32} (hx : ¬ f_Tree_has T x = 0) : ∀ (r k k2 j : Nat) (on g b : Int32), (g = b ∧ ¬ g < 0 ∨ g = 0 ∧ b = -1) → j + r = n → r < k → r < k2 → f_Checks_areOn_L9 C T x p k on g (nI j) = f_Model_isChecked_L8 S x p k2 b on (nI j) := by
  intro r
  induction r with
  | zero =>
    intro k k2 j on g b hg h1 h2 h3
    obtain ⟨k, rfl⟩ : ∃ q, k = q + 1 := ⟨k - 1, by omega⟩
    obtain ⟨k2, rfl⟩ : ∃ q, k2 = q + 1 := ⟨k2 - 1, by omega⟩
    have hn100 := h.2.2.1
    rw [f_Checks_areOn_L9, f_Model_isChecked_L8, if_pos (by rw [h.1]; exact nI_le (by omega) (by omega)), if_pos (by rw [h.2.1]; exact nI_le (by omega) (by omega))]
  | succ r ih =>
    intro k k2 j on g b hg h1 h2 h3
    obtain ⟨k, rfl⟩ : ∃ q, k = q + 1 := ⟨k - 1, by omega⟩
    obtain ⟨k2, rfl⟩ : ∃ q, k2 = q + 1 := ⟨k2 - 1, by omega⟩
    have hn100 := h.2.2.1
    obtain ⟨e1, e2, e3, e4, e5⟩ := h.2.2.2.1 j (by omega)
    have b1 : ¬ C.2.2.2 ≤ nI j := by rw [h.1]; exact nI_ge (by omega) (by omega)
    have b2 : ¬ S.2.2.1 ≤ nI j := by rw [h.2.1]; exact nI_ge (by omega) (by omega)
    have b3 : ¬ f_Checks_isRow C (nI j) = 0 := rowC_1 (by omega)
    rw [f_Checks_areOn_L9, f_Model_isChecked_L8, if_neg b1, if_neg b2, if_neg b3, nI_clamp (by omega), e1, e2, e3, nI_1, same_eq hE hx e4]
    have i1 := ih k k2 (j + 1) on g b hg (by omega) (by omega) (by omega)
    have i2 := ih k k2 (j + 1) (S.2.2.2.2.2.2.2.2.2.2.2.2.2.1 j) (S.2.2.2.2.2.2.2.2.2.2.2.2.1 j) (S.2.2.2.2.2.2.2.2.2.2.2.2.1 j) (Or.inl ⟨rfl, e5⟩) (by omega) (by omega) (by omega)
    rw [i1, i2]
    have hgb : S.2.2.2.2.2.2.2.2.2.2.2.2.1 j < g ↔ S.2.2.2.2.2.2.2.2.2.2.2.2.1 j < b := by
      rcases hg with ⟨q, -⟩ | ⟨q, q2⟩
      · rw [q]
      · rw [q, q2]
        have e6 := e5
        rw [Int32.lt_iff_toInt_lt] at e6 ⊢
        rw [Int32.lt_iff_toInt_lt]
        have a0 : (0 : Int32).toInt = 0 := rfl
        have a1 : (-1 : Int32).toInt = -1 := rfl
        omega
    by_cases q1 : S.2.2.2.2.2.2.2.2.2.2.2.2.1 j < b
    · rw [if_pos (hgb.mpr q1)]
      by_cases q2 : p < S.2.2.2.2.2.2.2.2.2.2.2.2.1 j
      · rw [if_pos q2]
      · rw [if_neg q2, if_pos q1]
    · rw [if_neg (fun z => q1 (hgb.mp z))]
      by_cases q2 : p < S.2.2.2.2.2.2.2.2.2.2.2.2.1 j
      · rw [if_pos q2, if_pos q2]
      · rw [if_neg q2, if_neg q2, if_neg q1]
theorem chk_eq {C : S_Checks} {T : S_Tree} {S : S_Model} {n nE : Nat} (h : RelC C S.2.2.1 S.2.2.2.2.2.2.2.2.2.2.2.1 S.2.2.2.2.2.2.2.2.2.2.2.2.1 S.2.2.2.2.2.2.2.2.2.2.2.2.2.1 n) (hE : RelE T S.2.1 S.2.2.2.2.2.2.2.2.1 S.2.2.2.2.2.2.2.2.2.1 S.2.2.2.2.2.2.2.2.2.2.1 nE) {x p : Int32} (hx : ¬ f_Tree_has T x = 0) : f_Checks_areOn C T x p = f_Model_isChecked S x p := by
  unfold f_Checks_areOn f_Model_isChecked
  have hn100 := h.2.2.1
  exact chk h hE hx n 101 101 0 0 0 (-1) (Or.inr ⟨rfl, rfl⟩) (by omega) (by omega) (by omega)
