theorem zg_lf (s : z_row) (v : Int32) (f : Nat) : ∀ d m, (m = 0 ∨ z_OPb s v f m = true) → (z_lf s v f m d = 0 ∨ z_OPb s v f (z_lf s v f m d) = true) ∧ z_lf s v f m d ≤ m + d ∧ (z_lf s v f m d = m + d ∨ ¬ z_OPb s v f (z_lf s v f m d + 1) = true) := by
  intro d
  induction d with
  | zero => intro m h; exact ⟨h, Nat.le_refl _, Or.inl rfl⟩
  | succ d ih =>
    intro m h
    simp only [z_lf]
    by_cases c : z_OPb s v f (m + 1) = true
    · rw [if_pos c]
      obtain ⟨h1, h2, h3⟩ := ih (m + 1) (Or.inr c)
      refine ⟨h1, by omega, ?_⟩
      rcases h3 with h3 | h3
      · left; omega
      · right; exact h3
    · rw [if_neg c]
      exact ⟨h, by omega, Or.inr c⟩
section
variable {x : xS} {s : z_row} {m : Nat} {sv : Nat → z_row} {kp : Nat → Bool} {sl : Nat → z_row} {len : Nat} {tx : Nat → Int32}
theorem zg_b66 (R : z_RelC x s m sv kp sl len tx) {l f n : Nat} (hl : l < 10) (h1 : 1 ≤ n) (h9 : n ≤ 9) (hh : f + n ≤ 12) (k48 : Int32 → Int32 → Int32 → Option Int32) (v3 v4 v5 : Int32) :
    fL_isLongestSo_b66 k48 0 (z_I l) (z_I f) x FU v3 v4 v5 (z_I n) 0 0 = fL_isLongestSo_b143 k48 0 (z_I l) (z_I f) x v3 v4 v5 (z_I n) (if z_OPb s (z_I l) f n = true then 1 else 0) := by
  have c1 : ¬ z_I n ≤ 0 := by rw [z_L0, z_I_le (by omega) (by omega)]; omega
  have c2 : ¬ (10 : Int32) ≤ z_I n := by rw [z_L10, z_I_le (by omega) (by omega)]; omega
  have c3 : ¬ (13 : Int32) ≤ z_I f + z_I n := by rw [z_I_add, show (13 : Int32) = z_I 13 from rfl, z_I_le (by omega) (by omega)]; omega
  have q1 : ∀ d N b, b + d = 4 → d < N → fL_isLongestSo_b66 k48 0 (z_I l) (z_I f) x N v3 v4 v5 (z_I n) 1 (z_I b) = fL_isLongestSo_b143 k48 0 (z_I l) (z_I f) x v3 v4 v5 (z_I n) 1 := by
    intro d
    induction d with
    | zero =>
      intro N b hb hN
      obtain ⟨N, rfl⟩ : ∃ j, N = j + 1 := ⟨N - 1, by omega⟩
      rw [fL_isLongestSo_b66, if_pos (by rw [z_L4, z_I_le (by omega) (by omega)]; omega)]
    | succ d ih =>
      intro N b hb hN
      obtain ⟨N, rfl⟩ : ∃ j, N = j + 1 := ⟨N - 1, by omega⟩
      rw [fL_isLongestSo_b66, if_neg (by rw [z_L4, z_I_le (by omega) (by omega)]; omega), if_neg c1, if_neg c2, if_neg c3, if_neg (by decide)]
      unfold fL_isLongestSo_b130 fL_isLongestSo_b135
      rw [z_I_s]
      exact ih N (b + 1) (by omega) (by omega)
  have q0 : ∀ d N b, b + d = 4 → d < N → (fL_isLongestSo_b66 k48 0 (z_I l) (z_I f) x N v3 v4 v5 (z_I n) 0 (z_I b) = fL_isLongestSo_b143 k48 0 (z_I l) (z_I f) x v3 v4 v5 (z_I n) 1 ∧ ∃ c, c < 4 ∧ z_LI s c f n = 0 ∧ z_HB s (z_I l) f n = 0 ∧ ¬ z_I f < s 108) ∨
      (fL_isLongestSo_b66 k48 0 (z_I l) (z_I f) x N v3 v4 v5 (z_I n) 0 (z_I b) = fL_isLongestSo_b143 k48 0 (z_I l) (z_I f) x v3 v4 v5 (z_I n) 0 ∧ ∀ c, b ≤ c → c < 4 → ¬ (z_LI s c f n = 0 ∧ z_HB s (z_I l) f n = 0 ∧ ¬ z_I f < s 108)) := by
    intro d
    induction d with
    | zero =>
      intro N b hb hN
      obtain ⟨N, rfl⟩ : ∃ j, N = j + 1 := ⟨N - 1, by omega⟩
      right
      rw [fL_isLongestSo_b66, if_pos (by rw [z_L4, z_I_le (by omega) (by omega)]; omega)]
      exact ⟨rfl, fun c a b => by omega⟩
    | succ d ih =>
      intro N b hb hN
      obtain ⟨N, rfl⟩ : ∃ j, N = j + 1 := ⟨N - 1, by omega⟩
      have nx : ¬ (z_LI s b f n = 0 ∧ z_HB s (z_I l) f n = 0 ∧ ¬ z_I f < s 108) → (fL_isLongestSo_b134 k48 (fL_isLongestSo_b66 k48 0 (z_I l) (z_I f) x N) 0 (z_I l) (z_I f) x v3 v4 v5 (z_I n) (z_I b) = fL_isLongestSo_b143 k48 0 (z_I l) (z_I f) x v3 v4 v5 (z_I n) 1 ∧ ∃ c, c < 4 ∧ z_LI s c f n = 0 ∧ z_HB s (z_I l) f n = 0 ∧ ¬ z_I f < s 108) ∨
          (fL_isLongestSo_b134 k48 (fL_isLongestSo_b66 k48 0 (z_I l) (z_I f) x N) 0 (z_I l) (z_I f) x v3 v4 v5 (z_I n) (z_I b) = fL_isLongestSo_b143 k48 0 (z_I l) (z_I f) x v3 v4 v5 (z_I n) 0 ∧ ∀ c, b ≤ c → c < 4 → ¬ (z_LI s c f n = 0 ∧ z_HB s (z_I l) f n = 0 ∧ ¬ z_I f < s 108)) := by
        intro hno
        unfold fL_isLongestSo_b134 fL_isLongestSo_b135
        rw [z_I_s]
        rcases ih N (b + 1) (by omega) (by omega) with h | ⟨e, h⟩
        · left; exact h
        · right
          refine ⟨e, fun c a1 a2 => ?_⟩
          by_cases c2 : c = b
          · subst c2; exact hno
          · exact h c (by omega) a2
      rw [fL_isLongestSo_b66, if_neg (by rw [z_L4, z_I_le (by omega) (by omega)]; omega), if_neg c1, if_neg c2, if_neg c3, if_pos rfl, zl_isFree R (by omega) hh, z_ob]
      by_cases d1 : z_LI s b f n = 0
      · rw [if_pos d1, if_neg (by decide), zl_has R hl h1 hh, z_ob]
        by_cases d2 : z_HB s (z_I l) f n = 0
        · rw [if_pos d2, if_pos rfl, show fpX6_count 0 0 x = some (s 108) from zp_count R (k := 0) (by omega), z_ob]
          by_cases d3 : z_I f < s 108
          · rw [if_pos d3]
            exact nx (fun h => h.2.2 d3)
          · rw [if_neg d3]
            left
            unfold fL_isLongestSo_b130 fL_isLongestSo_b135
            rw [z_I_s]
            exact ⟨q1 d N (b + 1) (by omega) (by omega), b, by omega, d1, d2, d3⟩
        · rw [if_neg d2, if_neg (by decide)]
          exact nx (fun h => d2 h.2.1)
      · rw [if_neg d1, if_pos rfl]
        exact nx (fun h => d1 h.1)
  rcases q0 4 FU 0 rfl (by decide) with ⟨e, c, a1, a2, a3, a4⟩ | ⟨e, h⟩
  · have hm := z_EM_min s f n a1
    have hop : z_OPb s (z_I l) f n = true := by
      unfold z_OPb
      simp only [Bool.and_eq_true, decide_eq_true_eq, Bool.not_eq_true', decide_eq_false_iff_not]
      exact ⟨⟨⟨hh, a4⟩, a3⟩, by omega⟩
    rw [if_pos hop]
    exact e
  · have hop : ¬ z_OPb s (z_I l) f n = true := fun q => by
      have o := z_OPb_t q
      exact h (z_EM s f n) (Nat.zero_le _) (z_EM_lt s f n) ⟨o.2.2.2, o.2.2.1, o.2.1⟩
    rw [if_neg hop]
    exact e
theorem zg_b66n (k48 : Int32 → Int32 → Int32 → Option Int32) (v1 v2 v3 v4 v5 v6 : Int32) (h : v6 ≤ 0 ∨ (10 : Int32) ≤ v6 ∨ (13 : Int32) ≤ v2 + v6) :
    fL_isLongestSo_b66 k48 0 v1 v2 x FU v3 v4 v5 v6 0 0 = fL_isLongestSo_b143 k48 0 v1 v2 x v3 v4 v5 v6 0 := by
  rw [show FU = 1999 + 1 from rfl, fL_isLongestSo_b66, if_neg (by decide)]
  by_cases c1 : v6 ≤ 0
  · rw [if_pos c1]
  by_cases c2 : (10 : Int32) ≤ v6
  · rw [if_neg c1, if_pos c2]
  · rcases h with h | h | h
    · exact absurd h c1
    · exact absurd h c2
    · rw [if_neg c1, if_neg c2, if_pos h]
theorem zg_longest (R : z_RelC x s m sv kp sl len tx) {l f : Nat} (hl : l < 10) (hf : f < 12) : fL_isLongestSo 0 (z_I l) (z_I f) x = some 1 := by
  obtain ⟨q, hq⟩ : ∃ q, q = z_LF s (z_I l) f := ⟨_, rfl⟩
  obtain ⟨h1, h2, h3⟩ := zg_lf s (z_I l) f 9 0 (Or.inl rfl)
  rw [show z_lf s (z_I l) f 0 9 = q from hq.symm] at h1 h2 h3
  have hq9 : q ≤ 9 := by omega
  have hop : q = 0 ∨ z_OP s (z_I l) f q := h1.imp id z_OPb_t
  have hf12 : f + q ≤ 12 := by
    rcases hop with h | h
    · omega
    · exact h.1
  have main : fL_isLongestSo_b38 0 (z_I l) (z_I f) x (z_I q) = some 1 := by
    unfold fL_isLongestSo_b38 fL_isLongestSo_b43
    rw [show FU = 1997 + 1 + 1 + 1 from rfl, fL_isLongestSo_b48, if_neg (by decide), z_lt_, show z_I q + 0 = z_I q from Int32.add_zero _]
    have s2 : fL_isLongestSo_b48 0 (z_I l) (z_I f) x (1997 + 1 + 1) (z_I q) 1 1 = some 1 := by
      rw [fL_isLongestSo_b48, if_neg (by decide), z_lt_, z_I_s]
      have e7 : fL_isLongestSo_b66 (fL_isLongestSo_b48 0 (z_I l) (z_I f) x (1997 + 1)) 0 (z_I l) (z_I f) x FU (z_I q) 1 1 (z_I (q + 1)) 0 0 = fL_isLongestSo_b143 (fL_isLongestSo_b48 0 (z_I l) (z_I f) x (1997 + 1)) 0 (z_I l) (z_I f) x (z_I q) 1 1 (z_I (q + 1)) 0 := by
        by_cases c : q + 1 ≤ 9 ∧ f + (q + 1) ≤ 12
        · rw [zg_b66 R hl (by omega) c.1 c.2, if_neg]
          rcases h3 with h3 | h3
          · omega
          · exact h3
        · refine zg_b66n _ _ _ _ _ _ _ ?_
          by_cases c2 : q + 1 ≤ 9
          · right; right
            rw [z_I_add, show (13 : Int32) = z_I 13 from rfl, z_I_le (by omega) (by omega)]; omega
          · right; left
            rw [z_L10, z_I_le (by omega) (by omega)]; omega
      rw [e7]
      unfold fL_isLongestSo_b143
      rw [if_neg (by decide), if_neg (by rw [z_L0, z_I_eq (by omega) (by omega)]; omega), if_neg (by decide)]
      unfold fL_isLongestSo_b165
      rw [if_pos rfl]
      unfold fL_isLongestSo_b168 fL_isLongestSo_b173
      rw [fL_isLongestSo_b48, if_pos (by decide), if_pos (by decide)]
    by_cases c0 : q = 0
    · subst c0
      rw [zg_b66n _ _ _ _ _ _ _ (Or.inl (by decide))]
      unfold fL_isLongestSo_b143
      rw [if_neg (by decide), if_pos (by decide)]
      unfold fL_isLongestSo_b168 fL_isLongestSo_b173
      exact s2
    · rw [zg_b66 R hl (by omega) hq9 hf12, if_pos (by rcases h1 with h | h; exact absurd h c0; exact h)]
      unfold fL_isLongestSo_b143
      rw [if_neg (by decide), if_neg (by rw [z_L0, z_I_eq (by omega) (by omega)]; exact c0), if_pos rfl]
      unfold fL_isLongestSo_b165
      rw [if_pos rfl]
      unfold fL_isLongestSo_b168 fL_isLongestSo_b173
      exact s2
  unfold fL_isLongestSo fL_isLongestSo_b0
  rw [zp_longest R hl hf, z_ob, ← hq, if_neg (by rw [z_I_nn (by omega)]; exact id), if_neg (by rw [z_L9, z_I_lt (by omega) (by omega)]; omega), if_neg (by rw [z_I_add, z_L12, z_I_lt (by omega) (by omega)]; omega)]
  by_cases c0 : q = 0
  · rw [if_pos (by rw [c0]; rfl)]; exact main
  · rw [if_neg (by rw [z_L0, z_I_eq (by omega) (by omega)]; exact c0), show fpX6_count 0 0 x = some (s 108) from zp_count R (k := 0) (by omega), z_ob, if_neg]
    · exact main
    · rcases hop with h | h
      · exact absurd h c0
      · exact h.2.1
end
