section
variable {x : xS} {s : z_row} {m m' : Nat} {sv sv' : Nat → z_row} {kp kp' : Nat → Bool} {sl sl' : Nat → z_row} {len len' : Nat} {tx tx' : Nat → Int32}
theorem zl_CT2 {k : Nat} (hk : k < 11) : z_CT2 s m k = z_CT2 s m' k := by
  unfold z_CT2
  rw [if_neg (by omega), if_neg (by omega)]
theorem zl_alike (R : z_RelC x s m sv kp sl len tx) (R' : z_RelC (sw x) s m' sv' kp' sl' len' tx') (O : z_OKs s) : fL_areAlike 0 x = some 1 := by
  have q3 : ∀ d n k, k + d = 48 → d < n → fL_areAlike_b107 0 x n 1 (z_I k) = some 1 := by
    intro d
    induction d with
    | zero =>
      intro n k hk hn
      obtain ⟨n, rfl⟩ : ∃ j, n = j + 1 := ⟨n - 1, by omega⟩
      rw [fL_areAlike_b107, if_pos (by rw [show (48 : Int32) = z_I 48 from rfl, z_I_le (by omega) (by omega)]; omega), if_pos (by decide)]
    | succ d ih =>
      intro n k hk hn
      obtain ⟨n, rfl⟩ : ∃ j, n = j + 1 := ⟨n - 1, by omega⟩
      rw [fL_areAlike_b107, if_neg (by rw [show (48 : Int32) = z_I 48 from rfl, z_I_le (by omega) (by omega)]; omega), if_neg (by decide)]
      rw [show z_I k - z_I k / (12 : Int32) * (12 : Int32) = z_I (k % 12) from zl_md (n := 12) (by omega) (by omega) (by omega), show z_I k / (12 : Int32) = z_I (k / 12) from zl_dv (n := 12) (by omega) (by omega) (by omega)]
      rw [show (1 : Int32) + (z_I k - z_I k / (4 : Int32) * (4 : Int32)) = z_I (1 + k % 4) by rw [show z_I k - z_I k / (4 : Int32) * (4 : Int32) = z_I (k % 4) from zl_md (n := 4) (by omega) (by omega) (by omega), z_L1, z_I_add]]
      rw [zp_at R (by omega) (by omega), z_ob, zp_at R' (by omega) (by omega), z_ob, if_pos rfl, zp_refused R (by omega) (by omega), z_ob, zp_refused R' (by omega) (by omega), z_ob, if_pos rfl]
      unfold fL_areAlike_b170
      rw [z_I_s]
      exact ih n (k + 1) (by omega) (by omega)
  have q2 : ∀ d n k, k + d = 70 → d < n → fL_areAlike_b56 0 x n 1 (z_I k) = some 1 := by
    intro d
    induction d with
    | zero =>
      intro n k hk hn
      obtain ⟨n, rfl⟩ : ∃ j, n = j + 1 := ⟨n - 1, by omega⟩
      rw [fL_areAlike_b56, if_pos (by rw [show (70 : Int32) = z_I 70 from rfl, z_I_le (by omega) (by omega)]; omega)]
      exact q3 48 FU 0 rfl (by decide)
    | succ d ih =>
      intro n k hk hn
      obtain ⟨n, rfl⟩ : ∃ j, n = j + 1 := ⟨n - 1, by omega⟩
      rw [fL_areAlike_b56, if_neg (by rw [show (70 : Int32) = z_I 70 from rfl, z_I_le (by omega) (by omega)]; omega), if_neg (by decide)]
      rw [show z_I k - z_I k / (7 : Int32) * (7 : Int32) = z_I (k % 7) from zl_md (n := 7) (by omega) (by omega) (by omega), show z_I k / (7 : Int32) = z_I (k / 7) from zl_dv (n := 7) (by omega) (by omega) (by omega)]
      rw [zp_lodgerOf R (by omega) (by omega), z_ob, zp_lodgerOf R' (by omega) (by omega), z_ob, if_pos rfl]
      unfold fL_areAlike_b98
      rw [z_I_s]
      exact ih n (k + 1) (by omega) (by omega)
  have q1 : ∀ d n k, k + d = 11 → d < n → fL_areAlike_b19 0 x n 1 (z_I k) = some 1 := by
    intro d
    induction d with
    | zero =>
      intro n k hk hn
      obtain ⟨n, rfl⟩ : ∃ j, n = j + 1 := ⟨n - 1, by omega⟩
      rw [fL_areAlike_b19, if_pos (by rw [z_L11, z_I_le (by omega) (by omega)]; omega)]
      exact q2 70 FU 0 rfl (by decide)
    | succ d ih =>
      intro n k hk hn
      obtain ⟨n, rfl⟩ : ∃ j, n = j + 1 := ⟨n - 1, by omega⟩
      rw [fL_areAlike_b19, if_neg (by rw [z_L11, z_I_le (by omega) (by omega)]; omega), if_neg (by decide)]
      rw [zp_count R (by omega), z_ob, zp_count R' (by omega), z_ob, if_pos (zl_CT2 (by omega))]
      unfold fL_areAlike_b47
      rw [z_I_s]
      exact ih n (k + 1) (by omega) (by omega)
  unfold fL_areAlike fL_areAlike_b0 fL_areAlike_b16
  rw [z_C_poorest R O, z_ob, z_C_poorest R' O, z_ob, if_pos rfl]
  exact q1 11 FU 0 rfl (by decide)
/-- hours of a bed, free throughout -/
theorem zl_isFree (R : z_RelC x s m sv kp sl len tx) {b f n : Nat} (hb : b < 4) (hh : f + n ≤ 12) : fL_isFree 0 (z_I b) (z_I f) (z_I n) x = some (if z_LI s b f n = 0 then 1 else 0) := by
  have q0 : ∀ d N k, k + d = f + n → d < N → fL_isFree_b6 0 (z_I b) (z_I f) (z_I n) x N 0 (z_I k) = some 0 := by
    intro d
    induction d with
    | zero =>
      intro N k hk hn
      obtain ⟨N, rfl⟩ : ∃ j, N = j + 1 := ⟨N - 1, by omega⟩
      rw [fL_isFree_b6, if_pos (by rw [z_I_add, z_I_le (by omega) (by omega)]; omega), if_pos (by decide)]
    | succ d ih =>
      intro N k hk hn
      obtain ⟨N, rfl⟩ : ∃ j, N = j + 1 := ⟨N - 1, by omega⟩
      rw [fL_isFree_b6, if_neg (by rw [z_I_add, z_I_le (by omega) (by omega)]; omega), if_pos rfl]
      unfold fL_isFree_b34 fL_isFree_b35
      rw [z_I_s]
      exact ih N (k + 1) (by omega) (by omega)
  have q1 : ∀ d N k, k + d = f + n → d < N → fL_isFree_b6 0 (z_I b) (z_I f) (z_I n) x N 1 (z_I k) = some (if z_LI s b k d = 0 then 1 else 0) := by
    intro d
    induction d with
    | zero =>
      intro N k hk hn
      obtain ⟨N, rfl⟩ : ∃ j, N = j + 1 := ⟨N - 1, by omega⟩
      rw [fL_isFree_b6, if_pos (by rw [z_I_add, z_I_le (by omega) (by omega)]; omega), if_pos (by decide)]
      rfl
    | succ d ih =>
      intro N k hk hn
      obtain ⟨N, rfl⟩ : ∃ j, N = j + 1 := ⟨N - 1, by omega⟩
      have eL : z_LI s b k (d + 1) = (if z_hv s b k = -1 then 0 else 1) + z_LI s b (k + 1) d := by
        rw [Nat.add_comm d 1, z_LI_add]
        have e1 : z_LI s b k 1 = (if z_hv s b k = -1 then 0 else 1) := Nat.zero_add _
        rw [e1]
      rw [fL_isFree_b6, if_neg (by rw [z_I_add, z_I_le (by omega) (by omega)]; omega), if_neg (by decide), zp_at R hb (by omega), z_ob, eL]
      by_cases c : z_hv s b k = -1
      · rw [if_pos c, if_pos c, Nat.zero_add]
        unfold fL_isFree_b35
        rw [z_I_s]
        exact ih N (k + 1) (by omega) (by omega)
      · rw [if_neg c, if_neg c, if_neg (by omega)]
        unfold fL_isFree_b34 fL_isFree_b35
        rw [z_I_s]
        exact q0 d N (k + 1) (by omega) (by omega)
  unfold fL_isFree fL_isFree_b0
  exact q1 n FU f rfl (by show n < 2000; omega)
theorem zl_HB_some {v : Int32} {f n : Nat} (h : ¬ z_HB s v f n = 0) : ∃ j b, f ≤ j ∧ j < f + n ∧ b < 4 ∧ z_hv s b j = v := by
  have q : ∀ n, ¬ z_HB s v f n = 0 → ∃ j b, f ≤ j ∧ j < f + n ∧ b < 4 ∧ z_hv s b j = v := by
    intro n
    induction n with
    | zero => intro h; exact absurd rfl h
    | succ n ih =>
      intro h
      have e : z_HB s v f (n + 1) = z_HB s v f n + (if z_BO s v (f + n) = 4 then 0 else 1) := rfl
      by_cases c : z_HB s v f n = 0
      · have c2 : ¬ z_BO s v (f + n) = 4 := fun e4 => h (by rw [e, c, if_pos e4])
        refine ⟨f + n, z_BO s v (f + n), by omega, by omega, ?_, ?_⟩
        · have := z_BO_le s v (f + n); omega
        · have h4 := c2
          unfold z_BO at h4 ⊢
          by_cases a0 : z_hv s 0 (f + n) = v
          · rw [if_pos a0]; exact a0
          by_cases a1 : z_hv s 1 (f + n) = v
          · rw [if_neg a0, if_pos a1]; exact a1
          by_cases a2 : z_hv s 2 (f + n) = v
          · rw [if_neg a0, if_neg a1, if_pos a2]; exact a2
          by_cases a3 : z_hv s 3 (f + n) = v
          · rw [if_neg a0, if_neg a1, if_neg a2, if_pos a3]; exact a3
          · rw [if_neg a0, if_neg a1, if_neg a2, if_neg a3] at h4; exact absurd rfl h4
      · obtain ⟨j, b, h1, h2, h3, h4⟩ := ih c
        exact ⟨j, b, h1, by omega, h3, h4⟩
  exact q n h
theorem zl_has (R : z_RelC x s m sv kp sl len tx) {l f n : Nat} (hl : l < 10) (h1 : 1 ≤ n) (hh : f + n ≤ 12) : fL_has 0 (z_I l) (z_I f) (z_I n) x = some (if z_HB s (z_I l) f n = 0 then 0 else 1) := by
  have hn0 : ¬ z_I n = 0 := by rw [z_L0, z_I_eq (by omega) (by omega)]; omega
  have e4 : (4 : Int32) * z_I n = z_I (4 * n) := by rw [z_L4, z_I_mul]
  have q1 : ∀ d N k, k + d = 4 * n → d < N → fL_has_b6 0 (z_I l) (z_I f) (z_I n) x N 1 (z_I k) = some 1 := by
    intro d
    induction d with
    | zero =>
      intro N k hk hn
      obtain ⟨N, rfl⟩ : ∃ j, N = j + 1 := ⟨N - 1, by omega⟩
      rw [fL_has_b6, if_pos (by rw [e4, z_I_le (by omega) (by omega)]; omega), if_pos (by decide)]
    | succ d ih =>
      intro N k hk hn
      obtain ⟨N, rfl⟩ : ∃ j, N = j + 1 := ⟨N - 1, by omega⟩
      rw [fL_has_b6, if_neg (by rw [e4, z_I_le (by omega) (by omega)]; omega), if_neg (by decide)]
      unfold fL_has_b37 fL_has_b42
      rw [z_I_s]
      exact ih N (k + 1) (by omega) (by omega)
  have hb4 : ∀ k, k < 4 * n → k / n < 4 := fun k hk => (Nat.div_lt_iff_lt_mul (by omega)).mpr hk
  have hm : ∀ k, k % n < n := fun k => Nat.mod_lt _ (by omega)
  have st : ∀ N k, k < 4 * n → fL_has_b6 0 (z_I l) (z_I f) (z_I n) x (N + 1) 0 (z_I k) = fL_has_b6 0 (z_I l) (z_I f) (z_I n) x N (if z_hv s (k / n) (f + k % n) = z_I l then 1 else 0) (z_I (k + 1)) := by
    intro N k hk
    rw [fL_has_b6, if_neg (by rw [e4, z_I_le (by omega) (by omega)]; omega), if_pos rfl, if_neg hn0, if_neg hn0, zl_md (k := k) (n := n) (by omega) h1 (by omega), zl_dv (k := k) (n := n) (by omega) h1 (by omega), z_I_add]
    have := hm k
    rw [zp_at R (hb4 k hk) (by omega), z_ob]
    by_cases c : z_hv s (k / n) (f + k % n) = z_I l
    · rw [if_pos c, if_pos c]
      unfold fL_has_b37 fL_has_b42
      rw [z_I_s]
    · rw [if_neg c, if_neg c]
      unfold fL_has_b42
      rw [z_I_s]
  have q0 : ∀ d N k, k + d = 4 * n → d < N → fL_has_b6 0 (z_I l) (z_I f) (z_I n) x N 0 (z_I k) = some 0 ∧ (∀ i, k ≤ i → i < 4 * n → z_hv s (i / n) (f + i % n) ≠ z_I l) ∨ fL_has_b6 0 (z_I l) (z_I f) (z_I n) x N 0 (z_I k) = some 1 ∧ ∃ i, i < 4 * n ∧ z_hv s (i / n) (f + i % n) = z_I l := by
    intro d
    induction d with
    | zero =>
      intro N k hk hn
      obtain ⟨N, rfl⟩ : ∃ j, N = j + 1 := ⟨N - 1, by omega⟩
      left
      rw [fL_has_b6, if_pos (by rw [e4, z_I_le (by omega) (by omega)]; omega), if_pos (by decide)]
      exact ⟨rfl, fun i a b => by omega⟩
    | succ d ih =>
      intro N k hk hn
      obtain ⟨N, rfl⟩ : ∃ j, N = j + 1 := ⟨N - 1, by omega⟩
      rw [st N k (by omega)]
      by_cases c : z_hv s (k / n) (f + k % n) = z_I l
      · rw [if_pos c]
        right
        exact ⟨q1 d N (k + 1) (by omega) (by omega), k, by omega, c⟩
      · rw [if_neg c]
        rcases ih N (k + 1) (by omega) (by omega) with ⟨e, h⟩ | h
        · left
          refine ⟨e, fun i a b => ?_⟩
          by_cases c2 : i = k
          · subst c2; exact c
          · exact h i (by omega) b
        · right; exact h
  have e : fL_has 0 (z_I l) (z_I f) (z_I n) x = fL_has_b6 0 (z_I l) (z_I f) (z_I n) x FU 0 (z_I 0) := rfl
  rw [e]
  rcases q0 (4 * n) FU 0 (by omega) (by show 4 * n < 2000; omega) with ⟨e, h⟩ | ⟨e, i, hi, h⟩
  · rw [e, if_pos]
    apply Decidable.byContradiction
    intro c
    obtain ⟨j, b, a1, a2, a3, a4⟩ := zl_HB_some c
    have hlt : b * n + (j - f) < 4 * n := by
      have : b * n + n ≤ 4 * n := by rw [← Nat.succ_mul]; exact Nat.mul_le_mul_right n a3
      omega
    refine h (b * n + (j - f)) (by omega) hlt ?_
    rw [Nat.mul_comm b n, Nat.mul_add_div (by omega), Nat.div_eq_of_lt (show j - f < n by omega), Nat.mul_add_mod, Nat.mod_eq_of_lt (show j - f < n by omega), Nat.add_zero, show f + (j - f) = j by omega]
    exact a4
  · rw [e, if_neg]
    intro c
    have := hm i
    exact z_BO_no (z_HB_0 c (f + i % n) (by omega) (by omega)) (i / n) (hb4 i hi) h
end
