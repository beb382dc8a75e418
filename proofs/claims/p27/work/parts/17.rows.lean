theorem zi_sm_add (f g : Nat → Nat) : ∀ n, z_sm (fun k => f k + g k) n = z_sm f n + z_sm g n := by
  intro n
  induction n with
  | zero => rfl
  | succ n ih => simp only [z_sm]; rw [ih]; omega
theorem zi_sm_one (l : Nat) : ∀ n, z_sm (fun k => if k = l then 1 else 0) n = if l < n then 1 else 0 := by
  intro n
  induction n with
  | zero => rfl
  | succ n ih =>
    simp only [z_sm]
    rw [ih]
    by_cases c : n = l
    · rw [if_pos c, if_neg (by omega), if_pos (by omega)]
    · rw [if_neg c]
      by_cases c2 : l < n
      · rw [if_pos c2, if_pos (by omega)]
      · rw [if_neg c2, if_neg (by omega)]
theorem zi_sm_get (f : Nat → Nat) : ∀ n l, l < n → f l ≤ z_sm f n := by
  intro n
  induction n with
  | zero => intro l h; omega
  | succ n ih =>
    intro l h
    simp only [z_sm]
    by_cases c : l = n
    · subst c; omega
    · have := ih l (by omega); omega
/-- the counts of a row agree: those who were put out by lodgers, the hours lost, the askings done -/
def zi_J (T : Nat) (s : z_row) : Prop := ∃ (c d : Nat → Nat) (a q : Nat), (∀ l, l < 10 → s (6 * l + 4) = z_I (c l) ∧ s (6 * l + 5) = z_I (d l)) ∧ s 115 = z_I (z_sm c 10) ∧ s 116 = z_I q ∧ z_sm c 10 ≤ q ∧ q ≤ 12 * T ∧ s 110 = z_I a ∧ z_sm d 10 ≤ a ∧ a ≤ T
theorem zi_keep {T : Nat} {s t : z_row} (h : ∀ k, (k < 60 ∧ (k % 6 = 4 ∨ k % 6 = 5)) ∨ k = 110 ∨ k = 115 ∨ k = 116 → t k = s k) (J : zi_J T s) : zi_J T t := by
  obtain ⟨c, d, a, q, h1, h2, h3, h4, h5, h6, h7, h8⟩ := J
  exact ⟨c, d, a, q, fun l hl => ⟨by rw [h _ (by omega)]; exact (h1 l hl).1, by rw [h _ (by omega)]; exact (h1 l hl).2⟩, by rw [h _ (by omega)]; exact h2, by rw [h _ (by omega)]; exact h3, h4, h5, by rw [h _ (by omega)]; exact h6, h7, h8⟩
theorem zi_mono {T : Nat} {s : z_row} (J : zi_J T s) : zi_J (T + 1) s := by
  obtain ⟨c, d, a, q, h1, h2, h3, h4, h5, h6, h7, h8⟩ := J
  exact ⟨c, d, a, q, h1, h2, h3, h4, by omega, h6, h7, by omega⟩
theorem zi_bc_LI {s : z_row} (O : z_OKs s) {b f : Nat} (hb : b < 4) : ∀ n, f + n ≤ 12 → z_bc (z_MK s b f n) ≤ z_LI s b f n := by
  intro n
  induction n with
  | zero =>
    intro _
    have e : z_MK s b f 0 = 0 := rfl
    have e2 : z_bc 0 = 0 := by decide
    rw [e, e2]
    exact Nat.zero_le _
  | succ n ih =>
    intro hh
    have ih := ih (by omega)
    have hM : z_MK s b f n < 1024 := z_MK_lt2 O.1 hb (by omega)
    rw [z_MK_s]
    have eL : z_LI s b f (n + 1) = z_LI s b f n + (if z_hv s b (f + n) = -1 then 0 else 1) := rfl
    rw [eL]
    rcases z_OK_h O hb (show f + n < 12 by omega) with e | ⟨l, hl, e⟩
    · rw [e, if_pos rfl, show z_hm (-1) = 0 from rfl, Nat.or_zero]; exact ih
    · have hne : ¬ z_I l = (-1 : Int32) := by rw [z_I_n1 (by omega)]; exact id
      have hm : z_hm (z_I l) = 2 ^ l := by unfold z_hm; rw [if_neg hne, z_I_nat (by omega)]
      rw [e, if_neg hne, hm]
      rcases z_bt_2 (z_MK s b f n) l with q | q
      · rw [z_bc_or hl hM q]; omega
      · rw [z_or_in l hl _ hM q]; omega
theorem zi_LI_in (s : z_row) (b : Nat) {f n S E : Nat} (h1 : S ≤ f) (h2 : f + n ≤ E) : z_LI s b f n ≤ z_LI s b S (E - S) := by
  have e : E - S = (f - S) + (n + (E - f - n)) := by omega
  rw [e, z_LI_add, z_LI_add, show S + (f - S) = f by omega]
  omega
theorem zi_GZ {T : Nat} {t : z_row} {l b f n : Nat} (hl : l < 10) (hb : b < 4) (hh : f + n ≤ 12) (h : ∃ (c d : Nat → Nat) (a q : Nat), (∀ l, l < 10 → t (6 * l + 4) = z_I (c l) ∧ t (6 * l + 5) = z_I (d l)) ∧ t 115 = z_I (z_sm c 10) ∧ t 116 = z_I q ∧ z_sm c 10 ≤ q ∧ q ≤ 12 * (T + 1) ∧ t 110 = z_I a ∧ z_sm d 10 ≤ a + 1 ∧ a ≤ T) : zi_J (T + 1) (z_GZ t l b f n) := by
  obtain ⟨c, d, a, q, h1, h2, h3, h4, h5, h6, h7, h8⟩ := h
  have e0 : ∀ k, k ≠ 6 * l + 1 → ¬ (60 ≤ k ∧ k < 108) → z_LE (upd t (6 * l + 1) 0) b f n (z_I l) k = t k := fun k q1 q2 => by
    rw [z_LEN (by omega), z_updN _ q1]
  have e : ∀ k, k ≠ 6 * l + 1 → ¬ (60 ≤ k ∧ k < 108) → k ≠ 110 → z_GZ t l b f n k = t k := fun k q1 q2 q3 => by
    unfold z_GZ
    rw [z_updN _ q3, e0 k q1 q2]
  refine ⟨c, d, a + 1, q, fun j hj => ⟨by rw [e _ (by omega) (by omega) (by omega)]; exact (h1 j hj).1, by rw [e _ (by omega) (by omega) (by omega)]; exact (h1 j hj).2⟩, by rw [e _ (by omega) (by omega) (by omega)]; exact h2, by rw [e _ (by omega) (by omega) (by omega)]; exact h3, h4, h5, ?_, by omega, by omega⟩
  unfold z_GZ
  rw [z_updP _ rfl, e0 _ (by omega) (by omega), h6, z_I_s]
/-- an asking that is granted by the eighth rule: the row behind, the numbers one by one -/
theorem zi_G8 {s : z_row} {l b f n g : Nat} (hl : l < 10) (hb : b < 4) (hn : 1 ≤ n) (hh : f + n ≤ 12) :
    (∀ k, k < 10 → z_G8 s l b f n g (6 * k + 4) = s (6 * k + 4) + z_I (z_bt (z_MK s b f n) k)) ∧
    (∀ k, k < 10 → z_G8 s l b f n g (6 * k + 5) = s (6 * k + 5) + z_I (if k = l then 1 else 0)) ∧
    (∀ k, k < 10 → z_G8 s l b f n g (6 * k + 1) = if z_bt (z_MK s b f n) k = 1 then z_mi (s (6 * k + 1)) else s (6 * k + 1)) ∧
    (∀ k, k < 10 → z_G8 s l b f n g (6 * k + 2) = s (6 * k + 2)) ∧ z_G8 s l b f n g 110 = s 110 ∧ z_G8 s l b f n g 115 = s 115 + z_I (z_bc (z_MK s b f n)) ∧
    z_G8 s l b f n g 116 = s 116 + z_I (z_LI s b (z_FS s b f g) (z_PE s b (f + n - 1) - z_FS s b f g)) ∧
    (∀ c j, c < 4 → j < 12 → z_hv (z_G8 s l b f n g) c j = if c = b ∧ z_FS s b f g ≤ j ∧ j < z_PE s b (f + n - 1) then -1 else z_hv s c j) ∧
    (∀ k, k < 10 → z_G8 s l b f n g (6 * k + 3) = s (6 * k + 3)) := by
  have hF := z_FS_le s b f g
  have hP := z_PE_le s b (f + n - 1) (by omega)
  have hEz : z_Ez s b f g n = z_PE s b (f + n - 1) := by unfold z_Ez; rw [if_neg (by omega)]
  have hS : z_FS s b f g + (z_PE s b (f + n - 1) - z_FS s b f g) ≤ 12 := by omega
  rw [z_G8_Z s hl hb hn hh]
  unfold z_Zi
  rw [hEz]
  refine ⟨fun k hk => ?_, fun k hk => ?_, fun k hk => ?_, fun k hk => ?_, ?_, ?_, ?_, fun c j hc hj => ?_, fun k hk => ?_⟩
  · rw [z_updN _ (by omega), z_Zr_l hk (by omega)]
    rcases z_bt_2 (z_MK s b f n) k with q | q
    · rw [q, if_neg (by omega)]; exact (Int32.add_zero _).symm
    · rw [q, if_pos rfl, if_pos rfl]; rfl
  · by_cases c : k = l
    · subst c
      rw [z_updP _ rfl, z_Zr_l hk (by omega), if_pos rfl]
      by_cases q : z_bt (z_MK s b f n) k = 1
      · rw [if_pos q, if_neg (by omega), if_neg (by omega)]; rfl
      · rw [if_neg q]; rfl
    · rw [z_updN _ (by omega), z_Zr_l hk (by omega), if_neg c]
      by_cases q : z_bt (z_MK s b f n) k = 1
      · rw [if_pos q, if_neg (by omega), if_neg (by omega)]; exact (Int32.add_zero _).symm
      · rw [if_neg q]; exact (Int32.add_zero _).symm
  · rw [z_updN _ (by omega), z_Zr_l hk (by omega)]
    by_cases q : z_bt (z_MK s b f n) k = 1
    · rw [if_pos q, if_pos q, if_neg (by omega), if_pos rfl]
    · rw [if_neg q, if_neg q]
  · rw [z_updN _ (by omega), z_Zr_l hk (by omega)]
    by_cases q : z_bt (z_MK s b f n) k = 1
    · rw [if_pos q, if_neg (by omega), if_neg (by omega)]
    · rw [if_neg q]
  · rw [z_updN _ (by omega), z_Zr_o (by omega) hb (by omega) (by omega) (by omega)]
  · rw [z_updN _ (by omega), z_Zr_115]
  · rw [z_updN _ (by omega), z_Zr_116]
  · unfold z_hv
    rw [z_updN _ (by omega)]
    have := z_Zr_hv (s := s) (b := b) (st := z_FS s b f g) (d := z_PE s b (f + n - 1) - z_FS s b f g) (w := z_LI s b (z_FS s b f g) (z_PE s b (f + n - 1) - z_FS s b f g)) (M := z_MK s b f n) c j hc hj hb hS
    unfold z_hv at this
    rw [this]
    by_cases q : c = b ∧ z_FS s b f g ≤ j ∧ j < z_PE s b (f + n - 1)
    · rw [if_pos q, if_pos (by omega)]
    · rw [if_neg q, if_neg (by omega)]
  · rw [z_updN _ (by omega), z_Zr_l hk (by omega)]
    by_cases q : z_bt (z_MK s b f n) k = 1
    · rw [if_pos q, if_neg (by omega), if_neg (by omega)]
    · rw [if_neg q]
theorem zi_TA {T : Nat} {s : z_row} (O : z_OKs s) {l f n g : Nat} (hl : l < 10) (hn : 1 ≤ n) (hh : f + n ≤ 12) (J : zi_J T s) : zi_J (T + 1) (z_TA s l f n g) := by
  have h1 := z_AN_lt s l f n
  have h2 := z_AN_13 s l f n
  unfold z_TA
  by_cases h : 10 ≤ z_AN s l f n
  · rw [if_pos h]
    obtain ⟨b, hbe⟩ : ∃ b, b = z_AN s l f n - 10 := ⟨_, rfl⟩
    rw [← hbe]
    have hb : b < 4 := by omega
    unfold z_GR
    refine zi_GZ hl hb hh ?_
    obtain ⟨c, d, a, q, j1, j2, j3, j4, j5, j6, j7, j8⟩ := J
    by_cases h8 : s (6 * l + 1) = z_I 7
    · rw [if_pos h8]
      obtain ⟨g4, g5, -, -, g110, g115, g116, -, -⟩ := zi_G8 (s := s) (g := g) hl hb hn hh
      have hF := z_FS_le s b f g
      have hP := z_PE_le s b (f + n - 1) (by omega)
      have hw1 := zi_bc_LI O (f := f) hb n hh
      have hw2 := zi_LI_in s b (f := f) (n := n) hF (show f + n ≤ z_PE s b (f + n - 1) by omega)
      have hw3 := z_LI_le s b (z_FS s b f g) (z_PE s b (f + n - 1) - z_FS s b f g)
      refine ⟨fun k => c k + z_bt (z_MK s b f n) k, fun k => d k + (if k = l then 1 else 0), a, q + z_LI s b (z_FS s b f g) (z_PE s b (f + n - 1) - z_FS s b f g), fun k hk => ⟨?_, ?_⟩, ?_, ?_, ?_, ?_, ?_, ?_, j8⟩
      · rw [g4 k hk, (j1 k hk).1, z_I_add]
      · rw [g5 k hk, (j1 k hk).2, z_I_add]
      · rw [g115, j2, z_I_add, zi_sm_add]; rfl
      · rw [g116, j3, z_I_add]
      · rw [zi_sm_add, show z_sm (fun k => z_bt (z_MK s b f n) k) 10 = z_bc (z_MK s b f n) from rfl]; omega
      · omega
      · rw [g110]; exact j6
      · rw [zi_sm_add, zi_sm_one, if_pos hl]; omega
    · rw [if_neg h8]
      by_cases h6 : s (6 * l) < s 119
      · rw [if_pos h6]
        have e : ∀ k, k ≠ 6 * l + 2 → k ≠ 117 → z_GF s l k = s k := fun k q1 q2 => by
          unfold z_GF
          rw [z_updN _ q2, z_updN _ q1]
        exact ⟨c, d, a, q, fun k hk => ⟨by rw [e _ (by omega) (by omega)]; exact (j1 k hk).1, by rw [e _ (by omega) (by omega)]; exact (j1 k hk).2⟩, by rw [e _ (by omega) (by omega)]; exact j2, by rw [e _ (by omega) (by omega)]; exact j3, j4, by omega, by rw [e _ (by omega) (by omega)]; exact j6, by omega, j8⟩
      · rw [if_neg h6]
        exact ⟨c, d, a, q, j1, j2, j3, j4, by omega, j6, by omega, j8⟩
  · rw [if_neg h]
    refine zi_mono (zi_keep (fun k hk => ?_) J)
    unfold z_RF
    by_cases h3 : 3 ≤ z_AN s l f n
    · rw [if_pos h3, z_updN _ (by omega), z_updN _ (by omega)]
    · rw [if_neg h3, z_updN _ (by omega)]
theorem zi_PS {T : Nat} {s : z_row} {g : Nat} (J : zi_J T s) : zi_J (T + 1) (z_PS s g) := by
  refine zi_mono (zi_keep (fun k hk => ?_) J)
  have e : z_SL s g 0 10 k = s k := by unfold z_SL; rw [if_neg (by omega)]
  have fi : ∀ t : z_row, z_FI t k = t k := fun t => if_neg (by omega)
  unfold z_PS
  by_cases c : g + 1 < 12
  · rw [if_pos c, z_updN _ (by omega), e]
  · rw [if_neg c, z_updN _ (by omega), z_updN _ (by omega), fi, z_updN _ (by omega), e]
theorem zi_TBr {T : Nat} {s : z_row} {l h : Nat} (hh : h < 12) (J : zi_J T s) : zi_J (T + 1) (z_TBr s l h) := by
  refine zi_mono (zi_keep (fun k hk => ?_) J)
  unfold z_TBr
  by_cases c : z_BO s (z_I l) h = 4 ∨ z_I h < s 108
  · rw [if_pos c, z_updN _ (by omega)]
  · rw [if_neg c]
    have h1 := z_BO_le s (z_I l) h
    have h2 := z_PE_le s (z_BO s (z_I l) h) h hh
    rw [z_LEN (by omega)]
theorem zi_upd {T : Nat} {s : z_row} {k0 : Nat} (v : Int32) (h : ¬ ((k0 < 60 ∧ (k0 % 6 = 4 ∨ k0 % 6 = 5)) ∨ k0 = 110 ∨ k0 = 115 ∨ k0 = 116)) (J : zi_J T s) : zi_J (T + 1) (upd s k0 v) := by
  refine zi_mono (zi_keep (fun k hk => ?_) J)
  exact z_updN _ (fun e => h (by rw [← e]; exact hk)) v
theorem zi_fav {T : Nat} {s : z_row} {l : Nat} (hl : l < 10) (J : zi_J T s) : zi_J (T + 1) (if s (6 * l + 2) < 3 then upd s (6 * l + 2) (s (6 * l + 2) + 1) else upd s 118 (s 118 + 1)) := by
  by_cases c : s (6 * l + 2) < 3
  · rw [if_pos c]; exact zi_upd _ (by omega) J
  · rw [if_neg c]; exact zi_upd _ (by omega) J
theorem zi_0 : zi_J 0 z_s00 := by
  refine ⟨fun _ => 0, fun _ => 0, 0, 0, fun l hl => ⟨?_, ?_⟩, by decide, by decide, by decide, by decide, by decide, by decide, by decide⟩
  · unfold z_s00; rw [if_pos (by omega), if_neg (by omega)]; rfl
  · unfold z_s00; rw [if_pos (by omega), if_neg (by omega)]; rfl
