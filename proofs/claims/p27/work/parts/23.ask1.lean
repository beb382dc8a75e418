theorem zt_mn {g : Nat → Nat} {e k : Nat} (h : e < k ∧ (∀ b, b < k → g e ≤ g b) ∧ ∀ b, b < e → g e < g b) : z_mn g e k < k + 1 ∧ (∀ b, b < k + 1 → g (z_mn g e k) ≤ g b) ∧ ∀ b, b < z_mn g e k → g (z_mn g e k) < g b := by
  obtain ⟨h1, h2, h3⟩ := h
  unfold z_mn
  by_cases c : g k < g e
  · rw [if_pos c]
    refine ⟨by omega, fun b hb => ?_, fun b hb => ?_⟩
    · by_cases q : b = k
      · rw [q]; exact Nat.le_refl _
      · have := h2 b (by omega); omega
    · have := h2 b hb; omega
  · rw [if_neg c]
    refine ⟨by omega, fun b hb => ?_, h3⟩
    by_cases q : b = k
    · rw [q]; omega
    · exact h2 b (by omega)
/-- the least lent bed is the lowest of its kind -/
theorem zt_EM (s : z_row) (f n : Nat) : (∀ b, b < 4 → z_LI s (z_EM s f n) f n ≤ z_LI s b f n) ∧ ∀ b, b < z_EM s f n → z_LI s (z_EM s f n) f n < z_LI s b f n := by
  have h0 : 0 < 1 ∧ (∀ b, b < 1 → (fun b => z_LI s b f n) 0 ≤ (fun b => z_LI s b f n) b) ∧ ∀ b, b < 0 → (fun b => z_LI s b f n) 0 < (fun b => z_LI s b f n) b := ⟨by decide, fun b hb => by rw [show b = 0 by omega]; exact Nat.le_refl _, fun b hb => by omega⟩
  exact (zt_mn (g := fun b => z_LI s b f n) (zt_mn (g := fun b => z_LI s b f n) (zt_mn (g := fun b => z_LI s b f n) h0))).2
def zt_F (s : z_row) (f n : Nat) : Int32 := if z_LI s 0 f n = 0 then 0 else if z_LI s 1 f n = 0 then 1 else if z_LI s 2 f n = 0 then 2 else if z_LI s 3 f n = 0 then 3 else -1
theorem zt_F_y {s : z_row} {f n : Nat} (h : z_LI s (z_EM s f n) f n = 0) : zt_F s f n = z_I (z_EM s f n) := by
  have h1 := (zt_EM s f n).2
  have h4 := z_EM_lt s f n
  generalize z_EM s f n = e at h h1 h4
  rw [h] at h1
  unfold zt_F
  rcases (by omega : e = 0 ∨ e = 1 ∨ e = 2 ∨ e = 3) with rfl | rfl | rfl | rfl
  · rw [if_pos h]; rfl
  · have a0 := h1 0 (by omega)
    rw [if_neg (by omega), if_pos h]; rfl
  · have a0 := h1 0 (by omega)
    have a1 := h1 1 (by omega)
    rw [if_neg (by omega), if_neg (by omega), if_pos h]; rfl
  · have a0 := h1 0 (by omega)
    have a1 := h1 1 (by omega)
    have a2 := h1 2 (by omega)
    rw [if_neg (by omega), if_neg (by omega), if_neg (by omega), if_pos h]; rfl
theorem zt_F_n {s : z_row} {f n : Nat} (h : ¬ z_LI s (z_EM s f n) f n = 0) : zt_F s f n = -1 := by
  have h1 := (zt_EM s f n).1
  have a0 := h1 0 (by omega)
  have a1 := h1 1 (by omega)
  have a2 := h1 2 (by omega)
  have a3 := h1 3 (by omega)
  unfold zt_F
  rw [if_neg (by omega), if_neg (by omega), if_neg (by omega), if_neg (by omega)]
theorem zt_MK_bt {s : z_row} (O : z_OKs s) {b f l : Nat} (hb : b < 4) (hl : l < 10) : ∀ n, f + n ≤ 12 → z_bt (z_MK s b f n) l = 1 → ∃ j, f ≤ j ∧ j < f + n ∧ z_hv s b j = z_I l := by
  intro n
  induction n with
  | zero =>
    intro _ h
    have e : z_MK s b f 0 = 0 := rfl
    rw [e] at h
    unfold z_bt at h
    rw [Nat.zero_div] at h
    omega
  | succ n ih =>
    intro hh h
    have hM : z_MK s b f n < 1024 := z_MK_lt2 O.1 hb (by omega)
    rw [z_MK_s] at h
    rcases z_OK_h O hb (show f + n < 12 by omega) with e | ⟨l', hl', e⟩
    · rw [e, show z_hm (-1) = 0 from rfl, Nat.or_zero] at h
      obtain ⟨j, a1, a2, a3⟩ := ih (by omega) h
      exact ⟨j, a1, by omega, a3⟩
    · have hne : ¬ z_I l' = (-1 : Int32) := by rw [z_I_n1 (by omega)]; exact id
      have hm : z_hm (z_I l') = 2 ^ l' := by unfold z_hm; rw [if_neg hne, z_I_nat (by omega)]
      rw [e, hm, z_bt_or l' hl' l hl _ hM] at h
      by_cases c : l = l'
      · subst c
        exact ⟨f + n, by omega, by omega, e⟩
      · rw [if_neg c] at h
        obtain ⟨j, a1, a2, a3⟩ := ih (by omega) h
        exact ⟨j, a1, by omega, a3⟩
theorem zt_MK_pos {s : z_row} (O : z_OKs s) {b f : Nat} (hb : b < 4) : ∀ n, f + n ≤ 12 → z_MK s b f n = 0 → z_LI s b f n = 0 := by
  intro n
  induction n with
  | zero => intro _ _; rfl
  | succ n ih =>
    intro hh h
    rw [z_MK_s] at h
    have h1 : z_MK s b f n = 0 := by
      have := Nat.left_le_or (n := z_MK s b f n) (m := z_hm (z_hv s b (f + n)))
      omega
    have h2 : z_hm (z_hv s b (f + n)) = 0 := by
      have := Nat.right_le_or (n := z_MK s b f n) (m := z_hm (z_hv s b (f + n)))
      omega
    have eL : z_LI s b f (n + 1) = z_LI s b f n + (if z_hv s b (f + n) = -1 then 0 else 1) := rfl
    rw [eL, ih (by omega) h1]
    rcases z_OK_h O hb (show f + n < 12 by omega) with e | ⟨l', hl', e⟩
    · rw [if_pos e]
    · have hne : ¬ z_I l' = (-1 : Int32) := by rw [z_I_n1 (by omega)]; exact id
      rw [e] at h2
      unfold z_hm at h2
      rw [if_neg hne] at h2
      have := Nat.two_pow_pos (z_I l').toNatClampNeg
      omega
theorem zt_LT_beds (s : z_row) : z_LT s = z_sm (fun b => z_LI s b 0 12) 4 := by
  have e : (fun b => z_LI s b 0 12) = fun b => z_sm (fun j => if z_hv s b (0 + j) = -1 then 0 else 1) 12 := rfl
  rw [e, zs_comm]
  unfold z_LT
  refine z_sm_congr (fun j hj => ?_)
  rw [Nat.zero_add]
  rfl
/-- the hours lent, when a piece is freed and an asking is lent in it -/
theorem zt_LT {s t : z_row} {e f n S E l : Nat} (he : e < 4) (hl : l < 10) (h1 : S ≤ f) (h2 : f + n ≤ E) (h3 : E ≤ 12) (h : ∀ c j, c < 4 → j < 12 → z_hv t c j = if c = e ∧ f ≤ j ∧ j < f + n then z_I l else if c = e ∧ S ≤ j ∧ j < E then -1 else z_hv s c j) : z_LT t + z_LI s e S (E - S) = z_LT s + n := by
  have hne : ¬ z_I l = (-1 : Int32) := by rw [z_I_n1 (by omega)]; exact id
  have ho : ∀ c, c < 4 → c ≠ e → z_LI t c 0 12 = z_LI s c 0 12 := fun c hc hce => z_sm_congr (fun j hj => by
    have q : z_hv t c (0 + j) = z_hv s c (0 + j) := by rw [h c (0 + j) hc (by omega), if_neg (fun q => hce q.1), if_neg (fun q => hce q.1)]
    rw [q])
  have split : ∀ r : z_row, z_LI r e 0 12 = z_LI r e 0 S + (z_LI r e S (E - S) + z_LI r e E (12 - E)) := fun r => by
    rw [show (12 : Nat) = S + ((E - S) + (12 - E)) by omega, z_LI_add, z_LI_add, Nat.zero_add, show S + (E - S) = E by omega, show S + ((E - S) + (12 - E)) - E = 12 - E by omega]
  have split2 : z_LI t e S (E - S) = z_LI t e S (f - S) + (z_LI t e f n + z_LI t e (f + n) (E - f - n)) := by
    rw [show E - S = (f - S) + (n + (E - f - n)) by omega, z_LI_add, z_LI_add, show S + (f - S) = f by omega]
  have p1 : z_LI t e 0 S = z_LI s e 0 S := z_sm_congr (fun j hj => by
    have q : z_hv t e (0 + j) = z_hv s e (0 + j) := by rw [h e (0 + j) he (by omega), if_neg (by omega), if_neg (by omega)]
    rw [q])
  have p2 : z_LI t e E (12 - E) = z_LI s e E (12 - E) := z_sm_congr (fun j hj => by
    have q : z_hv t e (E + j) = z_hv s e (E + j) := by rw [h e (E + j) he (by omega), if_neg (by omega), if_neg (by omega)]
    rw [q])
  have p3 : z_LI t e S (f - S) = 0 := z_LI_z (fun j a b => by rw [h e j he (by omega), if_neg (by omega), if_pos (by omega)])
  have p4 : z_LI t e f n = n := z_LI_k (fun j a b => by rw [h e j he (by omega), if_pos (by omega)]; exact hne)
  have p5 : z_LI t e (f + n) (E - f - n) = 0 := z_LI_z (fun j a b => by rw [h e j he (by omega), if_neg (by omega), if_pos (by omega)])
  have main : z_LI t e 0 12 + z_LI s e S (E - S) = z_LI s e 0 12 + n := by
    rw [split t, split s, split2, p1, p2, p3, p4, p5]; omega
  rw [zt_LT_beds, zt_LT_beds]
  simp only [z_sm]
  rcases (by omega : e = 0 ∨ e = 1 ∨ e = 2 ∨ e = 3) with rfl | rfl | rfl | rfl
  · rw [ho 1 (by omega) (by omega), ho 2 (by omega) (by omega), ho 3 (by omega) (by omega)]; omega
  · rw [ho 0 (by omega) (by omega), ho 2 (by omega) (by omega), ho 3 (by omega) (by omega)]; omega
  · rw [ho 0 (by omega) (by omega), ho 1 (by omega) (by omega), ho 3 (by omega) (by omega)]; omega
  · rw [ho 0 (by omega) (by omega), ho 1 (by omega) (by omega), ho 2 (by omega) (by omega)]; omega
theorem zt_GZ (t : z_row) {l b f n : Nat} (hl : l < 10) (hb : b < 4) (hh : f + n ≤ 12) :
    (∀ k, k ≠ 6 * l + 1 → ¬ (60 ≤ k ∧ k < 108) → k ≠ 110 → z_GZ t l b f n k = t k) ∧ z_GZ t l b f n (6 * l + 1) = 0 ∧ ∀ c j, c < 4 → j < 12 → z_hv (z_GZ t l b f n) c j = if c = b ∧ f ≤ j ∧ j < f + n then z_I l else z_hv t c j := by
  refine ⟨fun k q1 q2 q3 => ?_, ?_, fun c j hc hj => ?_⟩
  · unfold z_GZ
    rw [z_updN _ q3, z_LEN (by omega), z_updN _ q1]
  · unfold z_GZ
    rw [z_updN _ (by omega), z_LEN (by omega), z_updP _ rfl]
  · unfold z_GZ z_hv
    rw [z_updN _ (by omega)]
    by_cases q : c = b ∧ f ≤ j ∧ j < f + n
    · rw [if_pos q, z_LEP (by omega)]
    · rw [if_neg q, z_LEN (by omega), z_updN _ (by omega)]
/-- what an asking that is granted does -/
theorem zt_TA {s : z_row} (O : z_OKs s) {l f n : Nat} (hl : l < 10) (hf : f < 12) (hn : 1 ≤ n) (hh : f + n ≤ 12) (h : 10 ≤ z_AN s l f n) :
    ∃ e, e < 4 ∧ z_AN s l f n = 10 + e ∧ e = z_EM s f n ∧ z_HB s (z_I l) f n = 0 ∧ (z_LI s e f n = 0 ∨ s (6 * l + 1) = z_I 7) ∧
    (∀ j, f ≤ j → j < f + n → z_hv (z_TA s l f n (z_gn s)) e j = z_I l) ∧
    z_TA s l f n (z_gn s) (6 * l + 1) = 0 ∧
    z_TA s l f n (z_gn s) (6 * l + 2) = (if s (6 * l + 1) = z_I 7 then s (6 * l + 2) else if s (6 * l) < s 119 then s (6 * l + 2) + (-1) else s (6 * l + 2)) ∧
    (∃ w, z_TA s l f n (z_gn s) 116 = s 116 + z_I w ∧ z_LT (z_TA s l f n (z_gn s)) + w = z_LT s + n ∧ w ≤ 12 ∧ (w = 0 ↔ z_MK s e f n = 0)) ∧
    (∀ k, k < 10 → z_bt (z_MK s e f n) k = 1 → k ≠ l → z_TA s l f n (z_gn s) (6 * k + 1) = z_mi (s (6 * k + 1)) ∧ z_TA s l f n (z_gn s) (6 * k + 4) = s (6 * k + 4) + 1) := by
  have hE := z_EM_lt s f n
  obtain ⟨g1, g2⟩ := z_gn_ok O
  have hgf := z_AN_g g2 g1 hf h
  have eAN : z_AN s l f n = 10 + z_EM s f n ∧ z_HB s (z_I l) f n = 0 ∧ (z_LI s (z_EM s f n) f n = 0 ∨ s (6 * l + 1) = z_I 7) := by
    unfold z_AN at h ⊢
    by_cases c1 : z_I f < s 108
    · rw [if_pos c1] at h; omega
    · rw [if_neg c1] at h; rw [if_neg c1]
      by_cases c2 : 0 < z_HB s (z_I l) f n
      · rw [if_pos c2] at h; omega
      · rw [if_neg c2] at h; rw [if_neg c2]
        by_cases c3 : s (6 * l + 1) = z_I 7
        · rw [if_pos c3]; exact ⟨rfl, by omega, Or.inr c3⟩
        · rw [if_neg c3] at h; rw [if_neg c3]
          by_cases c4 : s (6 * l) < s 119 ∧ s (6 * l + 2) = 0
          · rw [if_pos c4] at h; omega
          · rw [if_neg c4] at h; rw [if_neg c4]
            by_cases c5 : 0 < z_LI s (z_EM s f n) f n
            · rw [if_pos c5] at h; omega
            · rw [if_neg c5]; exact ⟨rfl, by omega, Or.inl (by omega)⟩
  obtain ⟨a1, a2, a3⟩ := eAN
  obtain ⟨e, ee⟩ : ∃ e, e = z_EM s f n := ⟨_, rfl⟩
  rw [← ee] at a1 a3 hE
  have eTA : z_TA s l f n (z_gn s) = z_GR s l e f n (z_gn s) := by
    unfold z_TA
    rw [if_pos h, a1, show 10 + e - 10 = e by omega]
  rw [eTA]
  refine ⟨e, hE, a1, ee, a2, a3, ?_⟩
  unfold z_GR
  by_cases h8 : s (6 * l + 1) = z_I 7
  · rw [if_pos h8, if_pos h8]
    obtain ⟨q4, q5, q1, q2, q110, q115, q116, qhv, q3⟩ := zi_G8 (s := s) (l := l) (b := e) (f := f) (n := n) (g := z_gn s) hl hE hn hh
    obtain ⟨z1, z2, z3⟩ := zt_GZ (z_G8 s l e f n (z_gn s)) (l := l) (b := e) (f := f) (n := n) hl hE hh
    have hF := z_FS_le s e f (z_gn s)
    have hP := z_PE_le s e (f + n - 1) (by omega)
    refine ⟨fun j b1 b2 => ?_, z2, ?_, ⟨z_LI s e (z_FS s e f (z_gn s)) (z_PE s e (f + n - 1) - z_FS s e f (z_gn s)), ?_, ?_, ?_, ?_⟩, fun k hk hb hkl => ⟨?_, ?_⟩⟩
    · rw [z3 e j hE (by omega), if_pos ⟨rfl, b1, b2⟩]
    · rw [z1 _ (by omega) (by omega) (by omega), q2 l hl]
    · rw [z1 _ (by omega) (by omega) (by omega), q116]
    · refine zt_LT hE hl hF (show f + n ≤ z_PE s e (f + n - 1) by omega) (by omega) (fun c j hc hj => ?_)
      rw [z3 c j hc hj, qhv c j hc hj]
    · have := z_LI_le s e (z_FS s e f (z_gn s)) (z_PE s e (f + n - 1) - z_FS s e f (z_gn s))
      omega
    · constructor
      · intro w0
        have := zi_LI_in s e (f := f) (n := n) hF (show f + n ≤ z_PE s e (f + n - 1) by omega)
        exact z_MK_z (fun j b1 b2 => z_LI_0 (show z_LI s e f n = 0 by omega) j b1 b2)
      · intro M0
        have l0 := zt_MK_pos O hE n hh M0
        have hz := z_LI_0 l0
        refine z_LI_z (fun j b1 b2 => ?_)
        by_cases c1 : j < f
        · rw [z_FS_in (g := z_gn s) b1 (by omega)]; exact hz f (by omega) (by omega)
        · by_cases c2 : j < f + n
          · exact hz j (by omega) c2
          · rw [z_PE_in (s := s) (b := e) (h := f + n - 1) (j := j) (by omega) (by omega)]; exact hz (f + n - 1) (by omega) (by omega)
    · rw [z1 _ (by omega) (by omega) (by omega), q1 k hk, if_pos hb]
    · rw [z1 _ (by omega) (by omega) (by omega), q4 k hk, hb]; rfl
  · rw [if_neg h8, if_neg h8]
    have l0 : z_LI s e f n = 0 := by
      rcases a3 with a3 | a3
      · exact a3
      · exact absurd a3 h8
    have M0 : z_MK s e f n = 0 := z_MK_z (z_LI_0 l0)
    have nobt : ∀ k, ¬ z_bt (z_MK s e f n) k = 1 := fun k => by
      rw [M0]; unfold z_bt; rw [Nat.zero_div]; omega
    have fin : ∀ t : z_row, (∀ k, k ≠ 6 * l + 2 → k ≠ 117 → t k = s k) → t (6 * l + 2) = (if s (6 * l) < s 119 then s (6 * l + 2) + (-1) else s (6 * l + 2)) →
        ((∀ j, f ≤ j → j < f + n → z_hv (z_GZ t l e f n) e j = z_I l) ∧ z_GZ t l e f n (6 * l + 1) = 0 ∧ z_GZ t l e f n (6 * l + 2) = (if s (6 * l) < s 119 then s (6 * l + 2) + (-1) else s (6 * l + 2)) ∧
        (∃ w, z_GZ t l e f n 116 = s 116 + z_I w ∧ z_LT (z_GZ t l e f n) + w = z_LT s + n ∧ w ≤ 12 ∧ (w = 0 ↔ z_MK s e f n = 0)) ∧
        (∀ k, k < 10 → z_bt (z_MK s e f n) k = 1 → k ≠ l → z_GZ t l e f n (6 * k + 1) = z_mi (s (6 * k + 1)) ∧ z_GZ t l e f n (6 * k + 4) = s (6 * k + 4) + 1)) := by
      intro t ht ht2
      obtain ⟨z1, z2, z3⟩ := zt_GZ t (l := l) (b := e) (f := f) (n := n) hl hE hh
      refine ⟨fun j b1 b2 => ?_, z2, ?_, ⟨0, ?_, ?_, by omega, by rw [M0]⟩, fun k hk hb hkl => absurd hb (nobt k)⟩
      · rw [z3 e j hE (by omega), if_pos ⟨rfl, b1, b2⟩]
      · rw [z1 _ (by omega) (by omega) (by omega), ht2]
      · rw [z1 _ (by omega) (by omega) (by omega), ht _ (by omega) (by omega)]; exact (Int32.add_zero _).symm
      · have := zt_LT (s := s) (t := z_GZ t l e f n) (e := e) (f := f) (n := n) (S := f) (E := f + n) (l := l) hE hl (Nat.le_refl _) (Nat.le_refl _) hh (fun c j hc hj => by
          rw [z3 c j hc hj]
          by_cases q : c = e ∧ f ≤ j ∧ j < f + n
          · rw [if_pos q, if_pos q]
          · rw [if_neg q, if_neg q, if_neg q]
            unfold z_hv
            exact ht _ (by omega) (by omega))
        rw [show f + n - f = n by omega, l0] at this
        exact this
    by_cases h6 : s (6 * l) < s 119
    · rw [if_pos h6]
      refine fin (z_GF s l) (fun k k1 k2 => ?_) ?_
      · unfold z_GF; rw [z_updN _ k2, z_updN _ k1]
      · unfold z_GF; rw [z_updN _ (by omega), z_updP _ rfl, if_pos h6]
    · rw [if_neg h6]
      exact fin s (fun k _ _ => rfl) (by rw [if_neg h6])
