def z_I (n : Nat) : Int32 := Int32.ofNat n
theorem z_I_toInt {n : Nat} (h : n < 2147483648) : (z_I n).toInt = n := by
  unfold z_I
  rw [Int32.toInt_ofNat']
  exact Int.bmod_eq_of_le (by simp only [Int32.size]; omega) (by simp only [Int32.size]; omega)
theorem z_I_lt {a b : Nat} (ha : a < 2147483648) (hb : b < 2147483648) : (z_I a < z_I b) = (a < b) := by
  rw [eq_iff_iff, Int32.lt_iff_toInt_lt, z_I_toInt ha, z_I_toInt hb]; omega
theorem z_I_le {a b : Nat} (ha : a < 2147483648) (hb : b < 2147483648) : (z_I a ≤ z_I b) = (a ≤ b) := by
  rw [eq_iff_iff, Int32.le_iff_toInt_le, z_I_toInt ha, z_I_toInt hb]; omega
theorem z_I_eq {a b : Nat} (ha : a < 2147483648) (hb : b < 2147483648) : (z_I a = z_I b) = (a = b) := by
  rw [eq_iff_iff, ← Int32.toInt_inj, z_I_toInt ha, z_I_toInt hb]; omega
theorem z_I_add (a b : Nat) : z_I a + z_I b = z_I (a + b) := by
  unfold z_I; rw [Int32.ofNat_add]
theorem z_I_mul (a b : Nat) : z_I a * z_I b = z_I (a * b) := by
  unfold z_I; rw [Int32.ofNat_mul]
theorem z_I_sub {a b : Nat} (h : b ≤ a) : z_I a - z_I b = z_I (a - b) := by
  have : z_I a = z_I (a - b) + z_I b := by rw [z_I_add, Nat.sub_add_cancel h]
  rw [this, Int32.add_sub_cancel]
theorem z_I_nat {a : Nat} (ha : a < 2147483648) : (z_I a).toNatClampNeg = a := by
  unfold Int32.toNatClampNeg; rw [z_I_toInt ha]; rfl
theorem z_I_nn {a : Nat} (ha : a < 2147483648) : (z_I a < 0) = False := by
  have := z_I_lt ha (b := 0) (by omega)
  rw [show (0 : Int32) = z_I 0 from rfl, this]; simp
theorem z_I_n1 {a : Nat} (ha : a < 2147483648) : (z_I a = -1) = False := by
  rw [eq_iff_iff, ← Int32.toInt_inj, z_I_toInt ha, show (-1 : Int32).toInt = -1 from rfl]; exact ⟨fun h => by omega, False.elim⟩
theorem z_I_1n {a : Nat} (ha : a < 2147483648) : (-1 = z_I a) = False := by
  rw [eq_iff_iff, ← Int32.toInt_inj, z_I_toInt ha, show (-1 : Int32).toInt = -1 from rfl]; exact ⟨fun h => by omega, False.elim⟩
theorem z_I_s (a : Nat) : z_I a + 1 = z_I (a + 1) := by rw [show (1 : Int32) = z_I 1 from rfl, z_I_add]
theorem z_L0 : (0 : Int32) = z_I 0 := rfl
theorem z_L1 : (1 : Int32) = z_I 1 := rfl
theorem z_L2 : (2 : Int32) = z_I 2 := rfl
theorem z_L3 : (3 : Int32) = z_I 3 := rfl
theorem z_L4 : (4 : Int32) = z_I 4 := rfl
theorem z_L6 : (6 : Int32) = z_I 6 := rfl
theorem z_L7 : (7 : Int32) = z_I 7 := rfl
theorem z_L9 : (9 : Int32) = z_I 9 := rfl
theorem z_L10 : (10 : Int32) = z_I 10 := rfl
theorem z_L11 : (11 : Int32) = z_I 11 := rfl
theorem z_L12 : (12 : Int32) = z_I 12 := rfl
theorem z_ob {α β : Type} (a : α) (f : α → Option β) : Option.bind (some a) f = f a := rfl
theorem z_lt_ {α β : Type} (a : α) (f : α → Option β) : lt1 a f = f a := rfl
theorem z_gd {α : Type} {k N : Nat} (h : k < N) (hN : N ≤ 1000000) (a b : Option α) : (if z_I k < 0 ∨ N ≤ (z_I k).toNatClampNeg then b else a) = a := by
  rw [if_neg]
  intro h1
  rw [z_I_nn (by omega), z_I_nat (by omega)] at h1
  rcases h1 with h1 | h1
  · exact h1
  · omega
def z_sm (g : Nat → Nat) : Nat → Nat
  | 0 => 0
  | n + 1 => z_sm g n + g n
theorem z_sm_front (g : Nat → Nat) (n : Nat) : z_sm g (n + 1) = g 0 + z_sm (fun i => g (i + 1)) n := by
  induction n with
  | zero => simp [z_sm]
  | succ n ih => rw [z_sm, ih]; simp [z_sm]; omega
theorem z_sm_congr {f g : Nat → Nat} {n : Nat} (h : ∀ i, i < n → f i = g i) : z_sm f n = z_sm g n := by
  induction n with
  | zero => rfl
  | succ n ih => simp only [z_sm]; rw [ih (fun i hi => h i (by omega)), h n (by omega)]
theorem z_sm_le {f : Nat → Nat} {n : Nat} (h : ∀ i, i < n → f i ≤ 1) : z_sm f n ≤ n := by
  induction n with
  | zero => simp [z_sm]
  | succ n ih => simp only [z_sm]; have := ih (fun i hi => h i (by omega)); have := h n (by omega); omega
theorem z_loopN {F : Nat → Int32 → Int32 → Option Int32} {B : Nat} {g : Nat → Nat}
    (h0 : ∀ n acc, F (n + 1) acc (z_I B) = some acc)
    (h1 : ∀ n acc j, j < B → F (n + 1) acc (z_I j) = F n (acc + z_I (g j)) (z_I (j + 1))) :
    ∀ d n acc j, j + d = B → d < n → F n acc (z_I j) = some (acc + z_I (z_sm (fun i => g (j + i)) d)) := by
  intro d
  induction d with
  | zero =>
    intro n acc j hj z_hn
    obtain ⟨n, rfl⟩ : ∃ k, n = k + 1 := ⟨n - 1, by omega⟩
    have : j = B := by omega
    subst this
    rw [h0]; simp only [z_sm]; rw [show z_I 0 = 0 from rfl, Int32.add_zero]
  | succ d ih =>
    intro n acc j hj z_hn
    obtain ⟨n, rfl⟩ : ∃ k, n = k + 1 := ⟨n - 1, by omega⟩
    rw [h1 n acc j (by omega), ih n _ (j + 1) (by omega) (by omega), z_sm_front, Int32.add_assoc, z_I_add]
    simp only [Nat.add_zero, Nat.add_assoc, Nat.add_comm 1]
abbrev z_row : Type := Nat → Int32
def z_lw (w : Nat) : Nat := if w < 3 then w else w + 1
def z_pr (k : Nat) : Nat := if k < 60 then 6 else if k < 108 then 4 else if k = 108 then 2 else if k < 111 then 8 else if k < 115 then 10 else 8
def z_pq (k : Nat) : Nat := if k < 60 then 7 * (k / 6) + z_lw (k % 6) else if k < 108 then k - 60 else
  if k = 108 then 1 else if k = 109 then 1 else if k = 110 then 4 else if k < 115 then k - 110 else if k = 115 then 6 else if k = 116 then 7 else if k = 117 then 8 else if k = 118 then 10 else if k = 119 then 9 else if k = 120 then 3 else 5
theorem z_pInj : ∀ j, j < 122 → ∀ k, k < 122 → z_pr j = z_pr k → z_pq j = z_pq k → j = k := by decide +kernel
def z_Ag (x : xS) (s : z_row) : Prop := ∀ k, k < 120 → x.1 (z_pr k) (z_pq k) = s k
def z_hv (s : z_row) (b h : Nat) : Int32 := s (60 + 12 * b + h)
theorem z_Ag_h {x : xS} {s : z_row} (A : z_Ag x s) {b h : Nat} (hb : b < 4) (hh : h < 12) : x.1 4 (12 * b + h) = z_hv s b h := by
  have := A (60 + 12 * b + h) (by omega)
  have h1 : z_pr (60 + 12 * b + h) = 4 := by unfold z_pr; rw [if_neg (by omega), if_pos (by omega)]
  have h2 : z_pq (60 + 12 * b + h) = 12 * b + h := by unfold z_pq; rw [if_neg (by omega), if_pos (by omega)]; omega
  rw [h1, h2] at this; exact this
theorem z_pr_l {l w : Nat} (hl : l < 10) (hw : w < 6) : z_pr (6 * l + w) = 6 := by unfold z_pr; rw [if_pos (by omega)]
theorem z_pq_l {l w : Nat} (hl : l < 10) (hw : w < 6) : z_pq (6 * l + w) = 7 * l + z_lw w := by
  unfold z_pq; rw [if_pos (by omega), show (6 * l + w) / 6 = l by omega, show (6 * l + w) % 6 = w by omega]
theorem z_Ag_l {x : xS} {s : z_row} (A : z_Ag x s) {l w : Nat} (hl : l < 10) (hw : w < 6) : x.1 6 (7 * l + z_lw w) = s (6 * l + w) := by
  have := A (6 * l + w) (by omega)
  rw [z_pr_l hl hw, z_pq_l hl hw] at this; exact this
theorem z_gget {g r c R C : Nat} {x : xS} (hR : gR g = z_I R) (hC : gC g = z_I C) (hl : ln (g + 1) = R * C) (hr : r < R) (z_hc : c < C) (h1 : R < 1000) (h2 : C < 1000) : fX2_get g (z_I r) (z_I c) x = some (x.1 (g + 1) (r * C + c)) := by
  have z_hm : r * C + c < R * C := by
    have : (r + 1) * C ≤ R * C := Nat.mul_le_mul_right C hr
    rw [Nat.add_mul] at this; omega
  have hb : R * C ≤ 1000 * 1000 := Nat.mul_le_mul (by omega) (by omega)
  unfold fX2_get fX2_get_b0
  rw [hR, hC, z_I_mul, z_I_add]
  rw [if_neg (by rw [z_I_nn (by omega)]; exact id), if_neg (by rw [z_I_le (by omega) (by omega)]; omega), if_neg (by rw [z_I_nn (by omega)]; exact id), if_pos (by rw [z_I_lt (by omega) (by omega)]; omega)]
  rw [hl, z_gd z_hm (by omega), z_I_nat (by omega)]
theorem z_gput {g r c R C : Nat} {x : xS} {v : Int32} (hR : gR g = z_I R) (hC : gC g = z_I C) (hl : ln (g + 1) = R * C) (hr : r < R) (z_hc : c < C) (h1 : R < 1000) (h2 : C < 1000) : fX2_put g (z_I r) (z_I c) v x = some (up1 x (g + 1) (r * C + c) v) := by
  have z_hm : r * C + c < R * C := by
    have : (r + 1) * C ≤ R * C := Nat.mul_le_mul_right C hr
    rw [Nat.add_mul] at this; omega
  have hb : R * C ≤ 1000 * 1000 := Nat.mul_le_mul (by omega) (by omega)
  unfold fX2_put fX2_put_b0
  rw [hR, hC, z_I_mul, z_I_add]
  rw [if_neg (by rw [z_I_nn (by omega)]; exact id), if_neg (by rw [z_I_le (by omega) (by omega)]; omega), if_neg (by rw [z_I_nn (by omega)]; exact id), if_pos (by rw [z_I_lt (by omega) (by omega)]; omega)]
  rw [hl, z_gd z_hm (by omega), z_I_nat (by omega)]
  rfl
theorem z_gH {b h : Nat} {x : xS} {s : z_row} (A : z_Ag x s) (hb : b < 4) (hh : h < 12) : fX2_get 3 (z_I b) (z_I h) x = some (z_hv s b h) := by
  rw [z_gget (R := 4) (C := 12) rfl rfl rfl hb hh (by omega) (by omega), ← z_Ag_h A hb hh, Nat.mul_comm]
theorem z_gLo {l w : Nat} {x : xS} {s : z_row} (A : z_Ag x s) (hl : l < 10) (hw : w < 6) : fX2_get 5 (z_I l) (z_I (z_lw w)) x = some (s (6 * l + w)) := by
  rw [z_gget (R := 10) (C := 7) rfl rfl rfl hl (by unfold z_lw; split <;> omega) (by omega) (by omega), ← z_Ag_l A hl hw, Nat.mul_comm]
theorem z_gL0 {l : Nat} {x : xS} {s : z_row} (A : z_Ag x s) (hl : l < 10) : fX2_get 5 (z_I l) 0 x = some (s (6 * l)) := z_gLo (w := 0) A hl (by omega)
theorem z_gL1 {l : Nat} {x : xS} {s : z_row} (A : z_Ag x s) (hl : l < 10) : fX2_get 5 (z_I l) 1 x = some (s (6 * l + 1)) := z_gLo (w := 1) A hl (by omega)
theorem z_gL2 {l : Nat} {x : xS} {s : z_row} (A : z_Ag x s) (hl : l < 10) : fX2_get 5 (z_I l) 2 x = some (s (6 * l + 2)) := z_gLo (w := 2) A hl (by omega)
theorem z_gA (x : xS) {k : Nat} (hk : k < 12) : fX2_get 7 0 (z_I k) x = some (x.1 8 k) := by
  rw [z_L0, z_gget (R := 1) (C := 12) rfl rfl rfl (by omega) hk (by omega) (by omega)]; simp
theorem z_gRe (x : xS) {k : Nat} (hk : k < 5) : fX2_get 9 0 (z_I k) x = some (x.1 10 k) := by
  rw [z_L0, z_gget (R := 1) (C := 5) rfl rfl rfl (by omega) hk (by omega) (by omega)]; simp
def z_LI (s : z_row) (b f n : Nat) : Nat := z_sm (fun j => if z_hv s b (f + j) = -1 then 0 else 1) n
def z_LB (s : z_row) (h : Nat) : Nat := z_sm (fun b => if z_hv s b h = -1 then 0 else 1) 4
def z_mn (g : Nat → Nat) (a c : Nat) : Nat := if g c < g a then c else a
def z_EM (s : z_row) (f n : Nat) : Nat := z_mn (fun b => z_LI s b f n) (z_mn (fun b => z_LI s b f n) (z_mn (fun b => z_LI s b f n) 0 1) 2) 3
theorem z_mn_lt {g : Nat → Nat} {a c : Nat} (ha : a < 4) (z_hc : c < 4) : z_mn g a c < 4 := by unfold z_mn; split <;> assumption
theorem z_mn_le {g : Nat → Nat} {a c : Nat} : g (z_mn g a c) ≤ g a ∧ g (z_mn g a c) ≤ g c := by unfold z_mn; split <;> omega
def z_BO (s : z_row) (v : Int32) (h : Nat) : Nat := if z_hv s 0 h = v then 0 else if z_hv s 1 h = v then 1 else if z_hv s 2 h = v then 2 else if z_hv s 3 h = v then 3 else 4
def z_HB (s : z_row) (v : Int32) (f n : Nat) : Nat := z_sm (fun j => if z_BO s v (f + j) = 4 then 0 else 1) n
theorem z_LI_le (s : z_row) (b f n : Nat) : z_LI s b f n ≤ n := z_sm_le (fun i _ => by split <;> omega)
theorem z_HB_le (s : z_row) (v : Int32) (f n : Nat) : z_HB s v f n ≤ n := z_sm_le (fun i _ => by split <;> omega)
theorem z_LB_le (s : z_row) (h : Nat) : z_LB s h ≤ 4 := z_sm_le (fun i _ => by split <;> omega)
theorem z_EM_lt (s : z_row) (f n : Nat) : z_EM s f n < 4 := z_mn_lt (z_mn_lt (z_mn_lt (by omega) (by omega)) (by omega)) (by omega)
theorem z_EM_min (s : z_row) (f n : Nat) {b : Nat} (hb : b < 4) : z_LI s (z_EM s f n) f n ≤ z_LI s b f n := by
  have h1 := z_mn_le (g := fun b => z_LI s b f n) (a := 0) (c := 1)
  have h2 := z_mn_le (g := fun b => z_LI s b f n) (a := z_mn (fun b => z_LI s b f n) 0 1) (c := 2)
  have h3 := z_mn_le (g := fun b => z_LI s b f n) (a := z_mn (fun b => z_LI s b f n) (z_mn (fun b => z_LI s b f n) 0 1) 2) (c := 3)
  unfold z_EM
  rcases (by omega : b = 0 ∨ b = 1 ∨ b = 2 ∨ b = 3) with rfl | rfl | rfl | rfl
  · omega
  · omega
  · omega
  · omega
theorem z_BO_le (s : z_row) (v : Int32) (h : Nat) : z_BO s v h ≤ 4 := by unfold z_BO; (repeat' split) <;> omega
theorem z_c_lentBeds {x : xS} {s : z_row} (A : z_Ag x s) {h : Nat} (hh : h < 12) : fX4_lentBeds 2 (z_I h) x = some (z_I (z_LB s h)) := by
  unfold fX4_lentBeds fX4_lentBeds_b0
  rw [show fX4_lentBeds_b4 2 (z_I h) x FU 0 0 = fX4_lentBeds_b4 2 (z_I h) x FU 0 (z_I 0) from rfl, z_loopN (F := fX4_lentBeds_b4 2 (z_I h) x) (B := 4) (g := fun b => if z_hv s b h = -1 then 0 else 1) (fun n acc => ?_) (fun n acc j hj => ?_) 4 FU 0 0 rfl (by decide)]
  · simp only [Nat.zero_add]; rw [Int32.zero_add]; rfl
  · rw [fX4_lentBeds_b4, if_pos (by decide)]
  · rw [fX4_lentBeds_b4, if_neg (by rw [z_L4, z_I_le (by omega) (by omega)]; omega), z_gH A hj hh, z_ob]
    by_cases e : z_hv s j h = -1
    · rw [if_pos e, if_pos e]; unfold fX4_lentBeds_b28; rw [z_lt_, z_I_s]; rfl
    · rw [if_neg e, if_neg e]; unfold fX4_lentBeds_b28; rw [z_lt_, z_I_s]; rfl
theorem z_c_lentHoursIn {x : xS} {s : z_row} (A : z_Ag x s) {b f n : Nat} (hb : b < 4) (hh : f + n ≤ 12) : fX4_lentHoursIn 2 (z_I b) (z_I f) (z_I n) x = some (z_I (z_LI s b f n)) := by
  unfold fX4_lentHoursIn fX4_lentHoursIn_b0
  rw [z_loopN (F := fX4_lentHoursIn_b6 2 (z_I b) (z_I f) (z_I n) x) (B := f + n) (g := fun j => if z_hv s b j = -1 then 0 else 1) (fun k acc => ?_) (fun k acc j hj => ?_) n FU 0 f rfl (by show n < 2000; omega)]
  · rw [Int32.zero_add]; rfl
  · rw [fX4_lentHoursIn_b6, z_I_add, if_pos (by rw [z_I_le (by omega) (by omega)]; omega)]
  · rw [fX4_lentHoursIn_b6, z_I_add, if_neg (by rw [z_I_le (by omega) (by omega)]; omega), z_gH A hb (by omega), z_ob]
    by_cases e : z_hv s b j = -1
    · rw [if_pos e, if_pos e]; unfold fX4_lentHoursIn_b35; rw [z_lt_, z_I_s]; rfl
    · rw [if_neg e, if_neg e]; unfold fX4_lentHoursIn_b35; rw [z_lt_, z_I_s]; rfl
theorem z_c_bedOf {x : xS} {s : z_row} (A : z_Ag x s) {v : Int32} {h : Nat} (hh : h < 12) : fX4_bedOf 2 v (z_I h) x = some (if z_BO s v h = 4 then -1 else z_I (z_BO s v h)) := by
  unfold fX4_bedOf fX4_bedOf_b0
  have q : ∀ n c, c < 4 → fX4_bedOf_b2 2 v (z_I h) x (n + 1) (z_I c) = if z_hv s c h = v then some (z_I c) else fX4_bedOf_b2 2 v (z_I h) x n (z_I (c + 1)) := by
    intro n c z_hc
    rw [fX4_bedOf_b2, if_neg (by rw [z_L4, z_I_le (by omega) (by omega)]; omega), z_gH A z_hc hh, z_ob, z_I_s]
  have q4 : ∀ n, fX4_bedOf_b2 2 v (z_I h) x (n + 1) (z_I 4) = some (-1) := by
    intro n
    rw [fX4_bedOf_b2, if_pos (by decide)]
  rw [show FU = 1995 + 1 + 1 + 1 + 1 + 1 from rfl, z_L0, q _ 0 (by omega), q _ 1 (by omega), q _ 2 (by omega), q _ 3 (by omega), q4]
  unfold z_BO
  by_cases h0 : z_hv s 0 h = v
  · simp only [if_pos h0]; rfl
  · by_cases h1 : z_hv s 1 h = v
    · simp only [if_neg h0, if_pos h1]; rfl
    · by_cases h2 : z_hv s 2 h = v
      · simp only [if_neg h0, if_neg h1, if_pos h2]; rfl
      · by_cases h3 : z_hv s 3 h = v
        · simp only [if_neg h0, if_neg h1, if_neg h2, if_pos h3]; rfl
        · simp only [if_neg h0, if_neg h1, if_neg h2, if_neg h3]; rfl
theorem z_c_hoursWithBed {x : xS} {s : z_row} (A : z_Ag x s) {v : Int32} {f n : Nat} (hh : f + n ≤ 12) : fX4_hoursWithBed 2 v (z_I f) (z_I n) x = some (z_I (z_HB s v f n)) := by
  unfold fX4_hoursWithBed fX4_hoursWithBed_b0
  rw [z_loopN (F := fX4_hoursWithBed_b6 2 v (z_I f) (z_I n) x) (B := f + n) (g := fun j => if z_BO s v j = 4 then 0 else 1) (fun k acc => ?_) (fun k acc j hj => ?_) n FU 0 f rfl (by show n < 2000; omega)]
  · rw [Int32.zero_add]; rfl
  · rw [fX4_hoursWithBed_b6, z_I_add, if_pos (by rw [z_I_le (by omega) (by omega)]; omega)]
  · rw [fX4_hoursWithBed_b6, z_I_add, if_neg (by rw [z_I_le (by omega) (by omega)]; omega), z_c_bedOf A (by omega), z_ob]
    have hB := z_BO_le s v j
    by_cases e : z_BO s v j = 4
    · rw [if_pos e, if_pos rfl, if_pos e]; unfold fX4_hoursWithBed_b32; rw [z_lt_, z_I_s]; rfl
    · rw [if_neg e, if_neg (by rw [z_I_n1 (by omega)]; exact id), if_neg e]; unfold fX4_hoursWithBed_b32; rw [z_lt_, z_I_s]; rfl
theorem z_c_leastLentBed {x : xS} {s : z_row} (A : z_Ag x s) {f n : Nat} (hh : f + n ≤ 12) : fX4_leastLentBed 2 (z_I f) (z_I n) x = some (z_I (z_EM s f n)) := by
  unfold fX4_leastLentBed fX4_leastLentBed_b0
  have q : ∀ k a c, a < 4 → c < 4 → fX4_leastLentBed_b5 2 (z_I f) (z_I n) x (k + 1) (z_I a) (z_I c) = fX4_leastLentBed_b5 2 (z_I f) (z_I n) x k (z_I (z_mn (fun b => z_LI s b f n) a c)) (z_I (c + 1)) := by
    intro k a c ha z_hc
    have l0 := z_LI_le s a f n
    have l1 := z_LI_le s c f n
    rw [fX4_leastLentBed_b5, if_neg (by rw [z_L4, z_I_le (by omega) (by omega)]; omega), z_c_lentHoursIn A z_hc hh, z_ob, z_c_lentHoursIn A ha hh, z_ob]
    unfold fX4_leastLentBed_b32 z_mn
    rw [z_I_s]
    by_cases e : z_LI s c f n < z_LI s a f n
    · rw [if_neg (by rw [z_I_le (by omega) (by omega)]; omega), if_pos e]
    · rw [if_pos (by rw [z_I_le (by omega) (by omega)]; omega), if_neg e]
  have q4 : ∀ k a, fX4_leastLentBed_b5 2 (z_I f) (z_I n) x (k + 1) a (z_I 4) = some a := by
    intro k a
    rw [fX4_leastLentBed_b5, if_pos (by decide)]
  rw [show FU = 1996 + 1 + 1 + 1 + 1 from rfl, z_L0, z_L1, q _ 0 1 (by omega) (by omega), q _ _ 2 (z_mn_lt (by omega) (by omega)) (by omega), q _ _ 3 (z_mn_lt (z_mn_lt (by omega) (by omega)) (by omega)) (by omega), q4]
  rfl

def z_fo {α : Type} (g : α → Nat → α) : α → Nat → Nat → α
  | a, _, 0 => a
  | a, j, d + 1 => z_fo g (g a j) (j + 1) d
theorem z_loopG {α β : Type} {F : Nat → α → Int32 → Option β} {B : Nat} {g : α → Nat → α} {r : α → β} {P : α → Nat → Prop}
    (h0 : ∀ n acc, P acc B → F (n + 1) acc (z_I B) = some (r acc))
    (h1 : ∀ n acc j, j < B → P acc j → F (n + 1) acc (z_I j) = F n (g acc j) (z_I (j + 1)) ∧ P (g acc j) (j + 1)) :
    ∀ d n acc j, j + d = B → d < n → P acc j → F n acc (z_I j) = some (r (z_fo g acc j d)) := by
  intro d
  induction d with
  | zero =>
    intro n acc j hj z_hn hP
    obtain ⟨n, rfl⟩ : ∃ k, n = k + 1 := ⟨n - 1, by omega⟩
    have : j = B := by omega
    subst this
    rw [h0 n acc hP]; rfl
  | succ d ih =>
    intro n acc j hj z_hn hP
    obtain ⟨n, rfl⟩ : ∃ k, n = k + 1 := ⟨n - 1, by omega⟩
    obtain ⟨e, hP'⟩ := h1 n acc j (by omega) hP
    rw [e, ih n _ (j + 1) (by omega) (by omega) hP']; rfl
def z_run (s : z_row) (v : Int32) : Nat → Nat → Nat
  | _, 0 => 0
  | k, d + 1 => if s k = v then z_run s v (k + 1) d + 1 else 0
theorem z_run_le (s : z_row) (v : Int32) : ∀ d k, z_run s v k d ≤ d := by
  intro d
  induction d with
  | zero => intro k; exact Nat.le_refl 0
  | succ d ih => intro k; simp only [z_run]; split
                 · have := ih (k + 1); omega
                 · omega
def z_PE (s : z_row) (b h : Nat) : Nat := h + 1 + z_run s (z_hv s b h) (60 + 12 * b + h + 1) (11 - h)
theorem z_PE_le (s : z_row) (b h : Nat) (hh : h < 12) : h < z_PE s b h ∧ z_PE s b h ≤ 12 := by
  have := z_run_le s (z_hv s b h) (11 - h) (60 + 12 * b + h + 1)
  unfold z_PE; omega
theorem z_c_pieceEnd {x : xS} {s : z_row} (A : z_Ag x s) {b h : Nat} (hb : b < 4) (hh : h < 12) : fX4_pieceEnd 2 (z_I b) (z_I h) x = some (z_I (z_PE s b h)) := by
  unfold fX4_pieceEnd fX4_pieceEnd_b0
  have q : ∀ d n j, j + d = 12 → d < n → fX4_pieceEnd_b4 2 (z_I b) (z_I h) x n (z_I j) = some (z_I (j + z_run s (z_hv s b h) (60 + 12 * b + j) d)) := by
    intro d
    induction d with
    | zero =>
      intro n j hj z_hn
      obtain ⟨n, rfl⟩ : ∃ k, n = k + 1 := ⟨n - 1, by omega⟩
      rw [fX4_pieceEnd_b4, if_pos (by rw [z_L12, z_I_le (by omega) (by omega)]; omega)]; rfl
    | succ d ih =>
      intro n j hj z_hn
      obtain ⟨n, rfl⟩ : ∃ k, n = k + 1 := ⟨n - 1, by omega⟩
      rw [fX4_pieceEnd_b4, if_neg (by rw [z_L12, z_I_le (by omega) (by omega)]; omega), z_gH A hb (by omega), z_ob, z_gH A hb hh, z_ob, z_I_s]
      simp only [z_run]
      rw [show s (60 + 12 * b + j) = z_hv s b j from rfl]
      by_cases e : z_hv s b j = z_hv s b h
      · rw [if_pos e, if_pos e, ih n (j + 1) (by omega) (by omega)]
        congr 2; rw [Nat.add_assoc 60 (12 * b) (j + 1), ← Nat.add_assoc (12 * b) j 1, ← Nat.add_assoc]; simp only [Nat.add_assoc]; congr 1; omega
      · rw [if_neg e, if_neg e]; rfl
  rw [z_I_s, z_lt_, q (11 - h) FU (h + 1) (by omega) (by show 11 - h < 2000; omega)]
  rfl
def z_OKs (s : z_row) : Prop := (∀ k, k < 48 → s (60 + k) = -1 ∨ ∃ l, l < 10 ∧ s (60 + k) = z_I l) ∧ (∃ g, g < 12 ∧ s 108 = z_I g) ∧
  (∀ l, l < 10 → (∃ a, a < 10 ∧ s (6 * l) = z_I a) ∧ (∃ a, a < 8 ∧ s (6 * l + 1) = z_I a) ∧ (∃ a, a < 4 ∧ s (6 * l + 2) = z_I a)) ∧
  (∃ n, n < 1000 ∧ s 109 = z_I n) ∧ (∃ n, n < 10 ∧ s 119 = z_I n) ∧
  (∀ h, h < 12 → ∀ b, b < 4 → ∀ c, c < 4 → z_hv s b h = z_hv s c h → z_hv s b h ≠ -1 → b = c)
def z_VH (s : z_row) : Prop := ∀ k, k < 48 → s (60 + k) = -1 ∨ ∃ l, l < 10 ∧ s (60 + k) = z_I l
theorem z_VH_h {s : z_row} (O : z_VH s) {b h : Nat} (hb : b < 4) (hh : h < 12) : z_hv s b h = -1 ∨ ∃ l, l < 10 ∧ z_hv s b h = z_I l := by
  have := O (12 * b + h) (by omega)
  unfold z_hv; rw [Nat.add_assoc]; exact this
theorem z_OK_h {s : z_row} (O : z_OKs s) {b h : Nat} (hb : b < 4) (hh : h < 12) : z_hv s b h = -1 ∨ ∃ l, l < 10 ∧ z_hv s b h = z_I l := by
  have := O.1 (12 * b + h) (by omega)
  unfold z_hv; rw [Nat.add_assoc]; exact this
def z_hm (v : Int32) : Nat := if v = -1 then 0 else 2 ^ v.toNatClampNeg
def z_MK (s : z_row) (b f n : Nat) : Nat := z_fo (fun a j => a ||| z_hm (z_hv s b j)) 0 f n
theorem z_sh1 : ∀ l, l < 10 → (1 : Int32) <<< (z_I l &&& 31) = z_I (2 ^ l) := by decide +kernel
theorem z_I_or (a b : Nat) : z_I a ||| z_I b = z_I (a ||| b) := by unfold z_I; rw [← Int32.toBitVec_inj]; simp
theorem z_c_holdersMask {x : xS} {s : z_row} (A : z_Ag x s) (O : z_VH s) {b f n : Nat} (hb : b < 4) (hh : f + n ≤ 12) : fX4_holdersMask 2 (z_I b) (z_I f) (z_I n) x = some (z_I (z_MK s b f n)) := by
  unfold fX4_holdersMask fX4_holdersMask_b0
  refine z_loopG (F := fun k (a : Nat) j => fX4_holdersMask_b6 2 (z_I b) (z_I f) (z_I n) x k (z_I a) j) (B := f + n) (g := fun a j => a ||| z_hm (z_hv s b j)) (r := z_I) (P := fun _ _ => True) (fun k acc _ => ?_) (fun k acc j hj _ => ⟨?_, trivial⟩) n FU 0 f rfl (by show n < 2000; omega) trivial
  · rw [fX4_holdersMask_b6, z_I_add, if_pos (by rw [z_I_le (by omega) (by omega)]; omega)]
  · rw [fX4_holdersMask_b6, z_I_add, if_neg (by rw [z_I_le (by omega) (by omega)]; omega), z_gH A hb (by omega), z_ob]
    unfold fX4_holdersMask_b42 
    rcases z_VH_h O (h := j) hb (by omega) with e | ⟨l, hl, e⟩
    · rw [if_pos e, z_lt_, z_L0, z_I_or, z_I_s, e]; rfl
    · rw [e, if_neg (by rw [z_I_n1 (by omega)]; exact id), z_lt_, z_sh1 l hl, z_I_or, z_I_s]
      unfold z_hm
      rw [if_neg (by rw [z_I_n1 (by omega)]; exact id), z_I_nat (by omega)]
def z_ML (s : z_row) : Nat := z_fo (fun a h => if a < z_LB s h then z_LB s h else a) 0 0 12
theorem z_c_mostLentBeds {x : xS} {s : z_row} (A : z_Ag x s) : fX4_mostLentBeds 2 x = some (z_I (z_ML s)) := by
  unfold fX4_mostLentBeds fX4_mostLentBeds_b0
  refine z_loopG (F := fun k (a : Nat) j => fX4_mostLentBeds_b4 2 x k (z_I a) j) (B := 12) (g := fun a h => if a < z_LB s h then z_LB s h else a) (r := z_I) (P := fun a _ => a ≤ 4) (fun k acc _ => ?_) (fun k acc j hj hP => ⟨?_, ?_⟩) 12 FU 0 0 rfl (by decide) (by omega)
  · rw [fX4_mostLentBeds_b4, if_pos (by decide)]
  · have := z_LB_le s j
    rw [fX4_mostLentBeds_b4, if_neg (by rw [z_L12, z_I_le (by omega) (by omega)]; omega), z_c_lentBeds A hj, z_ob, z_lt_, z_I_s]
    by_cases e : acc < z_LB s j
    · rw [if_pos e, if_pos (by rw [z_I_lt (by omega) (by omega)]; exact e)]
    · rw [if_neg e, if_neg (by rw [z_I_lt (by omega) (by omega)]; exact e)]
  · have := z_LB_le s j
    split <;> omega
def z_LT (s : z_row) : Nat := z_sm (fun h => z_LB s h) 12
theorem z_c_lentHours {x : xS} {s : z_row} (A : z_Ag x s) : fX4_lentHours 2 x = some (z_I (z_LT s)) := by
  unfold fX4_lentHours fX4_lentHours_b0
  rw [show fX4_lentHours_b4 2 x FU 0 0 = fX4_lentHours_b4 2 x FU 0 (z_I 0) from rfl, z_loopN (F := fX4_lentHours_b4 2 x) (B := 12) (g := fun h => z_LB s h) (fun n acc => ?_) (fun n acc j hj => ?_) 12 FU 0 0 rfl (by decide)]
  · simp only [Nat.zero_add]; rw [Int32.zero_add]; rfl
  · rw [fX4_lentHours_b4, if_pos (by decide)]
  · rw [fX4_lentHours_b4, if_neg (by rw [z_L12, z_I_le (by omega) (by omega)]; omega), z_c_lentBeds A hj, z_ob, z_lt_, z_I_s]
theorem z_Ag_g {x : xS} {s : z_row} (A : z_Ag x s) : x.1 2 1 = s 108 := A 108 (by omega)
theorem z_c_within (f n : Nat) (x : xS) (hf : f < 1000) (z_hn : n < 1000) : fX6_isWithinNight (z_I f) (z_I n) x = some (if f < 12 ∧ 1 ≤ n ∧ n ≤ 9 ∧ f + n ≤ 12 then 1 else 0) := by
  unfold fX6_isWithinNight fX6_isWithinNight_b0 fX6_isWithinNight_b33
  rw [if_neg (by rw [z_I_nn (by omega)]; exact id), z_L12, z_I_add]
  by_cases h1 : f < 12
  · rw [if_neg (by rw [z_I_le (by omega) (by omega)]; omega)]
    by_cases h2 : 1 ≤ n
    · rw [if_neg (by rw [z_L1, z_I_lt (by omega) (by omega)]; omega)]
      by_cases h3 : n ≤ 9
      · rw [if_neg (by rw [z_L9, z_I_lt (by omega) (by omega)]; omega)]
        by_cases h4 : f + n ≤ 12
        · rw [if_neg (by rw [z_I_lt (by omega) (by omega)]; omega), if_pos ⟨h1, h2, h3, h4⟩]
        · rw [if_pos (by rw [z_I_lt (by omega) (by omega)]; omega), if_neg (by omega)]
      · rw [if_pos (by rw [z_L9, z_I_lt (by omega) (by omega)]; omega), if_neg (by omega)]
    · rw [if_pos (by rw [z_L1, z_I_lt (by omega) (by omega)]; omega), if_neg (by omega)]
  · rw [if_pos (by rw [z_I_le (by omega) (by omega)]; omega), if_neg (by omega)]
theorem z_c_wentBy {x : xS} {s : z_row} (A : z_Ag x s) (v : Int32) : fX4_wentBy 2 v x = some (if v < s 108 then 1 else 0) := by
  unfold fX4_wentBy fX4_wentBy_b0
  rw [z_Ag_g A]
  by_cases h : s 108 ≤ v
  · rw [if_pos h, if_neg (Int32.not_lt.mpr h)]
  · rw [if_neg h, if_pos (Int32.not_le.mp h)]
theorem z_c_within_y {f n : Nat} (x : xS) (h : f < 12 ∧ 1 ≤ n ∧ n ≤ 9 ∧ f + n ≤ 12) : fX6_isWithinNight (z_I f) (z_I n) x = some 1 := by
  rw [z_c_within f n x (by omega) (by omega), if_pos h]
theorem z_c_within_n {f n : Nat} (x : xS) (hf : f < 1000) (z_hn : n < 1000) (h : ¬ (f < 12 ∧ 1 ≤ n ∧ n ≤ 9 ∧ f + n ≤ 12)) : fX6_isWithinNight (z_I f) (z_I n) x = some 0 := by
  rw [z_c_within f n x hf z_hn, if_neg h]
theorem z_iz {α : Type} (a b : Option α) : (if z_I 0 = 0 then a else b) = a := if_pos rfl
def z_OP (s : z_row) (v : Int32) (f n : Nat) : Prop := f + n ≤ 12 ∧ ¬ z_I f < s 108 ∧ z_HB s v f n = 0 ∧ z_LI s (z_EM s f n) f n = 0
theorem z_c_isOpenTo {x : xS} {s : z_row} (A : z_Ag x s) {v : Int32} {f n : Nat} (hf : f < 12) (h1 : 1 ≤ n) (h9 : n ≤ 9) (h : z_OP s v f n) : fX4_isOpenTo 2 v (z_I f) (z_I n) x = some 1 := by
  obtain ⟨a, b, c, d⟩ := h
  unfold fX4_isOpenTo fX4_isOpenTo_b0
  rw [z_c_within_y x ⟨hf, h1, h9, a⟩, z_ob, if_neg (by decide), z_c_wentBy A, if_neg b, z_ob, if_pos rfl, z_c_hoursWithBed A a, z_ob, c, z_iz, z_c_leastLentBed A a, z_ob, z_c_lentHoursIn A (z_EM_lt s f n) a, z_ob, d, z_iz]
theorem z_c_isOpenTo_n {x : xS} {s : z_row} (A : z_Ag x s) {v : Int32} {f n : Nat} (hf : f < 12) (h1 : 1 ≤ n) (h9 : n ≤ 9) (h : ¬ z_OP s v f n) : fX4_isOpenTo 2 v (z_I f) (z_I n) x = some 0 := by
  unfold fX4_isOpenTo fX4_isOpenTo_b0 fX4_isOpenTo_b16 fX4_isOpenTo_b47
  by_cases a : f + n ≤ 12
  · rw [z_c_within_y x ⟨hf, h1, h9, a⟩, z_ob, if_neg (by decide), z_c_wentBy A]
    by_cases b : z_I f < s 108
    · rw [if_pos b, z_ob, if_neg (by decide)]
    · rw [if_neg b, z_ob, if_pos rfl, z_c_hoursWithBed A a, z_ob]
      have hB := z_HB_le s v f n
      by_cases c : z_HB s v f n = 0
      · rw [c, z_iz, z_c_leastLentBed A a, z_ob, z_c_lentHoursIn A (z_EM_lt s f n) a, z_ob]
        have hL := z_LI_le s (z_EM s f n) f n
        by_cases d : z_LI s (z_EM s f n) f n = 0
        · exact absurd ⟨a, b, c, d⟩ h
        · rw [if_neg (by rw [z_L0, z_I_eq (by omega) (by omega)]; exact d)]
      · rw [if_neg (by rw [z_L0, z_I_eq (by omega) (by omega)]; exact c)]
  · rw [z_c_within_n x (by omega) (by omega) (by omega), z_ob, if_pos rfl]

def z_OPb (s : z_row) (v : Int32) (f n : Nat) : Bool := decide (f + n ≤ 12) && !decide (z_I f < s 108) && decide (z_HB s v f n = 0) && decide (z_LI s (z_EM s f n) f n = 0)
theorem z_OPb_t {s : z_row} {v : Int32} {f n : Nat} (h : z_OPb s v f n = true) : z_OP s v f n := by
  unfold z_OPb at h; simp only [Bool.and_eq_true, decide_eq_true_eq, Bool.not_eq_true', decide_eq_false_iff_not] at h
  exact ⟨h.1.1.1, h.1.1.2, h.1.2, h.2⟩
theorem z_OPb_f {s : z_row} {v : Int32} {f n : Nat} (h : ¬ z_OPb s v f n = true) : ¬ z_OP s v f n := by
  intro o; apply h; unfold z_OPb; simp only [Bool.and_eq_true, decide_eq_true_eq, Bool.not_eq_true', decide_eq_false_iff_not]
  exact ⟨⟨⟨o.1, o.2.1⟩, o.2.2.1⟩, o.2.2.2⟩
def z_lf (s : z_row) (v : Int32) (f : Nat) : Nat → Nat → Nat
  | m, 0 => m
  | m, d + 1 => if z_OPb s v f (m + 1) = true then z_lf s v f (m + 1) d else m
def z_LF (s : z_row) (v : Int32) (f : Nat) : Nat := z_lf s v f 0 9
theorem z_c_longestFor {x : xS} {s : z_row} (A : z_Ag x s) {v : Int32} {f : Nat} (hf : f < 12) : fX4_longestFor 2 v (z_I f) x = some (z_I (z_LF s v f)) := by
  unfold fX4_longestFor fX4_longestFor_b0
  have q : ∀ d n m, m + d = 9 → d < n → fX4_longestFor_b2 2 v (z_I f) x n (z_I m) = some (z_I (z_lf s v f m d)) := by
    intro d
    induction d with
    | zero =>
      intro n m hj z_hn
      obtain ⟨n, rfl⟩ : ∃ k, n = k + 1 := ⟨n - 1, by omega⟩
      rw [fX4_longestFor_b2, if_pos (by rw [z_L9, z_I_le (by omega) (by omega)]; omega)]; rfl
    | succ d ih =>
      intro n m hj z_hn
      obtain ⟨n, rfl⟩ : ∃ k, n = k + 1 := ⟨n - 1, by omega⟩
      rw [fX4_longestFor_b2, if_neg (by rw [z_L9, z_I_le (by omega) (by omega)]; omega), z_I_s]
      simp only [z_lf]
      by_cases e : z_OPb s v f (m + 1) = true
      · rw [z_c_isOpenTo A hf (by omega) (by omega) (z_OPb_t e), z_ob, if_neg (by decide), if_pos e, ih n (m + 1) (by omega) (by omega)]
      · rw [z_c_isOpenTo_n A hf (by omega) (by omega) (z_OPb_f e), z_ob, if_pos rfl, if_neg e]; rfl
  exact q 9 FU 0 rfl (by decide)
theorem z_c_isEighth {x : xS} {s : z_row} (A : z_Ag x s) (O : z_OKs s) {l : Nat} (hl : l < 10) : fX3_isEighth 1 (z_I l) x = some (if s (6 * l + 1) = z_I 7 then 1 else 0) := by
  unfold fX3_isEighth fX3_isEighth_b0
  obtain ⟨a, ha, e⟩ := (O.2.2.1 l hl).2.1
  rw [z_gL1 A hl, z_ob, e, z_L7]
  by_cases h : a = 7
  · rw [if_neg (by rw [z_I_lt (by omega) (by omega)]; omega), if_pos (by rw [h])]
  · rw [if_pos (by rw [z_I_lt (by omega) (by omega)]; omega), if_neg (by rw [z_I_eq (by omega) (by omega)]; exact h)]
theorem z_c_tooLittle {x : xS} {s : z_row} (A : z_Ag x s) {l : Nat} (hl : l < 10) : fX3_hasTooLittleNeed 1 (z_I l) x = some (if s (6 * l) < s 119 then 1 else 0) := by
  unfold fX3_hasTooLittleNeed fX3_hasTooLittleNeed_b0
  have e9 : x.1 8 9 = s 119 := A 119 (by omega)
  rw [z_gL0 A hl, z_ob, show fX2_get 7 0 9 x = some (x.1 8 9) from z_gA x (k := 9) (by omega), z_ob, e9]
  by_cases h : s (6 * l) < s 119
  · rw [if_pos h, if_neg (Int32.not_le.mpr h)]
  · rw [if_neg h, if_pos (Int32.not_lt.mp h)]
def z_AN (s : z_row) (l f n : Nat) : Nat := if z_I f < s 108 then 1 else if 0 < z_HB s (z_I l) f n then 2 else if s (6 * l + 1) = z_I 7 then 10 + z_EM s f n else
  if s (6 * l) < s 119 ∧ s (6 * l + 2) = 0 then 3 else if 0 < z_LI s (z_EM s f n) f n then 4 else 10 + z_EM s f n
theorem z_AN_lt (s : z_row) (l f n : Nat) : z_AN s l f n < 14 := by
  have := z_EM_lt s f n
  unfold z_AN; (repeat' split) <;> omega
theorem z_c_answerTo {x : xS} {s : z_row} (A : z_Ag x s) (O : z_OKs s) {l f n : Nat} (hl : l < 10) (hh : f + n ≤ 12) : fX3_answerTo 1 (z_I l) (z_I f) (z_I n) x = some (z_I (z_AN s l f n)) := by
  unfold fX3_answerTo fX3_answerTo_b0 fX3_answerTo_b62 fX3_answerTo_b94 z_AN
  have hB := z_HB_le s (z_I l) f n
  have hL := z_LI_le s (z_EM s f n) f n
  have hE := z_EM_lt s f n
  rw [z_c_wentBy A]
  by_cases h1 : z_I f < s 108
  · rw [if_pos h1, z_ob, if_neg (by decide), if_pos h1]; rfl
  · rw [if_neg h1, z_ob, if_pos rfl, if_neg h1, z_c_hoursWithBed A hh, z_ob]
    by_cases h2 : 0 < z_HB s (z_I l) f n
    · rw [if_neg (by rw [z_L0, z_I_le (by omega) (by omega)]; omega), if_pos h2]; rfl
    · rw [if_pos (by rw [z_L0, z_I_le (by omega) (by omega)]; omega), if_neg h2, z_c_isEighth A O hl, z_ob]
      by_cases h3 : s (6 * l + 1) = z_I 7
      · rw [if_pos h3, if_neg (by decide), if_pos h3, z_c_leastLentBed A hh, z_ob, if_neg (by decide), z_L10, z_I_add]
      · rw [if_neg h3, if_pos rfl, if_neg h3, z_c_tooLittle A hl, z_ob]
        have tail : ((fX4_leastLentBed (1 + 1) (z_I f) (z_I n) x).bind fun r68 => if (0 : Int32) = 0 then (fX4_lentHoursIn (1 + 1) r68 (z_I f) (z_I n) x).bind fun r86 => if r86 ≤ 0 then some (10 + r68) else some 4 else some (10 + r68)) = some (z_I (if 0 < z_LI s (z_EM s f n) f n then 4 else 10 + z_EM s f n)) := by
          rw [z_c_leastLentBed A hh, z_ob, if_pos rfl, z_c_lentHoursIn A hE hh, z_ob, z_L10, z_I_add]
          by_cases h5 : 0 < z_LI s (z_EM s f n) f n
          · rw [if_neg (by rw [z_L0, z_I_le (by omega) (by omega)]; omega), if_pos h5]; rfl
          · rw [if_pos (by rw [z_L0, z_I_le (by omega) (by omega)]; omega), if_neg h5]
        by_cases h4 : s (6 * l) < s 119
        · rw [if_pos h4, if_neg (by decide), z_gL2 A hl, z_ob]
          by_cases h6 : s (6 * l + 2) = 0
          · rw [if_pos h6, if_pos ⟨h4, h6⟩]; rfl
          · rw [if_neg h6, if_neg (fun h => h6 h.2)]; exact tail
        · rw [if_neg h4, if_pos rfl, if_neg (fun h => h4 h.1)]; exact tail
theorem z_c_wouldBePutOut {x : xS} {s : z_row} (A : z_Ag x s) (O : z_OKs s) {l f n : Nat} (hl : l < 10) (hh : f + n ≤ 12) : fX3_wouldBePutOut 1 (z_I l) (z_I f) (z_I n) x = some (z_I (if 10 ≤ z_AN s l f n then z_MK s (z_AN s l f n - 10) f n else 0)) := by
  unfold fX3_wouldBePutOut fX3_wouldBePutOut_b0
  have h := z_AN_lt s l f n
  rw [z_c_answerTo A O hl hh, z_ob]
  by_cases h1 : 10 ≤ z_AN s l f n
  · rw [if_pos (by rw [z_L10, z_I_le (by omega) (by omega)]; exact h1), if_pos h1, z_L10, z_I_sub h1, z_c_holdersMask A O.1 (by omega) hh]; rfl
  · rw [if_neg (by rw [z_L10, z_I_le (by omega) (by omega)]; exact h1), if_neg h1]; rfl
theorem z_c_refusedFor {x : xS} {s : z_row} (A : z_Ag x s) {r : Nat} (h1 : 1 ≤ r) (h4 : r ≤ 4) : fX3_refusedFor 1 (z_I r) x = some (s (110 + r)) := by
  unfold fX3_refusedFor fX3_refusedFor_b0
  rw [show fX2_get (1 + 8) 0 (z_I r) x = some (x.1 10 r) from z_gRe x (by omega), z_ob]
  rcases (by omega : r = 1 ∨ r = 2 ∨ r = 3 ∨ r = 4) with rfl | rfl | rfl | rfl
  · rw [← A 111 (by omega)]; rfl
  · rw [← A 112 (by omega)]; rfl
  · rw [← A 113 (by omega)]; rfl
  · rw [← A 114 (by omega)]; rfl
def z_ac (k : Nat) : Nat := if k = 1 then 109 else if k = 4 then 110 else if k = 6 then 115 else if k = 7 then 116 else if k = 8 then 117 else if k = 9 then 119 else 118
def z_CN (s : z_row) (a b : Int32) (k : Nat) : Int32 := if k = 0 then s 108 else if k = 2 then z_I (z_LT s) else if k = 3 then a else if k = 5 then b else s (z_ac k)
theorem z_c_account {x : xS} {s : z_row} (A : z_Ag x s) {k : Nat} (hk : k < 11) : fX3_account 1 (z_I k) x = some (z_CN s (x.1 8 3) (x.1 8 5) k) := by
  unfold fX3_account fX3_account_b0 z_CN
  by_cases h0 : k = 0
  · subst h0; rw [if_pos (by decide), if_pos rfl]; unfold fX4_goneHours fX4_goneHours_b0; rw [z_ob, ← z_Ag_g A]
  · rw [if_neg h0, z_L0, if_neg (by rw [z_I_eq (by omega) (by omega)]; exact h0)]
    by_cases h2 : k = 2
    · subst h2; rw [if_pos (by decide), if_pos rfl, z_c_lentHours A, z_ob]
    · rw [if_neg h2, z_L2, if_neg (by rw [z_I_eq (by omega) (by omega)]; exact h2), show fX2_get (1 + 6) (z_I 0) (z_I k) x = some (x.1 8 k) from z_gA x (by omega), z_ob]
      rcases (by omega : k = 3 ∨ k = 5 ∨ k = 1 ∨ k = 4 ∨ k = 6 ∨ k = 7 ∨ k = 8 ∨ k = 9 ∨ k = 10) with rfl | rfl | rfl | rfl | rfl | rfl | rfl | rfl | rfl
      · rfl
      · rfl
      · rw [← A (z_ac 1) (by decide)]; rfl
      · rw [← A (z_ac 4) (by decide)]; rfl
      · rw [← A (z_ac 6) (by decide)]; rfl
      · rw [← A (z_ac 7) (by decide)]; rfl
      · rw [← A (z_ac 8) (by decide)]; rfl
      · rw [← A (z_ac 9) (by decide)]; rfl
      · rw [← A (z_ac 10) (by decide)]; rfl
def z_LN (s : z_row) (l k : Nat) : Int32 := if k = 3 then z_I (z_HB s (z_I l) 0 12) else s (6 * l + (if k < 3 then k else k - 1))
theorem z_c_lodgerNumber {x : xS} {s : z_row} (A : z_Ag x s) {l k : Nat} (hl : l < 10) (hk : k < 7) : fX3_lodgerNumber 1 (z_I l) (z_I k) x = some (z_LN s l k) := by
  unfold fX3_lodgerNumber fX3_lodgerNumber_b0 z_LN
  by_cases h3 : k = 3
  · subst h3; rw [if_pos (by decide), if_pos rfl, z_L0, z_L12, z_c_hoursWithBed A (by omega), z_ob]
  · rw [if_neg h3, z_L3, if_neg (by rw [z_I_eq (by omega) (by omega)]; exact h3)]
    have := z_gLo (w := if k < 3 then k else k - 1) A hl (by split <;> omega)
    rw [show z_lw (if k < 3 then k else k - 1) = k by unfold z_lw; (repeat' split) <;> omega] at this
    rw [show fX2_get (1 + 4) (z_I l) (z_I k) x = _ from this, z_ob]
def z_poo (s : z_row) (l a : Nat) : Bool := decide (s (6 * a + 1) < s (6 * l + 1)) || (decide (s (6 * l + 1) = s (6 * a + 1)) && decide (s (6 * a) < s (6 * l)))
theorem z_su1 : ∀ a, a < 8 → ∀ b, b < 8 → (decide (0 < z_I a - z_I b) = decide (b < a)) ∧ (decide (z_I a - z_I b = 0) = decide (a = b)) := by decide +kernel
theorem z_c_isPoorer {x : xS} {s : z_row} (A : z_Ag x s) (O : z_OKs s) {l a : Nat} (hl : l < 10) (ha : a < 10) : fX3_isPoorer 1 (z_I l) (z_I a) x = some (if z_poo s l a = true then 1 else 0) := by
  unfold fX3_isPoorer fX3_isPoorer_b0 fX3_isPoorer_b49 fX3_isPoorer_b53 z_poo
  obtain ⟨p, hp, z_ep⟩ := (O.2.2.1 l hl).2.1
  obtain ⟨q, hq, eq⟩ := (O.2.2.1 a ha).2.1
  obtain ⟨h1, h2⟩ := z_su1 p hp q hq
  rw [z_gL1 A hl, z_ob, z_gL1 A ha, z_ob, z_ep, eq, z_lt_, z_gL0 A hl, z_ob, z_gL0 A ha, z_ob]
  have i1 := z_I_lt (a := q) (b := p) (by omega) (by omega)
  have i2 := z_I_eq (a := p) (b := q) (by omega) (by omega)
  by_cases e1 : q < p
  · rw [if_pos (by simpa [e1] using h1)]; simp [e1, i1, i2]
  · rw [if_neg (by simpa [e1] using h1)]
    by_cases e2 : p = q
    · rw [if_pos (by simpa [e2] using h2)]
      by_cases e3 : s (6 * l) ≤ s (6 * a)
      · have := Int32.not_lt.mpr e3
        rw [if_pos e3]; simp [e1, e2, this, i1, i2]
      · have := Int32.not_le.mp e3
        rw [if_neg e3]; simp [e1, e2, this, i1, i2]
    · rw [if_neg (by simpa [e2] using h2)]; simp [e1, e2, i1, i2]
def z_RM (s : z_row) : Nat := z_fo (fun a l => if z_poo s l a = true then l else a) 0 1 9
theorem z_c_poorest {x : xS} {s : z_row} (A : z_Ag x s) (O : z_OKs s) : fX3_poorestLodger 1 x = some (z_I (z_RM s)) := by
  unfold fX3_poorestLodger fX3_poorestLodger_b0
  refine z_loopG (F := fun k (a : Nat) j => fX3_poorestLodger_b4 1 x k (z_I a) j) (B := 10) (g := fun a l => if z_poo s l a = true then l else a) (r := z_I) (P := fun a _ => a < 10) (fun k acc _ => ?_) (fun k acc j hj hP => ⟨?_, ?_⟩) 9 FU 0 1 rfl (by decide) (by omega)
  · rw [fX3_poorestLodger_b4, if_pos (by decide)]
  · rw [fX3_poorestLodger_b4, if_neg (by rw [z_L10, z_I_le (by omega) (by omega)]; omega), z_c_isPoorer A O hj hP, z_ob]
    unfold fX3_poorestLodger_b21
    rw [z_I_s]
    by_cases e : z_poo s j acc = true
    · rw [if_pos e, if_pos e, if_neg (by decide)]
    · rw [if_neg e, if_neg e, if_pos rfl]
  · split <;> omega

theorem z_up1_at (x : xS) (i k : Nat) (v : Int32) (j m : Nat) : (up1 x i k v).1 j m = if j = i ∧ m = k then v else x.1 j m := by
  unfold up1 upR upd
  dsimp only
  by_cases h : j = i
  · subst h; rw [if_pos rfl]; by_cases h2 : m = k
    · rw [if_pos h2, if_pos ⟨rfl, h2⟩]
    · rw [if_neg h2, if_neg (fun e => h2 e.2)]
  · rw [if_neg h, if_neg (fun e => h e.1)]
theorem z_up1_o (x : xS) {i : Nat} (k : Nat) (v : Int32) {j : Nat} (h : j ≠ i) : (up1 x i k v).1 j = x.1 j := if_neg h
def z_J (x x' : xS) (a b : Int32) : Prop := x'.2 = x.2 ∧ (∀ i, i ≠ 2 → i ≠ 4 → i ≠ 6 → i ≠ 8 → i ≠ 10 → x'.1 i = x.1 i) ∧ x'.1 8 3 = x.1 8 3 + a ∧ x'.1 8 5 = x.1 8 5 + b
theorem z_J_refl (x : xS) : z_J x x 0 0 := ⟨rfl, fun _ _ _ _ _ _ => rfl, (Int32.add_zero _).symm, (Int32.add_zero _).symm⟩
theorem z_J_trans {x y z : xS} {a b c d : Int32} (h : z_J x y a b) (k : z_J y z c d) : z_J x z (a + c) (b + d) :=
  ⟨k.1.trans h.1, fun i h1 h2 h3 h4 h5 => (k.2.1 i h1 h2 h3 h4 h5).trans (h.2.1 i h1 h2 h3 h4 h5), by rw [k.2.2.1, h.2.2.1, Int32.add_assoc], by rw [k.2.2.2, h.2.2.2, Int32.add_assoc]⟩
theorem z_J_t0 {x y z : xS} {a b : Int32} (h : z_J x y 0 0) (k : z_J y z a b) : z_J x z a b := by
  have := z_J_trans h k; rwa [Int32.zero_add, Int32.zero_add] at this
theorem z_J_0t {x y z : xS} {a b : Int32} (h : z_J x y a b) (k : z_J y z 0 0) : z_J x z a b := by
  have := z_J_trans h k; rwa [Int32.add_zero, Int32.add_zero] at this
theorem z_Ag_up {x : xS} {s : z_row} (A : z_Ag x s) {k : Nat} (hk : k < 120) (v : Int32) : z_Ag (up1 x (z_pr k) (z_pq k) v) (upd s k v) := by
  intro j hj
  rw [z_up1_at]
  unfold upd
  by_cases h : j = k
  · subst h; rw [if_pos ⟨rfl, rfl⟩, if_pos rfl]
  · rw [if_neg (fun e => h (z_pInj j (by omega) k (by omega) e.1 e.2)), if_neg h]; exact A j hj
theorem z_pr_m {k : Nat} (hk : k < 120) : z_pr k = 2 ∨ z_pr k = 4 ∨ z_pr k = 6 ∨ z_pr k = 8 ∨ z_pr k = 10 := by unfold z_pr; (repeat' split) <;> omega
theorem z_J_up {x : xS} {k : Nat} (hk : k < 120) (v : Int32) : z_J x (up1 x (z_pr k) (z_pq k) v) 0 0 := by
  have z_hm := z_pr_m hk
  refine ⟨rfl, fun i h1 h2 h3 h4 h5 => z_up1_o x _ v (by omega), ?_, ?_⟩
  · rw [z_up1_at, if_neg, Int32.add_zero]
    intro e; have := z_pInj 120 (by omega) k (by omega) e.1 e.2; omega
  · rw [z_up1_at, if_neg, Int32.add_zero]
    intro e; have := z_pInj 121 (by omega) k (by omega) e.1 e.2; omega
def z_En (f : Option xS) (x : xS) (s : z_row) (a b : Int32) : Prop := ∃ x', f = some x' ∧ z_Ag x' s ∧ z_J x x' a b
def z_EnI (f : Option (Int32 × xS)) (x : xS) (r : Int32) (s : z_row) (a b : Int32) : Prop := ∃ x', f = some (r, x') ∧ z_Ag x' s ∧ z_J x x' a b
theorem z_En_up {f : Option xS} {x : xS} {s : z_row} (A : z_Ag x s) {k i q : Nat} (hk : k < 120) {v : Int32} (hf : f = some (up1 x i q v)) (hi : z_pr k = i) (hq : z_pq k = q) : z_En f x (upd s k v) 0 0 := by
  subst hi; subst hq; exact ⟨_, hf, z_Ag_up A hk v, z_J_up hk v⟩
theorem z_En_bind {f : Option xS} {g : xS → Option xS} {x : xS} {s t : z_row} {a b c d : Int32} (h : z_En f x s a b) (k : ∀ y, z_Ag y s → z_J x y a b → z_En (g y) y t c d) : z_En (Option.bind f g) x t (a + c) (b + d) := by
  obtain ⟨y, e, A, j⟩ := h
  obtain ⟨z, e2, A2, j2⟩ := k y A j
  exact ⟨z, by rw [e, z_ob, e2], A2, z_J_trans j j2⟩
theorem z_En_b0 {f : Option xS} {g : xS → Option xS} {x : xS} {s t : z_row} {c d : Int32} (h : z_En f x s 0 0) (k : ∀ y, z_Ag y s → z_J x y 0 0 → z_En (g y) y t c d) : z_En (Option.bind f g) x t c d := by
  have := z_En_bind h k; rwa [Int32.zero_add, Int32.zero_add] at this
theorem z_EnI_b0 {f : Option xS} {g : xS → Option (Int32 × xS)} {x : xS} {s t : z_row} {r c d : Int32} (h : z_En f x s 0 0) (k : ∀ y, z_Ag y s → z_J x y 0 0 → z_EnI (g y) y r t c d) : z_EnI (Option.bind f g) x r t c d := by
  obtain ⟨y, e, A, j⟩ := h
  obtain ⟨z, e2, A2, j2⟩ := k y A j
  exact ⟨z, by rw [e, z_ob, e2], A2, z_J_t0 j j2⟩
theorem z_EnI_b {f : Option xS} {g : xS → Option (Int32 × xS)} {x : xS} {s t : z_row} {r a b : Int32} (h : z_En f x s a b) (k : ∀ y, z_Ag y s → z_J x y a b → z_EnI (g y) y r t 0 0) : z_EnI (Option.bind f g) x r t a b := by
  obtain ⟨y, e, A, j⟩ := h
  obtain ⟨z, e2, A2, j2⟩ := k y A j
  exact ⟨z, by rw [e, z_ob, e2], A2, z_J_0t j j2⟩
theorem z_En_id {x : xS} {s : z_row} (A : z_Ag x s) : z_En (some x) x s 0 0 := ⟨x, rfl, A, z_J_refl x⟩
theorem z_EnI_id {x : xS} {s : z_row} (A : z_Ag x s) (r : Int32) : z_EnI (some (r, x)) x r s 0 0 := ⟨x, rfl, A, z_J_refl x⟩
theorem z_pH {b h : Nat} {x : xS} {s : z_row} (A : z_Ag x s) (hb : b < 4) (hh : h < 12) (v : Int32) : z_En (fX2_put 3 (z_I b) (z_I h) v x) x (upd s (60 + 12 * b + h) v) 0 0 := by
  refine z_En_up A (by omega) (z_gput (R := 4) (C := 12) rfl rfl rfl hb hh (by omega) (by omega)) ?_ ?_
  · unfold z_pr; rw [if_neg (by omega), if_pos (by omega)]
  · unfold z_pq; rw [if_neg (by omega), if_pos (by omega)]; omega
theorem z_pL {l w : Nat} {x : xS} {s : z_row} (A : z_Ag x s) (hl : l < 10) (hw : w < 6) (v : Int32) : z_En (fX2_put 5 (z_I l) (z_I (z_lw w)) v x) x (upd s (6 * l + w) v) 0 0 := by
  refine z_En_up A (by omega) (z_gput (R := 10) (C := 7) rfl rfl rfl hl (by unfold z_lw; split <;> omega) (by omega) (by omega)) ?_ ?_
  · exact z_pr_l hl hw
  · rw [z_pq_l hl hw]; omega
theorem z_rL {l w : Nat} {x : xS} {s : z_row} (A : z_Ag x s) (hl : l < 10) (hw : w < 6) (v : Int32) : z_En (fX2_raise 5 (z_I l) (z_I (z_lw w)) v x) x (upd s (6 * l + w) (s (6 * l + w) + v)) 0 0 := by
  unfold fX2_raise fX2_raise_b0
  rw [z_gLo A hl hw, z_ob]
  exact z_En_b0 (z_pL A hl hw _) (fun y A _ => z_En_id A)
theorem z_putA (x : xS) {k : Nat} (hk : k < 12) (v : Int32) : fX2_put 7 0 (z_I k) v x = some (up1 x 8 k v) := by
  rw [z_L0, z_gput (R := 1) (C := 12) rfl rfl rfl (by omega) hk (by omega) (by omega)]; simp
theorem z_pAc {k : Nat} {x : xS} {s : z_row} (A : z_Ag x s) (hk : k ∈ [1, 4, 6, 7, 8, 9, 10]) (v : Int32) : z_En (fX2_put 7 0 (z_I k) v x) x (upd s (z_ac k) v) 0 0 := by
  simp only [List.mem_cons, List.not_mem_nil, or_false] at hk
  refine z_En_up A (k := z_ac k) ?_ (z_putA x (by omega) v) ?_ ?_
  · unfold z_ac; (repeat' split) <;> omega
  · rcases hk with rfl | rfl | rfl | rfl | rfl | rfl | rfl <;> rfl
  · rcases hk with rfl | rfl | rfl | rfl | rfl | rfl | rfl <;> rfl
theorem z_gAc {k : Nat} {x : xS} {s : z_row} (A : z_Ag x s) (hk : k ∈ [1, 4, 6, 7, 8, 9, 10]) : fX2_get 7 0 (z_I k) x = some (s (z_ac k)) := by
  simp only [List.mem_cons, List.not_mem_nil, or_false] at hk
  rw [z_gA x (by omega)]
  rcases hk with rfl | rfl | rfl | rfl | rfl | rfl | rfl
  · rw [← A (z_ac 1) (by decide)]; rfl
  · rw [← A (z_ac 4) (by decide)]; rfl
  · rw [← A (z_ac 6) (by decide)]; rfl
  · rw [← A (z_ac 7) (by decide)]; rfl
  · rw [← A (z_ac 8) (by decide)]; rfl
  · rw [← A (z_ac 9) (by decide)]; rfl
  · rw [← A (z_ac 10) (by decide)]; rfl
theorem z_rAc {k : Nat} {x : xS} {s : z_row} (A : z_Ag x s) (hk : k ∈ [1, 4, 6, 7, 8, 9, 10]) (v : Int32) : z_En (fX2_raise 7 0 (z_I k) v x) x (upd s (z_ac k) (s (z_ac k) + v)) 0 0 := by
  unfold fX2_raise fX2_raise_b0
  rw [z_gAc A hk, z_ob]
  exact z_En_b0 (z_pAc A hk _) (fun y A _ => z_En_id A)
theorem z_Ag_8 {x : xS} {s : z_row} (A : z_Ag x s) {q : Nat} (hq : q = 3 ∨ q = 5) (v : Int32) : z_Ag (up1 x 8 q v) s := by
  intro j hj
  rw [z_up1_at, if_neg]
  · exact A j hj
  · intro e
    rcases hq with rfl | rfl
    · have := z_pInj j (by omega) 120 (by omega) e.1 e.2; omega
    · have := z_pInj j (by omega) 121 (by omega) e.1 e.2; omega
theorem z_rA3 {x : xS} {s : z_row} (A : z_Ag x s) (v : Int32) : z_En (fX2_raise 7 0 (z_I 3) v x) x s v 0 := by
  unfold fX2_raise fX2_raise_b0
  rw [z_gA x (by omega), z_ob, z_putA x (by omega), z_ob]
  refine ⟨_, rfl, z_Ag_8 A (Or.inl rfl) _, rfl, fun i h1 h2 h3 h4 h5 => z_up1_o x _ _ h4, ?_, ?_⟩
  · rw [z_up1_at, if_pos ⟨rfl, rfl⟩]
  · rw [z_up1_at, if_neg (by omega), Int32.add_zero]
theorem z_rA5 {x : xS} {s : z_row} (A : z_Ag x s) (v : Int32) : z_En (fX2_raise 7 0 (z_I 5) v x) x s 0 v := by
  unfold fX2_raise fX2_raise_b0
  rw [z_gA x (by omega), z_ob, z_putA x (by omega), z_ob]
  refine ⟨_, rfl, z_Ag_8 A (Or.inr rfl) _, rfl, fun i h1 h2 h3 h4 h5 => z_up1_o x _ _ h4, ?_, ?_⟩
  · rw [z_up1_at, if_neg (by omega), Int32.add_zero]
  · rw [z_up1_at, if_pos ⟨rfl, rfl⟩]
theorem z_putR (x : xS) {k : Nat} (hk : k < 5) (v : Int32) : fX2_put 9 0 (z_I k) v x = some (up1 x 10 k v) := by
  rw [z_L0, z_gput (R := 1) (C := 5) rfl rfl rfl (by omega) hk (by omega) (by omega)]; simp
theorem z_rR {r : Nat} {x : xS} {s : z_row} (A : z_Ag x s) (h1 : 1 ≤ r) (h4 : r ≤ 4) (v : Int32) : z_En (fX2_raise 9 0 (z_I r) v x) x (upd s (110 + r) (s (110 + r) + v)) 0 0 := by
  unfold fX2_raise fX2_raise_b0
  have e : x.1 10 r = s (110 + r) := by
    rcases (by omega : r = 1 ∨ r = 2 ∨ r = 3 ∨ r = 4) with rfl | rfl | rfl | rfl
    · rw [← A 111 (by omega)]; rfl
    · rw [← A 112 (by omega)]; rfl
    · rw [← A 113 (by omega)]; rfl
    · rw [← A 114 (by omega)]; rfl
  rw [z_gRe x (by omega), z_ob, e]
  refine z_En_b0 (z_En_up A (k := 110 + r) (by omega) (z_putR x (by omega) _) ?_ ?_) (fun y A _ => z_En_id A)
  · rcases (by omega : r = 1 ∨ r = 2 ∨ r = 3 ∨ r = 4) with rfl | rfl | rfl | rfl <;> rfl
  · rcases (by omega : r = 1 ∨ r = 2 ∨ r = 3 ∨ r = 4) with rfl | rfl | rfl | rfl <;> rfl
def z_LE (s : z_row) (b f n : Nat) (v : Int32) : z_row := fun k => if 60 + 12 * b + f ≤ k ∧ k < 60 + 12 * b + f + n then v else s k
theorem z_LE_s (s : z_row) (b f n : Nat) (v : Int32) : z_LE (upd s (60 + 12 * b + f) v) b (f + 1) n v = z_LE s b f (n + 1) v := by
  funext k
  unfold z_LE upd
  by_cases h : 60 + 12 * b + f ≤ k ∧ k < 60 + 12 * b + f + (n + 1)
  · rw [if_pos h]
    by_cases h2 : k = 60 + 12 * b + f
    · rw [if_neg (by omega), if_pos h2]
    · rw [if_pos (by omega)]
  · rw [if_neg h, if_neg (by omega), if_neg (by omega)]
theorem z_LE_0 (s : z_row) (b f : Nat) (v : Int32) : z_LE s b f 0 v = s := by
  funext k; unfold z_LE; rw [if_neg (by omega)]
theorem z_c_lend {x : xS} {s : z_row} (A : z_Ag x s) {b f n : Nat} {v : Int32} (hb : b < 4) (hh : f + n ≤ 12) : z_En (fX4_lend 2 v (z_I b) (z_I f) (z_I n) x) x (z_LE s b f n v) 0 0 := by
  unfold fX4_lend fX4_lend_b0
  have q : ∀ d k j x s, z_Ag x s → j + d = f + n → d < k → z_En (fX4_lend_b3 2 v (z_I b) (z_I f) (z_I n) k (z_I j) x) x (z_LE s b j d v) 0 0 := by
    intro d
    induction d with
    | zero =>
      intro k j x s A hj hk
      obtain ⟨k, rfl⟩ : ∃ m, k = m + 1 := ⟨k - 1, by omega⟩
      rw [fX4_lend_b3, z_I_add, if_pos (by rw [z_I_le (by omega) (by omega)]; omega), z_LE_0]
      exact z_En_id A
    | succ d ih =>
      intro k j x s A hj hk
      obtain ⟨k, rfl⟩ : ∃ m, k = m + 1 := ⟨k - 1, by omega⟩
      rw [fX4_lend_b3, z_I_add, if_neg (by rw [z_I_le (by omega) (by omega)]; omega), ← z_LE_s, z_I_s]
      exact z_En_b0 (z_pH A hb (by omega) v) (fun y A _ => ih k (j + 1) y _ A (by omega) (by omega))
  exact q n FU f x s A rfl (by show n < 2000; omega)
def z_mi (v : Int32) : Int32 := if v + 1 < 7 then v + 1 else 7
theorem z_c_countRefusal {x : xS} {s : z_row} (A : z_Ag x s) {l : Nat} (hl : l < 10) : z_En (fX3_countRefusal 1 (z_I l) x) x (upd s (6 * l + 1) (z_mi (s (6 * l + 1)))) 0 0 := by
  unfold fX3_countRefusal fX3_countRefusal_b0
  rw [z_gL1 A hl, z_ob, z_lt_]
  exact z_En_b0 (z_pL (w := 1) A hl (by omega) _) (fun y A _ => z_En_id A)
def z_RF (s : z_row) (l r : Nat) : z_row := if 3 ≤ r then upd (upd s (110 + r) (s (110 + r) + 1)) (6 * l + 1) (z_mi (s (6 * l + 1))) else upd s (110 + r) (s (110 + r) + 1)
theorem z_c_refuse {x : xS} {s : z_row} (A : z_Ag x s) {l r : Nat} (hl : l < 10) (h1 : 1 ≤ r) (h4 : r ≤ 4) : z_En (fX3_refuse 1 (z_I l) (z_I r) x) x (z_RF s l r) 0 1 := by
  unfold fX3_refuse fX3_refuse_b0 fX3_refuse_b30 z_RF
  refine z_En_b0 (z_rR A h1 h4 1) (fun y A _ => ?_)
  have h := fun (y : xS) (s : z_row) (A : z_Ag y s) => z_En_bind (z_rA5 A 1) (t := s) (c := 0) (d := 0) (g := fun r => some r) (fun z A _ => z_En_id A)
  have e1 : (upd s (110 + r) (s (110 + r) + 1)) (6 * l + 1) = s (6 * l + 1) := if_neg (by omega)
  by_cases h3 : r = 3
  · subst h3
    rw [if_pos (by omega), ← e1]
    exact z_En_bind (a := 0) (b := 1) (c := 0) (d := 0) (z_rA5 A 1) (fun z A _ => by rw [if_pos (by decide)]; exact z_En_b0 (z_c_countRefusal A hl) (fun z A _ => z_En_id A))
  · by_cases h4 : r = 4
    · subst h4
      rw [if_pos (by omega), ← e1]
      exact z_En_bind (a := 0) (b := 1) (c := 0) (d := 0) (z_rA5 A 1) (fun z A _ => by rw [if_neg (by decide), if_pos (by decide)]; exact z_En_b0 (z_c_countRefusal A hl) (fun z A _ => z_En_id A))
    · rw [if_neg (by omega)]
      exact z_En_bind (a := 0) (b := 1) (c := 0) (d := 0) (z_rA5 A 1) (fun z A _ => by rw [if_neg (by rw [z_L3, z_I_eq (by omega) (by omega)]; exact h3), if_neg (by rw [z_L4, z_I_eq (by omega) (by omega)]; exact h4)]; exact z_En_id A)

def z_bt (M l : Nat) : Nat := M / 2 ^ l % 2
set_option maxRecDepth 100000 in
theorem z_sb : ∀ l, l < 10 → ∀ M, M < 1024 → ((z_I M >>> (z_I l &&& 31)) &&& 1) = z_I (z_bt M l) := by decide +kernel
def z_bc (M : Nat) : Nat := z_sm (fun l => z_bt M l) 10
set_option maxRecDepth 100000 in
theorem z_bcK : ∀ M, M < 1024 → fJ6_bitCount_0f7a4 (z_I M) (fun _ _ => 0, fun _ _ => 0) = some (z_I (z_bc M)) := by decide +kernel
theorem z_c_bitCount (x : xS) {M : Nat} (h : M < 1024) : fJ6_bitCount_0f7a4 (z_I M) x = some (z_I (z_bc M)) := z_bcK M h
theorem z_bt_2 (M l : Nat) : z_bt M l = 0 ∨ z_bt M l = 1 := by unfold z_bt; omega
def z_PU (s : z_row) (M j d : Nat) : z_row := fun k => if (j ≤ k / 6 ∧ k / 6 < j + d) ∧ z_bt M (k / 6) = 1 then (if k % 6 = 4 then s k + 1 else if k % 6 = 1 then z_mi (s k) else s k) else s k
theorem z_PU_1 (s : z_row) (M j d : Nat) (h : z_bt M j = 1) : z_PU (upd (upd s (6 * j + 4) (s (6 * j + 4) + 1)) (6 * j + 1) (z_mi (s (6 * j + 1)))) M (j + 1) d = z_PU s M j (d + 1) := by
  funext k
  unfold z_PU upd
  by_cases e : k / 6 = j
  · rw [if_neg (by omega), if_pos (show (j ≤ k / 6 ∧ k / 6 < j + (d + 1)) ∧ z_bt M (k / 6) = 1 from ⟨by omega, by rw [e]; exact h⟩)]
    by_cases e4 : k % 6 = 4
    · have : k = 6 * j + 4 := by omega
      subst this
      rw [if_neg (by omega), if_pos rfl, if_pos e4]
    · by_cases e1 : k % 6 = 1
      · have : k = 6 * j + 1 := by omega
        subst this
        rw [if_pos rfl, if_neg e4, if_pos e1]
      · rw [if_neg (by omega), if_neg (by omega), if_neg e4, if_neg e1]
  · have h1 : ¬ k = 6 * j + 1 := by omega
    have h4 : ¬ k = 6 * j + 4 := by omega
    simp only [h1, h4, if_false]
    by_cases c : (j + 1 ≤ k / 6 ∧ k / 6 < j + 1 + d) ∧ z_bt M (k / 6) = 1
    · rw [if_pos c, if_pos (show (j ≤ k / 6 ∧ k / 6 < j + (d + 1)) ∧ z_bt M (k / 6) = 1 from ⟨by omega, c.2⟩)]
    · rw [if_neg c, if_neg (fun h => c ⟨by omega, h.2⟩)]
theorem z_PU_n (s : z_row) (M j d : Nat) (h : ¬ z_bt M j = 1) : z_PU s M (j + 1) d = z_PU s M j (d + 1) := by
  funext k
  unfold z_PU
  by_cases c : (j + 1 ≤ k / 6 ∧ k / 6 < j + 1 + d) ∧ z_bt M (k / 6) = 1
  · rw [if_pos c, if_pos (show (j ≤ k / 6 ∧ k / 6 < j + (d + 1)) ∧ z_bt M (k / 6) = 1 from ⟨by omega, c.2⟩)]
  · rw [if_neg c, if_neg]
    intro h'
    by_cases e : k / 6 = j
    · rw [e] at h'; exact h h'.2
    · exact c ⟨by omega, h'.2⟩
theorem z_PU_0 (s : z_row) (M j : Nat) : z_PU s M j 0 = s := by
  funext k; unfold z_PU; rw [if_neg (by omega)]
def z_CP (s : z_row) (M : Nat) : z_row := z_PU (upd s 115 (s 115 + z_I (z_bc M))) M 0 10
theorem z_c_countPutOut {x : xS} {s : z_row} (A : z_Ag x s) {M : Nat} (hM : M < 1024) : z_En (fX3_countPutOut 1 (z_I M) x) x (z_CP s M) 0 0 := by
  unfold fX3_countPutOut fX3_countPutOut_b0
  have q : ∀ d k j x s, z_Ag x s → j + d = 10 → d < k → z_En (fX3_countPutOut_b16 1 (z_I M) k (z_I j) x) x (z_PU s M j d) 0 0 := by
    intro d
    induction d with
    | zero =>
      intro k j x s A hj hk
      obtain ⟨k, rfl⟩ : ∃ m, k = m + 1 := ⟨k - 1, by omega⟩
      rw [fX3_countPutOut_b16, if_pos (by rw [z_L10, z_I_le (by omega) (by omega)]; omega), z_PU_0]
      exact z_En_id A
    | succ d ih =>
      intro k j x s A hj hk
      obtain ⟨k, rfl⟩ : ∃ m, k = m + 1 := ⟨k - 1, by omega⟩
      rw [fX3_countPutOut_b16, if_neg (by rw [z_L10, z_I_le (by omega) (by omega)]; omega), z_sb j (by omega) M hM]
      unfold fX3_countPutOut_b46
      rw [z_I_s]
      rcases z_bt_2 M j with e | e
      · rw [if_neg (by rw [e]; decide), ← z_PU_n s M j d (by omega)]
        exact ih k (j + 1) x s A (by omega) (by omega)
      · rw [if_pos (by rw [e]; rfl), ← z_PU_1 s M j d e]
        refine z_En_b0 (z_rL (w := 4) A (by omega) (by omega) 1) (fun y A _ => ?_)
        have := z_c_countRefusal A (l := j) (by omega)
        rw [show (upd s (6 * j + 4) (s (6 * j + 4) + 1)) (6 * j + 1) = s (6 * j + 1) from if_neg (by omega)] at this
        exact z_En_b0 this (fun y A _ => ih k (j + 1) y _ A (by omega) (by omega))
  rw [z_c_bitCount x hM, z_ob]
  exact z_En_b0 (z_rAc (k := 6) A (by decide) _) (fun y A _ => q 10 FU 0 y _ A rfl (by decide))
def z_dn (s : z_row) (b : Nat) (v : Int32) : Nat → Nat → Nat
  | j, 0 => j
  | j, d + 1 => if z_hv s b (j - 1) = v then z_dn s b v (j - 1) d else j
theorem z_dn_le (s : z_row) (b : Nat) (v : Int32) : ∀ d j, z_dn s b v j d ≤ j := by
  intro d
  induction d with
  | zero => intro j; exact Nat.le_refl j
  | succ d ih => intro j; simp only [z_dn]; split
                 · have := ih (j - 1); omega
                 · omega
def z_FS (s : z_row) (b f g : Nat) : Nat := z_dn s b (z_hv s b f) f (f - g)
theorem z_FS_le (s : z_row) (b f g : Nat) : z_FS s b f g ≤ f := z_dn_le s b _ _ f
theorem z_c_freePiecesIn {x : xS} {s : z_row} (A : z_Ag x s) {b f n g : Nat} (hb : b < 4) (z_hn : 1 ≤ n) (hh : f + n ≤ 12) (hg : s 108 = z_I g) (hgf : g ≤ f) : z_EnI (fX4_freePiecesIn 2 (z_I b) (z_I f) (z_I n) x) x (z_I (z_LI s b (z_FS s b f g) (z_PE s b (f + n - 1) - z_FS s b f g))) (z_LE s b (z_FS s b f g) (z_PE s b (f + n - 1) - z_FS s b f g) (-1)) 0 0 := by
  unfold fX4_freePiecesIn fX4_freePiecesIn_b0
  have h42 : ∀ j, j ≤ f → z_EnI (fX4_freePiecesIn_b42 2 (z_I b) (z_I f) (z_I n) (z_I j) x) x (z_I (z_LI s b j (z_PE s b (f + n - 1) - j))) (z_LE s b j (z_PE s b (f + n - 1) - j) (-1)) 0 0 := by
    intro j hj
    unfold fX4_freePiecesIn_b42
    have hp := z_PE_le s b (f + n - 1) (by omega)
    rw [z_I_add, z_L1, z_I_sub (by omega), z_c_pieceEnd A hb (by omega), z_ob, z_I_sub (by omega), z_c_lentHoursIn A hb (by omega), z_ob]
    exact z_EnI_b0 (z_c_lend A hb (by omega)) (fun y A _ => z_EnI_id A _)
  have q : ∀ d k j, j - g = d → g ≤ j → j ≤ f → d < k → z_EnI (fX4_freePiecesIn_b3 2 (z_I b) (z_I f) (z_I n) k (z_I j) x) x (z_I (z_LI s b (z_dn s b (z_hv s b f) j d) (z_PE s b (f + n - 1) - z_dn s b (z_hv s b f) j d))) (z_LE s b (z_dn s b (z_hv s b f) j d) (z_PE s b (f + n - 1) - z_dn s b (z_hv s b f) j d) (-1)) 0 0 := by
    intro d
    induction d with
    | zero =>
      intro k j hj hgj hjf hk
      obtain ⟨k, rfl⟩ : ∃ m, k = m + 1 := ⟨k - 1, by omega⟩
      rw [fX4_freePiecesIn_b3, z_Ag_g A, hg, if_pos (by rw [z_I_le (by omega) (by omega)]; omega)]
      exact h42 j hjf
    | succ d ih =>
      intro k j hj hgj hjf hk
      obtain ⟨k, rfl⟩ : ∃ m, k = m + 1 := ⟨k - 1, by omega⟩
      rw [fX4_freePiecesIn_b3, z_Ag_g A, hg, if_neg (by rw [z_I_le (by omega) (by omega)]; omega), z_L1, z_I_sub (by omega), z_gH A hb (by omega), z_ob, z_gH A hb (by omega), z_ob]
      simp only [z_dn]
      by_cases e : z_hv s b (j - 1) = z_hv s b f
      · rw [if_pos e, if_pos e]
        have : z_I j + -z_I 1 = z_I (j - 1) := by rw [← Int32.sub_eq_add_neg, z_I_sub (by omega)]
        rw [this]
        exact ih k (j - 1) (by omega) (by omega) (by omega) (by omega)
      · rw [if_neg e, if_neg e]
        exact h42 j hjf
  exact q (f - g) FU f rfl hgf (Nat.le_refl f) (by show f - g < 2000; omega)
def z_EqH (s t : z_row) : Prop := ∀ k, 60 ≤ k → k < 108 → s k = t k
theorem z_hv_c {s t : z_row} (h : z_EqH s t) {b j : Nat} (hb : b < 4) (hj : j < 12) : z_hv s b j = z_hv t b j := h _ (by omega) (by omega)
theorem z_LI_c {s t : z_row} (h : z_EqH s t) {b f n : Nat} (hb : b < 4) (hh : f + n ≤ 12) : z_LI s b f n = z_LI t b f n := z_sm_congr (fun i hi => by rw [z_hv_c h hb (by omega)])
theorem z_LB_c {s t : z_row} (h : z_EqH s t) {j : Nat} (hj : j < 12) : z_LB s j = z_LB t j := z_sm_congr (fun i hi => by rw [z_hv_c h (by omega) hj])
theorem z_BO_c {s t : z_row} (h : z_EqH s t) (v : Int32) {j : Nat} (hj : j < 12) : z_BO s v j = z_BO t v j := by
  unfold z_BO; rw [z_hv_c h (by omega) hj, z_hv_c h (b := 1) (by omega) hj, z_hv_c h (b := 2) (by omega) hj, z_hv_c h (b := 3) (by omega) hj]
theorem z_HB_c {s t : z_row} (h : z_EqH s t) (v : Int32) {f n : Nat} (hh : f + n ≤ 12) : z_HB s v f n = z_HB t v f n := z_sm_congr (fun i hi => by rw [z_BO_c h v (by omega)])
theorem z_fo_congr {α : Type} {g g' : α → Nat → α} : ∀ d a j, (∀ a i, j ≤ i → i < j + d → g a i = g' a i) → z_fo g a j d = z_fo g' a j d := by
  intro d
  induction d with
  | zero => intro a j h; rfl
  | succ d ih => intro a j h; simp only [z_fo]; rw [h a j (by omega) (by omega), ih _ _ (fun a i h1 h2 => h a i (by omega) (by omega))]
theorem z_MK_c {s t : z_row} (h : z_EqH s t) {b f n : Nat} (hb : b < 4) (hh : f + n ≤ 12) : z_MK s b f n = z_MK t b f n := z_fo_congr _ _ _ (fun a i h1 h2 => by rw [z_hv_c h hb (by omega)])
theorem z_run_c {s t : z_row} (h : z_EqH s t) (v : Int32) : ∀ d k, 60 ≤ k → k + d ≤ 108 → z_run s v k d = z_run t v k d := by
  intro d
  induction d with
  | zero => intro k h1 h2; rfl
  | succ d ih => intro k h1 h2; simp only [z_run]; rw [h k h1 (by omega), ih (k + 1) (by omega) (by omega)]
theorem z_PE_c {s t : z_row} (h : z_EqH s t) {b j : Nat} (hb : b < 4) (hj : j < 12) : z_PE s b j = z_PE t b j := by
  unfold z_PE; rw [z_hv_c h hb hj, z_run_c h _ _ _ (by omega) (by omega)]
theorem z_dn_c {s t : z_row} (h : z_EqH s t) {b : Nat} (hb : b < 4) (v : Int32) : ∀ d j, j < 13 → d ≤ j → z_dn s b v j d = z_dn t b v j d := by
  intro d
  induction d with
  | zero => intro j h1 h2; rfl
  | succ d ih => intro j h1 h2; simp only [z_dn]; rw [z_hv_c h hb (by omega), ih (j - 1) (by omega) (by omega)]
theorem z_FS_c {s t : z_row} (h : z_EqH s t) {b f g : Nat} (hb : b < 4) (hf : f < 12) : z_FS s b f g = z_FS t b f g := by
  unfold z_FS; rw [z_hv_c h hb hf, z_dn_c h hb _ _ _ (by omega) (by omega)]
theorem z_EqH_trans {s t u : z_row} (h : z_EqH s t) (k : z_EqH t u) : z_EqH s u := fun i a b => (h i a b).trans (k i a b)
theorem z_EqH_upd {s : z_row} {k : Nat} (hk : k < 60 ∨ 108 ≤ k) (v : Int32) : z_EqH (upd s k v) s := fun j h1 h2 => if_neg (by omega)
theorem z_EqH_PU (s : z_row) (M j d : Nat) (h : j + d ≤ 10) : z_EqH (z_PU s M j d) s := fun k h1 h2 => by unfold z_PU; rw [if_neg (by omega)]
theorem z_VH_c {s t : z_row} (h : z_EqH s t) (O : z_VH t) : z_VH s := fun k hk => by rw [h (60 + k) (by omega) (by omega)]; exact O k hk

theorem z_hm_ltV {s : z_row} (O : z_VH s) {b h : Nat} (hb : b < 4) (hh : h < 12) : z_hm (z_hv s b h) < 2 ^ 10 := by
  rcases z_VH_h O hb hh with e | ⟨l, hl, e⟩
  · rw [e]; decide
  · rw [e]; unfold z_hm; rw [z_I_nat (by omega)]; split
    · decide
    · exact Nat.pow_lt_pow_right (by omega) hl
theorem z_MK_lt {s : z_row} (O : z_VH s) {b : Nat} (hb : b < 4) : ∀ n a f, f + n ≤ 12 → a < 2 ^ 10 → z_fo (fun a j => a ||| z_hm (z_hv s b j)) a f n < 2 ^ 10 := by
  intro n
  induction n with
  | zero => intro a f _ h; exact h
  | succ n ih => intro a f hf h; exact ih _ _ (by omega) (Nat.or_lt_two_pow h (z_hm_ltV O hb (by omega)))
theorem z_EnI_bI {f : Option (Int32 × xS)} {g : Int32 × xS → Option xS} {x : xS} {s t : z_row} {r c d : Int32} (h : z_EnI f x r s 0 0) (k : ∀ y, z_Ag y s → z_J x y 0 0 → z_En (g (r, y)) y t c d) : z_En (Option.bind f g) x t c d := by
  obtain ⟨y, e, A, j⟩ := h
  obtain ⟨z, e2, A2, j2⟩ := k y A j
  exact ⟨z, by rw [e, z_ob, e2], A2, z_J_t0 j j2⟩
def z_GE (s : z_row) (l : Nat) : z_row := upd s (6 * l + 5) (s (6 * l + 5) + 1)
def z_G8 (s : z_row) (l b f n g : Nat) : z_row :=
  let s4 := z_CP (z_GE s l) (z_MK (z_GE s l) b f n)
  let st := z_FS s4 b f g
  let e := z_PE s4 b (f + n - 1)
  upd (z_LE s4 b st (e - st) (-1)) 116 (z_LE s4 b st (e - st) (-1) 116 + z_I (z_LI s4 b st (e - st)))
def z_GF (s : z_row) (l : Nat) : z_row := upd (upd s (6 * l + 2) (s (6 * l + 2) + (-1))) 117 (upd s (6 * l + 2) (s (6 * l + 2) + (-1)) 117 + 1)
def z_GZ (s : z_row) (l b f n : Nat) : z_row := upd (z_LE (upd s (6 * l + 1) 0) b f n (z_I l)) 110 (z_LE (upd s (6 * l + 1) 0) b f n (z_I l) 110 + 1)
def z_GR (s : z_row) (l b f n g : Nat) : z_row := z_GZ (if s (6 * l + 1) = z_I 7 then z_G8 s l b f n g else if s (6 * l) < s 119 then z_GF s l else s) l b f n
theorem z_c_grant {x : xS} {s : z_row} (A : z_Ag x s) (O : z_OKs s) {l b f n g : Nat} (hl : l < 10) (hb : b < 4) (z_hn : 1 ≤ n) (hh : f + n ≤ 12) (hg : s 108 = z_I g) (hgf : g ≤ f) : z_En (fX3_grant 1 (z_I l) (z_I b) (z_I f) (z_I n) x) x (z_GR s l b f n g) 0 0 := by
  unfold fX3_grant fX3_grant_b0
  have hZ : ∀ y t, z_Ag y t → z_En (fX3_grant_b87 1 (z_I l) (z_I b) (z_I f) (z_I n) y) y (z_GZ t l b f n) 0 0 := by
    intro y t B
    unfold fX3_grant_b87 z_GZ
    exact z_En_b0 (z_pL (w := 1) B hl (by omega) 0) (fun z B _ => z_En_b0 (z_c_lend B hb hh) (fun z B _ => z_En_b0 (z_rAc (k := 4) B (by decide) 1) (fun z B _ => z_En_id B)))
  rw [z_c_isEighth A O hl, z_ob]
  unfold z_GR
  by_cases h8 : s (6 * l + 1) = z_I 7
  · rw [if_pos h8, if_neg (by decide), if_pos h8]
    refine z_En_b0 (z_rL (w := 5) A hl (by omega) 1) (fun y B _ => ?_)
    have V : z_VH (z_GE s l) := z_VH_c (z_EqH_upd (by omega) _) O.1
    rw [z_c_holdersMask B V hb hh, z_ob]
    refine z_En_b0 (z_c_countPutOut B (z_MK_lt V hb n 0 f hh (by decide))) (fun z C _ => ?_)
    have e108 : z_CP (z_GE s l) (z_MK (z_GE s l) b f n) 108 = z_I g := by
      unfold z_CP z_PU z_GE upd
      rw [if_neg (by omega), if_neg (by omega), if_neg (by omega)]; exact hg
    refine z_EnI_bI (z_c_freePiecesIn C hb z_hn hh e108 hgf) (fun z D _ => ?_)
    exact z_En_b0 (z_rAc (k := 7) D (by decide) _) (fun z D _ => hZ z _ D)
  · rw [if_neg h8, if_pos rfl, if_neg h8, z_c_tooLittle A hl, z_ob]
    by_cases h1 : s (6 * l) < s 119
    · rw [if_pos h1, if_neg (by decide), if_pos h1]
      exact z_En_b0 (z_rL (w := 2) A hl (by omega) (-1)) (fun y B _ => z_En_b0 (z_rAc (k := 8) B (by decide) 1) (fun z B _ => hZ z _ B))
    · rw [if_neg h1, if_pos rfl, if_neg h1]
      exact hZ x s A
def z_TA (s : z_row) (l f n g : Nat) : z_row := if 10 ≤ z_AN s l f n then z_GR s l (z_AN s l f n - 10) f n g else z_RF s l (z_AN s l f n)
theorem z_AN_13 (s : z_row) (l f n : Nat) : 1 ≤ z_AN s l f n ∧ (z_AN s l f n ≤ 4 ∨ 10 ≤ z_AN s l f n) := by
  unfold z_AN; (repeat' split) <;> omega
theorem z_AN_g {s : z_row} {l f n g : Nat} (hg : s 108 = z_I g) (hg12 : g < 12) (hf : f < 12) (h : 10 ≤ z_AN s l f n) : g ≤ f := by
  unfold z_AN at h
  by_cases c : z_I f < s 108
  · rw [if_pos c] at h; omega
  · rw [hg, z_I_lt (by omega) (by omega)] at c; omega
theorem z_c_takeAsking {x : xS} {s : z_row} (A : z_Ag x s) (O : z_OKs s) {l f n g : Nat} (hl : l < 10) (z_hn : 1 ≤ n) (hh : f + n ≤ 12) (hg : s 108 = z_I g) (hg12 : g < 12) : z_EnI (fX3_takeAsking 1 (z_I l) (z_I f) (z_I n) x) x (z_I (z_AN s l f n)) (z_TA s l f n g) 0 (if 10 ≤ z_AN s l f n then 0 else 1) := by
  unfold fX3_takeAsking fX3_takeAsking_b0 fX3_takeAsking_b38 z_TA
  have h1 := z_AN_lt s l f n
  have h2 := z_AN_13 s l f n
  rw [z_c_answerTo A O hl hh, z_ob]
  by_cases h : 10 ≤ z_AN s l f n
  · rw [if_pos (by rw [z_L10, z_I_le (by omega) (by omega)]; exact h), if_pos h, if_pos h, z_L10, z_I_sub h]
    exact z_EnI_b0 (z_c_grant A O hl (by omega) z_hn hh hg (z_AN_g hg hg12 (by omega) h)) (fun y B _ => z_EnI_id B _)
  · rw [if_neg (by rw [z_L10, z_I_le (by omega) (by omega)]; exact h), if_neg h, if_neg h]
    exact z_EnI_b (z_c_refuse A hl (by omega) (by omega)) (fun y B _ => z_EnI_id B _)
def z_FI (s : z_row) : z_row := fun k => if 60 ≤ k ∧ k < 108 then -1 else s k
theorem z_fill_gen (i : Nat) (v : Int32) (hl : ln i ≤ 1000) (x : xS) : fJ7_fill_53178 i v x = some (upR x i (fun k => if k < ln i then v else x.1 i k)) := by
  unfold fJ7_fill_53178 fJ7_fill_53178_b0
  rw [z_lt_]
  have q : ∀ d n j, j + d = ln i → d < n → fJ7_fill_53178_b5 i v n (z_I j) (Int32.ofNat (ln i)) (upR x i (fun k => if k < j then v else x.1 i k)) = some (upR x i (fun k => if k < ln i then v else x.1 i k)) := by
    intro d
    induction d with
    | zero =>
      intro n j hj z_hn
      obtain ⟨n, rfl⟩ : ∃ k, n = k + 1 := ⟨n - 1, by omega⟩
      rw [fJ7_fill_53178_b5, if_pos (by show z_I (ln i) ≤ z_I j; rw [z_I_le (by omega) (by omega)]; omega)]
      rw [show j = ln i by omega]
    | succ d ih =>
      intro n j hj z_hn
      obtain ⟨n, rfl⟩ : ∃ k, n = k + 1 := ⟨n - 1, by omega⟩
      rw [fJ7_fill_53178_b5, if_neg (by show ¬ z_I (ln i) ≤ z_I j; rw [z_I_le (by omega) (by omega)]; omega), z_gd (by omega) (by omega), z_lt_, z_I_nat (by omega), z_I_s, ← ih n (j + 1) (by omega) (by omega)]
      congr 1
      unfold up1 upR upd
      simp only [if_true, Prod.mk.injEq, and_true]
      funext a
      by_cases e : a = i
      · simp only [e, if_true]
        funext k
        by_cases e2 : k = j
        · rw [if_pos e2, if_pos (by omega)]
        · rw [if_neg e2]
          by_cases e3 : k < j
          · rw [if_pos e3, if_pos (by omega)]
          · rw [if_neg e3, if_neg (by omega)]
      · simp only [e, if_false]
  have e0 : upR x i (fun k => if k < 0 then v else x.1 i k) = x := by
    unfold upR
    simp only [Nat.not_lt_zero, if_false]
    have : (fun j => if j = i then fun k => x.1 i k else x.1 j) = x.1 := by
      funext j; by_cases e : j = i
      · subst e; rw [if_pos rfl]
      · rw [if_neg e]
    rw [this]
  have := q (ln i) FU 0 (by omega) (by show ln i < 2000; omega)
  rw [e0] at this
  exact this
theorem z_upR_at (x : xS) (i : Nat) (f : Nat → Int32) (j m : Nat) : (upR x i f).1 j m = if j = i then f m else x.1 j m := by
  unfold upR; dsimp only; split <;> rfl
theorem z_pr_4 {k : Nat} : z_pr k = 4 ↔ (60 ≤ k ∧ k < 108) := by unfold z_pr; (repeat' split) <;> omega
theorem z_c_fill {x : xS} {s : z_row} (A : z_Ag x s) : z_En (fX2_fill 3 (-1) x) x (z_FI s) 0 0 := by
  unfold fX2_fill fX2_fill_b0
  rw [z_fill_gen 4 (-1) (by decide) x, z_ob]
  refine ⟨_, rfl, ?_, rfl, fun i h1 h2 h3 h4 h5 => if_neg h2, ?_, ?_⟩
  · intro k hk
    rw [z_upR_at]
    unfold z_FI
    by_cases h : 60 ≤ k ∧ k < 108
    · have : z_pq k = k - 60 := by unfold z_pq; rw [if_neg (by omega), if_pos (by omega)]
      rw [if_pos (z_pr_4.mpr h), if_pos h, if_pos (by rw [this]; show k - 60 < 48; omega)]
    · rw [if_neg (fun e => h (z_pr_4.mp e)), if_neg h]; exact A k hk
  · rw [z_upR_at, if_neg (by omega), Int32.add_zero]
  · rw [z_upR_at, if_neg (by omega), Int32.add_zero]
def z_SL (s : z_row) (g j d : Nat) : z_row := fun k => if (j ≤ k / 6 ∧ k / 6 < j + d) ∧ k % 6 = 3 then s k + z_I (z_HB s (z_I (k / 6)) g 1) else s k
theorem z_SL_0 (s : z_row) (g j : Nat) : z_SL s g j 0 = s := by funext k; unfold z_SL; rw [if_neg (by omega)]
theorem z_SL_s (s : z_row) (g j d : Nat) (hg : g < 12) (hj : j < 10) : z_SL (upd s (6 * j + 3) (s (6 * j + 3) + z_I (z_HB s (z_I j) g 1))) g (j + 1) d = z_SL s g j (d + 1) := by
  funext k
  unfold z_SL
  have hH : ∀ v, z_HB (upd s (6 * j + 3) (s (6 * j + 3) + z_I (z_HB s (z_I j) g 1))) v g 1 = z_HB s v g 1 := fun v => z_HB_c (z_EqH_upd (by omega) _) v (by omega)
  by_cases e : k = 6 * j + 3
  · subst e
    rw [if_neg (by omega), if_pos (by omega)]
    rw [show (6 * j + 3) / 6 = j by omega]
    exact if_pos rfl
  · rw [show upd s (6 * j + 3) (s (6 * j + 3) + z_I (z_HB s (z_I j) g 1)) k = s k from if_neg e]
    by_cases c : (j + 1 ≤ k / 6 ∧ k / 6 < j + 1 + d) ∧ k % 6 = 3
    · rw [if_pos c, if_pos (show (j ≤ k / 6 ∧ k / 6 < j + (d + 1)) ∧ k % 6 = 3 by omega), hH]
    · rw [if_neg c, if_neg (by omega)]
def z_PS (s : z_row) (g : Nat) : z_row := if g + 1 < 12 then upd (z_SL s g 0 10) 108 (z_I (g + 1)) else
  upd (upd (z_FI (upd (z_SL s g 0 10) 108 (z_I (g + 1)))) 108 0) 109 (upd (z_FI (upd (z_SL s g 0 10) 108 (z_I (g + 1)))) 108 0 109 + 1)
theorem z_pG {x : xS} {s : z_row} (A : z_Ag x s) (v : Int32) : z_En (some (up1 x 2 1 v)) x (upd s 108 v) 0 0 := z_En_up A (k := 108) (by omega) rfl rfl rfl
theorem z_En_lt {a : xS} {f : xS → Option xS} {x : xS} {s t : z_row} {c d : Int32} (h : z_En (some a) x s 0 0) (k : ∀ y, z_Ag y s → z_J x y 0 0 → z_En (f y) y t c d) : z_En (lt1 a f) x t c d := z_En_b0 (f := some a) h k
theorem z_c_advance {x : xS} {s : z_row} (A : z_Ag x s) {g : Nat} (hg : s 108 = z_I g) (hg12 : g < 12) : z_En (fX4_advance 2 x) x (if g + 1 < 12 then upd s 108 (z_I (g + 1)) else upd (z_FI (upd s 108 (z_I (g + 1)))) 108 0) 0 0 := by
  unfold fX4_advance fX4_advance_b0
  rw [z_Ag_g A, hg, z_I_s]
  refine z_En_lt (z_pG A _) (fun y B _ => ?_)
  rw [z_Ag_g B, show upd s 108 (z_I (g + 1)) 108 = z_I (g + 1) from if_pos rfl]
  by_cases h : g + 1 < 12
  · rw [if_pos (by rw [z_L12, z_I_lt (by omega) (by omega)]; exact h), if_pos h]; exact z_En_id B
  · rw [if_neg (by rw [z_L12, z_I_lt (by omega) (by omega)]; exact h), if_neg h]
    exact z_En_b0 (z_c_fill B) (fun z C _ => z_En_lt (z_pG C 0) (fun z C _ => z_En_id C))
theorem z_c_letHourGo {x : xS} {s : z_row} (A : z_Ag x s) {g : Nat} (hg : s 108 = z_I g) (hg12 : g < 12) : z_EnI (fX3_letHourGo 1 x) x (z_I (z_LB s g)) (z_PS s g) (z_I (z_LB s g)) 0 := by
  unfold fX3_letHourGo fX3_letHourGo_b0
  rw [show fX4_goneHours (1 + 1) x = some (x.1 2 1) from rfl, z_ob, z_Ag_g A, hg, z_c_lentBeds A hg12, z_ob]
  have q : ∀ d k j x s, z_Ag x s → s 108 = z_I g → j + d = 10 → d < k → z_EnI (fX3_letHourGo_b19 1 k (z_I g) (z_I (z_LB s g)) (z_I j) x) x (z_I (z_LB s g)) (let s1 := z_SL s g j d; if g + 1 < 12 then upd s1 108 (z_I (g + 1)) else upd (upd (z_FI (upd s1 108 (z_I (g + 1)))) 108 0) 109 (upd (z_FI (upd s1 108 (z_I (g + 1)))) 108 0 109 + 1)) (z_I (z_LB s g)) 0 := by
    intro d
    induction d with
    | zero =>
      intro k j x s A hg hj hk
      obtain ⟨k, rfl⟩ : ∃ m, k = m + 1 := ⟨k - 1, by omega⟩
      rw [fX3_letHourGo_b19, if_pos (by rw [z_L10, z_I_le (by omega) (by omega)]; omega), z_SL_0]
      unfold fX3_letHourGo_b87
      dsimp only
      refine z_EnI_b (z_rA3 A _) (fun y B _ => ?_)
      refine z_EnI_b0 (z_c_advance B hg hg12) (fun z C _ => ?_)
      rw [show fX4_goneHours (1 + 1) z = some (z.1 2 1) from rfl, z_ob, z_Ag_g C]
      by_cases h : g + 1 < 12
      · rw [if_pos h] at C
        rw [if_pos h, if_pos h, show upd s 108 (z_I (g + 1)) 108 = z_I (g + 1) from if_pos rfl, if_neg (by rw [z_L0, z_I_eq (by omega) (by omega)]; omega)]
        exact z_EnI_id C _
      · rw [if_neg h] at C
        rw [if_neg h, if_neg h, show upd (z_FI (upd s 108 (z_I (g + 1)))) 108 0 108 = 0 from if_pos rfl, if_pos rfl]
        exact z_EnI_b0 (z_rAc (k := 1) C (by decide) 1) (fun z D _ => z_EnI_id D _)
    | succ d ih =>
      intro k j x s A hg hj hk
      obtain ⟨k, rfl⟩ : ∃ m, k = m + 1 := ⟨k - 1, by omega⟩
      rw [fX3_letHourGo_b19, if_neg (by rw [z_L10, z_I_le (by omega) (by omega)]; omega), z_L1, z_c_hoursWithBed A (by omega), z_ob, ← z_L1, z_I_s]
      refine z_EnI_b0 (z_rL (w := 3) A (by omega) (by omega) _) (fun y B _ => ?_)
      have := ih k (j + 1) y _ B (by rw [← hg]; exact if_neg (by omega)) (by omega) (by omega)
      rw [z_SL_s s g j d hg12 (by omega), z_LB_c (z_EqH_upd (by omega) _) hg12] at this
      exact this
  exact q 10 FU 0 x s A hg rfl (by decide)

def z_TBa (s : z_row) (l h : Nat) : Int32 := if z_BO s (z_I l) h = 4 ∨ z_I h < s 108 then -1 else z_I (z_PE s (z_BO s (z_I l) h) h - h)
def z_TBr (s : z_row) (l h : Nat) : z_row := if z_BO s (z_I l) h = 4 ∨ z_I h < s 108 then upd s 118 (s 118 + 1) else z_LE s (z_BO s (z_I l) h) h (z_PE s (z_BO s (z_I l) h) h - h) (-1)
theorem z_c_takeBack {x : xS} {s : z_row} (A : z_Ag x s) {l h : Nat} (hl : l < 10) (hh : h < 12) : z_EnI (fX3_takeBack 1 (z_I l) (z_I h) x) x (z_TBa s l h) (z_TBr s l h) 0 0 := by
  unfold fX3_takeBack fX3_takeBack_b0 fX3_takeBack_b26 z_TBa z_TBr
  have hB := z_BO_le s (z_I l) h
  rw [z_c_bedOf A hh, z_ob]
  by_cases e : z_BO s (z_I l) h = 4
  · rw [if_pos e, if_pos rfl, if_pos (Or.inl e), if_pos (Or.inl e)]
    exact z_EnI_b0 (z_rAc (k := 10) A (by decide) 1) (fun y B _ => z_EnI_id B _)
  · rw [if_neg e, if_neg (by rw [z_I_n1 (by omega)]; exact id), z_c_wentBy A, z_ob]
    by_cases w : z_I h < s 108
    · rw [if_pos w, if_neg (by decide), if_pos (Or.inr w), if_pos (Or.inr w)]
      exact z_EnI_b0 (z_rAc (k := 10) A (by decide) 1) (fun y B _ => z_EnI_id B _)
    · have z_hn : ¬ (z_BO s (z_I l) h = 4 ∨ z_I h < s 108) := fun o => o.elim e w
      have hp := z_PE_le s (z_BO s (z_I l) h) h hh
      rw [if_neg w, if_pos rfl, if_neg z_hn, if_neg z_hn]
      unfold fX4_freePieceFrom fX4_freePieceFrom_b0
      rw [z_c_pieceEnd A (by omega) hh, z_ob, z_I_sub (by omega), z_lt_]
      obtain ⟨y, e1, B, j⟩ := z_c_lend A (b := z_BO s (z_I l) h) (f := h) (n := z_PE s (z_BO s (z_I l) h) h - h) (v := -1) (by omega) (by omega)
      rw [e1]
      exact ⟨y, rfl, B, j⟩
theorem z_c_giveFavour {x : xS} {s : z_row} (A : z_Ag x s) {l : Nat} (hl : l < 10) : z_EnI (fX3_giveFavour 1 (z_I l) x) x (if s (6 * l + 2) < 3 then s (6 * l + 2) + 1 else -1) (if s (6 * l + 2) < 3 then upd s (6 * l + 2) (s (6 * l + 2) + 1) else upd s 118 (s 118 + 1)) 0 0 := by
  unfold fX3_giveFavour fX3_giveFavour_b0
  rw [z_gL2 A hl, z_ob]
  by_cases e : s (6 * l + 2) < 3
  · rw [if_pos e, if_pos e, if_pos e]
    refine z_EnI_b0 (z_rL (w := 2) A hl (by omega) 1) (fun y B _ => ?_)
    rw [z_gL2 B hl, z_ob, show upd s (6 * l + 2) (s (6 * l + 2) + 1) (6 * l + 2) = s (6 * l + 2) + 1 from if_pos rfl]
    exact z_EnI_id B _
  · rw [if_neg e, if_neg e, if_neg e]
    exact z_EnI_b0 (z_rAc (k := 10) A (by decide) 1) (fun y B _ => z_EnI_id B _)
theorem z_c_changeNeed {x : xS} {s : z_row} (A : z_Ag x s) {l : Nat} (hl : l < 10) (v : Int32) : z_EnI (fX3_changeNeed 1 (z_I l) v x) x (s (6 * l)) (upd s (6 * l) v) 0 0 := by
  unfold fX3_changeNeed fX3_changeNeed_b0
  rw [z_gL0 A hl, z_ob]
  exact z_EnI_b0 (z_pL (w := 0) A hl (by omega) v) (fun y B _ => z_EnI_id B _)
theorem z_c_changeSetting {x : xS} {s : z_row} (A : z_Ag x s) (v : Int32) : z_EnI (fX3_changeSetting 1 v x) x (s 119) (upd s 119 v) 0 0 := by
  unfold fX3_changeSetting fX3_changeSetting_b0
  rw [show fX2_get (1 + 6) 0 9 x = some (s 119) from z_gAc (k := 9) A (by decide), z_ob]
  exact z_EnI_b0 (z_pAc (k := 9) A (by decide) v) (fun y B _ => z_EnI_id B _)
theorem z_c_canLet {x : xS} {s : z_row} (A : z_Ag x s) : fX3_canLetHourGo 1 x = some (if s 109 < 999 then 1 else 0) := by
  unfold fX3_canLetHourGo fX3_canLetHourGo_b0
  rw [show fX2_get (1 + 6) 0 1 x = some (s 109) from z_gAc (k := 1) A (by decide), z_ob]
  by_cases h : s 109 < 999
  · rw [if_pos h, if_neg (Int32.not_le.mpr h)]
  · rw [if_neg h, if_pos (Int32.not_lt.mp h)]
def z_S3 (s : z_row) : Int32 := s 3 + s 9 + s 15 + s 21 + s 27 + s 33 + s 39 + s 45 + s 51 + s 57
def z_S5 (s : z_row) : Int32 := s 111 + s 112 + s 113 + s 114
def z_House (b : Nat) (x : xS) (s : z_row) : Prop := (∀ k, k < 120 → x.1 (b - 1 + z_pr k) (z_pq k) = s k) ∧ x.1 (b + 7) 3 = z_S3 s ∧ x.1 (b + 7) 5 = z_S5 s
def z_bases : List Nat := [1, 14, 24, 37, 47, 57, 67, 77, 87]
def z_FrB (b : Nat) (x x' : xS) : Prop := x'.2 = x.2 ∧ ∀ i, ¬ (b ≤ i ∧ i < b + 10) → x'.1 i = x.1 i
theorem z_pr_in {k : Nat} (hk : k < 120) : 2 ≤ z_pr k ∧ z_pr k ≤ 10 := by have := z_pr_m hk; omega
theorem z_House_fr {b : Nat} {x x' : xS} {s : z_row} (hb : 1 ≤ b) (h : ∀ i, b ≤ i → i < b + 10 → x'.1 i = x.1 i) (H : z_House b x s) : z_House b x' s := by
  refine ⟨fun k hk => ?_, ?_, ?_⟩
  · have := z_pr_in hk; rw [h _ (by omega) (by omega)]; exact H.1 k hk
  · rw [h _ (by omega) (by omega)]; exact H.2.1
  · rw [h _ (by omega) (by omega)]; exact H.2.2
theorem z_House_1 {x : xS} {s : z_row} (H : z_House 1 x s) : z_Ag x s := fun k hk => by have := H.1 k hk; simpa using this
theorem z_House_of {x : xS} {s : z_row} (A : z_Ag x s) (h3 : x.1 8 3 = z_S3 s) (h5 : x.1 8 5 = z_S5 s) : z_House 1 x s := ⟨fun k hk => by have := A k hk; simpa using this, h3, h5⟩
theorem z_gcopy {g k N : Nat} {x : xS} (h1 : ln (g + 1) = N) (h2 : ln (k + 1) = N) (hN : N ≤ 1000) : fX2_copyFrom g k x = some (upR x (g + 1) (va_cpy (x.1 (k + 1)) (x.1 (g + 1)) 0 0 N)) := by
  unfold fX2_copyFrom fX2_copyFrom_b0
  rw [h1, h2, if_pos rfl]
  have e0 : (0 : Int32).toNatClampNeg = 0 := rfl
  have e1 : (Int32.ofNat N).toNatClampNeg = N := z_I_nat (by omega)
  rw [e0, e1, if_neg, z_lt_]
  intro h
  rcases h with h | h | h | h | h
  · exact absurd h (by decide)
  · exact absurd h (by decide)
  · exact absurd h (by rw [show Int32.ofNat N = z_I N from rfl, z_I_nn (by omega)]; exact id)
  · omega
  · omega
theorem z_baseL : ∀ b, b ∈ z_bases → 1 ≤ b ∧ ln (b + 1 + 1 + 1) = 48 ∧ ln (b + 4 + 1) = 70 ∧ ln (b + 6 + 1) = 12 ∧ ln (b + 8 + 1) = 5 := by decide
theorem z_baseD : ∀ b, b ∈ z_bases → ∀ c, c ∈ z_bases → b ≠ c → b + 10 ≤ c ∨ c + 10 ≤ b := by decide
theorem z_cpy_at (f g : Nat → Int32) (N k : Nat) : va_cpy f g 0 0 N k = if k < N then f k else g k := by
  unfold va_cpy
  by_cases h : k < N
  · rw [if_pos (by omega), if_pos h]; congr 1; omega
  · rw [if_neg (by omega), if_neg h]
theorem z_prq : ∀ k, k < 120 → (z_pr k = 2 → z_pq k = 1) ∧ (z_pr k = 4 → z_pq k < 48) ∧ (z_pr k = 6 → z_pq k < 70) ∧ (z_pr k = 8 → z_pq k < 12) ∧ (z_pr k = 10 → z_pq k < 5) := by decide +kernel
theorem z_gcopyE {g k N : Nat} {x : xS} (h1 : ln (g + 1) = N) (h2 : ln (k + 1) = N) (hN : N ≤ 1000) : ∃ x', fX2_copyFrom g k x = some x' ∧ x'.2 = x.2 ∧ (∀ q, q < N → x'.1 (g + 1) q = x.1 (k + 1) q) ∧ (∀ i, i ≠ g + 1 → x'.1 i = x.1 i) := by
  refine ⟨_, z_gcopy h1 h2 hN, rfl, fun q hq => ?_, fun i hi => if_neg hi⟩
  rw [z_upR_at, if_pos rfl, z_cpy_at, if_pos hq]
theorem z_c_copyHouse {a b : Nat} (ha : a ∈ z_bases) (hb : b ∈ z_bases) (hab : a ≠ b) {x : xS} {s : z_row} (H : z_House b x s) : ∃ x', fX3_copyFrom a b x = some x' ∧ z_House a x' s ∧ z_FrB a x x' := by
  obtain ⟨a1, a2, a3, a4, a5⟩ := z_baseL a ha
  obtain ⟨b1, b2, b3, b4, b5⟩ := z_baseL b hb
  have hd := z_baseD a ha b hb hab
  unfold fX3_copyFrom fX3_copyFrom_b0 fX4_copyFrom fX4_copyFrom_b0
  obtain ⟨y1, e1, p1, q1, f1⟩ := z_gcopyE (x := x) a2 b2 (by omega)
  rw [e1, z_ob, z_lt_, z_ob]
  obtain ⟨y2, hy2⟩ : ∃ y2, y2 = up1 y1 (a + 1) 1 (y1.1 (b + 1) 1) := ⟨_, rfl⟩
  have u : y2.1 (a + 1) 1 = y1.1 (b + 1) 1 := by rw [hy2, z_up1_at, if_pos ⟨rfl, rfl⟩]
  have u' : ∀ i, i ≠ a + 1 → y2.1 i = y1.1 i := fun i hi => by rw [hy2]; exact z_up1_o y1 1 _ hi
  have u2 : y2.2 = y1.2 := by rw [hy2]; rfl
  rw [← hy2]
  obtain ⟨y3, e3, p3, q3, f3⟩ := z_gcopyE (x := y2) a3 b3 (by omega)
  rw [e3, z_ob]
  obtain ⟨y4, e4, p4, q4, f4⟩ := z_gcopyE (x := y3) a4 b4 (by omega)
  rw [e4, z_ob]
  obtain ⟨y5, e5, p5, q5, f5⟩ := z_gcopyE (x := y4) a5 b5 (by omega)
  rw [e5, z_ob]
  have g1 : y5.1 (a + 1) 1 = x.1 (b + 1) 1 := by rw [f5 _ (by omega), f4 _ (by omega), f3 _ (by omega), u, f1 _ (by omega)]
  have g3 : ∀ q, q < 48 → y5.1 (a + 3) q = x.1 (b + 3) q := fun q hq => by rw [f5 _ (by omega), f4 _ (by omega), f3 _ (by omega), u' _ (by omega)]; exact q1 q hq
  have g5 : ∀ q, q < 70 → y5.1 (a + 5) q = x.1 (b + 5) q := fun q hq => by
    rw [f5 _ (by omega), f4 _ (by omega)]
    have := q3 q hq
    rw [show y2.1 (b + 4 + 1) = x.1 (b + 5) by rw [u' _ (by omega), f1 _ (by omega)]] at this
    exact this
  have g7 : ∀ q, q < 12 → y5.1 (a + 7) q = x.1 (b + 7) q := fun q hq => by
    rw [f5 _ (by omega)]
    have := q4 q hq
    rw [show y3.1 (b + 6 + 1) = x.1 (b + 7) by rw [f3 _ (by omega), u' _ (by omega), f1 _ (by omega)]] at this
    exact this
  have g9 : ∀ q, q < 5 → y5.1 (a + 9) q = x.1 (b + 9) q := fun q hq => by
    have := q5 q hq
    rw [show y4.1 (b + 8 + 1) = x.1 (b + 9) by rw [f4 _ (by omega), f3 _ (by omega), u' _ (by omega), f1 _ (by omega)]] at this
    exact this
  refine ⟨y5, rfl, ⟨fun k hk => ?_, ?_, ?_⟩, by rw [p5, p4, p3, u2, p1], fun i hi => by rw [f5 _ (by omega), f4 _ (by omega), f3 _ (by omega), u' _ (by omega), f1 _ (by omega)]⟩
  · have hq := H.1 k hk
    rcases z_pr_m hk with e | e | e | e | e
    · have eq : z_pq k = 1 := (z_prq k hk).1 e
      rw [e, eq] at hq ⊢
      rw [show a - 1 + 2 = a + 1 by omega, g1, ← hq, show b - 1 + 2 = b + 1 by omega]
    · have eq : z_pq k < 48 := (z_prq k hk).2.1 e
      rw [e] at hq ⊢
      rw [show a - 1 + 4 = a + 3 by omega, g3 _ eq, ← hq, show b - 1 + 4 = b + 3 by omega]
    · have eq : z_pq k < 70 := (z_prq k hk).2.2.1 e
      rw [e] at hq ⊢
      rw [show a - 1 + 6 = a + 5 by omega, g5 _ eq, ← hq, show b - 1 + 6 = b + 5 by omega]
    · have eq : z_pq k < 12 := (z_prq k hk).2.2.2.1 e
      rw [e] at hq ⊢
      rw [show a - 1 + 8 = a + 7 by omega, g7 _ eq, ← hq, show b - 1 + 8 = b + 7 by omega]
    · have eq : z_pq k < 5 := (z_prq k hk).2.2.2.2 e
      rw [e] at hq ⊢
      rw [show a - 1 + 10 = a + 9 by omega, g9 _ eq, ← hq, show b - 1 + 10 = b + 9 by omega]
  · rw [g7 3 (by omega)]; exact H.2.1
  · rw [g7 5 (by omega)]; exact H.2.2

def z_RS (x : xS) (m : Nat) (sv : Nat → z_row) : Prop := ∃ nx, nx < 6 ∧ x.1 0 6 = z_I nx ∧ x.1 0 5 = z_I m ∧ m ≤ 6 ∧ ∀ k, k < m → z_House (37 + 10 * ((nx + 6 - m + k) % 6)) x (sv k)
def z_RK (x : xS) (kp : Nat → Bool) (sl : Nat → z_row) : Prop := ∀ j, j < 2 → x.1 13 j = (if kp j = true then 1 else 0) ∧ (kp j = true → z_House (14 + 10 * j) x (sl j))
def z_RT (x : xS) (len : Nat) (tx : Nat → Int32) : Prop := len ≤ 60 ∧ x.1 99 1 = z_I len ∧ ∀ k, k < len → x.1 100 k = tx k
def z_FrC (x x' : xS) : Prop := x'.2 = x.2 ∧ ∀ i, 101 ≤ i → x'.1 i = x.1 i
theorem z_FrC_trans {x y z : xS} (h : z_FrC x y) (k : z_FrC y z) : z_FrC x z := ⟨k.1.trans h.1, fun i hi => (k.2 i hi).trans (h.2 i hi)⟩
def z_RelC (x : xS) (s : z_row) (m : Nat) (sv : Nat → z_row) (kp : Nat → Bool) (sl : Nat → z_row) (len : Nat) (tx : Nat → Int32) : Prop := z_House 1 x s ∧ z_RS x m sv ∧ z_RK x kp sl ∧ z_RT x len tx
theorem z_RS_fr {x x' : xS} {m : Nat} {sv : Nat → z_row} (h : ∀ i, i = 0 ∨ (37 ≤ i ∧ i < 97) → x'.1 i = x.1 i) (R : z_RS x m sv) : z_RS x' m sv := by
  obtain ⟨nx, h1, h2, h3, h4, h5⟩ := R
  refine ⟨nx, h1, by rw [h 0 (Or.inl rfl)]; exact h2, by rw [h 0 (Or.inl rfl)]; exact h3, h4, fun k hk => z_House_fr (by omega) (fun i a b => h i (Or.inr ⟨by omega, by omega⟩)) (h5 k hk)⟩
theorem z_RK_fr {x x' : xS} {kp : Nat → Bool} {sl : Nat → z_row} (h : ∀ i, 13 ≤ i ∧ i < 34 → x'.1 i = x.1 i) (R : z_RK x kp sl) : z_RK x' kp sl := by
  intro j hj
  obtain ⟨h1, h2⟩ := R j hj
  exact ⟨by rw [h 13 ⟨by omega, by omega⟩]; exact h1, fun e => z_House_fr (by omega) (fun i a b => h i ⟨by omega, by omega⟩) (h2 e)⟩
theorem z_RT_fr {x x' : xS} {len : Nat} {tx : Nat → Int32} (h : ∀ i, i = 99 ∨ i = 100 → x'.1 i = x.1 i) (R : z_RT x len tx) : z_RT x' len tx := ⟨R.1, by rw [h 99 (Or.inl rfl)]; exact R.2.1, fun k hk => by rw [h 100 (Or.inr rfl)]; exact R.2.2 k hk⟩
theorem z_J_FrC {x x' : xS} {a b : Int32} (j : z_J x x' a b) : z_FrC x x' := ⟨j.1, fun i hi => j.2.1 i (by omega) (by omega) (by omega) (by omega) (by omega)⟩
theorem z_RelC_J {x x' : xS} {s s' : z_row} {m : Nat} {sv : Nat → z_row} {kp : Nat → Bool} {sl : Nat → z_row} {len : Nat} {tx : Nat → Int32} {a b : Int32} (R : z_RelC x s m sv kp sl len tx) (A : z_Ag x' s') (j : z_J x x' a b) (h3 : z_S3 s' = z_S3 s + a) (h5 : z_S5 s' = z_S5 s + b) : z_RelC x' s' m sv kp sl len tx := by
  refine ⟨z_House_of A ?_ ?_, z_RS_fr (fun i hi => j.2.1 i (by omega) (by omega) (by omega) (by omega) (by omega)) R.2.1, z_RK_fr (fun i hi => j.2.1 i (by omega) (by omega) (by omega) (by omega) (by omega)) R.2.2.1, z_RT_fr (fun i hi => j.2.1 i (by omega) (by omega) (by omega) (by omega) (by omega)) R.2.2.2⟩
  · rw [j.2.2.1, h3, ← R.1.2.1]
  · rw [j.2.2.2, h5, ← R.1.2.2]
def z_nM (m : Nat) : Nat := if m = 6 then 6 else m + 1
def z_nV (m : Nat) (sv : Nat → z_row) (s : z_row) : Nat → z_row := fun k => if m = 6 then (if k < 5 then sv (k + 1) else s) else (if k < m then sv k else s)
theorem z_slotBase {k : Nat} (hk : k < 6) : 37 + 10 * k ∈ z_bases := by
  have : ∀ k, k < 6 → 37 + 10 * k ∈ z_bases := by decide
  exact this k hk
theorem z_houseIn_y {i0 k : Nat} (x : xS) (h : k < ln (i0 + 1)) (hl : ln (i0 + 1) ≤ 1000) : fX5_houseIn i0 (z_I k) x = some (some (i0 + 1 + 2 + 10 * k)) := by
  unfold fX5_houseIn fX5_houseIn_b0
  rw [if_neg (by rw [z_I_nn (by omega)]; exact id), if_neg (by rw [show Int32.ofNat (ln (i0 + 1)) = z_I (ln (i0 + 1)) from rfl, z_I_le (by omega) (by omega)]; omega), z_gd h (by omega), z_I_nat (by omega)]
theorem z_c_store {i0 k : Nat} {x : xS} {s : z_row} (h : k < ln (i0 + 1)) (hl : ln (i0 + 1) ≤ 1000) (h2 : ln (i0 + 2) = ln (i0 + 1)) (hb : i0 + 1 + 2 + 10 * k ∈ z_bases) (hb1 : i0 + 1 + 2 + 10 * k ≠ 1) (H : z_House 1 x s) (hd : ¬ (i0 + 1 + 2 + 10 * k ≤ i0 + 2)) : ∃ x', fX5_store i0 (z_I k) 1 x = some (up1 x' (i0 + 2) k 1) ∧ z_House (i0 + 1 + 2 + 10 * k) x' s ∧ z_FrB (i0 + 1 + 2 + 10 * k) x x' := by
  unfold fX5_store fX5_store_b0
  obtain ⟨x', e, H', F⟩ := z_c_copyHouse hb (show 1 ∈ z_bases by decide) hb1 H
  rw [z_houseIn_y x h hl, z_ob]
  dsimp only
  rw [if_neg (by rw [z_I_nn (by omega)]; exact id), h2, if_neg (by rw [show Int32.ofNat (ln (i0 + 1)) = z_I (ln (i0 + 1)) from rfl, z_I_le (by omega) (by omega)]; omega), e, z_ob, z_gd h (by omega), z_lt_, z_I_nat (by omega)]
  exact ⟨x', rfl, H', F⟩
theorem z_c_saveState {x : xS} {s : z_row} {m : Nat} {sv : Nat → z_row} {kp : Nat → Bool} {sl : Nat → z_row} {len : Nat} {tx : Nat → Int32} (R : z_RelC x s m sv kp sl len tx) : ∃ x', fX6_saveState 0 x = some x' ∧ z_RelC x' s (z_nM m) (z_nV m sv s) kp sl len tx ∧ z_FrC x x' := by
  obtain ⟨H, ⟨nx, h1, h2, h3, h4, h5⟩, K, T⟩ := R
  unfold fX6_saveState fX6_saveState_b0
  obtain ⟨y, e, Hy, F⟩ := z_c_store (i0 := 0 + 34) (k := nx) (show nx < 6 from h1) (by decide) rfl (z_slotBase h1) (by omega) H (by omega)
  rw [h2, show (0 + 1 : Nat) = 1 from rfl, e, z_ob]
  have f36 : ∀ i, i ≠ 36 → (up1 y 36 nx 1).1 i = y.1 i := fun i hi => z_up1_o y nx 1 hi
  have e6 : (up1 y 36 nx 1).1 0 6 = z_I nx := by rw [f36 0 (by omega), F.2 0 (by omega)]; exact h2
  have e5 : (up1 y 36 nx 1).1 0 5 = z_I m := by rw [f36 0 (by omega), F.2 0 (by omega)]; exact h3
  show ∃ x', (if (6 : Int32) ≤ ((up1 y 36 nx 1).1 0 6 + 1) then fX6_saveState_b37 0 0 (up1 y 36 nx 1) else fX6_saveState_b37 0 ((up1 y 36 nx 1).1 0 6 + 1) (up1 y 36 nx 1)) = some x' ∧ z_RelC x' s (z_nM m) (z_nV m sv s) kp sl len tx ∧ z_FrC x x'
  rw [e6, z_I_s]
  obtain ⟨n2, hn2, hb⟩ : ∃ n2, n2 = (nx + 1) % 6 ∧ (if (6 : Int32) ≤ z_I (nx + 1) then fX6_saveState_b37 0 0 (up1 y 36 nx 1) else fX6_saveState_b37 0 (z_I (nx + 1)) (up1 y 36 nx 1)) = fX6_saveState_b37 0 (z_I n2) (up1 y 36 nx 1) := by
    by_cases c : 6 ≤ nx + 1
    · exact ⟨0, by omega, by rw [if_pos (by rw [z_L6, z_I_le (by omega) (by omega)]; exact c)]; rfl⟩
    · exact ⟨nx + 1, by omega, by rw [if_neg (by rw [z_L6, z_I_le (by omega) (by omega)]; exact c)]⟩
  rw [hb]
  unfold fX6_saveState_b37
  have e5' : (up1 (up1 y 36 nx 1) 0 6 (z_I n2)).1 0 5 = z_I m := by rw [z_up1_at, if_neg (by omega), e5]
  have y22 : (up1 y 36 nx 1).2 = y.2 := rfl
  rw [z_lt_, e5', z_I_s]
  clear hb
  generalize up1 y 36 nx 1 = y2 at *
  have fin : ∀ z, (∀ i, i ≠ 0 → z.1 i = y2.1 i) → z.2 = y2.2 → z.1 0 6 = z_I n2 → z.1 0 5 = z_I (z_nM m) → z_RelC z s (z_nM m) (z_nV m sv s) kp sl len tx ∧ z_FrC x z := by
    intro z hz hz2 z6 z5
    have hzi : ∀ i, i ≠ 0 → i ≠ 36 → ¬ (37 + 10 * nx ≤ i ∧ i < 37 + 10 * nx + 10) → z.1 i = x.1 i := fun i a b c => by rw [hz i a, f36 i b]; exact F.2 i (by omega)
    refine ⟨⟨z_House_fr (by omega) (fun i a b => hzi i (by omega) (by omega) (by omega)) H, ⟨n2, by omega, z6, z5, by unfold z_nM; split <;> omega, fun k hk => ?_⟩, z_RK_fr (fun i hi => hzi i (by omega) (by omega) (by omega)) K, z_RT_fr (fun i hi => hzi i (by omega) (by omega) (by omega)) T⟩, by rw [hz2, y22, F.1], fun i hi => hzi i (by omega) (by omega) (by omega)⟩
    have old : ∀ q, q < m → (nx + 6 - m + q) % 6 ≠ nx → z_House (37 + 10 * ((nx + 6 - m + q) % 6)) z (sv q) := fun q hq hne => z_House_fr (by omega) (fun i a b => hzi i (by omega) (by omega) (by omega)) (h5 q hq)
    have new : z_House (37 + 10 * nx) z s := z_House_fr (by omega) (fun i a b => by rw [hz i (by omega), f36 i (by omega)]) Hy
    unfold z_nV
    unfold z_nM at hk ⊢
    by_cases c : m = 6
    · subst c
      rw [if_pos rfl] at hk
      rw [if_pos rfl, if_pos rfl]
      by_cases c5 : k < 5
      · rw [if_pos c5]
        have := old (k + 1) (by omega) (by omega)
        rw [show (n2 + 6 - 6 + k) % 6 = (nx + 6 - 6 + (k + 1)) % 6 by omega]; exact this
      · rw [if_neg c5, show (n2 + 6 - 6 + k) % 6 = nx by omega]; exact new
    · rw [if_neg c] at hk
      rw [if_neg c, if_neg c]
      by_cases c5 : k < m
      · rw [if_pos c5]
        have := old k c5 (by omega)
        rw [show (n2 + 6 - (m + 1) + k) % 6 = (nx + 6 - m + k) % 6 by omega]; exact this
      · rw [if_neg c5, show (n2 + 6 - (m + 1) + k) % 6 = nx by omega]; exact new
  by_cases c : m = 6
  · rw [if_pos (by rw [z_L6, z_I_le (by omega) (by omega)]; omega)]
    refine ⟨_, rfl, fin _ (fun i hi => z_up1_o y2 6 _ hi) rfl (by rw [z_up1_at, if_pos ⟨rfl, rfl⟩]) ?_⟩
    rw [e5']; unfold z_nM; rw [if_pos c, c]
  · rw [if_neg (by rw [z_L6, z_I_le (by omega) (by omega)]; omega), z_lt_]
    refine ⟨_, rfl, fin _ (fun i hi => by rw [z_up1_o _ _ _ hi, z_up1_o _ _ _ hi]) rfl ?_ ?_⟩
    · rw [z_up1_at, if_neg (by omega), z_up1_at, if_pos ⟨rfl, rfl⟩]
    · rw [z_up1_at, if_pos ⟨rfl, rfl⟩]; unfold z_nM; rw [if_neg c]
def z_Kp (s t : z_row) : Prop := (∀ i, i < 60 → i % 6 = 3 → t i = s i) ∧ (∀ i, 111 ≤ i → i ≤ 114 → t i = s i)
theorem z_Kp_refl (s : z_row) : z_Kp s s := ⟨fun _ _ _ => rfl, fun _ _ _ => rfl⟩
theorem z_Kp_t {s t u : z_row} (h : z_Kp s t) (k : z_Kp t u) : z_Kp s u := ⟨fun i a b => (k.1 i a b).trans (h.1 i a b), fun i a b => (k.2 i a b).trans (h.2 i a b)⟩
theorem z_Kp_upd {s t : z_row} (h : z_Kp s t) {k : Nat} (h1 : ¬ (k < 60 ∧ k % 6 = 3)) (h2 : ¬ (111 ≤ k ∧ k ≤ 114)) (v : Int32) : z_Kp s (upd t k v) :=
  z_Kp_t h ⟨fun i a b => if_neg (by omega), fun i a b => if_neg (by omega)⟩
theorem z_Kp_LE {s t : z_row} (h : z_Kp s t) {b f n : Nat} (hb : b < 4) (hh : f + n ≤ 12) (v : Int32) : z_Kp s (z_LE t b f n v) :=
  z_Kp_t h ⟨fun i a b => if_neg (by omega), fun i a b => if_neg (by omega)⟩
theorem z_Kp_PU {s t : z_row} (h : z_Kp s t) (M : Nat) : z_Kp s (z_PU t M 0 10) := by
  refine z_Kp_t h ⟨fun i a b => ?_, fun i a b => ?_⟩
  · unfold z_PU; split
    · rw [if_neg (by omega), if_neg (by omega)]
    · rfl
  · unfold z_PU; rw [if_neg (by omega)]
theorem z_Kp_FI {s t : z_row} (h : z_Kp s t) : z_Kp s (z_FI t) := z_Kp_t h ⟨fun i a b => if_neg (by omega), fun i a b => if_neg (by omega)⟩
theorem z_S3_K {s t : z_row} (h : z_Kp s t) : z_S3 t = z_S3 s := by
  unfold z_S3
  rw [h.1 3 (by omega) (by omega), h.1 9 (by omega) (by omega), h.1 15 (by omega) (by omega), h.1 21 (by omega) (by omega), h.1 27 (by omega) (by omega), h.1 33 (by omega) (by omega), h.1 39 (by omega) (by omega), h.1 45 (by omega) (by omega), h.1 51 (by omega) (by omega), h.1 57 (by omega) (by omega)]
theorem z_S5_K {s t : z_row} (h : z_Kp s t) : z_S5 t = z_S5 s := by
  unfold z_S5
  rw [h.2 111 (by omega) (by omega), h.2 112 (by omega) (by omega), h.2 113 (by omega) (by omega), h.2 114 (by omega) (by omega)]
theorem z_Kp_G8 (s : z_row) {l b f n g : Nat} (hl : l < 10) (hb : b < 4) (z_hn : 1 ≤ n) (hh : f + n ≤ 12) : z_Kp s (z_G8 s l b f n g) := by
  have K4 : ∀ M, z_Kp s (z_CP (z_GE s l) M) := fun M => z_Kp_PU (z_Kp_upd (z_Kp_upd (z_Kp_refl s) (by omega) (by omega) _) (by omega) (by omega) _) M
  unfold z_G8
  dsimp only
  have h1 := z_FS_le (z_CP (z_GE s l) (z_MK (z_GE s l) b f n)) b f g
  have h2 := z_PE_le (z_CP (z_GE s l) (z_MK (z_GE s l) b f n)) b (f + n - 1) (by omega)
  exact z_Kp_upd (z_Kp_LE (K4 _) hb (by omega) _) (by omega) (by omega) _
theorem z_Kp_GR (s : z_row) {l b f n g : Nat} (hl : l < 10) (hb : b < 4) (z_hn : 1 ≤ n) (hh : f + n ≤ 12) : z_Kp s (z_GR s l b f n g) := by
  unfold z_GR
  have hZ : ∀ t, z_Kp s t → z_Kp s (z_GZ t l b f n) := fun t h => z_Kp_upd (z_Kp_LE (z_Kp_upd h (by omega) (by omega) _) hb hh _) (by omega) (by omega) _
  apply hZ
  split
  · exact z_Kp_G8 s hl hb z_hn hh
  · split
    · exact z_Kp_upd (z_Kp_upd (z_Kp_refl s) (by omega) (by omega) _) (by omega) (by omega) _
    · exact z_Kp_refl s
theorem z_S3_RF (s : z_row) {l r : Nat} (hl : l < 10) (h1 : 1 ≤ r) : z_S3 (z_RF s l r) = z_S3 s := by
  have k : ∀ i, i < 60 → i % 6 = 3 → z_RF s l r i = s i := fun i a b => by
    unfold z_RF; split
    · exact (if_neg (by omega)).trans (if_neg (by omega))
    · exact if_neg (by omega)
  unfold z_S3
  rw [k 3 (by omega) (by omega), k 9 (by omega) (by omega), k 15 (by omega) (by omega), k 21 (by omega) (by omega), k 27 (by omega) (by omega), k 33 (by omega) (by omega), k 39 (by omega) (by omega), k 45 (by omega) (by omega), k 51 (by omega) (by omega), k 57 (by omega) (by omega)]
theorem z_S5_RF (s : z_row) {l r : Nat} (hl : l < 10) (h1 : 1 ≤ r) (h4 : r ≤ 4) : z_S5 (z_RF s l r) = z_S5 s + 1 := by
  have k : ∀ i, 111 ≤ i → i ≤ 114 → z_RF s l r i = if i = 110 + r then s i + 1 else s i := fun i a b => by
    have e : (upd s (110 + r) (s (110 + r) + 1)) i = if i = 110 + r then s i + 1 else s i := by
      unfold upd; by_cases c : i = 110 + r
      · rw [if_pos c, if_pos c, c]
      · rw [if_neg c, if_neg c]
    unfold z_RF; split
    · rw [← e]; exact if_neg (by omega)
    · exact e
  unfold z_S5
  rw [k 111 (by omega) (by omega), k 112 (by omega) (by omega), k 113 (by omega) (by omega), k 114 (by omega) (by omega)]
  rcases (by omega : r = 1 ∨ r = 2 ∨ r = 3 ∨ r = 4) with rfl | rfl | rfl | rfl
  · simp only [Nat.reduceAdd, Nat.reduceEqDiff, if_true, if_false]; grind
  · simp only [Nat.reduceAdd, Nat.reduceEqDiff, if_true, if_false]; grind
  · simp only [Nat.reduceAdd, Nat.reduceEqDiff, if_true, if_false]; grind
  · simp only [Nat.reduceAdd, Nat.reduceEqDiff, if_true, if_false]; grind
