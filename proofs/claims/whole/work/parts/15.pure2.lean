theorem z_L108 : (108 : Int32) = z_I 108 := rfl
theorem z_L109 : (109 : Int32) = z_I 109 := rfl
theorem z_L110 : (110 : Int32) = z_I 110 := rfl
theorem z_L111 : (111 : Int32) = z_I 111 := rfl
theorem z_L112 : (112 : Int32) = z_I 112 := rfl
theorem z_L113 : (113 : Int32) = z_I 113 := rfl
theorem z_L114 : (114 : Int32) = z_I 114 := rfl
theorem z_L115 : (115 : Int32) = z_I 115 := rfl
theorem z_L116 : (116 : Int32) = z_I 116 := rfl
theorem z_L117 : (117 : Int32) = z_I 117 := rfl
theorem z_L118 : (118 : Int32) = z_I 118 := rfl
theorem z_L119 : (119 : Int32) = z_I 119 := rfl
def z_Rr (x : xS) (s : z_row) : Prop := ∀ k, k < 120 → x.1 102 k = s k
theorem z_gm {α : Type} {k : Nat} (h : k < 120) (a b : Option α) : (if z_I k < 0 ∨ ln (101 + 1) ≤ (z_I k).toNatClampNeg then b else a) = a := z_gd (show k < 120 from h) (by decide) a b
theorem z_Rr_I {x : xS} {s : z_row} (A : z_Rr x s) {k : Nat} (h : k < 120) : x.1 (101 + 1) (z_I k).toNatClampNeg = s k := by rw [z_I_nat (by omega)]; exact A k h
theorem z_r_ofBed (b h : Nat) (x : xS) : fX7_ofBed (z_I b) (z_I h) x = some (z_I (60 + 12 * b + h)) := by
  unfold fX7_ofBed fX7_ofBed_b0
  rw [z_L60, z_L12, z_I_mul, z_I_add, z_I_add]
theorem z_r_of (l w : Nat) (x : xS) : fX7_of (z_I l) (z_I w) x = some (z_I (6 * l + w)) := by
  unfold fX7_of fX7_of_b0
  rw [z_L0, z_L6, z_I_mul, z_I_add, z_I_add, Nat.zero_add]
theorem z_r_in {v : Nat} {a b : Nat} (x : xS) (z_hv : v < 1000) (hb : b < 1000) (ha : a < 1000) : fX7_in (z_I v) (z_I a) (z_I b) x = some (if a ≤ v ∧ v ≤ b then 1 else 0) := by
  unfold fX7_in fX7_in_b0 fX7_in_b14
  by_cases h : a ≤ v ∧ v ≤ b
  · rw [if_neg (by rw [z_I_lt (by omega) (by omega)]; omega), if_neg (by rw [z_I_lt (by omega) (by omega)]; omega), if_pos h]
  · rw [if_neg h]
    by_cases h1 : v < a
    · rw [if_pos (by rw [z_I_lt (by omega) (by omega)]; omega)]
    · rw [if_neg (by rw [z_I_lt (by omega) (by omega)]; omega), if_pos (by rw [z_I_lt (by omega) (by omega)]; omega)]
theorem z_r_in_ok {v a b : Nat} (x : xS) (h1 : a ≤ v) (h2 : v ≤ b) (hb : b < 1000) : fX7_in (z_I v) (z_I a) (z_I b) x = some 1 := by rw [z_r_in x (by omega) hb (by omega), if_pos ⟨h1, h2⟩]
theorem z_r_in_bad {v : Int32} {a b : Nat} (x : xS) (ha : a ≤ b) (hb : b < 1000) (h : ¬ z_inR v a b) : fX7_in v (z_I a) (z_I b) x = some 0 := by
  unfold fX7_in fX7_in_b0 fX7_in_b14
  rcases z_inR_of hb ha h with h3 | ⟨h3, h4⟩
  · rw [if_pos h3]
  · rw [if_neg h3, if_pos h4]
theorem z_r_lentIn {x : xS} {s : z_row} (A : z_Rr x s) {b f n : Nat} (hb : b < 4) (hh : f + n ≤ 12) : fX7_lentIn 101 (z_I b) (z_I f) (z_I n) x = some (z_I (z_LI s b f n)) := by
  unfold fX7_lentIn fX7_lentIn_b0
  rw [z_loopN (F := fX7_lentIn_b6 101 (z_I b) (z_I f) (z_I n) x) (B := f + n) (g := fun j => if z_hv s b j = -1 then 0 else 1) (fun k acc => ?_) (fun k acc j hj => ?_) n FU 0 f rfl (by show n < 2000; omega)]
  · rw [Int32.zero_add]; rfl
  · rw [fX7_lentIn_b6, z_I_add, if_pos (by rw [z_I_le (by omega) (by omega)]; omega)]
  · rw [fX7_lentIn_b6, z_I_add, if_neg (by rw [z_I_le (by omega) (by omega)]; omega), z_r_ofBed, z_ob, z_gm (by omega), z_Rr_I A (by omega), show s (60 + 12 * b + j) = z_hv s b j from rfl]
    unfold fX7_lentIn_b36
    by_cases e : z_hv s b j = -1
    · rw [if_pos e, if_pos e, z_lt_, z_I_s]; rfl
    · rw [if_neg e, if_neg e, z_lt_, z_I_s]; rfl
theorem z_r_emptiest {x : xS} {s : z_row} (A : z_Rr x s) {f n : Nat} (hh : f + n ≤ 12) : fX7_emptiest 101 (z_I f) (z_I n) x = some (z_I (z_EM s f n)) := by
  unfold fX7_emptiest fX7_emptiest_b0
  have q : ∀ k a c, a < 4 → c < 4 → fX7_emptiest_b5 101 (z_I f) (z_I n) x (k + 1) (z_I a) (z_I c) = fX7_emptiest_b5 101 (z_I f) (z_I n) x k (z_I (z_mn (fun b => z_LI s b f n) a c)) (z_I (c + 1)) := by
    intro k a c ha z_hc
    have l0 := z_LI_le s a f n
    have l1 := z_LI_le s c f n
    rw [fX7_emptiest_b5, if_neg (by rw [z_L4, z_I_le (by omega) (by omega)]; omega), z_r_lentIn A z_hc hh, z_ob, z_r_lentIn A ha hh, z_ob]
    unfold fX7_emptiest_b35 z_mn
    rw [z_I_s]
    by_cases e : z_LI s c f n < z_LI s a f n
    · rw [if_neg (by rw [z_I_le (by omega) (by omega)]; omega), if_pos e]
    · rw [if_pos (by rw [z_I_le (by omega) (by omega)]; omega), if_neg e]
  have q4 : ∀ k a, fX7_emptiest_b5 101 (z_I f) (z_I n) x (k + 1) a (z_I 4) = some a := by
    intro k a
    rw [fX7_emptiest_b5, if_pos (by decide)]
  rw [show FU = 1996 + 1 + 1 + 1 + 1 from rfl, z_L0, z_L1, q _ 0 1 (by omega) (by omega), q _ _ 2 (z_mn_lt (by omega) (by omega)) (by omega), q _ _ 3 (z_mn_lt (z_mn_lt (by omega) (by omega)) (by omega)) (by omega), q4]
  rfl
def z_BL (s : z_row) (v : Int32) (h : Nat) : Nat := if z_hv s 3 h = v then 3 else if z_hv s 2 h = v then 2 else if z_hv s 1 h = v then 1 else if z_hv s 0 h = v then 0 else 4
def z_Uq (s : z_row) : Prop := ∀ h, h < 12 → ∀ b, b < 4 → ∀ c, c < 4 → z_hv s b h = z_hv s c h → z_hv s b h ≠ -1 → b = c
theorem z_BL_BO {s : z_row} (U : z_Uq s) {v : Int32} {h : Nat} (hv1 : v ≠ -1) (hh : h < 12) : z_BL s v h = z_BO s v h := by
  have u : ∀ b c, b < 4 → c < 4 → b ≠ c → z_hv s b h = v → z_hv s c h = v → False := fun b c hb z_hc hne h1 h2 => hne (U h hh b hb c z_hc (h1.trans h2.symm) (by rw [h1]; exact hv1))
  unfold z_BL z_BO
  by_cases h0 : z_hv s 0 h = v
  · rw [if_neg (fun e => u 0 3 (by omega) (by omega) (by omega) h0 e), if_neg (fun e => u 0 2 (by omega) (by omega) (by omega) h0 e), if_neg (fun e => u 0 1 (by omega) (by omega) (by omega) h0 e), if_pos h0, if_pos h0]
  · by_cases h1 : z_hv s 1 h = v
    · rw [if_neg (fun e => u 1 3 (by omega) (by omega) (by omega) h1 e), if_neg (fun e => u 1 2 (by omega) (by omega) (by omega) h1 e), if_pos h1, if_neg h0, if_pos h1]
    · rw [if_neg h1, if_neg h0, if_neg h0, if_neg h1]
      by_cases h2 : z_hv s 2 h = v
      · rw [if_neg (fun e => u 2 3 (by omega) (by omega) (by omega) h2 e), if_pos h2, if_pos h2]
      · rw [if_neg h2, if_neg h2]
theorem z_r_bedOf {x : xS} {s : z_row} (A : z_Rr x s) (U : z_Uq s) {v : Int32} {h : Nat} (hv1 : v ≠ -1) (hh : h < 12) : fX7_bedOf 101 v (z_I h) x = some (if z_BO s v h = 4 then -1 else z_I (z_BO s v h)) := by
  unfold fX7_bedOf fX7_bedOf_b0
  have q : ∀ n a c, c < 4 → fX7_bedOf_b5 101 v (z_I h) x (n + 1) a (z_I c) = fX7_bedOf_b5 101 v (z_I h) x n (if z_hv s c h = v then z_I c else a) (z_I (c + 1)) := by
    intro n a c z_hc
    rw [fX7_bedOf_b5, if_neg (by rw [z_L4, z_I_le (by omega) (by omega)]; omega), z_r_ofBed, z_ob, z_gm (by omega), z_Rr_I A (by omega), show s (60 + 12 * c + h) = z_hv s c h from rfl]
    unfold fX7_bedOf_b32
    rw [z_I_s]
    by_cases e : z_hv s c h = v
    · rw [if_pos e, if_pos e]
    · rw [if_neg e, if_neg e]
  have q4 : ∀ n a, fX7_bedOf_b5 101 v (z_I h) x (n + 1) a (z_I 4) = some a := by
    intro n a
    rw [fX7_bedOf_b5, if_pos (by decide)]
  rw [show FU = 1995 + 1 + 1 + 1 + 1 + 1 from rfl, z_L0, q _ _ 0 (by omega), q _ _ 1 (by omega), q _ _ 2 (by omega), q _ _ 3 (by omega), q4, ← z_BL_BO U hv1 hh]
  unfold z_BL
  by_cases h3 : z_hv s 3 h = v
  · simp only [if_pos h3]; rfl
  · by_cases h2 : z_hv s 2 h = v
    · simp only [if_neg h3, if_pos h2]; rfl
    · by_cases h1 : z_hv s 1 h = v
      · simp only [if_neg h3, if_neg h2, if_pos h1]; rfl
      · by_cases h0 : z_hv s 0 h = v
        · simp only [if_neg h3, if_neg h2, if_neg h1, if_pos h0]; rfl
        · simp only [if_neg h3, if_neg h2, if_neg h1, if_neg h0]; rfl
theorem z_fo_has (s : z_row) (v : Int32) : ∀ d a j, a ≤ 1 → z_fo (fun a j => if a = 0 then (if z_BO s v j = 4 then 0 else 1) else 1) a j d = if a = 0 ∧ z_HB s v j d = 0 then 0 else 1 := by
  intro d
  induction d with
  | zero =>
    intro a j ha
    simp only [z_fo, z_HB, z_sm]
    by_cases e : a = 0
    · subst e; simp
    · have : a = 1 := by omega
      subst this; simp
  | succ d ih =>
    intro a j ha
    have hH : z_HB s v j (d + 1) = (if z_BO s v j = 4 then 0 else 1) + z_HB s v (j + 1) d := by
      unfold z_HB; rw [z_sm_front]; simp only [Nat.add_zero, Nat.add_assoc, Nat.add_comm 1]
    simp only [z_fo]
    rw [ih _ _ (by (repeat' split) <;> omega), hH]
    by_cases e : a = 0
    · subst e
      by_cases b : z_BO s v j = 4
      · simp [b]
      · simp [b]
    · simp [e]
theorem z_r_hasBed {x : xS} {s : z_row} (A : z_Rr x s) (U : z_Uq s) {v : Int32} {f n : Nat} (hv1 : v ≠ -1) (hh : f + n ≤ 12) : fX7_hasBed 101 v (z_I f) (z_I n) x = some (if z_HB s v f n = 0 then 0 else 1) := by
  unfold fX7_hasBed fX7_hasBed_b0
  have := z_loopG (F := fun k (a : Nat) j => fX7_hasBed_b6 101 v (z_I f) (z_I n) x k (z_I a) j) (B := f + n) (g := fun a j => if a = 0 then (if z_BO s v j = 4 then 0 else 1) else 1) (r := z_I) (P := fun a _ => a ≤ 1) (fun k acc hP => ?_) (fun k acc j hj hP => ⟨?_, ?_⟩) n FU 0 f rfl (by show n < 2000; omega) (by omega)
  · rw [z_fo_has s v n 0 f (by omega)] at this
    refine (show _ = _ from this).trans ?_
    by_cases e : z_HB s v f n = 0
    · rw [if_pos ⟨rfl, e⟩, if_pos e]; rfl
    · rw [if_neg (fun h => e h.2), if_neg e]; rfl
  · rw [fX7_hasBed_b6, z_I_add, if_pos (by rw [z_I_le (by omega) (by omega)]; omega)]
    rcases (by omega : acc = 0 ∨ acc = 1) with rfl | rfl
    · exact if_pos (by decide)
    · exact if_pos (by decide)
  · rw [fX7_hasBed_b6, z_I_add, if_neg (by rw [z_I_le (by omega) (by omega)]; omega)]
    unfold fX7_hasBed_b30 fX7_hasBed_b35
    have hB := z_BO_le s v j
    rcases (by omega : acc = 0 ∨ acc = 1) with rfl | rfl
    · rw [if_pos (by decide), if_pos rfl, z_r_bedOf A U hv1 (by omega), z_ob]
      by_cases e : z_BO s v j = 4
      · rw [if_pos e, if_pos e, if_pos rfl, z_I_s]; rfl
      · rw [if_neg e, if_neg e, if_neg (by rw [z_I_n1 (by omega)]; exact id), z_I_s]; rfl
    · rw [if_neg (by decide), if_neg (by decide), z_I_s]; rfl
  · (repeat' split) <;> omega
theorem z_r_hindrance {x : xS} {s : z_row} (A : z_Rr x s) (O : z_OKs s) {l f n : Nat} (hl : l < 10) (hh : f + n ≤ 12) : fX7_hindrance 101 (z_I l) (z_I f) (z_I n) x = some (z_I (if 10 ≤ z_AN s l f n then 0 else z_AN s l f n)) := by
  unfold fX7_hindrance fX7_hindrance_b0 fX7_hindrance_b21 fX7_hindrance_b90
  have hL := z_LI_le s (z_EM s f n) f n
  have hE := z_EM_lt s f n
  have n1 : z_I l ≠ -1 := by rw [Ne, z_I_n1 (by omega)]; exact id
  rw [z_L108, z_gm (by omega), z_Rr_I A (by omega), z_gm (by omega)]
  unfold z_AN
  by_cases h1 : z_I f < s 108
  · rw [if_pos h1, if_neg (Int32.not_le.mpr h1), if_pos h1]; rfl
  · have h1' : s 108 ≤ z_I f := Int32.not_lt.mp h1
    rw [if_neg h1, if_pos h1', if_neg h1, z_r_hasBed A O.2.2.2.2.2 n1 hh, z_ob]
    by_cases h2 : z_HB s (z_I l) f n = 0
    · rw [if_pos h2, if_pos rfl, if_neg (show ¬ 0 < z_HB s (z_I l) f n by omega)]
      have r1 := z_r_of l 1 x
      have r0 := z_r_of l 0 x
      have r2 := z_r_of l 2 x
      rw [z_L1] 
      rw [r1, z_ob, z_gm (by omega), z_Rr_I A (by omega)]
      have e0 : (0 : Int32) = z_I 0 := rfl
      have e2 : (2 : Int32) = z_I 2 := rfl
      by_cases h3 : s (6 * l + 1) = z_I 7
      · rw [if_pos (show s (6 * l + 1) = 7 from h3), if_pos h3, if_pos (by omega)]; rfl
      · rw [if_neg (show ¬ s (6 * l + 1) = 7 from h3), if_neg h3]
        have tail : ((fX7_emptiest 101 (z_I f) (z_I n) x).bind fun r94 => (fX7_lentIn 101 r94 (z_I f) (z_I n) x).bind fun r99 => if r99 ≤ 0 then some 0 else some 4) = some (z_I (if 10 ≤ (if 0 < z_LI s (z_EM s f n) f n then 4 else 10 + z_EM s f n) then 0 else (if 0 < z_LI s (z_EM s f n) f n then 4 else 10 + z_EM s f n))) := by
          rw [z_r_emptiest A hh, z_ob, z_r_lentIn A hE hh, z_ob]
          by_cases h5 : 0 < z_LI s (z_EM s f n) f n
          · rw [if_neg (by rw [z_L0, z_I_le (by omega) (by omega)]; omega), if_pos h5, if_neg (by omega)]; rfl
          · rw [if_pos (by rw [z_L0, z_I_le (by omega) (by omega)]; omega), if_neg h5, if_pos (by omega)]; rfl
        rw [show fX7_of (z_I l) 0 x = _ from r0, z_ob, Nat.add_zero, z_gm (by omega), z_L119, z_gm (by omega), z_Rr_I A (by omega), z_Rr_I A (by omega)]
        by_cases h4 : s (6 * l) < s 119
        · rw [if_neg (Int32.not_le.mpr h4), show fX7_of (z_I l) 2 x = _ from r2, z_ob, z_gm (by omega), z_Rr_I A (by omega)]
          by_cases h6 : s (6 * l + 2) = 0
          · rw [if_pos h6, if_pos (show s (6 * l) < s 119 ∧ s (6 * l + 2) = 0 from ⟨h4, h6⟩), if_neg (by omega)]; rfl
          · rw [if_neg h6, if_neg (show ¬ (s (6 * l) < s 119 ∧ s (6 * l + 2) = 0) from fun h => h6 h.2)]; exact tail
        · rw [if_pos (Int32.not_lt.mp h4), if_neg (show ¬ (s (6 * l) < s 119 ∧ s (6 * l + 2) = 0) from fun h => h4 h.1)]; exact tail
    · rw [if_neg h2, if_neg (by decide), if_pos (show 0 < z_HB s (z_I l) f n by omega), if_neg (by omega)]; rfl

def z_FrR (x x' : xS) : Prop := x'.2 = x.2 ∧ ∀ i, i ≠ 102 → x'.1 i = x.1 i
theorem z_FrR_refl (x : xS) : z_FrR x x := ⟨rfl, fun _ _ => rfl⟩
theorem z_FrR_t {x y z : xS} (h : z_FrR x y) (k : z_FrR y z) : z_FrR x z := ⟨k.1.trans h.1, fun i a => (k.2 i a).trans (h.2 i a)⟩
theorem z_FrR_up (x : xS) (k : Nat) (v : Int32) : z_FrR x (up1 x (101 + 1) k v) := ⟨rfl, fun i h => z_up1_o x k v h⟩
theorem z_Rr_up {x : xS} {s : z_row} (A : z_Rr x s) (k : Nat) (v : Int32) : z_Rr (up1 x (101 + 1) k v) (upd s k v) := by
  intro j hj
  rw [z_up1_at]
  unfold upd
  by_cases h : j = k
  · rw [if_pos ⟨rfl, h⟩, if_pos h]
  · rw [if_neg (fun e => h e.2), if_neg h]; exact A j hj
def z_ER (f : Option xS) (x : xS) (s : z_row) : Prop := ∃ x', f = some x' ∧ z_Rr x' s ∧ z_FrR x x'
theorem z_ER_id {x : xS} {s : z_row} (A : z_Rr x s) : z_ER (some x) x s := ⟨x, rfl, A, z_FrR_refl x⟩
theorem z_ER_t {f : Option xS} {x y : xS} {s : z_row} (h : z_FrR x y) (e : z_ER f y s) : z_ER f x s := by
  obtain ⟨z, a, b, c⟩ := e; exact ⟨z, a, b, z_FrR_t h c⟩
theorem z_run_E {s t : z_row} {v : Int32} : ∀ d k, (∀ i, k ≤ i → i < k + d → s i = t i) → z_run s v k d = z_run t v k d := by
  intro d
  induction d with
  | zero => intro k h; rfl
  | succ d ih => intro k h; simp only [z_run]; rw [h k (by omega) (by omega), ih (k + 1) (fun i a b => h i (by omega) (by omega))]
theorem z_upd_c {s : z_row} {a b : Nat} (h : a ≠ b) (v w : Int32) : upd (upd s a v) b w = upd (upd s b w) a v := by
  funext k; unfold upd
  by_cases ha : k = a
  · subst ha; rw [if_neg h, if_pos rfl, if_pos rfl]
  · rw [if_neg ha, if_neg ha]
theorem z_upd_u (s : z_row) (a : Nat) (v w : Int32) : upd (upd s a v) a w = upd s a w := by
  funext k; unfold upd
  by_cases ha : k = a
  · rw [if_pos ha, if_pos ha]
  · rw [if_neg ha, if_neg ha, if_neg ha]
def z_LS (s : z_row) (b f d : Nat) : z_row := upd (z_LE s b f d (-1)) 116 (s 116 + z_I d)
theorem z_LS_0 (s : z_row) (b f : Nat) : z_LS s b f 0 = s := by
  unfold z_LS; rw [z_LE_0]; funext k; unfold upd
  by_cases h : k = 116
  · rw [if_pos h, h]; exact Int32.add_zero _
  · rw [if_neg h]
theorem z_LS_f (s : z_row) {b f d : Nat} (hb : b < 4) (hh : f + (d + 1) ≤ 12) : z_LS (upd (upd s (60 + 12 * b + f) (-1)) 116 (s 116 + 1)) b (f + 1) d = z_LS s b f (d + 1) := by
  unfold z_LS
  rw [show (upd (upd s (60 + 12 * b + f) (-1)) 116 (s 116 + 1)) 116 = s 116 + 1 from if_pos rfl, Int32.add_assoc, show (1 : Int32) = z_I 1 from rfl, z_I_add, Nat.add_comm 1 d, ← z_LE_s]
  funext k
  unfold upd z_LE
  by_cases h : k = 116
  · rw [if_pos h, if_pos h]
  · rw [if_neg h, if_neg h]
    by_cases h2 : 60 + 12 * b + (f + 1) ≤ k ∧ k < 60 + 12 * b + (f + 1) + d
    · rw [if_pos h2, if_pos h2]
    · rw [if_neg h2, if_neg h2]; exact if_neg h
theorem z_LS_b (s : z_row) {b f d : Nat} (hb : b < 4) (hh : f + (d + 1) ≤ 12) : z_LS (upd (upd s (60 + 12 * b + (f + d)) (-1)) 116 (s 116 + 1)) b f d = z_LS s b f (d + 1) := by
  unfold z_LS
  rw [show (upd (upd s (60 + 12 * b + (f + d)) (-1)) 116 (s 116 + 1)) 116 = s 116 + 1 from if_pos rfl, Int32.add_assoc, show (1 : Int32) = z_I 1 from rfl, z_I_add, Nat.add_comm 1 d]
  funext k
  unfold upd z_LE
  by_cases h : k = 116
  · rw [if_pos h, if_pos h]
  · rw [if_neg h, if_neg h]
    by_cases h2 : 60 + 12 * b + f ≤ k ∧ k < 60 + 12 * b + f + d
    · rw [if_pos h2, if_pos (by omega)]
    · rw [if_neg h2]; dsimp only; rw [if_neg h]
      by_cases h3 : k = 60 + 12 * b + (f + d)
      · rw [if_pos h3, if_pos (by omega)]
      · rw [if_neg h3, if_neg (by omega)]
theorem z_r_freesF {v : Int32} {b g : Nat} (hb : b < 4) : ∀ d n j x s, z_Rr x s → s 108 = z_I g → g ≤ j → g < 12 → j + d = 12 → d < n → z_ER (fX7_frees_b17 101 (z_I b) 1 n v (z_I j) x) x (z_LS s b j (z_run s v (60 + 12 * b + j) d)) := by
  intro d
  induction d with
  | zero =>
    intro n j x s A hg hgj hg12 hj z_hn
    obtain ⟨n, rfl⟩ : ∃ k, n = k + 1 := ⟨n - 1, by omega⟩
    rw [fX7_frees_b17, z_L108, z_gm (by omega), z_Rr_I A (by omega), hg, z_L11, z_r_in x (by omega) (by omega) (by omega), z_ob, if_neg (show ¬ (g ≤ j ∧ j ≤ 11) by omega), if_pos rfl]
    rw [show z_run s v (60 + 12 * b + j) 0 = 0 from rfl, z_LS_0]
    exact z_ER_id A
  | succ d ih =>
    intro n j x s A hg hgj hg12 hj z_hn
    obtain ⟨n, rfl⟩ : ∃ k, n = k + 1 := ⟨n - 1, by omega⟩
    rw [fX7_frees_b17, z_L108, z_gm (by omega), z_Rr_I A (by omega), hg, z_L11, z_r_in_ok x hgj (by omega) (by omega), z_ob, if_neg (by decide), z_r_ofBed, z_ob, z_gm (by omega), z_Rr_I A (by omega)]
    simp only [z_run]
    by_cases e : s (60 + 12 * b + j) = v
    · rw [if_pos e, if_pos e, z_ob, z_gm (by omega), z_I_nat (by omega), z_lt_, z_L116, z_gm (by omega), z_gm (by omega), z_lt_, z_lt_, z_I_nat (by omega), z_I_s]
      have A1 := z_Rr_up A (60 + 12 * b + j) (-1)
      have e1 : (up1 x (101 + 1) (60 + 12 * b + j) (-1)).1 (101 + 1) 116 = s 116 := by
        have := A1 116 (by omega)
        exact this.trans (if_neg (by omega))
      rw [e1]
      have A2 := z_Rr_up A1 116 (s 116 + 1)
      have h := ih n (j + 1) _ _ A2 (by rw [← hg]; exact (if_neg (by omega)).trans (if_neg (by omega))) (by omega) hg12 (by omega) (by omega)
      rw [show z_run (upd (upd s (60 + 12 * b + j) (-1)) 116 (s 116 + 1)) v (60 + 12 * b + (j + 1)) d = z_run s v (60 + 12 * b + j + 1) d from z_run_E d _ (fun i a c => (if_neg (by omega)).trans (if_neg (by omega)))] at h
      have hr := z_run_le s v d (60 + 12 * b + j + 1)
      rw [z_LS_f s hb (by omega)] at h
      exact z_ER_t (z_FrR_t (z_FrR_up x _ _) (z_FrR_up _ _ _)) h
    · rw [if_neg e, if_neg e, z_LS_0]
      exact z_ER_id A
theorem z_or_in : ∀ l, l < 10 → ∀ M, M < 1024 → z_bt M l = 1 → M ||| 2 ^ l = M := by decide +kernel
theorem z_g_m1 : ∀ g, g < 12 → (z_I g + (-1)) < z_I g := by decide
theorem z_r_freesB {v : Int32} {b g : Nat} (hb : b < 4) (hg12 : g < 12) : ∀ d n j x s, z_Rr x s → s 108 = z_I g → j ≤ 12 → g + d = j → d < n → z_ER (fX7_frees_b17 101 (z_I b) (-1) n v (z_I j + (-1)) x) x (z_LS s b (z_dn s b v j d) (j - z_dn s b v j d)) := by
  intro d
  induction d with
  | zero =>
    intro n j x s A hg hgj hj z_hn
    obtain ⟨n, rfl⟩ : ∃ k, n = k + 1 := ⟨n - 1, by omega⟩
    have : j = g := by omega
    subst this
    rw [fX7_frees_b17, z_L108, z_gm (by omega), z_Rr_I A (by omega), hg]
    unfold fX7_in fX7_in_b0 fX7_in_b14
    rw [if_pos (z_g_m1 j hg12), z_ob, if_pos rfl]
    rw [show z_dn s b v j 0 = j from rfl, Nat.sub_self, z_LS_0]
    exact z_ER_id A
  | succ d ih =>
    intro n j x s A hg hgj hj z_hn
    obtain ⟨n, rfl⟩ : ∃ k, n = k + 1 := ⟨n - 1, by omega⟩
    have ej : z_I j + (-1) = z_I (j - 1) := by rw [show (-1 : Int32) = -(z_I 1) from rfl, ← Int32.sub_eq_add_neg, z_I_sub (by omega)]
    rw [fX7_frees_b17, z_L108, z_gm (by omega), z_Rr_I A (by omega), hg, ej, z_L11, z_r_in_ok x (by omega) (by omega) (by omega), z_ob, if_neg (by decide), z_r_ofBed, z_ob, z_gm (by omega), z_Rr_I A (by omega)]
    simp only [z_dn]
    rw [show s (60 + 12 * b + (j - 1)) = z_hv s b (j - 1) from rfl]
    by_cases e : z_hv s b (j - 1) = v
    · rw [if_pos e, if_pos e, z_ob, z_gm (by omega), z_I_nat (by omega), z_lt_, z_L116, z_gm (by omega), z_gm (by omega), z_lt_, z_lt_, z_I_nat (by omega)]
      have A1 := z_Rr_up A (60 + 12 * b + (j - 1)) (-1)
      have e1 : (up1 x (101 + 1) (60 + 12 * b + (j - 1)) (-1)).1 (101 + 1) 116 = s 116 := by
        have := A1 116 (by omega)
        exact this.trans (if_neg (by omega))
      rw [e1]
      have A2 := z_Rr_up A1 116 (s 116 + 1)
      have h := ih n (j - 1) _ _ A2 (by rw [← hg]; exact (if_neg (by omega)).trans (if_neg (by omega))) (by omega) (by omega) (by omega)
      have hdn : z_dn (upd (upd s (60 + 12 * b + (j - 1)) (-1)) 116 (s 116 + 1)) b v (j - 1) d = z_dn s b v (j - 1) d := by
        have q : ∀ d i, i ≤ j - 1 → d ≤ i → z_dn (upd (upd s (60 + 12 * b + (j - 1)) (-1)) 116 (s 116 + 1)) b v i d = z_dn s b v i d := by
          intro d
          induction d with
          | zero => intro i _ _; rfl
          | succ d ih => intro i h1 h2; simp only [z_dn]; rw [show z_hv (upd (upd s (60 + 12 * b + (j - 1)) (-1)) 116 (s 116 + 1)) b (i - 1) = z_hv s b (i - 1) from (if_neg (by omega)).trans (if_neg (by omega)), ih (i - 1) (by omega) (by omega)]
        exact q d (j - 1) (Nat.le_refl _) (by omega)
      rw [hdn] at h
      have hd := z_dn_le s b v d (j - 1)
      obtain ⟨c, z_hc⟩ : ∃ c, j - 1 = z_dn s b v (j - 1) d + c := ⟨j - 1 - z_dn s b v (j - 1) d, by omega⟩
      have h' := z_LS_b s (b := b) (f := z_dn s b v (j - 1) d) (d := c) hb (by omega)
      rw [← z_hc] at h'
      rw [show j - 1 - z_dn s b v (j - 1) d = c by omega, h'] at h
      rw [show j - z_dn s b v (j - 1) d = c + 1 by omega]
      exact z_ER_t (z_FrR_t (z_FrR_up x _ _) (z_FrR_up _ _ _)) h
    · rw [if_neg e, if_neg e, Nat.sub_self, z_LS_0]
      exact z_ER_id A
theorem z_LS_j (s : z_row) {b f d e : Nat} (hb : b < 4) (hh : f + d + e ≤ 12) : z_LS (z_LS s b f d) b (f + d) e = z_LS s b f (d + e) := by
  unfold z_LS
  rw [show (upd (z_LE s b f d (-1)) 116 (s 116 + z_I d)) 116 = s 116 + z_I d from if_pos rfl, Int32.add_assoc, z_I_add]
  funext k
  unfold upd z_LE
  by_cases h : k = 116
  · rw [if_pos h, if_pos h]
  · rw [if_neg h, if_neg h]; dsimp only; rw [if_neg h]
    by_cases h2 : 60 + 12 * b + (f + d) ≤ k ∧ k < 60 + 12 * b + (f + d) + e
    · rw [if_pos h2, if_pos (by omega)]
    · rw [if_neg h2]
      by_cases h3 : 60 + 12 * b + f ≤ k ∧ k < 60 + 12 * b + f + d
      · rw [if_pos h3, if_pos (by omega)]
      · rw [if_neg h3, if_neg (by omega)]
theorem z_LS_at (s : z_row) (b f d : Nat) {k : Nat} (h : k ≠ 116) (h2 : ¬ (60 + 12 * b + f ≤ k ∧ k < 60 + 12 * b + f + d)) : z_LS s b f d k = s k := (if_neg h).trans (if_neg h2)
def z_PB (s : z_row) (b h g : Nat) : z_row := z_LS s b (z_FS s b h g) (z_PE s b h - z_FS s b h g)
def z_PC (s : z_row) (l M : Nat) : z_row := if z_bt M l = 1 then s else upd (upd (upd s 115 (s 115 + 1)) (6 * l + 4) (s (6 * l + 4) + 1)) (6 * l + 1) (z_mi (s (6 * l + 1)))
theorem z_mi_eq : ∀ a, a < 8 → z_mi (z_I a) = if (7 : Int32) ≤ z_I a then z_I a + 0 else z_I a + 1 := by decide
theorem z_LS_cm (t : z_row) {b h r : Nat} (hb : b < 4) (hh : h + 1 + r ≤ 12) : upd (upd (z_LS t b (h + 1) r) (60 + 12 * b + h) (-1)) 116 (upd (z_LS t b (h + 1) r) (60 + 12 * b + h) (-1) 116 + 1) = z_LS t b h (r + 1) := by
  rw [← z_LS_f t hb (by omega)]
  funext k
  unfold z_LS upd z_LE
  by_cases h1 : k = 116
  · rw [if_pos h1, if_pos h1, if_neg (by omega), if_pos rfl, if_pos rfl, Int32.add_assoc, Int32.add_comm (z_I r), ← Int32.add_assoc]
  · rw [if_neg h1, if_neg h1]
    by_cases h2 : k = 60 + 12 * b + h
    · rw [if_pos h2, if_neg (by omega)]; dsimp only; rw [if_neg h1, if_pos h2, if_neg (by omega)]
    · rw [if_neg h2]
      by_cases h3 : 60 + 12 * b + (h + 1) ≤ k ∧ k < 60 + 12 * b + (h + 1) + r
      · rw [if_neg h1, if_pos h3, if_pos h3]
      · rw [if_neg h1, if_neg h3, if_neg h3]; dsimp only; rw [if_neg h1, if_neg h2]
theorem z_r_putsOut {x : xS} {s : z_row} (A : z_Rr x s) {b h g l M : Nat} (hb : b < 4) (hh : h < 12) (hg : s 108 = z_I g) (hgh : g ≤ h) (hl : l < 10) (hv1 : z_hv s b h = z_I l) (hM : M < 1024) (h9 : x.1 101 9 = z_I M) (hr : ∃ a, a < 8 ∧ s (6 * l + 1) = z_I a) :
    ∃ x', fX7_putsOut 101 (z_I b) (z_I h) x = some x' ∧ z_Rr x' (z_PC (z_PB s b h g) l M) ∧ x'.2 = x.2 ∧ (∀ i, i ≠ 102 → i ≠ 101 → x'.1 i = x.1 i) ∧ (∀ k, k ≠ 9 → x'.1 101 k = x.1 101 k) ∧ x'.1 101 9 = z_I (M ||| 2 ^ l) := by
  unfold fX7_putsOut fX7_putsOut_b0
  have hp := z_PE_le s b h hh
  have hf := z_FS_le s b h g
  rw [z_r_ofBed, z_ob, z_gm (by omega), z_Rr_I A (by omega), z_lt_, show s (60 + 12 * b + h) = z_I l from hv1]
  unfold fX7_frees fX7_frees_b0
  rw [z_r_ofBed, z_ob, z_gm (by omega), z_Rr_I A (by omega), z_lt_, z_lt_, show s (60 + 12 * b + h) = z_I l from hv1]
  obtain ⟨y, ey, Ay, Fy⟩ := z_r_freesB (v := z_I l) hb (show g < 12 by omega) (h - g) FU h x s A hg (by omega) (by omega) (by show h - g < 2000; omega)
  have hFS : z_FS s b h g = z_dn s b (z_I l) h (h - g) := by unfold z_FS; rw [hv1]
  rw [← hFS] at Ay
  rw [ey, z_ob]
  have y1 : z_LS s b (z_FS s b h g) (h - z_FS s b h g) (60 + 12 * b + h) = z_I l := (z_LS_at s _ _ _ (by omega) (by omega)).trans hv1
  rw [z_r_ofBed, z_ob, z_gm (by omega), z_Rr_I Ay (by omega), z_lt_, z_lt_, y1, z_I_s]
  obtain ⟨z, ez, Az, Fz⟩ := z_r_freesF (v := z_I l) hb (11 - h) FU (h + 1) y _ Ay (by rw [z_LS_at s _ _ _ (by omega) (by omega)]; exact hg) (by omega) (by omega) (by omega) (by show 11 - h < 2000; omega)
  rw [ez, z_ob, z_r_ofBed, z_ob, z_gm (by omega), z_I_nat (by omega), z_lt_, z_L116, z_gm (by omega), z_gm (by omega), z_lt_, z_I_nat (by omega)]
  have hrun : z_run (z_LS s b (z_FS s b h g) (h - z_FS s b h g)) (z_I l) (60 + 12 * b + (h + 1)) (11 - h) = z_PE s b h - (h + 1) := by
    rw [z_run_E (t := s) _ _ (fun i a c => z_LS_at s _ _ _ (by omega) (by omega))]
    unfold z_PE; rw [hv1, show 60 + 12 * b + (h + 1) = 60 + 12 * b + h + 1 by omega]; omega
  rw [hrun] at Az
  have A1 := z_Rr_up Az (60 + 12 * b + h) (-1)
  have A2 := z_Rr_up A1 116 (upd (z_LS (z_LS s b (z_FS s b h g) (h - z_FS s b h g)) b (h + 1) (z_PE s b h - (h + 1))) (60 + 12 * b + h) (-1) 116 + 1)
  rw [z_LS_cm _ hb (by omega)] at A2
  have hj := z_LS_j s (b := b) (f := z_FS s b h g) (d := h - z_FS s b h g) (e := z_PE s b h - (h + 1) + 1) hb (by omega)
  rw [show z_FS s b h g + (h - z_FS s b h g) = h by omega, show h - z_FS s b h g + (z_PE s b h - (h + 1) + 1) = z_PE s b h - z_FS s b h g by omega] at hj
  rw [hj] at A2
  rw [show (up1 z (101 + 1) (60 + 12 * b + h) (-1)).1 (101 + 1) 116 = _ from A1 116 (by omega)]
  have F2 : z_FrR x (up1 (up1 z (101 + 1) (60 + 12 * b + h) (-1)) (101 + 1) 116 (upd (z_LS (z_LS s b (z_FS s b h g) (h - z_FS s b h g)) b (h + 1) (z_PE s b h - (h + 1))) (60 + 12 * b + h) (-1) 116 + 1)) := z_FrR_t Fy (z_FrR_t Fz (z_FrR_t (z_FrR_up z _ _) (z_FrR_up _ _ _)))
  generalize up1 (up1 z (101 + 1) (60 + 12 * b + h) (-1)) (101 + 1) 116 (upd (z_LS (z_LS s b (z_FS s b h g) (h - z_FS s b h g)) b (h + 1) (z_PE s b h - (h + 1))) (60 + 12 * b + h) (-1) 116 + 1) = w at *
  have A2 : z_Rr w (z_PB s b h g) := A2
  have w9 : w.1 101 9 = z_I M := by rw [F2.2 101 (by omega)]; exact h9
  rw [w9, z_sb l hl M hM]
  have hor : 2 ^ l < 1024 := by
    have : 2 ^ l < 2 ^ 10 := Nat.pow_lt_pow_right (by omega) hl
    omega
  unfold z_PC
  rcases z_bt_2 M l with e | e
  · rw [e, if_pos (by decide), z_sh1 l hl, z_I_or, z_lt_, z_L115, z_gm (by omega), z_gm (by omega), z_I_nat (by omega), z_lt_]
    have B0 : z_Rr (up1 w 101 9 (z_I (M ||| 2 ^ l))) (z_PB s b h g) := fun k hk => by rw [z_up1_o w _ _ (by omega)]; exact A2 k hk
    rw [show (up1 w 101 9 (z_I (M ||| 2 ^ l))).1 (101 + 1) 115 = _ from B0 115 (by omega)]
    have B1 := z_Rr_up B0 115 (z_PB s b h g 115 + 1)
    rw [show fX7_of (z_I l) 4 _ = _ from z_r_of l 4 _, z_ob, z_gm (by omega), z_gm (by omega), z_I_nat (by omega), z_lt_]
    have e4 : (up1 (up1 w 101 9 (z_I (M ||| 2 ^ l))) (101 + 1) 115 (z_PB s b h g 115 + 1)).1 (101 + 1) (6 * l + 4) = z_PB s b h g (6 * l + 4) := (B1 (6 * l + 4) (by omega)).trans (if_neg (by omega))
    rw [e4]
    have B2 := z_Rr_up B1 (6 * l + 4) (z_PB s b h g (6 * l + 4) + 1)
    rw [show fX7_of (z_I l) 1 _ = _ from z_r_of l 1 _, z_ob, z_gm (by omega), z_ob, z_gm (by omega), z_I_nat (by omega)]
    have e1 : (up1 (up1 (up1 w 101 9 (z_I (M ||| 2 ^ l))) (101 + 1) 115 (z_PB s b h g 115 + 1)) (101 + 1) (6 * l + 4) (z_PB s b h g (6 * l + 4) + 1)).1 (101 + 1) (6 * l + 1) = s (6 * l + 1) :=
      (B2 (6 * l + 1) (by omega)).trans ((if_neg (by omega)).trans ((if_neg (by omega)).trans (z_LS_at s _ _ _ (by omega) (by omega))))
    rw [e1]
    unfold fX7_putsOut_b126
    rw [z_gm (by omega), z_gm (by omega), z_I_nat (by omega), z_lt_, z_lt_]
    have eb : z_PB s b h g (6 * l + 1) = s (6 * l + 1) := z_LS_at s _ _ _ (by omega) (by omega)
    have em : (if (7 : Int32) ≤ s (6 * l + 1) then s (6 * l + 1) + 0 else s (6 * l + 1) + 1) = z_mi (s (6 * l + 1)) := by
      obtain ⟨a, ha, ea⟩ := hr; rw [ea, z_mi_eq a ha]
    have fin : ∀ v, v = z_mi (s (6 * l + 1)) → ∃ x', some (up1 (up1 (up1 (up1 w 101 9 (z_I (M ||| 2 ^ l))) (101 + 1) 115 (z_PB s b h g 115 + 1)) (101 + 1) (6 * l + 4) (z_PB s b h g (6 * l + 4) + 1)) (101 + 1) (6 * l + 1) v) = some x' ∧ z_Rr x' (if (0 : Nat) = 1 then z_PB s b h g else upd (upd (upd (z_PB s b h g) 115 (z_PB s b h g 115 + 1)) (6 * l + 4) (z_PB s b h g (6 * l + 4) + 1)) (6 * l + 1) (z_mi (z_PB s b h g (6 * l + 1)))) ∧ x'.2 = x.2 ∧ (∀ i, i ≠ 102 → i ≠ 101 → x'.1 i = x.1 i) ∧ (∀ k, k ≠ 9 → x'.1 101 k = x.1 101 k) ∧ x'.1 101 9 = z_I (M ||| 2 ^ l) := by
      intro v z_hv
      rw [if_neg (by omega), eb]
      refine ⟨_, rfl, ?_, F2.1, fun i h1 h2 => ?_, fun k hk => ?_, ?_⟩
      · rw [z_hv]; exact z_Rr_up B2 _ _
      · rw [z_up1_o _ _ _ (by omega), z_up1_o _ _ _ (by omega), z_up1_o _ _ _ (by omega), z_up1_o _ _ _ (by omega)]; exact F2.2 i h1
      · rw [z_up1_o _ _ _ (by omega), z_up1_o _ _ _ (by omega), z_up1_o _ _ _ (by omega), z_up1_at, if_neg (fun c => hk c.2), F2.2 101 (by omega)]
      · rw [z_up1_o _ _ _ (by omega), z_up1_o _ _ _ (by omega), z_up1_o _ _ _ (by omega), z_up1_at, if_pos ⟨rfl, rfl⟩]
    by_cases c7 : (7 : Int32) ≤ s (6 * l + 1)
    · rw [if_pos c7]; exact fin _ (by rw [← em, if_pos c7])
    · rw [if_neg c7]; exact fin _ (by rw [← em, if_neg c7])
  · rw [e, if_neg (by decide), if_pos rfl]
    have hM2 : M ||| 2 ^ l = M := z_or_in l hl M hM e
    exact ⟨w, rfl, A2, F2.1, fun i h1 h2 => F2.2 i h1, fun k hk => by rw [F2.2 101 (by omega)], by rw [hM2]; exact w9⟩

theorem z_run_eq {s : z_row} {v : Int32} : ∀ d k i, i < z_run s v k d → s (k + i) = v := by
  intro d
  induction d with
  | zero => intro k i h; exact absurd h (Nat.not_lt_zero i)
  | succ d ih =>
    intro k i h
    simp only [z_run] at h
    by_cases e : s k = v
    · rw [if_pos e] at h
      cases i with
      | zero => exact e
      | succ i => have := ih (k + 1) i (by omega); rwa [show k + 1 + i = k + (i + 1) by omega] at this
    · rw [if_neg e] at h; exact absurd h (Nat.not_lt_zero i)
theorem z_run_stop {s : z_row} {v : Int32} : ∀ d k, z_run s v k d < d → s (k + z_run s v k d) ≠ v := by
  intro d
  induction d with
  | zero => intro k h; exact absurd h (Nat.not_lt_zero _)
  | succ d ih =>
    intro k h
    simp only [z_run] at h ⊢
    by_cases e : s k = v
    · rw [if_pos e] at h ⊢
      have := ih (k + 1) (by omega); rwa [show k + 1 + z_run s v (k + 1) d = k + (z_run s v (k + 1) d + 1) by omega] at this
    · rw [if_neg e] at h ⊢; exact e
theorem z_run_suf {s : z_row} {v : Int32} : ∀ i d k, i ≤ z_run s v k d → z_run s v (k + i) (d - i) = z_run s v k d - i := by
  intro i
  induction i with
  | zero => intro d k _; rfl
  | succ i ih =>
    intro d k h
    cases d with
    | zero => exact absurd h (by simp only [z_run]; omega)
    | succ d =>
      simp only [z_run] at h ⊢
      by_cases e : s k = v
      · rw [if_pos e] at h ⊢
        have := ih d (k + 1) (by omega)
        rw [show k + 1 + i = k + (i + 1) by omega] at this
        rw [show d + 1 - (i + 1) = d - i by omega, this]; omega
      · rw [if_neg e] at h; omega
theorem z_PE_in {s : z_row} {b h j : Nat} (h1 : h ≤ j) (h2 : j < z_PE s b h) : z_hv s b j = z_hv s b h := by
  by_cases e : j = h
  · rw [e]
  · have := z_run_eq (s := s) (v := z_hv s b h) (11 - h) (60 + 12 * b + h + 1) (j - h - 1) (by unfold z_PE at h2; omega)
    rw [show 60 + 12 * b + h + 1 + (j - h - 1) = 60 + 12 * b + j by omega] at this
    exact this
theorem z_PE_st {s : z_row} {b h : Nat} (hh : h < 12) (h2 : z_PE s b h < 12) : z_hv s b (z_PE s b h) ≠ z_hv s b h := by
  have := z_run_stop (s := s) (v := z_hv s b h) (11 - h) (60 + 12 * b + h + 1) (by unfold z_PE at h2; omega)
  rw [show 60 + 12 * b + h + 1 + z_run s (z_hv s b h) (60 + 12 * b + h + 1) (11 - h) = 60 + 12 * b + z_PE s b h by unfold z_PE; omega] at this
  exact this
theorem z_PE_eq {s : z_row} {b h j : Nat} (h1 : h ≤ j) (h2 : j < z_PE s b h) (hh : h < 12) : z_PE s b j = z_PE s b h := by
  have hp := z_PE_le s b h hh
  have e := z_PE_in h1 h2
  have := z_run_suf (s := s) (v := z_hv s b h) (j - h) (11 - h) (60 + 12 * b + h + 1) (by unfold z_PE at h2; omega)
  rw [show 60 + 12 * b + h + 1 + (j - h) = 60 + 12 * b + j + 1 by omega, show 11 - h - (j - h) = 11 - j by omega] at this
  unfold z_PE at h2 ⊢
  rw [e, this]; omega
theorem z_dn_in {s : z_row} {b : Nat} {v : Int32} : ∀ d j i, z_dn s b v j d ≤ i → i < j → z_hv s b i = v := by
  intro d
  induction d with
  | zero => intro j i h1 h2; simp only [z_dn] at h1; omega
  | succ d ih =>
    intro j i h1 h2
    simp only [z_dn] at h1
    by_cases e : z_hv s b (j - 1) = v
    · rw [if_pos e] at h1
      by_cases c : i = j - 1
      · rw [c]; exact e
      · exact ih (j - 1) i h1 (by omega)
    · rw [if_neg e] at h1; omega
theorem z_FS_in {s : z_row} {b f g i : Nat} (h1 : z_FS s b f g ≤ i) (h2 : i ≤ f) : z_hv s b i = z_hv s b f := by
  by_cases e : i = f
  · rw [e]
  · exact z_dn_in _ _ i h1 (by omega)
theorem z_dn_ge {s : z_row} {b : Nat} {v : Int32} : ∀ d j, d ≤ j → j - d ≤ z_dn s b v j d := by
  intro d
  induction d with
  | zero => intro j _; simp only [z_dn]; omega
  | succ d ih =>
    intro j h
    simp only [z_dn]
    split
    · have := ih (j - 1) (by omega); omega
    · omega
theorem z_LI_add (s : z_row) (b a d e : Nat) : z_LI s b a (d + e) = z_LI s b a d + z_LI s b (a + d) e := by
  unfold z_LI
  induction e with
  | zero => rfl
  | succ e ih => rw [← Nat.add_assoc]; simp only [z_sm]; rw [ih]; simp only [Nat.add_assoc]
theorem z_LI_k {s : z_row} {b a d : Nat} (h : ∀ i, a ≤ i → i < a + d → z_hv s b i ≠ -1) : z_LI s b a d = d := by
  unfold z_LI
  induction d with
  | zero => rfl
  | succ d ih => simp only [z_sm]; rw [ih (fun i h1 h2 => h i h1 (by omega)), if_neg (h (a + d) (by omega) (by omega))]
theorem z_LI_z {s : z_row} {b a d : Nat} (h : ∀ i, a ≤ i → i < a + d → z_hv s b i = -1) : z_LI s b a d = 0 := by
  unfold z_LI
  induction d with
  | zero => rfl
  | succ d ih => simp only [z_sm]; rw [ih (fun i h1 h2 => h i h1 (by omega)), if_pos (h (a + d) (by omega) (by omega))]
def z_Zr (s : z_row) (b st d w M : Nat) : z_row := z_PU (upd (upd (z_LE s b st d (-1)) 116 (s 116 + z_I w)) 115 (s 115 + z_I (z_bc M))) M 0 10
theorem z_Zr_n1 (s : z_row) (b st d d' w M : Nat) (hd : d ≤ d') (h : ∀ i, st + d ≤ i → i < st + d' → z_hv s b i = -1) : z_Zr s b st d' w M = z_Zr s b st d w M := by
  have : z_LE s b st d' (-1) = z_LE s b st d (-1) := by
    funext k
    unfold z_LE
    by_cases c : 60 + 12 * b + st ≤ k ∧ k < 60 + 12 * b + st + d
    · rw [if_pos (by omega), if_pos c]
    · rw [if_neg c]
      by_cases c2 : 60 + 12 * b + st ≤ k ∧ k < 60 + 12 * b + st + d'
      · rw [if_pos c2]
        have := h (k - (60 + 12 * b)) (by omega) (by omega)
        unfold z_hv at this
        rw [show 60 + 12 * b + (k - (60 + 12 * b)) = k by omega] at this
        exact this.symm
      · rw [if_neg c2]
  unfold z_Zr; rw [this]
theorem z_Zr_hv {s : z_row} {b st d w M : Nat} (c j : Nat) (z_hc : c < 4) (hj : j < 12) (hb : b < 4) (hd : st + d ≤ 12) : z_hv (z_Zr s b st d w M) c j = if c = b ∧ st ≤ j ∧ j < st + d then -1 else z_hv s c j := by
  unfold z_Zr z_hv z_PU upd z_LE
  rw [if_neg (by omega), if_neg (by omega), if_neg (by omega)]
  by_cases h : c = b ∧ st ≤ j ∧ j < st + d
  · rw [if_pos h, if_pos (by obtain ⟨h1, h2, h3⟩ := h; subst h1; omega)]
  · rw [if_neg h, if_neg (by intro h2; apply h; omega)]
theorem z_Zr_o {s : z_row} {b st d w M : Nat} {k : Nat} (hk : 60 ≤ k) (hb : b < 4) (h : ¬ (60 + 12 * b + st ≤ k ∧ k < 60 + 12 * b + st + d)) (h1 : k ≠ 116) (h2 : k ≠ 115) : z_Zr s b st d w M k = s k := by
  unfold z_Zr z_PU upd z_LE
  rw [if_neg (by omega), if_neg h2, if_neg h1, if_neg h]
theorem z_Zr_l {s : z_row} {b st d w M : Nat} {l q : Nat} (hl : l < 10) (hq : q < 6) : z_Zr s b st d w M (6 * l + q) = if z_bt M l = 1 then (if q = 4 then s (6 * l + q) + 1 else if q = 1 then z_mi (s (6 * l + q)) else s (6 * l + q)) else s (6 * l + q) := by
  unfold z_Zr z_PU
  have e : upd (upd (z_LE s b st d (-1)) 116 (s 116 + z_I w)) 115 (s 115 + z_I (z_bc M)) (6 * l + q) = s (6 * l + q) := (if_neg (by omega)).trans ((if_neg (by omega)).trans (if_neg (by omega)))
  rw [e, show (6 * l + q) / 6 = l by omega, show (6 * l + q) % 6 = q by omega]
  by_cases h : z_bt M l = 1
  · rw [if_pos ⟨by omega, h⟩, if_pos h]
  · rw [if_neg (fun c => h c.2), if_neg h]
theorem z_Zr_116 (s : z_row) (b st d w M : Nat) : z_Zr s b st d w M 116 = s 116 + z_I w := by
  unfold z_Zr z_PU; rw [if_neg (by omega)]; exact (if_neg (by omega)).trans (if_pos rfl)
theorem z_Zr_115 (s : z_row) (b st d w M : Nat) : z_Zr s b st d w M 115 = s 115 + z_I (z_bc M) := by
  unfold z_Zr z_PU; rw [if_neg (by omega)]; exact if_pos rfl
theorem z_Zr_LS (s : z_row) {b st d w M e : Nat} (hb : b < 4) (hd : st + d + e ≤ 12) : z_LS (z_Zr s b st d w M) b (st + d) e = z_Zr s b st (d + e) (w + e) M := by
  funext k
  unfold z_LS
  by_cases h : k = 116
  · subst h
    rw [show ∀ (t : z_row) v, upd t 116 v 116 = v from fun t v => if_pos rfl, z_Zr_116, z_Zr_116, Int32.add_assoc, z_I_add]
  · rw [show ∀ (t : z_row) v, upd t 116 v k = t k from fun t v => if_neg h]
    unfold z_LE
    by_cases h2 : 60 + 12 * b + (st + d) ≤ k ∧ k < 60 + 12 * b + (st + d) + e
    · rw [if_pos h2]
      unfold z_Zr z_PU upd z_LE
      rw [if_neg (by omega), if_neg (by omega), if_neg (by omega), if_pos (by omega)]
    · rw [if_neg h2]
      unfold z_Zr z_PU upd z_LE
      by_cases h3 : 60 + 12 * b + st ≤ k ∧ k < 60 + 12 * b + st + d
      · simp only [h, if_false, if_pos h3, if_pos (show 60 + 12 * b + st ≤ k ∧ k < 60 + 12 * b + st + (d + e) by omega)]
      · simp only [h, if_false, if_neg h3, if_neg (show ¬ (60 + 12 * b + st ≤ k ∧ k < 60 + 12 * b + st + (d + e)) by omega)]
theorem z_bt_or : ∀ l, l < 10 → ∀ k, k < 10 → ∀ M, M < 1024 → z_bt (M ||| 2 ^ l) k = if k = l then 1 else z_bt M k := by
  intro l hl k hk M hM
  have tb : ∀ N j, z_bt N j = if N.testBit j = true then 1 else 0 := fun N j => by
    unfold z_bt; rw [Nat.testBit_eq_decide_div_mod_eq]
    by_cases h : N / 2 ^ j % 2 = 1
    · simp [h]
    · have : N / 2 ^ j % 2 = 0 := by omega
      simp [this]
  rw [tb, tb, Nat.testBit_or, Nat.testBit_two_pow]
  by_cases h : k = l
  · subst h; simp
  · have : ¬ l = k := fun e => h e.symm
    simp [h, this]
theorem z_bc_or {l M : Nat} (hl : l < 10) (hM : M < 1024) (h : z_bt M l = 0) : z_bc (M ||| 2 ^ l) = z_bc M + 1 := by
  have e : ∀ k, k < 10 → z_bt (M ||| 2 ^ l) k = z_bt M k + (if k = l then 1 else 0) := fun k hk => by
    rw [z_bt_or l hl k hk M hM]; by_cases c : k = l
    · rw [if_pos c, if_pos c, c, h]
    · rw [if_neg c, if_neg c]; rfl
  have g : ∀ n, n ≤ 10 → z_sm (fun k => z_bt (M ||| 2 ^ l) k) n = z_sm (fun k => z_bt M k) n + (if l < n then 1 else 0) := by
    intro n
    induction n with
    | zero => intro _; simp [z_sm]
    | succ n ih =>
      intro z_hn
      simp only [z_sm]
      rw [ih (by omega), e n (by omega)]
      by_cases c : n = l
      · rw [if_pos c, if_neg (by omega), if_pos (by omega)]; omega
      · rw [if_neg c]
        by_cases c2 : l < n
        · rw [if_pos c2, if_pos (by omega)]; omega
        · rw [if_neg c2, if_neg (by omega)]; omega
  unfold z_bc; rw [g 10 (Nat.le_refl _), if_pos hl]
theorem z_Zr_PC (s : z_row) {b st d w M l : Nat} (hb : b < 4) (hl : l < 10) (hM : M < 1024) (hd : st + d ≤ 12) : z_PC (z_Zr s b st d w M) l M = z_Zr s b st d w (M ||| 2 ^ l) := by
  unfold z_PC
  by_cases h : z_bt M l = 1
  · rw [if_pos h, z_or_in l hl M hM h]
  · have h0 : z_bt M l = 0 := by have := z_bt_2 M l; omega
    have e1 := z_Zr_l (s := s) (b := b) (st := st) (d := d) (w := w) (M := M) hl (show 1 < 6 by omega)
    have e4 := z_Zr_l (s := s) (b := b) (st := st) (d := d) (w := w) (M := M) hl (show 4 < 6 by omega)
    rw [if_neg h] at e1 e4
    rw [if_neg h, e1, e4, z_Zr_115]
    funext k
    by_cases hk : k < 60
    · have ek := z_Zr_l (s := s) (b := b) (st := st) (d := d) (w := w) (M := M) (l := k / 6) (q := k % 6) (by omega) (by omega)
      have ek' := z_Zr_l (s := s) (b := b) (st := st) (d := d) (w := w) (M := M ||| 2 ^ l) (l := k / 6) (q := k % 6) (by omega) (by omega)
      rw [show 6 * (k / 6) + k % 6 = k by omega] at ek ek'
      rw [ek', z_bt_or l hl (k / 6) (by omega) M hM]
      by_cases c : k / 6 = l
      · rw [if_pos c, if_pos rfl]
        by_cases c1 : k % 6 = 1
        · have : k = 6 * l + 1 := by omega
          rw [show ∀ (t : z_row) v, upd t (6 * l + 1) v k = v from fun t v => if_pos this, if_neg (by omega), if_pos c1, this]
        · rw [show ∀ (t : z_row) v, upd t (6 * l + 1) v k = t k from fun t v => if_neg (by omega)]
          by_cases c4 : k % 6 = 4
          · have : k = 6 * l + 4 := by omega
            rw [show ∀ (t : z_row) v, upd t (6 * l + 4) v k = v from fun t v => if_pos this, if_pos c4, this]
          · rw [show ∀ (t : z_row) v, upd t (6 * l + 4) v k = t k from fun t v => if_neg (by omega), show ∀ (t : z_row) v, upd t 115 v k = t k from fun t v => if_neg (by omega), ek, if_neg c4, if_neg c1]
            split <;> rfl
      · rw [if_neg c, show ∀ (t : z_row) v, upd t (6 * l + 1) v k = t k from fun t v => if_neg (by omega), show ∀ (t : z_row) v, upd t (6 * l + 4) v k = t k from fun t v => if_neg (by omega), show ∀ (t : z_row) v, upd t 115 v k = t k from fun t v => if_neg (by omega), ek]
    · rw [show ∀ (t : z_row) v, upd t (6 * l + 1) v k = t k from fun t v => if_neg (by omega), show ∀ (t : z_row) v, upd t (6 * l + 4) v k = t k from fun t v => if_neg (by omega)]
      by_cases c : k = 115
      · subst c
        rw [show ∀ (t : z_row) v, upd t 115 v 115 = v from fun t v => if_pos rfl, z_Zr_115, z_bc_or hl hM h0, Int32.add_assoc, show (1 : Int32) = z_I 1 from rfl, z_I_add]
      · rw [show ∀ (t : z_row) v, upd t 115 v k = t k from fun t v => if_neg c]
        unfold z_Zr z_PU upd
        rw [if_neg (by omega), if_neg c, if_neg (show ¬ ((0 ≤ k / 6 ∧ k / 6 < 0 + 10) ∧ z_bt (M ||| 2 ^ l) (k / 6) = 1) by omega), if_neg c]

theorem z_fo_r {α : Type} (g : α → Nat → α) : ∀ d a j, z_fo g a j (d + 1) = g (z_fo g a j d) (j + d) := by
  intro d
  induction d with
  | zero => intro a j; rfl
  | succ d ih => intro a j; rw [show z_fo g a j (d + 1 + 1) = z_fo g (g a j) (j + 1) (d + 1) from rfl, ih]; rw [show j + 1 + d = j + (d + 1) by omega]; rfl
theorem z_MK_s (s : z_row) (b f i : Nat) : z_MK s b f (i + 1) = z_MK s b f i ||| z_hm (z_hv s b (f + i)) := z_fo_r _ _ _ _
def z_Ez (s : z_row) (b f g i : Nat) : Nat := if i = 0 then z_FS s b f g else z_PE s b (f + i - 1)
def z_Zi (s : z_row) (b f g i : Nat) : z_row := z_Zr s b (z_FS s b f g) (z_Ez s b f g i - z_FS s b f g) (z_LI s b (z_FS s b f g) (z_Ez s b f g i - z_FS s b f g)) (z_MK s b f i)
theorem z_Zi_0 (s : z_row) (b f g : Nat) : z_Zi s b f g 0 = s := by
  unfold z_Zi z_Ez
  rw [if_pos rfl, Nat.sub_self]
  funext k
  unfold z_Zr z_PU
  have hz : ∀ j, z_bt (z_MK s b f 0) j = 0 := fun j => by unfold z_MK z_bt z_fo; simp
  rw [if_neg (fun h => by have := h.2; rw [hz] at this; omega)]
  unfold upd
  rw [z_LE_0]
  by_cases h : k = 115
  · rw [if_pos h, h, show z_I (z_bc (z_MK s b f 0)) = 0 from (by decide : z_I (z_bc 0) = 0), Int32.add_zero]
  · rw [if_neg h]
    by_cases h2 : k = 116
    · rw [if_pos h2, h2]; exact Int32.add_zero _
    · rw [if_neg h2]
theorem z_MK_lt2 {s : z_row} (O : z_VH s) {b f i : Nat} (hb : b < 4) (hh : f + i ≤ 12) : z_MK s b f i < 1024 := z_MK_lt O hb i 0 f hh (by decide)
theorem z_or_abs (a b : Nat) : (a ||| b) ||| b = a ||| b := by rw [Nat.or_assoc, Nat.or_self]
theorem z_Zi_skip {s : z_row} (O : z_VH s) {b f g i : Nat} (hb : b < 4) (hh : f + (i + 1) ≤ 12) (h : z_hv (z_Zi s b f g i) b (f + i) = -1) : z_Zi s b f g (i + 1) = z_Zi s b f g i := by
  have hF := z_FS_le s b f g
  have hp := z_PE_le s b (f + i) (by omega)
  have hE : f ≤ z_Ez s b f g i ∨ i = 0 := by
    by_cases c : i = 0
    · exact Or.inr c
    · left; unfold z_Ez; rw [if_neg c]; have := z_PE_le s b (f + i - 1) (by omega); omega
  have hE12 : z_Ez s b f g i ≤ 12 ∧ z_FS s b f g ≤ z_Ez s b f g i := by
    unfold z_Ez
    by_cases c : i = 0
    · rw [if_pos c]; omega
    · rw [if_neg c]; have := z_PE_le s b (f + i - 1) (by omega); omega
  have hE1 : z_Ez s b f g (i + 1) = z_PE s b (f + i) := by unfold z_Ez; rw [if_neg (by omega)]; congr 1
  unfold z_Zi at h
  rw [z_Zr_hv b (f + i) hb (by omega) hb (by omega)] at h
  by_cases cA : f + i < z_Ez s b f g i
  · have ci : i ≠ 0 := by
      intro c; subst c; unfold z_Ez at cA; rw [if_pos rfl] at cA; omega
    have eE : z_Ez s b f g i = z_PE s b (f + i - 1) := by unfold z_Ez; rw [if_neg ci]
    rw [eE] at cA
    have e1 := z_PE_in (s := s) (b := b) (h := f + i - 1) (j := f + i) (by omega) cA
    have e2 := z_PE_eq (s := s) (b := b) (h := f + i - 1) (j := f + i) (by omega) cA (by omega)
    unfold z_Zi
    obtain ⟨k, rfl⟩ : ∃ k, i = k + 1 := ⟨i - 1, by omega⟩
    rw [hE1, eE, e2, z_MK_s s b f (k + 1), e1, z_MK_s s b f k, show f + (k + 1) - 1 = f + k by omega, z_or_abs]
  · have hvn : z_hv s b (f + i) = -1 := by
      by_cases c : b = b ∧ z_FS s b f g ≤ f + i ∧ f + i < z_FS s b f g + (z_Ez s b f g i - z_FS s b f g)
      · omega
      · rw [if_neg c] at h; exact h
    have allz : ∀ j, z_Ez s b f g i ≤ j → j < z_PE s b (f + i) → z_hv s b j = -1 := by
      intro j h1 h2
      by_cases c : f + i ≤ j
      · rw [z_PE_in c h2]; exact hvn
      · rcases hE with q | q
        · have : i ≠ 0 := by intro z; subst z; omega
          unfold z_Ez at h1; rw [if_neg this] at h1
          have := z_PE_le s b (f + i - 1) (by omega); omega
        · subst q
          unfold z_Ez at h1; rw [if_pos rfl] at h1
          rw [z_FS_in h1 (by omega)]; exact hvn
    unfold z_Zi
    rw [hE1, z_MK_s, hvn, show z_hm (-1) = 0 from rfl, Nat.or_zero]
    have eL : z_LI s b (z_FS s b f g) (z_PE s b (f + i) - z_FS s b f g) = z_LI s b (z_FS s b f g) (z_Ez s b f g i - z_FS s b f g) := by
      have hle : z_Ez s b f g i ≤ z_PE s b (f + i) := by omega
      rw [show z_PE s b (f + i) - z_FS s b f g = (z_Ez s b f g i - z_FS s b f g) + (z_PE s b (f + i) - z_Ez s b f g i) by omega, z_LI_add, show z_FS s b f g + (z_Ez s b f g i - z_FS s b f g) = z_Ez s b f g i by omega]
      rw [z_LI_z (a := z_Ez s b f g i) (fun j h1 h2 => allz j h1 (by omega)), Nat.add_zero]
    rw [eL]
    exact z_Zr_n1 s b _ _ _ _ _ (by omega) (fun j h1 h2 => allz j (by omega) (by omega))
theorem z_Zi_put {s : z_row} (O : z_VH s) {b f g i l : Nat} (hb : b < 4) (hgf : g ≤ f) (hh : f + (i + 1) ≤ 12) (hl : l < 10) (h : z_hv (z_Zi s b f g i) b (f + i) = z_I l) : z_PC (z_PB (z_Zi s b f g i) b (f + i) g) l (z_MK s b f i) = z_Zi s b f g (i + 1) := by
  have hF := z_FS_le s b f g
  have hp := z_PE_le s b (f + i) (by omega)
  have hM := z_MK_lt2 O (b := b) (f := f) (i := i) hb (by omega)
  have hE12 : z_Ez s b f g i ≤ 12 ∧ z_FS s b f g ≤ z_Ez s b f g i := by
    unfold z_Ez
    by_cases c : i = 0
    · rw [if_pos c]; omega
    · rw [if_neg c]; have := z_PE_le s b (f + i - 1) (by omega); omega
  have hE1 : z_Ez s b f g (i + 1) = z_PE s b (f + i) := by unfold z_Ez; rw [if_neg (by omega)]; congr 1
  have hvt := fun j (hj : j < 12) => z_Zr_hv (s := s) (b := b) (st := z_FS s b f g) (d := z_Ez s b f g i - z_FS s b f g) (w := z_LI s b (z_FS s b f g) (z_Ez s b f g i - z_FS s b f g)) (M := z_MK s b f i) b j hb hj hb (by omega)
  have n1 : z_I l ≠ -1 := by rw [Ne, z_I_n1 (by omega)]; exact id
  have hnin : ¬ (b = b ∧ z_FS s b f g ≤ f + i ∧ f + i < z_FS s b f g + (z_Ez s b f g i - z_FS s b f g)) := by
    intro c
    unfold z_Zi at h
    rw [hvt (f + i) (by omega), if_pos c] at h
    exact n1 h.symm
  have hs : z_hv s b (f + i) = z_I l := by
    unfold z_Zi at h
    rw [hvt (f + i) (by omega), if_neg hnin] at h; exact h
  have hEi : z_Ez s b f g i ≤ f + i := by omega
  have hPEt : z_PE (z_Zi s b f g i) b (f + i) = z_PE s b (f + i) := by
    unfold z_PE
    rw [h, hs, z_run_E (s := z_Zi s b f g i) (t := s) _ _ (fun k h1 h2 => by unfold z_Zi; exact z_Zr_o (by omega) hb (by omega) (by omega) (by omega))]
  have hhm : z_hm (z_hv s b (f + i)) = 2 ^ l := by
    rw [hs]; unfold z_hm; rw [if_neg n1, z_I_nat (by omega)]
  have key : z_PB (z_Zi s b f g i) b (f + i) g = z_Zr s b (z_FS s b f g) (z_PE s b (f + i) - z_FS s b f g) (z_LI s b (z_FS s b f g) (z_PE s b (f + i) - z_FS s b f g)) (z_MK s b f i) := by
    unfold z_PB
    rw [hPEt]
    by_cases ci : i = 0
    · subst ci
      rw [z_Zi_0] at h ⊢
      rw [Nat.add_zero] at *
      have hL : z_LI s b (z_FS s b f g) (z_PE s b f - z_FS s b f g) = z_PE s b f - z_FS s b f g := z_LI_k (fun j h1 h2 => by
        by_cases c : j ≤ f
        · rw [z_FS_in h1 c, hs]; exact n1
        · rw [z_PE_in (show f ≤ j by omega) (by omega), hs]; exact n1)
      rw [hL]
      have := z_Zr_LS s (b := b) (st := z_FS s b f g) (d := 0) (w := 0) (M := z_MK s b f 0) (e := z_PE s b f - z_FS s b f g) hb (by omega)
      rw [Nat.zero_add, Nat.add_zero] at this
      rw [← this]
      have z0 : z_Zr s b (z_FS s b f g) 0 0 (z_MK s b f 0) = s := by
        have := z_Zi_0 s b f g
        unfold z_Zi z_Ez at this
        rw [if_pos rfl, Nat.sub_self] at this
        exact this
      rw [z0]
    · have eE : z_Ez s b f g i = z_PE s b (f + i - 1) := by unfold z_Ez; rw [if_neg ci]
      have hpe := z_PE_le s b (f + i - 1) (by omega)
      have eEi : z_Ez s b f g i = f + i := by omega
      have hFSt : z_FS (z_Zi s b f g i) b (f + i) g = f + i := by
        unfold z_FS
        obtain ⟨d, hd⟩ : ∃ d, f + i - g = d + 1 := ⟨f + i - g - 1, by omega⟩
        rw [hd]
        simp only [z_dn]
        rw [if_neg]
        rw [h]
        unfold z_Zi
        rw [hvt (f + i - 1) (by omega), if_pos ⟨rfl, by omega, by omega⟩]
        exact fun c => n1 c.symm
      rw [hFSt]
      have := z_Zr_LS s (b := b) (st := z_FS s b f g) (d := z_Ez s b f g i - z_FS s b f g) (w := z_LI s b (z_FS s b f g) (z_Ez s b f g i - z_FS s b f g)) (M := z_MK s b f i) (e := z_PE s b (f + i) - (f + i)) hb (by omega)
      rw [show z_FS s b f g + (z_Ez s b f g i - z_FS s b f g) = f + i by omega] at this
      unfold z_Zi
      rw [this]
      rw [show z_PE s b (f + i) - z_FS s b f g = (z_Ez s b f g i - z_FS s b f g) + (z_PE s b (f + i) - (f + i)) by omega, z_LI_add, show z_FS s b f g + (z_Ez s b f g i - z_FS s b f g) = f + i by omega]
      rw [z_LI_k (a := f + i) (fun j h1 h2 => by rw [z_PE_in h1 (by omega), hs]; exact n1)]
  rw [key, z_Zr_PC s hb hl hM (by omega)]
  unfold z_Zi
  rw [hE1, z_MK_s, hhm]

theorem z_updP (t : z_row) {a k : Nat} (h : k = a) (v : Int32) : upd t a v k = v := if_pos h
theorem z_updN (t : z_row) {a k : Nat} (h : k ≠ a) (v : Int32) : upd t a v k = t k := if_neg h
theorem z_LEP {t : z_row} {b f n k : Nat} {v : Int32} (h : 60 + 12 * b + f ≤ k ∧ k < 60 + 12 * b + f + n) : z_LE t b f n v k = v := if_pos h
theorem z_LEN {t : z_row} {b f n k : Nat} {v : Int32} (h : ¬ (60 + 12 * b + f ≤ k ∧ k < 60 + 12 * b + f + n)) : z_LE t b f n v k = t k := if_neg h
def z_RG (t : z_row) (l b f n : Nat) (p q : Int32) : z_row :=
  upd (upd (upd (upd (upd (z_LE t b f n (z_I l)) (6 * l + 1) 0) (6 * l + 5) (t (6 * l + 5) + p)) (6 * l + 2) (t (6 * l + 2) - q)) 117 (t 117 + q)) 110 (t 110 + 1)
theorem z_RG_8 (t : z_row) {l b f n : Nat} (hl : l < 10) (hb : b < 4) (hh : f + n ≤ 12) : z_RG t l b f n 1 0 = z_GZ (upd t (6 * l + 5) (t (6 * l + 5) + 1)) l b f n := by
  unfold z_RG z_GZ
  rw [z_LEN (k := 110) (by omega), z_updN _ (k := 110) (by omega), z_updN _ (k := 110) (by omega), Int32.sub_zero, Int32.add_zero]
  funext k
  by_cases h1 : k = 110
  · rw [z_updP _ h1, z_updP _ h1]
  · rw [z_updN _ h1, z_updN _ h1]
    by_cases h2 : k = 117
    · rw [z_updP _ h2, z_LEN (by omega), z_updN _ (by omega), z_updN _ (by omega), h2]
    · rw [z_updN _ h2]
      by_cases h3 : k = 6 * l + 2
      · rw [z_updP _ h3, z_LEN (by omega), z_updN _ (by omega), z_updN _ (by omega), h3]
      · rw [z_updN _ h3]
        by_cases h4 : k = 6 * l + 5
        · rw [z_updP _ h4, z_LEN (by omega), z_updN _ (by omega), z_updP _ h4]
        · rw [z_updN _ h4]
          by_cases h5 : k = 6 * l + 1
          · rw [z_updP _ h5, z_LEN (by omega), z_updP _ h5]
          · rw [z_updN _ h5]
            by_cases h6 : 60 + 12 * b + f ≤ k ∧ k < 60 + 12 * b + f + n
            · rw [z_LEP h6, z_LEP h6]
            · rw [z_LEN h6, z_LEN h6, z_updN _ h5, z_updN _ h4]
theorem z_RG_F (t : z_row) {l b f n : Nat} (hl : l < 10) (hb : b < 4) (hh : f + n ≤ 12) : z_RG t l b f n 0 1 = z_GZ (z_GF t l) l b f n := by
  unfold z_RG z_GZ z_GF
  rw [z_LEN (k := 110) (by omega), z_updN _ (k := 110) (by omega), z_updN _ (k := 110) (by omega), z_updN _ (k := 110) (by omega), z_updN _ (k := 117) (by omega), Int32.add_zero, Int32.sub_eq_add_neg]
  funext k
  by_cases h1 : k = 110
  · rw [z_updP _ h1, z_updP _ h1]
  · rw [z_updN _ h1, z_updN _ h1]
    by_cases h2 : k = 117
    · rw [z_updP _ h2, z_LEN (by omega), z_updN _ (by omega), z_updP _ h2]
    · rw [z_updN _ h2]
      by_cases h3 : k = 6 * l + 2
      · rw [z_updP _ h3, z_LEN (by omega), z_updN _ (by omega), z_updN _ (by omega), z_updP _ h3]
      · rw [z_updN _ h3]
        by_cases h4 : k = 6 * l + 5
        · rw [z_updP _ h4, z_LEN (by omega), z_updN _ (by omega), z_updN _ (by omega), z_updN _ (by omega), h4]
        · rw [z_updN _ h4]
          by_cases h5 : k = 6 * l + 1
          · rw [z_updP _ h5, z_LEN (by omega), z_updP _ h5]
          · rw [z_updN _ h5]
            by_cases h6 : 60 + 12 * b + f ≤ k ∧ k < 60 + 12 * b + f + n
            · rw [z_LEP h6, z_LEP h6]
            · rw [z_LEN h6, z_LEN h6, z_updN _ h5, z_updN _ h2, z_updN _ h3]
theorem z_RG_0 (t : z_row) {l b f n : Nat} (hl : l < 10) (hb : b < 4) (hh : f + n ≤ 12) : z_RG t l b f n 0 0 = z_GZ t l b f n := by
  unfold z_RG z_GZ
  rw [z_LEN (k := 110) (by omega), z_updN _ (k := 110) (by omega), Int32.add_zero, Int32.sub_zero, Int32.add_zero]
  funext k
  by_cases h1 : k = 110
  · rw [z_updP _ h1, z_updP _ h1]
  · rw [z_updN _ h1, z_updN _ h1]
    by_cases h2 : k = 117
    · rw [z_updP _ h2, z_LEN (by omega), z_updN _ (by omega), h2]
    · rw [z_updN _ h2]
      by_cases h3 : k = 6 * l + 2
      · rw [z_updP _ h3, z_LEN (by omega), z_updN _ (by omega), h3]
      · rw [z_updN _ h3]
        by_cases h4 : k = 6 * l + 5
        · rw [z_updP _ h4, z_LEN (by omega), z_updN _ (by omega), h4]
        · rw [z_updN _ h4]
          by_cases h5 : k = 6 * l + 1
          · rw [z_updP _ h5, z_LEN (by omega), z_updP _ h5]
          · rw [z_updN _ h5]
            by_cases h6 : 60 + 12 * b + f ≤ k ∧ k < 60 + 12 * b + f + n
            · rw [z_LEP h6, z_LEP h6]
            · rw [z_LEN h6, z_LEN h6, z_updN _ h5]
theorem z_PUo (t : z_row) (M : Nat) {k : Nat} (h : 60 ≤ k) : z_PU t M 0 10 k = t k := by unfold z_PU; rw [if_neg (by omega)]
theorem z_G8_Z (s : z_row) {l b f n g : Nat} (hl : l < 10) (hb : b < 4) (z_hn : 1 ≤ n) (hh : f + n ≤ 12) : z_G8 s l b f n g = upd (z_Zi s b f g n) (6 * l + 5) (z_Zi s b f g n (6 * l + 5) + 1) := by
  have E1 : z_EqH (z_GE s l) s := z_EqH_upd (by omega) _
  have eM : z_MK (z_GE s l) b f n = z_MK s b f n := z_MK_c E1 hb hh
  have E2 : z_EqH (z_CP (z_GE s l) (z_MK s b f n)) s := z_EqH_trans (z_EqH_PU _ _ _ _ (by omega)) (z_EqH_trans (z_EqH_upd (by omega) _) E1)
  have eF : z_FS (z_CP (z_GE s l) (z_MK s b f n)) b f g = z_FS s b f g := z_FS_c E2 hb (by omega)
  have eP : z_PE (z_CP (z_GE s l) (z_MK s b f n)) b (f + n - 1) = z_PE s b (f + n - 1) := z_PE_c E2 hb (by omega)
  have hF := z_FS_le s b f g
  have hP := z_PE_le s b (f + n - 1) (by omega)
  have eL : z_LI (z_CP (z_GE s l) (z_MK s b f n)) b (z_FS s b f g) (z_PE s b (f + n - 1) - z_FS s b f g) = z_LI s b (z_FS s b f g) (z_PE s b (f + n - 1) - z_FS s b f g) := z_LI_c E2 hb (by omega)
  have z5 : z_Zi s b f g n (6 * l + 5) = s (6 * l + 5) := by
    unfold z_Zi; rw [z_Zr_l hl (by omega)]; split <;> rfl
  unfold z_G8
  dsimp only
  rw [eM, eF, eP, eL, z5, z_LEN (k := 116) (by omega)]
  have eE : z_Ez s b f g n = z_PE s b (f + n - 1) := by unfold z_Ez; rw [if_neg (by omega)]
  unfold z_Zi
  rw [eE]
  generalize z_LI s b (z_FS s b f g) (z_PE s b (f + n - 1) - z_FS s b f g) = w
  have hd : z_FS s b f g + (z_PE s b (f + n - 1) - z_FS s b f g) ≤ 12 := by omega
  generalize z_PE s b (f + n - 1) - z_FS s b f g = d at *
  generalize z_FS s b f g = st at *
  generalize z_MK s b f n = M at *
  unfold z_CP z_GE z_Zr
  funext k
  by_cases h1 : k = 116
  · subst h1
    rw [z_updP _ rfl, z_PUo _ _ (show 60 ≤ 116 by omega), z_updN _ (show 116 ≠ 6 * l + 5 by omega), z_PUo _ _ (show 60 ≤ 116 by omega), z_updN _ (show 116 ≠ 115 by omega), z_updN _ (show 116 ≠ 6 * l + 5 by omega), z_updN _ (show 116 ≠ 115 by omega), z_updP _ rfl]
  · rw [z_updN _ h1]
    by_cases h2 : 60 + 12 * b + st ≤ k ∧ k < 60 + 12 * b + st + d
    · rw [z_LEP h2, z_updN _ (by omega), z_PUo _ _ (by omega), z_updN _ (by omega), z_updN _ h1, z_LEP h2]
    · rw [z_LEN h2]
      by_cases h3 : k = 6 * l + 5
      · rw [z_updP _ h3]
        unfold z_PU
        rw [z_updN _ (by omega), z_updP _ h3]
        split
        · rw [if_neg (by omega), if_neg (by omega)]
        · rfl
      · rw [z_updN _ h3]
        have e1 : upd (upd s (6 * l + 5) (s (6 * l + 5) + 1)) 115 ((upd s (6 * l + 5) (s (6 * l + 5) + 1)) 115 + z_I (z_bc M)) k = upd (upd (z_LE s b st d (-1)) 116 (s 116 + z_I w)) 115 (s 115 + z_I (z_bc M)) k := by
          by_cases h4 : k = 115
          · rw [z_updP _ h4, z_updP _ h4, z_updN _ (by omega)]
          · rw [z_updN _ h4, z_updN _ h4, z_updN _ h3, z_updN _ h1, z_LEN h2]
        unfold z_PU
        rw [e1]

def z_F9 (x x' : xS) : Prop := x'.2 = x.2 ∧ (∀ i, i ≠ 102 → i ≠ 101 → x'.1 i = x.1 i) ∧ (∀ k, k ≠ 9 → x'.1 101 k = x.1 101 k)
theorem z_F9_refl (x : xS) : z_F9 x x := ⟨rfl, fun _ _ _ => rfl, fun _ _ => rfl⟩
theorem z_F9_t {x y z : xS} (h : z_F9 x y) (k : z_F9 y z) : z_F9 x z := ⟨k.1.trans h.1, fun i a b => (k.2.1 i a b).trans (h.2.1 i a b), fun i a => (k.2.2 i a).trans (h.2.2 i a)⟩
theorem z_F9_R {x x' : xS} (h : z_FrR x x') : z_F9 x x' := ⟨h.1, fun i a b => h.2 i a, fun k _ => by rw [h.2 101 (by omega)]⟩
def z_p01 (v : Int32) : Int32 := if v = 0 then 0 else 1
theorem z_r_finish {l b : Nat} (hl : l < 10) (v5 v6 : Int32) {x : xS} {u : z_row} (A : z_Rr x u) :
    ∃ x', (Option.bind (fX7_of (z_I l) 1 x) (fun r216 => (if r216 < 0 ∨ ln (101 + 1) ≤ r216.toNatClampNeg then none else lt1 (up1 x (101 + 1) r216.toNatClampNeg 0) (fun x220 => Option.bind (fX7_of (z_I l) 5 x220) (fun r227 => (if r227 < 0 ∨ ln (101 + 1) ≤ r227.toNatClampNeg then none else (if v5 = 0 then fX7_asks_b242 101 (z_I l) v6 (z_I b) r227 (x220.1 (101 + 1) r227.toNatClampNeg) 0 x220 else fX7_asks_b242 101 (z_I l) v6 (z_I b) r227 (x220.1 (101 + 1) r227.toNatClampNeg) 1 x220)))))))
      = some (z_I (10 + b), x') ∧ z_Rr x' (upd (upd (upd (upd (upd u (6 * l + 1) 0) (6 * l + 5) (u (6 * l + 5) + z_p01 v5)) (6 * l + 2) (u (6 * l + 2) - z_p01 v6)) 117 (u 117 + z_p01 v6)) 110 (u 110 + 1)) ∧ z_FrR x x' := by
  rw [show fX7_of (z_I l) 1 x = _ from z_r_of l 1 x, z_ob, z_gm (by omega), z_I_nat (by omega), z_lt_]
  have A1 := z_Rr_up A (6 * l + 1) 0
  rw [show fX7_of (z_I l) 5 _ = _ from z_r_of l 5 _, z_ob, z_gm (by omega), z_I_nat (by omega)]
  rw [show (up1 x (101 + 1) (6 * l + 1) 0).1 (101 + 1) (6 * l + 5) = u (6 * l + 5) from (A1 _ (by omega)).trans (z_updN _ (by omega) _)]
  have e5 : ∀ y, (if v5 = 0 then fX7_asks_b242 101 (z_I l) v6 (z_I b) (z_I (6 * l + 5)) (u (6 * l + 5)) 0 y else fX7_asks_b242 101 (z_I l) v6 (z_I b) (z_I (6 * l + 5)) (u (6 * l + 5)) 1 y) = fX7_asks_b242 101 (z_I l) v6 (z_I b) (z_I (6 * l + 5)) (u (6 * l + 5)) (z_p01 v5) y := fun y => by
    unfold z_p01; by_cases c : v5 = 0
    · rw [if_pos c, if_pos c]
    · rw [if_neg c, if_neg c]
  rw [e5]
  unfold fX7_asks_b242
  rw [z_gm (by omega), z_I_nat (by omega), z_lt_]
  have A2 := z_Rr_up A1 (6 * l + 5) (u (6 * l + 5) + z_p01 v5)
  rw [show fX7_of (z_I l) 2 _ = _ from z_r_of l 2 _, z_ob, z_gm (by omega), z_I_nat (by omega)]
  rw [show (up1 (up1 x (101 + 1) (6 * l + 1) 0) (101 + 1) (6 * l + 5) (u (6 * l + 5) + z_p01 v5)).1 (101 + 1) (6 * l + 2) = u (6 * l + 2) from (A2 _ (by omega)).trans ((z_updN _ (by omega) _).trans (z_updN _ (by omega) _))]
  have e6 : ∀ y, (if v6 = 0 then fX7_asks_b265 101 v6 (z_I b) (z_I (6 * l + 2)) (u (6 * l + 2)) 0 y else fX7_asks_b265 101 v6 (z_I b) (z_I (6 * l + 2)) (u (6 * l + 2)) 1 y) = fX7_asks_b265 101 v6 (z_I b) (z_I (6 * l + 2)) (u (6 * l + 2)) (z_p01 v6) y := fun y => by
    unfold z_p01; by_cases c : v6 = 0
    · rw [if_pos c, if_pos c]
    · rw [if_neg c, if_neg c]
  rw [e6]
  unfold fX7_asks_b265
  rw [z_gm (by omega), z_I_nat (by omega), z_lt_, z_L117, z_gm (by omega), z_I_nat (by omega)]
  have A3 := z_Rr_up A2 (6 * l + 2) (u (6 * l + 2) - z_p01 v6)
  rw [show (up1 (up1 (up1 x (101 + 1) (6 * l + 1) 0) (101 + 1) (6 * l + 5) (u (6 * l + 5) + z_p01 v5)) (101 + 1) (6 * l + 2) (u (6 * l + 2) - z_p01 v6)).1 (101 + 1) 117 = u 117 from (A3 _ (by omega)).trans ((z_updN _ (by omega) _).trans ((z_updN _ (by omega) _).trans (z_updN _ (by omega) _)))]
  have e7 : ∀ y, (if v6 = 0 then fX7_asks_b285 101 (z_I b) (z_I 117) (u 117) 0 y else fX7_asks_b285 101 (z_I b) (z_I 117) (u 117) 1 y) = fX7_asks_b285 101 (z_I b) (z_I 117) (u 117) (z_p01 v6) y := fun y => by
    unfold z_p01; by_cases c : v6 = 0
    · rw [if_pos c, if_pos c]
    · rw [if_neg c, if_neg c]
  rw [e7]
  unfold fX7_asks_b285
  rw [z_gm (by omega), z_I_nat (by omega), z_lt_, z_L110, z_gm (by omega), z_gm (by omega), z_I_nat (by omega), z_lt_]
  have A4 := z_Rr_up A3 117 (u 117 + z_p01 v6)
  rw [show (up1 (up1 (up1 (up1 x (101 + 1) (6 * l + 1) 0) (101 + 1) (6 * l + 5) (u (6 * l + 5) + z_p01 v5)) (101 + 1) (6 * l + 2) (u (6 * l + 2) - z_p01 v6)) (101 + 1) 117 (u 117 + z_p01 v6)).1 (101 + 1) 110 = u 110 from (A4 _ (by omega)).trans ((z_updN _ (by omega) _).trans ((z_updN _ (by omega) _).trans ((z_updN _ (by omega) _).trans (z_updN _ (by omega) _))))]
  exact ⟨_, by rw [z_L10, z_I_add], z_Rr_up A4 _ _, z_FrR_t (z_FrR_up _ _ _) (z_FrR_t (z_FrR_up _ _ _) (z_FrR_t (z_FrR_up _ _ _) (z_FrR_t (z_FrR_up _ _ _) (z_FrR_up _ _ _))))⟩
theorem z_r_loop2 {l b f n : Nat} (hl : l < 10) (hb : b < 4) (hh : f + n ≤ 12) (v5 v6 : Int32) : ∀ d k j x t, z_Rr x t → j + d = f + n → d < k → ∃ x', fX7_asks_b183 101 (z_I l) (z_I f) (z_I n) k v5 v6 (z_I b) (z_I j) x = some (z_I (10 + b), x') ∧
    z_Rr x' (upd (upd (upd (upd (upd (z_LE t b j d (z_I l)) (6 * l + 1) 0) (6 * l + 5) (t (6 * l + 5) + z_p01 v5)) (6 * l + 2) (t (6 * l + 2) - z_p01 v6)) 117 (t 117 + z_p01 v6)) 110 (t 110 + 1)) ∧ z_FrR x x' := by
  intro d
  induction d with
  | zero =>
    intro k j x t A hj hk
    obtain ⟨k, rfl⟩ : ∃ m, k = m + 1 := ⟨k - 1, by omega⟩
    rw [fX7_asks_b183, z_I_add, if_pos (by rw [z_I_le (by omega) (by omega)]; omega), z_LE_0]
    exact z_r_finish hl v5 v6 A
  | succ d ih =>
    intro k j x t A hj hk
    obtain ⟨k, rfl⟩ : ∃ m, k = m + 1 := ⟨k - 1, by omega⟩
    rw [fX7_asks_b183, z_I_add, if_neg (by rw [z_I_le (by omega) (by omega)]; omega), z_r_ofBed, z_ob, z_gm (by omega), z_I_nat (by omega), z_lt_, z_I_s, ← z_LE_s]
    obtain ⟨y, e, B, F⟩ := ih k (j + 1) _ _ (z_Rr_up A (60 + 12 * b + j) (z_I l)) (by omega) (by omega)
    rw [z_updN _ (k := 6 * l + 5) (by omega), z_updN _ (k := 6 * l + 2) (by omega), z_updN _ (k := 117) (by omega), z_updN _ (k := 110) (by omega)] at B
    exact ⟨y, e, B, z_FrR_t (z_FrR_up _ _ _) F⟩
theorem z_r_grantEnd {l b f n : Nat} (hl : l < 10) (hb : b < 4) (hh : f + n ≤ 12) (v5 v6 : Int32) {x : xS} {t : z_row} (A : z_Rr x t) : ∃ x', fX7_asks_b183 101 (z_I l) (z_I f) (z_I n) FU v5 v6 (z_I b) (z_I f) x = some (z_I (10 + b), x') ∧ z_Rr x' (z_RG t l b f n (z_p01 v5) (z_p01 v6)) ∧ z_FrR x x' := by
  exact z_r_loop2 hl hb hh v5 v6 n FU f x t A rfl (by show n < 2000; omega)
theorem z_r_loop1_0 {l b f n : Nat} (hb : b < 4) (hh : f + n ≤ 12) (v5 v6 : Int32) {x : xS} {t : z_row} (A : z_Rr x t) (hz : ∀ j, f ≤ j → j < f + n → z_hv t b j = -1) : ∀ d k j, j + d = f + n → f ≤ j → d < k → fX7_asks_b142 101 (z_I l) (z_I f) (z_I n) k v5 v6 (z_I b) (z_I j) x = fX7_asks_b183 101 (z_I l) (z_I f) (z_I n) FU v5 v6 (z_I b) (z_I f) x := by
  intro d
  induction d with
  | zero =>
    intro k j hj hf hk
    obtain ⟨k, rfl⟩ : ∃ m, k = m + 1 := ⟨k - 1, by omega⟩
    rw [fX7_asks_b142, z_I_add, if_pos (by rw [z_I_le (by omega) (by omega)]; omega)]
  | succ d ih =>
    intro k j hj hf hk
    obtain ⟨k, rfl⟩ : ∃ m, k = m + 1 := ⟨k - 1, by omega⟩
    rw [fX7_asks_b142, z_I_add, if_neg (by rw [z_I_le (by omega) (by omega)]; omega), z_r_ofBed, z_ob, z_gm (by omega), z_Rr_I A (by omega), if_pos (show t (60 + 12 * b + j) = -1 from hz j hf (by omega))]
    unfold fX7_asks_b174
    rw [z_I_s]
    exact ih k (j + 1) (by omega) (by omega) (by omega)
theorem z_r_loop1_8 {s : z_row} (O : z_OKs s) {l b f n g : Nat} (hb : b < 4) (hh : f + n ≤ 12) (hg : s 108 = z_I g) (hgf : g ≤ f) (v5 v6 : Int32) : ∀ d k i x, z_Rr x (z_Zi s b f g i) → x.1 101 9 = z_I (z_MK s b f i) → i + d = n → d < k → ∃ x', fX7_asks_b142 101 (z_I l) (z_I f) (z_I n) k v5 v6 (z_I b) (z_I (f + i)) x = fX7_asks_b183 101 (z_I l) (z_I f) (z_I n) FU v5 v6 (z_I b) (z_I f) x' ∧ z_Rr x' (z_Zi s b f g n) ∧ x'.1 101 9 = z_I (z_MK s b f n) ∧ z_F9 x x' := by
  intro d
  induction d with
  | zero =>
    intro k i x A h9 hj hk
    obtain ⟨k, rfl⟩ : ∃ m, k = m + 1 := ⟨k - 1, by omega⟩
    rw [fX7_asks_b142, z_I_add, if_pos (by rw [z_I_le (by omega) (by omega)]; omega)]
    have : i = n := by omega
    subst this
    exact ⟨x, rfl, A, h9, z_F9_refl x⟩
  | succ d ih =>
    intro k i x A h9 hj hk
    obtain ⟨k, rfl⟩ : ∃ m, k = m + 1 := ⟨k - 1, by omega⟩
    have hEle : z_Ez s b f g i ≤ 12 := by
      unfold z_Ez
      split
      · have := z_FS_le s b f g; omega
      · exact (z_PE_le s b (f + i - 1) (by omega)).2
    have hF := z_FS_le s b f g
    have hZ := z_Zr_hv (s := s) (b := b) (st := z_FS s b f g) (d := z_Ez s b f g i - z_FS s b f g) (w := z_LI s b (z_FS s b f g) (z_Ez s b f g i - z_FS s b f g)) (M := z_MK s b f i) b (f + i) hb (by omega) hb (by omega)
    rw [fX7_asks_b142, z_I_add, if_neg (by rw [z_I_le (by omega) (by omega)]; omega), z_r_ofBed, z_ob, z_gm (by omega), z_Rr_I A (by omega), show z_Zi s b f g i (60 + 12 * b + (f + i)) = z_hv (z_Zi s b f g i) b (f + i) from rfl]
    unfold fX7_asks_b174
    rw [z_I_s]
    by_cases c : z_hv (z_Zi s b f g i) b (f + i) = -1
    · rw [if_pos c]
      have e := z_Zi_skip O.1 hb (show f + (i + 1) ≤ 12 by omega) c
      have eM : z_MK s b f (i + 1) = z_MK s b f i := by
        have t115 := congrFun e 115
        unfold z_Zi at t115
        rw [z_MK_s]
        by_cases cc : z_hv s b (f + i) = -1
        · rw [cc]; exact Nat.or_zero _
        · -- the hour was freed: its holder is in the mask
          unfold z_Zi at c
          rw [hZ] at c
          have hin : b = b ∧ z_FS s b f g ≤ f + i ∧ f + i < z_FS s b f g + (z_Ez s b f g i - z_FS s b f g) := by
            by_cases q : b = b ∧ z_FS s b f g ≤ f + i ∧ f + i < z_FS s b f g + (z_Ez s b f g i - z_FS s b f g)
            · exact q
            · rw [if_neg q] at c; exact absurd c cc
          have ci : i ≠ 0 := by
            intro z; subst z; unfold z_Ez at hin; rw [if_pos rfl] at hin; omega
          have eE : z_Ez s b f g i = z_PE s b (f + i - 1) := by unfold z_Ez; rw [if_neg ci]
          rw [eE] at hin
          have e1 := z_PE_in (s := s) (b := b) (h := f + i - 1) (j := f + i) (by omega) (by omega)
          obtain ⟨q, rfl⟩ : ∃ q, i = q + 1 := ⟨i - 1, by omega⟩
          rw [e1, z_MK_s s b f q, show f + (q + 1) - 1 = f + q by omega, z_or_abs]
      obtain ⟨y, ey, By, h9y, Fy⟩ := ih k (i + 1) x (by rw [e]; exact A) (by rw [eM]; exact h9) (by omega) (by omega)
      exact ⟨y, ey, By, h9y, Fy⟩
    · rw [if_neg c]
      have hs : z_hv (z_Zi s b f g i) b (f + i) = z_hv s b (f + i) := by
        unfold z_Zi at c ⊢
        rw [hZ] at c ⊢
        split
        · next q => rw [if_pos q] at c; exact absurd rfl c
        · rfl
      rcases z_OK_h O (b := b) (h := f + i) hb (by omega) with e1 | ⟨l2, hl2, e1⟩
      · exact absurd (hs.trans e1) c
      · have hz := hs.trans e1
        have hr : ∃ a, a < 8 ∧ z_Zi s b f g i (6 * l2 + 1) = z_I a := by
          obtain ⟨a, ha, ea⟩ := (O.2.2.1 l2 hl2).2.1
          unfold z_Zi
          rw [z_Zr_l hl2 (by omega)]
          split
          · rw [if_neg (by omega), if_pos rfl, ea]
            have : ∀ a, a < 8 → ∃ c, c < 8 ∧ z_mi (z_I a) = z_I c := by
              intro a ha
              refine ⟨if a < 6 then a + 1 else 7, by split <;> omega, ?_⟩
              revert a; decide
            exact this a ha
          · exact ⟨a, ha, ea⟩
        have hgZ : z_Zi s b f g i 108 = z_I g := by unfold z_Zi; rw [z_Zr_o (by omega) hb (by omega) (by omega) (by omega)]; exact hg
        obtain ⟨y, ey, By, y1, y2, y3, y9⟩ := z_r_putsOut A hb (by omega) hgZ (by omega) hl2 hz (z_MK_lt2 O.1 hb (by omega)) h9 hr
        rw [ey, z_ob]
        rw [z_Zi_put O.1 hb hgf (show f + (i + 1) ≤ 12 by omega) hl2 hz] at By
        have n1 : z_I l2 ≠ -1 := by rw [Ne, z_I_n1 (by omega)]; exact id
        have hhm : z_hm (z_hv s b (f + i)) = 2 ^ l2 := by
          rw [e1]; unfold z_hm; rw [if_neg n1, z_I_nat (by omega)]
        obtain ⟨z, ez, Bz, h9z, Fz⟩ := ih k (i + 1) y By (by rw [z_MK_s, hhm]; exact y9) (by omega) (by omega)
        exact ⟨z, ez, Bz, h9z, z_F9_t ⟨y1, y2, y3⟩ Fz⟩
theorem z_LI_0 {s : z_row} {b f n : Nat} : z_LI s b f n = 0 → ∀ j, f ≤ j → j < f + n → z_hv s b j = -1 := by
  induction n with
  | zero => intro _ j h1 h2; omega
  | succ n ih =>
    intro h j h1 h2
    unfold z_LI at h
    simp only [z_sm] at h
    by_cases c : j = f + n
    · subst c
      by_cases e : z_hv s b (f + n) = -1
      · exact e
      · rw [if_neg e] at h; omega
    · exact ih (by unfold z_LI; omega) j h1 (by omega)
theorem z_MK_z {s : z_row} {b f n : Nat} (h : ∀ j, f ≤ j → j < f + n → z_hv s b j = -1) : z_MK s b f n = 0 := by
  induction n with
  | zero => rfl
  | succ n ih => rw [z_MK_s, ih (fun j h1 h2 => h j h1 (by omega)), h (f + n) (by omega) (by omega)]; rfl
theorem z_r_refuse {x : xS} {s : z_row} (A : z_Rr x s) (O : z_OKs s) {l r : Nat} (hl : l < 10) (h1 : 1 ≤ r) (h4 : r ≤ 4) :
  ∃ x', (if ((111 + z_I r) - 1) < 0 ∨ ln (101 + 1) ≤ ((111 + z_I r) - 1).toNatClampNeg then none else
  (if ((111 + z_I r) - 1) < 0 ∨ ln (101 + 1) ≤ ((111 + z_I r) - 1).toNatClampNeg then none else
  lt1 (up1 x (101 + 1) ((111 + z_I r) - 1).toNatClampNeg ((x.1 (101 + 1) ((111 + z_I r) - 1).toNatClampNeg) + 1)) (fun x34 =>
  Option.bind (fX7_of (z_I l) 1 x34) (fun r41 =>
  (if r41 < 0 ∨ ln (101 + 1) ≤ r41.toNatClampNeg then none else
  (if z_I r ≤ 2 then
  fX7_asks_b71 101 (z_I r) r41 (x34.1 (101 + 1) r41.toNatClampNeg) x34
  else
  Option.bind (fX7_of (z_I l) 1 x34) (fun r58 =>
  (if r58 < 0 ∨ ln (101 + 1) ≤ r58.toNatClampNeg then none else
  (if (7 : Int32) ≤ (x34.1 (101 + 1) r58.toNatClampNeg) then
  fX7_asks_b71 101 (z_I r) r41 (x34.1 (101 + 1) r41.toNatClampNeg) x34
  else
  fX7_asks_b72 101 (z_I r) r41 (x34.1 (101 + 1) r41.toNatClampNeg) 1 x34))))))))) = some (z_I r, x') ∧ z_Rr x' (z_RF s l r) ∧ z_FrR x x' := by
  have e1 : (111 + z_I r) - 1 = z_I (110 + r) := by rw [z_L111, z_I_add, z_L1, z_I_sub (by omega)]; congr 1; omega
  rw [e1, z_gm (by omega), z_gm (by omega), z_I_nat (by omega), z_lt_, show x.1 (101 + 1) (110 + r) = s (110 + r) from A _ (by omega)]
  have A1 := z_Rr_up A (110 + r) (s (110 + r) + 1)
  have e6 : (up1 x (101 + 1) (110 + r) (s (110 + r) + 1)).1 (101 + 1) (z_I (6 * l + 1)).toNatClampNeg = s (6 * l + 1) := by
    rw [z_I_nat (by omega)]; exact (A1 _ (by omega)).trans (z_updN _ (by omega) _)
  rw [show fX7_of (z_I l) 1 _ = _ from z_r_of l 1 _, z_ob, z_gm (by omega), e6]
  unfold fX7_asks_b71 fX7_asks_b72 z_RF
  obtain ⟨a, ha, ea⟩ := (O.2.2.1 l hl).2.1
  have same : ∀ (t : z_row) (k : Nat), upd t k (t k) = t := fun t k => by
    funext j; by_cases c : j = k
    · rw [z_updP _ c, c]
    · rw [z_updN _ c]
  by_cases c : 3 ≤ r
  · rw [if_neg (by rw [z_L2, z_I_le (by omega) (by omega)]; omega), if_pos c, z_ob, z_gm (by omega), e6]
    have em : (if (7 : Int32) ≤ s (6 * l + 1) then s (6 * l + 1) + 0 else s (6 * l + 1) + 1) = z_mi (s (6 * l + 1)) := by rw [ea, z_mi_eq a ha]
    by_cases c7 : (7 : Int32) ≤ s (6 * l + 1)
    · rw [if_pos c7] at em
      rw [if_pos c7, z_gm (by omega), z_I_nat (by omega), z_lt_, em]
      exact ⟨_, rfl, z_Rr_up A1 _ _, z_FrR_t (z_FrR_up _ _ _) (z_FrR_up _ _ _)⟩
    · rw [if_neg c7] at em
      rw [if_neg c7, z_gm (by omega), z_I_nat (by omega), z_lt_, em]
      exact ⟨_, rfl, z_Rr_up A1 _ _, z_FrR_t (z_FrR_up _ _ _) (z_FrR_up _ _ _)⟩
  · rw [if_pos (by rw [z_L2, z_I_le (by omega) (by omega)]; omega), if_neg c, z_gm (by omega), z_I_nat (by omega), z_lt_, Int32.add_zero]
    have B := z_Rr_up A1 (6 * l + 1) (s (6 * l + 1))
    have es := same (upd s (110 + r) (s (110 + r) + 1)) (6 * l + 1)
    rw [z_updN _ (k := 6 * l + 1) (a := 110 + r) (by omega)] at es
    rw [es] at B
    exact ⟨_, rfl, B, z_FrR_t (z_FrR_up _ _ _) (z_FrR_up _ _ _)⟩
def z_WO (s : z_row) (l f n : Nat) : Nat := if 10 ≤ z_AN s l f n then z_MK s (z_AN s l f n - 10) f n else 0
theorem z_r_asks {x : xS} {s : z_row} (A : z_Rr x s) (O : z_OKs s) {l f n g : Nat} (hl : l < 10) (z_hn : 1 ≤ n) (hh : f + n ≤ 12) (hg : s 108 = z_I g) (hg12 : g < 12) : ∃ x', fX7_asks 101 (z_I l) (z_I f) (z_I n) x = some (z_I (z_AN s l f n), x') ∧ z_Rr x' (z_TA s l f n g) ∧ z_F9 x x' ∧ x'.1 101 9 = z_I (z_WO s l f n) := by
  unfold fX7_asks fX7_asks_b0
  have hAN := z_AN_lt s l f n
  have hA4 := z_AN_13 s l f n
  rw [z_r_hindrance A O hl hh, z_ob, z_lt_]
  have A0 : z_Rr (up1 x 101 9 0) s := fun k hk => by rw [z_up1_o x _ _ (by omega)]; exact A k hk
  have F0 : z_F9 x (up1 x 101 9 0) := ⟨rfl, fun i h1 h2 => z_up1_o x _ _ h2, fun k hk => by rw [z_up1_at, if_neg (fun c => hk c.2)]⟩
  have z9 : (up1 x 101 9 0).1 101 9 = z_I 0 := by rw [z_up1_at, if_pos ⟨rfl, rfl⟩]; rfl
  generalize up1 x 101 9 0 = y at *
  unfold z_TA z_WO
  by_cases h : 10 ≤ z_AN s l f n
  · rw [if_pos h, if_pos h, if_pos h, if_pos (by rw [z_L0, z_I_le (by omega) (by omega)]; omega)]
    have hgf := z_AN_g hg hg12 (by omega) h
    have hb : z_AN s l f n - 10 < 4 := by omega
    have hbE : z_AN s l f n - 10 = z_EM s f n := by
      unfold z_AN at h ⊢; revert h; (repeat' split) <;> omega
    have e10 : z_I (z_AN s l f n) = z_I (10 + (z_AN s l f n - 10)) := by congr 1; omega
    rw [e10, hbE]
    have hE := z_EM_lt s f n
    rw [show fX7_of (z_I l) 1 y = _ from z_r_of l 1 y, z_ob, z_gm (by omega), z_Rr_I A0 (by omega)]
    unfold fX7_asks_b97 fX7_asks_b128 fX7_asks_b129 z_GR
    by_cases h8 : s (6 * l + 1) = z_I 7
    · rw [if_pos (show s (6 * l + 1) = 7 from h8), if_neg (by decide), if_pos h8, z_r_emptiest A0 hh, z_ob]
      obtain ⟨z, ez, Bz, h9z, Fz⟩ := z_r_loop1_8 O (l := l) hE hh hg hgf 1 0 n FU 0 y (by rw [z_Zi_0]; exact A0) z9 (by omega) (by show n < 2000; omega)
      rw [Nat.add_zero] at ez
      rw [ez]
      obtain ⟨w, ew, Bw, Fw⟩ := z_r_grantEnd hl hE hh 1 0 (n := n) Bz
      rw [show z_p01 1 = 1 from rfl, show z_p01 0 = 0 from rfl, z_RG_8 _ hl hE hh, ← z_G8_Z s hl hE z_hn hh] at Bw
      exact ⟨w, ew, Bw, z_F9_t F0 (z_F9_t Fz (z_F9_R Fw)), by rw [Fw.2 101 (by omega)]; exact h9z⟩
    · have hz : ∀ j, f ≤ j → j < f + n → z_hv s (z_EM s f n) j = -1 := by
        apply z_LI_0
        unfold z_AN at h
        rw [if_neg h8] at h
        revert h; (repeat' split) <;> omega
      rw [z_MK_z hz]
      rw [if_neg (show ¬ s (6 * l + 1) = 7 from h8), if_pos rfl, if_neg h8, show fX7_of (z_I l) 0 y = _ from z_r_of l 0 y, z_ob, Nat.add_zero, z_gm (by omega), z_L119, z_gm (by omega), z_Rr_I A0 (by omega), z_Rr_I A0 (by omega)]
      by_cases h1 : s (6 * l) < s 119
      · rw [if_neg (Int32.not_le.mpr h1), if_pos h1, z_r_emptiest A0 hh, z_ob, z_r_loop1_0 hE hh _ _ A0 hz n FU f rfl (by omega) (by show n < 2000; omega)]
        obtain ⟨w, ew, Bw, Fw⟩ := z_r_grantEnd hl hE hh 0 1 (n := n) A0
        rw [show z_p01 1 = 1 from rfl, show z_p01 0 = 0 from rfl, z_RG_F _ hl hE hh] at Bw
        exact ⟨w, ew, Bw, z_F9_t F0 (z_F9_R Fw), by rw [Fw.2 101 (by omega)]; exact z9⟩
      · rw [if_pos (Int32.not_lt.mp h1), if_neg h1, z_r_emptiest A0 hh, z_ob, z_r_loop1_0 hE hh _ _ A0 hz n FU f rfl (by omega) (by show n < 2000; omega)]
        obtain ⟨w, ew, Bw, Fw⟩ := z_r_grantEnd hl hE hh 0 0 (n := n) A0
        rw [show z_p01 0 = 0 from rfl, z_RG_0 _ hl hE hh] at Bw
        exact ⟨w, ew, Bw, z_F9_t F0 (z_F9_R Fw), by rw [Fw.2 101 (by omega)]; exact z9⟩
  · rw [if_neg h, if_neg h, if_neg h, if_neg (by rw [z_L0, z_I_le (by omega) (by omega)]; omega)]
    obtain ⟨w, ew, Bw, Fw⟩ := z_r_refuse A0 O hl hA4.1 (by omega)
    exact ⟨w, ew, Bw, z_F9_t F0 (z_F9_R Fw), by rw [Fw.2 101 (by omega)]; exact z9⟩

def z_kb (kp : Nat → Bool) : Nat := (if kp 0 = true then 1 else 0) + (if kp 1 = true then 2 else 0)
def z_QS (x : xS) (m : Nat) (sv : Nat → z_row) : Prop := x.1 101 4 = z_I m ∧ m ≤ 6 ∧ ∀ k, k < m → ∀ j, j < 120 → x.1 104 (120 * k + j) = sv k j
def z_QK (x : xS) (kp : Nat → Bool) (sl : Nat → z_row) : Prop := x.1 101 6 = z_I (z_kb kp) ∧ ∀ k, k < 2 → kp k = true → ∀ j, j < 120 → x.1 105 (120 * k + j) = sl k j
def z_QT (x : xS) (len : Nat) (tx : Nat → Int32) : Prop := x.1 101 8 = z_I len ∧ len ≤ 60 ∧ ∀ k, k < len → x.1 106 k = tx k
def z_RelR (x : xS) (s : z_row) (m : Nat) (sv : Nat → z_row) (kp : Nat → Bool) (sl : Nat → z_row) (len : Nat) (tx : Nat → Int32) : Prop := z_Rr x s ∧ z_QS x m sv ∧ z_QK x kp sl ∧ z_QT x len tx
def z_FM (x x' : xS) : Prop := x'.2 107 = x.2 107 ∧ ∀ i, i < 101 ∨ 106 < i → x'.1 i = x.1 i
theorem z_FM_refl (x : xS) : z_FM x x := ⟨rfl, fun _ _ => rfl⟩
theorem z_FM_t {x y z : xS} (h : z_FM x y) (k : z_FM y z) : z_FM x z := ⟨k.1.trans h.1, fun i a => (k.2 i a).trans (h.2 i a)⟩
theorem z_FM_R {x x' : xS} (h : z_FrR x x') : z_FM x x' := ⟨by rw [h.1], fun i a => h.2 i (by omega)⟩
theorem z_FM_9 {x x' : xS} (h : z_F9 x x') : z_FM x x' := ⟨by rw [h.1], fun i a => h.2.1 i (by omega) (by omega)⟩
theorem z_FM_up {x : xS} {i : Nat} (k : Nat) (v : Int32) (h : 101 ≤ i) (h2 : i ≤ 106) : z_FM x (up1 x i k v) := ⟨rfl, fun j a => z_up1_o x k v (by omega)⟩
section
variable {x x' : xS} {s s' : z_row} {m : Nat} {sv : Nat → z_row} {kp : Nat → Bool} {sl : Nat → z_row} {len : Nat} {tx : Nat → Int32}
theorem z_RelR_9 (R : z_RelR x s m sv kp sl len tx) (h : z_F9 x x') (A : z_Rr x' s') : z_RelR x' s' m sv kp sl len tx := by
  obtain ⟨_, ⟨a, b, c⟩, ⟨d, e⟩, ⟨f, g, h'⟩⟩ := R
  exact ⟨A, ⟨by rw [h.2.2 4 (by omega)]; exact a, b, fun k hk j hj => by rw [h.2.1 104 (by omega) (by omega)]; exact c k hk j hj⟩, ⟨by rw [h.2.2 6 (by omega)]; exact d, fun k hk e1 j hj => by rw [h.2.1 105 (by omega) (by omega)]; exact e k hk e1 j hj⟩, ⟨by rw [h.2.2 8 (by omega)]; exact f, g, fun k hk => by rw [h.2.1 106 (by omega) (by omega)]; exact h' k hk⟩⟩
theorem z_RelR_R (R : z_RelR x s m sv kp sl len tx) (h : z_FrR x x') (A : z_Rr x' s') : z_RelR x' s' m sv kp sl len tx := z_RelR_9 R (z_F9_R h) A
theorem z_RelR_f (R : z_RelR x s m sv kp sl len tx) {k : Nat} (h4 : k ≠ 4) (h6 : k ≠ 6) (h8 : k ≠ 8) (v : Int32) : z_RelR (up1 x 101 k v) s m sv kp sl len tx := by
  obtain ⟨A, ⟨a, b, c⟩, ⟨d, e⟩, ⟨f, g, h'⟩⟩ := R
  refine ⟨fun j hj => by rw [z_up1_o _ _ _ (by omega)]; exact A j hj, ⟨?_, b, fun k hk j hj => by rw [z_up1_o _ _ _ (by omega)]; exact c k hk j hj⟩, ⟨?_, fun k hk e1 j hj => by rw [z_up1_o _ _ _ (by omega)]; exact e k hk e1 j hj⟩, ⟨?_, g, fun k hk => by rw [z_up1_o _ _ _ (by omega)]; exact h' k hk⟩⟩
  · rw [z_up1_at, if_neg (by omega)]; exact a
  · rw [z_up1_at, if_neg (by omega)]; exact d
  · rw [z_up1_at, if_neg (by omega)]; exact f
theorem z_r_holds (v : Int32) (x : xS) : fX7_holds 101 v x = some (if v = 0 then 1 else 0, up1 x 101 0 v) := by
  unfold fX7_holds fX7_holds_b0
  rw [z_lt_]
  by_cases c : v = 0
  · rw [if_pos c, if_pos c]
  · rw [if_neg c, if_neg c]
theorem z_r_h0 (x : xS) : fX7_holds 101 0 x = some (1, up1 x 101 0 0) := by rw [z_r_holds, if_pos rfl]
theorem z_r_hn {v : Int32} (h : v ≠ 0) (x : xS) : fX7_holds 101 v x = some (0, up1 x 101 0 v) := by rw [z_r_holds, if_neg h]
theorem z_qh1 {α : Type} (y : xS) (a b : Option α) : (if ((1 : Int32), y).1 = 0 then a else b) = b := if_neg (show ¬ (1 : Int32) = 0 by decide)
theorem z_qh0 {α : Type} (y : xS) (a b : Option α) : (if ((0 : Int32), y).1 = 0 then a else b) = a := if_pos rfl
theorem z_r_save (R : z_RelR x s m sv kp sl len tx) : ∃ x', fX7_save 101 x = some x' ∧ z_RelR x' s (z_nM m) (z_nV m sv s) kp sl len tx ∧ z_FM x x' ∧ (∀ k, k ≠ 4 → x'.1 101 k = x.1 101 k) ∧ x'.2 = x.2 := by
  obtain ⟨A, ⟨a, b, c⟩, K, T⟩ := R
  unfold fX7_save fX7_save_b0
  have q1 : ∀ d n j y, (∀ k, y.1 104 k = if k < j then x.1 104 (k + 120) else x.1 104 k) → (∀ i, i ≠ 104 → y.1 i = x.1 i) → y.2 = x.2 → j + d = 600 → d < n → ∃ z, fX7_save_b11 101 n (z_I j) y = fX7_save_b49 101 (up1 z 101 4 (z_I m - 1)) ∧ (∀ k, k < 600 → z.1 104 k = x.1 104 (k + 120)) ∧ (∀ i, i ≠ 104 → z.1 i = x.1 i) ∧ z.2 = x.2 := by
    intro d
    induction d with
    | zero =>
      intro n j y h1 h2 h3 hj z_hn
      obtain ⟨n, rfl⟩ : ∃ k, n = k + 1 := ⟨n - 1, by omega⟩
      rw [fX7_save_b11, if_pos (by rw [show (600 : Int32) = z_I 600 from rfl, z_I_le (by omega) (by omega)]; omega), z_lt_, h2 101 (by omega), a]
      exact ⟨y, rfl, fun k hk => by rw [h1, if_pos (by omega)], h2, h3⟩
    | succ d ih =>
      intro n j y h1 h2 h3 hj z_hn
      obtain ⟨n, rfl⟩ : ∃ k, n = k + 1 := ⟨n - 1, by omega⟩
      rw [fX7_save_b11, if_neg (by rw [show (600 : Int32) = z_I 600 from rfl, z_I_le (by omega) (by omega)]; omega), z_L120, z_I_add, z_gd (show j + 120 < ln (101 + 3) from (by show j + 120 < 720; omega)) (by decide), z_gd (show j < ln (101 + 3) from (by show j < 720; omega)) (by decide), z_lt_, z_I_nat (by omega), z_I_nat (by omega), z_I_s]
      apply ih n (j + 1)
      · intro k
        rw [z_up1_at]
        by_cases ck : k = j
        · rw [if_pos ⟨rfl, ck⟩, if_pos (by omega), show (101 + 3 : Nat) = 104 from rfl, h1, if_neg (by omega), ck]
        · rw [if_neg (fun h => ck h.2), h1]
          by_cases ck2 : k < j
          · rw [if_pos ck2, if_pos (by omega)]
          · rw [if_neg ck2, if_neg (by omega)]
      · intro i hi; rw [z_up1_o _ _ _ (by omega)]; exact h2 i hi
      · exact h3
      · omega
      · omega
  have q2 : ∀ M, M < 6 → ∀ y, y.1 101 4 = z_I M → (∀ k, k < 120 → y.1 102 k = s k) → ∃ z, fX7_save_b49 101 y = some z ∧ (∀ k, k < 120 * M → z.1 104 k = y.1 104 k) ∧ (∀ k, k < 120 → z.1 104 (120 * M + k) = s k) ∧ (∀ i, i ≠ 104 → i ≠ 101 → z.1 i = y.1 i) ∧ (∀ k, k ≠ 4 → z.1 101 k = y.1 101 k) ∧ z.1 101 4 = z_I (M + 1) ∧ z.2 = y.2 := by
    intro M hM y h4 hs
    unfold fX7_save_b49
    have q : ∀ d n j w, (∀ k, k < 120 * M → w.1 104 k = y.1 104 k) → (∀ k, k < j → w.1 104 (120 * M + k) = s k) → (∀ i, i ≠ 104 → w.1 i = y.1 i) → w.2 = y.2 → j + d = 120 → d < n → ∃ z, fX7_save_b51 101 n (z_I j) w = some z ∧ (∀ k, k < 120 * M → z.1 104 k = y.1 104 k) ∧ (∀ k, k < 120 → z.1 104 (120 * M + k) = s k) ∧ (∀ i, i ≠ 104 → i ≠ 101 → z.1 i = y.1 i) ∧ (∀ k, k ≠ 4 → z.1 101 k = y.1 101 k) ∧ z.1 101 4 = z_I (M + 1) ∧ z.2 = y.2 := by
      intro d
      induction d with
      | zero =>
        intro n j w h1 h2 h3 h5 hj z_hn
        obtain ⟨n, rfl⟩ : ∃ k, n = k + 1 := ⟨n - 1, by omega⟩
        rw [fX7_save_b51, if_pos (by rw [z_L120, z_I_le (by omega) (by omega)]; omega), z_lt_, h3 101 (by omega), h4, z_I_s]
        refine ⟨_, rfl, fun k hk => by rw [z_up1_o _ _ _ (by omega)]; exact h1 k hk, fun k hk => by rw [z_up1_o _ _ _ (by omega)]; exact h2 k (by omega), fun i a b => by rw [z_up1_o _ _ _ b]; exact h3 i a, fun k hk => by rw [z_up1_at, if_neg (fun e => hk e.2), h3 101 (by omega)], by rw [z_up1_at, if_pos ⟨rfl, rfl⟩], h5⟩
      | succ d ih =>
        intro n j w h1 h2 h3 h5 hj z_hn
        obtain ⟨n, rfl⟩ : ∃ k, n = k + 1 := ⟨n - 1, by omega⟩
        rw [fX7_save_b51, if_neg (by rw [z_L120, z_I_le (by omega) (by omega)]; omega), z_gm (by omega), h3 101 (by omega), h4, z_L120, z_I_mul, z_I_add, z_gd (show 120 * M + j < ln (101 + 3) from (by show 120 * M + j < 720; omega)) (by decide), z_lt_, z_I_nat (by omega), z_I_nat (by omega), z_I_s]
        apply ih n (j + 1)
        · intro k hk; rw [z_up1_at, if_neg (by omega)]; exact h1 k hk
        · intro k hk
          rw [z_up1_at]
          by_cases ck : k = j
          · rw [if_pos ⟨rfl, by rw [ck]⟩, h3 (101 + 1) (by omega), ck]; exact hs j (by omega)
          · rw [if_neg (by omega)]; exact h2 k (by omega)
        · intro i hi; rw [z_up1_o _ _ _ hi]; exact h3 i hi
        · exact h5
        · omega
        · omega
    exact q 120 FU 0 y (fun _ _ => rfl) (fun k hk => absurd hk (Nat.not_lt_zero k)) (fun _ _ => rfl) rfl (by omega) (by decide)
  have fin : ∀ z, z.1 101 4 = z_I (z_nM m) → (∀ k, k < z_nM m → ∀ j, j < 120 → z.1 104 (120 * k + j) = z_nV m sv s k j) → (∀ i, i ≠ 104 → i ≠ 101 → z.1 i = x.1 i) → (∀ k, k ≠ 4 → z.1 101 k = x.1 101 k) → z.2 = x.2 → z_RelR z s (z_nM m) (z_nV m sv s) kp sl len tx ∧ z_FM x z ∧ (∀ k, k ≠ 4 → z.1 101 k = x.1 101 k) ∧ z.2 = x.2 := by
    intro z z4 z5 z6 z7 z8
    refine ⟨⟨fun k hk => by rw [z6 102 (by omega) (by omega)]; exact A k hk, ⟨z4, by unfold z_nM; split <;> omega, z5⟩, ⟨by rw [z7 6 (by omega)]; exact K.1, fun k hk e j hj => by rw [z6 105 (by omega) (by omega)]; exact K.2 k hk e j hj⟩, ⟨by rw [z7 8 (by omega)]; exact T.1, T.2.1, fun k hk => by rw [z6 106 (by omega) (by omega)]; exact T.2.2 k hk⟩⟩, ⟨by rw [z8], fun i hi => z6 i (by omega) (by omega)⟩, z7, z8⟩
  rw [a]
  by_cases c6 : m = 6
  · subst c6
    rw [if_pos (show z_I 6 = 6 from rfl)]
    obtain ⟨z, ez, z1, z2, z3⟩ := q1 600 FU 0 x (fun k => by rw [if_neg (Nat.not_lt_zero k)]) (fun _ _ => rfl) rfl (by omega) (by decide)
    obtain ⟨w, ew, w1, w2, w3, w4, w5, w6⟩ := q2 5 (by omega) (up1 z 101 4 (z_I 6 - 1)) (by rw [z_up1_at, if_pos ⟨rfl, rfl⟩]; rfl) (fun k hk => by rw [z_up1_o _ _ _ (by omega), z2 102 (by omega)]; exact A k hk)
    refine ⟨w, by rw [show fX7_save_b11 101 FU 0 x = _ from ez]; exact ew, fin w w5 ?_ (fun i h1 h2 => by rw [w3 i h1 h2, z_up1_o _ _ _ h2]; exact z2 i h1) (fun k hk => by rw [w4 k hk, z_up1_at, if_neg (fun e => hk e.2), z2 101 (by omega)]) (by rw [w6]; exact z3)⟩
    intro k hk j hj
    have hk : k < 6 := hk
    unfold z_nV
    rw [if_pos rfl]
    by_cases c5 : k < 5
    · rw [if_pos c5, w1 _ (by omega), z_up1_o _ _ _ (by omega), z1 _ (by omega), show 120 * k + j + 120 = 120 * (k + 1) + j by omega]
      exact c (k + 1) (by omega) j hj
    · rw [if_neg c5, show k = 5 by omega]; exact w2 j hj
  · rw [if_neg (by rw [z_L6, z_I_eq (by omega) (by omega)]; exact c6)]
    obtain ⟨w, ew, w1, w2, w3, w4, w5, w6⟩ := q2 m (by omega) x a A
    refine ⟨w, ew, fin w (by rw [w5]; unfold z_nM; rw [if_neg c6]) ?_ w3 w4 w6⟩
    intro k hk j hj
    have hk : k < m + 1 := by unfold z_nM at hk; rw [if_neg c6] at hk; exact hk
    unfold z_nV
    rw [if_neg c6]
    by_cases c5 : k < m
    · rw [if_pos c5, w1 _ (by omega)]; exact c k c5 j hj
    · rw [if_neg c5, show k = m by omega]; exact w2 j hj
theorem z_r_isLodger_ok {l : Nat} (x : xS) (h : l < 10) : fX7_isLodger (z_I l) x = some 1 := by
  unfold fX7_isLodger fX7_isLodger_b0
  rw [show fX7_in (z_I l) 0 9 x = some 1 from z_r_in_ok (a := 0) (b := 9) x (by omega) (by omega) (by omega), z_ob, if_pos (by decide)]
theorem z_r_isLodger_bad {v : Int32} (x : xS) (h : ¬ z_inR v 0 9) : fX7_isLodger v x = some 0 := by
  unfold fX7_isLodger fX7_isLodger_b0
  rw [show fX7_in v 0 9 x = some 0 from z_r_in_bad (a := 0) (b := 9) x (by omega) (by omega) h, z_ob, if_pos (by decide)]
theorem z_r_isTime_ok {v w : Int32} (x : xS) (h : z_WN v w) : fX7_isTime v w x = some 1 := by
  obtain ⟨f, n, rfl, rfl, a, b, c, d⟩ := h
  unfold fX7_isTime fX7_isTime_b0
  rw [show fX7_in (z_I f) 0 11 x = some 1 from z_r_in_ok (a := 0) (b := 11) x (by omega) (by omega) (by omega), z_ob, if_neg (by decide), show fX7_in (z_I n) 1 9 x = some 1 from z_r_in_ok (a := 1) (b := 9) x (by omega) (by omega) (by omega), z_ob, if_neg (by decide), z_I_add, if_neg (by rw [z_L12, z_I_lt (by omega) (by omega)]; omega)]
theorem z_r_isTime_bad {v w : Int32} (x : xS) (h : ¬ z_WN v w) : fX7_isTime v w x = some 0 := by
  unfold fX7_isTime fX7_isTime_b0 fX7_isTime_b32
  by_cases h1 : z_inR v 0 11
  · obtain ⟨f, _, hf, rfl⟩ := h1
    rw [show fX7_in (z_I f) 0 11 x = some 1 from z_r_in_ok (a := 0) (b := 11) x (by omega) (by omega) (by omega), z_ob, if_neg (by decide)]
    by_cases h2 : z_inR w 1 9
    · obtain ⟨n, z_hn, hn9, rfl⟩ := h2
      have h3 : ¬ f + n ≤ 12 := fun e => h ⟨f, n, rfl, rfl, by omega, z_hn, hn9, e⟩
      rw [show fX7_in (z_I n) 1 9 x = some 1 from z_r_in_ok (a := 1) (b := 9) x (by omega) (by omega) (by omega), z_ob, if_neg (by decide), z_I_add, if_pos (by rw [z_L12, z_I_lt (by omega) (by omega)]; omega)]
    · rw [show fX7_in w 1 9 x = some 0 from z_r_in_bad (a := 1) (b := 9) x (by omega) (by omega) h2, z_ob, if_pos rfl]
  · rw [show fX7_in v 0 11 x = some 0 from z_r_in_bad (a := 0) (b := 11) x (by omega) (by omega) h1, z_ob, if_pos rfl]
end

def z_MM (f : Option (Int32 × xS)) (x : xS) (r : Int32) (s : z_row) (m : Nat) (sv : Nat → z_row) (kp : Nat → Bool) (sl : Nat → z_row) (len : Nat) (tx : Nat → Int32) : Prop := ∃ x', f = some (r, x') ∧ z_RelR x' s m sv kp sl len tx ∧ z_FM x x' ∧ x'.1 101 0 = 0
def z_MX (f : Option (Int32 × xS)) (x : xS) (k : Int32) (s : z_row) (m : Nat) (sv : Nat → z_row) (kp : Nat → Bool) (sl : Nat → z_row) (len : Nat) (tx : Nat → Int32) : Prop := ∃ x' r, f = some (r, x') ∧ z_RelR x' s m sv kp sl len tx ∧ z_FM x x' ∧ x'.1 101 0 = k
section
variable {x x' : xS} {s s' : z_row} {m : Nat} {sv : Nat → z_row} {kp : Nat → Bool} {sl : Nat → z_row} {len : Nat} {tx : Nat → Int32}
theorem z_RelR_0 (R : z_RelR x s m sv kp sl len tx) (v : Int32) : z_RelR (up1 x 101 0 v) s m sv kp sl len tx ∧ z_FM x (up1 x 101 0 v) ∧ (up1 x 101 0 v).1 101 0 = v := ⟨z_RelR_f R (by omega) (by omega) (by omega) v, z_FM_up 0 v (by omega) (by omega), by rw [z_up1_at, if_pos ⟨rfl, rfl⟩]⟩
theorem z_MM_save {f : xS → Option (Int32 × xS)} {r : Int32} (R : z_RelR x s m sv kp sl len tx) (h : ∀ y, z_RelR y s (z_nM m) (z_nV m sv s) kp sl len tx → y.1 101 0 = 0 → z_MM (f y) y r s' (z_nM m) (z_nV m sv s) kp sl len tx) : z_MM (Option.bind (fX7_save 101 (up1 x 101 0 0)) f) x r s' (z_nM m) (z_nV m sv s) kp sl len tx := by
  obtain ⟨R0, F0, z0⟩ := z_RelR_0 R 0
  obtain ⟨y, ey, Ry, Fy, k4, _⟩ := z_r_save R0
  obtain ⟨z, ez, Rz, Fz, zz⟩ := h y Ry (by rw [k4 0 (by omega)]; exact z0)
  exact ⟨z, by rw [ey, z_ob]; exact ez, Rz, z_FM_t F0 (z_FM_t Fy Fz), zz⟩
theorem z_Rr_e {t : z_row} (A : z_Rr x s) (h : ∀ k, k < 120 → s k = t k) : z_Rr x t := fun k hk => (A k hk).trans (h k hk)
theorem z_M_ask (R : z_RelR x s m sv kp sl len tx) (O : z_OKs s) {l f n : Nat} (hl : l < 10) (hf : f < 12) (h1 : 1 ≤ n) (h9 : n ≤ 9) (hh : f + n ≤ 12) : z_MM (fX7_ask 101 (z_I l) (z_I f) (z_I n) x) x (z_I (z_AN s l f n)) (z_TA s l f n (z_gn s)) (z_nM m) (z_nV m sv s) kp sl len tx := by
  obtain ⟨g1, g2⟩ := z_gn_ok O
  unfold fX7_ask fX7_ask_b0 fX7_ask_b25
  rw [z_r_isLodger_ok x hl, z_ob, if_neg (by decide), z_r_isTime_ok x ⟨f, n, rfl, rfl, hf, h1, h9, hh⟩, z_ob, if_neg (by decide), z_r_h0, z_ob, z_qh1]
  refine z_MM_save R (fun y Ry y0 => ?_)
  obtain ⟨z, ez, Az, Fz, _⟩ := z_r_asks Ry.1 O hl h1 hh g2 g1
  rw [ez, z_ob]
  exact ⟨z, rfl, z_RelR_9 Ry Fz Az, z_FM_9 Fz, by rw [Fz.2.2 0 (by omega)]; exact y0⟩
theorem z_M_ask_L (R : z_RelR x s m sv kp sl len tx) {v w u : Int32} (h : ¬ z_inR v 0 9) : z_MX (fX7_ask 101 v w u x) x 1 s m sv kp sl len tx := by
  obtain ⟨R0, F0, z0⟩ := z_RelR_0 R 1
  unfold fX7_ask fX7_ask_b0 fX7_ask_b25
  rw [z_r_isLodger_bad x h, z_ob, if_pos rfl, z_r_hn (by decide), z_ob, z_qh0]
  exact ⟨_, _, rfl, R0, F0, z0⟩
theorem z_M_ask_W (R : z_RelR x s m sv kp sl len tx) {l : Nat} {w u : Int32} (hl : l < 10) (h : ¬ z_WN w u) : z_MX (fX7_ask 101 (z_I l) w u x) x 2 s m sv kp sl len tx := by
  obtain ⟨R0, F0, z0⟩ := z_RelR_0 R 2
  unfold fX7_ask fX7_ask_b0 fX7_ask_b25
  rw [z_r_isLodger_ok x hl, z_ob, if_neg (by decide), z_r_isTime_bad x h, z_ob, if_pos rfl, z_r_hn (by decide), z_ob, z_qh0]
  exact ⟨_, _, rfl, R0, F0, z0⟩
theorem z_r_refuses (A : z_Rr x s) : ∃ x', fX7_refuses 101 x = some (-1, x') ∧ z_Rr x' (upd s 118 (s 118 + 1)) ∧ z_FrR x x' := by
  unfold fX7_refuses fX7_refuses_b0
  rw [z_L118, z_gm (by omega), z_gm (by omega), z_lt_, z_I_nat (by omega), show x.1 (101 + 1) 118 = s 118 from A _ (by omega)]
  exact ⟨_, rfl, z_Rr_up A _ _, z_FrR_up _ _ _⟩
theorem z_r_gb {l b h : Nat} (hb : b < 4) : ∀ d n j y t, z_Rr y t → h + j + d = 12 → d < n → ∃ y', fX7_giveBack_b74 101 (z_I l) (z_I h) n (z_I b) (z_I j) y = some (z_I (j + z_run t (z_I l) (60 + 12 * b + (h + j)) d), y') ∧ z_Rr y' (z_LE t b (h + j) (z_run t (z_I l) (60 + 12 * b + (h + j)) d) (-1)) ∧ z_FrR y y' := by
  intro d
  induction d with
  | zero =>
    intro n j y t A hj z_hn
    obtain ⟨n, rfl⟩ : ∃ k, n = k + 1 := ⟨n - 1, by omega⟩
    unfold fX7_giveBack_b74 fX7_giveBack_b120
    rw [z_I_add, if_pos (by rw [z_L12, z_I_le (by omega) (by omega)]; omega)]
    exact ⟨y, rfl, by rw [show z_run t (z_I l) (60 + 12 * b + (h + j)) 0 = 0 from rfl, z_LE_0]; exact A, z_FrR_refl y⟩
  | succ d ih =>
    intro n j y t A hj z_hn
    obtain ⟨n, rfl⟩ : ∃ k, n = k + 1 := ⟨n - 1, by omega⟩
    rw [fX7_giveBack_b74, z_I_add, if_neg (by rw [z_L12, z_I_le (by omega) (by omega)]; omega), z_r_ofBed, z_ob, z_gm (by omega), z_Rr_I A (by omega)]
    unfold fX7_giveBack_b120
    simp only [z_run]
    by_cases e : t (60 + 12 * b + (h + j)) = z_I l
    · rw [if_pos e, if_pos e, z_ob, z_gm (by omega), z_I_nat (by omega), z_lt_, z_I_s]
      obtain ⟨z, ez, Bz, Fz⟩ := ih n (j + 1) _ _ (z_Rr_up A (60 + 12 * b + (h + j)) (-1)) (by omega) (by omega)
      rw [show h + (j + 1) = h + j + 1 by omega] at ez Bz
      rw [show z_run (upd t (60 + 12 * b + (h + j)) (-1)) (z_I l) (60 + 12 * b + (h + j + 1)) d = z_run t (z_I l) (60 + 12 * b + (h + j) + 1) d from z_run_E d _ (fun i a c => z_updN _ (by omega) _)] at ez Bz
      rw [z_LE_s] at Bz
      exact ⟨z, by rw [ez, show j + 1 + z_run t (z_I l) (60 + 12 * b + (h + j) + 1) d = j + (z_run t (z_I l) (60 + 12 * b + (h + j) + 1) d + 1) by omega], Bz, z_FrR_t (z_FrR_up _ _ _) Fz⟩
    · rw [if_neg e, if_neg e, z_LE_0]
      exact ⟨y, rfl, A, z_FrR_refl y⟩
theorem z_M_giveBack (R : z_RelR x s m sv kp sl len tx) (O : z_OKs s) {l h : Nat} (hl : l < 10) (hh : h < 12) : z_MM (fX7_giveBack 101 (z_I l) (z_I h) x) x (z_TBa s l h) (z_TBr s l h) (z_nM m) (z_nV m sv s) kp sl len tx := by
  obtain ⟨g1, g2⟩ := z_gn_ok O
  have n1 : z_I l ≠ -1 := by rw [Ne, z_I_n1 (by omega)]; exact id
  unfold fX7_giveBack fX7_giveBack_b0 fX7_giveBack_b27
  rw [z_r_isLodger_ok x hl, z_ob, if_neg (by decide), show fX7_in (z_I h) 0 11 x = some 1 from z_r_in_ok (a := 0) (b := 11) x (by omega) (by omega) (by omega), z_ob, if_neg (by decide), z_r_h0, z_ob, z_qh1]
  refine z_MM_save R (fun y Ry y0 => ?_)
  have A := Ry.1
  rw [z_L108, z_gm (by omega), z_Rr_I A (by omega)]
  unfold fX7_giveBack_b60
  have fail : ∃ z, (Option.bind (fX7_refuses 101 y) (fun r67 => some (r67.1, r67.2))) = some (-1, z) ∧ z_RelR z (upd s 118 (s 118 + 1)) (z_nM m) (z_nV m sv s) kp sl len tx ∧ z_FM y z ∧ z.1 101 0 = 0 := by
    obtain ⟨z, ez, Az, Fz⟩ := z_r_refuses A
    exact ⟨z, by rw [ez, z_ob], z_RelR_R Ry Fz Az, z_FM_R Fz, by rw [Fz.2 101 (by omega)]; exact y0⟩
  unfold z_TBa z_TBr
  by_cases w : z_I h < s 108
  · rw [if_neg (Int32.not_le.mpr w), if_pos rfl, if_pos (Or.inr w), if_pos (Or.inr w)]
    exact fail
  · rw [if_pos (Int32.not_lt.mp w), z_r_bedOf A O.2.2.2.2.2 n1 hh, z_ob]
    have hB := z_BO_le s (z_I l) h
    by_cases e : z_BO s (z_I l) h = 4
    · rw [if_pos e, if_pos rfl, if_pos (Or.inl e), if_pos (Or.inl e)]
      exact fail
    · have z_hn : ¬ (z_BO s (z_I l) h = 4 ∨ z_I h < s 108) := fun o => o.elim e w
      rw [if_neg e, if_neg (by rw [z_I_n1 (by omega)]; exact id), if_neg z_hn, if_neg z_hn]
      have hbl : z_hv s (z_BO s (z_I l) h) h = z_I l := by
        revert e; unfold z_BO
        (repeat' split) <;> intro e <;> first | assumption | exact absurd rfl e
      obtain ⟨z, ez, Az, Fz⟩ := z_r_gb (l := l) (b := z_BO s (z_I l) h) (h := h) (by omega) (12 - h) FU 0 y s A (by omega) (by show 12 - h < 2000; omega)
      have hr : z_run s (z_I l) (60 + 12 * z_BO s (z_I l) h + h) (12 - h) = z_PE s (z_BO s (z_I l) h) h - h := by
        unfold z_PE
        rw [hbl, show 12 - h = (11 - h) + 1 by omega]
        simp only [z_run]
        rw [if_pos (show s (60 + 12 * z_BO s (z_I l) h + h) = z_I l from hbl)]; omega
      rw [Nat.add_zero, hr, Nat.zero_add] at ez
      rw [Nat.add_zero, hr] at Az
      exact ⟨z, ez, z_RelR_R Ry Fz Az, z_FM_R Fz, by rw [Fz.2 101 (by omega)]; exact y0⟩
theorem z_M_giveBack_L (R : z_RelR x s m sv kp sl len tx) {v w : Int32} (h : ¬ z_inR v 0 9) : z_MX (fX7_giveBack 101 v w x) x 1 s m sv kp sl len tx := by
  obtain ⟨R0, F0, z0⟩ := z_RelR_0 R 1
  unfold fX7_giveBack fX7_giveBack_b0 fX7_giveBack_b27
  rw [z_r_isLodger_bad x h, z_ob, if_pos rfl, z_r_hn (by decide), z_ob, z_qh0]
  exact ⟨_, _, rfl, R0, F0, z0⟩
theorem z_M_giveBack_H (R : z_RelR x s m sv kp sl len tx) {l : Nat} {w : Int32} (hl : l < 10) (h : ¬ z_inR w 0 11) : z_MX (fX7_giveBack 101 (z_I l) w x) x 2 s m sv kp sl len tx := by
  obtain ⟨R0, F0, z0⟩ := z_RelR_0 R 2
  unfold fX7_giveBack fX7_giveBack_b0 fX7_giveBack_b27
  rw [z_r_isLodger_ok x hl, z_ob, if_neg (by decide), show fX7_in w 0 11 x = some 0 from z_r_in_bad (a := 0) (b := 11) x (by omega) (by omega) h, z_ob, if_pos rfl, z_r_hn (by decide), z_ob, z_qh0]
  exact ⟨_, _, rfl, R0, F0, z0⟩
end

section
variable {x x' : xS} {s s' : z_row} {m : Nat} {sv : Nat → z_row} {kp : Nat → Bool} {sl : Nat → z_row} {len : Nat} {tx : Nat → Int32}
theorem z_f34 : ∀ a, a < 4 → (z_I a < 3 ↔ ¬ z_I a = 3) := by decide
theorem z_M_favour (R : z_RelR x s m sv kp sl len tx) (O : z_OKs s) {l : Nat} (hl : l < 10) : z_MM (fX7_favour 101 (z_I l) x) x (if s (6 * l + 2) < 3 then s (6 * l + 2) + 1 else -1) (if s (6 * l + 2) < 3 then upd s (6 * l + 2) (s (6 * l + 2) + 1) else upd s 118 (s 118 + 1)) (z_nM m) (z_nV m sv s) kp sl len tx := by
  unfold fX7_favour fX7_favour_b0 fX7_favour_b13
  rw [z_r_isLodger_ok x hl, z_ob, if_neg (by decide), z_r_h0, z_ob, z_qh1]
  refine z_MM_save R (fun y Ry y0 => ?_)
  have A := Ry.1
  rw [show fX7_of (z_I l) 2 y = _ from z_r_of l 2 y, z_ob, z_gm (by omega), z_Rr_I A (by omega)]
  obtain ⟨a, ha, ea⟩ := (O.2.2.1 l hl).2.2
  have h34 := z_f34 a ha
  rw [← ea] at h34
  by_cases c : s (6 * l + 2) < 3
  · rw [if_neg (h34.mp c), if_pos c, if_pos c, z_ob, z_gm (by omega), z_gm (by omega), z_I_nat (by omega), z_lt_]
    have A1 := z_Rr_up A (6 * l + 2) (y.1 (101 + 1) (6 * l + 2) + 1)
    rw [show y.1 (101 + 1) (6 * l + 2) = s (6 * l + 2) from A _ (by omega)] at A1 ⊢
    rw [show fX7_of (z_I l) 2 _ = _ from z_r_of l 2 _, z_ob, z_gm (by omega), z_Rr_I A1 (by omega), z_updP _ rfl]
    exact ⟨_, rfl, z_RelR_R Ry (z_FrR_up _ _ _) A1, z_FM_R (z_FrR_up _ _ _), by rw [z_up1_o _ _ _ (by omega)]; exact y0⟩
  · have c3 : s (6 * l + 2) = 3 := by
      by_cases d : s (6 * l + 2) = 3
      · exact d
      · exact absurd (h34.mpr d) c
    rw [if_pos c3, if_neg c, if_neg c]
    obtain ⟨z, ez, Az, Fz⟩ := z_r_refuses A
    exact ⟨z, by rw [ez, z_ob], z_RelR_R Ry Fz Az, z_FM_R Fz, by rw [Fz.2 101 (by omega)]; exact y0⟩
theorem z_M_favour_L (R : z_RelR x s m sv kp sl len tx) {v : Int32} (h : ¬ z_inR v 0 9) : z_MX (fX7_favour 101 v x) x 1 s m sv kp sl len tx := by
  obtain ⟨R0, F0, z0⟩ := z_RelR_0 R 1
  unfold fX7_favour fX7_favour_b0 fX7_favour_b13
  rw [z_r_isLodger_bad x h, z_ob, if_pos rfl, z_r_hn (by decide), z_ob, z_qh0]
  exact ⟨_, _, rfl, R0, F0, z0⟩
theorem z_r_becomes {k : Nat} (hk : k < 120) (v : Int32) (R : z_RelR x s m sv kp sl len tx) : ∃ x', fX7_becomes 101 (z_I k) v x = some (s k, x') ∧ z_RelR x' (upd s k v) (z_nM m) (z_nV m sv s) kp sl len tx ∧ z_FM x x' ∧ x'.1 101 0 = x.1 101 0 := by
  unfold fX7_becomes fX7_becomes_b0
  obtain ⟨y, ey, Ry, Fy, k4, _⟩ := z_r_save R
  rw [ey, z_ob, z_gm (by omega), z_Rr_I Ry.1 hk, z_lt_, z_gm (by omega), z_lt_, z_I_nat (by omega)]
  exact ⟨_, rfl, z_RelR_R Ry (z_FrR_up _ _ _) (z_Rr_up Ry.1 _ _), z_FM_t Fy (z_FM_R (z_FrR_up _ _ _)), by rw [z_up1_o _ _ _ (by omega)]; exact k4 0 (by omega)⟩
theorem z_M_need (R : z_RelR x s m sv kp sl len tx) {l v : Nat} (hl : l < 10) (z_hv : v ≤ 9) : z_MM (fX7_need 101 (z_I l) (z_I v) x) x (s (6 * l)) (upd s (6 * l) (z_I v)) (z_nM m) (z_nV m sv s) kp sl len tx := by
  obtain ⟨R0, F0, z0⟩ := z_RelR_0 R 0
  unfold fX7_need fX7_need_b0 fX7_need_b27
  rw [z_r_isLodger_ok x hl, z_ob, if_neg (by decide), show fX7_in (z_I v) 0 9 x = some 1 from z_r_in_ok (a := 0) (b := 9) x (by omega) (by omega) (by omega), z_ob, if_neg (by decide), z_r_h0, z_ob, z_qh1]
  rw [show fX7_of (z_I l) 0 _ = _ from z_r_of l 0 _, z_ob]
  obtain ⟨y, ey, Ry, Fy, y0⟩ := z_r_becomes (k := 6 * l + 0) (by omega) (z_I v) R0
  rw [ey, z_ob]
  exact ⟨y, rfl, Ry, z_FM_t F0 Fy, by rw [y0]; exact z0⟩
theorem z_M_need_L (R : z_RelR x s m sv kp sl len tx) {v w : Int32} (h : ¬ z_inR v 0 9) : z_MX (fX7_need 101 v w x) x 1 s m sv kp sl len tx := by
  obtain ⟨R0, F0, z0⟩ := z_RelR_0 R 1
  unfold fX7_need fX7_need_b0 fX7_need_b27
  rw [z_r_isLodger_bad x h, z_ob, if_pos rfl, z_r_hn (by decide), z_ob, z_qh0]
  exact ⟨_, _, rfl, R0, F0, z0⟩
theorem z_M_need_N (R : z_RelR x s m sv kp sl len tx) {l : Nat} {w : Int32} (hl : l < 10) (h : ¬ z_inR w 0 9) : z_MX (fX7_need 101 (z_I l) w x) x 2 s m sv kp sl len tx := by
  obtain ⟨R0, F0, z0⟩ := z_RelR_0 R 2
  unfold fX7_need fX7_need_b0 fX7_need_b27
  rw [z_r_isLodger_ok x hl, z_ob, if_neg (by decide), show fX7_in w 0 9 x = some 0 from z_r_in_bad (a := 0) (b := 9) x (by omega) (by omega) h, z_ob, if_pos rfl, z_r_hn (by decide), z_ob, z_qh0]
  exact ⟨_, _, rfl, R0, F0, z0⟩
theorem z_M_set (R : z_RelR x s m sv kp sl len tx) {v : Nat} (z_hv : v ≤ 9) : z_MM (fX7_set 101 (z_I v) x) x (s 119) (upd s 119 (z_I v)) (z_nM m) (z_nV m sv s) kp sl len tx := by
  obtain ⟨R0, F0, z0⟩ := z_RelR_0 R 0
  unfold fX7_set fX7_set_b0 fX7_set_b16
  rw [show fX7_in (z_I v) 0 9 x = some 1 from z_r_in_ok (a := 0) (b := 9) x (by omega) (by omega) (by omega), z_ob, if_neg (by decide), z_r_h0, z_ob, z_qh1]
  obtain ⟨y, ey, Ry, Fy, y0⟩ := z_r_becomes (k := 119) (by omega) (z_I v) R0
  rw [show (119 : Int32) = z_I 119 from rfl, ey, z_ob]
  exact ⟨y, rfl, Ry, z_FM_t F0 Fy, by rw [y0]; exact z0⟩
theorem z_M_set_N (R : z_RelR x s m sv kp sl len tx) {w : Int32} (h : ¬ z_inR w 0 9) : z_MX (fX7_set 101 w x) x 1 s m sv kp sl len tx := by
  obtain ⟨R0, F0, z0⟩ := z_RelR_0 R 1
  unfold fX7_set fX7_set_b0 fX7_set_b16
  rw [show fX7_in w 0 9 x = some 0 from z_r_in_bad (a := 0) (b := 9) x (by omega) (by omega) h, z_ob, if_pos rfl, z_r_hn (by decide), z_ob, z_qh0]
  exact ⟨_, _, rfl, R0, F0, z0⟩
def z_hc (s : z_row) (v : Int32) (g b : Nat) : Nat := z_sm (fun c => if z_hv s c g = v then 1 else 0) b
def z_SP (s : z_row) (g b : Nat) : z_row := fun k => if k < 60 ∧ k % 6 = 3 then s k + z_I (z_hc s (z_I (k / 6)) g b) else s k
def z_nc (s : z_row) (g b : Nat) : Nat := z_sm (fun c => if z_hv s c g = -1 then 0 else 1) b
theorem z_hc_HB (U : z_Uq s) {v : Int32} {g : Nat} (hg : g < 12) (hv1 : v ≠ -1) : z_hc s v g 4 = z_HB s v g 1 := by
  have u : ∀ b c, b < 4 → c < 4 → b ≠ c → z_hv s b g = v → z_hv s c g = v → False := fun b c hb z_hc hne h1 h2 => hne (U g hg b hb c z_hc (h1.trans h2.symm) (by rw [h1]; exact hv1))
  unfold z_hc z_HB z_BO
  simp only [z_sm, Nat.zero_add, Nat.add_zero]
  by_cases h0 : z_hv s 0 g = v
  · have a1 : ¬ z_hv s 1 g = v := fun e => u 0 1 (by omega) (by omega) (by omega) h0 e
    have a2 : ¬ z_hv s 2 g = v := fun e => u 0 2 (by omega) (by omega) (by omega) h0 e
    have a3 : ¬ z_hv s 3 g = v := fun e => u 0 3 (by omega) (by omega) (by omega) h0 e
    simp [h0, a1, a2, a3]
  · by_cases h1 : z_hv s 1 g = v
    · have a2 : ¬ z_hv s 2 g = v := fun e => u 1 2 (by omega) (by omega) (by omega) h1 e
      have a3 : ¬ z_hv s 3 g = v := fun e => u 1 3 (by omega) (by omega) (by omega) h1 e
      simp [h0, h1, a2, a3]
    · by_cases h2 : z_hv s 2 g = v
      · have a3 : ¬ z_hv s 3 g = v := fun e => u 2 3 (by omega) (by omega) (by omega) h2 e
        simp [h0, h1, h2, a3]
      · by_cases h3 : z_hv s 3 g = v
        · simp [h0, h1, h2, h3]
        · simp [h0, h1, h2, h3]
theorem z_SP_4 (U : z_Uq s) {g : Nat} (hg : g < 12) : z_SP s g 4 = z_SL s g 0 10 := by
  funext k
  unfold z_SP z_SL
  by_cases c : k < 60 ∧ k % 6 = 3
  · rw [if_pos c, if_pos (show (0 ≤ k / 6 ∧ k / 6 < 0 + 10) ∧ k % 6 = 3 by omega), z_hc_HB U hg (by rw [Ne, z_I_n1 (by omega)]; exact id)]
  · rw [if_neg c, if_neg (by omega)]
theorem z_SP_0 (g : Nat) : z_SP s g 0 = s := by
  funext k; unfold z_SP; split
  · exact Int32.add_zero _
  · rfl
theorem z_SP_n {g b : Nat} (h : z_hv s b g = -1) : z_SP s g (b + 1) = z_SP s g b := by
  funext k; unfold z_SP z_hc; simp only [z_sm]
  by_cases c : k < 60 ∧ k % 6 = 3
  · rw [if_pos c, if_pos c, if_neg (by rw [h, z_I_1n (by omega)]; exact id), Nat.add_zero]
  · rw [if_neg c, if_neg c]
theorem z_SP_y {g b l : Nat} (hl : l < 10) (h : z_hv s b g = z_I l) : z_SP s g (b + 1) = upd (z_SP s g b) (6 * l + 3) (z_SP s g b (6 * l + 3) + 1) := by
  funext k
  by_cases e : k = 6 * l + 3
  · rw [z_updP _ e, e]
    unfold z_SP z_hc; simp only [z_sm]
    have hq : 6 * l + 3 < 60 ∧ (6 * l + 3) % 6 = 3 := by omega
    simp only [if_pos hq, show (6 * l + 3) / 6 = l by omega, if_pos h]
    rw [← z_I_add, Int32.add_assoc]; rfl
  · rw [z_updN _ e]
    unfold z_SP z_hc; simp only [z_sm]
    by_cases c : k < 60 ∧ k % 6 = 3
    · rw [if_pos c, if_pos c, if_neg (by rw [h, z_I_eq (by omega) (by omega)]; omega), Nat.add_zero]
    · rw [if_neg c, if_neg c]
theorem z_SP_h (g b : Nat) {k : Nat} (h : 60 ≤ k) : z_SP s g b k = s k := by unfold z_SP; rw [if_neg (by omega)]
theorem z_r_fill {v : Int32} : ∀ d n j y t, z_Rr y t → j + d = 48 → d < n → ∃ y', fX7_passes_b98 101 n v (z_I j) y = some (v, y') ∧ z_Rr y' (fun k => if 60 + j ≤ k ∧ k < 108 then -1 else t k) ∧ z_FrR y y' := by
  intro d
  induction d with
  | zero =>
    intro n j y t A hj z_hn
    obtain ⟨n, rfl⟩ : ∃ k, n = k + 1 := ⟨n - 1, by omega⟩
    unfold fX7_passes_b98 fX7_passes_b120
    rw [if_pos (by rw [z_L48, z_I_le (by omega) (by omega)]; omega)]
    exact ⟨y, rfl, fun k hk => by dsimp only; rw [if_neg (by omega)]; exact A k hk, z_FrR_refl y⟩
  | succ d ih =>
    intro n j y t A hj z_hn
    obtain ⟨n, rfl⟩ : ∃ k, n = k + 1 := ⟨n - 1, by omega⟩
    rw [fX7_passes_b98, if_neg (by rw [z_L48, z_I_le (by omega) (by omega)]; omega), z_L60, z_I_add, z_gm (by omega), z_I_nat (by omega), z_lt_, z_I_s]
    obtain ⟨z, ez, Az, Fz⟩ := ih n (j + 1) _ _ (z_Rr_up A (60 + j) (-1)) (by omega) (by omega)
    refine ⟨z, ez, z_Rr_e Az (fun k hk => ?_), z_FrR_t (z_FrR_up _ _ _) Fz⟩
    by_cases c : k = 60 + j
    · rw [if_neg (by omega), z_updP _ c, if_pos (by omega)]
    · rw [z_updN _ c]
      by_cases c2 : 60 + (j + 1) ≤ k ∧ k < 108
      · rw [if_pos c2, if_pos (by omega)]
      · rw [if_neg c2, if_neg (by omega)]
theorem z_gmN {α : Type} {k : Nat} (h : k < 120) (a b : Option α) : (if z_I k < 0 ∨ ln (101 + 1) ≤ k then b else a) = a := by
  have := z_gm h a b; rwa [z_I_nat (by omega)] at this
theorem z_r_passes (A : z_Rr x s) (O : z_OKs s) {g : Nat} (hg : s 108 = z_I g) (hg12 : g < 12) : ∃ x', fX7_passes 101 x = some (z_I (z_LB s g), x') ∧ z_Rr x' (z_PS s g) ∧ z_FrR x x' := by
  unfold fX7_passes fX7_passes_b0
  have q : ∀ d n b y, z_Rr y (z_SP s g b) → b + d = 4 → d < n → ∃ y', fX7_passes_b4 101 n (z_I (z_nc s g b)) (z_I b) y = some (z_I (z_LB s g), y') ∧ z_Rr y' (z_PS s g) ∧ z_FrR y y' := by
    intro d
    induction d with
    | zero =>
      intro n b y B hb z_hn
      obtain ⟨n, rfl⟩ : ∃ k, n = k + 1 := ⟨n - 1, by omega⟩
      have : b = 4 := by omega
      subst this
      rw [fX7_passes_b4, if_pos (by decide), z_L108, z_gm (by omega), z_gm (by omega), z_Rr_I B (by omega), z_SP_h g 4 (by omega), hg, z_I_s, z_I_nat (by omega), z_lt_, z_gmN (by omega)]
      have B1 := z_Rr_up B 108 (z_I (g + 1))
      rw [show (up1 y (101 + 1) 108 (z_I (g + 1))).1 (101 + 1) 108 = z_I (g + 1) from (B1 _ (by omega)).trans (z_updP _ rfl _)]
      rw [show z_nc s g 4 = z_LB s g from rfl]
      rw [z_SP_4 O.2.2.2.2.2 hg12] at B1
      unfold z_PS
      by_cases c : g + 1 < 12
      · rw [if_neg (by rw [z_L12, z_I_eq (by omega) (by omega)]; omega), if_pos c]
        exact ⟨_, rfl, B1, z_FrR_up _ _ _⟩
      · rw [if_pos (by rw [z_L12, z_I_eq (by omega) (by omega)]; omega), if_neg c, z_gmN (by omega), z_lt_, z_L109, z_gm (by omega), z_gm (by omega), z_I_nat (by omega), z_lt_]
        have B2 := z_Rr_up B1 108 0
        rw [show (up1 (up1 y (101 + 1) 108 (z_I (g + 1))) (101 + 1) 108 0).1 (101 + 1) 109 = _ from B2 109 (by omega)]
        have B3 := z_Rr_up B2 109 (upd (upd (z_SL s g 0 10) 108 (z_I (g + 1))) 108 0 109 + 1)
        obtain ⟨z, ez, Az, Fz⟩ := z_r_fill (v := z_I (z_LB s g)) 48 FU 0 _ _ B3 (by omega) (by decide)
        refine ⟨z, ez, z_Rr_e Az (fun k hk => ?_), z_FrR_t (z_FrR_up _ _ _) (z_FrR_t (z_FrR_up _ _ _) (z_FrR_t (z_FrR_up _ _ _) Fz))⟩
        have e9 : z_FI (upd (z_SL s g 0 10) 108 (z_I (g + 1))) 109 = upd (z_SL s g 0 10) 108 (z_I (g + 1)) 109 := if_neg (by omega)
        by_cases c9 : k = 109
        · rw [if_neg (by omega), z_updP _ c9, z_updP _ c9, z_updN _ (by omega), z_updN _ (k := 109) (a := 108) (by omega), z_updN _ (k := 109) (a := 108) (by omega), e9, z_updN _ (by omega)]
        · rw [z_updN _ c9, z_updN _ c9]
          by_cases c8 : k = 108
          · rw [if_neg (by omega), z_updP _ c8, z_updP _ c8]
          · have e1 : upd (z_FI (upd (z_SL s g 0 10) 108 (z_I (g + 1)))) 108 0 k = z_FI (upd (z_SL s g 0 10) 108 (z_I (g + 1))) k := z_updN _ c8 _
            have e2 : upd (upd (z_SL s g 0 10) 108 (z_I (g + 1))) 108 0 k = upd (z_SL s g 0 10) 108 (z_I (g + 1)) k := z_updN _ c8 _
            rw [e1, e2]
            unfold z_FI
            by_cases ck : 60 ≤ k ∧ k < 108
            · rw [if_pos (show 60 + 0 ≤ k ∧ k < 108 from ck)]
            · rw [if_neg (show ¬ (60 + 0 ≤ k ∧ k < 108) from ck)]
    | succ d ih =>
      intro n b y B hb z_hn
      obtain ⟨n, rfl⟩ : ∃ k, n = k + 1 := ⟨n - 1, by omega⟩
      rw [fX7_passes_b4, if_neg (by rw [z_L4, z_I_le (by omega) (by omega)]; omega), z_L108, z_gm (by omega), z_Rr_I B (by omega), z_SP_h g b (by omega), hg, z_r_ofBed, z_ob, z_gm (by omega), z_Rr_I B (by omega), z_lt_, z_SP_h g b (by omega), show s (60 + 12 * b + g) = z_hv s b g from rfl]
      unfold fX7_passes_b48
      rw [z_I_s]
      rcases z_OK_h O (b := b) (h := g) (by omega) hg12 with e | ⟨l, hl, e⟩
      · rw [if_pos e]
        have := ih n (b + 1) y (by rw [z_SP_n e]; exact B) (by omega) (by omega)
        rw [show z_nc s g (b + 1) = z_nc s g b by unfold z_nc; simp only [z_sm]; rw [if_pos e, Nat.add_zero]] at this
        exact this
      · rw [if_neg (by rw [e, z_I_n1 (by omega)]; exact id), e, show fX7_of (z_I l) 3 y = _ from z_r_of l 3 y, z_ob, z_gm (by omega), z_gm (by omega), z_I_nat (by omega), z_lt_, z_I_s]
        rw [show y.1 (101 + 1) (6 * l + 3) = _ from B _ (by omega)]
        have B1 := z_Rr_up B (6 * l + 3) (z_SP s g b (6 * l + 3) + 1)
        rw [← z_SP_y hl e] at B1
        obtain ⟨z, ez, Az, Fz⟩ := ih n (b + 1) _ B1 (by omega) (by omega)
        rw [show z_nc s g (b + 1) = z_nc s g b + 1 by unfold z_nc; simp only [z_sm]; rw [if_neg (by rw [e, z_I_n1 (by omega)]; exact id)]] at ez
        exact ⟨z, ez, Az, z_FrR_t (z_FrR_up _ _ _) Fz⟩
  exact q 4 FU 0 x (by rw [z_SP_0]; exact A) (by omega) (by decide)
theorem z_n999 : ∀ n, n < 1000 → (z_I n < 999 ↔ ¬ z_I n = 999) := by
  intro n z_hn
  rw [show (999 : Int32) = z_I 999 from rfl, z_I_lt (by omega) (by omega), z_I_eq (by omega) (by omega)]; omega
theorem z_M_pass (R : z_RelR x s m sv kp sl len tx) (O : z_OKs s) (h : s 109 < 999) : z_MM (fX7_pass 101 x) x (z_I (z_LB s (z_gn s))) (z_PS s (z_gn s)) (z_nM m) (z_nV m sv s) kp sl len tx := by
  obtain ⟨g1, g2⟩ := z_gn_ok O
  obtain ⟨n, z_hn, en⟩ := O.2.2.2.1
  unfold fX7_pass fX7_pass_b0 fX7_pass_b19
  rw [z_L109, z_gm (by omega), z_Rr_I R.1 (by omega), if_neg (by rw [en] at h ⊢; exact (z_n999 n z_hn).mp h), z_r_h0, z_ob, z_qh1]
  refine z_MM_save R (fun y Ry y0 => ?_)
  obtain ⟨z, ez, Az, Fz⟩ := z_r_passes Ry.1 O g2 g1
  rw [ez, z_ob]
  exact ⟨z, rfl, z_RelR_R Ry Fz Az, z_FM_R Fz, by rw [Fz.2 101 (by omega)]; exact y0⟩
theorem z_M_pass_bad (R : z_RelR x s m sv kp sl len tx) (O : z_OKs s) (h : ¬ s 109 < 999) : z_MX (fX7_pass 101 x) x 1 s m sv kp sl len tx := by
  obtain ⟨R0, F0, z0⟩ := z_RelR_0 R 1
  obtain ⟨n, z_hn, en⟩ := O.2.2.2.1
  unfold fX7_pass fX7_pass_b0 fX7_pass_b19
  have h9 : s 109 = 999 := by
    by_cases c : s 109 = 999
    · exact c
    · rw [en] at h c; exact absurd ((z_n999 n z_hn).mpr c) h
  rw [z_L109, z_gm (by omega), z_Rr_I R.1 (by omega), if_pos h9, z_r_hn (by decide), z_ob, z_qh0]
  exact ⟨_, _, rfl, R0, F0, z0⟩
end

theorem z_sw48 (g : Nat → Nat) : z_sm g 48 = z_sm (fun h => z_sm (fun b => g (12 * b + h)) 4) 12 := by
  simp only [z_sm, Nat.reduceMul, Nat.reduceAdd]; omega
section
variable {x x' : xS} {s s' : z_row} {m : Nat} {sv : Nat → z_row} {kp : Nat → Bool} {sl : Nat → z_row} {len : Nat} {tx : Nat → Int32}
theorem z_LT_48 (s : z_row) : z_sm (fun k => if s (60 + k) = -1 then 0 else 1) 48 = z_LT s := by
  rw [z_sw48]; unfold z_LT z_LB z_hv
  simp only [Nat.add_assoc]
theorem z_LT_le (s : z_row) : z_LT s ≤ 48 := by rw [← z_LT_48]; exact z_sm_le (fun i _ => by split <;> omega)
theorem z_r_lent (A : z_Rr x s) : fX7_lent 101 x = some (z_I (z_LT s)) := by
  unfold fX7_lent fX7_lent_b0
  rw [show fX7_lent_b4 101 x FU 0 0 = fX7_lent_b4 101 x FU 0 (z_I 0) from rfl, z_loopN (F := fX7_lent_b4 101 x) (B := 48) (g := fun k => if s (60 + k) = -1 then 0 else 1) (fun n acc => ?_) (fun n acc j hj => ?_) 48 FU 0 0 rfl (by decide)]
  · simp only [Nat.zero_add]; rw [Int32.zero_add, z_LT_48]
  · rw [fX7_lent_b4, if_pos (by decide)]
  · rw [fX7_lent_b4, if_neg (by rw [z_L48, z_I_le (by omega) (by omega)]; omega), z_L60, z_I_add, z_gm (by omega), z_Rr_I A (by omega)]
    unfold fX7_lent_b29
    by_cases e : s (60 + j) = -1
    · rw [if_pos e, if_pos e, z_lt_, z_I_s]; rfl
    · rw [if_neg e, if_neg e, z_lt_, z_I_s]; rfl
theorem z_r_lentTo (A : z_Rr x s) (U : z_Uq s) {v : Int32} (hv1 : v ≠ -1) : fX7_lentTo 101 v x = some (z_I (z_HB s v 0 12)) := by
  unfold fX7_lentTo fX7_lentTo_b0
  rw [show fX7_lentTo_b4 101 v x FU 0 0 = fX7_lentTo_b4 101 v x FU 0 (z_I 0) from rfl, z_loopN (F := fX7_lentTo_b4 101 v x) (B := 48) (g := fun k => if s (60 + k) = v then 1 else 0) (fun n acc => ?_) (fun n acc j hj => ?_) 48 FU 0 0 rfl (by decide)]
  · simp only [Nat.zero_add]; rw [Int32.zero_add, z_sw48]
    have : z_sm (fun h => z_sm (fun b => if s (60 + (12 * b + h)) = v then 1 else 0) 4) 12 = z_HB s v 0 12 := z_sm_congr (fun h hh => by
      have := z_hc_HB U (v := v) (g := h) hh hv1
      unfold z_hc z_HB at this
      simp only [z_sm, Nat.zero_add, Nat.add_zero] at this ⊢
      unfold z_hv at this
      simp only [Nat.add_assoc] at this ⊢
      exact this)
    rw [this]
  · rw [fX7_lentTo_b4, if_pos (by decide)]
  · rw [fX7_lentTo_b4, if_neg (by rw [z_L48, z_I_le (by omega) (by omega)]; omega), z_L60, z_I_add, z_gm (by omega), z_Rr_I A (by omega)]
    unfold fX7_lentTo_b29
    by_cases e : s (60 + j) = v
    · rw [if_pos e, if_pos e, z_lt_, z_I_s]; rfl
    · rw [if_neg e, if_neg e, z_lt_, z_I_s]; rfl
theorem z_r_ofLodger (A : z_Rr x s) (U : z_Uq s) {l k : Nat} (hl : l < 10) (hk : k < 7) : fX7_ofLodger 101 (z_I l) (z_I k) x = some (z_LN s l k) := by
  have n1 : z_I l ≠ -1 := by rw [Ne, z_I_n1 (by omega)]; exact id
  unfold fX7_ofLodger fX7_ofLodger_b0 z_LN
  rw [z_L3]
  by_cases c : k < 3
  · rw [if_neg (by rw [z_I_le (by omega) (by omega)]; omega), if_neg (by omega), if_pos c, z_r_of, z_ob, z_gm (by omega), z_Rr_I A (by omega)]
  · rw [if_pos (by rw [z_I_le (by omega) (by omega)]; omega), if_neg c]
    by_cases c3 : k = 3
    · rw [if_pos (by rw [c3]), if_pos c3, z_r_lentTo A U n1, z_ob]
    · rw [if_neg (by rw [z_I_eq (by omega) (by omega)]; exact c3), if_neg c3, z_L1, z_I_sub (by omega), z_r_of, z_ob, z_gm (by omega), z_Rr_I A (by omega)]
theorem z_r_slept (A : z_Rr x s) : fX7_slept 101 x = some (z_S3 s) := by
  unfold fX7_slept fX7_slept_b0
  have q : ∀ n acc j, j < 10 → fX7_slept_b4 101 x (n + 1) acc (z_I j) = fX7_slept_b4 101 x n (acc + s (6 * j + 3)) (z_I (j + 1)) := by
    intro n acc j hj
    rw [fX7_slept_b4, if_neg (by rw [z_L10, z_I_le (by omega) (by omega)]; omega), show fX7_of (z_I j) 3 x = _ from z_r_of j 3 x, z_ob, z_gm (by omega), z_Rr_I A (by omega), z_lt_, z_I_s]
  have qe : ∀ n acc, fX7_slept_b4 101 x (n + 1) acc (z_I 10) = some acc := by
    intro n acc
    rw [fX7_slept_b4, if_pos (by decide)]
  rw [show fX7_slept_b4 101 x FU 0 0 = fX7_slept_b4 101 x (1989 + 1 + 1 + 1 + 1 + 1 + 1 + 1 + 1 + 1 + 1 + 1) 0 (z_I 0) from rfl, q _ _ 0 (by omega), q _ _ 1 (by omega), q _ _ 2 (by omega), q _ _ 3 (by omega), q _ _ 4 (by omega), q _ _ 5 (by omega), q _ _ 6 (by omega), q _ _ 7 (by omega), q _ _ 8 (by omega), q _ _ 9 (by omega), qe, Int32.zero_add]
  rfl
theorem z_r_counted (A : z_Rr x s) {k : Nat} (hk : k < 11) : fX7_counted 101 (z_I k) x = some (z_CN s (z_S3 s) (z_S5 s) k) := by
  unfold fX7_counted fX7_counted_b0
  rcases (by omega : k = 0 ∨ k = 1 ∨ k = 2 ∨ k = 3 ∨ k = 4 ∨ k = 5 ∨ k = 6 ∨ k = 7 ∨ k = 8 ∨ k = 9 ∨ k = 10) with rfl | rfl | rfl | rfl | rfl | rfl | rfl | rfl | rfl | rfl | rfl
  · rw [if_pos (by decide), z_L108, z_gm (by omega), z_Rr_I A (by omega)]; rfl
  · rw [if_neg (by decide), if_pos (by decide), z_L109, z_gm (by omega), z_Rr_I A (by omega)]; rfl
  · rw [if_neg (by decide), if_neg (by decide), if_pos (by decide), z_r_lent A]; rfl
  · rw [if_neg (by decide), if_neg (by decide), if_neg (by decide), if_pos (by decide), z_r_slept A]; rfl
  · rw [if_neg (by decide), if_neg (by decide), if_neg (by decide), if_neg (by decide), if_pos (by decide), z_L110, z_gm (by omega), z_Rr_I A (by omega)]; rfl
  · rw [if_neg (by decide), if_neg (by decide), if_neg (by decide), if_neg (by decide), if_neg (by decide), if_pos (by decide), z_L111, z_gm (by omega), z_L112, z_gm (by omega), z_L113, z_gm (by omega), z_L114, z_gm (by omega), z_Rr_I A (by omega), z_Rr_I A (by omega), z_Rr_I A (by omega), z_Rr_I A (by omega)]; rfl
  · rw [if_neg (by decide), if_neg (by decide), if_neg (by decide), if_neg (by decide), if_neg (by decide), if_neg (by decide), if_pos (by decide), z_L115, z_gm (by omega), z_Rr_I A (by omega)]; rfl
  · rw [if_neg (by decide), if_neg (by decide), if_neg (by decide), if_neg (by decide), if_neg (by decide), if_neg (by decide), if_neg (by decide), if_pos (by decide), z_L116, z_gm (by omega), z_Rr_I A (by omega)]; rfl
  · rw [if_neg (by decide), if_neg (by decide), if_neg (by decide), if_neg (by decide), if_neg (by decide), if_neg (by decide), if_neg (by decide), if_neg (by decide), if_pos (by decide), z_L117, z_gm (by omega), z_Rr_I A (by omega)]; rfl
  · rw [if_neg (by decide), if_neg (by decide), if_neg (by decide), if_neg (by decide), if_neg (by decide), if_neg (by decide), if_neg (by decide), if_neg (by decide), if_neg (by decide), if_pos (by decide), z_L119, z_gm (by omega), z_Rr_I A (by omega)]; rfl
  · rw [if_neg (by decide), if_neg (by decide), if_neg (by decide), if_neg (by decide), if_neg (by decide), if_neg (by decide), if_neg (by decide), if_neg (by decide), if_neg (by decide), if_neg (by decide), if_pos (by decide), z_L118, z_gm (by omega), z_Rr_I A (by omega)]; rfl
theorem z_r_counted11 (Q : z_QS x m sv) : fX7_counted 101 (z_I 11) x = some (z_I m) := by
  unfold fX7_counted fX7_counted_b0
  rw [if_neg (by decide), if_neg (by decide), if_neg (by decide), if_neg (by decide), if_neg (by decide), if_neg (by decide), if_neg (by decide), if_neg (by decide), if_neg (by decide), if_neg (by decide), if_neg (by decide), Q.1]
theorem z_r_mostAtOnce (A : z_Rr x s) : fX7_mostAtOnce 101 x = some (z_I (z_ML s)) := by
  unfold fX7_mostAtOnce fX7_mostAtOnce_b0
  refine z_loopG (F := fun k (a : Nat) j => fX7_mostAtOnce_b4 101 x k (z_I a) j) (B := 12) (g := fun a h => if a < z_LB s h then z_LB s h else a) (r := z_I) (P := fun a _ => a ≤ 4) (fun k acc _ => ?_) (fun k acc j hj hP => ⟨?_, ?_⟩) 12 FU 0 0 rfl (by decide) (by omega)
  · rw [fX7_mostAtOnce_b4, if_pos (by decide)]
  · have := z_LB_le s j
    rw [fX7_mostAtOnce_b4, if_neg (by rw [z_L12, z_I_le (by omega) (by omega)]; omega)]
    have q : ∀ n v b, b < 4 → fX7_mostAtOnce_b15 (fX7_mostAtOnce_b4 101 x k) 101 x (n + 1) (z_I acc) (z_I j) v (z_I b) = fX7_mostAtOnce_b15 (fX7_mostAtOnce_b4 101 x k) 101 x n (z_I acc) (z_I j) (v + z_I (if z_hv s b j = -1 then 0 else 1)) (z_I (b + 1)) := by
      intro n v b hb
      rw [fX7_mostAtOnce_b15, if_neg (by rw [z_L4, z_I_le (by omega) (by omega)]; omega), z_r_ofBed, z_ob, z_gm (by omega), z_Rr_I A (by omega), show s (60 + 12 * b + j) = z_hv s b j from rfl]
      unfold fX7_mostAtOnce_b42
      by_cases e : z_hv s b j = -1
      · rw [if_pos e, if_pos e, z_lt_, z_I_s]; rfl
      · rw [if_neg e, if_neg e, z_lt_, z_I_s]; rfl
    rw [show fX7_mostAtOnce_b15 (fX7_mostAtOnce_b4 101 x k) 101 x FU (z_I acc) (z_I j) 0 0 = fX7_mostAtOnce_b15 (fX7_mostAtOnce_b4 101 x k) 101 x (1995 + 1 + 1 + 1 + 1 + 1) (z_I acc) (z_I j) (z_I 0) (z_I 0) from rfl, q _ _ 0 (by omega), q _ _ 1 (by omega), q _ _ 2 (by omega), q _ _ 3 (by omega), z_I_add, z_I_add, z_I_add, z_I_add]
    rw [show 0 + (if z_hv s 0 j = -1 then 0 else 1) + (if z_hv s 1 j = -1 then 0 else 1) + (if z_hv s 2 j = -1 then 0 else 1) + (if z_hv s 3 j = -1 then 0 else 1) = z_LB s j from rfl]
    rw [fX7_mostAtOnce_b15, if_pos (by decide)]
    unfold fX7_mostAtOnce_b60
    rw [z_I_s]
    by_cases e : acc < z_LB s j
    · rw [if_pos e, if_neg (by rw [z_I_le (by omega) (by omega)]; omega)]
    · rw [if_neg e, if_pos (by rw [z_I_le (by omega) (by omega)]; omega)]
  · have := z_LB_le s j
    split <;> omega
theorem z_su2 : ∀ a, a < 10 → ∀ b, b < 10 → (decide (z_I a - z_I b ≤ 0) = decide (a ≤ b)) := by decide +kernel
theorem z_r_refusedMost (A : z_Rr x s) (O : z_OKs s) : fX7_refusedMost 101 x = some (z_I (z_RM s)) := by
  unfold fX7_refusedMost fX7_refusedMost_b0
  refine z_loopG (F := fun k (a : Nat) j => fX7_refusedMost_b4 101 x k (z_I a) j) (B := 10) (g := fun a l => if z_poo s l a = true then l else a) (r := z_I) (P := fun a _ => a < 10) (fun k acc _ => ?_) (fun k acc j hj hP => ⟨?_, ?_⟩) 9 FU 0 1 rfl (by decide) (by omega)
  · rw [fX7_refusedMost_b4, if_pos (by decide)]
  · have fin : ∀ c : Int32, (if c ≤ 0 then fX7_refusedMost_b71 (fX7_refusedMost_b4 101 x k) 101 x (z_I j) (z_I acc) else fX7_refusedMost_b71 (fX7_refusedMost_b4 101 x k) 101 x (z_I j) (z_I j)) = fX7_refusedMost_b4 101 x k (if c ≤ 0 then z_I acc else z_I j) (z_I (j + 1)) := fun c => by
      unfold fX7_refusedMost_b71
      rw [z_I_s]
      by_cases e : c ≤ 0
      · rw [if_pos e, if_pos e]
      · rw [if_neg e, if_neg e]
    rw [fX7_refusedMost_b4, if_neg (by rw [z_L10, z_I_le (by omega) (by omega)]; omega), show fX7_of (z_I j) 1 x = _ from z_r_of j 1 x, z_ob, z_gm (by omega), show fX7_of (z_I acc) 1 x = _ from z_r_of acc 1 x, z_ob, z_gm (by omega), z_Rr_I A (by omega), z_Rr_I A (by omega), z_lt_]
    unfold fX7_refusedMost_b61
    rw [fin, show fX7_of (z_I j) 0 x = some (z_I (6 * j)) from z_r_of j 0 x, z_ob, z_gm (by omega), show fX7_of (z_I acc) 0 x = some (z_I (6 * acc)) from z_r_of acc 0 x, z_ob, z_gm (by omega), z_Rr_I A (by omega), z_Rr_I A (by omega), fin]
    obtain ⟨p, hp, z_ep⟩ := (O.2.2.1 j hj).2.1
    obtain ⟨q, hq, eq⟩ := (O.2.2.1 acc hP).2.1
    obtain ⟨a, ha, ea⟩ := (O.2.2.1 j hj).1
    obtain ⟨b, hb, eb⟩ := (O.2.2.1 acc hP).1
    obtain ⟨h1, h2⟩ := z_su1 p hp q hq
    have h3 := z_su2 p (by omega) q (by omega)
    have h4 := z_su2 a ha b hb
    have i1 := z_I_lt (a := q) (b := p) (by omega) (by omega)
    have i2 := z_I_eq (a := p) (b := q) (by omega) (by omega)
    have i3 := z_I_lt (a := b) (b := a) (by omega) (by omega)
    unfold z_poo
    rw [z_ep, eq, ea, eb]
    by_cases c : p = q
    · rw [if_pos (by simpa [c] using h2)]
      by_cases c2 : a ≤ b
      · rw [if_pos (by simpa [c2] using h4)]
        have : ¬ b < a := by omega
        simp [c, i3, this, Int32.lt_irrefl]
      · rw [if_neg (by simpa [c2] using h4)]
        have : b < a := by omega
        simp [c, i3, this]
    · rw [if_neg (by simpa [c] using h2)]
      by_cases c2 : p ≤ q
      · rw [if_pos (by simpa [c2] using h3)]
        have : ¬ q < p := by omega
        simp [c, i1, i2, this]
      · rw [if_neg (by simpa [c2] using h3)]
        have : q < p := by omega
        simp [c, i1, i2, this]
  · split <;> omega
end

section
variable {x x' : xS} {s s' : z_row} {m : Nat} {sv : Nat → z_row} {kp : Nat → Bool} {sl : Nat → z_row} {len : Nat} {tx : Nat → Int32}
theorem z_sm_mono {f : Nat → Nat} {a b : Nat} (h : a ≤ b) : z_sm f a ≤ z_sm f b := by
  induction b with
  | zero => have : a = 0 := by omega
            subst this; exact Nat.le_refl _
  | succ b ih =>
    by_cases c : a = b + 1
    · rw [c]; exact Nat.le_refl _
    · have := ih (by omega); simp only [z_sm]; omega
theorem z_OP_mono {v : Int32} {f a b : Nat} (h : a ≤ b) (o : z_OP s v f b) : z_OP s v f a := by
  obtain ⟨h1, h2, h3, h4⟩ := o
  refine ⟨by omega, h2, ?_, ?_⟩
  · have := z_sm_mono (f := fun j => if z_BO s v (f + j) = 4 then 0 else 1) h
    unfold z_HB at h3 ⊢; omega
  · have e1 := z_EM_min s f a (z_EM_lt s f b)
    have e2 := z_sm_mono (f := fun j => if z_hv s (z_EM s f b) (f + j) = -1 then 0 else 1) h
    unfold z_LI at h4 e1 ⊢; omega
theorem z_lf_stop {v : Int32} {f : Nat} : ∀ d q, ¬ z_OPb s v f (q + 1) = true → z_lf s v f q d = q := by
  intro d q h
  cases d with
  | zero => rfl
  | succ d => simp only [z_lf]; rw [if_neg h]
theorem z_OPb_of {v : Int32} {f n : Nat} (h : z_OP s v f n) : z_OPb s v f n = true := by
  by_cases c : z_OPb s v f n = true
  · exact c
  · exact absurd h (z_OPb_f c)
theorem z_r_longestFor (A : z_Rr x s) (U : z_Uq s) {l f : Nat} (hl : l < 10) (hf : f < 12) : fX7_longestFor 101 (z_I l) (z_I f) x = some (z_I (z_LF s (z_I l) f)) := by
  have n1 : z_I l ≠ -1 := by rw [Ne, z_I_n1 (by omega)]; exact id
  unfold fX7_longestFor fX7_longestFor_b0
  have st : ∀ n found h, found ≤ 9 → 1 ≤ h → h ≤ 9 → f + h ≤ 12 → ¬ z_I f < s 108 → fX7_longestFor_b5 101 (z_I l) (z_I f) x (n + 1) (z_I found) (z_I h) = fX7_longestFor_b5 101 (z_I l) (z_I f) x n (if z_OPb s (z_I l) f h = true then z_I h else z_I found) (z_I (h + 1)) := by
    intro n found h h0 h1 h9 h12 hg
    have hB := z_HB_le s (z_I l) f h
    have hL := z_LI_le s (z_EM s f h) f h
    rw [fX7_longestFor_b5, if_neg (by rw [z_L9, z_I_lt (by omega) (by omega)]; omega), z_I_add, if_neg (by rw [z_L12, z_I_lt (by omega) (by omega)]; omega), z_L108, z_gm (by omega), z_Rr_I A (by omega), if_neg hg, z_r_hasBed A U n1 h12, z_ob]
    unfold fX7_longestFor_b64 fX7_longestFor_b65 fX7_longestFor_b78
    rw [z_I_s]
    by_cases c1 : z_HB s (z_I l) f h = 0
    · rw [if_pos c1, if_pos rfl, z_r_emptiest A h12, z_ob, z_r_lentIn A (z_EM_lt s f h) h12, z_ob]
      by_cases c2 : z_LI s (z_EM s f h) f h = 0
      · rw [if_pos (by rw [c2]; rfl), if_neg (by decide), if_pos (z_OPb_of ⟨h12, hg, c1, c2⟩)]
      · rw [if_neg (by rw [z_L0, z_I_eq (by omega) (by omega)]; exact c2), if_pos rfl, if_neg (fun o => c2 (z_OPb_t o).2.2.2)]
    · rw [if_neg c1, if_neg (by decide), if_pos rfl, if_neg (fun o => c1 (z_OPb_t o).2.2.1)]
  have en : ∀ n found h, found ≤ 9 → h ≤ 10 → (9 < h ∨ 12 < f + h ∨ z_I f < s 108) → fX7_longestFor_b5 101 (z_I l) (z_I f) x (n + 1) (z_I found) (z_I h) = some (z_I found) := by
    intro n found h h0 h10 z_hc
    unfold fX7_longestFor_b5 fX7_longestFor_b85
    by_cases c1 : 9 < h
    · rw [if_pos (by rw [z_L9, z_I_lt (by omega) (by omega)]; exact c1)]
    · rw [if_neg (by rw [z_L9, z_I_lt (by omega) (by omega)]; exact c1), z_I_add]
      by_cases c2 : 12 < f + h
      · rw [if_pos (by rw [z_L12, z_I_lt (by omega) (by omega)]; exact c2)]
      · rw [if_neg (by rw [z_L12, z_I_lt (by omega) (by omega)]; exact c2), z_L108, z_gm (by omega), z_Rr_I A (by omega), if_pos (by rcases z_hc with h | h | h <;> first | exact h | omega)]
  have cl : ∀ d n found h, found ≤ 9 → 1 ≤ h → h + d = 10 → d < n → ¬ z_OP s (z_I l) f h → fX7_longestFor_b5 101 (z_I l) (z_I f) x n (z_I found) (z_I h) = some (z_I found) := by
    intro d
    induction d with
    | zero =>
      intro n found h h0 h1 hd z_hn ho
      obtain ⟨n, rfl⟩ : ∃ k, n = k + 1 := ⟨n - 1, by omega⟩
      exact en n found h h0 (by omega) (Or.inl (by omega))
    | succ d ih =>
      intro n found h h0 h1 hd z_hn ho
      obtain ⟨n, rfl⟩ : ∃ k, n = k + 1 := ⟨n - 1, by omega⟩
      by_cases c : 12 < f + h ∨ z_I f < s 108
      · exact en n found h h0 (by omega) (Or.inr c)
      · rw [st n found h h0 h1 (by omega) (by omega) (fun w => c (Or.inr w)), if_neg (fun o => ho (z_OPb_t o))]
        exact ih n found (h + 1) h0 (by omega) (by omega) (by omega) (fun o => ho (z_OP_mono (by omega) o))
  have op : ∀ d n q, q + d = 9 → d + 1 < n → fX7_longestFor_b5 101 (z_I l) (z_I f) x n (z_I q) (z_I (q + 1)) = some (z_I (z_lf s (z_I l) f q d)) := by
    intro d
    induction d with
    | zero =>
      intro n q hq z_hn
      obtain ⟨n, rfl⟩ : ∃ k, n = k + 1 := ⟨n - 1, by omega⟩
      rw [en n q (q + 1) (by omega) (by omega) (Or.inl (by omega))]; rfl
    | succ d ih =>
      intro n q hq z_hn
      obtain ⟨n, rfl⟩ : ∃ k, n = k + 1 := ⟨n - 1, by omega⟩
      by_cases c : 12 < f + (q + 1) ∨ z_I f < s 108
      · rw [en n q (q + 1) (by omega) (by omega) (Or.inr c), z_lf_stop]
        intro o; have := z_OPb_t o
        rcases c with c | c
        · have := this.1; omega
        · exact this.2.1 c
      · rw [st n q (q + 1) (by omega) (by omega) (by omega) (by omega) (fun w => c (Or.inr w))]
        simp only [z_lf]
        by_cases o : z_OPb s (z_I l) f (q + 1) = true
        · rw [if_pos o, if_pos o]; exact ih n (q + 1) (by omega) (by omega)
        · rw [if_neg o, if_neg o]
          exact cl (8 - q) n q (q + 1 + 1) (by omega) (by omega) (by omega) (by omega) (fun w => z_OPb_f o (z_OP_mono (by omega) w))
  exact op 9 FU 0 rfl (by decide)
def z_FW (x x' : xS) : Prop := x'.2 = x.2 ∧ (∀ i, i ≠ 102 → i ≠ 101 → i ≠ 103 → x'.1 i = x.1 i) ∧ (∀ k, k ≠ 9 → x'.1 101 k = x.1 101 k)
theorem z_RelR_W (R : z_RelR x s m sv kp sl len tx) (h : z_FW x x') (A : z_Rr x' s') : z_RelR x' s' m sv kp sl len tx := by
  obtain ⟨_, ⟨a, b, c⟩, ⟨d, e⟩, ⟨f, g, h'⟩⟩ := R
  exact ⟨A, ⟨by rw [h.2.2 4 (by omega)]; exact a, b, fun k hk j hj => by rw [h.2.1 104 (by omega) (by omega) (by omega)]; exact c k hk j hj⟩, ⟨by rw [h.2.2 6 (by omega)]; exact d, fun k hk e1 j hj => by rw [h.2.1 105 (by omega) (by omega) (by omega)]; exact e k hk e1 j hj⟩, ⟨by rw [h.2.2 8 (by omega)]; exact f, g, fun k hk => by rw [h.2.1 106 (by omega) (by omega) (by omega)]; exact h' k hk⟩⟩
theorem z_FM_W (h : z_FW x x') : z_FM x x' := ⟨by rw [h.1], fun i a => h.2.1 i (by omega) (by omega) (by omega)⟩
theorem z_r_would (A : z_Rr x s) (O : z_OKs s) {l f n : Nat} (hl : l < 10) (z_hn : 1 ≤ n) (hh : f + n ≤ 12) : ∃ x', fX7_would 101 (z_I l) (z_I f) (z_I n) x = some (z_I (z_AN s l f n), x') ∧ z_Rr x' s ∧ z_FW x x' ∧ x'.1 101 9 = z_I (z_WO s l f n) := by
  obtain ⟨g1, g2⟩ := z_gn_ok O
  unfold fX7_would fX7_would_b0
  have q2 : ∀ v d k j y, (∀ i, i < j → y.1 102 i = s i) → (∀ i, i < 120 → y.1 103 i = s i) → j + d = 120 → d < k → ∃ z, fX7_would_b42 101 k v (z_I j) y = some (v, z) ∧ z_Rr z s ∧ (∀ i, i ≠ 102 → z.1 i = y.1 i) ∧ z.2 = y.2 := by
    intro v d
    induction d with
    | zero =>
      intro k j y h1 h2 hj hk
      obtain ⟨k, rfl⟩ : ∃ q, k = q + 1 := ⟨k - 1, by omega⟩
      rw [fX7_would_b42, if_pos (by rw [z_L120, z_I_le (by omega) (by omega)]; omega)]
      exact ⟨y, rfl, fun i hi => h1 i (by omega), fun _ _ => rfl, rfl⟩
    | succ d ih =>
      intro k j y h1 h2 hj hk
      obtain ⟨k, rfl⟩ : ∃ q, k = q + 1 := ⟨k - 1, by omega⟩
      rw [fX7_would_b42, if_neg (by rw [z_L120, z_I_le (by omega) (by omega)]; omega), z_gd (show j < ln (101 + 2) from (by show j < 120; omega)) (by decide), z_gm (by omega), z_lt_, z_I_nat (by omega), z_I_s]
      obtain ⟨z, ez, Az, fz, f2⟩ := ih k (j + 1) (up1 y (101 + 1) j (y.1 (101 + 2) j)) (fun i hi => by
        rw [z_up1_at]
        by_cases c : i = j
        · rw [if_pos ⟨rfl, c⟩, c]; exact h2 j (by omega)
        · rw [if_neg (fun e => c e.2)]; exact h1 i (by omega)) (fun i hi => by rw [z_up1_o _ _ _ (by omega)]; exact h2 i hi) (by omega) (by omega)
      exact ⟨z, ez, Az, fun i hi => by rw [fz i hi, z_up1_o _ _ _ hi], f2⟩
  have q1 : ∀ d k j y, (∀ i, i < j → y.1 103 i = s i) → (∀ i, i ≠ 103 → y.1 i = x.1 i) → y.2 = x.2 → j + d = 120 → d < k → ∃ z, fX7_would_b3 101 (z_I l) (z_I f) (z_I n) k (z_I j) y = some (z_I (z_AN s l f n), z) ∧ z_Rr z s ∧ z_FW x z ∧ z.1 101 9 = z_I (z_WO s l f n) := by
    intro d
    induction d with
    | zero =>
      intro k j y h1 h2 h3 hj hk
      obtain ⟨k, rfl⟩ : ∃ q, k = q + 1 := ⟨k - 1, by omega⟩
      rw [fX7_would_b3, if_pos (by rw [z_L120, z_I_le (by omega) (by omega)]; omega)]
      obtain ⟨w, ew, Bw, Fw, w9⟩ := z_r_asks (fun i hi => by rw [h2 102 (by omega)]; exact A i hi) O hl z_hn hh g2 g1
      rw [ew, z_ob]
      obtain ⟨z, ez, Az, fz, f2⟩ := q2 (z_I (z_AN s l f n)) 120 FU 0 w (fun i hi => absurd hi (Nat.not_lt_zero i)) (fun i hi => by rw [Fw.2.1 103 (by omega) (by omega)]; exact h1 i (by omega)) (by omega) (by decide)
      exact ⟨z, ez, Az, ⟨by rw [f2, Fw.1, h3], fun i a b c => by rw [fz i a, Fw.2.1 i a b, h2 i c], fun k hk => by rw [fz 101 (by omega), Fw.2.2 k hk, h2 101 (by omega)]⟩, by rw [fz 101 (by omega)]; exact w9⟩
    | succ d ih =>
      intro k j y h1 h2 h3 hj hk
      obtain ⟨k, rfl⟩ : ∃ q, k = q + 1 := ⟨k - 1, by omega⟩
      rw [fX7_would_b3, if_neg (by rw [z_L120, z_I_le (by omega) (by omega)]; omega), z_gm (by omega), z_gd (show j < ln (101 + 2) from (by show j < 120; omega)) (by decide), z_lt_, z_I_nat (by omega), z_I_s]
      exact ih k (j + 1) _ (fun i hi => by
        rw [z_up1_at]
        by_cases c : i = j
        · rw [if_pos ⟨rfl, c⟩, c, h2 (101 + 1) (by omega)]; exact A j (by omega)
        · rw [if_neg (fun e => c e.2)]; exact h1 i (by omega)) (fun i hi => by rw [z_up1_o _ _ _ (by omega)]; exact h2 i hi) h3 (by omega) (by omega)
  exact q1 120 FU 0 x (fun i hi => absurd hi (Nat.not_lt_zero i)) (fun _ _ => rfl) rfl (by omega) (by decide)
end
