/-! pure: the class's numbers and the model's -/
def chB : Nat → Nat → Nat
  | _, 0 => 1
  | 0, _ + 1 => 0
  | n + 1, k + 1 => chB n k + chB n (k + 1)
theorem chB_out : ∀ n k, n < k → chB n k = 0
  | _, 0, h => absurd h (Nat.not_lt_zero _)
  | 0, _ + 1, _ => rfl
  | n + 1, k + 1, h => by
    show chB n k + chB n (k + 1) = 0
    rw [chB_out n k (by omega), chB_out n (k + 1) (by omega)]
theorem chB_0 (n : Nat) : chB n 0 = 1 := by cases n <;> rfl
theorem chB_step : ∀ n k, chB n (k + 1) * (k + 1) + chB n k * k = chB n k * n
  | 0, 0 => rfl
  | 0, k + 1 => by simp [chB]
  | n + 1, 0 => by
    have h := chB_step n 0
    rw [chB_0] at h ⊢
    show (chB n 0 + chB n (0 + 1)) * (0 + 1) + 1 * 0 = 1 * (n + 1)
    rw [chB_0]
    omega
  | n + 1, k + 1 => by
    have h1 := chB_step n k
    have h2 := chB_step n (k + 1)
    show (chB n (k + 1) + chB n (k + 1 + 1)) * (k + 1 + 1) + (chB n k + chB n (k + 1)) * (k + 1) = (chB n k + chB n (k + 1)) * (n + 1)
    generalize chB n k = x at *
    generalize chB n (k + 1) = y at *
    generalize chB n (k + 1 + 1) = z at *
    simp only [Nat.add_mul, Nat.mul_add, Nat.mul_one] at *
    omega
theorem chB_sub {n k : Nat} (h : k ≤ n) : chB n k * (n - k) = chB n (k + 1) * (k + 1) := by
  have h1 := chB_step n k
  rw [Nat.mul_sub]
  omega
theorem pw_w_ch (n pl : Nat) : ∀ k, k ≤ n → pw_w n pl k = chB n k * (pl - 1) ^ k
  | 0, _ => by rw [chB_0]; rfl
  | k + 1, h => by
    show pw_w n pl k * (n - k) / (k + 1) * (pl - 1) = _
    rw [pw_w_ch n pl k (by omega), Nat.mul_right_comm, chB_sub (by omega), Nat.mul_right_comm, Nat.mul_div_cancel _ (Nat.succ_pos k), Nat.mul_assoc, Nat.pow_succ]
theorem pG_out (c : Nat) : ∀ t x, t < x → pG c t x = 0
  | 0, x, h => if_neg (by omega)
  | t + 1, x, h => by
    show pG c t x * (c - 1) + (if 0 < x then pG c t (x - 1) else 0) = 0
    rw [pG_out c t x (by omega), if_pos (by omega), pG_out c t (x - 1) (by omega), Nat.zero_mul]
theorem pG_ch (c : Nat) : ∀ t k, k ≤ t → pG c t (t - k) = chB t k * (c - 1) ^ k
  | 0, k, h => by
    have e : k = 0 := by omega
    rw [e]
    rfl
  | t + 1, 0, _ => by
    have ih := pG_ch c t 0 (Nat.zero_le _)
    show pG c t (t + 1) * (c - 1) + (if 0 < t + 1 then pG c t t else 0) = _
    rw [pG_out c t (t + 1) (by omega), if_pos (by omega), Nat.zero_mul, Nat.zero_add]
    rw [Nat.sub_zero] at ih
    rw [ih, chB_0, chB_0]
  | t + 1, k + 1, h => by
    have ih := pG_ch c t k (by omega)
    show pG c t (t + 1 - (k + 1)) * (c - 1) + (if 0 < t + 1 - (k + 1) then pG c t (t + 1 - (k + 1) - 1) else 0) = (chB t k + chB t (k + 1)) * (c - 1) ^ (k + 1)
    rw [show t + 1 - (k + 1) = t - k by omega, ih, Nat.add_mul, Nat.mul_assoc, ← Nat.pow_succ]
    by_cases e : k = t
    · rw [if_neg (by omega), chB_out t (k + 1) (by omega), Nat.zero_mul]
    · rw [if_pos (by omega), show t - k - 1 = t - (k + 1) by omega, pG_ch c t (k + 1) (by omega)]
theorem atS_front (g : Nat → Nat) : ∀ k r, atS g r (k + 1) = g r + atS g (r + 1) k
  | 0, r => by show 0 + g (r + 0) = g r + 0; rw [Nat.add_zero]; omega
  | k + 1, r => by
    have ih := atS_front g k r
    show atS g r (k + 1) + g (r + (k + 1)) = g r + (atS g (r + 1) k + g (r + 1 + k))
    rw [ih, show r + (k + 1) = r + 1 + k by omega]
    omega
theorem pw_s_at (n pl : Nat) : ∀ m, m ≤ n + 1 → pw_s n pl m = atS (pG pl n) (n + 1 - m) m
  | 0, _ => rfl
  | m + 1, h => by
    show pw_s n pl m + pw_w n pl m = _
    rw [atS_front, show n + 1 - (m + 1) = n - m by omega, show n - m + 1 = n + 1 - m by omega, pw_s_at n pl m (by omega), pw_w_ch n pl m (by omega), pG_ch pl n m (by omega)]
    omega
theorem pw_atl {r n : Nat} (pl : Nat) (h : r ≤ n + 1) : pw_ways r n pl = atl n r pl := by
  unfold pw_ways atl
  rw [pw_s_at n pl _ (by omega), show n + 1 - (n + 1 - r) = r by omega]
def fbN : Nat → Nat × Nat
  | 0 => (1, 1)
  | n + 1 => match fbN n with | (x, y) => (y, x + y)
theorem cd_gcd : ∀ f d r, r ≤ d → (r < (fbN f).1 ∨ d < (fbN f).2) → cd f d r = Nat.gcd d r
  | 0, d, r, h, q => by
    have e : r = 0 := by rcases q with q | q <;> simp [fbN] at q <;> omega
    rw [e, Nat.gcd_zero_right]
    rfl
  | f + 1, d, r, h, q => by
    show (if r = 0 then d else cd f r (d % r)) = _
    by_cases e : r = 0
    · rw [if_pos e, e, Nat.gcd_zero_right]
    · have hr : 0 < r := Nat.pos_of_ne_zero e
      have h1 : d % r < r := Nat.mod_lt _ hr
      have h2 : d % r ≤ d - r := by
        rw [Nat.mod_eq_sub_mod h]
        exact Nat.mod_le _ _
      rw [if_neg e, cd_gcd f r (d % r) (Nat.le_of_lt h1) ?_, Nat.gcd_comm r, ← Nat.gcd_rec, Nat.gcd_comm]
      have e1 : (fbN (f + 1)).1 = (fbN f).2 := rfl
      have e2 : (fbN (f + 1)).2 = (fbN f).1 + (fbN f).2 := rfl
      rw [e1, e2] at q
      omega
theorem fb_100 : 2 ^ 63 ≤ (fbN 100).2 := by decide +kernel
theorem cd_100 {a b : Nat} (h : a ≤ b) (hb : b < 2 ^ 63) : cd 100 b a = Nat.gcd b a := cd_gcd 100 b a h (Or.inr (Nat.lt_of_lt_of_le hb fb_100))
theorem rdp_eq {a b : Nat} (q : Nat) (h : a ≤ b) (hb : b < 2 ^ 63) : rdp a b q = (if q = 0 then a else b) / Nat.gcd b a := by
  unfold rdp
  rw [cd_100 h hb]
theorem sgS_zr {g : Nat → Nat} {x : Nat} : ∀ k, (∀ r, r < k → g (x - (r + 1)) = 0) → sgS g x k = 0
  | 0, _ => rfl
  | k + 1, h => by
    show sgS g x k + g (x - (k + 1)) = 0
    rw [sgS_zr k (fun r hr => h r (by omega)), h k (by omega)]
theorem cG_lo {n : Nat} (hn : 1 ≤ n) : ∀ m x, x < m → cG n m x = 0
  | 0, _, h => absurd h (Nat.not_lt_zero _)
  | m + 1, x, h => by
    show (if x ≤ (m + 1) * n then sgS (cG n m) x (min n x) else cG n m x) = 0
    have h1 : m + 1 ≤ (m + 1) * n := Nat.le_mul_of_pos_right _ hn
    rw [if_pos (by omega)]
    exact sgS_zr _ (fun r hr => cG_lo hn m _ (by omega))
theorem cG_hi (n : Nat) : ∀ m x, m * n < x → cG n m x = 0
  | 0, x, h => if_neg (by omega)
  | m + 1, x, h => by
    show (if x ≤ (m + 1) * n then sgS (cG n m) x (min n x) else cG n m x) = 0
    rw [if_neg (by omega)]
    exact cG_hi n m x (by rw [Nat.add_mul] at h; omega)
theorem wfA_zero {g : Nat → Nat} {mid far st : Nat} : ∀ k, (∀ i, i < k → g (st + i) = 0) → wfA g mid far st k = 0
  | 0, _ => rfl
  | k + 1, h => by
    show wfA g mid far st k + (if far ≤ adist (2 * (st + k)) mid then g (st + k) else 0) = 0
    rw [wfA_zero k (fun i hi => h i (by omega)), h k (by omega), ite_self]
theorem wfA_app (g : Nat → Nat) (mid far st a : Nat) : ∀ k, wfA g mid far st (a + k) = wfA g mid far st a + wfA g mid far (st + a) k
  | 0 => rfl
  | k + 1 => by
    show wfA g mid far st (a + k) + (if far ≤ adist (2 * (st + (a + k))) mid then g (st + (a + k)) else 0) = wfA g mid far st a + (wfA g mid far (st + a) k + (if far ≤ adist (2 * (st + a + k)) mid then g (st + a + k) else 0))
    rw [wfA_app g mid far st a k, Nat.add_assoc st a k, Nat.add_assoc]
theorem wf_eq (sum m : Nat) {n : Nat} (h1 : 1 ≤ n) (h5 : n ≤ 5) : wfC sum m n = wfM sum m n := by
  unfold wfC wfM
  have a1 : m ≤ m * n := Nat.le_mul_of_pos_right _ h1
  have a2 : m * n ≤ 5 * m := by rw [Nat.mul_comm 5]; exact Nat.mul_le_mul_left _ h5
  rw [show 5 * m + 1 = m + ((m * n + 1 - m) + (5 * m - m * n)) by omega, wfA_app, wfA_app, wfA_zero (st := 0) m (fun i hi => cG_lo h1 m _ (by omega)), wfA_zero (5 * m - m * n) (fun i hi => cG_hi n m _ (by omega)), Nat.zero_add, Nat.zero_add]
  first | rfl | (rw [Nat.add_zero]) | omega
theorem rkAll_cg {f g : Nat → Nat} {n i : Nat} (h : ∀ k, k < n → f (i * 5 + k) = g (i * 5 + k)) : rkAll f n i = rkAll g n i := by
  unfold rkAll
  exact decide_eq_decide.mpr ⟨fun q k hk => by rw [← h k hk]; exact q k hk, fun q k hk => by rw [h k hk]; exact q k hk⟩
theorem rkC_cg {f g : Nat → Nat} {n : Nat} : ∀ N, (∀ i k, i < N → k < n → f (i * 5 + k) = g (i * 5 + k)) → rkC f n N = rkC g n N
  | 0, _ => rfl
  | N + 1, h => by
    show rkC f n N + (if rkAll f n N = true then 1 else 0) = rkC g n N + (if rkAll g n N = true then 1 else 0)
    rw [rkC_cg N (fun i k hi hk => h i k (by omega) hk), rkAll_cg (fun k hk => h N k (by omega) hk)]
theorem rkS_cg {f g : Nat → Nat} {n : Nat} (hn : 1 ≤ n) : ∀ N, (∀ i k, i < N → k < n → f (i * 5 + k) = g (i * 5 + k)) → rkS f n N = rkS g n N
  | 0, _ => rfl
  | N + 1, h => by
    show rkS f n N + (if rkAll f n N = true then f (N * 5) else 0) = rkS g n N + (if rkAll g n N = true then g (N * 5) else 0)
    have e := h N 0 (by omega) hn
    rw [Nat.add_zero] at e
    rw [rkS_cg hn N (fun i k hi hk => h i k (by omega) hk), rkAll_cg (fun k hk => h N k (by omega) hk), e]
theorem rk_up {f : Nat → Nat} {n N : Nat} (hn : 1 ≤ n) : ∀ M, (∀ i, N ≤ i → i < N + M → f (i * 5) = 0) → rkC f n (N + M) = rkC f n N ∧ rkS f n (N + M) = rkS f n N
  | 0, _ => ⟨rfl, rfl⟩
  | M + 1, h => by
    have ih := rk_up hn M (fun i a b => h i a (by omega))
    have e : ¬ rkAll f n (N + M) = true := fun q => of_decide_eq_true q 0 hn (h (N + M) (by omega) (by omega))
    constructor
    · show rkC f n (N + M) + (if rkAll f n (N + M) = true then 1 else 0) = _
      rw [ih.1, if_neg e]
      rfl
    · show rkS f n (N + M) + (if rkAll f n (N + M) = true then f ((N + M) * 5) else 0) = _
      rw [ih.2, if_neg e]
      rfl
theorem rw_eq (k : Nat) : ∀ f r, f + r = k + 1 → rwF k f r = rwM k f r
  | 0, r, h => by show k + 1 = r; omega
  | f + 1, r, h => by
    show (if 20 * pw_ways r k 3 ≤ 3 ^ k then r else rwF k f (r + 1)) = (if 3 ^ k / 20 < atl k r 3 then rwM k f (r + 1) else r)
    rw [pw_atl 3 (by omega), rw_eq k f (r + 1) (by omega)]
    have e : 3 ^ k / 20 < atl k r 3 ↔ 3 ^ k < atl k r 3 * 20 := Nat.div_lt_iff_lt_mul (by decide)
    by_cases q : 20 * atl k r 3 ≤ 3 ^ k
    · rw [if_pos q, if_neg (by rw [e]; omega)]
    · rw [if_neg q, if_pos (by rw [e]; omega)]
theorem thM_be (st : Nat → Nat) (lo : Option Nat) (q h : Nat) : ∀ k, thM st k lo (some q) (some h) = thF lo (some q) (some h)
  | 0 => rfl
  | k + 1 => by
    show (if st k = 0 then thM st k lo (some q) (some h) else thM st k (if some q = none ∧ st k = 2 then some k else lo) (if some q = none ∧ st k = 1 then some k else some q) (if some h = none then some k else some h)) = _
    rw [if_neg (show ¬ (some q = none ∧ st k = 2) from fun h => nomatch h.1), if_neg (show ¬ (some q = none ∧ st k = 1) from fun h => nomatch h.1), if_neg (show ¬ some h = none from fun h => nomatch h), thM_be st lo q h k, ite_self]
theorem thM_some (td fd st : Nat → Nat) : ∀ k, (∀ i, i < k → (td i = 0 ↔ st i = 0) ∧ (¬ st i = 0 → (fd i = 0 ↔ st i = 1)) ∧ st i ≤ 2) → ∀ m h, thC td fd k (some m) = thM st k (some m) none (some h)
  | 0, _, _, _ => rfl
  | k + 1, hk, m, h => by
    have ih := thM_some td fd st k (fun i hi => hk i (by omega))
    obtain ⟨a1, a2, a3⟩ := hk k (by omega)
    show (if td k = 0 then thC td fd k (some m) else if fd k = 0 then FP.ddiv (FP.dadd (strv m) (strv k)) d2 else thC td fd k (some k)) = (if st k = 0 then thM st k (some m) none (some h) else thM st k (if (none : Option Nat) = none ∧ st k = 2 then some k else some m) (if (none : Option Nat) = none ∧ st k = 1 then some k else none) (if some h = none then some k else some h))
    by_cases e0 : st k = 0
    · rw [if_pos (a1.mpr e0), if_pos e0]
      exact ih m h
    · rw [if_neg (fun q => e0 (a1.mp q)), if_neg e0, if_neg (show ¬ some h = none from fun h => nomatch h)]
      by_cases e1 : st k = 1
      · rw [if_pos ((a2 e0).mpr e1), if_neg (by omega), if_pos ⟨rfl, e1⟩, thM_be]
        rfl
      · rw [if_neg (fun q => e1 ((a2 e0).mp q)), if_pos ⟨rfl, by omega⟩, if_neg (by omega)]
        exact ih k h
theorem thM_none (td fd st : Nat → Nat) : ∀ k, k ≤ 16 → (∀ i, i < k → (td i = 0 ↔ st i = 0) ∧ (¬ st i = 0 → (fd i = 0 ↔ st i = 1)) ∧ st i ≤ 2) → thC td fd k none = thM st k none none none
  | 0, _, _ => rfl
  | k + 1, h16, hk => by
    have ih := thM_none td fd st k (by omega) (fun i hi => hk i (by omega))
    obtain ⟨a1, a2, a3⟩ := hk k (by omega)
    show (if td k = 0 then thC td fd k none else if fd k = 0 then FP.dmul (strv k) d2 else thC td fd k (some k)) = (if st k = 0 then thM st k none none none else thM st k (if (none : Option Nat) = none ∧ st k = 2 then some k else none) (if (none : Option Nat) = none ∧ st k = 1 then some k else none) (if (none : Option Nat) = none then some k else none))
    by_cases e0 : st k = 0
    · rw [if_pos (a1.mpr e0), if_pos e0]
      exact ih
    · rw [if_neg (fun q => e0 (a1.mp q)), if_neg e0, if_pos rfl]
      by_cases e1 : st k = 1
      · rw [if_pos ((a2 e0).mpr e1), if_neg (by omega), if_pos ⟨rfl, e1⟩, thM_be]
        show FP.dmul (strv k) d2 = FP.dmul 4611686018427387904 (strv k)
        exact (th6 k (by omega)).symm
      · rw [if_neg (fun q => e1 ((a2 e0).mp q)), if_pos ⟨rfl, by omega⟩, if_neg (by omega)]
        exact thM_some td fd st k (fun i hi => hk i (by omega)) k k
theorem frB_iff (mr : Nat → Nat) (p k v : Nat) : ∀ t, ¬ frB mr p k v t = 0 ↔ (mr (p + k) = 0 ∧ ∀ n, n < t → ¬ mr (p + n) = v)
  | 0 => by
    show ¬ (if mr (p + k) = 0 then 1 else 0) = 0 ↔ _
    by_cases e : mr (p + k) = 0
    · rw [if_pos e]
      exact ⟨fun _ => ⟨e, fun n h => absurd h (Nat.not_lt_zero _)⟩, fun _ => by decide⟩
    · rw [if_neg e]
      exact ⟨fun q => absurd rfl q, fun q => absurd q.1 e⟩
  | t + 1 => by
    have ih := frB_iff mr p k v t
    show ¬ (if ¬ frB mr p k v t = 0 ∧ ¬ mr (p + t) = v then 1 else 0) = 0 ↔ _
    by_cases e : ¬ frB mr p k v t = 0 ∧ ¬ mr (p + t) = v
    · rw [if_pos e]
      exact ⟨fun _ => ⟨(ih.mp e.1).1, fun n h => by
        by_cases q : n = t
        · rw [q]; exact e.2
        · exact (ih.mp e.1).2 n (by omega)⟩, fun _ => by decide⟩
    · rw [if_neg e]
      exact ⟨fun q => absurd rfl q, fun q => absurd ⟨ih.mpr ⟨q.1, fun n h => q.2 n (by omega)⟩, q.2 t (by omega)⟩ e⟩
