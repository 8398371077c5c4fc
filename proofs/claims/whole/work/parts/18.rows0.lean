def rW (g : gG) (a : Nat → Nat) (N : Nat) (lim : Int32) (f : Nat → Int32) : va_W := [(a 0, .inr (3, [.int (nI N), .int lim, .ref (a 1)])), (a 1, .inl (g.2.1, 36, .inl f))]
theorem rW_adr {g : gG} {a : Nat → Nat} {N N' : Nat} {lim lim' : Int32} {f f' : Nat → Int32} : (rW g a N lim f).map Prod.fst = (rW g a N' lim' f').map Prod.fst := rfl
theorem rW_arr1 {g : gG} {a : Nat → Nat} {N : Nat} {lim : Int32} {f : Nat → Int32} {h : Nat → Int32} (e : ∀ j, j < 36 → f j = h j) : ∀ H, kP g (rW g a N lim f) H → kP g (rW g a N lim h) H := by
  intro H h1
  simp only [rW, kP_cons] at h1 ⊢
  exact ⟨h1.1, va_arr_congr e (h1.2.1), h1.2.2⟩
def pW (g : gG) (a : Nat → Nat) (N : Nat) (f : Nat → Int32) : va_W := [(a 0, .inr (2, [.int (nI N), .ref (a 1)])), (a 1, .inl (g.2.1, 152, .inl f))]
theorem pW_adr {g : gG} {a : Nat → Nat} {N N' : Nat} {f f' : Nat → Int32} : (pW g a N f).map Prod.fst = (pW g a N' f').map Prod.fst := rfl
theorem pW_arr1 {g : gG} {a : Nat → Nat} {N : Nat} {f : Nat → Int32} {h : Nat → Int32} (e : ∀ j, j < 152 → f j = h j) : ∀ H, kP g (pW g a N f) H → kP g (pW g a N h) H := by
  intro H h1
  simp only [pW, kP_cons] at h1 ⊢
  exact ⟨h1.1, va_arr_congr e (h1.2.1), h1.2.2⟩
def gW (g : gG) (a : Nat → Nat) (y : Nat) (ps : Nat) (s1 : Nat) (s2 : Nat) (s3 : Nat) : va_W := [(a 0, .inr (0, [.ref y, .ref ps, .ref s1, .ref s2, .ref s3]))]
theorem gW_adr {g : gG} {a : Nat → Nat} {y : Nat} {ps : Nat} {s1 : Nat} {s2 : Nat} {s3 : Nat} : (gW g a y ps s1 s2 s3).map Prod.fst = (gW g a y ps s1 s2 s3).map Prod.fst := rfl
def atF (f : Nat → Int32) (i j : Int32) : Int32 := if wth i 0 5 = true then (if wth j 0 5 = true then f (cl (i * 6 + j)) else 0) else 0
theorem at_nI {i : Int32} (h : wth i 0 5 = true) : ∃ n : Nat, n < 6 ∧ i = nI n := by
  rw [wth_ti, show (0 : Int32).toInt = 0 from rfl, show (5 : Int32).toInt = 5 from rfl] at h
  obtain ⟨n, h1, h2, h3⟩ := nI_ofT h.1
  exact ⟨n, by omega, h2⟩
theorem at_in {i j : Int32} (h : wth i 0 5 = true) (h' : wth j 0 5 = true) : vp_in (i * 6 + j) 36 := by
  obtain ⟨n, h1, rfl⟩ := at_nI h
  obtain ⟨k, h2, rfl⟩ := at_nI h'
  rw [show (6 : Int32) = nI 6 from rfl, pk_mul, nI_add]
  exact vp_in_nI (by omega) (by omega)
theorem atF_nI {f : Nat → Int32} {n z : Nat} (hn : n < 6) (hz : z < 6) : atF f (nI n) (nI z) = f (6 * n + z) := by
  unfold atF
  rw [if_pos (show wth (nI n) 0 5 = true from wth_nI (m := 5) (by omega)), if_pos (show wth (nI z) 0 5 = true from wth_nI (m := 5) (by omega)), show (6 : Int32) = nI 6 from rfl, pk_mul, nI_add, cl_nI (by omega), Nat.mul_comm]
def add6 (f : Nat → Int32) (N : Nat) (x1 x2 x3 x4 x5 x6 : Int32) : Nat → Int32 := upd (upd (upd (upd (upd (upd f (6 * N) x1) (6 * N + 1) x2) (6 * N + 2) x3) (6 * N + 3) x4) (6 * N + 4) x5) (6 * N + 5) x6
def dgR (f : Nat → Int32) (w : Nat) (h : Int64) : Nat → Int64
  | 0 => h
  | n + 1 => dgK (fun z => f (6 * n + z)) (dgR f w h n) w
theorem cl0 : cl 0 = 0 := by decide
theorem cl6 : cl 6 = 6 := by decide
theorem cl19 : cl 19 = 19 := by decide
theorem cl133 : cl 133 = 133 := by decide
theorem cp_le {k n : Nat} (hk : k < 2147483648) (h : k + 6 ≤ n) : (nI k).toNatClampNeg + (6 : Int32).toNatClampNeg ≤ n := by
  rw [nI_clamp hk]; exact h
/-- a row more of what may be undone -/
def keepF (r : Nat → Int32) (N : Nat) (f : Nat → Int32) : Nat → Int32 := va_cpy (fun j => r (39 + j)) (va_cpy (fun j => r (33 + j)) (va_cpy (fun j => r (9 + j)) (upd f (19 * N) (r 0)) 0 (19 * N + 1) 6) 0 (19 * N + 7) 6) 0 (19 * N + 13) 6
def kpN (N : Nat) : Nat := if N < 8 then N + 1 else 8
def kpF (r : Nat → Int32) (N : Nat) (f : Nat → Int32) : Nat → Int32 := if N < 8 then keepF r N f else keepF r 7 (va_cpy f f 19 0 133)
theorem kpN_a {N : Nat} (h : N < 8) : kpN N = N + 1 := if_pos h
theorem kpN_b {N : Nat} (h : ¬ N < 8) : kpN N = 7 + 1 := if_neg h
theorem kp_a {r : Nat → Int32} {N : Nat} {f : Nat → Int32} (_ : N ≤ 8) (h : N < 8) (j : Nat) : kpF r N f j = va_cpy (fun j => r (39 + j)) (va_cpy (fun j => r (33 + j)) (va_cpy (fun j => r (9 + j)) (upd f (cl (nI (19 * N))) (r 0)) (cl 0) (cl (nI (19 * N + 1))) (cl 6)) (cl 0) (cl (nI (19 * N + 7))) (cl 6)) (cl 0) (cl (nI (19 * N + 13))) (cl 6) j := by
  unfold kpF keepF
  rw [if_pos h, cl_nI (by omega), cl_nI (by omega), cl_nI (by omega), cl_nI (by omega), cl0, cl6]
theorem kp_b {r : Nat → Int32} {N : Nat} {f : Nat → Int32} (_ : N ≤ 8) (h : ¬ N < 8) (j : Nat) : kpF r N f j = va_cpy (fun j => r (39 + j)) (va_cpy (fun j => r (33 + j)) (va_cpy (fun j => r (9 + j)) (upd (va_cpy f f 19 0 133) (cl (nI (19 * 7))) (r 0)) (cl 0) (cl (nI (19 * 7 + 1))) (cl 6)) (cl 0) (cl (nI (19 * 7 + 7))) (cl 6)) (cl 0) (cl (nI (19 * 7 + 13))) (cl 6) j := by
  unfold kpF keepF
  rw [if_neg h, cl_nI (by omega), cl_nI (by omega), cl_nI (by omega), cl_nI (by omega), cl0, cl6]
def tkF (r f : Nat → Int32) (M : Nat) : Nat → Int32 := fun k => if k = 0 then f (19 * M) else if 9 ≤ k ∧ k < 15 then f (19 * M + 1 + (k - 9)) else if 33 ≤ k ∧ k < 39 then f (19 * M + 7 + (k - 33)) else if 39 ≤ k then f (19 * M + 13 + (k - 39)) else r k
theorem tk_lo {r f : Nat → Int32} {M k : Nat} (h0 : ¬ k = 0) (h1 : ¬ (9 ≤ k ∧ k < 15)) (h2 : k < 33) : upd r 0 (f (19 * M)) k = tkF r f M k := by
  rw [upd_ne h0]; unfold tkF; rw [if_neg h0, if_neg h1, if_neg (by omega), if_neg (by omega)]
theorem tk_cp {f h : Nat → Int32} {k j : Nat} (hk : k < 2147483648) (hj : j < 6) : va_cpy f h (cl (nI k)) (cl 0) (cl 6) j = f (k + j) := by
  rw [cl0, cl6, cl_nI hk]
  unfold va_cpy
  rw [if_pos ⟨Nat.zero_le _, by omega⟩]; rfl
theorem tk_to {g : gG} {b : Nat → Nat} {r f : Nat → Int32} {M : Nat} (hM : M < 8) : ∀ H, kP g (yV g b (upd r 0 (f (19 * M)) 1) (upd r 0 (f (19 * M)) 2) (upd r 0 (f (19 * M)) 0) (fun j => upd r 0 (f (19 * M)) (3 + j)) (fun j => upd r 0 (f (19 * M)) (6 + j)) (va_cpy f (fun j => upd r 0 (f (19 * M)) (9 + j)) (cl (nI (19 * M + 1))) (cl 0) (cl 6)) (fun j => upd r 0 (f (19 * M)) (15 + j)) (fun j => upd r 0 (f (19 * M)) (21 + j)) (fun j => upd r 0 (f (19 * M)) (27 + j)) (va_cpy f (fun j => upd r 0 (f (19 * M)) (33 + j)) (cl (nI (19 * M + 7))) (cl 0) (cl 6)) (va_cpy f (fun j => upd r 0 (f (19 * M)) (39 + j)) (cl (nI (19 * M + 13))) (cl 0) (cl 6))) H → kP g (yW g b (tkF r f M)) H := by
  refine yV_to (tk_lo (by omega) (by omega) (by omega)) (tk_lo (by omega) (by omega) (by omega)) rfl (fun j hj => tk_lo (by omega) (by omega) (by omega)) (fun j hj => tk_lo (by omega) (by omega) (by omega)) (fun j hj => ?_) (fun j hj => tk_lo (by omega) (by omega) (by omega)) (fun j hj => tk_lo (by omega) (by omega) (by omega)) (fun j hj => tk_lo (by omega) (by omega) (by omega)) (fun j hj => ?_) (fun j hj => ?_)
  · rw [tk_cp (by omega) hj]; unfold tkF; rw [if_neg (by omega), if_pos (by omega)]; congr 1; omega
  · rw [tk_cp (by omega) hj]; unfold tkF; rw [if_neg (by omega), if_neg (by omega), if_pos (by omega)]; congr 1; omega
  · rw [tk_cp (by omega) hj]; unfold tkF; rw [if_neg (by omega), if_neg (by omega), if_neg (by omega), if_pos (by omega)]; congr 1; omega
