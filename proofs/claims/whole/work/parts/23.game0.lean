theorem asc6 (A0 A1 A2 A3 A4 A5 C : va_W) : A0 ++ (A1 ++ (A2 ++ (A3 ++ (A4 ++ (A5 ++ C))))) = (A0 ++ (A1 ++ (A2 ++ (A3 ++ (A4 ++ (A5 ++ [])))))) ++ C := by simp only [List.append_assoc, List.append_nil, List.nil_append]
theorem asc7 (A0 A1 A2 A3 A4 A5 A6 C : va_W) : A0 ++ (A1 ++ (A2 ++ (A3 ++ (A4 ++ (A5 ++ (A6 ++ C)))))) = (A0 ++ (A1 ++ (A2 ++ (A3 ++ (A4 ++ (A5 ++ (A6 ++ []))))))) ++ C := by simp only [List.append_assoc, List.append_nil, List.nil_append]
theorem asc8 (A0 A1 A2 A3 A4 A5 A6 A7 C : va_W) : A0 ++ (A1 ++ (A2 ++ (A3 ++ (A4 ++ (A5 ++ (A6 ++ (A7 ++ C))))))) = (A0 ++ (A1 ++ (A2 ++ (A3 ++ (A4 ++ (A5 ++ (A6 ++ (A7 ++ [])))))))) ++ C := by simp only [List.append_assoc, List.append_nil, List.nil_append]
theorem asc9 (A0 A1 A2 A3 A4 A5 A6 A7 A8 C : va_W) : A0 ++ (A1 ++ (A2 ++ (A3 ++ (A4 ++ (A5 ++ (A6 ++ (A7 ++ (A8 ++ C)))))))) = (A0 ++ (A1 ++ (A2 ++ (A3 ++ (A4 ++ (A5 ++ (A6 ++ (A7 ++ (A8 ++ []))))))))) ++ C := by simp only [List.append_assoc, List.append_nil, List.nil_append]
theorem asc10 (A0 A1 A2 A3 A4 A5 A6 A7 A8 A9 C : va_W) : A0 ++ (A1 ++ (A2 ++ (A3 ++ (A4 ++ (A5 ++ (A6 ++ (A7 ++ (A8 ++ (A9 ++ C))))))))) = (A0 ++ (A1 ++ (A2 ++ (A3 ++ (A4 ++ (A5 ++ (A6 ++ (A7 ++ (A8 ++ (A9 ++ [])))))))))) ++ C := by simp only [List.append_assoc, List.append_nil, List.nil_append]
theorem asc11 (A0 A1 A2 A3 A4 A5 A6 A7 A8 A9 A10 C : va_W) : A0 ++ (A1 ++ (A2 ++ (A3 ++ (A4 ++ (A5 ++ (A6 ++ (A7 ++ (A8 ++ (A9 ++ (A10 ++ C)))))))))) = (A0 ++ (A1 ++ (A2 ++ (A3 ++ (A4 ++ (A5 ++ (A6 ++ (A7 ++ (A8 ++ (A9 ++ (A10 ++ []))))))))))) ++ C := by simp only [List.append_assoc, List.append_nil, List.nil_append]
theorem asc12 (A0 A1 A2 A3 A4 A5 A6 A7 A8 A9 A10 A11 C : va_W) : A0 ++ (A1 ++ (A2 ++ (A3 ++ (A4 ++ (A5 ++ (A6 ++ (A7 ++ (A8 ++ (A9 ++ (A10 ++ (A11 ++ C))))))))))) = (A0 ++ (A1 ++ (A2 ++ (A3 ++ (A4 ++ (A5 ++ (A6 ++ (A7 ++ (A8 ++ (A9 ++ (A10 ++ (A11 ++ [])))))))))))) ++ C := by simp only [List.append_assoc, List.append_nil, List.nil_append]
theorem asc13 (A0 A1 A2 A3 A4 A5 A6 A7 A8 A9 A10 A11 A12 C : va_W) : A0 ++ (A1 ++ (A2 ++ (A3 ++ (A4 ++ (A5 ++ (A6 ++ (A7 ++ (A8 ++ (A9 ++ (A10 ++ (A11 ++ (A12 ++ C)))))))))))) = (A0 ++ (A1 ++ (A2 ++ (A3 ++ (A4 ++ (A5 ++ (A6 ++ (A7 ++ (A8 ++ (A9 ++ (A10 ++ (A11 ++ (A12 ++ []))))))))))))) ++ C := by simp only [List.append_assoc, List.append_nil, List.nil_append]
theorem asc14 (A0 A1 A2 A3 A4 A5 A6 A7 A8 A9 A10 A11 A12 A13 C : va_W) : A0 ++ (A1 ++ (A2 ++ (A3 ++ (A4 ++ (A5 ++ (A6 ++ (A7 ++ (A8 ++ (A9 ++ (A10 ++ (A11 ++ (A12 ++ (A13 ++ C))))))))))))) = (A0 ++ (A1 ++ (A2 ++ (A3 ++ (A4 ++ (A5 ++ (A6 ++ (A7 ++ (A8 ++ (A9 ++ (A10 ++ (A11 ++ (A12 ++ (A13 ++ [])))))))))))))) ++ C := by simp only [List.append_assoc, List.append_nil, List.nil_append]
theorem asc15 (A0 A1 A2 A3 A4 A5 A6 A7 A8 A9 A10 A11 A12 A13 A14 C : va_W) : A0 ++ (A1 ++ (A2 ++ (A3 ++ (A4 ++ (A5 ++ (A6 ++ (A7 ++ (A8 ++ (A9 ++ (A10 ++ (A11 ++ (A12 ++ (A13 ++ (A14 ++ C)))))))))))))) = (A0 ++ (A1 ++ (A2 ++ (A3 ++ (A4 ++ (A5 ++ (A6 ++ (A7 ++ (A8 ++ (A9 ++ (A10 ++ (A11 ++ (A12 ++ (A13 ++ (A14 ++ []))))))))))))))) ++ C := by simp only [List.append_assoc, List.append_nil, List.nil_append]
section KREF
variable {p : Program} {l : Launch} {e : Env} {s : State} {m : MethodId} {args : Array Value} {below : List Frame} {meth : Method} {c : Code} {H : Heap} {locs : List Loc} {cells slots : Nat} {Q : State → Prop} {R : Room} {cc : ByteArray} {pc : Nat} {rest st0 : List Value} {ls : Array Slot}
theorem ro_r {x : Nat} {a : Array Value} (hr : va_Run p l e R s m args below meth c H locs cells slots 0 0 (F0 m pc ls st0) rest (va_Sr (fun k => k = x) (fun k => .ref k) a) (fun _ => False)) (kk : W p l e R s m args below meth c H locs cells slots Q (F0 m (pc + 3) ls (.ref x :: rest))) : W p l e R s m args below meth c H locs cells slots Q (F0 m pc ls st0) :=
  va_csr hr.run fun r hr => by rw [hr]; exact kk
theorem ret_ror {x v : Nat} {n : String} (hx : p.tables.exec = Jvm.exec) (hb : c.code = cc) (hr : meth.sig.returnType = some (.object n)) (hlk : meth.locks = false) (hv : v = x) (hdg : decode cc pc = .ok (.areturn, 1)) : W p l e R s m args below meth c s.heap [] 0 0 (MQ below (va_Sr (fun k => k = x) (fun k => .ref k)) args s 0 0 (fun _ => False)) (F0 m pc ls [.ref v]) :=
  W.aret hx hb hr (Or.inl ⟨n, rfl⟩) (Or.inr ⟨v, rfl⟩) (fun t ht _ => ⟨v, rfl, hv, ht⟩) (fun _ h => by cases h) hdg hlk
end KREF
def uW (g : gG) (a : Nat → Nat) (f : Nat → Int32) : va_W := [(a 0, .inr (1, [.ref (a 1)])), (a 1, .inl (g.2.1, 10, .inl f))]
theorem uW_adr {g : gG} {a : Nat → Nat} {f f' : Nat → Int32} : (uW g a f).map Prod.fst = (uW g a f').map Prod.fst := rfl
theorem uW_arr1 {g : gG} {a : Nat → Nat} {f : Nat → Int32} {h : Nat → Int32} (e : ∀ j, j < 10 → f j = h j) : ∀ H, kP g (uW g a f) H → kP g (uW g a h) H := by
  intro H h1
  simp only [uW, kP_cons] at h1 ⊢
  exact ⟨h1.1, va_arr_congr e (h1.2.1), h1.2.2⟩
/-- what was seen, noted, marked: whether it is so by a candidate -/
def fit0 (r f : Nat → Int32) (c : Int32) (n : Nat) : Bool := decide (crk (yFact r (f (6 * n)) 1) c (f (6 * n + 2)) (f (6 * n + 3)) (f (6 * n + 1)) = f (6 * n + 4))
def fit1 (f : Nat → Int32) (c : Int32) (n : Nat) : Bool := decide (crk c (f (6 * n + 1)) (f (6 * n + 3)) (f (6 * n + 4)) (f (6 * n + 2)) = f (6 * n + 5))
def fit2 (f : Nat → Int32) (c : Int32) (n : Nat) : Bool := decide (frc c (f (6 * n + 1)) (f (6 * n + 2)) (f (6 * n + 3)) = f (6 * n + 4))
def allK (f : Nat → Int32) (who : Int32) (ft : Nat → Bool) (n : Nat) : Bool := !decide (f (6 * n) = who) || ft n
def allF (f : Nat → Int32) (who : Int32) (ft : Nat → Bool) (N : Nat) : Bool := (List.range N).all (allK f who ft)
theorem allF_t {f : Nat → Int32} {who : Int32} {ft : Nat → Bool} {N : Nat} (h : ∀ z, z < N → allK f who ft z = true) : allF f who ft N = true := List.all_eq_true.mpr fun z hz => h z (List.mem_range.mp hz)
theorem allF_f {f : Nat → Int32} {who : Int32} {ft : Nat → Bool} {N n : Nat} (hn : n < N) (h : allK f who ft n = false) : allF f who ft N = false := by
  apply Bool.eq_false_iff.mpr
  intro z
  have := List.all_eq_true.mp z n (List.mem_range.mpr hn)
  rw [h] at this
  exact absurd this (by decide)
