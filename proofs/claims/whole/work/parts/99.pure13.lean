/-! ===== games: what the class keeps against what the reference keeps ===== -/
theorem Wf_cong {r q : Nat → Int32} (e : ∀ k, k < 45 → r k = q k) (h : Wf r) : Wf q := by
  obtain ⟨h0, h1, h2, h3, h4, h5⟩ := h
  refine ⟨by rw [← e 0 (by omega)]; exact h0, by rw [← e 1 (by omega)]; exact h1, by rw [← e 2 (by omega)]; exact h2, fun j hj => ?_, fun j hj => ?_, fun j hj => ?_⟩
  · rw [← e (3 + j) (by omega), ← e (6 + j) (by omega)]; exact h3 j hj
  · rw [← e (9 + j) (by omega), ← e (15 + j) (by omega), ← e (21 + j) (by omega), ← e (27 + j) (by omega), ← e (33 + j) (by omega), ← e (39 + j) (by omega)]; exact h4 j hj
  · rw [← e 2 (by omega)] at hj
    have := h2.2
    rw [← e (9 + j) (by omega), ← e 1 (by omega)]; exact h5 j hj
theorem Lv_cong {r r' q q' : Nat → Int32} (e : ∀ k, k < 45 → r k = r' k) (e' : ∀ k, k < 45 → q k = q' k) (hw : Wf r) (h : Lv r q) : Lv r' q' := by
  have b1 := hw.n3
  have b2 := hw.n6
  refine ⟨by rw [← e 0 (by omega), ← e' 0 (by omega)]; exact h.1, by rw [← e 1 (by omega), ← e' 1 (by omega)]; exact h.2.1, by rw [← e 2 (by omega), ← e' 2 (by omega)]; exact h.2.2.1, fun j hj => ?_, fun j hj => ?_⟩
  · rw [← e 1 (by omega)] at hj
    rw [← e (3 + j) (by omega), ← e' (3 + j) (by omega), ← e (6 + j) (by omega), ← e' (6 + j) (by omega)]; exact h.2.2.2.1 j hj
  · rw [← e 2 (by omega)] at hj
    rw [← e (9 + j) (by omega), ← e' (9 + j) (by omega), ← e (15 + j) (by omega), ← e' (15 + j) (by omega), ← e (21 + j) (by omega), ← e' (21 + j) (by omega), ← e (27 + j) (by omega), ← e' (27 + j) (by omega), ← e (33 + j) (by omega), ← e' (33 + j) (by omega), ← e (39 + j) (by omega), ← e' (39 + j) (by omega)]; exact h.2.2.2.2 j hj
def slot (N ua k : Nat) : Nat := (ua + 8 - N + k) % 8
def PR (r : Nat → Int32) (N : Nat) (f : Nat → Int32) (um ua : Nat) (ud : Nat → Int32) : Prop := N = um ∧ N ≤ 8 ∧ ua < 8 ∧ ∀ k, k < N → Wf (tkF r f k) ∧ Wf (fun j => ud (45 * slot N ua k + j)) ∧ Lv (tkF r f k) (fun j => ud (45 * slot N ua k + j))
def GR (r : Nat → Int32) (N : Nat) (f : Nat → Int32) (N1 N2 N3 : Nat) (f1 f2 f3 q : Nat → Int32) (um ua : Nat) (ud tl : Nat → Int32) : Prop := Wf r ∧ Wf q ∧ Lv r q ∧ PR r N f um ua ud ∧ Tld N1 N2 N3 f1 f2 f3 tl
theorem Tld_cong {N1 N2 N3 : Nat} {f1 f2 f3 tl tl' : Nat → Int32} (e : ∀ k, k < 94 → tl k = tl' k) (h : Tld N1 N2 N3 f1 f2 f3 tl) : Tld N1 N2 N3 f1 f2 f3 tl' := by
  obtain ⟨a1, a2, a3, a4, a5, a6, a7, a8, a9, b⟩ := h
  refine ⟨by rw [← e 0 (by omega)]; exact a1, by rw [← e 26 (by omega)]; exact a2, by rw [← e 63 (by omega)]; exact a3, a4, a5, a6, fun j hj z hz => ?_, fun j hj z hz => ?_, fun j hj z hz => ?_, b⟩
  · rw [← e _ (by omega)]; exact a7 j hj z hz
  · rw [← e _ (by omega)]; exact a8 j hj z hz
  · rw [← e _ (by omega)]; exact a9 j hj z hz
theorem GR.cong {r f f1 f2 f3 q ud tl : Nat → Int32} {N N1 N2 N3 um ua : Nat} (h : GR r N f N1 N2 N3 f1 f2 f3 q um ua ud tl) {q' ud' tl' : Nat → Int32} (eq : ∀ k, k < 45 → q k = q' k) (ed : ∀ k, k < 360 → ud k = ud' k) (et : ∀ k, k < 94 → tl k = tl' k) : GR r N f N1 N2 N3 f1 f2 f3 q' um ua ud' tl' := by
  obtain ⟨h1, h2, h3, ⟨p1, p2, p3, p4⟩, h5⟩ := h
  refine ⟨h1, Wf_cong eq h2, Lv_cong (fun _ _ => rfl) eq h1 h3, ⟨p1, p2, p3, fun k hk => ?_⟩, Tld_cong et h5⟩
  obtain ⟨a, b, d⟩ := p4 k hk
  have sl : slot N ua k < 8 := Nat.mod_lt _ (by decide)
  have ee : ∀ j, j < 45 → ud (45 * slot N ua k + j) = ud' (45 * slot N ua k + j) := fun j hj => ed _ (by omega)
  exact ⟨a, Wf_cong ee b, Lv_cong (fun _ _ => rfl) ee a d⟩
/-! a row more, a row less -/
def stat (r' r : Nat → Int32) : Prop := ∀ k, ¬ k = 0 → ¬ (9 ≤ k ∧ k < 15) → k < 33 → r' k = r k
theorem tk_stat {r' r f : Nat → Int32} {k : Nat} (h : stat r' r) : tkF r' f k = tkF r f k := by
  funext j
  unfold tkF
  by_cases a : j = 0
  · rw [if_pos a, if_pos a]
  · rw [if_neg a, if_neg a]
    by_cases b : 9 ≤ j ∧ j < 15
    · rw [if_pos b, if_pos b]
    · rw [if_neg b, if_neg b]
      by_cases c : 33 ≤ j ∧ j < 39
      · rw [if_pos c, if_pos c]
      · rw [if_neg c, if_neg c]
        by_cases d : 39 ≤ j
        · rw [if_pos d, if_pos d]
        · rw [if_neg d, if_neg d]
          exact h j a b (by omega)
theorem tk_f {r f h : Nat → Int32} {a b k : Nat} (hk : k < 45) (e : ∀ j, j < 19 → f (19 * a + j) = h (19 * b + j)) : tkF r f a k = tkF r h b k := by
  have e0 := e 0 (by omega)
  rw [Nat.add_zero, Nat.add_zero] at e0
  unfold tkF
  split
  · exact e0
  · split
    · rw [Nat.add_assoc, Nat.add_assoc]; exact e _ (by omega)
    · split
      · rw [Nat.add_assoc, Nat.add_assoc]; exact e _ (by omega)
      · split
        · rw [Nat.add_assoc, Nat.add_assoc]; exact e _ (by omega)
        · rfl
theorem keep_old {r f : Nat → Int32} {N k : Nat} (h : k < 19 * N ∨ 19 * N + 19 ≤ k) : keepF r N f k = f k := by
  unfold keepF
  rw [pk_cpy_out (by omega), pk_cpy_out (by omega), pk_cpy_out (by omega), upd_ne (by omega)]
theorem keep_new {r f : Nat → Int32} {N k : Nat} (hk : k < 45) : tkF r (keepF r N f) N k = r k := by
  unfold tkF
  by_cases a : k = 0
  · rw [if_pos a, a]
    unfold keepF
    rw [pk_cpy_out (by omega), pk_cpy_out (by omega), pk_cpy_out (by omega), upd_eq]
  · rw [if_neg a]
    by_cases b : 9 ≤ k ∧ k < 15
    · rw [if_pos b]
      unfold keepF
      rw [pk_cpy_out (by omega), pk_cpy_out (by omega), pk_cpy_in (by omega) (by omega)]
      congr 1; omega
    · rw [if_neg b]
      by_cases c : 33 ≤ k ∧ k < 39
      · rw [if_pos c]
        unfold keepF
        rw [pk_cpy_out (by omega), pk_cpy_in (by omega) (by omega)]
        congr 1; omega
      · rw [if_neg c]
        by_cases d : 39 ≤ k
        · rw [if_pos d]
          unfold keepF
          rw [pk_cpy_in (by omega) (by omega)]
          congr 1; omega
        · rw [if_neg d]
theorem PR.keep {r q f ud : Nat → Int32} {N um ua : Nat} (h : PR r N f um ua ud) (hw : Wf r) (hq : Wf q) (hL : Lv r q) {r' : Nat → Int32} (hs : stat r' r) : PR r' (kpN N) (kpF r N f) (if um < 8 then um + 1 else um) ((ua + 1) % 8) (va_cpy q ud 0 (45 * ua) 45) := by
  obtain ⟨p1, p2, p3, p4⟩ := h
  subst p1
  have new : ∀ j, j < 45 → va_cpy q ud 0 (45 * ua) 45 (45 * ua + j) = q j := fun j hj => by
    rw [pk_cpy_in (by omega) (by omega)]; congr 1; omega
  have old : ∀ s, s < 8 → ¬ s = ua → ∀ j, j < 45 → va_cpy q ud 0 (45 * ua) 45 (45 * s + j) = ud (45 * s + j) := fun s _ hs j hj => pk_cpy_out (by omega)
  by_cases hN : N < 8
  · rw [kpN_a hN, if_pos hN]
    refine ⟨rfl, by omega, by omega, fun k hk => ?_⟩
    rw [tk_stat hs]
    have eF : kpF r N f = keepF r N f := if_pos hN
    rw [eF]
    by_cases e : k = N
    · subst e
      have sl : slot (k + 1) ((ua + 1) % 8) k = ua := by unfold slot; omega
      rw [sl]
      have e1 : ∀ j, j < 45 → r j = tkF r (keepF r k f) k j := fun j hj => (keep_new hj).symm
      have e2 : ∀ j, j < 45 → q j = va_cpy q ud 0 (45 * ua) 45 (45 * ua + j) := fun j hj => (new j hj).symm
      exact ⟨Wf_cong e1 hw, Wf_cong e2 hq, Lv_cong e1 e2 hw hL⟩
    · have sl : slot (N + 1) ((ua + 1) % 8) k = slot N ua k := by unfold slot; omega
      have sn : ¬ slot N ua k = ua := by unfold slot; omega
      have s8 : slot N ua k < 8 := Nat.mod_lt _ (by decide)
      rw [sl]
      obtain ⟨a, b, d⟩ := p4 k (by omega)
      have e1 : ∀ j, j < 45 → tkF r f k j = tkF r (keepF r N f) k j := fun j hj => tk_f hj fun z hz => (keep_old (by omega)).symm
      have e2 : ∀ j, j < 45 → ud (45 * slot N ua k + j) = va_cpy q ud 0 (45 * ua) 45 (45 * slot N ua k + j) := fun j hj => (old _ s8 sn j hj).symm
      exact ⟨Wf_cong e1 a, Wf_cong e2 b, Lv_cong e1 e2 a d⟩
  · rw [kpN_b hN, if_neg hN]
    have h8 : N = 8 := by omega
    subst h8
    refine ⟨rfl, by omega, by omega, fun k hk => ?_⟩
    rw [tk_stat hs]
    have eF : kpF r 8 f = keepF r 7 (va_cpy f f 19 0 133) := if_neg hN
    rw [eF]
    by_cases e : k = 7
    · subst e
      have sl : slot (7 + 1) ((ua + 1) % 8) 7 = ua := by unfold slot; omega
      rw [sl]
      have e1 : ∀ j, j < 45 → r j = tkF r (keepF r 7 (va_cpy f f 19 0 133)) 7 j := fun j hj => (keep_new hj).symm
      have e2 : ∀ j, j < 45 → q j = va_cpy q ud 0 (45 * ua) 45 (45 * ua + j) := fun j hj => (new j hj).symm
      exact ⟨Wf_cong e1 hw, Wf_cong e2 hq, Lv_cong e1 e2 hw hL⟩
    · have sl : slot (7 + 1) ((ua + 1) % 8) k = slot 8 ua (k + 1) := by unfold slot; omega
      have sn : ¬ slot 8 ua (k + 1) = ua := by unfold slot; omega
      have s8 : slot 8 ua (k + 1) < 8 := Nat.mod_lt _ (by decide)
      rw [sl]
      obtain ⟨a, b, d⟩ := p4 (k + 1) (by omega)
      have e1 : ∀ j, j < 45 → tkF r f (k + 1) j = tkF r (keepF r 7 (va_cpy f f 19 0 133)) k j := fun j hj => tk_f hj fun z hz => by
        rw [keep_old (by omega), pk_cpy_in (by omega) (by omega)]; congr 1; omega
      have e2 : ∀ j, j < 45 → ud (45 * slot 8 ua (k + 1) + j) = va_cpy q ud 0 (45 * ua) 45 (45 * slot 8 ua (k + 1) + j) := fun j hj => (old _ s8 sn j hj).symm
      exact ⟨Wf_cong e1 a, Wf_cong e2 b, Lv_cong e1 e2 a d⟩
theorem stat_tk {r f : Nat → Int32} {k : Nat} : stat (tkF r f k) r := fun j a b c => by
  unfold tkF
  rw [if_neg a, if_neg b, if_neg (by omega), if_neg (by omega)]
theorem GR.undo {r f f1 f2 f3 q ud tl : Nat → Int32} {N N1 N2 N3 um ua : Nat} (h : GR r N f N1 N2 N3 f1 f2 f3 q um ua ud tl) (h0 : ¬ N = 0) : GR (tkF r f (N - 1)) (N - 1) f N1 N2 N3 f1 f2 f3 (fun k => ud (45 * ((ua + 8 - 1) % 8) + k)) (um - 1) ((ua + 8 - 1) % 8) ud tl := by
  obtain ⟨h1, h2, h3, ⟨p1, p2, p3, p4⟩, h5⟩ := h
  obtain ⟨a, b, d⟩ := p4 (N - 1) (by omega)
  have sl : slot N ua (N - 1) = (ua + 8 - 1) % 8 := by unfold slot; omega
  rw [sl] at b d
  refine ⟨a, b, d, ⟨by omega, by omega, by omega, fun k hk => ?_⟩, h5⟩
  have s2 : slot (N - 1) ((ua + 8 - 1) % 8) k = slot N ua k := by unfold slot; omega
  rw [s2, tk_stat stat_tk]
  exact p4 k (by omega)
theorem GR.move {r f f1 f2 f3 q ud tl : Nat → Int32} {N N1 N2 N3 um ua : Nat} (h : GR r N f N1 N2 N3 f1 f2 f3 q um ua ud tl) {r' q' : Nat → Int32} (hw : Wf r') (hq : Wf q') (hL : Lv r' q') (hs : stat r' r) : GR r' (kpN N) (kpF r N f) N1 N2 N3 f1 f2 f3 q' (if um < 8 then um + 1 else um) ((ua + 1) % 8) (va_cpy q ud 0 (45 * ua) 45) tl :=
  ⟨hw, hq, hL, h.2.2.2.1.keep h.1 h.2.1 h.2.2.1 hs, h.2.2.2.2⟩
theorem PR_0 {r f ud : Nat → Int32} {ua : Nat} (h : ua < 8) : PR r 0 f 0 ua ud := ⟨rfl, by omega, h, fun k hk => absurd hk (Nat.not_lt_zero _)⟩
theorem GR.grow {r f f1 f2 f3 q ud tl : Nat → Int32} {N N1 N2 N3 um ua : Nat} (h : GR r N f N1 N2 N3 f1 f2 f3 q um ua ud tl) {r' q' : Nat → Int32} (hw : Wf r') (hq : Wf q') (hL : Lv r' q') : GR r' 0 f N1 N2 N3 f1 f2 f3 q' 0 ua ud tl :=
  ⟨hw, hq, hL, PR_0 h.2.2.2.1.2.2.1, h.2.2.2.2⟩
theorem Tld_0 {f1 f2 f3 tl : Nat → Int32} : Tld 0 0 0 f1 f2 f3 (upd (upd (upd tl 0 0) 26 0) 63 0) :=
  ⟨rfl, rfl, rfl, by decide, by decide, by decide, fun j hj => absurd hj (Nat.not_lt_zero _), fun j hj => absurd hj (Nat.not_lt_zero _), fun j hj => absurd hj (Nat.not_lt_zero _), fun j hj => absurd hj (Nat.not_lt_zero _), fun j hj => absurd hj (Nat.not_lt_zero _)⟩
theorem GR.fresh {r f f1 f2 f3 q ud tl : Nat → Int32} {N N1 N2 N3 um ua : Nat} (h : GR r N f N1 N2 N3 f1 f2 f3 q um ua ud tl) {r' q' : Nat → Int32} (hw : Wf r') (hq : Wf q') (hL : Lv r' q') : GR r' 0 f 0 0 0 f1 f2 f3 q' 0 ua ud (upd (upd (upd tl 0 0) 26 0) 63 0) :=
  ⟨hw, hq, hL, PR_0 h.2.2.2.1.2.2.1, Tld_0⟩
/-! an image laid down, taken up -/
theorem GR.laid {r f f1 f2 f3 q ud tl : Nat → Int32} {N N1 N2 N3 um ua : Nat} (h : GR r N f N1 N2 N3 f1 f2 f3 q um ua ud tl) {kn kt ku : Nat → Int32} {i : Nat} : GR r N f N1 N2 N3 f1 f2 f3 (fun k => va_cpy q kn 0 (45 * i) 45 (45 * i + k)) um ua (fun k => va_cpy ud ku 0 (360 * i) 360 (360 * i + k)) (fun k => va_cpy tl kt 0 (94 * i) 94 (94 * i + k)) := by
  refine h.cong (fun k hk => ?_) (fun k hk => ?_) (fun k hk => ?_)
  · rw [pk_cpy_in (by omega) (by omega)]; congr 1; omega
  · rw [pk_cpy_in (by omega) (by omega)]; congr 1; omega
  · rw [pk_cpy_in (by omega) (by omega)]; congr 1; omega
theorem GR.other {r f f1 f2 f3 kn ku kt : Nat → Int32} {N N1 N2 N3 um ua j : Nat} (h : GR r N f N1 N2 N3 f1 f2 f3 (fun k => kn (45 * j + k)) um ua (fun k => ku (360 * j + k)) (fun k => kt (94 * j + k))) {q ud tl : Nat → Int32} {i : Nat} (hij : ¬ j = i) : GR r N f N1 N2 N3 f1 f2 f3 (fun k => va_cpy q kn 0 (45 * i) 45 (45 * j + k)) um ua (fun k => va_cpy ud ku 0 (360 * i) 360 (360 * j + k)) (fun k => va_cpy tl kt 0 (94 * i) 94 (94 * j + k)) := by
  refine h.cong (fun k hk => ?_) (fun k hk => ?_) (fun k hk => ?_)
  · rw [pk_cpy_out (by omega)]
  · rw [pk_cpy_out (by omega)]
  · rw [pk_cpy_out (by omega)]
/-! what was told, one row more -/
theorem GR.told {r f f1 f2 f3 q ud tl : Nat → Int32} {N N1 N2 N3 um ua : Nat} (h : GR r N f N1 N2 N3 f1 f2 f3 q um ua ud tl) {M1 M2 M3 : Nat} {h1 h2 h3 tl' : Nat → Int32} (hT : Tld M1 M2 M3 h1 h2 h3 tl') : GR r N f M1 M2 M3 h1 h2 h3 q um ua ud tl' := ⟨h.1, h.2.1, h.2.2.1, h.2.2.2.1, hT⟩
theorem wth_bd {x : Int32} {lo hi : Int32} (h : wth x lo hi = true) : bd x lo.toInt hi.toInt := wth_ti.mp h
theorem Tld.seen {N1 N2 N3 : Nat} {f1 f2 f3 tl : Nat → Int32} (h : Tld N1 N2 N3 f1 f2 f3 tl) (hN : ¬ N1 = 5) {i t c f x : Int32} (hf : wth f 0 44 = true) : Tld (N1 + 1) N2 N3 (add6 f1 N1 i t c f x 0) f2 f3 (upd (upd (upd (upd (upd (upd tl (1 + 5 * N1) i) (1 + 5 * N1 + 1) t) (1 + 5 * N1 + 2) c) (1 + 5 * N1 + 3) f) (1 + 5 * N1 + 4) x) 0 (nI (N1 + 1))) := by
  obtain ⟨a1, a2, a3, a4, a5, a6, a7, a8, a9, b1, b2⟩ := h
  have oth : ∀ k, ¬ k = 0 → (k < 1 + 5 * N1 ∨ 1 + 5 * N1 + 5 ≤ k) → (upd (upd (upd (upd (upd (upd tl (1 + 5 * N1) i) (1 + 5 * N1 + 1) t) (1 + 5 * N1 + 2) c) (1 + 5 * N1 + 3) f) (1 + 5 * N1 + 4) x) 0 (nI (N1 + 1))) k = tl k := fun k h0 hk => by
    rw [upd_ne (by omega), upd_ne (by omega), upd_ne (by omega), upd_ne (by omega), upd_ne (by omega), upd_ne (by omega)]
  have otf : ∀ k, k < 6 * N1 → add6 f1 N1 i t c f x 0 k = f1 k := fun k hk => by
    unfold add6
    rw [upd_ne (by omega), upd_ne (by omega), upd_ne (by omega), upd_ne (by omega), upd_ne (by omega), upd_ne (by omega)]
  refine ⟨upd_eq, by rw [oth 26 (by omega) (by omega)]; exact a2, by rw [oth 63 (by omega) (by omega)]; exact a3, by omega, a5, a6, fun j hj z hz => ?_, fun j hj z hz => by rw [oth _ (by omega) (by omega)]; exact a8 j hj z hz, fun j hj z hz => by rw [oth _ (by omega) (by omega)]; exact a9 j hj z hz, fun n hn => ?_, b2⟩
  · by_cases e : j = N1
    · subst e
      unfold add6
      match z, hz with
      | 0, _ => rw [show 6 * j + 0 = 6 * j from rfl, show 1 + 5 * j + 0 = 1 + 5 * j from rfl, upd_ne (by omega), upd_ne (by omega), upd_ne (by omega), upd_ne (by omega), upd_ne (by omega), upd_eq, upd_ne (by omega), upd_ne (by omega), upd_ne (by omega), upd_ne (by omega), upd_ne (by omega), upd_eq]
      | 1, _ => rw [upd_ne (by omega), upd_ne (by omega), upd_ne (by omega), upd_ne (by omega), upd_eq, upd_ne (by omega), upd_ne (by omega), upd_ne (by omega), upd_ne (by omega), upd_eq]
      | 2, _ => rw [upd_ne (by omega), upd_ne (by omega), upd_ne (by omega), upd_eq, upd_ne (by omega), upd_ne (by omega), upd_ne (by omega), upd_eq]
      | 3, _ => rw [upd_ne (by omega), upd_ne (by omega), upd_eq, upd_ne (by omega), upd_ne (by omega), upd_eq]
      | 4, _ => rw [upd_ne (by omega), upd_eq, upd_ne (by omega), upd_eq]
    · rw [otf _ (by omega), oth _ (by omega) (by omega)]; exact a7 j (by omega) z hz
  · by_cases e : n = N1
    · subst e
      unfold add6
      rw [upd_ne (by omega), upd_ne (by omega), upd_eq]
      exact wth_bd hf
    · rw [otf _ (by omega)]; exact b1 n (by omega)
theorem Tld.note {N1 N2 N3 : Nat} {f1 f2 f3 tl : Nat → Int32} (h : Tld N1 N2 N3 f1 f2 f3 tl) (hN : ¬ N2 = 6) {i k t c f x : Int32} (hk : wth k 0 9 = true) (hf : wth f 0 44 = true) : Tld N1 (N2 + 1) N3 f1 (add6 f2 N2 i k t c f x) f3 (upd (upd (upd (upd (upd (upd (upd tl (27 + 6 * N2) i) (27 + 6 * N2 + 1) k) (27 + 6 * N2 + 2) t) (27 + 6 * N2 + 3) c) (27 + 6 * N2 + 4) f) (27 + 6 * N2 + 5) x) 26 (nI (N2 + 1))) := by
  obtain ⟨a1, a2, a3, a4, a5, a6, a7, a8, a9, b1, b2⟩ := h
  have oth : ∀ j, ¬ j = 26 → (j < 27 + 6 * N2 ∨ 27 + 6 * N2 + 6 ≤ j) → (upd (upd (upd (upd (upd (upd (upd tl (27 + 6 * N2) i) (27 + 6 * N2 + 1) k) (27 + 6 * N2 + 2) t) (27 + 6 * N2 + 3) c) (27 + 6 * N2 + 4) f) (27 + 6 * N2 + 5) x) 26 (nI (N2 + 1))) j = tl j := fun j h0 hj => by
    rw [upd_ne (by omega), upd_ne (by omega), upd_ne (by omega), upd_ne (by omega), upd_ne (by omega), upd_ne (by omega), upd_ne (by omega)]
  have otf : ∀ j, j < 6 * N2 → add6 f2 N2 i k t c f x j = f2 j := fun j hj => by
    unfold add6
    rw [upd_ne (by omega), upd_ne (by omega), upd_ne (by omega), upd_ne (by omega), upd_ne (by omega), upd_ne (by omega)]
  refine ⟨by rw [oth 0 (by omega) (by omega)]; exact a1, upd_eq, by rw [oth 63 (by omega) (by omega)]; exact a3, a4, by omega, a6, fun j hj z hz => by rw [oth _ (by omega) (by omega)]; exact a7 j hj z hz, fun j hj z hz => ?_, fun j hj z hz => by rw [oth _ (by omega) (by omega)]; exact a9 j hj z hz, b1, fun n hn => ?_⟩
  · by_cases e : j = N2
    · subst e
      unfold add6
      match z, hz with
      | 0, _ => rw [show 6 * j + 0 = 6 * j from rfl, show 27 + 6 * j + 0 = 27 + 6 * j from rfl, upd_ne (by omega), upd_ne (by omega), upd_ne (by omega), upd_ne (by omega), upd_ne (by omega), upd_eq, upd_ne (by omega), upd_ne (by omega), upd_ne (by omega), upd_ne (by omega), upd_ne (by omega), upd_ne (by omega), upd_eq]
      | 1, _ => rw [upd_ne (by omega), upd_ne (by omega), upd_ne (by omega), upd_ne (by omega), upd_eq, upd_ne (by omega), upd_ne (by omega), upd_ne (by omega), upd_ne (by omega), upd_ne (by omega), upd_eq]
      | 2, _ => rw [upd_ne (by omega), upd_ne (by omega), upd_ne (by omega), upd_eq, upd_ne (by omega), upd_ne (by omega), upd_ne (by omega), upd_ne (by omega), upd_eq]
      | 3, _ => rw [upd_ne (by omega), upd_ne (by omega), upd_eq, upd_ne (by omega), upd_ne (by omega), upd_ne (by omega), upd_eq]
      | 4, _ => rw [upd_ne (by omega), upd_eq, upd_ne (by omega), upd_ne (by omega), upd_eq]
      | 5, _ => rw [upd_eq, upd_ne (by omega), upd_eq]
    · rw [otf _ (by omega), oth _ (by omega) (by omega)]; exact a8 j (by omega) z hz
  · by_cases e : n = N2
    · subst e
      unfold add6
      refine ⟨?_, ?_⟩
      · rw [upd_ne (by omega), upd_ne (by omega), upd_ne (by omega), upd_ne (by omega), upd_eq]; exact wth_bd hk
      · rw [upd_ne (by omega), upd_eq]; exact wth_bd hf
    · rw [otf _ (by omega), otf _ (by omega)]; exact b2 n (by omega)
theorem Tld.mark {N1 N2 N3 : Nat} {f1 f2 f3 tl : Nat → Int32} (h : Tld N1 N2 N3 f1 f2 f3 tl) (hN : ¬ N3 = 6) {i t c f x : Int32} : Tld N1 N2 (N3 + 1) f1 f2 (add6 f3 N3 i t c f x 0) (upd (upd (upd (upd (upd (upd tl (64 + 5 * N3) i) (64 + 5 * N3 + 1) t) (64 + 5 * N3 + 2) c) (64 + 5 * N3 + 3) f) (64 + 5 * N3 + 4) x) 63 (nI (N3 + 1))) := by
  obtain ⟨a1, a2, a3, a4, a5, a6, a7, a8, a9, b1, b2⟩ := h
  have oth : ∀ k, ¬ k = 63 → (k < 64 + 5 * N3 ∨ 64 + 5 * N3 + 5 ≤ k) → (upd (upd (upd (upd (upd (upd tl (64 + 5 * N3) i) (64 + 5 * N3 + 1) t) (64 + 5 * N3 + 2) c) (64 + 5 * N3 + 3) f) (64 + 5 * N3 + 4) x) 63 (nI (N3 + 1))) k = tl k := fun k h0 hk => by
    rw [upd_ne (by omega), upd_ne (by omega), upd_ne (by omega), upd_ne (by omega), upd_ne (by omega), upd_ne (by omega)]
  have otf : ∀ k, k < 6 * N3 → add6 f3 N3 i t c f x 0 k = f3 k := fun k hk => by
    unfold add6
    rw [upd_ne (by omega), upd_ne (by omega), upd_ne (by omega), upd_ne (by omega), upd_ne (by omega), upd_ne (by omega)]
  refine ⟨by rw [oth 0 (by omega) (by omega)]; exact a1, by rw [oth 26 (by omega) (by omega)]; exact a2, upd_eq, a4, a5, by omega, fun j hj z hz => by rw [oth _ (by omega) (by omega)]; exact a7 j hj z hz, fun j hj z hz => by rw [oth _ (by omega) (by omega)]; exact a8 j hj z hz, fun j hj z hz => ?_, b1, b2⟩
  by_cases e : j = N3
  · subst e
    unfold add6
    match z, hz with
    | 0, _ => rw [show 6 * j + 0 = 6 * j from rfl, show 64 + 5 * j + 0 = 64 + 5 * j from rfl, upd_ne (by omega), upd_ne (by omega), upd_ne (by omega), upd_ne (by omega), upd_ne (by omega), upd_eq, upd_ne (by omega), upd_ne (by omega), upd_ne (by omega), upd_ne (by omega), upd_ne (by omega), upd_eq]
    | 1, _ => rw [upd_ne (by omega), upd_ne (by omega), upd_ne (by omega), upd_ne (by omega), upd_eq, upd_ne (by omega), upd_ne (by omega), upd_ne (by omega), upd_ne (by omega), upd_eq]
    | 2, _ => rw [upd_ne (by omega), upd_ne (by omega), upd_ne (by omega), upd_eq, upd_ne (by omega), upd_ne (by omega), upd_ne (by omega), upd_eq]
    | 3, _ => rw [upd_ne (by omega), upd_ne (by omega), upd_eq, upd_ne (by omega), upd_ne (by omega), upd_eq]
    | 4, _ => rw [upd_ne (by omega), upd_eq, upd_ne (by omega), upd_eq]
  · rw [otf _ (by omega), oth _ (by omega) (by omega)]; exact a9 j (by omega) z hz
theorem Tld.forget {N1 N2 N3 : Nat} {f1 f2 f3 tl : Nat → Int32} (h : Tld N1 N2 N3 f1 f2 f3 tl) {w : Int32} (hw : wth w 0 2 = true) : Tld (if w = 0 then 0 else N1) (if w = 1 then 0 else N2) (if ¬ w = 0 ∧ ¬ w = 1 then 0 else N3) f1 f2 f3 (upd tl (fgK w) 0) ∧ tl (fgK w) = if w = 0 then nI N1 else if w = 1 then nI N2 else nI N3 := by
  obtain ⟨a1, a2, a3, a4, a5, a6, a7, a8, a9, b1, b2⟩ := h
  unfold fgK
  by_cases w0 : w = 0
  · subst w0
    rw [if_pos rfl, if_pos rfl, if_neg (by decide), if_neg (by decide), if_pos rfl]
    refine ⟨⟨upd_eq, by rw [upd_ne (by omega)]; exact a2, by rw [upd_ne (by omega)]; exact a3, by omega, a5, a6, fun j hj => absurd hj (Nat.not_lt_zero _), fun j hj z hz => by rw [upd_ne (by omega)]; exact a8 j hj z hz, fun j hj z hz => by rw [upd_ne (by omega)]; exact a9 j hj z hz, fun j hj => absurd hj (Nat.not_lt_zero _), b2⟩, a1⟩
  · rw [if_neg w0, if_neg w0, if_neg w0]
    by_cases w1 : w = 1
    · subst w1
      rw [if_pos rfl, if_pos rfl, if_neg (by decide), if_pos rfl]
      refine ⟨⟨by rw [upd_ne (by omega)]; exact a1, upd_eq, by rw [upd_ne (by omega)]; exact a3, a4, by omega, a6, fun j hj z hz => by rw [upd_ne (by omega)]; exact a7 j hj z hz, fun j hj => absurd hj (Nat.not_lt_zero _), fun j hj z hz => by rw [upd_ne (by omega)]; exact a9 j hj z hz, b1, fun j hj => absurd hj (Nat.not_lt_zero _)⟩, a2⟩
    · rw [if_neg w1, if_neg w1, if_pos ⟨w0, w1⟩, if_neg w1]
      refine ⟨⟨by rw [upd_ne (by omega)]; exact a1, by rw [upd_ne (by omega)]; exact a2, upd_eq, a4, a5, by omega, fun j hj z hz => by rw [upd_ne (by omega)]; exact a7 j hj z hz, fun j hj z hz => by rw [upd_ne (by omega)]; exact a8 j hj z hz, fun j hj => absurd hj (Nat.not_lt_zero _), b1, b2⟩, a3⟩
