def swM (i : Nat) : Term := .string "ConkerBouts$Text" (swX.getD i 0)
theorem st_S {s : State} {ar : Array Value} (hts : ∀ w ∈ lw_tbl, w.before ar s = true) (hgv : (Jvm.Cond.and given_1 narrow_1).before ar s = true) : ∃ q9 : sQ, kS q9 (fun q9 => s.heap.size ≤ q9) s s.heap := by
  have hs := flat_of_before _ hgv
  have hA : ∀ a : Nat, a < s.heap.size → ¬ s.heap.size ≤ a := fun a h => Nat.not_le.mpr h
  have e1 : ∀ i : Nat, i < 5 → (Cond.exactly (swM i) "java/lang/String").before ar s = true := fun i hi => by
    match i, hi with
    | 0, _ => exact hs _ (by decide +kernel)
    | 1, _ => exact hs _ (by decide +kernel)
    | 2, _ => exact hs _ (by decide +kernel)
    | 3, _ => exact hs _ (by decide +kernel)
    | 4, _ => exact hs _ (by decide +kernel)
  have e2 : ∀ i : Nat, i < 5 → (Cond.eq (.field (swM i) "java/lang/String" "coder" "B") (.int 0)).before ar s = true := fun i hi => by
    match i, hi with
    | 0, _ => exact hs _ (by decide +kernel)
    | 1, _ => exact hs _ (by decide +kernel)
    | 2, _ => exact hs _ (by decide +kernel)
    | 3, _ => exact hs _ (by decide +kernel)
    | 4, _ => exact hs _ (by decide +kernel)
  have e3 : ∀ i : Nat, i < 5 → (Cond.arrayOf (.field (swM i) "java/lang/String" "value" "[B") .byte).before ar s = true := fun i hi => by
    match i, hi with
    | 0, _ => exact hs _ (by decide +kernel)
    | 1, _ => exact hs _ (by decide +kernel)
    | 2, _ => exact hs _ (by decide +kernel)
    | 3, _ => exact hs _ (by decide +kernel)
    | 4, _ => exact hs _ (by decide +kernel)
  have e4 : ∀ i : Nat, i < 5 → (Cond.eq (.length (.field (swM i) "java/lang/String" "value" "[B")) (.int (Int32.ofNat (swL.getD i 0)))).before ar s = true := fun i hi => by
    match i, hi with
    | 0, _ => exact hs _ (by decide +kernel)
    | 1, _ => exact hs _ (by decide +kernel)
    | 2, _ => exact hs _ (by decide +kernel)
    | 3, _ => exact hs _ (by decide +kernel)
    | 4, _ => exact hs _ (by decide +kernel)
  have e5 : ∀ i : Nat, i < 5 → ∀ j : Nat, j < swL.getD i 0 → (Cond.eq (.elem (.field (swM i) "java/lang/String" "value" "[B") (.int (Int32.ofNat j))) (.int ((swB.getD i []).getD j 0))).before ar s = true := fun i hi j hj => by
    match i, hi, j, hj with
    | 0, _, 0, _ => exact hs _ (by decide +kernel)
    | 0, _, 1, _ => exact hs _ (by decide +kernel)
    | 0, _, 2, _ => exact hs _ (by decide +kernel)
    | 0, _, 3, _ => exact hs _ (by decide +kernel)
    | 0, _, j + 4, hj => exact absurd (show j + 4 < 4 from hj) (by omega)
    | 1, _, 0, _ => exact hs _ (by decide +kernel)
    | 1, _, 1, _ => exact hs _ (by decide +kernel)
    | 1, _, 2, _ => exact hs _ (by decide +kernel)
    | 1, _, 3, _ => exact hs _ (by decide +kernel)
    | 1, _, 4, _ => exact hs _ (by decide +kernel)
    | 1, _, 5, _ => exact hs _ (by decide +kernel)
    | 1, _, j + 6, hj => exact absurd (show j + 6 < 6 from hj) (by omega)
    | 2, _, 0, _ => exact hs _ (by decide +kernel)
    | 2, _, 1, _ => exact hs _ (by decide +kernel)
    | 2, _, 2, _ => exact hs _ (by decide +kernel)
    | 2, _, j + 3, hj => exact absurd (show j + 3 < 3 from hj) (by omega)
    | 3, _, 0, _ => exact hs _ (by decide +kernel)
    | 3, _, 1, _ => exact hs _ (by decide +kernel)
    | 3, _, 2, _ => exact hs _ (by decide +kernel)
    | 3, _, 3, _ => exact hs _ (by decide +kernel)
    | 3, _, 4, _ => exact hs _ (by decide +kernel)
    | 3, _, 5, _ => exact hs _ (by decide +kernel)
    | 3, _, j + 6, hj => exact absurd (show j + 6 < 6 from hj) (by omega)
    | 4, _, 0, _ => exact hs _ (by decide +kernel)
    | 4, _, 1, _ => exact hs _ (by decide +kernel)
    | 4, _, 2, _ => exact hs _ (by decide +kernel)
    | 4, _, 3, _ => exact hs _ (by decide +kernel)
    | 4, _, j + 4, hj => exact absurd (show j + 4 < 4 from hj) (by omega)
  have e6 : ∀ i j : Nat, i < 5 → j < 5 → i ≠ j → (Cond.not (Cond.eq (swM i) (swM j))).before ar s = true ∨ (Cond.not (Cond.eq (swM j) (swM i))).before ar s = true := fun i j hi hj hij => by
    match i, hi, j, hj, hij with
    | 0, _, 0, _, hij => exact absurd rfl hij
    | 0, _, 1, _, hij => first | exact Or.inl (hs _ (by decide +kernel)) | exact Or.inr (hs _ (by decide +kernel))
    | 0, _, 2, _, hij => first | exact Or.inl (hs _ (by decide +kernel)) | exact Or.inr (hs _ (by decide +kernel))
    | 0, _, 3, _, hij => first | exact Or.inl (hs _ (by decide +kernel)) | exact Or.inr (hs _ (by decide +kernel))
    | 0, _, 4, _, hij => first | exact Or.inl (hs _ (by decide +kernel)) | exact Or.inr (hs _ (by decide +kernel))
    | 1, _, 0, _, hij => first | exact Or.inl (hs _ (by decide +kernel)) | exact Or.inr (hs _ (by decide +kernel))
    | 1, _, 1, _, hij => exact absurd rfl hij
    | 1, _, 2, _, hij => first | exact Or.inl (hs _ (by decide +kernel)) | exact Or.inr (hs _ (by decide +kernel))
    | 1, _, 3, _, hij => first | exact Or.inl (hs _ (by decide +kernel)) | exact Or.inr (hs _ (by decide +kernel))
    | 1, _, 4, _, hij => first | exact Or.inl (hs _ (by decide +kernel)) | exact Or.inr (hs _ (by decide +kernel))
    | 2, _, 0, _, hij => first | exact Or.inl (hs _ (by decide +kernel)) | exact Or.inr (hs _ (by decide +kernel))
    | 2, _, 1, _, hij => first | exact Or.inl (hs _ (by decide +kernel)) | exact Or.inr (hs _ (by decide +kernel))
    | 2, _, 2, _, hij => exact absurd rfl hij
    | 2, _, 3, _, hij => first | exact Or.inl (hs _ (by decide +kernel)) | exact Or.inr (hs _ (by decide +kernel))
    | 2, _, 4, _, hij => first | exact Or.inl (hs _ (by decide +kernel)) | exact Or.inr (hs _ (by decide +kernel))
    | 3, _, 0, _, hij => first | exact Or.inl (hs _ (by decide +kernel)) | exact Or.inr (hs _ (by decide +kernel))
    | 3, _, 1, _, hij => first | exact Or.inl (hs _ (by decide +kernel)) | exact Or.inr (hs _ (by decide +kernel))
    | 3, _, 2, _, hij => first | exact Or.inl (hs _ (by decide +kernel)) | exact Or.inr (hs _ (by decide +kernel))
    | 3, _, 3, _, hij => exact absurd rfl hij
    | 3, _, 4, _, hij => first | exact Or.inl (hs _ (by decide +kernel)) | exact Or.inr (hs _ (by decide +kernel))
    | 4, _, 0, _, hij => first | exact Or.inl (hs _ (by decide +kernel)) | exact Or.inr (hs _ (by decide +kernel))
    | 4, _, 1, _, hij => first | exact Or.inl (hs _ (by decide +kernel)) | exact Or.inr (hs _ (by decide +kernel))
    | 4, _, 2, _, hij => first | exact Or.inl (hs _ (by decide +kernel)) | exact Or.inr (hs _ (by decide +kernel))
    | 4, _, 3, _, hij => first | exact Or.inl (hs _ (by decide +kernel)) | exact Or.inr (hs _ (by decide +kernel))
    | 4, _, 4, _, hij => exact absurd rfl hij
  obtain ⟨adK, adV, h1, h2⟩ := vk_Sof (N := 5) (tm := swM) (len := swL) (byt := swB) (A := fun q9 => s.heap.size ≤ q9) (by decide +kernel) e1 e2 e3 e4 e5 e6 hA
  refine ⟨(adK, adV), h1, va_Zof (hts _ m_429) (hts _ m_72) (va_eqt (hs (Cond.eq (.static "java/lang/String" "COMPACT_STRINGS" "Z") (.int 1)) (by decide +kernel))) hA, va_Zqof (hts _ m_445) (hts _ m_74) (hs _ (by decide +kernel)) hA, fun i hi => ?_⟩
  match i, hi with
  | 0, hi => exact vk_R.of (hts _ m_415) (h2 0 hi)
  | 1, hi => exact vk_R.of (hts _ m_481) (h2 1 hi)
  | 2, hi => exact vk_R.of (hts _ m_487) (h2 2 hi)
  | 3, hi => exact vk_R.of (hts _ m_493) (h2 3 hi)
  | 4, hi => exact vk_R.of (hts _ m_547) (h2 4 hi)
