/-! ONE STEP, whichever it is (calls and ends aside) -/
noncomputable def b_loc (T : Nat → Option b_C) (Z : Nat → Option (List Int32)) (dep Wr : Nat → Nat → Bool) (W : b_NF) (M : b_M) (I : m_I) (nx : Nat) (lv : b_Lv) (st : List b_V) : b_H :=
  bif Nat.ble I.1 43 then (bif Nat.ble I.1 12 then (bif Nat.ble I.1 5 then (bif Nat.ble I.1 2 then (bif Nat.beq I.1 2 then b_h2 W M I.2.1 I.2.2.1 nx lv st else bif Nat.beq I.1 0 then b_h0 W M I.2.2.1 nx lv st else b_h1 W M I.2.2.1 nx lv st)
      else (bif Nat.beq I.1 5 then b_h5 W M I.2.1 nx lv st else bif Nat.beq I.1 3 then b_h3 W M I.2.1 I.2.2.1 nx lv st else b_h4 W M I.2.1 I.2.2.1 nx lv st))
    else (bif Nat.ble I.1 9 then (bif Nat.ble I.1 7 then (bif Nat.beq I.1 6 then b_h6 W M I.2.1 nx lv st else b_h7 W M I.2.1 nx lv st) else (bif Nat.beq I.1 8 then b_h8 W M nx lv st else b_h9 W M I.2.1 nx lv st))
      else (bif Nat.beq I.1 12 then b_h12 W M I.2.1 I.2.2.1 nx lv st else bif Nat.beq I.1 11 then b_h11 W M I.2.1 I.2.2.1 nx lv st else some [(W, M, I.2.1, lv, st)])))
    else (bif Nat.ble I.1 18 then (bif Nat.ble I.1 15 then (bif Nat.beq I.1 15 then b_h15 T W M I.2.1 I.2.2.1 nx lv st else bif Nat.beq I.1 13 then b_h13 W M I.2.1 I.2.2.1 I.2.2.2 lv st else b_h14 W M I.2.1 I.2.2.2 lv st) else (bif Nat.beq I.1 16 then b_h16 T dep Wr W M I.2.1 I.2.2.1 nx lv st else bif Nat.beq I.1 18 then b_h18 T Z W M I.2.1 nx lv st else none))
      else (bif Nat.ble I.1 26 then (bif Nat.beq I.1 19 then b_h19 T dep Wr W M I.2.1 nx lv st else bif Nat.beq I.1 20 then b_h20 T Z W M I.2.1 nx lv st else bif Nat.beq I.1 26 then b_h26 T dep Wr W M nx lv st else none)
        else (bif Nat.beq I.1 28 then b_h28 W M I.2.1 nx lv st else bif Nat.beq I.1 40 then (bif Nat.ble (b_cats st) 12 then b_h40 W M I.2.1 nx lv st else none) else bif Nat.beq I.1 41 then b_h41 W M I.2.1 nx lv st else bif Nat.beq I.1 43 then b_h43 Z W M nx lv st else none)))) else none
section B74
variable {T : Nat → Option b_C} {Z : Nat → Option (List Int32)} {G : b_G} {fz : List (List Int32)} {dep Wr : Nat → Nat → Bool} {ρ : Nat → Int} {W : b_NF} {M : b_M} {cl : m_V} {cs : List Value} {σ : m_S} {lv : b_Lv} {st : List b_V} {L : List b_R} {nx : Nat}
theorem b_loc_ok {I : m_I} (hG : b_GOk G dep) (hD : b_DepOk dep) (hWr : b_WrOk T Wr) (hZ : b_ZOk Z G fz) (hW : b_gW W ρ) (hH : b_gH T σ) (hM : b_gM G fz W.1.1 ρ σ M) (hf : b_gf W.1.1 ρ lv st cl cs) (h : b_loc T Z dep Wr W M I nx lv st = some L) : b_Step T G fz Wr I nx W ρ cl cs σ L := by
  obtain ⟨op, a, v, q⟩ := I
  cases hb : Nat.ble op 43 with
  | false =>
    unfold b_loc at h
    dsimp only at h
    rw [hb] at h
    cases h
  | true =>
    have hle : op ≤ 43 := Nat.le_of_ble_eq_true hb
    match op, hle, h with
    | 0, _, h => exact b_h0_ok hW hH hM hf h
    | 1, _, h => exact b_h1_ok hW hH hM hf h
    | 2, _, h => exact b_h2_ok hW hH hM hf h
    | 3, _, h => exact b_h3_ok hW hH hM hf h
    | 4, _, h => exact b_h4_ok hW hH hM hf h
    | 5, _, h => exact b_h5_ok hW hH hM hf h
    | 6, _, h => exact b_h6_ok hW hH hM hf h
    | 7, _, h => exact b_h7_ok hW hH hM hf h
    | 8, _, h => exact b_h8_ok hW hH hM hf h
    | 9, _, h => exact b_h9_ok hW hH hM hf h
    | 10, _, h =>
      have h : some [(W, M, a, lv, st)] = some L := h
      cases h
      exact b_h10_ok hW hH hM hf
    | 11, _, h => exact b_h11_ok hW hH hM hf h
    | 12, _, h => exact b_h12_ok hW hH hM hf h
    | 13, _, h => exact b_h13_ok hW hH hM hf h
    | 14, _, h => exact b_h14_ok hW hH hM hf h
    | 15, _, h => exact b_h15_ok hW hH hM hf h
    | 16, _, h => exact b_h16_ok hG hD hWr hW hH hM hf h
    | 17, _, h => have h : (none : b_H) = some L := h; cases h
    | 18, _, h => exact b_h18_ok hZ hW hH hM hf h
    | 19, _, h => exact b_h19_ok hG hD hWr hW hH hM hf h
    | 20, _, h => exact b_h20_ok hZ hW hH hM hf h
    | 21, _, h => have h : (none : b_H) = some L := h; cases h
    | 22, _, h => have h : (none : b_H) = some L := h; cases h
    | 23, _, h => have h : (none : b_H) = some L := h; cases h
    | 24, _, h => have h : (none : b_H) = some L := h; cases h
    | 25, _, h => have h : (none : b_H) = some L := h; cases h
    | 26, _, h => exact b_h26_ok hG hWr hW hH hM hf h
    | 27, _, h => have h : (none : b_H) = some L := h; cases h
    | 28, _, h => exact b_h28_ok hW hH hM hf h
    | 29, _, h => have h : (none : b_H) = some L := h; cases h
    | 30, _, h => have h : (none : b_H) = some L := h; cases h
    | 31, _, h => have h : (none : b_H) = some L := h; cases h
    | 32, _, h => have h : (none : b_H) = some L := h; cases h
    | 33, _, h => have h : (none : b_H) = some L := h; cases h
    | 34, _, h => have h : (none : b_H) = some L := h; cases h
    | 35, _, h => have h : (none : b_H) = some L := h; cases h
    | 36, _, h => have h : (none : b_H) = some L := h; cases h
    | 37, _, h => have h : (none : b_H) = some L := h; cases h
    | 38, _, h => have h : (none : b_H) = some L := h; cases h
    | 39, _, h => have h : (none : b_H) = some L := h; cases h
    | 40, _, h =>
      have h : (bif Nat.ble (b_cats st) 12 then b_h40 W M a nx lv st else none) = some L := h
      cases e : Nat.ble (b_cats st) 12 with
      | true =>
        rw [e] at h
        exact b_h40_ok hW hH hM hf (by rw [← b_cats_ok hf.2.1]; exact Nat.le_of_ble_eq_true e) h
      | false => rw [e] at h; cases h
    | 41, _, h => exact b_h41_ok hW hH hM hf h
    | 42, _, h => have h : (none : b_H) = some L := h; cases h
    | 43, _, h => exact b_h43_ok hZ hW hH hM hf h
    | n + 44, hle, _ => omega
end B74
