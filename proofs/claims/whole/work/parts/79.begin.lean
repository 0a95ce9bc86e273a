/-! PURE SIDE: the beginning: both are made alike -/
theorem q_side (a : Int32) : ∃ w : Nat, 4 ≤ w ∧ w ≤ 24 ∧ p_Pic_within a 4 24 = some (zI w) ∧ (if 4 ≤ a then (if a ≤ 24 then some a else some 24) else some 4) = some (zI w) := by
  obtain ⟨z, rfl, z1, z2⟩ := zI_of a
  have c1 : zI z < 24 ↔ z < 24 := by rw [zl24]; exact zI_lt z1 z2 (by omega) (by omega)
  have c2 : (4 : Int32) < zI z ↔ 4 < z := by rw [zl4]; exact zI_lt (by omega) (by omega) z1 z2
  have c3 : (4 : Int32) ≤ zI z ↔ 4 ≤ z := by rw [zl4]; exact zI_le (by omega) (by omega) z1 z2
  have c4 : zI z ≤ 24 ↔ z ≤ 24 := by rw [zl24]; exact zI_le z1 z2 (by omega) (by omega)
  unfold p_Pic_within
  simp only [c1, c3, c4]
  by_cases h1 : z < 24
  · simp only [h1, if_true, c2]
    by_cases h2 : 4 < z
    · refine ⟨z.toNat, by omega, by omega, ?_, ?_⟩
      · rw [if_pos h2]; congr 2; omega
      · rw [if_pos (by omega), if_pos (by omega)]; congr 2; omega
    · refine ⟨4, by omega, by omega, ?_, ?_⟩
      · rw [if_neg h2]; rfl
      · by_cases h3 : 4 ≤ z
        · rw [if_pos h3, if_pos (by omega), show z = 4 by omega]; rfl
        · rw [if_neg h3]; rfl
  · simp only [h1, if_false]
    refine ⟨24, by omega, by omega, ?_, ?_⟩
    · rw [if_pos (by decide)]; rfl
    · rw [if_pos (by omega)]
      by_cases h3 : z ≤ 24
      · rw [if_pos h3, show z = 24 by omega]; rfl
      · rw [if_neg h3]; rfl
theorem s_noise {n : Nat} (hn : n ≤ 576) : ∃ le gr', p_Noise_init (zI n) = some (10, 0, 0, n, le, n, gr') ∧ ∀ j, j < n → le j = -1 ∧ gr' j = -1 := by
  have hc : (zI (n : Int)).toNatClampNeg = n := zn_cl (by omega)
  have := pu_for (f := p_Noise_init_L3 (zI n)) (σ := (Nat → Int32) × (Nat → Int32)) (fun k q => (zI (k : Int), q.1, q.2)) (fun k q => ∀ j, j < k → q.1 j = -1 ∧ q.2 j = -1) (fun e => ∃ z le gr', e = (z, le, gr') ∧ ∀ j, j < n → le j = -1 ∧ gr' j = -1) n (by
    rintro k ⟨a, b⟩ hk hI
    dsimp only at hI
    refine Or.inl ⟨(upd a k (-1), upd b k (-1)), ?_, fun j hj => ?_⟩
    · unfold p_Noise_init_L3
      dsimp only
      rw [hc, if_neg (by rw [zn_le (by omega) (by omega)]; omega), pu_gt ((zn_in (by omega)).mpr hk), pu_gt ((zn_in (by omega)).mpr hk), zn_cl (by omega), zI_s]
    · dsimp only
      by_cases ej : j = k
      · subst ej; exact ⟨pk_us, pk_us⟩
      · rw [pk_un ej, pk_un ej]; exact hI j (by omega)) (by
    rintro ⟨a, b⟩ hI
    refine ⟨_, ?_, zI (n : Int), a, b, rfl, hI⟩
    unfold p_Noise_init_L3
    dsimp only
    rw [if_pos (by rw [zn_le (by omega) (by omega)]; omega)]) (k0 := 0) (s0 := (fun _ => 0, fun _ => 0)) (by omega) (fun j hj => by omega)
  obtain ⟨e, h1, z, le, gr', rfl, h2⟩ := this
  have h1' : pu_loop (p_Noise_init_L3 (zI n)) (0, (fun _ => 0), (fun _ => 0)) = some (z, le, gr') := h1
  have hg : ¬ zI (n : Int) < 0 ∧ (zI (n : Int)).toNatClampNeg ≤ 576 := ⟨by rw [zl0, zI_lt (by omega) (by omega) (by omega) (by omega)]; omega, by rw [hc]; exact hn⟩
  unfold p_Noise_init
  rw [pu_gt hg, pu_gt hg, h1', hc]
  exact ⟨le, gr', rfl, h2⟩
theorem s_spots {w h : Nat} (hw : w ≤ 24) (hh : h ≤ 24) : ∃ s, p_Spots_init (zI w) (zI h) = some (zI w, zI h, 0, 0, 0, w * h, s, w * h, (fun _ => 0), w * h, (fun _ => 0), w * h, (fun _ => 0), 7 * ((w * h + 1) / 2), (fun _ => 0)) ∧ ∀ j, j < w * h → s j = -1 := by
  have hwh := g_wh hw hh
  have em : zI (w : Int) * zI (h : Int) = zI ((w * h : Nat) : Int) := by rw [zI_mul]; congr 1
  have hc : (zI ((w * h : Nat) : Int)).toNatClampNeg = w * h := zn_cl (by omega)
  have := pu_for (f := p_Spots_init_L6 (zI w) (zI h)) (σ := Nat → Int32) (fun k s => (zI (k : Int), s)) (fun k s => ∀ j, j < k → s j = -1) (fun e => ∃ z s, e = (z, s) ∧ ∀ j, j < w * h → s j = -1) (w * h) (by
    intro k a hk hI
    refine Or.inl ⟨upd a k (-1), ?_, fun j hj => ?_⟩
    · unfold p_Spots_init_L6
      dsimp only
      rw [em, hc, if_neg (by rw [zn_le (by omega) (by omega)]; omega), pu_gt ((zn_in (by omega)).mpr hk), zn_cl (by omega), zI_s]
    · by_cases ej : j = k
      · subst ej; exact pk_us
      · rw [pk_un ej]; exact hI j (by omega)) (by
    intro a hI
    refine ⟨_, ?_, zI ((w * h : Nat) : Int), a, rfl, hI⟩
    unfold p_Spots_init_L6
    dsimp only
    rw [em, if_pos (by rw [zn_le (by omega) (by omega)]; omega)]) (k0 := 0) (s0 := (fun _ => 0)) (by omega) (fun j hj => by omega)
  obtain ⟨e, h1, z, s, rfl, h2⟩ := this
  have h1' : pu_loop (p_Spots_init_L6 (zI w) (zI h)) (0, (fun _ => 0)) = some (z, s) := h1
  have hg : ¬ zI ((w * h : Nat) : Int) < 0 ∧ (zI ((w * h : Nat) : Int)).toNatClampNeg ≤ 576 := ⟨by rw [zl0, zI_lt (by omega) (by omega) (by omega) (by omega)]; omega, by rw [hc]; exact hwh⟩
  have e7 : (7 : Int32) * ((zI ((w * h : Nat) : Int) + 1) / 2) = zI ((7 * ((w * h + 1) / 2) : Nat) : Int) := by
    rw [zI_s, zl2, zI_div (by omega) (by omega) (by omega) (by omega), zl7, zI_mul]; congr 1
  have hc7 : (zI ((7 * ((w * h + 1) / 2) : Nat) : Int)).toNatClampNeg = 7 * ((w * h + 1) / 2) := zn_cl (by omega)
  have hg7 : ¬ zI ((7 * ((w * h + 1) / 2) : Nat) : Int) < 0 ∧ (zI ((7 * ((w * h + 1) / 2) : Nat) : Int)).toNatClampNeg ≤ 2016 := ⟨by rw [zl0, zI_lt (by omega) (by omega) (by omega) (by omega)]; omega, by rw [hc7]; omega⟩
  unfold p_Spots_init
  rw [h1', em, e7, pu_gt hg, pu_gt hg, pu_gt hg, pu_gt hg, pu_gt (by decide), pu_gt hg7, hc, hc7]
  exact ⟨s, rfl, h2⟩
theorem s_mod (a1 a2 : Int32) {v1 v2 : Int32} (h1 : (if 4 ≤ a1 then (if a1 ≤ 24 then some a1 else some 24) else some 4) = some v1) (h2 : (if 4 ≤ a2 then (if a2 ≤ 24 then some a2 else some 24) else some 4) = some v2) : ∃ lo hi fs, p_Mod_init a1 a2 = some (0, v1, v2, 0, 0, 10, 0, 0, 0, 0, 0, 0, 0, 0, 0, 576, (fun _ => 0), 576, (fun _ => 0), 576, (fun _ => 0), 576, lo, 576, hi, 576, fs, 576, (fun _ => 0), 30, (fun _ => 0), 30, (fun _ => 0)) ∧ ∀ j, j < 576 → lo j = 999 ∧ hi j = -1 ∧ fs j = -1 := by
  have hc : (576 : Int32).toNatClampNeg = 576 := by decide
  have := pu_for (f := p_Mod_init_L14) (σ := (Nat → Int32) × (Nat → Int32) × (Nat → Int32)) (fun k q => (zI (k : Int), q.1, q.2.1, q.2.2)) (fun k q => ∀ j, j < k → q.1 j = 999 ∧ q.2.1 j = -1 ∧ q.2.2 j = -1) (fun e => ∃ z lo hi fs, e = (z, lo, hi, fs) ∧ ∀ j, j < 576 → lo j = 999 ∧ hi j = -1 ∧ fs j = -1) 576 (by
    rintro k ⟨a, b, c⟩ hk hI
    dsimp only at hI
    refine Or.inl ⟨(upd a k 999, upd b k (-1), upd c k (-1)), ?_, fun j hj => ?_⟩
    · unfold p_Mod_init_L14
      dsimp only
      rw [hc, if_neg (by rw [zl576, zn_le (by omega) (by omega)]; omega), pu_gt ((zn_in (by omega)).mpr hk), pu_gt ((zn_in (by omega)).mpr hk), pu_gt ((zn_in (by omega)).mpr hk), zn_cl (by omega), zI_s]
    · dsimp only
      by_cases ej : j = k
      · subst ej; exact ⟨pk_us, pk_us, pk_us⟩
      · rw [pk_un ej, pk_un ej, pk_un ej]; exact hI j (by omega)) (by
    rintro ⟨a, b, c⟩ hI
    refine ⟨_, ?_, zI ((576 : Nat) : Int), a, b, c, rfl, hI⟩
    unfold p_Mod_init_L14
    dsimp only
    rw [if_pos (by decide)]) (k0 := 0) (s0 := (fun _ => 0, fun _ => 0, fun _ => 0)) (by omega) (fun j hj => by omega)
  obtain ⟨e, k1, z, lo, hi, fs, rfl, k2⟩ := this
  have k1' : pu_loop p_Mod_init_L14 (0, (fun _ => 0), (fun _ => 0), (fun _ => 0)) = some (z, lo, hi, fs) := k1
  unfold p_Mod_init
  rw [pu_gt (by decide), pu_gt (by decide), pu_gt (by decide), pu_gt (by decide), pu_gt (by decide), pu_gt (by decide), pu_gt (by decide), pu_gt (by decide), pu_gt (by decide), h1, h2, k1']
  simp only [Option.bind_some, hc, show (30 : Int32).toNatClampNeg = 30 by decide]
  exact ⟨lo, hi, fs, rfl, k2⟩
theorem s_pic (a1 a2 : Int32) {w h : Nat} (hw : w ≤ 24) (hh : h ≤ 24) (h1 : p_Pic_within a1 4 24 = some (zI w)) (h2 : p_Pic_within a2 4 24 = some (zI h)) : ∃ le gr' s, p_Pic_init a1 a2 = some (zI w, zI h, w * h, (fun _ => 0), w * h, (fun _ => 0), 0, 0, 0, 0, 0, 0, 0, 0, 0, 12, (fun _ => 0), 12, (fun _ => 0), 0, 1, 10, 0, 0, w * h, le, w * h, gr', zI w, zI h, 0, 0, 0, w * h, s, w * h, (fun _ => 0), w * h, (fun _ => 0), w * h, (fun _ => 0), 7 * ((w * h + 1) / 2), (fun _ => 0), 0, 30, (fun _ => 0), 30, (fun _ => 0), 0, 1) ∧ (∀ j, j < w * h → le j = -1 ∧ gr' j = -1) ∧ ∀ j, j < w * h → s j = -1 := by
  have hwh := g_wh hw hh
  have em : zI (w : Int) * zI (h : Int) = zI ((w * h : Nat) : Int) := by rw [zI_mul]; congr 1
  have hc : (zI ((w * h : Nat) : Int)).toNatClampNeg = w * h := zn_cl (by omega)
  have hg : ¬ zI ((w * h : Nat) : Int) < 0 ∧ (zI ((w * h : Nat) : Int)).toNatClampNeg ≤ 576 := ⟨by rw [zl0, zI_lt (by omega) (by omega) (by omega) (by omega)]; omega, by rw [hc]; exact hwh⟩
  obtain ⟨le, gr', n1, n2⟩ := s_noise hwh
  obtain ⟨s, p1, p2⟩ := s_spots hw hh
  have ec : p_Charts_init = some (0, 12, (fun _ => 0), 12, (fun _ => 0)) := by
    unfold p_Charts_init
    rw [pu_gt (by decide), pu_gt (by decide)]
    rfl
  have ed : p_Days_init = some (0, 30, (fun _ => 0), 30, (fun _ => 0)) := by
    unfold p_Days_init
    rw [pu_gt (by decide), pu_gt (by decide)]
    rfl
  unfold p_Pic_init p_Shift_init p_Fraction_init
  rw [h1, h2]
  rw [hc] at hg
  simp only [Option.bind_some, em, hc, ec, ed, n1, p1]
  rw [pu_gt hg, pu_gt hg]
  exact ⟨le, gr', s, rfl, n2, p2⟩
