def dif (v : Int32) (P Q : Nat → Bool) (r : Nat) : Bool := if v = 0 then P r && !(Q r) else if v = 1 then Q r && !(P r) else P r ^^ Q r
theorem dif_b {v x y : Int32} {P Q : Nat → Bool} {r g : Nat} (hg : g < 32) (hx : tb x g = P r) (hy : tb y g = Q r) : tb (Ps_difference x y v) g = dif v P Q r := by
  unfold Ps_difference dif
  by_cases a0 : v = 0
  · rw [if_neg (fun z : ¬ v = 0 => z a0), if_pos a0, tb_and, tb_xor, tb_m1 hg, hx, hy, Bool.xor_true]
  · rw [if_pos a0, if_neg a0]
    by_cases a1 : v = 1
    · rw [if_neg (fun z : ¬ v = 1 => z a1), if_pos a1, tb_and, tb_xor, tb_m1 hg, hx, hy, Bool.xor_true]
    · rw [if_pos a1, if_neg a1, tb_xor, hx, hy]
def cmAns (v : Int32) (P Q : Nat → Bool) : Int32 := if ¬ v = 2 then nI (cnt (dif v P Q) 2048) else fstR (dif v P Q) 2048
theorem X_cb36 {σ τ : Mem} {c0 c1 : Nat} {v1 : Int32} {V0 V1 : Nat → Nat → Int32} (hV0 : Vd σ τ 0 c0 V0) (hC0 : Cch σ 0 c0 V0) (hV1 : Vd σ τ 1 c1 V1) (hC1 : Cch σ 1 c1 V1) : ∀ (d w n : Nat) (σ1 : Mem), w + d = 64 → d < n → F111 σ σ1 → (∀ r, r < 32 * w → rb (σ1 111) r = dif v1 (alw V0 (pmP σ 0) c0 9) (alw V1 (pmP σ 1) c1 9) r) →
    ∃ σ2, Ps_compare_b36 n v1 (nI w) σ1 = some (cmAns v1 (alw V0 (pmP σ 0) c0 9) (alw V1 (pmP σ 1) c1 9), σ2) ∧ F111 σ σ2 := by
  intro d
  induction d with
  | zero =>
    intro w n σ1 hw hn hf hr
    obtain ⟨n, rfl⟩ : ∃ m, n = m + 1 := ⟨n - 1, by omega⟩
    obtain rfl : w = 64 := by omega
    rw [Ps_compare_b36, if_pos (by decide), X_first, X_count]
    refine ⟨σ1, ?_, hf⟩
    unfold cmAns
    rw [← cnt_cg (P := rb (σ1 111)) 2048 (fun r h => hr r (by omega)), ← fstR_cg (P := rb (σ1 111)) 2048 (fun r h => hr r (by omega))]
    by_cases a0 : v1 = 2
    · rw [if_neg (fun z : ¬ v1 = 2 => z a0), if_neg (fun z : ¬ v1 = 2 => z a0)]
      rfl
    · rw [if_pos a0, if_pos a0]
      rfl
  | succ d ih =>
    intro w n σ1 hw hn hf hr
    obtain ⟨n, rfl⟩ : ∃ m, n = m + 1 := ⟨n - 1, by omega⟩
    have n64 : ¬ (64 : Int32) ≤ nI w := nI_ge (a := w) (b := 64) (by omega) (by omega)
    obtain ⟨x, x1, x2⟩ := X_abs (σ1 := σ1) (by omega) hV0 hC0 (show w < 64 by omega) skp_no hf
    obtain ⟨y, y1, y2⟩ := X_abs (σ1 := σ1) (by omega) hV1 hC1 (show w < 64 by omega) skp_no hf
    rw [show setC 0 = 17 from rfl] at x1
    rw [show setC 1 = 64 from rfl] at y1
    rw [Ps_compare_b36, if_neg n64, x1, Option.bind_some, y1, Option.bind_some, if_pos (pmIn_nI (by omega) (by omega)), nI_clamp (by omega), nI_1]
    refine ih (w + 1) n _ (by omega) (by omega) (fun c hc => by rw [mrow_ne hc]; exact hf c hc) (fun r hr2 => ?_)
    unfold rb
    by_cases e : r / 32 = w
    · have g := x2 (r % 32) (by omega)
      have g2 := y2 (r % 32) (by omega)
      rw [show 32 * w + r % 32 = r by omega] at g g2
      rw [e, mput_eq]
      exact dif_b (by omega) g g2
    · rw [mput_ne (by omega)]
      exact hr r (by omega)
theorem cb85_v {k : Int32 → Int32 → Int32 → Int32 → Int32 → Mem → Option (Int32 × Mem)} {v1 v2 s0 : Int32} {P Q : Nat → Bool} {r : Nat} {τ : Mem} (hr : r < 2048) : Mo_compare_b85 k v1 v2 (fstR (dif 2 P Q) r) (nI r) (b2i (P r)) (b2i (Q r)) s0 τ = k v1 v2 s0 (fstR (dif 2 P Q) (r + 1)) (nI (r + 1)) τ := by
  unfold Mo_compare_b85
  rw [nI_1, fst_s]
  by_cases f0 : 0 ≤ fstR (dif 2 P Q) r
  · rw [if_pos f0, if_pos f0]
  · rw [if_neg f0, if_neg f0, fst_m1 r (by omega) f0]
    unfold dif
    rw [if_neg (show ¬ (2 : Int32) = 0 by decide), if_neg (show ¬ (2 : Int32) = 1 by decide)]
    cases P r <;> cases Q r <;> rfl
theorem M_cb22 {σ τ : Mem} {c0 c1 : Nat} {v1 : Int32} {V0 V1 : Nat → Nat → Int32} (hV0 : Vd σ τ 0 c0 V0) (hV1 : Vd σ τ 1 c1 V1) (hv : v1 = 0 ∨ v1 = 1 ∨ v1 = 2) : ∀ (d r n : Nat) (τ1 : Mem), r + d = 2048 → d < n → FxM τ τ1 →
    ∃ τ2, Mo_compare_b22 n v1 (nI (cnt (dif 0 (alw V0 (pmP σ 0) c0 9) (alw V1 (pmP σ 1) c1 9)) r)) (nI (cnt (dif 1 (alw V0 (pmP σ 0) c0 9) (alw V1 (pmP σ 1) c1 9)) r)) (fstR (dif 2 (alw V0 (pmP σ 0) c0 9) (alw V1 (pmP σ 1) c1 9)) r) (nI r) τ1 = some (cmAns v1 (alw V0 (pmP σ 0) c0 9) (alw V1 (pmP σ 1) c1 9), τ2) ∧ FxM τ τ2 := by
  intro d
  induction d with
  | zero =>
    intro r n τ1 hr hn hf
    obtain ⟨n, rfl⟩ : ∃ m, n = m + 1 := ⟨n - 1, by omega⟩
    obtain rfl : r = 2048 := by omega
    rw [Mo_compare_b22, if_pos (by decide)]
    refine ⟨τ1, ?_, hf⟩
    unfold cmAns
    rcases hv with rfl | rfl | rfl
    · rw [if_neg (fun z => z rfl), if_pos (by decide)]
    · rw [if_pos (by decide), if_neg (fun z => z rfl), if_pos (by decide)]
    · rw [if_pos (by decide), if_pos (by decide), if_neg (fun z => z rfl)]
  | succ d ih =>
    intro r n τ1 hr hn hf
    obtain ⟨n, rfl⟩ : ∃ m, n = m + 1 := ⟨n - 1, by omega⟩
    have nn : ¬ (2048 : Int32) ≤ nI r := nI_ge (a := r) (b := 2048) (by omega) (by omega)
    obtain ⟨τ2, x1, x2⟩ := M_all (z := 9) (v := -1) (r := r) (by omega) (Vd_M hV0 hf) (by omega) skp_no
    have x3 := FxM_tr' hf x2
    obtain ⟨τ3, y1, y2⟩ := M_all (z := 9) (v := -1) (r := r) (by omega) (Vd_M hV1 x3) (by omega) skp_no
    have y3 := FxM_tr' x3 y2
    rw [show nI 0 = (0 : Int32) from rfl] at x1
    rw [show nI 1 = (1 : Int32) from rfl] at y1
    obtain ⟨τ4, z1, z2⟩ := ih (r + 1) n τ3 (by omega) (by omega) y3
    refine ⟨τ4, ?_, z2⟩
    rw [Mo_compare_b22, if_neg nn, x1, Option.bind_some, y1, Option.bind_some, ← z1, cnt_s, cnt_s]
    generalize hP : alw V0 (pmP σ 0) c0 9 = P
    generalize hQ : alw V1 (pmP σ 1) c1 9 = Q
    show (if b2i (P r) = 0 then Mo_compare_b66 _ v1 _ _ _ _ (b2i (P r)) (b2i (Q r)) τ3 else if ¬ b2i (Q r) = 0 then Mo_compare_b66 _ v1 _ _ _ _ (b2i (P r)) (b2i (Q r)) τ3 else Mo_compare_b67 _ v1 _ _ _ (b2i (P r)) (b2i (Q r)) _ τ3) = _
    unfold Mo_compare_b66 Mo_compare_b67 Mo_compare_b84
    rw [cb85_v (by omega), cb85_v (by omega), cb85_v (by omega), cb85_v (by omega), nI_1, nI_1]
    have d0 : dif 0 P Q r = (P r && !(Q r)) := rfl
    have d1 : dif 1 P Q r = (Q r && !(P r)) := rfl
    rw [d0, d1]
    cases P r <;> cases Q r <;> rfl
theorem S_compare : Stp_compare Rel := fun σ τ n h hn a => by
  have no : ∃ (r : Int32) (σ1 τ1 : Mem), some ((-2 : Int32), σ) = some (r, σ1) ∧ some ((-2 : Int32), τ) = some (r, τ1) ∧ Rel σ1 τ1 (n + 1) := ⟨-2, σ, τ, rfl, rfl, Rel_up σ τ n h⟩
  unfold Ps_compare Mo_compare
  by_cases b0 : a < 0
  · rw [if_pos b0, if_pos b0]
    exact no
  · rw [if_neg b0, if_neg b0]
    by_cases b2 : a ≤ 2
    · have ha : a = 0 ∨ a = 1 ∨ a = 2 := by
        rcases three_c a with z | z | z
        · exact absurd z.1 b0
        · exact absurd b2 z.2.1
        · exact z
      rw [if_pos b2, if_pos b2]
      obtain ⟨σ2, c, s1, s2, s3, s4, s5, s6⟩ := X_svs (s := 0) (by omega) (by omega) h
      obtain ⟨σ3, e, t1, t2, t3, t4, t5, t6⟩ := X_svs (s := 1) (by omega) (by omega) s2
      rw [show setC 0 = 17 from rfl] at s1 s4 s6
      rw [show setC 1 = 64 from rfl] at t1 t4
      obtain ⟨c0, V0, hV0, hk0⟩ := mk_VdC (s := 0) t2 (by omega)
      obtain ⟨c1, V1, hV1, hk1⟩ := mk_VdC (s := 1) t2 (by omega)
      have r17 := t3.1 17 (by omega)
      have r18 := t3.1 18 (by omega)
      have r1 := t3.1 1 (by omega)
      obtain rfl : c0 = c := (nI_eq (by have := hV0.1.2.2; omega) (by omega)).mp (hV0.1.1.symm.trans (by rw [show setC 0 = 17 from rfl, r17]; exact s4))
      obtain rfl : c1 = e := (nI_eq (by have := hV1.1.2.2; omega) (by omega)).mp (hV1.1.1.symm.trans t4)
      obtain ⟨σ4, x1, x2⟩ := X_cb36 (v1 := a) hV0 (fun i hi r hr => hk0 i hi (by
        have hp := (hV0.2.1 i hi).1
        rw [show setC 0 + 1 = 18 from rfl, r18] at hp ⊢
        rw [r1]
        rcases (t3.2 _ hp).2 with q | q
        · rw [q]
          exact s6 i hi
        · exact q) r hr) hV1 (fun i hi r hr => hk1 i hi (t6 i hi) r hr) 64 0 2100 σ3 (by omega) (by omega) (fun _ _ => rfl) (fun r hr => by omega)
      obtain ⟨τ3, y1, y2⟩ := M_cb22 hV0 hV1 ha 2048 0 2100 τ (by omega) (by omega) (fun _ _ => rfl)
      rw [s1, Option.bind_some, t1, Option.bind_some]
      exact ⟨_, σ4, τ3, x1, y1, Rel_X t2 x2 y2⟩
    · rw [if_neg b2, if_neg b2]
      exact no
