/-- a scope's number: any, one of four, or (up to 7) a group or folder -/
def isScp (n : Nat) (s : Int32) : Prop := s = -1 ∨ ∃ d, d < n ∧ s = nI d
theorem scp_eq {s h : Int32} {q : Nat} {sort : Int32} {τ : Mem} (hs : isScp 8 s) (hq : q < 4) (hw : Mo_within sort (nI q) τ = some h) : Mo_hasScope s (nI q) sort τ = some (Ju_isInScope s (nI q) h) := by
  unfold Mo_hasScope Ju_isInScope
  rcases hs with rfl | ⟨d, hd, rfl⟩
  · rfl
  · have n0 : ¬ nI d < 0 := nI_pos (by omega)
    rw [if_neg n0]
    by_cases h4 : d < 4
    · have l4 : nI d < 4 := nI_lt (b := 4) h4 (by omega)
      have l3 : nI d ≤ 3 := nI_le (b := 3) (by omega) (by omega)
      have m1 : ¬ nI d = -1 := fun z => n0 (by rw [z]; decide)
      rw [if_pos l4, if_neg m1]
      by_cases e : nI d = nI q
      · rw [if_pos e, if_neg (fun z => z e)]
      · rw [if_neg e, if_pos e, if_pos l3]
    · have l4 : ¬ nI d < 4 := nI_nlt (a := d) (b := 4) (by omega) (by omega)
      have l3 : ¬ nI d ≤ 3 := nI_ge (a := 3) (b := d) (by omega) (by omega)
      have ne : ¬ nI d = nI q := fun z => by
        have := (nI_eq (by omega) (by omega)).mp z
        omega
      rw [if_neg ne, if_neg l3, if_neg l4, hw, Option.bind_some]
      unfold Ps_hasBit
      by_cases e : ¬ (h >>> ((nI d - 4) &&& 31)) &&& 1 = 1
      · rw [if_pos e, if_pos e]
      · rw [if_neg e, if_neg e]
theorem inS_01 (s x h : Int32) : Ju_isInScope s x h = 0 ∨ Ju_isInScope s x h = 1 := by
  unfold Ju_isInScope
  split
  · split
    · exact Or.inr rfl
    · split
      · exact Or.inl rfl
      · exact Or.inr rfl
  · rcases hasBit_01 h (s - 4) with q | q
    · exact Or.inl q.1
    · exact Or.inr q.1
theorem rq_d {r : Nat} (hr : r < 2048) : Ps_deedOf (nI r) = nI (r / 128 % 4) ∧ (nI r >>> ((7 : Int32) &&& 31)) &&& 3 = nI (r / 128 % 4) := by
  have e : (nI r >>> ((7 : Int32) &&& 31)) &&& 3 = nI (r / 128 % 4) := by
    rw [pk_shrN (by omega) _ 7 (by decide), pk_andN (by omega) 2 (by decide)]
  exact ⟨e, e⟩
/-- the verdict of a policy with these scopes and conditions -/
def vp (sp sd st : Int32) (cs : List (Den × Bool)) (σw : Mem) (r : Nat) : Int32 :=
  if Ju_isInScope sp (nI (r / 512)) (σw 5 (r / 512)) = 1 ∧ Ju_isInScope st (nI (r / 32 % 4)) (σw 9 (r / 32 % 4)) = 1 ∧ Ju_isInScope sd (nI (r / 128 % 4)) 0 = 1 then vd cs σw r else 0
theorem vp_012 (sp sd st : Int32) (cs : List (Den × Bool)) (σw : Mem) (r : Nat) : vp sp sd st cs σw r = 0 ∨ vp sp sd st cs σw r = 1 ∨ vp sp sd st cs σw r = 2 := by
  unfold vp
  split
  · exact vd_012 cs σw r
  · exact Or.inl rfl
theorem X_cond {σ : Mem} {p m r : Nat} {cs : List (Den × Bool)} (hp : isPo p) (hr : r < 2048) (hw : OkW σ) (h9 : σ p 9 = nI m) (hm : m ≤ 160) (hc : CondsX (σ (p + 1)) (σ (p + 2)) m 0 cs) : ∃ σ1, Ju_conditions p (nI r) σ = some (vd cs σ r, σ1) ∧ Fx1 σ σ1 := by
  have h0 := po_ne hp
  unfold Ju_conditions
  have F0 : Fx1 σ (mput (mput σ 13 2 0) 13 3 0) := ⟨fun c q1 q2 => by rw [mrow_ne q1, mrow_ne q1], fun k q1 q2 => by rw [mput_ne (by omega), mput_ne (by omega)]⟩
  have hS : StkX (mput (mput σ 13 2 0) 13 3 0) [] := StkX_nil (by rw [mput_ne (by omega), mput_eq])
  have hC : CodeX σ p m 0 m (σ (p + 1)) (σ (p + 2)) := ⟨h9, Nat.le_refl _, hm, fun q _ _ => ⟨rfl, rfl⟩⟩
  obtain ⟨σ1, s1, s2⟩ := X_conds (w := σ (p + 2)) hp hr hw cs 0 (2099 - m) (mput (mput σ 13 2 0) 13 3 0) 0 hc (WldX_Fx (fun _ _ _ => rfl) F0) (CodeX_Fx hp hC F0) hS mput_eq (Nat.le_refl _)
  refine ⟨σ1, ?_, Fx1_tr F0 s2⟩
  rw [← s1]
  congr 1
  show 2100 = 2099 - m + (m - 0) + 1
  omega
theorem X_cov {σ : Mem} {p q t : Nat} (hq : q < 4) (ht : t < 4) : Ju_covers p (nI q) (nI t) σ = some (if Ju_isInScope (σ p 4) (nI q) (σ 5 q) = 1 ∧ Ju_isInScope (σ p 6) (nI t) (σ 9 t) = 1 then 1 else 0) := by
  unfold Ju_covers Wo_groupsOf Wo_foldersOf Ne_holdersOf
  rw [if_pos (pmIn_nI hq (by omega)), if_pos (pmIn_nI ht (by omega)), nI_clamp (by omega), nI_clamp (by omega)]
  show (if Ju_isInScope (σ p 4) (nI q) (σ 5 q) = 0 then some 0 else if Ju_isInScope (σ p 6) (nI t) (σ 9 t) = 0 then some 0 else some 1) = _
  rcases inS_01 (σ p 4) (nI q) (σ 5 q) with e | e <;> rw [e]
  · rfl
  · rcases inS_01 (σ p 6) (nI t) (σ 9 t) with e2 | e2 <;> rw [e2] <;> rfl
theorem X_verdict {σ : Mem} {p m r : Nat} {cs : List (Den × Bool)} (hp : isPo p) (hr : r < 2048) (hw : OkW σ) (h9 : σ p 9 = nI m) (hm : m ≤ 160) (hc : CondsX (σ (p + 1)) (σ (p + 2)) m 0 cs) : ∃ σ1, Ju_verdict p (nI r) σ = some (vp (σ p 4) (σ p 5) (σ p 6) cs σ r, σ1) ∧ Fx1 σ σ1 := by
  unfold Ju_verdict
  rw [(rq_p hr).1, (rq_t hr).1, (rq_d hr).1, X_cov (by omega) (by omega), Option.bind_some]
  unfold vp
  have no : Ju_verdict_b35 p (nI r) σ = some (0, σ) := rfl
  by_cases c1 : Ju_isInScope (σ p 4) (nI (r / 512)) (σ 5 (r / 512)) = 1 ∧ Ju_isInScope (σ p 6) (nI (r / 32 % 4)) (σ 9 (r / 32 % 4)) = 1
  · rw [if_pos c1, if_neg (show ¬ (1 : Int32) = 0 by decide)]
    rcases inS_01 (σ p 5) (nI (r / 128 % 4)) 0 with e | e
    · rw [e, if_pos rfl, if_neg (fun z => absurd z.2.2 (by decide))]
      exact ⟨σ, no, Fx1_rf σ⟩
    · rw [e, if_neg (show ¬ (1 : Int32) = 0 by decide), if_pos ⟨c1.1, c1.2, rfl⟩]
      obtain ⟨σ1, s1, s2⟩ := X_cond hp hr hw h9 hm hc
      refine ⟨σ1, ?_, s2⟩
      unfold Ju_verdict_b36
      rw [if_neg (show ¬ (1 : Int32) = 0 by decide), s1]
      rfl
  · rw [if_neg c1, if_pos rfl, if_neg (fun z => c1 ⟨z.1, z.2.1⟩)]
    exact ⟨σ, no, Fx1_rf σ⟩
theorem M_work {σ τ : Mem} {p m r : Nat} {sp sd st : Int32} {cs : List (Den × Bool)} (hp : p < 17) (hr : r < 2048) (hw : RelW σ τ) (h9 : τ 11 p = nI m) (hm : m ≤ 160) (hc : CondsM (fun q => τ 12 (160 * p + q)) (fun q => τ 13 (160 * p + q)) m 0 cs)
    (e1 : τ 8 (3 * p) = sp) (e2 : τ 8 (3 * p + 1) = sd) (e3 : τ 8 (3 * p + 2) = st) (s1 : isScp 8 sp) (s2 : isScp 4 sd) (s3 : isScp 8 st) : ∃ τ1, Mo_work (nI p) (nI r) τ = some (vM (vp sp sd st cs σ r), τ1) ∧ FxM τ τ1 := by
  unfold Mo_work
  have i3 : (3 : Int32) * nI p = nI (3 * p) := by rw [show (3 : Int32) = nI 3 from rfl, pk_mul]
  have i3b : nI (3 * p) + (2 : Int32) = nI (3 * p + 2) := by rw [show (2 : Int32) = nI 2 from rfl, nI_add]
  have i3c : nI (3 * p) + (1 : Int32) = nI (3 * p + 1) := nI_1 _
  have p0 : pmIn (nI (3 * p)) 51 = true := pmIn_nI (by omega) (by omega)
  have p1 : pmIn (nI (3 * p + 1)) 51 = true := pmIn_nI (by omega) (by omega)
  have p2 : pmIn (nI (3 * p + 2)) 51 = true := pmIn_nI (by omega) (by omega)
  rw [i3, i3b, if_pos p0, if_pos p2, nI_clamp (by omega), nI_clamp (by omega), e1, e3, (rq_p hr).2, (rq_t hr).2, scp_eq s1 (by omega) (wi0 hw (by omega)), scp_eq s3 (by omega) (wi2 hw (by omega)), Option.bind_some, Option.bind_some]
  have no : ∀ z : Int32, z = 0 → Mo_work_b47 (nI p) (nI r) z τ = some (0, τ) := fun z hz => by
    unfold Mo_work_b47
    rw [i3, i3c, if_pos p1, if_pos hz]
  unfold vp
  rcases inS_01 sp (nI (r / 512)) (σ 5 (r / 512)) with c1 | c1
  · rw [c1, if_pos rfl, if_neg (fun z => absurd z.1 (by decide))]
    exact ⟨τ, no 0 rfl, FxM_rf τ⟩
  · rw [c1, if_neg (show ¬ (1 : Int32) = 0 by decide)]
    rcases inS_01 st (nI (r / 32 % 4)) (σ 9 (r / 32 % 4)) with c2 | c2
    · rw [c2, if_pos rfl, if_neg (fun z => absurd z.2.1 (by decide))]
      exact ⟨τ, no 0 rfl, FxM_rf τ⟩
    · rw [c2, if_neg (show ¬ (1 : Int32) = 0 by decide)]
      have hC : CodeM τ p m 0 m (fun q => τ 12 (160 * p + q)) (fun q => τ 13 (160 * p + q)) := ⟨hp, h9, Nat.le_refl _, hm, fun q _ _ => ⟨rfl, rfl⟩⟩
      obtain ⟨τ1, f, hf, t1, t2⟩ := M_conds (r := r) hr hw cs 0 τ hc (fun _ _ _ => rfl) hC
      have go : Mo_work_b88 FU (nI p) (nI r) 0 0 τ = some (vM (vd cs σ r), τ1) := by
        have := t1 (2100 - f)
        rw [show 2100 - f + f = FU by show _ = 2100; omega] at this
        exact this
      unfold Mo_work_b47
      rw [i3, i3c, if_pos p1, nI_clamp (by omega), e2, (rq_d hr).2, if_neg (show ¬ (1 : Int32) = 0 by decide)]
      rcases s2 with rfl | ⟨d, hd, rfl⟩
      · rw [if_pos (show (-1 : Int32) < 0 by decide), if_pos ⟨rfl, rfl, rfl⟩]
        exact ⟨τ1, go, t2⟩
      · have n0 : ¬ nI d < 0 := nI_pos (by omega)
        have l4 : nI d < 4 := nI_lt (b := 4) hd (by omega)
        have m1 : ¬ nI d = -1 := fun z => n0 (by rw [z]; decide)
        have sc : Ju_isInScope (nI d) (nI (r / 128 % 4)) 0 = if ¬ nI d = nI (r / 128 % 4) then 0 else 1 := by
          unfold Ju_isInScope
          rw [if_pos l4, if_neg m1]
        rw [if_neg n0, sc]
        by_cases e : nI d = nI (r / 128 % 4)
        · rw [if_pos e, if_neg (fun z : ¬ nI d = nI (r / 128 % 4) => z e), if_pos ⟨rfl, rfl, rfl⟩]
          exact ⟨τ1, go, t2⟩
        · rw [if_neg e, if_pos e, if_neg (fun z => absurd z.2.2 (by decide))]
          exact ⟨τ, rfl, FxM_rf τ⟩
