def mg (σ τ : Mem) (c k : Nat) : Int32 := if c < 112 then σ c k else τ (c - 112) k
def shp (σ τ : Mem) : pmV := fun c k => match fxT c k with
  | 0 => .int (mg σ τ c k)
  | 1 => if mg σ τ c k < 0 then .null else .ref (mg σ τ c k).toNatClampNeg
  | q + 2 => .ref q
abbrev shH (σ τ : Mem) : pmH := (kdT0, shp σ τ)
theorem shp_0 {σ τ : Mem} {c k : Nat} (h : fxT c k = 0) : shp σ τ c k = .int (mg σ τ c k) := by
  unfold shp
  rw [h]
theorem shp_1 {σ τ : Mem} {c k : Nat} (h : fxT c k = 1) (hn : ¬ mg σ τ c k < 0) : shp σ τ c k = .ref (mg σ τ c k).toNatClampNeg := by
  unfold shp
  rw [h]
  exact if_neg hn
theorem shp_R {σ τ : Mem} {c k q : Nat} (h : fxT c k = q + 2) : shp σ τ c k = .ref q := by
  unfold shp
  rw [h]
theorem mg_X {σ τ : Mem} {c k : Nat} (h : c < 112) : mg σ τ c k = σ c k := if_pos h
theorem mg_M {σ τ : Mem} {c k : Nat} : mg σ τ (112 + c) k = τ c k := by
  unfold mg
  rw [if_neg (by omega), Nat.add_sub_cancel_left]
theorem hx2 {x : Int32} (h : x < 0) : x.toInt < 0 := by
  have := Int32.lt_iff_toInt_lt.mp h
  simpa using this
theorem shp_iX {σ τ : Mem} {c k : Nat} (h : fxT c k = 0) (hc : c < 112) : shp σ τ c k = .int (σ c k) := by rw [shp_0 h, mg_X hc]
theorem shp_mX {σ τ : Mem} {c k : Nat} (h : fxT c k = 1) (hc : c < 112) (hn : ¬ σ c k < 0) : shp σ τ c k = .ref (σ c k).toNatClampNeg := by rw [shp_1 h (by rw [mg_X hc]; exact hn), mg_X hc]
theorem shp_iM {σ τ : Mem} {c k : Nat} (h : fxT (112 + c) k = 0) : shp σ τ (112 + c) k = .int (τ c k) := by rw [shp_0 h, mg_M]
theorem shp_eq {σ τ σ' τ' : Mem} {c k : Nat} {v : Value} (h : shp σ' τ' c k = v) (ho : ∀ a b, ¬ (a = c ∧ b = k) → mg σ' τ' a b = mg σ τ a b) : pmPut (shp σ τ) c k v = shp σ' τ' := by
  funext a b
  by_cases h1 : a = c
  · subst h1
    rw [pmPut_eq]
    by_cases h2 : b = k
    · subst h2
      rw [if_pos rfl, h]
    · rw [if_neg h2]
      unfold shp
      rw [ho a b (fun q => h2 q.2)]
  · rw [pmPut_ne h1]
    unfold shp
    rw [ho a b (fun q => h1 q.1)]
theorem mg_oX {σ τ : Mem} {c k : Nat} {x : Int32} : ∀ a b, ¬ (a = c ∧ b = k) → mg (mput σ c k x) τ a b = mg σ τ a b := by
  intro a b h
  unfold mg
  rw [mput_ne h]
theorem mg_oM {σ τ : Mem} {c k : Nat} {x : Int32} : ∀ a b, ¬ (a = 112 + c ∧ b = k) → mg σ (mput τ c k x) a b = mg σ τ a b := by
  intro a b h
  unfold mg
  by_cases ha : a < 112
  · rw [if_pos ha, if_pos ha]
  · rw [if_neg ha, if_neg ha, mput_ne (fun q => h ⟨by omega, q.2⟩)]
theorem shp_pX {σ τ : Mem} {c k : Nat} {x : Int32} (h : fxT c k = 0) (hc : c < 112) : pmPut (shp σ τ) c k (.int x) = shp (mput σ c k x) τ := shp_eq (by rw [shp_iX h hc, mput_eq]) mg_oX
theorem shp_pR {σ τ : Mem} {c k q : Nat} (h : fxT c k = 1) (hc : c < 112) (hq : q < 2 ^ 31) : pmPut (shp σ τ) c k (.ref q) = shp (mput σ c k (nI q)) τ := shp_eq (by rw [shp_mX h hc (by rw [mput_eq]; exact nI_pos hq), mput_eq, nI_clamp hq]) mg_oX
theorem po_nn {x : Int32} (h : isPo (ix x)) : ¬ x < 0 := by
  intro hx
  have e : x.toNatClampNeg = 0 := by
    have h1 : x.toInt < 0 := hx2 hx
    show x.toInt.toNat = 0
    omega
  rw [show ix x = 0 from e] at h
  exact absurd h (by decide)
theorem shp_pM {σ τ : Mem} {c k : Nat} {x : Int32} (h : fxT (112 + c) k = 0) : pmPut (shp σ τ) (112 + c) k (.int x) = shp σ (mput τ c k x) := shp_eq (by rw [shp_iM h, mput_eq]) mg_oM
theorem br_iteT {α : Type} {P : Prop} {dP : Decidable P} {A B z : α} {G1 G2 : Prop} (h : (if P then A else B) = z) (k1 : A = z → G1) (k2 : B = z → G2) : (P → G1) ∧ (¬ P → G2) :=
  ⟨fun p => k1 (by rw [← h, if_pos p]), fun p => k2 (by rw [← h, if_neg p])⟩
theorem gd_in {α : Type} {P : Prop} {dP : Decidable P} {A : Option α} {z : α} (h : (if P then A else none) = some z) : P ∧ A = some z := by
  by_cases p : P
  · rw [if_pos p] at h
    exact ⟨p, h⟩
  · rw [if_neg p] at h
    cases h
theorem bd_in {α β : Type} {A : Option α} {f : α → Option β} {z : β} (h : A.bind f = some z) : ∃ q, A = some q ∧ f q = some z := by
  cases A with
  | none => cases h
  | some q => exact ⟨q, rfl, h⟩
section PU
variable {S : pmS} {d j pc len tg : Nat} {ls : pmLs} {st r0 : List Value} {σ τ σ1 τ1 : Mem} {h' : pmH} {r : Option Value} {x y : Int32} {off : Int} {α : Type} {A B z : α} {h : pmH}
theorem pu_if {c : ClassFile.Cond} (hc : codT j pc = some (.ifCond c off, len)) (ht : pmTg pc off r0 = some (tg, r0)) (k1 : pmCnd c x 0 = true → pmU S d j tg ls r0 h r h') (k2 : ¬ pmCnd c x 0 = true → pmU S d j (pc + 3) ls r0 h r h') : pmU S d j pc ls (.int x :: r0) h r h' := by
  by_cases q : pmCnd c x 0 = true
  · refine pmU_2 hc rfl ?_ (k1 q)
    show pmIf1 c pc off (.int x :: r0) = some (tg, r0)
    unfold pmIf1
    simp only [ht, q, if_true]
  · refine pmU_2 hc rfl ?_ (k2 q)
    show pmIf1 c pc off (.int x :: r0) = some (pc + 3, r0)
    unfold pmIf1
    simp only [ht, q]
    rfl
theorem pu_icmp {c : ClassFile.Cond} (hc : codT j pc = some (.if_icmp c off, len)) (ht : pmTg pc off r0 = some (tg, r0)) (k1 : pmCnd c x y = true → pmU S d j tg ls r0 h r h') (k2 : ¬ pmCnd c x y = true → pmU S d j (pc + 3) ls r0 h r h') : pmU S d j pc ls (.int y :: .int x :: r0) h r h' := by
  by_cases q : pmCnd c x y = true
  · refine pmU_2 hc rfl ?_ (k1 q)
    show pmIf2 c pc off (.int y :: .int x :: r0) = some (tg, r0)
    unfold pmIf2
    simp only [ht, q, if_true]
  · refine pmU_2 hc rfl ?_ (k2 q)
    show pmIf2 c pc off (.int y :: .int x :: r0) = some (pc + 3, r0)
    unfold pmIf2
    simp only [ht, q]
    rfl
theorem pu_ifP {P : Prop} {dP : Decidable P} {c : ClassFile.Cond} (h0 : (if P then A else B) = z) (hc : codT j pc = some (.ifCond c off, len)) (ht : pmTg pc off r0 = some (tg, r0)) (hP : pmCnd c x 0 = decide P) (k1 : A = z → pmU S d j tg ls r0 h r h') (k2 : B = z → pmU S d j (pc + 3) ls r0 h r h') : pmU S d j pc ls (.int x :: r0) h r h' := by
  have q := br_iteT h0 k1 k2
  exact pu_if hc ht (fun e => q.1 (of_decide_eq_true (hP ▸ e))) (fun e => q.2 (fun p => e (hP ▸ decide_eq_true p)))
theorem pu_icmpP {P : Prop} {dP : Decidable P} {c : ClassFile.Cond} (h0 : (if P then A else B) = z) (hc : codT j pc = some (.if_icmp c off, len)) (ht : pmTg pc off r0 = some (tg, r0)) (hP : pmCnd c x y = decide P) (k1 : A = z → pmU S d j tg ls r0 h r h') (k2 : B = z → pmU S d j (pc + 3) ls r0 h r h') : pmU S d j pc ls (.int y :: .int x :: r0) h r h' := by
  have q := br_iteT h0 k1 k2
  exact pu_icmp hc ht (fun e => q.1 (of_decide_eq_true (hP ▸ e))) (fun e => q.2 (fun p => e (hP ▸ decide_eq_true p)))
theorem pu_get {i ci k c : Nat} {v : Value} (hc : codT j pc = some (.getfield i, len)) (hf : fldT j i = some (ci, k)) (hk : kdT0[c]? = some (ci + 4, nfT ci)) (hv : shp σ τ c k = v) (kk : pmU S d j (pc + len) ls (v :: r0) (shH σ τ) r h') : pmU S d j pc ls (.ref c :: r0) (shH σ τ) r h' := by
  refine pmU_3 hc rfl rfl ?_ kk
  show pmGet (fldT j i) (.ref c :: r0) (shH σ τ) = some (v :: r0, shH σ τ)
  rw [hf]
  unfold pmGet
  simp only [hk, beq_self_eq_true, Bool.and_self, if_true, hv]
theorem pu_put {i ci k c : Nat} {v : Value} (hc : codT j pc = some (.putfield i, len)) (hf : fldT j i = some (ci, k)) (hk : kdT0[c]? = some (ci + 4, nfT ci)) (hfit : pmFit (ftyT ci k) v = true) (hfin : finT ci k = false) (hv : pmPut (shp σ τ) c k v = shp σ1 τ1) (kk : pmU S d j (pc + len) ls r0 (shH σ1 τ1) r h') : pmU S d j pc ls (v :: .ref c :: r0) (shH σ τ) r h' := by
  refine pmU_3 hc rfl rfl ?_ kk
  show pmSet j (fldT j i) (v :: .ref c :: r0) (shH σ τ) = some (r0, shH σ1 τ1)
  rw [hf]
  unfold pmSet
  simp only [hk, beq_self_eq_true, hfit, hfin, Bool.and_self, Bool.not_false, Bool.true_or, if_true, hv]
theorem pu_iald {c n : Nat} {i : Int32} (hc : codT j pc = some (.iaload, len)) (hk : kdT0[c]? = some (1, n)) (hi : pmIn i n = true) (hv : shp σ τ c i.toNatClampNeg = .int x) (kk : pmU S d j (pc + len) ls (.int x :: r0) (shH σ τ) r h') : pmU S d j pc ls (.int i :: .ref c :: r0) (shH σ τ) r h' := by
  refine pmU_3 hc rfl rfl ?_ kk
  show pmArL S 1 (.int i :: .ref c :: r0) (shH σ τ) = some (.int x :: r0, shH σ τ)
  unfold pmArL
  simp only [hk, hi, beq_self_eq_true, Bool.and_self, if_true, hv]
  rfl
theorem pu_bald {c n : Nat} {i : Int32} (hc : codT j pc = some (.baload, len)) (hk : kdT0[c]? = some (2, n)) (hi : pmIn i n = true) (hv : shp σ τ c i.toNatClampNeg = .int x) (kk : pmU S d j (pc + len) ls (.int x :: r0) (shH σ τ) r h') : pmU S d j pc ls (.int i :: .ref c :: r0) (shH σ τ) r h' := by
  refine pmU_3 hc rfl rfl ?_ kk
  show pmArL S 2 (.int i :: .ref c :: r0) (shH σ τ) = some (.int x :: r0, shH σ τ)
  unfold pmArL
  simp only [hk, hi, beq_self_eq_true, Bool.and_self, if_true, hv]
  rfl
theorem pu_iast {c n : Nat} {i : Int32} (hc : codT j pc = some (.iastore, len)) (hk : kdT0[c]? = some (1, n)) (hi : pmIn i n = true) (hv : pmPut (shp σ τ) c i.toNatClampNeg (.int x) = shp σ1 τ1) (kk : pmU S d j (pc + len) ls r0 (shH σ1 τ1) r h') : pmU S d j pc ls (.int x :: .int i :: .ref c :: r0) (shH σ τ) r h' := by
  refine pmU_3 hc rfl rfl ?_ kk
  show pmArS 1 (.int x :: .int i :: .ref c :: r0) (shH σ τ) = some (r0, shH σ1 τ1)
  unfold pmArS
  simp only [hk, hi, beq_self_eq_true, Bool.and_self, Bool.true_or, if_true, hv]
theorem pu_bast {c n : Nat} {i : Int32} (hc : codT j pc = some (.bastore, len)) (hk : kdT0[c]? = some (2, n)) (hi : pmIn i n = true) (hz : (x == 0 || x == 1) = true) (hv : pmPut (shp σ τ) c i.toNatClampNeg (.int x) = shp σ1 τ1) (kk : pmU S d j (pc + len) ls r0 (shH σ1 τ1) r h') : pmU S d j pc ls (.int x :: .int i :: .ref c :: r0) (shH σ τ) r h' := by
  refine pmU_3 hc rfl rfl ?_ kk
  show pmArS 2 (.int x :: .int i :: .ref c :: r0) (shH σ τ) = some (r0, shH σ1 τ1)
  unfold pmArS
  simp only [hk, hi, hz, beq_self_eq_true, Bool.and_self, Bool.or_true, if_true, hv]
theorem pu_aald {c n q : Nat} {i : Int32} (hc : codT j pc = some (.aaload, len)) (hk : kdT0[c]? = some (3, n)) (hi : pmIn i n = true) (hv : shp σ τ c i.toNatClampNeg = .ref q) (kk : pmU S d j (pc + len) ls (.ref q :: r0) (shH σ τ) r h') : pmU S d j pc ls (.int i :: .ref c :: r0) (shH σ τ) r h' := by
  refine pmU_3 hc rfl rfl ?_ kk
  show pmRfL (.int i :: .ref c :: r0) (shH σ τ) = some (.ref q :: r0, shH σ τ)
  unfold pmRfL
  simp only [hk, hi, beq_self_eq_true, Bool.and_self, if_true, hv]
theorem pu_aast {c n q : Nat} {i : Int32} (hc : codT j pc = some (.aastore, len)) (hk : kdT0[c]? = some (3, n)) (hi : pmIn i n = true) (hq : kdT0[q]? = some (rfcT + 4, nfT rfcT)) (hv : pmPut (shp σ τ) c i.toNatClampNeg (.ref q) = shp σ1 τ1) (kk : pmU S d j (pc + len) ls r0 (shH σ1 τ1) r h') : pmU S d j pc ls (.ref q :: .int i :: .ref c :: r0) (shH σ τ) r h' := by
  refine pmU_3 hc rfl rfl ?_ kk
  show pmRfS (.ref q :: .int i :: .ref c :: r0) (shH σ τ) = some (r0, shH σ1 τ1)
  unfold pmRfS
  simp only [hk, hi, hq, beq_self_eq_true, Bool.and_self, if_true, hv]
theorem pmC_virt {i c j' : Nat} {tl : List Value} {K : pmK} (ho : calT j i = some (j', 0)) (h1 : (Nat.ble (narT j') st.length && Nat.ble ((st.drop (narT j')).map fun v => v.category).sum 8) = true) (h2 : (st.take (narT j')).reverse = .ref c :: tl) (hk : K[c]? = some (clsT j' + 4, nfT (clsT j'))) : pmC j (.invokevirtual i) st K = some (j', .ref c :: tl, st.drop (narT j')) := by
  show pmCal 0 (calT j i) st K = _
  rw [ho]
  unfold pmCal
  simp only [Bool.and_eq_true] at h1
  simp only [h1.1, h1.2, h2, beq_self_eq_true, Bool.and_self, Bool.true_and]
  unfold pmRcv
  simp only [hk, beq_self_eq_true, Bool.and_self, Bool.or_true, if_true]
theorem pu_sw {v : Int32} {ins : Instr} (e : x = v) (hc : codT j pc = some (ins, len)) (h0 : pm1 j ins ls (.int v :: r0) = none) (hs : pm2 ins pc (.int v :: r0) = some (tg, r0)) (k : pmU S d j tg ls r0 h r h') : pmU S d j pc ls (.int x :: r0) h r h' := by
  subst e
  exact pmU_2 hc h0 hs k
theorem pu_alen {c n : Nat} (hc : codT j pc = some (.arraylength, len)) (hk : kdT0[c]? = some (1, n)) (kk : pmU S d j (pc + len) ls (.int (Int32.ofNat n) :: r0) (shH σ τ) r h') : pmU S d j pc ls (.ref c :: r0) (shH σ τ) r h' := by
  refine pmU_3 hc rfl rfl ?_ kk
  show pmLen S (.ref c :: r0) (shH σ τ) = some (.int (Int32.ofNat n) :: r0, shH σ τ)
  unfold pmLen
  simp only [hk, beq_self_eq_true, Bool.true_or, if_true]
theorem pu_retZ {v : Int32} (hc : codT j pc = some (.ireturn, len)) (hr : retT j = 2) (g : (v == 0 || v == 1) = true) : pmU S d j pc ls [.int v] h (some (.int v)) h := by
  refine pmU_T hc rfl rfl rfl rfl ?_
  show (if retT j = 1 then some (some (Value.int v)) else if (retT j == 2 && (v == 0 || v == 1)) = true then some (some (Value.int v)) else none) = some (some (Value.int v))
  rw [hr, g]
  rfl
theorem br_sw {P G : Prop} {dP : Decidable P} (h0 : (if P then A else B) = z) (k1 : P → A = z → G) (k2 : ¬ P → B = z → G) : G := by
  by_cases p : P
  · exact k1 p (by rw [← h0, if_pos p])
  · exact k2 p (by rw [← h0, if_neg p])
theorem ls_n {y : Int} : ∀ q ∈ ([] : List (Int × Int)), ¬ y = q.1 := fun _ q => absurd q List.not_mem_nil
theorem ls_c {y a o : Int} {t : List (Int × Int)} (h1 : ¬ y = a) (h2 : ∀ q ∈ t, ¬ y = q.1) : ∀ q ∈ (a, o) :: t, ¬ y = q.1 := List.forall_mem_cons.mpr ⟨h1, h2⟩
theorem ls_d {dflt y : Int} : ∀ (t : List (Int × Int)), (∀ q ∈ t, ¬ y = q.1) → Op.lookupswitch.offset t dflt y = dflt
  | [], _ => rfl
  | (a, o) :: t, hq => by
    rw [Op.lookupswitch.offset_cons, if_neg (fun e => hq (a, o) List.mem_cons_self e.symm)]
    exact ls_d t (fun q hm => hq q (List.mem_cons_of_mem _ hm))
theorem pu_lswD {dflt : Int} {ps : Array (Int × Int)} (hc : codT j pc = some (.lookupswitch dflt ps, len)) (hp : (ps.toList.zip (ps.toList.drop 1)).all (fun (a, next) => a.1 < next.1) = true) (hk : ∀ q ∈ ps.toList, ¬ x.toInt = q.1) (ht : pmTg pc dflt r0 = some (tg, r0)) (k : pmU S d j tg ls r0 h r h') : pmU S d j pc ls (.int x :: r0) h r h' := by
  refine pmU_2 hc rfl ?_ k
  show pmLsw dflt ps pc (.int x :: r0) = some (tg, r0)
  unfold pmLsw
  simp only [hp, if_true, ls_d _ hk, ht]
def tsOk (y dflt : Int) : Int → List Int → Prop
  | _, [] => True
  | lo, o :: t => (o = dflt ∨ ¬ y = lo) ∧ tsOk y dflt (lo + 1) t
theorem tsOk_at {y dflt o : Int} : ∀ (t : List Int) (lo : Int) (i : Nat), tsOk y dflt lo t → t[i]? = some o → o = dflt ∨ ¬ y = lo + i
  | [], _, _, _, hi => by cases hi
  | a :: t, lo, 0, ho, hi => by
    cases hi
    rcases ho.1 with e | e
    · exact Or.inl e
    · exact Or.inr (fun z => e (by omega))
  | a :: t, lo, i + 1, ho, hi => by
    rcases tsOk_at t (lo + 1) i ho.2 hi with e | e
    · exact Or.inl e
    · exact Or.inr (fun z => e (by omega))
theorem pu_tswD {dflt lo hi : Int} {offs : Array Int} (hc : codT j pc = some (.tableswitch dflt lo hi offs, len)) (hp : decide (hi - lo < (offs.toList.length : Int)) = true) (hk : tsOk x.toInt dflt lo offs.toList) (ht : pmTg pc dflt r0 = some (tg, r0)) (k : pmU S d j tg ls r0 h r h') : pmU S d j pc ls (.int x :: r0) h r h' := by
  refine pmU_2 hc rfl ?_ k
  show pmTsw dflt lo hi offs pc (.int x :: r0) = some (tg, r0)
  unfold pmTsw
  simp only
  by_cases hr : x.toInt < lo ∨ hi < x.toInt
  · rw [if_pos hr]
    exact ht
  · rw [if_neg hr]
    have hp := of_decide_eq_true hp
    have hlt : (x.toInt - lo).toNat < offs.toList.length := by omega
    have ha : offs[(x.toInt - lo).toNat]? = some (offs.toList[(x.toInt - lo).toNat]'hlt) := by
      rw [← Array.getElem?_toList]
      exact List.getElem?_eq_getElem hlt
    rw [ha]
    simp only
    rcases tsOk_at _ lo (x.toInt - lo).toNat hk (List.getElem?_eq_getElem hlt) with e | e
    · rw [e]
      exact ht
    · exact absurd (by omega) e
end PU
