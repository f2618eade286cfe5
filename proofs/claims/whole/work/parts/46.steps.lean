def Stp_join (Rel : Mem → Mem → Nat → Prop) : Prop := ∀ (σ τ : Mem) (n : Nat), Rel σ τ n → n < 512 → ∀ (a b c : Int32), ∃ (r : Int32) (σ1 τ1 : Mem), Ps_join a b c σ = some (r, σ1) ∧ Mo_join a b c τ = some (r, τ1) ∧ Rel σ1 τ1 (n + 1)
def Stp_leave (Rel : Mem → Mem → Nat → Prop) : Prop := ∀ (σ τ : Mem) (n : Nat), Rel σ τ n → n < 512 → ∀ (a b c : Int32), ∃ (r : Int32) (σ1 τ1 : Mem), Ps_leave a b c σ = some (r, σ1) ∧ Mo_leave a b c τ = some (r, τ1) ∧ Rel σ1 τ1 (n + 1)
def Stp_mark (Rel : Mem → Mem → Nat → Prop) : Prop := ∀ (σ τ : Mem) (n : Nat), Rel σ τ n → n < 512 → ∀ (a b c : Int32), ∃ (r : Int32) (σ1 τ1 : Mem), Ps_mark a b c σ = some (r, σ1) ∧ Mo_mark a b c τ = some (r, τ1) ∧ Rel σ1 τ1 (n + 1)
def Stp_thing (Rel : Mem → Mem → Nat → Prop) : Prop := ∀ (σ τ : Mem) (n : Nat), Rel σ τ n → n < 512 → ∀ (a b c : Int32), ∃ (r : Int32) (σ1 τ1 : Mem), Ps_thing a b c σ = some (r, σ1) ∧ Mo_thing a b c τ = some (r, τ1) ∧ Rel σ1 τ1 (n + 1)
def Stp_isIn (Rel : Mem → Mem → Nat → Prop) : Prop := ∀ (σ τ : Mem) (n : Nat), Rel σ τ n → n < 512 → ∀ (a b c : Int32), ∃ (r : Int32), Ps_isIn a b c σ = some r ∧ Mo_isIn a b c τ = some r ∧ Rel σ τ (n + 1)
def Stp_put (Rel : Mem → Mem → Nat → Prop) : Prop := ∀ (σ τ : Mem) (n : Nat), Rel σ τ n → n < 512 → ∀ (a : Int64) (b : Int32), ∃ (r : Int32) (σ1 τ1 : Mem), Ps_put a b σ = some (r, σ1) ∧ Mo_put a b τ = some (r, τ1) ∧ Rel σ1 τ1 (n + 1)
def Stp_wipe (Rel : Mem → Mem → Nat → Prop) : Prop := ∀ (σ τ : Mem) (n : Nat), Rel σ τ n → n < 512 → ∀ (_ : Unit), ∃ (r : Int32) (σ1 τ1 : Mem), Ps_wipe  σ = some (r, σ1) ∧ Mo_wipe  τ = some (r, τ1) ∧ Rel σ1 τ1 (n + 1)
def Stp_add (Rel : Mem → Mem → Nat → Prop) : Prop := ∀ (σ τ : Mem) (n : Nat), Rel σ τ n → n < 512 → ∀ (a : Int32), ∃ (r : Int32) (σ1 τ1 : Mem), Ps_add a σ = some (r, σ1) ∧ Mo_add a τ = some (r, τ1) ∧ Rel σ1 τ1 (n + 1)
def Stp_drop (Rel : Mem → Mem → Nat → Prop) : Prop := ∀ (σ τ : Mem) (n : Nat), Rel σ τ n → n < 512 → ∀ (a b : Int32), ∃ (r : Int32) (σ1 τ1 : Mem), Ps_drop a b σ = some (r, σ1) ∧ Mo_drop a b τ = some (r, τ1) ∧ Rel σ1 τ1 (n + 1)
def Stp_size (Rel : Mem → Mem → Nat → Prop) : Prop := ∀ (σ τ : Mem) (n : Nat), Rel σ τ n → n < 512 → ∀ (a : Int32), ∃ (r : Int32), Ps_size a σ = some r ∧ Mo_size a τ = some r ∧ Rel σ τ (n + 1)
def Stp_policy (Rel : Mem → Mem → Nat → Prop) : Prop := ∀ (σ τ : Mem) (n : Nat), Rel σ τ n → n < 512 → ∀ (a b c : Int32), ∃ (r : Int32) (σ1 τ1 : Mem), Ps_policy a b c σ = some (r, σ1) ∧ Mo_policy a b c τ = some (r, τ1) ∧ Rel σ1 τ1 (n + 1)
def Stp_ask (Rel : Mem → Mem → Nat → Prop) : Prop := ∀ (σ τ : Mem) (n : Nat), Rel σ τ n → n < 512 → ∀ (a b c : Int32), ∃ (r : Int32) (σ1 τ1 : Mem), Ps_ask a b c σ = some (r, σ1) ∧ Mo_ask a b c τ = some (r, τ1) ∧ Rel σ1 τ1 (n + 1)
def Stp_allows (Rel : Mem → Mem → Nat → Prop) : Prop := ∀ (σ τ : Mem) (n : Nat), Rel σ τ n → n < 512 → ∀ (a b : Int32), ∃ (r : Int32) (σ1 τ1 : Mem), Ps_allows a b σ = some (r, σ1) ∧ Mo_allows a b τ = some (r, τ1) ∧ Rel σ1 τ1 (n + 1)
def Stp_compare (Rel : Mem → Mem → Nat → Prop) : Prop := ∀ (σ τ : Mem) (n : Nat), Rel σ τ n → n < 512 → ∀ (a : Int32), ∃ (r : Int32) (σ1 τ1 : Mem), Ps_compare a σ = some (r, σ1) ∧ Mo_compare a τ = some (r, τ1) ∧ Rel σ1 τ1 (n + 1)
def Stp_needless (Rel : Mem → Mem → Nat → Prop) : Prop := ∀ (σ τ : Mem) (n : Nat), Rel σ τ n → n < 512 → ∀ (a b : Int32), ∃ (r : Int32) (σ1 τ1 : Mem), Ps_needless a b σ = some (r, σ1) ∧ Mo_needless a b τ = some (r, τ1) ∧ Rel σ1 τ1 (n + 1)
theorem S_join : Stp_join Rel := fun σ τ n h hn a b c => by
  obtain ⟨r, σ1, τ1, h1, h2, h3⟩ := W_join h.1 a b c
  exact ⟨r, σ1, τ1, h1, h2, Rel_W hn h h3⟩
theorem S_leave : Stp_leave Rel := fun σ τ n h hn a b c => by
  obtain ⟨r, σ1, τ1, h1, h2, h3⟩ := W_leave h.1 a b c
  exact ⟨r, σ1, τ1, h1, h2, Rel_W hn h h3⟩
theorem S_mark : Stp_mark Rel := fun σ τ n h hn a b c => by
  obtain ⟨r, σ1, τ1, h1, h2, h3⟩ := W_mark h.1 a b c
  exact ⟨r, σ1, τ1, h1, h2, Rel_W hn h h3⟩
theorem S_thing : Stp_thing Rel := fun σ τ n h hn a b c => by
  obtain ⟨r, σ1, τ1, h1, h2, h3⟩ := W_thing h.1 a b c
  exact ⟨r, σ1, τ1, h1, h2, Rel_W hn h h3⟩
theorem S_isIn : Stp_isIn Rel := fun σ τ n h hn a b c => by
  obtain ⟨r, h1, h2⟩ := W_isIn h.1 a b c
  exact ⟨r, h1, h2, Rel_up σ τ n h⟩
theorem S_put : Stp_put Rel := fun σ τ n h hn a b => by
  obtain ⟨r, σ1, τ1, h1, h2, h3, h4, h5⟩ := T_put h.2.1 a b
  exact ⟨r, σ1, τ1, h1, h2, Rel_T h h3 h4 h5⟩
theorem S_wipe : Stp_wipe Rel := fun σ τ n h hn _ => by
  obtain ⟨r, σ1, τ1, h1, h2, h3, h4, h5⟩ := T_wipe h.2.1
  exact ⟨r, σ1, τ1, h1, h2, Rel_T h h3 h4 h5⟩
theorem S_size : Stp_size Rel := fun σ τ n h hn a => by
  have h0 := h
  obtain ⟨-, -, M, -, -, h5⟩ := h
  unfold Ps_size Mo_size
  rcases isSet_c a with ⟨a1, a2⟩ | ⟨s, hs, rfl, a1, a2⟩
  · exact ⟨-1, if_pos a1, if_pos a2, Rel_up σ τ n h0⟩
  · obtain ⟨-, c, hc, e1, e2, -⟩ := h5 s hs
    rw [if_neg (n10 a1), if_neg (n10 a2), chosen_v hs, if_pos (pmIn_nI hs (by omega)), nI_clamp (by omega), e2]
    refine ⟨nI c, ?_, rfl, Rel_up σ τ n h0⟩
    unfold Se_count
    rw [Option.bind_some, e1]
    rfl
