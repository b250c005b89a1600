/-! the class's blocks, each by a state -/
def bat (f : Nat → xC) (a n : Nat) (c : Nat → xC) : Prop := ∀ i, i < n → f (a + i) = c i
theorem bat_put (f : Nat → xC) (a n : Nat) (c : Nat → xC) : bat (bput f a n c) a n c := fun i hi => bput_in hi
theorem bat_out {f : Nat → xC} {a n b k : Nat} {c e : Nat → xC} (h : bat f a n c) (hd : a + n ≤ b ∨ b + k ≤ a) : bat (bput f b k e) a n c := fun i hi => by
  rw [bput_out (by omega)]
  exact h i hi
def lcell (a : Nat) (σ : xS) (i : Nat) : xC := match i with
  | 0 => ob 1 [.int (σ 9 0), .ref (a + 1), .ref (a + 2), .ref (a + 3), .ref (a + 4), .ref (a + 5), .ref (a + 6), .ref (a + 7), .ref (a + 8), .ref (a + 9)]
  | 1 => aI 0 60 (σ 0)
  | 2 => aI 0 60 (σ 1)
  | 3 => aI 0 60 (σ 2)
  | 4 => aI 0 60 (σ 3)
  | 5 => aI 0 60 (σ 4)
  | 6 => aI 0 60 (σ 5)
  | 7 => aI 0 60 (σ 6)
  | 8 => aI 0 60 (σ 7)
  | _ => aI 0 60 (σ 8)
def lat (f : Nat → xC) (a : Nat) (σ : xS) : Prop := bat f a 10 (lcell a σ)
def lput (f : Nat → xC) (a : Nat) (σ : xS) : Nat → xC := bput f a 10 (lcell a σ)
theorem lat_r {f : Nat → xC} {a i : Nat} {σ : xS} (h : lat f a σ) (hi : i < 10) : f (a + i) = lcell a σ i := h i hi
theorem lat_0 {f : Nat → xC} {a : Nat} {σ : xS} (h : lat f a σ) : f a = ob 1 [.int (σ 9 0), .ref (a + 1), .ref (a + 2), .ref (a + 3), .ref (a + 4), .ref (a + 5), .ref (a + 6), .ref (a + 7), .ref (a + 8), .ref (a + 9)] := h 0 (by decide)
theorem lput_at (f : Nat → xC) (a : Nat) (σ : xS) : lat (lput f a σ) a σ := bat_put _ _ _ _
theorem lat_put {f : Nat → xC} {a : Nat} {σ : xS} (h : lat f a σ) : lput f a σ = f := bput_self h
theorem lw_9 (f : Nat → xC) (a : Nat) (σ : xS) (v : Int32) : xu (lput f a σ) a (ob 1 [.int (v), .ref (a + 1), .ref (a + 2), .ref (a + 3), .ref (a + 4), .ref (a + 5), .ref (a + 6), .ref (a + 7), .ref (a + 8), .ref (a + 9)]) = lput f a (up2 σ 9 0 v) := by
  refine (bput_xu (i := 0) (by decide)).trans (bput_congr fun i hi => ?_)
  match i, hi with
  | 0, _ => rfl
  | 1, _ => rfl
  | 2, _ => rfl
  | 3, _ => rfl
  | 4, _ => rfl
  | 5, _ => rfl
  | 6, _ => rfl
  | 7, _ => rfl
  | 8, _ => rfl
  | 9, _ => rfl
  | i + 10, h => exact absurd h (by omega)
theorem lw_0 (f : Nat → xC) (a : Nat) (σ : xS) (j : Nat) (v : Int32) : xu (lput f a σ) (a + 1) (aI 0 60 (upd (σ 0) j v)) = lput f a (up2 σ 0 j v) := by
  refine (bput_xu (i := 1) (by decide)).trans (bput_congr fun i hi => ?_)
  match i, hi with
  | 0, _ => rfl
  | 1, _ => rfl
  | 2, _ => rfl
  | 3, _ => rfl
  | 4, _ => rfl
  | 5, _ => rfl
  | 6, _ => rfl
  | 7, _ => rfl
  | 8, _ => rfl
  | 9, _ => rfl
  | i + 10, h => exact absurd h (by omega)
theorem lw_1 (f : Nat → xC) (a : Nat) (σ : xS) (j : Nat) (v : Int32) : xu (lput f a σ) (a + 2) (aI 0 60 (upd (σ 1) j v)) = lput f a (up2 σ 1 j v) := by
  refine (bput_xu (i := 2) (by decide)).trans (bput_congr fun i hi => ?_)
  match i, hi with
  | 0, _ => rfl
  | 1, _ => rfl
  | 2, _ => rfl
  | 3, _ => rfl
  | 4, _ => rfl
  | 5, _ => rfl
  | 6, _ => rfl
  | 7, _ => rfl
  | 8, _ => rfl
  | 9, _ => rfl
  | i + 10, h => exact absurd h (by omega)
theorem lw_2 (f : Nat → xC) (a : Nat) (σ : xS) (j : Nat) (v : Int32) : xu (lput f a σ) (a + 3) (aI 0 60 (upd (σ 2) j v)) = lput f a (up2 σ 2 j v) := by
  refine (bput_xu (i := 3) (by decide)).trans (bput_congr fun i hi => ?_)
  match i, hi with
  | 0, _ => rfl
  | 1, _ => rfl
  | 2, _ => rfl
  | 3, _ => rfl
  | 4, _ => rfl
  | 5, _ => rfl
  | 6, _ => rfl
  | 7, _ => rfl
  | 8, _ => rfl
  | 9, _ => rfl
  | i + 10, h => exact absurd h (by omega)
theorem lw_3 (f : Nat → xC) (a : Nat) (σ : xS) (j : Nat) (v : Int32) : xu (lput f a σ) (a + 4) (aI 0 60 (upd (σ 3) j v)) = lput f a (up2 σ 3 j v) := by
  refine (bput_xu (i := 4) (by decide)).trans (bput_congr fun i hi => ?_)
  match i, hi with
  | 0, _ => rfl
  | 1, _ => rfl
  | 2, _ => rfl
  | 3, _ => rfl
  | 4, _ => rfl
  | 5, _ => rfl
  | 6, _ => rfl
  | 7, _ => rfl
  | 8, _ => rfl
  | 9, _ => rfl
  | i + 10, h => exact absurd h (by omega)
theorem lw_4 (f : Nat → xC) (a : Nat) (σ : xS) (j : Nat) (v : Int32) : xu (lput f a σ) (a + 5) (aI 0 60 (upd (σ 4) j v)) = lput f a (up2 σ 4 j v) := by
  refine (bput_xu (i := 5) (by decide)).trans (bput_congr fun i hi => ?_)
  match i, hi with
  | 0, _ => rfl
  | 1, _ => rfl
  | 2, _ => rfl
  | 3, _ => rfl
  | 4, _ => rfl
  | 5, _ => rfl
  | 6, _ => rfl
  | 7, _ => rfl
  | 8, _ => rfl
  | 9, _ => rfl
  | i + 10, h => exact absurd h (by omega)
theorem lw_5 (f : Nat → xC) (a : Nat) (σ : xS) (j : Nat) (v : Int32) : xu (lput f a σ) (a + 6) (aI 0 60 (upd (σ 5) j v)) = lput f a (up2 σ 5 j v) := by
  refine (bput_xu (i := 6) (by decide)).trans (bput_congr fun i hi => ?_)
  match i, hi with
  | 0, _ => rfl
  | 1, _ => rfl
  | 2, _ => rfl
  | 3, _ => rfl
  | 4, _ => rfl
  | 5, _ => rfl
  | 6, _ => rfl
  | 7, _ => rfl
  | 8, _ => rfl
  | 9, _ => rfl
  | i + 10, h => exact absurd h (by omega)
theorem lw_6 (f : Nat → xC) (a : Nat) (σ : xS) (j : Nat) (v : Int32) : xu (lput f a σ) (a + 7) (aI 0 60 (upd (σ 6) j v)) = lput f a (up2 σ 6 j v) := by
  refine (bput_xu (i := 7) (by decide)).trans (bput_congr fun i hi => ?_)
  match i, hi with
  | 0, _ => rfl
  | 1, _ => rfl
  | 2, _ => rfl
  | 3, _ => rfl
  | 4, _ => rfl
  | 5, _ => rfl
  | 6, _ => rfl
  | 7, _ => rfl
  | 8, _ => rfl
  | 9, _ => rfl
  | i + 10, h => exact absurd h (by omega)
theorem lw_7 (f : Nat → xC) (a : Nat) (σ : xS) (j : Nat) (v : Int32) : xu (lput f a σ) (a + 8) (aI 0 60 (upd (σ 7) j v)) = lput f a (up2 σ 7 j v) := by
  refine (bput_xu (i := 8) (by decide)).trans (bput_congr fun i hi => ?_)
  match i, hi with
  | 0, _ => rfl
  | 1, _ => rfl
  | 2, _ => rfl
  | 3, _ => rfl
  | 4, _ => rfl
  | 5, _ => rfl
  | 6, _ => rfl
  | 7, _ => rfl
  | 8, _ => rfl
  | 9, _ => rfl
  | i + 10, h => exact absurd h (by omega)
theorem lw_8 (f : Nat → xC) (a : Nat) (σ : xS) (j : Nat) (v : Int32) : xu (lput f a σ) (a + 9) (aI 0 60 (upd (σ 8) j v)) = lput f a (up2 σ 8 j v) := by
  refine (bput_xu (i := 9) (by decide)).trans (bput_congr fun i hi => ?_)
  match i, hi with
  | 0, _ => rfl
  | 1, _ => rfl
  | 2, _ => rfl
  | 3, _ => rfl
  | 4, _ => rfl
  | 5, _ => rfl
  | 6, _ => rfl
  | 7, _ => rfl
  | 8, _ => rfl
  | 9, _ => rfl
  | i + 10, h => exact absurd h (by omega)
def tcell (a : Nat) (σ : xS) (i : Nat) : xC := match i with
  | 0 => ob 6 [.ref (a + 1), .ref (a + 3), .ref (a + 4), .ref (a + 5), .ref (a + 6), .int (σ 5 0), .int (σ 6 0), .int (σ 7 0), .int (σ 8 0)]
  | 1 => ob 2 [.ref (a + 2), .int (σ 9 0), .int (σ 10 0)]
  | 2 => aI 0 40 (σ 0)
  | 3 => aI 0 6 (σ 1)
  | 4 => aI 0 240 (σ 2)
  | 5 => aI 0 40 (σ 3)
  | _ => aI 0 60 (σ 4)
def tat (f : Nat → xC) (a : Nat) (σ : xS) : Prop := bat f a 7 (tcell a σ)
def tput (f : Nat → xC) (a : Nat) (σ : xS) : Nat → xC := bput f a 7 (tcell a σ)
theorem tat_r {f : Nat → xC} {a i : Nat} {σ : xS} (h : tat f a σ) (hi : i < 7) : f (a + i) = tcell a σ i := h i hi
theorem tat_0 {f : Nat → xC} {a : Nat} {σ : xS} (h : tat f a σ) : f a = ob 6 [.ref (a + 1), .ref (a + 3), .ref (a + 4), .ref (a + 5), .ref (a + 6), .int (σ 5 0), .int (σ 6 0), .int (σ 7 0), .int (σ 8 0)] := h 0 (by decide)
theorem tput_at (f : Nat → xC) (a : Nat) (σ : xS) : tat (tput f a σ) a σ := bat_put _ _ _ _
theorem tat_put {f : Nat → xC} {a : Nat} {σ : xS} (h : tat f a σ) : tput f a σ = f := bput_self h
theorem tw_5 (f : Nat → xC) (a : Nat) (σ : xS) (v : Int32) : xu (tput f a σ) a (ob 6 [.ref (a + 1), .ref (a + 3), .ref (a + 4), .ref (a + 5), .ref (a + 6), .int (v), .int (σ 6 0), .int (σ 7 0), .int (σ 8 0)]) = tput f a (up2 σ 5 0 v) := by
  refine (bput_xu (i := 0) (by decide)).trans (bput_congr fun i hi => ?_)
  match i, hi with
  | 0, _ => rfl
  | 1, _ => rfl
  | 2, _ => rfl
  | 3, _ => rfl
  | 4, _ => rfl
  | 5, _ => rfl
  | 6, _ => rfl
  | i + 7, h => exact absurd h (by omega)
theorem tw_6 (f : Nat → xC) (a : Nat) (σ : xS) (v : Int32) : xu (tput f a σ) a (ob 6 [.ref (a + 1), .ref (a + 3), .ref (a + 4), .ref (a + 5), .ref (a + 6), .int (σ 5 0), .int (v), .int (σ 7 0), .int (σ 8 0)]) = tput f a (up2 σ 6 0 v) := by
  refine (bput_xu (i := 0) (by decide)).trans (bput_congr fun i hi => ?_)
  match i, hi with
  | 0, _ => rfl
  | 1, _ => rfl
  | 2, _ => rfl
  | 3, _ => rfl
  | 4, _ => rfl
  | 5, _ => rfl
  | 6, _ => rfl
  | i + 7, h => exact absurd h (by omega)
theorem tw_7 (f : Nat → xC) (a : Nat) (σ : xS) (v : Int32) : xu (tput f a σ) a (ob 6 [.ref (a + 1), .ref (a + 3), .ref (a + 4), .ref (a + 5), .ref (a + 6), .int (σ 5 0), .int (σ 6 0), .int (v), .int (σ 8 0)]) = tput f a (up2 σ 7 0 v) := by
  refine (bput_xu (i := 0) (by decide)).trans (bput_congr fun i hi => ?_)
  match i, hi with
  | 0, _ => rfl
  | 1, _ => rfl
  | 2, _ => rfl
  | 3, _ => rfl
  | 4, _ => rfl
  | 5, _ => rfl
  | 6, _ => rfl
  | i + 7, h => exact absurd h (by omega)
theorem tw_8 (f : Nat → xC) (a : Nat) (σ : xS) (v : Int32) : xu (tput f a σ) a (ob 6 [.ref (a + 1), .ref (a + 3), .ref (a + 4), .ref (a + 5), .ref (a + 6), .int (σ 5 0), .int (σ 6 0), .int (σ 7 0), .int (v)]) = tput f a (up2 σ 8 0 v) := by
  refine (bput_xu (i := 0) (by decide)).trans (bput_congr fun i hi => ?_)
  match i, hi with
  | 0, _ => rfl
  | 1, _ => rfl
  | 2, _ => rfl
  | 3, _ => rfl
  | 4, _ => rfl
  | 5, _ => rfl
  | 6, _ => rfl
  | i + 7, h => exact absurd h (by omega)
theorem tw_9 (f : Nat → xC) (a : Nat) (σ : xS) (v : Int32) : xu (tput f a σ) (a + 1) (ob 2 [.ref (a + 2), .int (v), .int (σ 10 0)]) = tput f a (up2 σ 9 0 v) := by
  refine (bput_xu (i := 1) (by decide)).trans (bput_congr fun i hi => ?_)
  match i, hi with
  | 0, _ => rfl
  | 1, _ => rfl
  | 2, _ => rfl
  | 3, _ => rfl
  | 4, _ => rfl
  | 5, _ => rfl
  | 6, _ => rfl
  | i + 7, h => exact absurd h (by omega)
theorem tw_10 (f : Nat → xC) (a : Nat) (σ : xS) (v : Int32) : xu (tput f a σ) (a + 1) (ob 2 [.ref (a + 2), .int (σ 9 0), .int (v)]) = tput f a (up2 σ 10 0 v) := by
  refine (bput_xu (i := 1) (by decide)).trans (bput_congr fun i hi => ?_)
  match i, hi with
  | 0, _ => rfl
  | 1, _ => rfl
  | 2, _ => rfl
  | 3, _ => rfl
  | 4, _ => rfl
  | 5, _ => rfl
  | 6, _ => rfl
  | i + 7, h => exact absurd h (by omega)
theorem tw_0 (f : Nat → xC) (a : Nat) (σ : xS) (j : Nat) (v : Int32) : xu (tput f a σ) (a + 2) (aI 0 40 (upd (σ 0) j v)) = tput f a (up2 σ 0 j v) := by
  refine (bput_xu (i := 2) (by decide)).trans (bput_congr fun i hi => ?_)
  match i, hi with
  | 0, _ => rfl
  | 1, _ => rfl
  | 2, _ => rfl
  | 3, _ => rfl
  | 4, _ => rfl
  | 5, _ => rfl
  | 6, _ => rfl
  | i + 7, h => exact absurd h (by omega)
theorem tw_1 (f : Nat → xC) (a : Nat) (σ : xS) (j : Nat) (v : Int32) : xu (tput f a σ) (a + 3) (aI 0 6 (upd (σ 1) j v)) = tput f a (up2 σ 1 j v) := by
  refine (bput_xu (i := 3) (by decide)).trans (bput_congr fun i hi => ?_)
  match i, hi with
  | 0, _ => rfl
  | 1, _ => rfl
  | 2, _ => rfl
  | 3, _ => rfl
  | 4, _ => rfl
  | 5, _ => rfl
  | 6, _ => rfl
  | i + 7, h => exact absurd h (by omega)
theorem tw_2 (f : Nat → xC) (a : Nat) (σ : xS) (j : Nat) (v : Int32) : xu (tput f a σ) (a + 4) (aI 0 240 (upd (σ 2) j v)) = tput f a (up2 σ 2 j v) := by
  refine (bput_xu (i := 4) (by decide)).trans (bput_congr fun i hi => ?_)
  match i, hi with
  | 0, _ => rfl
  | 1, _ => rfl
  | 2, _ => rfl
  | 3, _ => rfl
  | 4, _ => rfl
  | 5, _ => rfl
  | 6, _ => rfl
  | i + 7, h => exact absurd h (by omega)
theorem tw_3 (f : Nat → xC) (a : Nat) (σ : xS) (j : Nat) (v : Int32) : xu (tput f a σ) (a + 5) (aI 0 40 (upd (σ 3) j v)) = tput f a (up2 σ 3 j v) := by
  refine (bput_xu (i := 5) (by decide)).trans (bput_congr fun i hi => ?_)
  match i, hi with
  | 0, _ => rfl
  | 1, _ => rfl
  | 2, _ => rfl
  | 3, _ => rfl
  | 4, _ => rfl
  | 5, _ => rfl
  | 6, _ => rfl
  | i + 7, h => exact absurd h (by omega)
theorem tw_4 (f : Nat → xC) (a : Nat) (σ : xS) (j : Nat) (v : Int32) : xu (tput f a σ) (a + 6) (aI 0 60 (upd (σ 4) j v)) = tput f a (up2 σ 4 j v) := by
  refine (bput_xu (i := 6) (by decide)).trans (bput_congr fun i hi => ?_)
  match i, hi with
  | 0, _ => rfl
  | 1, _ => rfl
  | 2, _ => rfl
  | 3, _ => rfl
  | 4, _ => rfl
  | 5, _ => rfl
  | 6, _ => rfl
  | i + 7, h => exact absurd h (by omega)
def ocell (a : Nat) (σ : xS) (i : Nat) : xC := match i with
  | 0 => ob 2 [.ref (a + 1), .int (σ 9 0), .int (σ 10 0)]
  | _ => aI 0 40 (σ 0)
def oat (f : Nat → xC) (a : Nat) (σ : xS) : Prop := bat f a 2 (ocell a σ)
def oput (f : Nat → xC) (a : Nat) (σ : xS) : Nat → xC := bput f a 2 (ocell a σ)
theorem oat_r {f : Nat → xC} {a i : Nat} {σ : xS} (h : oat f a σ) (hi : i < 2) : f (a + i) = ocell a σ i := h i hi
theorem oat_0 {f : Nat → xC} {a : Nat} {σ : xS} (h : oat f a σ) : f a = ob 2 [.ref (a + 1), .int (σ 9 0), .int (σ 10 0)] := h 0 (by decide)
theorem oput_at (f : Nat → xC) (a : Nat) (σ : xS) : oat (oput f a σ) a σ := bat_put _ _ _ _
theorem oat_put {f : Nat → xC} {a : Nat} {σ : xS} (h : oat f a σ) : oput f a σ = f := bput_self h
theorem ow_9 (f : Nat → xC) (a : Nat) (σ : xS) (v : Int32) : xu (oput f a σ) a (ob 2 [.ref (a + 1), .int (v), .int (σ 10 0)]) = oput f a (up2 σ 9 0 v) := by
  refine (bput_xu (i := 0) (by decide)).trans (bput_congr fun i hi => ?_)
  match i, hi with
  | 0, _ => rfl
  | 1, _ => rfl
  | i + 2, h => exact absurd h (by omega)
theorem ow_10 (f : Nat → xC) (a : Nat) (σ : xS) (v : Int32) : xu (oput f a σ) a (ob 2 [.ref (a + 1), .int (σ 9 0), .int (v)]) = oput f a (up2 σ 10 0 v) := by
  refine (bput_xu (i := 0) (by decide)).trans (bput_congr fun i hi => ?_)
  match i, hi with
  | 0, _ => rfl
  | 1, _ => rfl
  | i + 2, h => exact absurd h (by omega)
theorem ow_0 (f : Nat → xC) (a : Nat) (σ : xS) (j : Nat) (v : Int32) : xu (oput f a σ) (a + 1) (aI 0 40 (upd (σ 0) j v)) = oput f a (up2 σ 0 j v) := by
  refine (bput_xu (i := 1) (by decide)).trans (bput_congr fun i hi => ?_)
  match i, hi with
  | 0, _ => rfl
  | 1, _ => rfl
  | i + 2, h => exact absurd h (by omega)
def xcell (a : Nat) (σ : xS) (i : Nat) : xC := match i with
  | 0 => ob 5 [.ref (a + 1), .int (σ 1 0)]
  | _ => aI 1 120 (σ 0)
def xat (f : Nat → xC) (a : Nat) (σ : xS) : Prop := bat f a 2 (xcell a σ)
def xput (f : Nat → xC) (a : Nat) (σ : xS) : Nat → xC := bput f a 2 (xcell a σ)
theorem xat_r {f : Nat → xC} {a i : Nat} {σ : xS} (h : xat f a σ) (hi : i < 2) : f (a + i) = xcell a σ i := h i hi
theorem xat_0 {f : Nat → xC} {a : Nat} {σ : xS} (h : xat f a σ) : f a = ob 5 [.ref (a + 1), .int (σ 1 0)] := h 0 (by decide)
theorem xput_at (f : Nat → xC) (a : Nat) (σ : xS) : xat (xput f a σ) a σ := bat_put _ _ _ _
theorem xat_put {f : Nat → xC} {a : Nat} {σ : xS} (h : xat f a σ) : xput f a σ = f := bput_self h
theorem xw_1 (f : Nat → xC) (a : Nat) (σ : xS) (v : Int32) : xu (xput f a σ) a (ob 5 [.ref (a + 1), .int (v)]) = xput f a (up2 σ 1 0 v) := by
  refine (bput_xu (i := 0) (by decide)).trans (bput_congr fun i hi => ?_)
  match i, hi with
  | 0, _ => rfl
  | 1, _ => rfl
  | i + 2, h => exact absurd h (by omega)
theorem xw_0 (f : Nat → xC) (a : Nat) (σ : xS) (j : Nat) (v : Int32) : xu (xput f a σ) (a + 1) (aI 1 120 (upd (σ 0) j v)) = xput f a (up2 σ 0 j v) := by
  refine (bput_xu (i := 1) (by decide)).trans (bput_congr fun i hi => ?_)
  match i, hi with
  | 0, _ => rfl
  | 1, _ => rfl
  | i + 2, h => exact absurd h (by omega)
def qcell (a : Nat) (x : Nat) (e : Nat) (σ : xS) (i : Nat) : xC := match i with
  | 0 => ob 3 [.ref x, .ref e, .ref (a + 1), .ref (a + 2), .int (σ 2 0), .int (σ 3 0)]
  | 1 => aI 0 6 (σ 0)
  | _ => aI 0 6 (σ 1)
def qat (f : Nat → xC) (a : Nat) (x : Nat) (e : Nat) (σ : xS) : Prop := bat f a 3 (qcell a x e σ)
def qput (f : Nat → xC) (a : Nat) (x : Nat) (e : Nat) (σ : xS) : Nat → xC := bput f a 3 (qcell a x e σ)
theorem qat_r {f : Nat → xC} {a x e i : Nat} {σ : xS} (h : qat f a x e σ) (hi : i < 3) : f (a + i) = qcell a x e σ i := h i hi
theorem qat_0 {f : Nat → xC} {a x e : Nat} {σ : xS} (h : qat f a x e σ) : f a = ob 3 [.ref x, .ref e, .ref (a + 1), .ref (a + 2), .int (σ 2 0), .int (σ 3 0)] := h 0 (by decide)
theorem qput_at (f : Nat → xC) (a : Nat) (x : Nat) (e : Nat) (σ : xS) : qat (qput f a x e σ) a x e σ := bat_put _ _ _ _
theorem qat_put {f : Nat → xC} {a x e : Nat} {σ : xS} (h : qat f a x e σ) : qput f a x e σ = f := bput_self h
theorem qw_2 (f : Nat → xC) (a : Nat) (x : Nat) (e : Nat) (σ : xS) (v : Int32) : xu (qput f a x e σ) a (ob 3 [.ref x, .ref e, .ref (a + 1), .ref (a + 2), .int (v), .int (σ 3 0)]) = qput f a x e (up2 σ 2 0 v) := by
  refine (bput_xu (i := 0) (by decide)).trans (bput_congr fun i hi => ?_)
  match i, hi with
  | 0, _ => rfl
  | 1, _ => rfl
  | 2, _ => rfl
  | i + 3, h => exact absurd h (by omega)
theorem qw_3 (f : Nat → xC) (a : Nat) (x : Nat) (e : Nat) (σ : xS) (v : Int32) : xu (qput f a x e σ) a (ob 3 [.ref x, .ref e, .ref (a + 1), .ref (a + 2), .int (σ 2 0), .int (v)]) = qput f a x e (up2 σ 3 0 v) := by
  refine (bput_xu (i := 0) (by decide)).trans (bput_congr fun i hi => ?_)
  match i, hi with
  | 0, _ => rfl
  | 1, _ => rfl
  | 2, _ => rfl
  | i + 3, h => exact absurd h (by omega)
theorem qw_0 (f : Nat → xC) (a : Nat) (x : Nat) (e : Nat) (σ : xS) (j : Nat) (v : Int32) : xu (qput f a x e σ) (a + 1) (aI 0 6 (upd (σ 0) j v)) = qput f a x e (up2 σ 0 j v) := by
  refine (bput_xu (i := 1) (by decide)).trans (bput_congr fun i hi => ?_)
  match i, hi with
  | 0, _ => rfl
  | 1, _ => rfl
  | 2, _ => rfl
  | i + 3, h => exact absurd h (by omega)
theorem qw_1 (f : Nat → xC) (a : Nat) (x : Nat) (e : Nat) (σ : xS) (j : Nat) (v : Int32) : xu (qput f a x e σ) (a + 2) (aI 0 6 (upd (σ 1) j v)) = qput f a x e (up2 σ 1 j v) := by
  refine (bput_xu (i := 2) (by decide)).trans (bput_congr fun i hi => ?_)
  match i, hi with
  | 0, _ => rfl
  | 1, _ => rfl
  | 2, _ => rfl
  | i + 3, h => exact absurd h (by omega)
