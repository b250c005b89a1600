/-! the reference: its cells from m on, by a state μ -/
def mcell (m : Nat) (μ : xS) (i : Nat) : xC := match i with
  | 0 => ob 8 [.ref (m + 1), .ref (m + 2), .int (μ 2 0), .ref (m + 3), .int (μ 4 0), .ref (m + 4), .int (μ 6 0), .ref (m + 5), .ref (m + 6), .ref (m + 7), .ref (m + 8), .ref (m + 9), .ref (m + 10), .ref (m + 11), .ref (m + 12), .ref (m + 13), .ref (m + 14), .ref (m + 15), .ref (m + 16), .ref (m + 17)]
  | 1 => aI 0 842 (μ 0)
  | 2 => aI 0 4210 (μ 1)
  | 3 => aI 0 120 (μ 3)
  | 4 => aI 0 421 (μ 5)
  | 5 => aI 0 5 (μ 7)
  | 6 => aI 0 5 (μ 8)
  | 7 => aI 0 12 (μ 9)
  | 8 => aI 0 80 (μ 10)
  | 9 => aI 0 80 (μ 11)
  | 10 => aI 0 480 (μ 12)
  | 11 => aI 0 12 (μ 13)
  | 12 => aI 0 6 (μ 14)
  | 13 => aI 0 6 (μ 15)
  | 14 => aI 0 6 (μ 16)
  | 15 => aI 0 640 (μ 17)
  | 16 => aI 0 16 (μ 18)
  | _ => aI 0 16 (μ 19)
def mput (f : Nat → xC) (m : Nat) (μ : xS) : Nat → xC := bput f m 18 (mcell m μ)
theorem mput_0 (f : Nat → xC) (m : Nat) (μ : xS) : mput f m μ m = ob 8 [.ref (m + 1), .ref (m + 2), .int (μ 2 0), .ref (m + 3), .int (μ 4 0), .ref (m + 4), .int (μ 6 0), .ref (m + 5), .ref (m + 6), .ref (m + 7), .ref (m + 8), .ref (m + 9), .ref (m + 10), .ref (m + 11), .ref (m + 12), .ref (m + 13), .ref (m + 14), .ref (m + 15), .ref (m + 16), .ref (m + 17)] := bput_in (i := 0) (by decide)
theorem mput_r {f : Nat → xC} {m i : Nat} {μ : xS} (h : i < 18) : mput f m μ (m + i) = mcell m μ i := bput_in h
theorem mw_0 (f : Nat → xC) (m : Nat) (μ : xS) (j : Nat) (v : Int32) : xu (mput f m μ) (m + 1) (aI 0 842 (upd (μ 0) j v)) = mput f m (up2 μ 0 j v) := by
  refine (bput_xu (i := 1) (by decide)).trans (bput_congr fun i hi => ?_)
  match i, hi with
  | 0, _ => rfl
  | 1, _ => rfl
  | 2, _ => rfl
  | 3, _ => rfl
  | 4, _ => rfl
  | 5, _ => rfl
  | 6, _ => rfl
  | 7, _ => rfl
  | 8, _ => rfl
  | 9, _ => rfl
  | 10, _ => rfl
  | 11, _ => rfl
  | 12, _ => rfl
  | 13, _ => rfl
  | 14, _ => rfl
  | 15, _ => rfl
  | 16, _ => rfl
  | 17, _ => rfl
  | i + 18, h => exact absurd h (by omega)
theorem mw_1 (f : Nat → xC) (m : Nat) (μ : xS) (j : Nat) (v : Int32) : xu (mput f m μ) (m + 2) (aI 0 4210 (upd (μ 1) j v)) = mput f m (up2 μ 1 j v) := by
  refine (bput_xu (i := 2) (by decide)).trans (bput_congr fun i hi => ?_)
  match i, hi with
  | 0, _ => rfl
  | 1, _ => rfl
  | 2, _ => rfl
  | 3, _ => rfl
  | 4, _ => rfl
  | 5, _ => rfl
  | 6, _ => rfl
  | 7, _ => rfl
  | 8, _ => rfl
  | 9, _ => rfl
  | 10, _ => rfl
  | 11, _ => rfl
  | 12, _ => rfl
  | 13, _ => rfl
  | 14, _ => rfl
  | 15, _ => rfl
  | 16, _ => rfl
  | 17, _ => rfl
  | i + 18, h => exact absurd h (by omega)
theorem mw_3 (f : Nat → xC) (m : Nat) (μ : xS) (j : Nat) (v : Int32) : xu (mput f m μ) (m + 3) (aI 0 120 (upd (μ 3) j v)) = mput f m (up2 μ 3 j v) := by
  refine (bput_xu (i := 3) (by decide)).trans (bput_congr fun i hi => ?_)
  match i, hi with
  | 0, _ => rfl
  | 1, _ => rfl
  | 2, _ => rfl
  | 3, _ => rfl
  | 4, _ => rfl
  | 5, _ => rfl
  | 6, _ => rfl
  | 7, _ => rfl
  | 8, _ => rfl
  | 9, _ => rfl
  | 10, _ => rfl
  | 11, _ => rfl
  | 12, _ => rfl
  | 13, _ => rfl
  | 14, _ => rfl
  | 15, _ => rfl
  | 16, _ => rfl
  | 17, _ => rfl
  | i + 18, h => exact absurd h (by omega)
theorem mw_5 (f : Nat → xC) (m : Nat) (μ : xS) (j : Nat) (v : Int32) : xu (mput f m μ) (m + 4) (aI 0 421 (upd (μ 5) j v)) = mput f m (up2 μ 5 j v) := by
  refine (bput_xu (i := 4) (by decide)).trans (bput_congr fun i hi => ?_)
  match i, hi with
  | 0, _ => rfl
  | 1, _ => rfl
  | 2, _ => rfl
  | 3, _ => rfl
  | 4, _ => rfl
  | 5, _ => rfl
  | 6, _ => rfl
  | 7, _ => rfl
  | 8, _ => rfl
  | 9, _ => rfl
  | 10, _ => rfl
  | 11, _ => rfl
  | 12, _ => rfl
  | 13, _ => rfl
  | 14, _ => rfl
  | 15, _ => rfl
  | 16, _ => rfl
  | 17, _ => rfl
  | i + 18, h => exact absurd h (by omega)
theorem mw_7 (f : Nat → xC) (m : Nat) (μ : xS) (j : Nat) (v : Int32) : xu (mput f m μ) (m + 5) (aI 0 5 (upd (μ 7) j v)) = mput f m (up2 μ 7 j v) := by
  refine (bput_xu (i := 5) (by decide)).trans (bput_congr fun i hi => ?_)
  match i, hi with
  | 0, _ => rfl
  | 1, _ => rfl
  | 2, _ => rfl
  | 3, _ => rfl
  | 4, _ => rfl
  | 5, _ => rfl
  | 6, _ => rfl
  | 7, _ => rfl
  | 8, _ => rfl
  | 9, _ => rfl
  | 10, _ => rfl
  | 11, _ => rfl
  | 12, _ => rfl
  | 13, _ => rfl
  | 14, _ => rfl
  | 15, _ => rfl
  | 16, _ => rfl
  | 17, _ => rfl
  | i + 18, h => exact absurd h (by omega)
theorem mw_8 (f : Nat → xC) (m : Nat) (μ : xS) (j : Nat) (v : Int32) : xu (mput f m μ) (m + 6) (aI 0 5 (upd (μ 8) j v)) = mput f m (up2 μ 8 j v) := by
  refine (bput_xu (i := 6) (by decide)).trans (bput_congr fun i hi => ?_)
  match i, hi with
  | 0, _ => rfl
  | 1, _ => rfl
  | 2, _ => rfl
  | 3, _ => rfl
  | 4, _ => rfl
  | 5, _ => rfl
  | 6, _ => rfl
  | 7, _ => rfl
  | 8, _ => rfl
  | 9, _ => rfl
  | 10, _ => rfl
  | 11, _ => rfl
  | 12, _ => rfl
  | 13, _ => rfl
  | 14, _ => rfl
  | 15, _ => rfl
  | 16, _ => rfl
  | 17, _ => rfl
  | i + 18, h => exact absurd h (by omega)
theorem mw_9 (f : Nat → xC) (m : Nat) (μ : xS) (j : Nat) (v : Int32) : xu (mput f m μ) (m + 7) (aI 0 12 (upd (μ 9) j v)) = mput f m (up2 μ 9 j v) := by
  refine (bput_xu (i := 7) (by decide)).trans (bput_congr fun i hi => ?_)
  match i, hi with
  | 0, _ => rfl
  | 1, _ => rfl
  | 2, _ => rfl
  | 3, _ => rfl
  | 4, _ => rfl
  | 5, _ => rfl
  | 6, _ => rfl
  | 7, _ => rfl
  | 8, _ => rfl
  | 9, _ => rfl
  | 10, _ => rfl
  | 11, _ => rfl
  | 12, _ => rfl
  | 13, _ => rfl
  | 14, _ => rfl
  | 15, _ => rfl
  | 16, _ => rfl
  | 17, _ => rfl
  | i + 18, h => exact absurd h (by omega)
theorem mw_10 (f : Nat → xC) (m : Nat) (μ : xS) (j : Nat) (v : Int32) : xu (mput f m μ) (m + 8) (aI 0 80 (upd (μ 10) j v)) = mput f m (up2 μ 10 j v) := by
  refine (bput_xu (i := 8) (by decide)).trans (bput_congr fun i hi => ?_)
  match i, hi with
  | 0, _ => rfl
  | 1, _ => rfl
  | 2, _ => rfl
  | 3, _ => rfl
  | 4, _ => rfl
  | 5, _ => rfl
  | 6, _ => rfl
  | 7, _ => rfl
  | 8, _ => rfl
  | 9, _ => rfl
  | 10, _ => rfl
  | 11, _ => rfl
  | 12, _ => rfl
  | 13, _ => rfl
  | 14, _ => rfl
  | 15, _ => rfl
  | 16, _ => rfl
  | 17, _ => rfl
  | i + 18, h => exact absurd h (by omega)
theorem mw_11 (f : Nat → xC) (m : Nat) (μ : xS) (j : Nat) (v : Int32) : xu (mput f m μ) (m + 9) (aI 0 80 (upd (μ 11) j v)) = mput f m (up2 μ 11 j v) := by
  refine (bput_xu (i := 9) (by decide)).trans (bput_congr fun i hi => ?_)
  match i, hi with
  | 0, _ => rfl
  | 1, _ => rfl
  | 2, _ => rfl
  | 3, _ => rfl
  | 4, _ => rfl
  | 5, _ => rfl
  | 6, _ => rfl
  | 7, _ => rfl
  | 8, _ => rfl
  | 9, _ => rfl
  | 10, _ => rfl
  | 11, _ => rfl
  | 12, _ => rfl
  | 13, _ => rfl
  | 14, _ => rfl
  | 15, _ => rfl
  | 16, _ => rfl
  | 17, _ => rfl
  | i + 18, h => exact absurd h (by omega)
theorem mw_12 (f : Nat → xC) (m : Nat) (μ : xS) (j : Nat) (v : Int32) : xu (mput f m μ) (m + 10) (aI 0 480 (upd (μ 12) j v)) = mput f m (up2 μ 12 j v) := by
  refine (bput_xu (i := 10) (by decide)).trans (bput_congr fun i hi => ?_)
  match i, hi with
  | 0, _ => rfl
  | 1, _ => rfl
  | 2, _ => rfl
  | 3, _ => rfl
  | 4, _ => rfl
  | 5, _ => rfl
  | 6, _ => rfl
  | 7, _ => rfl
  | 8, _ => rfl
  | 9, _ => rfl
  | 10, _ => rfl
  | 11, _ => rfl
  | 12, _ => rfl
  | 13, _ => rfl
  | 14, _ => rfl
  | 15, _ => rfl
  | 16, _ => rfl
  | 17, _ => rfl
  | i + 18, h => exact absurd h (by omega)
theorem mw_13 (f : Nat → xC) (m : Nat) (μ : xS) (j : Nat) (v : Int32) : xu (mput f m μ) (m + 11) (aI 0 12 (upd (μ 13) j v)) = mput f m (up2 μ 13 j v) := by
  refine (bput_xu (i := 11) (by decide)).trans (bput_congr fun i hi => ?_)
  match i, hi with
  | 0, _ => rfl
  | 1, _ => rfl
  | 2, _ => rfl
  | 3, _ => rfl
  | 4, _ => rfl
  | 5, _ => rfl
  | 6, _ => rfl
  | 7, _ => rfl
  | 8, _ => rfl
  | 9, _ => rfl
  | 10, _ => rfl
  | 11, _ => rfl
  | 12, _ => rfl
  | 13, _ => rfl
  | 14, _ => rfl
  | 15, _ => rfl
  | 16, _ => rfl
  | 17, _ => rfl
  | i + 18, h => exact absurd h (by omega)
theorem mw_14 (f : Nat → xC) (m : Nat) (μ : xS) (j : Nat) (v : Int32) : xu (mput f m μ) (m + 12) (aI 0 6 (upd (μ 14) j v)) = mput f m (up2 μ 14 j v) := by
  refine (bput_xu (i := 12) (by decide)).trans (bput_congr fun i hi => ?_)
  match i, hi with
  | 0, _ => rfl
  | 1, _ => rfl
  | 2, _ => rfl
  | 3, _ => rfl
  | 4, _ => rfl
  | 5, _ => rfl
  | 6, _ => rfl
  | 7, _ => rfl
  | 8, _ => rfl
  | 9, _ => rfl
  | 10, _ => rfl
  | 11, _ => rfl
  | 12, _ => rfl
  | 13, _ => rfl
  | 14, _ => rfl
  | 15, _ => rfl
  | 16, _ => rfl
  | 17, _ => rfl
  | i + 18, h => exact absurd h (by omega)
theorem mw_15 (f : Nat → xC) (m : Nat) (μ : xS) (j : Nat) (v : Int32) : xu (mput f m μ) (m + 13) (aI 0 6 (upd (μ 15) j v)) = mput f m (up2 μ 15 j v) := by
  refine (bput_xu (i := 13) (by decide)).trans (bput_congr fun i hi => ?_)
  match i, hi with
  | 0, _ => rfl
  | 1, _ => rfl
  | 2, _ => rfl
  | 3, _ => rfl
  | 4, _ => rfl
  | 5, _ => rfl
  | 6, _ => rfl
  | 7, _ => rfl
  | 8, _ => rfl
  | 9, _ => rfl
  | 10, _ => rfl
  | 11, _ => rfl
  | 12, _ => rfl
  | 13, _ => rfl
  | 14, _ => rfl
  | 15, _ => rfl
  | 16, _ => rfl
  | 17, _ => rfl
  | i + 18, h => exact absurd h (by omega)
theorem mw_16 (f : Nat → xC) (m : Nat) (μ : xS) (j : Nat) (v : Int32) : xu (mput f m μ) (m + 14) (aI 0 6 (upd (μ 16) j v)) = mput f m (up2 μ 16 j v) := by
  refine (bput_xu (i := 14) (by decide)).trans (bput_congr fun i hi => ?_)
  match i, hi with
  | 0, _ => rfl
  | 1, _ => rfl
  | 2, _ => rfl
  | 3, _ => rfl
  | 4, _ => rfl
  | 5, _ => rfl
  | 6, _ => rfl
  | 7, _ => rfl
  | 8, _ => rfl
  | 9, _ => rfl
  | 10, _ => rfl
  | 11, _ => rfl
  | 12, _ => rfl
  | 13, _ => rfl
  | 14, _ => rfl
  | 15, _ => rfl
  | 16, _ => rfl
  | 17, _ => rfl
  | i + 18, h => exact absurd h (by omega)
theorem mw_17 (f : Nat → xC) (m : Nat) (μ : xS) (j : Nat) (v : Int32) : xu (mput f m μ) (m + 15) (aI 0 640 (upd (μ 17) j v)) = mput f m (up2 μ 17 j v) := by
  refine (bput_xu (i := 15) (by decide)).trans (bput_congr fun i hi => ?_)
  match i, hi with
  | 0, _ => rfl
  | 1, _ => rfl
  | 2, _ => rfl
  | 3, _ => rfl
  | 4, _ => rfl
  | 5, _ => rfl
  | 6, _ => rfl
  | 7, _ => rfl
  | 8, _ => rfl
  | 9, _ => rfl
  | 10, _ => rfl
  | 11, _ => rfl
  | 12, _ => rfl
  | 13, _ => rfl
  | 14, _ => rfl
  | 15, _ => rfl
  | 16, _ => rfl
  | 17, _ => rfl
  | i + 18, h => exact absurd h (by omega)
theorem mw_18 (f : Nat → xC) (m : Nat) (μ : xS) (j : Nat) (v : Int32) : xu (mput f m μ) (m + 16) (aI 0 16 (upd (μ 18) j v)) = mput f m (up2 μ 18 j v) := by
  refine (bput_xu (i := 16) (by decide)).trans (bput_congr fun i hi => ?_)
  match i, hi with
  | 0, _ => rfl
  | 1, _ => rfl
  | 2, _ => rfl
  | 3, _ => rfl
  | 4, _ => rfl
  | 5, _ => rfl
  | 6, _ => rfl
  | 7, _ => rfl
  | 8, _ => rfl
  | 9, _ => rfl
  | 10, _ => rfl
  | 11, _ => rfl
  | 12, _ => rfl
  | 13, _ => rfl
  | 14, _ => rfl
  | 15, _ => rfl
  | 16, _ => rfl
  | 17, _ => rfl
  | i + 18, h => exact absurd h (by omega)
theorem mw_19 (f : Nat → xC) (m : Nat) (μ : xS) (j : Nat) (v : Int32) : xu (mput f m μ) (m + 17) (aI 0 16 (upd (μ 19) j v)) = mput f m (up2 μ 19 j v) := by
  refine (bput_xu (i := 17) (by decide)).trans (bput_congr fun i hi => ?_)
  match i, hi with
  | 0, _ => rfl
  | 1, _ => rfl
  | 2, _ => rfl
  | 3, _ => rfl
  | 4, _ => rfl
  | 5, _ => rfl
  | 6, _ => rfl
  | 7, _ => rfl
  | 8, _ => rfl
  | 9, _ => rfl
  | 10, _ => rfl
  | 11, _ => rfl
  | 12, _ => rfl
  | 13, _ => rfl
  | 14, _ => rfl
  | 15, _ => rfl
  | 16, _ => rfl
  | 17, _ => rfl
  | i + 18, h => exact absurd h (by omega)
theorem mw_2 (f : Nat → xC) (m : Nat) (μ : xS) (v : Int32) : xu (mput f m μ) m (ob 8 [.ref (m + 1), .ref (m + 2), .int (v), .ref (m + 3), .int (μ 4 0), .ref (m + 4), .int (μ 6 0), .ref (m + 5), .ref (m + 6), .ref (m + 7), .ref (m + 8), .ref (m + 9), .ref (m + 10), .ref (m + 11), .ref (m + 12), .ref (m + 13), .ref (m + 14), .ref (m + 15), .ref (m + 16), .ref (m + 17)]) = mput f m (up2 μ 2 0 v) := by
  refine (bput_xu (i := 0) (by decide)).trans (bput_congr fun i hi => ?_)
  match i, hi with
  | 0, _ => rfl
  | 1, _ => rfl
  | 2, _ => rfl
  | 3, _ => rfl
  | 4, _ => rfl
  | 5, _ => rfl
  | 6, _ => rfl
  | 7, _ => rfl
  | 8, _ => rfl
  | 9, _ => rfl
  | 10, _ => rfl
  | 11, _ => rfl
  | 12, _ => rfl
  | 13, _ => rfl
  | 14, _ => rfl
  | 15, _ => rfl
  | 16, _ => rfl
  | 17, _ => rfl
  | i + 18, h => exact absurd h (by omega)
theorem mw_4 (f : Nat → xC) (m : Nat) (μ : xS) (v : Int32) : xu (mput f m μ) m (ob 8 [.ref (m + 1), .ref (m + 2), .int (μ 2 0), .ref (m + 3), .int (v), .ref (m + 4), .int (μ 6 0), .ref (m + 5), .ref (m + 6), .ref (m + 7), .ref (m + 8), .ref (m + 9), .ref (m + 10), .ref (m + 11), .ref (m + 12), .ref (m + 13), .ref (m + 14), .ref (m + 15), .ref (m + 16), .ref (m + 17)]) = mput f m (up2 μ 4 0 v) := by
  refine (bput_xu (i := 0) (by decide)).trans (bput_congr fun i hi => ?_)
  match i, hi with
  | 0, _ => rfl
  | 1, _ => rfl
  | 2, _ => rfl
  | 3, _ => rfl
  | 4, _ => rfl
  | 5, _ => rfl
  | 6, _ => rfl
  | 7, _ => rfl
  | 8, _ => rfl
  | 9, _ => rfl
  | 10, _ => rfl
  | 11, _ => rfl
  | 12, _ => rfl
  | 13, _ => rfl
  | 14, _ => rfl
  | 15, _ => rfl
  | 16, _ => rfl
  | 17, _ => rfl
  | i + 18, h => exact absurd h (by omega)
theorem mw_6 (f : Nat → xC) (m : Nat) (μ : xS) (v : Int32) : xu (mput f m μ) m (ob 8 [.ref (m + 1), .ref (m + 2), .int (μ 2 0), .ref (m + 3), .int (μ 4 0), .ref (m + 4), .int (v), .ref (m + 5), .ref (m + 6), .ref (m + 7), .ref (m + 8), .ref (m + 9), .ref (m + 10), .ref (m + 11), .ref (m + 12), .ref (m + 13), .ref (m + 14), .ref (m + 15), .ref (m + 16), .ref (m + 17)]) = mput f m (up2 μ 6 0 v) := by
  refine (bput_xu (i := 0) (by decide)).trans (bput_congr fun i hi => ?_)
  match i, hi with
  | 0, _ => rfl
  | 1, _ => rfl
  | 2, _ => rfl
  | 3, _ => rfl
  | 4, _ => rfl
  | 5, _ => rfl
  | 6, _ => rfl
  | 7, _ => rfl
  | 8, _ => rfl
  | 9, _ => rfl
  | 10, _ => rfl
  | 11, _ => rfl
  | 12, _ => rfl
  | 13, _ => rfl
  | 14, _ => rfl
  | 15, _ => rfl
  | 16, _ => rfl
  | 17, _ => rfl
  | i + 18, h => exact absurd h (by omega)
