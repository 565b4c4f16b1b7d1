set_option maxHeartbeats 400000 in
theorem r_11_hole (cy : Nat → ClassId) (tE : Nat) (S : KS) (n l d s x : Int32) (post : Int32 → KS → Prop) (hH : HQ cy S) (hs : SQ S) (k : ∀ r S', KQs S S' → SQ S' → post r S') : w_X11_hole cy tE S n l d s x post := by
  have no := k (-1) S (KF_rf S) hs
  unfold w_X11_hole w_X11_hole_B22 w_X11_hole_B47 w_X11_hole_B152 w_X11_hole_B121 w_X11_hole_B98
  refine r_11_isNever _ _ _ _ _ hH (fun _ _ => ⟨fun _ => no, fun _ => r_11_areLaws _ _ _ _ _ (fun _ _ _ => ⟨fun _ => no, fun _ => r_11_isDepth _ _ _ _ _ (fun _ _ _ => ⟨fun _ => ⟨fun _ => no, fun _ => ⟨fun _ => no, fun _ => r_11_isWithin _ _ _ _ _ _ (fun _ _ _ => ⟨fun _ => ?_, fun _ => no⟩)⟩⟩, fun _ => no⟩)⟩)⟩)
  refine r_8_begin cy tE S _ _ _ _ _ hH hs (fun T hT hsT => r_8_first cy tE T _ _ (HQ_kf hH hT) hsT (fun r U hU hsU => ?_))
  have hy : ∀ v, post v U := fun v => k _ _ (KF_tr hT hU) hsU
  exact ⟨fun _ => ⟨fun _ => ⟨fun _ => r_8_code cy tE U _ _ _ hsU.1.2 (fun _ => hy _), fun _ => r_8_acts cy tE U _ _ hsU.1.2 (fun _ => hy _)⟩, fun _ => ⟨fun _ => hy _, fun _ => hy _⟩⟩, fun _ => ⟨fun _ => hy _, fun _ => hy _⟩⟩
