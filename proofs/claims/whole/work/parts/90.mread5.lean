section GROW
variable {h : ssH} {ad : Nat → Nat} {sv : Value} {m : Nat → Int} {B : Nat → Int} {n : Nat} {ζ : zT} {u : pR Nat}
theorem MRd.r12 (hA : ∀ k l, ad k = ad l → k = l) (hm : MRd h ad sv m B n ζ u) (c v : Nat) : MRd (hset h (Sf ad 230 12) (ar 6 (fun j => if j = c then v else ζ 12 j))) ad sv m B n (zU ζ 12 c v) u := by
  obtain ⟨w1, w2, w3, w4, w5⟩ := hm
  have er : zU ζ 12 c v 12 = fun j => if j = c then v else ζ 12 j := by funext j; simp [zU]
  exact ⟨(hset_ne _ _ (ad_ne hA (by decide))).trans w1, (hset_ne _ _ (ad_ne hA (by decide))).trans w2, ⟨⟨(hset_ne _ _ (ad_ne hA (by decide))).trans w3.1.1, er ▸ hset_self _ _ _, (hset_ne _ _ (ad_ne hA (by decide))).trans w3.1.2.2.1, (hset_ne _ _ (ad_ne hA (by decide))).trans w3.1.2.2.2.1, (hset_ne _ _ (ad_ne hA (by decide))).trans w3.1.2.2.2.2.1, (hset_ne _ _ (ad_ne hA (by decide))).trans w3.1.2.2.2.2.2.1, (hset_ne _ _ (ad_ne hA (by decide))).trans w3.1.2.2.2.2.2.2.1, (hset_ne _ _ (ad_ne hA (by decide))).trans w3.1.2.2.2.2.2.2.2.1, (hset_ne _ _ (ad_ne hA (by decide))).trans w3.1.2.2.2.2.2.2.2.2.1, (hset_ne _ _ (ad_ne hA (by decide))).trans w3.1.2.2.2.2.2.2.2.2.2⟩, (hset_ne _ _ (ad_ne hA (by decide))).trans w3.2.1, (hset_ne _ _ (ad_ne hA (by decide))).trans w3.2.2.1, (hset_ne _ _ (ad_ne hA (by decide))).trans w3.2.2.2⟩, w4, w5⟩
theorem MRd.r13 (hA : ∀ k l, ad k = ad l → k = l) (hm : MRd h ad sv m B n ζ u) (c v : Nat) : MRd (hset h (Sf ad 230 13) (ar 6 (fun j => if j = c then v else ζ 13 j))) ad sv m B n (zU ζ 13 c v) u := by
  obtain ⟨w1, w2, w3, w4, w5⟩ := hm
  have er : zU ζ 13 c v 13 = fun j => if j = c then v else ζ 13 j := by funext j; simp [zU]
  exact ⟨(hset_ne _ _ (ad_ne hA (by decide))).trans w1, (hset_ne _ _ (ad_ne hA (by decide))).trans w2, ⟨⟨(hset_ne _ _ (ad_ne hA (by decide))).trans w3.1.1, (hset_ne _ _ (ad_ne hA (by decide))).trans w3.1.2.1, er ▸ hset_self _ _ _, (hset_ne _ _ (ad_ne hA (by decide))).trans w3.1.2.2.2.1, (hset_ne _ _ (ad_ne hA (by decide))).trans w3.1.2.2.2.2.1, (hset_ne _ _ (ad_ne hA (by decide))).trans w3.1.2.2.2.2.2.1, (hset_ne _ _ (ad_ne hA (by decide))).trans w3.1.2.2.2.2.2.2.1, (hset_ne _ _ (ad_ne hA (by decide))).trans w3.1.2.2.2.2.2.2.2.1, (hset_ne _ _ (ad_ne hA (by decide))).trans w3.1.2.2.2.2.2.2.2.2.1, (hset_ne _ _ (ad_ne hA (by decide))).trans w3.1.2.2.2.2.2.2.2.2.2⟩, (hset_ne _ _ (ad_ne hA (by decide))).trans w3.2.1, (hset_ne _ _ (ad_ne hA (by decide))).trans w3.2.2.1, (hset_ne _ _ (ad_ne hA (by decide))).trans w3.2.2.2⟩, w4, w5⟩
theorem MRd.r14 (hA : ∀ k l, ad k = ad l → k = l) (hm : MRd h ad sv m B n ζ u) (c v : Nat) : MRd (hset h (Sf ad 230 14) (ar 6 (fun j => if j = c then v else ζ 14 j))) ad sv m B n (zU ζ 14 c v) u := by
  obtain ⟨w1, w2, w3, w4, w5⟩ := hm
  have er : zU ζ 14 c v 14 = fun j => if j = c then v else ζ 14 j := by funext j; simp [zU]
  exact ⟨(hset_ne _ _ (ad_ne hA (by decide))).trans w1, (hset_ne _ _ (ad_ne hA (by decide))).trans w2, ⟨⟨(hset_ne _ _ (ad_ne hA (by decide))).trans w3.1.1, (hset_ne _ _ (ad_ne hA (by decide))).trans w3.1.2.1, (hset_ne _ _ (ad_ne hA (by decide))).trans w3.1.2.2.1, er ▸ hset_self _ _ _, (hset_ne _ _ (ad_ne hA (by decide))).trans w3.1.2.2.2.2.1, (hset_ne _ _ (ad_ne hA (by decide))).trans w3.1.2.2.2.2.2.1, (hset_ne _ _ (ad_ne hA (by decide))).trans w3.1.2.2.2.2.2.2.1, (hset_ne _ _ (ad_ne hA (by decide))).trans w3.1.2.2.2.2.2.2.2.1, (hset_ne _ _ (ad_ne hA (by decide))).trans w3.1.2.2.2.2.2.2.2.2.1, (hset_ne _ _ (ad_ne hA (by decide))).trans w3.1.2.2.2.2.2.2.2.2.2⟩, (hset_ne _ _ (ad_ne hA (by decide))).trans w3.2.1, (hset_ne _ _ (ad_ne hA (by decide))).trans w3.2.2.1, (hset_ne _ _ (ad_ne hA (by decide))).trans w3.2.2.2⟩, w4, w5⟩
theorem MRd.r15 (hA : ∀ k l, ad k = ad l → k = l) (hm : MRd h ad sv m B n ζ u) (c v : Nat) : MRd (hset h (Sf ad 230 15) (ar 6 (fun j => if j = c then v else ζ 15 j))) ad sv m B n (zU ζ 15 c v) u := by
  obtain ⟨w1, w2, w3, w4, w5⟩ := hm
  have er : zU ζ 15 c v 15 = fun j => if j = c then v else ζ 15 j := by funext j; simp [zU]
  exact ⟨(hset_ne _ _ (ad_ne hA (by decide))).trans w1, (hset_ne _ _ (ad_ne hA (by decide))).trans w2, ⟨⟨(hset_ne _ _ (ad_ne hA (by decide))).trans w3.1.1, (hset_ne _ _ (ad_ne hA (by decide))).trans w3.1.2.1, (hset_ne _ _ (ad_ne hA (by decide))).trans w3.1.2.2.1, (hset_ne _ _ (ad_ne hA (by decide))).trans w3.1.2.2.2.1, er ▸ hset_self _ _ _, (hset_ne _ _ (ad_ne hA (by decide))).trans w3.1.2.2.2.2.2.1, (hset_ne _ _ (ad_ne hA (by decide))).trans w3.1.2.2.2.2.2.2.1, (hset_ne _ _ (ad_ne hA (by decide))).trans w3.1.2.2.2.2.2.2.2.1, (hset_ne _ _ (ad_ne hA (by decide))).trans w3.1.2.2.2.2.2.2.2.2.1, (hset_ne _ _ (ad_ne hA (by decide))).trans w3.1.2.2.2.2.2.2.2.2.2⟩, (hset_ne _ _ (ad_ne hA (by decide))).trans w3.2.1, (hset_ne _ _ (ad_ne hA (by decide))).trans w3.2.2.1, (hset_ne _ _ (ad_ne hA (by decide))).trans w3.2.2.2⟩, w4, w5⟩
theorem MRd.r16 (hA : ∀ k l, ad k = ad l → k = l) (hm : MRd h ad sv m B n ζ u) (c v : Nat) : MRd (hset h (Sf ad 230 16) (ar 6 (fun j => if j = c then v else ζ 16 j))) ad sv m B n (zU ζ 16 c v) u := by
  obtain ⟨w1, w2, w3, w4, w5⟩ := hm
  have er : zU ζ 16 c v 16 = fun j => if j = c then v else ζ 16 j := by funext j; simp [zU]
  exact ⟨(hset_ne _ _ (ad_ne hA (by decide))).trans w1, (hset_ne _ _ (ad_ne hA (by decide))).trans w2, ⟨⟨(hset_ne _ _ (ad_ne hA (by decide))).trans w3.1.1, (hset_ne _ _ (ad_ne hA (by decide))).trans w3.1.2.1, (hset_ne _ _ (ad_ne hA (by decide))).trans w3.1.2.2.1, (hset_ne _ _ (ad_ne hA (by decide))).trans w3.1.2.2.2.1, (hset_ne _ _ (ad_ne hA (by decide))).trans w3.1.2.2.2.2.1, er ▸ hset_self _ _ _, (hset_ne _ _ (ad_ne hA (by decide))).trans w3.1.2.2.2.2.2.2.1, (hset_ne _ _ (ad_ne hA (by decide))).trans w3.1.2.2.2.2.2.2.2.1, (hset_ne _ _ (ad_ne hA (by decide))).trans w3.1.2.2.2.2.2.2.2.2.1, (hset_ne _ _ (ad_ne hA (by decide))).trans w3.1.2.2.2.2.2.2.2.2.2⟩, (hset_ne _ _ (ad_ne hA (by decide))).trans w3.2.1, (hset_ne _ _ (ad_ne hA (by decide))).trans w3.2.2.1, (hset_ne _ _ (ad_ne hA (by decide))).trans w3.2.2.2⟩, w4, w5⟩
theorem MRd.r17 (hA : ∀ k l, ad k = ad l → k = l) (hm : MRd h ad sv m B n ζ u) (c v : Nat) : MRd (hset h (Sf ad 230 17) (ar 5 (fun j => if j = c then v else ζ 17 j))) ad sv m B n (zU ζ 17 c v) u := by
  obtain ⟨w1, w2, w3, w4, w5⟩ := hm
  have er : zU ζ 17 c v 17 = fun j => if j = c then v else ζ 17 j := by funext j; simp [zU]
  exact ⟨(hset_ne _ _ (ad_ne hA (by decide))).trans w1, (hset_ne _ _ (ad_ne hA (by decide))).trans w2, ⟨⟨(hset_ne _ _ (ad_ne hA (by decide))).trans w3.1.1, (hset_ne _ _ (ad_ne hA (by decide))).trans w3.1.2.1, (hset_ne _ _ (ad_ne hA (by decide))).trans w3.1.2.2.1, (hset_ne _ _ (ad_ne hA (by decide))).trans w3.1.2.2.2.1, (hset_ne _ _ (ad_ne hA (by decide))).trans w3.1.2.2.2.2.1, (hset_ne _ _ (ad_ne hA (by decide))).trans w3.1.2.2.2.2.2.1, er ▸ hset_self _ _ _, (hset_ne _ _ (ad_ne hA (by decide))).trans w3.1.2.2.2.2.2.2.2.1, (hset_ne _ _ (ad_ne hA (by decide))).trans w3.1.2.2.2.2.2.2.2.2.1, (hset_ne _ _ (ad_ne hA (by decide))).trans w3.1.2.2.2.2.2.2.2.2.2⟩, (hset_ne _ _ (ad_ne hA (by decide))).trans w3.2.1, (hset_ne _ _ (ad_ne hA (by decide))).trans w3.2.2.1, (hset_ne _ _ (ad_ne hA (by decide))).trans w3.2.2.2⟩, w4, w5⟩
theorem MRd.r18 (hA : ∀ k l, ad k = ad l → k = l) (hm : MRd h ad sv m B n ζ u) (c v : Nat) : MRd (hset h (Sf ad 230 18) (ar 5 (fun j => if j = c then v else ζ 18 j))) ad sv m B n (zU ζ 18 c v) u := by
  obtain ⟨w1, w2, w3, w4, w5⟩ := hm
  have er : zU ζ 18 c v 18 = fun j => if j = c then v else ζ 18 j := by funext j; simp [zU]
  exact ⟨(hset_ne _ _ (ad_ne hA (by decide))).trans w1, (hset_ne _ _ (ad_ne hA (by decide))).trans w2, ⟨⟨(hset_ne _ _ (ad_ne hA (by decide))).trans w3.1.1, (hset_ne _ _ (ad_ne hA (by decide))).trans w3.1.2.1, (hset_ne _ _ (ad_ne hA (by decide))).trans w3.1.2.2.1, (hset_ne _ _ (ad_ne hA (by decide))).trans w3.1.2.2.2.1, (hset_ne _ _ (ad_ne hA (by decide))).trans w3.1.2.2.2.2.1, (hset_ne _ _ (ad_ne hA (by decide))).trans w3.1.2.2.2.2.2.1, (hset_ne _ _ (ad_ne hA (by decide))).trans w3.1.2.2.2.2.2.2.1, er ▸ hset_self _ _ _, (hset_ne _ _ (ad_ne hA (by decide))).trans w3.1.2.2.2.2.2.2.2.2.1, (hset_ne _ _ (ad_ne hA (by decide))).trans w3.1.2.2.2.2.2.2.2.2.2⟩, (hset_ne _ _ (ad_ne hA (by decide))).trans w3.2.1, (hset_ne _ _ (ad_ne hA (by decide))).trans w3.2.2.1, (hset_ne _ _ (ad_ne hA (by decide))).trans w3.2.2.2⟩, w4, w5⟩
theorem MRd.r19 (hA : ∀ k l, ad k = ad l → k = l) (hm : MRd h ad sv m B n ζ u) (c v : Nat) : MRd (hset h (Sf ad 230 19) (ar 5 (fun j => if j = c then v else ζ 19 j))) ad sv m B n (zU ζ 19 c v) u := by
  obtain ⟨w1, w2, w3, w4, w5⟩ := hm
  have er : zU ζ 19 c v 19 = fun j => if j = c then v else ζ 19 j := by funext j; simp [zU]
  exact ⟨(hset_ne _ _ (ad_ne hA (by decide))).trans w1, (hset_ne _ _ (ad_ne hA (by decide))).trans w2, ⟨⟨(hset_ne _ _ (ad_ne hA (by decide))).trans w3.1.1, (hset_ne _ _ (ad_ne hA (by decide))).trans w3.1.2.1, (hset_ne _ _ (ad_ne hA (by decide))).trans w3.1.2.2.1, (hset_ne _ _ (ad_ne hA (by decide))).trans w3.1.2.2.2.1, (hset_ne _ _ (ad_ne hA (by decide))).trans w3.1.2.2.2.2.1, (hset_ne _ _ (ad_ne hA (by decide))).trans w3.1.2.2.2.2.2.1, (hset_ne _ _ (ad_ne hA (by decide))).trans w3.1.2.2.2.2.2.2.1, (hset_ne _ _ (ad_ne hA (by decide))).trans w3.1.2.2.2.2.2.2.2.1, er ▸ hset_self _ _ _, (hset_ne _ _ (ad_ne hA (by decide))).trans w3.1.2.2.2.2.2.2.2.2.2⟩, (hset_ne _ _ (ad_ne hA (by decide))).trans w3.2.1, (hset_ne _ _ (ad_ne hA (by decide))).trans w3.2.2.1, (hset_ne _ _ (ad_ne hA (by decide))).trans w3.2.2.2⟩, w4, w5⟩
theorem MRd.r20 (hA : ∀ k l, ad k = ad l → k = l) (hm : MRd h ad sv m B n ζ u) (c v : Nat) : MRd (hset h (Sf ad 230 20) (ar 5 (fun j => if j = c then v else ζ 20 j))) ad sv m B n (zU ζ 20 c v) u := by
  obtain ⟨w1, w2, w3, w4, w5⟩ := hm
  have er : zU ζ 20 c v 20 = fun j => if j = c then v else ζ 20 j := by funext j; simp [zU]
  exact ⟨(hset_ne _ _ (ad_ne hA (by decide))).trans w1, (hset_ne _ _ (ad_ne hA (by decide))).trans w2, ⟨⟨(hset_ne _ _ (ad_ne hA (by decide))).trans w3.1.1, (hset_ne _ _ (ad_ne hA (by decide))).trans w3.1.2.1, (hset_ne _ _ (ad_ne hA (by decide))).trans w3.1.2.2.1, (hset_ne _ _ (ad_ne hA (by decide))).trans w3.1.2.2.2.1, (hset_ne _ _ (ad_ne hA (by decide))).trans w3.1.2.2.2.2.1, (hset_ne _ _ (ad_ne hA (by decide))).trans w3.1.2.2.2.2.2.1, (hset_ne _ _ (ad_ne hA (by decide))).trans w3.1.2.2.2.2.2.2.1, (hset_ne _ _ (ad_ne hA (by decide))).trans w3.1.2.2.2.2.2.2.2.1, (hset_ne _ _ (ad_ne hA (by decide))).trans w3.1.2.2.2.2.2.2.2.2.1, er ▸ hset_self _ _ _⟩, (hset_ne _ _ (ad_ne hA (by decide))).trans w3.2.1, (hset_ne _ _ (ad_ne hA (by decide))).trans w3.2.2.1, (hset_ne _ _ (ad_ne hA (by decide))).trans w3.2.2.2⟩, w4, w5⟩
theorem MRd.r21 (hA : ∀ k l, ad k = ad l → k = l) (hm : MRd h ad sv m B n ζ u) (c v : Nat) : MRd (hset h (Sf ad 230 21) (arL 17 (fun j => if j = c then v else ζ 21 j))) ad sv m B n (zU ζ 21 c v) u := by
  obtain ⟨w1, w2, w3, w4, w5⟩ := hm
  have er : zU ζ 21 c v 21 = fun j => if j = c then v else ζ 21 j := by funext j; simp [zU]
  exact ⟨(hset_ne _ _ (ad_ne hA (by decide))).trans w1, (hset_ne _ _ (ad_ne hA (by decide))).trans w2, ⟨⟨(hset_ne _ _ (ad_ne hA (by decide))).trans w3.1.1, (hset_ne _ _ (ad_ne hA (by decide))).trans w3.1.2.1, (hset_ne _ _ (ad_ne hA (by decide))).trans w3.1.2.2.1, (hset_ne _ _ (ad_ne hA (by decide))).trans w3.1.2.2.2.1, (hset_ne _ _ (ad_ne hA (by decide))).trans w3.1.2.2.2.2.1, (hset_ne _ _ (ad_ne hA (by decide))).trans w3.1.2.2.2.2.2.1, (hset_ne _ _ (ad_ne hA (by decide))).trans w3.1.2.2.2.2.2.2.1, (hset_ne _ _ (ad_ne hA (by decide))).trans w3.1.2.2.2.2.2.2.2.1, (hset_ne _ _ (ad_ne hA (by decide))).trans w3.1.2.2.2.2.2.2.2.2.1, (hset_ne _ _ (ad_ne hA (by decide))).trans w3.1.2.2.2.2.2.2.2.2.2⟩, er ▸ hset_self _ _ _, (hset_ne _ _ (ad_ne hA (by decide))).trans w3.2.2.1, (hset_ne _ _ (ad_ne hA (by decide))).trans w3.2.2.2⟩, w4, w5⟩
theorem MRd.r22 (hA : ∀ k l, ad k = ad l → k = l) (hm : MRd h ad sv m B n ζ u) (c v : Nat) : MRd (hset h (Sf ad 230 22) (ar 17 (fun j => if j = c then v else ζ 22 j))) ad sv m B n (zU ζ 22 c v) u := by
  obtain ⟨w1, w2, w3, w4, w5⟩ := hm
  have er : zU ζ 22 c v 22 = fun j => if j = c then v else ζ 22 j := by funext j; simp [zU]
  exact ⟨(hset_ne _ _ (ad_ne hA (by decide))).trans w1, (hset_ne _ _ (ad_ne hA (by decide))).trans w2, ⟨⟨(hset_ne _ _ (ad_ne hA (by decide))).trans w3.1.1, (hset_ne _ _ (ad_ne hA (by decide))).trans w3.1.2.1, (hset_ne _ _ (ad_ne hA (by decide))).trans w3.1.2.2.1, (hset_ne _ _ (ad_ne hA (by decide))).trans w3.1.2.2.2.1, (hset_ne _ _ (ad_ne hA (by decide))).trans w3.1.2.2.2.2.1, (hset_ne _ _ (ad_ne hA (by decide))).trans w3.1.2.2.2.2.2.1, (hset_ne _ _ (ad_ne hA (by decide))).trans w3.1.2.2.2.2.2.2.1, (hset_ne _ _ (ad_ne hA (by decide))).trans w3.1.2.2.2.2.2.2.2.1, (hset_ne _ _ (ad_ne hA (by decide))).trans w3.1.2.2.2.2.2.2.2.2.1, (hset_ne _ _ (ad_ne hA (by decide))).trans w3.1.2.2.2.2.2.2.2.2.2⟩, (hset_ne _ _ (ad_ne hA (by decide))).trans w3.2.1, er ▸ hset_self _ _ _, (hset_ne _ _ (ad_ne hA (by decide))).trans w3.2.2.2⟩, w4, w5⟩
theorem MRd.r23 (hA : ∀ k l, ad k = ad l → k = l) (hm : MRd h ad sv m B n ζ u) (c v : Nat) : MRd (hset h (Sf ad 230 23) (ar 17 (fun j => if j = c then v else ζ 23 j))) ad sv m B n (zU ζ 23 c v) u := by
  obtain ⟨w1, w2, w3, w4, w5⟩ := hm
  have er : zU ζ 23 c v 23 = fun j => if j = c then v else ζ 23 j := by funext j; simp [zU]
  exact ⟨(hset_ne _ _ (ad_ne hA (by decide))).trans w1, (hset_ne _ _ (ad_ne hA (by decide))).trans w2, ⟨⟨(hset_ne _ _ (ad_ne hA (by decide))).trans w3.1.1, (hset_ne _ _ (ad_ne hA (by decide))).trans w3.1.2.1, (hset_ne _ _ (ad_ne hA (by decide))).trans w3.1.2.2.1, (hset_ne _ _ (ad_ne hA (by decide))).trans w3.1.2.2.2.1, (hset_ne _ _ (ad_ne hA (by decide))).trans w3.1.2.2.2.2.1, (hset_ne _ _ (ad_ne hA (by decide))).trans w3.1.2.2.2.2.2.1, (hset_ne _ _ (ad_ne hA (by decide))).trans w3.1.2.2.2.2.2.2.1, (hset_ne _ _ (ad_ne hA (by decide))).trans w3.1.2.2.2.2.2.2.2.1, (hset_ne _ _ (ad_ne hA (by decide))).trans w3.1.2.2.2.2.2.2.2.2.1, (hset_ne _ _ (ad_ne hA (by decide))).trans w3.1.2.2.2.2.2.2.2.2.2⟩, (hset_ne _ _ (ad_ne hA (by decide))).trans w3.2.1, (hset_ne _ _ (ad_ne hA (by decide))).trans w3.2.2.1, er ▸ hset_self _ _ _⟩, w4, w5⟩
theorem MRd.i (hA : ∀ k l, ad k = ad l → k = l) (hm : MRd h ad sv m B n ζ u) (k v : Nat) (hk : k < 12 ∧ k ≠ 9) : MRd (hset h (ad 230) (.inr (9, (obS ad 230 ζ).set k (.int (zI ↑v))))) ad sv m B n (zU ζ k 0 v) u := by
  obtain ⟨w1, w2, w3, w4, w5⟩ := hm
  have ez : ∀ q, q ≠ k → zU ζ k 0 v q = ζ q := fun q hq => zU_row ζ hq
  refine ⟨(hset_ne _ _ (ad_ne hA (by decide))).trans w1, (hset_ne _ _ (ad_ne hA (by decide))).trans w2, ⟨⟨?_, ?_, ?_, ?_, ?_, ?_, ?_, ?_, ?_, ?_⟩, ?_, ?_, ?_⟩, w4, w5⟩
  · rw [hset_self]
    rcases (show k = 0 ∨ k = 1 ∨ k = 2 ∨ k = 3 ∨ k = 4 ∨ k = 5 ∨ k = 6 ∨ k = 7 ∨ k = 8 ∨ k = 10 ∨ k = 11 by omega) with rfl | rfl | rfl | rfl | rfl | rfl | rfl | rfl | rfl | rfl | rfl <;> rfl
  · rw [ez _ (by omega)]; exact (hset_ne _ _ (ad_ne hA (by decide))).trans w3.1.2.1
  · rw [ez _ (by omega)]; exact (hset_ne _ _ (ad_ne hA (by decide))).trans w3.1.2.2.1
  · rw [ez _ (by omega)]; exact (hset_ne _ _ (ad_ne hA (by decide))).trans w3.1.2.2.2.1
  · rw [ez _ (by omega)]; exact (hset_ne _ _ (ad_ne hA (by decide))).trans w3.1.2.2.2.2.1
  · rw [ez _ (by omega)]; exact (hset_ne _ _ (ad_ne hA (by decide))).trans w3.1.2.2.2.2.2.1
  · rw [ez _ (by omega)]; exact (hset_ne _ _ (ad_ne hA (by decide))).trans w3.1.2.2.2.2.2.2.1
  · rw [ez _ (by omega)]; exact (hset_ne _ _ (ad_ne hA (by decide))).trans w3.1.2.2.2.2.2.2.2.1
  · rw [ez _ (by omega)]; exact (hset_ne _ _ (ad_ne hA (by decide))).trans w3.1.2.2.2.2.2.2.2.2.1
  · rw [ez _ (by omega)]; exact (hset_ne _ _ (ad_ne hA (by decide))).trans w3.1.2.2.2.2.2.2.2.2.2
  · rw [ez _ (by omega)]; exact (hset_ne _ _ (ad_ne hA (by decide))).trans w3.2.1
  · rw [ez _ (by omega)]; exact (hset_ne _ _ (ad_ne hA (by decide))).trans w3.2.2.1
  · rw [ez _ (by omega)]; exact (hset_ne _ _ (ad_ne hA (by decide))).trans w3.2.2.2
theorem MRd.d (hA : ∀ k l, ad k = ad l → k = l) (hm : MRd h ad sv m B n ζ u) (v : Nat) {x : Int} (hx : x = ↑v - 1) : MRd (hset h (ad 230) (.inr (9, (obS ad 230 ζ).set 9 (.int (zI x))))) ad sv m B n (zU ζ 9 0 v) u := by
  obtain ⟨w1, w2, w3, w4, w5⟩ := hm
  subst hx
  exact ⟨(hset_ne _ _ (ad_ne hA (by decide))).trans w1, (hset_ne _ _ (ad_ne hA (by decide))).trans w2, ⟨⟨by rw [hset_self]; rfl, (hset_ne _ _ (ad_ne hA (by decide))).trans w3.1.2.1, (hset_ne _ _ (ad_ne hA (by decide))).trans w3.1.2.2.1, (hset_ne _ _ (ad_ne hA (by decide))).trans w3.1.2.2.2.1, (hset_ne _ _ (ad_ne hA (by decide))).trans w3.1.2.2.2.2.1, (hset_ne _ _ (ad_ne hA (by decide))).trans w3.1.2.2.2.2.2.1, (hset_ne _ _ (ad_ne hA (by decide))).trans w3.1.2.2.2.2.2.2.1, (hset_ne _ _ (ad_ne hA (by decide))).trans w3.1.2.2.2.2.2.2.2.1, (hset_ne _ _ (ad_ne hA (by decide))).trans w3.1.2.2.2.2.2.2.2.2.1, (hset_ne _ _ (ad_ne hA (by decide))).trans w3.1.2.2.2.2.2.2.2.2.2⟩, (hset_ne _ _ (ad_ne hA (by decide))).trans w3.2.1, (hset_ne _ _ (ad_ne hA (by decide))).trans w3.2.2.1, (hset_ne _ _ (ad_ne hA (by decide))).trans w3.2.2.2⟩, w4, w5⟩
end GROW
set_option maxRecDepth 100000 in
set_option maxHeartbeats 400000 in
theorem g_names (G : ssG) (h : ssH) {ad : Nat → Nat} {sv : Value} {m : Nat → Int} {B : Nat → Int} {n : Nat} {ζ : zT} {u : pR Nat} {w s k : Nat} (hA : ∀ k l, ad k = ad l → k = l) (hB : ∀ k, -128 ≤ B k ∧ B k ≤ 127) (hn : n ≤ 900) (hm : MRd h ad sv m B n ζ u) (h11 : ζ 11 0 < 17) : ssC G mX10_names 0 0 0 [.ref (ad 200), .long (zL ↑w), .int (zI ↑s), .int (zI ↑k)] h (GQ ad sv m B n (zNm ζ w s k) (u) (none) h) := by
  refine c_of_v okX10_names (by decide +kernel) (ls := [some (.ref (ad 200)), some (.long (zL ↑w)), none, some (.int (zI ↑s)), some (.int (zI ↑k))]) rfl (Nat.le_of_ble_eq_true rfl) ?_
  refine v_run 1 (pc' := 1) (ls' := [some (.ref (ad 200)), some (.long (zL ↑w)), none, some (.int (zI ↑s)), some (.int (zI ↑k))]) (st' := [.ref (ad 200)]) rfl ?_
  refine v_get rfl hm.1 rfl ?_
  refine v_run 0 (pc' := 4) (ls' := [some (.ref (ad 200)), some (.long (zL ↑w)), none, some (.int (zI ↑s)), some (.int (zI ↑k))]) (st' := [.ref (ad 230)]) rfl ?_
  refine v_get rfl hm.2.2.1.1.1 rfl ?_
  refine v_run 1 (pc' := 8) (ls' := [some (.ref (ad 200)), some (.long (zL ↑w)), none, some (.int (zI ↑s)), some (.int (zI ↑k))]) (st' := [.ref (ad 200), .ref (Sf ad 230 21)]) rfl ?_
  refine v_get rfl hm.1 rfl ?_
  refine v_run 0 (pc' := 11) (ls' := [some (.ref (ad 200)), some (.long (zL ↑w)), none, some (.int (zI ↑s)), some (.int (zI ↑k))]) (st' := [.ref (ad 230), .ref (Sf ad 230 21)]) rfl ?_
  refine v_get rfl hm.2.2.1.1.1 rfl ?_
  refine v_run 1 (pc' := 15) (ls' := [some (.ref (ad 200)), some (.long (zL ↑w)), none, some (.int (zI ↑s)), some (.int (zI ↑k))]) (st' := [.long (zL ↑w), .int (zI ↑(ζ 11 0)), .ref (Sf ad 230 21)]) rfl ?_
  refine v_lastore' rfl hm.2.2.1.2.1 (i := ζ 11 0) rfl (by omega) ?_
  rw [arL_upd]
  have hm1 := hm.r21 hA (ζ 11 0) w
  generalize e1 : hset h (Sf ad 230 21) _ = h1 at hm1 ⊢
  have hf1 : frN ad h h1 := e1 ▸ frN.set (Or.inr ⟨by decide, by decide⟩) _
  refine v_run 1 (pc' := 17) (ls' := [some (.ref (ad 200)), some (.long (zL ↑w)), none, some (.int (zI ↑s)), some (.int (zI ↑k))]) (st' := [.ref (ad 200)]) rfl ?_
  refine v_get rfl hm1.1 rfl ?_
  refine v_run 0 (pc' := 20) (ls' := [some (.ref (ad 200)), some (.long (zL ↑w)), none, some (.int (zI ↑s)), some (.int (zI ↑k))]) (st' := [.ref (ad 230)]) rfl ?_
  refine v_get rfl hm1.2.2.1.1.1 rfl ?_
  refine v_run 1 (pc' := 24) (ls' := [some (.ref (ad 200)), some (.long (zL ↑w)), none, some (.int (zI ↑s)), some (.int (zI ↑k))]) (st' := [.ref (ad 200), .ref (Sf ad 230 22)]) rfl ?_
  refine v_get rfl hm1.1 rfl ?_
  refine v_run 0 (pc' := 27) (ls' := [some (.ref (ad 200)), some (.long (zL ↑w)), none, some (.int (zI ↑s)), some (.int (zI ↑k))]) (st' := [.ref (ad 230), .ref (Sf ad 230 22)]) rfl ?_
  refine v_get rfl hm1.2.2.1.1.1 rfl ?_
  refine v_run 1 (pc' := 31) (ls' := [some (.ref (ad 200)), some (.long (zL ↑w)), none, some (.int (zI ↑s)), some (.int (zI ↑k))]) (st' := [.int (zI ↑s), .int (zI ↑(ζ 11 0)), .ref (Sf ad 230 22)]) rfl ?_
  refine v_iastore' rfl hm1.2.2.1.2.2.1 (i := ζ 11 0) rfl (by omega) ?_
  rw [ar_upd]
  have hm2 := hm1.r22 hA (ζ 11 0) s
  generalize e2 : hset h1 (Sf ad 230 22) _ = h2 at hm2 ⊢
  have hf2 : frN ad h1 h2 := e2 ▸ frN.set (Or.inr ⟨by decide, by decide⟩) _
  refine v_run 1 (pc' := 33) (ls' := [some (.ref (ad 200)), some (.long (zL ↑w)), none, some (.int (zI ↑s)), some (.int (zI ↑k))]) (st' := [.ref (ad 200)]) rfl ?_
  refine v_get rfl hm2.1 rfl ?_
  refine v_run 0 (pc' := 36) (ls' := [some (.ref (ad 200)), some (.long (zL ↑w)), none, some (.int (zI ↑s)), some (.int (zI ↑k))]) (st' := [.ref (ad 230)]) rfl ?_
  refine v_get rfl hm2.2.2.1.1.1 rfl ?_
  refine v_run 1 (pc' := 40) (ls' := [some (.ref (ad 200)), some (.long (zL ↑w)), none, some (.int (zI ↑s)), some (.int (zI ↑k))]) (st' := [.ref (ad 200), .ref (Sf ad 230 23)]) rfl ?_
  refine v_get rfl hm2.1 rfl ?_
  refine v_run 0 (pc' := 43) (ls' := [some (.ref (ad 200)), some (.long (zL ↑w)), none, some (.int (zI ↑s)), some (.int (zI ↑k))]) (st' := [.ref (ad 230), .ref (Sf ad 230 23)]) rfl ?_
  refine v_get rfl hm2.2.2.1.1.1 rfl ?_
  refine v_run 1 (pc' := 48) (ls' := [some (.ref (ad 200)), some (.long (zL ↑w)), none, some (.int (zI ↑s)), some (.int (zI ↑k))]) (st' := [.int (zI ↑k), .int (zI ↑(ζ 11 0)), .ref (Sf ad 230 23)]) rfl ?_
  refine v_iastore' rfl hm2.2.2.1.2.2.2 (i := ζ 11 0) rfl (by omega) ?_
  rw [ar_upd]
  have hm3 := hm2.r23 hA (ζ 11 0) k
  generalize e3 : hset h2 (Sf ad 230 23) _ = h3 at hm3 ⊢
  have hf3 : frN ad h2 h3 := e3 ▸ frN.set (Or.inr ⟨by decide, by decide⟩) _
  refine v_run 1 (pc' := 50) (ls' := [some (.ref (ad 200)), some (.long (zL ↑w)), none, some (.int (zI ↑s)), some (.int (zI ↑k))]) (st' := [.ref (ad 200)]) rfl ?_
  refine v_get rfl hm3.1 rfl ?_
  refine v_run 1 (pc' := 54) (ls' := [some (.ref (ad 200)), some (.long (zL ↑w)), none, some (.int (zI ↑s)), some (.int (zI ↑k))]) (st' := [.ref (ad 230), .ref (ad 230)]) rfl ?_
  refine v_get rfl hm3.2.2.1.1.1 rfl ?_
  refine v_run 2 (pc' := 59) (ls' := [some (.ref (ad 200)), some (.long (zL ↑w)), none, some (.int (zI ↑s)), some (.int (zI ↑k))]) (st' := [.int ((zI ↑(ζ 11 0)) + (zI 1)), .ref (ad 230)]) rfl ?_
  rw [show ((zI ↑(ζ 11 0)) + (zI 1) : Int32) = zI ↑(ζ 11 0 + 1) from zI_s1 _]
  refine v_put rfl hm3.2.2.1.1.1 rfl rfl (Nat.le_of_ble_eq_true rfl) ?_
  have hm4 := hm3.i hA 11 (ζ 11 0 + 1) (by decide)
  generalize e4 : hset h3 (ad 230) _ = h4 at hm4 ⊢
  have hf4 : frN ad h3 h4 := e4 ▸ frN.set (Or.inr ⟨by decide, by decide⟩) _
  refine v_run 0 (pc' := 62) (ls' := [some (.ref (ad 200)), some (.long (zL ↑w)), none, some (.int (zI ↑s)), some (.int (zI ↑k))]) (st' := []) rfl ?_
  exact v_vret rfl rfl ⟨rfl, m, hm4, mKp.rf m, (((hf1.tr hf2).tr hf3).tr hf4)⟩

set_option maxRecDepth 100000 in
set_option maxHeartbeats 400000 in
theorem g_fresh (G : ssG) (h : ssH) {ad : Nat → Nat} {sv : Value} {m : Nat → Int} {B : Nat → Int} {n : Nat} {ζ : zT} {u : pR Nat}  (hA : ∀ k l, ad k = ad l → k = l) (hB : ∀ k, -128 ≤ B k ∧ B k ≤ 127) (hn : n ≤ 900) (hm : MRd h ad sv m B n ζ u) (h11 : ζ 11 0 ≤ 17) (hz : ∀ k, ζ 21 k < 1099511627776) : ssC G mX10_readFresh 7 0 0 [.ref (ad 200)] h (fun r h' => ∃ x : Int64, r = some (.long x) ∧ (∀ i j, u = .inr i → pNew B n ζ i = .inr j → x = zL ↑(tV B n i)) ∧ ∃ m', MRd h' ad sv m' B n ζ (sb u (fun i => pNew B n ζ i)) ∧ mKp m m' ∧ frN ad h h') := by
  refine c_of_v okX10_readFresh (by decide +kernel) (ls := [some (.ref (ad 200)), none, none]) rfl (Nat.le_of_ble_eq_true rfl) ?_
  refine v_run 1 (pc' := 1) (ls' := [some (.ref (ad 200)), none, none]) (st' := [.ref (ad 200)]) rfl ?_
  refine v_callV (My := mX10_isName) (As := []) (rest := []) (mc := 0) (ms := 0) rfl caX10_isName rfl rfl rfl hm.1 rfl rfl (g_isName G _ hA hB hn hm) rfl rfl (Nat.le_of_ble_eq_true rfl) (by omega) ?_
  rintro _ _ ⟨rfl, rfl⟩
  refine v_run 0 (pc' := 4) (ls' := [some (.ref (ad 200)), none, none]) (st' := [.int (zb (nmU B n u))]) rfl ?_
  refine v_if_ne rfl (fun c4 => ?_) (fun c4 => ?_)
  · rw [zb_n, Bool.not_eq_false] at c4
    rcases u with e | i
    · cases c4
    · have hnm : nmB B n i = true := c4
      have hnm2 : ¬ nmB B n i = false := by rw [hnm]; decide
      obtain ⟨u1, u2, u3, u4, u5, u6⟩ := id hm.2.2.2.2
      have es : tS B n i = 2 := (of_decide_eq_true hnm).1
      have hv : tV B n i < 1099511627776 := kV_lt2 es
      refine v_run 1 (pc' := 13) (ls' := [some (.ref (ad 200)), none, none]) (st' := [.ref (ad 200)]) rfl ?_
      refine v_get rfl hm.1 rfl ?_
      refine v_run 1 (pc' := 17) (ls' := [some (.ref (ad 200)), none, none]) (st' := [.ref (ad 200), .ref (ad 230)]) rfl ?_
      refine v_get rfl hm.1 rfl ?_
      refine v_run 0 (pc' := 20) (ls' := [some (.ref (ad 200)), none, none]) (st' := [.long (zL (m 14)), .ref (ad 230)]) rfl ?_
      rw [u4 es]
      refine v_callV (My := mX9_find) (As := [.long (zL ↑(tV B n i))]) (rest := []) (mc := 0) (ms := 0) rfl caX9_find rfl rfl rfl hm.2.2.1.1.1 rfl rfl (g_find G _ (x := zL ↑(tV B n i)) hA hB hn hm h11) rfl rfl (Nat.le_of_ble_eq_true rfl) (by omega) ?_
      rintro _ _ ⟨rfl, rfl⟩
      refine v_run 0 (pc' := 23) (ls' := [some (.ref (ad 200)), none, none]) (st' := [.int (zI (if fdX ζ (zL ↑(tV B n i)) < ζ 11 0 then ↑(fdX ζ (zL ↑(tV B n i))) else -1))]) rfl ?_
      rw [fdX_fnd hz hv]
      have hfb := (fnd_bd ζ (tV B n i)).1
      by_cases hy : fnd ζ (tV B n i) < ζ 11 0
      · rw [if_pos hy]
        refine v_run 1 (pc' := 24) (ls' := [some (.ref (ad 200)), none, none]) (st' := [.int (zI (-1)), .int (zI ↑(fnd ζ (tV B n i)))]) rfl ?_
        refine v_icmp_eq rfl (fun c24 => ?_) (fun c24 => ?_)
        · exfalso; revert c24; simp (disch := omega) only [zI_lt, zI_le, zI_eq, zI_lt0, zI_le0, zI_0lt, zI_0le, zI_eq0] <;> omega
        · simp (disch := omega) only [zI_lt, zI_le, zI_eq, zI_lt0, zI_le0, zI_0lt, zI_0le, zI_eq0] at c24
          refine v_run 2 (pc' := 29) (ls' := [some (.ref (ad 200)), none, none]) (st' := [.int (zI 3), .ref (ad 200)]) rfl ?_
          refine v_callV (My := mX10_flaw) (As := [.int (zI 3)]) (rest := []) (mc := 0) (ms := 0) rfl caX10_flaw rfl rfl rfl hm.1 rfl rfl (g_flaw G _ (f := 3) hA hB hn hm) rfl rfl (Nat.le_of_ble_eq_true rfl) (by omega) ?_
          rintro _ h1 ⟨rfl, m1, hm1, hk1, hf1⟩
          refine v_run 0 (pc' := 32) (ls' := [some (.ref (ad 200)), none, none]) (st' := []) rfl ?_
          refine v_run 1 (pc' := 33) (ls' := [some (.ref (ad 200)), none, none]) (st' := [.ref (ad 200)]) rfl ?_
          refine v_get rfl hm1.1 rfl ?_
          refine v_run 2 (pc' := 38) (ls' := [some (.ref (ad 200)), some (.long (zL (m1 14))), none]) (st' := [.ref (ad 200)]) rfl ?_
          refine v_callV (My := mX10_goesOn) (As := []) (rest := []) (mc := 0) (ms := 0) rfl caX10_goesOn rfl rfl rfl hm1.1 rfl rfl (g_on G _ hA hB hn hm1) rfl rfl (Nat.le_of_ble_eq_true rfl) (by omega) ?_
          rintro _ h2 ⟨rfl, m2, hm2, hk2, hf2⟩
          refine v_run 0 (pc' := 41) (ls' := [some (.ref (ad 200)), some (.long (zL (m1 14))), none]) (st' := []) rfl ?_
          refine v_run 1 (pc' := 42) (ls' := [some (.ref (ad 200)), some (.long (zL (m1 14))), none]) (st' := [.long (zL (m1 14))]) rfl ?_
          rw [show sb (.inr i) (fun i => pNew B n ζ i) = sb (sb ((.inr i)) (fun i => .inl (3, tP B n i))) (fun i => .inr (i + 1)) from (if_neg hnm2).trans (if_pos hy)]
          exact v_lret rfl rfl ⟨_, rfl, (fun i2 j e1 e2 => by cases e1; rw [show pNew B n ζ i = .inl (3, tP B n i) from (if_neg hnm2).trans (if_pos hy)] at e2; cases e2), m2, hm2, (hk1.tr hk2), (hf1.tr hf2)⟩
      · rw [if_neg hy]
        refine v_run 1 (pc' := 24) (ls' := [some (.ref (ad 200)), none, none]) (st' := [.int (zI (-1)), .int (zI (-1))]) rfl ?_
        refine v_icmp_eq rfl (fun c24 => ?_) (fun c24 => ?_)
        · refine v_run 1 (pc' := 33) (ls' := [some (.ref (ad 200)), none, none]) (st' := [.ref (ad 200)]) rfl ?_
          refine v_get rfl hm.1 rfl ?_
          refine v_run 0 (pc' := 36) (ls' := [some (.ref (ad 200)), none, none]) (st' := [.long (zL (m 14))]) rfl ?_
          rw [u4 es]
          refine v_run 2 (pc' := 38) (ls' := [some (.ref (ad 200)), some (.long (zL ↑(tV B n i))), none]) (st' := [.ref (ad 200)]) rfl ?_
          refine v_callV (My := mX10_goesOn) (As := []) (rest := []) (mc := 0) (ms := 0) rfl caX10_goesOn rfl rfl rfl hm.1 rfl rfl (g_on G _ hA hB hn hm) rfl rfl (Nat.le_of_ble_eq_true rfl) (by omega) ?_
          rintro _ h1 ⟨rfl, m1, hm1, hk1, hf1⟩
          refine v_run 0 (pc' := 41) (ls' := [some (.ref (ad 200)), some (.long (zL ↑(tV B n i))), none]) (st' := []) rfl ?_
          refine v_run 1 (pc' := 42) (ls' := [some (.ref (ad 200)), some (.long (zL ↑(tV B n i))), none]) (st' := [.long (zL ↑(tV B n i))]) rfl ?_
          rw [show sb (.inr i) (fun i => pNew B n ζ i) = sb ((.inr i)) (fun i => .inr (i + 1)) from (if_neg hnm2).trans (if_neg hy)]
          exact v_lret rfl rfl ⟨_, rfl, (fun i2 j e1 _ => by cases e1; rfl), m1, hm1, hk1, hf1⟩
        · exact absurd rfl c24
  · rw [zb_n] at c4
    refine v_run 2 (pc' := 9) (ls' := [some (.ref (ad 200)), none, none]) (st' := [.int (zI 1), .ref (ad 200)]) rfl ?_
    refine v_callV (My := mX10_flaw) (As := [.int (zI 1)]) (rest := []) (mc := 0) (ms := 0) rfl caX10_flaw rfl rfl rfl hm.1 rfl rfl (g_flaw G _ (f := 1) hA hB hn hm) rfl rfl (Nat.le_of_ble_eq_true rfl) (by omega) ?_
    rintro _ h1 ⟨rfl, m1, hm1, hk1, hf1⟩
    refine v_run 0 (pc' := 12) (ls' := [some (.ref (ad 200)), none, none]) (st' := []) rfl ?_
    refine v_run 1 (pc' := 13) (ls' := [some (.ref (ad 200)), none, none]) (st' := [.ref (ad 200)]) rfl ?_
    refine v_get rfl hm1.1 rfl ?_
    refine v_run 1 (pc' := 17) (ls' := [some (.ref (ad 200)), none, none]) (st' := [.ref (ad 200), .ref (ad 230)]) rfl ?_
    refine v_get rfl hm1.1 rfl ?_
    refine v_run 0 (pc' := 20) (ls' := [some (.ref (ad 200)), none, none]) (st' := [.long (zL (m1 14)), .ref (ad 230)]) rfl ?_
    refine v_callV (My := mX9_find) (As := [.long (zL (m1 14))]) (rest := []) (mc := 0) (ms := 0) rfl caX9_find rfl rfl rfl hm1.2.2.1.1.1 rfl rfl (g_find G _ (x := zL (m1 14)) hA hB hn hm1 h11) rfl rfl (Nat.le_of_ble_eq_true rfl) (by omega) ?_
    rintro _ _ ⟨rfl, rfl⟩
    refine v_run 0 (pc' := 23) (ls' := [some (.ref (ad 200)), none, none]) (st' := [.int (zI (if fdX ζ (zL (m1 14)) < ζ 11 0 then ↑(fdX ζ (zL (m1 14))) else -1))]) rfl ?_
    have hfb := fdX_bd ζ (zL (m1 14))
    generalize (if fdX ζ (zL (m1 14)) < ζ 11 0 then (↑(fdX ζ (zL (m1 14))) : Int) else -1) = X
    refine v_run 1 (pc' := 24) (ls' := [some (.ref (ad 200)), none, none]) (st' := [.int (zI (-1)), .int (zI X)]) rfl ?_
    refine v_icmp_eq rfl (fun c24 => ?_) (fun c24 => ?_)
    · refine v_run 1 (pc' := 33) (ls' := [some (.ref (ad 200)), none, none]) (st' := [.ref (ad 200)]) rfl ?_
      refine v_get rfl hm1.1 rfl ?_
      refine v_run 2 (pc' := 38) (ls' := [some (.ref (ad 200)), some (.long (zL (m1 14))), none]) (st' := [.ref (ad 200)]) rfl ?_
      refine v_callV (My := mX10_goesOn) (As := []) (rest := []) (mc := 0) (ms := 0) rfl caX10_goesOn rfl rfl rfl hm1.1 rfl rfl (g_on G _ hA hB hn hm1) rfl rfl (Nat.le_of_ble_eq_true rfl) (by omega) ?_
      rintro _ h2 ⟨rfl, m2, hm2, hk2, hf2⟩
      refine v_run 0 (pc' := 41) (ls' := [some (.ref (ad 200)), some (.long (zL (m1 14))), none]) (st' := []) rfl ?_
      refine v_run 1 (pc' := 42) (ls' := [some (.ref (ad 200)), some (.long (zL (m1 14))), none]) (st' := [.long (zL (m1 14))]) rfl ?_
      rw [show sb u (fun i => pNew B n ζ i) = sb (sb (u) (fun i => .inl (1, tP B n i))) (fun i => .inr (i + 1)) from by cases u with | inl e => rfl | inr i => exact if_pos c4]
      exact v_lret rfl rfl ⟨_, rfl, (fun i j e1 e2 => by subst e1; rw [show pNew B n ζ i = .inl (1, tP B n i) from if_pos c4] at e2; cases e2), m2, hm2, (hk1.tr hk2), (hf1.tr hf2)⟩
    · refine v_run 2 (pc' := 29) (ls' := [some (.ref (ad 200)), none, none]) (st' := [.int (zI 3), .ref (ad 200)]) rfl ?_
      refine v_callV (My := mX10_flaw) (As := [.int (zI 3)]) (rest := []) (mc := 0) (ms := 0) rfl caX10_flaw rfl rfl rfl hm1.1 rfl rfl (g_flaw G _ (f := 3) hA hB hn hm1) rfl rfl (Nat.le_of_ble_eq_true rfl) (by omega) ?_
      rintro _ h2 ⟨rfl, m2, hm2, hk2, hf2⟩
      refine v_run 0 (pc' := 32) (ls' := [some (.ref (ad 200)), none, none]) (st' := []) rfl ?_
      refine v_run 1 (pc' := 33) (ls' := [some (.ref (ad 200)), none, none]) (st' := [.ref (ad 200)]) rfl ?_
      refine v_get rfl hm2.1 rfl ?_
      refine v_run 2 (pc' := 38) (ls' := [some (.ref (ad 200)), some (.long (zL (m2 14))), none]) (st' := [.ref (ad 200)]) rfl ?_
      refine v_callV (My := mX10_goesOn) (As := []) (rest := []) (mc := 0) (ms := 0) rfl caX10_goesOn rfl rfl rfl hm2.1 rfl rfl (g_on G _ hA hB hn hm2) rfl rfl (Nat.le_of_ble_eq_true rfl) (by omega) ?_
      rintro _ h3 ⟨rfl, m3, hm3, hk3, hf3⟩
      refine v_run 0 (pc' := 41) (ls' := [some (.ref (ad 200)), some (.long (zL (m2 14))), none]) (st' := []) rfl ?_
      refine v_run 1 (pc' := 42) (ls' := [some (.ref (ad 200)), some (.long (zL (m2 14))), none]) (st' := [.long (zL (m2 14))]) rfl ?_
      rw [show sb u (fun i => pNew B n ζ i) = sb (sb (sb (u) (fun i => .inl (1, tP B n i))) (fun i => .inl (3, tP B n i))) (fun i => .inr (i + 1)) from by cases u with | inl e => rfl | inr i => exact if_pos c4]
      exact v_lret rfl rfl ⟨_, rfl, (fun i j e1 e2 => by subst e1; rw [show pNew B n ζ i = .inl (1, tP B n i) from if_pos c4] at e2; cases e2), m3, hm3, ((hk1.tr hk2).tr hk3), ((hf1.tr hf2).tr hf3)⟩

set_option maxRecDepth 100000 in
set_option maxHeartbeats 400000 in
theorem g_known (G : ssG) (h : ssH) {ad : Nat → Nat} {sv : Value} {m : Nat → Int} {B : Nat → Int} {n : Nat} {ζ : zT} {u : pR Nat} {s : Nat} (hA : ∀ k l, ad k = ad l → k = l) (hB : ∀ k, -128 ≤ B k ∧ B k ≤ 127) (hn : n ≤ 900) (hm : MRd h ad sv m B n ζ u) (h11 : ζ 11 0 ≤ 17) (hz : ∀ k, ζ 21 k < 1099511627776) (hz22 : ∀ k, ζ 22 k ≤ 2) (hz23 : ∀ k, ζ 23 k < 6) (hs : s ≤ 2) : ssC G mX10_knownOne 7 0 0 [.ref (ad 200), .int (zI ↑s)] h (GQ ad sv m B n ζ (sb u (fun i => sb (pTold B n ζ s i) (fun _ => .inr i))) (some (.int (zI ↑(vT (sb u (fun i => pTold B n ζ s i)))))) h) := by
  refine c_of_v okX10_knownOne (by decide +kernel) (ls := [some (.ref (ad 200)), some (.int (zI ↑s)), none]) rfl (Nat.le_of_ble_eq_true rfl) ?_
  refine v_run 1 (pc' := 1) (ls' := [some (.ref (ad 200)), some (.int (zI ↑s)), none]) (st' := [.ref (ad 200)]) rfl ?_
  refine v_callV (My := mX10_isName) (As := []) (rest := []) (mc := 0) (ms := 0) rfl caX10_isName rfl rfl rfl hm.1 rfl rfl (g_isName G _ hA hB hn hm) rfl rfl (Nat.le_of_ble_eq_true rfl) (by omega) ?_
  rintro _ _ ⟨rfl, rfl⟩
  refine v_run 0 (pc' := 4) (ls' := [some (.ref (ad 200)), some (.int (zI ↑s)), none]) (st' := [.int (zb (nmU B n u))]) rfl ?_
  refine v_if_ne rfl (fun c4 => ?_) (fun c4 => ?_)
  · rw [zb_n, Bool.not_eq_false] at c4
    rcases u with e | i
    · cases c4
    · have hnm : nmB B n i = true := c4
      have hnm2 : ¬ nmB B n i = false := by rw [hnm]; decide
      obtain ⟨u1, u2, u3, u4, u5, u6⟩ := id hm.2.2.2.2
      have es : tS B n i = 2 := (of_decide_eq_true hnm).1
      have hv : tV B n i < 1099511627776 := kV_lt2 es
      refine v_run 1 (pc' := 13) (ls' := [some (.ref (ad 200)), some (.int (zI ↑s)), none]) (st' := [.ref (ad 200)]) rfl ?_
      refine v_get rfl hm.1 rfl ?_
      refine v_run 1 (pc' := 17) (ls' := [some (.ref (ad 200)), some (.int (zI ↑s)), none]) (st' := [.ref (ad 200), .ref (ad 230)]) rfl ?_
      refine v_get rfl hm.1 rfl ?_
      refine v_run 0 (pc' := 20) (ls' := [some (.ref (ad 200)), some (.int (zI ↑s)), none]) (st' := [.long (zL (m 14)), .ref (ad 230)]) rfl ?_
      rw [u4 es]
      refine v_callV (My := mX9_find) (As := [.long (zL ↑(tV B n i))]) (rest := []) (mc := 0) (ms := 0) rfl caX9_find rfl rfl rfl hm.2.2.1.1.1 rfl rfl (g_find G _ (x := zL ↑(tV B n i)) hA hB hn hm h11) rfl rfl (Nat.le_of_ble_eq_true rfl) (by omega) ?_
      rintro _ _ ⟨rfl, rfl⟩
      refine v_run 0 (pc' := 23) (ls' := [some (.ref (ad 200)), some (.int (zI ↑s)), none]) (st' := [.int (zI (if fdX ζ (zL ↑(tV B n i)) < ζ 11 0 then ↑(fdX ζ (zL ↑(tV B n i))) else -1))]) rfl ?_
      rw [fdX_fnd hz hv]
      have hfb := (fnd_bd ζ (tV B n i)).1
      refine v_run 1 (pc' := 24) (ls' := [some (.ref (ad 200)), some (.int (zI ↑s)), some (.int (zI (if fnd ζ (tV B n i) < ζ 11 0 then ↑(fnd ζ (tV B n i)) else -1)))]) (st' := []) rfl ?_
      generalize hfd : fnd ζ (tV B n i) = fd at hfb ⊢
      by_cases hy : fd < ζ 11 0
      · rw [if_pos hy]
        refine v_run 2 (pc' := 26) (ls' := [some (.ref (ad 200)), some (.int (zI ↑s)), some (.int (zI ↑fd))]) (st' := [.int (zI (-1)), .int (zI ↑fd)]) rfl ?_
        refine v_icmp_eq rfl (fun c26 => ?_) (fun c26 => ?_)
        · exfalso; revert c26; simp (disch := omega) only [zI_lt, zI_le, zI_eq, zI_lt0, zI_le0, zI_0lt, zI_0le, zI_eq0] <;> omega
        · simp (disch := omega) only [zI_lt, zI_le, zI_eq, zI_lt0, zI_le0, zI_0lt, zI_0le, zI_eq0] at c26
          have h22 := hz22 fd
          have h23 := hz23 fd
          refine v_run 1 (pc' := 30) (ls' := [some (.ref (ad 200)), some (.int (zI ↑s)), some (.int (zI ↑fd))]) (st' := [.ref (ad 200)]) rfl ?_
          refine v_get rfl hm.1 rfl ?_
          refine v_run 0 (pc' := 33) (ls' := [some (.ref (ad 200)), some (.int (zI ↑s)), some (.int (zI ↑fd))]) (st' := [.ref (ad 230)]) rfl ?_
          refine v_get rfl hm.2.2.1.1.1 rfl ?_
          refine v_run 1 (pc' := 37) (ls' := [some (.ref (ad 200)), some (.int (zI ↑s)), some (.int (zI ↑fd))]) (st' := [.int (zI ↑fd), .ref (Sf ad 230 22)]) rfl ?_
          refine v_iaload' rfl hm.2.2.1.2.2.1 (i := fd) rfl (by omega) ?_
          refine v_run 1 (pc' := 39) (ls' := [some (.ref (ad 200)), some (.int (zI ↑s)), some (.int (zI ↑fd))]) (st' := [.int (zI ↑s), .int (zI ↑(ζ 22 fd))]) rfl ?_
          refine v_icmp_eq rfl (fun c39 => ?_) (fun c39 => ?_)
          · simp (disch := omega) only [zI_lt, zI_le, zI_eq, zI_lt0, zI_le0, zI_0lt, zI_0le, zI_eq0] at c39
            refine v_run 1 (pc' := 48) (ls' := [some (.ref (ad 200)), some (.int (zI ↑s)), some (.int (zI ↑fd))]) (st' := [.ref (ad 200)]) rfl ?_
            refine v_get rfl hm.1 rfl ?_
            refine v_run 1 (pc' := 52) (ls' := [some (.ref (ad 200)), some (.int (zI ↑s)), some (.int (zI ↑fd))]) (st' := [.int (zI 5), .int (zI (m 9))]) rfl ?_
            refine v_icmp_ne rfl (fun c52 => ?_) (fun c52 => ?_)
            · refine v_run 1 (pc' := 60) (ls' := [some (.ref (ad 200)), some (.int (zI ↑s)), some (.int (zI ↑fd))]) (st' := [.ref (ad 200)]) rfl ?_
              refine v_get rfl hm.1 rfl ?_
              refine v_run 0 (pc' := 63) (ls' := [some (.ref (ad 200)), some (.int (zI ↑s)), some (.int (zI ↑fd))]) (st' := [.ref (ad 230)]) rfl ?_
              refine v_get rfl hm.2.2.1.1.1 rfl ?_
              refine v_run 1 (pc' := 67) (ls' := [some (.ref (ad 200)), some (.int (zI ↑s)), some (.int (zI ↑fd))]) (st' := [.int (zI ↑fd), .ref (Sf ad 230 23)]) rfl ?_
              refine v_iaload' rfl hm.2.2.1.2.2.2 (i := fd) rfl (by omega) ?_
              refine v_run 0 (pc' := 68) (ls' := [some (.ref (ad 200)), some (.int (zI ↑s)), some (.int (zI ↑fd))]) (st' := [.int (zI ↑(ζ 23 fd))]) rfl ?_
              rw [show sb (.inr i) (fun i => pTold B n ζ s i) = .inr (ζ 23 fd) from (if_neg hnm2).trans ((if_pos (by rw [hfd]; exact ⟨hy, by omega⟩)).trans (by rw [hfd])), show sb (.inr i) (fun i => sb (pTold B n ζ s i) (fun _ => (.inr i : pR Nat))) = .inr i from by show sb (pTold B n ζ s i) _ = _; rw [show pTold B n ζ s i = .inr (ζ 23 fd) from (if_neg hnm2).trans ((if_pos (by rw [hfd]; exact ⟨hy, by omega⟩)).trans (by rw [hfd]))]; rfl]
              exact v_iret rfl rfl rfl ⟨rfl, m, hm, mKp.rf m, frN.rf ad h⟩
            · exact absurd (u2 ▸ c52) (m9_ne i)
          · simp (disch := omega) only [zI_lt, zI_le, zI_eq, zI_lt0, zI_le0, zI_0lt, zI_0le, zI_eq0] at c39
            refine v_run 2 (pc' := 44) (ls' := [some (.ref (ad 200)), some (.int (zI ↑s)), some (.int (zI ↑fd))]) (st' := [.int (zI 2), .ref (ad 200)]) rfl ?_
            refine v_callV (My := mX10_flaw) (As := [.int (zI 2)]) (rest := []) (mc := 0) (ms := 0) rfl caX10_flaw rfl rfl rfl hm.1 rfl rfl (g_flaw G _ (f := 2) hA hB hn hm) rfl rfl (Nat.le_of_ble_eq_true rfl) (by omega) ?_
            rintro _ h1 ⟨rfl, m1, hm1, hk1, hf1⟩
            refine v_run 0 (pc' := 47) (ls' := [some (.ref (ad 200)), some (.int (zI ↑s)), some (.int (zI ↑fd))]) (st' := []) rfl ?_
            refine v_run 1 (pc' := 48) (ls' := [some (.ref (ad 200)), some (.int (zI ↑s)), some (.int (zI ↑fd))]) (st' := [.ref (ad 200)]) rfl ?_
            refine v_get rfl hm1.1 rfl ?_
            refine v_run 1 (pc' := 52) (ls' := [some (.ref (ad 200)), some (.int (zI ↑s)), some (.int (zI ↑fd))]) (st' := [.int (zI 5), .int (zI (m1 9))]) rfl ?_
            refine v_icmp_ne rfl (fun c52 => ?_) (fun c52 => ?_)
            · exact absurd (by rw [hm1.2.2.2.2.1]) c52
            · refine v_run 2 (pc' := 68) (ls' := [some (.ref (ad 200)), some (.int (zI ↑s)), some (.int (zI ↑fd))]) (st' := [.int (zI 0)]) rfl ?_
              rw [show sb (.inr i) (fun i => pTold B n ζ s i) = .inl (2, tP B n i) from (if_neg hnm2).trans (if_neg (by rw [hfd]; exact fun z => by have := z.2; omega)), show sb (.inr i) (fun i => sb (pTold B n ζ s i) (fun _ => (.inr i : pR Nat))) = .inl (2, tP B n i) from by show sb (pTold B n ζ s i) _ = _; rw [show pTold B n ζ s i = .inl (2, tP B n i) from (if_neg hnm2).trans (if_neg (by rw [hfd]; exact fun z => by have := z.2; omega))]; rfl]
              exact v_iret rfl rfl rfl ⟨rfl, m1, hm1, hk1, hf1⟩
      · rw [if_neg hy]
        refine v_run 2 (pc' := 26) (ls' := [some (.ref (ad 200)), some (.int (zI ↑s)), some (.int (zI (-1)))]) (st' := [.int (zI (-1)), .int (zI (-1))]) rfl ?_
        refine v_icmp_eq rfl (fun c26 => ?_) (fun c26 => ?_)
        · refine v_run 2 (pc' := 44) (ls' := [some (.ref (ad 200)), some (.int (zI ↑s)), some (.int (zI (-1)))]) (st' := [.int (zI 2), .ref (ad 200)]) rfl ?_
          refine v_callV (My := mX10_flaw) (As := [.int (zI 2)]) (rest := []) (mc := 0) (ms := 0) rfl caX10_flaw rfl rfl rfl hm.1 rfl rfl (g_flaw G _ (f := 2) hA hB hn hm) rfl rfl (Nat.le_of_ble_eq_true rfl) (by omega) ?_
          rintro _ h1 ⟨rfl, m1, hm1, hk1, hf1⟩
          refine v_run 0 (pc' := 47) (ls' := [some (.ref (ad 200)), some (.int (zI ↑s)), some (.int (zI (-1)))]) (st' := []) rfl ?_
          refine v_run 1 (pc' := 48) (ls' := [some (.ref (ad 200)), some (.int (zI ↑s)), some (.int (zI (-1)))]) (st' := [.ref (ad 200)]) rfl ?_
          refine v_get rfl hm1.1 rfl ?_
          refine v_run 1 (pc' := 52) (ls' := [some (.ref (ad 200)), some (.int (zI ↑s)), some (.int (zI (-1)))]) (st' := [.int (zI 5), .int (zI (m1 9))]) rfl ?_
          refine v_icmp_ne rfl (fun c52 => ?_) (fun c52 => ?_)
          · exact absurd (by rw [hm1.2.2.2.2.1]) c52
          · refine v_run 2 (pc' := 68) (ls' := [some (.ref (ad 200)), some (.int (zI ↑s)), some (.int (zI (-1)))]) (st' := [.int (zI 0)]) rfl ?_
            rw [show sb (.inr i) (fun i => pTold B n ζ s i) = .inl (2, tP B n i) from (if_neg hnm2).trans (if_neg (by rw [hfd]; exact fun z => hy z.1)), show sb (.inr i) (fun i => sb (pTold B n ζ s i) (fun _ => (.inr i : pR Nat))) = .inl (2, tP B n i) from by show sb (pTold B n ζ s i) _ = _; rw [show pTold B n ζ s i = .inl (2, tP B n i) from (if_neg hnm2).trans (if_neg (by rw [hfd]; exact fun z => hy z.1))]; rfl]
            exact v_iret rfl rfl rfl ⟨rfl, m1, hm1, hk1, hf1⟩
        · exact absurd rfl c26
  · rw [zb_n] at c4
    have hov : ∃ e, sb u (fun i => .inl (1, tP B n i)) = (.inl e : pR Nat) ∧ sb u (fun i => pTold B n ζ s i) = .inl e ∧ sb u (fun i => sb (pTold B n ζ s i) (fun _ => .inr i)) = .inl e := by cases u with | inl e => exact ⟨e, rfl, rfl, rfl⟩ | inr i => exact ⟨_, rfl, if_pos c4, by show sb (pTold B n ζ s i) _ = _; rw [show pTold B n ζ s i = .inl (1, tP B n i) from if_pos c4]; rfl⟩
    obtain ⟨e, o1, o2, o3⟩ := hov
    refine v_run 2 (pc' := 9) (ls' := [some (.ref (ad 200)), some (.int (zI ↑s)), none]) (st' := [.int (zI 1), .ref (ad 200)]) rfl ?_
    refine v_callV (My := mX10_flaw) (As := [.int (zI 1)]) (rest := []) (mc := 0) (ms := 0) rfl caX10_flaw rfl rfl rfl hm.1 rfl rfl (g_flaw G _ (f := 1) hA hB hn hm) rfl rfl (Nat.le_of_ble_eq_true rfl) (by omega) ?_
    rintro _ h1 ⟨rfl, m1, hm1, hk1, hf1⟩
    refine v_run 0 (pc' := 12) (ls' := [some (.ref (ad 200)), some (.int (zI ↑s)), none]) (st' := []) rfl ?_
    rw [o1] at hm1
    refine v_run 1 (pc' := 13) (ls' := [some (.ref (ad 200)), some (.int (zI ↑s)), none]) (st' := [.ref (ad 200)]) rfl ?_
    refine v_get rfl hm1.1 rfl ?_
    refine v_run 1 (pc' := 17) (ls' := [some (.ref (ad 200)), some (.int (zI ↑s)), none]) (st' := [.ref (ad 200), .ref (ad 230)]) rfl ?_
    refine v_get rfl hm1.1 rfl ?_
    refine v_run 0 (pc' := 20) (ls' := [some (.ref (ad 200)), some (.int (zI ↑s)), none]) (st' := [.long (zL (m1 14)), .ref (ad 230)]) rfl ?_
    refine v_callV (My := mX9_find) (As := [.long (zL (m1 14))]) (rest := []) (mc := 0) (ms := 0) rfl caX9_find rfl rfl rfl hm1.2.2.1.1.1 rfl rfl (g_find G _ (x := zL (m1 14)) hA hB hn hm1 h11) rfl rfl (Nat.le_of_ble_eq_true rfl) (by omega) ?_
    rintro _ _ ⟨rfl, rfl⟩
    refine v_run 0 (pc' := 23) (ls' := [some (.ref (ad 200)), some (.int (zI ↑s)), none]) (st' := [.int (zI (if fdX ζ (zL (m1 14)) < ζ 11 0 then ↑(fdX ζ (zL (m1 14))) else -1))]) rfl ?_
    have hfb := fdX_bd ζ (zL (m1 14))
    refine v_run 1 (pc' := 24) (ls' := [some (.ref (ad 200)), some (.int (zI ↑s)), some (.int (zI (if fdX ζ (zL (m1 14)) < ζ 11 0 then ↑(fdX ζ (zL (m1 14))) else -1)))]) (st' := []) rfl ?_
    generalize fdX ζ (zL (m1 14)) = fd at hfb ⊢
    by_cases hy : fd < ζ 11 0
    · rw [if_pos hy]
      refine v_run 2 (pc' := 26) (ls' := [some (.ref (ad 200)), some (.int (zI ↑s)), some (.int (zI ↑fd))]) (st' := [.int (zI (-1)), .int (zI ↑fd)]) rfl ?_
      refine v_icmp_eq rfl (fun c26 => ?_) (fun c26 => ?_)
      · exfalso; revert c26; simp (disch := omega) only [zI_lt, zI_le, zI_eq, zI_lt0, zI_le0, zI_0lt, zI_0le, zI_eq0] <;> omega
      · simp (disch := omega) only [zI_lt, zI_le, zI_eq, zI_lt0, zI_le0, zI_0lt, zI_0le, zI_eq0] at c26
        have h22 := hz22 fd
        refine v_run 1 (pc' := 30) (ls' := [some (.ref (ad 200)), some (.int (zI ↑s)), some (.int (zI ↑fd))]) (st' := [.ref (ad 200)]) rfl ?_
        refine v_get rfl hm1.1 rfl ?_
        refine v_run 0 (pc' := 33) (ls' := [some (.ref (ad 200)), some (.int (zI ↑s)), some (.int (zI ↑fd))]) (st' := [.ref (ad 230)]) rfl ?_
        refine v_get rfl hm1.2.2.1.1.1 rfl ?_
        refine v_run 1 (pc' := 37) (ls' := [some (.ref (ad 200)), some (.int (zI ↑s)), some (.int (zI ↑fd))]) (st' := [.int (zI ↑fd), .ref (Sf ad 230 22)]) rfl ?_
        refine v_iaload' rfl hm1.2.2.1.2.2.1 (i := fd) rfl (by omega) ?_
        refine v_run 1 (pc' := 39) (ls' := [some (.ref (ad 200)), some (.int (zI ↑s)), some (.int (zI ↑fd))]) (st' := [.int (zI ↑s), .int (zI ↑(ζ 22 fd))]) rfl ?_
        refine v_icmp_eq rfl (fun c39 => ?_) (fun c39 => ?_)
        · refine v_run 1 (pc' := 48) (ls' := [some (.ref (ad 200)), some (.int (zI ↑s)), some (.int (zI ↑fd))]) (st' := [.ref (ad 200)]) rfl ?_
          refine v_get rfl hm1.1 rfl ?_
          refine v_run 1 (pc' := 52) (ls' := [some (.ref (ad 200)), some (.int (zI ↑s)), some (.int (zI ↑fd))]) (st' := [.int (zI 5), .int (zI (m1 9))]) rfl ?_
          refine v_icmp_ne rfl (fun c52 => ?_) (fun c52 => ?_)
          · exact absurd (by rw [hm1.2.2.2.2.1]) c52
          · refine v_run 2 (pc' := 68) (ls' := [some (.ref (ad 200)), some (.int (zI ↑s)), some (.int (zI ↑fd))]) (st' := [.int (zI 0)]) rfl ?_
            rw [o2, o3]
            exact v_iret rfl rfl rfl ⟨rfl, m1, hm1, hk1, hf1⟩
        · refine v_run 2 (pc' := 44) (ls' := [some (.ref (ad 200)), some (.int (zI ↑s)), some (.int (zI ↑fd))]) (st' := [.int (zI 2), .ref (ad 200)]) rfl ?_
          refine v_callV (My := mX10_flaw) (As := [.int (zI 2)]) (rest := []) (mc := 0) (ms := 0) rfl caX10_flaw rfl rfl rfl hm1.1 rfl rfl (g_flaw G _ (f := 2) hA hB hn hm1) rfl rfl (Nat.le_of_ble_eq_true rfl) (by omega) ?_
          rintro _ h2 ⟨rfl, m2, hm2, hk2, hf2⟩
          refine v_run 0 (pc' := 47) (ls' := [some (.ref (ad 200)), some (.int (zI ↑s)), some (.int (zI ↑fd))]) (st' := []) rfl ?_
          refine v_run 1 (pc' := 48) (ls' := [some (.ref (ad 200)), some (.int (zI ↑s)), some (.int (zI ↑fd))]) (st' := [.ref (ad 200)]) rfl ?_
          refine v_get rfl hm2.1 rfl ?_
          refine v_run 1 (pc' := 52) (ls' := [some (.ref (ad 200)), some (.int (zI ↑s)), some (.int (zI ↑fd))]) (st' := [.int (zI 5), .int (zI (m2 9))]) rfl ?_
          refine v_icmp_ne rfl (fun c52 => ?_) (fun c52 => ?_)
          · exact absurd (by rw [hm2.2.2.2.2.1]) c52
          · refine v_run 2 (pc' := 68) (ls' := [some (.ref (ad 200)), some (.int (zI ↑s)), some (.int (zI ↑fd))]) (st' := [.int (zI 0)]) rfl ?_
            rw [o2, o3]
            exact v_iret rfl rfl rfl ⟨rfl, m2, hm2, (hk1.tr hk2), (hf1.tr hf2)⟩
    · rw [if_neg hy]
      refine v_run 2 (pc' := 26) (ls' := [some (.ref (ad 200)), some (.int (zI ↑s)), some (.int (zI (-1)))]) (st' := [.int (zI (-1)), .int (zI (-1))]) rfl ?_
      refine v_icmp_eq rfl (fun c26 => ?_) (fun c26 => ?_)
      · refine v_run 2 (pc' := 44) (ls' := [some (.ref (ad 200)), some (.int (zI ↑s)), some (.int (zI (-1)))]) (st' := [.int (zI 2), .ref (ad 200)]) rfl ?_
        refine v_callV (My := mX10_flaw) (As := [.int (zI 2)]) (rest := []) (mc := 0) (ms := 0) rfl caX10_flaw rfl rfl rfl hm1.1 rfl rfl (g_flaw G _ (f := 2) hA hB hn hm1) rfl rfl (Nat.le_of_ble_eq_true rfl) (by omega) ?_
        rintro _ h2 ⟨rfl, m2, hm2, hk2, hf2⟩
        refine v_run 0 (pc' := 47) (ls' := [some (.ref (ad 200)), some (.int (zI ↑s)), some (.int (zI (-1)))]) (st' := []) rfl ?_
        refine v_run 1 (pc' := 48) (ls' := [some (.ref (ad 200)), some (.int (zI ↑s)), some (.int (zI (-1)))]) (st' := [.ref (ad 200)]) rfl ?_
        refine v_get rfl hm2.1 rfl ?_
        refine v_run 1 (pc' := 52) (ls' := [some (.ref (ad 200)), some (.int (zI ↑s)), some (.int (zI (-1)))]) (st' := [.int (zI 5), .int (zI (m2 9))]) rfl ?_
        refine v_icmp_ne rfl (fun c52 => ?_) (fun c52 => ?_)
        · exact absurd (by rw [hm2.2.2.2.2.1]) c52
        · refine v_run 2 (pc' := 68) (ls' := [some (.ref (ad 200)), some (.int (zI ↑s)), some (.int (zI (-1)))]) (st' := [.int (zI 0)]) rfl ?_
          rw [o2, o3]
          exact v_iret rfl rfl rfl ⟨rfl, m2, hm2, (hk1.tr hk2), (hf1.tr hf2)⟩
      · exact absurd rfl c26

set_option maxRecDepth 100000 in
set_option maxHeartbeats 400000 in
theorem g_rknown (G : ssG) (h : ssH) {ad : Nat → Nat} {sv : Value} {m : Nat → Int} {B : Nat → Int} {n : Nat} {ζ : zT} {u : pR Nat} {s : Nat} (hA : ∀ k l, ad k = ad l → k = l) (hB : ∀ k, -128 ≤ B k ∧ B k ≤ 127) (hn : n ≤ 900) (hm : MRd h ad sv m B n ζ u) (h11 : ζ 11 0 ≤ 17) (hz : ∀ k, ζ 21 k < 1099511627776) (hz22 : ∀ k, ζ 22 k ≤ 2) (hz23 : ∀ k, ζ 23 k < 6) (hs : s ≤ 2) : ssC G mX10_readKnown 8 0 0 [.ref (ad 200), .int (zI ↑s)] h (GQ ad sv m B n ζ (sb u (fun i => sb (pTold B n ζ s i) (fun _ => .inr (i + 1)))) (some (.int (zI ↑(vT (sb u (fun i => pTold B n ζ s i)))))) h) := by
  refine c_of_v okX10_readKnown (by decide +kernel) (ls := [some (.ref (ad 200)), some (.int (zI ↑s)), none]) rfl (Nat.le_of_ble_eq_true rfl) ?_
  refine v_run 2 (pc' := 2) (ls' := [some (.ref (ad 200)), some (.int (zI ↑s)), none]) (st' := [.int (zI ↑s), .ref (ad 200)]) rfl ?_
  refine v_callV (My := mX10_knownOne) (As := [.int (zI ↑s)]) (rest := []) (mc := 0) (ms := 0) rfl caX10_knownOne rfl rfl rfl hm.1 rfl rfl (g_known G _ hA hB hn hm h11 hz hz22 hz23 hs) rfl rfl (Nat.le_of_ble_eq_true rfl) (by omega) ?_
  rintro _ h1 ⟨rfl, m1, hm1, hk1, hf1⟩
  refine v_run 0 (pc' := 5) (ls' := [some (.ref (ad 200)), some (.int (zI ↑s)), none]) (st' := [.int (zI ↑(vT (sb u (fun i => pTold B n ζ s i))))]) rfl ?_
  refine v_run 2 (pc' := 7) (ls' := [some (.ref (ad 200)), some (.int (zI ↑s)), some (.int (zI ↑(vT (sb u (fun i => pTold B n ζ s i)))))]) (st' := [.ref (ad 200)]) rfl ?_
  refine v_callV (My := mX10_goesOn) (As := []) (rest := []) (mc := 0) (ms := 0) rfl caX10_goesOn rfl rfl rfl hm1.1 rfl rfl (g_on G _ hA hB hn hm1) rfl rfl (Nat.le_of_ble_eq_true rfl) (by omega) ?_
  rintro _ h2 ⟨rfl, m2, hm2, hk2, hf2⟩
  refine v_run 0 (pc' := 10) (ls' := [some (.ref (ad 200)), some (.int (zI ↑s)), some (.int (zI ↑(vT (sb u (fun i => pTold B n ζ s i)))))]) (st' := []) rfl ?_
  refine v_run 1 (pc' := 11) (ls' := [some (.ref (ad 200)), some (.int (zI ↑s)), some (.int (zI ↑(vT (sb u (fun i => pTold B n ζ s i)))))]) (st' := [.int (zI ↑(vT (sb u (fun i => pTold B n ζ s i))))]) rfl ?_
  rw [show sb u (fun i => sb (pTold B n ζ s i) (fun _ => .inr (i + 1))) = sb (sb u (fun i => sb (pTold B n ζ s i) (fun _ => .inr i))) (fun i => .inr (i + 1)) from by cases u with | inl e => rfl | inr i => show sb (pTold B n ζ s i) _ = sb (sb (pTold B n ζ s i) _) _; cases pTold B n ζ s i <;> rfl]
  exact v_iret rfl rfl rfl ⟨rfl, m2, hm2, (hk1.tr hk2), (hf1.tr hf2)⟩

