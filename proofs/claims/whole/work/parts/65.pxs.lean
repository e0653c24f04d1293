section PXS
variable {c n a k : Nat}
theorem PX0 (q : a = 16) : PX c n a k := Or.inl q
theorem PX1 (q : a = 40) : PX c n a k := Or.inr (Or.inl q)
theorem PX2 (q : a = 10) : PX c n a k := Or.inr (Or.inr (Or.inl q))
theorem PX3 (q : a = 13) : PX c n a k := Or.inr (Or.inr (Or.inr (Or.inl q)))
theorem PX4 (q : a = 37) : PX c n a k := Or.inr (Or.inr (Or.inr (Or.inr (Or.inl q))))
theorem PX5 (q : a % 64 = 24) : PX c n a k := Or.inr (Or.inr (Or.inr (Or.inr (Or.inr (Or.inl q)))))
theorem PX6 (q : a = 2594) : PX c n a k := Or.inr (Or.inr (Or.inr (Or.inr (Or.inr (Or.inr (Or.inl q))))))
theorem PX7 (q : a = 2722) : PX c n a k := Or.inr (Or.inr (Or.inr (Or.inr (Or.inr (Or.inr (Or.inr (Or.inl q)))))))
theorem PX8 (q : a % 64 = 32) : PX c n a k := Or.inr (Or.inr (Or.inr (Or.inr (Or.inr (Or.inr (Or.inr (Or.inr (Or.inl q))))))))
theorem PX9 (q : a % 64 = 33) : PX c n a k := Or.inr (Or.inr (Or.inr (Or.inr (Or.inr (Or.inr (Or.inr (Or.inr (Or.inr (Or.inl q)))))))))
theorem PX10 (q : a % 64 = 25) : PX c n a k := Or.inr (Or.inr (Or.inr (Or.inr (Or.inr (Or.inr (Or.inr (Or.inr (Or.inr (Or.inr (Or.inl q))))))))))
theorem PX11 (q : a % 64 = 26) : PX c n a k := Or.inr (Or.inr (Or.inr (Or.inr (Or.inr (Or.inr (Or.inr (Or.inr (Or.inr (Or.inr (Or.inr (Or.inl q)))))))))))
theorem PX12 (q : a % 64 = 27) : PX c n a k := Or.inr (Or.inr (Or.inr (Or.inr (Or.inr (Or.inr (Or.inr (Or.inr (Or.inr (Or.inr (Or.inr (Or.inr (Or.inl q))))))))))))
theorem PX13 (q : a = 1314) : PX c n a k := Or.inr (Or.inr (Or.inr (Or.inr (Or.inr (Or.inr (Or.inr (Or.inr (Or.inr (Or.inr (Or.inr (Or.inr (Or.inr (Or.inl q)))))))))))))
theorem PX14 (q : a = 1378) : PX c n a k := Or.inr (Or.inr (Or.inr (Or.inr (Or.inr (Or.inr (Or.inr (Or.inr (Or.inr (Or.inr (Or.inr (Or.inr (Or.inr (Or.inr (Or.inl q))))))))))))))
theorem PX15 (q : a = 2210) : PX c n a k := Or.inr (Or.inr (Or.inr (Or.inr (Or.inr (Or.inr (Or.inr (Or.inr (Or.inr (Or.inr (Or.inr (Or.inr (Or.inr (Or.inr (Or.inr (Or.inl q)))))))))))))))
theorem PX16 (q : a = 2466) : PX c n a k := Or.inr (Or.inr (Or.inr (Or.inr (Or.inr (Or.inr (Or.inr (Or.inr (Or.inr (Or.inr (Or.inr (Or.inr (Or.inr (Or.inr (Or.inr (Or.inr (Or.inl q))))))))))))))))
theorem PX17 (q : a = 2530) : PX c n a k := Or.inr (Or.inr (Or.inr (Or.inr (Or.inr (Or.inr (Or.inr (Or.inr (Or.inr (Or.inr (Or.inr (Or.inr (Or.inr (Or.inr (Or.inr (Or.inr (Or.inr (Or.inl q)))))))))))))))))
theorem PXm (q : a = 11 ∧ 46 ≤ k ∧ k ≤ 50 ∧ k ≠ 48) : PX c n a k := Or.inr (Or.inr (Or.inr (Or.inr (Or.inr (Or.inr (Or.inr (Or.inr (Or.inr (Or.inr (Or.inr (Or.inr (Or.inr (Or.inr (Or.inr (Or.inr (Or.inr (Or.inr (Or.inl q))))))))))))))))))
theorem PXc (q : a = 64 * c + 21 ∧ (3 ≤ k ∧ k ≤ 7 ∧ k ≠ 6)) : PX c n a k := Or.inr (Or.inr (Or.inr (Or.inr (Or.inr (Or.inr (Or.inr (Or.inr (Or.inr (Or.inr (Or.inr (Or.inr (Or.inr (Or.inr (Or.inr (Or.inr (Or.inr (Or.inr (Or.inr (Or.inl q)))))))))))))))))))
theorem PXn (q : a = 64 * n + 20 ∧ 6 ≤ k ∧ k ≤ 10) : PX c n a k := Or.inr (Or.inr (Or.inr (Or.inr (Or.inr (Or.inr (Or.inr (Or.inr (Or.inr (Or.inr (Or.inr (Or.inr (Or.inr (Or.inr (Or.inr (Or.inr (Or.inr (Or.inr (Or.inr (Or.inr (Or.inl q))))))))))))))))))))
theorem PXb (q : (a = 418 ∨ a = 482 ∨ a = 546 ∨ a = 610 ∨ a = 354) ∧ k = n) : PX c n a k := Or.inr (Or.inr (Or.inr (Or.inr (Or.inr (Or.inr (Or.inr (Or.inr (Or.inr (Or.inr (Or.inr (Or.inr (Or.inr (Or.inr (Or.inr (Or.inr (Or.inr (Or.inr (Or.inr (Or.inr (Or.inr (Or.inl q)))))))))))))))))))))
theorem PXd (q : (a = 1634 ∨ a = 1698 ∨ a = 1762) ∧ k = c) : PX c n a k := Or.inr (Or.inr (Or.inr (Or.inr (Or.inr (Or.inr (Or.inr (Or.inr (Or.inr (Or.inr (Or.inr (Or.inr (Or.inr (Or.inr (Or.inr (Or.inr (Or.inr (Or.inr (Or.inr (Or.inr (Or.inr (Or.inr (Or.inl q))))))))))))))))))))))
theorem PXs (q : a % 64 = 22 ∧ (k = 4 ∨ k = 12 ∨ k = 13)) : PX c n a k := Or.inr (Or.inr (Or.inr (Or.inr (Or.inr (Or.inr (Or.inr (Or.inr (Or.inr (Or.inr (Or.inr (Or.inr (Or.inr (Or.inr (Or.inr (Or.inr (Or.inr (Or.inr (Or.inr (Or.inr (Or.inr (Or.inr (Or.inr (q)))))))))))))))))))))))
end PXS
section PXT
variable {h h2 : y_H} {c n : Nat}
theorem PXx (g : ag (fun a k => a = 16 ∧ k = 1 ∨ a = 40 ∨ a = 64 * c + 21 ∧ k = 7) (fun _ => False) h h2) : ag (PX c n) (fun a => a % 64 = 24) h h2 := g.mono (fun a k q => by
  rcases q with q | q | q
  · exact PX0 q.1
  · exact PX1 q
  · exact PXc ⟨q.1, by omega⟩) (fun a q => q.elim)
theorem PXnt (g : ag (fun a k => a = 13 ∧ (k = 2 ∨ k = 3 ∨ k = 4) ∨ a = 37 ∨ a % 64 = 24) (fun a => a % 64 = 24) h h2) : ag (PX c n) (fun a => a % 64 = 24) h h2 := g.mono (fun a k q => by
  rcases q with q | q | q
  · exact PX3 q.1
  · exact PX4 q
  · exact PX5 q) (fun a q => q)
theorem PXh (g : ag (fun a k => a = 64 * n + 20 ∧ 6 ≤ k ∧ k ≤ 10 ∨ a = 64 * c + 21 ∧ (k = 4 ∨ k = 5 ∨ k = 7) ∨ a = 10 ∧ k = 6) (fun _ => False) h h2) : ag (PX c n) (fun a => a % 64 = 24) h h2 := g.mono (fun a k q => by
  rcases q with q | q | q
  · exact PXn q
  · exact PXc ⟨q.1, by omega⟩
  · exact PX2 q.1) (fun a q => q.elim)
theorem PXmk (g : ag (fun a k => a = 11 ∧ k = 46 ∨ a = 2594) (fun _ => False) h h2) : ag (PX c n) (fun a => a % 64 = 24) h h2 := g.mono (fun a k q => by
  rcases q with q | q
  · exact PXm ⟨q.1, by omega⟩
  · exact PX6 q) (fun a q => q.elim)
theorem PXf (g : ag (fun a k => a = 2722 ∨ a = 11 ∧ (k = 47 ∨ k = 49 ∨ k = 50) ∨ (a = 354 ∨ a = 418 ∨ a = 482 ∨ a = 546 ∨ a = 610) ∧ k = n ∨ (a = 1698 ∨ a = 1762) ∧ k = c) (fun _ => False) h h2) : ag (PX c n) (fun a => a % 64 = 24) h h2 := g.mono (fun a k q => by
  rcases q with q | q | q | q
  · exact PX7 q
  · exact PXm ⟨q.1, by omega⟩
  · exact PXb ⟨by omega, q.2⟩
  · exact PXd ⟨by omega, q.2⟩) (fun a q => q.elim)
end PXT
