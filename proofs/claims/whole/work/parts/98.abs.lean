theorem abs_ok : ABS := sorry
