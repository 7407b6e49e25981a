theorem mm_law : mm_Law := sorry
