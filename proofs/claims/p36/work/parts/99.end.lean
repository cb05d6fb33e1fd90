theorem wq_end : True := trivial
