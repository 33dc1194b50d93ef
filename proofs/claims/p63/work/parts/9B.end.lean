theorem am_end : True := trivial
