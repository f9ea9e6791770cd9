theorem prOk_all : prOk := sorry
