/** Term 5 and promises 48 and 51: drinking, and what would be drunk. */
final class EdgeDrinks extends Edge {
    static void tests() {
        whereAndWho();
        order();
        untilFullOrEmpty();
        wouldDrink();
        drink();
    }

    /** Camels 1 and 2 have the least water, camel 0 the most; the well at kilometre 20 has so many litres. */
    private static CaravanRoute thirsty(int litres) {
        CaravanRoute x = loaded("route 999;camel 20 9 90;camel 20 9 30;camel 20 9 30;camel 20 9 31;well 20 " + litres + " 0;");
        x.travel();
        return x;
    }

    private static String waters(CaravanRoute x) {
        StringBuilder text = new StringBuilder();
        for (int camel = 0; camel < x.camelCount(); camel++) {
            text.append(camel == 0 ? "" : " ").append(x.water(camel));
        }
        return text.toString();
    }

    private static void whereAndWho() {
        term(5, "If the caravan is at a well, the living camels can drink.", () -> {
            CaravanRoute x = loaded("route 999;camel 20 9 90;well 0 9 9;well 19 9 9;well 21 9 9;well 40 9 9;");
            same("drink at kilometre 0", x.drink(), 0);
            x.travel();
            Check.badState("drink one kilometre before and behind", () -> x.drink());
            x.travel();
            same("drink", x.drink(), 9);
            CaravanRoute y = loaded("route 20;camel 20 9 90;well 20 9 9;");
            y.travel();
            same("drink at the end", y.drink(), 5);
            CaravanRoute z = loaded("route 999;camel 20 9 10;camel 20 9 90;well 0 99 99;");
            rest(z, 6);
            same("the living drink", z.drink(), 18);
            same("water of the dead", waters(z), "0 90");
            rest(z, 33);
            same("livingCamels", z.livingCamels(), 0);
            same("nobody drinks", z.drink(), 0);
        });
    }

    private static void order() {
        term(5, "They drink one after the other: first the camel with the least water", () -> {
            CaravanRoute x = loaded("route 999;camel 20 9 90;camel 20 9 30;camel 20 9 29;camel 20 9 31;well 20 6 0;");
            x.travel();
            same("water", waters(x), "85 25 24 26");
            x.drink();
            same("camel 2 first, then camel 1", waters(x), "85 26 29 26");
            CaravanRoute y = loaded("route 999;" + "camel 20 9 31;".repeat(9) + "camel 20 9 30;well 20 1 0;");
            y.travel();
            y.drink();
            same("the last of ten", waters(y), "26 26 26 26 26 26 26 26 26 26");
        });
        term(5, "the lowest number of several", () -> {
            CaravanRoute x = thirsty(1);
            x.drink();
            same("one litre for camels 1 and 2", waters(x), "85 26 25 26");
            CaravanRoute y = loaded("route 999;" + "camel 20 9 30;".repeat(10) + "well 20 6 0;");
            y.travel();
            y.drink();
            same("six litres for ten", waters(y), "30 26 25 25 25 25 25 25 25 25");
        });
    }

    private static void untilFullOrEmpty() {
        term(5, "Each one drinks until its tank is full or the well is empty.", () -> {
            String[] due = {"85 26 25 26", "85 29 25 26", "85 30 25 26", "85 30 26 26", "85 30 29 26", "85 30 30 26",
                "85 30 30 27", "85 30 30 31", "86 30 30 31", "89 30 30 31", "90 30 30 31", "90 30 30 31"};
            int[] litres = {1, 4, 5, 6, 9, 10, 11, 15, 16, 19, 20, 21};
            for (int i = 0; i < litres.length; i++) {
                CaravanRoute x = thirsty(litres[i]);
                same("drink from " + litres[i], x.drink(), Math.min(20, litres[i]));
                same("water after " + litres[i], waters(x), due[i]);
                same("wellLevel after " + litres[i], x.wellLevel(0), Math.max(0, litres[i] - 20));
                same("drink again", x.drink(), 0);
                same("water after a second drink", waters(x), due[i]);
            }
        });
    }

    private static void wouldDrink() {
        promise(48, "Returns the litres that it would drink if the camels drank now", () -> {
            int[] litres = {1, 4, 5, 6, 9, 10, 11, 15, 16, 20, 21, 999};
            for (int level : litres) {
                CaravanRoute x = thirsty(level);
                int sum = 0;
                int[] would = new int[4];
                for (int camel = 0; camel < 4; camel++) {
                    would[camel] = x.wouldDrink(camel);
                    sum += would[camel];
                }
                same("all would drink of " + level, sum, Math.min(level, 20));
                int[] water = {x.water(0), x.water(1), x.water(2), x.water(3)};
                x.drink();
                for (int camel = 0; camel < 4; camel++) {
                    same("what " + camel + " drank of " + level, x.water(camel) - water[camel], would[camel]);
                }
                same("wouldDrink with a full tank or an empty well", x.wouldDrink(1), 0);
            }
            CaravanRoute y = loaded("route 999;camel 10 1 90;well 90 999 0;");
            travel(y, 9);
            same("wouldDrink", y.wouldDrink(0), 45);
            CaravanRoute z = loaded("route 999;camel 10 1 90;well 190 999 0;");
            travel(z, 19);
            same("the most: 90 by one without water", z.wouldDrink(0), 90);
        });
        promise(48, "0 if it is dead", () -> {
            CaravanRoute x = loaded("route 999;camel 20 9 10;camel 20 9 90;well 0 99 99;");
            rest(x, 5);
            same("wouldDrink with 2 dry days", x.wouldDrink(0), 10);
            x.rest();
            same("isDead", x.isDead(0), true);
            same("wouldDrink of the dead", x.wouldDrink(0), 0);
            same("wouldDrink of the living", x.wouldDrink(1), 18);
        });
        promise(48, "Throws `IllegalStateException` if the caravan is not at a well", () -> {
            refused("wouldDrink on the way", STATE, Made::busyOnTheWay, x -> x.wouldDrink(0));
            refused("wouldDrink without wells", STATE, () -> loaded(ROUTE), x -> x.wouldDrink(0));
            refused("wouldDrink one kilometre before and behind", STATE, () -> {
                CaravanRoute x = loaded("route 20;camel 10 1 90;well 9 1 0;well 11 1 0;");
                x.travel();
                return x;
            }, x -> x.wouldDrink(0));
            refused("wouldDrink of the dead on the way", STATE, Made::allDead, x -> x.wouldDrink(0));
        });
    }

    private static void drink() {
        promise(51, "Lets the living camels drink.", () -> {
            CaravanRoute x = thirsty(999);
            x.drink();
            same("water", waters(x), "90 30 30 31");
            same("day", x.day(), 1);
            same("kilometre", x.kilometre(), 20);
            CaravanRoute y = Made.onDay(200);
            same("drink on day 200", y.wouldDrink(0), 0);
            y.undo();
            same("drink on day 200", y.drink(), 75);
        });
        promise(51, "Returns the litres that are drunk.", () -> {
            same("drink with full tanks", loaded("route 999;camel 20 9 90;well 0 9 0;").drink(), 0);
            same("the last litre", thirsty(1).drink(), 1);
            same("all litres but one", thirsty(21).drink(), 20);
            CaravanRoute x = loaded("route 999;" + "camel 10 9 90;".repeat(10) + "well 190 999 0;");
            travel(x, 19);
            same("the most: 90 by each of ten without water", x.drink(), 900);
            same("wellLevel", x.wellLevel(0), 99);
            same("drink again", x.drink(), 0);
            CaravanRoute y = thirsty(5);
            y.drink();
            same("drink from an empty well", y.drink(), 0);
        });
        promise(51, "Throws `IllegalStateException` if the caravan is not at a well", () -> {
            refused("drink on the way", STATE, Made::busyOnTheWay, x -> x.drink());
            refused("drink without wells", STATE, () -> loaded(ROUTE), x -> x.drink());
            refused("drink one kilometre before and behind", STATE, () -> {
                CaravanRoute x = loaded("route 20;camel 10 1 90;well 9 1 0;well 11 1 0;");
                x.travel();
                return x;
            }, x -> x.drink());
        });
    }
}
