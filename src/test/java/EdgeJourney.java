/** Promises 44 to 47, 49 and 50: predictions, and the calls that pass a day. */
final class EdgeJourney extends Edge {
    static void tests() {
        today();
        livingAfter();
        daysToArrival();
        travel();
        travelRefused();
        restCalls();
    }

    private static void today() {
        promise(44, "Returns the distance of today if the caravan travelled now", () -> {
            for (int storm = 0; storm < 10; storm++) {
                String storms = storm == 0 ? "" : "storm 0 0 " + storm + ";";
                for (String route : new String[] {"route 999;", "route 10;"}) {
                    CaravanRoute x = loaded(route + "camel 60 9 90;well 7 1 1;" + storms);
                    for (int i = 0; i < 2; i++) {
                        int distance = x.distanceToday();
                        same("travel in a storm of " + storm, x.travel(), distance);
                        x.undo();
                        x.setStopping(true);
                    }
                }
            }
            same("the greatest", loaded("route 999;camel 60 9 90;").distanceToday(), 60);
            same("the least", loaded("route 999;camel 10 9 90;storm 0 0 9;load 60 1 on 0;").distanceToday(), 0);
        });
        promise(44, "(0 if it has arrived, or no camel is alive)", () -> {
            CaravanRoute x = Made.arrived();
            same("arrived", x.distanceToday(), 0);
            x.undo();
            same("not yet arrived", x.distanceToday(), 50);
            CaravanRoute y = Made.allDead();
            same("no camel is alive", y.distanceToday(), 0);
            y.undo();
            same("they live", y.distanceToday(), 30);
        });
        promise(45, "Returns the litres that it needs today if the caravan travels", () -> {
            CaravanRoute x = loaded("route 999;camel 60 9 90;camel 60 9 90;storm 1 1 9;load 90 1 on 0;load 90 1 on 0;");
            same("the least", x.needToday(1), 5);
            same("with 180 kg", x.needToday(0), 12);
            x.travel();
            same("in a storm of 9", x.needToday(1), 14);
            same("the most: 180 kg in a storm of 9", x.needToday(0), 21);
            x.travel();
            same("water", x.water(0), 90 - 12 - 21);
            same("needToday after the storm", x.needToday(1), 5);
            same("needToday at the end", Made.arrived().needToday(0), 5);
        });
        promise(45, "0 if it is dead", () -> {
            CaravanRoute x = loaded("route 999;camel 20 9 10;camel 20 9 90;");
            rest(x, 5);
            same("needToday with 2 dry days", x.needToday(0), 5);
            x.rest();
            same("needToday of the dead", x.needToday(0), 0);
            same("needToday of the living", x.needToday(1), 5);
        });
    }

    private static void livingAfter() {
        promise(46, "`days`: 0 to 50", () -> {
            CaravanRoute x = loaded("route 999;camel 10 1 90;");
            same("livingAfter(0)", x.livingAfter(0), 1);
            same("livingAfter(1)", x.livingAfter(1), 1);
            same("livingAfter(49)", x.livingAfter(49), 0);
            same("livingAfter(50)", x.livingAfter(50), 0);
        });
        promise(46, "Returns the number of living camels after so many days of travel from now on", () -> {
            CaravanRoute x = loaded("route 999;camel 10 1 10;camel 10 1 14;camel 10 1 15;camel 10 1 90;");
            int[] due = {4, 4, 4, 4, 4, 2, 1, 1};
            for (int days = 0; days < due.length; days++) {
                same("livingAfter " + days, x.livingAfter(days), due[days]);
            }
            same("livingAfter(20)", x.livingAfter(20), 1);
            same("livingAfter(21)", x.livingAfter(21), 0);
            for (int day = 1; day < due.length; day++) {
                x.travel();
                same("livingAfter(0) on day " + day, x.livingAfter(0), due[day]);
                same("livingAfter(1) on day " + day, x.livingAfter(1), due[Math.min(day + 1, 7)]);
            }
            same("livingAfter(0) of the dead", Made.allDead().livingAfter(0), 0);
            same("livingAfter(50) of the dead", Made.allDead().livingAfter(50), 0);
        });
        promise(46, "if the caravan travels on each of them as long as it can", () -> {
            String two = "camel 10 1 10;camel 10 1 90;";
            same("it arrives on the day before one would die", loaded("route 40;" + two).livingAfter(50), 2);
            same("it arrives on the day on which one dies", loaded("route 41;" + two).livingAfter(50), 1);
            same("it has arrived", Made.arrived().livingAfter(50), 2);
            CaravanRoute x = Made.onDay(200);
            same("it cannot travel on day 200", x.livingAfter(50), 1);
            CaravanRoute y = Made.onDay(180);
            y.drink();
            same("20 days are left, and it dies on the 21st", y.livingAfter(50), 1);
            CaravanRoute z = Made.onDay(179);
            z.drink();
            same("21 days are left", z.livingAfter(50), 0);
        });
        promise(46, "and nobody drinks", () -> {
            CaravanRoute x = loaded("route 999;camel 10 1 10;well 0 999 99;well 10 999 99;well 20 999 99;well 30 999 99;");
            x.setStopping(true);
            same("livingAfter(4)", x.livingAfter(4), 1);
            same("livingAfter(5)", x.livingAfter(5), 0);
        });
        promise(46, "Throws `IllegalArgumentException` if days is out of range", () ->
            refusedNumbers("livingAfter", ARGUMENT, Made::busy, (x, days) -> x.livingAfter(days), -1, 51));
    }

    private static void daysToArrival() {
        promise(47, "Returns the number of days of travel until the caravan has arrived", () -> {
            same("one day to the very end", loaded("route 60;camel 60 1 90;").daysToArrival(), 1);
            same("one kilometre more", loaded("route 61;camel 60 1 90;").daysToArrival(), 2);
            CaravanRoute x = Made.arrived();
            same("arrived", x.daysToArrival(), 0);
            x.undo();
            same("one day before", x.daysToArrival(), 1);
            same("the longest: it dies on the day on which it arrives", loaded("route 200;camel 10 1 90;").daysToArrival(), 20);
            same("the longest: it dies on the day on which it arrives", loaded("route 210;camel 10 1 90;").daysToArrival(), 21);
            same("a day of no distance counts", loaded("route 10;camel 10 9 90;storm 0 0 9;load 60 1 on 0;").daysToArrival(), 3);
        });
        promise(47, "if it travels on each of them and nobody drinks", () -> {
            CaravanRoute x = loaded("route 50;camel 10 1 10;well 0 999 99;well 10 999 99;well 20 999 99;well 30 999 99;");
            same("it arrives on the day on which it dies", x.daysToArrival(), 5);
            CaravanRoute y = loaded("route 51;camel 10 1 10;well 0 999 99;well 10 999 99;well 20 999 99;well 30 999 99;");
            Check.noSuch("it dies one kilometre before", () -> y.daysToArrival());
        });
        promise(47, "Throws `NoSuchElementException` if it does not arrive in this way, because no camel is alive any more", () -> {
            refused("daysToArrival of the dead", NO_SUCH, Made::allDead, x -> x.daysToArrival());
            refused("daysToArrival one kilometre too far", NO_SUCH, () -> loaded("route 211;camel 10 1 90;"), x -> x.daysToArrival());
            refused("daysToArrival of the farthest", NO_SUCH, () -> loaded("route 999;" + "camel 10 1 90;".repeat(10)),
                x -> x.daysToArrival());
        });
        promise(47, "or the day 200 is reached", () -> {
            refused("daysToArrival on day 200", NO_SUCH, () -> Made.onDay(200), x -> x.daysToArrival());
            refused("daysToArrival with two days to go on day 199", NO_SUCH, () -> shortRoute(199, 20), x -> x.daysToArrival());
            same("daysToArrival with two days to go on day 198", shortRoute(198, 20).daysToArrival(), 2);
            same("daysToArrival with one day to go on day 199", shortRoute(199, 10).daysToArrival(), 1);
            refused("daysToArrival with one day to go on day 200", NO_SUCH, () -> shortRoute(200, 10), x -> x.daysToArrival());
            CaravanRoute x = shortRoute(199, 10);
            x.travel();
            same("daysToArrival at the end on day 200", x.daysToArrival(), 0);
        });
    }

    /** It has rested at kilometre 0 until this day. */
    private static CaravanRoute shortRoute(int day, int length) {
        CaravanRoute x = loaded("route " + length + ";camel 10 9 90;well 0 999 99;");
        for (int i = 1; i <= day; i++) {
            x.rest();
            if (i % 25 == 0) {
                x.drink();
            }
        }
        return x;
    }

    private static void travel() {
        promise(49, "Travels for a day.", () -> {
            CaravanRoute x = new CaravanRoute();
            x.travel();
            same("kilometre", x.kilometre(), 40);
            same("day", x.day(), 1);
            same("water", x.water(1), 72);
            same("strain", x.strain(1), 17);
            CaravanRoute y = Made.onDay(199);
            y.travel();
            same("day", y.day(), 200);
            same("kilometre", y.kilometre(), 10);
        });
        promise(49, "Returns the distance.", () -> {
            same("the greatest", loaded("route 999;camel 60 1 90;").travel(), 60);
            same("the least", loaded("route 999;camel 10 9 90;storm 0 0 9;load 60 1 on 0;").travel(), 0);
            CaravanRoute x = loaded("route 61;camel 60 1 90;");
            same("one kilometre less than the route", x.travel(), 60);
            same("what is left", x.travel(), 1);
            CaravanRoute y = loaded("route 999;camel 10 1 10;");
            travel(y, 4);
            same("on the day of its death", y.travel(), 10);
        });
    }

    private static void travelRefused() {
        promise(49, "Throws `IllegalStateException` if the caravan has arrived", () -> {
            refused("travel at the end", STATE, Made::arrived, x -> x.travel());
            CaravanRoute x = loaded("route 61;camel 60 1 90;");
            x.travel();
            same("travel one kilometre before the end", x.travel(), 1);
            Check.badState("travel at the end", () -> x.travel());
        });
        promise(49, "no camel is alive", () -> {
            refused("travel of the dead", STATE, Made::allDead, x -> x.travel());
            CaravanRoute x = Made.allDead();
            x.undo();
            same("travel with 2 dry days", x.travel(), 30);
        });
        promise(49, "or the day is 200", () -> {
            refused("travel on day 200", STATE, () -> Made.onDay(200), x -> x.travel());
            same("travel on day 199", Made.onDay(199).travel(), 10);
        });
    }

    private static void restCalls() {
        promise(50, "Rests for a day.", () -> {
            CaravanRoute x = new CaravanRoute();
            x.travel();
            x.rest();
            same("kilometre", x.kilometre(), 40);
            same("day", x.day(), 2);
            same("water", x.water(1), 68);
            same("strain", x.strain(1), 7);
            CaravanRoute y = Made.onDay(199);
            y.rest();
            same("day", y.day(), 200);
        });
        promise(50, "Returns the number of living camels afterwards.", () -> {
            CaravanRoute x = loaded("route 999;camel 10 1 10;camel 10 1 13;");
            int[] due = {2, 2, 2, 2, 2, 1, 0};
            for (int day = 0; day < due.length; day++) {
                same("rest on day " + day, x.rest(), due[day]);
            }
            same("rest of ten", loaded("route 50;" + CAMEL.repeat(10)).rest(), 10);
        });
        promise(50, "Throws `IllegalStateException` if no camel is alive", () -> {
            refused("rest of the dead", STATE, Made::allDead, x -> x.rest());
            refused("rest of the dead at the end", STATE, () -> {
                CaravanRoute x = loaded("route 50;camel 10 1 10;");
                travel(x, 5);
                return x;
            }, x -> x.rest());
            CaravanRoute x = Made.allDead();
            x.undo();
            same("rest with 2 dry days", x.rest(), 0);
        });
        promise(50, "or the day is 200", () -> {
            refused("rest on day 200", STATE, () -> Made.onDay(200), x -> x.rest());
            same("rest on day 199", Made.onDay(199).rest(), 1);
            refused("rest on day 200 at the end", STATE, () -> {
                CaravanRoute x = shortRoute(199, 10);
                x.travel();
                return x;
            }, x -> x.rest());
        });
    }
}
