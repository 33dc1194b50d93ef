/** Term 1 and promises 7 to 19: the route, its storms and its wells. */
final class EdgeRoute extends Edge {
    static void tests() {
        route();
        storms();
        wells();
        routeCalls();
        stormOn();
        whatWellsHave();
        wellsOnTheWay();
        drunk();
    }

    private static void route() {
        term(1, "The route has a length of 10 to 999 kilometres.", () -> {
            wrong("route 9;" + CAMEL, 6);
            same("length", loaded("route 10;" + CAMEL).length(), 10);
            same("length", loaded("route 11;" + CAMEL).length(), 11);
            same("length", loaded("route 998;" + CAMEL).length(), 998);
            same("length", loaded("route 999;" + CAMEL).length(), 999);
            wrong("route 1000;" + CAMEL, 6);
            wrong("route 0;" + CAMEL, 6);
        });
        term(1, "The caravan is at kilometre 0 at first", () -> {
            same("kilometre", new CaravanRoute().kilometre(), 0);
            CaravanRoute x = Made.arrived();
            Check.feed(x, ROUTE);
            x.load();
            same("kilometre after load", x.kilometre(), 0);
        });
        term(1, "has arrived when it is at the end of the route", () -> {
            CaravanRoute x = loaded("route 41;camel 40 3 90;");
            same("hasArrived at first", x.hasArrived(), false);
            x.travel();
            same("hasArrived one kilometre before the end", x.hasArrived(), false);
            x.travel();
            same("hasArrived at the end", x.hasArrived(), true);
            x.rest();
            same("hasArrived after a rest at the end", x.hasArrived(), true);
            x.undo();
            x.undo();
            same("hasArrived after undo", x.hasArrived(), false);
        });
        term(1, "The day is 0 at first and at most 200.", () -> {
            same("day", new CaravanRoute().day(), 0);
            CaravanRoute x = Made.onDay(199);
            same("day", x.day(), 199);
            x.rest();
            same("day", x.day(), 200);
            Check.badState("rest on day 200", () -> x.rest());
            Check.badState("travel on day 200", () -> x.travel());
            same("day", x.day(), 200);
        });
    }

    private static void storms() {
        term(1, "A storm has a first day, a last day and a strength of 1 to 9.", () -> {
            for (int strength : new int[] {1, 2, 8, 9}) {
                CaravanRoute x = loaded(ROUTE + "storm 4 6 " + strength + ";storm 9 9 " + strength + ";");
                int[] due = {0, 0, 0, 0, 1, 1, 1, 0, 0, 1, 0};
                for (int day = 0; day < due.length; day++) {
                    same("stormOn " + day, x.stormOn(day), due[day] * strength);
                }
            }
            wrong(ROUTE + "storm 4 6 0;", 33);
            wrong(ROUTE + "storm 4 6 10;", 33);
        });
        term(1, "There are at most 6 storms.", () -> {
            same("no storm", loaded(ROUTE).stormOn(0), 0);
            String five = ROUTE + "storm 1 1 1;".repeat(5);
            same("stormOn(7)", loaded(five).stormOn(7), 0);
            same("the sixth storm", loaded(five + "storm 7 7 9;").stormOn(7), 9);
            wrong(five + "storm 7 7 9;storm 8 8 9;", 23 + 72);
        });
        term(1, "The storm of a day is the greatest strength of the storms of this day", () -> {
            for (String text : new String[] {"storm 1 4 3;storm 2 5 8;storm 3 3 5;", "storm 3 3 5;storm 2 5 8;storm 1 4 3;",
                "storm 2 5 8;storm 1 4 3;storm 3 3 5;"}) {
                CaravanRoute x = loaded(ROUTE + text);
                int[] due = {0, 3, 8, 8, 8, 8, 0};
                for (int day = 0; day < due.length; day++) {
                    same("stormOn " + day, x.stormOn(day), due[day]);
                }
            }
            same("two equal storms", loaded(ROUTE + "storm 1 1 6;storm 1 1 6;").stormOn(1), 6);
        });
        term(1, "it is 0 if there is none", () -> {
            CaravanRoute x = loaded(ROUTE + "storm 1 1 9;storm 3 3 9;");
            for (int day : new int[] {0, 2, 4, 200, 999}) {
                same("stormOn " + day, x.stormOn(day), 0);
            }
            CaravanRoute y = loaded(ROUTE);
            for (int day : new int[] {0, 1, 199, 200, 201, 999}) {
                same("stormOn without storms " + day, y.stormOn(day), 0);
            }
        });
    }

    private static String wells(int count) {
        StringBuilder text = new StringBuilder(ROUTE);
        for (int well = 0; well < count; well++) {
            text.append("well ").append(well * 7).append(" 9 9;");
        }
        return text.toString();
    }

    private static void wells() {
        term(1, "There are at most 8 wells, numbered from 0.", () -> {
            same("wellCount", loaded(ROUTE).wellCount(), 0);
            CaravanRoute x = loaded(wells(8));
            same("wellCount", x.wellCount(), 8);
            for (int well = 0; well < 8; well++) {
                same("wellKilometre " + well, x.wellKilometre(well), well * 7);
            }
            wrong(wells(8) + "well 50 9 9;", wells(8).length());
        });
        term(1, "A well is at a kilometre, and no two wells are at the same one.", () -> {
            wrong(ROUTE + "well 7 1 1;well 7 1 1;", 39);
            wrong(ROUTE + "well 0 1 1;well 000 1 1;", 39);
            wrong(ROUTE + "well 50 1 1;well 50 1 1;", 40);
            wrong(wells(7) + "well 0 9 9;", wells(7).length() + 5);
            wrong(wells(7) + "well 42 9 9;", wells(7).length() + 5);
            same("neighbours", loaded(ROUTE + "well 6 1 1;well 7 1 1;well 5 1 1;").wellCount(), 3);
            CaravanRoute x = loaded(wells(8));
            Check.feed(x, wells(8));
            same("the wells of the text before are gone", x.load(), 1);
        });
        term(1, "It has a capacity of 1 to 999 litres", () -> {
            wrong(ROUTE + "well 7 0 1;", 30);
            for (int capacity : new int[] {1, 2, 998, 999}) {
                same("wellCapacity", loaded(ROUTE + "well 7 " + capacity + " 1;").wellCapacity(0), capacity);
            }
            wrong(ROUTE + "well 7 1000 1;", 30);
        });
        term(1, "a refill of 0 to 99 litres", () -> {
            for (int refill : new int[] {0, 1, 98, 99}) {
                CaravanRoute x = loaded("route 50;camel 10 9 90;camel 10 9 90;well 0 999 " + refill + ";");
                rest(x, 29);
                same("drink", x.drink(), 174);
                same("wellLevel", x.wellLevel(0), 825);
                x.rest();
                same("wellLevel after the refill of " + refill, x.wellLevel(0), 825 + refill);
            }
            wrong(ROUTE + "well 7 1 100;", 32);
            wrong(ROUTE + "well 7 1 999;", 32);
        });
        term(1, "and a level, which is the capacity at first", () -> {
            CaravanRoute x = loaded(ROUTE + "well 7 1 0;well 8 999 99;well 0 50 1;");
            same("wellLevel", x.wellLevel(0), 1);
            same("wellLevel", x.wellLevel(1), 999);
            same("wellLevel", x.wellLevel(2), 50);
            CaravanRoute y = Made.eightWells();
            Check.feed(y, ROUTE + "well 7 1 0;well 8 999 99;");
            y.load();
            same("wellLevel after load", y.wellLevel(0), 1);
            same("wellLevel after load", y.wellLevel(1), 999);
        });
    }

    private static void routeCalls() {
        promise(7, "Returns the length of the route.", () -> {
            same("length", loaded("route 10;" + CAMEL).length(), 10);
            same("length", loaded("route 999;" + CAMEL).length(), 999);
            same("length after arrival", Made.arrived().length(), 100);
        });
        promise(8, "Returns the kilometre of the caravan.", () -> {
            CaravanRoute x = loaded("route 999;camel 60 3 90;");
            same("kilometre", x.kilometre(), 0);
            for (int i = 1; i <= 16; i++) {
                x.travel();
                same("kilometre", x.kilometre(), i * 60);
            }
            x.travel();
            same("kilometre at the end", x.kilometre(), 999);
            CaravanRoute y = loaded("route 10;camel 60 3 90;");
            y.travel();
            same("kilometre, not behind the end", y.kilometre(), 10);
        });
        promise(9, "Returns whether the caravan has arrived.", () -> {
            CaravanRoute x = loaded("route 61;camel 60 1 90;");
            same("hasArrived", x.hasArrived(), false);
            x.travel();
            same("hasArrived at 60 of 61", x.hasArrived(), false);
            x.travel();
            same("hasArrived at 61 of 61", x.hasArrived(), true);
        });
        promise(10, "Returns the day.", () -> {
            CaravanRoute x = new CaravanRoute();
            same("day", x.day(), 0);
            x.rest();
            same("day", x.day(), 1);
            x.travel();
            same("day", x.day(), 2);
            x.undo();
            same("day", x.day(), 1);
            CaravanRoute y = Made.onDay(200);
            same("day", y.day(), 200);
            y.undo();
            same("day before a drink", y.day(), 200);
            y.undo();
            same("day before a rest", y.day(), 199);
        });
        promise(12, "Returns whether stopping is on.", () -> {
            CaravanRoute x = new CaravanRoute();
            same("isStopping", x.isStopping(), false);
            for (boolean isOn : new boolean[] {true, true, false, false, true}) {
                x.setStopping(isOn);
                same("isStopping", x.isStopping(), isOn);
            }
            x.travel();
            same("isStopping behind a well", x.isStopping(), true);
        });
    }

    private static void stormOn() {
        promise(11, "`day`: 0 to 999", () -> {
            CaravanRoute x = loaded(ROUTE + "storm 0 0 1;");
            same("stormOn(0)", x.stormOn(0), 1);
            same("stormOn(1)", x.stormOn(1), 0);
            same("stormOn(998)", x.stormOn(998), 0);
            same("stormOn(999)", x.stormOn(999), 0);
        });
        promise(11, "Returns the storm of this day.", () -> {
            CaravanRoute x = loaded(ROUTE + "storm 0 0 1;storm 200 200 9;");
            int[] days = {0, 1, 199, 200, 201, 999};
            int[] due = {1, 0, 0, 9, 0, 0};
            for (int today = 0; today < 3; today++) {
                for (int i = 0; i < days.length; i++) {
                    same("stormOn " + days[i] + " on day " + today, x.stormOn(days[i]), due[i]);
                }
                x.rest();
            }
        });
        promise(11, "Throws `IllegalArgumentException` if day is out of range", () ->
            refusedNumbers("stormOn", ARGUMENT, Made::busy, (x, day) -> x.stormOn(day), -1, 1000));
    }

    private static void whatWellsHave() {
        promise(14, "Returns its kilometre.", () -> {
            CaravanRoute x = loaded("route 999;camel 60 1 90;well 999 1 0;well 0 1 0;well 500 1 0;");
            same("the greatest", x.wellKilometre(0), 999);
            same("the least", x.wellKilometre(1), 0);
            x.travel();
            same("wellKilometre on the way", x.wellKilometre(2), 500);
        });
        promise(15, "Returns its level.", () -> {
            CaravanRoute x = loaded("route 999;camel 60 9 90;well 0 1 0;well 60 999 0;");
            same("the greatest", x.wellLevel(1), 999);
            x.rest();
            same("one litre", x.wellLevel(0), 1);
            x.drink();
            same("the least", x.wellLevel(0), 0);
            x.rest();
            same("without a refill", x.wellLevel(0), 0);
            same("the other", x.wellLevel(1), 999);
            x.undo();
            x.undo();
            same("after undo", x.wellLevel(0), 1);
        });
        promise(16, "Returns its capacity.", () -> {
            CaravanRoute x = loaded("route 999;camel 60 9 90;well 0 1 0;well 60 999 0;");
            same("the least", x.wellCapacity(0), 1);
            same("the greatest", x.wellCapacity(1), 999);
            x.rest();
            x.drink();
            same("the well is empty", x.wellCapacity(0), 1);
        });
    }

    private static void wellsOnTheWay() {
        promise(13, "Returns the number of wells.", () -> {
            same("wellCount", loaded(wells(0)).wellCount(), 0);
            same("wellCount", loaded(wells(1)).wellCount(), 1);
            same("wellCount", loaded(wells(8)).wellCount(), 8);
        });
        promise(17, "Returns the well at the kilometre of the caravan.", () -> {
            same("wellHere, the last number", Made.eightWells().wellHere(), 7);
            CaravanRoute x = loaded("route 20;camel 10 1 90;well 20 1 0;well 0 1 0;well 9 1 1;well 11 1 1;well 10 1 1;");
            same("wellHere at kilometre 0", x.wellHere(), 1);
            x.travel();
            same("wellHere between two others", x.wellHere(), 4);
            x.travel();
            same("wellHere at the end", x.wellHere(), 0);
        });
        promise(17, "Throws `NoSuchElementException` if there is none", () -> {
            refused("wellHere without wells", NO_SUCH, () -> loaded(ROUTE), x -> x.wellHere());
            refused("wellHere on the way", NO_SUCH, Made::busyOnTheWay, x -> x.wellHere());
            refused("wellHere one kilometre before and behind", NO_SUCH, () -> {
                CaravanRoute x = loaded("route 20;camel 10 1 90;well 9 1 0;well 11 1 0;");
                x.travel();
                return x;
            }, x -> x.wellHere());
        });
        promise(18, "Returns the nearest well behind the kilometre of the caravan, on the way to the end of the route.", () -> {
            CaravanRoute x = loaded("route 30;camel 10 1 90;well 30 1 0;well 0 1 0;well 12 1 1;well 11 1 1;well 10 1 1;well 1 1 1;");
            same("nextWell is not the one here, but one kilometre on", x.nextWell(), 5);
            x.travel();
            same("nextWell is not the lowest number", x.nextWell(), 3);
            x.setStopping(true);
            x.travel();
            same("nextWell", x.nextWell(), 2);
            x.travel();
            same("nextWell at the end of the route", x.nextWell(), 0);
            CaravanRoute y = loaded("route 999;camel 10 1 90;well 999 1 0;");
            same("nextWell 999 kilometres on", y.nextWell(), 0);
        });
        promise(18, "Throws `NoSuchElementException` if there is none", () -> {
            refused("nextWell without wells", NO_SUCH, () -> loaded(ROUTE), x -> x.nextWell());
            refused("nextWell at the only well", NO_SUCH, () -> loaded(ROUTE + "well 0 1 1;"), x -> x.nextWell());
            refused("nextWell one kilometre behind the last", NO_SUCH, () -> {
                CaravanRoute x = loaded("route 20;camel 10 1 90;well 9 1 0;well 8 1 0;");
                x.travel();
                return x;
            }, x -> x.nextWell());
            refused("nextWell at the end", NO_SUCH, () -> {
                CaravanRoute x = loaded("route 10;camel 10 1 90;well 10 1 0;well 8 1 0;");
                x.travel();
                return x;
            }, x -> x.nextWell());
        });
    }

    private static void drunk() {
        promise(19, "Returns the litres that were drunk from all wells.", () -> {
            CaravanRoute x = loaded("route 20;camel 10 1 90;camel 10 1 30;well 0 1 1;well 10 99 0;");
            same("drunk", x.drunk(), 0);
            x.drink();
            same("drunk by full camels", x.drunk(), 0);
            x.rest();
            x.drink();
            same("drunk to the last litre of a well", x.drunk(), 1);
            x.drink();
            same("drunk from an empty well", x.drunk(), 1);
            x.travel();
            // It was 90 and 30, less 3 each, more 1 for camel 1, less 5 each.
            same("drink", x.drink(), 8 + 7);
            same("drunk from both wells", x.drunk(), 16);
            x.undo();
            same("drunk after undo", x.drunk(), 1);
        });
    }
}
