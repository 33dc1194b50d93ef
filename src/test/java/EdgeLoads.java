/** Term 3 and promises 35 to 43 and 54 to 56: loads, and what is reckoned from them. */
final class EdgeLoads extends Edge {
    static void tests() {
        terms();
        questions();
        places();
        sums();
        putOn();
        putOnRefused();
        takeOff();
        addLoad();
        addLoadRefused();
    }

    private static void terms() {
        term(3, "There are at most 20 loads, numbered from 0.", () -> {
            same("no load", loaded(ROUTE).loadCount(), 0);
            StringBuilder text = new StringBuilder(ROUTE);
            for (int load = 0; load < 20; load++) {
                text.append("load ").append(1 + load).append(" 1;");
            }
            CaravanRoute x = loaded(text.toString());
            same("twenty loads", x.loadCount(), 20);
            for (int load = 0; load < 20; load++) {
                same("weightOf " + load, x.weightOf(load), 1 + load);
            }
            wrong(text + "load 1 1;", text.length());
            Check.badState("addLoad", () -> x.addLoad(1, 1));
            CaravanRoute y = loaded(ROUTE + "load 1 1;".repeat(19));
            same("addLoad of the twentieth", y.addLoad(1, 1), 19);
            Check.badState("addLoad of a 21st", () -> y.addLoad(1, 1));
        });
        term(3, "A load has a weight of 1 to 99 kilograms", () -> {
            wrong(ROUTE + "load 0 1;", 28);
            for (int weight : new int[] {1, 2, 98, 99}) {
                same("weightOf", loaded(ROUTE + "load " + weight + " 1;").weightOf(0), weight);
            }
            wrong(ROUTE + "load 100 1;", 28);
        });
        term(3, "a value of 1 to 99 coins", () -> {
            wrong(ROUTE + "load 1 0;", 30);
            for (int value : new int[] {1, 2, 98, 99}) {
                same("valueOf", loaded(ROUTE + "load 1 " + value + ";").valueOf(0), value);
            }
            wrong(ROUTE + "load 1 100;", 30);
        });
        term(3, "A camel carries it, or it lies at a kilometre.", () -> {
            CaravanRoute x = loaded(ROUTE + "load 1 1;");
            same("isCarried", x.isCarried(0), false);
            Check.noSuch("carrierOf", () -> x.carrierOf(0));
            x.putOn(0, 0);
            same("isCarried", x.isCarried(0), true);
            same("carrierOf", x.carrierOf(0), 0);
            x.takeOff(0);
            same("isCarried", x.isCarried(0), false);
            Check.noSuch("carrierOf", () -> x.carrierOf(0));
        });
        term(3, "A load that lies at the kilometre of the caravan can be loaded.", () -> {
            String slow = "route 50;camel 10 9 90;storm 0 0 9;load 1 1;";
            same("putOn at kilometre 0", loaded(slow).putOn(0, 0), 179);
            CaravanRoute x = loaded(slow);
            same("travel", x.travel(), 1);
            Check.badState("putOn one kilometre on", () -> x.putOn(0, 0));
            x.addLoad(2, 2);
            same("putOn at kilometre 1", x.putOn(1, 0), 178);
            x.undo();
            x.undo();
            x.undo();
            same("putOn at kilometre 0 again", x.putOn(0, 0), 179);
            CaravanRoute y = Made.arrived();
            y.takeOff(0);
            same("putOn at the end", y.putOn(0, 0), 55);
        });
    }

    private static void questions() {
        promise(35, "Returns the number of loads.", () -> {
            CaravanRoute x = loaded(ROUTE);
            same("loadCount", x.loadCount(), 0);
            for (int count = 1; count <= 20; count++) {
                x.addLoad(1, 1);
                same("loadCount", x.loadCount(), count);
            }
            x.undo();
            same("loadCount after undo", x.loadCount(), 19);
        });
        promise(36, "Returns its weight.", () -> {
            CaravanRoute x = loaded(ROUTE + "load 1 99;load 99 1;");
            same("weightOf", x.weightOf(0), 1);
            same("weightOf", x.weightOf(1), 99);
            x.addLoad(98, 2);
            same("weightOf", x.weightOf(2), 98);
        });
        promise(37, "Returns its value.", () -> {
            CaravanRoute x = loaded(ROUTE + "load 1 99;load 99 1;");
            same("valueOf", x.valueOf(0), 99);
            same("valueOf", x.valueOf(1), 1);
            x.addLoad(98, 2);
            same("valueOf", x.valueOf(2), 2);
        });
        promise(38, "Returns whether a camel carries it.", () -> {
            CaravanRoute x = Made.ten();
            same("isCarried", x.isCarried(0), true);
            same("isCarried, its camel has died", x.isCarried(2), false);
            x.undo();
            same("isCarried, its camel lives again", x.isCarried(2), true);
            x.takeOff(0);
            same("isCarried", x.isCarried(0), false);
        });
        promise(39, "Returns the camel that carries it.", () -> {
            CaravanRoute x = Made.twentyLoads();
            same("carrierOf", x.carrierOf(0), 0);
            same("carrierOf", x.carrierOf(19), 9);
            x.putOn(19, 0);
            same("carrierOf", x.carrierOf(19), 0);
        });
        promise(39, "Throws `NoSuchElementException` if it lies at a kilometre", () -> {
            refused("carrierOf of one behind", NO_SUCH, Made::twentyLoads, x -> x.carrierOf(1));
            refused("carrierOf of one here", NO_SUCH, () -> {
                CaravanRoute x = Made.twentyLoads();
                x.takeOff(0);
                return x;
            }, x -> x.carrierOf(0));
            refused("carrierOf of one that a dead camel carried", NO_SUCH, Made::ten, x -> x.carrierOf(2));
        });
    }

    private static void places() {
        promise(40, "Returns the kilometre at which it lies", () -> {
            CaravanRoute x = Made.arrived();
            same("placeOf at kilometre 0", x.placeOf(1), 0);
            x.takeOff(0);
            same("placeOf at the end", x.placeOf(0), 100);
            CaravanRoute y = loaded("route 999;camel 60 9 90;load 1 1 on 0;");
            travel(y, 17);
            y.takeOff(0);
            same("placeOf at the farthest end", y.placeOf(0), 999);
        });
        promise(40, "or that of the caravan if a camel carries it", () -> {
            CaravanRoute x = loaded("route 100;camel 50 9 90;load 1 1;load 1 1 on 0;");
            x.travel();
            x.takeOff(1);
            same("placeOf", x.placeOf(1), 50);
            x.putOn(1, 0);
            same("placeOf", x.placeOf(1), 50);
            x.travel();
            same("placeOf moves on", x.placeOf(1), 100);
            same("placeOf stays", x.placeOf(0), 0);
        });
    }

    private static void sums() {
        promise(41, "Returns the sum of the values of the loads that camels carry.", () -> {
            same("no loads", loaded(ROUTE).carriedValue(), 0);
            same("only loads that lie", loaded(ROUTE + "load 1 99;".repeat(20)).carriedValue(), 0);
            String two = "route 50;camel 10 9 90;camel 10 9 10;";
            CaravanRoute x = loaded(two + "load 1 99 on 0;load 1 99 on 1;".repeat(10));
            same("twenty loads", x.carriedValue(), 1980);
            rest(x, 6);
            same("half of their camels dead", x.carriedValue(), 990);
            same("one load", loaded(ROUTE + "load 1 1 on 0;load 1 99;").carriedValue(), 1);
        });
        promise(42, "Returns the mean water of the living camels: the sum of their water divided by their number,"
            + " both converted to double", () -> {
                same("the least tank", loaded("route 50;camel 10 9 10;").meanWater(), 10.0);
                same("the greatest tanks", loaded("route 50;" + "camel 10 9 90;".repeat(10)).meanWater(), 90.0);
                same("a third", loaded("route 50;camel 10 9 10;camel 10 9 10;camel 10 9 11;").meanWater(), 31.0 / 3.0);
                same("two of three live", Made.oneDead().meanWater(), 72.0);
                CaravanRoute x = Made.allDead();
                x.undo();
                same("alive without water", x.meanWater(), 0.0);
            });
        promise(42, "0 if no camel is alive", () -> same("meanWater", Made.allDead().meanWater(), 0.0));
        promise(43, "Returns the kilometre of the caravan divided by the length of the route, both converted to float.", () -> {
            CaravanRoute x = loaded("route 999;camel 10 9 90;storm 0 0 9;");
            same("progress", x.progress(), 0.0f);
            x.travel();
            same("progress", x.progress(), 1.0f / 999.0f);
            CaravanRoute y = loaded("route 61;camel 60 9 90;");
            y.travel();
            same("progress one kilometre before the end", y.progress(), 60.0f / 61.0f);
            y.travel();
            same("progress", y.progress(), 1.0f);
        });
    }

    private static void putOn() {
        promise(54, "Puts a load that lies at the kilometre of the caravan, or that another camel carries, on a camel.", () -> {
            CaravanRoute x = Made.busyOnTheWay();
            x.addLoad(7, 7);
            x.putOn(4, 2);
            same("one that lies here", x.carrierOf(4), 2);
            same("carried", x.carried(2), 7);
            x.putOn(0, 2);
            same("one of another camel", x.carrierOf(0), 2);
            same("carried", x.carried(2), 37);
            same("carried by the other", x.carried(1), 0);
        });
        promise(54, "`load`: number of a load", () -> {
            CaravanRoute x = Made.twentyLoads();
            x.putOn(0, 1);
            x.putOn(19, 1);
            same("carrierOf(0)", x.carrierOf(0), 1);
            same("carrierOf(19)", x.carrierOf(19), 1);
        });
        promise(54, "`camel`: number of a camel", () -> {
            CaravanRoute x = loaded("route 50;" + "camel 10 9 90;".repeat(10) + "load 1 1;load 1 1;");
            x.putOn(0, 0);
            x.putOn(1, 9);
            same("carrierOf", x.carrierOf(0), 0);
            same("carrierOf", x.carrierOf(1), 9);
        });
        promise(54, "Returns the kilograms that the camel can carry in addition afterwards.", () -> {
            same("the greatest", loaded("route 50;camel 10 9 90;load 1 1;").putOn(0, 0), 179);
            same("the least", loaded("route 50;camel 10 1 90;load 20 1;").putOn(0, 0), 0);
            same("the least", loaded("route 50;camel 10 9 90;load 99 1 on 0;load 81 1;").putOn(1, 0), 0);
        });
    }

    private static void putOnRefused() {
        promise(54, "Throws `IndexOutOfBoundsException` if there is no such load or camel", () -> {
            refusedNumbers("putOn of the load", INDEX, Made::twentyLoads, (x, load) -> x.putOn(load, 1), -1, 20);
            refusedNumbers("putOn the camel", INDEX, Made::twentyLoads, (x, camel) -> x.putOn(0, camel), -1, 10);
            refusedNumbers("putOn of no load", INDEX, () -> loaded(ROUTE), (x, load) -> x.putOn(load, 0), -1, 0);
            refusedNumbers("putOn of one of four", INDEX, Made::busy, (x, load) -> x.putOn(load, 2), -1, 4);
            refusedNumbers("putOn one of three", INDEX, Made::busy, (x, camel) -> x.putOn(3, camel), -1, 3);
        });
        promise(54, "Throws `IllegalStateException` if the camel is dead", () -> {
            refused("putOn a dead one", STATE, Made::oneDead, x -> x.putOn(0, 0));
            refused("putOn a dead one from another", STATE, Made::oneDead, x -> x.putOn(1, 0));
            CaravanRoute x = loaded("route 50;camel 10 9 10;load 1 1;");
            rest(x, 5);
            same("putOn one with 2 dry days", x.putOn(0, 0), 179);
        });
        promise(54, "carries this load already", () -> {
            refused("putOn again", STATE, Made::busy, x -> x.putOn(0, 1));
            refused("putOn a full camel again", STATE, () -> loaded("route 50;camel 10 1 90;load 20 1 on 0;"), x -> x.putOn(0, 0));
        });
        promise(54, "if the load is not here", () -> {
            refused("putOn of one behind", STATE, Made::busyOnTheWay, x -> x.putOn(2, 0));
            refused("putOn of one that was added behind", STATE, Made::busyOnTheWay, x -> x.putOn(3, 0));
            refused("putOn one kilometre on", STATE, () -> {
                CaravanRoute x = loaded("route 50;camel 10 9 90;storm 0 0 9;load 1 1;");
                x.travel();
                return x;
            }, x -> x.putOn(0, 0));
        });
        promise(54, "if it is too heavy in addition", () -> {
            String text = "route 50;camel 10 1 90;camel 10 9 90;load 19 1 on 0;load 2 1;load 1 1;load 99 1 on 1;load 81 1 on 1;load 21 1;";
            refused("putOn of 2 kg to 19", STATE, () -> loaded(text), x -> x.putOn(1, 0));
            refused("putOn of 1 kg to 180", STATE, () -> loaded(text), x -> x.putOn(2, 1));
            refused("putOn of 99 kg from another", STATE, () -> loaded(text), x -> x.putOn(3, 0));
            refused("putOn of 21 kg to nothing", STATE, () -> {
                CaravanRoute x = loaded(text);
                x.takeOff(0);
                return x;
            }, x -> x.putOn(5, 0));
            same("putOn of 1 kg to 19", loaded(text).putOn(2, 0), 0);
        });
    }

    private static void takeOff() {
        promise(55, "Takes a load off its camel; it lies at the kilometre of the caravan then.", () -> {
            CaravanRoute x = loaded("route 50;camel 30 9 90;load 1 1 on 0;load 2 2 on 0;load 3 3 on 0;");
            x.takeOff(0);
            same("placeOf at kilometre 0", x.placeOf(0), 0);
            same("carried", x.carried(0), 5);
            x.travel();
            x.takeOff(2);
            same("placeOf on the way", x.placeOf(2), 30);
            same("carried", x.carried(0), 2);
            x.travel();
            x.takeOff(1);
            same("placeOf at the end", x.placeOf(1), 50);
            same("carried", x.carried(0), 0);
            same("isCarried", x.isCarried(0) || x.isCarried(1) || x.isCarried(2), false);
            same("placeOf", x.placeOf(0), 0);
        });
        promise(55, "Returns the camel that carried it.", () -> {
            same("takeOff", Made.twentyLoads().takeOff(0), 0);
            same("takeOff", Made.twentyLoads().takeOff(19), 9);
        });
        promise(55, "Throws `IllegalStateException` if no camel carries it", () -> {
            refused("takeOff of one that lies here", STATE, () -> loaded(ROUTE + "load 1 1;"), x -> x.takeOff(0));
            refused("takeOff of one behind", STATE, Made::busyOnTheWay, x -> x.takeOff(2));
            refused("takeOff of one that a dead camel carried", STATE, Made::ten, x -> x.takeOff(2));
            refused("takeOff again", STATE, () -> {
                CaravanRoute x = Made.busy();
                x.takeOff(0);
                return x;
            }, x -> x.takeOff(0));
        });
    }

    private static void addLoad() {
        promise(56, "Adds a load, which lies at the kilometre of the caravan.", () -> {
            CaravanRoute x = loaded("route 999;camel 60 9 90;");
            x.addLoad(1, 2);
            same("placeOf at kilometre 0", x.placeOf(0), 0);
            travel(x, 17);
            x.addLoad(3, 4);
            same("placeOf at the end", x.placeOf(1), 999);
            same("isCarried", x.isCarried(1), false);
            same("placeOf", x.placeOf(0), 0);
            CaravanRoute y = Made.allDead();
            same("addLoad with nobody alive", y.addLoad(1, 1), 1);
            same("placeOf", y.placeOf(1), y.kilometre());
            same("addLoad on day 200", Made.onDay(200).addLoad(1, 1), 0);
        });
        promise(56, "`weight`: 1 to 99", () -> {
            CaravanRoute x = loaded(ROUTE);
            for (int weight : new int[] {1, 2, 98, 99}) {
                int load = x.addLoad(weight, 50);
                same("weightOf", x.weightOf(load), weight);
                same("valueOf", x.valueOf(load), 50);
            }
        });
        promise(56, "`value`: 1 to 99", () -> {
            CaravanRoute x = loaded(ROUTE);
            for (int value : new int[] {1, 2, 98, 99}) {
                int load = x.addLoad(50, value);
                same("valueOf", x.valueOf(load), value);
                same("weightOf", x.weightOf(load), 50);
            }
        });
        promise(56, "Returns the number of the load.", () -> {
            CaravanRoute x = loaded(ROUTE);
            for (int load = 0; load < 20; load++) {
                same("addLoad", x.addLoad(1, 1), load);
            }
            x.undo();
            same("addLoad after undo", x.addLoad(1, 1), 19);
        });
    }

    private static void addLoadRefused() {
        promise(56, "Throws `IllegalArgumentException` if weight or value is out of range", () -> {
            refusedNumbers("addLoad of the weight", ARGUMENT, Made::busy, (x, weight) -> x.addLoad(weight, 5), -1, 0, 100);
            refusedNumbers("addLoad of the value", ARGUMENT, Made::busy, (x, value) -> x.addLoad(5, value), -1, 0, 100);
            refused("addLoad(0, 0)", ARGUMENT, Made::busy, x -> x.addLoad(0, 0));
            refused("addLoad(100, 100)", ARGUMENT, Made::busy, x -> x.addLoad(100, 100));
        });
        promise(56, "Throws `IllegalStateException` if there are 20 loads", () -> {
            refused("addLoad of a 21st", STATE, Made::twentyLoads, x -> x.addLoad(1, 1));
            refused("addLoad of a 21st", STATE, () -> {
                CaravanRoute x = loaded(ROUTE + "load 1 1;".repeat(19));
                x.addLoad(9, 9);
                return x;
            }, x -> x.addLoad(99, 99));
            CaravanRoute x = loaded(ROUTE + "load 1 1;".repeat(19));
            same("addLoad of the twentieth", x.addLoad(1, 1), 19);
        });
    }
}
