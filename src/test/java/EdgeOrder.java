import java.util.function.Supplier;

/** Where several exceptions apply at once, the first of the throws clause; and the 512 calls. */
final class EdgeOrder extends Edge {
    private static final String FIRST = "If several exceptions apply, the one that comes first in the throws clause is thrown.";

    static void tests() {
        carrierOf();
        wouldDrink();
        setLeader();
        putOn();
        takeOff();
        addLoad();
        restoreSnapshot();
        calls();
    }

    private static void both(String call, Class<? extends Exception> first, Supplier<CaravanRoute> make, Twins.Ask ask) {
        term(7, FIRST, () -> refused(call, first, make, ask));
    }

    /** One that was added at a kilometre, and undone: there is no such load, and none of that number is carried. */
    private static void carrierOf() {
        both("carrierOf: no such load, and none that is carried", INDEX, () -> {
            CaravanRoute x = new CaravanRoute();
            x.addLoad(1, 1);
            x.undo();
            return x;
        }, x -> x.carrierOf(3));
        both("carrierOf: no load at all", INDEX, () -> loaded(ROUTE), x -> x.carrierOf(0));
        both("carrierOf: a number below 0", INDEX, () -> loaded(ROUTE + "load 1 1;"), x -> x.carrierOf(-1));
    }

    private static void wouldDrink() {
        both("wouldDrink: no such camel, and not at a well", INDEX, Made::busyOnTheWay, x -> x.wouldDrink(3));
        both("wouldDrink: a number below 0, and not at a well", INDEX, Made::busyOnTheWay, x -> x.wouldDrink(-1));
        both("wouldDrink: no such camel, and no well at all", INDEX, () -> loaded(ROUTE), x -> x.wouldDrink(1));
    }

    private static void setLeader() {
        both("setLeader: no such camel, and all are dead", INDEX, Made::allDead, x -> x.setLeader(2));
        both("setLeader: a number below 0, and all are dead", INDEX, Made::allDead, x -> x.setLeader(-1));
        both("setLeader: no such camel, but a dead one of the text before", INDEX, () -> {
            CaravanRoute x = Made.ten();
            Check.feed(x, ROUTE);
            x.load();
            return x;
        }, x -> x.setLeader(9));
    }

    private static void putOn() {
        both("putOn: no such load, and the camel is dead", INDEX, Made::oneDead, x -> x.putOn(2, 0));
        both("putOn: a load below 0, and the camel is dead", INDEX, Made::oneDead, x -> x.putOn(-1, 0));
        both("putOn: no such load, and the camel is full", INDEX, () -> loaded("route 50;camel 10 1 90;load 20 1 on 0;"), x -> x.putOn(1, 0));
        both("putOn: no such camel, and the load is not here", INDEX, Made::busyOnTheWay, x -> x.putOn(2, 3));
        both("putOn: a camel below 0, and the load is not here", INDEX, Made::busyOnTheWay, x -> x.putOn(2, -1));
        both("putOn: no such camel, and the load is too heavy for all", INDEX, () -> loaded("route 50;camel 10 1 90;load 99 1;"), x -> x.putOn(0, 1));
        both("putOn: no such camel, and the load is carried", INDEX, Made::busy, x -> x.putOn(0, 3));
        both("putOn: no such camel where all are dead", INDEX, Made::allDead, x -> x.putOn(0, 2));
        both("putOn: neither such a load nor such a camel", INDEX, Made::busy, x -> x.putOn(4, 3));
    }

    private static void takeOff() {
        both("takeOff: no such load, and none that is carried", INDEX, () -> {
            CaravanRoute x = new CaravanRoute();
            x.addLoad(1, 1);
            x.undo();
            return x;
        }, x -> x.takeOff(3));
        both("takeOff: a number below 0", INDEX, () -> loaded(ROUTE + "load 1 1;"), x -> x.takeOff(-1));
        both("takeOff: no load at all", INDEX, () -> loaded(ROUTE), x -> x.takeOff(0));
    }

    private static void addLoad() {
        both("addLoad: no weight, and there are 20 loads", ARGUMENT, Made::twentyLoads, x -> x.addLoad(0, 1));
        both("addLoad: too much weight, and there are 20 loads", ARGUMENT, Made::twentyLoads, x -> x.addLoad(100, 1));
        both("addLoad: no value, and there are 20 loads", ARGUMENT, Made::twentyLoads, x -> x.addLoad(1, 0));
        both("addLoad: too much value, and there are 20 loads", ARGUMENT, Made::twentyLoads, x -> x.addLoad(1, 100));
    }

    private static void restoreSnapshot() {
        both("restoreSnapshot: no such slot, and all are empty", INDEX, CaravanRoute::new, x -> x.restoreSnapshot(2));
        both("restoreSnapshot: a slot below 0, and all are empty", INDEX, CaravanRoute::new, x -> x.restoreSnapshot(-1));
    }

    private static void calls() {
        Sentence.holds("What it is", "An object is used for at most 512 calls after it has been made", () -> {
            CaravanRoute x = new CaravanRoute();
            for (int call = 1; call <= 512; call += 2) {
                same("addLoad as call " + call, x.addLoad(1, 1), 3);
                same("undo as call " + (call + 1), x.undo(), 0);
            }
            CaravanRoute y = new CaravanRoute();
            for (int call = 1; call <= 510; call += 2) {
                same("append as call " + call, y.append(0, 0, 0, 0, 0), 20);
                same("shorten as call " + (call + 1), y.shorten(0), 0);
            }
            same("writeCamels as call 511", y.writeCamels(), 23);
            same("daysToArrival as call 512", y.daysToArrival(), 6);
            CaravanRoute z = new CaravanRoute();
            for (int call = 1; call <= 511; call++) {
                same("setStopping as call " + call, z.setStopping(call % 2 == 1), call % 2 == 0);
            }
            same("undo as call 512", z.undo(), 7);
        });
    }
}
