/** Promises 44 to 48: what would be. */
final class PredictionsTest {
    public static void main(String[] args) {
        distanceToday();
        needToday();
        livingAfter();
        daysToArrival();
        lastDay();
        wouldDrink();
        nothingIsChanged();
        Check.end();
    }

    private static void distanceToday() {
        CaravanRoute x = Check.loaded("route 100;camel 33 1 90;camel 60 1 90;well 40 1 1;well 20 1 1;well 33 1 1;well 0 1 1;storm 1 1 1;storm 2 2 9;");
        Check.same("distance", x.distanceToday(), 33);
        x.setStopping(true);
        Check.same("the first well, not the lowest number", x.distanceToday(), 20);
        x.travel();
        Check.same("the next one, in a storm", x.distanceToday(), 13);
        x.setStopping(false);
        Check.same("33 * 9 / 10", x.distanceToday(), 29);
        x.rest();
        Check.same("33 * 1 / 10", x.distanceToday(), 3);
        x.rest();
        Check.same("distance", x.distanceToday(), 33);
        x.setLeader(1);
        Check.same("distance", x.distanceToday(), 60);
        x.travel();
        Check.same("what is left", x.distanceToday(), 20);
        x.travel();
        Check.same("arrived", x.distanceToday(), 0);
        CaravanRoute y = Check.loaded("route 100;camel 10 9 90;well 5 9 9;well 6 9 9;storm 0 0 9;load 60 1 on 0;");
        Check.same("5 * 1 / 10", y.distanceToday(), 0);
        y.setStopping(true);
        Check.same("travel by nothing", y.travel(), 0);
        Check.same("day", y.day(), 1);
        Check.same("a well just at the end of the distance", y.distanceToday(), 5);
        y.travel();
        Check.same("wellHere", y.wellHere(), 0);
        Check.same("a well one kilometre on", y.travel(), 1);
        Check.same("behind the wells", y.travel(), 5);
        CaravanRoute z = Check.loaded("route 100;camel 10 9 90;well 11 9 9;");
        z.setStopping(true);
        Check.same("the well is too far", z.distanceToday(), 10);
    }

    private static void needToday() {
        CaravanRoute x = Check.loaded("route 100;camel 33 1 10;camel 60 9 90;storm 1 1 1;storm 2 2 9;load 75 1 on 1;");
        Check.same("need", x.needToday(0), 5);
        Check.same("need", x.needToday(1), 8);
        x.rest();
        Check.same("need", x.needToday(0), 6);
        x.rest();
        Check.same("need", x.needToday(0), 14);
        Check.same("need", x.needToday(1), 17);
        for (int i = 0; i < 4; i++) {
            x.travel();
        }
        Check.same("arrived", x.hasArrived(), true);
        Check.same("need at the end", x.needToday(1), 8);
        Check.same("dead", x.isDead(0), true);
        Check.same("need of the dead", x.needToday(0), 0);
    }

    private static void livingAfter() {
        CaravanRoute x = Check.loaded("route 999;camel 10 1 10;camel 10 1 20;camel 10 1 90;");
        int[] due = {3, 3, 3, 3, 3, 2, 2, 1, 1};
        for (int days = 0; days < due.length; days++) {
            Check.same("livingAfter " + days, x.livingAfter(days), due[days]);
        }
        Check.same("livingAfter(20)", x.livingAfter(20), 1);
        Check.same("livingAfter(21)", x.livingAfter(21), 0);
        Check.same("livingAfter(50)", x.livingAfter(50), 0);
        Check.badArgument("livingAfter(51)", () -> x.livingAfter(51));
        Check.badArgument("livingAfter(-1)", () -> x.livingAfter(-1));
        Check.badArgument("livingAfter(MAX)", () -> x.livingAfter(Integer.MAX_VALUE));
        Check.badArgument("livingAfter(MIN)", () -> x.livingAfter(Integer.MIN_VALUE));
        x.travel();
        Check.same("livingAfter(4) from now on", x.livingAfter(4), 2);
        Check.same("livingAfter(3) from now on", x.livingAfter(3), 3);
        CaravanRoute y = Check.loaded("route 40;camel 10 1 10;camel 10 1 20;");
        Check.same("only to the end of the route", y.livingAfter(50), 2);
        CaravanRoute z = Check.loaded("route 50;camel 10 1 10;camel 10 1 20;");
        Check.same("only to the end of the route", z.livingAfter(50), 1);
    }

    private static void daysToArrival() {
        CaravanRoute x = Check.loaded("route 100;camel 10 1 50;camel 60 1 90;storm 1 2 5;");
        Check.same("daysToArrival", x.daysToArrival(), 11);
        x.travel();
        x.travel();
        Check.same("daysToArrival", x.daysToArrival(), 9);
        x.setLeader(1);
        Check.same("daysToArrival", x.daysToArrival(), 2);
        x.travel();
        Check.same("daysToArrival", x.daysToArrival(), 1);
        x.travel();
        Check.same("arrived", x.daysToArrival(), 0);
        CaravanRoute y = Check.loaded("route 101;camel 10 1 35;well 5 99 99;");
        Check.noSuch("dead at 100", () -> y.daysToArrival());
        CaravanRoute z = Check.loaded("route 100;camel 10 1 35;");
        Check.same("arrives as it dies", z.daysToArrival(), 10);
        for (int i = 0; i < 10; i++) {
            z.travel();
        }
        Check.same("hasArrived", z.hasArrived(), true);
        Check.same("livingCamels", z.livingCamels(), 0);
        Check.same("arrived and not alive", z.daysToArrival(), 0);
        Check.badState("rest", () -> z.rest());
        stoppingAndFollowers();
    }

    private static void stoppingAndFollowers() {
        CaravanRoute x = Check.loaded("route 60;camel 60 1 90;well 10 1 1;well 20 1 1;well 59 1 1;");
        Check.same("without stopping", x.daysToArrival(), 1);
        x.setStopping(true);
        Check.same("with stopping", x.daysToArrival(), 4);
        CaravanRoute y = Check.loaded("route 100;camel 10 1 10;camel 50 1 90;");
        Check.same("the follower is faster", y.daysToArrival(), 6);
        Check.same("leader", y.leader(), 0);
    }

    /** A camel at a well that fills it again and again lives until day 200. */
    private static void lastDay() {
        CaravanRoute x = Check.loaded("route 999;camel 10 9 90;camel 10 9 10;well 0 999 99;storm 200 200 3;");
        for (int i = 0; i < 180; i++) {
            x.rest();
            x.drink();
        }
        Check.same("day", x.day(), 180);
        Check.same("livingAfter(19)", x.livingAfter(19), 1);
        Check.same("livingAfter(20)", x.livingAfter(20), 1);
        Check.same("nobody travels after day 200", x.livingAfter(50), 1);
        Check.noSuch("the day 200 is reached", () -> x.daysToArrival());
        for (int i = 0; i < 19; i++) {
            x.rest();
            x.drink();
        }
        x.travel();
        Check.same("day", x.day(), 200);
        Check.same("kilometre", x.kilometre(), 10);
        Check.badState("travel", () -> x.travel());
        Check.badState("rest", () -> x.rest());
        Check.noSuch("daysToArrival", () -> x.daysToArrival());
        Check.same("livingAfter(50)", x.livingAfter(50), 2);
        Check.same("distanceToday", x.distanceToday(), 7);
        Check.same("needToday", x.needToday(0), 8);
        Check.same("setStopping", x.setStopping(true), false);
        x.undo();
        x.undo();
        Check.same("day", x.day(), 199);
        Check.same("kilometre", x.kilometre(), 0);
        arrivalOnTheLastDay();
    }

    private static void arrivalOnTheLastDay() {
        CaravanRoute x = Check.loaded("route 20;camel 10 9 90;well 0 999 99;");
        for (int i = 0; i < 198; i++) {
            x.rest();
            x.drink();
        }
        Check.same("daysToArrival", x.daysToArrival(), 2);
        x.rest();
        Check.noSuch("daysToArrival", () -> x.daysToArrival());
        x.undo();
        x.travel();
        x.travel();
        Check.same("day", x.day(), 200);
        Check.same("hasArrived", x.hasArrived(), true);
        Check.same("daysToArrival", x.daysToArrival(), 0);
        Check.badState("rest", () -> x.rest());
    }

    private static void wouldDrink() {
        CaravanRoute x = Check.loaded("route 100;camel 50 1 90;camel 50 1 30;camel 50 1 30;camel 50 1 10;camel 50 9 30;well 50 17 0;load 40 1 on 4;");
        Check.badState("not at a well", () -> x.wouldDrink(0));
        Check.outOfBounds("no camel, not at a well", () -> x.wouldDrink(5));
        Check.outOfBounds("no camel, not at a well", () -> x.wouldDrink(-1));
        x.travel();
        // Water 85, 25, 25, 5, 24: the order is 3, 4, 1, 2, 0, and 17 litres are there.
        int[] due = {0, 5, 1, 5, 6};
        for (int camel = 0; camel < 5; camel++) {
            Check.same("wouldDrink " + camel, x.wouldDrink(camel), due[camel]);
        }
        Check.outOfBounds("no camel", () -> x.wouldDrink(5));
        Check.outOfBounds("no camel", () -> x.wouldDrink(Integer.MIN_VALUE));
        Check.same("drink", x.drink(), 17);
        Check.same("wellLevel", x.wellLevel(0), 0);
        int[] water = {85, 30, 26, 10, 30};
        for (int camel = 0; camel < 5; camel++) {
            Check.same("water " + camel, x.water(camel), water[camel]);
            Check.same("wouldDrink of an empty well", x.wouldDrink(camel), 0);
        }
        Check.same("drink of an empty well", x.drink(), 0);
        for (int i = 0; i < 6; i++) {
            x.rest();
        }
        Check.same("dead", x.isDead(3), true);
        Check.same("wouldDrink of a dead one", x.wouldDrink(3), 0);
        theDeadDoNotDrink();
    }

    private static void theDeadDoNotDrink() {
        CaravanRoute x = Check.loaded("route 100;camel 50 1 10;camel 10 1 90;well 50 99 99;well 0 9 9;");
        for (int i = 0; i < 6; i++) {
            x.rest();
        }
        Check.same("dead", x.isDead(0), true);
        Check.same("wouldDrink of a dead one", x.wouldDrink(0), 0);
        Check.same("wouldDrink", x.wouldDrink(1), 9);
        Check.same("drink", x.drink(), 9);
        Check.same("water", x.water(0), 0);
        x.travel();
        Check.badState("a dead one, not at a well", () -> x.wouldDrink(0));
        for (int i = 0; i < 30 && x.livingCamels() > 0; i++) {
            x.rest();
        }
        CaravanRoute y = Check.loaded("route 100;camel 50 1 10;well 0 9 9;");
        for (int i = 0; i < 6; i++) {
            y.rest();
        }
        Check.same("all are dead", y.livingCamels(), 0);
        Check.same("wouldDrink", y.wouldDrink(0), 0);
        Check.same("nobody drinks", y.drink(), 0);
        Check.same("but it is a change", y.undo(), 6);
    }

    private static void nothingIsChanged() {
        CaravanRoute x = new CaravanRoute();
        x.setStopping(true);
        x.travel();
        String before = Check.written(x);
        x.livingAfter(50);
        x.daysToArrival();
        x.wouldDrink(0);
        x.distanceToday();
        Check.same("the camels", Check.written(x), before);
        Check.same("kilometre", x.kilometre(), 30);
        Check.same("day", x.day(), 1);
        Check.same("drunk", x.drunk(), 0);
        Check.same("wellLevel", x.wellLevel(0), 100);
        Check.same("strain", x.strain(1), 17);
        Check.same("wouldDrink", x.wouldDrink(0), 5);
        Check.same("undo", x.undo(), 1);
    }
}
