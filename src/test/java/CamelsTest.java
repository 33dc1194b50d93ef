/** Promises 20 to 34 and the days of travel and rest as the camels feel them (terms 2 and 4). */
final class CamelsTest {
    public static void main(String[] args) {
        wrongNumbers();
        speed();
        freeWeight();
        strainAndLameness();
        lameDaysAddUp();
        strainOf60IsNotEnough();
        strainOf61IsEnough();
        lamenessSlowsTheLeader();
        restRelieves();
        needs();
        dryDaysAndDeath();
        waterThatIsJustEnough();
        thirstiest();
        fastest();
        Check.end();
    }

    interface Ask {
        Object of(CaravanRoute x, int camel);
    }

    private static void wrongNumbers() {
        Ask[] asks = {
            (x, camel) -> x.isDead(camel), (x, camel) -> x.pace(camel), (x, camel) -> x.speed(camel),
            (x, camel) -> x.water(camel), (x, camel) -> x.tank(camel), (x, camel) -> x.strain(camel),
            (x, camel) -> x.lameDays(camel), (x, camel) -> x.dryDays(camel), (x, camel) -> x.carried(camel),
            (x, camel) -> x.freeWeight(camel), (x, camel) -> x.needToday(camel),
        };
        CaravanRoute x = new CaravanRoute();
        CaravanRoute ten = Check.loaded("route 50;" + "camel 10 1 10;".repeat(10));
        for (int i = 0; i < asks.length; i++) {
            Ask ask = asks[i];
            for (int camel : new int[] {-1, 3, 9, 10, 11, Integer.MAX_VALUE, Integer.MIN_VALUE}) {
                Check.outOfBounds("question " + i + " of " + camel, () -> ask.of(x, camel));
            }
            ask.of(x, 2);
            ask.of(ten, 9);
            Check.outOfBounds("question " + i + " of an 11th", () -> ask.of(ten, 10));
        }
        Check.same("camelCount", ten.camelCount(), 10);
        Check.same("livingCamels", ten.livingCamels(), 10);
    }

    private static void speed() {
        CaravanRoute x = Check.loaded("route 50;camel 31 9 60;camel 10 9 60;camel 60 1 60;"
            + "load 9 1 on 0;load 1 1;load 9 1;load 80 1 on 1;load 19 1 on 2;");
        Check.same("9 kg", x.speed(0), 31);
        x.putOn(1, 0);
        Check.same("10 kg", x.speed(0), 30);
        x.putOn(2, 0);
        Check.same("19 kg", x.speed(0), 30);
        Check.same("at least 5", x.speed(1), 5);
        Check.same("19 kg", x.speed(2), 59);
        Check.same("pace", x.pace(0), 31);
        Check.same("pace", x.pace(1), 10);
        Check.same("carried", x.carried(0), 19);
        x.takeOff(3);
        Check.same("speed", x.speed(1), 10);
        x.addLoad(50, 1);
        x.putOn(5, 1);
        Check.same("just 5", x.speed(1), 5);
        x.addLoad(49, 1);
        x.takeOff(5);
        x.putOn(6, 1);
        Check.same("49 kg", x.speed(1), 6);
    }

    private static void freeWeight() {
        CaravanRoute x = Check.loaded("route 50;camel 31 9 60;camel 10 1 60;load 99 1 on 0;load 20 1 on 1;");
        Check.same("freeWeight", x.freeWeight(0), 81);
        Check.same("carried", x.carried(0), 99);
        Check.same("freeWeight", x.freeWeight(1), 0);
        Check.same("carried", x.carried(1), 20);
    }

    /** The run of the first caravan to its end, without a drink. */
    private static void strainAndLameness() {
        CaravanRoute x = new CaravanRoute();
        int[] distance = {40, 40, 24, 24, 40, 32};
        int[] strain = {17, 34, 51, 0, 32, 0};
        int[] lame = {0, 0, 0, 3, 2, 5};
        int[][] water = {{55, 50, 41, 32, 27, 22}, {72, 64, 52, 40, 32, 24}, {35, 30, 21, 12, 7, 2}};
        int[] speed = {23, 23, 23, 8, 8, 8};
        for (int day = 0; day < 6; day++) {
            Check.same("distanceToday " + day, x.distanceToday(), distance[day]);
            Check.same("travel " + day, x.travel(), distance[day]);
            Check.same("strain " + day, x.strain(1), strain[day]);
            Check.same("strain of the leader", x.strain(0), 0);
            Check.same("strain of the fast one", x.strain(2), 0);
            Check.same("lameDays " + day, x.lameDays(1), lame[day]);
            Check.same("lameDays", x.lameDays(0) + x.lameDays(2), 0);
            Check.same("speed " + day, x.speed(1), speed[day]);
            for (int camel = 0; camel < 3; camel++) {
                Check.same("water " + camel + " on " + day, x.water(camel), water[camel][day]);
            }
        }
        Check.same("hasArrived", x.hasArrived(), true);
        Check.same("rest", x.rest(), 3);
        Check.same("lameDays after rest", x.lameDays(1), 4);
    }

    private static void lameDaysAddUp() {
        CaravanRoute x = Check.loaded("route 999;camel 60 1 90;camel 11 9 90;load 98 1 on 1;");
        int[] strain = {55, 0, 55, 0, 55, 0};
        int[] lame = {0, 3, 2, 5, 4, 7};
        for (int day = 0; day < 6; day++) {
            x.travel();
            Check.same("strain on " + day, x.strain(1), strain[day]);
            Check.same("lameDays on " + day, x.lameDays(1), lame[day]);
        }
        Check.same("speed", x.speed(1), 5);
    }

    private static void strainOf60IsNotEnough() {
        CaravanRoute x = Check.loaded("route 999;camel 60 1 90;camel 30 9 90;camel 31 1 90;load 10 1 on 2;load 11 1 on 1;");
        x.takeOff(1);
        x.travel();
        x.travel();
        Check.same("strain 60", x.strain(1), 60);
        Check.same("lameDays", x.lameDays(1), 0);
        x.setLeader(1);
        x.takeOff(0);
        x.travel();
        Check.same("strain decreases by 10", x.strain(1), 50);
        Check.same("strain decreases by 10", x.strain(2), 50);
        for (int strain = 40; strain >= 0; strain -= 10) {
            x.travel();
            Check.same("strain", x.strain(1), strain);
        }
        x.travel();
        Check.same("not below 0", x.strain(1), 0);
        CaravanRoute y = Check.loaded("route 999;camel 17 1 90;camel 10 1 90;camel 12 1 90;");
        y.travel();
        Check.same("strain 7", y.strain(1), 7);
        Check.same("strain 5", y.strain(2), 5);
        y.setLeader(2);
        y.travel();
        Check.same("strain 9", y.strain(1), 9);
        Check.same("of 5 stays 0", y.strain(2), 0);
        y.setLeader(1);
        y.travel();
        Check.same("of 9 stays 0", y.strain(1), 0);
    }

    private static void strainOf61IsEnough() {
        CaravanRoute x = Check.loaded("route 999;camel 60 9 90;camel 10 9 90;camel 20 9 90;camel 21 9 90;");
        x.travel();
        Check.same("strain", x.strain(1), 50);
        x.setLeader(2);
        x.travel();
        Check.same("strain 60", x.strain(1), 60);
        Check.same("lameDays", x.lameDays(1), 0);
        x.undo();
        x.setLeader(3);
        x.travel();
        Check.same("strain 61", x.strain(1), 0);
        Check.same("lameDays", x.lameDays(1), 3);
        CaravanRoute y = Check.loaded("route 999;camel 31 9 90;camel 30 9 90;");
        y.travel();
        Check.same("slower by one", y.strain(1), 1);
    }

    private static void lamenessSlowsTheLeader() {
        CaravanRoute x = Check.loaded("route 999;camel 60 1 90;camel 15 9 90;");
        x.travel();
        x.travel();
        Check.same("lameDays", x.lameDays(1), 3);
        Check.same("half of 15 rounded down", x.speed(1), 7);
        x.setLeader(1);
        Check.same("distance", x.travel(), 7);
        Check.same("lameDays", x.lameDays(1), 2);
        Check.same("distance", x.travel(), 7);
        Check.same("distance", x.travel(), 7);
        Check.same("lameDays", x.lameDays(1), 0);
        Check.same("speed", x.speed(1), 15);
        Check.same("distance", x.travel(), 15);
        Check.same("lameDays not below 0", x.lameDays(1), 0);
        x.setLeader(0);
        CaravanRoute y = Check.loaded("route 999;camel 60 1 90;camel 30 9 90;load 25 1 on 1;");
        y.travel();
        y.travel();
        Check.same("half the pace before the load is taken off it", y.speed(1), 13);
    }

    private static void restRelieves() {
        CaravanRoute x = Check.loaded("route 999;camel 60 1 90;camel 35 9 90;");
        x.travel();
        Check.same("strain", x.strain(1), 25);
        Check.same("rest", x.rest(), 2);
        Check.same("strain", x.strain(1), 15);
        Check.same("kilometre", x.kilometre(), 60);
        x.rest();
        x.rest();
        Check.same("strain", x.strain(1), 0);
        x.travel();
        x.travel();
        x.travel();
        Check.same("lameDays", x.lameDays(1), 3);
        x.rest();
        Check.same("lameDays", x.lameDays(1), 2);
        x.rest();
        x.rest();
        x.rest();
        Check.same("lameDays", x.lameDays(1), 0);
    }

    private static void needs() {
        String text = "route 999;camel 10 9 90;camel 10 9 90;camel 10 9 90;camel 10 9 90;storm 1 1 2;"
            + "load 24 1 on 0;load 25 1 on 1;load 49 1 on 2;load 50 1 on 3;";
        CaravanRoute x = Check.loaded(text);
        int[] need = {5, 6, 6, 7};
        int[] half = {3, 3, 3, 4};
        int[] stormHalf = {4, 4, 4, 5};
        for (int camel = 0; camel < 4; camel++) {
            Check.same("needToday " + camel, x.needToday(camel), need[camel]);
        }
        x.rest();
        for (int camel = 0; camel < 4; camel++) {
            Check.same("water " + camel, x.water(camel), 90 - half[camel]);
            Check.same("needToday in a storm " + camel, x.needToday(camel), need[camel] + 2);
        }
        x.rest();
        for (int camel = 0; camel < 4; camel++) {
            Check.same("water " + camel, x.water(camel), 90 - half[camel] - stormHalf[camel]);
        }
        x.travel();
        for (int camel = 0; camel < 4; camel++) {
            Check.same("water " + camel, x.water(camel), 90 - half[camel] - stormHalf[camel] - need[camel]);
        }
        CaravanRoute y = Check.loaded(text);
        y.travel();
        y.travel();
        for (int camel = 0; camel < 4; camel++) {
            Check.same("water " + camel, y.water(camel), 90 - 2 * need[camel] - 2);
        }
    }

    private static void dryDaysAndDeath() {
        // Camel 0 leads and dies on the sixth day; 4 is the fastest then, since 2 carries a load.
        CaravanRoute x = Check.loaded("route 999;camel 20 2 15;camel 10 9 40;camel 30 9 90;camel 29 9 90;camel 30 9 90;"
            + "well 10 9 9;load 4 1 on 0;load 10 2 on 1;load 6 3 on 0;load 10 4 on 2;");
        Check.same("leader", x.leader(), 0);
        int[] dry = {0, 0, 0, 1, 2};
        for (int day = 0; day < 5; day++) {
            x.travel();
            Check.same("isDead", x.isDead(0), false);
            Check.same("dryDays", x.dryDays(0), dry[day]);
            Check.same("leader", x.leader(), 0);
        }
        Check.same("water", x.water(0), 0);
        Check.same("isDead", x.isDead(0), false);
        Check.same("livingCamels", x.livingCamels(), 5);
        int kilometre = x.kilometre() + x.distanceToday();
        x.travel();
        Check.same("isDead", x.isDead(0), true);
        Check.same("dryDays", x.dryDays(0), 3);
        Check.same("livingCamels", x.livingCamels(), 4);
        Check.same("camelCount", x.camelCount(), 5);
        Check.same("carried", x.carried(0), 0);
        Check.same("freeWeight", x.freeWeight(0), 40);
        Check.same("isCarried", x.isCarried(0), false);
        Check.same("isCarried", x.isCarried(2), false);
        Check.same("isCarried", x.isCarried(1), true);
        Check.same("isCarried", x.isCarried(3), true);
        Check.same("placeOf", x.placeOf(0), kilometre);
        Check.same("placeOf", x.placeOf(2), kilometre);
        Check.same("leader: 29 for 2 and 3, 30 for 4", x.leader(), 4);
        Check.same("speed of the dead", x.speed(0), 20);
        Check.same("needToday of the dead", x.needToday(0), 0);
        int strain = x.strain(0);
        x.travel();
        x.rest();
        Check.same("the dead stays as it is", x.strain(0), strain);
        Check.same("the dead stays as it is", x.dryDays(0), 3);
        Check.same("its loads stay", x.placeOf(2), kilometre);
        allDie();
        deathWhileResting();
        oneOfSeveralFollowers();
    }

    private static void oneOfSeveralFollowers() {
        // Camel 3 is as fast as camel 2, camel 4 is faster but dies on the same day as the leader.
        CaravanRoute x = Check.loaded("route 999;camel 50 1 10;camel 44 1 90;camel 45 1 90;camel 45 1 90;camel 49 1 10;");
        for (int day = 0; day < 4; day++) {
            x.travel();
        }
        Check.same("leader", x.leader(), 0);
        x.travel();
        Check.same("livingCamels", x.livingCamels(), 3);
        Check.same("the lowest number of several", x.leader(), 2);
        // Camel 1 becomes lame on the day on which the leader dies, so that its speed is halved.
        CaravanRoute y = Check.loaded("route 999;camel 58 9 10;camel 45 1 90;camel 58 9 90;");
        for (int day = 0; day < 4; day++) {
            y.travel();
        }
        for (int load = 0; load < 2; load++) {
            y.addLoad(80, 1);
            y.putOn(load, 2);
        }
        Check.same("speed", y.speed(2), 42);
        Check.same("speed", y.speed(1), 45);
        y.travel();
        Check.same("strain", y.strain(2), 16);
        Check.same("lameDays", y.lameDays(1), 3);
        Check.same("the speed after the visits counts", y.leader(), 2);
    }

    private static void allDie() {
        CaravanRoute x = Check.loaded("route 999;camel 20 2 10;camel 10 9 14;camel 10 9 10;load 4 1 on 1;");
        x.setLeader(1);
        for (int day = 0; day < 5; day++) {
            Check.same("livingCamels", x.livingCamels(), 3);
            x.travel();
        }
        Check.same("all are dead", x.livingCamels(), 0);
        Check.same("the leader stays as it is", x.leader(), 1);
        Check.badState("travel", () -> x.travel());
        Check.badState("rest", () -> x.rest());
        Check.badState("setLeader", () -> x.setLeader(0));
        Check.noSuch("thirstiest", () -> x.thirstiest());
        Check.noSuch("fastest", () -> x.fastest());
        Check.noSuch("daysToArrival", () -> x.daysToArrival());
        Check.same("distanceToday", x.distanceToday(), 0);
        Check.same("livingAfter", x.livingAfter(50), 0);
        Check.same("meanWater", x.meanWater(), 0.0);
        Check.same("day", x.day(), 5);
        Check.same("undo", x.undo(), 5);
        Check.same("they live again", x.livingCamels(), 3);
        Check.same("isCarried", x.isCarried(0), true);
        Check.same("carried", x.carried(1), 4);
    }

    private static void deathWhileResting() {
        CaravanRoute x = Check.loaded("route 999;camel 20 2 10;camel 10 9 90;camel 12 9 90;load 4 1 on 0;");
        x.travel();
        for (int i = 0; i < 3; i++) {
            Check.same("rest", x.rest(), 3);
        }
        Check.same("dryDays", x.dryDays(0), 2);
        Check.same("rest", x.rest(), 2);
        Check.same("the leader died", x.leader(), 2);
        Check.same("placeOf", x.placeOf(0), 20);
        Check.same("isCarried", x.isCarried(0), false);
    }

    private static void waterThatIsJustEnough() {
        CaravanRoute x = Check.loaded("route 999;camel 20 1 10;camel 20 1 16;well 40 999 0;well 100 999 0;");
        x.travel();
        x.travel();
        Check.same("water", x.water(0), 0);
        Check.same("just enough", x.dryDays(0), 0);
        Check.same("drink", x.drink(), 20);
        x.travel();
        x.travel();
        x.travel();
        Check.same("water", x.water(1), 1);
        Check.same("dryDays", x.dryDays(0), 1);
        x.undo();
        x.travel();
        Check.same("dryDays", x.dryDays(0), 1);
        Check.same("drink", x.drink(), 25);
        Check.same("drinking does not end dry days", x.dryDays(0), 1);
        x.travel();
        Check.same("a day with enough water does", x.dryDays(0), 0);
        x.travel();
        x.travel();
        x.travel();
        Check.same("dryDays", x.dryDays(0), 2);
        Check.same("one litre is not enough", x.water(1), 0);
        Check.same("dryDays", x.dryDays(1), 1);
    }

    private static void thirstiest() {
        CaravanRoute x = Check.loaded("route 999;camel 20 2 30;camel 10 9 11;camel 12 9 11;camel 12 9 10;load 20 1 on 1;");
        Check.same("thirstiest", x.thirstiest(), 3);
        CaravanRoute y = Check.loaded("route 999;camel 20 2 30;camel 10 9 11;camel 12 9 11;camel 12 9 12;");
        Check.same("thirstiest of two", y.thirstiest(), 1);
        for (int i = 0; i < 5; i++) {
            y.travel();
        }
        Check.same("dead", y.isDead(1), true);
        Check.same("the dead are not thirsty", y.thirstiest(), 0);
    }

    private static void fastest() {
        CaravanRoute x = Check.loaded("route 999;camel 20 2 30;camel 40 9 10;camel 38 9 90;camel 39 9 90;load 20 1 on 1;load 10 1 on 3;");
        Check.same("fastest of three with 38", x.fastest(), 1);
        x.takeOff(1);
        Check.same("fastest", x.fastest(), 3);
        x.putOn(1, 0);
        x.putOn(0, 2);
        Check.same("fastest", x.fastest(), 1);
        for (int i = 0; i < 5; i++) {
            x.travel();
        }
        Check.same("dead", x.isDead(1), true);
        Check.same("the dead are not fast", x.fastest(), 3);
        CaravanRoute y = Check.loaded("route 999;camel 10 9 30;load 99 1 on 0;");
        Check.same("fastest of slow ones", y.fastest(), 0);
        CaravanRoute z = Check.loaded("route 999;camel 60 9 30;camel 40 1 90;");
        z.travel();
        z.travel();
        z.travel();
        z.travel();
        Check.same("lame", z.lameDays(1) > 0, true);
        Check.same("fastest", z.fastest(), 0);
    }
}
