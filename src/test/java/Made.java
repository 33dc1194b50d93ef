/** Caravans at the edges of what there can be, made anew by each call. */
final class Made {
    /** A text of 23 bytes that begins another one. */
    static final String ROUTE = "route 50;camel 40 3 60;";
    static final String CAMEL = "camel 40 3 60;";
    static final String FIRST_TEXT = "route 200;camel 40 3 60;camel 30 5 80;camel 50 2 40;well 30 100 10;"
        + "well 90 50 5;storm 2 3 4;load 30 20 on 1;load 45 50 on 1;load 15 9;";

    private Made() {
    }

    static CaravanRoute loaded(String text) {
        return Check.loaded(text);
    }

    static void rest(CaravanRoute x, int days) {
        for (int i = 0; i < days; i++) {
            x.rest();
        }
    }

    static void travel(CaravanRoute x, int days) {
        for (int i = 0; i < days; i++) {
            x.travel();
        }
    }

    /** As many camels as there can be, at a well after five days; the last one has just died. */
    static CaravanRoute ten() {
        CaravanRoute x = loaded("route 999;camel 60 9 90;" + "camel 20 5 50;".repeat(8) + "camel 10 1 10;"
            + "well 210 999 0;load 99 1 on 0;load 81 1 on 0;load 20 1 on 9;");
        travel(x, 5);
        return x;
    }

    /** As many wells as there can be, at the last of them, which the camel has emptied. */
    static CaravanRoute eightWells() {
        StringBuilder text = new StringBuilder("route 999;camel 60 9 90;well 999 999 0;");
        for (int well = 1; well < 7; well++) {
            text.append("well ").append(well * 100).append(" 50 5;");
        }
        CaravanRoute x = loaded(text + "well 0 1 99;");
        x.rest();
        x.drink();
        return x;
    }

    /** As many loads as there can be, the first and the last one carried, five kilometres on. */
    static CaravanRoute twentyLoads() {
        CaravanRoute x = loaded("route 50;camel 10 9 90;" + "camel 10 5 50;".repeat(8) + "camel 10 1 10;"
            + "load 99 1 on 0;" + "load 2 2;".repeat(18) + "load 1 99 on 9;");
        x.travel();
        return x;
    }

    /** A camel that has rested at a well until this day. */
    static CaravanRoute onDay(int day) {
        CaravanRoute x = loaded("route 999;camel 10 9 90;well 0 999 99;");
        for (int i = 1; i <= day; i++) {
            x.rest();
            if (i % 25 == 0) {
                x.drink();
            }
        }
        return x;
    }

    static CaravanRoute arrived() {
        CaravanRoute x = loaded("route 100;camel 50 3 60;camel 20 2 40;load 5 6 on 1;load 7 8;");
        travel(x, 2);
        return x;
    }

    /** Two camels that died on the fifth day, the leader being camel 1. */
    static CaravanRoute allDead() {
        CaravanRoute x = loaded("route 999;camel 20 2 10;camel 30 9 10;load 4 1 on 1;");
        x.setLeader(1);
        travel(x, 5);
        return x;
    }

    /** Camel 0 is dead, camels 1 and 2 live; nobody has moved. */
    static CaravanRoute oneDead() {
        CaravanRoute x = loaded("route 999;camel 20 2 10;camel 30 1 90;camel 30 9 90;load 4 1;load 5 5 on 1;");
        rest(x, 6);
        return x;
    }

    /**
     * At a well, and whatever a call could disturb is there: nine changes, a snapshot in slot 0, an
     * error, a written text that is not the present one, and a text of another caravan in the buffer.
     */
    static CaravanRoute busy() {
        CaravanRoute x = new CaravanRoute();
        Check.feed(x, "route 9;");
        Whole.outcome(() -> x.load());
        x.setStopping(true);
        x.travel();
        x.drink();
        x.saveSnapshot(0);
        x.setLeader(2);
        x.takeOff(1);
        x.putOn(1, 0);
        x.addLoad(5, 6);
        x.rest();
        x.writeCamels();
        x.rest();
        Check.feed(x, "route 77;camel 11 1 11;");
        return x;
    }

    /** The same, thirty kilometres on between the wells, with a load that was left behind. */
    static CaravanRoute busyOnTheWay() {
        CaravanRoute x = busy();
        x.travel();
        return x;
    }
}
