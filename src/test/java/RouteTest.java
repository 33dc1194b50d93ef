/** Promises 1 and 7 to 19: a new object, the route, the wells. */
final class RouteTest {
    public static void main(String[] args) {
        newObject();
        theRoute();
        storms();
        stopping();
        wells();
        wellsOnTheWay();
        drunk();
        Check.end();
    }

    private static void newObject() {
        CaravanRoute x = new CaravanRoute();
        Check.same("length", x.length(), 200);
        Check.same("kilometre", x.kilometre(), 0);
        Check.same("day", x.day(), 0);
        Check.same("isStopping", x.isStopping(), false);
        Check.same("drunk", x.drunk(), 0);
        Check.same("leader", x.leader(), 0);
        rows("pace", new int[] {40, 30, 50}, x::pace);
        rows("tank", new int[] {60, 80, 40}, x::tank);
        rows("water", new int[] {60, 80, 40}, x::water);
        rows("strain", new int[3], x::strain);
        rows("lameDays", new int[3], x::lameDays);
        rows("dryDays", new int[3], x::dryDays);
        rows("carried", new int[] {0, 75, 0}, x::carried);
        rows("freeWeight", new int[] {60, 25, 40}, x::freeWeight);
        rows("wellKilometre", new int[] {30, 90}, x::wellKilometre);
        rows("wellCapacity", new int[] {100, 50}, x::wellCapacity);
        rows("wellLevel", new int[] {100, 50}, x::wellLevel);
        rows("weightOf", new int[] {30, 45, 15}, x::weightOf);
        rows("valueOf", new int[] {20, 50, 9}, x::valueOf);
        rows("placeOf", new int[] {0, 0, 0}, x::placeOf);
        rows("isCarried", new int[] {1, 1, 0}, load -> x.isCarried(load) ? 1 : 0);
        Check.same("carrierOf(0)", x.carrierOf(0), 1);
        Check.same("carrierOf(1)", x.carrierOf(1), 1);
        Check.same("camelCount", x.camelCount(), 3);
        Check.same("wellCount", x.wellCount(), 2);
        Check.same("loadCount", x.loadCount(), 3);
        for (int day = 0; day < 10; day++) {
            Check.same("stormOn " + day, x.stormOn(day), day == 2 || day == 3 ? 4 : 0);
        }
        Check.same("hasError", x.hasError(), false);
        Check.noSuch("errorOffset", () -> x.errorOffset());
        Check.badArgument("empty buffer", () -> x.shorten(1));
        Check.same("append", x.append(0, 0, 0, 0, 0), 20);
        Check.badState("undo", () -> x.undo());
        Check.noSuch("restoreSnapshot(0)", () -> x.restoreSnapshot(0));
        Check.noSuch("restoreSnapshot(1)", () -> x.restoreSnapshot(1));
        Check.outOfBounds("writtenByte(0)", () -> x.writtenByte(0));
        x.setStopping(true);
        x.travel();
        x.rest();
        // The refills are seen where the wells have been emptied.
        Check.same("drink", x.drink(), 5 + 3 + 8 + 4 + 5 + 3);
        Check.same("wellLevel", x.wellLevel(0), 72);
        x.rest();
        Check.same("refill", x.wellLevel(0), 82);
        CaravanRoute y = new CaravanRoute();
        Check.same("objects are apart", y.kilometre(), 0);
    }

    interface Row {
        int at(int index);
    }

    private static void rows(String call, int[] due, Row row) {
        for (int i = 0; i < due.length; i++) {
            Check.same(call + "(" + i + ")", row.at(i), due[i]);
        }
        for (int i : new int[] {-1, due.length, 10, 20, 21, Integer.MAX_VALUE, Integer.MIN_VALUE}) {
            Check.outOfBounds(call + "(" + i + ")", () -> row.at(i));
        }
    }

    private static void theRoute() {
        CaravanRoute x = Check.loaded("route 95;camel 30 1 90;");
        int[] due = {0, 30, 60, 90, 95};
        for (int day = 0; day < 5; day++) {
            Check.same("kilometre", x.kilometre(), due[day]);
            Check.same("day", x.day(), day);
            Check.same("hasArrived", x.hasArrived(), day == 4);
            Check.same("length", x.length(), 95);
            if (day < 4) {
                Check.same("travel", x.travel(), due[day + 1] - due[day]);
            }
        }
        x.rest();
        Check.same("day", x.day(), 5);
        Check.same("kilometre", x.kilometre(), 95);
        Check.same("hasArrived", x.hasArrived(), true);
    }

    private static void storms() {
        CaravanRoute x = Check.loaded("route 95;camel 30 1 90;storm 0 3 2;storm 2 5 9;storm 3 4 5;storm 200 200 1;");
        int[] due = {2, 2, 9, 9, 9, 9, 0};
        for (int day = 0; day < due.length; day++) {
            Check.same("stormOn " + day, x.stormOn(day), due[day]);
        }
        Check.same("stormOn(199)", x.stormOn(199), 0);
        Check.same("stormOn(200)", x.stormOn(200), 1);
        Check.same("stormOn(201)", x.stormOn(201), 0);
        Check.same("stormOn(999)", x.stormOn(999), 0);
        Check.badArgument("stormOn(1000)", () -> x.stormOn(1000));
        Check.badArgument("stormOn(-1)", () -> x.stormOn(-1));
        Check.badArgument("stormOn(MAX)", () -> x.stormOn(Integer.MAX_VALUE));
        Check.badArgument("stormOn(MIN)", () -> x.stormOn(Integer.MIN_VALUE));
    }

    private static void stopping() {
        CaravanRoute x = new CaravanRoute();
        Check.same("setStopping(true)", x.setStopping(true), false);
        Check.same("isStopping", x.isStopping(), true);
        Check.same("setStopping(true)", x.setStopping(true), true);
        Check.same("setStopping(false)", x.setStopping(false), true);
        Check.same("isStopping", x.isStopping(), false);
        Check.same("setStopping(false)", x.setStopping(false), false);
        Check.same("undo counts them all", x.undo(), 3);
        x.undo();
        Check.same("isStopping", x.isStopping(), true);
    }

    private static void wells() {
        CaravanRoute x = Check.loaded("route 95;camel 30 1 90;well 95 20 99;well 0 4 3;well 30 999 0;");
        rows("wellKilometre", new int[] {95, 0, 30}, x::wellKilometre);
        rows("wellLevel", new int[] {20, 4, 999}, x::wellLevel);
        rows("wellCapacity", new int[] {20, 4, 999}, x::wellCapacity);
        Check.same("wellHere", x.wellHere(), 1);
        Check.same("drink from a full tank", x.drink(), 0);
        x.rest();
        Check.same("drink", x.drink(), 3);
        rows("wellLevel", new int[] {20, 1, 999}, x::wellLevel);
        x.rest();
        rows("wellLevel", new int[] {20, 4, 999}, x::wellLevel);
        rows("wellCapacity", new int[] {20, 4, 999}, x::wellCapacity);
        x.rest();
        Check.same("drink all", x.drink(), 4);
        x.travel();
        rows("wellLevel", new int[] {20, 3, 999}, x::wellLevel);
        Check.same("wellHere", x.wellHere(), 2);
        Check.same("drink", x.drink(), 2 + 5);
        x.travel();
        rows("wellLevel is at most the capacity", new int[] {20, 4, 992}, x::wellLevel);
        Check.noSuch("wellHere", () -> x.wellHere());
    }

    private static void wellsOnTheWay() {
        CaravanRoute x = Check.loaded("route 95;camel 30 1 90;well 95 20 99;well 0 4 3;well 60 9 0;well 30 9 0;well 31 9 9;");
        Check.same("nextWell", x.nextWell(), 3);
        Check.same("wellHere", x.wellHere(), 1);
        x.travel();
        Check.same("wellHere", x.wellHere(), 3);
        Check.same("nextWell", x.nextWell(), 4);
        x.setStopping(true);
        Check.same("travel", x.travel(), 1);
        Check.same("wellHere", x.wellHere(), 4);
        Check.same("nextWell", x.nextWell(), 2);
        Check.same("travel", x.travel(), 29);
        Check.same("nextWell", x.nextWell(), 0);
        Check.same("travel", x.travel(), 30);
        Check.noSuch("wellHere", () -> x.wellHere());
        Check.same("nextWell", x.nextWell(), 0);
        x.travel();
        Check.same("wellHere", x.wellHere(), 0);
        Check.noSuch("nextWell", () -> x.nextWell());
        CaravanRoute y = Check.loaded("route 999;camel 60 1 90;well 999 1 1;");
        Check.same("nextWell at the very end", y.nextWell(), 0);
        CaravanRoute z = Check.loaded("route 95;camel 30 1 90;");
        Check.noSuch("wellHere without wells", () -> z.wellHere());
        Check.noSuch("nextWell without wells", () -> z.nextWell());
    }

    private static void drunk() {
        CaravanRoute x = new CaravanRoute();
        x.setStopping(true);
        x.travel();
        Check.same("drunk", x.drunk(), 0);
        Check.same("drink", x.drink(), 18);
        Check.same("drunk", x.drunk(), 18);
        x.travel();
        x.travel();
        Check.same("wellHere", x.wellHere(), 1);
        Check.same("drink at the second well", x.drink(), 14 + 20 + 14);
        Check.same("drunk from both", x.drunk(), 66);
        x.rest();
        Check.same("drink what is left and refilled", x.drink(), 2 + 5);
        Check.same("drunk", x.drunk(), 73);
        x.undo();
        Check.same("drunk after undo", x.drunk(), 66);
    }
}
