/** Promises 49 to 59: changes, undo and snapshots. */
final class ChangesTest {
    public static void main(String[] args) {
        travel();
        rest();
        drink();
        setLeader();
        undoOfEachChange();
        undoOfEight();
        undoneChangesDoNotCount();
        failuresAreNoChanges();
        whatUndoLeaves();
        snapshots();
        placesComeBack();
        everythingIsFull();
        snapshotsAndUndo();
        Check.end();
    }

    private static void travel() {
        CaravanRoute x = Check.loaded("route 60;camel 40 1 20;well 60 9 0;");
        Check.same("travel", x.travel(), 40);
        Check.same("travel", x.travel(), 20);
        Check.badState("arrived", () -> x.travel());
        Check.same("day", x.day(), 2);
        Check.same("undo", x.undo(), 1);
        Check.same("kilometre", x.kilometre(), 40);
    }

    private static void rest() {
        CaravanRoute x = Check.loaded("route 60;camel 40 1 20;camel 60 1 40;well 0 9 0;");
        Check.same("rest", x.rest(), 2);
        Check.same("kilometre", x.kilometre(), 0);
        Check.same("day", x.day(), 1);
        Check.same("water", x.water(0), 17);
        x.travel();
        x.travel();
        Check.same("rest at the end", x.rest(), 2);
        Check.same("water", x.water(0), 4);
        x.rest();
        x.rest();
        x.rest();
        Check.same("the last of one", x.rest(), 1);
        Check.same("leader", x.leader(), 1);
        // It has 12 litres left, for four days, and lives two dry ones.
        for (int i = 0; i < 6; i++) {
            Check.same("rest", x.rest(), 1);
        }
        Check.same("rest", x.rest(), 0);
        Check.badState("nobody is left", () -> x.rest());
    }

    private static void drink() {
        CaravanRoute x = new CaravanRoute();
        Check.badState("not at a well", () -> x.drink());
        x.setStopping(true);
        x.travel();
        Check.same("drink", x.drink(), 18);
        Check.same("drink again", x.drink(), 0);
        Check.same("day", x.day(), 1);
        Check.same("wellLevel", x.wellLevel(0), 82);
        Check.same("wellLevel", x.wellLevel(1), 50);
        Check.same("undo", x.undo(), 3);
        x.undo();
        Check.same("wellLevel", x.wellLevel(0), 100);
        Check.same("water", x.water(1), 72);
    }

    private static void setLeader() {
        CaravanRoute x = new CaravanRoute();
        Check.same("setLeader", x.setLeader(2), 0);
        Check.same("leader", x.leader(), 2);
        Check.same("setLeader", x.setLeader(1), 2);
        Check.same("setLeader to itself", x.setLeader(1), 1);
        Check.outOfBounds("setLeader(3)", () -> x.setLeader(3));
        Check.outOfBounds("setLeader(-1)", () -> x.setLeader(-1));
        Check.outOfBounds("setLeader(MAX)", () -> x.setLeader(Integer.MAX_VALUE));
        Check.same("distanceToday", x.distanceToday(), 23);
        Check.same("undo", x.undo(), 2);
        Check.same("undo", x.undo(), 1);
        Check.same("leader", x.leader(), 2);
        CaravanRoute y = Check.loaded("route 60;camel 10 1 10;camel 10 1 90;");
        for (int i = 0; i < 6; i++) {
            y.rest();
        }
        Check.badState("setLeader(dead)", () -> y.setLeader(0));
        Check.outOfBounds("setLeader(2)", () -> y.setLeader(2));
        Check.same("leader", y.leader(), 1);
    }

    private static void undoOfEachChange() {
        for (int change = 0; change < 9; change++) {
            CaravanRoute x = new CaravanRoute();
            x.setStopping(true);
            x.saveSnapshot(1);
            x.travel();
            x.rest();
            undoOf(x, change, 3);
        }
        // Here, at a well, two camels are lame, one of them dry, and a load lies behind.
        for (int change = 0; change < 9; change++) {
            CaravanRoute x = Check.loaded("route 300;camel 50 3 90;camel 30 8 60;camel 10 3 10;well 200 99 5;"
                + "load 9 8 on 1;load 3 4 on 0;load 5 6;load 6 8 on 0;");
            x.setStopping(true);
            x.saveSnapshot(1);
            x.travel();
            x.takeOff(3);
            for (int day = 1; day < 4; day++) {
                x.travel();
            }
            Check.same("lameDays", x.lameDays(1), 3);
            Check.same("dryDays", x.dryDays(2), 2);
            undoOf(x, change, 6);
        }
    }

    private static void undoOf(CaravanRoute x, int change, int left) {
        String before = everything(x);
        change(x, change);
        Check.same("change " + change + " does something", everything(x).equals(before), false);
        Check.same("undo of change " + change, x.undo(), left);
        Check.same("state after undo of change " + change, everything(x), before);
    }

    private static void change(CaravanRoute x, int change) {
        switch (change) {
            case 0 -> x.travel();
            case 1 -> x.rest();
            case 2 -> x.drink();
            case 3 -> x.setLeader(2);
            case 4 -> x.setStopping(false);
            case 5 -> x.putOn(0, 0);
            case 6 -> x.takeOff(1);
            case 7 -> x.addLoad(3, 4);
            case 8 -> x.restoreSnapshot(1);
            default -> throw new IllegalArgumentException("no such change");
        }
    }

    private static String everything(CaravanRoute x) {
        StringBuilder text = new StringBuilder(Check.written(x));
        text.append(x.kilometre()).append(' ').append(x.day()).append(' ').append(x.isStopping()).append(' ')
            .append(x.leader()).append(' ').append(x.drunk()).append(' ').append(x.loadCount());
        for (int well = 0; well < x.wellCount(); well++) {
            text.append(" well ").append(x.wellLevel(well));
        }
        for (int camel = 0; camel < x.camelCount(); camel++) {
            text.append(" camel ").append(x.water(camel)).append(' ').append(x.strain(camel)).append(' ')
                .append(x.lameDays(camel)).append(' ').append(x.dryDays(camel)).append(' ').append(x.carried(camel));
        }
        for (int load = 0; load < x.loadCount(); load++) {
            text.append(" load ").append(x.weightOf(load)).append(' ').append(x.valueOf(load)).append(' ')
                .append(x.isCarried(load)).append(' ').append(x.placeOf(load));
        }
        return text.toString();
    }

    private static void undoOfEight() {
        CaravanRoute x = new CaravanRoute();
        Check.badState("nothing to undo", () -> x.undo());
        for (int i = 1; i <= 11; i++) {
            Check.same("addLoad", x.addLoad(i, i), 2 + i);
        }
        for (int left = 7; left >= 0; left--) {
            Check.same("undo", x.undo(), left);
            Check.same("loadCount", x.loadCount(), 6 + left);
        }
        Check.badState("nothing more to undo", () -> x.undo());
        Check.same("loadCount", x.loadCount(), 6);
    }

    private static void undoneChangesDoNotCount() {
        CaravanRoute x = new CaravanRoute();
        for (int i = 1; i <= 10; i++) {
            x.addLoad(i, i);
        }
        for (int i = 0; i < 5; i++) {
            x.undo();
        }
        Check.same("loadCount", x.loadCount(), 8);
        for (int i = 0; i < 3; i++) {
            x.setStopping(true);
        }
        Check.same("undo", x.undo(), 5);
        Check.same("undo", x.undo(), 4);
        Check.same("isStopping", x.isStopping(), true);
        Check.same("undo", x.undo(), 3);
        Check.same("isStopping", x.isStopping(), false);
        Check.same("loadCount", x.loadCount(), 8);
        Check.same("undo", x.undo(), 2);
        Check.same("loadCount", x.loadCount(), 7);
        for (int i = 0; i < 7; i++) {
            x.setStopping(i % 2 == 0);
        }
        for (int left = 7; left >= 0; left--) {
            Check.same("undo", x.undo(), left);
        }
        Check.same("isStopping", x.isStopping(), false);
        Check.same("loadCount", x.loadCount(), 6);
        Check.badState("nothing more to undo", () -> x.undo());
    }

    private static void failuresAreNoChanges() {
        CaravanRoute x = Check.loaded("route 60;camel 60 1 90;camel 60 1 10;load 5 5;");
        x.travel();
        Check.badState("travel", () -> x.travel());
        Check.badState("drink", () -> x.drink());
        Check.outOfBounds("setLeader", () -> x.setLeader(2));
        Check.badState("putOn", () -> x.putOn(0, 0));
        Check.badState("takeOff", () -> x.takeOff(0));
        Check.badArgument("addLoad", () -> x.addLoad(0, 0));
        Check.noSuch("restoreSnapshot", () -> x.restoreSnapshot(0));
        Check.outOfBounds("restoreSnapshot", () -> x.restoreSnapshot(2));
        x.saveSnapshot(0);
        x.writeCamels();
        x.livingAfter(3);
        x.append(0, 0, 0, 0, 0);
        Check.badArgument("load", () -> x.load());
        Check.same("undo", x.undo(), 0);
        Check.same("kilometre", x.kilometre(), 0);
        Check.badState("undo", () -> x.undo());
    }

    private static void whatUndoLeaves() {
        CaravanRoute x = new CaravanRoute();
        x.travel();
        Check.feed(x, "route");
        int length = x.writeCamels();
        String written = Check.writtenAgain(x, length);
        x.saveSnapshot(0);
        x.undo();
        Check.same("the input buffer", x.shorten(5), 5);
        Check.same("the written text", Check.writtenAgain(x, length), written);
        Check.same("the snapshot", x.restoreSnapshot(0), 40);
        Check.badArgument("load", () -> x.load());
        x.undo();
        Check.same("kilometre", x.kilometre(), 0);
        Check.same("the error", x.errorOffset(), 5);
    }

    private static void snapshots() {
        CaravanRoute x = new CaravanRoute();
        for (int slot : new int[] {-1, 2, 3, Integer.MAX_VALUE, Integer.MIN_VALUE}) {
            Check.outOfBounds("saveSnapshot", () -> x.saveSnapshot(slot));
            Check.outOfBounds("restoreSnapshot", () -> x.restoreSnapshot(slot));
        }
        Check.same("saveSnapshot", x.saveSnapshot(1), 0);
        Check.noSuch("restoreSnapshot(0)", () -> x.restoreSnapshot(0));
        String first = everything(x);
        x.travel();
        x.setLeader(1);
        x.addLoad(5, 6);
        String second = everything(x);
        Check.same("saveSnapshot", x.saveSnapshot(0), 40);
        x.travel();
        x.takeOff(0);
        x.setStopping(true);
        Check.same("restoreSnapshot", x.restoreSnapshot(1), 0);
        Check.same("the first", everything(x), first);
        Check.same("restoreSnapshot", x.restoreSnapshot(0), 40);
        Check.same("the second", everything(x), second);
        x.rest();
        Check.same("it stays in the slot", x.restoreSnapshot(0), 40);
        Check.same("the second", everything(x), second);
        x.rest();
        Check.same("saveSnapshot replaces", x.saveSnapshot(0), 40);
        x.undo();
        x.restoreSnapshot(0);
        Check.same("day", x.day(), 2);
    }

    private static void placesComeBack() {
        CaravanRoute x = new CaravanRoute();
        x.travel();
        x.takeOff(0);
        x.saveSnapshot(0);
        x.putOn(0, 0);
        x.travel();
        x.takeOff(0);
        Check.same("placeOf", x.placeOf(0), 77);
        x.undo();
        x.undo();
        x.undo();
        Check.same("placeOf after undo", x.placeOf(0), 40);
        x.putOn(0, 0);
        x.travel();
        x.takeOff(0);
        x.restoreSnapshot(0);
        Check.same("placeOf of the snapshot", x.placeOf(0), 40);
    }

    /** As many camels, wells, storms and loads as there can be. */
    private static void everythingIsFull() {
        StringBuilder text = new StringBuilder("route 90;" + "camel 20 9 90;".repeat(10));
        for (int well = 0; well < 8; well++) {
            text.append("well ").append(well * 10).append(" 99 9;");
        }
        text.append("storm 0 9 1;".repeat(6)).append("load 9 9 on 9;".repeat(20));
        CaravanRoute x = Check.loaded(text.toString());
        Check.same("needToday", x.needToday(9), 13);
        Check.same("travel", x.travel(), 18);
        Check.same("rest", x.rest(), 10);
        x.setStopping(true);
        Check.same("travel", x.travel(), 2);
        Check.same("wouldDrink", x.wouldDrink(9), 33);
        Check.same("wouldDrink", x.wouldDrink(3), 15);
        Check.same("wouldDrink", x.wouldDrink(4), 6);
        Check.same("wouldDrink", x.wouldDrink(5), 0);
        Check.same("drink", x.drink(), 99);
        Check.same("saveSnapshot", x.saveSnapshot(0), 20);
        Check.same("undo", x.undo(), 4);
        Check.same("restoreSnapshot", x.restoreSnapshot(0), 20);
        Check.same("carried", x.carried(9), 180);
        Check.same("freeWeight", x.freeWeight(9), 0);
        Check.badState("addLoad", () -> x.addLoad(1, 1));
        while (x.livingCamels() > 0) {
            x.rest();
        }
        Check.same("carried", x.carried(9), 0);
        Check.same("placeOf", x.placeOf(19), 20);
        Check.same("carriedValue", x.carriedValue(), 0);
    }

    private static void snapshotsAndUndo() {
        CaravanRoute x = new CaravanRoute();
        x.travel();
        x.saveSnapshot(0);
        x.travel();
        x.travel();
        Check.same("restoreSnapshot", x.restoreSnapshot(0), 40);
        Check.same("undo of restoreSnapshot", x.undo(), 3);
        Check.same("kilometre", x.kilometre(), 104);
        Check.same("undo", x.undo(), 2);
        Check.same("restoreSnapshot", x.restoreSnapshot(0), 40);
        Check.same("what can be undone is not in it", x.undo(), 2);
        Check.same("kilometre", x.kilometre(), 80);
    }
}
