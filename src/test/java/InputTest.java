/** Promises 2 to 6 and the text format (term 6). */
final class InputTest {
    private static final String CAMEL = "camel 40 3 60;";

    public static void main(String[] args) {
        appendTakesTwentyBytes();
        appendRefusesMoreThan700();
        shortenKeepsTheFirstBytes();
        loadReplacesEverything();
        failedLoadChangesNothingElse();
        errorIsThatOfTheLatestLoad();
        tokens();
        tokensEndWithTheText();
        errorOfTheFirstToken();
        endsTooEarly();
        ranges();
        counts();
        orderOfStanzas();
        loadsOnCamels();
        wellsAtOneKilometre();
        Check.end();
    }

    private static void appendTakesTwentyBytes() {
        CaravanRoute x = new CaravanRoute();
        Check.same("append", x.append(0x726f7574, 0x65203130, 0x303b6361, 0x6d656c20, 0x34302033), 20);
        Check.same("append", x.append(0x2036303b, 0x20202020, 0x20202020, 0x20202020, 0x2020200a), 40);
        Check.same("load", x.load(), 1);
        Check.same("length", x.length(), 100);
        Check.same("tank", x.tank(0), 60);
        Check.same("append after load", x.append(0, 0, 0, 0, -1), 20);
        // Each byte alone: the text is valid up to it, so it is the error.
        for (int at = 0; at < 20; at++) {
            int[] word = new int[5];
            for (int i = 0; i < 20; i++) {
                int sign = i == at ? 0xff : ' ';
                word[i / 4] |= sign << 24 - i % 4 * 8;
            }
            CaravanRoute y = new CaravanRoute();
            y.append(word[0], word[1], word[2], word[3], word[4]);
            fails(y, "byte " + at, at);
        }
    }

    private static void appendRefusesMoreThan700() {
        CaravanRoute x = new CaravanRoute();
        for (int i = 1; i <= 35; i++) {
            Check.same("append " + i, x.append(0x20202020, 0x20202020, 0x20202020, 0x20202020, 0x20202020), i * 20);
        }
        Check.badState("append to 700", () -> x.append(0, 0, 0, 0, 0));
        Check.same("shorten", x.shorten(700), 700);
        Check.same("shorten", x.shorten(681), 681);
        Check.badState("append to 681", () -> x.append(0, 0, 0, 0, 0));
        Check.same("shorten", x.shorten(680), 680);
        Check.same("append to 680", x.append(0x20202020, 0x20202020, 0x20202020, 0x20202020, 0x20202020), 700);
        fails(x, "700 spaces", 700);
    }

    private static void shortenKeepsTheFirstBytes() {
        CaravanRoute x = new CaravanRoute();
        Check.same("shorten of nothing", x.shorten(0), 0);
        Check.badArgument("shorten(1) of nothing", () -> x.shorten(1));
        Check.badArgument("shorten(-1) of nothing", () -> x.shorten(-1));
        Check.feed(x, "route 123;camel 40 3 60;");
        Check.badArgument("shorten(25)", () -> x.shorten(25));
        Check.badArgument("shorten(-1)", () -> x.shorten(-1));
        Check.badArgument("shorten(MIN)", () -> x.shorten(Integer.MIN_VALUE));
        Check.badArgument("shorten(MAX)", () -> x.shorten(Integer.MAX_VALUE));
        Check.same("shorten(24)", x.shorten(24), 24);
        Check.same("shorten(8)", x.shorten(8), 8);
        Check.badArgument("shorten(9)", () -> x.shorten(9));
        Check.feed(x, ";camel 40 3 60;");
        Check.same("load", x.load(), 1);
        Check.same("length", x.length(), 12);
        Check.badArgument("shorten(1) after load", () -> x.shorten(1));
    }

    private static void loadReplacesEverything() {
        CaravanRoute x = new CaravanRoute();
        x.setStopping(true);
        x.travel();
        x.drink();
        x.setLeader(2);
        x.saveSnapshot(0);
        x.saveSnapshot(1);
        int length = x.writeCamels();
        String before = Check.writtenAgain(x, length);
        Check.feed(x, "route 100;camel 20 2 30;camel 21 3 31;well 10 50 5;storm 1 2 3;load 5 6;load 7 8 on 1;");
        Check.same("load", x.load(), 2);
        Check.same("length", x.length(), 100);
        Check.same("kilometre", x.kilometre(), 0);
        Check.same("day", x.day(), 0);
        Check.same("isStopping", x.isStopping(), false);
        Check.same("drunk", x.drunk(), 0);
        Check.same("leader", x.leader(), 0);
        Check.same("wellCount", x.wellCount(), 1);
        Check.same("wellLevel", x.wellLevel(0), 50);
        Check.same("loadCount", x.loadCount(), 2);
        Check.same("carrierOf", x.carrierOf(1), 1);
        Check.same("carried", x.carried(1), 7);
        Check.same("carried", x.carried(0), 0);
        Check.same("placeOf", x.placeOf(0), 0);
        Check.same("stormOn", x.stormOn(2), 3);
        Check.same("stormOn", x.stormOn(3), 0);
        Check.badState("undo", () -> x.undo());
        Check.noSuch("restoreSnapshot(0)", () -> x.restoreSnapshot(0));
        Check.noSuch("restoreSnapshot(1)", () -> x.restoreSnapshot(1));
        Check.same("written text stays", Check.writtenAgain(x, length), before);
        Check.outOfBounds("its length stays", () -> x.writtenByte(length));
        Check.feed(x, "route 50;camel 20 2 30;");
        Check.same("load after load", x.load(), 1);
        Check.same("loadCount", x.loadCount(), 0);
        Check.same("wellCount", x.wellCount(), 0);
        Check.same("stormOn", x.stormOn(2), 0);
        Check.same("water", x.water(0), 30);
        Check.same("carried", x.carried(0), 0);
    }

    private static void failedLoadChangesNothingElse() {
        CaravanRoute x = new CaravanRoute();
        x.travel();
        x.saveSnapshot(0);
        x.travel();
        String before = Check.written(x);
        Check.feed(x, "route 50;camel 20 2 30;well 1 1 1;load 9 9 on 0;load 9 9 on 1;");
        fails(x, "text", 60);
        Check.same("length", x.length(), 200);
        Check.same("kilometre", x.kilometre(), 80);
        Check.same("camelCount", x.camelCount(), 3);
        Check.same("wellCount", x.wellCount(), 2);
        Check.same("loadCount", x.loadCount(), 3);
        Check.same("carried", x.carried(0), 0);
        Check.same("carried", x.carried(1), 75);
        Check.same("text", Check.written(x), before);
        Check.badArgument("the buffer is empty", () -> x.shorten(1));
        Check.same("restoreSnapshot", x.restoreSnapshot(0), 40);
        Check.same("undo", x.undo(), 2);
        Check.same("undo", x.undo(), 1);
        Check.same("undo", x.undo(), 0);
        Check.same("kilometre", x.kilometre(), 0);
        Check.same("hasError", x.hasError(), true);
    }

    private static void errorIsThatOfTheLatestLoad() {
        CaravanRoute x = new CaravanRoute();
        Check.same("hasError", x.hasError(), false);
        Check.noSuch("errorOffset", () -> x.errorOffset());
        fails(x, "empty text", 0);
        Check.feed(x, "route 50;" + CAMEL + "x");
        Check.same("hasError until load", x.hasError(), true);
        Check.same("errorOffset until load", x.errorOffset(), 0);
        fails(x, "x", 23);
        Check.same("shorten does not touch the error", x.shorten(0), 0);
        Check.same("errorOffset", x.errorOffset(), 23);
        Check.feed(x, "route 50;" + CAMEL);
        Check.same("load", x.load(), 1);
        Check.same("hasError", x.hasError(), false);
        Check.noSuch("errorOffset", () -> x.errorOffset());
    }

    private static void tokens() {
        right("route 50;camel 40 3 60;", 1);
        right("route50;camel40 3 60;camel\n30\n5 80;", 2);
        right("\n  route\n050  ;\n camel 040 003 060 ;\n", 1);
        right("route 50;camel 40 3 60;load 20 1on 0;load 20 1on0;", 1);
        wrong("route 0050;" + CAMEL, 6);
        wrong("route 1000;" + CAMEL, 6);
        wrong("route 99999999999999999999;" + CAMEL, 6);
        wrong("route 0000000000050;" + CAMEL, 6);
        wrong("route\t50;" + CAMEL, 5);
        wrong("route\r50;" + CAMEL, 5);
        wrong("Route 50;" + CAMEL, 0);
        wrong("routE 50;" + CAMEL, 0);
        wrong("route 50:" + CAMEL, 8);
        wrong("route 50;;" + CAMEL, 9);
        wrong("route -50;" + CAMEL, 6);
        wrong("route 5 0;" + CAMEL, 6);
        wrong("routes 50;" + CAMEL, 0);
        wrong("rout 50;" + CAMEL, 0);
        wrong("  routex 50;" + CAMEL, 2);
        wrong("route 50;camelcamel 40 3 60;", 9);
        wrong("route 50;camel 40 3 60;\u0000", 23);
        wrong("route 50;camel 40 3 60;\u00e4", 23);
        wrong("route 50;camel 40 3 60; {", 24);
        wrong("route 50;camel 40 3 60; `", 24);
        wrong("route 50;camel 40 3 60; /", 24);
        wrong("route 5/;" + CAMEL, 6);
        wrong("route 50a;" + CAMEL, 8);
        right("route 50;camel 40 3 60;well 9 1 0;storm 1 1 1;load 1 1;", 1);
    }

    /** What was cut off, or stood in the buffer before, belongs to no token. */
    private static void tokensEndWithTheText() {
        for (String rest : new String[] {"s", "5", "0", ";", " "}) {
            CaravanRoute x = new CaravanRoute();
            Check.feed(x, "route" + rest);
            x.shorten(5);
            fails(x, "route before " + rest, 5);
            Check.feed(x, "route 50" + rest);
            x.shorten(8);
            fails(x, "route 50 before " + rest, 8);
            Check.feed(x, "route 505" + rest);
            x.shorten(9);
            fails(x, "route 505 before " + rest, 9);
        }
        String full = "route 50;" + CAMEL;
        for (String last : new String[] {"load", "load 1", "load 1 1", "load 1 1 on 0;"}) {
            CaravanRoute x = new CaravanRoute();
            Check.feed(x, full + " ".repeat(700 - full.length() - last.length()) + last);
            if (last.endsWith(";")) {
                Check.same("load of 700 bytes", x.load(), 1);
            } else {
                fails(x, "700 bytes", 700);
            }
        }
        CaravanRoute x = new CaravanRoute();
        Check.feed(x, "a".repeat(700));
        fails(x, "a long word", 0);
        Check.feed(x, "route " + "1".repeat(694));
        fails(x, "a long number", 6);
    }

    private static void errorOfTheFirstToken() {
        wrong("50 route;", 0);
        wrong(";", 0);
        wrong("camel 40 3 60;", 0);
        wrong("route route;", 6);
        wrong("route " + CAMEL, 6);
        wrong("xoute 50;" + CAMEL, 0);
        wrong("routez 50;" + CAMEL, 0);
        wrong("routea 50;" + CAMEL, 0);
        wrong("route ;", 6);
        wrong("route 50 50;", 9);
        wrong("route 50 camel", 9);
        wrong("route 50;well 1 1 1;", 9);
        wrong("route 50;storm 1 1 1;", 9);
        wrong("route 50;load 1 1;", 9);
        wrong("route 50;route 50;", 9);
        wrong("route 50;camel ;", 15);
        wrong("route 50;camel 40;", 17);
        wrong("route 50;camel 40 3;", 19);
        wrong("route 50;camel 40 3 60 1;", 23);
        wrong("route 50;" + CAMEL + "on 0;", 23);
        wrong("route 50;" + CAMEL + "7", 23);
        wrong("route 50;" + CAMEL + "well 1 1;", 31);
        wrong("route 50;" + CAMEL + "well 1;", 29);
        wrong("route 50;" + CAMEL + "well;", 27);
        wrong("route 50;" + CAMEL + "well 1 1 1 1;", 34);
        wrong("route 50;" + CAMEL + "storm 1 1;", 32);
        wrong("route 50;" + CAMEL + "storm 1;", 30);
        wrong("route 50;" + CAMEL + "storm ;", 29);
        wrong("route 50;" + CAMEL + "storm 1 1 1 1;", 35);
        wrong("route 50;" + CAMEL + "load ;", 28);
        wrong("route 50;" + CAMEL + "load 1;", 29);
        wrong("route 50;" + CAMEL + "load 1 on 0;", 30);
        wrong("route 50;" + CAMEL + "load 1 1 1;", 32);
        wrong("route 50;" + CAMEL + "load 1 1 off 0;", 32);
        wrong("route 50;" + CAMEL + "load 1 1 on;", 34);
        wrong("route 50;" + CAMEL + "load 1 1 on on;", 35);
        wrong("route 50;" + CAMEL + "load 1 1 on 0 0;", 37);
        wrong("route 50;" + CAMEL + "load 1 1 on 0000;", 35);
    }

    /** A part of a text is a text only if it ends behind a stanza, with a camel in it. */
    private static void endsTooEarly() {
        String text = "route 50;\ncamel 40 3 60;well 10 20 30;storm 1 2 3;load 11 22;load 11 22 on 0;\n  ";
        for (int length = 0; length <= text.length(); length++) {
            String part = text.substring(0, length);
            CaravanRoute x = new CaravanRoute();
            Check.feed(x, part);
            if (part.contains("60;") && part.trim().endsWith(";")) {
                Check.same("load of '" + part + "'", x.load(), 1);
            } else {
                Check.badArgument("load of '" + part + "'", () -> x.load());
            }
        }
        wrong("", 0);
        wrong("   \n", 4);
        wrong("route", 5);
        wrong("route ", 6);
        wrong("route 50", 8);
        wrong("route 50;", 9);
        wrong("route 50; \n", 11);
        wrong("route 50;camel", 14);
        wrong("route 50;camel 40", 17);
        wrong("route 50;camel 40 3", 19);
        wrong("route 50;camel 40 3 60", 22);
        wrong("route 50;camel 40 3 60  ", 24);
        wrong("route 50;" + CAMEL + "well", 27);
        wrong("route 50;" + CAMEL + "well 1 1 1", 33);
        wrong("route 50;" + CAMEL + "storm 1 1 1", 34);
        wrong("route 50;" + CAMEL + "load 1 1", 31);
        wrong("route 50;" + CAMEL + "load 1 1 on", 34);
        wrong("route 50;" + CAMEL + "load 1 1 on 0", 36);
    }

    private static void ranges() {
        range("route ", ";" + CAMEL, 10, 999);
        range("route 50;camel ", " 3 60;", 10, 60);
        range("route 50;camel 40 ", " 60;", 1, 9);
        range("route 50;camel 40 3 ", ";", 10, 90);
        range("route 50;" + CAMEL + "well ", " 1 1;", 0, 50);
        range("route 999;" + CAMEL + "well ", " 1 1;", 0, 999);
        range("route 50;" + CAMEL + "well 1 ", " 1;", 1, 999);
        range("route 50;" + CAMEL + "well 1 1 ", ";", 0, 99);
        range("route 50;" + CAMEL + "storm ", " 200 1;", 0, 200);
        range("route 50;" + CAMEL + "storm 17 ", " 1;", 17, 200);
        range("route 50;" + CAMEL + "storm 200 ", " 1;", 200, 200);
        range("route 50;" + CAMEL + "storm 1 1 ", ";", 1, 9);
        range("route 50;" + CAMEL + "load ", " 1;", 1, 99);
        range("route 50;" + CAMEL + "load 1 ", ";", 1, 99);
        range("route 50;" + CAMEL + "load 1 1 on ", ";", 0, 0);
        range("route 50;" + CAMEL + CAMEL + CAMEL + "load 1 1 on ", ";", 0, 2);
    }

    private static void range(String before, String behind, int least, int most) {
        for (int number : new int[] {0, 1, least - 1, least, least + 1, most - 1, most, most + 1, 500, 999}) {
            if (number >= 0 && number <= 999) {
                CaravanRoute x = new CaravanRoute();
                Check.feed(x, before + number + behind);
                if (number >= least && number <= most) {
                    x.load();
                    Check.same(before + number + behind, x.hasError(), false);
                } else {
                    fails(x, before + number + behind, before.length());
                }
            }
        }
    }

    private static void counts() {
        String route = "route 50;";
        right(route + CAMEL.repeat(10), 10);
        wrong(route + CAMEL.repeat(11), 9 + 140);
        StringBuilder wells = new StringBuilder(route + CAMEL);
        for (int i = 0; i < 8; i++) {
            wells.append("well ").append(i).append(" 9 9;");
        }
        right(wells.toString(), 1);
        right(wells + "storm 1 1 1;load 1 1;", 1);
        wrong(wells + "well 8 9 9;", wells.length());
        right(route + CAMEL + "storm 1 1 1;".repeat(6) + "load 1 1;", 1);
        wrong(route + CAMEL + "storm 1 1 1;".repeat(7), 23 + 72);
        right(route + CAMEL + "load 1 1;".repeat(20), 1);
        wrong(route + CAMEL + "load 1 1;".repeat(21), 23 + 180);
        Check.same("stormOn", Check.loaded(route + CAMEL + "storm 1 1 1;".repeat(5) + "storm 3 3 7;").stormOn(3), 7);
        Check.same("loadCount", Check.loaded(route + CAMEL + "load 1 1;".repeat(20)).loadCount(), 20);
    }

    private static void orderOfStanzas() {
        String route = "route 50;" + CAMEL;
        wrong(route + "well 1 1 1;" + CAMEL, 34);
        wrong(route + "storm 1 1 1;" + CAMEL, 35);
        wrong(route + "storm 1 1 1;well 1 1 1;", 35);
        wrong(route + "load 1 1;" + CAMEL, 32);
        wrong(route + "load 1 1;well 1 1 1;", 32);
        wrong(route + "load 1 1;storm 1 1 1;", 32);
        right(route + "storm 1 1 1;load 1 1;", 1);
        right(route + "well 1 1 1;load 1 1;", 1);
    }

    private static void loadsOnCamels() {
        String route = "route 50;camel 40 1 60;camel 40 2 60;";
        right(route + "load 20 1 on 0;load 40 1 on 1;", 2);
        wrong(route + "load 21 1 on 0;", 50);
        wrong(route + "load 20 1 on 0;load 1 1 on 0;", 64);
        wrong(route + "load 20 1 on 1;load 21 1 on 1;", 65);
        right(route + "load 20 1 on 1;load 20 1 on 1;load 20 1 on 0;load 1 1;", 2);
        CaravanRoute x = Check.loaded(route + "load 7 5;load 20 1 on 1;");
        Check.same("placeOf", x.placeOf(0), 0);
        Check.same("isCarried", x.isCarried(0), false);
        Check.same("carrierOf", x.carrierOf(1), 1);
        // A text read before leaves no weight behind, whether it was right or wrong.
        Check.feed(x, route + "load 20 1 on 0;load 30 1 on 1;load 30 1 on 1;");
        fails(x, "too heavy", 80);
        Check.feed(x, route + "load 20 1 on 0;load 40 1 on 1;");
        Check.same("load", x.load(), 2);
        Check.feed(x, route + "load 20 1 on 0;load 40 1 on 1;");
        Check.same("load", x.load(), 2);
    }

    private static void wellsAtOneKilometre() {
        String route = "route 50;" + CAMEL;
        wrong(route + "well 7 1 1;well 7 1 1;", 39);
        wrong(route + "well 7 1 1;well 8 1 1;well 007 1 1;", 50);
        right(route + "well 7 1 1;well 6 1 1;well 50 1 1;well 0 1 1;", 1);
        CaravanRoute x = Check.loaded(route + "well 7 1 1;");
        Check.feed(x, route + "well 7 1 1;");
        Check.same("the wells before are forgotten", x.load(), 1);
    }

    private static void right(String text, int camels) {
        CaravanRoute x = new CaravanRoute();
        Check.feed(x, text);
        x.append(0x20202020, 0x20202020, 0x20202020, 0x20202020, 0x20202020);
        x.load();
        Check.same("camels of '" + text + "'", x.camelCount(), camels);
        Check.same("hasError of '" + text + "'", x.hasError(), false);
    }

    private static void wrong(String text, int offset) {
        CaravanRoute x = new CaravanRoute();
        Check.feed(x, text);
        fails(x, "load of '" + text + "'", offset);
    }

    private static void fails(CaravanRoute x, String call, int offset) {
        Check.badArgument(call, () -> x.load());
        Check.same(call + ": hasError", x.hasError(), true);
        if (x.hasError()) {
            Check.same(call + ": errorOffset", x.errorOffset(), offset);
        }
        Check.badArgument(call + ": the buffer is empty", () -> x.shorten(1));
    }
}
