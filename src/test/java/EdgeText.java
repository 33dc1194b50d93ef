/** Term 6: the text format. */
final class EdgeText extends Edge {
    static void tests() {
        sevenHundredBytes();
        words();
        numbers();
        signs();
        whatIsGiven();
        errorOffset();
        grammar();
        rangesAndCounts();
        kilometresAndCamels();
    }

    private static void sevenHundredBytes() {
        term(6, "A text is read from an input buffer of at most 700 bytes.", () -> {
            String last = "load 1 1 on 0;";
            String full = ROUTE + " ".repeat(700 - ROUTE.length() - last.length()) + last;
            CaravanRoute x = loaded(full);
            same("the load at the very end of 700 bytes", x.carrierOf(0), 0);
            wrong(full.substring(0, 699), 699);
            wrong(full.substring(0, 699) + "x", 699);
            CaravanRoute y = new CaravanRoute();
            Check.feed(y, full);
            Check.badState("append to 700 bytes", () -> y.append(0x20202020, 0x20202020, 0x20202020, 0x20202020, 0x20202020));
            same("load of 700 bytes", y.load(), 1);
        });
    }

    private static void words() {
        term(6, "A maximal sequence of letters a to z is a word.", () -> {
            same("words between numbers and semicolons", loaded("route50;camel40 3 60;load20 1on 0;").carrierOf(0), 0);
            wrong("routea 50;" + CAMEL, 0);
            wrong("routez 50;" + CAMEL, 0);
            wrong("aroute 50;" + CAMEL, 0);
            wrong("zroute 50;" + CAMEL, 0);
            wrong("rout 50;" + CAMEL, 0);
            wrong("oute 50;" + CAMEL, 0);
            wrong("routeroute 50;" + CAMEL, 0);
            wrong("route 50;camelcamel 40 3 60;", 9);
            // The bytes next to a and z, and the capital letters, are no letters, so that the word ends before them.
            wrong("route` 50;" + CAMEL, 5);
            wrong("route{ 50;" + CAMEL, 5);
            wrong("routeA 50;" + CAMEL, 5);
            wrong("routeZ 50;" + CAMEL, 5);
            wrong("Route 50;" + CAMEL, 0);
            wrong("routE 50;" + CAMEL, 0);
            wrong("a".repeat(700), 0);
            // Words that differ from the right ones in their first or last letter alone.
            wrong("soute 50;" + CAMEL, 0);
            wrong("routf 50;" + CAMEL, 0);
            wrong("route 50;damel 40 3 60;", 9);
            wrong("route 50;camem 40 3 60;", 9);
            wrong(ROUTE + "xell 1 1 1;", 23);
            wrong(ROUTE + "welm 1 1 1;", 23);
            wrong(ROUTE + "rtorm 1 1 1;", 23);
            wrong(ROUTE + "storn 1 1 1;", 23);
            wrong(ROUTE + "moad 1 1;", 23);
            wrong(ROUTE + "loae 1 1;", 23);
            wrong(ROUTE + "load 1 1 in 0;", 32);
            wrong(ROUTE + "load 1 1 om 0;", 32);
        });
    }

    private static void numbers() {
        term(6, "A maximal sequence of digits is a number of 1 to 3 digits.", () -> {
            CaravanRoute x = loaded("route 050;camel 10 9 090;camel 010 009 90;");
            same("three digits", x.length(), 50);
            same("one digit", x.freeWeight(0), 180);
            same("two digits", x.pace(0), 10);
            same("three digits", x.tank(0), 90);
            same("three digits", x.pace(1), 10);
            same("three digits", x.freeWeight(1), 180);
            same("000", loaded(ROUTE + "well 000 1 000;").wellKilometre(0), 0);
            same("all digits", loaded("route 987;camel 10 9 60;camel 10 1 23;camel 10 1 54;").length(), 987);
            wrong("route 0050;" + CAMEL, 6);
            wrong("route 50 0;" + CAMEL, 9);
            // The bytes next to 0 and 9 are no digits.
            wrong("route 50/;" + CAMEL, 8);
            wrong("route 50:;" + CAMEL, 8);
        });
    }

    private static void signs() {
        term(6, "The semicolon is a token of its own.", () -> {
            same("semicolons beside words and numbers", loaded("route 50;camel 40 3 60;camel 41 3 60 ;").camelCount(), 2);
            wrong("route 50;;" + CAMEL, 9);
            wrong(ROUTE + ";", 23);
            wrong(";" + ROUTE, 0);
            wrong("route;50;" + CAMEL, 5);
            wrong("route 50" + CAMEL, 8);
            wrong("ro;ute 50;" + CAMEL, 0);
            wrong("route 50;0;" + CAMEL, 9);
        });
        term(6, "Spaces (byte 32) and line feeds (byte 10) may stand before, between and after tokens.", () -> {
            CaravanRoute x = loaded("\n \n  route\n50 \n;\n\ncamel\n40  3\n60\n;  \n \n");
            same("length", x.length(), 50);
            same("tank", x.tank(0), 60);
            same("none where none is needed", loaded("route50;camel40 3 60;").tank(0), 60);
            wrong("ro ute 50;" + CAMEL, 0);
            wrong("ro\nute 50;" + CAMEL, 0);
            wrong("route 50;camel 4 0 3 60;", 15);
            wrong("route 50;camel 4\n0 3 60;", 15);
            for (int sign : new int[] {0, 9, 11, 12, 13, 31, 33, 95, 127, 128, 138, 160, 255}) {
                wrong((char) sign + ROUTE, 0);
                wrong("route 50" + (char) sign + ";" + CAMEL, 8);
                wrong(ROUTE + (char) sign, 23);
            }
        });
        term(6, "All other bytes, and longer sequences of digits, are invalid tokens.", () -> {
            for (int sign = 0; sign < 256; sign++) {
                if (sign == ' ' || sign == '\n') {
                    same("byte " + sign, loaded("route 50 " + (char) sign + ";" + CAMEL).camelCount(), 1);
                } else if (sign != ';') {
                    wrong("route 50 " + (char) sign + ";" + CAMEL, 9);
                    wrong(ROUTE + (char) sign, 23);
                }
            }
            wrong("route 0010;" + CAMEL, 6);
            wrong("route 1000;" + CAMEL, 6);
            wrong("route 0000000000050;" + CAMEL, 6);
            // Such as would be 50 if they were reckoned in 32 or 64 bits.
            wrong("route 4294967346;" + CAMEL, 6);
            wrong("route 18446744073709551666;" + CAMEL, 6);
            wrong("route " + "1".repeat(694), 6);
            wrong("route 50;camel 0040 3 60;", 15);
            wrong(ROUTE + "load 1 1 on 0000;", 35);
        });
    }

    private static void whatIsGiven() {
        term(6, "The number after \"route\" is its length.", () -> {
            same("length", loaded("route 10;" + CAMEL).length(), 10);
            same("length", loaded("route 999;" + CAMEL).length(), 999);
        });
        term(6, "After \"camel\" its pace, its strength and its tank are given.", () -> {
            CaravanRoute x = loaded("route 50;camel 60 9 10;camel 10 1 90;");
            same("pace", x.pace(0), 60);
            same("strength", x.freeWeight(0), 180);
            same("tank", x.tank(0), 10);
            same("pace", x.pace(1), 10);
            same("strength", x.freeWeight(1), 20);
            same("tank", x.tank(1), 90);
        });
        term(6, "After \"well\" its kilometre (0 to the length), its capacity and its refill are given.", () -> {
            CaravanRoute x = loaded(ROUTE + "well 50 999 7;well 0 1 99;");
            same("wellKilometre at the end", x.wellKilometre(0), 50);
            same("wellCapacity", x.wellCapacity(0), 999);
            same("wellKilometre", x.wellKilometre(1), 0);
            same("wellCapacity", x.wellCapacity(1), 1);
            wrong(ROUTE + "well 51 1 1;", 28);
            same("at the end of 10", loaded("route 10;" + CAMEL + "well 10 1 1;").wellKilometre(0), 10);
            wrong("route 10;" + CAMEL + "well 11 1 1;", 28);
            same("at the end of 999", loaded("route 999;" + CAMEL + "well 999 1 1;").wellKilometre(0), 999);
            CaravanRoute y = loaded(ROUTE + "well 0 9 2;");
            y.rest();
            y.drink();
            same("wellLevel", y.wellLevel(0), 6);
            y.rest();
            same("refill", y.wellLevel(0), 8);
        });
        term(6, "After \"storm\" its first day (0 to 200), its last day (the first day to 200) and its strength are given.", () -> {
            CaravanRoute x = loaded(ROUTE + "storm 0 0 1;storm 200 200 9;storm 0 200 1;storm 7 8 3;");
            int[][] due = {{0, 1}, {1, 1}, {6, 1}, {7, 3}, {8, 3}, {9, 1}, {199, 1}, {200, 9}, {201, 0}};
            for (int[] row : due) {
                same("stormOn " + row[0], x.stormOn(row[0]), row[1]);
            }
            wrong(ROUTE + "storm 201 201 1;", 29);
            wrong(ROUTE + "storm 200 201 1;", 33);
            wrong(ROUTE + "storm 0 201 1;", 31);
            wrong(ROUTE + "storm 200 199 1;", 33);
            wrong(ROUTE + "storm 7 6 1;", 31);
            wrong(ROUTE + "storm 1 0 1;", 31);
            same("the first day is the last", loaded(ROUTE + "storm 7 7 1;").stormOn(7), 1);
        });
        term(6, "After \"load\" its weight and its value are given", () -> {
            CaravanRoute x = loaded(ROUTE + "load 1 99;load 99 1;load 60 2 on 0;");
            int[][] due = {{1, 99}, {99, 1}, {60, 2}};
            for (int load = 0; load < 3; load++) {
                same("weightOf", x.weightOf(load), due[load][0]);
                same("valueOf", x.valueOf(load), due[load][1]);
            }
        });
        term(6, "and after \"on\" the camel that carries it", () -> {
            CaravanRoute x = loaded("route 50;" + CAMEL.repeat(10) + "load 1 1 on 0;load 1 1 on 9;");
            same("carrierOf", x.carrierOf(0), 0);
            same("carrierOf", x.carrierOf(1), 9);
            wrong(ROUTE + "load 1 1 on 1;", 35);
            String ten = "route 50;" + CAMEL.repeat(10);
            wrong(ten + "load 1 1 on 10;", ten.length() + 12);
        });
        term(6, "other loads lie at kilometre 0", () -> {
            CaravanRoute x = Made.arrived();
            x.takeOff(0);
            same("placeOf before load", x.placeOf(0), 100);
            Check.feed(x, ROUTE + "load 1 1;load 1 1 on 0;load 1 1;");
            x.load();
            same("placeOf after load", x.placeOf(0), 0);
            x.travel();
            same("placeOf", x.placeOf(0), 0);
            same("isCarried", x.isCarried(0), false);
            same("placeOf a carried one", x.placeOf(1), 40);
            same("placeOf", x.placeOf(2), 0);
        });
    }

    private static void errorOffset() {
        term(6, "The error offset is the offset of the first byte of the first token that is not allowed at its place.", () -> {
            wrong("x", 0);
            wrong("   xyz", 3);
            wrong("\n\nroute 9999;" + CAMEL, 8);
            wrong("route 50;camel 99 99 99;camel 99 99 99;", 15);
            wrong("route 50;camel 40 3 99;x", 20);
            wrong(ROUTE + " ".repeat(676) + "x", 699);
            wrong(ROUTE + " ".repeat(670) + "camelx;", 693);
            wrong(ROUTE + "load 61 1 on 0;", 36);
        });
        term(6, "It is the length of the text if the text ends too early.", () -> {
            wrong("", 0);
            wrong(" ", 1);
            wrong("\n", 1);
            wrong(" ".repeat(699), 699);
            wrong(" ".repeat(700), 700);
            String text = "route 50;camel 40 3 60;well 10 20 30;storm 1 2 3;load 11 22;load 11 22 on 0;";
            // Behind each token of it, with and without spaces that follow.
            for (int length = 0; length < text.length(); length++) {
                String part = text.substring(0, length);
                boolean isBetween = length == 0 || !isWithin(text.charAt(length - 1), text.charAt(length));
                boolean isWhole = part.contains("60;") && part.trim().endsWith(";");
                if (isBetween && !isWhole) {
                    wrong(part, length);
                    wrong(part + " \n", length + 2);
                } else if (isWhole) {
                    same("load of '" + part + "'", loaded(part).camelCount(), 1);
                }
            }
        });
    }

    private static boolean isWithin(char before, char behind) {
        return Character.isLetter(before) && Character.isLetter(behind) || Character.isDigit(before) && Character.isDigit(behind);
    }

    /** A beginning of a text, the number that may follow (or none), and the other tokens that may follow. */
    private static final String[][] BEGINNINGS = {
        {"", "", "route"},
        {"route ", "50"},
        {"route 50 ", "", ";"},
        {"route 50;", "", "camel"},
        {"route 50;camel ", "40"},
        {"route 50;camel 40 ", "3"},
        {"route 50;camel 40 3 ", "60"},
        {"route 50;camel 40 3 60 ", "", ";"},
        {ROUTE, "", "camel", "well", "storm", "load"},
        {ROUTE + CAMEL, "", "camel", "well", "storm", "load"},
        {ROUTE + "well ", "1"},
        {ROUTE + "well 1 ", "1"},
        {ROUTE + "well 1 1 ", "1"},
        {ROUTE + "well 1 1 1 ", "", ";"},
        {ROUTE + "well 1 1 1;", "", "well", "storm", "load"},
        {ROUTE + "storm ", "1"},
        {ROUTE + "storm 1 ", "1"},
        {ROUTE + "storm 1 1 ", "1"},
        {ROUTE + "storm 1 1 1 ", "", ";"},
        {ROUTE + "storm 1 1 1;", "", "storm", "load"},
        {ROUTE + "well 1 1 1;storm 1 1 1;", "", "storm", "load"},
        {ROUTE + "load ", "1"},
        {ROUTE + "load 1 ", "1"},
        {ROUTE + "load 1 1 ", "", "on", ";"},
        {ROUTE + "load 1 1 on ", "0"},
        {ROUTE + "load 1 1 on 0 ", "", ";"},
        {ROUTE + "load 1 1;", "", "load"},
        {ROUTE + "load 1 1 on 0;", "", "load"},
        {ROUTE + "well 1 1 1;storm 1 1 1;load 1 1;", "", "load"},
    };

    private static void grammar() {
        term(6, "A token is not allowed if the grammar forbids it", () -> {
            for (String[] beginning : BEGINNINGS) {
                String text = beginning[0];
                java.util.List<String> allowed = java.util.Arrays.asList(beginning).subList(2, beginning.length);
                for (String token : new String[] {"route", "camel", "well", "storm", "load", "on", "off", "x", ";", "!"}) {
                    if (!allowed.contains(token)) {
                        wrong(text + token, text.length());
                        wrong(text + token + " 1;", text.length());
                    } else {
                        follows(text + token);
                    }
                }
                if (beginning[1].isEmpty()) {
                    wrong(text + " 1", text.length() + 1);
                    wrong(text + " 50;", text.length() + 1);
                } else {
                    follows(text + beginning[1]);
                }
            }
        });
    }

    /** The last token is allowed: the text is right, or ends too early. */
    private static void follows(String text) {
        CaravanRoute x = new CaravanRoute();
        Check.feed(x, text);
        Whole.outcome(() -> x.load());
        String error = Whole.error(x);
        boolean isRight = error.equals("true " + text.length()) || error.startsWith("false") && text.endsWith(";");
        same("error of '" + text + "', " + error + ", is at its end", isRight, true);
    }

    private static void range(String before, String behind, int least, int most) {
        for (int number : new int[] {0, least - 1, least, most, most + 1, 999}) {
            String text = before + number + behind;
            if (number >= least && number <= most) {
                CaravanRoute x = loaded(text);
                same("hasError of '" + text + "'", x.hasError(), false);
            } else if (number >= 0 && number <= 999) {
                wrong(text, before.length());
            }
        }
    }

    private static void rangesAndCounts() {
        term(6, "if it is a number out of its range", () -> {
            range("route ", ";" + CAMEL, 10, 999);
            range("route 50;camel ", " 3 60;", 10, 60);
            range("route 50;camel 40 ", " 60;", 1, 9);
            range("route 50;camel 40 3 ", ";", 10, 90);
            range(ROUTE + "well ", " 1 1;", 0, 50);
            range(ROUTE + "well 1 ", " 1;", 1, 999);
            range(ROUTE + "well 1 1 ", ";", 0, 99);
            range(ROUTE + "storm ", " 200 1;", 0, 200);
            range(ROUTE + "storm 17 ", " 1;", 17, 200);
            range(ROUTE + "storm 1 1 ", ";", 1, 9);
            range(ROUTE + "load ", " 1;", 1, 99);
            range(ROUTE + "load 1 ", ";", 1, 99);
            range(ROUTE + "load 1 1 on ", ";", 0, 0);
            range(ROUTE + CAMEL + CAMEL + "load 1 1 on ", ";", 0, 2);
        });
        term(6, "if it is the word \"camel\" of an 11th camel", () -> {
            String ten = "route 50;" + CAMEL.repeat(10);
            same("ten camels", loaded(ten).camelCount(), 10);
            same("a well behind ten camels", loaded(ten + "well 1 1 1;").wellCount(), 1);
            wrong(ten + CAMEL, ten.length());
            wrong(ten + "camel", ten.length());
        });
        term(6, "\"well\" of a 9th well", () -> {
            StringBuilder eight = new StringBuilder(ROUTE);
            for (int well = 0; well < 8; well++) {
                eight.append("well ").append(well).append(" 9 9;");
            }
            same("eight wells", loaded(eight.toString()).wellCount(), 8);
            same("a storm behind eight wells", loaded(eight + "storm 1 1 1;").stormOn(1), 1);
            wrong(eight + "well 9 9 9;", eight.length());
            wrong(eight + "well 0 9 9;", eight.length());
            wrong(eight + "well", eight.length());
        });
        term(6, "\"storm\" of a 7th storm", () -> {
            String six = ROUTE + "storm 1 1 1;".repeat(5) + "storm 2 2 2;";
            same("six storms", loaded(six).stormOn(2), 2);
            same("a load behind six storms", loaded(six + "load 1 1;").loadCount(), 1);
            wrong(six + "storm 1 1 1;", six.length());
            wrong(six + "storm", six.length());
        });
        term(6, "\"load\" of a 21st load", () -> {
            String twenty = ROUTE + "load 1 1;".repeat(20);
            same("twenty loads", loaded(twenty).loadCount(), 20);
            wrong(twenty + "load 1 1;", twenty.length());
            wrong(twenty + "load", twenty.length());
        });
    }

    private static void kilometresAndCamels() {
        term(6, "if it is the kilometre of a well at which an earlier well is", () -> {
            wrong(ROUTE + "well 0 1 1;well 0 1 1;", 39);
            wrong(ROUTE + "well 50 1 1;well 49 1 1;well 50 1 1;", 52);
            wrong(ROUTE + "well 7 1 1;well 8 1 1;well 007 1 1;", 50);
            same("neighbours", loaded(ROUTE + "well 7 1 1;well 6 1 1;well 8 1 1;").wellCount(), 3);
        });
        term(6, "or the number of a camel that cannot carry the load in addition", () -> {
            String two = "route 50;camel 40 1 60;camel 40 9 60;";
            same("20 kg", loaded(two + "load 20 1 on 0;").freeWeight(0), 0);
            wrong(two + "load 21 1 on 0;", 50);
            wrong(two + "load 20 1 on 0;load 1 1 on 0;", 64);
            wrong(two + "load 19 1 on 0;load 2 1 on 0;", 64);
            same("19 and 1 kg", loaded(two + "load 19 1 on 0;load 1 1 on 0;").freeWeight(0), 0);
            wrong(two + "load 99 1 on 1;load 82 1 on 1;", 65);
            same("99 and 81 kg", loaded(two + "load 99 1 on 1;load 81 1 on 1;load 20 1 on 0;").freeWeight(1), 0);
            same("a load that lies weighs on nobody", loaded(two + "load 99 1;load 20 1 on 0;").freeWeight(0), 0);
            wrong(two + "load 1 1 on 2;", 49);
        });
    }
}
