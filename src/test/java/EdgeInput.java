/** Promises 1 to 6: a new object, the input buffer and load. */
final class EdgeInput extends Edge {
    private static final int SPACES = 0x20202020;

    static void tests() {
        newObject();
        append();
        appendRefused();
        shorten();
        load();
        whatLoadReplaces();
        loadRefused();
        errors();
    }

    private static void newObject() {
        promise(1, "Creates a caravan as from the text \"" + Made.FIRST_TEXT + "\"", () -> {
            same("the caravan", Whole.caravan(new CaravanRoute()), Whole.caravan(loaded(Made.FIRST_TEXT)));
            same("length", new CaravanRoute().length(), 200);
            same("pace of the last camel", new CaravanRoute().pace(2), 50);
            same("value of the last load", new CaravanRoute().valueOf(2), 9);
            CaravanRoute x = new CaravanRoute();
            x.travel();
            CaravanRoute y = loaded(Made.FIRST_TEXT);
            y.travel();
            same("the caravan on day 1", Whole.caravan(x), Whole.caravan(y));
        });
        promise(1, "with an empty input buffer, no error, no snapshots and no written text", () -> {
            CaravanRoute x = new CaravanRoute();
            Check.badArgument("shorten(1)", () -> x.shorten(1));
            same("shorten(0)", x.shorten(0), 0);
            same("error", Whole.error(x), "false NoSuchElementException");
            Check.noSuch("restoreSnapshot(0)", () -> x.restoreSnapshot(0));
            Check.noSuch("restoreSnapshot(1)", () -> x.restoreSnapshot(1));
            Check.outOfBounds("writtenByte(0)", () -> x.writtenByte(0));
            Check.badState("undo", () -> x.undo());
            same("append", x.append(0, 0, 0, 0, 0), 20);
        });
        promise(1, "Stopping is off.", () -> same("isStopping", new CaravanRoute().isStopping(), false));
    }

    /** Sets one byte among spaces: only there is the error. */
    private static void byteAt(int at, int sign) {
        int[] words = {SPACES, SPACES, SPACES, SPACES, SPACES};
        int shift = 24 - at % 4 * 8;
        words[at / 4] = words[at / 4] & ~(0xff << shift) | sign << shift;
        CaravanRoute x = new CaravanRoute();
        x.append(words[0], words[1], words[2], words[3], words[4]);
        Check.badArgument("load with byte " + sign + " at " + at, () -> x.load());
        same("error with byte " + sign + " at " + at, Whole.error(x), "true " + at);
    }

    private static void append() {
        promise(2, "Appends 20 bytes to the input buffer: the four bytes of each parameter, the most significant byte first.", () -> {
            CaravanRoute x = new CaravanRoute();
            x.append(0x726f7574, 0x65203939, 0x393b6361, 0x6d656c20, 0x36302039);
            x.append(0x2039303b, SPACES, SPACES, SPACES, 0x2020200a);
            same("load", x.load(), 1);
            same("length", x.length(), 999);
            same("pace", x.pace(0), 60);
            same("freeWeight", x.freeWeight(0), 180);
            same("tank", x.tank(0), 90);
        });
        String[] names = {"a", "b", "c", "d", "e"};
        for (int i = 0; i < 5; i++) {
            int first = 4 * i;
            promise(2, "`" + names[i] + "`: bytes " + first + " to " + (first + 3), () -> {
                for (int at = first; at < first + 4; at++) {
                    for (int sign : new int[] {0, 1, '!', 'x', 127, 128, 254, 255}) {
                        byteAt(at, sign);
                    }
                }
            });
        }
        promise(2, "Returns the new length of the buffer.", () -> {
            CaravanRoute x = new CaravanRoute();
            for (int length = 20; length <= 700; length += 20) {
                same("append", x.append(-1, Integer.MIN_VALUE, Integer.MAX_VALUE, 0, 1), length);
            }
            x.shorten(0);
            same("append after shorten(0)", x.append(0, 0, 0, 0, 0), 20);
            x.shorten(1);
            same("append after shorten(1)", x.append(0, 0, 0, 0, 0), 21);
        });
    }

    private static CaravanRoute filled(int length) {
        CaravanRoute x = new CaravanRoute();
        Check.feed(x, ROUTE + " ".repeat(length - ROUTE.length()));
        return x;
    }

    private static void appendRefused() {
        promise(2, "Throws `IllegalStateException` if the length would exceed 700", () -> {
            for (int length : new int[] {681, 682, 699, 700}) {
                refused("append to " + length, STATE, () -> filled(length), x -> x.append(-1, -1, -1, -1, -1));
            }
            same("append to 679", filled(679).append(SPACES, SPACES, SPACES, SPACES, SPACES), 699);
            CaravanRoute x = filled(680);
            same("append to 680", x.append(SPACES, SPACES, SPACES, SPACES, SPACES), 700);
            Check.badState("append to 700", () -> x.append(-1, -1, -1, -1, -1));
            same("load after a refused append", x.load(), 1);
        });
    }

    private static void shorten() {
        promise(3, "Shortens the input buffer to its first bytes.", () -> {
            CaravanRoute x = new CaravanRoute();
            Check.feed(x, "route 50;camel 40 3 60;camel 40 3 60;x");
            x.shorten(37);
            same("load without the last byte", x.load(), 2);
            Check.feed(x, "route 50;camel 40 3 60;camel 40 3 60;x");
            x.shorten(23);
            Check.feed(x, "well 1 1 1;");
            same("load of what was appended behind the first bytes", x.load(), 1);
            same("wellCount", x.wellCount(), 1);
        });
        promise(3, "`length`: the new length", () -> {
            CaravanRoute x = filled(30);
            x.shorten(24);
            Check.badArgument("shorten(25)", () -> x.shorten(25));
            x.shorten(24);
            x.shorten(23);
            same("append", x.append(SPACES, SPACES, SPACES, SPACES, SPACES), 43);
            x.shorten(0);
            Check.badArgument("shorten(1)", () -> x.shorten(1));
        });
        promise(3, "Returns the new length.", () -> {
            CaravanRoute x = filled(700);
            for (int length : new int[] {700, 699, 681, 1, 0, 0}) {
                same("shorten", x.shorten(length), length);
            }
        });
        promise(3, "Throws `IllegalArgumentException` if length is negative or greater than the length of the buffer", () -> {
            refusedNumbers("shorten of none", ARGUMENT, CaravanRoute::new, (x, length) -> x.shorten(length), -1, 1);
            refusedNumbers("shorten of 23", ARGUMENT, Made::busy, (x, length) -> x.shorten(length), -1, 24);
            refusedNumbers("shorten of 700", ARGUMENT, () -> filled(700), (x, length) -> x.shorten(length), -1, 701);
            refusedNumbers("shorten of what was shortened", ARGUMENT, () -> {
                CaravanRoute x = filled(40);
                x.shorten(30);
                return x;
            }, (x, length) -> x.shorten(length), -1, 31, 40);
        });
    }

    private static void load() {
        promise(4, "Reads the input buffer as a text.", () -> {
            CaravanRoute x = filled(700);
            same("load of 700 bytes", x.load(), 1);
            same("length", x.length(), 50);
            CaravanRoute y = new CaravanRoute();
            Check.badArgument("load of no bytes", () -> y.load());
            same("errorOffset", y.errorOffset(), 0);
        });
        promise(4, "The buffer is empty afterwards.", () -> {
            CaravanRoute x = filled(700);
            x.load();
            Check.badArgument("shorten(1)", () -> x.shorten(1));
            same("append", x.append(0, 0, 0, 0, 0), 20);
            Check.badArgument("load of zeros", () -> x.load());
            Check.badArgument("shorten(1) after an error", () -> x.shorten(1));
            same("append after an error", x.append(0, 0, 0, 0, 0), 20);
        });
        promise(4, "Returns the number of camels.", () -> {
            for (int camels : new int[] {1, 2, 9, 10}) {
                CaravanRoute x = new CaravanRoute();
                Check.feed(x, "route 50;" + CAMEL.repeat(camels));
                same("load", x.load(), camels);
            }
        });
    }

    private static CaravanRoute after(CaravanRoute x, String text) {
        x.shorten(0);
        Check.feed(x, text);
        x.load();
        return x;
    }

    private static void whatLoadReplaces() {
        promise(4, "If the text has no error, everything except the written text is replaced", () -> {
            CaravanRoute x = Made.busyOnTheWay();
            String written = Whole.written(x);
            after(x, Made.FIRST_TEXT);
            same("the caravan", Whole.caravan(x), Whole.caravan(new CaravanRoute()));
            same("the error", Whole.error(x), "false NoSuchElementException");
            same("the written text", Whole.written(x), written);
            same("the written text has its first asterisk or digit", written.length() > 20, true);
            same("ten camels before", Whole.caravan(after(Made.ten(), ROUTE)), Whole.caravan(loaded(ROUTE)));
            same("twenty loads before", Whole.caravan(after(Made.twentyLoads(), ROUTE)), Whole.caravan(loaded(ROUTE)));
            same("eight wells before", Whole.caravan(after(Made.eightWells(), ROUTE)), Whole.caravan(loaded(ROUTE)));
            String six = ROUTE + "storm 0 9 9;".repeat(6);
            same("six storms before", after(loaded(six), ROUTE).stormOn(0), 0);
        });
        promise(4, "the day, the kilometre and all counts are 0, stopping is off", () -> {
            CaravanRoute x = after(Made.busyOnTheWay(), ROUTE);
            same("day", x.day(), 0);
            same("kilometre", x.kilometre(), 0);
            same("drunk", x.drunk(), 0);
            same("wellCount", x.wellCount(), 0);
            same("loadCount", x.loadCount(), 0);
            same("isStopping", x.isStopping(), false);
            CaravanRoute y = after(Made.onDay(200), ROUTE);
            same("day", y.day(), 0);
            same("drunk", y.drunk(), 0);
        });
        promise(4, "nothing can be undone", () -> {
            refused("undo after load", STATE, () -> after(Made.busy(), ROUTE), x -> x.undo());
            CaravanRoute x = after(Made.busy(), ROUTE);
            x.travel();
            same("undo of the first change after load", x.undo(), 0);
            Check.badState("undo", () -> x.undo());
            same("length", x.length(), 50);
        });
        promise(4, "and both snapshot slots are empty", () -> {
            for (int i = 0; i < 2; i++) {
                int slot = i;
                refused("restoreSnapshot(" + slot + ") after load", NO_SUCH, () -> {
                    CaravanRoute x = Made.busy();
                    x.saveSnapshot(0);
                    x.saveSnapshot(1);
                    return after(x, ROUTE);
                }, x -> x.restoreSnapshot(slot));
            }
        });
    }

    /** A busy caravan with this text in the buffer. */
    private static CaravanRoute about(String text) {
        CaravanRoute x = Made.busyOnTheWay();
        x.saveSnapshot(1);
        x.shorten(0);
        Check.feed(x, text);
        return x;
    }

    private static void loadRefused() {
        promise(4, "Throws `IllegalArgumentException` if the text has an error", () -> {
            String last = ROUTE + "camel 10 1 10;well 1 1 1;storm 0 9 9;load 9 9 on 0;load 9 9";
            String[] texts = {"", "x", "route 50;", last, last + " on 2;", ROUTE + " ".repeat(676) + "x"};
            int[] offsets = {0, 0, 9, last.length(), last.length() + 4, 699};
            for (int i = 0; i < texts.length; i++) {
                String text = texts[i];
                CaravanRoute x = about(text);
                Check.badArgument("load of '" + text + "'", () -> x.load());
                same("error of '" + text + "'", Whole.error(x), "true " + offsets[i]);
                same("append after '" + text + "'", x.append(0, 0, 0, 0, 0), 20);
                Twins.areAlike("load of '" + text + "'", () -> about(text), y -> y.load(), "buffer", "error");
            }
        });
    }

    private static void errors() {
        promise(5, "Returns whether the latest call of load found an error", () -> {
            CaravanRoute x = new CaravanRoute();
            for (String text : new String[] {ROUTE, "x", "x", ROUTE, ROUTE, "route 50;", ROUTE}) {
                Check.feed(x, text);
                Whole.outcome(() -> x.load());
                same("hasError of '" + text + "'", x.hasError(), !text.equals(ROUTE));
            }
        });
        promise(5, "false if there was no such call", () -> {
            CaravanRoute x = new CaravanRoute();
            same("hasError", x.hasError(), false);
            Check.feed(x, "x");
            same("hasError before load", x.hasError(), false);
            x.travel();
            same("hasError after a change", x.hasError(), false);
        });
        promise(6, "Returns the error offset of the latest call of load.", () -> {
            CaravanRoute x = new CaravanRoute();
            Check.badArgument("load", () -> x.load());
            same("the least", x.errorOffset(), 0);
            Check.feed(x, " ".repeat(700));
            same("the error stays until load", x.errorOffset(), 0);
            Check.badArgument("load", () -> x.load());
            same("the greatest", x.errorOffset(), 700);
            Check.feed(x, " x");
            Check.badArgument("load", () -> x.load());
            same("errorOffset", x.errorOffset(), 1);
        });
        promise(6, "Throws `NoSuchElementException` if hasError() is false", () -> {
            refused("errorOffset without load", NO_SUCH, CaravanRoute::new, x -> x.errorOffset());
            refused("errorOffset after a right load", NO_SUCH, () -> after(Made.busy(), ROUTE), x -> x.errorOffset());
        });
    }
}
