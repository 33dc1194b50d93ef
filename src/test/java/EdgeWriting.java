/** Promises 60 and 61: the written text. */
final class EdgeWriting extends Edge {
    static void tests() {
        writeCamels();
        lines();
        theDead();
        length();
        writtenByte();
    }

    private static String written(CaravanRoute x) {
        return Check.written(x);
    }

    private static void writeCamels() {
        promise(60, "Writes the caravan.", () -> {
            same("text", written(new CaravanRoute()), "*60/60\n80/80,0,1\n40/40\n");
            same("text of one camel", written(loaded(ROUTE)), "*60/60\n");
            same("text of the dead", written(Made.allDead()), "0/10!\n*0/10!\n");
        });
        promise(60, "The written text replaces the previous one.", () -> {
            CaravanRoute x = new CaravanRoute();
            x.writeCamels();
            x.travel();
            same("writtenByte until it is written again", x.writtenByte(1), (int) '6');
            same("text", written(x), "*55/60\n72/80,0,1\n35/40\n");
            Check.feed(x, "route 50;camel 10 1 10;");
            x.load();
            same("writtenByte after load", x.writtenByte(22), 10);
            same("a shorter text", written(x), "*10/10\n");
            Check.outOfBounds("nothing is left of the longer one", () -> x.writtenByte(7));
            Check.feed(x, ROUTE + CAMEL);
            x.load();
            same("a longer text", written(x), "*60/60\n60/60\n");
        });
    }

    private static void lines() {
        promise(60, "It has one line for each camel, by numbers", () -> {
            StringBuilder text = new StringBuilder("route 50;");
            StringBuilder due = new StringBuilder("*");
            for (int camel = 0; camel < 10; camel++) {
                text.append("camel 20 3 ").append(10 + camel).append(';');
                due.append(10 + camel).append('/').append(10 + camel).append('\n');
            }
            same("text of ten", written(loaded(text.toString())), due.toString());
            same("lines with one dead", written(Made.ten()).split("\n").length, 10);
        });
        promise(60, "an asterisk (byte 42) if it is the leader", () -> {
            CaravanRoute x = loaded("route 50;" + CAMEL.repeat(10));
            same("the first", written(x), "*60/60\n" + "60/60\n".repeat(9));
            same("byte", x.writtenByte(0), 42);
            x.setLeader(9);
            same("the last", written(x), "60/60\n".repeat(9) + "*60/60\n");
            same("byte", x.writtenByte(54), 42);
            same("the dead leader", written(Made.allDead()), "0/10!\n*0/10!\n");
        });
        promise(60, "then its water, a slash (byte 47), its tank", () -> {
            CaravanRoute x = loaded("route 999;camel 20 3 10;camel 20 3 90;camel 20 3 15;camel 20 3 14;");
            same("two digits", written(x), "*10/10\n90/90\n15/15\n14/14\n");
            x.travel();
            same("one digit", written(x), "*5/10\n85/90\n10/15\n9/14\n");
            same("byte", x.writtenByte(2), 47);
            x.travel();
            same("0", written(x), "*0/10\n80/90\n5/15\n4/14\n");
        });
        promise(60, "then a comma (byte 44) and the number of each load that it carries (by numbers)", () -> {
            StringBuilder due = new StringBuilder("*90/90");
            for (int load = 0; load < 20; load++) {
                due.append(',').append(load);
            }
            CaravanRoute x = loaded("route 50;camel 10 9 90;camel 10 9 90;" + "load 1 1;".repeat(20));
            same("no load", written(x), "*90/90\n90/90\n");
            for (int load = 19; load >= 0; load--) {
                x.putOn(load, load == 9 || load == 10 ? 1 : 0);
            }
            same("loads of both", written(x), "*90/90,0,1,2,3,4,5,6,7,8,11,12,13,14,15,16,17,18,19\n90/90,9,10\n");
            same("byte", x.writtenByte(6), 44);
            x.putOn(9, 0);
            x.putOn(10, 0);
            same("all twenty", written(x), due + "\n90/90\n");
            x.takeOff(0);
            x.takeOff(19);
            same("without the first and the last", written(x), due.toString().replace(",0,", ",").replace(",19", "") + "\n90/90\n");
        });
        promise(60, "and a line feed (byte 10)", () -> {
            CaravanRoute x = loaded("route 50;" + CAMEL.repeat(10));
            same("length", x.writeCamels(), 61);
            for (int camel = 0; camel < 10; camel++) {
                same("byte", x.writtenByte(6 + 6 * camel), 10);
            }
        });
    }

    private static void theDead() {
        promise(60, "then an exclamation mark (byte 33) if it is dead", () -> {
            CaravanRoute x = loaded("route 999;camel 20 3 10;camel 20 3 90;load 1 1 on 0;load 1 1 on 1;");
            travel(x, 4);
            same("with 2 dry days", written(x), "*0/10,0\n70/90,1\n");
            x.travel();
            same("with 3 dry days", written(x), "0/10!\n*65/90,1\n");
            same("byte", x.writtenByte(4), 33);
            x.undo();
            same("after undo", written(x), "*0/10,0\n70/90,1\n");
            same("the last of ten", written(Made.ten()).endsWith("/50\n0/10!\n"), true);
        });
    }

    private static void length() {
        promise(60, "Returns the length of the written text.", () -> {
            CaravanRoute x = loaded("route 999;camel 20 3 10;");
            x.travel();
            same("the shortest", x.writeCamels(), 6);
            same("writtenByte", x.writtenByte(5), 10);
            Check.outOfBounds("writtenByte", () -> x.writtenByte(6));
            CaravanRoute y = loaded("route 100;" + "camel 10 9 90;".repeat(10) + "load 1 1 on 9;".repeat(20));
            same("the longest", y.writeCamels(), 61 + 50);
            same("writtenByte", y.writtenByte(110), 10);
            Check.outOfBounds("writtenByte", () -> y.writtenByte(111));
        });
    }

    private static void writtenByte() {
        promise(61, "`index`: offset in the written text", () -> {
            CaravanRoute x = new CaravanRoute();
            x.writeCamels();
            same("the first", x.writtenByte(0), 42);
            same("the last", x.writtenByte(22), 10);
        });
        promise(61, "Returns the byte at this offset.", () -> {
            CaravanRoute x = new CaravanRoute();
            x.writeCamels();
            String due = "*60/60\n80/80,0,1\n40/40\n";
            for (int i = 0; i < due.length(); i++) {
                same("writtenByte " + i, x.writtenByte(i), (int) due.charAt(i));
            }
        });
        promise(61, "Throws `IndexOutOfBoundsException` if there is no such byte", () -> {
            refusedNumbers("writtenByte of 23", INDEX, () -> {
                CaravanRoute x = new CaravanRoute();
                x.writeCamels();
                return x;
            }, (x, index) -> x.writtenByte(index), -1, 23, 24);
            refusedNumbers("writtenByte of a text that was longer before", INDEX, () -> {
                CaravanRoute x = new CaravanRoute();
                x.writeCamels();
                Check.feed(x, ROUTE);
                x.load();
                x.writeCamels();
                return x;
            }, (x, index) -> x.writtenByte(index), -1, 7, 22);
        });
        promise(61, "(also before the first call of writeCamels)", () ->
            refusedNumbers("writtenByte", INDEX, CaravanRoute::new, (x, index) -> x.writtenByte(index), -1, 0, 1));
    }
}
