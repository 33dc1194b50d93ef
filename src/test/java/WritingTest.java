/** Promises 60 and 61: the written text. */
final class WritingTest {
    public static void main(String[] args) {
        lines();
        theDead();
        theLongestText();
        bytes();
        Check.end();
    }

    private static void lines() {
        CaravanRoute x = new CaravanRoute();
        Check.same("text", Check.written(x), "*60/60\n80/80,0,1\n40/40\n");
        x.setLeader(2);
        x.putOn(2, 1);
        x.putOn(0, 0);
        x.travel();
        Check.same("text", Check.written(x), "54/60,0\n73/80,1,2\n*35/40\n");
        x.putOn(0, 1);
        Check.same("by numbers", Check.written(x), "54/60\n73/80,0,1,2\n*35/40\n");
        Check.same("it is no change", x.undo(), 4);
    }

    private static void theDead() {
        CaravanRoute x = Check.loaded("route 100;camel 10 1 10;camel 10 1 35;load 3 3 on 0;");
        for (int day = 0; day < 4; day++) {
            x.travel();
        }
        Check.same("text", Check.written(x), "*0/10,0\n15/35\n");
        x.travel();
        Check.same("text", Check.written(x), "0/10!\n*10/35\n");
        for (int day = 0; day < 5; day++) {
            x.travel();
        }
        Check.same("text", Check.written(x), "0/10!\n*0/35!\n");
    }

    private static void theLongestText() {
        CaravanRoute x = Check.loaded("route 100;" + "camel 10 9 90;".repeat(10) + "load 1 1 on 9;".repeat(20));
        StringBuilder due = new StringBuilder("*90/90\n" + "90/90\n".repeat(8) + "90/90");
        for (int load = 0; load < 20; load++) {
            due.append(',').append(load);
        }
        Check.same("text", Check.written(x), due.append('\n').toString());
    }

    private static void bytes() {
        CaravanRoute x = new CaravanRoute();
        Check.outOfBounds("before the first text", () -> x.writtenByte(0));
        Check.same("writeCamels", x.writeCamels(), 23);
        Check.same("writtenByte(0)", x.writtenByte(0), 42);
        Check.same("writtenByte(3)", x.writtenByte(3), 47);
        Check.same("writtenByte(6)", x.writtenByte(6), 10);
        Check.same("writtenByte(12)", x.writtenByte(12), 44);
        Check.same("writtenByte(22)", x.writtenByte(22), 10);
        Check.outOfBounds("writtenByte(23)", () -> x.writtenByte(23));
        Check.outOfBounds("writtenByte(-1)", () -> x.writtenByte(-1));
        Check.outOfBounds("writtenByte(MAX)", () -> x.writtenByte(Integer.MAX_VALUE));
        Check.outOfBounds("writtenByte(MIN)", () -> x.writtenByte(Integer.MIN_VALUE));
        x.travel();
        Check.same("the text stays until it is written again", x.writtenByte(1), (int) '6');
        Check.feed(x, "route 100;camel 10 1 10;");
        x.load();
        Check.same("load leaves it", x.writtenByte(22), 10);
        Check.same("writeCamels", x.writeCamels(), 7);
        Check.outOfBounds("the new text is shorter", () -> x.writtenByte(7));
    }
}
