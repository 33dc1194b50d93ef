/** Promises 35 to 43, 54 to 56: loads, means and what is carried. */
final class LoadsTest {
    public static void main(String[] args) {
        wrongNumbers();
        placesAndCarriers();
        values();
        putOn();
        putOnRefused();
        takeOff();
        addLoad();
        addLoadRefused();
        means();
        progress();
        Check.end();
    }

    interface Ask {
        Object of(CaravanRoute x, int load);
    }

    private static void wrongNumbers() {
        Ask[] asks = {
            (x, load) -> x.weightOf(load), (x, load) -> x.valueOf(load), (x, load) -> x.isCarried(load),
            (x, load) -> x.carrierOf(load), (x, load) -> x.placeOf(load), (x, load) -> x.takeOff(load),
            (x, load) -> x.putOn(load, 0),
        };
        CaravanRoute x = new CaravanRoute();
        CaravanRoute twenty = Check.loaded("route 50;camel 10 1 10;" + "load 1 1;".repeat(20));
        CaravanRoute none = Check.loaded("route 50;camel 10 1 10;");
        for (int i = 0; i < asks.length; i++) {
            Ask ask = asks[i];
            for (int load : new int[] {-1, 3, 19, 20, 21, Integer.MAX_VALUE, Integer.MIN_VALUE}) {
                Check.outOfBounds("question " + i + " of " + load, () -> ask.of(x, load));
            }
            Check.outOfBounds("question " + i + " of a 21st", () -> ask.of(twenty, 20));
            Check.outOfBounds("question " + i + " of none", () -> ask.of(none, 0));
        }
        Check.same("loadCount", twenty.loadCount(), 20);
        Check.same("loadCount", none.loadCount(), 0);
        Check.same("weightOf the last", twenty.weightOf(19), 1);
    }

    private static void placesAndCarriers() {
        CaravanRoute x = new CaravanRoute();
        Check.noSuch("carrierOf(2)", () -> x.carrierOf(2));
        Check.same("carrierOf(1)", x.carrierOf(1), 1);
        x.travel();
        Check.same("placeOf a carried one", x.placeOf(0), 40);
        Check.same("placeOf one that lies", x.placeOf(2), 0);
        x.takeOff(0);
        x.travel();
        Check.same("placeOf", x.placeOf(0), 40);
        Check.same("placeOf", x.placeOf(1), 80);
        Check.noSuch("carrierOf(0)", () -> x.carrierOf(0));
        Check.same("isCarried(0)", x.isCarried(0), false);
        Check.same("isCarried(1)", x.isCarried(1), true);
    }

    private static void values() {
        CaravanRoute x = new CaravanRoute();
        Check.same("carriedValue", x.carriedValue(), 70);
        x.putOn(2, 0);
        Check.same("carriedValue", x.carriedValue(), 79);
        x.takeOff(1);
        Check.same("carriedValue", x.carriedValue(), 29);
        x.putOn(0, 2);
        Check.same("carriedValue", x.carriedValue(), 29);
        x.takeOff(0);
        x.takeOff(2);
        Check.same("carriedValue", x.carriedValue(), 0);
        CaravanRoute full = Check.loaded("route 50;" + "camel 10 1 10;".repeat(10) + "load 9 7 on 9;load 9 7 on 0;".repeat(2)
            + "load 1 99;".repeat(15) + "load 2 5 on 3;");
        Check.same("carriedValue of 20 loads", full.carriedValue(), 33);
        Check.same("valueOf", x.valueOf(1), 50);
        Check.same("weightOf", x.weightOf(1), 45);
    }

    private static void putOn() {
        CaravanRoute x = new CaravanRoute();
        Check.same("putOn lying", x.putOn(2, 1), 10);
        Check.same("carrierOf", x.carrierOf(2), 1);
        Check.same("carried", x.carried(1), 90);
        Check.same("putOn from another", x.putOn(0, 2), 10);
        Check.same("carrierOf", x.carrierOf(0), 2);
        Check.same("carried", x.carried(1), 60);
        Check.same("carried", x.carried(2), 30);
        x.travel();
        Check.same("putOn from another on the way", x.putOn(0, 0), 30);
        Check.same("carried", x.carried(2), 0);
        x.takeOff(0);
        Check.same("putOn lying on the way", x.putOn(0, 0), 30);
        Check.same("freeWeight", x.freeWeight(0), 30);
        Check.same("putOn of what just fits", Check.loaded("route 50;camel 10 1 10;load 20 1;").putOn(0, 0), 0);
    }

    private static void putOnRefused() {
        CaravanRoute x = new CaravanRoute();
        Check.outOfBounds("putOn(0, 3)", () -> x.putOn(0, 3));
        Check.outOfBounds("putOn(0, -1)", () -> x.putOn(0, -1));
        Check.outOfBounds("putOn(3, 0)", () -> x.putOn(3, 0));
        Check.outOfBounds("putOn(-1, -1)", () -> x.putOn(-1, -1));
        Check.outOfBounds("putOn of what it carries on no camel", () -> x.putOn(1, 10));
        Check.badState("putOn of what it carries", () -> x.putOn(0, 1));
        Check.badState("too heavy", () -> x.putOn(1, 2));
        x.takeOff(1);
        Check.badState("too heavy from the ground", () -> x.putOn(1, 2));
        x.travel();
        Check.badState("not here", () -> x.putOn(2, 0));
        Check.badState("not here", () -> x.putOn(1, 1));
        Check.outOfBounds("not here, no camel", () -> x.putOn(1, 7));
        Check.same("nothing was changed", Check.written(x), "*55/60\n74/80,0\n35/40\n");
        Check.same("undo", x.undo(), 1);
        CaravanRoute y = Check.loaded("route 50;camel 10 1 10;camel 10 2 90;load 20 1 on 1;load 21 1;load 3 3;");
        Check.badState("too heavy by one", () -> y.putOn(1, 0));
        Check.badState("too heavy by one in addition", () -> y.putOn(1, 1));
        for (int i = 0; i < 6; i++) {
            y.rest();
        }
        Check.same("dead", y.isDead(0), true);
        Check.badState("on a dead one", () -> y.putOn(2, 0));
        Check.badState("on a dead one from another", () -> y.putOn(0, 0));
        Check.outOfBounds("no load on a dead one", () -> y.putOn(3, 0));
        Check.same("on the living one", y.putOn(2, 1), 17);
    }

    private static void takeOff() {
        CaravanRoute x = new CaravanRoute();
        Check.badState("takeOff of one that lies", () -> x.takeOff(2));
        Check.badState("nothing to undo", () -> x.undo());
        x.travel();
        Check.same("takeOff", x.takeOff(1), 1);
        Check.same("placeOf", x.placeOf(1), 40);
        Check.same("carried", x.carried(1), 30);
        Check.badState("takeOff again", () -> x.takeOff(1));
        Check.same("undo", x.undo(), 1);
        Check.same("carried", x.carried(1), 75);
        Check.same("carrierOf", x.carrierOf(1), 1);
    }

    private static void addLoad() {
        CaravanRoute x = new CaravanRoute();
        x.travel();
        Check.same("addLoad", x.addLoad(99, 1), 3);
        Check.same("addLoad", x.addLoad(1, 99), 4);
        Check.same("loadCount", x.loadCount(), 5);
        Check.same("weightOf", x.weightOf(3), 99);
        Check.same("valueOf", x.valueOf(3), 1);
        Check.same("weightOf", x.weightOf(4), 1);
        Check.same("valueOf", x.valueOf(4), 99);
        Check.same("placeOf", x.placeOf(4), 40);
        Check.same("isCarried", x.isCarried(4), false);
        Check.same("carriedValue", x.carriedValue(), 70);
        x.saveSnapshot(0);
        x.undo();
        Check.same("loadCount", x.loadCount(), 4);
        Check.outOfBounds("weightOf", () -> x.weightOf(4));
        Check.same("addLoad", x.addLoad(7, 8), 4);
        Check.same("weightOf", x.weightOf(4), 7);
        x.putOn(4, 0);
        x.restoreSnapshot(0);
        Check.same("weightOf of the snapshot", x.weightOf(4), 1);
        Check.same("isCarried of the snapshot", x.isCarried(4), false);
        Check.same("carried of the snapshot", x.carried(0), 0);
    }

    private static void addLoadRefused() {
        CaravanRoute x = new CaravanRoute();
        for (int wrong : new int[] {0, -1, 100, Integer.MAX_VALUE, Integer.MIN_VALUE}) {
            Check.badArgument("addLoad(" + wrong + ", 5)", () -> x.addLoad(wrong, 5));
            Check.badArgument("addLoad(5, " + wrong + ")", () -> x.addLoad(5, wrong));
        }
        for (int i = 3; i < 20; i++) {
            Check.same("addLoad", x.addLoad(1, 1), i);
        }
        Check.badState("a 21st load", () -> x.addLoad(1, 1));
        Check.badArgument("a 21st load of no weight", () -> x.addLoad(0, 1));
        Check.badArgument("a 21st load of no value", () -> x.addLoad(1, 0));
        Check.same("loadCount", x.loadCount(), 20);
        Check.same("undo", x.undo(), 7);
        Check.same("addLoad", x.addLoad(2, 2), 19);
    }

    private static void means() {
        CaravanRoute x = new CaravanRoute();
        Check.same("meanWater", x.meanWater(), 60.0);
        x.travel();
        Check.same("meanWater", x.meanWater(), 54.0);
        x.travel();
        Check.same("meanWater", x.meanWater(), 144.0 / 3.0);
        x.rest();
        Check.same("meanWater", x.meanWater(), (45 + 58 + 25) / 3.0);
        CaravanRoute y = Check.loaded("route 50;camel 10 1 10;camel 10 2 90;camel 10 2 85;");
        for (int i = 0; i < 7; i++) {
            y.rest();
        }
        Check.same("livingCamels", y.livingCamels(), 2);
        Check.same("meanWater of the living", y.meanWater(), (69 + 64) / 2.0);
    }

    private static void progress() {
        CaravanRoute x = Check.loaded("route 70;camel 10 1 90;");
        Check.same("progress", x.progress(), 0.0f);
        for (int i = 1; i <= 7; i++) {
            x.travel();
            Check.same("progress", x.progress(), (float) (10 * i) / 70.0f);
        }
        Check.same("progress", x.progress(), 1.0f);
    }
}
