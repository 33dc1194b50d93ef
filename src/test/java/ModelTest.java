import java.nio.charset.StandardCharsets;
import java.util.concurrent.Callable;
import java.util.function.Supplier;

/**
 * Runs of calls, the same ones each time, answered by the class and by PlainCaravan. An object is used
 * for 512 calls and no more, so each run asks some of all questions on its way, and all of them at its end.
 */
final class ModelTest {
    private static final int RUNS = 24_000;
    private static final int CALLS_OF_AN_OBJECT = 512;
    private long seed;
    private final CaravanRoute x = new CaravanRoute();
    private final PlainCaravan plain = new PlainCaravan();
    private final StringBuilder told = new StringBuilder();
    private final int run;
    private int calls;
    /** Of so many questions one is asked. */
    private int every;

    private ModelTest(int run) {
        this.run = run;
        seed = run * 7919L + 17;
    }

    public static void main(String[] args) {
        int most = 0;
        for (int run = 0; run < RUNS; run++) {
            ModelTest test = new ModelTest(run);
            test.play();
            most = Math.max(most, test.calls);
        }
        Check.same("calls of the longest run", most, CALLS_OF_AN_OBJECT);
        Check.end();
    }

    private int below(int bound) {
        seed = seed * 6364136223846793005L + 1442695040888963407L;
        return (int) ((seed >>> 33) % bound);
    }

    private void play() {
        int callsOnTheWay = below(CALLS_OF_AN_OBJECT);
        every = 1 + below(100);
        while (calls < callsOnTheWay) {
            call();
            askAll();
        }
        every = 1;
        askAll();
    }

    /** A call that is made in any case: a change, or one that leads to changes. */
    private void both(String call, Supplier<Object> due, Callable<?> body) {
        if (calls < CALLS_OF_AN_OBJECT) {
            calls++;
            compare(call, due.get(), body);
        }
    }

    /** A question that may be left out. */
    private void same(String call, Supplier<Object> due, Callable<?> body) {
        if (below(every) == 0) {
            both(call, due, body);
        }
    }

    private void compare(String call, Object due, Callable<?> body) {
        Object got;
        try {
            got = body.call();
        } catch (Exception e) {
            got = e.getClass().getSimpleName();
        }
        if (!got.equals(due)) {
            System.out.println("run " + run + ":\n" + told + call + " answered " + got + ", due is " + due);
            System.exit(1);
        }
        told.append(call).append(" = ").append(due).append('\n');
        Check.same(call, got, due);
    }

    private static final int[] FAR = {Integer.MIN_VALUE, Integer.MAX_VALUE, -10, 100};

    private int camel() {
        return below(60) == 0 ? FAR[below(4)] : below(plain.world.camels.size() + (below(20) == 0 ? 3 : 0)) - (below(40) == 0 ? 1 : 0);
    }

    private int load() {
        return below(60) == 0 ? FAR[below(4)] : below(plain.world.loads.size() + 1 + (below(20) == 0 ? 3 : 0)) - (below(40) == 0 ? 1 : 0);
    }

    private void call() {
        int camel = camel();
        int load = load();
        switch (below(run % 3 == 0 ? 16 : 26)) {
            case 0 -> {
                boolean isOn = below(4) > 0;
                both("setStopping " + isOn, () -> plain.setStopping(isOn), () -> x.setStopping(isOn));
            }
            case 1, 2 -> both("drink", () -> plain.drink(), () -> x.drink());
            case 3 -> both("setLeader " + camel, () -> plain.setLeader(camel), () -> x.setLeader(camel));
            case 4, 5 -> both("putOn " + load + " " + camel, () -> plain.putOn(load, camel), () -> x.putOn(load, camel));
            case 6 -> both("takeOff " + load, () -> plain.takeOff(load), () -> x.takeOff(load));
            case 7 -> {
                int weight = below(50) - below(2);
                int value = below(105);
                both("addLoad " + weight + " " + value, () -> plain.addLoad(weight, value), () -> x.addLoad(weight, value));
            }
            case 8 -> {
                int times = 1 + below(10);
                for (int i = 0; i < times; i++) {
                    both("undo", () -> plain.undo(), () -> x.undo());
                }
            }
            case 9 -> {
                int slot = below(20) == 0 ? below(5) - 2 : below(2);
                both("saveSnapshot " + slot, () -> plain.saveSnapshot(slot), () -> x.saveSnapshot(slot));
            }
            case 10 -> {
                int slot = below(20) == 0 ? below(5) - 2 : below(2);
                both("restoreSnapshot " + slot, () -> plain.restoreSnapshot(slot), () -> x.restoreSnapshot(slot));
            }
            case 11 -> {
                if (below(4) == 0) {
                    newText();
                }
            }
            case 12, 13 -> both("rest", () -> plain.rest(), () -> x.rest());
            case 14 -> {
                for (int i = 0; i < 3; i++) {
                    both("travel", () -> plain.travel(), () -> x.travel());
                }
            }
            default -> both("travel", () -> plain.travel(), () -> x.travel());
        }
    }

    private void newText() {
        String text = text();
        if (below(4) == 0) {
            int from = below(text.length());
            text = text.substring(0, from) + "; \n9a1~".charAt(below(7)) + text.substring(from + below(2));
        }
        if (below(15) == 0) {
            text = text.substring(0, below(text.length()));
        }
        told.append("text ").append(text).append('\n');
        byte[] bytes = text.getBytes(StandardCharsets.ISO_8859_1);
        for (int i = 0; i < bytes.length; i += 20) {
            StringBuilder signs = new StringBuilder();
            int[] words = new int[5];
            for (int k = 0; k < 20; k++) {
                char sign = i + k < bytes.length ? (char) bytes[i + k] : ' ';
                signs.append(sign);
                words[k / 4] = words[k / 4] << 8 | sign;
            }
            both("append", () -> plain.append(signs.toString()), () -> x.append(words[0], words[1], words[2], words[3], words[4]));
        }
        if (below(2) == 0) {
            both("shorten", () -> plain.shorten(bytes.length), () -> x.shorten(bytes.length));
        }
        both("load", () -> plain.load(), () -> x.load());
        same("hasError", () -> plain.hasError(), () -> x.hasError());
        same("errorOffset", () -> plain.errorOffset(), () -> x.errorOffset());
    }

    private String text() {
        int length = 10 + below(below(3) == 0 ? 990 : 300);
        int camels = below(8) == 0 ? 10 : 1 + below(5);
        StringBuilder text = new StringBuilder("route " + length + ";");
        for (int i = 0; i < camels; i++) {
            text.append("camel " + (10 + below(51)) + " " + (1 + below(9)) + " " + (10 + below(81)) + ";");
        }
        int wells = below(9);
        for (int i = 0; i < wells; i++) {
            int place = below(4) == 0 ? below(length + 1) : (length * i + below(length)) / wells;
            text.append("well " + Math.min(place, 999) + " " + (1 + below(below(2) == 0 ? 40 : 999)) + " " + below(100) + ";");
        }
        for (int i = below(7); i > 0; i--) {
            int first = below(15);
            text.append("storm " + first + " " + (first + below(6)) + " " + (1 + below(9)) + ";");
        }
        for (int i = below(10); i > 0; i--) {
            text.append("load " + (1 + below(40)) + " " + (1 + below(99)) + (below(3) == 0 ? " on " + below(camels) : "") + ";");
        }
        return text.toString();
    }

    private void askAll() {
        PlainCaravan.World w = plain.world;
        same("length", () -> w.length, () -> x.length());
        same("kilometre", () -> w.kilometre, () -> x.kilometre());
        same("hasArrived", () -> w.kilometre == w.length, () -> x.hasArrived());
        same("day", () -> w.day, () -> x.day());
        int day = below(30);
        same("stormOn " + day, () -> w.storm(day), () -> x.stormOn(day));
        same("isStopping", () -> w.stopping, () -> x.isStopping());
        same("drunk", () -> w.drunk, () -> x.drunk());
        same("leader", () -> w.leader, () -> x.leader());
        same("distanceToday", () -> w.distance(), () -> x.distanceToday());
        int days = below(51);
        same("livingAfter " + days, () -> plain.livingAfter(days), () -> x.livingAfter(days));
        if (below(3) == 0) {
            same("daysToArrival", () -> plain.daysToArrival(), () -> x.daysToArrival());
        }
        same("writeCamels", () -> plain.writeCamels(), () -> x.writeCamels());
        for (int i = 0; i < plain.written.length(); i++) {
            int at = i;
            same("writtenByte " + at, () -> (int) plain.written.charAt(at), () -> x.writtenByte(at));
        }
        int behind = plain.written.length();
        same("writtenByte " + behind, () -> PlainCaravan.INDEX, () -> x.writtenByte(behind));
        askWells(w);
        askCamels(w);
        askLoads(w);
    }

    private void askWells(PlainCaravan.World w) {
        same("wellCount", () -> w.wells.size(), () -> x.wellCount());
        for (PlainCaravan.Well well : w.wells) {
            same("wellKilometre", () -> well.kilometre, () -> x.wellKilometre(well.number));
            same("wellLevel " + well.number, () -> well.level, () -> x.wellLevel(well.number));
            same("wellCapacity", () -> well.capacity, () -> x.wellCapacity(well.number));
        }
        same("wellHere", () -> w.here() == null ? PlainCaravan.NO_SUCH : w.here().number, () -> x.wellHere());
        same("nextWell", () -> w.next() == null ? PlainCaravan.NO_SUCH : w.next().number, () -> x.nextWell());
    }

    private void askCamels(PlainCaravan.World w) {
        same("camelCount", () -> w.camels.size(), () -> x.camelCount());
        same("livingCamels", () -> w.living().size(), () -> x.livingCamels());
        for (PlainCaravan.Camel c : w.camels) {
            int i = c.number;
            same("isDead " + i, () -> c.dead, () -> x.isDead(i));
            same("pace " + i, () -> c.pace, () -> x.pace(i));
            same("speed " + i, () -> w.speed(c), () -> x.speed(i));
            same("water " + i, () -> c.water, () -> x.water(i));
            same("tank " + i, () -> c.tank, () -> x.tank(i));
            same("strain " + i, () -> c.strain, () -> x.strain(i));
            same("lameDays " + i, () -> c.lame, () -> x.lameDays(i));
            same("dryDays " + i, () -> c.dry, () -> x.dryDays(i));
            same("carried " + i, () -> w.carried(c), () -> x.carried(i));
            same("freeWeight " + i, () -> w.free(c), () -> x.freeWeight(i));
            same("needToday " + i, () -> c.dead ? 0 : w.need(c), () -> x.needToday(i));
            same("wouldDrink " + i, () -> plain.wouldDrink(i), () -> x.wouldDrink(i));
        }
        same("meanWater", () -> w.meanWater(), () -> x.meanWater());
        same("progress", () -> (float) w.kilometre / (float) w.length, () -> x.progress());
        same("thirstiest", () -> w.thirstiest() == null ? PlainCaravan.NO_SUCH : w.thirstiest().number, () -> x.thirstiest());
        same("fastest", () -> w.fastest() == null ? PlainCaravan.NO_SUCH : w.fastest().number, () -> x.fastest());
    }

    private void askLoads(PlainCaravan.World w) {
        same("loadCount", () -> w.loads.size(), () -> x.loadCount());
        for (PlainCaravan.Load l : w.loads) {
            int i = l.number;
            same("weightOf " + i, () -> l.weight, () -> x.weightOf(i));
            same("valueOf " + i, () -> l.value, () -> x.valueOf(i));
            same("isCarried " + i, () -> l.carrier != null, () -> x.isCarried(i));
            same("carrierOf " + i, () -> l.carrier == null ? PlainCaravan.NO_SUCH : l.carrier, () -> x.carrierOf(i));
            same("placeOf " + i, () -> l.carrier == null ? l.place : w.kilometre, () -> x.placeOf(i));
        }
        same("carriedValue", () -> w.carriedValue(), () -> x.carriedValue());
    }
}
