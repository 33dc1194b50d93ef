import java.util.concurrent.Callable;

/** All that a caravan can be asked for, as one text; asking changes nothing. */
final class Whole {
    private final StringBuilder text = new StringBuilder();
    private final CaravanRoute x;

    private Whole(CaravanRoute x) {
        this.x = x;
    }

    /** What a call answers, or the name of the exception that it throws. */
    static String outcome(Callable<?> call) {
        try {
            return String.valueOf(call.call());
        } catch (Exception e) {
            return e.getClass().getSimpleName();
        }
    }

    static String caravan(CaravanRoute x) {
        Whole whole = new Whole(x);
        whole.route();
        whole.wells();
        whole.camels();
        whole.loads();
        return whole.text.toString();
    }

    static String error(CaravanRoute x) {
        return x.hasError() + " " + outcome(() -> x.errorOffset());
    }

    static String written(CaravanRoute x) {
        StringBuilder bytes = new StringBuilder();
        for (int i = 0; i < 200; i++) {
            int at = i;
            String answer = outcome(() -> x.writtenByte(at));
            bytes.append(answer).append(' ');
            if (!answer.matches("[0-9]+")) {
                break;
            }
        }
        return bytes.toString();
    }

    private void ask(String call, Callable<?> body) {
        text.append(call).append(' ').append(outcome(body)).append('\n');
    }

    private void route() {
        ask("length", () -> x.length());
        ask("kilometre", () -> x.kilometre());
        ask("hasArrived", () -> x.hasArrived());
        ask("day", () -> x.day());
        ask("storm of the day", () -> x.stormOn(x.day()));
        ask("stormOn(2)", () -> x.stormOn(2));
        ask("stormOn(4)", () -> x.stormOn(4));
        ask("isStopping", () -> x.isStopping());
        ask("distanceToday", () -> x.distanceToday());
        ask("progress", () -> x.progress());
        ask("livingAfter(3)", () -> x.livingAfter(3));
        ask("livingAfter(50)", () -> x.livingAfter(50));
        ask("daysToArrival", () -> x.daysToArrival());
    }

    private void wells() {
        ask("wellCount", () -> x.wellCount());
        for (int i = 0; i < x.wellCount(); i++) {
            int well = i;
            ask("wellKilometre " + well, () -> x.wellKilometre(well));
            ask("wellLevel " + well, () -> x.wellLevel(well));
            ask("wellCapacity " + well, () -> x.wellCapacity(well));
        }
        ask("wellHere", () -> x.wellHere());
        ask("nextWell", () -> x.nextWell());
        ask("drunk", () -> x.drunk());
    }

    private void camels() {
        ask("camelCount", () -> x.camelCount());
        ask("livingCamels", () -> x.livingCamels());
        ask("leader", () -> x.leader());
        ask("thirstiest", () -> x.thirstiest());
        ask("fastest", () -> x.fastest());
        ask("meanWater", () -> x.meanWater());
        for (int i = 0; i < x.camelCount(); i++) {
            int camel = i;
            ask("isDead " + camel, () -> x.isDead(camel));
            ask("pace " + camel, () -> x.pace(camel));
            ask("speed " + camel, () -> x.speed(camel));
            ask("water " + camel, () -> x.water(camel));
            ask("tank " + camel, () -> x.tank(camel));
            ask("strain " + camel, () -> x.strain(camel));
            ask("lameDays " + camel, () -> x.lameDays(camel));
            ask("dryDays " + camel, () -> x.dryDays(camel));
            ask("carried " + camel, () -> x.carried(camel));
            ask("freeWeight " + camel, () -> x.freeWeight(camel));
            ask("needToday " + camel, () -> x.needToday(camel));
            ask("wouldDrink " + camel, () -> x.wouldDrink(camel));
        }
    }

    private void loads() {
        ask("loadCount", () -> x.loadCount());
        ask("carriedValue", () -> x.carriedValue());
        for (int i = 0; i < x.loadCount(); i++) {
            int load = i;
            ask("weightOf " + load, () -> x.weightOf(load));
            ask("valueOf " + load, () -> x.valueOf(load));
            ask("isCarried " + load, () -> x.isCarried(load));
            ask("carrierOf " + load, () -> x.carrierOf(load));
            ask("placeOf " + load, () -> x.placeOf(load));
        }
    }
}
