import java.util.function.Supplier;

/** The calls that are asked for one camel, well or load: the least and the greatest number, and those that there are not. */
final class EdgeNumbers extends Edge {
    static void tests() {
        for (Row row : CAMELS) {
            promise(row.promise, "`camel`: number of a camel", () -> firstAndLast(row, Made::ten, 9));
            promise(row.promise, "Throws `IndexOutOfBoundsException` if there is no such camel", () -> noCamel(row));
        }
        promise(52, "`camel`: number of a camel", () -> firstAndLast(LEADER, () -> loaded("route 50;" + CAMEL.repeat(10)), 9));
        promise(52, "Throws `IndexOutOfBoundsException` if there is no such camel", () -> noCamel(LEADER));
        for (Row row : WELLS) {
            promise(row.promise, "`well`: number of a well", () -> firstAndLast(row, Made::eightWells, 7));
            promise(row.promise, "Throws `IndexOutOfBoundsException` if there is no such well", () -> noWell(row));
        }
        for (Row row : LOADS) {
            promise(row.promise, "`load`: number of a load", () -> firstAndLast(row, Made::twentyLoads, 19));
            promise(row.promise, "Throws `IndexOutOfBoundsException` if there is no such load", () -> noLoad(row));
        }
    }

    /** A call, and what is due for the first and for the last of those that there are. */
    private record Row(int promise, String call, Question question, Object first, Object last) {
    }

    /** Asked of Made.ten(): camel 9 is dead and lame, all others live. */
    private static final Row[] CAMELS = {
        new Row(23, "isDead", (x, camel) -> x.isDead(camel), false, true),
        new Row(24, "pace", (x, camel) -> x.pace(camel), 60, 10),
        new Row(25, "speed", (x, camel) -> x.speed(camel), 42, 5),
        new Row(26, "water", (x, camel) -> x.water(camel), 30, 0),
        new Row(27, "tank", (x, camel) -> x.tank(camel), 90, 10),
        new Row(28, "strain", (x, camel) -> x.strain(camel), 0, 37),
        new Row(29, "lameDays", (x, camel) -> x.lameDays(camel), 0, 4),
        new Row(30, "dryDays", (x, camel) -> x.dryDays(camel), 0, 3),
        new Row(31, "carried", (x, camel) -> x.carried(camel), 180, 0),
        new Row(32, "freeWeight", (x, camel) -> x.freeWeight(camel), 0, 20),
        new Row(45, "needToday", (x, camel) -> x.needToday(camel), 12, 0),
        new Row(48, "wouldDrink", (x, camel) -> x.wouldDrink(camel), 60, 0),
    };

    private static final Row LEADER = new Row(52, "setLeader", (x, camel) -> x.setLeader(camel), 0, 0);

    private static final Row[] WELLS = {
        new Row(14, "wellKilometre", (x, well) -> x.wellKilometre(well), 999, 0),
        new Row(15, "wellLevel", (x, well) -> x.wellLevel(well), 999, 0),
        new Row(16, "wellCapacity", (x, well) -> x.wellCapacity(well), 999, 1),
    };

    private static final Row[] LOADS = {
        new Row(36, "weightOf", (x, load) -> x.weightOf(load), 99, 1),
        new Row(37, "valueOf", (x, load) -> x.valueOf(load), 1, 99),
        new Row(38, "isCarried", (x, load) -> x.isCarried(load), true, true),
        new Row(39, "carrierOf", (x, load) -> x.carrierOf(load), 0, 9),
        new Row(40, "placeOf", (x, load) -> x.placeOf(load), 5, 5),
        new Row(55, "takeOff", (x, load) -> x.takeOff(load), 0, 9),
    };

    private static void firstAndLast(Row row, Supplier<CaravanRoute> make, int last) {
        same(row.call + "(0)", row.question.of(make.get(), 0), row.first);
        same(row.call + "(" + last + ")", row.question.of(make.get(), last), row.last);
    }

    private static CaravanRoute afterLoad(CaravanRoute x, String text) {
        Check.feed(x, text);
        x.load();
        return x;
    }

    private static void noCamel(Row row) {
        refusedNumbers(row.call + " of ten", INDEX, Made::ten, row.question, -1, 10, 11);
        refusedNumbers(row.call + " of one", INDEX, () -> loaded(ROUTE + "well 0 1 1;"), row.question, -1, 1);
        refusedNumbers(row.call + " of three, not at a well", INDEX, Made::busyOnTheWay, row.question, -1, 3);
        refusedNumbers(row.call + " of one where ten were before", INDEX,
            () -> afterLoad(Made.ten(), ROUTE + "well 0 1 1;"), row.question, 1, 9);
    }

    private static void noWell(Row row) {
        refusedNumbers(row.call + " of eight", INDEX, Made::eightWells, row.question, -1, 8, 9);
        refusedNumbers(row.call + " of none", INDEX, () -> loaded(ROUTE), row.question, -1, 0);
        refusedNumbers(row.call + " of two", INDEX, Made::busy, row.question, -1, 2);
        refusedNumbers(row.call + " of one where eight were before", INDEX,
            () -> afterLoad(Made.eightWells(), ROUTE + "well 0 1 1;"), row.question, 1, 7);
    }

    private static void noLoad(Row row) {
        refusedNumbers(row.call + " of twenty", INDEX, Made::twentyLoads, row.question, -1, 20, 21);
        refusedNumbers(row.call + " of none", INDEX, () -> loaded(ROUTE), row.question, -1, 0);
        refusedNumbers(row.call + " of four", INDEX, Made::busy, row.question, -1, 4);
        refusedNumbers(row.call + " of one where twenty were before", INDEX,
            () -> afterLoad(Made.twentyLoads(), ROUTE + "load 1 1 on 0;"), row.question, 1, 19);
        refusedNumbers(row.call + " of one that was added and undone", INDEX, () -> {
            CaravanRoute x = new CaravanRoute();
            x.addLoad(1, 1);
            x.undo();
            return x;
        }, row.question, 3);
    }
}
