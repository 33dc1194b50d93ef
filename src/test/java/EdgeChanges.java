/** Term 7 and promises 52, 53 and 57 to 59: changes, undo and snapshots. */
final class EdgeChanges extends Edge {
    static void tests() {
        changes();
        changesOfNothing();
        theLatestEight();
        undoneChanges();
        whatUndoRestores();
        placesComeBack();
        whatUndoLeaves();
        otherCalls();
        refusedCalls();
        setLeader();
        setStopping();
        undo();
        saveSnapshot();
        restoreSnapshot();
    }

    private record Change(String call, Twins.Ask ask) {
    }

    /** Each of them does something to the caravan of busyAtWell(). */
    private static final Change[] CHANGES = {
        new Change("travel", x -> x.travel()),
        new Change("rest", x -> x.rest()),
        new Change("drink", x -> x.drink()),
        new Change("setLeader", x -> x.setLeader(1)),
        new Change("setStopping", x -> x.setStopping(false)),
        new Change("putOn", x -> x.putOn(3, 2)),
        new Change("takeOff", x -> x.takeOff(0)),
        new Change("addLoad", x -> x.addLoad(99, 99)),
        new Change("restoreSnapshot", x -> x.restoreSnapshot(0)),
    };

    private static void changes() {
        for (Change change : CHANGES) {
            term(7, "A change is a call of travel, rest, drink, setLeader, setStopping, putOn, takeOff, addLoad or restoreSnapshot"
                + " that throws no exception", () -> {
                    CaravanRoute x = new CaravanRoute();
                    x.addLoad(1, 1);
                    x.addLoad(1, 1);
                    x.travel();
                    x.undo();
                    x.setStopping(true);
                    x.travel();
                    x.saveSnapshot(0);
                    // So far four changes, and the loads 3 and 4 lie behind; each of the nine is possible but putOn of them.
                    if (change.call.equals("putOn")) {
                        x.putOn(0, 0);
                    } else {
                        change.ask.of(x);
                    }
                    same(change.call + " and undo", x.undo(), 4);
                });
        }
    }

    private static void changesOfNothing() {
        term(7, "even if nothing is different afterwards", () -> {
            CaravanRoute x = loaded("route 50;camel 10 9 90;well 0 9 9;storm 0 0 9;load 60 1 on 0;load 1 1;");
            x.saveSnapshot(1);
            String before = Whole.caravan(x);
            x.setLeader(0);
            x.setStopping(false);
            x.drink();
            x.restoreSnapshot(1);
            same("the caravan", Whole.caravan(x), before);
            for (int left = 3; left >= 0; left--) {
                same("undo", x.undo(), left);
            }
            Check.badState("undo", () -> x.undo());
            CaravanRoute y = Made.allDead();
            same("undo of the fifth day of the dead", y.undo(), 5);
            CaravanRoute z = loaded("route 50;camel 10 1 10;well 0 9 9;");
            rest(z, 6);
            same("drink of the dead", z.drink(), 0);
            same("undo of it", z.undo(), 6);
        });
    }

    private static void theLatestEight() {
        term(7, "The latest 8 changes can be undone.", () -> {
            for (int changes : new int[] {1, 7, 8, 9, 15, 16, 17, 18}) {
                CaravanRoute x = loaded("route 50;camel 10 9 90;");
                for (int i = 0; i < changes; i++) {
                    x.addLoad(1 + i, 1);
                }
                int most = Math.min(8, changes);
                for (int left = most - 1; left >= 0; left--) {
                    same("undo after " + changes, x.undo(), left);
                    same("loadCount", x.loadCount(), changes - most + left);
                }
                Check.badState("one more undo after " + changes, () -> x.undo());
                same("loadCount", x.loadCount(), changes - most);
            }
        });
    }

    private static void undoneChanges() {
        term(7, "A change that was undone does not count any more.", () -> {
            for (int undone = 1; undone <= 8; undone++) {
                CaravanRoute x = loaded("route 50;camel 10 9 90;");
                for (int i = 0; i < 11; i++) {
                    x.addLoad(1 + i, 1);
                }
                for (int i = 0; i < undone; i++) {
                    x.undo();
                }
                // What was undone gives way to other changes, of which the latest eight in all can be undone.
                for (int i = 0; i < 3; i++) {
                    x.addLoad(90 + i, 1);
                }
                same("the first load after " + undone + " undone ones", x.weightOf(11 - undone), 90);
                int most = Math.min(8, 8 - undone + 3);
                for (int left = most - 1; left >= 0; left--) {
                    same("undo after " + undone + " undone ones", x.undo(), left);
                    same("loadCount", x.loadCount(), 14 - undone - most + left);
                }
                Check.badState("one more undo", () -> x.undo());
            }
        });
    }

    /** At a well where each of CHANGES is possible. */
    private static CaravanRoute busyAtWell() {
        CaravanRoute x = Made.busy();
        x.rest();
        return x;
    }

    private static void whatUndoRestores() {
        for (Change change : CHANGES) {
            term(7, "Undoing a change restores everything as it was before it", () -> {
                CaravanRoute x = busyAtWell();
                String before = Whole.caravan(x);
                change.ask.of(x);
                same("does " + change.call + " do anything", Whole.caravan(x).equals(before), false);
                same("undo", x.undo(), 7);
                same("the caravan after " + change.call + " and undo", Whole.caravan(x), before);
                CaravanRoute y = loaded(Made.FIRST_TEXT);
                y.saveSnapshot(0);
                y.setStopping(true);
                y.travel();
                y.addLoad(1, 1);
                String early = Whole.caravan(y);
                if (change.call.equals("putOn")) {
                    y.putOn(3, 0);
                } else {
                    change.ask.of(y);
                }
                y.undo();
                same("the caravan of the first days after " + change.call + " and undo", Whole.caravan(y), early);
            });
        }
    }

    /** A load that lay at kilometre 0 has been carried to the end and put down there. */
    private static CaravanRoute carriedOn() {
        CaravanRoute x = loaded("route 100;camel 50 9 90;load 1 1;");
        x.saveSnapshot(1);
        x.putOn(0, 0);
        travel(x, 2);
        x.takeOff(0);
        same("placeOf", x.placeOf(0), 100);
        return x;
    }

    private static void placesComeBack() {
        term(7, "Undoing a change restores everything as it was before it", () -> {
            CaravanRoute x = carriedOn();
            int[] places = {100, 50, 0, 0};
            for (int left = 3; left >= 0; left--) {
                same("undo", x.undo(), left);
                same("placeOf", x.placeOf(0), places[3 - left]);
                same("isCarried", x.isCarried(0), left > 0);
            }
            same("the caravan", Whole.caravan(x), Whole.caravan(loaded("route 100;camel 50 9 90;load 1 1;")));
        });
        promise(59, "Restores a snapshot", () -> {
            CaravanRoute x = carriedOn();
            x.restoreSnapshot(1);
            same("placeOf", x.placeOf(0), 0);
            same("the caravan", Whole.caravan(x), Whole.caravan(loaded("route 100;camel 50 9 90;load 1 1;")));
            same("undo of restoreSnapshot", x.undo(), 4);
            same("placeOf after undo", x.placeOf(0), 100);
        });
    }

    private static void whatUndoLeaves() {
        term(7, "except the input buffer, the error, the written text and the snapshots", () -> {
            CaravanRoute x = new CaravanRoute();
            x.travel();
            Check.feed(x, "x");
            Check.badArgument("load", () -> x.load());
            Check.feed(x, " yz");
            x.saveSnapshot(0);
            int length = x.writeCamels();
            String written = Whole.written(x);
            same("undo", x.undo(), 0);
            same("kilometre", x.kilometre(), 0);
            same("the error", Whole.error(x), "true 0");
            same("the written text", Whole.written(x), written);
            same("its length", length, 23);
            same("the snapshot", x.restoreSnapshot(0), 40);
            Check.noSuch("the empty slot", () -> x.restoreSnapshot(1));
            same("the input buffer", x.shorten(3), 3);
            Check.badArgument("load", () -> x.load());
            same("the error of the input buffer", Whole.error(x), "true 1");
        });
        term(7, "There are two snapshot slots, 0 and 1.", () -> {
            CaravanRoute x = new CaravanRoute();
            x.saveSnapshot(0);
            x.travel();
            x.saveSnapshot(1);
            x.travel();
            same("restoreSnapshot(0)", x.restoreSnapshot(0), 0);
            same("restoreSnapshot(1)", x.restoreSnapshot(1), 40);
            same("restoreSnapshot(0)", x.restoreSnapshot(0), 0);
            for (int slot : new int[] {-1, 2}) {
                Check.outOfBounds("saveSnapshot(" + slot + ")", () -> x.saveSnapshot(slot));
                Check.outOfBounds("restoreSnapshot(" + slot + ")", () -> x.restoreSnapshot(slot));
            }
        });
    }

    /** The calls that only answer, each with a number that there is. */
    private static final Change[] QUESTIONS = {
        new Change("hasError", x -> x.hasError()),
        new Change("errorOffset", x -> x.errorOffset()),
        new Change("length", x -> x.length()),
        new Change("kilometre", x -> x.kilometre()),
        new Change("hasArrived", x -> x.hasArrived()),
        new Change("day", x -> x.day()),
        new Change("stormOn", x -> x.stormOn(2)),
        new Change("isStopping", x -> x.isStopping()),
        new Change("wellCount", x -> x.wellCount()),
        new Change("wellKilometre", x -> x.wellKilometre(1)),
        new Change("wellLevel", x -> x.wellLevel(1)),
        new Change("wellCapacity", x -> x.wellCapacity(1)),
        new Change("wellHere", x -> x.wellHere()),
        new Change("nextWell", x -> x.nextWell()),
        new Change("drunk", x -> x.drunk()),
        new Change("camelCount", x -> x.camelCount()),
        new Change("livingCamels", x -> x.livingCamels()),
        new Change("leader", x -> x.leader()),
        new Change("isDead", x -> x.isDead(2)),
        new Change("pace", x -> x.pace(2)),
        new Change("speed", x -> x.speed(2)),
        new Change("water", x -> x.water(2)),
        new Change("tank", x -> x.tank(2)),
        new Change("strain", x -> x.strain(2)),
        new Change("lameDays", x -> x.lameDays(2)),
        new Change("dryDays", x -> x.dryDays(2)),
        new Change("carried", x -> x.carried(2)),
        new Change("freeWeight", x -> x.freeWeight(2)),
        new Change("thirstiest", x -> x.thirstiest()),
        new Change("fastest", x -> x.fastest()),
        new Change("loadCount", x -> x.loadCount()),
        new Change("weightOf", x -> x.weightOf(3)),
        new Change("valueOf", x -> x.valueOf(3)),
        new Change("isCarried", x -> x.isCarried(3)),
        new Change("carrierOf", x -> x.carrierOf(0)),
        new Change("placeOf", x -> x.placeOf(3)),
        new Change("carriedValue", x -> x.carriedValue()),
        new Change("meanWater", x -> x.meanWater()),
        new Change("progress", x -> x.progress()),
        new Change("distanceToday", x -> x.distanceToday()),
        new Change("needToday", x -> x.needToday(2)),
        new Change("livingAfter(0)", x -> x.livingAfter(0)),
        new Change("livingAfter(50)", x -> x.livingAfter(50)),
        new Change("daysToArrival", x -> x.daysToArrival()),
        new Change("wouldDrink", x -> x.wouldDrink(2)),
        new Change("writtenByte", x -> x.writtenByte(0)),
    };

    private static void otherCalls() {
        term(7, "All other calls change nothing but what their description tells.", () -> {
            for (Change question : QUESTIONS) {
                CaravanRoute x = Made.busy();
                same(question.call + " answers", Whole.outcome(() -> question.ask.of(x)).endsWith("Exception"), false);
                Twins.areAlike(question.call, Made::busy, question.ask);
            }
            Twins.areAlike("append", Made::busy, x -> x.append(1, 2, 3, 4, 5), "buffer");
            Twins.areAlike("shorten", Made::busy, x -> x.shorten(0), "buffer");
            Twins.areAlike("saveSnapshot(0)", Made::busy, x -> x.saveSnapshot(0), "slot 0");
            Twins.areAlike("saveSnapshot(1)", Made::busy, x -> x.saveSnapshot(1), "slot 1");
            Twins.areAlike("writeCamels", Made::busy, x -> x.writeCamels(), "written");
            Twins.areAlike("undo", Made::busy, x -> x.undo(), "caravan", "undo");
            Twins.areAlike("load", Made::busy, x -> x.load(), "caravan", "undo", "slot 0", "slot 1", "buffer", "error");
        });
    }

    private static void refusedCalls() {
        term(7, "A call that throws an exception changes nothing", () -> {
            refused("append", STATE, () -> {
                CaravanRoute x = Made.busy();
                Check.feed(x, " ".repeat(658));
                return x;
            }, x -> x.append(1, 2, 3, 4, 5));
            refused("shorten", ARGUMENT, Made::busy, x -> x.shorten(24));
            refused("wellHere", NO_SUCH, Made::busyOnTheWay, x -> x.wellHere());
            refused("wouldDrink", STATE, Made::busyOnTheWay, x -> x.wouldDrink(0));
            refused("travel", STATE, Made::arrived, x -> x.travel());
            refused("rest", STATE, Made::allDead, x -> x.rest());
            refused("drink", STATE, Made::busyOnTheWay, x -> x.drink());
            refused("setLeader", STATE, Made::oneDead, x -> x.setLeader(0));
            refused("putOn", STATE, Made::busyOnTheWay, x -> x.putOn(2, 0));
            refused("takeOff", STATE, Made::busy, x -> x.takeOff(2));
            refused("addLoad", STATE, Made::twentyLoads, x -> x.addLoad(1, 1));
            refused("undo", STATE, EdgeChanges::allUndone, x -> x.undo());
            refused("saveSnapshot", INDEX, Made::busy, x -> x.saveSnapshot(2));
            refused("restoreSnapshot", NO_SUCH, Made::busy, x -> x.restoreSnapshot(1));
            refused("writtenByte", INDEX, Made::busy, x -> x.writtenByte(200));
        });
        term(7, "except that load empties the input buffer and sets the error", () -> {
            CaravanRoute x = Made.busy();
            Check.feed(x, "!");
            Check.badArgument("load", () -> x.load());
            same("append to the empty buffer", x.append(0, 0, 0, 0, 0), 20);
            same("the error", Whole.error(x), "true 23");
            Twins.areAlike("load", () -> {
                CaravanRoute y = Made.busy();
                Check.feed(y, "!");
                return y;
            }, y -> y.load(), "buffer", "error");
        });
    }

    /** A busy caravan, of which nothing more can be undone. */
    private static CaravanRoute allUndone() {
        CaravanRoute x = Made.busy();
        for (int i = 0; i < 8; i++) {
            x.undo();
        }
        return x;
    }

    private static void setLeader() {
        promise(52, "Makes a living camel the leader.", () -> {
            CaravanRoute x = loaded("route 999;" + "camel 20 9 90;".repeat(9) + "camel 60 9 90;");
            x.setLeader(9);
            same("leader", x.leader(), 9);
            same("distanceToday", x.distanceToday(), 60);
            x.setLeader(0);
            same("leader", x.leader(), 0);
            same("distanceToday", x.distanceToday(), 20);
            CaravanRoute y = loaded("route 999;camel 20 9 90;camel 20 9 10;");
            travel(y, 4);
            same("setLeader to one with 2 dry days", y.setLeader(1), 0);
        });
        promise(52, "Returns the previous leader.", () -> {
            CaravanRoute x = loaded("route 50;" + CAMEL.repeat(10));
            int[] leaders = {0, 9, 9, 0, 0, 5};
            for (int i = 1; i < leaders.length; i++) {
                same("setLeader " + leaders[i], x.setLeader(leaders[i]), leaders[i - 1]);
            }
        });
        promise(52, "Throws `IllegalStateException` if the camel is dead", () -> {
            refused("setLeader to a dead one", STATE, Made::oneDead, x -> x.setLeader(0));
            refused("setLeader to the last of ten", STATE, Made::ten, x -> x.setLeader(9));
            refused("setLeader to the dead leader", STATE, Made::allDead, x -> x.setLeader(1));
        });
    }

    private static void setStopping() {
        promise(53, "Turns stopping on or off.", () -> {
            CaravanRoute x = new CaravanRoute();
            x.setStopping(true);
            same("distanceToday", x.distanceToday(), 30);
            x.setStopping(false);
            same("distanceToday", x.distanceToday(), 40);
        });
        promise(53, "`isOn`: whether it is on afterwards", () -> {
            CaravanRoute x = new CaravanRoute();
            for (boolean isOn : new boolean[] {false, true, true, false, false}) {
                x.setStopping(isOn);
                same("isStopping", x.isStopping(), isOn);
            }
        });
        promise(53, "Returns whether it was on before.", () -> {
            CaravanRoute x = new CaravanRoute();
            same("off to off", x.setStopping(false), false);
            same("off to on", x.setStopping(true), false);
            same("on to on", x.setStopping(true), true);
            same("on to off", x.setStopping(false), true);
            same("off to off", x.setStopping(false), false);
        });
    }

    private static void undo() {
        promise(57, "Undoes the latest change that has not been undone.", () -> {
            CaravanRoute x = new CaravanRoute();
            for (int i = 1; i <= 10; i++) {
                x.addLoad(i, i);
            }
            x.undo();
            same("loadCount", x.loadCount(), 12);
            same("weightOf the last", x.weightOf(11), 9);
            x.undo();
            same("weightOf the last", x.weightOf(10), 8);
            x.addLoad(77, 77);
            x.undo();
            same("loadCount", x.loadCount(), 11);
            same("weightOf the last", x.weightOf(10), 8);
        });
        promise(57, "Returns the number of changes that can still be undone.", () -> {
            for (int changes = 1; changes <= 10; changes++) {
                CaravanRoute x = new CaravanRoute();
                for (int i = 0; i < changes; i++) {
                    x.setStopping(true);
                }
                for (int left = Math.min(8, changes) - 1; left >= 0; left--) {
                    same("undo of " + changes, x.undo(), left);
                }
            }
        });
        promise(57, "Throws `IllegalStateException` if there is nothing to undo", () -> {
            refused("undo of a new object", STATE, CaravanRoute::new, x -> x.undo());
            refused("undo of the only change again", STATE, () -> {
                CaravanRoute x = new CaravanRoute();
                x.travel();
                x.undo();
                return x;
            }, x -> x.undo());
            refused("undo of a ninth change", STATE, EdgeChanges::allUndone, x -> x.undo());
        });
    }

    private static void saveSnapshot() {
        promise(58, "Saves a snapshot of everything that undo restores, except what can be undone.", () -> {
            CaravanRoute x = Made.busyOnTheWay();
            x.saveSnapshot(1);
            String saved = Whole.caravan(x);
            x.setStopping(false);
            x.travel();
            x.takeOff(0);
            x.addLoad(1, 1);
            x.setLeader(1);
            x.rest();
            same("restoreSnapshot", x.restoreSnapshot(1), 60);
            same("the caravan", Whole.caravan(x), saved);
            // The changes made since then can be undone, as if there were no snapshot.
            same("undo", x.undo(), 7);
            same("leader", x.leader(), 1);
            same("undo", x.undo(), 6);
        });
        promise(58, "An earlier snapshot in the slot is replaced.", () -> {
            for (int i = 0; i < 2; i++) {
                int slot = i;
                CaravanRoute x = new CaravanRoute();
                x.saveSnapshot(slot);
                x.travel();
                x.saveSnapshot(slot);
                x.travel();
                same("restoreSnapshot", x.restoreSnapshot(slot), 40);
                Check.noSuch("the other slot", () -> x.restoreSnapshot(1 - slot));
            }
        });
        promise(58, "`slot`: 0 or 1", () -> {
            CaravanRoute x = new CaravanRoute();
            same("saveSnapshot(0)", x.saveSnapshot(0), 0);
            same("saveSnapshot(1)", x.saveSnapshot(1), 0);
        });
        promise(58, "Returns the kilometre.", () -> {
            CaravanRoute x = loaded("route 999;camel 60 9 90;");
            same("the least", x.saveSnapshot(0), 0);
            travel(x, 17);
            same("the greatest", x.saveSnapshot(0), 999);
        });
        promise(58, "Throws `IndexOutOfBoundsException` if slot is not 0 or 1", () ->
            refusedNumbers("saveSnapshot", INDEX, Made::busy, (x, slot) -> x.saveSnapshot(slot), -1, 2));
    }

    private static void restoreSnapshot() {
        promise(59, "Restores a snapshot, which stays in the slot.", () -> {
            CaravanRoute x = Made.busy();
            x.restoreSnapshot(0);
            String restored = Whole.caravan(x);
            x.travel();
            x.takeOff(0);
            same("restoreSnapshot again", x.restoreSnapshot(0), 30);
            same("the caravan", Whole.caravan(x), restored);
            x.undo();
            x.undo();
            same("restoreSnapshot after undo", x.restoreSnapshot(0), 30);
            same("the caravan", Whole.caravan(x), restored);
        });
        promise(59, "`slot`: 0 or 1", () -> {
            CaravanRoute x = new CaravanRoute();
            x.saveSnapshot(1);
            x.travel();
            x.saveSnapshot(0);
            x.travel();
            same("restoreSnapshot(0)", x.restoreSnapshot(0), 40);
            same("restoreSnapshot(1)", x.restoreSnapshot(1), 0);
        });
        promise(59, "Returns the kilometre afterwards.", () -> {
            CaravanRoute x = loaded("route 999;camel 60 9 90;");
            x.saveSnapshot(0);
            travel(x, 17);
            x.saveSnapshot(1);
            same("the least", x.restoreSnapshot(0), 0);
            same("the greatest", x.restoreSnapshot(1), 999);
        });
        promise(59, "Throws `IndexOutOfBoundsException` if slot is not 0 or 1", () ->
            refusedNumbers("restoreSnapshot", INDEX, Made::busy, (x, slot) -> x.restoreSnapshot(slot), -1, 2));
        promise(59, "Throws `NoSuchElementException` if the slot is empty", () -> {
            refused("restoreSnapshot(0)", NO_SUCH, CaravanRoute::new, x -> x.restoreSnapshot(0));
            refused("restoreSnapshot(1)", NO_SUCH, CaravanRoute::new, x -> x.restoreSnapshot(1));
            refused("restoreSnapshot of the other slot", NO_SUCH, Made::busy, x -> x.restoreSnapshot(1));
            refused("restoreSnapshot of the other slot", NO_SUCH, () -> {
                CaravanRoute x = new CaravanRoute();
                x.saveSnapshot(1);
                return x;
            }, x -> x.restoreSnapshot(0));
        });
    }
}
