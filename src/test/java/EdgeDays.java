/** Term 4: a day of travel and a day of rest. */
final class EdgeDays extends Edge {
    static void tests() {
        distance();
        stopping();
        visits();
        strain();
        lameDays();
        needs();
        water();
        death();
        followers();
        wells();
        rest();
        restOfTheLiving();
    }

    private static int distance(int pace, int storm) {
        String storms = storm == 0 ? "" : "storm 0 0 " + storm + ";";
        CaravanRoute x = loaded("route 999;camel " + pace + " 9 90;" + storms);
        int distance = x.travel();
        same("kilometre", x.kilometre(), distance);
        return distance;
    }

    private static void distance() {
        term(4, "The distance of the day is the speed of the leader, multiplied by the difference of 10 and the storm of the day,"
            + " divided by 10 and rounded down", () -> {
                int[][] due = {{10, 0, 10}, {60, 0, 60}, {33, 1, 29}, {33, 9, 3}, {39, 9, 3}, {40, 9, 4}, {10, 9, 1}, {19, 9, 1},
                    {59, 9, 5}, {60, 9, 6}, {60, 1, 54}, {11, 5, 5}};
                for (int[] row : due) {
                    same("distance of pace " + row[0] + " in a storm of " + row[1], distance(row[0], row[1]), row[2]);
                }
                CaravanRoute x = loaded("route 999;camel 60 9 90;camel 10 9 90;storm 0 0 9;load 99 1 on 1;");
                x.setLeader(1);
                same("distance of speed 5 in a storm of 9", x.travel(), 0);
                same("distance of the leader's speed", x.travel(), 5);
                CaravanRoute y = loaded("route 999;camel 60 9 90;camel 10 9 90;storm 1 1 9;");
                same("the day before a storm", y.travel(), 60);
                same("the day of a storm", y.travel(), 6);
                same("the day after a storm", y.travel(), 60);
            });
        term(4, "but not more than what is left of the route", () -> {
            int[][] due = {{59, 59, 0}, {60, 60, 0}, {61, 60, 1}, {62, 60, 2}, {119, 60, 59}, {120, 60, 60}};
            for (int[] row : due) {
                CaravanRoute x = loaded("route " + row[0] + ";camel 60 9 90;");
                same("distance of " + row[0], x.travel(), row[1]);
                same("distanceToday of what is left", x.distanceToday(), row[2]);
                if (row[2] > 0) {
                    same("distance of what is left", x.travel(), row[2]);
                }
                same("hasArrived", x.hasArrived(), true);
            }
        });
        term(4, "The caravan moves by the distance.", () -> {
            CaravanRoute x = loaded("route 999;camel 10 9 90;storm 0 0 9;storm 2 2 9;load 60 1 on 0;");
            x.travel();
            same("kilometre after the distance 0", x.kilometre(), 0);
            same("day after the distance 0", x.day(), 1);
            x.travel();
            same("kilometre after the distance 5", x.kilometre(), 5);
            x.travel();
            same("kilometre after the distance 0", x.kilometre(), 5);
        });
    }

    private static int stopped(String wells, boolean isOn) {
        CaravanRoute x = loaded("route 999;camel 40 9 90;" + wells);
        x.setStopping(isOn);
        return x.travel();
    }

    private static void stopping() {
        term(4, "If stopping is on and there is a well on the way (behind the present kilometre, and at most at the end of this"
            + " distance), the distance ends at the first such well.", () -> {
                same("off", stopped("well 20 1 1;", false), 40);
                same("without wells", stopped("", true), 40);
                same("a well at the present kilometre", stopped("well 0 1 1;", true), 40);
                same("a well one kilometre on", stopped("well 0 1 1;well 1 1 1;", true), 1);
                same("a well one kilometre before the end of the distance", stopped("well 39 1 1;", true), 39);
                same("a well at the end of the distance", stopped("well 40 1 1;", true), 40);
                same("a well one kilometre behind the distance", stopped("well 41 1 1;", true), 40);
                same("the first of two, numbered last", stopped("well 30 1 1;well 20 1 1;", true), 20);
                same("the first of two, numbered first", stopped("well 20 1 1;well 30 1 1;", true), 20);
                same("a well within the distance of a storm", stopped("well 4 1 1;storm 0 0 9;", true), 4);
                same("a well behind the distance of a storm", stopped("well 5 1 1;storm 0 0 9;", true), 4);
                CaravanRoute x = loaded("route 41;camel 40 9 90;well 40 1 1;well 41 1 1;");
                x.setStopping(true);
                x.travel();
                same("a well at the end of the route", x.travel(), 1);
                CaravanRoute y = loaded("route 999;camel 40 9 90;well 39 1 1;well 81 1 1;");
                y.travel();
                y.setStopping(true);
                same("no well but those that lie behind, or one kilometre too far", y.travel(), 40);
            });
    }

    private static void visits() {
        term(4, "After that, the living camels are visited in the order of their numbers:", () -> {
            // Camels 0 and 2 are visited, the dead one between them is not.
            CaravanRoute x = loaded("route 999;camel 60 9 90;camel 40 9 10;camel 40 9 90;");
            travel(x, 5);
            same("isDead", x.isDead(1), true);
            String dead = x.strain(1) + " " + x.lameDays(1) + " " + x.dryDays(1) + " " + x.water(1);
            same("the dead one on the day of its death", dead, "40 2 3 0");
            travel(x, 3);
            same("the dead one later", x.strain(1) + " " + x.lameDays(1) + " " + x.dryDays(1) + " " + x.water(1), dead);
            same("the one behind it", x.strain(2) + " " + x.lameDays(2) + " " + x.dryDays(2) + " " + x.water(2), "0 7 0 50");
            same("the one before it", x.water(0), 50);
        });
    }

    private static void strain() {
        term(4, "If the speed of the leader (as it was at the beginning of the day) is greater than that of the camel (as it is"
            + " now), the strain of the camel increases by the difference", () -> {
                CaravanRoute x = loaded("route 999;camel 60 9 90;camel 59 9 90;camel 60 9 90;camel 10 9 90;");
                x.travel();
                same("slower by 1", x.strain(1), 1);
                same("as fast", x.strain(2), 0);
                same("slower by 50", x.strain(3), 50);
                leaderThatRecovers();
                leaderThatDropsItsLoads();
            });
        term(4, "otherwise it decreases by 10, but not below 0", () -> {
            CaravanRoute x = loaded("route 999;camel 21 9 90;camel 10 9 90;camel 11 9 90;camel 12 9 90;camel 21 9 90;camel 20 9 90;");
            x.travel();
            int[] before = {0, 11, 10, 9, 0, 1};
            for (int camel = 0; camel < 6; camel++) {
                same("strain " + camel, x.strain(camel), before[camel]);
            }
            x.setLeader(1);
            x.travel();
            int[] after = {0, 1, 0, 0, 0, 0};
            for (int camel = 0; camel < 6; camel++) {
                same("strain of a faster one, or of the leader " + camel, x.strain(camel), after[camel]);
            }
        });
    }

    /** It is visited first, so that its last lame day is over when camel 1 is visited. */
    private static void leaderThatRecovers() {
        CaravanRoute x = loaded("route 999;camel 29 9 90;camel 38 9 90;camel 60 9 90;");
        x.setLeader(2);
        travel(x, 2);
        rest(x, 2);
        same("lameDays", x.lameDays(0), 1);
        same("strain", x.strain(1), 24);
        x.addLoad(99, 1);
        x.addLoad(81, 1);
        x.putOn(0, 1);
        x.putOn(1, 1);
        x.setLeader(0);
        same("speed of the leader at the beginning of the day", x.speed(0), 14);
        same("speed of the other", x.speed(1), 20);
        x.travel();
        same("speed of the leader at the end of the day", x.speed(0), 29);
        same("strain decreases", x.strain(1), 14);
    }

    /** It dies as the first that is visited, and without its loads it would be faster than camel 1. */
    private static void leaderThatDropsItsLoads() {
        CaravanRoute x = loaded("route 999;camel 60 9 10;camel 50 9 90;load 99 1 on 0;load 81 1 on 0;");
        int strain = 0;
        for (int day = 0; day < 3; day++) {
            same("speed of the leader", x.speed(0), 42);
            x.travel();
            same("strain", x.strain(1), strain);
        }
        same("isDead", x.isDead(0), true);
        same("speed of the dead leader", x.speed(0), 60);
    }

    private static void lameDays() {
        term(4, "If the strain is greater than 60 then, the camel gets 3 lame days", () -> {
            CaravanRoute x = loaded("route 999;camel 60 9 90;camel 10 9 90;camel 20 9 90;camel 21 9 90;");
            x.travel();
            same("strain", x.strain(1), 50);
            x.setLeader(2);
            x.travel();
            same("strain of 60", x.strain(1), 60);
            same("lameDays with a strain of 60", x.lameDays(1), 0);
            x.undo();
            x.undo();
            x.setLeader(3);
            x.travel();
            same("lameDays with a strain of 61", x.lameDays(1), 3);
        });
        term(4, "which are added to those that it has", () -> {
            CaravanRoute x = loaded("route 999;camel 60 9 90;camel 10 9 90;");
            int[] due = {0, 3, 2, 5};
            for (int day = 0; day < due.length; day++) {
                x.travel();
                same("lameDays on " + day, x.lameDays(1), due[day]);
            }
        });
        term(4, "and its strain becomes 0", () -> {
            CaravanRoute x = loaded("route 999;camel 60 9 90;camel 29 9 90;camel 10 9 90;");
            travel(x, 2);
            same("strain of 62", x.strain(1), 0);
            same("strain of 100", x.strain(2), 0);
        });
        term(4, "Otherwise, if it has lame days, they decrease by 1.", () -> {
            CaravanRoute x = loaded("route 999;camel 60 9 90;camel 29 9 90;");
            travel(x, 2);
            x.setLeader(1);
            for (int due : new int[] {2, 1, 0, 0}) {
                x.travel();
                same("lameDays", x.lameDays(1), due);
            }
        });
    }

    private static void needs() {
        term(4, "The camel needs 5 litres", () -> {
            CaravanRoute x = loaded("route 999;camel 60 9 90;");
            same("needToday", x.needToday(0), 5);
            x.travel();
            same("water", x.water(0), 85);
        });
        term(4, "1 more for each full 25 kilograms that it carries", () -> {
            int[][] due = {{1, 5}, {24, 5}, {25, 6}, {26, 6}, {49, 6}, {50, 7}, {74, 7}, {75, 8}, {99, 8}};
            for (int[] row : due) {
                CaravanRoute x = loaded("route 999;camel 60 9 90;load " + row[0] + " 1 on 0;");
                same("needToday with " + row[0] + " kg", x.needToday(0), row[1]);
                x.travel();
                same("water after " + row[0] + " kg", x.water(0), 90 - row[1]);
            }
            CaravanRoute x = loaded("route 999;camel 60 9 90;load 90 1 on 0;load 90 1 on 0;");
            x.travel();
            same("water after 180 kg", x.water(0), 78);
            CaravanRoute y = loaded("route 999;camel 60 9 90;load 13 1 on 0;load 12 1 on 0;");
            y.travel();
            same("water after 13 and 12 kg", y.water(0), 84);
        });
        term(4, "1 more for each unit of the storm of the day", () -> {
            for (int strength : new int[] {1, 2, 8, 9}) {
                CaravanRoute x = loaded("route 999;camel 60 9 90;storm 1 1 " + strength + ";");
                x.travel();
                same("water after the day before", x.water(0), 85);
                same("needToday", x.needToday(0), 5 + strength);
                x.travel();
                same("water after a storm of " + strength, x.water(0), 80 - strength);
                x.travel();
                same("water after the day behind", x.water(0), 75 - strength);
            }
        });
    }

    private static void water() {
        term(4, "If its water is enough, it decreases by this, and the dry days become 0.", () -> {
            CaravanRoute x = loaded("route 999;camel 20 9 10;camel 20 9 11;well 40 1 1;well 80 99 0;");
            x.travel();
            x.travel();
            same("water of just enough", x.water(0), 0);
            same("dryDays of just enough", x.dryDays(0), 0);
            same("water of one more", x.water(1), 1);
            same("dryDays of one more", x.dryDays(1), 0);
            travel(x, 2);
            same("dryDays", x.dryDays(0), 2);
            x.drink();
            same("dryDays after a drink", x.dryDays(0), 2);
            x.travel();
            same("dryDays of two become 0", x.dryDays(0), 0);
            same("water", x.water(0), 5);
        });
        term(4, "Otherwise the water becomes 0, and the dry days increase by 1.", () -> {
            CaravanRoute x = loaded("route 999;camel 20 9 14;camel 20 9 11;camel 20 9 15;");
            travel(x, 2);
            same("water", x.water(0), 4);
            same("water", x.water(1), 1);
            travel(x, 1);
            same("water, one litre short", x.water(0), 0);
            same("dryDays, one litre short", x.dryDays(0), 1);
            same("water, four litres short", x.water(1), 0);
            same("dryDays, four litres short", x.dryDays(1), 1);
            same("water of just enough", x.water(2), 0);
            same("dryDays of just enough", x.dryDays(2), 0);
            travel(x, 1);
            same("dryDays without water", x.dryDays(0), 2);
            same("dryDays without water", x.dryDays(2), 1);
            same("water", x.water(0), 0);
        });
    }

    private static void death() {
        term(4, "A camel with 3 dry days dies", () -> {
            CaravanRoute x = loaded("route 999;camel 20 9 10;");
            travel(x, 4);
            same("dryDays", x.dryDays(0), 2);
            same("isDead with 2 dry days", x.isDead(0), false);
            x.travel();
            same("isDead with 3 dry days", x.isDead(0), true);
        });
        term(4, "all loads that it carries lie at the kilometre of the caravan then", () -> {
            CaravanRoute x = loaded("route 999;camel 20 9 90;camel 20 9 10;" + "load 1 1 on 1;".repeat(19) + "load 1 1 on 0;");
            x.takeOff(5);
            travel(x, 5);
            same("isDead", x.isDead(1), true);
            same("carried", x.carried(1), 0);
            for (int load = 0; load < 19; load++) {
                same("isCarried " + load, x.isCarried(load), false);
                same("placeOf " + load, x.placeOf(load), load == 5 ? 0 : 100);
            }
            same("the load of the other", x.isCarried(19), true);
            x.travel();
            same("placeOf, where it died", x.placeOf(0), 100);
            same("placeOf the load of the other", x.placeOf(19), 120);
        });
    }

    private static void followers() {
        term(4, "If the leader has died, the living camel with the greatest speed", () -> {
            CaravanRoute x = loaded("route 999;camel 20 9 10;" + "camel 30 9 90;".repeat(8) + "camel 31 9 90;");
            travel(x, 4);
            same("leader with 2 dry days", x.leader(), 0);
            x.travel();
            same("the last of ten is the fastest", x.leader(), 9);
            CaravanRoute y = loaded("route 999;camel 20 9 10;camel 60 9 10;camel 10 9 90;");
            travel(y, 5);
            same("the only living one", y.leader(), 2);
            CaravanRoute z = loaded("route 999;camel 20 9 90;camel 60 9 10;camel 60 9 90;");
            travel(z, 5);
            same("livingCamels", z.livingCamels(), 2);
            same("the leader lives and stays, though it is slow", z.leader(), 0);
        });
        term(4, "as it is after these visits", () -> {
            followerThatBecomesLame();
            followerThatRecovers();
        });
        term(4, "the lowest number of several", () -> {
            CaravanRoute x = loaded("route 999;camel 20 9 90;camel 20 9 10;camel 29 9 90;camel 30 9 90;camel 30 9 90;");
            x.setLeader(1);
            travel(x, 5);
            same("isDead", x.isDead(1), true);
            same("leader", x.leader(), 3);
            CaravanRoute y = loaded("route 999;camel 20 9 90;camel 20 9 10;camel 20 9 90;");
            y.setLeader(1);
            travel(y, 5);
            same("leader, of all alike", y.leader(), 0);
        });
        term(4, "if no camel is alive, the leader stays as it is", () -> {
            same("leader", Made.allDead().leader(), 1);
            CaravanRoute x = loaded("route 999;" + "camel 20 9 10;".repeat(10));
            x.setLeader(9);
            travel(x, 5);
            same("livingCamels", x.livingCamels(), 0);
            same("leader, the last of ten", x.leader(), 9);
        });
    }

    /** Camel 1 is faster than camel 2 until the day on which the leader dies. */
    private static void followerThatBecomesLame() {
        CaravanRoute x = loaded("route 999;camel 60 9 10;camel 47 9 90;camel 60 9 90;load 99 1 on 2;");
        travel(x, 4);
        same("strain", x.strain(1), 52);
        x.addLoad(81, 1);
        x.putOn(1, 2);
        same("speed of camel 1 before", x.speed(1), 47);
        same("speed of camel 2 before", x.speed(2), 42);
        x.travel();
        same("lameDays", x.lameDays(1), 3);
        same("leader", x.leader(), 2);
    }

    /** Camel 1 is slower than camel 2 until its last lame day is over, as the leader dies. */
    private static void followerThatRecovers() {
        CaravanRoute x = loaded("route 999;camel 60 9 12;camel 29 9 90;camel 45 9 90;");
        travel(x, 2);
        same("lameDays", x.lameDays(1), 3);
        x.addLoad(99, 1);
        x.addLoad(81, 1);
        x.putOn(0, 2);
        x.putOn(1, 2);
        rest(x, 2);
        same("lameDays", x.lameDays(1), 1);
        same("leader", x.leader(), 0);
        same("speed of camel 1 before", x.speed(1), 14);
        same("speed of camel 2 before", x.speed(2), 27);
        x.rest();
        same("isDead", x.isDead(0), true);
        same("speed of camel 1 afterwards", x.speed(1), 29);
        same("leader", x.leader(), 1);
    }

    private static void wells() {
        term(4, "At last, the wells are refilled, the level of each increasing by its refill", () -> {
            CaravanRoute x = refilled();
            same("wellLevel far away", x.wellLevel(1), 999);
            same("wellLevel here", x.wellLevel(0), 99 - 87);
            x.rest();
            same("wellLevel after the day", x.wellLevel(0), 99 - 87 + 44);
            x.travel();
            same("wellLevel of one that was left", x.wellLevel(0), 99);
        });
        term(4, "but to at most its capacity", () -> {
            CaravanRoute x = refilled();
            // It has 12 litres, and gets 44 each day: 56, 100, of which the last is one too much.
            x.rest();
            same("wellLevel", x.wellLevel(0), 56);
            x.rest();
            same("wellLevel one litre above the capacity", x.wellLevel(0), 99);
            x.rest();
            same("wellLevel of a full well", x.wellLevel(0), 99);
            same("wellLevel of a well that was never touched", x.wellLevel(1), 999);
            CaravanRoute y = loaded("route 999;camel 10 9 90;well 0 100 3;");
            y.rest();
            same("drink", y.drink(), 3);
            y.rest();
            same("wellLevel just to the capacity", y.wellLevel(0), 100);
        });
        term(4, "and the day increases by 1", () -> {
            CaravanRoute x = new CaravanRoute();
            for (int day = 1; day <= 6; day++) {
                x.travel();
                same("day", x.day(), day);
            }
            CaravanRoute y = Made.onDay(199);
            y.travel();
            same("day", y.day(), 200);
        });
    }

    /** A camel has drunk 87 of the 99 litres of well 0. */
    private static CaravanRoute refilled() {
        CaravanRoute x = loaded("route 999;camel 10 9 90;well 0 99 44;well 500 999 99;");
        rest(x, 29);
        same("drink", x.drink(), 87);
        return x;
    }

    private static void rest() {
        term(4, "A day of rest is like a day of travel with the distance 0", () -> {
            CaravanRoute x = loaded("route 999;camel 20 9 10;camel 30 9 90;well 10 9 9;load 5 1 on 0;");
            x.setStopping(true);
            same("rest", x.rest(), 2);
            same("kilometre", x.kilometre(), 0);
            same("day", x.day(), 1);
            rest(x, 2);
            same("water of 10, less 3 and 3 and 3", x.water(0), 1);
            x.rest();
            same("dryDays", x.dryDays(0), 1);
            same("water", x.water(0), 0);
            x.rest();
            same("livingCamels after", x.rest(), 1);
            same("isDead", x.isDead(0), true);
            same("isCarried", x.isCarried(0), false);
            same("leader", x.leader(), 1);
            same("kilometre", x.kilometre(), 0);
        });
        term(4, "except that it is possible at the end of the route, too", () -> {
            CaravanRoute x = Made.arrived();
            Check.badState("travel", () -> x.travel());
            same("rest", x.rest(), 2);
            same("day", x.day(), 3);
            same("kilometre", x.kilometre(), 100);
            same("hasArrived", x.hasArrived(), true);
        });
    }

    private static void restOfTheLiving() {
        term(4, "that the strain of every living camel decreases by 10 (not below 0), whatever the speeds are", () -> {
            CaravanRoute x = loaded("route 999;camel 21 9 90;camel 10 9 90;camel 11 9 90;camel 12 9 90;camel 21 9 90;");
            x.travel();
            x.rest();
            int[] due = {0, 1, 0, 0, 0};
            for (int camel = 0; camel < 5; camel++) {
                same("strain " + camel, x.strain(camel), due[camel]);
            }
            x.rest();
            same("strain of 1", x.strain(1), 0);
            // The last of ten is dead with a strain of 37, and the others rest.
            CaravanRoute y = Made.ten();
            y.rest();
            same("strain of a dead one", y.strain(9), 37);
            same("lameDays of a dead one", y.lameDays(9), 4);
        });
        term(4, "and that each camel needs only half of its litres, rounded up", () -> {
            int[][] due = {{1, 0, 3}, {25, 0, 3}, {49, 0, 3}, {50, 0, 4}, {75, 0, 4}, {1, 1, 3}, {1, 2, 4}, {1, 9, 7}, {25, 9, 8}, {99, 9, 9}};
            for (int[] row : due) {
                String storm = row[1] == 0 ? "" : "storm 0 0 " + row[1] + ";";
                CaravanRoute x = loaded("route 999;camel 60 9 90;" + storm + "load " + row[0] + " 1 on 0;");
                x.rest();
                same("water after " + row[0] + " kg and a storm of " + row[1], x.water(0), 90 - row[2]);
            }
            CaravanRoute y = loaded("route 999;camel 60 9 12;camel 60 9 11;");
            rest(y, 3);
            same("water", y.water(0), 3);
            same("water", y.water(1), 2);
            y.rest();
            same("dryDays of just enough", y.dryDays(0), 0);
            same("dryDays, one litre short", y.dryDays(1), 1);
        });
    }
}
