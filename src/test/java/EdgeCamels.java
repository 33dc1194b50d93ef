/** Term 2 and promises 20 to 34: camels. */
final class EdgeCamels extends Edge {
    static void tests() {
        numbers();
        firstState();
        carrying();
        speed();
        counts();
        lifeAndDeath();
        whatIsFixed();
        whatTires();
        weights();
        theLeastAndTheGreatest();
    }

    private static void numbers() {
        term(2, "There are 1 to 10 camels, numbered from 0.", () -> {
            wrong("route 50;", 9);
            wrong("route 50;load 1 1;", 9);
            same("one camel", loaded("route 50;" + CAMEL).camelCount(), 1);
            StringBuilder text = new StringBuilder("route 50;");
            for (int camel = 0; camel < 10; camel++) {
                text.append("camel ").append(20 + camel).append(" 3 60;");
            }
            CaravanRoute x = loaded(text.toString());
            same("ten camels", x.camelCount(), 10);
            for (int camel = 0; camel < 10; camel++) {
                same("pace " + camel, x.pace(camel), 20 + camel);
            }
            wrong(text + CAMEL, text.length());
        });
        term(2, "A camel has a pace of 10 to 60 kilometres", () -> {
            wrong("route 50;camel 9 3 60;", 15);
            for (int pace : new int[] {10, 11, 59, 60}) {
                same("pace", loaded("route 50;camel " + pace + " 3 60;").pace(0), pace);
            }
            wrong("route 50;camel 61 3 60;", 15);
        });
        term(2, "a strength of 1 to 9", () -> {
            wrong("route 50;camel 40 0 60;", 18);
            for (int strength : new int[] {1, 2, 8, 9}) {
                same("freeWeight", loaded("route 50;camel 40 " + strength + " 60;").freeWeight(0), 20 * strength);
            }
            wrong("route 50;camel 40 10 60;", 18);
        });
        term(2, "a tank of 10 to 90 litres", () -> {
            wrong("route 50;camel 40 3 9;", 20);
            for (int tank : new int[] {10, 11, 89, 90}) {
                same("tank", loaded("route 50;camel 40 3 " + tank + ";").tank(0), tank);
            }
            wrong("route 50;camel 40 3 91;", 20);
        });
    }

    private static void firstState() {
        term(2, "Its water is its tank at first", () -> {
            CaravanRoute x = loaded("route 50;camel 40 3 10;camel 40 3 90;camel 40 3 55;");
            same("water", x.water(0), 10);
            same("water", x.water(1), 90);
            same("water", x.water(2), 55);
            CaravanRoute y = Made.ten();
            Check.feed(y, "route 50;" + "camel 10 1 34;".repeat(10));
            y.load();
            same("water of the first after load", y.water(0), 34);
            same("water of the last after load", y.water(9), 34);
        });
        term(2, "its strain, its lame days and its dry days are 0 at first", () -> {
            CaravanRoute x = Made.ten();
            same("strain before load", x.strain(9), 37);
            same("lameDays before load", x.lameDays(9), 4);
            same("dryDays before load", x.dryDays(9), 3);
            Check.feed(x, "route 50;" + "camel 10 1 34;".repeat(10));
            x.load();
            for (int camel = 0; camel < 10; camel++) {
                same("strain " + camel, x.strain(camel), 0);
                same("lameDays " + camel, x.lameDays(camel), 0);
                same("dryDays " + camel, x.dryDays(camel), 0);
            }
        });
        term(2, "A camel is alive or dead.", () -> {
            CaravanRoute x = loaded("route 999;camel 20 1 10;camel 20 1 90;");
            for (int day = 0; day < 8; day++) {
                same("isDead on day " + day, x.isDead(0), day >= 5);
                same("livingCamels on day " + day, x.livingCamels(), day >= 5 ? 1 : 2);
                x.travel();
            }
        });
        term(2, "One of the camels is the leader; it is camel 0 at first.", () -> {
            same("leader of one", loaded(ROUTE).leader(), 0);
            CaravanRoute x = loaded("route 50;" + CAMEL.repeat(10));
            same("leader of ten", x.leader(), 0);
            x.setLeader(9);
            same("leader", x.leader(), 9);
            Check.feed(x, ROUTE);
            x.load();
            same("leader after load", x.leader(), 0);
        });
    }

    private static void carrying() {
        term(2, "A camel can carry at most 20 kilograms for each unit of its strength.", () -> {
            String weak = "route 50;camel 40 1 60;";
            same("20 kg", loaded(weak + "load 20 1 on 0;").carried(0), 20);
            wrong(weak + "load 21 1 on 0;", 36);
            wrong(weak + "load 20 1 on 0;load 1 1 on 0;", 50);
            same("putOn of 20 kg", loaded(weak + "load 20 1;").putOn(0, 0), 0);
            CaravanRoute x = loaded(weak + "load 21 1;load 19 1 on 0;load 2 1;load 1 1;");
            Check.badState("putOn of 21 kg", () -> x.putOn(0, 0));
            Check.badState("putOn of 2 kg to 19", () -> x.putOn(2, 0));
            same("putOn of 1 kg to 19", x.putOn(3, 0), 0);
            String strong = "route 50;camel 40 9 60;load 99 1 on 0;";
            same("180 kg", loaded(strong + "load 81 1 on 0;").carried(0), 180);
            wrong(strong + "load 82 1 on 0;", 51);
            same("putOn to 180 kg", loaded(strong + "load 81 1;").putOn(1, 0), 0);
            CaravanRoute y = loaded(strong + "load 82 1;");
            Check.badState("putOn to 181 kg", () -> y.putOn(1, 0));
        });
    }

    /** Camel 1 has become lame, on the second day, behind a leader of 60. */
    private static CaravanRoute lame(int pace, String more) {
        CaravanRoute x = loaded("route 999;camel 60 9 90;camel " + pace + " 9 90;" + more);
        travel(x, 2);
        same("lameDays", x.lameDays(1), 3);
        return x;
    }

    private static void speed() {
        term(2, "The speed of a camel is its pace", () -> {
            same("speed", loaded("route 50;camel 10 3 60;").speed(0), 10);
            same("speed", loaded("route 50;camel 60 3 60;").speed(0), 60);
        });
        term(2, "divided by 2 (rounded down) if it has lame days", () -> {
            same("half of 10", lame(10, "").speed(1), 5);
            same("half of 28", lame(28, "").speed(1), 14);
            CaravanRoute x = lame(29, "");
            for (int days = 3; days > 0; days--) {
                same("lameDays", x.lameDays(1), days);
                same("half of 29 with " + days + " lame days", x.speed(1), 14);
                x.rest();
            }
            same("speed without lame days", x.speed(1), 29);
        });
        term(2, "minus 1 for each full 10 kilograms that it carries", () -> {
            int[] kilograms = {1, 9, 10, 11, 19, 20, 29, 30, 90, 99};
            int[] due = {60, 60, 59, 59, 59, 58, 58, 57, 51, 51};
            for (int i = 0; i < kilograms.length; i++) {
                String text = "route 50;camel 60 9 60;load " + kilograms[i] + " 1 on 0;";
                same("speed with " + kilograms[i] + " kg", loaded(text).speed(0), due[i]);
            }
            same("two loads of 5 kg", loaded("route 50;camel 60 9 60;" + "load 5 1 on 0;".repeat(2)).speed(0), 59);
            same("180 kg", loaded("route 50;camel 60 9 60;" + "load 90 1 on 0;".repeat(2)).speed(0), 42);
            CaravanRoute x = lame(29, "load 40 1;load 49 1;");
            x.undo();
            x.undo();
            x.putOn(1, 1);
            travel(x, 2);
            same("first the half, then 4 for 49 kg", x.speed(1), 10);
        });
        term(2, "but at least 5", () -> {
            int[] kilograms = {39, 40, 49, 50, 59, 60, 99};
            int[] due = {7, 6, 6, 5, 5, 5, 5};
            for (int i = 0; i < kilograms.length; i++) {
                String text = "route 50;camel 10 9 60;load " + kilograms[i] + " 1 on 0;";
                same("speed with " + kilograms[i] + " kg", loaded(text).speed(0), due[i]);
            }
            same("180 kg", loaded("route 50;camel 10 9 60;" + "load 90 1 on 0;".repeat(2)).speed(0), 5);
            same("lame, without a load", lame(11, "").speed(1), 5);
            same("lame, with 10 kg", lame(11, "load 10 1 on 1;").speed(1), 5);
            same("lame, with 10 kg", lame(13, "load 10 1 on 1;").speed(1), 5);
            same("lame, with 9 kg", lame(13, "load 9 1 on 1;").speed(1), 6);
        });
    }

    private static void counts() {
        promise(20, "Returns the number of camels, dead ones included.", () -> {
            same("camelCount", loaded(ROUTE).camelCount(), 1);
            same("camelCount with one dead", Made.ten().camelCount(), 10);
            same("camelCount of the dead", Made.allDead().camelCount(), 2);
        });
        promise(21, "Returns the number of living camels.", () -> {
            same("livingCamels", loaded(ROUTE).livingCamels(), 1);
            same("livingCamels", loaded("route 50;" + CAMEL.repeat(10)).livingCamels(), 10);
            same("livingCamels with one dead", Made.ten().livingCamels(), 9);
            CaravanRoute x = Made.allDead();
            same("livingCamels", x.livingCamels(), 0);
            x.undo();
            same("livingCamels after undo", x.livingCamels(), 2);
        });
        promise(22, "Returns the leader.", () -> {
            CaravanRoute x = loaded("route 50;" + CAMEL.repeat(10));
            same("leader", x.leader(), 0);
            x.setLeader(9);
            same("leader", x.leader(), 9);
            x.undo();
            same("leader after undo", x.leader(), 0);
            same("leader of the dead", Made.allDead().leader(), 1);
        });
    }

    private static void lifeAndDeath() {
        promise(23, "Returns whether it is dead.", () -> {
            CaravanRoute x = loaded("route 999;camel 20 1 90;camel 20 1 10;");
            travel(x, 4);
            same("dryDays", x.dryDays(1), 2);
            same("isDead with 2 dry days", x.isDead(1), false);
            x.travel();
            same("isDead with 3 dry days", x.isDead(1), true);
            same("isDead of the other", x.isDead(0), false);
            x.undo();
            same("isDead after undo", x.isDead(1), false);
        });
        promise(30, "Returns its dry days.", () -> {
            CaravanRoute x = loaded("route 999;camel 20 1 90;camel 20 1 10;");
            int[] due = {0, 0, 0, 1, 2, 3, 3};
            for (int day = 0; day < due.length; day++) {
                same("dryDays on day " + day, x.dryDays(1), due[day]);
                same("dryDays of the other", x.dryDays(0), 0);
                x.travel();
            }
        });
        promise(25, "Returns its speed (also of a dead camel).", () -> {
            same("the least", loaded("route 50;camel 10 9 60;load 99 1 on 0;").speed(0), 5);
            same("the greatest", loaded("route 50;camel 60 9 60;").speed(0), 60);
            same("dead", Made.allDead().speed(1), 30);
            // Lame on days 3 and 5, the day of its death.
            CaravanRoute x = loaded("route 999;camel 60 9 90;camel 31 9 10;load 10 1 on 1;");
            travel(x, 5);
            same("isDead", x.isDead(1), true);
            same("lameDays", x.lameDays(1), 5);
            same("dead and lame, without its load", x.speed(1), 15);
        });
    }

    private static void whatIsFixed() {
        promise(24, "Returns its pace.", () -> {
            same("pace", loaded("route 50;camel 10 9 60;load 99 1 on 0;").pace(0), 10);
            same("pace", loaded("route 50;camel 60 9 60;load 99 1 on 0;").pace(0), 60);
            same("pace of a lame one", lame(29, "").pace(1), 29);
            same("pace of a dead one", Made.allDead().pace(1), 30);
        });
        promise(27, "Returns its tank.", () -> {
            CaravanRoute x = loaded("route 50;camel 10 9 10;camel 10 9 90;");
            rest(x, 6);
            same("tank of a dead one", x.tank(0), 10);
            same("tank", x.tank(1), 90);
        });
        promise(26, "Returns its water.", () -> {
            CaravanRoute x = loaded("route 50;camel 10 9 10;camel 10 9 90;");
            same("water", x.water(0), 10);
            same("water", x.water(1), 90);
            travel(x, 2);
            same("water", x.water(0), 0);
            same("water", x.water(1), 80);
        });
    }

    private static void whatTires() {
        promise(28, "Returns its strain.", () -> {
            CaravanRoute x = loaded("route 999;camel 60 9 90;camel 30 9 90;camel 59 9 90;");
            x.travel();
            same("strain", x.strain(1), 30);
            same("the least strain", x.strain(2), 1);
            x.travel();
            same("the greatest strain", x.strain(1), 60);
            same("strain of the leader", x.strain(0), 0);
            x.travel();
            same("strain of one that has become lame", x.strain(1), 0);
        });
        promise(29, "Returns its lame days.", () -> {
            CaravanRoute x = loaded("route 999;camel 60 1 90;camel 11 9 90;load 98 1 on 1;");
            int[] due = {0, 0, 3, 2, 5, 4, 7, 6, 9};
            for (int day = 0; day < due.length; day++) {
                same("lameDays on day " + day, x.lameDays(1), due[day]);
                same("lameDays of the leader", x.lameDays(0), 0);
                x.travel();
            }
        });
    }

    private static void weights() {
        promise(31, "Returns the kilograms that it carries.", () -> {
            CaravanRoute x = loaded("route 50;camel 10 9 90;camel 10 1 10;load 90 1 on 0;load 90 1;load 1 1 on 1;");
            same("carried", x.carried(0), 90);
            same("the least", x.carried(1), 1);
            x.putOn(1, 0);
            same("the greatest", x.carried(0), 180);
            x.takeOff(2);
            same("nothing", x.carried(1), 0);
            same("a dead one", Made.ten().carried(9), 0);
        });
        promise(32, "Returns the kilograms that it can carry in addition.", () -> {
            CaravanRoute x = loaded("route 50;camel 10 9 90;camel 10 1 90;load 90 1;load 90 1;load 1 1 on 1;load 19 1;");
            same("the greatest", x.freeWeight(0), 180);
            same("freeWeight", x.freeWeight(1), 19);
            x.putOn(0, 0);
            x.putOn(1, 0);
            x.putOn(3, 1);
            same("nothing", x.freeWeight(0), 0);
            same("nothing", x.freeWeight(1), 0);
            same("a dead one", Made.ten().freeWeight(9), 20);
        });
    }

    private static void theLeastAndTheGreatest() {
        promise(33, "Returns the living camel with the least water, the lowest number of several.", () -> {
            same("ten alike", loaded("route 50;" + CAMEL.repeat(10)).thirstiest(), 0);
            same("the last", loaded("route 50;" + CAMEL.repeat(9) + "camel 40 3 59;").thirstiest(), 9);
            same("two of three", loaded("route 50;camel 40 3 60;camel 40 3 59;camel 40 3 59;").thirstiest(), 1);
            same("one", loaded(ROUTE).thirstiest(), 0);
            same("not the dead one", Made.oneDead().thirstiest(), 1);
            CaravanRoute x = Made.allDead();
            x.undo();
            same("without water, alive", x.thirstiest(), 0);
        });
        promise(33, "Throws `NoSuchElementException` if no camel is alive", () ->
            refused("thirstiest", NO_SUCH, Made::allDead, x -> x.thirstiest()));
        promise(34, "Returns the living camel with the greatest speed, the lowest number of several.", () -> {
            same("ten alike", loaded("route 50;" + CAMEL.repeat(10)).fastest(), 0);
            same("the last", loaded("route 50;" + CAMEL.repeat(9) + "camel 41 3 60;").fastest(), 9);
            same("two of three", loaded("route 50;camel 40 3 60;camel 41 3 60;camel 41 3 60;").fastest(), 1);
            same("the slowest of all", loaded("route 50;camel 10 9 60;load 99 1 on 0;").fastest(), 0);
            same("the speed, not the pace", loaded("route 50;camel 41 3 60;camel 40 3 60;load 20 1 on 0;").fastest(), 1);
            same("not the dead one", Made.ten().fastest(), 0);
            CaravanRoute x = loaded("route 999;camel 20 9 90;camel 60 9 10;");
            rest(x, 6);
            same("not the dead one, though it is fast", x.fastest(), 0);
        });
        promise(34, "Throws `NoSuchElementException` if no camel is alive", () ->
            refused("fastest", NO_SUCH, Made::allDead, x -> x.fastest()));
    }
}
