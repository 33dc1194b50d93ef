import java.util.ArrayList;
import java.util.Comparator;
import java.util.List;
import java.util.regex.Matcher;
import java.util.regex.Pattern;

/**
 * The document told once more, in another way than the class does it: with lists, sums made anew at
 * each question, and whole copies. A call that throws is answered by the name of its exception.
 */
final class PlainCaravan {
    static final String STATE = "IllegalStateException";
    static final String ARGUMENT = "IllegalArgumentException";
    static final String INDEX = "IndexOutOfBoundsException";
    static final String NO_SUCH = "NoSuchElementException";

    static final class Camel implements Cloneable {
        int number, pace, strength, tank, water, strain, lame, dry;
        boolean dead;
    }

    static final class Well {
        int number, kilometre, capacity, refill, level;
    }

    static final class Storm {
        int first, last, strength;
    }

    static final class Load {
        int number, weight, value, place;
        Integer carrier;
    }

    static final class World {
        int length, kilometre, day, leader, drunk;
        boolean stopping;
        List<Camel> camels = new ArrayList<>();
        List<Well> wells = new ArrayList<>();
        List<Storm> storms = new ArrayList<>();
        List<Load> loads = new ArrayList<>();

        World copy() {
            World w = new World();
            w.length = length;
            w.kilometre = kilometre;
            w.day = day;
            w.leader = leader;
            w.drunk = drunk;
            w.stopping = stopping;
            for (Camel c : camels) {
                Camel d = new Camel();
                d.number = c.number;
                d.pace = c.pace;
                d.strength = c.strength;
                d.tank = c.tank;
                d.water = c.water;
                d.strain = c.strain;
                d.lame = c.lame;
                d.dry = c.dry;
                d.dead = c.dead;
                w.camels.add(d);
            }
            for (Well a : wells) {
                Well b = new Well();
                b.number = a.number;
                b.kilometre = a.kilometre;
                b.capacity = a.capacity;
                b.refill = a.refill;
                b.level = a.level;
                w.wells.add(b);
            }
            w.storms.addAll(storms);
            for (Load a : loads) {
                Load b = new Load();
                b.number = a.number;
                b.weight = a.weight;
                b.value = a.value;
                b.place = a.place;
                b.carrier = a.carrier;
                w.loads.add(b);
            }
            return w;
        }

        List<Camel> living() {
            List<Camel> found = new ArrayList<>(camels);
            found.removeIf(c -> c.dead);
            return found;
        }

        int carried(Camel c) {
            return loads.stream().filter(l -> l.carrier != null && l.carrier == c.number).mapToInt(l -> l.weight).sum();
        }

        int free(Camel c) {
            return 20 * c.strength - carried(c);
        }

        int speed(Camel c) {
            int pace = c.lame == 0 ? c.pace : c.pace / 2;
            return Math.max(5, pace - carried(c) / 10);
        }

        int storm(int day) {
            return storms.stream().filter(s -> s.first <= day && s.last >= day).mapToInt(s -> s.strength).max().orElse(0);
        }

        Well here() {
            return wells.stream().filter(w -> w.kilometre == kilometre).findFirst().orElse(null);
        }

        Well next() {
            return wells.stream().filter(w -> w.kilometre > kilometre)
                .min(Comparator.comparingInt(w -> w.kilometre)).orElse(null);
        }

        int distance() {
            if (kilometre == length || living().isEmpty()) {
                return 0;
            }
            int d = speed(camels.get(leader)) * (10 - storm(day)) / 10;
            if (d > length - kilometre) {
                d = length - kilometre;
            }
            if (stopping) {
                for (int k = kilometre + 1; k <= kilometre + d; k++) {
                    int place = k;
                    if (wells.stream().anyMatch(w -> w.kilometre == place)) {
                        return k - kilometre;
                    }
                }
            }
            return d;
        }

        int need(Camel c) {
            return 5 + carried(c) / 25 + storm(day);
        }

        Camel fastest() {
            Camel best = null;
            for (Camel c : living()) {
                if (best == null || speed(c) > speed(best)) {
                    best = c;
                }
            }
            return best;
        }

        Camel thirstiest() {
            return living().stream().min(Comparator.comparingInt(c -> c.water)).orElse(null);
        }

        double meanWater() {
            int sum = living().stream().mapToInt(c -> c.water).sum();
            return living().isEmpty() ? 0.0 : (double) sum / (double) living().size();
        }

        int carriedValue() {
            return loads.stream().filter(l -> l.carrier != null).mapToInt(l -> l.value).sum();
        }

        boolean canTravel() {
            return kilometre < length && !living().isEmpty() && day < 200;
        }

        int pass(boolean isRest) {
            int d = isRest ? 0 : distance();
            int leaderSpeed = speed(camels.get(leader));
            kilometre += d;
            for (Camel c : living()) {
                if (!isRest && leaderSpeed > speed(c)) {
                    c.strain += leaderSpeed - speed(c);
                } else {
                    c.strain = c.strain < 10 ? 0 : c.strain - 10;
                }
                if (c.strain > 60) {
                    c.lame += 3;
                    c.strain = 0;
                } else if (c.lame > 0) {
                    c.lame--;
                }
                int need = isRest ? (int) Math.ceil(need(c) / 2.0) : need(c);
                if (c.water >= need) {
                    c.water -= need;
                    c.dry = 0;
                } else {
                    c.water = 0;
                    c.dry++;
                    if (c.dry == 3) {
                        c.dead = true;
                        for (Load l : loads) {
                            if (l.carrier != null && l.carrier == c.number) {
                                l.carrier = null;
                                l.place = kilometre;
                            }
                        }
                    }
                }
            }
            if (camels.get(leader).dead && fastest() != null) {
                leader = fastest().number;
            }
            for (Well w : wells) {
                w.level = Math.min(w.capacity, w.level + w.refill);
            }
            day++;
            return d;
        }

        int drinkAll() {
            Well w = here();
            List<Camel> order = living();
            order.sort(Comparator.comparingInt(c -> c.water));
            int sum = 0;
            for (Camel c : order) {
                while (c.water < c.tank && w.level > 0) {
                    c.water++;
                    w.level--;
                    sum++;
                }
            }
            drunk += sum;
            return sum;
        }
    }

    World world;
    private String buffer = "";
    private int error = -1;
    private final List<World> past = new ArrayList<>();
    private final World[] slots = new World[2];
    String written = "";

    PlainCaravan() {
        buffer = "route 200;camel 40 3 60;camel 30 5 80;camel 50 2 40;well 30 100 10;well 90 50 5;storm 2 3 4;"
            + "load 30 20 on 1;load 45 50 on 1;load 15 9;";
        load();
    }

    Object append(String signs) {
        if (buffer.length() + signs.length() > 700) {
            return STATE;
        }
        buffer += signs;
        return buffer.length();
    }

    Object shorten(int length) {
        if (length < 0 || length > buffer.length()) {
            return ARGUMENT;
        }
        buffer = buffer.substring(0, length);
        return length;
    }

    Object hasError() {
        return error >= 0;
    }

    Object errorOffset() {
        return error >= 0 ? error : NO_SUCH;
    }

    private List<String> tokens;
    private List<Integer> offsets;
    private int at;

    private static final class Wrong extends RuntimeException {
        private static final long serialVersionUID = 1;
    }

    Object load() {
        tokens = new ArrayList<>();
        offsets = new ArrayList<>();
        Matcher matcher = Pattern.compile("[a-z]+|[0-9]+|[^ \n]", Pattern.DOTALL).matcher(buffer);
        while (matcher.find()) {
            tokens.add(matcher.group());
            offsets.add(matcher.start());
        }
        tokens.add("");
        offsets.add(buffer.length());
        at = 0;
        buffer = "";
        World read = new World();
        try {
            readText(read);
        } catch (Wrong e) {
            error = offsets.get(at);
            return ARGUMENT;
        }
        error = -1;
        world = read;
        past.clear();
        slots[0] = null;
        slots[1] = null;
        return world.camels.size();
    }

    private void readText(World w) {
        word("route");
        w.length = number(10, 999);
        word(";");
        do {
            word("camel");
            if (w.camels.size() == 10) {
                at--;
                throw new Wrong();
            }
            Camel c = new Camel();
            c.number = w.camels.size();
            c.pace = number(10, 60);
            c.strength = number(1, 9);
            c.tank = number(10, 90);
            c.water = c.tank;
            w.camels.add(c);
            word(";");
        } while (tokens.get(at).equals("camel"));
        while (tokens.get(at).equals("well") && w.wells.size() < 8) {
            at++;
            Well well = new Well();
            well.number = w.wells.size();
            well.kilometre = number(0, w.length);
            if (w.wells.stream().anyMatch(other -> other.kilometre == well.kilometre)) {
                at--;
                throw new Wrong();
            }
            well.capacity = number(1, 999);
            well.refill = number(0, 99);
            well.level = well.capacity;
            w.wells.add(well);
            word(";");
        }
        while (tokens.get(at).equals("storm") && w.storms.size() < 6) {
            at++;
            Storm s = new Storm();
            s.first = number(0, 200);
            s.last = number(s.first, 200);
            s.strength = number(1, 9);
            w.storms.add(s);
            word(";");
        }
        while (tokens.get(at).equals("load") && w.loads.size() < 20) {
            at++;
            Load l = new Load();
            l.number = w.loads.size();
            l.weight = number(1, 99);
            l.value = number(1, 99);
            if (tokens.get(at).equals("on")) {
                at++;
                int camel = number(0, w.camels.size() - 1);
                if (w.free(w.camels.get(camel)) < l.weight) {
                    at--;
                    throw new Wrong();
                }
                l.carrier = camel;
            }
            w.loads.add(l);
            word(";");
        }
        word("");
    }

    private void word(String due) {
        if (!tokens.get(at).equals(due)) {
            throw new Wrong();
        }
        at++;
    }

    private int number(int least, int most) {
        String token = tokens.get(at);
        if (!token.matches("[0-9]{1,3}") || Integer.parseInt(token) < least || Integer.parseInt(token) > most) {
            throw new Wrong();
        }
        at++;
        return Integer.parseInt(token);
    }

    boolean hasCamel(int camel) {
        return camel >= 0 && camel < world.camels.size();
    }

    boolean hasLoad(int load) {
        return load >= 0 && load < world.loads.size();
    }

    private void change() {
        past.add(world.copy());
        if (past.size() > 8) {
            past.remove(0);
        }
    }

    Object livingAfter(int days) {
        if (days < 0 || days > 50) {
            return ARGUMENT;
        }
        World w = world.copy();
        for (int i = 0; i < days; i++) {
            if (w.canTravel()) {
                w.pass(false);
            }
        }
        return w.living().size();
    }

    Object daysToArrival() {
        World w = world.copy();
        int days = 0;
        while (w.kilometre < w.length) {
            if (!w.canTravel()) {
                return NO_SUCH;
            }
            w.pass(false);
            days++;
        }
        return days;
    }

    Object wouldDrink(int camel) {
        if (!hasCamel(camel)) {
            return INDEX;
        }
        if (world.here() == null) {
            return STATE;
        }
        World w = world.copy();
        w.drinkAll();
        return w.camels.get(camel).water - world.camels.get(camel).water;
    }

    Object travel() {
        if (!world.canTravel()) {
            return STATE;
        }
        change();
        return world.pass(false);
    }

    Object rest() {
        if (world.living().isEmpty() || world.day == 200) {
            return STATE;
        }
        change();
        world.pass(true);
        return world.living().size();
    }

    Object drink() {
        if (world.here() == null) {
            return STATE;
        }
        change();
        return world.drinkAll();
    }

    Object setLeader(int camel) {
        if (!hasCamel(camel)) {
            return INDEX;
        }
        if (world.camels.get(camel).dead) {
            return STATE;
        }
        change();
        int before = world.leader;
        world.leader = camel;
        return before;
    }

    Object setStopping(boolean isOn) {
        change();
        boolean before = world.stopping;
        world.stopping = isOn;
        return before;
    }

    Object putOn(int load, int camel) {
        if (!hasLoad(load) || !hasCamel(camel)) {
            return INDEX;
        }
        Load l = world.loads.get(load);
        Camel c = world.camels.get(camel);
        boolean isHere = l.carrier != null || l.place == world.kilometre;
        boolean carriesIt = l.carrier != null && l.carrier == camel;
        if (c.dead || carriesIt || !isHere || world.free(c) < l.weight) {
            return STATE;
        }
        change();
        l.carrier = camel;
        return world.free(c);
    }

    Object takeOff(int load) {
        if (!hasLoad(load)) {
            return INDEX;
        }
        Load l = world.loads.get(load);
        if (l.carrier == null) {
            return STATE;
        }
        change();
        int before = l.carrier;
        l.carrier = null;
        l.place = world.kilometre;
        return before;
    }

    Object addLoad(int weight, int value) {
        if (weight < 1 || weight > 99 || value < 1 || value > 99) {
            return ARGUMENT;
        }
        if (world.loads.size() == 20) {
            return STATE;
        }
        change();
        Load l = new Load();
        l.number = world.loads.size();
        l.weight = weight;
        l.value = value;
        l.place = world.kilometre;
        world.loads.add(l);
        return l.number;
    }

    Object undo() {
        if (past.isEmpty()) {
            return STATE;
        }
        world = past.remove(past.size() - 1);
        return past.size();
    }

    Object saveSnapshot(int slot) {
        if (slot != 0 && slot != 1) {
            return INDEX;
        }
        slots[slot] = world.copy();
        return world.kilometre;
    }

    Object restoreSnapshot(int slot) {
        if (slot != 0 && slot != 1) {
            return INDEX;
        }
        if (slots[slot] == null) {
            return NO_SUCH;
        }
        change();
        world = slots[slot].copy();
        return world.kilometre;
    }

    Object writeCamels() {
        StringBuilder text = new StringBuilder();
        for (Camel c : world.camels) {
            text.append(c.number == world.leader ? "*" : "").append(c.water).append('/').append(c.tank);
            for (Load l : world.loads) {
                text.append(l.carrier != null && l.carrier == c.number ? "," + l.number : "");
            }
            text.append(c.dead ? "!\n" : "\n");
        }
        written = text.toString();
        return written.length();
    }
}
