import java.util.ArrayList;
import java.util.Comparator;
import java.util.List;
import java.util.Random;

/** Long runs of chance calls (always the same ones) against a second, slow reading of the document. */
public final class SoakTest {
    private static final int OBJECTS = 2500;
    /** What a later call of one object answers is free. */
    private static final int MOST_CALLS = 512;
    /** A text of 800 signs, the reading of it, and what is asked in between. */
    private static final int DEAREST_STEP = 60;

    public static void main(String[] args) {
        for (int seed = 0; seed < OBJECTS; seed++) {
            new SoakTest(seed).soak();
        }
        Check.end();
    }

    private final Random chance;
    private final int seed;
    private final boolean fewLoads;
    private final PostBus bus = new PostBus();
    private final Model model = new Model();
    private int calls;

    private SoakTest(int seed) {
        this.seed = seed;
        this.chance = new Random(seed);
        this.fewLoads = chance.nextBoolean();
    }

    private void soak() {
        int places = chance.nextInt(10);
        for (int k = 0; k < places; k++) {
            int minutes = far(1 + chance.nextInt(chance.nextBoolean() ? 4 : 12));
            boolean passing = chance.nextInt(3) == 0;
            same("place", bus.place(minutes, passing), model.place(minutes, passing));
        }
        while (calls + DEAREST_STEP + costOfComparing() < MOST_CALLS) {
            int which = chance.nextInt(20);
            boolean left = fewLoads && which > 2 && which < 7;
            call(left ? 19 : which);
            askOne();
        }
        compare();
        Check.yes("seed " + seed + ": no more calls than are promised", calls <= MOST_CALLS);
    }

    private int costOfComparing() {
        return 10 + 10 * model.runs.size() + 4 * model.loads.size() + model.places.size();
    }

    /** Now and then a number that no argument takes, instead of a near one. */
    private int far(int near) {
        return chance.nextInt(60) == 0 ? Check.FAR[chance.nextInt(Check.FAR.length)] : near;
    }

    private void askOne() {
        int run = chance.nextInt(model.runs.size() + 1);
        int load = chance.nextInt(model.loads.size() + 1);
        int what = chance.nextInt(10);
        if (run < model.runs.size()) {
            same("look(" + run + ", " + what + ")", Check.lookOrThrow(bus, run, what), model.look(run, what));
        }
        if (load < model.loads.size()) {
            same("lies(" + load + ", " + what % 4 + ")", Check.liesOrThrow(bus, load, what % 4), model.lies(load, what % 4));
        }
        same("count(" + what + ")", bus.count(what), model.count(what));
    }

    private void same(String call, int got, int want) {
        calls++;
        Check.due("seed " + seed + ", minute " + model.now + ": " + call, got, want);
    }

    private int near(int low, int high) {
        return far(low - 1 + chance.nextInt(high - low + 3));
    }

    private int soon() {
        return far(model.now + chance.nextInt(22));
    }

    private void call(int which) {
        int places = model.places.size();
        switch (which) {
            case 0: case 1: {
                boolean up = chance.nextBoolean();
                int minute = chance.nextInt(30) == 0 ? near(1, 400) : soon();
                int seats = chance.nextInt(20) == 0 ? near(1, 40) : 1 + chance.nextInt(3);
                int room = chance.nextInt(20) == 0 ? near(0, 40) : chance.nextInt(4);
                same("run", bus.run(up, minute, seats, room), model.run(up, minute, seats, room));
                return;
            }
            case 2: case 3: case 4: case 5: case 6: {
                int kind = chance.nextInt(20) == 0 ? near(0, 2) : chance.nextInt(3);
                int from = near(0, places - 1);
                int to = near(0, places - 1);
                int minute = chance.nextInt(20) == 0 ? near(0, 600) : soon();
                same("load", bus.load(kind, from, to, minute), model.load(kind, from, to, minute));
                return;
            }
            case 7: case 8: {
                int k = near(0, 7);
                int place = near(0, places - 1);
                int minute = chance.nextInt(20) == 0 ? near(0, 600) : soon();
                same("train", bus.train(k, place, minute) ? 1 : 0, model.train(k, place, minute) ? 1 : 0);
                return;
            }
            case 9: {
                int stretch = near(0, places - 2);
                int low = soon();
                int high = far(low + chance.nextInt(10) - 1);
                same("snow", bus.snow(stretch, low, high) ? 1 : 0, model.snow(stretch, low, high) ? 1 : 0);
                return;
            }
            case 10: case 11: {
                String text = chance.nextInt(3) == 0 ? broken(text()) : text();
                calls += text.length() / 24 + 1;
                same("feed " + text, Check.feed(bus, text), model.feed(text));
                same("text " + text, bus.text(), model.text());
                return;
            }
            case 12: {
                int run = near(0, model.runs.size() - 1);
                int low = soon();
                int high = far(low + chance.nextInt(7) - 1);
                same("best(" + run + ", " + low + ", " + high + ")", bus.best(run, low, high), model.best(run, low, high));
                same("takes", bus.takes(), model.takes);
                return;
            }
            case 13: {
                int run = near(0, model.runs.size() - 1);
                int minute = soon();
                same("shift", bus.shift(run, minute) ? 1 : 0, model.shift(run, minute) ? 1 : 0);
                return;
            }
            default: {
                int n = chance.nextInt(60) == 0 ? near(0, 200) : chance.nextInt(5);
                same("minutes", bus.minutes(n), model.minutes(n));
                return;
            }
        }
    }

    private void compare() {
        for (int what = 0; what < 10; what++) {
            same("count(" + what + ")", bus.count(what), model.count(what));
        }
        for (int run = 0; run < model.runs.size(); run++) {
            for (int what = 0; what < 10; what++) {
                same("look(" + run + ", " + what + ")", Check.lookOrThrow(bus, run, what), model.look(run, what));
            }
        }
        for (int load = 0; load < model.loads.size(); load++) {
            for (int what = 0; what < 4; what++) {
                same("lies(" + load + ", " + what + ")", Check.liesOrThrow(bus, load, what), model.lies(load, what));
            }
        }
        for (int stretch = 0; stretch < model.places.size() - 1; stretch++) {
            same("shut(" + stretch + ")", bus.shut(stretch), model.isShut(stretch) ? 1 : 0);
        }
    }

    private String text() {
        StringBuilder text = new StringBuilder();
        int lines = chance.nextInt(12) == 0 ? 20 + chance.nextInt(7) : chance.nextInt(5);
        for (int k = 0; k < lines; k++) {
            int place = chance.nextInt(40) == 0 ? 11 : chance.nextInt(model.places.size());
            text.append("at ").append(place).append(" wait ").append(1 + chance.nextInt(chance.nextInt(20) == 0 ? 62 : 9));
            text.append(" when ").append(lines > 10 ? part(9) : expression(0)).append(chance.nextBoolean() ? ";" : " ;\n");
        }
        return text.toString();
    }

    private String expression(int depth) {
        String test = sum(depth);
        int which = chance.nextInt(3);
        if (which > 0) {
            test += (which == 1 ? "<" : " = ") + sum(depth);
        }
        return chance.nextInt(4) == 0 ? test + " and " + expression(depth) : test;
    }

    private String sum(int depth) {
        String part = part(depth);
        return chance.nextInt(3) == 0 ? part + (chance.nextBoolean() ? "+" : " - ") + sum(depth) : part;
    }

    private String part(int depth) {
        switch (chance.nextInt(depth > 6 ? 9 : 11)) {
            case 0: case 1: return "" + chance.nextInt(chance.nextInt(10) == 0 ? 12000 : 6);
            case 2: return "up";
            case 3: return "people";
            case 4: return "things";
            case 5: return "late";
            case 6: return "last";
            case 7: return "hour";
            case 8: return "train " + chance.nextInt(chance.nextInt(20) == 0 ? 9 : 8);
            default: return "(" + expression(depth + 1) + ")";
        }
    }

    private String broken(String text) {
        String signs = "()<=+-;? \nazt09andwhenup";
        StringBuilder builder = new StringBuilder(text);
        int at = chance.nextInt(text.length() + 1);
        if (chance.nextBoolean() && at < text.length()) {
            builder.deleteCharAt(at);
        } else {
            builder.insert(at, signs.charAt(chance.nextInt(signs.length())));
        }
        return builder.toString();
    }

    private static final class Place {
        int minutesFromTheLast;
        boolean passing;
    }

    private static final class Load {
        int number;
        int kind;
        int from;
        int to;
        int minute;
        int state;
        Run run;
        int out;
        int paid;
    }

    private static final class Run {
        int number;
        boolean up;
        int minute;
        int seats;
        int room;
        int state;
        int place = -1;
        int left;
        int over;
        int since;
        int coins;
        List<Load> inside = new ArrayList<>();

        int howMany(boolean persons) {
            return (int) inside.stream().filter(load -> (load.kind == 0) == persons).count();
        }

        int stretch() {
            return Math.min(place, place + (up ? 1 : -1));
        }
    }

    /** The fault of a text, thrown by the model's reader at the first wrong token. */
    private static final class Fault extends RuntimeException {
        private static final long serialVersionUID = 1L;
        final int kind;

        Fault(int kind) {
            this.kind = kind;
        }
    }

    private static final class Model {
        final List<Place> places = new ArrayList<>();
        final List<Run> runs = new ArrayList<>();
        final List<Load> loads = new ArrayList<>();
        final List<int[]> snows = new ArrayList<>();
        final int[][] trains = new int[8][];
        final List<java.util.function.Consumer<Model>> told = new ArrayList<>();
        String tape = "";
        String rules = "";
        int lines;
        int now;
        int takes = -1;

        Model() {
            places.add(new Place());
        }

        int place(int minutes, boolean passing) {
            if (minutes < 1 || minutes > 30 || places.size() == 10 || runs.size() + loads.size() > 0) {
                return -1;
            }
            told.add(m -> m.place(minutes, passing));
            Place place = new Place();
            place.minutesFromTheLast = minutes;
            place.passing = passing;
            places.add(place);
            return places.size() - 1;
        }

        int run(boolean up, int minute, int seats, int room) {
            if (places.size() == 1 || runs.size() == 12 || minute <= now || minute > 400 || seats < 1 || seats > 40
                || room < 0 || room > 40) {
                return -1;
            }
            told.add(m -> m.run(up, minute, seats, room));
            Run run = new Run();
            run.number = runs.size();
            run.up = up;
            run.minute = minute;
            run.seats = seats;
            run.room = room;
            runs.add(run);
            return run.number;
        }

        int load(int kind, int from, int to, int minute) {
            if (kind < 0 || kind > 2 || from < 0 || to < 0 || from >= places.size() || to >= places.size() || from == to
                || minute < 0 || minute > 600 || loads.size() == 80) {
                return -1;
            }
            told.add(m -> m.load(kind, from, to, minute));
            Load load = new Load();
            load.number = loads.size();
            load.kind = kind;
            load.from = from;
            load.to = to;
            load.minute = minute;
            loads.add(load);
            return load.number;
        }

        boolean train(int k, int place, int minute) {
            if (k < 0 || k > 7 || place < 0 || place >= places.size() || minute < 0 || minute > 600) {
                return false;
            }
            told.add(m -> m.train(k, place, minute));
            trains[k] = new int[] {place, minute};
            return true;
        }

        boolean snow(int stretch, int low, int high) {
            if (stretch < 0 || stretch > places.size() - 2 || low < 1 || high < low || snows.size() == 20) {
                return false;
            }
            told.add(m -> m.snow(stretch, low, high));
            snows.add(new int[] {stretch, low, high});
            return true;
        }

        int feed(String text) {
            tape += text;
            tape = tape.substring(0, Math.min(800, tape.length()));
            return tape.length();
        }

        boolean shift(int run, int minute) {
            if (run < 0 || run >= runs.size() || runs.get(run).state != 0 || minute <= now || minute > 400) {
                return false;
            }
            told.add(m -> m.shift(run, minute));
            runs.get(run).minute = minute;
            return true;
        }

        int best(int run, int low, int high) {
            if (run < 0 || run >= runs.size() || runs.get(run).state != 0 || low <= now || high <= now || low > 400
                || high > 400 || high - low + 1 > 5) {
                return -1;
            }
            int best = -1;
            int least = Integer.MAX_VALUE;
            for (int minute = low; minute <= high; minute++) {
                Model other = new Model();
                told.forEach(call -> call.accept(other));
                other.shift(run, minute);
                while (other.now < 600 && other.runs.get(run).state != 3) {
                    other.minute();
                }
                int needed = other.now - minute;
                if (other.runs.get(run).state == 3 && needed < least) {
                    least = needed;
                    best = minute;
                }
            }
            takes = best == -1 ? takes : least;
            return best;
        }

        int minutes(int n) {
            if (n < 0 || n > 200 || now + n > 600) {
                return -1;
            }
            told.add(m -> m.minutes(n));
            for (int k = 0; k < n; k++) {
                minute();
            }
            return now;
        }

        int count(int what) {
            switch (what) {
                case 0: return places.size();
                case 1: return runs.size();
                case 2: return loads.size();
                case 3: return now;
                case 4: return (int) runs.stream().filter(run -> run.state == 3).count();
                case 5: return (int) loads.stream().filter(load -> load.state == 2).count();
                case 6: return (int) loads.stream().filter(load -> load.state == 0 && load.minute <= now).count();
                case 7: return loads.stream().mapToInt(load -> load.paid).sum();
                case 8: return lines;
                default: return tape.length();
            }
        }

        int look(int number, int what) {
            Run run = runs.get(number);
            int[] all = {run.state, run.place, run.left, run.howMany(true), run.howMany(false), run.coins, run.over,
                run.minute, run.up ? 1 : 0, run.state == 1 ? run.since : 0};
            return all[what];
        }

        int lies(int number, int what) {
            Load load = loads.get(number);
            int[] all = {load.state, load.run == null ? -1 : load.run.number, load.out, load.paid};
            return all[what];
        }

        boolean isShut(int stretch) {
            return snows.stream().anyMatch(row -> row[0] == stretch && row[1] <= now && now <= row[2]);
        }

        boolean isPassing(int place) {
            return place == 0 || place == places.size() - 1 || places.get(place).passing;
        }

        void minute() {
            now++;
            for (Run run : runs) {
                if (run.state == 2 && --run.left == 0) {
                    arrive(run);
                }
            }
            for (Run run : runs) {
                if (run.state == 0 && run.minute <= now) {
                    run.state = 1;
                    run.place = run.up ? 0 : places.size() - 1;
                    run.since = now;
                }
            }
            for (Run run : runs) {
                if (run.state == 1) {
                    take(run);
                    if (mayLeave(run)) {
                        run.state = 2;
                        run.left = places.get(run.stretch() + 1).minutesFromTheLast;
                    }
                }
            }
        }

        void arrive(Run run) {
            run.place += run.up ? 1 : -1;
            run.since = now;
            for (Load load : run.inside) {
                if (load.to == run.place) {
                    load.state = 2;
                    load.out = now;
                }
            }
            run.inside.removeIf(load -> load.state == 2);
            boolean end = run.place == (run.up ? places.size() - 1 : 0);
            run.state = end ? 3 : 1;
            run.over = end ? now : 0;
        }

        void take(Run run) {
            List<Load> here = new ArrayList<>(loads);
            here.removeIf(load -> load.state != 0 || load.from != run.place || load.minute > now
                || run.up != load.to > load.from);
            here.sort(Comparator.<Load>comparingInt(load -> load.kind == 0 ? 0 : 1)
                .thenComparingInt(load -> load.kind == 0 ? load.minute : -Math.abs(load.to - load.from))
                .thenComparingInt(load -> load.number));
            for (Load load : here) {
                boolean person = load.kind == 0;
                if (run.howMany(person) < (person ? run.seats : run.room)) {
                    int stretches = Math.abs(load.to - load.from);
                    load.paid = person ? 2 + stretches : load.kind == 1 ? 1 : stretches / 2 + stretches % 2;
                    load.state = 1;
                    load.run = run;
                    run.coins += load.paid;
                    run.inside.add(load);
                }
            }
        }

        boolean mayLeave(Run run) {
            int stretch = run.stretch();
            if (run.since == now || isShut(stretch)) {
                return false;
            }
            int next = run.place + (run.up ? 1 : -1);
            for (Run other : runs) {
                if (other.state == 2 && other.stretch() == stretch) {
                    return false;
                }
                if (other.state == 1 && other.place == next && !isPassing(next)) {
                    return false;
                }
                if (other.up != run.up && (other.state == 2 && sameBlock(stretch, other.stretch())
                    || other.state == 1 && !isPassing(other.place) && sameBlock(stretch, other.place))) {
                    return false;
                }
            }
            return !new Text(this, rules, run).holds();
        }

        /** Both STRETCHES lie in one BLOCK; a narrow PLACE lies in that of the STRETCH above it. */
        boolean sameBlock(int a, int b) {
            for (int place = Math.min(a, b) + 1; place <= Math.max(a, b); place++) {
                if (isPassing(place)) {
                    return false;
                }
            }
            return true;
        }

        int text() {
            String text = tape;
            tape = "";
            Text reader = new Text(this, text, null);
            try {
                int found = reader.lines();
                lines = found;
                rules = text;
                told.add(m -> m.rules = text);
                return 0;
            } catch (Fault fault) {
                return fault.kind + 16 * reader.start;
            }
        }
    }

    /** Reads a text sign by sign, and works out at once what it says for a run (or, without one, nothing). */
    private static final class Text {
        final Model model;
        final String text;
        final Run run;
        int start;
        int end;
        boolean held;

        Text(Model model, String text, Run run) {
            this.model = model;
            this.text = text;
            this.run = run;
            next();
        }

        boolean holds() {
            lines();
            return held;
        }

        String token() {
            return text.substring(start, end);
        }

        void next() {
            start = end;
            while (start < text.length() && " \n".indexOf(text.charAt(start)) >= 0) {
                start++;
            }
            end = start;
            if (start == text.length()) {
                return;
            }
            String rest = text.substring(start);
            String word = rest.replaceAll("(?s)^([a-z]+|[0-9]+|.).*$", "$1");
            end += word.length();
        }

        void expect(String token) {
            if (!token().equals(token)) {
                throw new Fault(1);
            }
            next();
        }

        int number(int low, int high) {
            if (!token().matches("[0-9]{1,4}")) {
                throw new Fault(1);
            }
            int number = Integer.parseInt(token());
            if (number < low || number > high) {
                throw new Fault(4);
            }
            next();
            return number;
        }

        int lines() {
            int lines = 0;
            while (!token().isEmpty()) {
                if (token().equals("at") && lines == 24) {
                    throw new Fault(5);
                }
                expect("at");
                int place = number(0, model.places.size() - 1);
                expect("wait");
                int wait = number(1, 60);
                expect("when");
                int value = expression(0);
                expect(";");
                lines++;
                held |= run != null && run.place == place && model.now - run.since < wait && value != 0;
            }
            return lines;
        }

        int expression(int depth) {
            int value = test(depth);
            while (token().equals("and")) {
                next();
                int right = test(depth);
                value = value != 0 && right != 0 ? 1 : 0;
            }
            return value;
        }

        int test(int depth) {
            int left = sum(depth);
            if (token().equals("<")) {
                next();
                return left < sum(depth) ? 1 : 0;
            }
            if (token().equals("=")) {
                next();
                return left == sum(depth) ? 1 : 0;
            }
            return left;
        }

        int sum(int depth) {
            int value = part(depth);
            while (token().equals("+") || token().equals("-")) {
                int sign = token().equals("+") ? 1 : -1;
                next();
                value += sign * part(depth);
            }
            return value;
        }

        int part(int depth) {
            String token = token();
            if (!token.matches("[0-9]{1,4}|up|people|things|late|last|hour|train|\\(")) {
                throw new Fault(1);
            }
            if (depth == 5) {
                throw new Fault(5);
            }
            if (Character.isDigit(token.charAt(0))) {
                return number(0, 9999);
            }
            next();
            if (token.equals("(")) {
                int value = expression(depth + 1);
                expect(")");
                return value;
            }
            int k = token.equals("train") ? number(0, 7) : 0;
            return run == null ? 0 : fact(token, k);
        }

        int fact(String word, int k) {
            switch (word) {
                case "up": return run.up ? 1 : 0;
                case "people": return run.howMany(true);
                case "things": return run.howMany(false);
                case "hour": return model.now / 60 % 24;
                case "last": return model.runs.stream().anyMatch(r -> r != run && r.up == run.up && r.state == 0) ? 0 : 1;
                case "late": {
                    int late = model.now - run.minute;
                    for (int place = run.up ? 0 : model.places.size() - 1; place != run.place; place += run.up ? 1 : -1) {
                        late -= 1 + model.places.get(run.up ? place + 1 : place).minutesFromTheLast;
                    }
                    return late;
                }
                default: {
                    int[] train = model.trains[k];
                    return train == null || train[0] != run.place ? 999 : Math.max(0, train[1] - model.now);
                }
            }
        }
    }
}
