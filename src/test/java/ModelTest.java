import java.math.BigInteger;
import java.util.ArrayList;
import java.util.List;
import java.util.Map;
import java.util.TreeMap;
import java.util.regex.Matcher;
import java.util.regex.Pattern;

/**
 * Long runs of drawn calls, each answered by SlideLand and by a slow model that is written straight
 * from the document's words, in other ways than SlideLand. The draws are always the same.
 */
public final class ModelTest {
    private static int wrong = 0;

    public static void main(String[] args) {
        for (int run = 0; run < 500 && wrong == 0; run++) {
            new Run(run).go();
        }
        System.out.println(wrong == 0 ? "ModelTest: all answers are as due" : "ModelTest: some answers are not as due");
        if (wrong != 0) {
            System.exit(1);
        }
    }

    /** One object's calls. */
    private static final class Run {
        final int number;
        long seed;
        final SlideLand program = new SlideLand();
        final Model model = new Model();
        final List<String> calls = new ArrayList<>();

        Run(int number) {
            this.number = number;
            this.seed = 77777L * number + 13;
        }

        int draw(int below) {
            seed = seed * 6364136223846793005L + 1442695040888963407L;
            return (int) ((seed >>> 33) % below);
        }

        void due(String call, long got, long want) {
            calls.add(call + " = " + got);
            if (got != want && wrong == 0) {
                wrong++;
                System.out.println("run " + number + ": " + calls);
                System.out.println(call + " answered " + got + ", due is " + want);
            }
        }

        void go() {
            if (number % 5 != 0) {
                writeText(drawnText());
                due("lay()", program.lay(), model.lay());
            }
            // No object is used for more than 512 calls.
            while (calls.size() < 500 && wrong == 0) {
                step(draw(40));
            }
            // What comes behind an act is looked at whole now and then.
            due("count(9)", program.count(9), model.count(9));
        }

        String drawnText() {
            int spread = draw(3) == 0 ? 61 : 6 + draw(12);
            StringBuilder s = new StringBuilder();
            int items = 4 + draw(22);
            for (int i = 0; i < items && s.length() < 190; i++) {
                switch (draw(8)) {
                    case 0, 1 -> s.append('u').append(draw(spread)).append(';');
                    case 2, 3 -> s.append('l').append(draw(spread)).append(';');
                    case 4, 5 -> s.append('s').append(draw(4)).append(',').append(draw(spread)).append(',')
                            .append(draw(3) == 0 ? draw(100) : draw(5)).append(';');
                    case 6 -> s.append('p').append(1 + draw(draw(2) == 0 ? 20 : 4)).append(';');
                    default -> s.append('d').append(draw(4)).append(';');
                }
            }
            s.append("s").append(draw(4)).append(",").append(draw(spread)).append(",07;p02;");
            if (draw(8) == 0) {
                String odd = "uslpd;,0679 xU-";
                s.setCharAt(draw(s.length()), odd.charAt(draw(odd.length())));
            }
            return s.toString();
        }

        void writeText(String s) {
            due("wipe()", program.wipe(), model.wipe());
            for (int i = 0; i < s.length(); i++) {
                due("write(" + (int) s.charAt(i) + ")", program.write(s.charAt(i)), model.write(s.charAt(i)));
            }
            due("fault()", program.fault(), model.fault());
        }

        /** A number that is mostly told, and now and then one beyond. */
        int near(int least, int most) {
            int d = draw(25);
            if (d == 0) {
                return least - 1;
            }
            return d == 1 ? most + 1 : least + draw(most - least + 1);
        }

        int aStrip() {
            return near(0, model.count(2) - 1);
        }

        int aOne(int land) {
            return near(0, Math.max(0, model.count(land == 1 ? 1 : 0) - 1));
        }

        void step(int which) {
            int a;
            int b;
            int c;
            int d;
            int e;
            switch (which) {
                case 0, 1, 2, 3 -> {
                    a = near(0, model.count(3) - 1);
                    b = near(0, 1);
                    due("push(" + a + ", " + b + ")", program.push(a, b), model.push(a, b));
                }
                case 4 -> {
                    a = draw(2) == 0 ? draw(3) : near(0, 9);
                    due("chalk(" + a + ")", program.chalk(a), model.chalk(a));
                }
                case 5, 6 -> {
                    a = draw(3) == 0 ? near(1, 20) : 1;
                    due("pass(" + a + ")", program.pass(a), model.pass(a));
                }
                case 7, 8, 9 -> {
                    a = draw(20) == 0 ? near(-99, 99) : draw(3) == 0 ? draw(61) : model.someInch(draw(12));
                    due("line(" + a + ")", program.line(a), model.line(a));
                }
                case 10 -> due("undo()", program.undo(), model.undo());
                case 11 -> due("keep()", program.keep(), model.keep());
                case 12 -> {
                    if (draw(2) == 0) {
                        due("back()", program.back(), model.back());
                    }
                }
                case 13, 14, 15 -> {
                    int[] pair = model.somePair(draw(81), draw(7));
                    a = draw(3) == 0 ? aStrip() : pair[0];
                    b = draw(3) == 0 ? near(0, 1) : pair[1];
                    c = draw(3) == 0 ? aOne(b) : pair[2];
                    due("ask(" + a + ", " + b + ", " + c + ")", program.ask(a, b, c), model.ask(a, b, c));
                }
                case 16 -> due("forget()", program.forget(), model.forget());
                case 17, 18, 19 -> {
                    for (a = -1; a < 4; a++) {
                        due("meeting(" + a + ")", program.meeting(a), model.meeting(a));
                    }
                    a = near(-1, 9);
                    due("meeting(" + a + ")", program.meeting(a), model.meeting(a));
                }
                case 20, 21 -> {
                    a = near(0, 1);
                    due("shifts(" + a + ")", program.shifts(a), model.shifts(a));
                }
                case 22 -> {
                    a = near(0, 1);
                    due("most(" + a + ")", program.most(a), model.most(a));
                }
                case 23 -> {
                    a = near(0, 1);
                    due("hut(" + a + ")", program.hut(a), model.hut(a));
                }
                case 24 -> {
                    a = near(0, 40);
                    b = aStrip();
                    due("behind(" + a + ", " + b + ")", program.behind(a, b), model.behind(a, b));
                }
                case 25 -> {
                    a = near(1, 20);
                    b = near(0, 1);
                    due("worth(" + a + ", " + b + ")", program.worth(a, b), model.worth(a, b));
                }
                case 26, 27 -> {
                    a = near(0, 1);
                    due("tells(" + a + ")", program.tells(a), model.tells(a));
                }
                case 28, 29 -> {
                    a = near(0, model.count(3) - 1);
                    b = near(0, 1);
                    c = near(0, 8);
                    d = near(0, 10);
                    e = near(0, 1);
                    due("slips(" + a + ", " + b + ", " + c + ", " + d + ", " + e + ")",
                            program.slips(a, b, c, d, e), model.slips(a, b, c, d, e));
                }
                case 30, 31 -> {
                    a = near(0, 9999);
                    b = near(1, 60);
                    c = near(0, 1);
                    due("century(" + a + ", " + b + ", " + c + ")", program.century(a, b, c), model.century(a, b, c));
                }
                case 32, 33 -> {
                    a = aStrip();
                    b = near(0, 4);
                    due("strip(" + a + ", " + b + ")", program.strip(a, b), model.strip(a, b));
                    due("against(" + a + ")", program.against(a), model.against(a));
                }
                case 34, 35 -> {
                    a = near(0, 1);
                    b = aOne(a);
                    c = near(0, 2);
                    due("land(" + a + ", " + b + ", " + c + ")", program.land(a, b, c), model.land(a, b, c));
                }
                case 36 -> {
                    a = near(0, model.count(3) - 1);
                    due("inches(" + a + ")", program.inches(a), model.inches(a));
                    a = near(0, 99);
                    due("damp(" + a + ")", program.damp(a), model.damp(a));
                }
                case 37, 38 -> {
                    a = near(0, 13);
                    due("count(" + a + ")", program.count(a), model.count(a));
                }
                default -> rareStep();
            }
        }

        void rareStep() {
            switch (draw(6)) {
                case 0 -> due("lay()", program.lay(), model.lay());
                case 1 -> due("wipe()", program.wipe(), model.wipe());
                case 2 -> {
                    int letter = near(32, 126);
                    due("write(" + letter + ")", program.write(letter), model.write(letter));
                }
                case 3 -> due("fault()", program.fault(), model.fault());
                case 4 -> {
                    String more = new String[] {"u1;", "l60;", "s1,2,3;", "p20;", "d3;", "d4;", "s2,5", "u7"}[draw(8)];
                    for (int i = 0; i < more.length(); i++) {
                        due("write(" + (int) more.charAt(i) + ")",
                                program.write(more.charAt(i)), model.write(more.charAt(i)));
                    }
                    due("fault()", program.fault(), model.fault());
                }
                default -> {
                    // Towards the last YEAR.
                    for (int i = 0; i < 25; i++) {
                        due("pass(20)", program.pass(20), model.pass(20));
                    }
                }
            }
        }
    }

    private static final class Person {
        final int inch;
        int has;
        boolean wed;

        Person(int inch) {
            this.inch = inch;
        }

        Person same() {
            Person p = new Person(inch);
            p.has = has;
            p.wed = wed;
            return p;
        }
    }

    private static final class Stripling {
        final int kind;
        final int inch;
        int goods;
        boolean wed;

        Stripling(int kind, int inch, int goods) {
            this.kind = kind;
            this.inch = inch;
            this.goods = goods;
        }

        Stripling same() {
            Stripling s = new Stripling(kind, inch, goods);
            s.wed = wed;
            return s;
        }
    }

    /** All as it stands. */
    private static final class World {
        final List<List<Person>> lands = List.of(new ArrayList<>(), new ArrayList<>());
        final List<Stripling> strip = new ArrayList<>();
        final List<Integer> pushes = new ArrayList<>();
        final List<Integer> damps = new ArrayList<>();
        int shift;
        int before;
        int chalk;
        int year;

        World same() {
            World w = new World();
            for (int land = 0; land < 2; land++) {
                for (Person p : lands.get(land)) {
                    w.lands.get(land).add(p.same());
                }
            }
            for (Stripling s : strip) {
                w.strip.add(s.same());
            }
            w.pushes.addAll(pushes);
            w.damps.addAll(damps);
            w.shift = shift;
            w.before = before;
            w.chalk = chalk;
            w.year = year;
            return w;
        }

        int damp(int atYear) {
            return damps.isEmpty() ? 0 : damps.get(atYear % damps.size());
        }

        int place(int s) {
            Stripling one = strip.get(s);
            int damped = one.inch * damp(year) / 10;
            return one.inch + damped + (one.kind == 3 ? before : shift);
        }

        boolean against(int s, int land, int k) {
            int gap = place(s) - lands.get(land).get(k).inch;
            return switch (strip.get(s).kind) {
                case 1 -> Math.abs(gap) <= 1;
                case 2 -> gap == 0 || gap == 2;
                default -> gap == 0;
            };
        }

        int pairs() {
            int n = 0;
            for (int s = 0; s < strip.size(); s++) {
                for (int land = 0; land < 2; land++) {
                    for (int k = 0; k < lands.get(land).size(); k++) {
                        n += against(s, land, k) ? 1 : 0;
                    }
                }
            }
            return n;
        }

        void push(int p, int left) {
            int by = pushes.get(p) - chalk;
            if (by < 0) {
                by = 0;
            }
            before = shift;
            shift += left == 1 ? -by : by;
            if (shift > 40) {
                shift = 40;
            }
            if (shift < -40) {
                shift = -40;
            }
            if (chalk > 0) {
                chalk--;
            }
        }

        void year() {
            for (int s = 0; s < strip.size(); s++) {
                Stripling one = strip.get(s);
                boolean[] met = new boolean[2];
                for (int land = 0; land < 2; land++) {
                    for (int k = 0; k < lands.get(land).size(); k++) {
                        if (against(s, land, k)) {
                            met[land] = true;
                            if (one.goods > 0) {
                                one.goods--;
                                lands.get(land).get(k).has++;
                            }
                        }
                    }
                }
                if (met[0] && met[1]) {
                    one.goods = Math.min(99, one.goods + 3);
                }
            }
            year++;
        }

        boolean line(int x) {
            Person[] person = new Person[2];
            for (int land = 0; land < 2; land++) {
                for (Person p : lands.get(land)) {
                    if (p.inch == x && !p.wed && person[land] == null) {
                        person[land] = p;
                    }
                }
            }
            Stripling between = null;
            for (int s = 0; s < strip.size(); s++) {
                if (place(s) == x && !strip.get(s).wed && between == null) {
                    between = strip.get(s);
                }
            }
            if (person[0] != null && between != null) {
                person[0].wed = true;
                between.wed = true;
            } else if (between != null && person[1] != null) {
                between.wed = true;
                person[1].wed = true;
            } else if (person[0] != null && person[1] != null) {
                person[0].wed = true;
                person[1].wed = true;
            } else {
                return false;
            }
            return true;
        }

        int goods() {
            return strip.stream().mapToInt(s -> s.goods).sum();
        }

        int wed() {
            int n = 0;
            for (List<Person> land : lands) {
                for (Person p : land) {
                    n += p.wed ? 1 : 0;
                }
            }
            for (Stripling s : strip) {
                n += s.wed ? 1 : 0;
            }
            return n;
        }
    }

    private static final class Model {
        String text = "";
        World world;
        List<World> past = new ArrayList<>();
        List<World> kept = new ArrayList<>();
        List<int[]> asked = new ArrayList<>();

        Model() {
            text = "u3;u12;u20;u33;u47;l0;l9;l21;l40;l55;s0,5,10;s1,11,4;s2,18,7;s3,30,12;s0,41,3;p1;p7;d0;d0;d1;d2;";
            lay();
            text = "";
        }

        int write(int letter) {
            if (letter < 32 || letter > 126) {
                return -1;
            }
            if (text.length() == 200) {
                return -3;
            }
            text += (char) letter;
            return text.length();
        }

        int wipe() {
            int n = text.length();
            text = "";
            return n;
        }

        int fault() {
            return read(new World());
        }

        int read(World w) {
            Pattern form = Pattern.compile("([ulpd])(\\d{1,2});|(s)(\\d{1,2}),(\\d{1,2}),(\\d{1,2});");
            Matcher m = form.matcher(text);
            int at = 0;
            while (at < text.length()) {
                m.region(at, text.length());
                if (!m.lookingAt() || !told(w, m)) {
                    return at;
                }
                at = m.end();
            }
            return -4;
        }

        boolean told(World w, Matcher m) {
            if (m.group(3) != null) {
                int kind = Integer.parseInt(m.group(4));
                int inch = Integer.parseInt(m.group(5));
                if (w.strip.size() == 7 || kind > 3 || inch > 60) {
                    return false;
                }
                return w.strip.add(new Stripling(kind, inch, Integer.parseInt(m.group(6))));
            }
            int x = Integer.parseInt(m.group(2));
            return switch (m.group(1)) {
                case "u" -> x <= 60 && w.lands.get(0).size() < 6 && w.lands.get(0).add(new Person(x));
                case "l" -> x <= 60 && w.lands.get(1).size() < 6 && w.lands.get(1).add(new Person(x));
                case "p" -> x >= 1 && x <= 20 && w.pushes.size() < 4 && w.pushes.add(x);
                default -> x <= 3 && w.damps.size() < 8 && w.damps.add(x);
            };
        }

        int lay() {
            World w = new World();
            if (read(w) != -4 || w.strip.isEmpty() || w.pushes.isEmpty()) {
                return -2;
            }
            world = w;
            past.clear();
            kept.clear();
            asked.clear();
            return w.strip.size();
        }

        boolean isOne(int land, int k) {
            return land >= 0 && land <= 1 && k >= 0 && k < world.lands.get(land).size();
        }

        boolean isStrip(int s) {
            return s >= 0 && s < world.strip.size();
        }

        boolean isPush(int p, int way) {
            return p >= 0 && p < world.pushes.size() && (way == 0 || way == 1);
        }

        int land(int land, int k, int what) {
            if (!isOne(land, k) || what < 0 || what > 2) {
                return -1;
            }
            Person p = world.lands.get(land).get(k);
            return what == 0 ? p.inch : what == 1 ? p.has : p.wed ? 1 : 0;
        }

        int strip(int s, int what) {
            if (!isStrip(s) || what < 0 || what > 4) {
                return -1;
            }
            Stripling one = world.strip.get(s);
            return new int[] {one.kind, one.inch, one.goods, world.place(s) + 100, one.wed ? 1 : 0}[what];
        }

        int inches(int p) {
            return isPush(p, 0) ? world.pushes.get(p) : -1;
        }

        int damp(int n) {
            return n >= 0 && n <= 99 ? world.damp(world.year + n) : -1;
        }

        int against(int s) {
            if (!isStrip(s)) {
                return -1;
            }
            int bits = 0;
            for (int land = 0; land < 2; land++) {
                for (int k = 0; k < world.lands.get(land).size(); k++) {
                    if (world.against(s, land, k)) {
                        bits += 1 << (6 * land + k);
                    }
                }
            }
            return bits;
        }

        void remember() {
            past.add(world.same());
            if (past.size() > 8) {
                past.remove(0);
            }
        }

        int push(int p, int way) {
            if (!isPush(p, way)) {
                return -1;
            }
            remember();
            world.push(p, way);
            return world.shift + 40;
        }

        int chalk(int c) {
            if (c < 0 || c > 9) {
                return -1;
            }
            remember();
            int was = world.chalk;
            world.chalk = c;
            return was;
        }

        int pass(int n) {
            if (n < 1 || n > 20) {
                return -1;
            }
            if (world.year + n > 999) {
                return -2;
            }
            remember();
            for (int i = 0; i < n; i++) {
                world.year();
            }
            return world.year;
        }

        int line(int x) {
            if (x < -99 || x > 99) {
                return -1;
            }
            if (!world.same().line(x)) {
                return -2;
            }
            remember();
            world.line(x);
            return world.wed();
        }

        int undo() {
            if (past.isEmpty()) {
                return -2;
            }
            world = past.remove(past.size() - 1);
            return past.size();
        }

        int ask(int s, int land, int k) {
            if (!isStrip(s) || !isOne(land, k)) {
                return -1;
            }
            if (asked.size() == 6) {
                return -3;
            }
            asked.add(new int[] {s, land, k});
            return asked.size();
        }

        int forget() {
            int n = asked.size();
            asked.clear();
            return n;
        }

        boolean allSo(World w) {
            for (int[] a : asked) {
                if (!w.against(a[0], a[1], a[2])) {
                    return false;
                }
            }
            return true;
        }

        /** All rows of a length, but of those that come to stand alike only the first. */
        String row() {
            Map<String, World> level = new TreeMap<>();
            World start = world.same();
            start.chalk = 0;
            level.put("", start);
            for (int length = 0; length <= 9; length++) {
                // The keys are told in order: the first that will do is the first of all.
                for (Map.Entry<String, World> e : level.entrySet()) {
                    if (allSo(e.getValue())) {
                        return e.getKey();
                    }
                }
                Map<String, World> next = new TreeMap<>();
                java.util.Set<Integer> alike = new java.util.HashSet<>();
                for (Map.Entry<String, World> e : level.entrySet()) {
                    for (int move = 0; move < 2 * world.pushes.size(); move++) {
                        World w = new World();
                        World o = e.getValue();
                        w.lands.get(0).addAll(o.lands.get(0));
                        w.lands.get(1).addAll(o.lands.get(1));
                        w.strip.addAll(o.strip);
                        w.pushes.addAll(o.pushes);
                        w.damps.addAll(o.damps);
                        w.shift = o.shift;
                        w.before = o.before;
                        w.year = o.year;
                        w.push(move / 2, move % 2);
                        if (alike.add(1000 * w.shift + w.before)) {
                            next.put(e.getKey() + move, w);
                        }
                    }
                }
                level = next;
            }
            return null;
        }

        int meeting(int k) {
            if (k < -1) {
                return -1;
            }
            String row = row();
            if (row == null) {
                return -4;
            }
            if (k == -1) {
                return row.length();
            }
            if (k >= row.length()) {
                return -4;
            }
            int move = row.charAt(k) - '0';
            return 10 * (move / 2) + move % 2;
        }

        List<World> worlds() {
            List<World> all = new ArrayList<>();
            for (int shift = -40; shift <= 40; shift++) {
                World w = world.same();
                w.shift = shift;
                w.before = shift;
                all.add(w);
            }
            return all;
        }

        List<World> worldsSo() {
            List<World> all = worlds();
            all.removeIf(w -> !allSo(w));
            return all;
        }

        int shifts(int what) {
            if (what < 0 || what > 1) {
                return -1;
            }
            List<World> so = worldsSo();
            return what == 0 ? so.size() : so.isEmpty() ? -4 : so.get(0).shift + 40;
        }

        int most(int what) {
            if (what < 0 || what > 1) {
                return -1;
            }
            World best = null;
            for (World w : worlds()) {
                if (best == null || w.pairs() > best.pairs()) {
                    best = w;
                }
            }
            return what == 0 ? best.pairs() : best.shift + 40;
        }

        int hut(int what) {
            if (what < 0 || what > 1) {
                return -1;
            }
            int best = -1;
            int where = -1;
            for (int inch = 0; inch <= 60; inch++) {
                int n = 0;
                for (int shift = -40; shift <= 40; shift++) {
                    for (List<Person> land : world.lands) {
                        for (Person p : land) {
                            n += inch + inch * world.damp(world.year) / 10 + shift == p.inch ? 1 : 0;
                        }
                    }
                }
                if (n > best) {
                    best = n;
                    where = inch;
                }
            }
            return what == 0 ? best : where;
        }

        int behind(int n, int s) {
            if (n < 0 || n > 40 || !isStrip(s)) {
                return -1;
            }
            World w = world.same();
            for (int i = 0; i < n; i++) {
                w.year();
            }
            return w.strip.get(s).goods;
        }

        int worth(int n, int what) {
            if (n < 1 || n > 20 || what < 0 || what > 1) {
                return -1;
            }
            int best = -1;
            int which = -1;
            for (int move = -1; move < 2 * world.pushes.size(); move++) {
                World w = world.same();
                if (move >= 0) {
                    w.push(move / 2, move % 2);
                }
                for (int i = 0; i < n; i++) {
                    w.year();
                }
                if (w.goods() > best) {
                    best = w.goods();
                    which = move < 0 ? 99 : move / 2 * 10 + move % 2;
                }
            }
            return what == 0 ? which : best;
        }

        int tells(int what) {
            if (what < 0 || what > 1) {
                return -1;
            }
            List<World> so = worldsSo();
            int best = 1000;
            int which = -4;
            for (int s = 0; s < world.strip.size(); s++) {
                for (int land = 0; land < 2; land++) {
                    for (int k = 0; k < world.lands.get(land).size(); k++) {
                        int is = s;
                        int il = land;
                        int ik = k;
                        boolean told = asked.stream().anyMatch(a -> a[0] == is && a[1] == il && a[2] == ik);
                        int met = (int) so.stream().filter(w -> w.against(is, il, ik)).count();
                        int part = Math.max(met, so.size() - met);
                        if (!told && !so.isEmpty() && part < best) {
                            best = part;
                            which = 100 * s + 10 * land + k;
                        }
                    }
                }
            }
            return which == -4 ? -4 : what == 0 ? which : best;
        }

        int slips(int p, int way, int n, int x, int part) {
            if (!isPush(p, way) || n < 0 || n > 8 || x < 0 || x > 10 || part < 0 || part > 1) {
                return -1;
            }
            BigInteger above = BigInteger.ZERO;
            for (int outcome = 0; outcome < 1 << n; outcome++) {
                World w = world.same();
                BigInteger ways = BigInteger.ONE;
                for (int i = 0; i < n; i++) {
                    if ((outcome >> i & 1) == 1) {
                        ways = ways.multiply(BigInteger.valueOf(10 - x));
                        w.push(p, way);
                    } else {
                        ways = ways.multiply(BigInteger.valueOf(x));
                    }
                }
                if (allSo(w)) {
                    above = above.add(ways);
                }
            }
            BigInteger below = BigInteger.TEN.pow(n);
            BigInteger common = above.gcd(below);
            return (part == 0 ? above : below).divide(common).intValueExact();
        }

        int century(int z, int n, int what) {
            if (z < 0 || z > 9999 || n < 1 || n > 60 || what < 0 || what > 1) {
                return -1;
            }
            World w = world.same();
            for (int k = 0; k < n; k++) {
                BigInteger x = BigInteger.valueOf(7919L * z).add(BigInteger.valueOf(6151L * k)).add(BigInteger.ONE);
                int draw = x.multiply(x).mod(BigInteger.valueOf(65521)).intValueExact();
                int kind = draw % 8;
                int by8 = draw / 8;
                if (kind <= 3) {
                    w.push(by8 % w.pushes.size(), draw / 64 % 2);
                } else if (kind == 4) {
                    w.chalk = by8 % 10;
                } else if (kind == 5) {
                    w.line(by8 % 61);
                } else if (w.year < 999) {
                    w.year();
                }
            }
            return what == 0 ? w.goods() : w.wed();
        }

        int keep() {
            if (kept.size() == 2) {
                return -3;
            }
            kept.add(world.same());
            return kept.size();
        }

        int back() {
            if (kept.isEmpty()) {
                return -2;
            }
            world = kept.remove(kept.size() - 1);
            past.clear();
            return kept.size();
        }

        int count(int what) {
            return switch (what) {
                case 0 -> world.lands.get(0).size();
                case 1 -> world.lands.get(1).size();
                case 2 -> world.strip.size();
                case 3 -> world.pushes.size();
                case 4 -> world.year;
                case 5 -> world.shift + 40;
                case 6 -> world.before + 40;
                case 7 -> world.chalk;
                case 8 -> world.wed();
                case 9 -> world.pairs();
                case 10 -> asked.size();
                case 11 -> past.size();
                case 12 -> kept.size();
                case 13 -> text.length();
                default -> -1;
            };
        }

        /** For runs alone: an inch at which somebody is. */
        int someInch(int which) {
            List<Person> land = world.lands.get(which % 2);
            return land.isEmpty() ? 0 : land.get(which / 2 % land.size()).inch;
        }

        /** For runs alone: a pair that is AGAINST one another at some SHIFT, if a look round it finds one. */
        int[] somePair(int around, int whose) {
            int s = whose % world.strip.size();
            World w = world.same();
            for (int i = 0; i < 81; i++) {
                w.shift = (around + i) % 81 - 40;
                w.before = w.shift;
                for (int land = 0; land < 2; land++) {
                    for (int k = 0; k < w.lands.get(land).size(); k++) {
                        if (w.against(s, land, k)) {
                            return new int[] {s, land, k};
                        }
                    }
                }
            }
            return new int[] {0, 0, 0};
        }
    }
}
