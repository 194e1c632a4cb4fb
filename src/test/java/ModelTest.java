import java.util.ArrayList;
import java.util.List;
import java.util.NoSuchElementException;
import java.util.Random;
import java.util.function.LongSupplier;

/** Runs of calls by chance, from fixed seeds, with the answers of the model as what is due. */
public final class ModelTest {
    private static final int RUNS = 1200;
    private static final String[] SPOILERS = {
        ";", "(", ")", "+", "-", "*", "/", "<", "=", "not", "and", "or", "unless", "grant", "sleep", "pot", "rate",
        "foo", "guests", "7", "1234567", "#", "not not not not not not not", "((((((", "\t", "A",
    };

    private final Random random;
    private final TownTwins twins = new TownTwins();
    private final Model model = new Model();
    private final int seed;
    private final List<String> calls = new ArrayList<>();
    private int left = 512;
    private int wrong = 0;

    private ModelTest(int seed) {
        this.seed = seed;
        this.random = new Random(seed);
    }

    public static void main(String[] args) {
        int wrong = 0;
        int calls = 0;
        for (int seed = 0; seed < RUNS && wrong < 5; seed++) {
            ModelTest test = new ModelTest(seed);
            test.run();
            wrong += test.wrong;
            calls += test.calls.size();
        }
        System.out.println("ModelTest: " + calls + " calls, " + wrong + " answers not as due");
        if (wrong != 0) {
            System.exit(1);
        }
    }

    private static String answer(LongSupplier call) {
        try {
            return Long.toString(call.getAsLong());
        } catch (NoSuchElementException e) {
            return "throws.NoSuchElementException";
        } catch (RuntimeException e) {
            return "throws." + e.getClass().getSimpleName();
        }
    }

    private void same(String call, LongSupplier got, LongSupplier due) {
        if (left-- <= 0 || wrong > 0) {
            return;
        }
        calls.add(call);
        String a = answer(got);
        String b = answer(due);
        if (!a.equals(b)) {
            wrong++;
            System.out.println("seed " + seed + ", call " + calls.size() + ": " + call + " answered " + a
                    + ", due is " + b);
        }
    }

    private int in(int least, int most) {
        return least + random.nextInt(most - least + 1);
    }

    /** Mostly within the bounds, at times at one of them, and now and then beyond. */
    private int near(int least, int most) {
        int dice = random.nextInt(100);
        if (dice < 3) {
            return least - 1;
        }
        if (dice < 6) {
            return most + 1;
        }
        if (dice == 6) {
            return random.nextInt();
        }
        if (dice < 12) {
            return random.nextBoolean() ? least : most;
        }
        return most < least ? least : in(least, most);
    }

    private int known(int many) {
        return random.nextInt(40) == 0 ? near(0, many) : many == 0 ? 0 : random.nextInt(many);
    }

    private void run() {
        int style = seed % 6;
        for (int i = 0; i < 4 + random.nextInt(14) && style != 5; i++) {
            town();
        }
        for (int i = 0; i < 2 + random.nextInt(6) && style != 5; i++) {
            charter();
        }
        while (left > 0 && wrong == 0) {
            switch (random.nextInt(8) == 0 ? random.nextInt(6) : style) {
                case 0:
                    story();
                    break;
                case 1:
                    lodging();
                    break;
                case 2:
                    calendar();
                    break;
                case 3:
                    friends();
                    break;
                case 4:
                    texts();
                    break;
                default:
                    anything();
            }
        }
    }

    private void town() {
        int x = near(0, 999);
        int y = near(0, 999);
        int people = near(1, 9999);
        int tongues = random.nextInt(4) > 0 ? near(1, 255) : near(1, 3);
        same("town(" + x + ", " + y + ", " + people + ", " + tongues + ")",
                () -> twins.town(x, y, people, tongues), () -> model.town(x, y, people, tongues));
    }

    private void charter() {
        int a = known(model.count(1));
        int b = known(model.count(1));
        int day = random.nextInt(3) == 0 ? near(0, 3599) : near(0, 200);
        same("charter(" + a + ", " + b + ", " + day + ")",
                () -> twins.charter(a, b, day), () -> model.charter(a, b, day));
    }

    private void days() {
        int n = random.nextInt(4) == 0 ? near(0, 3599 - model.count(0)) : near(0, 40);
        same("days(" + n + ")", () -> twins.days(n), () -> model.days(n));
    }

    private void event() {
        int kind = random.nextInt(30) == 0 ? near(0, 2) : random.nextInt(12) == 0 ? 0 : in(1, 2);
        int charter = known(Math.min(model.count(2), 5));
        int number = kind == 0 ? (random.nextInt(20) == 0 ? 1 : 0) : near(1, kind == 1 ? 200 : 99999);
        int side = near(0, 1);
        int nights = near(1, 30);
        int young = near(0, Math.max(0, Math.min(number, 200)));
        int today = model.count(0);
        int day = kind == 0 && today > 300 ? near(today - 100, today) : near(Math.max(0, today - 500), today);
        same("event(" + kind + ", " + charter + ", " + number + ", " + side + ", " + nights + ", " + young + ", "
                + day + ")", () -> twins.event(kind, charter, number, side, nights, young, day),
                () -> model.event(kind, charter, number, side, nights, young, day));
    }

    private void back() {
        int event = known(model.count(3));
        same("back(" + event + ")", () -> twins.back(event) ? 1 : 0, () -> model.back(event) ? 1 : 0);
    }

    private int past() {
        int today = model.count(0);
        return random.nextInt(3) > 0 ? today : near(0, today);
    }

    private int someDay() {
        return random.nextInt(3) == 0 ? near(0, 3599) : near(0, model.count(0));
    }

    private void asked() {
        int charter = known(model.count(2));
        int event = known(model.count(3));
        int what = near(0, 4);
        int side = near(0, 1);
        int day = someDay();
        int k = past();
        switch (random.nextInt(3)) {
            case 0:
                same("about(" + charter + ", " + what + ", " + day + ", " + k + ")",
                        () -> twins.about(charter, what, day, k), () -> model.about(charter, what, day, k));
                break;
            case 1:
                same("told(" + event + ", " + what + ", " + k + ")",
                        () -> twins.told(event, what, k), () -> model.told(event, what, k));
                break;
            default:
                same("balance(" + charter + ", " + side + ", " + day + ", " + k + ")",
                        () -> twins.balance(charter, side, day, k), () -> model.balance(charter, side, day, k));
        }
    }

    private void story() {
        int dice = random.nextInt(40);
        if (dice < (seed % 4 == 0 ? 26 : 14)) {
            event();
        } else if (dice < 17) {
            days();
        } else if (dice < 18) {
            back();
        } else if (dice < 19 && random.nextInt(4) == 0) {
            text(rulesByChance(0));
        } else if (dice < 20 && random.nextInt(3) == 0) {
            charter();
        } else {
            asked();
        }
    }

    private void lodging() {
        int tongues = random.nextInt(2) == 0 ? 3 : 255;
        int ages = random.nextInt(2) == 0 ? 1 : random.nextInt(2) == 0 ? 15 : 99;
        same("empty()", () -> {
            twins.empty();
            return 0;
        }, () -> {
            model.empty();
            return 0;
        });
        for (int i = random.nextInt(8); i > 0; i--) {
            int beds = random.nextInt(2) == 0 ? 1 : near(1, 4);
            int spoken = near(0, tongues);
            boolean cats = random.nextInt(3) == 0;
            int age = near(0, ages);
            same("home(" + beds + ", " + spoken + ", " + cats + ", " + age + ")",
                    () -> twins.home(beds, spoken, cats, age), () -> model.home(beds, spoken, cats, age));
        }
        for (int i = random.nextInt(10); i > 0; i--) {
            int spoken = near(0, tongues);
            boolean bears = random.nextBoolean();
            int age = near(0, ages);
            same("guest(" + spoken + ", " + age + ", " + bears + ")",
                    () -> twins.guest(spoken, age, bears), () -> model.guest(spoken, age, bears));
        }
        int someGuest = near(0, 7);
        int someHome = near(0, 5);
        same("liking(" + someGuest + ", " + someHome + ")",
                () -> twins.liking(someGuest, someHome), () -> model.liking(someGuest, someHome));
        if (random.nextInt(8) > 0) {
            same("lodge()", twins::lodge, model::lodge);
        }
        for (int g = -1; g < 8; g++) {
            int guest = g;
            same("lodged(" + guest + ")", () -> twins.lodged(guest), () -> model.lodged(guest));
        }
    }

    private void calendar() {
        if (random.nextInt(5) > 0) {
            same("clear()", () -> {
                twins.clear();
                return 0;
            }, () -> {
                model.clear();
                return 0;
            });
        }
        int span = random.nextInt(3) == 0 ? 3599 : random.nextInt(2) == 0 ? 30 : 6;
        for (int i = random.nextInt(8); i > 0; i--) {
            int charter = known(model.count(2));
            int nights = random.nextInt(2) == 0 ? near(1, 3) : near(1, 30);
            int many = near(1, 4);
            long bits = random.nextInt(10) == 0 ? random.nextLong() : 0;
            for (int d = 0; d < many && d < 4; d++) {
                bits = bits << 12 | near(0, span) & 4095;
            }
            long days = bits;
            same("plan(" + charter + ", " + nights + ", " + many + ", " + days + ")",
                    () -> twins.plan(charter, nights, many, days), () -> model.plan(charter, nights, many, days));
        }
        if (random.nextInt(8) > 0) {
            same("calendar()", twins::calendar, model::calendar);
        }
        for (int p = -1; p < 6; p++) {
            int plan = p;
            same("planned(" + plan + ")", () -> twins.planned(plan), () -> model.planned(plan));
        }
    }

    private int set(int towns, int without, int most) {
        int bits = 0;
        for (int i = in(0, most); i > 0; i--) {
            int bit = random.nextInt(Math.max(1, towns));
            bits |= (without & 1 << bit) != 0 && random.nextInt(50) > 0 ? 0 : 1 << bit;
        }
        return random.nextInt(60) == 0 ? random.nextInt() : bits;
    }

    private void friends() {
        int towns = model.count(1);
        int first = set(towns, 0, random.nextInt(3) == 0 ? 12 : 6);
        int second = set(towns, first, random.nextInt(3) == 0 ? 12 : 6);
        for (int t = 0; t < towns; t++) {
            if (random.nextInt(4) > 0) {
                int other = (first & 1 << t) != 0 ? second : first;
                wish(t, other, towns);
            }
        }
        same("stables(" + first + ", " + second + ")",
                () -> twins.stables(first, second), () -> model.stables(first, second));
        for (int turn = 0; turn < 2; turn++) {
            int a = turn == 0 ? first : second;
            int b = turn == 0 ? second : first;
            same("pair(" + a + ", " + b + ")", () -> twins.pair(a, b), () -> model.pair(a, b));
            for (int t = 0; t < towns; t++) {
                int town = t;
                same("friend(" + town + ")", () -> twins.friend(town), () -> model.friend(town));
            }
        }
    }

    private void wish(int town, int others, int towns) {
        List<Integer> row = new ArrayList<>();
        for (int t = 0; t < towns; t++) {
            if ((others & 1 << t) != 0 && random.nextInt(8) > 0 || random.nextInt(20) == 0) {
                row.add(random.nextInt(row.size() + 1), t);
            }
        }
        int many = random.nextInt(20) == 0 ? near(0, 6) : Math.min(6, row.size());
        int bits = random.nextInt(20) == 0 ? random.nextInt() : 0;
        for (int i = Math.min(6, row.size()) - 1; i >= 0; i--) {
            bits = bits << 4 | row.get(i);
        }
        int told = bits;
        same("wish(" + town + ", " + many + ", " + told + ")",
                () -> twins.wish(town, many, told) ? 1 : 0, () -> model.wish(town, many, told) ? 1 : 0);
    }

    private void texts() {
        int dice = random.nextInt(10);
        if (dice < 5) {
            text(rulesByChance(random.nextInt(3)));
        } else if (dice < 7) {
            event();
        } else {
            asked();
        }
        if (model.count(7) == 8 && left > 40 && random.nextInt(3) == 0) {
            story();
        }
    }

    private void text(String whole) {
        String text = whole.length() > 400 ? whole.substring(0, 400) : whole;
        for (int at = 0; at < text.length(); at += 20) {
            int[] row = new int[5];
            for (int i = 0; i < 20; i++) {
                row[i / 4] = row[i / 4] << 8 | (at + i < text.length() ? text.charAt(at + i) : ' ');
            }
            feed(row);
        }
        int n = random.nextInt(20) == 0 ? near(0, 400) : text.length();
        same("rules(" + n + ") '" + text + "'", () -> twins.rules(n), () -> model.rules(n));
        same("fault()", twins::fault, model::fault);
    }

    private void feed(int[] row) {
        same("feed(" + row[0] + ", ..)", () -> twins.feed(row[0], row[1], row[2], row[3], row[4]),
                () -> model.feed(row));
    }

    private String rulesByChance(int spoiled) {
        List<String> tokens = new ArrayList<>();
        for (int i = random.nextInt(10) == 0 ? 14 : random.nextInt(6); i > 0; i--) {
            int dice = random.nextInt(6);
            if (dice < 4) {
                tokens.add(dice < 3 ? "grant" : "sleep");
                expression(tokens, random.nextInt(30) == 0 ? 7 : random.nextInt(3));
                if (random.nextInt(3) == 0) {
                    tokens.add("unless");
                    expression(tokens, random.nextInt(2));
                }
            } else {
                tokens.add(dice == 4 ? "pot" : "rate");
                tokens.add(Integer.toString(random.nextInt(random.nextInt(3) == 0 ? 1000000 : 300)));
            }
            tokens.add(";");
        }
        for (int i = 0; i < spoiled; i++) {
            String spoiler = SPOILERS[random.nextInt(SPOILERS.length)];
            int at = random.nextInt(tokens.size() + 1);
            if (at < tokens.size() && random.nextBoolean()) {
                tokens.set(at, spoiler);
            } else {
                tokens.add(at, spoiler);
            }
        }
        StringBuilder text = new StringBuilder();
        for (String token : tokens) {
            text.append(token).append(random.nextInt(12) == 0 ? "" : random.nextInt(9) == 0 ? "\n " : " ");
        }
        return text.toString();
    }

    private void expression(List<String> tokens, int depth) {
        String[] joins = {"or", "and", "<", "=", "+", "-", "*", "/", "+", "*", "-", "+"};
        int parts = 1 + random.nextInt(depth > 5 ? 1 : 3);
        boolean tested = false;
        for (int i = 0; i < parts; i++) {
            if (i > 0) {
                String join = joins[random.nextInt(joins.length)];
                boolean tests = join.equals("<") || join.equals("=");
                join = tests && tested ? "+" : join;
                tested = tests || tested && !join.equals("or") && !join.equals("and");
                tokens.add(join);
            }
            boolean start = i == 0 || List.of("or", "and").contains(tokens.get(tokens.size() - 1));
            for (int nots = random.nextInt(9) == 0 ? random.nextInt(8) : 0; start && nots > 0; nots--) {
                tokens.add("not");
            }
            if (depth > 0 && (depth > 3 || random.nextBoolean())) {
                tokens.add("(");
                expression(tokens, depth - 1);
                tokens.add(")");
            } else if (random.nextInt(3) == 0) {
                tokens.add(Integer.toString(random.nextInt(random.nextInt(3) == 0 ? 1000000 : 40)));
            } else {
                tokens.add(RuleModel.VALUES.get(random.nextInt(RuleModel.VALUES.size())));
            }
        }
    }

    private void anything() {
        int[] a = new int[7];
        for (int i = 0; i < 7; i++) {
            a[i] = random.nextInt(3) == 0 ? random.nextInt() : near(-2, 40);
        }
        long days = random.nextLong();
        boolean cats = random.nextBoolean();
        String told = "(" + a[0] + ", " + a[1] + ", " + a[2] + ", " + a[3] + ", " + a[4] + ", " + a[5] + ", " + a[6]
                + ")";
        switch (random.nextInt(26)) {
            case 0 -> same("town" + told, () -> twins.town(a[0], a[1], a[2], a[3]),
                    () -> model.town(a[0], a[1], a[2], a[3]));
            case 1 -> same("charter" + told, () -> twins.charter(a[0], a[1], a[2]),
                    () -> model.charter(a[0], a[1], a[2]));
            case 2 -> same("days" + told, () -> twins.days(a[0]), () -> model.days(a[0]));
            case 3 -> same("event" + told, () -> twins.event(a[0], a[1], a[2], a[3], a[4], a[5], a[6]),
                    () -> model.event(a[0], a[1], a[2], a[3], a[4], a[5], a[6]));
            case 4 -> same("back" + told, () -> twins.back(a[0]) ? 1 : 0, () -> model.back(a[0]) ? 1 : 0);
            case 5 -> feed(new int[] {a[0], a[1], a[2], a[3], a[4]});
            case 6 -> same("rules" + told, () -> twins.rules(a[0]), () -> model.rules(a[0]));
            case 7 -> same("fault()", twins::fault, model::fault);
            case 8 -> same("about" + told, () -> twins.about(a[0], a[1], a[2], a[3]),
                    () -> model.about(a[0], a[1], a[2], a[3]));
            case 9 -> same("told" + told, () -> twins.told(a[0], a[1], a[2]), () -> model.told(a[0], a[1], a[2]));
            case 10 -> same("balance" + told, () -> twins.balance(a[0], a[1], a[2], a[3]),
                    () -> model.balance(a[0], a[1], a[2], a[3]));
            case 11 -> same("home" + told, () -> twins.home(a[0], a[1], cats, a[2]),
                    () -> model.home(a[0], a[1], cats, a[2]));
            case 12 -> same("guest" + told, () -> twins.guest(a[0], a[1], cats), () -> model.guest(a[0], a[1], cats));
            case 13 -> same("liking" + told, () -> twins.liking(a[0], a[1]), () -> model.liking(a[0], a[1]));
            case 14 -> same("lodge()", twins::lodge, model::lodge);
            case 15 -> same("lodged" + told, () -> twins.lodged(a[0]), () -> model.lodged(a[0]));
            case 16 -> same("plan" + told, () -> twins.plan(a[0], a[1], a[2], days),
                    () -> model.plan(a[0], a[1], a[2], days));
            case 17 -> same("calendar()", twins::calendar, model::calendar);
            case 18 -> same("planned" + told, () -> twins.planned(a[0]), () -> model.planned(a[0]));
            case 19 -> same("wish" + told, () -> twins.wish(a[0], a[1], a[2]) ? 1 : 0,
                    () -> model.wish(a[0], a[1], a[2]) ? 1 : 0);
            case 20 -> same("pair" + told, () -> twins.pair(a[0], a[1]), () -> model.pair(a[0], a[1]));
            case 21 -> same("friend" + told, () -> twins.friend(a[0]), () -> model.friend(a[0]));
            case 22 -> same("stables" + told, () -> twins.stables(a[0], a[1]), () -> model.stables(a[0], a[1]));
            default -> same("count" + told, () -> twins.count(a[0]), () -> model.count(a[0]));
        }
    }
}
