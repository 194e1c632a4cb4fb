import java.util.ArrayList;
import java.util.Arrays;
import java.util.Comparator;
import java.util.HashMap;
import java.util.List;
import java.util.Map;
import java.util.NoSuchElementException;

/** A second program that follows the document by plain lists and search, to be asked beside the first. */
final class Model {
    private record Town(int x, int y, int people, int tongues) {
    }

    private record Charter(int a, int b, int day, int told) {
        int town(int side) {
            return side == 0 ? a : b;
        }
    }

    private record Event(int id, int kind, int charter, int number, int side, int nights, int young, int day,
            int told) {
    }

    private record Home(int beds, int tongues, boolean cats, int age) {
    }

    private record Guest(int tongues, int age, boolean bears) {
    }

    private record Plan(int charter, int nights, List<Integer> days) {
    }

    private int today = 0;
    private final List<Town> towns = new ArrayList<>();
    private final List<Charter> charters = new ArrayList<>();
    private final List<Event> events = new ArrayList<>();
    private final Map<Integer, Integer> takenBack = new HashMap<>();
    private final StringBuilder tape = new StringBuilder();
    private final List<RuleModel> rules = new ArrayList<>();
    private int place = -1;
    private final List<Home> homes = new ArrayList<>();
    private final List<Guest> guests = new ArrayList<>();
    private List<Integer> keptHomes = null;
    private int keptLikings = 0;
    private final List<Plan> plans = new ArrayList<>();
    private List<Integer> keptDays = null;
    private final Map<Integer, List<Integer>> wishes = new HashMap<>();
    private Map<Integer, Integer> keptFriends = new HashMap<>();

    private static boolean is(int number, int least, int most) {
        return number >= least && number <= most;
    }

    private static void need(boolean is) {
        if (!is) {
            throw new NoSuchElementException();
        }
    }

    private static void ask(boolean is) {
        if (!is) {
            throw new IllegalArgumentException();
        }
    }

    int town(int x, int y, int people, int tongues) {
        if (towns.size() == 16 || !is(x, 0, 999) || !is(y, 0, 999) || !is(people, 1, 9999) || !is(tongues, 1, 255)) {
            return -1;
        }
        towns.add(new Town(x, y, people, tongues));
        return towns.size() - 1;
    }

    int charter(int a, int b, int day) {
        need(is(a, 0, towns.size() - 1) && is(b, 0, towns.size() - 1));
        if (charters.size() == 24 || a == b || !is(day, 0, 3599)) {
            return -1;
        }
        charters.add(new Charter(a, b, day, today));
        return charters.size() - 1;
    }

    int days(int n) {
        ask(n >= 0 && (long) today + n <= 3599);
        today += n;
        return today;
    }

    int event(int kind, int charter, int number, int side, int nights, int young, int day) {
        need(is(kind, 0, 2) && is(charter, 0, charters.size() - 1));
        boolean right = is(day, 0, today) && events.size() < 200;
        if (kind == 0) {
            right &= number == 0;
        } else if (kind == 1) {
            right &= is(number, 1, 200) && is(side, 0, 1) && is(nights, 1, 30) && is(young, 0, number);
        } else {
            right &= is(number, 1, 99999) && is(side, 0, 1);
        }
        if (!right) {
            return -1;
        }
        events.add(new Event(events.size(), kind, charter, number, side, nights, young, day, today));
        return events.size() - 1;
    }

    boolean back(int event) {
        need(is(event, 0, events.size() - 1));
        return takenBack.putIfAbsent(event, today) == null;
    }

    int feed(int... numbers) {
        if (tape.length() + 20 > 400) {
            return -1;
        }
        for (int number : numbers) {
            for (int shift = 24; shift >= 0; shift -= 8) {
                tape.append((char) (number >> shift & 255));
            }
        }
        return tape.length();
    }

    int rules(int n) {
        ask(is(n, 0, tape.length()));
        String text = tape.substring(0, n);
        tape.setLength(0);
        place = -1;
        if (rules.size() == 8) {
            return 9;
        }
        try {
            RuleModel rule = new RuleModel(text);
            rule.told = today;
            rules.add(rule);
            return 0;
        } catch (RuleModel.Fault fault) {
            place = fault.place;
            return fault.kind;
        }
    }

    int fault() {
        return place;
    }

    private RuleModel ruleOn(int k) {
        RuleModel last = null;
        for (RuleModel rule : rules) {
            last = rule.told <= k ? rule : last;
        }
        try {
            return last == null ? new RuleModel("") : last;
        } catch (RuleModel.Fault fault) {
            throw new IllegalStateException(fault);
        }
    }

    private boolean isKnown(Event event, int k) {
        return event.told <= k && takenBack.getOrDefault(event.id, 9999) > k;
    }

    private boolean isAlive(int charter, int day, int k) {
        if (charters.get(charter).told > k || day < charters.get(charter).day) {
            return false;
        }
        for (Event event : events) {
            if (event.kind == 0 && event.charter == charter && event.day <= day && isKnown(event, k)) {
                return false;
            }
        }
        return true;
    }

    private boolean counts(Event event, int k) {
        return event.kind != 0 && isKnown(event, k) && isAlive(event.charter, event.day, k);
    }

    /** All of a kind that count, of a charter (or of all: -1), in their order. */
    private List<Event> counted(int kind, int charter, int k) {
        List<Event> row = new ArrayList<>();
        for (Event event : events) {
            if (event.kind == kind && (charter == -1 || event.charter == charter) && counts(event, k)) {
                row.add(event);
            }
        }
        row.sort(Comparator.comparingInt(Event::day).thenComparingInt(Event::id));
        return row;
    }

    private List<Event> countedBy(int kind, int charter, int day, int k) {
        List<Event> row = counted(kind, charter, k);
        row.removeIf(event -> event.day > day);
        return row;
    }

    private static Event last(List<Event> row) {
        return row.isEmpty() ? null : row.get(row.size() - 1);
    }

    private static long turn(List<Event> ahead) {
        return ahead.isEmpty() ? 0 : 1 - last(ahead).side;
    }

    private Map<String, Long> values(int charter, int day, List<Event> ahead) {
        Charter c = charters.get(charter);
        Town a = towns.get(c.a);
        Town b = towns.get(c.b);
        Map<String, Long> values = new HashMap<>();
        for (String name : RuleModel.VALUES) {
            values.put(name, 0L);
        }
        values.put("miles", (long) Math.abs(a.x - b.x) + Math.abs(a.y - b.y));
        values.put("common", (long) Integer.bitCount(a.tongues & b.tongues));
        values.put("since", (long) day - (ahead.isEmpty() ? c.day : last(ahead).day));
        values.put("age", (long) day - c.day);
        values.put("visits", (long) ahead.size());
        values.put("year", (long) day / 360);
        values.put("people", (long) a.people + b.people);
        values.put("turn", turn(ahead));
        return values;
    }

    private long claim(Event visit, int k) {
        List<Event> all = counted(1, visit.charter, k);
        List<Event> ahead = all.subList(0, all.indexOf(visit));
        Map<String, Long> values = values(visit.charter, visit.day, ahead);
        values.put("guests", (long) visit.number);
        values.put("nights", (long) visit.nights);
        values.put("young", (long) visit.young);
        values.put("people", (long) towns.get(charters.get(visit.charter).town(visit.side)).people);
        values.put("turn", turn(ahead) == visit.side ? 1L : 0L);
        long sum = 0;
        for (RuleModel.Tree grant : ruleOn(k).grants) {
            long worth = grant.worth(values);
            sum += worth < 0 ? 0 : worth > 999999 ? 999999 : worth;
        }
        return sum;
    }

    /** The grants of a year, by the numbers of its visits. */
    private Map<Integer, Long> grants(int year, int k) {
        List<Event> visits = counted(1, -1, k);
        visits.removeIf(event -> event.day / 360 != year);
        Map<Integer, Long> claims = new HashMap<>();
        long all = 0;
        for (Event visit : visits) {
            claims.put(visit.id, claim(visit, k));
            all += claims.get(visit.id);
        }
        long pot = ruleOn(k).pot;
        if (all <= pot) {
            return claims;
        }
        Map<Integer, Long> grants = new HashMap<>();
        Map<Integer, Long> rest = new HashMap<>();
        long left = pot;
        for (Event visit : visits) {
            grants.put(visit.id, pot * claims.get(visit.id) / all);
            rest.put(visit.id, pot * claims.get(visit.id) % all);
            left -= grants.get(visit.id);
        }
        visits.sort(Comparator.comparing((Event visit) -> -rest.get(visit.id)));
        for (Event visit : visits) {
            if (left > 0) {
                grants.merge(visit.id, 1L, Long::sum);
                left--;
            }
        }
        return grants;
    }

    int about(int charter, int what, int day, int k) {
        need(is(charter, 0, charters.size() - 1) && is(what, 0, 4) && is(day, 0, 3599));
        ask(is(k, 0, today));
        List<Event> visits = countedBy(1, charter, day, k);
        switch (what) {
            case 0:
                return isAlive(charter, day, k) ? 1 : 0;
            case 1:
                return (int) turn(visits);
            case 2:
                return sleeps(charter, day, k, visits) ? 1 : 0;
            case 3:
                return visits.size();
            default:
                List<Event> gifts = countedBy(2, charter, day, k);
                int n = gifts.size();
                boolean one = n >= 3 && gifts.get(n - 1).side == gifts.get(n - 2).side
                        && gifts.get(n - 2).side == gifts.get(n - 3).side;
                return one ? gifts.get(n - 1).side : -1;
        }
    }

    private boolean sleeps(int charter, int day, int k, List<Event> visits) {
        if (!isAlive(charter, day, k)) {
            return false;
        }
        Map<String, Long> values = values(charter, day, visits);
        RuleModel rule = ruleOn(k);
        if (rule.sleeps.isEmpty()) {
            return values.get("since") > 1080;
        }
        return rule.sleeps.stream().anyMatch(sleep -> sleep.worth(values) != 0);
    }

    long told(int event, int what, int k) {
        need(is(event, 0, events.size() - 1) && is(what, 0, 3));
        ask(is(k, 0, today));
        Event e = events.get(event);
        if (what == 0) {
            return (e.kind == 0 ? isKnown(e, k) : counts(e, k)) ? 1 : 0;
        }
        if (e.kind != 1 || !counts(e, k)) {
            return 0;
        }
        if (what == 1) {
            return claim(e, k);
        }
        return what == 2 ? grants(e.day / 360, k).get(event) : cost(e, k);
    }

    private long cost(Event visit, int k) {
        return ruleOn(k).rate * visit.number * visit.nights;
    }

    long balance(int charter, int side, int day, int k) {
        need(is(charter, 0, charters.size() - 1) && is(side, 0, 1) && is(day, 0, 3599));
        ask(is(k, 0, today));
        long sum = 0;
        for (Event gift : countedBy(2, charter, day, k)) {
            sum += gift.side == side ? gift.number : 0;
        }
        Map<Integer, Map<Integer, Long>> years = new HashMap<>();
        for (Event visit : countedBy(1, charter, day, k)) {
            long cost = cost(visit, k);
            sum += cost / 2;
            if (visit.side == side) {
                sum += cost % 2;
                sum -= years.computeIfAbsent(visit.day / 360, year -> grants(year, k)).get(visit.id);
            }
        }
        return sum;
    }

    void empty() {
        homes.clear();
        guests.clear();
    }

    int home(int beds, int tongues, boolean cats, int age) {
        if (homes.size() == 6 || !is(beds, 1, 4) || !is(tongues, 0, 255) || !is(age, 0, 99)) {
            return -1;
        }
        homes.add(new Home(beds, tongues, cats, age));
        return homes.size() - 1;
    }

    int guest(int tongues, int age, boolean bears) {
        if (guests.size() == 8 || !is(tongues, 0, 255) || !is(age, 0, 99)) {
            return -1;
        }
        guests.add(new Guest(tongues, age, bears));
        return guests.size() - 1;
    }

    int liking(int guest, int home) {
        need(is(guest, 0, guests.size() - 1) && is(home, 0, homes.size() - 1));
        Guest g = guests.get(guest);
        Home h = homes.get(home);
        int alike = Integer.bitCount(g.tongues & h.tongues);
        if (h.cats && !g.bears || alike == 0) {
            return -1;
        }
        int years = Math.abs(g.age - h.age);
        return 3 * alike + (years > 10 ? 0 : 10 - years);
    }

    int lodge() {
        int[] beds = homes.stream().mapToInt(Home::beds).toArray();
        Map<String, Integer> known = new HashMap<>();
        keptHomes = new ArrayList<>();
        int whole = bestFrom(0, beds, known);
        keptLikings = whole % 1000;
        for (int g = 0; g < guests.size(); g++) {
            int due = bestFrom(g, beds, known);
            int chosen = -1;
            for (int h = 0; h < homes.size() && chosen == -1; h++) {
                if (beds[h] > 0 && liking(g, h) != -1) {
                    beds[h]--;
                    if (1000 + liking(g, h) + bestFrom(g + 1, beds, known) == due) {
                        chosen = h;
                    } else {
                        beds[h]++;
                    }
                }
            }
            keptHomes.add(chosen);
        }
        return whole / 1000;
    }

    /** A thousand for each guest from this one on that has a home, and the likings. */
    private int bestFrom(int guest, int[] beds, Map<String, Integer> known) {
        if (guest == guests.size()) {
            return 0;
        }
        String state = guest + Arrays.toString(beds);
        Integer before = known.get(state);
        if (before != null) {
            return before;
        }
        int best = bestFrom(guest + 1, beds, known);
        for (int h = 0; h < beds.length; h++) {
            if (beds[h] > 0 && liking(guest, h) != -1) {
                beds[h]--;
                best = Math.max(best, 1000 + liking(guest, h) + bestFrom(guest + 1, beds, known));
                beds[h]++;
            }
        }
        known.put(state, best);
        return best;
    }

    int lodged(int guest) {
        need(keptHomes != null && is(guest, -1, keptHomes.size() - 1));
        return guest == -1 ? keptLikings : keptHomes.get(guest);
    }

    int plan(int charter, int nights, int many, long days) {
        need(is(charter, 0, charters.size() - 1));
        if (plans.size() == 6 || !is(nights, 1, 30) || !is(many, 1, 4)) {
            return -1;
        }
        List<Integer> row = new ArrayList<>();
        for (int i = 0; i < many; i++) {
            int day = (int) (days >> 12 * i) & 4095;
            if (day > 3599) {
                return -1;
            }
            row.add(day);
        }
        plans.add(new Plan(charter, nights, row));
        return plans.size() - 1;
    }

    void clear() {
        plans.clear();
    }

    private boolean clash(int p, int dayOfP, int q, int dayOfQ) {
        Charter c = charters.get(plans.get(p).charter);
        Charter d = charters.get(plans.get(q).charter);
        if (c.a != d.a && c.a != d.b && c.b != d.a && c.b != d.b) {
            return false;
        }
        for (int i = 0; i <= plans.get(p).nights; i++) {
            for (int j = 0; j <= plans.get(q).nights; j++) {
                if (dayOfP + i == dayOfQ + j) {
                    return true;
                }
            }
        }
        return false;
    }

    int calendar() {
        int n = plans.size();
        int[] best = null;
        int bestMany = -1;
        int bestSum = 0;
        int[] row = new int[n];
        do {
            int many = 0;
            int sum = 0;
            for (int p = 0; p < n; p++) {
                many += row[p] < 4 ? 1 : 0;
                sum += day(p, row[p]) == -1 ? 0 : day(p, row[p]);
            }
            if ((many > bestMany || many == bestMany && sum < bestSum) && isCalendar(row)) {
                best = row.clone();
                bestMany = many;
                bestSum = sum;
            }
        } while (next(row));
        keptDays = new ArrayList<>();
        for (int p = 0; p < n; p++) {
            keptDays.add(day(p, best[p]));
        }
        return bestMany;
    }

    private int day(int plan, int choice) {
        List<Integer> days = plans.get(plan).days;
        return choice < days.size() ? days.get(choice) : -1;
    }

    private boolean isCalendar(int[] row) {
        for (int p = 0; p < row.length; p++) {
            if (row[p] < 4 && day(p, row[p]) == -1) {
                return false;
            }
            for (int q = 0; q < p; q++) {
                if (row[p] < 4 && row[q] < 4 && clash(p, day(p, row[p]), q, day(q, row[q]))) {
                    return false;
                }
            }
        }
        return true;
    }

    private static boolean next(int[] row) {
        for (int p = row.length - 1; p >= 0; p--) {
            if (row[p] < 4) {
                row[p]++;
                return true;
            }
            row[p] = 0;
        }
        return false;
    }

    int planned(int plan) {
        need(keptDays != null && is(plan, -1, keptDays.size() - 1));
        return plan == -1 ? keptDays.stream().mapToInt(day -> day == -1 ? 0 : day).sum() : keptDays.get(plan);
    }

    boolean wish(int town, int many, int bits) {
        need(is(town, 0, towns.size() - 1));
        if (!is(many, 0, 6)) {
            return false;
        }
        List<Integer> row = new ArrayList<>();
        for (int i = 0; i < many; i++) {
            int wished = bits >> 4 * i & 15;
            if (wished >= towns.size() || wished == town || row.contains(wished)) {
                return false;
            }
            row.add(wished);
        }
        wishes.put(town, row);
        return true;
    }

    private int rank(int town, int other) {
        return wishes.getOrDefault(town, List.of()).indexOf(other);
    }

    private boolean are(int first, int second) {
        for (int bit = 0; bit < 32; bit++) {
            if (bit >= towns.size() && (first >> bit & 1 | second >> bit & 1) == 1) {
                return false;
            }
        }
        return Integer.bitCount(first) <= 6 && Integer.bitCount(second) <= 6 && (first & second) == 0;
    }

    private static List<Integer> members(int set) {
        List<Integer> row = new ArrayList<>();
        for (int bit = 0; bit < 16; bit++) {
            if ((set >> bit & 1) == 1) {
                row.add(bit);
            }
        }
        return row;
    }

    private void pairings(List<Integer> first, List<Integer> second, int at, Map<Integer, Integer> now,
            List<Map<Integer, Integer>> stable) {
        if (at == first.size()) {
            if (isStable(first, second, now)) {
                stable.add(new HashMap<>(now));
            }
            return;
        }
        int a = first.get(at);
        pairings(first, second, at + 1, now, stable);
        for (int b : second) {
            if (!now.containsKey(b) && rank(a, b) >= 0 && rank(b, a) >= 0) {
                now.put(a, b);
                now.put(b, a);
                pairings(first, second, at + 1, now, stable);
                now.remove(a);
                now.remove(b);
            }
        }
    }

    private boolean isStable(List<Integer> first, List<Integer> second, Map<Integer, Integer> now) {
        for (int a : first) {
            for (int b : second) {
                if (rank(a, b) >= 0 && rank(b, a) >= 0 && would(a, b, now) && would(b, a, now)) {
                    return false;
                }
            }
        }
        return true;
    }

    private boolean would(int town, int other, Map<Integer, Integer> now) {
        return !now.containsKey(town) || rank(town, other) < rank(town, now.get(town));
    }

    int pair(int first, int second) {
        if (!are(first, second)) {
            return -1;
        }
        List<Map<Integer, Integer>> stable = new ArrayList<>();
        pairings(members(first), members(second), 0, new HashMap<>(), stable);
        for (Map<Integer, Integer> pairing : stable) {
            boolean dearest = true;
            for (Map<Integer, Integer> other : stable) {
                for (int a : members(first)) {
                    int mine = pairing.containsKey(a) ? rank(a, pairing.get(a)) : 99;
                    int its = other.containsKey(a) ? rank(a, other.get(a)) : 99;
                    dearest &= mine <= its;
                }
            }
            if (dearest) {
                keptFriends = pairing;
                return pairing.size() / 2;
            }
        }
        throw new IllegalStateException("there must be one");
    }

    int friend(int town) {
        need(is(town, 0, towns.size() - 1));
        return keptFriends.getOrDefault(town, -1);
    }

    int stables(int first, int second) {
        if (!are(first, second)) {
            return -1;
        }
        List<Map<Integer, Integer>> stable = new ArrayList<>();
        pairings(members(first), members(second), 0, new HashMap<>(), stable);
        return stable.size();
    }

    int count(int what) {
        need(is(what, 0, 8));
        int[] counts = {today, towns.size(), charters.size(), events.size(), homes.size(), guests.size(),
            plans.size(), rules.size(), tape.length()};
        return counts[what];
    }
}
