import java.util.ArrayList;
import java.util.Arrays;
import java.util.Collections;
import java.util.Comparator;
import java.util.List;
import java.util.Map;
import java.util.Set;
import java.util.TreeMap;
import java.util.TreeSet;
import java.util.stream.Collectors;
import java.util.stream.IntStream;

/** The document once more, written with the whole library and without care for speed, to compare with. */
final class Model {
    /** An error of a setup. */
    static final class SetupError extends RuntimeException {
        private static final long serialVersionUID = 1L;
        final int code;
        final int position;

        SetupError(int code, int position) {
            this.code = code;
            this.position = position;
        }
    }

    private static final class Person {
        String name;
        int kitchen;
        int limit;
        int[] tastes = new int[4];
        int[] bids = new int[10];
        Set<Integer> partners = new TreeSet<>();
        Set<Integer> declared = new TreeSet<>();

        Person copy() {
            Person copy = new Person();
            copy.name = name;
            copy.kitchen = kitchen;
            copy.limit = limit;
            copy.tastes = tastes.clone();
            copy.bids = bids.clone();
            copy.partners = new TreeSet<>(partners);
            copy.declared = new TreeSet<>(declared);
            return copy;
        }
    }

    private static final class Cake {
        int topic;
        List<Integer> cooks = new ArrayList<>();
        List<Integer> tasters = new ArrayList<>();
        Map<Integer, Integer> scores = new TreeMap<>();

        Cake copy() {
            Cake copy = new Cake();
            copy.topic = topic;
            copy.cooks = new ArrayList<>(cooks);
            copy.tasters = new ArrayList<>(tasters);
            copy.scores = new TreeMap<>(scores);
            return copy;
        }
    }

    private int threshold;
    private int places;
    private List<Person> persons = new ArrayList<>();
    private List<Cake> cakes = new ArrayList<>();
    private int fills;
    private int moves;
    private int talks;
    private int changes;

    Model copy() {
        Model copy = new Model();
        copy.threshold = threshold;
        copy.places = places;
        persons.forEach(person -> copy.persons.add(person.copy()));
        cakes.forEach(cake -> copy.cakes.add(cake.copy()));
        copy.fills = fills;
        copy.moves = moves;
        copy.talks = talks;
        copy.changes = changes;
        return copy;
    }

    // ---- the calls, by name; those that keep states are the session's

    Object call(String name, int... a) {
        switch (name) {
            case "pancakeCount": return cakes.size();
            case "topicOf": return cake(a[0]).topic;
            case "cookCount": return cake(a[0]).cooks.size();
            case "cookAt": return cake(a[0]).cooks.get(a[1]);
            case "personCount": return persons.size();
            case "nameLetter":
                String text = person(a[0]).name;
                return a[1] < 0 || a[1] >= text.length() ? -1 : (int) text.charAt(a[1]);
            case "kitchenOf": return person(a[0]).kitchen;
            case "isTaster": return person(a[0]).limit > 0;
            case "limitOf": return person(a[0]).limit;
            case "tasteOf": return tasteOf(person(a[0]), a[1]);
            case "bidOf": return pair(a).bids[a[1]];
            case "preference": return preferenceOf(pair(a), a[1]);
            case "conflict": pair(a); return conflictOf(a[0], a[1]);
            case "conflictCount": cake(a[0]); return (int) tasters().filter(p -> conflictOf(p, a[0]) > 0).count();
            case "favoriteOf": person(a[0]); return favorite(a[0]);
            case "seatCount": return cake(a[0]).tasters.size();
            case "seatAt": return cake(a[0]).tasters.get(a[1]);
            case "loadOf": person(a[0]); return load(a[0]);
            case "refusal": pair(a); return refusalOf(a[0], a[1]);
            case "bestTaster": cake(a[0]); return best(a[0]);
            case "lacking": return lack();
            case "lackingAfterFilling": return copy().filled().lack();
            case "scoreOf": pair(a); return cake(a[1]).scores.getOrDefault(a[0], 0);
            case "scoreCount": return cake(a[0]).scores.size();
            case "meanOf": person(a[0]); return mean(a[0]);
            case "harshest": return people().filter(p -> mean(p) >= 0).boxed()
                .min(Comparator.comparing(this::mean)).orElse(-1);
            case "disagreement": person(a[0]); return distance(a[0]);
            case "adjustedScore": pair(a); return cake(a[1]).scores.containsKey(a[0]) ? adjusted(a[0], cake(a[1])) : -1;
            case "totalOf": return total(cake(a[0]));
            case "spreadOf": return spread(cake(a[0]));
            case "needsTalk": return spread(cake(a[0])) > threshold;
            case "spreadAfterTalk": cake(a[0]); return copy().talked(a[0]);
            case "rankOf": cake(a[0]); return ranking().indexOf(a[0]);
            case "pancakeAt": return ranking().get(a[0]);
            case "isAccepted":
                Cake cake = cake(a[0]);
                return ranking().indexOf(a[0]) < places && !cake.scores.isEmpty() && spread(cake) <= threshold;
            case "fillCount": return fills;
            case "moveCount": return moves;
            case "talkCount": return talks;
            case "changeCount": return changes;
            case "averageScore": return scores().isEmpty() ? 0.0 : (double) sum(scores()) / (double) scores().size();
            case "seatShare": return cakes.isEmpty() ? 0.0f : (float) seats() / (float) (3 * cakes.size());
            case "imbalance": return imbalanceNow();
            case "writePancake": return pancakeText(cake(a[0]));
            case "writeBids": person(a[0]); return bidText(a[0]);
            default: return change(name, a);
        }
    }

    private Object change(String name, int... a) {
        switch (name) {
            case "bid":
                Person person = pair(a);
                refuseIf(person.limit == 0 || a[2] < 0 || a[2] > 3);
                int previous = person.bids[a[1]];
                person.bids[a[1]] = a[2];
                return previous;
            case "assign":
                pair(a);
                refuseIf(refusalOf(a[0], a[1]) != 0);
                cake(a[1]).tasters.add(a[0]);
                return cake(a[1]).tasters.size();
            case "unassign":
                pair(a);
                refuseIf(!cake(a[1]).tasters.contains(a[0]));
                cake(a[1]).tasters.remove((Integer) a[0]);
                cake(a[1]).scores.remove(a[0]);
                return cake(a[1]).tasters.size();
            case "fill":
                return fillNow();
            case "score":
                pair(a);
                refuseIf(!cake(a[1]).tasters.contains(a[0]) || a[2] < 1 || a[2] > 9);
                Integer old = cake(a[1]).scores.put(a[0], a[2]);
                return old == null ? 0 : old;
            case "talk":
                refuseIf(cake(a[0]).scores.size() < 2);
                return talkNow(cake(a[0]));
            case "declare":
                pair(a);
                return a[2] == 1 ? !person(a[0]).declared.add(a[1]) : person(a[0]).declared.remove(a[1]);
            default:
                throw new AssertionError(name);
        }
    }

    private static void refuseIf(boolean condition) {
        if (condition) {
            throw new IllegalArgumentException();
        }
    }

    // ---- terms

    private Person person(int number) {
        return persons.get(number);
    }

    private Cake cake(int number) {
        return cakes.get(number);
    }

    private Person pair(int... a) {
        cake(a[1]);
        return person(a[0]);
    }

    private IntStream people() {
        return IntStream.range(0, persons.size());
    }

    private IntStream tasters() {
        return people().filter(p -> person(p).limit > 0);
    }

    private static int tasteOf(Person person, int topic) {
        if (topic < 0 || topic > 3) {
            throw new IndexOutOfBoundsException();
        }
        return person.tastes[topic];
    }

    private int preferenceOf(Person person, int cake) {
        return 10 * person.bids[cake] + person.tastes[cake(cake).topic];
    }

    private int conflictOf(int person, int cake) {
        List<Integer> cooks = cake(cake).cooks;
        if (cooks.contains(person)) {
            return 1;
        }
        if (cooks.stream().anyMatch(cook -> person(cook).kitchen == person(person).kitchen)) {
            return 2;
        }
        if (!Collections.disjoint(cooks, person(person).partners)) {
            return 3;
        }
        return person(person).declared.contains(cake) ? 4 : 0;
    }

    private int favorite(int person) {
        int best = -1;
        for (int cake = cakes.size() - 1; cake >= 0; cake--) {
            if (conflictOf(person, cake) == 0 && (best < 0
                    || preferenceOf(person(person), cake) >= preferenceOf(person(person), best))) {
                best = cake;
            }
        }
        return best;
    }

    private int load(int person) {
        return (int) cakes.stream().filter(cake -> cake.tasters.contains(person)).count();
    }

    private int refusalOf(int person, int cake) {
        if (person(person).limit == 0) {
            return 1;
        }
        if (cake(cake).tasters.contains(person)) {
            return 2;
        }
        if (conflictOf(person, cake) != 0) {
            return 3;
        }
        if (cake(cake).tasters.size() == 3) {
            return 4;
        }
        return load(person) >= person(person).limit ? 5 : 0;
    }

    private int best(int cake) {
        return people().filter(p -> refusalOf(p, cake) == 0).boxed()
            .min(Comparator.comparing((Integer p) -> -preferenceOf(person(p), cake))
                .thenComparing(this::load).thenComparing(p -> p)).orElse(-1);
    }

    private int seats() {
        return cakes.stream().mapToInt(cake -> cake.tasters.size()).sum();
    }

    private int lack() {
        return 3 * cakes.size() - seats();
    }

    private Model filled() {
        fillNow();
        return this;
    }

    private int fillNow() {
        int before = fills;
        Set<Integer> open = IntStream.range(0, cakes.size()).boxed().collect(Collectors.toCollection(TreeSet::new));
        while (true) {
            open.removeIf(cake -> cake(cake).tasters.size() == 3);
            if (open.isEmpty()) {
                return fills - before;
            }
            // Streams take the first of several equals.
            int cake = open.stream().min(Comparator.comparing(c -> cake(c).tasters.size())).get();
            int best = best(cake);
            if (best >= 0) {
                cake(cake).tasters.add(best);
                fills++;
            } else if (!move(cake)) {
                open.remove(cake);
            }
            // A full pancake can lose its taster to a move only for an heir, so it stays full.
        }
    }

    private boolean move(int cake) {
        for (int t : people().filter(p -> refusalOf(p, cake) == 5).toArray()) {
            for (Cake left : cakes) {
                if (left.tasters.contains(t) && !left.scores.containsKey(t)) {
                    List<Integer> before = new ArrayList<>(left.tasters);
                    left.tasters.remove((Integer) t);
                    int heir = people().filter(u -> u != t && refusalOf(u, cakes.indexOf(left)) == 0)
                        .findFirst().orElse(-1);
                    if (heir >= 0) {
                        left.tasters.add(heir);
                        cake(cake).tasters.add(t);
                        moves++;
                        fills += 2;
                        return true;
                    }
                    left.tasters.clear();
                    left.tasters.addAll(before);
                }
            }
        }
        return false;
    }

    private List<Integer> scores() {
        List<Integer> all = new ArrayList<>();
        cakes.forEach(cake -> all.addAll(cake.scores.values()));
        return all;
    }

    int scoreCount() {
        return scores().size();
    }

    private static int sum(List<Integer> numbers) {
        return numbers.stream().mapToInt(Integer::intValue).sum();
    }

    private int mean(int person) {
        List<Integer> own = new ArrayList<>();
        cakes.stream().filter(cake -> cake.scores.containsKey(person)).forEach(cake -> own.add(cake.scores.get(person)));
        return own.isEmpty() ? -1 : 100 * sum(own) / own.size();
    }

    private int adjusted(int person, Cake cake) {
        return 100 * cake.scores.get(person) - mean(person) + 100 * sum(scores()) / scores().size();
    }

    private List<Integer> adjustedScores(Cake cake) {
        return cake.scores.keySet().stream().map(p -> adjusted(p, cake)).collect(Collectors.toList());
    }

    private int total(Cake cake) {
        return cake.scores.isEmpty() ? 0 : sum(adjustedScores(cake)) / cake.scores.size();
    }

    private int spread(Cake cake) {
        List<Integer> adjusted = adjustedScores(cake);
        return adjusted.size() < 2 ? 0 : Collections.max(adjusted) - Collections.min(adjusted);
    }

    private int distance(int person) {
        return cakes.stream().filter(cake -> cake.scores.containsKey(person))
            .mapToInt(cake -> Math.abs(adjusted(person, cake) - total(cake))).sum();
    }

    private static int middle(Cake cake) {
        List<Integer> sorted = new ArrayList<>(cake.scores.values());
        Collections.sort(sorted);
        return sorted.get((sorted.size() - 1) / 2);
    }

    private int talkNow(Cake cake) {
        int middle = middle(cake);
        int changed = 0;
        for (int person : new ArrayList<>(cake.scores.keySet())) {
            int score = cake.scores.get(person);
            if (score > middle + 1) {
                cake.scores.put(person, score - 1);
                changed++;
            } else if (score < middle - 1) {
                cake.scores.put(person, score + 1);
                changed++;
            }
        }
        talks++;
        changes += changed;
        return changed;
    }

    private int talked(int cake) {
        if (cake(cake).scores.size() >= 2) {
            talkNow(cake(cake));
        }
        return spread(cake(cake));
    }

    private List<Integer> ranking() {
        return IntStream.range(0, cakes.size()).boxed()
            .sorted(Comparator.comparing((Integer c) -> cake(c).scores.isEmpty())
                .thenComparing(c -> -total(cake(c))).thenComparing(c -> c)).collect(Collectors.toList());
    }

    private int imbalanceNow() {
        int sum = (int) people().filter(p -> load(p) > person(p).limit).count();
        for (int cake = 0; cake < cakes.size(); cake++) {
            int number = cake;
            sum += (int) cake(cake).tasters.stream().filter(p -> conflictOf(p, number) != 0).count();
        }
        return sum;
    }

    private String pancakeText(Cake cake) {
        String text = cake.tasters.stream().map(p -> person(p).name + "="
            + (cake.scores.containsKey(p) ? "" + cake.scores.get(p) : "?")).collect(Collectors.joining(","));
        return (text.isEmpty() ? "-" : text) + "/" + total(cake);
    }

    private String bidText(int person) {
        StringBuilder text = new StringBuilder();
        for (int cake = 0; cake < cakes.size(); cake++) {
            text.append(person(person).bids[cake]).append(cake(cake).tasters.contains(person) ? "*"
                : conflictOf(person, cake) != 0 ? "!" : "");
        }
        return text.toString();
    }

    // ---- setup

    /** Reads a setup straight from its bytes. */
    static Model parse(String text) {
        return new Reader(text).setup();
    }

    private static final class Reader {
        private final String text;
        private final Model model = new Model();
        private int at;

        Reader(String text) {
            this.text = text;
        }

        private static SetupError error(int code, int position) {
            return new SetupError(code, position);
        }

        /** The next token; "" at the end. The position is behind it then. */
        private String take() {
            String token = look();
            at = start() + token.length();
            return token;
        }

        private int start() {
            int start = at;
            while (start < text.length() && text.charAt(start) == ' ') {
                start++;
            }
            return start;
        }

        private String look() {
            int start = start();
            String rest = text.substring(start);
            String token = rest.isEmpty() ? "" : rest.replaceFirst("(?s)^([a-z]+|[0-9]+|.).*$", "$1");
            boolean isGood = token.matches("[a-z]{1,8}|[0-9]{1,3}|[;()]|");
            return isGood ? token : token.length() > 1 || !token.isEmpty() ? "\0".repeat(token.length()) : "";
        }

        private void must(boolean condition, int code, int position) {
            if (!condition) {
                throw error(code, position);
            }
        }

        private void expect(String token) {
            must(look().equals(token), 1, start());
            take();
        }

        private int number(int least, int greatest) {
            int start = start();
            must(look().matches("[0-9]+"), 1, start);
            int number = Integer.parseInt(take());
            must(number >= least && number <= greatest, 2, start);
            return number;
        }

        private String name() {
            int start = start();
            must(look().matches("[a-z]+"), 1, start);
            String name = take();
            must(name.length() <= 6, 2, start);
            return name;
        }

        private int find(String name) {
            return model.people().filter(p -> model.person(p).name.equals(name)).findFirst().orElse(-1);
        }

        private int someone() {
            int start = start();
            int person = find(name());
            must(person >= 0, 3, start);
            return person;
        }

        private int taster() {
            int start = start();
            int person = someone();
            must(model.person(person).limit > 0, 3, start);
            return person;
        }

        private int cake() {
            return number(0, model.cakes.size() - 1);
        }

        private int seated(int person) {
            int start = start();
            int cake = cake();
            must(model.cake(cake).tasters.contains(person), 4, start);
            return cake;
        }

        private Cake scored() {
            int start = start();
            Cake cake = model.cake(cake());
            must(cake.scores.size() >= 2, 4, start);
            return cake;
        }

        Model setup() {
            expect("panel");
            model.threshold = number(0, 900);
            model.places = number(0, 10);
            while (!look().isEmpty()) {
                expect(";");
                item(0);
            }
            return model;
        }

        private void item(int depth) {
            int start = start();
            String keyword = look();
            take();
            switch (keyword) {
                case "person": personItem(start); break;
                case "taster": tasterItem(); break;
                case "pancake": pancakeItem(start); break;
                case "bid":
                    int bidder = taster();
                    int wanted = cake();
                    model.person(bidder).bids[wanted] = number(0, 3);
                    break;
                case "together": togetherItem(); break;
                case "conflict":
                    int foe = someone();
                    int where = start();
                    must(model.person(foe).declared.add(cake()), 4, where);
                    break;
                case "seat":
                    int sitter = someone();
                    int seat = start();
                    int cake = cake();
                    must(model.refusalOf(sitter, cake) == 0, 4, seat);
                    model.cake(cake).tasters.add(sitter);
                    break;
                case "fill": model.fillNow(); break;
                case "leave":
                    int leaver = someone();
                    Cake left = model.cake(seated(leaver));
                    left.tasters.remove((Integer) leaver);
                    left.scores.remove(leaver);
                    break;
                case "score":
                    int judge = someone();
                    Cake judged = model.cake(seated(judge));
                    judged.scores.put(judge, number(1, 9));
                    break;
                case "talk": model.talkNow(scored()); break;
                case "repeat": repeatItem(start, depth); break;
                default: otherItem(keyword, start);
            }
        }

        private void otherItem(String keyword, int start) {
            switch (keyword) {
                case "limit": model.person(taster()).limit = number(1, 6); break;
                case "kitchen": model.person(someone()).kitchen = number(0, 9); break;
                case "swap":
                    Cake one = model.cake(cake());
                    int position = start();
                    Cake other = model.cake(cake());
                    must(one != other, 3, position);
                    int topic = one.topic;
                    one.topic = other.topic;
                    other.topic = topic;
                    break;
                case "clear":
                    Cake cleared = model.cake(cake());
                    cleared.tasters.clear();
                    cleared.scores.clear();
                    break;
                case "even":
                    Cake level = scored();
                    int middle = middle(level);
                    level.scores.replaceAll((person, score) -> middle);
                    break;
                case "copy":
                    int from = taster();
                    int second = start();
                    int to = taster();
                    must(from != to, 3, second);
                    model.person(to).bids = model.person(from).bids.clone();
                    break;
                default:
                    throw error(1, start);
            }
        }

        private void personItem(int start) {
            must(model.persons.size() < 16, 4, start);
            Person person = new Person();
            int position = start();
            person.name = name();
            must(find(person.name) < 0, 3, position);
            person.kitchen = number(0, 9);
            model.persons.add(person);
        }

        private void tasterItem() {
            int start = start();
            Person person = model.person(someone());
            must(person.limit == 0, 3, start);
            int limit = number(1, 6);
            Arrays.setAll(person.tastes, topic -> number(0, 9));
            person.limit = limit;
        }

        private void pancakeItem(int start) {
            must(model.cakes.size() < 10, 4, start);
            Cake cake = new Cake();
            cake.topic = number(0, 3);
            do {
                int position = start();
                int cook = someone();
                must(!cake.cooks.contains(cook), 3, position);
                must(cake.cooks.size() < 3, 4, position);
                cake.cooks.add(cook);
            } while (look().matches("[a-z]+|\0{9,}") && !look().startsWith("\0"));
            model.cakes.add(cake);
        }

        private void togetherItem() {
            int one = someone();
            int start = start();
            int other = someone();
            must(one != other && !model.person(one).partners.contains(other), 3, start);
            model.person(one).partners.add(other);
            model.person(other).partners.add(one);
        }

        private void repeatItem(int start, int depth) {
            must(depth < 2, 4, start);
            int count = number(1, 9);
            expect("(");
            int body = at;
            for (int pass = 0; pass < count; pass++) {
                at = body;
                item(depth + 1);
                while (look().equals(";")) {
                    take();
                    item(depth + 1);
                }
                expect(")");
            }
        }
    }
}
