import java.lang.reflect.InvocationTargetException;
import java.lang.reflect.Method;
import java.util.ArrayList;
import java.util.Arrays;
import java.util.Collections;
import java.util.Comparator;
import java.util.List;
import java.util.Random;

/** Long runs of calls of all promises on the class and on the model: they answer alike, and nothing throws. */
public final class ModelTest {
    private static final String[] TOKENS = {"seats", "for", "first", "then", "come", "if", "or", "and", "not", "heard", "far", "speed", "minute", "children",
        "women", "men", "(", ")", "<", "=", ">", ";", "0", "7", "30", "999", "1000", "x", "-", "\u00ff", "or", "and", "not", "(", ")", ";"};
    private static final int[] EDGES = {Integer.MIN_VALUE, -1000000, -3, -2, -1, 0, 1, 2, 8, 9, 10, 60, 61, 100, 101, 999, 1000, 999999, Integer.MAX_VALUE};

    /** Parts of the face that are often used together, without much else. */
    private static final String[] PARTS = {"minutes minutes set set set wall door cell cell sunk sinks sounding many keep again",
        "way group boat most seat judge alterRow row order order order reach can minutes", "ship ready call hears comes light mayBe sure",
        "list names sworn takeBack standing minutes keep again", "feed read version lack rank must must must ship call minutes boat set", "leg run run run",
        "sheet put item sound shelf taken act act trace boat call light sworn set many keep again"};

    private static int wrong = 0;
    private static long asked = 0;

    public static void main(String[] args) throws Exception {
        int runs = args.length > 0 ? Integer.parseInt(args[0]) : 400;
        int seed = args.length > 1 ? Integer.parseInt(args[1]) : 1;
        Method[] face = Arrays.stream(HalfBoats.class.getDeclaredMethods()).filter(m -> java.lang.reflect.Modifier.isPublic(m.getModifiers()))
            .sorted(Comparator.comparing(Method::getName)).toArray(Method[]::new);
        for (int i = 0; i < runs && wrong < 10; i++) {
            run(face, new Random(seed * 100000L + i));
            if (i % 8 == 0) {
                explain(face, new Random(seed * 100000L + i));
            }
        }
        System.out.println("ModelTest: " + asked + " answers, " + wrong + " not as due");
        if (wrong != 0) {
            System.exit(1);
        }
    }

    private static void run(Method[] face, Random r) throws Exception {
        HalfBoats x = new HalfBoats();
        Model y = new Model();
        List<String> log = new ArrayList<>();
        List<Method> chosen = choose(face, r);
        int wild = r.nextInt(4) == 0 ? 4 : 40;
        int dear = 0;
        for (int i = 0; i < 500; i++) {
            Method m = chosen.get(r.nextInt(chosen.size()));
            boolean isDear = List.of("explained", "order", "run", "seat", "sinks").contains(m.getName());
            if (isDear && dear++ > (m.getName().equals("explained") ? 4 : 40)) {
                continue;
            }
            if (m.getName().equals("feed") && r.nextInt(3) > 0) {
                feedText(x, y, r, log);
                continue;
            }
            Object[] numbers = numbers(m, r, r.nextInt(wild) == 0, y);
            ask(m, numbers, x, y, log);
        }
        // Whatever came, all that can be asked without numbers is asked at the end.
        for (Method m : face) {
            if (m.getParameterCount() == 0) {
                ask(m, new Object[0], x, y, log);
            } else if (m.getName().equals("row")) {
                for (int i = 0; i < 90; i++) {
                    ask(m, new Object[] {i / 3, i % 3}, x, y, log);
                }
            }
        }
    }

    /** Either some of the face, or a part of it; so that some things grow full. */
    private static List<Method> choose(Method[] face, Random r) {
        if (r.nextBoolean()) {
            List<Method> some = new ArrayList<>(Arrays.asList(face));
            Collections.shuffle(some, r);
            return some.subList(0, 4 + r.nextInt(face.length - 3));
        }
        List<Method> part = new ArrayList<>();
        for (String name : PARTS[r.nextInt(PARTS.length)].split(" ")) {
            for (Method m : face) {
                if (m.getName().equals(name)) {
                    part.add(m);
                }
            }
        }
        return part;
    }

    /** SOUNDINGS as some HOLES would give them, or nearly so: THE EXPLANATION need not be those HOLES. */
    private static void explain(Method[] face, Random r) throws Exception {
        HalfBoats x = new HalfBoats();
        Model y = new Model();
        List<String> log = new ArrayList<>();
        for (int i = 0; i < 8; i++) {
            ask("set", face, x, y, log, i, 0, r.nextInt(3) == 0 ? 100 : 10 + r.nextInt(700));
            ask("set", face, x, y, log, i, 2, Math.max(0, r.nextInt(9) - 6));
            if (i < 7) {
                ask("wall", face, x, y, log, i, r.nextInt(3) == 0 ? 100 : r.nextInt(101));
                ask("door", face, x, y, log, i, r.nextInt(6) == 0);
            }
        }
        Model.Kept truth = y.k.copy();
        int holes = r.nextInt(256) & r.nextInt(256);
        int rate = 1 + r.nextInt(9);
        for (int i = 0; i < 8; i++) {
            truth.hole[i] = (holes >> i & 1) * rate;
        }
        int last = 1 + r.nextInt(60);
        int spare = r.nextInt(4);
        for (int m = 0; m <= last; m++) {
            for (int i = 0; i < 8; i++) {
                if (r.nextInt(last) == 0 || (m == last && r.nextBoolean())) {
                    int from = Math.max(0, truth.water[i] - r.nextInt(1 + spare));
                    int to = Math.min(999, truth.water[i] + r.nextInt(1 + spare));
                    ask("sounding", face, x, y, log, i, m, from, to);
                }
            }
            truth.minute();
        }
        ask("explained", face, x, y, log, 0);
        ask("explained", face, x, y, log, 1);
    }

    private static void ask(String name, Method[] face, HalfBoats x, Model y, List<String> log, Object... numbers) throws Exception {
        for (Method m : face) {
            if (m.getName().equals(name)) {
                ask(m, numbers, x, y, log);
            }
        }
    }

    private static void ask(Method m, Object[] numbers, HalfBoats x, Model y, List<String> log) throws Exception {
        Method second = Model.class.getDeclaredMethod(m.getName(), m.getParameterTypes());
        String call = m.getName() + Arrays.toString(numbers);
        log.add(call);
        Object want = second.invoke(y, numbers);
        Object got;
        try {
            got = m.invoke(x, numbers);
        } catch (InvocationTargetException e) {
            got = e.getCause();
        }
        asked++;
        if (!want.equals(got)) {
            wrong++;
            System.out.println("ModelTest: " + call + " answered " + got + ", due is " + want + " behind " + log);
        }
    }

    private static Object[] numbers(Method m, Random r, boolean wild, Model y) {
        Class<?>[] types = m.getParameterTypes();
        Object[] numbers = new Object[types.length];
        int[] greatest = ranges(m.getName(), y);
        for (int i = 0; i < types.length; i++) {
            if (types[i] == boolean.class) {
                numbers[i] = r.nextBoolean();
            } else if (types[i] == long.class) {
                numbers[i] = r.nextInt(3) == 0 ? r.nextLong() : 0x2020202020202020L;
            } else if (wild && r.nextBoolean()) {
                numbers[i] = EDGES[r.nextInt(EDGES.length)];
            } else {
                int least = greatest[2 * i];
                numbers[i] = least + r.nextInt(Math.max(1, greatest[2 * i + 1] - least + 1));
            }
        }
        if (m.getName().equals("set") && !wild && numbers[1].equals(0)) {
            numbers[2] = r.nextInt(4) > 0 ? 100 + r.nextInt(900) : 10 + r.nextInt(90);
        }
        return numbers;
    }

    /** For each number of a call the least and the greatest that are likely to be taken. */
    private static int[] ranges(String name, Model y) {
        int boats = y.k.boats.size();
        switch (name) {
            case "minutes": return new int[] {1, 12};
            case "set": return new int[] {0, 7, 0, 2, 0, 14};
            case "wall": return new int[] {0, 6, 0, 100};
            case "door": return new int[] {0, 6, 0, 1};
            case "cell": return new int[] {0, 7, 0, 2};
            case "sinks": return new int[] {-1, 6, 0, 100};
            case "sounding": return new int[] {0, 7, 0, 20, 0, 30, 20, 120};
            case "explained": return new int[] {0, 1};
            case "way": return new int[] {0, 7, 0, 7, 1, 20, 0, 60};
            case "group": return new int[] {1, 50, 0, 2, 0, 7, 0, 90};
            case "reach": return new int[] {0, y.k.groups.size(), 0, 7};
            case "boat": return new int[] {1, 65, 0, 7, 0, 120, 0, 1};
            case "can": return new int[] {0, y.k.groups.size()};
            case "row": return new int[] {0, 12, 0, 2};
            case "alterRow": return new int[] {0, 12, 0, 2, 0, 20};
            case "order": return new int[] {1, (1 << boats) - 1, 1, 30, -1, 5};
            case "ship": return new int[] {0, 9999, 1, 40, 0, 999, 0, 200};
            case "ready": return new int[] {0, 60};
            case "call": return new int[] {0, 300};
            case "hears": return new int[] {0, 9};
            case "comes": return new int[] {0, 6};
            case "light": return new int[] {0, 300, 0, 60, 30, 200};
            case "mayBe": return new int[] {0, 8};
            case "sure": return new int[] {0, 8};
            case "list": return new int[] {0, 2, 0, (1 << 30) - 1};
            case "names": return new int[] {0, 1};
            case "sworn": return new int[] {0, (1 << y.k.words.size()) - 1};
            case "takeBack": return new int[] {0, 12};
            case "standing": return new int[] {0, 200};
            case "feed": return new int[] {0, 0, 1, 8};
            case "version": return new int[] {0, 5, 0, 18};
            case "lack": return new int[] {0, 200};
            case "rank": return new int[] {0, 2, 0, 200};
            case "must": return new int[] {0, 5, 0, 200};
            case "leg": return new int[] {1, 99, 0, 9};
            case "run": return new int[] {0, 4000, -2, 6};
            case "sheet": return new int[] {0, 3, -1, 4, -1, 40};
            case "put": return new int[] {0, 3, 0, 39, -300, 300};
            case "item": return new int[] {0, 3, 0, 4, 0, 39};
            case "sound": return new int[] {0, 7, 0, 60, 0, 3, 0, 20, 0, 9};
            case "shelf": return new int[] {0, 3, 0, 6, 0, 7};
            case "taken": return new int[] {0, 3, 0, 14};
            case "act": return new int[] {0, 3, 0, 3, -1000, 1000};
            case "trace": return new int[] {0, 7};
            case "many": return new int[] {0, 15};
            default: return new int[0];
        }
    }

    private static void feedText(HalfBoats x, Model y, Random r, List<String> log) throws Exception {
        StringBuilder text = new StringBuilder();
        int lines = 1 + r.nextInt(r.nextInt(10) == 0 ? 10 : 3);
        for (int i = 0; i < lines; i++) {
            line(r, text);
        }
        if (r.nextInt(3) == 0) {
            // One token is put in, or some bytes are lost.
            int at = r.nextInt(text.length() + 1);
            if (r.nextBoolean()) {
                text.insert(at, " " + TOKENS[r.nextInt(TOKENS.length)] + " ");
            } else {
                text.delete(at, Math.min(text.length(), at + 1 + r.nextInt(4)));
            }
        }
        Method feed = HalfBoats.class.getDeclaredMethod("feed", long.class, int.class);
        for (int i = 0; i < text.length(); i += 8) {
            long eight = 0;
            int n = Math.min(8, text.length() - i);
            for (int b = 0; b < n; b++) {
                eight |= (long) (text.charAt(i + b) & 255) << 8 * b;
            }
            ask(feed, new Object[] {eight, n}, x, y, log);
        }
        if (r.nextInt(8) > 0) {
            log.add("that is: " + text);
            ask(HalfBoats.class.getDeclaredMethod("read"), new Object[0], x, y, log);
        }
    }

    private static void line(Random r, StringBuilder text) {
        int sort = r.nextInt(4);
        if (sort == 0) {
            text.append("seats ").append(r.nextInt(1000)).append(r.nextBoolean() ? " for " : "for").append(r.nextInt(500));
        } else if (sort == 1) {
            String[] kinds = {"children", "women", "men"};
            int n = 1 + r.nextInt(3);
            int first = r.nextInt(3);
            int step = 1 + r.nextInt(2);
            text.append("first ").append(kinds[first]);
            for (int i = 1; i < n; i++) {
                text.append(" then ").append(kinds[(first + i * step) % 3]);
            }
        } else {
            text.append("come if ");
            cond(r, text, 0);
        }
        text.append(r.nextBoolean() ? ";" : " ; ");
    }

    private static void cond(Random r, StringBuilder text, int open) {
        do {
            while (r.nextInt(4) == 0) {
                text.append("not ");
            }
            int what = r.nextInt(6);
            if (what < 2 && open < 5) {
                text.append("(");
                cond(r, text, open + 1);
                text.append(")");
            } else if (what == 2) {
                text.append("heard");
            } else {
                String[] names = {"far", "speed", "minute"};
                int[] near = {60, 20, 80};
                int name = r.nextInt(3);
                text.append(names[name]).append("<=>".charAt(r.nextInt(3))).append(r.nextInt(near[name]));
            }
            if (r.nextInt(2) == 0) {
                return;
            }
            text.append(r.nextBoolean() ? " or " : " and ");
        } while (text.length() < 190);
        text.append("heard");
    }
}
