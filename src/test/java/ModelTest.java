import java.lang.reflect.InvocationTargetException;
import java.lang.reflect.Method;
import java.lang.reflect.Modifier;
import java.nio.charset.StandardCharsets;
import java.util.ArrayList;
import java.util.Arrays;
import java.util.LinkedHashMap;
import java.util.List;
import java.util.Map;
import java.util.Random;
import java.util.TreeMap;

/**
 * Runs of calls by chance, on SockFair and on Model beside it: every answer and every exception must be
 * the same. Arguments: how many runs (300), the first seed (1).
 */
public final class ModelTest {
    private static final Map<String, Method> FACE = new TreeMap<>();
    private static final Map<String, Method> MODEL = new TreeMap<>();
    private static final Map<String, Integer> SPREAD = new TreeMap<>();

    // How often each call comes, against the others.
    private static final Map<String, Integer> WEIGHTS = new LinkedHashMap<>();

    private final Random chance;
    private final SockFair fair = new SockFair();
    private final Model model = new Model();
    private final List<String> log = new ArrayList<>();
    private boolean wrong;

    private ModelTest(long seed) {
        chance = new Random(seed);
    }

    public static void main(String[] args) {
        int runs = args.length > 0 ? Integer.parseInt(args[0]) : 300;
        long first = args.length > 1 ? Long.parseLong(args[1]) : 1;
        for (Method m : SockFair.class.getDeclaredMethods()) {
            if (Modifier.isPublic(m.getModifiers())) {
                FACE.put(m.getName(), m);
            }
        }
        for (Method m : Model.class.getDeclaredMethods()) {
            if (FACE.containsKey(m.getName())
                && Arrays.equals(m.getParameterTypes(), FACE.get(m.getName()).getParameterTypes())) {
                MODEL.put(m.getName(), m);
            }
        }
        if (!MODEL.keySet().equals(FACE.keySet())) {
            System.out.println("the model lacks calls of the face");
            System.exit(1);
        }
        for (String name : FACE.keySet()) {
            WEIGHTS.put(name, 3);
        }
        for (String name : new String[] {"dye", "darn", "see", "way", "rests", "then"}) {
            WEIGHTS.put(name, 5);
        }
        WEIGHTS.put("feed", 1);
        WEIGHTS.put("fair", 1);
        WEIGHTS.put("colour", 1);
        int failed = 0;
        for (int i = 0; i < runs && failed < 3; i++) {
            ModelTest run = new ModelTest(first + i);
            run.go();
            if (run.wrong) {
                failed++;
                System.out.println("seed " + (first + i) + ":");
                run.log.forEach(line -> System.out.println("  " + line));
            }
        }
        if (args.length > 0) {
            System.out.println(SPREAD);
        }
        System.out.println(failed == 0 ? runs + " runs as the model's" : failed + " runs unlike the model's");
        System.exit(failed == 0 ? 0 : 1);
    }

    private void go() {
        int calls = 0;
        tell(goodText());
        while (calls < 120 && !wrong) {
            calls++;
            int kind = chance.nextInt(40);
            if (kind == 0) {
                tell(goodText());
            } else if (kind == 1) {
                tell(spoilt(goodText()));
            } else {
                String name = anyName();
                call(name, argumentsOf(name));
            }
        }
    }

    private String anyName() {
        int all = WEIGHTS.values().stream().mapToInt(w -> w).sum();
        int at = chance.nextInt(all);
        for (Map.Entry<String, Integer> e : WEIGHTS.entrySet()) {
            at -= e.getValue();
            if (at < 0) {
                return e.getKey();
            }
        }
        throw new IllegalStateException();
    }

    // ---- calls ----

    private void call(String name, int... args) {
        Object[] boxed = Arrays.stream(args).boxed().toArray();
        String due = answer(MODEL.get(name), model, boxed);
        String got = answer(FACE.get(name), fair, boxed);
        log.add(name + Arrays.toString(args) + " answered " + got + (due.equals(got) ? "" : ", due is " + due));
        wrong |= !due.equals(got);
        String sort = due.startsWith("throws") ? "throws" : due.equals("-1") ? "none" : due.equals("0") ? "0" : "some";
        SPREAD.merge(name + "." + sort, 1, Integer::sum);
    }

    private static String answer(Method m, Object on, Object[] args) {
        try {
            m.setAccessible(true);
            Object got = m.invoke(on, args);
            if (got instanceof Boolean b) {
                return b ? "1" : "0";
            }
            return got == null ? "nothing" : got.toString();
        } catch (InvocationTargetException e) {
            return "throws " + e.getCause().getClass().getName();
        } catch (IllegalAccessException e) {
            throw new IllegalStateException(e);
        }
    }

    private int[] argumentsOf(String name) {
        switch (name) {
            case "feed": return new int[] {chance.nextInt(), 0x20202020, chance.nextInt(), 0x31323334, 0x3b3b3b3b};
            case "fair": return new int[] {chance.nextBoolean() ? -1 - chance.nextInt(3) : model.count(7) + 1};
            case "count": return new int[] {within(0, 10)};
            case "person": return new int[] {somebody(), within(0, 8)};
            case "hold": return new int[] {within(1, chance.nextInt(6) == 0 ? 20 : 2)};
            case "dye": return new int[] {somebody(), within(0, 9)};
            case "darn": return new int[] {somebody(), within(chance.nextBoolean() ? 5 : 1, 9)};
            case "then": return new int[] {somebody(), within(0, chance.nextBoolean() ? 30 : 8)};
            case "couples":
            case "single": return new int[] {within(0, chance.nextBoolean() ? 30 : 8)};
            case "most":
            case "rests": return new int[] {chance.nextInt(3) == 0 ? -1 : somebody()};
            case "way":
            case "game": return new int[] {somebody(), somebody(), within(0, 1)};
            case "see": return seen();
            case "dyed": return new int[] {within(0, 2)};
            case "next":
            case "colour": return new int[] {within(0, 1)};
            case "basket": return new int[] {within(1, 9), within(0, 2)};
            case "generations": return new int[] {chance.nextInt(), within(0, 60), within(0, 2)};
            default:
                int[] people = new int[FACE.get(name).getParameterCount()];
                for (int i = 0; i < people.length; i++) {
                    people[i] = somebody();
                }
                return people;
        }
    }

    /** What would be so, mostly, that more than one sight may hold. */
    private int[] seen() {
        int person = somebody();
        int fairs = within(1, chance.nextInt(4) == 0 ? 20 : 6);
        int other = chance.nextInt(3) == 0 ? -1 : somebody();
        if (chance.nextInt(4) != 0 && person >= 0 && person < model.count(0) && fairs >= 0 && fairs <= 30) {
            other = model.then(person, fairs);
        }
        return new int[] {person, fairs, other};
    }

    private int somebody() {
        int people = model.count(0);
        return chance.nextInt(25) == 0 || people == 0 ? within(-2, people + 1) : chance.nextInt(people);
    }

    private int within(int low, int high) {
        if (chance.nextInt(25) == 0) {
            return new int[] {low - 1, high + 1, Integer.MIN_VALUE, Integer.MAX_VALUE}[chance.nextInt(4)];
        }
        return low + chance.nextInt(high - low + 1);
    }

    // ---- texts ----

    private void tell(String text) {
        byte[] bytes = text.getBytes(StandardCharsets.ISO_8859_1);
        if (bytes.length > 700) {
            bytes = Arrays.copyOf(bytes, 700);
        }
        if (model.count(7) > 0) {
            call("fair", 0);
        }
        for (int at = 0; at < bytes.length; at += 20) {
            byte[] twenty = Arrays.copyOf(Arrays.copyOfRange(bytes, at, Math.min(bytes.length, at + 20)), 20);
            int[] numbers = new int[5];
            for (int i = 0; i < 20; i++) {
                numbers[i / 4] = numbers[i / 4] << 8 | twenty[i] & 255;
            }
            call("feed", numbers);
        }
        log.add("the text: " + text);
        call("fair", bytes.length);
        call("fault");
    }

    private String goodText() {
        StringBuilder text = new StringBuilder();
        int people = chance.nextInt(12) == 0 ? chance.nextInt(3) : 3 + chance.nextInt(8);
        int spread = 1 + chance.nextInt(4);
        String alike = chance.nextInt(3) == 0 ? "" : "alike " + alikeRule() + ";";
        String likes = chance.nextInt(3) == 0 ? "" : "likes " + likesRule() + ";";
        if (chance.nextBoolean()) {
            text.append(likes).append(alike);
        }
        for (int i = 0; i < people; i++) {
            text.append(new String[] {"plain", "striped", "argyle", "heeled"}[chance.nextInt(Math.min(4, spread))]);
            text.append(' ').append(chance.nextInt(10));
            text.append(' ').append(chance.nextInt(spread));
            text.append(' ').append(1 + chance.nextInt(spread * 7));
            text.append(' ').append(chance.nextInt(3) == 0 ? chance.nextInt(10) : chance.nextInt(4));
            text.append(' ').append(chance.nextInt(21)).append(blank("")).append(';').append(blank(""));
        }
        for (int i = 0; i + 1 < people; i += 2) {
            if (chance.nextInt(6) == 0) {
                text.append("bound ").append(i).append(blank(" ")).append(i + 1).append(';');
            }
        }
        if (text.indexOf("like") < 0) {
            text.append(alike).append(likes);
        }
        return text.toString();
    }

    private String blank(String else_) {
        int kind = chance.nextInt(10);
        return kind == 0 ? "\n" : kind == 1 ? "  " : else_;
    }

    private String alikeRule() {
        String[] values = {"colours", "sizes", "holes", "worn", "pattern", "wool", "plain"};
        int kind = chance.nextInt(4);
        if (kind == 0) {
            return (5 + chance.nextInt(15)) + "-colours-sizes/" + (1 + chance.nextInt(4)) + "+wool*"
                + chance.nextInt(6) + "-worn/" + (1 + chance.nextInt(5));
        }
        if (kind == 1) {
            return expr(values, 0) + " - " + expr(values, 0);
        }
        return expr(values, chance.nextInt(3));
    }

    private String likesRule() {
        String[] values = {"alike", "charm", "own", "size", "holes"};
        return chance.nextBoolean() ? "charm * " + (1 + chance.nextInt(9)) + " - holes" : expr(values, chance.nextInt(3));
    }

    private String expr(String[] values, int depth) {
        StringBuilder text = new StringBuilder();
        int parts = 1 + chance.nextInt(depth > 1 ? 2 : 4);
        for (int i = 0; i < parts; i++) {
            boolean loose = i == 0;
            if (i > 0) {
                String[] joins = {"+", "-", "*", "/", "<", "=", " and ", " or ", "+", "-"};
                String join = joins[chance.nextInt(joins.length)];
                // A second test must stand behind another 'and' or 'or'.
                join = (join.equals("<") || join.equals("=")) && text.toString().matches("(?s).*[<=].*") ? "+" : join;
                loose = join.equals(" and ") || join.equals(" or ");
                text.append(join);
            }
            for (int k = 0; loose && k < 3 && chance.nextInt(12) == 0; k++) {
                text.append("not ");
            }
            int kind = chance.nextInt(8);
            if (kind == 0 && depth < 5) {
                text.append('(').append(expr(values, depth + 1)).append(')');
            } else if (kind < 5) {
                text.append(values[chance.nextInt(values.length)]);
            } else {
                text.append(chance.nextInt(6) == 0 ? chance.nextInt(10000) : chance.nextInt(12));
            }
            text.append(blank(""));
        }
        return text.toString();
    }

    private String spoilt(String good) {
        StringBuilder text = new StringBuilder(good);
        int times = 1 + chance.nextInt(2);
        for (int i = 0; i < times; i++) {
            int at = text.length() == 0 ? 0 : chance.nextInt(text.length());
            String[] bits = {"(", ")", ";", "not ", "not not not not not not not ", "12345", "plain ", "bound 0 1;",
                "bound 3 3;", "bound 9 10;", "alike ", "likes 1;", "alike 1;", "\u00e9", "\u0000", ">", "((((((", "))",
                "(((((( 1", "((((((not", "((((((zz", "((((((;", "or", " and ", "=", "<", "colours", "charm", "z", " 10 ",
                "00001", "0001", "\t", "A", "+not 1", "likes "};
            switch (chance.nextInt(4)) {
                case 0: text.setLength(at); break;
                case 1: text.delete(at, Math.min(text.length(), at + 1 + chance.nextInt(3))); break;
                default: text.insert(at, bits[chance.nextInt(bits.length)]); break;
            }
        }
        return text.toString();
    }
}
