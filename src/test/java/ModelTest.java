import java.util.ArrayList;
import java.util.List;
import java.util.NoSuchElementException;
import java.util.Random;

/** Long random runs of calls, each answer against the one of Model: all promises together. */
final class ModelTest {
    private static final int CALLS = 512;
    private static final int RUNS = 600;
    private static final int[] ODD = {-1, -2, -1000000, Integer.MIN_VALUE, Integer.MAX_VALUE, 10, 20, 21, 27, 28, 60, 200};

    private final Random random;
    private final KwicStore x = new KwicStore();
    private final Model model = new Model();
    private final List<String> calls = new ArrayList<>();

    private ModelTest(long seed) {
        random = new Random(seed);
    }

    public static void main(String[] args) {
        int runs = args.length > 0 ? Integer.parseInt(args[0]) : RUNS;
        int wrong = 0;
        for (int seed = 0; seed < runs && wrong < 3; seed++) {
            if (!new ModelTest(seed).agrees()) {
                System.out.println("ModelTest: seed " + seed);
                wrong++;
            }
        }
        System.out.println("ModelTest: " + runs + " runs of " + CALLS + " calls, " + wrong + " wrong");
        if (wrong != 0) {
            System.exit(1);
        }
    }

    private boolean agrees() {
        String letters = random.nextInt(3) == 0 ? "a" : random.nextBoolean() ? "ab_" : "abcxyz_";
        while (calls.size() < CALLS) {
            if (!(random.nextInt(3) == 0 ? change(letters) : ask())) {
                return false;
            }
        }
        return true;
    }

    /** Behind the last call of an object nothing is promised, so nothing is asked. */
    private boolean same(String name, long... n) {
        if (calls.size() >= CALLS) {
            return true;
        }
        long want = model.call(name, n);
        long got = answer(name, n);
        calls.add(name + java.util.Arrays.toString(n) + " = " + got);
        if (got == want) {
            return true;
        }
        System.out.println(String.join("\n", calls.subList(Math.max(0, calls.size() - 60), calls.size())));
        System.out.println("ModelTest: the last one is due " + want);
        return false;
    }

    /** Mostly a number below the bound, at times the bound, at times any. */
    private int number(int bound) {
        int odds = random.nextInt(24);
        return odds == 0 ? ODD[random.nextInt(ODD.length)] : odds == 1 ? random.nextInt(31) - 3 : random.nextInt(bound + 1);
    }

    private String signs(String letters, int most) {
        StringBuilder signs = new StringBuilder();
        int size = random.nextInt(12) == 0 ? most + random.nextInt(2) : 1 + random.nextInt(random.nextBoolean() ? most : 3);
        for (int i = 0; i < size; i++) {
            signs.append(letters.charAt(random.nextInt(letters.length())));
        }
        return signs.toString();
    }

    private String storeText(String letters) {
        List<String> lines = new ArrayList<>();
        for (int i = random.nextInt(random.nextInt(8) == 0 ? 9 : 5); i >= 0; i--) {
            lines.add(signs(letters, 20));
        }
        return String.join(";", lines);
    }

    private String scriptText(String letters) {
        List<String> steps = new ArrayList<>();
        for (int i = random.nextInt(random.nextInt(8) == 0 ? 13 : 6); i >= 0; i--) {
            int first = random.nextInt(random.nextInt(6) == 0 ? 10 : 3);
            int second = random.nextInt(random.nextInt(6) == 0 ? 10 : 4);
            char letter = "riridscppwbj".charAt(random.nextInt(12));
            String step = letter + "" + first;
            step += "scb".indexOf(letter) >= 0 ? "," + second : "";
            step += "ric".indexOf(letter) >= 0 ? ":" + signs(letters, letter == 'c' ? 2 : 9) : "";
            steps.add(step);
        }
        return String.join(";", steps);
    }

    private String bent(String text) {
        StringBuilder bent = new StringBuilder(text);
        for (int i = random.nextInt(5) - 2; i > 0; i--) {
            bent.insert(random.nextInt(bent.length() + 1), ' ');
        }
        if (random.nextInt(6) == 0) {
            char odd = " ;:,a_zAr09`{\u00ff".charAt(random.nextInt(14));
            int at = random.nextInt(bent.length() + 1);
            if (at < bent.length() && random.nextBoolean()) {
                bent.setCharAt(at, odd);
            } else {
                bent.insert(at, odd);
            }
        }
        return bent.toString();
    }

    private boolean tape(String text) {
        if (random.nextInt(30) != 0 && !same("end", 0)) {
            return false;
        }
        for (int from = 0; from < text.length(); from += 20) {
            long[] n = new long[5];
            for (int i = from; i < Math.min(from + 20, text.length()); i++) {
                n[(i - from) / 4] |= (long) text.charAt(i) << 24 - 8 * (i % 4);
            }
            for (int i = 0; i < 5; i++) {
                n[i] = (int) n[i];
            }
            if (!same("feed", n)) {
                return false;
            }
        }
        return same("fault", number(3));
    }

    private boolean change(String letters) {
        int lines = (int) model.call("count", 0);
        int what = random.nextInt(60);
        if (lines == 0 && random.nextInt(3) != 0 || what == 0) {
            return tape(bent(storeText(letters))) && same("text", 0);
        }
        if (what <= 2) {
            return tape(bent(scriptText(letters))) && same("text", 1) && same("run", number(1), number(1));
        }
        if (what <= 8) {
            return tape(bent(signs(letters, random.nextInt(4) == 0 ? 6 : 2))) && same("word");
        }
        if (what <= 16) {
            return tape(bent(signs(letters, 20))) && same("would", number(lines)) && same("set", number(lines));
        }
        if (what <= 21) {
            return tape(bent(signs(letters, 20))) && same("put", number(lines));
        }
        if (what <= 31) {
            return random.nextInt(3) == 0 ? same("lay", number(2), number(4)) : same("page", number(2));
        }
        if (what <= 40) {
            return same("undo");
        }
        switch (what) {
            case 41: case 42: return same("take", number(lines));
            case 43: case 44: case 45: return same("swap", number(lines), number(lines));
            case 46: case 47: case 48: return same("split", number(lines), number(8));
            case 49: case 50: case 51: return same("join", number(lines));
            case 52: return same("rewind", number(2));
            case 53: return same("ways", random.nextInt(4) == 0 ? number(41) : 1 + random.nextInt(6), random.nextLong());
            case 54: return same("image");
            case 55: return random.nextInt(3) != 0 || same("back");
            case 56: return same("end", number(12));
            case 57: return same("text", number(2));
            default: return same("perform", number(2));
        }
    }

    private boolean ask() {
        int lines = (int) Math.max(1, model.call("count", 0));
        int signs = (int) Math.max(1, model.call("rule", 1));
        int hits = (int) Math.max(1, model.call("rule", 2));
        switch (random.nextInt(21)) {
            case 0: return same("rule", number(4));
            case 1: return same("line", number(lines), number(1));
            case 2: return same("sign", number(lines), number(12));
            case 3: return same("hit", number(hits), number(3));
            case 4: return same("rank", number(lines), number(8));
            case 5: return same("all", number(signs), number(2));
            case 6: return same("twice", number(1));
            case 7: return same("unlike", number(6));
            case 8: return same("frequent", number(6), number(2));
            case 9: return same("few", number(lines), number(10));
            case 10: return same("beside", random.nextInt(2), random.nextBoolean() ? number(27) : number(3));
            case 11: case 12: return same("cursor", number(2), number(5));
            case 13: case 14: return same("told", number(2), number(4), number(1));
            case 15: return same("status", number(3));
            case 16: return same("log", random.nextInt(4) == 0 ? number(60) : number(3), number(2));
            case 17: return same("spell", number(hits), random.nextInt(3) == 0 ? -1 : number(16));
            case 18: return same("step", number(3), number(6), number(3));
            case 19: return same("most", number(6));
            default: return random.nextBoolean() ? same("count", number(5)) : same("run", number(2), number(1));
        }
    }

    private long answer(String name, long[] n) {
        int[] i = new int[5];
        for (int j = 0; j < n.length; j++) {
            i[j] = (int) n[j];
        }
        switch (name) {
            case "feed": return x.feed(i[0], i[1], i[2], i[3], i[4]);
            case "end": return x.end(i[0]) ? 1 : 0;
            case "fault": return x.fault(i[0]);
            case "text": return x.text(i[0]);
            case "word": return x.word();
            case "rule": return x.rule(i[0]);
            case "line": return lineOrThrown(i[0], i[1]);
            case "sign": return x.sign(i[0], i[1]);
            case "hit": return x.hit(i[0], i[1]);
            case "rank": return x.rank(i[0], i[1]);
            case "all": return x.all(i[0], i[1]);
            case "twice": return x.twice(i[0]);
            case "unlike": return x.unlike(i[0]);
            case "frequent": return x.frequent(i[0], i[1]);
            case "few": return x.few(i[0], i[1]);
            case "beside": return x.beside(i[0] == 1, i[1]);
            case "set": return x.set(i[0]);
            case "put": return x.put(i[0]);
            case "take": return x.take(i[0]);
            case "swap": return x.swap(i[0], i[1]);
            case "lay": return x.lay(i[0], i[1]);
            case "page": return x.page(i[0]);
            case "rewind": return x.rewind(i[0]);
            case "cursor": return x.cursor(i[0], i[1]);
            case "told": return x.told(i[0], i[1], i[2]);
            case "split": return x.split(i[0], i[1]);
            case "join": return x.join(i[0]);
            case "ways": return x.ways(i[0], n[1]);
            case "status": return x.status(i[0]);
            case "undo": return x.undo();
            case "log": return x.log(i[0], i[1]);
            case "spell": return x.spell(i[0], i[1]);
            case "would": return x.would(i[0]);
            case "step": return x.step(i[0], i[1], i[2]);
            case "run": return x.run(i[0], i[1]);
            case "perform": return x.perform(i[0]);
            case "most": return x.most(i[0]);
            case "image": return x.image();
            case "back": return x.back();
            case "count": return x.count(i[0]);
            default: throw new IllegalArgumentException(name);
        }
    }

    private long lineOrThrown(int k, int what) {
        try {
            return x.line(k, what);
        } catch (NoSuchElementException e) {
            return Model.THROWN;
        }
    }
}
