import java.io.IOException;
import java.nio.file.DirectoryStream;
import java.nio.file.Files;
import java.nio.file.Path;
import java.util.ArrayList;
import java.util.List;

/**
 * Makes the calls that stand in src/test/runs, each line with the answers that are due behind " = ".
 * "java RunsTest write" puts in their place what the class answers now, to be looked at as a difference.
 */
public final class RunsTest {
    private static final int MOST_CALLS = 512;

    private PadConsole x;
    private int calls;
    private final StringBuilder answers = new StringBuilder();

    private RunsTest() {
    }

    public static void main(String[] args) throws IOException {
        boolean write = args.length > 0 && args[0].equals("write");
        List<Path> files = new ArrayList<>();
        try (DirectoryStream<Path> found = Files.newDirectoryStream(Path.of("src/test/runs"), "*.txt")) {
            found.forEach(files::add);
        }
        files.sort(null);
        Due.be("how many files of runs", files.size() > 0, true);
        for (Path file : files) {
            new RunsTest().go(file, write);
        }
        Due.end("RunsTest");
    }

    private void go(Path file, boolean write) throws IOException {
        List<String> lines = Files.readAllLines(file);
        List<String> then = new ArrayList<>();
        for (int i = 0; i < lines.size(); i++) {
            String line = lines.get(i);
            if (line.isEmpty() || line.startsWith("#")) {
                then.add(line);
                continue;
            }
            int end = line.indexOf(" = ");
            String call = end < 0 ? line : line.substring(0, end);
            answers.setLength(0);
            make(call.split(" "));
            String got = answers.toString();
            then.add(got.isEmpty() ? call : call + " = " + got);
            if (!write) {
                Due.be(file.getFileName() + ":" + (i + 1) + ": " + call, got, end < 0 ? "" : line.substring(end + 3));
            }
        }
        if (write) {
            Files.write(file, then);
        }
    }

    /** One call, or one of the words below that stand for several. */
    private void make(String[] words) {
        long[] a = new long[Math.max(words.length + 3, 32)];
        for (int i = 1; i < words.length; i++) {
            a[i - 1] = Long.parseLong(words[i]);
        }
        int n = words.length - 1;
        switch (words[0]) {
            case "new":
                x = new PadConsole((int) a[0]);
                calls = 0;
                break;
            case "ram":
                for (int i = 1; i < n; i++) {
                    call("poke", a[0] + i - 1, a[i]);
                }
                break;
            case "setall":
                for (int k = 0; k < n; k++) {
                    call("set", k, a[k]);
                }
                break;
            case "registers": each("register", 0, 26); break;
            case "chips": each("chip", 0, 25); break;
            case "sounds": each("sound", 0, 18); break;
            case "waves": each("wave", a[0], a[1]); break;
            case "rows": each("row", a[0], a[1]); break;
            case "peeks": each("peek", a[0], a[1]); break;
            case "looks": each("look", 0, 18); break;
            case "hears": times("hear", a[0]); break;
            case "mixes": times("mix", a[0]); break;
            case "instruction": instruction(a[0]); break;
            default: call(words[0], a); break;
        }
    }

    private void each(String name, long from, long to) {
        for (long k = from; k <= to; k++) {
            call(name, k);
        }
    }

    private void times(String name, long n) {
        for (long k = 0; k < n; k++) {
            call(name);
        }
    }

    /** tell(), and behind its answer all of TEXT. */
    private void instruction(long address) {
        call("tell", address);
        int length = (int) x.look(18);
        calls += 1 + (length + 7) / 8;
        answers.append(' ');
        for (int k = 0; k < length; k += 8) {
            long eight = x.text(k);
            for (int i = 0; i < 8 && k + i < length; i++) {
                answers.append((char) (eight >>> 8 * i & 255));
            }
        }
    }

    private void call(String name, long... given) {
        long[] a = java.util.Arrays.copyOf(given, Math.max(given.length, 4));
        calls++;
        if (calls > MOST_CALLS) {
            throw new IllegalStateException("a run of more than 512 calls");
        }
        String answer;
        try {
            answer = answer(name, a, (int) a[0], (int) a[1]);
        } catch (RuntimeException e) {
            answer = "throws." + e.getClass().getSimpleName();
        }
        if (!answer.isEmpty()) {
            answers.append(answers.length() > 0 ? " " : "").append(answer);
        }
    }

    private String answer(String name, long[] a, int i, int j) {
        switch (name) {
            case "feed": return "" + x.feed(i, a[1], a[2], a[3]);
            case "grow": return "" + x.grow(i);
            case "patch": x.patch(i, a[1]); return "";
            case "load": return "" + x.load();
            case "card": return "" + x.card(i);
            case "step": return "" + x.step(i);
            case "picture": return "" + x.picture(i);
            case "reset": x.reset(); return "";
            case "pause": return x.pause() ? "1" : "0";
            case "press": x.press(i, j); return "";
            case "start": x.start(i != 0); return "";
            case "line": x.line(i, j != 0); return "";
            case "plan": return "" + x.plan(i, j, (int) a[2]);
            case "tell": return "" + x.tell(i);
            case "text": return "" + x.text(i);
            case "stop": return "" + x.stop(i, j != 0);
            case "save": x.save(); return "";
            case "restore": x.restore(); return "";
            case "register": return "" + x.register(i);
            case "set": x.set(i, j); return "";
            case "peek": return "" + x.peek(i);
            case "poke": x.poke(i, j); return "";
            case "in": return "" + x.in(i);
            case "out": x.out(i, j); return "";
            case "battery": return "" + x.battery(i);
            case "wipe": x.wipe(); return "";
            default: return answerOfChips(name, i, j);
        }
    }

    private String answerOfChips(String name, int i, int j) {
        switch (name) {
            case "video": return "" + x.video(i);
            case "chip": return "" + x.chip(i);
            case "dot": return "" + x.dot(i, j);
            case "row": return "" + x.row(i);
            case "hear": return "" + x.hear();
            case "mix": return "" + x.mix();
            case "wave": return "" + x.wave(i);
            case "sound": return "" + x.sound(i);
            case "trace": return "" + x.trace(i);
            case "look": return "" + x.look(i);
            default: throw new UnsupportedOperationException(name);
        }
    }
}
