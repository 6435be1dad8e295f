import java.io.IOException;
import java.nio.file.Files;
import java.nio.file.Path;
import java.util.BitSet;
import java.util.LinkedHashMap;
import java.util.List;
import java.util.Map;
import java.util.function.Function;
import java.util.function.IntUnaryOperator;
import java.util.function.Supplier;
import java.util.function.ToIntBiFunction;
import java.util.function.ToLongFunction;
import java.util.regex.Matcher;
import java.util.regex.Pattern;

/**
 * Tests of the document's sentences, each by its own words: words that don't stand once in their
 * section are wrong, and so are words of a section that no test has.
 */
final class Sentences {
    private static final Path DOCUMENT = Path.of("../shared/DOC.md");
    private final Due due = new Due();
    private final Map<String, String> sections = new LinkedHashMap<>();
    private final Map<String, BitSet> quoted = new LinkedHashMap<>();
    private String current = "";
    private int tests = 0;

    Sentences() {
        String text = read();
        Matcher term = Pattern.compile("(?m)^(I|II|III|IV)\\. (.*)(\\n\\n```text\\n(?s:.*?)```)?").matcher(text);
        while (term.find()) {
            add("Terms " + term.group(1), term.group(2) + (term.group(3) == null ? "" : term.group(3).replace("```text", "").replace("```", "")));
        }
        Matcher promise = Pattern.compile("(?m)^## (Promise \\d+): .*\\n\\n`[^`]*`: (.*)$").matcher(text);
        while (promise.find()) {
            add(promise.group(1), promise.group(2));
        }
        due.is("sections of the document", sections.size(), 70);
    }

    private static String read() {
        try {
            return Files.readString(DOCUMENT);
        } catch (IOException e) {
            throw new IllegalStateException("no document at " + DOCUMENT, e);
        }
    }

    private void add(String section, String text) {
        sections.put(section, text.replaceAll("\\s+", " ").trim());
        quoted.put(section, new BitSet());
    }

    private void quote(String section, String words) {
        String text = sections.getOrDefault(section, "");
        int at = text.indexOf(words);
        boolean once = at >= 0 && text.indexOf(words, at + 1) < 0;
        due.is(section + " has the words \"" + words + "\" once", once ? 1 : 0, 1);
        if (once) {
            quoted.get(section).set(at, at + words.length());
        }
    }

    /** One test, of words of a section. */
    void of(String section, String words, Runnable test) {
        quote(section, words);
        current = section + ", \"" + words + "\"";
        int before = due.asked();
        test.run();
        due.is(current + " is asked", due.asked() > before ? 1 : 0, 1);
        current = "";
        tests++;
    }

    void of(int promise, String words, Runnable test) {
        of("Promise " + promise, words, test);
    }

    void is(String call, long got, long want) {
        due.is(current + ": " + call, got, want);
    }

    /** The call answers so, and all that can be seen is as it would be without it. */
    void refused(String call, Supplier<DaughtersGate> setup, ToLongFunction<DaughtersGate> ask, long answer) {
        is(call, ask.applyAsLong(setup.get()), answer);
        alike(call + " leaves all as it was", setup, ask);
    }

    /** The call answers -2 for numbers below 0, and from a count on. */
    void noneSuch(String name, int count, IntUnaryOperator call) {
        for (int i : new int[] {-1, count, count + 1, Integer.MIN_VALUE, Integer.MAX_VALUE}) {
            is(name + "(" + i + ")", call.applyAsInt(i), -2);
        }
    }

    /** The call is refused for slots that are none, and changes nothing. */
    void noSuchSlot(ToIntBiFunction<DaughtersGate, Integer> call) {
        for (int slot : new int[] {-1, 4, 5, Integer.MIN_VALUE, Integer.MAX_VALUE}) {
            refused("slot " + slot, Setups::busy, x -> call.applyAsInt(x, slot), -2);
        }
    }

    /** All that can be seen is as it would be without the call. */
    void alike(String name, Supplier<DaughtersGate> setup, ToLongFunction<DaughtersGate> ask) {
        int part = 0;
        for (Function<DaughtersGate, List<Long>> seen : Probe.parts()) {
            DaughtersGate x = setup.get();
            ask.applyAsLong(x);
            is(name + ", part " + part, seen.apply(x).equals(seen.apply(setup.get())) ? 1 : 0, 1);
            part++;
        }
    }

    private void uncovered(String section) {
        String text = sections.get(section);
        for (int i = 0; i < text.length(); i++) {
            if (Character.isLetterOrDigit(text.charAt(i)) && !quoted.get(section).get(i)) {
                due.is(section + " has a test from \"" + text.substring(i) + "\" on", 0, 1);
                return;
            }
        }
    }

    void close() {
        for (String section : sections.keySet()) {
            uncovered(section);
        }
        due.close("bounds: " + tests + " sentences");
    }
}
