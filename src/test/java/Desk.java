import java.nio.charset.StandardCharsets;
import java.util.ArrayList;
import java.util.List;

/**
 * A MatroidDesk for tests: takes scripts as texts, and keeps to the 512 calls that an object is promised for
 * by making a new one, with the same scripts behind it, when the old one has had them.
 */
final class Desk {
    private static final int MOST_CALLS = 512;

    private final List<byte[]> scripts = new ArrayList<>();
    private MatroidDesk desk = new MatroidDesk();
    private int calls;

    int run(String script) {
        return run(script.getBytes(StandardCharsets.ISO_8859_1));
    }

    int run(byte[] script) {
        if (calls + script.length / 20 + 3 > MOST_CALLS) {
            renew();
        }
        scripts.add(script);
        return play(script);
    }

    /** The object, for one call. */
    MatroidDesk one() {
        if (calls >= MOST_CALLS) {
            renew();
        }
        calls++;
        return desk;
    }

    String product() {
        StringBuilder text = new StringBuilder();
        int length = one().printed();
        for (int i = 0; i < length; i++) {
            text.append((char) one().out(i));
        }
        return text.toString();
    }

    static void feed(MatroidDesk desk, byte[] script) {
        for (int at = 0; at < script.length; at += 20) {
            int[] five = new int[5];
            for (int i = 0; i < 20; i++) {
                int one = at + i < script.length ? script[at + i] & 255 : 0;
                five[i / 4] |= one << 24 - 8 * (i % 4);
            }
            desk.feed(five[0], five[1], five[2], five[3], five[4]);
        }
    }

    private int play(byte[] script) {
        feed(desk, script);
        desk.end(script.length);
        calls += (script.length + 19) / 20 + 2;
        return desk.run();
    }

    private void renew() {
        desk = new MatroidDesk();
        calls = 0;
        for (byte[] script : scripts) {
            play(script);
        }
        if (calls >= MOST_CALLS) {
            throw new AssertionError("the scripts of a test take more calls than there are");
        }
    }
}
