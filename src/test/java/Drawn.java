import java.math.BigInteger;
import java.util.ArrayList;
import java.util.List;

/** DRAWS and NOISE by numbers without bounds. */
final class Drawn {
    private Drawn() {
    }

    /** What a seed is behind n steps, by numbers without bounds. */
    static BigInteger stepped(long seed, int n) {
        BigInteger round = BigInteger.ONE.shiftLeft(64);
        BigInteger state = BigInteger.valueOf(seed).mod(round);
        for (int k = 0; k < n; k++) {
            state = state.multiply(new BigInteger("6364136223846793005")).add(new BigInteger("1442695040888963407"));
            state = state.mod(round);
        }
        return state;
    }

    /** The n-th draw, of m. */
    static int draw(long seed, int n, int m) {
        return stepped(seed, n).shiftRight(33).mod(BigInteger.valueOf(m)).intValue();
    }

    /** A seed whose first draws of 3 are these. */
    static long seedOf(int... sorts) {
        for (long seed = 0; ; seed++) {
            boolean fits = true;
            for (int k = 0; k < sorts.length; k++) {
                fits &= draw(seed, k + 1, 3) == sorts[k];
            }
            if (fits) {
                return seed;
            }
        }
    }

    /** What NOISE makes of bytes, by draws without bounds; the LINE isn't full. */
    static String noised(int n, long seed, int... bytes) {
        List<Integer> line = new ArrayList<>();
        for (int v : bytes) {
            line.add(v);
        }
        int drawn = 0;
        for (int k = 0; k < n; k++) {
            int sort = draw(seed, ++drawn, 3);
            if (sort == 2) {
                int where = draw(seed, ++drawn, line.size() + 1);
                line.add(where, draw(seed, ++drawn, 255) + 1);
            } else if (!line.isEmpty()) {
                int where = draw(seed, ++drawn, line.size());
                if (sort == 0) {
                    line.set(where, line.get(where) ^ (draw(seed, ++drawn, 255) + 1));
                } else {
                    line.remove(where);
                }
            }
        }
        return line.toString().replaceAll("[\\[\\],]", "");
    }
}
