import java.math.BigInteger;

/** The document's sums once more, word by word and slow, in numbers without a limit. */
final class PlainSums {
    private static final BigInteger[] P = {
        null, big("2654435761"), big("2246822519"), big("3266489917"), big("668265263"), big("374761393")};
    private static final BigInteger[] Q = {
        null, big("11400714785074694791"), big("14029467366897019727"), big("1609587929392839161"),
        big("9650029242287828579"), big("2870177450012600261")};

    private PlainSums() {
    }

    static int narrow(byte[] bytes, int from, int to, int seed) {
        int n = to - from;
        int at = from;
        BigInteger s = cut(BigInteger.valueOf(seed), 32);
        BigInteger h;
        if (n >= 16) {
            BigInteger[] lanes = {s.add(P[1]).add(P[2]), s.add(P[2]), s, s.subtract(P[1])};
            while (to - at >= 16) {
                for (int i = 0; i < 4; i++) {
                    lanes[i] = rotated(lanes[i].add(word(bytes, at, 4).multiply(P[2])), 13, 32).multiply(P[1]);
                    at += 4;
                }
            }
            h = ofLanes(lanes, 32);
        } else {
            h = s.add(P[5]);
        }
        h = h.add(BigInteger.valueOf(n));
        while (to - at >= 4) {
            h = rotated(h.add(word(bytes, at, 4).multiply(P[3])), 17, 32).multiply(P[4]);
            at += 4;
        }
        while (at < to) {
            h = rotated(h.add(word(bytes, at, 1).multiply(P[5])), 11, 32).multiply(P[1]);
            at++;
        }
        h = folded(h, 15, 32).multiply(P[2]);
        h = folded(h, 13, 32).multiply(P[3]);
        return folded(h, 16, 32).intValue();
    }

    static long wide(byte[] bytes, int from, int to, long seed) {
        int n = to - from;
        int at = from;
        BigInteger s = cut(BigInteger.valueOf(seed), 64);
        BigInteger h;
        if (n >= 32) {
            BigInteger[] lanes = {s.add(Q[1]).add(Q[2]), s.add(Q[2]), s, s.subtract(Q[1])};
            while (to - at >= 32) {
                for (int i = 0; i < 4; i++) {
                    lanes[i] = rotated(lanes[i].add(word(bytes, at, 8).multiply(Q[2])), 31, 64).multiply(Q[1]);
                    at += 8;
                }
            }
            h = ofLanes(lanes, 64);
            for (BigInteger lane : lanes) {
                BigInteger turned = cut(rotated(lane.multiply(Q[2]), 31, 64).multiply(Q[1]), 64);
                h = cut(h, 64).xor(turned).multiply(Q[1]).add(Q[4]);
            }
        } else {
            h = s.add(Q[5]);
        }
        h = h.add(BigInteger.valueOf(n));
        while (to - at >= 8) {
            BigInteger turned = cut(rotated(word(bytes, at, 8).multiply(Q[2]), 31, 64).multiply(Q[1]), 64);
            h = rotated(cut(h, 64).xor(turned), 27, 64).multiply(Q[1]).add(Q[4]);
            at += 8;
        }
        if (to - at >= 4) {
            BigInteger turned = cut(word(bytes, at, 4).multiply(Q[1]), 64);
            h = rotated(cut(h, 64).xor(turned), 23, 64).multiply(Q[2]).add(Q[3]);
            at += 4;
        }
        while (at < to) {
            BigInteger turned = cut(word(bytes, at, 1).multiply(Q[5]), 64);
            h = rotated(cut(h, 64).xor(turned), 11, 64).multiply(Q[1]);
            at++;
        }
        h = folded(h, 33, 64).multiply(Q[2]);
        h = folded(h, 29, 64).multiply(Q[3]);
        return folded(h, 32, 64).longValue();
    }

    static int poly(byte[] bytes, int from, int to) {
        long register = 4294967295L;
        for (int k = from; k < to; k++) {
            for (int bit = 0; bit < 8; bit++) {
                register = step(register, bytes[k] >> bit & 1);
            }
        }
        return (int) (4294967295L - register);
    }

    private static long step(long register, int bit) {
        long taken = register % 2 ^ bit;
        return taken == 1 ? register / 2 ^ 2197175160L : register / 2;
    }

    static int masked(int x) {
        return rotated(cut(BigInteger.valueOf(x), 32), 17, 32).add(big("2726488792")).intValue();
    }

    /** A register after 8 * n steps, one after the other. */
    static int stepped(int register, int n) {
        long moved = register & 4294967295L;
        for (int i = 0; i < 8 * n; i++) {
            moved = step(moved, 0);
        }
        return (int) moved;
    }

    /** The same for any n without a sign, by tables of what each single bit becomes, each twice the way of the last. */
    static int movedOn(int register, long n) {
        int[] way = new int[32];
        for (int bit = 0; bit < 32; bit++) {
            way[bit] = stepped(1 << bit, 1);
        }
        int result = register;
        for (int i = 0; i < 64; i++) {
            if ((n >>> i) % 2 != 0) {
                result = led(way, result);
            }
            int[] twice = new int[32];
            for (int bit = 0; bit < 32; bit++) {
                twice[bit] = led(way, way[bit]);
            }
            way = twice;
        }
        return result;
    }

    private static int led(int[] way, int register) {
        int result = 0;
        for (int bit = 0; bit < 32; bit++) {
            if ((register >>> bit) % 2 != 0) {
                result ^= way[bit];
            }
        }
        return result;
    }

    private static BigInteger big(String digits) {
        return new BigInteger(digits);
    }

    private static BigInteger cut(BigInteger x, int bits) {
        return x.mod(BigInteger.ONE.shiftLeft(bits));
    }

    private static BigInteger rotated(BigInteger x, int k, int bits) {
        BigInteger rest = cut(x, bits);
        return cut(rest.shiftLeft(k), bits).add(rest.shiftRight(bits - k));
    }

    private static BigInteger folded(BigInteger h, int k, int bits) {
        BigInteger rest = cut(h, bits);
        return rest.xor(rest.shiftRight(k));
    }

    private static BigInteger ofLanes(BigInteger[] lanes, int bits) {
        return rotated(lanes[0], 1, bits).add(rotated(lanes[1], 7, bits))
            .add(rotated(lanes[2], 12, bits)).add(rotated(lanes[3], 18, bits));
    }

    private static BigInteger word(byte[] bytes, int at, int n) {
        BigInteger word = BigInteger.ZERO;
        for (int i = n - 1; i >= 0; i--) {
            word = word.shiftLeft(8).add(BigInteger.valueOf(bytes[at + i] & 255));
        }
        return word;
    }
}
