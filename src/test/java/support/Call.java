/** One call of the face, which can be made on an object; its answer is a text. */
record Call(String name, long... numbers) {
    static final String DONE = "done";

    int at(int i) {
        return (int) numbers[i];
    }

    /** What the call answers, or the name of what it throws. */
    String on(SoundPacker x) {
        try {
            return answer(x);
        } catch (RuntimeException e) {
            return e.getClass().getSimpleName();
        }
    }

    private String answer(SoundPacker x) {
        switch (name) {
            case "shape": x.shape(at(0), at(1), at(2), at(3)); return DONE;
            case "predict": x.predict(at(0)); return DONE;
            case "coefficient": x.coefficient(at(0)); return DONE;
            case "push": x.push(at(0)); return DONE;
            case "make": return "" + x.make();
            case "octet": return "" + x.octet(at(0));
            case "way": return "" + x.way(at(0), at(1), at(2));
            case "feed": return "" + x.feed(numbers[0], at(1));
            case "again": return "" + x.again();
            case "read": return "" + x.read();
            case "fault": return "" + x.fault();
            case "place": return "" + x.place();
            case "sample": return "" + x.sample(at(0));
            case "count": return "" + x.count(at(0));
            default: throw new AssertionError(name);
        }
    }

    @Override
    public String toString() {
        StringBuilder s = new StringBuilder(name).append('(');
        for (int i = 0; i < numbers.length; i++) {
            s.append(i == 0 ? "" : ", ").append(numbers[i]);
        }
        return s.append(')').toString();
    }
}
