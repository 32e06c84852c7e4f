/** The calls that bring a new object to where a test begins; made again for each object that is looked at. */
interface State {
    void build(Counted x);

    default State then(State more) {
        return x -> {
            build(x);
            more.build(x);
        };
    }
}
